abbrev M_X8_loadUpper : g_M := (cX8_loadUpper, 3, RX8, (some (.object "TimedThreads$Outcome")), { frames := 1, cells := 0, slots := 0, locals := 22 }, 0, 0)
theorem dm_X8_loadUpper_0 : decode M_X8_loadUpper.1 0 = .ok (.iload_n 1, 1) := by decide +kernel
theorem dm_X8_loadUpper_1 : decode M_X8_loadUpper.1 1 = .ok (.invokestatic 113, 3) := by decide +kernel
theorem dm_X8_loadUpper_4 : decode M_X8_loadUpper.1 4 = .ok (.istore_n 2, 1) := by decide +kernel
theorem dm_X8_loadUpper_5 : decode M_X8_loadUpper.1 5 = .ok (.iload_n 2, 1) := by decide +kernel
theorem dm_X8_loadUpper_6 : decode M_X8_loadUpper.1 6 = .ok (.invokestatic 116, 3) := by decide +kernel
theorem dm_X8_loadUpper_9 : decode M_X8_loadUpper.1 9 = .ok (.ifCond .ne 7, 3) := by decide +kernel
theorem dm_X8_loadUpper_12 : decode M_X8_loadUpper.1 12 = .ok (.getstatic 48, 3) := by decide +kernel
theorem dm_X8_loadUpper_15 : decode M_X8_loadUpper.1 15 = .ok (.areturn, 1) := by decide +kernel
theorem dm_X8_loadUpper_16 : decode M_X8_loadUpper.1 16 = .ok (.aload_n 0, 1) := by decide +kernel
theorem dm_X8_loadUpper_17 : decode M_X8_loadUpper.1 17 = .ok (.iload_n 2, 1) := by decide +kernel
theorem dm_X8_loadUpper_18 : decode M_X8_loadUpper.1 18 = .ok (.iload_n 1, 1) := by decide +kernel
theorem dm_X8_loadUpper_19 : decode M_X8_loadUpper.1 19 = .ok (.invokestatic 119, 3) := by decide +kernel
theorem dm_X8_loadUpper_22 : decode M_X8_loadUpper.1 22 = .ok (.invokevirtual 122, 3) := by decide +kernel
theorem dm_X8_loadUpper_25 : decode M_X8_loadUpper.1 25 = .ok (.getstatic 54, 3) := by decide +kernel
theorem dm_X8_loadUpper_28 : decode M_X8_loadUpper.1 28 = .ok (.areturn, 1) := by decide +kernel
theorem gc_X8_loadUpper_113 : g_cs M_X8_loadUpper 113 M_X1_rd yX1_rd 1 := ⟨tw632, tw633, tw359, tw634, ⟨rfl, rfl, rfl, rfl⟩, gd_X1_rd, ⟨by decide, by decide⟩⟩
theorem gc_X8_loadUpper_116 : g_csn M_X8_loadUpper 116 M_X10_isRegister yX10_isRegister 1 := ⟨(List.mem_of_getElem? (i := 3) rfl), tw635, tw2, tw636, ⟨rfl, rfl, rfl, rfl⟩, gd_X10_isRegister, ⟨by decide, by decide⟩⟩
theorem gc_X8_loadUpper_119 : g_cs M_X8_loadUpper 119 M_X1_numberU yX1_numberU 1 := ⟨tw637, tw638, tw359, tw639, ⟨rfl, rfl, rfl, rfl⟩, gd_X1_numberU, ⟨by decide, by decide⟩⟩
theorem gc_X8_loadUpper_122 : g_cv M_X8_loadUpper 122 M_X8_setRegister yX8_setRegister 2 := ⟨tw640, tw641, tw642, tw32, tw643, ⟨rfl, rfl, rfl, rfl⟩, gd_X8_setRegister, ⟨by decide, by decide⟩⟩
def f_X8_loadUpper_c22 (z4_0 : (Nat → Int32)) : Nat × (Nat → Int32) := (1000, z4_0)
def f_X8_loadUpper_c19 (regs : Nat → Int32) (z1_0 : Int32) (z3_0 : Int32) : Nat × (Nat → Int32) := (f_X8_loadUpper_c22 (f_X8_setRegister z1_0 z3_0 regs))
def f_X8_loadUpper_c6 (word : Int32) (regs : Nat → Int32) (z1_0 : Int32) (z2_0 : Int32) : Nat × (Nat → Int32) := (if z2_0 = 0 then (1002, regs) else (f_X8_loadUpper_c19 regs z1_0 (f_X1_numberU word)))
def f_X8_loadUpper_c1 (word : Int32) (regs : Nat → Int32) (z1_0 : Int32) : Nat × (Nat → Int32) := (f_X8_loadUpper_c6 word regs z1_0 (f_X10_isRegister z1_0))
def f_X8_loadUpper (word : Int32) (regs : Nat → Int32) : Nat × (Nat → Int32) := (f_X8_loadUpper_c1 word regs (f_X1_rd word))
set_option maxRecDepth 20000 in
theorem k_X8_loadUpper {word : Int32} {tlow : Int32} {thigh : Int32} {tnum : Int32} {tstat : Int32} {taddr : Int32} {tready : Int32} {tnext : Int32} {tret : Int32} {regs : Nat → Int32} {tstore : Nat → Int32} {hcount : Int32} {haddr : Nat → Int32} {hcyc : Nat → Int32} {hret : Nat → Int32} {tims : Nat → Int32} {r_0 : Nat} {r_1 : (Nat → Int32)} (hres : (r_0, r_1) = f_X8_loadUpper word regs) : K M_X8_loadUpper yX8_loadUpper [.ref 0, .int word] (w_t tlow thigh tnum tstat taddr tready tnext tret regs tstore hcount haddr hcyc hret tims) (some (.ref r_0)) (w_t tlow thigh tnum tstat taddr tready tnext tret r_1 tstore hcount haddr hcyc hret tims) := by
  refine K.of (lv := [(0, .ref 0), (1, .int word)]) (by decide +kernel) rfl rfl rfl ?_
  rw [f_X8_loadUpper] at hres
  refine G.iload_n (pc := 0) dm_X8_loadUpper_0 rfl ?_
  obtain ⟨z1_0, hz1⟩ := g_ex1 (f_X1_rd word)
  refine G.callS (pc := 1) (rest := []) (st1 := [.int z1_0]) (ws1 := (w_t tlow thigh tnum tstat taddr tready tnext tret regs tstore hcount haddr hcyc hret tims)) [] dm_X8_loadUpper_1 gc_X8_loadUpper_113 (k_X1_rd (x := word) hz1) rfl rfl rfl rfl rfl rfl rfl rfl ?_
  replace hres : (r_0, r_1) = f_X8_loadUpper_c1 word regs z1_0 := hres.trans (by rw [← hz1])
  rw [f_X8_loadUpper_c1] at hres
  refine G.istore_n (pc := 4) (lv1 := [(2, .int z1_0), (0, .ref 0), (1, .int word)]) dm_X8_loadUpper_4 rfl rfl ?_
  refine G.iload_n (pc := 5) dm_X8_loadUpper_5 rfl ?_
  obtain ⟨z2_0, hz2⟩ := g_ex1 (f_X10_isRegister z1_0)
  refine G.callSN (pc := 6) (rest := []) (st1 := [.int z2_0]) (ws1 := (w_t tlow thigh tnum tstat taddr tready tnext tret regs tstore hcount haddr hcyc hret tims)) [] dm_X8_loadUpper_6 gc_X8_loadUpper_116 (k_X10_isRegister (k := z1_0) hz2) rfl rfl rfl rfl rfl rfl rfl rfl ?_
  have hrd := a_isReg hz2
  replace hres : (r_0, r_1) = f_X8_loadUpper_c6 word regs z1_0 z2_0 := hres.trans (by rw [← hz2])
  rw [f_X8_loadUpper_c6] at hres
  refine G.if_ne (pc := 9) (tgt := 16) dm_X8_loadUpper_9 (by decide) (fun c9 => ?_) (fun c9 => ?_)
  · rw [if_neg c9] at hres
    refine G.aload_n (pc := 16) dm_X8_loadUpper_16 rfl ?_
    refine G.iload_n (pc := 17) dm_X8_loadUpper_17 rfl ?_
    refine G.iload_n (pc := 18) dm_X8_loadUpper_18 rfl ?_
    obtain ⟨z3_0, hz3⟩ := g_ex1 (f_X1_numberU word)
    refine G.callS (pc := 19) (rest := [.int z1_0, .ref 0]) (st1 := [.int z3_0, .int z1_0, .ref 0]) (ws1 := (w_t tlow thigh tnum tstat taddr tready tnext tret regs tstore hcount haddr hcyc hret tims)) [] dm_X8_loadUpper_19 gc_X8_loadUpper_119 (k_X1_numberU (x := word) hz3) rfl rfl rfl rfl rfl rfl rfl rfl ?_
    replace hres : (r_0, r_1) = f_X8_loadUpper_c19 regs z1_0 z3_0 := hres.trans (by rw [← hz3])
    rw [f_X8_loadUpper_c19] at hres
    obtain ⟨z4_0, hz4⟩ := g_ex1 (f_X8_setRegister z1_0 z3_0 regs)
    refine G.callV0 (pc := 22) (rest := []) (st1 := []) dm_X8_loadUpper_22 gc_X8_loadUpper_122 (k_X8_setRegister (k := z1_0) (value := z3_0) (tlow := tlow) (thigh := thigh) (tnum := tnum) (tstat := tstat) (taddr := taddr) (tready := tready) (tnext := tnext) (tret := tret) (regs := regs) (tstore := tstore) (hcount := hcount) (haddr := haddr) (hcyc := hcyc) (hret := hret) (tims := tims) (hrd c9) hz4) rfl rfl rfl rfl rfl rfl rfl rfl ?_
    replace hres : (r_0, r_1) = f_X8_loadUpper_c22 z4_0 := hres.trans (by rw [← hz4])
    rw [f_X8_loadUpper_c22] at hres
    refine G.getstatic (pc := 25) dm_X8_loadUpper_25 (Or.inl ⟨0, by decide, rfl⟩) tw614 ?_
    cases hres
    exact G.areturn (pc := 28) dm_X8_loadUpper_28 rfl (Or.inl ⟨_, rfl⟩) rfl rfl
  · rw [if_pos c9] at hres
    refine G.getstatic (pc := 12) dm_X8_loadUpper_12 (Or.inl ⟨2, by decide, rfl⟩) tw613 ?_
    cases hres
    exact G.areturn (pc := 15) dm_X8_loadUpper_15 rfl (Or.inl ⟨_, rfl⟩) rfl rfl
theorem o_X8_loadUpper {word : Int32} {regs : Nat → Int32} {r_0 : Nat} {r_1 : (Nat → Int32)} (hres : (r_0, r_1) = f_X8_loadUpper word regs) : 1000 ≤ r_0 ∧ r_0 < 1003 := by
  rw [f_X8_loadUpper] at hres
  obtain ⟨z1_0, hz1⟩ := g_ex1 (f_X1_rd word)
  replace hres : (r_0, r_1) = f_X8_loadUpper_c1 word regs z1_0 := hres.trans (by rw [← hz1])
  rw [f_X8_loadUpper_c1] at hres
  obtain ⟨z2_0, hz2⟩ := g_ex1 (f_X10_isRegister z1_0)
  replace hres : (r_0, r_1) = f_X8_loadUpper_c6 word regs z1_0 z2_0 := hres.trans (by rw [← hz2])
  rw [f_X8_loadUpper_c6] at hres
  by_cases c9 : z2_0 = 0
  · rw [if_pos c9] at hres
    cases hres
    exact (by first | exact hoz | decide)
  · rw [if_neg c9] at hres
    obtain ⟨z3_0, hz3⟩ := g_ex1 (f_X1_numberU word)
    replace hres : (r_0, r_1) = f_X8_loadUpper_c19 regs z1_0 z3_0 := hres.trans (by rw [← hz3])
    rw [f_X8_loadUpper_c19] at hres
    obtain ⟨z4_0, hz4⟩ := g_ex1 (f_X8_setRegister z1_0 z3_0 regs)
    replace hres : (r_0, r_1) = f_X8_loadUpper_c22 z4_0 := hres.trans (by rw [← hz4])
    rw [f_X8_loadUpper_c22] at hres
    cases hres
    exact (by first | exact hoz | decide)
abbrev M_X8_jump : g_M := (cX8_jump, 3, RX8, (some (.object "TimedThreads$Outcome")), { frames := 1, cells := 0, slots := 0, locals := 22 }, 0, 0)
theorem dm_X8_jump_0 : decode M_X8_jump.1 0 = .ok (.iload_n 1, 1) := by decide +kernel
theorem dm_X8_jump_1 : decode M_X8_jump.1 1 = .ok (.invokestatic 113, 3) := by decide +kernel
theorem dm_X8_jump_4 : decode M_X8_jump.1 4 = .ok (.istore_n 2, 1) := by decide +kernel
theorem dm_X8_jump_5 : decode M_X8_jump.1 5 = .ok (.iload_n 2, 1) := by decide +kernel
theorem dm_X8_jump_6 : decode M_X8_jump.1 6 = .ok (.invokestatic 116, 3) := by decide +kernel
theorem dm_X8_jump_9 : decode M_X8_jump.1 9 = .ok (.ifCond .ne 7, 3) := by decide +kernel
theorem dm_X8_jump_12 : decode M_X8_jump.1 12 = .ok (.getstatic 48, 3) := by decide +kernel
theorem dm_X8_jump_15 : decode M_X8_jump.1 15 = .ok (.areturn, 1) := by decide +kernel
theorem dm_X8_jump_16 : decode M_X8_jump.1 16 = .ok (.aload_n 0, 1) := by decide +kernel
theorem dm_X8_jump_17 : decode M_X8_jump.1 17 = .ok (.iload_n 2, 1) := by decide +kernel
theorem dm_X8_jump_18 : decode M_X8_jump.1 18 = .ok (.aload_n 0, 1) := by decide +kernel
theorem dm_X8_jump_19 : decode M_X8_jump.1 19 = .ok (.getfield 64, 3) := by decide +kernel
theorem dm_X8_jump_22 : decode M_X8_jump.1 22 = .ok (.invokevirtual 122, 3) := by decide +kernel
theorem dm_X8_jump_25 : decode M_X8_jump.1 25 = .ok (.aload_n 0, 1) := by decide +kernel
theorem dm_X8_jump_26 : decode M_X8_jump.1 26 = .ok (.aload_n 0, 1) := by decide +kernel
theorem dm_X8_jump_27 : decode M_X8_jump.1 27 = .ok (.getfield 35, 3) := by decide +kernel
theorem dm_X8_jump_30 : decode M_X8_jump.1 30 = .ok (.iload_n 1, 1) := by decide +kernel
theorem dm_X8_jump_31 : decode M_X8_jump.1 31 = .ok (.invokestatic 126, 3) := by decide +kernel
theorem dm_X8_jump_34 : decode M_X8_jump.1 34 = .ok (.iadd, 1) := by decide +kernel
theorem dm_X8_jump_35 : decode M_X8_jump.1 35 = .ok (.putfield 64, 3) := by decide +kernel
theorem dm_X8_jump_38 : decode M_X8_jump.1 38 = .ok (.getstatic 54, 3) := by decide +kernel
theorem dm_X8_jump_41 : decode M_X8_jump.1 41 = .ok (.areturn, 1) := by decide +kernel
theorem gc_X8_jump_113 : g_cs M_X8_jump 113 M_X1_rd yX1_rd 1 := ⟨tw632, tw633, tw359, tw634, ⟨rfl, rfl, rfl, rfl⟩, gd_X1_rd, ⟨by decide, by decide⟩⟩
theorem gc_X8_jump_116 : g_csn M_X8_jump 116 M_X10_isRegister yX10_isRegister 1 := ⟨(List.mem_of_getElem? (i := 3) rfl), tw635, tw2, tw636, ⟨rfl, rfl, rfl, rfl⟩, gd_X10_isRegister, ⟨by decide, by decide⟩⟩
theorem gc_X8_jump_122 : g_cv M_X8_jump 122 M_X8_setRegister yX8_setRegister 2 := ⟨tw640, tw641, tw642, tw32, tw643, ⟨rfl, rfl, rfl, rfl⟩, gd_X8_setRegister, ⟨by decide, by decide⟩⟩
theorem gc_X8_jump_126 : g_cs M_X8_jump 126 M_X1_numberJ yX1_numberJ 1 := ⟨tw648, tw649, tw359, tw650, ⟨rfl, rfl, rfl, rfl⟩, gd_X1_numberJ, ⟨by decide, by decide⟩⟩
def f_X8_jump_c31 (taddr : Int32) (z3_0 : (Nat → Int32)) (z4_0 : Int32) : Nat × Int32 × (Nat → Int32) := (1000, (taddr + z4_0), z3_0)
def f_X8_jump_c22 (word : Int32) (taddr : Int32) (z3_0 : (Nat → Int32)) : Nat × Int32 × (Nat → Int32) := (f_X8_jump_c31 taddr z3_0 (f_X1_numberJ word))
def f_X8_jump_c6 (word : Int32) (taddr : Int32) (tnext : Int32) (regs : Nat → Int32) (z1_0 : Int32) (z2_0 : Int32) : Nat × Int32 × (Nat → Int32) := (if z2_0 = 0 then (1002, tnext, regs) else (f_X8_jump_c22 word taddr (f_X8_setRegister z1_0 tnext regs)))
def f_X8_jump_c1 (word : Int32) (taddr : Int32) (tnext : Int32) (regs : Nat → Int32) (z1_0 : Int32) : Nat × Int32 × (Nat → Int32) := (f_X8_jump_c6 word taddr tnext regs z1_0 (f_X10_isRegister z1_0))
def f_X8_jump (word : Int32) (taddr : Int32) (tnext : Int32) (regs : Nat → Int32) : Nat × Int32 × (Nat → Int32) := (f_X8_jump_c1 word taddr tnext regs (f_X1_rd word))
set_option maxRecDepth 20000 in
theorem k_X8_jump {word : Int32} {tlow : Int32} {thigh : Int32} {tnum : Int32} {tstat : Int32} {taddr : Int32} {tready : Int32} {tnext : Int32} {tret : Int32} {regs : Nat → Int32} {tstore : Nat → Int32} {hcount : Int32} {haddr : Nat → Int32} {hcyc : Nat → Int32} {hret : Nat → Int32} {tims : Nat → Int32} {r_0 : Nat} {r_1 : Int32} {r_2 : (Nat → Int32)} (hres : (r_0, r_1, r_2) = f_X8_jump word taddr tnext regs) : K M_X8_jump yX8_jump [.ref 0, .int word] (w_t tlow thigh tnum tstat taddr tready tnext tret regs tstore hcount haddr hcyc hret tims) (some (.ref r_0)) (w_t tlow thigh tnum tstat taddr tready r_1 tret r_2 tstore hcount haddr hcyc hret tims) := by
  refine K.of (lv := [(0, .ref 0), (1, .int word)]) (by decide +kernel) rfl rfl rfl ?_
  rw [f_X8_jump] at hres
  refine G.iload_n (pc := 0) dm_X8_jump_0 rfl ?_
  obtain ⟨z1_0, hz1⟩ := g_ex1 (f_X1_rd word)
  refine G.callS (pc := 1) (rest := []) (st1 := [.int z1_0]) (ws1 := (w_t tlow thigh tnum tstat taddr tready tnext tret regs tstore hcount haddr hcyc hret tims)) [] dm_X8_jump_1 gc_X8_jump_113 (k_X1_rd (x := word) hz1) rfl rfl rfl rfl rfl rfl rfl rfl ?_
  replace hres : (r_0, r_1, r_2) = f_X8_jump_c1 word taddr tnext regs z1_0 := hres.trans (by rw [← hz1])
  rw [f_X8_jump_c1] at hres
  refine G.istore_n (pc := 4) (lv1 := [(2, .int z1_0), (0, .ref 0), (1, .int word)]) dm_X8_jump_4 rfl rfl ?_
  refine G.iload_n (pc := 5) dm_X8_jump_5 rfl ?_
  obtain ⟨z2_0, hz2⟩ := g_ex1 (f_X10_isRegister z1_0)
  refine G.callSN (pc := 6) (rest := []) (st1 := [.int z2_0]) (ws1 := (w_t tlow thigh tnum tstat taddr tready tnext tret regs tstore hcount haddr hcyc hret tims)) [] dm_X8_jump_6 gc_X8_jump_116 (k_X10_isRegister (k := z1_0) hz2) rfl rfl rfl rfl rfl rfl rfl rfl ?_
  have hrd := a_isReg hz2
  replace hres : (r_0, r_1, r_2) = f_X8_jump_c6 word taddr tnext regs z1_0 z2_0 := hres.trans (by rw [← hz2])
  rw [f_X8_jump_c6] at hres
  refine G.if_ne (pc := 9) (tgt := 16) dm_X8_jump_9 (by decide) (fun c9 => ?_) (fun c9 => ?_)
  · rw [if_neg c9] at hres
    refine G.aload_n (pc := 16) dm_X8_jump_16 rfl ?_
    refine G.iload_n (pc := 17) dm_X8_jump_17 rfl ?_
    refine G.aload_n (pc := 18) dm_X8_jump_18 rfl ?_
    refine G.getfield (pc := 19) dm_X8_jump_19 gf_X8_64 rfl rfl ?_
    obtain ⟨z3_0, hz3⟩ := g_ex1 (f_X8_setRegister z1_0 tnext regs)
    refine G.callV0 (pc := 22) (rest := []) (st1 := []) dm_X8_jump_22 gc_X8_jump_122 (k_X8_setRegister (k := z1_0) (value := tnext) (tlow := tlow) (thigh := thigh) (tnum := tnum) (tstat := tstat) (taddr := taddr) (tready := tready) (tnext := tnext) (tret := tret) (regs := regs) (tstore := tstore) (hcount := hcount) (haddr := haddr) (hcyc := hcyc) (hret := hret) (tims := tims) (hrd c9) hz3) rfl rfl rfl rfl rfl rfl rfl rfl ?_
    replace hres : (r_0, r_1, r_2) = f_X8_jump_c22 word taddr z3_0 := hres.trans (by rw [← hz3])
    rw [f_X8_jump_c22] at hres
    refine G.aload_n (pc := 25) dm_X8_jump_25 rfl ?_
    refine G.aload_n (pc := 26) dm_X8_jump_26 rfl ?_
    refine G.getfield (pc := 27) dm_X8_jump_27 gf_X8_35 rfl rfl ?_
    refine G.iload_n (pc := 30) dm_X8_jump_30 rfl ?_
    obtain ⟨z4_0, hz4⟩ := g_ex1 (f_X1_numberJ word)
    refine G.callS (pc := 31) (rest := [.int taddr, .ref 0]) (st1 := [.int z4_0, .int taddr, .ref 0]) (ws1 := (w_t tlow thigh tnum tstat taddr tready tnext tret z3_0 tstore hcount haddr hcyc hret tims)) [] dm_X8_jump_31 gc_X8_jump_126 (k_X1_numberJ (x := word) hz4) rfl rfl rfl rfl rfl rfl rfl rfl ?_
    replace hres : (r_0, r_1, r_2) = f_X8_jump_c31 taddr z3_0 z4_0 := hres.trans (by rw [← hz4])
    rw [f_X8_jump_c31] at hres
    refine G.iadd (pc := 34) dm_X8_jump_34 ?_
    refine G.putfield (pc := 35) (ws1 := (w_t tlow thigh tnum tstat taddr tready (taddr + z4_0) tret z3_0 tstore hcount haddr hcyc hret tims)) dm_X8_jump_35 gw_X8_64 rfl (g_fit_i _) rfl rfl ?_
    refine G.getstatic (pc := 38) dm_X8_jump_38 (Or.inl ⟨0, by decide, rfl⟩) tw614 ?_
    cases hres
    exact G.areturn (pc := 41) dm_X8_jump_41 rfl (Or.inl ⟨_, rfl⟩) rfl rfl
  · rw [if_pos c9] at hres
    refine G.getstatic (pc := 12) dm_X8_jump_12 (Or.inl ⟨2, by decide, rfl⟩) tw613 ?_
    cases hres
    exact G.areturn (pc := 15) dm_X8_jump_15 rfl (Or.inl ⟨_, rfl⟩) rfl rfl
theorem o_X8_jump {word : Int32} {taddr : Int32} {tnext : Int32} {regs : Nat → Int32} {r_0 : Nat} {r_1 : Int32} {r_2 : (Nat → Int32)} (hres : (r_0, r_1, r_2) = f_X8_jump word taddr tnext regs) : 1000 ≤ r_0 ∧ r_0 < 1003 := by
  rw [f_X8_jump] at hres
  obtain ⟨z1_0, hz1⟩ := g_ex1 (f_X1_rd word)
  replace hres : (r_0, r_1, r_2) = f_X8_jump_c1 word taddr tnext regs z1_0 := hres.trans (by rw [← hz1])
  rw [f_X8_jump_c1] at hres
  obtain ⟨z2_0, hz2⟩ := g_ex1 (f_X10_isRegister z1_0)
  replace hres : (r_0, r_1, r_2) = f_X8_jump_c6 word taddr tnext regs z1_0 z2_0 := hres.trans (by rw [← hz2])
  rw [f_X8_jump_c6] at hres
  by_cases c9 : z2_0 = 0
  · rw [if_pos c9] at hres
    cases hres
    exact (by first | exact hoz | decide)
  · rw [if_neg c9] at hres
    obtain ⟨z3_0, hz3⟩ := g_ex1 (f_X8_setRegister z1_0 tnext regs)
    replace hres : (r_0, r_1, r_2) = f_X8_jump_c22 word taddr z3_0 := hres.trans (by rw [← hz3])
    rw [f_X8_jump_c22] at hres
    obtain ⟨z4_0, hz4⟩ := g_ex1 (f_X1_numberJ word)
    replace hres : (r_0, r_1, r_2) = f_X8_jump_c31 taddr z3_0 z4_0 := hres.trans (by rw [← hz4])
    rw [f_X8_jump_c31] at hres
    cases hres
    exact (by first | exact hoz | decide)
abbrev M_X8_jumpToRegister : g_M := (cX8_jumpToRegister, 5, RX8, (some (.object "TimedThreads$Outcome")), { frames := 1, cells := 0, slots := 0, locals := 22 }, 0, 0)
theorem dm_X8_jumpToRegister_0 : decode M_X8_jumpToRegister.1 0 = .ok (.iload_n 1, 1) := by decide +kernel
theorem dm_X8_jumpToRegister_1 : decode M_X8_jumpToRegister.1 1 = .ok (.invokestatic 113, 3) := by decide +kernel
theorem dm_X8_jumpToRegister_4 : decode M_X8_jumpToRegister.1 4 = .ok (.istore_n 2, 1) := by decide +kernel
theorem dm_X8_jumpToRegister_5 : decode M_X8_jumpToRegister.1 5 = .ok (.iload_n 1, 1) := by decide +kernel
theorem dm_X8_jumpToRegister_6 : decode M_X8_jumpToRegister.1 6 = .ok (.invokestatic 129, 3) := by decide +kernel
theorem dm_X8_jumpToRegister_9 : decode M_X8_jumpToRegister.1 9 = .ok (.istore_n 3, 1) := by decide +kernel
theorem dm_X8_jumpToRegister_10 : decode M_X8_jumpToRegister.1 10 = .ok (.iload_n 1, 1) := by decide +kernel
theorem dm_X8_jumpToRegister_11 : decode M_X8_jumpToRegister.1 11 = .ok (.invokestatic 132, 3) := by decide +kernel
theorem dm_X8_jumpToRegister_14 : decode M_X8_jumpToRegister.1 14 = .ok (.ifCond .ne 17, 3) := by decide +kernel
theorem dm_X8_jumpToRegister_17 : decode M_X8_jumpToRegister.1 17 = .ok (.iload_n 2, 1) := by decide +kernel
theorem dm_X8_jumpToRegister_18 : decode M_X8_jumpToRegister.1 18 = .ok (.invokestatic 116, 3) := by decide +kernel
theorem dm_X8_jumpToRegister_21 : decode M_X8_jumpToRegister.1 21 = .ok (.ifCond .eq 10, 3) := by decide +kernel
theorem dm_X8_jumpToRegister_24 : decode M_X8_jumpToRegister.1 24 = .ok (.iload_n 3, 1) := by decide +kernel
theorem dm_X8_jumpToRegister_25 : decode M_X8_jumpToRegister.1 25 = .ok (.invokestatic 116, 3) := by decide +kernel
theorem dm_X8_jumpToRegister_28 : decode M_X8_jumpToRegister.1 28 = .ok (.ifCond .ne 7, 3) := by decide +kernel
theorem dm_X8_jumpToRegister_31 : decode M_X8_jumpToRegister.1 31 = .ok (.getstatic 48, 3) := by decide +kernel
theorem dm_X8_jumpToRegister_34 : decode M_X8_jumpToRegister.1 34 = .ok (.areturn, 1) := by decide +kernel
theorem dm_X8_jumpToRegister_35 : decode M_X8_jumpToRegister.1 35 = .ok (.aload_n 0, 1) := by decide +kernel
theorem dm_X8_jumpToRegister_36 : decode M_X8_jumpToRegister.1 36 = .ok (.getfield 9, 3) := by decide +kernel
theorem dm_X8_jumpToRegister_39 : decode M_X8_jumpToRegister.1 39 = .ok (.iload_n 3, 1) := by decide +kernel
theorem dm_X8_jumpToRegister_40 : decode M_X8_jumpToRegister.1 40 = .ok (.iaload, 1) := by decide +kernel
theorem dm_X8_jumpToRegister_41 : decode M_X8_jumpToRegister.1 41 = .ok (.iload_n 1, 1) := by decide +kernel
theorem dm_X8_jumpToRegister_42 : decode M_X8_jumpToRegister.1 42 = .ok (.invokestatic 135, 3) := by decide +kernel
theorem dm_X8_jumpToRegister_45 : decode M_X8_jumpToRegister.1 45 = .ok (.iadd, 1) := by decide +kernel
theorem dm_X8_jumpToRegister_46 : decode M_X8_jumpToRegister.1 46 = .ok (.bipush (-2), 2) := by decide +kernel
theorem dm_X8_jumpToRegister_48 : decode M_X8_jumpToRegister.1 48 = .ok (.iand, 1) := by decide +kernel
theorem dm_X8_jumpToRegister_49 : decode M_X8_jumpToRegister.1 49 = .ok (.istore 4, 2) := by decide +kernel
theorem dm_X8_jumpToRegister_51 : decode M_X8_jumpToRegister.1 51 = .ok (.aload_n 0, 1) := by decide +kernel
theorem dm_X8_jumpToRegister_52 : decode M_X8_jumpToRegister.1 52 = .ok (.iload_n 2, 1) := by decide +kernel
theorem dm_X8_jumpToRegister_53 : decode M_X8_jumpToRegister.1 53 = .ok (.aload_n 0, 1) := by decide +kernel
theorem dm_X8_jumpToRegister_54 : decode M_X8_jumpToRegister.1 54 = .ok (.getfield 64, 3) := by decide +kernel
theorem dm_X8_jumpToRegister_57 : decode M_X8_jumpToRegister.1 57 = .ok (.invokevirtual 122, 3) := by decide +kernel
theorem dm_X8_jumpToRegister_60 : decode M_X8_jumpToRegister.1 60 = .ok (.aload_n 0, 1) := by decide +kernel
theorem dm_X8_jumpToRegister_61 : decode M_X8_jumpToRegister.1 61 = .ok (.iload 4, 2) := by decide +kernel
theorem dm_X8_jumpToRegister_63 : decode M_X8_jumpToRegister.1 63 = .ok (.putfield 64, 3) := by decide +kernel
theorem dm_X8_jumpToRegister_66 : decode M_X8_jumpToRegister.1 66 = .ok (.getstatic 54, 3) := by decide +kernel
theorem dm_X8_jumpToRegister_69 : decode M_X8_jumpToRegister.1 69 = .ok (.areturn, 1) := by decide +kernel
theorem gc_X8_jumpToRegister_113 : g_cs M_X8_jumpToRegister 113 M_X1_rd yX1_rd 1 := ⟨tw632, tw633, tw359, tw634, ⟨rfl, rfl, rfl, rfl⟩, gd_X1_rd, ⟨by decide, by decide⟩⟩
theorem gc_X8_jumpToRegister_129 : g_cs M_X8_jumpToRegister 129 M_X1_rs yX1_rs 1 := ⟨tw655, tw656, tw359, tw657, ⟨rfl, rfl, rfl, rfl⟩, gd_X1_rs, ⟨by decide, by decide⟩⟩
theorem gc_X8_jumpToRegister_132 : g_cs M_X8_jumpToRegister 132 M_X1_f yX1_f 1 := ⟨tw658, tw659, tw359, tw660, ⟨rfl, rfl, rfl, rfl⟩, gd_X1_f, ⟨by decide, by decide⟩⟩
theorem gc_X8_jumpToRegister_116 : g_csn M_X8_jumpToRegister 116 M_X10_isRegister yX10_isRegister 1 := ⟨(List.mem_of_getElem? (i := 3) rfl), tw635, tw2, tw636, ⟨rfl, rfl, rfl, rfl⟩, gd_X10_isRegister, ⟨by decide, by decide⟩⟩
theorem gc_X8_jumpToRegister_135 : g_cs M_X8_jumpToRegister 135 M_X1_numberI yX1_numberI 1 := ⟨tw661, tw662, tw359, tw663, ⟨rfl, rfl, rfl, rfl⟩, gd_X1_numberI, ⟨by decide, by decide⟩⟩
theorem gc_X8_jumpToRegister_122 : g_cv M_X8_jumpToRegister 122 M_X8_setRegister yX8_setRegister 2 := ⟨tw640, tw641, tw642, tw32, tw643, ⟨rfl, rfl, rfl, rfl⟩, gd_X8_setRegister, ⟨by decide, by decide⟩⟩
def f_X8_jumpToRegister_c57 (regs : Nat → Int32) (z2_0 : Int32) (z6_0 : Int32) (z7_0 : (Nat → Int32)) : Nat × Int32 × (Nat → Int32) := (1000, (((regs (Int32.toNatClampNeg z2_0)) + z6_0) &&& (-2 : Int32)), z7_0)
def f_X8_jumpToRegister_c42 (tnext : Int32) (regs : Nat → Int32) (z1_0 : Int32) (z2_0 : Int32) (z6_0 : Int32) : Nat × Int32 × (Nat → Int32) := (f_X8_jumpToRegister_c57 regs z2_0 z6_0 (f_X8_setRegister z1_0 tnext regs))
def f_X8_jumpToRegister_c25 (word : Int32) (tnext : Int32) (regs : Nat → Int32) (z1_0 : Int32) (z2_0 : Int32) (z5_0 : Int32) : Nat × Int32 × (Nat → Int32) := (if z5_0 = 0 then (1002, tnext, regs) else (f_X8_jumpToRegister_c42 tnext regs z1_0 z2_0 (f_X1_numberI word)))
def f_X8_jumpToRegister_c18 (word : Int32) (tnext : Int32) (regs : Nat → Int32) (z1_0 : Int32) (z2_0 : Int32) (z4_0 : Int32) : Nat × Int32 × (Nat → Int32) := (if z4_0 = 0 then (1002, tnext, regs) else (f_X8_jumpToRegister_c25 word tnext regs z1_0 z2_0 (f_X10_isRegister z2_0)))
def f_X8_jumpToRegister_c11 (word : Int32) (tnext : Int32) (regs : Nat → Int32) (z1_0 : Int32) (z2_0 : Int32) (z3_0 : Int32) : Nat × Int32 × (Nat → Int32) := (if z3_0 = 0 then (f_X8_jumpToRegister_c18 word tnext regs z1_0 z2_0 (f_X10_isRegister z1_0)) else (1002, tnext, regs))
def f_X8_jumpToRegister_c6 (word : Int32) (tnext : Int32) (regs : Nat → Int32) (z1_0 : Int32) (z2_0 : Int32) : Nat × Int32 × (Nat → Int32) := (f_X8_jumpToRegister_c11 word tnext regs z1_0 z2_0 (f_X1_f word))
def f_X8_jumpToRegister_c1 (word : Int32) (tnext : Int32) (regs : Nat → Int32) (z1_0 : Int32) : Nat × Int32 × (Nat → Int32) := (f_X8_jumpToRegister_c6 word tnext regs z1_0 (f_X1_rs word))
def f_X8_jumpToRegister (word : Int32) (tnext : Int32) (regs : Nat → Int32) : Nat × Int32 × (Nat → Int32) := (f_X8_jumpToRegister_c1 word tnext regs (f_X1_rd word))
set_option maxRecDepth 20000 in
theorem k_X8_jumpToRegister {word : Int32} {tlow : Int32} {thigh : Int32} {tnum : Int32} {tstat : Int32} {taddr : Int32} {tready : Int32} {tnext : Int32} {tret : Int32} {regs : Nat → Int32} {tstore : Nat → Int32} {hcount : Int32} {haddr : Nat → Int32} {hcyc : Nat → Int32} {hret : Nat → Int32} {tims : Nat → Int32} {r_0 : Nat} {r_1 : Int32} {r_2 : (Nat → Int32)} (hres : (r_0, r_1, r_2) = f_X8_jumpToRegister word tnext regs) : K M_X8_jumpToRegister yX8_jumpToRegister [.ref 0, .int word] (w_t tlow thigh tnum tstat taddr tready tnext tret regs tstore hcount haddr hcyc hret tims) (some (.ref r_0)) (w_t tlow thigh tnum tstat taddr tready r_1 tret r_2 tstore hcount haddr hcyc hret tims) := by
  refine K.of (lv := [(0, .ref 0), (1, .int word)]) (by decide +kernel) rfl rfl rfl ?_
  rw [f_X8_jumpToRegister] at hres
  refine G.iload_n (pc := 0) dm_X8_jumpToRegister_0 rfl ?_
  obtain ⟨z1_0, hz1⟩ := g_ex1 (f_X1_rd word)
  refine G.callS (pc := 1) (rest := []) (st1 := [.int z1_0]) (ws1 := (w_t tlow thigh tnum tstat taddr tready tnext tret regs tstore hcount haddr hcyc hret tims)) [] dm_X8_jumpToRegister_1 gc_X8_jumpToRegister_113 (k_X1_rd (x := word) hz1) rfl rfl rfl rfl rfl rfl rfl rfl ?_
  replace hres : (r_0, r_1, r_2) = f_X8_jumpToRegister_c1 word tnext regs z1_0 := hres.trans (by rw [← hz1])
  rw [f_X8_jumpToRegister_c1] at hres
  refine G.istore_n (pc := 4) (lv1 := [(2, .int z1_0), (0, .ref 0), (1, .int word)]) dm_X8_jumpToRegister_4 rfl rfl ?_
  refine G.iload_n (pc := 5) dm_X8_jumpToRegister_5 rfl ?_
  obtain ⟨z2_0, hz2⟩ := g_ex1 (f_X1_rs word)
  refine G.callS (pc := 6) (rest := []) (st1 := [.int z2_0]) (ws1 := (w_t tlow thigh tnum tstat taddr tready tnext tret regs tstore hcount haddr hcyc hret tims)) [] dm_X8_jumpToRegister_6 gc_X8_jumpToRegister_129 (k_X1_rs (x := word) hz2) rfl rfl rfl rfl rfl rfl rfl rfl ?_
  replace hres : (r_0, r_1, r_2) = f_X8_jumpToRegister_c6 word tnext regs z1_0 z2_0 := hres.trans (by rw [← hz2])
  rw [f_X8_jumpToRegister_c6] at hres
  refine G.istore_n (pc := 9) (lv1 := [(3, .int z2_0), (2, .int z1_0), (0, .ref 0), (1, .int word)]) dm_X8_jumpToRegister_9 rfl rfl ?_
  refine G.iload_n (pc := 10) dm_X8_jumpToRegister_10 rfl ?_
  obtain ⟨z3_0, hz3⟩ := g_ex1 (f_X1_f word)
  refine G.callS (pc := 11) (rest := []) (st1 := [.int z3_0]) (ws1 := (w_t tlow thigh tnum tstat taddr tready tnext tret regs tstore hcount haddr hcyc hret tims)) [] dm_X8_jumpToRegister_11 gc_X8_jumpToRegister_132 (k_X1_f (x := word) hz3) rfl rfl rfl rfl rfl rfl rfl rfl ?_
  replace hres : (r_0, r_1, r_2) = f_X8_jumpToRegister_c11 word tnext regs z1_0 z2_0 z3_0 := hres.trans (by rw [← hz3])
  rw [f_X8_jumpToRegister_c11] at hres
  refine G.if_ne (pc := 14) (tgt := 31) dm_X8_jumpToRegister_14 (by decide) (fun c14 => ?_) (fun c14 => ?_)
  · rw [if_neg c14] at hres
    refine G.getstatic (pc := 31) dm_X8_jumpToRegister_31 (Or.inl ⟨2, by decide, rfl⟩) tw613 ?_
    cases hres
    exact G.areturn (pc := 34) dm_X8_jumpToRegister_34 rfl (Or.inl ⟨_, rfl⟩) rfl rfl
  · rw [if_pos c14] at hres
    refine G.iload_n (pc := 17) dm_X8_jumpToRegister_17 rfl ?_
    obtain ⟨z4_0, hz4⟩ := g_ex1 (f_X10_isRegister z1_0)
    refine G.callSN (pc := 18) (rest := []) (st1 := [.int z4_0]) (ws1 := (w_t tlow thigh tnum tstat taddr tready tnext tret regs tstore hcount haddr hcyc hret tims)) [] dm_X8_jumpToRegister_18 gc_X8_jumpToRegister_116 (k_X10_isRegister (k := z1_0) hz4) rfl rfl rfl rfl rfl rfl rfl rfl ?_
    have hrd := a_isReg hz4
    replace hres : (r_0, r_1, r_2) = f_X8_jumpToRegister_c18 word tnext regs z1_0 z2_0 z4_0 := hres.trans (by rw [← hz4])
    rw [f_X8_jumpToRegister_c18] at hres
    refine G.if_eq (pc := 21) (tgt := 31) dm_X8_jumpToRegister_21 (by decide) (fun c21 => ?_) (fun c21 => ?_)
    · rw [if_pos c21] at hres
      refine G.getstatic (pc := 31) dm_X8_jumpToRegister_31 (Or.inl ⟨2, by decide, rfl⟩) tw613 ?_
      cases hres
      exact G.areturn (pc := 34) dm_X8_jumpToRegister_34 rfl (Or.inl ⟨_, rfl⟩) rfl rfl
    · rw [if_neg c21] at hres
      refine G.iload_n (pc := 24) dm_X8_jumpToRegister_24 rfl ?_
      obtain ⟨z5_0, hz5⟩ := g_ex1 (f_X10_isRegister z2_0)
      refine G.callSN (pc := 25) (rest := []) (st1 := [.int z5_0]) (ws1 := (w_t tlow thigh tnum tstat taddr tready tnext tret regs tstore hcount haddr hcyc hret tims)) [] dm_X8_jumpToRegister_25 gc_X8_jumpToRegister_116 (k_X10_isRegister (k := z2_0) hz5) rfl rfl rfl rfl rfl rfl rfl rfl ?_
      have hrs := a_isReg hz5
      replace hres : (r_0, r_1, r_2) = f_X8_jumpToRegister_c25 word tnext regs z1_0 z2_0 z5_0 := hres.trans (by rw [← hz5])
      rw [f_X8_jumpToRegister_c25] at hres
      refine G.if_ne (pc := 28) (tgt := 35) dm_X8_jumpToRegister_28 (by decide) (fun c28 => ?_) (fun c28 => ?_)
      · rw [if_neg c28] at hres
        refine G.aload_n (pc := 35) dm_X8_jumpToRegister_35 rfl ?_
        refine G.getfield (pc := 36) dm_X8_jumpToRegister_36 gf_X8_9 rfl rfl ?_
        refine G.iload_n (pc := 39) dm_X8_jumpToRegister_39 rfl ?_
        refine G.iaload (pc := 40) dm_X8_jumpToRegister_40 rfl (q_r16 (hrs c28)) ?_
        refine G.iload_n (pc := 41) dm_X8_jumpToRegister_41 rfl ?_
        obtain ⟨z6_0, hz6⟩ := g_ex1 (f_X1_numberI word)
        refine G.callS (pc := 42) (rest := [.int (regs (Int32.toNatClampNeg z2_0))]) (st1 := [.int z6_0, .int (regs (Int32.toNatClampNeg z2_0))]) (ws1 := (w_t tlow thigh tnum tstat taddr tready tnext tret regs tstore hcount haddr hcyc hret tims)) [] dm_X8_jumpToRegister_42 gc_X8_jumpToRegister_135 (k_X1_numberI (x := word) hz6) rfl rfl rfl rfl rfl rfl rfl rfl ?_
        replace hres : (r_0, r_1, r_2) = f_X8_jumpToRegister_c42 tnext regs z1_0 z2_0 z6_0 := hres.trans (by rw [← hz6])
        rw [f_X8_jumpToRegister_c42] at hres
        refine G.iadd (pc := 45) dm_X8_jumpToRegister_45 ?_
        refine G.bipush (pc := 46) (v := (-2 : Int32)) dm_X8_jumpToRegister_46 qb_m2 ?_
        refine G.iand (pc := 48) dm_X8_jumpToRegister_48 ?_
        refine G.istore (pc := 49) (lv1 := [(4, .int (((regs (Int32.toNatClampNeg z2_0)) + z6_0) &&& (-2 : Int32))), (3, .int z2_0), (2, .int z1_0), (0, .ref 0), (1, .int word)]) dm_X8_jumpToRegister_49 rfl rfl ?_
        refine G.aload_n (pc := 51) dm_X8_jumpToRegister_51 rfl ?_
        refine G.iload_n (pc := 52) dm_X8_jumpToRegister_52 rfl ?_
        refine G.aload_n (pc := 53) dm_X8_jumpToRegister_53 rfl ?_
        refine G.getfield (pc := 54) dm_X8_jumpToRegister_54 gf_X8_64 rfl rfl ?_
        obtain ⟨z7_0, hz7⟩ := g_ex1 (f_X8_setRegister z1_0 tnext regs)
        refine G.callV0 (pc := 57) (rest := []) (st1 := []) dm_X8_jumpToRegister_57 gc_X8_jumpToRegister_122 (k_X8_setRegister (k := z1_0) (value := tnext) (tlow := tlow) (thigh := thigh) (tnum := tnum) (tstat := tstat) (taddr := taddr) (tready := tready) (tnext := tnext) (tret := tret) (regs := regs) (tstore := tstore) (hcount := hcount) (haddr := haddr) (hcyc := hcyc) (hret := hret) (tims := tims) (hrd c21) hz7) rfl rfl rfl rfl rfl rfl rfl rfl ?_
        replace hres : (r_0, r_1, r_2) = f_X8_jumpToRegister_c57 regs z2_0 z6_0 z7_0 := hres.trans (by rw [← hz7])
        rw [f_X8_jumpToRegister_c57] at hres
        refine G.aload_n (pc := 60) dm_X8_jumpToRegister_60 rfl ?_
        refine G.iload (pc := 61) dm_X8_jumpToRegister_61 rfl ?_
        refine G.putfield (pc := 63) (ws1 := (w_t tlow thigh tnum tstat taddr tready (((regs (Int32.toNatClampNeg z2_0)) + z6_0) &&& (-2 : Int32)) tret z7_0 tstore hcount haddr hcyc hret tims)) dm_X8_jumpToRegister_63 gw_X8_64 rfl (g_fit_i _) rfl rfl ?_
        refine G.getstatic (pc := 66) dm_X8_jumpToRegister_66 (Or.inl ⟨0, by decide, rfl⟩) tw614 ?_
        cases hres
        exact G.areturn (pc := 69) dm_X8_jumpToRegister_69 rfl (Or.inl ⟨_, rfl⟩) rfl rfl
      · rw [if_pos c28] at hres
        refine G.getstatic (pc := 31) dm_X8_jumpToRegister_31 (Or.inl ⟨2, by decide, rfl⟩) tw613 ?_
        cases hres
        exact G.areturn (pc := 34) dm_X8_jumpToRegister_34 rfl (Or.inl ⟨_, rfl⟩) rfl rfl
theorem o_X8_jumpToRegister {word : Int32} {tnext : Int32} {regs : Nat → Int32} {r_0 : Nat} {r_1 : Int32} {r_2 : (Nat → Int32)} (hres : (r_0, r_1, r_2) = f_X8_jumpToRegister word tnext regs) : 1000 ≤ r_0 ∧ r_0 < 1003 := by
  rw [f_X8_jumpToRegister] at hres
  obtain ⟨z1_0, hz1⟩ := g_ex1 (f_X1_rd word)
  replace hres : (r_0, r_1, r_2) = f_X8_jumpToRegister_c1 word tnext regs z1_0 := hres.trans (by rw [← hz1])
  rw [f_X8_jumpToRegister_c1] at hres
  obtain ⟨z2_0, hz2⟩ := g_ex1 (f_X1_rs word)
  replace hres : (r_0, r_1, r_2) = f_X8_jumpToRegister_c6 word tnext regs z1_0 z2_0 := hres.trans (by rw [← hz2])
  rw [f_X8_jumpToRegister_c6] at hres
  obtain ⟨z3_0, hz3⟩ := g_ex1 (f_X1_f word)
  replace hres : (r_0, r_1, r_2) = f_X8_jumpToRegister_c11 word tnext regs z1_0 z2_0 z3_0 := hres.trans (by rw [← hz3])
  rw [f_X8_jumpToRegister_c11] at hres
  by_cases c14 : z3_0 = 0
  · rw [if_pos c14] at hres
    obtain ⟨z4_0, hz4⟩ := g_ex1 (f_X10_isRegister z1_0)
    replace hres : (r_0, r_1, r_2) = f_X8_jumpToRegister_c18 word tnext regs z1_0 z2_0 z4_0 := hres.trans (by rw [← hz4])
    rw [f_X8_jumpToRegister_c18] at hres
    by_cases c21 : z4_0 = 0
    · rw [if_pos c21] at hres
      cases hres
      exact (by first | exact hoz | decide)
    · rw [if_neg c21] at hres
      obtain ⟨z5_0, hz5⟩ := g_ex1 (f_X10_isRegister z2_0)
      replace hres : (r_0, r_1, r_2) = f_X8_jumpToRegister_c25 word tnext regs z1_0 z2_0 z5_0 := hres.trans (by rw [← hz5])
      rw [f_X8_jumpToRegister_c25] at hres
      by_cases c28 : z5_0 = 0
      · rw [if_pos c28] at hres
        cases hres
        exact (by first | exact hoz | decide)
      · rw [if_neg c28] at hres
        obtain ⟨z6_0, hz6⟩ := g_ex1 (f_X1_numberI word)
        replace hres : (r_0, r_1, r_2) = f_X8_jumpToRegister_c42 tnext regs z1_0 z2_0 z6_0 := hres.trans (by rw [← hz6])
        rw [f_X8_jumpToRegister_c42] at hres
        obtain ⟨z7_0, hz7⟩ := g_ex1 (f_X8_setRegister z1_0 tnext regs)
        replace hres : (r_0, r_1, r_2) = f_X8_jumpToRegister_c57 regs z2_0 z6_0 z7_0 := hres.trans (by rw [← hz7])
        rw [f_X8_jumpToRegister_c57] at hres
        cases hres
        exact (by first | exact hoz | decide)
  · rw [if_neg c14] at hres
    cases hres
    exact (by first | exact hoz | decide)
abbrev M_X8_branch : g_M := (cX8_branch, 5, RX8, (some (.object "TimedThreads$Outcome")), { frames := 2, cells := 0, slots := 0, locals := 43 }, 0, 0)
theorem dm_X8_branch_0 : decode M_X8_branch.1 0 = .ok (.iload_n 1, 1) := by decide +kernel
theorem dm_X8_branch_1 : decode M_X8_branch.1 1 = .ok (.invokestatic 132, 3) := by decide +kernel
theorem dm_X8_branch_4 : decode M_X8_branch.1 4 = .ok (.istore_n 2, 1) := by decide +kernel
theorem dm_X8_branch_5 : decode M_X8_branch.1 5 = .ok (.iload_n 1, 1) := by decide +kernel
theorem dm_X8_branch_6 : decode M_X8_branch.1 6 = .ok (.invokestatic 129, 3) := by decide +kernel
theorem dm_X8_branch_9 : decode M_X8_branch.1 9 = .ok (.istore_n 3, 1) := by decide +kernel
theorem dm_X8_branch_10 : decode M_X8_branch.1 10 = .ok (.iload_n 1, 1) := by decide +kernel
theorem dm_X8_branch_11 : decode M_X8_branch.1 11 = .ok (.invokestatic 138, 3) := by decide +kernel
theorem dm_X8_branch_14 : decode M_X8_branch.1 14 = .ok (.istore 4, 2) := by decide +kernel
theorem dm_X8_branch_16 : decode M_X8_branch.1 16 = .ok (.iload_n 2, 1) := by decide +kernel
theorem dm_X8_branch_17 : decode M_X8_branch.1 17 = .ok (.iconst 2, 1) := by decide +kernel
theorem dm_X8_branch_18 : decode M_X8_branch.1 18 = .ok (.if_icmp .eq 23, 3) := by decide +kernel
theorem dm_X8_branch_21 : decode M_X8_branch.1 21 = .ok (.iload_n 2, 1) := by decide +kernel
theorem dm_X8_branch_22 : decode M_X8_branch.1 22 = .ok (.iconst 3, 1) := by decide +kernel
theorem dm_X8_branch_23 : decode M_X8_branch.1 23 = .ok (.if_icmp .eq 18, 3) := by decide +kernel
theorem dm_X8_branch_26 : decode M_X8_branch.1 26 = .ok (.iload_n 3, 1) := by decide +kernel
theorem dm_X8_branch_27 : decode M_X8_branch.1 27 = .ok (.invokestatic 116, 3) := by decide +kernel
theorem dm_X8_branch_30 : decode M_X8_branch.1 30 = .ok (.ifCond .eq 11, 3) := by decide +kernel
theorem dm_X8_branch_33 : decode M_X8_branch.1 33 = .ok (.iload 4, 2) := by decide +kernel
theorem dm_X8_branch_35 : decode M_X8_branch.1 35 = .ok (.invokestatic 116, 3) := by decide +kernel
theorem dm_X8_branch_38 : decode M_X8_branch.1 38 = .ok (.ifCond .ne 7, 3) := by decide +kernel
theorem dm_X8_branch_41 : decode M_X8_branch.1 41 = .ok (.getstatic 48, 3) := by decide +kernel
theorem dm_X8_branch_44 : decode M_X8_branch.1 44 = .ok (.areturn, 1) := by decide +kernel
theorem dm_X8_branch_45 : decode M_X8_branch.1 45 = .ok (.iload_n 2, 1) := by decide +kernel
theorem dm_X8_branch_46 : decode M_X8_branch.1 46 = .ok (.aload_n 0, 1) := by decide +kernel
theorem dm_X8_branch_47 : decode M_X8_branch.1 47 = .ok (.getfield 9, 3) := by decide +kernel
theorem dm_X8_branch_50 : decode M_X8_branch.1 50 = .ok (.iload_n 3, 1) := by decide +kernel
theorem dm_X8_branch_51 : decode M_X8_branch.1 51 = .ok (.iaload, 1) := by decide +kernel
theorem dm_X8_branch_52 : decode M_X8_branch.1 52 = .ok (.aload_n 0, 1) := by decide +kernel
theorem dm_X8_branch_53 : decode M_X8_branch.1 53 = .ok (.getfield 9, 3) := by decide +kernel
theorem dm_X8_branch_56 : decode M_X8_branch.1 56 = .ok (.iload 4, 2) := by decide +kernel
theorem dm_X8_branch_58 : decode M_X8_branch.1 58 = .ok (.iaload, 1) := by decide +kernel
theorem dm_X8_branch_59 : decode M_X8_branch.1 59 = .ok (.invokestatic 141, 3) := by decide +kernel
theorem dm_X8_branch_62 : decode M_X8_branch.1 62 = .ok (.ifCond .eq 16, 3) := by decide +kernel
theorem dm_X8_branch_65 : decode M_X8_branch.1 65 = .ok (.aload_n 0, 1) := by decide +kernel
theorem dm_X8_branch_66 : decode M_X8_branch.1 66 = .ok (.aload_n 0, 1) := by decide +kernel
theorem dm_X8_branch_67 : decode M_X8_branch.1 67 = .ok (.getfield 35, 3) := by decide +kernel
theorem dm_X8_branch_70 : decode M_X8_branch.1 70 = .ok (.iload_n 1, 1) := by decide +kernel
theorem dm_X8_branch_71 : decode M_X8_branch.1 71 = .ok (.invokestatic 145, 3) := by decide +kernel
theorem dm_X8_branch_74 : decode M_X8_branch.1 74 = .ok (.iadd, 1) := by decide +kernel
theorem dm_X8_branch_75 : decode M_X8_branch.1 75 = .ok (.putfield 64, 3) := by decide +kernel
theorem dm_X8_branch_78 : decode M_X8_branch.1 78 = .ok (.getstatic 54, 3) := by decide +kernel
theorem dm_X8_branch_81 : decode M_X8_branch.1 81 = .ok (.areturn, 1) := by decide +kernel
theorem gc_X8_branch_132 : g_cs M_X8_branch 132 M_X1_f yX1_f 1 := ⟨tw658, tw659, tw359, tw660, ⟨rfl, rfl, rfl, rfl⟩, gd_X1_f, ⟨by decide, by decide⟩⟩
theorem gc_X8_branch_129 : g_cs M_X8_branch 129 M_X1_rs yX1_rs 1 := ⟨tw655, tw656, tw359, tw657, ⟨rfl, rfl, rfl, rfl⟩, gd_X1_rs, ⟨by decide, by decide⟩⟩
theorem gc_X8_branch_138 : g_cs M_X8_branch 138 M_X1_rt yX1_rt 1 := ⟨tw668, tw669, tw359, tw670, ⟨rfl, rfl, rfl, rfl⟩, gd_X1_rt, ⟨by decide, by decide⟩⟩
theorem gc_X8_branch_116 : g_csn M_X8_branch 116 M_X10_isRegister yX10_isRegister 1 := ⟨(List.mem_of_getElem? (i := 3) rfl), tw635, tw2, tw636, ⟨rfl, rfl, rfl, rfl⟩, gd_X10_isRegister, ⟨by decide, by decide⟩⟩
theorem gc_X8_branch_141 : g_cs M_X8_branch 141 M_X8_isSo yX8_isSo 3 := ⟨tw671, tw672, tw32, tw673, ⟨rfl, rfl, rfl, rfl⟩, gd_X8_isSo, ⟨by decide, by decide⟩⟩
theorem gc_X8_branch_145 : g_cs M_X8_branch 145 M_X1_numberB yX1_numberB 1 := ⟨tw678, tw679, tw359, tw680, ⟨rfl, rfl, rfl, rfl⟩, gd_X1_numberB, ⟨by decide, by decide⟩⟩
def f_X8_branch_c71 (taddr : Int32) (z7_0 : Int32) : Nat × Int32 := (1000, (taddr + z7_0))
def f_X8_branch_c59 (word : Int32) (taddr : Int32) (tnext : Int32) (z6_0 : Int32) : Nat × Int32 := (if z6_0 = 0 then (1000, tnext) else (f_X8_branch_c71 taddr (f_X1_numberB word)))
def f_X8_branch_c35 (word : Int32) (taddr : Int32) (tnext : Int32) (regs : Nat → Int32) (z1_0 : Int32) (z2_0 : Int32) (z3_0 : Int32) (z5_0 : Int32) : Nat × Int32 := (if z5_0 = 0 then (1002, tnext) else (f_X8_branch_c59 word taddr tnext (f_X8_isSo z1_0 (regs (Int32.toNatClampNeg z2_0)) (regs (Int32.toNatClampNeg z3_0)))))
def f_X8_branch_c27 (word : Int32) (taddr : Int32) (tnext : Int32) (regs : Nat → Int32) (z1_0 : Int32) (z2_0 : Int32) (z3_0 : Int32) (z4_0 : Int32) : Nat × Int32 := (if z4_0 = 0 then (1002, tnext) else (f_X8_branch_c35 word taddr tnext regs z1_0 z2_0 z3_0 (f_X10_isRegister z3_0)))
def f_X8_branch_c11 (word : Int32) (taddr : Int32) (tnext : Int32) (regs : Nat → Int32) (z1_0 : Int32) (z2_0 : Int32) (z3_0 : Int32) : Nat × Int32 := (if z1_0 = (2 : Int32) then (1002, tnext) else (if z1_0 = (3 : Int32) then (1002, tnext) else (f_X8_branch_c27 word taddr tnext regs z1_0 z2_0 z3_0 (f_X10_isRegister z2_0))))
def f_X8_branch_c6 (word : Int32) (taddr : Int32) (tnext : Int32) (regs : Nat → Int32) (z1_0 : Int32) (z2_0 : Int32) : Nat × Int32 := (f_X8_branch_c11 word taddr tnext regs z1_0 z2_0 (f_X1_rt word))
def f_X8_branch_c1 (word : Int32) (taddr : Int32) (tnext : Int32) (regs : Nat → Int32) (z1_0 : Int32) : Nat × Int32 := (f_X8_branch_c6 word taddr tnext regs z1_0 (f_X1_rs word))
def f_X8_branch (word : Int32) (taddr : Int32) (tnext : Int32) (regs : Nat → Int32) : Nat × Int32 := (f_X8_branch_c1 word taddr tnext regs (f_X1_f word))
set_option maxRecDepth 20000 in
theorem k_X8_branch {word : Int32} {tlow : Int32} {thigh : Int32} {tnum : Int32} {tstat : Int32} {taddr : Int32} {tready : Int32} {tnext : Int32} {tret : Int32} {regs : Nat → Int32} {tstore : Nat → Int32} {hcount : Int32} {haddr : Nat → Int32} {hcyc : Nat → Int32} {hret : Nat → Int32} {tims : Nat → Int32} {r_0 : Nat} {r_1 : Int32} (hres : (r_0, r_1) = f_X8_branch word taddr tnext regs) : K M_X8_branch yX8_branch [.ref 0, .int word] (w_t tlow thigh tnum tstat taddr tready tnext tret regs tstore hcount haddr hcyc hret tims) (some (.ref r_0)) (w_t tlow thigh tnum tstat taddr tready r_1 tret regs tstore hcount haddr hcyc hret tims) := by
  refine K.of (lv := [(0, .ref 0), (1, .int word)]) (by decide +kernel) rfl rfl rfl ?_
  rw [f_X8_branch] at hres
  refine G.iload_n (pc := 0) dm_X8_branch_0 rfl ?_
  obtain ⟨z1_0, hz1⟩ := g_ex1 (f_X1_f word)
  refine G.callS (pc := 1) (rest := []) (st1 := [.int z1_0]) (ws1 := (w_t tlow thigh tnum tstat taddr tready tnext tret regs tstore hcount haddr hcyc hret tims)) [] dm_X8_branch_1 gc_X8_branch_132 (k_X1_f (x := word) hz1) rfl rfl rfl rfl rfl rfl rfl rfl ?_
  replace hres : (r_0, r_1) = f_X8_branch_c1 word taddr tnext regs z1_0 := hres.trans (by rw [← hz1])
  rw [f_X8_branch_c1] at hres
  refine G.istore_n (pc := 4) (lv1 := [(2, .int z1_0), (0, .ref 0), (1, .int word)]) dm_X8_branch_4 rfl rfl ?_
  refine G.iload_n (pc := 5) dm_X8_branch_5 rfl ?_
  obtain ⟨z2_0, hz2⟩ := g_ex1 (f_X1_rs word)
  refine G.callS (pc := 6) (rest := []) (st1 := [.int z2_0]) (ws1 := (w_t tlow thigh tnum tstat taddr tready tnext tret regs tstore hcount haddr hcyc hret tims)) [] dm_X8_branch_6 gc_X8_branch_129 (k_X1_rs (x := word) hz2) rfl rfl rfl rfl rfl rfl rfl rfl ?_
  replace hres : (r_0, r_1) = f_X8_branch_c6 word taddr tnext regs z1_0 z2_0 := hres.trans (by rw [← hz2])
  rw [f_X8_branch_c6] at hres
  refine G.istore_n (pc := 9) (lv1 := [(3, .int z2_0), (2, .int z1_0), (0, .ref 0), (1, .int word)]) dm_X8_branch_9 rfl rfl ?_
  refine G.iload_n (pc := 10) dm_X8_branch_10 rfl ?_
  obtain ⟨z3_0, hz3⟩ := g_ex1 (f_X1_rt word)
  refine G.callS (pc := 11) (rest := []) (st1 := [.int z3_0]) (ws1 := (w_t tlow thigh tnum tstat taddr tready tnext tret regs tstore hcount haddr hcyc hret tims)) [] dm_X8_branch_11 gc_X8_branch_138 (k_X1_rt (x := word) hz3) rfl rfl rfl rfl rfl rfl rfl rfl ?_
  replace hres : (r_0, r_1) = f_X8_branch_c11 word taddr tnext regs z1_0 z2_0 z3_0 := hres.trans (by rw [← hz3])
  rw [f_X8_branch_c11] at hres
  refine G.istore (pc := 14) (lv1 := [(4, .int z3_0), (3, .int z2_0), (2, .int z1_0), (0, .ref 0), (1, .int word)]) dm_X8_branch_14 rfl rfl ?_
  refine G.iload_n (pc := 16) dm_X8_branch_16 rfl ?_
  refine G.iconst (pc := 17) (v := (2 : Int32)) dm_X8_branch_17 qi_2 ?_
  refine G.icmp_eq (pc := 18) (tgt := 41) dm_X8_branch_18 (by decide) (fun c18 => ?_) (fun c18 => ?_)
  · rw [if_pos c18] at hres
    refine G.getstatic (pc := 41) dm_X8_branch_41 (Or.inl ⟨2, by decide, rfl⟩) tw613 ?_
    cases hres
    exact G.areturn (pc := 44) dm_X8_branch_44 rfl (Or.inl ⟨_, rfl⟩) rfl rfl
  · rw [if_neg c18] at hres
    refine G.iload_n (pc := 21) dm_X8_branch_21 rfl ?_
    refine G.iconst (pc := 22) (v := (3 : Int32)) dm_X8_branch_22 qi_3 ?_
    refine G.icmp_eq (pc := 23) (tgt := 41) dm_X8_branch_23 (by decide) (fun c23 => ?_) (fun c23 => ?_)
    · rw [if_pos c23] at hres
      refine G.getstatic (pc := 41) dm_X8_branch_41 (Or.inl ⟨2, by decide, rfl⟩) tw613 ?_
      cases hres
      exact G.areturn (pc := 44) dm_X8_branch_44 rfl (Or.inl ⟨_, rfl⟩) rfl rfl
    · rw [if_neg c23] at hres
      refine G.iload_n (pc := 26) dm_X8_branch_26 rfl ?_
      obtain ⟨z4_0, hz4⟩ := g_ex1 (f_X10_isRegister z2_0)
      refine G.callSN (pc := 27) (rest := []) (st1 := [.int z4_0]) (ws1 := (w_t tlow thigh tnum tstat taddr tready tnext tret regs tstore hcount haddr hcyc hret tims)) [] dm_X8_branch_27 gc_X8_branch_116 (k_X10_isRegister (k := z2_0) hz4) rfl rfl rfl rfl rfl rfl rfl rfl ?_
      have hrs := a_isReg hz4
      replace hres : (r_0, r_1) = f_X8_branch_c27 word taddr tnext regs z1_0 z2_0 z3_0 z4_0 := hres.trans (by rw [← hz4])
      rw [f_X8_branch_c27] at hres
      refine G.if_eq (pc := 30) (tgt := 41) dm_X8_branch_30 (by decide) (fun c30 => ?_) (fun c30 => ?_)
      · rw [if_pos c30] at hres
        refine G.getstatic (pc := 41) dm_X8_branch_41 (Or.inl ⟨2, by decide, rfl⟩) tw613 ?_
        cases hres
        exact G.areturn (pc := 44) dm_X8_branch_44 rfl (Or.inl ⟨_, rfl⟩) rfl rfl
      · rw [if_neg c30] at hres
        refine G.iload (pc := 33) dm_X8_branch_33 rfl ?_
        obtain ⟨z5_0, hz5⟩ := g_ex1 (f_X10_isRegister z3_0)
        refine G.callSN (pc := 35) (rest := []) (st1 := [.int z5_0]) (ws1 := (w_t tlow thigh tnum tstat taddr tready tnext tret regs tstore hcount haddr hcyc hret tims)) [] dm_X8_branch_35 gc_X8_branch_116 (k_X10_isRegister (k := z3_0) hz5) rfl rfl rfl rfl rfl rfl rfl rfl ?_
        have hrt := a_isReg hz5
        replace hres : (r_0, r_1) = f_X8_branch_c35 word taddr tnext regs z1_0 z2_0 z3_0 z5_0 := hres.trans (by rw [← hz5])
        rw [f_X8_branch_c35] at hres
        refine G.if_ne (pc := 38) (tgt := 45) dm_X8_branch_38 (by decide) (fun c38 => ?_) (fun c38 => ?_)
        · rw [if_neg c38] at hres
          refine G.iload_n (pc := 45) dm_X8_branch_45 rfl ?_
          refine G.aload_n (pc := 46) dm_X8_branch_46 rfl ?_
          refine G.getfield (pc := 47) dm_X8_branch_47 gf_X8_9 rfl rfl ?_
          refine G.iload_n (pc := 50) dm_X8_branch_50 rfl ?_
          refine G.iaload (pc := 51) dm_X8_branch_51 rfl (q_r16 (hrs c30)) ?_
          refine G.aload_n (pc := 52) dm_X8_branch_52 rfl ?_
          refine G.getfield (pc := 53) dm_X8_branch_53 gf_X8_9 rfl rfl ?_
          refine G.iload (pc := 56) dm_X8_branch_56 rfl ?_
          refine G.iaload (pc := 58) dm_X8_branch_58 rfl (q_r16 (hrt c38)) ?_
          obtain ⟨z6_0, hz6⟩ := g_ex1 (f_X8_isSo z1_0 (regs (Int32.toNatClampNeg z2_0)) (regs (Int32.toNatClampNeg z3_0)))
          refine G.callS (pc := 59) (rest := []) (st1 := [.int z6_0]) (ws1 := (w_t tlow thigh tnum tstat taddr tready tnext tret regs tstore hcount haddr hcyc hret tims)) [] dm_X8_branch_59 gc_X8_branch_141 (k_X8_isSo (f := z1_0) (left := (regs (Int32.toNatClampNeg z2_0))) (right := (regs (Int32.toNatClampNeg z3_0))) hz6) rfl rfl rfl rfl rfl rfl rfl rfl ?_
          replace hres : (r_0, r_1) = f_X8_branch_c59 word taddr tnext z6_0 := hres.trans (by rw [← hz6])
          rw [f_X8_branch_c59] at hres
          refine G.if_eq (pc := 62) (tgt := 78) dm_X8_branch_62 (by decide) (fun c62 => ?_) (fun c62 => ?_)
          · rw [if_pos c62] at hres
            refine G.getstatic (pc := 78) dm_X8_branch_78 (Or.inl ⟨0, by decide, rfl⟩) tw614 ?_
            cases hres
            exact G.areturn (pc := 81) dm_X8_branch_81 rfl (Or.inl ⟨_, rfl⟩) rfl rfl
          · rw [if_neg c62] at hres
            refine G.aload_n (pc := 65) dm_X8_branch_65 rfl ?_
            refine G.aload_n (pc := 66) dm_X8_branch_66 rfl ?_
            refine G.getfield (pc := 67) dm_X8_branch_67 gf_X8_35 rfl rfl ?_
            refine G.iload_n (pc := 70) dm_X8_branch_70 rfl ?_
            obtain ⟨z7_0, hz7⟩ := g_ex1 (f_X1_numberB word)
            refine G.callS (pc := 71) (rest := [.int taddr, .ref 0]) (st1 := [.int z7_0, .int taddr, .ref 0]) (ws1 := (w_t tlow thigh tnum tstat taddr tready tnext tret regs tstore hcount haddr hcyc hret tims)) [] dm_X8_branch_71 gc_X8_branch_145 (k_X1_numberB (x := word) hz7) rfl rfl rfl rfl rfl rfl rfl rfl ?_
            replace hres : (r_0, r_1) = f_X8_branch_c71 taddr z7_0 := hres.trans (by rw [← hz7])
            rw [f_X8_branch_c71] at hres
            refine G.iadd (pc := 74) dm_X8_branch_74 ?_
            refine G.putfield (pc := 75) (ws1 := (w_t tlow thigh tnum tstat taddr tready (taddr + z7_0) tret regs tstore hcount haddr hcyc hret tims)) dm_X8_branch_75 gw_X8_64 rfl (g_fit_i _) rfl rfl ?_
            refine G.getstatic (pc := 78) dm_X8_branch_78 (Or.inl ⟨0, by decide, rfl⟩) tw614 ?_
            cases hres
            exact G.areturn (pc := 81) dm_X8_branch_81 rfl (Or.inl ⟨_, rfl⟩) rfl rfl
        · rw [if_pos c38] at hres
          refine G.getstatic (pc := 41) dm_X8_branch_41 (Or.inl ⟨2, by decide, rfl⟩) tw613 ?_
          cases hres
          exact G.areturn (pc := 44) dm_X8_branch_44 rfl (Or.inl ⟨_, rfl⟩) rfl rfl
theorem o_X8_branch {word : Int32} {taddr : Int32} {tnext : Int32} {regs : Nat → Int32} {r_0 : Nat} {r_1 : Int32} (hres : (r_0, r_1) = f_X8_branch word taddr tnext regs) : 1000 ≤ r_0 ∧ r_0 < 1003 := by
  rw [f_X8_branch] at hres
  obtain ⟨z1_0, hz1⟩ := g_ex1 (f_X1_f word)
  replace hres : (r_0, r_1) = f_X8_branch_c1 word taddr tnext regs z1_0 := hres.trans (by rw [← hz1])
  rw [f_X8_branch_c1] at hres
  obtain ⟨z2_0, hz2⟩ := g_ex1 (f_X1_rs word)
  replace hres : (r_0, r_1) = f_X8_branch_c6 word taddr tnext regs z1_0 z2_0 := hres.trans (by rw [← hz2])
  rw [f_X8_branch_c6] at hres
  obtain ⟨z3_0, hz3⟩ := g_ex1 (f_X1_rt word)
  replace hres : (r_0, r_1) = f_X8_branch_c11 word taddr tnext regs z1_0 z2_0 z3_0 := hres.trans (by rw [← hz3])
  rw [f_X8_branch_c11] at hres
  by_cases c18 : z1_0 = (2 : Int32)
  · rw [if_pos c18] at hres
    cases hres
    exact (by first | exact hoz | decide)
  · rw [if_neg c18] at hres
    by_cases c23 : z1_0 = (3 : Int32)
    · rw [if_pos c23] at hres
      cases hres
      exact (by first | exact hoz | decide)
    · rw [if_neg c23] at hres
      obtain ⟨z4_0, hz4⟩ := g_ex1 (f_X10_isRegister z2_0)
      replace hres : (r_0, r_1) = f_X8_branch_c27 word taddr tnext regs z1_0 z2_0 z3_0 z4_0 := hres.trans (by rw [← hz4])
      rw [f_X8_branch_c27] at hres
      by_cases c30 : z4_0 = 0
      · rw [if_pos c30] at hres
        cases hres
        exact (by first | exact hoz | decide)
      · rw [if_neg c30] at hres
        obtain ⟨z5_0, hz5⟩ := g_ex1 (f_X10_isRegister z3_0)
        replace hres : (r_0, r_1) = f_X8_branch_c35 word taddr tnext regs z1_0 z2_0 z3_0 z5_0 := hres.trans (by rw [← hz5])
        rw [f_X8_branch_c35] at hres
        by_cases c38 : z5_0 = 0
        · rw [if_pos c38] at hres
          cases hres
          exact (by first | exact hoz | decide)
        · rw [if_neg c38] at hres
          obtain ⟨z6_0, hz6⟩ := g_ex1 (f_X8_isSo z1_0 (regs (Int32.toNatClampNeg z2_0)) (regs (Int32.toNatClampNeg z3_0)))
          replace hres : (r_0, r_1) = f_X8_branch_c59 word taddr tnext z6_0 := hres.trans (by rw [← hz6])
          rw [f_X8_branch_c59] at hres
          by_cases c62 : z6_0 = 0
          · rw [if_pos c62] at hres
            cases hres
            exact (by first | exact hoz | decide)
          · rw [if_neg c62] at hres
            obtain ⟨z7_0, hz7⟩ := g_ex1 (f_X1_numberB word)
            replace hres : (r_0, r_1) = f_X8_branch_c71 taddr z7_0 := hres.trans (by rw [← hz7])
            rw [f_X8_branch_c71] at hres
            cases hres
            exact (by first | exact hoz | decide)
abbrev M_X8_load : g_M := (cX8_load, 11, RX8, (some (.object "TimedThreads$Outcome")), { frames := 3, cells := 0, slots := 0, locals := 68 }, 0, 0)
theorem dm_X8_load_0 : decode M_X8_load.1 0 = .ok (.iload_n 1, 1) := by decide +kernel
theorem dm_X8_load_1 : decode M_X8_load.1 1 = .ok (.invokestatic 132, 3) := by decide +kernel
theorem dm_X8_load_4 : decode M_X8_load.1 4 = .ok (.istore 4, 2) := by decide +kernel
theorem dm_X8_load_6 : decode M_X8_load.1 6 = .ok (.iload_n 1, 1) := by decide +kernel
theorem dm_X8_load_7 : decode M_X8_load.1 7 = .ok (.invokestatic 113, 3) := by decide +kernel
theorem dm_X8_load_10 : decode M_X8_load.1 10 = .ok (.istore 5, 2) := by decide +kernel
theorem dm_X8_load_12 : decode M_X8_load.1 12 = .ok (.iload_n 1, 1) := by decide +kernel
theorem dm_X8_load_13 : decode M_X8_load.1 13 = .ok (.invokestatic 129, 3) := by decide +kernel
theorem dm_X8_load_16 : decode M_X8_load.1 16 = .ok (.istore 6, 2) := by decide +kernel
theorem dm_X8_load_18 : decode M_X8_load.1 18 = .ok (.iload 4, 2) := by decide +kernel
theorem dm_X8_load_20 : decode M_X8_load.1 20 = .ok (.iconst 2, 1) := by decide +kernel
theorem dm_X8_load_21 : decode M_X8_load.1 21 = .ok (.if_icmp .eq 14, 3) := by decide +kernel
theorem dm_X8_load_24 : decode M_X8_load.1 24 = .ok (.iload 4, 2) := by decide +kernel
theorem dm_X8_load_26 : decode M_X8_load.1 26 = .ok (.ifCond .eq 9, 3) := by decide +kernel
theorem dm_X8_load_29 : decode M_X8_load.1 29 = .ok (.iload 4, 2) := by decide +kernel
theorem dm_X8_load_31 : decode M_X8_load.1 31 = .ok (.iconst 4, 1) := by decide +kernel
theorem dm_X8_load_32 : decode M_X8_load.1 32 = .ok (.if_icmp .ne 7, 3) := by decide +kernel
theorem dm_X8_load_35 : decode M_X8_load.1 35 = .ok (.iconst 1, 1) := by decide +kernel
theorem dm_X8_load_36 : decode M_X8_load.1 36 = .ok (.goto 4, 3) := by decide +kernel
theorem dm_X8_load_39 : decode M_X8_load.1 39 = .ok (.iconst 0, 1) := by decide +kernel
theorem dm_X8_load_40 : decode M_X8_load.1 40 = .ok (.istore 7, 2) := by decide +kernel
theorem dm_X8_load_42 : decode M_X8_load.1 42 = .ok (.iload 7, 2) := by decide +kernel
theorem dm_X8_load_44 : decode M_X8_load.1 44 = .ok (.ifCond .eq 19, 3) := by decide +kernel
theorem dm_X8_load_47 : decode M_X8_load.1 47 = .ok (.iload 5, 2) := by decide +kernel
theorem dm_X8_load_49 : decode M_X8_load.1 49 = .ok (.invokestatic 116, 3) := by decide +kernel
theorem dm_X8_load_52 : decode M_X8_load.1 52 = .ok (.ifCond .eq 11, 3) := by decide +kernel
theorem dm_X8_load_55 : decode M_X8_load.1 55 = .ok (.iload 6, 2) := by decide +kernel
theorem dm_X8_load_57 : decode M_X8_load.1 57 = .ok (.invokestatic 116, 3) := by decide +kernel
theorem dm_X8_load_60 : decode M_X8_load.1 60 = .ok (.ifCond .ne 7, 3) := by decide +kernel
theorem dm_X8_load_63 : decode M_X8_load.1 63 = .ok (.getstatic 48, 3) := by decide +kernel
theorem dm_X8_load_66 : decode M_X8_load.1 66 = .ok (.areturn, 1) := by decide +kernel
theorem dm_X8_load_67 : decode M_X8_load.1 67 = .ok (.aload_n 0, 1) := by decide +kernel
theorem dm_X8_load_68 : decode M_X8_load.1 68 = .ok (.getfield 9, 3) := by decide +kernel
theorem dm_X8_load_71 : decode M_X8_load.1 71 = .ok (.iload 6, 2) := by decide +kernel
theorem dm_X8_load_73 : decode M_X8_load.1 73 = .ok (.iaload, 1) := by decide +kernel
theorem dm_X8_load_74 : decode M_X8_load.1 74 = .ok (.iload_n 1, 1) := by decide +kernel
theorem dm_X8_load_75 : decode M_X8_load.1 75 = .ok (.invokestatic 135, 3) := by decide +kernel
theorem dm_X8_load_78 : decode M_X8_load.1 78 = .ok (.iadd, 1) := by decide +kernel
theorem dm_X8_load_79 : decode M_X8_load.1 79 = .ok (.istore 8, 2) := by decide +kernel
theorem dm_X8_load_81 : decode M_X8_load.1 81 = .ok (.aload_n 0, 1) := by decide +kernel
theorem dm_X8_load_82 : decode M_X8_load.1 82 = .ok (.iload 8, 2) := by decide +kernel
theorem dm_X8_load_84 : decode M_X8_load.1 84 = .ok (.iload 4, 2) := by decide +kernel
theorem dm_X8_load_86 : decode M_X8_load.1 86 = .ok (.invokevirtual 154, 3) := by decide +kernel
theorem dm_X8_load_89 : decode M_X8_load.1 89 = .ok (.ifCond .ne 7, 3) := by decide +kernel
theorem dm_X8_load_92 : decode M_X8_load.1 92 = .ok (.getstatic 48, 3) := by decide +kernel
theorem dm_X8_load_95 : decode M_X8_load.1 95 = .ok (.areturn, 1) := by decide +kernel
theorem dm_X8_load_96 : decode M_X8_load.1 96 = .ok (.aload_n 0, 1) := by decide +kernel
theorem dm_X8_load_97 : decode M_X8_load.1 97 = .ok (.iload 8, 2) := by decide +kernel
theorem dm_X8_load_99 : decode M_X8_load.1 99 = .ok (.aload_n 3, 1) := by decide +kernel
theorem dm_X8_load_100 : decode M_X8_load.1 100 = .ok (.invokevirtual 157, 3) := by decide +kernel
theorem dm_X8_load_103 : decode M_X8_load.1 103 = .ok (.iload 8, 2) := by decide +kernel
theorem dm_X8_load_105 : decode M_X8_load.1 105 = .ok (.invokestatic 161, 3) := by decide +kernel
theorem dm_X8_load_108 : decode M_X8_load.1 108 = .ok (.iaload, 1) := by decide +kernel
theorem dm_X8_load_109 : decode M_X8_load.1 109 = .ok (.istore 9, 2) := by decide +kernel
theorem dm_X8_load_111 : decode M_X8_load.1 111 = .ok (.iload 9, 2) := by decide +kernel
theorem dm_X8_load_113 : decode M_X8_load.1 113 = .ok (.iload 8, 2) := by decide +kernel
theorem dm_X8_load_115 : decode M_X8_load.1 115 = .ok (.invokestatic 164, 3) := by decide +kernel
theorem dm_X8_load_118 : decode M_X8_load.1 118 = .ok (.iushr, 1) := by decide +kernel
theorem dm_X8_load_119 : decode M_X8_load.1 119 = .ok (.sipush 255, 3) := by decide +kernel
theorem dm_X8_load_122 : decode M_X8_load.1 122 = .ok (.iand, 1) := by decide +kernel
theorem dm_X8_load_123 : decode M_X8_load.1 123 = .ok (.istore 10, 2) := by decide +kernel
theorem dm_X8_load_125 : decode M_X8_load.1 125 = .ok (.iload 4, 2) := by decide +kernel
theorem dm_X8_load_127 : decode M_X8_load.1 127 = .ok (.ifCond .ne 11, 3) := by decide +kernel
theorem dm_X8_load_130 : decode M_X8_load.1 130 = .ok (.iload 10, 2) := by decide +kernel
theorem dm_X8_load_132 : decode M_X8_load.1 132 = .ok (.i2b, 1) := by decide +kernel
theorem dm_X8_load_133 : decode M_X8_load.1 133 = .ok (.istore 9, 2) := by decide +kernel
theorem dm_X8_load_135 : decode M_X8_load.1 135 = .ok (.goto 13, 3) := by decide +kernel
theorem dm_X8_load_138 : decode M_X8_load.1 138 = .ok (.iload 4, 2) := by decide +kernel
theorem dm_X8_load_140 : decode M_X8_load.1 140 = .ok (.iconst 4, 1) := by decide +kernel
theorem dm_X8_load_141 : decode M_X8_load.1 141 = .ok (.if_icmp .ne 7, 3) := by decide +kernel
theorem dm_X8_load_144 : decode M_X8_load.1 144 = .ok (.iload 10, 2) := by decide +kernel
theorem dm_X8_load_146 : decode M_X8_load.1 146 = .ok (.istore 9, 2) := by decide +kernel
theorem dm_X8_load_148 : decode M_X8_load.1 148 = .ok (.aload_n 0, 1) := by decide +kernel
theorem dm_X8_load_149 : decode M_X8_load.1 149 = .ok (.iload 5, 2) := by decide +kernel
theorem dm_X8_load_151 : decode M_X8_load.1 151 = .ok (.iload 9, 2) := by decide +kernel
theorem dm_X8_load_153 : decode M_X8_load.1 153 = .ok (.invokevirtual 122, 3) := by decide +kernel
theorem dm_X8_load_156 : decode M_X8_load.1 156 = .ok (.aload_n 0, 1) := by decide +kernel
theorem dm_X8_load_157 : decode M_X8_load.1 157 = .ok (.iload 8, 2) := by decide +kernel
theorem dm_X8_load_159 : decode M_X8_load.1 159 = .ok (.iload_n 2, 1) := by decide +kernel
theorem dm_X8_load_160 : decode M_X8_load.1 160 = .ok (.aload_n 3, 1) := by decide +kernel
theorem dm_X8_load_161 : decode M_X8_load.1 161 = .ok (.invokevirtual 167, 3) := by decide +kernel
theorem dm_X8_load_164 : decode M_X8_load.1 164 = .ok (.getstatic 54, 3) := by decide +kernel
theorem dm_X8_load_167 : decode M_X8_load.1 167 = .ok (.areturn, 1) := by decide +kernel
theorem gc_X8_load_132 : g_cs M_X8_load 132 M_X1_f yX1_f 1 := ⟨tw658, tw659, tw359, tw660, ⟨rfl, rfl, rfl, rfl⟩, gd_X1_f, ⟨by decide, by decide⟩⟩
theorem gc_X8_load_113 : g_cs M_X8_load 113 M_X1_rd yX1_rd 1 := ⟨tw632, tw633, tw359, tw634, ⟨rfl, rfl, rfl, rfl⟩, gd_X1_rd, ⟨by decide, by decide⟩⟩
theorem gc_X8_load_129 : g_cs M_X8_load 129 M_X1_rs yX1_rs 1 := ⟨tw655, tw656, tw359, tw657, ⟨rfl, rfl, rfl, rfl⟩, gd_X1_rs, ⟨by decide, by decide⟩⟩
theorem gc_X8_load_116 : g_csn M_X8_load 116 M_X10_isRegister yX10_isRegister 1 := ⟨(List.mem_of_getElem? (i := 3) rfl), tw635, tw2, tw636, ⟨rfl, rfl, rfl, rfl⟩, gd_X10_isRegister, ⟨by decide, by decide⟩⟩
theorem gc_X8_load_135 : g_cs M_X8_load 135 M_X1_numberI yX1_numberI 1 := ⟨tw661, tw662, tw359, tw663, ⟨rfl, rfl, rfl, rfl⟩, gd_X1_numberI, ⟨by decide, by decide⟩⟩
theorem gc_X8_load_154 : g_cv M_X8_load 154 M_X8_canReach yX8_canReach 2 := ⟨tw685, tw686, tw687, tw32, tw688, ⟨rfl, rfl, rfl, rfl⟩, gd_X8_canReach, ⟨by decide, by decide⟩⟩
theorem gc_X8_load_157 : g_cv M_X8_load 157 M_X8_rowOf yX8_rowOf 2 := ⟨tw691, tw692, tw693, tw32, tw694, ⟨rfl, rfl, rfl, rfl⟩, gd_X8_rowOf, ⟨by decide, by decide⟩⟩
theorem gc_X8_load_161 : g_cs M_X8_load 161 M_X8_placeOf yX8_placeOf 1 := ⟨tw696, tw697, tw32, tw698, ⟨rfl, rfl, rfl, rfl⟩, gd_X8_placeOf, ⟨by decide, by decide⟩⟩
theorem gc_X8_load_164 : g_cs M_X8_load 164 M_X8_bitOf yX8_bitOf 1 := ⟨tw699, tw700, tw32, tw701, ⟨rfl, rfl, rfl, rfl⟩, gd_X8_bitOf, ⟨by decide, by decide⟩⟩
theorem gc_X8_load_122 : g_cv M_X8_load 122 M_X8_setRegister yX8_setRegister 2 := ⟨tw640, tw641, tw642, tw32, tw643, ⟨rfl, rfl, rfl, rfl⟩, gd_X8_setRegister, ⟨by decide, by decide⟩⟩
theorem gc_X8_load_167 : g_cv M_X8_load 167 M_X8_setRetirement yX8_setRetirement 3 := ⟨tw702, tw703, tw704, tw32, tw705, ⟨rfl, rfl, rfl, rfl⟩, gd_X8_setRetirement, ⟨by decide, by decide⟩⟩
def f_X8_load_c161 (z10_0 : (Nat → Int32)) (z11_0 : Int32) : Nat × Int32 × (Nat → Int32) := (1000, z11_0, z10_0)
def f_X8_load_c153 (tnum : Int32) (tret : Int32) (mwheel : Int32) (l2 : Int32) (l8 : Int32) (z10_0 : (Nat → Int32)) : Nat × Int32 × (Nat → Int32) := (f_X8_load_c161 z10_0 (f_X8_setRetirement l8 l2 tnum tret mwheel))
def f_X8_load_148 (tnum : Int32) (tret : Int32) (regs : Nat → Int32) (mwheel : Int32) (l2 : Int32) (l5 : Int32) (l8 : Int32) (l9 : Int32) : Nat × Int32 × (Nat → Int32) := (f_X8_load_c153 tnum tret mwheel l2 l8 (f_X8_setRegister l5 l9 regs))
set_option maxRecDepth 20000 in
theorem j_X8_load_148 {l2 : Int32} {l5 : Int32} {l8 : Int32} {l9 : Int32} {tlow : Int32} {thigh : Int32} {tnum : Int32} {tstat : Int32} {taddr : Int32} {tready : Int32} {tnext : Int32} {tret : Int32} {regs : Nat → Int32} {tstore : Nat → Int32} {hcount : Int32} {haddr : Nat → Int32} {hcyc : Nat → Int32} {hret : Nat → Int32} {tims : Nat → Int32} {mwheel : Int32} {mwords : Nat → Int32} {r_0 : Nat} {r_1 : Int32} {r_2 : (Nat → Int32)} (hres : (r_0, r_1, r_2) = (f_X8_load_148 tnum tret regs mwheel l2 l5 l8 l9)) (hwh : 1 ≤ mwheel.toInt ∧ mwheel.toInt ≤ 8) (h5 : 0 ≤ l5.toInt ∧ l5.toInt < 16) : G M_X8_load 0 0 148 [(0, .ref 0), (2, .int l2), (3, .ref 8), (5, .int l5), (8, .int l8), (9, .int l9)] [] (w_T tlow thigh tnum tstat taddr tready tnext tret regs tstore hcount haddr hcyc hret tims mwheel mwords) (some (.ref r_0)) (w_T tlow thigh tnum tstat taddr tready tnext r_1 r_2 tstore hcount haddr hcyc hret tims mwheel mwords) := by
  rw [f_X8_load_148] at hres
  refine G.aload_n (pc := 148) dm_X8_load_148 rfl ?_
  refine G.iload (pc := 149) dm_X8_load_149 rfl ?_
  refine G.iload (pc := 151) dm_X8_load_151 rfl ?_
  obtain ⟨z10_0, hz10⟩ := g_ex1 (f_X8_setRegister l5 l9 regs)
  refine G.callV (pc := 153) (rest := []) (st1 := []) (ws1 := (w_T tlow thigh tnum tstat taddr tready tnext tret z10_0 tstore hcount haddr hcyc hret tims mwheel mwords)) [0, 1, 2, 3, 4, 5, 6, 7] dm_X8_load_153 gc_X8_load_122 (k_X8_setRegister (k := l5) (value := l9) (tlow := tlow) (thigh := thigh) (tnum := tnum) (tstat := tstat) (taddr := taddr) (tready := tready) (tnext := tnext) (tret := tret) (regs := regs) (tstore := tstore) (hcount := hcount) (haddr := haddr) (hcyc := hcyc) (hret := hret) (tims := tims) (by assumption) hz10) rfl rfl rfl rfl rfl rfl rfl rfl rfl rfl ?_
  replace hres : (r_0, r_1, r_2) = f_X8_load_c153 tnum tret mwheel l2 l8 z10_0 := hres.trans (by rw [← hz10])
  rw [f_X8_load_c153] at hres
  refine G.aload_n (pc := 156) dm_X8_load_156 rfl ?_
  refine G.iload (pc := 157) dm_X8_load_157 rfl ?_
  refine G.iload_n (pc := 159) dm_X8_load_159 rfl ?_
  refine G.aload_n (pc := 160) dm_X8_load_160 rfl ?_
  obtain ⟨z11_0, hz11⟩ := g_ex1 (f_X8_setRetirement l8 l2 tnum tret mwheel)
  refine G.callV0 (pc := 161) (rest := []) (st1 := []) dm_X8_load_161 gc_X8_load_167 (k_X8_setRetirement (at_ := l8) (cycle := l2) (tlow := tlow) (thigh := thigh) (tnum := tnum) (tstat := tstat) (taddr := taddr) (tready := tready) (tnext := tnext) (tret := tret) (regs := z10_0) (tstore := tstore) (hcount := hcount) (haddr := haddr) (hcyc := hcyc) (hret := hret) (tims := tims) (mwheel := mwheel) (mwords := mwords) (by assumption) hz11) rfl rfl rfl rfl rfl rfl rfl rfl ?_
  replace hres : (r_0, r_1, r_2) = f_X8_load_c161 z10_0 z11_0 := hres.trans (by rw [← hz11])
  rw [f_X8_load_c161] at hres
  refine G.getstatic (pc := 164) dm_X8_load_164 (Or.inl ⟨0, by decide, rfl⟩) tw614 ?_
  cases hres
  exact G.areturn (pc := 167) dm_X8_load_167 rfl (Or.inl ⟨_, rfl⟩) rfl rfl
def f_X8_load_c115 (tnum : Int32) (tret : Int32) (regs : Nat → Int32) (mwheel : Int32) (mwords : Nat → Int32) (l2 : Int32) (l4 : Int32) (l5 : Int32) (l6 : Int32) (z6_0 : Int32) (z8_0 : Int32) (z9_0 : Int32) : Nat × Int32 × (Nat → Int32) := (if l4 = 0 then (f_X8_load_148 tnum tret regs mwheel l2 l5 ((regs (Int32.toNatClampNeg l6)) + z6_0) (g_i2b ((g_ushr (mwords (Int32.toNatClampNeg z8_0)) z9_0) &&& (255 : Int32)))) else (if l4 = (4 : Int32) then (f_X8_load_148 tnum tret regs mwheel l2 l5 ((regs (Int32.toNatClampNeg l6)) + z6_0) ((g_ushr (mwords (Int32.toNatClampNeg z8_0)) z9_0) &&& (255 : Int32))) else (f_X8_load_148 tnum tret regs mwheel l2 l5 ((regs (Int32.toNatClampNeg l6)) + z6_0) (mwords (Int32.toNatClampNeg z8_0)))))
def f_X8_load_c105 (tnum : Int32) (tret : Int32) (regs : Nat → Int32) (mwheel : Int32) (mwords : Nat → Int32) (l2 : Int32) (l4 : Int32) (l5 : Int32) (l6 : Int32) (z6_0 : Int32) (z8_0 : Int32) : Nat × Int32 × (Nat → Int32) := (f_X8_load_c115 tnum tret regs mwheel mwords l2 l4 l5 l6 z6_0 z8_0 (f_X8_bitOf ((regs (Int32.toNatClampNeg l6)) + z6_0)))
def f_X8_load_c115_13 (tnum : Int32) (tret : Int32) (regs : Nat → Int32) (tstore : Nat → Int32) (mwheel : Int32) (l2 : Int32) (l4 : Int32) (l5 : Int32) (l6 : Int32) (z6_0 : Int32) (z12_0 : Int32) (z13_0 : Int32) : Nat × Int32 × (Nat → Int32) := (if l4 = 0 then (f_X8_load_148 tnum tret regs mwheel l2 l5 ((regs (Int32.toNatClampNeg l6)) + z6_0) (g_i2b ((g_ushr (tstore (Int32.toNatClampNeg z12_0)) z13_0) &&& (255 : Int32)))) else (if l4 = (4 : Int32) then (f_X8_load_148 tnum tret regs mwheel l2 l5 ((regs (Int32.toNatClampNeg l6)) + z6_0) ((g_ushr (tstore (Int32.toNatClampNeg z12_0)) z13_0) &&& (255 : Int32))) else (f_X8_load_148 tnum tret regs mwheel l2 l5 ((regs (Int32.toNatClampNeg l6)) + z6_0) (tstore (Int32.toNatClampNeg z12_0)))))
def f_X8_load_c105_12 (tnum : Int32) (tret : Int32) (regs : Nat → Int32) (tstore : Nat → Int32) (mwheel : Int32) (l2 : Int32) (l4 : Int32) (l5 : Int32) (l6 : Int32) (z6_0 : Int32) (z12_0 : Int32) : Nat × Int32 × (Nat → Int32) := (f_X8_load_c115_13 tnum tret regs tstore mwheel l2 l4 l5 l6 z6_0 z12_0 (f_X8_bitOf ((regs (Int32.toNatClampNeg l6)) + z6_0)))
def f_X8_load_c86 (tnum : Int32) (tret : Int32) (regs : Nat → Int32) (tstore : Nat → Int32) (mwheel : Int32) (mwords : Nat → Int32) (l2 : Int32) (l4 : Int32) (l5 : Int32) (l6 : Int32) (z6_0 : Int32) (z7_0 : Int32) : Nat × Int32 × (Nat → Int32) := (if z7_0 = 0 then (1002, tret, regs) else (if f_X8_isInStore ((regs (Int32.toNatClampNeg l6)) + z6_0) = 0 then (f_X8_load_c105 tnum tret regs mwheel mwords l2 l4 l5 l6 z6_0 (f_X8_placeOf ((regs (Int32.toNatClampNeg l6)) + z6_0))) else (f_X8_load_c105_12 tnum tret regs tstore mwheel l2 l4 l5 l6 z6_0 (f_X8_placeOf ((regs (Int32.toNatClampNeg l6)) + z6_0)))))
def f_X8_load_c75 (tlow : Int32) (thigh : Int32) (tnum : Int32) (tret : Int32) (regs : Nat → Int32) (tstore : Nat → Int32) (mwheel : Int32) (mwords : Nat → Int32) (l2 : Int32) (l4 : Int32) (l5 : Int32) (l6 : Int32) (z6_0 : Int32) : Nat × Int32 × (Nat → Int32) := (f_X8_load_c86 tnum tret regs tstore mwheel mwords l2 l4 l5 l6 z6_0 (f_X8_canReach ((regs (Int32.toNatClampNeg l6)) + z6_0) l4 tlow thigh))
def f_X8_load_c57 (tlow : Int32) (thigh : Int32) (tnum : Int32) (tret : Int32) (regs : Nat → Int32) (tstore : Nat → Int32) (mwheel : Int32) (mwords : Nat → Int32) (l1 : Int32) (l2 : Int32) (l4 : Int32) (l5 : Int32) (l6 : Int32) (z5_0 : Int32) : Nat × Int32 × (Nat → Int32) := (if z5_0 = 0 then (1002, tret, regs) else (f_X8_load_c75 tlow thigh tnum tret regs tstore mwheel mwords l2 l4 l5 l6 (f_X1_numberI l1)))
def f_X8_load_c49 (tlow : Int32) (thigh : Int32) (tnum : Int32) (tret : Int32) (regs : Nat → Int32) (tstore : Nat → Int32) (mwheel : Int32) (mwords : Nat → Int32) (l1 : Int32) (l2 : Int32) (l4 : Int32) (l5 : Int32) (l6 : Int32) (z4_0 : Int32) : Nat × Int32 × (Nat → Int32) := (if z4_0 = 0 then (1002, tret, regs) else (f_X8_load_c57 tlow thigh tnum tret regs tstore mwheel mwords l1 l2 l4 l5 l6 (f_X10_isRegister l6)))
def f_X8_load_40 (tlow : Int32) (thigh : Int32) (tnum : Int32) (tret : Int32) (regs : Nat → Int32) (tstore : Nat → Int32) (mwheel : Int32) (mwords : Nat → Int32) (l1 : Int32) (l2 : Int32) (l4 : Int32) (l5 : Int32) (l6 : Int32) (s0 : Int32) : Nat × Int32 × (Nat → Int32) := (if s0 = 0 then (1002, tret, regs) else (f_X8_load_c49 tlow thigh tnum tret regs tstore mwheel mwords l1 l2 l4 l5 l6 (f_X10_isRegister l5)))
set_option maxRecDepth 20000 in
theorem j_X8_load_40 {l1 : Int32} {l2 : Int32} {l4 : Int32} {l5 : Int32} {l6 : Int32} {s0 : Int32} {tlow : Int32} {thigh : Int32} {tnum : Int32} {tstat : Int32} {taddr : Int32} {tready : Int32} {tnext : Int32} {tret : Int32} {regs : Nat → Int32} {tstore : Nat → Int32} {hcount : Int32} {haddr : Nat → Int32} {hcyc : Nat → Int32} {hret : Nat → Int32} {tims : Nat → Int32} {mwheel : Int32} {mwords : Nat → Int32} {r_0 : Nat} {r_1 : Int32} {r_2 : (Nat → Int32)} (hres : (r_0, r_1, r_2) = (f_X8_load_40 tlow thigh tnum tret regs tstore mwheel mwords l1 l2 l4 l5 l6 s0)) (hlt : 0 ≤ tlow.toInt ∧ tlow.toInt ≤ thigh.toInt ∧ thigh.toInt ≤ 64) (hwh : 1 ≤ mwheel.toInt ∧ mwheel.toInt ≤ 8) : G M_X8_load 0 0 40 [(0, .ref 0), (1, .int l1), (2, .int l2), (3, .ref 8), (4, .int l4), (5, .int l5), (6, .int l6)] [.int s0] (w_T tlow thigh tnum tstat taddr tready tnext tret regs tstore hcount haddr hcyc hret tims mwheel mwords) (some (.ref r_0)) (w_T tlow thigh tnum tstat taddr tready tnext r_1 r_2 tstore hcount haddr hcyc hret tims mwheel mwords) := by
  rw [f_X8_load_40] at hres
  refine G.istore (pc := 40) (lv1 := [(7, .int s0), (0, .ref 0), (1, .int l1), (2, .int l2), (3, .ref 8), (4, .int l4), (5, .int l5), (6, .int l6)]) dm_X8_load_40 rfl rfl ?_
  refine G.iload (pc := 42) dm_X8_load_42 rfl ?_
  refine G.if_eq (pc := 44) (tgt := 63) dm_X8_load_44 (by decide) (fun c44 => ?_) (fun c44 => ?_)
  · rw [if_pos c44] at hres
    refine G.getstatic (pc := 63) dm_X8_load_63 (Or.inl ⟨2, by decide, rfl⟩) tw613 ?_
    cases hres
    exact G.areturn (pc := 66) dm_X8_load_66 rfl (Or.inl ⟨_, rfl⟩) rfl rfl
  · rw [if_neg c44] at hres
    refine G.iload (pc := 47) dm_X8_load_47 rfl ?_
    obtain ⟨z4_0, hz4⟩ := g_ex1 (f_X10_isRegister l5)
    refine G.callSN (pc := 49) (rest := []) (st1 := [.int z4_0]) (ws1 := (w_T tlow thigh tnum tstat taddr tready tnext tret regs tstore hcount haddr hcyc hret tims mwheel mwords)) [] dm_X8_load_49 gc_X8_load_116 (k_X10_isRegister (k := l5) hz4) rfl rfl rfl rfl rfl rfl rfl rfl ?_
    have hrd := a_isReg hz4
    replace hres : (r_0, r_1, r_2) = f_X8_load_c49 tlow thigh tnum tret regs tstore mwheel mwords l1 l2 l4 l5 l6 z4_0 := hres.trans (by rw [← hz4])
    rw [f_X8_load_c49] at hres
    refine G.if_eq (pc := 52) (tgt := 63) dm_X8_load_52 (by decide) (fun c52 => ?_) (fun c52 => ?_)
    · rw [if_pos c52] at hres
      refine G.getstatic (pc := 63) dm_X8_load_63 (Or.inl ⟨2, by decide, rfl⟩) tw613 ?_
      cases hres
      exact G.areturn (pc := 66) dm_X8_load_66 rfl (Or.inl ⟨_, rfl⟩) rfl rfl
    · rw [if_neg c52] at hres
      refine G.iload (pc := 55) dm_X8_load_55 rfl ?_
      obtain ⟨z5_0, hz5⟩ := g_ex1 (f_X10_isRegister l6)
      refine G.callSN (pc := 57) (rest := []) (st1 := [.int z5_0]) (ws1 := (w_T tlow thigh tnum tstat taddr tready tnext tret regs tstore hcount haddr hcyc hret tims mwheel mwords)) [] dm_X8_load_57 gc_X8_load_116 (k_X10_isRegister (k := l6) hz5) rfl rfl rfl rfl rfl rfl rfl rfl ?_
      have hrs := a_isReg hz5
      replace hres : (r_0, r_1, r_2) = f_X8_load_c57 tlow thigh tnum tret regs tstore mwheel mwords l1 l2 l4 l5 l6 z5_0 := hres.trans (by rw [← hz5])
      rw [f_X8_load_c57] at hres
      refine G.if_ne (pc := 60) (tgt := 67) dm_X8_load_60 (by decide) (fun c60 => ?_) (fun c60 => ?_)
      · rw [if_neg c60] at hres
        have h5 := hrd c52
        have h6 := hrs c60
        refine G.aload_n (pc := 67) dm_X8_load_67 rfl ?_
        refine G.getfield (pc := 68) dm_X8_load_68 gf_X8_9 rfl rfl ?_
        refine G.iload (pc := 71) dm_X8_load_71 rfl ?_
        refine G.iaload (pc := 73) dm_X8_load_73 rfl (q_r16 h6) ?_
        refine G.iload_n (pc := 74) dm_X8_load_74 rfl ?_
        obtain ⟨z6_0, hz6⟩ := g_ex1 (f_X1_numberI l1)
        refine G.callS (pc := 75) (rest := [.int (regs (Int32.toNatClampNeg l6))]) (st1 := [.int z6_0, .int (regs (Int32.toNatClampNeg l6))]) (ws1 := (w_T tlow thigh tnum tstat taddr tready tnext tret regs tstore hcount haddr hcyc hret tims mwheel mwords)) [] dm_X8_load_75 gc_X8_load_135 (k_X1_numberI (x := l1) hz6) rfl rfl rfl rfl rfl rfl rfl rfl ?_
        replace hres : (r_0, r_1, r_2) = f_X8_load_c75 tlow thigh tnum tret regs tstore mwheel mwords l2 l4 l5 l6 z6_0 := hres.trans (by rw [← hz6])
        rw [f_X8_load_c75] at hres
        refine G.iadd (pc := 78) dm_X8_load_78 ?_
        refine G.istore (pc := 79) (lv1 := [(8, .int ((regs (Int32.toNatClampNeg l6)) + z6_0)), (7, .int s0), (0, .ref 0), (1, .int l1), (2, .int l2), (3, .ref 8), (4, .int l4), (5, .int l5), (6, .int l6)]) dm_X8_load_79 rfl rfl ?_
        refine G.aload_n (pc := 81) dm_X8_load_81 rfl ?_
        refine G.iload (pc := 82) dm_X8_load_82 rfl ?_
        refine G.iload (pc := 84) dm_X8_load_84 rfl ?_
        obtain ⟨z7_0, hz7⟩ := g_ex1 (f_X8_canReach ((regs (Int32.toNatClampNeg l6)) + z6_0) l4 tlow thigh)
        refine G.callV (pc := 86) (rest := []) (st1 := [.int z7_0]) (ws1 := (w_T tlow thigh tnum tstat taddr tready tnext tret regs tstore hcount haddr hcyc hret tims mwheel mwords)) [0, 1, 2, 3, 4, 5, 6, 7] dm_X8_load_86 gc_X8_load_154 (k_X8_canReach (at_ := ((regs (Int32.toNatClampNeg l6)) + z6_0)) (f := l4) (tlow := tlow) (thigh := thigh) (tnum := tnum) (tstat := tstat) (taddr := taddr) (tready := tready) (tnext := tnext) (tret := tret) (regs := regs) (tstore := tstore) (hcount := hcount) (haddr := haddr) (hcyc := hcyc) (hret := hret) (tims := tims) hz7) rfl rfl rfl rfl rfl rfl rfl rfl rfl rfl ?_
        have hre := a_X8_canReach hz7 hlt rfl
        replace hres : (r_0, r_1, r_2) = f_X8_load_c86 tnum tret regs tstore mwheel mwords l2 l4 l5 l6 z6_0 z7_0 := hres.trans (by rw [← hz7])
        rw [f_X8_load_c86] at hres
        refine G.if_ne (pc := 89) (tgt := 96) dm_X8_load_89 (by decide) (fun c89 => ?_) (fun c89 => ?_)
        · rw [if_neg c89] at hres
          have hwa := hre c89
          refine G.aload_n (pc := 96) dm_X8_load_96 rfl ?_
          refine G.iload (pc := 97) dm_X8_load_97 rfl ?_
          refine G.aload_n (pc := 99) dm_X8_load_99 rfl ?_
          by_cases d100 : f_X8_isInStore ((regs (Int32.toNatClampNeg l6)) + z6_0) = 0
          · rw [if_pos d100] at hres
            refine G.callV0 (pc := 100) (rest := []) (st1 := [.ref 9]) dm_X8_load_100 gc_X8_load_157 (k_X8_rowOf_a (at_ := ((regs (Int32.toNatClampNeg l6)) + z6_0)) (tlow := tlow) (thigh := thigh) (tnum := tnum) (tstat := tstat) (taddr := taddr) (tready := tready) (tnext := tnext) (tret := tret) (regs := regs) (tstore := tstore) (hcount := hcount) (haddr := haddr) (hcyc := hcyc) (hret := hret) (tims := tims) (mwheel := mwheel) (mwords := mwords) d100) rfl rfl rfl rfl rfl rfl rfl rfl ?_
            refine G.iload (pc := 103) dm_X8_load_103 rfl ?_
            obtain ⟨z8_0, hz8⟩ := g_ex1 (f_X8_placeOf ((regs (Int32.toNatClampNeg l6)) + z6_0))
            refine G.callS (pc := 105) (rest := [.ref 9]) (st1 := [.int z8_0, .ref 9]) (ws1 := (w_T tlow thigh tnum tstat taddr tready tnext tret regs tstore hcount haddr hcyc hret tims mwheel mwords)) [] dm_X8_load_105 gc_X8_load_161 (k_X8_placeOf (at_ := ((regs (Int32.toNatClampNeg l6)) + z6_0)) hz8) rfl rfl rfl rfl rfl rfl rfl rfl ?_
            have hpl := a_placeOf hz8 hwa
            replace hres : (r_0, r_1, r_2) = f_X8_load_c105 tnum tret regs mwheel mwords l2 l4 l5 l6 z6_0 z8_0 := hres.trans (by rw [← hz8])
            rw [f_X8_load_c105] at hres
            refine G.iaload (pc := 108) dm_X8_load_108 rfl (by first | exact hpl.1 d100 | exact hpl.2 d100) ?_
            refine G.istore (pc := 109) (lv1 := [(9, .int (mwords (Int32.toNatClampNeg z8_0))), (8, .int ((regs (Int32.toNatClampNeg l6)) + z6_0)), (7, .int s0), (0, .ref 0), (1, .int l1), (2, .int l2), (3, .ref 8), (4, .int l4), (5, .int l5), (6, .int l6)]) dm_X8_load_109 rfl rfl ?_
            refine G.iload (pc := 111) dm_X8_load_111 rfl ?_
            refine G.iload (pc := 113) dm_X8_load_113 rfl ?_
            obtain ⟨z9_0, hz9⟩ := g_ex1 (f_X8_bitOf ((regs (Int32.toNatClampNeg l6)) + z6_0))
            refine G.callS (pc := 115) (rest := [.int (mwords (Int32.toNatClampNeg z8_0))]) (st1 := [.int z9_0, .int (mwords (Int32.toNatClampNeg z8_0))]) (ws1 := (w_T tlow thigh tnum tstat taddr tready tnext tret regs tstore hcount haddr hcyc hret tims mwheel mwords)) [] dm_X8_load_115 gc_X8_load_164 (k_X8_bitOf (at_ := ((regs (Int32.toNatClampNeg l6)) + z6_0)) hz9) rfl rfl rfl rfl rfl rfl rfl rfl ?_
            replace hres : (r_0, r_1, r_2) = f_X8_load_c115 tnum tret regs mwheel mwords l2 l4 l5 l6 z6_0 z8_0 z9_0 := hres.trans (by rw [← hz9])
            rw [f_X8_load_c115] at hres
            refine G.iushr (pc := 118) dm_X8_load_118 ?_
            refine G.sipush (pc := 119) (v := (255 : Int32)) dm_X8_load_119 qs_255 ?_
            refine G.iand (pc := 122) dm_X8_load_122 ?_
            refine G.istore (pc := 123) (lv1 := [(10, .int ((g_ushr (mwords (Int32.toNatClampNeg z8_0)) z9_0) &&& (255 : Int32))), (9, .int (mwords (Int32.toNatClampNeg z8_0))), (8, .int ((regs (Int32.toNatClampNeg l6)) + z6_0)), (7, .int s0), (0, .ref 0), (1, .int l1), (2, .int l2), (3, .ref 8), (4, .int l4), (5, .int l5), (6, .int l6)]) dm_X8_load_123 rfl rfl ?_
            refine G.iload (pc := 125) dm_X8_load_125 rfl ?_
            refine G.if_ne (pc := 127) (tgt := 138) dm_X8_load_127 (by decide) (fun c127 => ?_) (fun c127 => ?_)
            · rw [if_neg c127] at hres
              refine G.iload (pc := 138) dm_X8_load_138 rfl ?_
              refine G.iconst (pc := 140) (v := (4 : Int32)) dm_X8_load_140 qi_4 ?_
              refine G.icmp_ne (pc := 141) (tgt := 148) dm_X8_load_141 (by decide) (fun c141 => ?_) (fun c141 => ?_)
              · rw [if_neg c141] at hres
                refine G.lvp [4, 6, 7, 9, 2, 1] rfl ?_
                exact j_X8_load_148 hres (by assumption) (by assumption)
              · rw [if_pos c141] at hres
                refine G.iload (pc := 144) dm_X8_load_144 rfl ?_
                refine G.istore (pc := 146) (lv1 := [(9, .int ((g_ushr (mwords (Int32.toNatClampNeg z8_0)) z9_0) &&& (255 : Int32))), (10, .int ((g_ushr (mwords (Int32.toNatClampNeg z8_0)) z9_0) &&& (255 : Int32))), (8, .int ((regs (Int32.toNatClampNeg l6)) + z6_0)), (7, .int s0), (0, .ref 0), (1, .int l1), (2, .int l2), (3, .ref 8), (4, .int l4), (5, .int l5), (6, .int l6)]) dm_X8_load_146 rfl rfl ?_
                refine G.lvp [4, 6, 7, 9, 2, 0] rfl ?_
                exact j_X8_load_148 hres (by assumption) (by assumption)
            · rw [if_pos c127] at hres
              refine G.iload (pc := 130) dm_X8_load_130 rfl ?_
              refine G.i2b (pc := 132) dm_X8_load_132 ?_
              refine G.istore (pc := 133) (lv1 := [(9, .int (g_i2b ((g_ushr (mwords (Int32.toNatClampNeg z8_0)) z9_0) &&& (255 : Int32)))), (10, .int ((g_ushr (mwords (Int32.toNatClampNeg z8_0)) z9_0) &&& (255 : Int32))), (8, .int ((regs (Int32.toNatClampNeg l6)) + z6_0)), (7, .int s0), (0, .ref 0), (1, .int l1), (2, .int l2), (3, .ref 8), (4, .int l4), (5, .int l5), (6, .int l6)]) dm_X8_load_133 rfl rfl ?_
              refine G.goto (pc := 135) (tgt := 148) dm_X8_load_135 (by decide) ?_
              refine G.lvp [4, 6, 7, 9, 2, 0] rfl ?_
              exact j_X8_load_148 hres (by assumption) (by assumption)
          · rw [if_neg d100] at hres
            refine G.callV0 (pc := 100) (rest := []) (st1 := [.ref 2]) dm_X8_load_100 gc_X8_load_157 (k_X8_rowOf_b (at_ := ((regs (Int32.toNatClampNeg l6)) + z6_0)) (tlow := tlow) (thigh := thigh) (tnum := tnum) (tstat := tstat) (taddr := taddr) (tready := tready) (tnext := tnext) (tret := tret) (regs := regs) (tstore := tstore) (hcount := hcount) (haddr := haddr) (hcyc := hcyc) (hret := hret) (tims := tims) (mwheel := mwheel) (mwords := mwords) d100) rfl rfl rfl rfl rfl rfl rfl rfl ?_
            refine G.iload (pc := 103) dm_X8_load_103 rfl ?_
            obtain ⟨z12_0, hz12⟩ := g_ex1 (f_X8_placeOf ((regs (Int32.toNatClampNeg l6)) + z6_0))
            refine G.callS (pc := 105) (rest := [.ref 2]) (st1 := [.int z12_0, .ref 2]) (ws1 := (w_T tlow thigh tnum tstat taddr tready tnext tret regs tstore hcount haddr hcyc hret tims mwheel mwords)) [] dm_X8_load_105 gc_X8_load_161 (k_X8_placeOf (at_ := ((regs (Int32.toNatClampNeg l6)) + z6_0)) hz12) rfl rfl rfl rfl rfl rfl rfl rfl ?_
            have hpl := a_placeOf hz12 hwa
            replace hres : (r_0, r_1, r_2) = f_X8_load_c105_12 tnum tret regs tstore mwheel l2 l4 l5 l6 z6_0 z12_0 := hres.trans (by rw [← hz12])
            rw [f_X8_load_c105_12] at hres
            refine G.iaload (pc := 108) dm_X8_load_108 rfl (by first | exact hpl.1 d100 | exact hpl.2 d100) ?_
            refine G.istore (pc := 109) (lv1 := [(9, .int (tstore (Int32.toNatClampNeg z12_0))), (8, .int ((regs (Int32.toNatClampNeg l6)) + z6_0)), (7, .int s0), (0, .ref 0), (1, .int l1), (2, .int l2), (3, .ref 8), (4, .int l4), (5, .int l5), (6, .int l6)]) dm_X8_load_109 rfl rfl ?_
            refine G.iload (pc := 111) dm_X8_load_111 rfl ?_
            refine G.iload (pc := 113) dm_X8_load_113 rfl ?_
            obtain ⟨z13_0, hz13⟩ := g_ex1 (f_X8_bitOf ((regs (Int32.toNatClampNeg l6)) + z6_0))
            refine G.callS (pc := 115) (rest := [.int (tstore (Int32.toNatClampNeg z12_0))]) (st1 := [.int z13_0, .int (tstore (Int32.toNatClampNeg z12_0))]) (ws1 := (w_T tlow thigh tnum tstat taddr tready tnext tret regs tstore hcount haddr hcyc hret tims mwheel mwords)) [] dm_X8_load_115 gc_X8_load_164 (k_X8_bitOf (at_ := ((regs (Int32.toNatClampNeg l6)) + z6_0)) hz13) rfl rfl rfl rfl rfl rfl rfl rfl ?_
            replace hres : (r_0, r_1, r_2) = f_X8_load_c115_13 tnum tret regs tstore mwheel l2 l4 l5 l6 z6_0 z12_0 z13_0 := hres.trans (by rw [← hz13])
            rw [f_X8_load_c115_13] at hres
            refine G.iushr (pc := 118) dm_X8_load_118 ?_
            refine G.sipush (pc := 119) (v := (255 : Int32)) dm_X8_load_119 qs_255 ?_
            refine G.iand (pc := 122) dm_X8_load_122 ?_
            refine G.istore (pc := 123) (lv1 := [(10, .int ((g_ushr (tstore (Int32.toNatClampNeg z12_0)) z13_0) &&& (255 : Int32))), (9, .int (tstore (Int32.toNatClampNeg z12_0))), (8, .int ((regs (Int32.toNatClampNeg l6)) + z6_0)), (7, .int s0), (0, .ref 0), (1, .int l1), (2, .int l2), (3, .ref 8), (4, .int l4), (5, .int l5), (6, .int l6)]) dm_X8_load_123 rfl rfl ?_
            refine G.iload (pc := 125) dm_X8_load_125 rfl ?_
            refine G.if_ne (pc := 127) (tgt := 138) dm_X8_load_127 (by decide) (fun c127 => ?_) (fun c127 => ?_)
            · rw [if_neg c127] at hres
              refine G.iload (pc := 138) dm_X8_load_138 rfl ?_
              refine G.iconst (pc := 140) (v := (4 : Int32)) dm_X8_load_140 qi_4 ?_
              refine G.icmp_ne (pc := 141) (tgt := 148) dm_X8_load_141 (by decide) (fun c141 => ?_) (fun c141 => ?_)
              · rw [if_neg c141] at hres
                refine G.lvp [4, 6, 7, 9, 2, 1] rfl ?_
                exact j_X8_load_148 hres (by assumption) (by assumption)
              · rw [if_pos c141] at hres
                refine G.iload (pc := 144) dm_X8_load_144 rfl ?_
                refine G.istore (pc := 146) (lv1 := [(9, .int ((g_ushr (tstore (Int32.toNatClampNeg z12_0)) z13_0) &&& (255 : Int32))), (10, .int ((g_ushr (tstore (Int32.toNatClampNeg z12_0)) z13_0) &&& (255 : Int32))), (8, .int ((regs (Int32.toNatClampNeg l6)) + z6_0)), (7, .int s0), (0, .ref 0), (1, .int l1), (2, .int l2), (3, .ref 8), (4, .int l4), (5, .int l5), (6, .int l6)]) dm_X8_load_146 rfl rfl ?_
                refine G.lvp [4, 6, 7, 9, 2, 0] rfl ?_
                exact j_X8_load_148 hres (by assumption) (by assumption)
            · rw [if_pos c127] at hres
              refine G.iload (pc := 130) dm_X8_load_130 rfl ?_
              refine G.i2b (pc := 132) dm_X8_load_132 ?_
              refine G.istore (pc := 133) (lv1 := [(9, .int (g_i2b ((g_ushr (tstore (Int32.toNatClampNeg z12_0)) z13_0) &&& (255 : Int32)))), (10, .int ((g_ushr (tstore (Int32.toNatClampNeg z12_0)) z13_0) &&& (255 : Int32))), (8, .int ((regs (Int32.toNatClampNeg l6)) + z6_0)), (7, .int s0), (0, .ref 0), (1, .int l1), (2, .int l2), (3, .ref 8), (4, .int l4), (5, .int l5), (6, .int l6)]) dm_X8_load_133 rfl rfl ?_
              refine G.goto (pc := 135) (tgt := 148) dm_X8_load_135 (by decide) ?_
              refine G.lvp [4, 6, 7, 9, 2, 0] rfl ?_
              exact j_X8_load_148 hres (by assumption) (by assumption)
        · rw [if_pos c89] at hres
          refine G.getstatic (pc := 92) dm_X8_load_92 (Or.inl ⟨2, by decide, rfl⟩) tw613 ?_
          cases hres
          exact G.areturn (pc := 95) dm_X8_load_95 rfl (Or.inl ⟨_, rfl⟩) rfl rfl
      · rw [if_pos c60] at hres
        refine G.getstatic (pc := 63) dm_X8_load_63 (Or.inl ⟨2, by decide, rfl⟩) tw613 ?_
        cases hres
        exact G.areturn (pc := 66) dm_X8_load_66 rfl (Or.inl ⟨_, rfl⟩) rfl rfl
def f_X8_load_c13 (word : Int32) (cycle : Int32) (tlow : Int32) (thigh : Int32) (tnum : Int32) (tret : Int32) (regs : Nat → Int32) (tstore : Nat → Int32) (mwheel : Int32) (mwords : Nat → Int32) (z1_0 : Int32) (z2_0 : Int32) (z3_0 : Int32) : Nat × Int32 × (Nat → Int32) := (if z1_0 = (2 : Int32) then (f_X8_load_40 tlow thigh tnum tret regs tstore mwheel mwords word cycle z1_0 z2_0 z3_0 (1 : Int32)) else (if z1_0 = 0 then (f_X8_load_40 tlow thigh tnum tret regs tstore mwheel mwords word cycle z1_0 z2_0 z3_0 (1 : Int32)) else (if z1_0 = (4 : Int32) then (f_X8_load_40 tlow thigh tnum tret regs tstore mwheel mwords word cycle z1_0 z2_0 z3_0 (1 : Int32)) else (f_X8_load_40 tlow thigh tnum tret regs tstore mwheel mwords word cycle z1_0 z2_0 z3_0 (0 : Int32)))))
def f_X8_load_c7 (word : Int32) (cycle : Int32) (tlow : Int32) (thigh : Int32) (tnum : Int32) (tret : Int32) (regs : Nat → Int32) (tstore : Nat → Int32) (mwheel : Int32) (mwords : Nat → Int32) (z1_0 : Int32) (z2_0 : Int32) : Nat × Int32 × (Nat → Int32) := (f_X8_load_c13 word cycle tlow thigh tnum tret regs tstore mwheel mwords z1_0 z2_0 (f_X1_rs word))
def f_X8_load_c1 (word : Int32) (cycle : Int32) (tlow : Int32) (thigh : Int32) (tnum : Int32) (tret : Int32) (regs : Nat → Int32) (tstore : Nat → Int32) (mwheel : Int32) (mwords : Nat → Int32) (z1_0 : Int32) : Nat × Int32 × (Nat → Int32) := (f_X8_load_c7 word cycle tlow thigh tnum tret regs tstore mwheel mwords z1_0 (f_X1_rd word))
def f_X8_load (word : Int32) (cycle : Int32) (tlow : Int32) (thigh : Int32) (tnum : Int32) (tret : Int32) (regs : Nat → Int32) (tstore : Nat → Int32) (mwheel : Int32) (mwords : Nat → Int32) : Nat × Int32 × (Nat → Int32) := (f_X8_load_c1 word cycle tlow thigh tnum tret regs tstore mwheel mwords (f_X1_f word))
set_option maxRecDepth 20000 in
theorem k_X8_load {word : Int32} {cycle : Int32} {tlow : Int32} {thigh : Int32} {tnum : Int32} {tstat : Int32} {taddr : Int32} {tready : Int32} {tnext : Int32} {tret : Int32} {regs : Nat → Int32} {tstore : Nat → Int32} {hcount : Int32} {haddr : Nat → Int32} {hcyc : Nat → Int32} {hret : Nat → Int32} {tims : Nat → Int32} {mwheel : Int32} {mwords : Nat → Int32} (hlt : 0 ≤ tlow.toInt ∧ tlow.toInt ≤ thigh.toInt ∧ thigh.toInt ≤ 64) (hwh : 1 ≤ mwheel.toInt ∧ mwheel.toInt ≤ 8) {r_0 : Nat} {r_1 : Int32} {r_2 : (Nat → Int32)} (hres : (r_0, r_1, r_2) = f_X8_load word cycle tlow thigh tnum tret regs tstore mwheel mwords) : K M_X8_load yX8_load [.ref 0, .int word, .int cycle, .ref 8] (w_T tlow thigh tnum tstat taddr tready tnext tret regs tstore hcount haddr hcyc hret tims mwheel mwords) (some (.ref r_0)) (w_T tlow thigh tnum tstat taddr tready tnext r_1 r_2 tstore hcount haddr hcyc hret tims mwheel mwords) := by
  refine K.of (lv := [(0, .ref 0), (1, .int word), (2, .int cycle), (3, .ref 8)]) (by decide +kernel) rfl rfl rfl ?_
  rw [f_X8_load] at hres
  refine G.iload_n (pc := 0) dm_X8_load_0 rfl ?_
  obtain ⟨z1_0, hz1⟩ := g_ex1 (f_X1_f word)
  refine G.callS (pc := 1) (rest := []) (st1 := [.int z1_0]) (ws1 := (w_T tlow thigh tnum tstat taddr tready tnext tret regs tstore hcount haddr hcyc hret tims mwheel mwords)) [] dm_X8_load_1 gc_X8_load_132 (k_X1_f (x := word) hz1) rfl rfl rfl rfl rfl rfl rfl rfl ?_
  replace hres : (r_0, r_1, r_2) = f_X8_load_c1 word cycle tlow thigh tnum tret regs tstore mwheel mwords z1_0 := hres.trans (by rw [← hz1])
  rw [f_X8_load_c1] at hres
  refine G.istore (pc := 4) (lv1 := [(4, .int z1_0), (0, .ref 0), (1, .int word), (2, .int cycle), (3, .ref 8)]) dm_X8_load_4 rfl rfl ?_
  refine G.iload_n (pc := 6) dm_X8_load_6 rfl ?_
  obtain ⟨z2_0, hz2⟩ := g_ex1 (f_X1_rd word)
  refine G.callS (pc := 7) (rest := []) (st1 := [.int z2_0]) (ws1 := (w_T tlow thigh tnum tstat taddr tready tnext tret regs tstore hcount haddr hcyc hret tims mwheel mwords)) [] dm_X8_load_7 gc_X8_load_113 (k_X1_rd (x := word) hz2) rfl rfl rfl rfl rfl rfl rfl rfl ?_
  replace hres : (r_0, r_1, r_2) = f_X8_load_c7 word cycle tlow thigh tnum tret regs tstore mwheel mwords z1_0 z2_0 := hres.trans (by rw [← hz2])
  rw [f_X8_load_c7] at hres
  refine G.istore (pc := 10) (lv1 := [(5, .int z2_0), (4, .int z1_0), (0, .ref 0), (1, .int word), (2, .int cycle), (3, .ref 8)]) dm_X8_load_10 rfl rfl ?_
  refine G.iload_n (pc := 12) dm_X8_load_12 rfl ?_
  obtain ⟨z3_0, hz3⟩ := g_ex1 (f_X1_rs word)
  refine G.callS (pc := 13) (rest := []) (st1 := [.int z3_0]) (ws1 := (w_T tlow thigh tnum tstat taddr tready tnext tret regs tstore hcount haddr hcyc hret tims mwheel mwords)) [] dm_X8_load_13 gc_X8_load_129 (k_X1_rs (x := word) hz3) rfl rfl rfl rfl rfl rfl rfl rfl ?_
  replace hres : (r_0, r_1, r_2) = f_X8_load_c13 word cycle tlow thigh tnum tret regs tstore mwheel mwords z1_0 z2_0 z3_0 := hres.trans (by rw [← hz3])
  rw [f_X8_load_c13] at hres
  refine G.istore (pc := 16) (lv1 := [(6, .int z3_0), (5, .int z2_0), (4, .int z1_0), (0, .ref 0), (1, .int word), (2, .int cycle), (3, .ref 8)]) dm_X8_load_16 rfl rfl ?_
  refine G.iload (pc := 18) dm_X8_load_18 rfl ?_
  refine G.iconst (pc := 20) (v := (2 : Int32)) dm_X8_load_20 qi_2 ?_
  refine G.icmp_eq (pc := 21) (tgt := 35) dm_X8_load_21 (by decide) (fun c21 => ?_) (fun c21 => ?_)
  · rw [if_pos c21] at hres
    refine G.iconst (pc := 35) (v := (1 : Int32)) dm_X8_load_35 qi_1 ?_
    refine G.goto (pc := 36) (tgt := 40) dm_X8_load_36 (by decide) ?_
    refine G.lvp [3, 4, 5, 6, 2, 1, 0] rfl ?_
    exact j_X8_load_40 hres (by assumption) (by assumption)
  · rw [if_neg c21] at hres
    refine G.iload (pc := 24) dm_X8_load_24 rfl ?_
    refine G.if_eq (pc := 26) (tgt := 35) dm_X8_load_26 (by decide) (fun c26 => ?_) (fun c26 => ?_)
    · rw [if_pos c26] at hres
      refine G.iconst (pc := 35) (v := (1 : Int32)) dm_X8_load_35 qi_1 ?_
      refine G.goto (pc := 36) (tgt := 40) dm_X8_load_36 (by decide) ?_
      refine G.lvp [3, 4, 5, 6, 2, 1, 0] rfl ?_
      exact j_X8_load_40 hres (by assumption) (by assumption)
    · rw [if_neg c26] at hres
      refine G.iload (pc := 29) dm_X8_load_29 rfl ?_
      refine G.iconst (pc := 31) (v := (4 : Int32)) dm_X8_load_31 qi_4 ?_
      refine G.icmp_ne (pc := 32) (tgt := 39) dm_X8_load_32 (by decide) (fun c32 => ?_) (fun c32 => ?_)
      · rw [if_neg c32] at hres
        refine G.iconst (pc := 39) (v := (0 : Int32)) dm_X8_load_39 qi_0 ?_
        refine G.lvp [3, 4, 5, 6, 2, 1, 0] rfl ?_
        exact j_X8_load_40 hres (by assumption) (by assumption)
      · rw [if_pos c32] at hres
        refine G.iconst (pc := 35) (v := (1 : Int32)) dm_X8_load_35 qi_1 ?_
        refine G.goto (pc := 36) (tgt := 40) dm_X8_load_36 (by decide) ?_
        refine G.lvp [3, 4, 5, 6, 2, 1, 0] rfl ?_
        exact j_X8_load_40 hres (by assumption) (by assumption)
theorem o_X8_load_148 {l2 : Int32} {l5 : Int32} {l8 : Int32} {l9 : Int32} {tnum : Int32} {tret : Int32} {regs : Nat → Int32} {mwheel : Int32} {r_0 : Nat} {r_1 : Int32} {r_2 : (Nat → Int32)} (hres : (r_0, r_1, r_2) = (f_X8_load_148 tnum tret regs mwheel l2 l5 l8 l9)) : 1000 ≤ r_0 ∧ r_0 < 1003 := by
  rw [f_X8_load_148] at hres
  obtain ⟨z10_0, hz10⟩ := g_ex1 (f_X8_setRegister l5 l9 regs)
  replace hres : (r_0, r_1, r_2) = f_X8_load_c153 tnum tret mwheel l2 l8 z10_0 := hres.trans (by rw [← hz10])
  rw [f_X8_load_c153] at hres
  obtain ⟨z11_0, hz11⟩ := g_ex1 (f_X8_setRetirement l8 l2 tnum tret mwheel)
  replace hres : (r_0, r_1, r_2) = f_X8_load_c161 z10_0 z11_0 := hres.trans (by rw [← hz11])
  rw [f_X8_load_c161] at hres
  cases hres
  exact (by first | exact hoz | decide)
theorem o_X8_load_40 {l1 : Int32} {l2 : Int32} {l4 : Int32} {l5 : Int32} {l6 : Int32} {s0 : Int32} {tlow : Int32} {thigh : Int32} {tnum : Int32} {tret : Int32} {regs : Nat → Int32} {tstore : Nat → Int32} {mwheel : Int32} {mwords : Nat → Int32} {r_0 : Nat} {r_1 : Int32} {r_2 : (Nat → Int32)} (hres : (r_0, r_1, r_2) = (f_X8_load_40 tlow thigh tnum tret regs tstore mwheel mwords l1 l2 l4 l5 l6 s0)) : 1000 ≤ r_0 ∧ r_0 < 1003 := by
  rw [f_X8_load_40] at hres
  by_cases c44 : s0 = 0
  · rw [if_pos c44] at hres
    cases hres
    exact (by first | exact hoz | decide)
  · rw [if_neg c44] at hres
    obtain ⟨z4_0, hz4⟩ := g_ex1 (f_X10_isRegister l5)
    replace hres : (r_0, r_1, r_2) = f_X8_load_c49 tlow thigh tnum tret regs tstore mwheel mwords l1 l2 l4 l5 l6 z4_0 := hres.trans (by rw [← hz4])
    rw [f_X8_load_c49] at hres
    by_cases c52 : z4_0 = 0
    · rw [if_pos c52] at hres
      cases hres
      exact (by first | exact hoz | decide)
    · rw [if_neg c52] at hres
      obtain ⟨z5_0, hz5⟩ := g_ex1 (f_X10_isRegister l6)
      replace hres : (r_0, r_1, r_2) = f_X8_load_c57 tlow thigh tnum tret regs tstore mwheel mwords l1 l2 l4 l5 l6 z5_0 := hres.trans (by rw [← hz5])
      rw [f_X8_load_c57] at hres
      by_cases c60 : z5_0 = 0
      · rw [if_pos c60] at hres
        cases hres
        exact (by first | exact hoz | decide)
      · rw [if_neg c60] at hres
        obtain ⟨z6_0, hz6⟩ := g_ex1 (f_X1_numberI l1)
        replace hres : (r_0, r_1, r_2) = f_X8_load_c75 tlow thigh tnum tret regs tstore mwheel mwords l2 l4 l5 l6 z6_0 := hres.trans (by rw [← hz6])
        rw [f_X8_load_c75] at hres
        obtain ⟨z7_0, hz7⟩ := g_ex1 (f_X8_canReach ((regs (Int32.toNatClampNeg l6)) + z6_0) l4 tlow thigh)
        replace hres : (r_0, r_1, r_2) = f_X8_load_c86 tnum tret regs tstore mwheel mwords l2 l4 l5 l6 z6_0 z7_0 := hres.trans (by rw [← hz7])
        rw [f_X8_load_c86] at hres
        by_cases c89 : z7_0 = 0
        · rw [if_pos c89] at hres
          cases hres
          exact (by first | exact hoz | decide)
        · rw [if_neg c89] at hres
          by_cases d100 : f_X8_isInStore ((regs (Int32.toNatClampNeg l6)) + z6_0) = 0
          · rw [if_pos d100] at hres
            obtain ⟨z8_0, hz8⟩ := g_ex1 (f_X8_placeOf ((regs (Int32.toNatClampNeg l6)) + z6_0))
            replace hres : (r_0, r_1, r_2) = f_X8_load_c105 tnum tret regs mwheel mwords l2 l4 l5 l6 z6_0 z8_0 := hres.trans (by rw [← hz8])
            rw [f_X8_load_c105] at hres
            obtain ⟨z9_0, hz9⟩ := g_ex1 (f_X8_bitOf ((regs (Int32.toNatClampNeg l6)) + z6_0))
            replace hres : (r_0, r_1, r_2) = f_X8_load_c115 tnum tret regs mwheel mwords l2 l4 l5 l6 z6_0 z8_0 z9_0 := hres.trans (by rw [← hz9])
            rw [f_X8_load_c115] at hres
            by_cases c127 : l4 = 0
            · rw [if_pos c127] at hres
              exact o_X8_load_148 hres 
            · rw [if_neg c127] at hres
              by_cases c141 : l4 = (4 : Int32)
              · rw [if_pos c141] at hres
                exact o_X8_load_148 hres 
              · rw [if_neg c141] at hres
                exact o_X8_load_148 hres 
          · rw [if_neg d100] at hres
            obtain ⟨z12_0, hz12⟩ := g_ex1 (f_X8_placeOf ((regs (Int32.toNatClampNeg l6)) + z6_0))
            replace hres : (r_0, r_1, r_2) = f_X8_load_c105_12 tnum tret regs tstore mwheel l2 l4 l5 l6 z6_0 z12_0 := hres.trans (by rw [← hz12])
            rw [f_X8_load_c105_12] at hres
            obtain ⟨z13_0, hz13⟩ := g_ex1 (f_X8_bitOf ((regs (Int32.toNatClampNeg l6)) + z6_0))
            replace hres : (r_0, r_1, r_2) = f_X8_load_c115_13 tnum tret regs tstore mwheel l2 l4 l5 l6 z6_0 z12_0 z13_0 := hres.trans (by rw [← hz13])
            rw [f_X8_load_c115_13] at hres
            by_cases c127 : l4 = 0
            · rw [if_pos c127] at hres
              exact o_X8_load_148 hres 
            · rw [if_neg c127] at hres
              by_cases c141 : l4 = (4 : Int32)
              · rw [if_pos c141] at hres
                exact o_X8_load_148 hres 
              · rw [if_neg c141] at hres
                exact o_X8_load_148 hres 
theorem o_X8_load {word : Int32} {cycle : Int32} {tlow : Int32} {thigh : Int32} {tnum : Int32} {tret : Int32} {regs : Nat → Int32} {tstore : Nat → Int32} {mwheel : Int32} {mwords : Nat → Int32} {r_0 : Nat} {r_1 : Int32} {r_2 : (Nat → Int32)} (hres : (r_0, r_1, r_2) = f_X8_load word cycle tlow thigh tnum tret regs tstore mwheel mwords) : 1000 ≤ r_0 ∧ r_0 < 1003 := by
  rw [f_X8_load] at hres
  obtain ⟨z1_0, hz1⟩ := g_ex1 (f_X1_f word)
  replace hres : (r_0, r_1, r_2) = f_X8_load_c1 word cycle tlow thigh tnum tret regs tstore mwheel mwords z1_0 := hres.trans (by rw [← hz1])
  rw [f_X8_load_c1] at hres
  obtain ⟨z2_0, hz2⟩ := g_ex1 (f_X1_rd word)
  replace hres : (r_0, r_1, r_2) = f_X8_load_c7 word cycle tlow thigh tnum tret regs tstore mwheel mwords z1_0 z2_0 := hres.trans (by rw [← hz2])
  rw [f_X8_load_c7] at hres
  obtain ⟨z3_0, hz3⟩ := g_ex1 (f_X1_rs word)
  replace hres : (r_0, r_1, r_2) = f_X8_load_c13 word cycle tlow thigh tnum tret regs tstore mwheel mwords z1_0 z2_0 z3_0 := hres.trans (by rw [← hz3])
  rw [f_X8_load_c13] at hres
  by_cases c21 : z1_0 = (2 : Int32)
  · rw [if_pos c21] at hres
    exact o_X8_load_40 hres 
  · rw [if_neg c21] at hres
    by_cases c26 : z1_0 = 0
    · rw [if_pos c26] at hres
      exact o_X8_load_40 hres 
    · rw [if_neg c26] at hres
      by_cases c32 : z1_0 = (4 : Int32)
      · rw [if_pos c32] at hres
        exact o_X8_load_40 hres 
      · rw [if_neg c32] at hres
        exact o_X8_load_40 hres 
abbrev M_X8_save : g_M := (cX8_save, 13, RX8, (some (.object "TimedThreads$Outcome")), { frames := 3, cells := 0, slots := 0, locals := 68 }, 0, 0)
theorem dm_X8_save_0 : decode M_X8_save.1 0 = .ok (.iload_n 1, 1) := by decide +kernel
theorem dm_X8_save_1 : decode M_X8_save.1 1 = .ok (.invokestatic 132, 3) := by decide +kernel
theorem dm_X8_save_4 : decode M_X8_save.1 4 = .ok (.istore 4, 2) := by decide +kernel
theorem dm_X8_save_6 : decode M_X8_save.1 6 = .ok (.iload_n 1, 1) := by decide +kernel
theorem dm_X8_save_7 : decode M_X8_save.1 7 = .ok (.invokestatic 129, 3) := by decide +kernel
theorem dm_X8_save_10 : decode M_X8_save.1 10 = .ok (.istore 5, 2) := by decide +kernel
theorem dm_X8_save_12 : decode M_X8_save.1 12 = .ok (.iload_n 1, 1) := by decide +kernel
theorem dm_X8_save_13 : decode M_X8_save.1 13 = .ok (.invokestatic 138, 3) := by decide +kernel
theorem dm_X8_save_16 : decode M_X8_save.1 16 = .ok (.istore 6, 2) := by decide +kernel
theorem dm_X8_save_18 : decode M_X8_save.1 18 = .ok (.iload 4, 2) := by decide +kernel
theorem dm_X8_save_20 : decode M_X8_save.1 20 = .ok (.iconst 2, 1) := by decide +kernel
theorem dm_X8_save_21 : decode M_X8_save.1 21 = .ok (.if_icmp .eq 8, 3) := by decide +kernel
theorem dm_X8_save_24 : decode M_X8_save.1 24 = .ok (.iload 4, 2) := by decide +kernel
theorem dm_X8_save_26 : decode M_X8_save.1 26 = .ok (.ifCond .ne 7, 3) := by decide +kernel
theorem dm_X8_save_29 : decode M_X8_save.1 29 = .ok (.iconst 1, 1) := by decide +kernel
theorem dm_X8_save_30 : decode M_X8_save.1 30 = .ok (.goto 4, 3) := by decide +kernel
theorem dm_X8_save_33 : decode M_X8_save.1 33 = .ok (.iconst 0, 1) := by decide +kernel
theorem dm_X8_save_34 : decode M_X8_save.1 34 = .ok (.istore 7, 2) := by decide +kernel
theorem dm_X8_save_36 : decode M_X8_save.1 36 = .ok (.iload 7, 2) := by decide +kernel
theorem dm_X8_save_38 : decode M_X8_save.1 38 = .ok (.ifCond .eq 19, 3) := by decide +kernel
theorem dm_X8_save_41 : decode M_X8_save.1 41 = .ok (.iload 5, 2) := by decide +kernel
theorem dm_X8_save_43 : decode M_X8_save.1 43 = .ok (.invokestatic 116, 3) := by decide +kernel
theorem dm_X8_save_46 : decode M_X8_save.1 46 = .ok (.ifCond .eq 11, 3) := by decide +kernel
theorem dm_X8_save_49 : decode M_X8_save.1 49 = .ok (.iload 6, 2) := by decide +kernel
theorem dm_X8_save_51 : decode M_X8_save.1 51 = .ok (.invokestatic 116, 3) := by decide +kernel
theorem dm_X8_save_54 : decode M_X8_save.1 54 = .ok (.ifCond .ne 7, 3) := by decide +kernel
theorem dm_X8_save_57 : decode M_X8_save.1 57 = .ok (.getstatic 48, 3) := by decide +kernel
theorem dm_X8_save_60 : decode M_X8_save.1 60 = .ok (.areturn, 1) := by decide +kernel
theorem dm_X8_save_61 : decode M_X8_save.1 61 = .ok (.aload_n 0, 1) := by decide +kernel
theorem dm_X8_save_62 : decode M_X8_save.1 62 = .ok (.getfield 9, 3) := by decide +kernel
theorem dm_X8_save_65 : decode M_X8_save.1 65 = .ok (.iload 5, 2) := by decide +kernel
theorem dm_X8_save_67 : decode M_X8_save.1 67 = .ok (.iaload, 1) := by decide +kernel
theorem dm_X8_save_68 : decode M_X8_save.1 68 = .ok (.iload_n 1, 1) := by decide +kernel
theorem dm_X8_save_69 : decode M_X8_save.1 69 = .ok (.invokestatic 171, 3) := by decide +kernel
theorem dm_X8_save_72 : decode M_X8_save.1 72 = .ok (.iadd, 1) := by decide +kernel
theorem dm_X8_save_73 : decode M_X8_save.1 73 = .ok (.istore 8, 2) := by decide +kernel
theorem dm_X8_save_75 : decode M_X8_save.1 75 = .ok (.aload_n 0, 1) := by decide +kernel
theorem dm_X8_save_76 : decode M_X8_save.1 76 = .ok (.iload 8, 2) := by decide +kernel
theorem dm_X8_save_78 : decode M_X8_save.1 78 = .ok (.iload 4, 2) := by decide +kernel
theorem dm_X8_save_80 : decode M_X8_save.1 80 = .ok (.invokevirtual 154, 3) := by decide +kernel
theorem dm_X8_save_83 : decode M_X8_save.1 83 = .ok (.ifCond .ne 7, 3) := by decide +kernel
theorem dm_X8_save_86 : decode M_X8_save.1 86 = .ok (.getstatic 48, 3) := by decide +kernel
theorem dm_X8_save_89 : decode M_X8_save.1 89 = .ok (.areturn, 1) := by decide +kernel
theorem dm_X8_save_90 : decode M_X8_save.1 90 = .ok (.iload 4, 2) := by decide +kernel
theorem dm_X8_save_92 : decode M_X8_save.1 92 = .ok (.iconst 2, 1) := by decide +kernel
theorem dm_X8_save_93 : decode M_X8_save.1 93 = .ok (.if_icmp .ne 7, 3) := by decide +kernel
theorem dm_X8_save_96 : decode M_X8_save.1 96 = .ok (.iconst (-1), 1) := by decide +kernel
theorem dm_X8_save_97 : decode M_X8_save.1 97 = .ok (.goto 12, 3) := by decide +kernel
theorem dm_X8_save_100 : decode M_X8_save.1 100 = .ok (.sipush 255, 3) := by decide +kernel
theorem dm_X8_save_103 : decode M_X8_save.1 103 = .ok (.iload 8, 2) := by decide +kernel
theorem dm_X8_save_105 : decode M_X8_save.1 105 = .ok (.invokestatic 164, 3) := by decide +kernel
theorem dm_X8_save_108 : decode M_X8_save.1 108 = .ok (.ishl, 1) := by decide +kernel
theorem dm_X8_save_109 : decode M_X8_save.1 109 = .ok (.istore 9, 2) := by decide +kernel
theorem dm_X8_save_111 : decode M_X8_save.1 111 = .ok (.iload 4, 2) := by decide +kernel
theorem dm_X8_save_113 : decode M_X8_save.1 113 = .ok (.iconst 2, 1) := by decide +kernel
theorem dm_X8_save_114 : decode M_X8_save.1 114 = .ok (.if_icmp .ne 13, 3) := by decide +kernel
theorem dm_X8_save_117 : decode M_X8_save.1 117 = .ok (.aload_n 0, 1) := by decide +kernel
theorem dm_X8_save_118 : decode M_X8_save.1 118 = .ok (.getfield 9, 3) := by decide +kernel
theorem dm_X8_save_121 : decode M_X8_save.1 121 = .ok (.iload 6, 2) := by decide +kernel
theorem dm_X8_save_123 : decode M_X8_save.1 123 = .ok (.iaload, 1) := by decide +kernel
theorem dm_X8_save_124 : decode M_X8_save.1 124 = .ok (.goto 16, 3) := by decide +kernel
theorem dm_X8_save_127 : decode M_X8_save.1 127 = .ok (.aload_n 0, 1) := by decide +kernel
theorem dm_X8_save_128 : decode M_X8_save.1 128 = .ok (.getfield 9, 3) := by decide +kernel
theorem dm_X8_save_131 : decode M_X8_save.1 131 = .ok (.iload 6, 2) := by decide +kernel
theorem dm_X8_save_133 : decode M_X8_save.1 133 = .ok (.iaload, 1) := by decide +kernel
theorem dm_X8_save_134 : decode M_X8_save.1 134 = .ok (.iload 8, 2) := by decide +kernel
theorem dm_X8_save_136 : decode M_X8_save.1 136 = .ok (.invokestatic 164, 3) := by decide +kernel
theorem dm_X8_save_139 : decode M_X8_save.1 139 = .ok (.ishl, 1) := by decide +kernel
theorem dm_X8_save_140 : decode M_X8_save.1 140 = .ok (.istore 10, 2) := by decide +kernel
theorem dm_X8_save_142 : decode M_X8_save.1 142 = .ok (.aload_n 0, 1) := by decide +kernel
theorem dm_X8_save_143 : decode M_X8_save.1 143 = .ok (.iload 8, 2) := by decide +kernel
theorem dm_X8_save_145 : decode M_X8_save.1 145 = .ok (.aload_n 3, 1) := by decide +kernel
theorem dm_X8_save_146 : decode M_X8_save.1 146 = .ok (.invokevirtual 157, 3) := by decide +kernel
theorem dm_X8_save_149 : decode M_X8_save.1 149 = .ok (.astore 11, 2) := by decide +kernel
theorem dm_X8_save_151 : decode M_X8_save.1 151 = .ok (.iload 8, 2) := by decide +kernel
theorem dm_X8_save_153 : decode M_X8_save.1 153 = .ok (.invokestatic 161, 3) := by decide +kernel
theorem dm_X8_save_156 : decode M_X8_save.1 156 = .ok (.istore 12, 2) := by decide +kernel
theorem dm_X8_save_158 : decode M_X8_save.1 158 = .ok (.aload 11, 2) := by decide +kernel
theorem dm_X8_save_160 : decode M_X8_save.1 160 = .ok (.iload 12, 2) := by decide +kernel
theorem dm_X8_save_162 : decode M_X8_save.1 162 = .ok (.aload 11, 2) := by decide +kernel
theorem dm_X8_save_164 : decode M_X8_save.1 164 = .ok (.iload 12, 2) := by decide +kernel
theorem dm_X8_save_166 : decode M_X8_save.1 166 = .ok (.iaload, 1) := by decide +kernel
theorem dm_X8_save_167 : decode M_X8_save.1 167 = .ok (.iload 9, 2) := by decide +kernel
theorem dm_X8_save_169 : decode M_X8_save.1 169 = .ok (.iconst (-1), 1) := by decide +kernel
theorem dm_X8_save_170 : decode M_X8_save.1 170 = .ok (.ixor, 1) := by decide +kernel
theorem dm_X8_save_171 : decode M_X8_save.1 171 = .ok (.iand, 1) := by decide +kernel
theorem dm_X8_save_172 : decode M_X8_save.1 172 = .ok (.iload 10, 2) := by decide +kernel
theorem dm_X8_save_174 : decode M_X8_save.1 174 = .ok (.iload 9, 2) := by decide +kernel
theorem dm_X8_save_176 : decode M_X8_save.1 176 = .ok (.iand, 1) := by decide +kernel
theorem dm_X8_save_177 : decode M_X8_save.1 177 = .ok (.ior, 1) := by decide +kernel
theorem dm_X8_save_178 : decode M_X8_save.1 178 = .ok (.iastore, 1) := by decide +kernel
theorem dm_X8_save_179 : decode M_X8_save.1 179 = .ok (.aload_n 0, 1) := by decide +kernel
theorem dm_X8_save_180 : decode M_X8_save.1 180 = .ok (.iload 8, 2) := by decide +kernel
theorem dm_X8_save_182 : decode M_X8_save.1 182 = .ok (.iload_n 2, 1) := by decide +kernel
theorem dm_X8_save_183 : decode M_X8_save.1 183 = .ok (.aload_n 3, 1) := by decide +kernel
theorem dm_X8_save_184 : decode M_X8_save.1 184 = .ok (.invokevirtual 167, 3) := by decide +kernel
theorem dm_X8_save_187 : decode M_X8_save.1 187 = .ok (.getstatic 54, 3) := by decide +kernel
theorem dm_X8_save_190 : decode M_X8_save.1 190 = .ok (.areturn, 1) := by decide +kernel
theorem gc_X8_save_132 : g_cs M_X8_save 132 M_X1_f yX1_f 1 := ⟨tw658, tw659, tw359, tw660, ⟨rfl, rfl, rfl, rfl⟩, gd_X1_f, ⟨by decide, by decide⟩⟩
theorem gc_X8_save_129 : g_cs M_X8_save 129 M_X1_rs yX1_rs 1 := ⟨tw655, tw656, tw359, tw657, ⟨rfl, rfl, rfl, rfl⟩, gd_X1_rs, ⟨by decide, by decide⟩⟩
theorem gc_X8_save_138 : g_cs M_X8_save 138 M_X1_rt yX1_rt 1 := ⟨tw668, tw669, tw359, tw670, ⟨rfl, rfl, rfl, rfl⟩, gd_X1_rt, ⟨by decide, by decide⟩⟩
theorem gc_X8_save_116 : g_csn M_X8_save 116 M_X10_isRegister yX10_isRegister 1 := ⟨(List.mem_of_getElem? (i := 3) rfl), tw635, tw2, tw636, ⟨rfl, rfl, rfl, rfl⟩, gd_X10_isRegister, ⟨by decide, by decide⟩⟩
theorem gc_X8_save_171 : g_cs M_X8_save 171 M_X1_numberS yX1_numberS 1 := ⟨tw715, tw716, tw359, tw717, ⟨rfl, rfl, rfl, rfl⟩, gd_X1_numberS, ⟨by decide, by decide⟩⟩
theorem gc_X8_save_154 : g_cv M_X8_save 154 M_X8_canReach yX8_canReach 2 := ⟨tw685, tw686, tw687, tw32, tw688, ⟨rfl, rfl, rfl, rfl⟩, gd_X8_canReach, ⟨by decide, by decide⟩⟩
theorem gc_X8_save_164 : g_cs M_X8_save 164 M_X8_bitOf yX8_bitOf 1 := ⟨tw699, tw700, tw32, tw701, ⟨rfl, rfl, rfl, rfl⟩, gd_X8_bitOf, ⟨by decide, by decide⟩⟩
theorem gc_X8_save_157 : g_cv M_X8_save 157 M_X8_rowOf yX8_rowOf 2 := ⟨tw691, tw692, tw693, tw32, tw694, ⟨rfl, rfl, rfl, rfl⟩, gd_X8_rowOf, ⟨by decide, by decide⟩⟩
theorem gc_X8_save_161 : g_cs M_X8_save 161 M_X8_placeOf yX8_placeOf 1 := ⟨tw696, tw697, tw32, tw698, ⟨rfl, rfl, rfl, rfl⟩, gd_X8_placeOf, ⟨by decide, by decide⟩⟩
theorem gc_X8_save_167 : g_cv M_X8_save 167 M_X8_setRetirement yX8_setRetirement 3 := ⟨tw702, tw703, tw704, tw32, tw705, ⟨rfl, rfl, rfl, rfl⟩, gd_X8_setRetirement, ⟨by decide, by decide⟩⟩
def f_X8_save_c184 (tstore : Nat → Int32) (mwords : Nat → Int32) (s0 : Int32) (l9 : Int32) (z10_0 : Int32) (z11_0 : Int32) : Nat × Int32 × (Nat → Int32) × (Nat → Int32) := (1000, z11_0, tstore, (upd mwords (Int32.toNatClampNeg z10_0) (((mwords (Int32.toNatClampNeg z10_0)) &&& (l9 ^^^ (-1 : Int32))) ||| (s0 &&& l9))))
def f_X8_save_c153 (tnum : Int32) (tret : Int32) (tstore : Nat → Int32) (mwheel : Int32) (mwords : Nat → Int32) (l2 : Int32) (s0 : Int32) (l8 : Int32) (l9 : Int32) (z10_0 : Int32) : Nat × Int32 × (Nat → Int32) × (Nat → Int32) := (f_X8_save_c184 tstore mwords s0 l9 z10_0 (f_X8_setRetirement l8 l2 tnum tret mwheel))
def f_X8_save_c184_13 (tstore : Nat → Int32) (mwords : Nat → Int32) (s0 : Int32) (l9 : Int32) (z12_0 : Int32) (z13_0 : Int32) : Nat × Int32 × (Nat → Int32) × (Nat → Int32) := (1000, z13_0, (upd tstore (Int32.toNatClampNeg z12_0) (((tstore (Int32.toNatClampNeg z12_0)) &&& (l9 ^^^ (-1 : Int32))) ||| (s0 &&& l9))), mwords)
def f_X8_save_c153_12 (tnum : Int32) (tret : Int32) (tstore : Nat → Int32) (mwheel : Int32) (mwords : Nat → Int32) (l2 : Int32) (s0 : Int32) (l8 : Int32) (l9 : Int32) (z12_0 : Int32) : Nat × Int32 × (Nat → Int32) × (Nat → Int32) := (f_X8_save_c184_13 tstore mwords s0 l9 z12_0 (f_X8_setRetirement l8 l2 tnum tret mwheel))
def f_X8_save_140 (tnum : Int32) (tret : Int32) (tstore : Nat → Int32) (mwheel : Int32) (mwords : Nat → Int32) (l2 : Int32) (s0 : Int32) (l8 : Int32) (l9 : Int32) : Nat × Int32 × (Nat → Int32) × (Nat → Int32) := (if f_X8_isInStore l8 = 0 then (f_X8_save_c153 tnum tret tstore mwheel mwords l2 s0 l8 l9 (f_X8_placeOf l8)) else (f_X8_save_c153_12 tnum tret tstore mwheel mwords l2 s0 l8 l9 (f_X8_placeOf l8)))
set_option maxRecDepth 20000 in
theorem j_X8_save_140 {l2 : Int32} {l8 : Int32} {l9 : Int32} {s0 : Int32} {tlow : Int32} {thigh : Int32} {tnum : Int32} {tstat : Int32} {taddr : Int32} {tready : Int32} {tnext : Int32} {tret : Int32} {regs : Nat → Int32} {tstore : Nat → Int32} {hcount : Int32} {haddr : Nat → Int32} {hcyc : Nat → Int32} {hret : Nat → Int32} {tims : Nat → Int32} {mwheel : Int32} {mwords : Nat → Int32} {r_0 : Nat} {r_1 : Int32} {r_2 : (Nat → Int32)} {r_3 : (Nat → Int32)} (hres : (r_0, r_1, r_2, r_3) = (f_X8_save_140 tnum tret tstore mwheel mwords l2 s0 l8 l9)) (hwh : 1 ≤ mwheel.toInt ∧ mwheel.toInt ≤ 8) (hwa : (0 ≤ l8.toInt ∧ l8.toInt < 512) ∨ (4096 ≤ l8.toInt ∧ l8.toInt < 4352)) : G M_X8_save 0 0 140 [(0, .ref 0), (2, .int l2), (3, .ref 8), (8, .int l8), (9, .int l9)] [.int s0] (w_T tlow thigh tnum tstat taddr tready tnext tret regs tstore hcount haddr hcyc hret tims mwheel mwords) (some (.ref r_0)) (w_T tlow thigh tnum tstat taddr tready tnext r_1 regs r_2 hcount haddr hcyc hret tims mwheel r_3) := by
  rw [f_X8_save_140] at hres
  refine G.istore (pc := 140) (lv1 := [(10, .int s0), (0, .ref 0), (2, .int l2), (3, .ref 8), (8, .int l8), (9, .int l9)]) dm_X8_save_140 rfl rfl ?_
  refine G.aload_n (pc := 142) dm_X8_save_142 rfl ?_
  refine G.iload (pc := 143) dm_X8_save_143 rfl ?_
  refine G.aload_n (pc := 145) dm_X8_save_145 rfl ?_
  by_cases d146 : f_X8_isInStore l8 = 0
  · rw [if_pos d146] at hres
    refine G.callV0 (pc := 146) (rest := []) (st1 := [.ref 9]) dm_X8_save_146 gc_X8_save_157 (k_X8_rowOf_a (at_ := l8) (tlow := tlow) (thigh := thigh) (tnum := tnum) (tstat := tstat) (taddr := taddr) (tready := tready) (tnext := tnext) (tret := tret) (regs := regs) (tstore := tstore) (hcount := hcount) (haddr := haddr) (hcyc := hcyc) (hret := hret) (tims := tims) (mwheel := mwheel) (mwords := mwords) d146) rfl rfl rfl rfl rfl rfl rfl rfl ?_
    refine G.astore (pc := 149) (lv1 := [(11, .ref 9), (10, .int s0), (0, .ref 0), (2, .int l2), (3, .ref 8), (8, .int l8), (9, .int l9)]) dm_X8_save_149 rfl rfl ?_
    refine G.iload (pc := 151) dm_X8_save_151 rfl ?_
    obtain ⟨z10_0, hz10⟩ := g_ex1 (f_X8_placeOf l8)
    refine G.callS (pc := 153) (rest := []) (st1 := [.int z10_0]) (ws1 := (w_T tlow thigh tnum tstat taddr tready tnext tret regs tstore hcount haddr hcyc hret tims mwheel mwords)) [] dm_X8_save_153 gc_X8_save_161 (k_X8_placeOf (at_ := l8) hz10) rfl rfl rfl rfl rfl rfl rfl rfl ?_
    have hpl := a_placeOf hz10 hwa
    replace hres : (r_0, r_1, r_2, r_3) = f_X8_save_c153 tnum tret tstore mwheel mwords l2 s0 l8 l9 z10_0 := hres.trans (by rw [← hz10])
    rw [f_X8_save_c153] at hres
    refine G.istore (pc := 156) (lv1 := [(12, .int z10_0), (11, .ref 9), (10, .int s0), (0, .ref 0), (2, .int l2), (3, .ref 8), (8, .int l8), (9, .int l9)]) dm_X8_save_156 rfl rfl ?_
    refine G.aload (pc := 158) dm_X8_save_158 rfl ?_
    refine G.iload (pc := 160) dm_X8_save_160 rfl ?_
    refine G.aload (pc := 162) dm_X8_save_162 rfl ?_
    refine G.iload (pc := 164) dm_X8_save_164 rfl ?_
    refine G.iaload (pc := 166) dm_X8_save_166 rfl (by first | exact hpl.1 d146 | exact hpl.2 d146) ?_
    refine G.iload (pc := 167) dm_X8_save_167 rfl ?_
    refine G.iconst (pc := 169) (v := (-1 : Int32)) dm_X8_save_169 qi_m1 ?_
    refine G.ixor (pc := 170) dm_X8_save_170 ?_
    refine G.iand (pc := 171) dm_X8_save_171 ?_
    refine G.iload (pc := 172) dm_X8_save_172 rfl ?_
    refine G.iload (pc := 174) dm_X8_save_174 rfl ?_
    refine G.iand (pc := 176) dm_X8_save_176 ?_
    refine G.ior (pc := 177) dm_X8_save_177 ?_
    refine G.iastore (pc := 178) (ws1 := (w_T tlow thigh tnum tstat taddr tready tnext tret regs tstore hcount haddr hcyc hret tims mwheel (upd mwords (Int32.toNatClampNeg z10_0) (((mwords (Int32.toNatClampNeg z10_0)) &&& (l9 ^^^ (-1 : Int32))) ||| (s0 &&& l9))))) dm_X8_save_178 rfl (by first | exact hpl.1 d146 | exact hpl.2 d146) rfl ?_
    refine G.aload_n (pc := 179) dm_X8_save_179 rfl ?_
    refine G.iload (pc := 180) dm_X8_save_180 rfl ?_
    refine G.iload_n (pc := 182) dm_X8_save_182 rfl ?_
    refine G.aload_n (pc := 183) dm_X8_save_183 rfl ?_
    obtain ⟨z11_0, hz11⟩ := g_ex1 (f_X8_setRetirement l8 l2 tnum tret mwheel)
    refine G.callV0 (pc := 184) (rest := []) (st1 := []) dm_X8_save_184 gc_X8_save_167 (k_X8_setRetirement (at_ := l8) (cycle := l2) (tlow := tlow) (thigh := thigh) (tnum := tnum) (tstat := tstat) (taddr := taddr) (tready := tready) (tnext := tnext) (tret := tret) (regs := regs) (tstore := tstore) (hcount := hcount) (haddr := haddr) (hcyc := hcyc) (hret := hret) (tims := tims) (mwheel := mwheel) (mwords := (upd mwords (Int32.toNatClampNeg z10_0) (((mwords (Int32.toNatClampNeg z10_0)) &&& (l9 ^^^ (-1 : Int32))) ||| (s0 &&& l9)))) (by assumption) hz11) rfl rfl rfl rfl rfl rfl rfl rfl ?_
    replace hres : (r_0, r_1, r_2, r_3) = f_X8_save_c184 tstore mwords s0 l9 z10_0 z11_0 := hres.trans (by rw [← hz11])
    rw [f_X8_save_c184] at hres
    refine G.getstatic (pc := 187) dm_X8_save_187 (Or.inl ⟨0, by decide, rfl⟩) tw614 ?_
    cases hres
    exact G.areturn (pc := 190) dm_X8_save_190 rfl (Or.inl ⟨_, rfl⟩) rfl rfl
  · rw [if_neg d146] at hres
    refine G.callV0 (pc := 146) (rest := []) (st1 := [.ref 2]) dm_X8_save_146 gc_X8_save_157 (k_X8_rowOf_b (at_ := l8) (tlow := tlow) (thigh := thigh) (tnum := tnum) (tstat := tstat) (taddr := taddr) (tready := tready) (tnext := tnext) (tret := tret) (regs := regs) (tstore := tstore) (hcount := hcount) (haddr := haddr) (hcyc := hcyc) (hret := hret) (tims := tims) (mwheel := mwheel) (mwords := mwords) d146) rfl rfl rfl rfl rfl rfl rfl rfl ?_
    refine G.astore (pc := 149) (lv1 := [(11, .ref 2), (10, .int s0), (0, .ref 0), (2, .int l2), (3, .ref 8), (8, .int l8), (9, .int l9)]) dm_X8_save_149 rfl rfl ?_
    refine G.iload (pc := 151) dm_X8_save_151 rfl ?_
    obtain ⟨z12_0, hz12⟩ := g_ex1 (f_X8_placeOf l8)
    refine G.callS (pc := 153) (rest := []) (st1 := [.int z12_0]) (ws1 := (w_T tlow thigh tnum tstat taddr tready tnext tret regs tstore hcount haddr hcyc hret tims mwheel mwords)) [] dm_X8_save_153 gc_X8_save_161 (k_X8_placeOf (at_ := l8) hz12) rfl rfl rfl rfl rfl rfl rfl rfl ?_
    have hpl := a_placeOf hz12 hwa
    replace hres : (r_0, r_1, r_2, r_3) = f_X8_save_c153_12 tnum tret tstore mwheel mwords l2 s0 l8 l9 z12_0 := hres.trans (by rw [← hz12])
    rw [f_X8_save_c153_12] at hres
    refine G.istore (pc := 156) (lv1 := [(12, .int z12_0), (11, .ref 2), (10, .int s0), (0, .ref 0), (2, .int l2), (3, .ref 8), (8, .int l8), (9, .int l9)]) dm_X8_save_156 rfl rfl ?_
    refine G.aload (pc := 158) dm_X8_save_158 rfl ?_
    refine G.iload (pc := 160) dm_X8_save_160 rfl ?_
    refine G.aload (pc := 162) dm_X8_save_162 rfl ?_
    refine G.iload (pc := 164) dm_X8_save_164 rfl ?_
    refine G.iaload (pc := 166) dm_X8_save_166 rfl (by first | exact hpl.1 d146 | exact hpl.2 d146) ?_
    refine G.iload (pc := 167) dm_X8_save_167 rfl ?_
    refine G.iconst (pc := 169) (v := (-1 : Int32)) dm_X8_save_169 qi_m1 ?_
    refine G.ixor (pc := 170) dm_X8_save_170 ?_
    refine G.iand (pc := 171) dm_X8_save_171 ?_
    refine G.iload (pc := 172) dm_X8_save_172 rfl ?_
    refine G.iload (pc := 174) dm_X8_save_174 rfl ?_
    refine G.iand (pc := 176) dm_X8_save_176 ?_
    refine G.ior (pc := 177) dm_X8_save_177 ?_
    refine G.iastore (pc := 178) (ws1 := (w_T tlow thigh tnum tstat taddr tready tnext tret regs (upd tstore (Int32.toNatClampNeg z12_0) (((tstore (Int32.toNatClampNeg z12_0)) &&& (l9 ^^^ (-1 : Int32))) ||| (s0 &&& l9))) hcount haddr hcyc hret tims mwheel mwords)) dm_X8_save_178 rfl (by first | exact hpl.1 d146 | exact hpl.2 d146) rfl ?_
    refine G.aload_n (pc := 179) dm_X8_save_179 rfl ?_
    refine G.iload (pc := 180) dm_X8_save_180 rfl ?_
    refine G.iload_n (pc := 182) dm_X8_save_182 rfl ?_
    refine G.aload_n (pc := 183) dm_X8_save_183 rfl ?_
    obtain ⟨z13_0, hz13⟩ := g_ex1 (f_X8_setRetirement l8 l2 tnum tret mwheel)
    refine G.callV0 (pc := 184) (rest := []) (st1 := []) dm_X8_save_184 gc_X8_save_167 (k_X8_setRetirement (at_ := l8) (cycle := l2) (tlow := tlow) (thigh := thigh) (tnum := tnum) (tstat := tstat) (taddr := taddr) (tready := tready) (tnext := tnext) (tret := tret) (regs := regs) (tstore := (upd tstore (Int32.toNatClampNeg z12_0) (((tstore (Int32.toNatClampNeg z12_0)) &&& (l9 ^^^ (-1 : Int32))) ||| (s0 &&& l9)))) (hcount := hcount) (haddr := haddr) (hcyc := hcyc) (hret := hret) (tims := tims) (mwheel := mwheel) (mwords := mwords) (by assumption) hz13) rfl rfl rfl rfl rfl rfl rfl rfl ?_
    replace hres : (r_0, r_1, r_2, r_3) = f_X8_save_c184_13 tstore mwords s0 l9 z12_0 z13_0 := hres.trans (by rw [← hz13])
    rw [f_X8_save_c184_13] at hres
    refine G.getstatic (pc := 187) dm_X8_save_187 (Or.inl ⟨0, by decide, rfl⟩) tw614 ?_
    cases hres
    exact G.areturn (pc := 190) dm_X8_save_190 rfl (Or.inl ⟨_, rfl⟩) rfl rfl
def f_X8_save_c136 (tnum : Int32) (tret : Int32) (regs : Nat → Int32) (tstore : Nat → Int32) (mwheel : Int32) (mwords : Nat → Int32) (l2 : Int32) (l6 : Int32) (s0 : Int32) (l8 : Int32) (z9_0 : Int32) : Nat × Int32 × (Nat → Int32) × (Nat → Int32) := (f_X8_save_140 tnum tret tstore mwheel mwords l2 ((regs (Int32.toNatClampNeg l6)) <<< (z9_0 &&& 31)) l8 s0)
def f_X8_save_109 (tnum : Int32) (tret : Int32) (regs : Nat → Int32) (tstore : Nat → Int32) (mwheel : Int32) (mwords : Nat → Int32) (l2 : Int32) (l4 : Int32) (l6 : Int32) (s0 : Int32) (l8 : Int32) : Nat × Int32 × (Nat → Int32) × (Nat → Int32) := (if l4 = (2 : Int32) then (f_X8_save_140 tnum tret tstore mwheel mwords l2 (regs (Int32.toNatClampNeg l6)) l8 s0) else (f_X8_save_c136 tnum tret regs tstore mwheel mwords l2 l6 s0 l8 (f_X8_bitOf l8)))
set_option maxRecDepth 20000 in
theorem j_X8_save_109 {l2 : Int32} {l4 : Int32} {l6 : Int32} {l8 : Int32} {s0 : Int32} {tlow : Int32} {thigh : Int32} {tnum : Int32} {tstat : Int32} {taddr : Int32} {tready : Int32} {tnext : Int32} {tret : Int32} {regs : Nat → Int32} {tstore : Nat → Int32} {hcount : Int32} {haddr : Nat → Int32} {hcyc : Nat → Int32} {hret : Nat → Int32} {tims : Nat → Int32} {mwheel : Int32} {mwords : Nat → Int32} {r_0 : Nat} {r_1 : Int32} {r_2 : (Nat → Int32)} {r_3 : (Nat → Int32)} (hres : (r_0, r_1, r_2, r_3) = (f_X8_save_109 tnum tret regs tstore mwheel mwords l2 l4 l6 s0 l8)) (hwh : 1 ≤ mwheel.toInt ∧ mwheel.toInt ≤ 8) (hwa : (0 ≤ l8.toInt ∧ l8.toInt < 512) ∨ (4096 ≤ l8.toInt ∧ l8.toInt < 4352)) (h6 : 0 ≤ l6.toInt ∧ l6.toInt < 16) : G M_X8_save 0 0 109 [(0, .ref 0), (2, .int l2), (3, .ref 8), (4, .int l4), (6, .int l6), (8, .int l8)] [.int s0] (w_T tlow thigh tnum tstat taddr tready tnext tret regs tstore hcount haddr hcyc hret tims mwheel mwords) (some (.ref r_0)) (w_T tlow thigh tnum tstat taddr tready tnext r_1 regs r_2 hcount haddr hcyc hret tims mwheel r_3) := by
  rw [f_X8_save_109] at hres
  refine G.istore (pc := 109) (lv1 := [(9, .int s0), (0, .ref 0), (2, .int l2), (3, .ref 8), (4, .int l4), (6, .int l6), (8, .int l8)]) dm_X8_save_109 rfl rfl ?_
  refine G.iload (pc := 111) dm_X8_save_111 rfl ?_
  refine G.iconst (pc := 113) (v := (2 : Int32)) dm_X8_save_113 qi_2 ?_
  refine G.icmp_ne (pc := 114) (tgt := 127) dm_X8_save_114 (by decide) (fun c114 => ?_) (fun c114 => ?_)
  · rw [if_neg c114] at hres
    refine G.aload_n (pc := 127) dm_X8_save_127 rfl ?_
    refine G.getfield (pc := 128) dm_X8_save_128 gf_X8_9 rfl rfl ?_
    refine G.iload (pc := 131) dm_X8_save_131 rfl ?_
    refine G.iaload (pc := 133) dm_X8_save_133 rfl (q_r16 h6) ?_
    refine G.iload (pc := 134) dm_X8_save_134 rfl ?_
    obtain ⟨z9_0, hz9⟩ := g_ex1 (f_X8_bitOf l8)
    refine G.callS (pc := 136) (rest := [.int (regs (Int32.toNatClampNeg l6))]) (st1 := [.int z9_0, .int (regs (Int32.toNatClampNeg l6))]) (ws1 := (w_T tlow thigh tnum tstat taddr tready tnext tret regs tstore hcount haddr hcyc hret tims mwheel mwords)) [] dm_X8_save_136 gc_X8_save_164 (k_X8_bitOf (at_ := l8) hz9) rfl rfl rfl rfl rfl rfl rfl rfl ?_
    replace hres : (r_0, r_1, r_2, r_3) = f_X8_save_c136 tnum tret regs tstore mwheel mwords l2 l6 s0 l8 z9_0 := hres.trans (by rw [← hz9])
    rw [f_X8_save_c136] at hres
    refine G.ishl (pc := 139) dm_X8_save_139 ?_
    refine G.lvp [1, 2, 3, 6, 0] rfl ?_
    exact j_X8_save_140 hres (by assumption) (by assumption)
  · rw [if_pos c114] at hres
    refine G.aload_n (pc := 117) dm_X8_save_117 rfl ?_
    refine G.getfield (pc := 118) dm_X8_save_118 gf_X8_9 rfl rfl ?_
    refine G.iload (pc := 121) dm_X8_save_121 rfl ?_
    refine G.iaload (pc := 123) dm_X8_save_123 rfl (q_r16 h6) ?_
    refine G.goto (pc := 124) (tgt := 140) dm_X8_save_124 (by decide) ?_
    refine G.lvp [1, 2, 3, 6, 0] rfl ?_
    exact j_X8_save_140 hres (by assumption) (by assumption)
def f_X8_save_c105 (tnum : Int32) (tret : Int32) (regs : Nat → Int32) (tstore : Nat → Int32) (mwheel : Int32) (mwords : Nat → Int32) (l2 : Int32) (l4 : Int32) (l5 : Int32) (l6 : Int32) (z6_0 : Int32) (z8_0 : Int32) : Nat × Int32 × (Nat → Int32) × (Nat → Int32) := (f_X8_save_109 tnum tret regs tstore mwheel mwords l2 l4 l6 ((255 : Int32) <<< (z8_0 &&& 31)) ((regs (Int32.toNatClampNeg l5)) + z6_0))
def f_X8_save_c80 (tnum : Int32) (tret : Int32) (regs : Nat → Int32) (tstore : Nat → Int32) (mwheel : Int32) (mwords : Nat → Int32) (l2 : Int32) (l4 : Int32) (l5 : Int32) (l6 : Int32) (z6_0 : Int32) (z7_0 : Int32) : Nat × Int32 × (Nat → Int32) × (Nat → Int32) := (if z7_0 = 0 then (1002, tret, tstore, mwords) else (if l4 = (2 : Int32) then (f_X8_save_109 tnum tret regs tstore mwheel mwords l2 l4 l6 (-1 : Int32) ((regs (Int32.toNatClampNeg l5)) + z6_0)) else (f_X8_save_c105 tnum tret regs tstore mwheel mwords l2 l4 l5 l6 z6_0 (f_X8_bitOf ((regs (Int32.toNatClampNeg l5)) + z6_0)))))
def f_X8_save_c69 (tlow : Int32) (thigh : Int32) (tnum : Int32) (tret : Int32) (regs : Nat → Int32) (tstore : Nat → Int32) (mwheel : Int32) (mwords : Nat → Int32) (l2 : Int32) (l4 : Int32) (l5 : Int32) (l6 : Int32) (z6_0 : Int32) : Nat × Int32 × (Nat → Int32) × (Nat → Int32) := (f_X8_save_c80 tnum tret regs tstore mwheel mwords l2 l4 l5 l6 z6_0 (f_X8_canReach ((regs (Int32.toNatClampNeg l5)) + z6_0) l4 tlow thigh))
def f_X8_save_c51 (tlow : Int32) (thigh : Int32) (tnum : Int32) (tret : Int32) (regs : Nat → Int32) (tstore : Nat → Int32) (mwheel : Int32) (mwords : Nat → Int32) (l1 : Int32) (l2 : Int32) (l4 : Int32) (l5 : Int32) (l6 : Int32) (z5_0 : Int32) : Nat × Int32 × (Nat → Int32) × (Nat → Int32) := (if z5_0 = 0 then (1002, tret, tstore, mwords) else (f_X8_save_c69 tlow thigh tnum tret regs tstore mwheel mwords l2 l4 l5 l6 (f_X1_numberS l1)))
def f_X8_save_c43 (tlow : Int32) (thigh : Int32) (tnum : Int32) (tret : Int32) (regs : Nat → Int32) (tstore : Nat → Int32) (mwheel : Int32) (mwords : Nat → Int32) (l1 : Int32) (l2 : Int32) (l4 : Int32) (l5 : Int32) (l6 : Int32) (z4_0 : Int32) : Nat × Int32 × (Nat → Int32) × (Nat → Int32) := (if z4_0 = 0 then (1002, tret, tstore, mwords) else (f_X8_save_c51 tlow thigh tnum tret regs tstore mwheel mwords l1 l2 l4 l5 l6 (f_X10_isRegister l6)))
def f_X8_save_34 (tlow : Int32) (thigh : Int32) (tnum : Int32) (tret : Int32) (regs : Nat → Int32) (tstore : Nat → Int32) (mwheel : Int32) (mwords : Nat → Int32) (l1 : Int32) (l2 : Int32) (l4 : Int32) (l5 : Int32) (l6 : Int32) (s0 : Int32) : Nat × Int32 × (Nat → Int32) × (Nat → Int32) := (if s0 = 0 then (1002, tret, tstore, mwords) else (f_X8_save_c43 tlow thigh tnum tret regs tstore mwheel mwords l1 l2 l4 l5 l6 (f_X10_isRegister l5)))
set_option maxRecDepth 20000 in
theorem j_X8_save_34 {l1 : Int32} {l2 : Int32} {l4 : Int32} {l5 : Int32} {l6 : Int32} {s0 : Int32} {tlow : Int32} {thigh : Int32} {tnum : Int32} {tstat : Int32} {taddr : Int32} {tready : Int32} {tnext : Int32} {tret : Int32} {regs : Nat → Int32} {tstore : Nat → Int32} {hcount : Int32} {haddr : Nat → Int32} {hcyc : Nat → Int32} {hret : Nat → Int32} {tims : Nat → Int32} {mwheel : Int32} {mwords : Nat → Int32} {r_0 : Nat} {r_1 : Int32} {r_2 : (Nat → Int32)} {r_3 : (Nat → Int32)} (hres : (r_0, r_1, r_2, r_3) = (f_X8_save_34 tlow thigh tnum tret regs tstore mwheel mwords l1 l2 l4 l5 l6 s0)) (hlt : 0 ≤ tlow.toInt ∧ tlow.toInt ≤ thigh.toInt ∧ thigh.toInt ≤ 64) (hwh : 1 ≤ mwheel.toInt ∧ mwheel.toInt ≤ 8) : G M_X8_save 0 0 34 [(0, .ref 0), (1, .int l1), (2, .int l2), (3, .ref 8), (4, .int l4), (5, .int l5), (6, .int l6)] [.int s0] (w_T tlow thigh tnum tstat taddr tready tnext tret regs tstore hcount haddr hcyc hret tims mwheel mwords) (some (.ref r_0)) (w_T tlow thigh tnum tstat taddr tready tnext r_1 regs r_2 hcount haddr hcyc hret tims mwheel r_3) := by
  rw [f_X8_save_34] at hres
  refine G.istore (pc := 34) (lv1 := [(7, .int s0), (0, .ref 0), (1, .int l1), (2, .int l2), (3, .ref 8), (4, .int l4), (5, .int l5), (6, .int l6)]) dm_X8_save_34 rfl rfl ?_
  refine G.iload (pc := 36) dm_X8_save_36 rfl ?_
  refine G.if_eq (pc := 38) (tgt := 57) dm_X8_save_38 (by decide) (fun c38 => ?_) (fun c38 => ?_)
  · rw [if_pos c38] at hres
    refine G.getstatic (pc := 57) dm_X8_save_57 (Or.inl ⟨2, by decide, rfl⟩) tw613 ?_
    cases hres
    exact G.areturn (pc := 60) dm_X8_save_60 rfl (Or.inl ⟨_, rfl⟩) rfl rfl
  · rw [if_neg c38] at hres
    refine G.iload (pc := 41) dm_X8_save_41 rfl ?_
    obtain ⟨z4_0, hz4⟩ := g_ex1 (f_X10_isRegister l5)
    refine G.callSN (pc := 43) (rest := []) (st1 := [.int z4_0]) (ws1 := (w_T tlow thigh tnum tstat taddr tready tnext tret regs tstore hcount haddr hcyc hret tims mwheel mwords)) [] dm_X8_save_43 gc_X8_save_116 (k_X10_isRegister (k := l5) hz4) rfl rfl rfl rfl rfl rfl rfl rfl ?_
    have hrs := a_isReg hz4
    replace hres : (r_0, r_1, r_2, r_3) = f_X8_save_c43 tlow thigh tnum tret regs tstore mwheel mwords l1 l2 l4 l5 l6 z4_0 := hres.trans (by rw [← hz4])
    rw [f_X8_save_c43] at hres
    refine G.if_eq (pc := 46) (tgt := 57) dm_X8_save_46 (by decide) (fun c46 => ?_) (fun c46 => ?_)
    · rw [if_pos c46] at hres
      refine G.getstatic (pc := 57) dm_X8_save_57 (Or.inl ⟨2, by decide, rfl⟩) tw613 ?_
      cases hres
      exact G.areturn (pc := 60) dm_X8_save_60 rfl (Or.inl ⟨_, rfl⟩) rfl rfl
    · rw [if_neg c46] at hres
      refine G.iload (pc := 49) dm_X8_save_49 rfl ?_
      obtain ⟨z5_0, hz5⟩ := g_ex1 (f_X10_isRegister l6)
      refine G.callSN (pc := 51) (rest := []) (st1 := [.int z5_0]) (ws1 := (w_T tlow thigh tnum tstat taddr tready tnext tret regs tstore hcount haddr hcyc hret tims mwheel mwords)) [] dm_X8_save_51 gc_X8_save_116 (k_X10_isRegister (k := l6) hz5) rfl rfl rfl rfl rfl rfl rfl rfl ?_
      have hrt := a_isReg hz5
      replace hres : (r_0, r_1, r_2, r_3) = f_X8_save_c51 tlow thigh tnum tret regs tstore mwheel mwords l1 l2 l4 l5 l6 z5_0 := hres.trans (by rw [← hz5])
      rw [f_X8_save_c51] at hres
      refine G.if_ne (pc := 54) (tgt := 61) dm_X8_save_54 (by decide) (fun c54 => ?_) (fun c54 => ?_)
      · rw [if_neg c54] at hres
        have h5 := hrs c46
        have h6 := hrt c54
        refine G.aload_n (pc := 61) dm_X8_save_61 rfl ?_
        refine G.getfield (pc := 62) dm_X8_save_62 gf_X8_9 rfl rfl ?_
        refine G.iload (pc := 65) dm_X8_save_65 rfl ?_
        refine G.iaload (pc := 67) dm_X8_save_67 rfl (q_r16 h5) ?_
        refine G.iload_n (pc := 68) dm_X8_save_68 rfl ?_
        obtain ⟨z6_0, hz6⟩ := g_ex1 (f_X1_numberS l1)
        refine G.callS (pc := 69) (rest := [.int (regs (Int32.toNatClampNeg l5))]) (st1 := [.int z6_0, .int (regs (Int32.toNatClampNeg l5))]) (ws1 := (w_T tlow thigh tnum tstat taddr tready tnext tret regs tstore hcount haddr hcyc hret tims mwheel mwords)) [] dm_X8_save_69 gc_X8_save_171 (k_X1_numberS (x := l1) hz6) rfl rfl rfl rfl rfl rfl rfl rfl ?_
        replace hres : (r_0, r_1, r_2, r_3) = f_X8_save_c69 tlow thigh tnum tret regs tstore mwheel mwords l2 l4 l5 l6 z6_0 := hres.trans (by rw [← hz6])
        rw [f_X8_save_c69] at hres
        refine G.iadd (pc := 72) dm_X8_save_72 ?_
        refine G.istore (pc := 73) (lv1 := [(8, .int ((regs (Int32.toNatClampNeg l5)) + z6_0)), (7, .int s0), (0, .ref 0), (1, .int l1), (2, .int l2), (3, .ref 8), (4, .int l4), (5, .int l5), (6, .int l6)]) dm_X8_save_73 rfl rfl ?_
        refine G.aload_n (pc := 75) dm_X8_save_75 rfl ?_
        refine G.iload (pc := 76) dm_X8_save_76 rfl ?_
        refine G.iload (pc := 78) dm_X8_save_78 rfl ?_
        obtain ⟨z7_0, hz7⟩ := g_ex1 (f_X8_canReach ((regs (Int32.toNatClampNeg l5)) + z6_0) l4 tlow thigh)
        refine G.callV (pc := 80) (rest := []) (st1 := [.int z7_0]) (ws1 := (w_T tlow thigh tnum tstat taddr tready tnext tret regs tstore hcount haddr hcyc hret tims mwheel mwords)) [0, 1, 2, 3, 4, 5, 6, 7] dm_X8_save_80 gc_X8_save_154 (k_X8_canReach (at_ := ((regs (Int32.toNatClampNeg l5)) + z6_0)) (f := l4) (tlow := tlow) (thigh := thigh) (tnum := tnum) (tstat := tstat) (taddr := taddr) (tready := tready) (tnext := tnext) (tret := tret) (regs := regs) (tstore := tstore) (hcount := hcount) (haddr := haddr) (hcyc := hcyc) (hret := hret) (tims := tims) hz7) rfl rfl rfl rfl rfl rfl rfl rfl rfl rfl ?_
        have hre := a_X8_canReach hz7 hlt rfl
        replace hres : (r_0, r_1, r_2, r_3) = f_X8_save_c80 tnum tret regs tstore mwheel mwords l2 l4 l5 l6 z6_0 z7_0 := hres.trans (by rw [← hz7])
        rw [f_X8_save_c80] at hres
        refine G.if_ne (pc := 83) (tgt := 90) dm_X8_save_83 (by decide) (fun c83 => ?_) (fun c83 => ?_)
        · rw [if_neg c83] at hres
          have hwa := hre c83
          refine G.iload (pc := 90) dm_X8_save_90 rfl ?_
          refine G.iconst (pc := 92) (v := (2 : Int32)) dm_X8_save_92 qi_2 ?_
          refine G.icmp_ne (pc := 93) (tgt := 100) dm_X8_save_93 (by decide) (fun c93 => ?_) (fun c93 => ?_)
          · rw [if_neg c93] at hres
            refine G.sipush (pc := 100) (v := (255 : Int32)) dm_X8_save_100 qs_255 ?_
            refine G.iload (pc := 103) dm_X8_save_103 rfl ?_
            obtain ⟨z8_0, hz8⟩ := g_ex1 (f_X8_bitOf ((regs (Int32.toNatClampNeg l5)) + z6_0))
            refine G.callS (pc := 105) (rest := [.int (255 : Int32)]) (st1 := [.int z8_0, .int (255 : Int32)]) (ws1 := (w_T tlow thigh tnum tstat taddr tready tnext tret regs tstore hcount haddr hcyc hret tims mwheel mwords)) [] dm_X8_save_105 gc_X8_save_164 (k_X8_bitOf (at_ := ((regs (Int32.toNatClampNeg l5)) + z6_0)) hz8) rfl rfl rfl rfl rfl rfl rfl rfl ?_
            replace hres : (r_0, r_1, r_2, r_3) = f_X8_save_c105 tnum tret regs tstore mwheel mwords l2 l4 l5 l6 z6_0 z8_0 := hres.trans (by rw [← hz8])
            rw [f_X8_save_c105] at hres
            refine G.ishl (pc := 108) dm_X8_save_108 ?_
            refine G.lvp [2, 4, 5, 6, 8, 0] rfl ?_
            exact j_X8_save_109 hres (by assumption) (by assumption) (by assumption)
          · rw [if_pos c93] at hres
            refine G.iconst (pc := 96) (v := (-1 : Int32)) dm_X8_save_96 qi_m1 ?_
            refine G.goto (pc := 97) (tgt := 109) dm_X8_save_97 (by decide) ?_
            refine G.lvp [2, 4, 5, 6, 8, 0] rfl ?_
            exact j_X8_save_109 hres (by assumption) (by assumption) (by assumption)
        · rw [if_pos c83] at hres
          refine G.getstatic (pc := 86) dm_X8_save_86 (Or.inl ⟨2, by decide, rfl⟩) tw613 ?_
          cases hres
          exact G.areturn (pc := 89) dm_X8_save_89 rfl (Or.inl ⟨_, rfl⟩) rfl rfl
      · rw [if_pos c54] at hres
        refine G.getstatic (pc := 57) dm_X8_save_57 (Or.inl ⟨2, by decide, rfl⟩) tw613 ?_
        cases hres
        exact G.areturn (pc := 60) dm_X8_save_60 rfl (Or.inl ⟨_, rfl⟩) rfl rfl
def f_X8_save_c13 (word : Int32) (cycle : Int32) (tlow : Int32) (thigh : Int32) (tnum : Int32) (tret : Int32) (regs : Nat → Int32) (tstore : Nat → Int32) (mwheel : Int32) (mwords : Nat → Int32) (z1_0 : Int32) (z2_0 : Int32) (z3_0 : Int32) : Nat × Int32 × (Nat → Int32) × (Nat → Int32) := (if z1_0 = (2 : Int32) then (f_X8_save_34 tlow thigh tnum tret regs tstore mwheel mwords word cycle z1_0 z2_0 z3_0 (1 : Int32)) else (if z1_0 = 0 then (f_X8_save_34 tlow thigh tnum tret regs tstore mwheel mwords word cycle z1_0 z2_0 z3_0 (1 : Int32)) else (f_X8_save_34 tlow thigh tnum tret regs tstore mwheel mwords word cycle z1_0 z2_0 z3_0 (0 : Int32))))
def f_X8_save_c7 (word : Int32) (cycle : Int32) (tlow : Int32) (thigh : Int32) (tnum : Int32) (tret : Int32) (regs : Nat → Int32) (tstore : Nat → Int32) (mwheel : Int32) (mwords : Nat → Int32) (z1_0 : Int32) (z2_0 : Int32) : Nat × Int32 × (Nat → Int32) × (Nat → Int32) := (f_X8_save_c13 word cycle tlow thigh tnum tret regs tstore mwheel mwords z1_0 z2_0 (f_X1_rt word))
def f_X8_save_c1 (word : Int32) (cycle : Int32) (tlow : Int32) (thigh : Int32) (tnum : Int32) (tret : Int32) (regs : Nat → Int32) (tstore : Nat → Int32) (mwheel : Int32) (mwords : Nat → Int32) (z1_0 : Int32) : Nat × Int32 × (Nat → Int32) × (Nat → Int32) := (f_X8_save_c7 word cycle tlow thigh tnum tret regs tstore mwheel mwords z1_0 (f_X1_rs word))
def f_X8_save (word : Int32) (cycle : Int32) (tlow : Int32) (thigh : Int32) (tnum : Int32) (tret : Int32) (regs : Nat → Int32) (tstore : Nat → Int32) (mwheel : Int32) (mwords : Nat → Int32) : Nat × Int32 × (Nat → Int32) × (Nat → Int32) := (f_X8_save_c1 word cycle tlow thigh tnum tret regs tstore mwheel mwords (f_X1_f word))
set_option maxRecDepth 20000 in
theorem k_X8_save {word : Int32} {cycle : Int32} {tlow : Int32} {thigh : Int32} {tnum : Int32} {tstat : Int32} {taddr : Int32} {tready : Int32} {tnext : Int32} {tret : Int32} {regs : Nat → Int32} {tstore : Nat → Int32} {hcount : Int32} {haddr : Nat → Int32} {hcyc : Nat → Int32} {hret : Nat → Int32} {tims : Nat → Int32} {mwheel : Int32} {mwords : Nat → Int32} (hlt : 0 ≤ tlow.toInt ∧ tlow.toInt ≤ thigh.toInt ∧ thigh.toInt ≤ 64) (hwh : 1 ≤ mwheel.toInt ∧ mwheel.toInt ≤ 8) {r_0 : Nat} {r_1 : Int32} {r_2 : (Nat → Int32)} {r_3 : (Nat → Int32)} (hres : (r_0, r_1, r_2, r_3) = f_X8_save word cycle tlow thigh tnum tret regs tstore mwheel mwords) : K M_X8_save yX8_save [.ref 0, .int word, .int cycle, .ref 8] (w_T tlow thigh tnum tstat taddr tready tnext tret regs tstore hcount haddr hcyc hret tims mwheel mwords) (some (.ref r_0)) (w_T tlow thigh tnum tstat taddr tready tnext r_1 regs r_2 hcount haddr hcyc hret tims mwheel r_3) := by
  refine K.of (lv := [(0, .ref 0), (1, .int word), (2, .int cycle), (3, .ref 8)]) (by decide +kernel) rfl rfl rfl ?_
  rw [f_X8_save] at hres
  refine G.iload_n (pc := 0) dm_X8_save_0 rfl ?_
  obtain ⟨z1_0, hz1⟩ := g_ex1 (f_X1_f word)
  refine G.callS (pc := 1) (rest := []) (st1 := [.int z1_0]) (ws1 := (w_T tlow thigh tnum tstat taddr tready tnext tret regs tstore hcount haddr hcyc hret tims mwheel mwords)) [] dm_X8_save_1 gc_X8_save_132 (k_X1_f (x := word) hz1) rfl rfl rfl rfl rfl rfl rfl rfl ?_
  replace hres : (r_0, r_1, r_2, r_3) = f_X8_save_c1 word cycle tlow thigh tnum tret regs tstore mwheel mwords z1_0 := hres.trans (by rw [← hz1])
  rw [f_X8_save_c1] at hres
  refine G.istore (pc := 4) (lv1 := [(4, .int z1_0), (0, .ref 0), (1, .int word), (2, .int cycle), (3, .ref 8)]) dm_X8_save_4 rfl rfl ?_
  refine G.iload_n (pc := 6) dm_X8_save_6 rfl ?_
  obtain ⟨z2_0, hz2⟩ := g_ex1 (f_X1_rs word)
  refine G.callS (pc := 7) (rest := []) (st1 := [.int z2_0]) (ws1 := (w_T tlow thigh tnum tstat taddr tready tnext tret regs tstore hcount haddr hcyc hret tims mwheel mwords)) [] dm_X8_save_7 gc_X8_save_129 (k_X1_rs (x := word) hz2) rfl rfl rfl rfl rfl rfl rfl rfl ?_
  replace hres : (r_0, r_1, r_2, r_3) = f_X8_save_c7 word cycle tlow thigh tnum tret regs tstore mwheel mwords z1_0 z2_0 := hres.trans (by rw [← hz2])
  rw [f_X8_save_c7] at hres
  refine G.istore (pc := 10) (lv1 := [(5, .int z2_0), (4, .int z1_0), (0, .ref 0), (1, .int word), (2, .int cycle), (3, .ref 8)]) dm_X8_save_10 rfl rfl ?_
  refine G.iload_n (pc := 12) dm_X8_save_12 rfl ?_
  obtain ⟨z3_0, hz3⟩ := g_ex1 (f_X1_rt word)
  refine G.callS (pc := 13) (rest := []) (st1 := [.int z3_0]) (ws1 := (w_T tlow thigh tnum tstat taddr tready tnext tret regs tstore hcount haddr hcyc hret tims mwheel mwords)) [] dm_X8_save_13 gc_X8_save_138 (k_X1_rt (x := word) hz3) rfl rfl rfl rfl rfl rfl rfl rfl ?_
  replace hres : (r_0, r_1, r_2, r_3) = f_X8_save_c13 word cycle tlow thigh tnum tret regs tstore mwheel mwords z1_0 z2_0 z3_0 := hres.trans (by rw [← hz3])
  rw [f_X8_save_c13] at hres
  refine G.istore (pc := 16) (lv1 := [(6, .int z3_0), (5, .int z2_0), (4, .int z1_0), (0, .ref 0), (1, .int word), (2, .int cycle), (3, .ref 8)]) dm_X8_save_16 rfl rfl ?_
  refine G.iload (pc := 18) dm_X8_save_18 rfl ?_
  refine G.iconst (pc := 20) (v := (2 : Int32)) dm_X8_save_20 qi_2 ?_
  refine G.icmp_eq (pc := 21) (tgt := 29) dm_X8_save_21 (by decide) (fun c21 => ?_) (fun c21 => ?_)
  · rw [if_pos c21] at hres
    refine G.iconst (pc := 29) (v := (1 : Int32)) dm_X8_save_29 qi_1 ?_
    refine G.goto (pc := 30) (tgt := 34) dm_X8_save_30 (by decide) ?_
    refine G.lvp [3, 4, 5, 6, 2, 1, 0] rfl ?_
    exact j_X8_save_34 hres (by assumption) (by assumption)
  · rw [if_neg c21] at hres
    refine G.iload (pc := 24) dm_X8_save_24 rfl ?_
    refine G.if_ne (pc := 26) (tgt := 33) dm_X8_save_26 (by decide) (fun c26 => ?_) (fun c26 => ?_)
    · rw [if_neg c26] at hres
      refine G.iconst (pc := 33) (v := (0 : Int32)) dm_X8_save_33 qi_0 ?_
      refine G.lvp [3, 4, 5, 6, 2, 1, 0] rfl ?_
      exact j_X8_save_34 hres (by assumption) (by assumption)
    · rw [if_pos c26] at hres
      refine G.iconst (pc := 29) (v := (1 : Int32)) dm_X8_save_29 qi_1 ?_
      refine G.goto (pc := 30) (tgt := 34) dm_X8_save_30 (by decide) ?_
      refine G.lvp [3, 4, 5, 6, 2, 1, 0] rfl ?_
      exact j_X8_save_34 hres (by assumption) (by assumption)
theorem o_X8_save_140 {l2 : Int32} {l8 : Int32} {l9 : Int32} {s0 : Int32} {tnum : Int32} {tret : Int32} {tstore : Nat → Int32} {mwheel : Int32} {mwords : Nat → Int32} {r_0 : Nat} {r_1 : Int32} {r_2 : (Nat → Int32)} {r_3 : (Nat → Int32)} (hres : (r_0, r_1, r_2, r_3) = (f_X8_save_140 tnum tret tstore mwheel mwords l2 s0 l8 l9)) : 1000 ≤ r_0 ∧ r_0 < 1003 := by
  rw [f_X8_save_140] at hres
  by_cases d146 : f_X8_isInStore l8 = 0
  · rw [if_pos d146] at hres
    obtain ⟨z10_0, hz10⟩ := g_ex1 (f_X8_placeOf l8)
    replace hres : (r_0, r_1, r_2, r_3) = f_X8_save_c153 tnum tret tstore mwheel mwords l2 s0 l8 l9 z10_0 := hres.trans (by rw [← hz10])
    rw [f_X8_save_c153] at hres
    obtain ⟨z11_0, hz11⟩ := g_ex1 (f_X8_setRetirement l8 l2 tnum tret mwheel)
    replace hres : (r_0, r_1, r_2, r_3) = f_X8_save_c184 tstore mwords s0 l9 z10_0 z11_0 := hres.trans (by rw [← hz11])
    rw [f_X8_save_c184] at hres
    cases hres
    exact (by first | exact hoz | decide)
  · rw [if_neg d146] at hres
    obtain ⟨z12_0, hz12⟩ := g_ex1 (f_X8_placeOf l8)
    replace hres : (r_0, r_1, r_2, r_3) = f_X8_save_c153_12 tnum tret tstore mwheel mwords l2 s0 l8 l9 z12_0 := hres.trans (by rw [← hz12])
    rw [f_X8_save_c153_12] at hres
    obtain ⟨z13_0, hz13⟩ := g_ex1 (f_X8_setRetirement l8 l2 tnum tret mwheel)
    replace hres : (r_0, r_1, r_2, r_3) = f_X8_save_c184_13 tstore mwords s0 l9 z12_0 z13_0 := hres.trans (by rw [← hz13])
    rw [f_X8_save_c184_13] at hres
    cases hres
    exact (by first | exact hoz | decide)
theorem o_X8_save_109 {l2 : Int32} {l4 : Int32} {l6 : Int32} {l8 : Int32} {s0 : Int32} {tnum : Int32} {tret : Int32} {regs : Nat → Int32} {tstore : Nat → Int32} {mwheel : Int32} {mwords : Nat → Int32} {r_0 : Nat} {r_1 : Int32} {r_2 : (Nat → Int32)} {r_3 : (Nat → Int32)} (hres : (r_0, r_1, r_2, r_3) = (f_X8_save_109 tnum tret regs tstore mwheel mwords l2 l4 l6 s0 l8)) : 1000 ≤ r_0 ∧ r_0 < 1003 := by
  rw [f_X8_save_109] at hres
  by_cases c114 : l4 = (2 : Int32)
  · rw [if_pos c114] at hres
    exact o_X8_save_140 hres 
  · rw [if_neg c114] at hres
    obtain ⟨z9_0, hz9⟩ := g_ex1 (f_X8_bitOf l8)
    replace hres : (r_0, r_1, r_2, r_3) = f_X8_save_c136 tnum tret regs tstore mwheel mwords l2 l6 s0 l8 z9_0 := hres.trans (by rw [← hz9])
    rw [f_X8_save_c136] at hres
    exact o_X8_save_140 hres 
theorem o_X8_save_34 {l1 : Int32} {l2 : Int32} {l4 : Int32} {l5 : Int32} {l6 : Int32} {s0 : Int32} {tlow : Int32} {thigh : Int32} {tnum : Int32} {tret : Int32} {regs : Nat → Int32} {tstore : Nat → Int32} {mwheel : Int32} {mwords : Nat → Int32} {r_0 : Nat} {r_1 : Int32} {r_2 : (Nat → Int32)} {r_3 : (Nat → Int32)} (hres : (r_0, r_1, r_2, r_3) = (f_X8_save_34 tlow thigh tnum tret regs tstore mwheel mwords l1 l2 l4 l5 l6 s0)) : 1000 ≤ r_0 ∧ r_0 < 1003 := by
  rw [f_X8_save_34] at hres
  by_cases c38 : s0 = 0
  · rw [if_pos c38] at hres
    cases hres
    exact (by first | exact hoz | decide)
  · rw [if_neg c38] at hres
    obtain ⟨z4_0, hz4⟩ := g_ex1 (f_X10_isRegister l5)
    replace hres : (r_0, r_1, r_2, r_3) = f_X8_save_c43 tlow thigh tnum tret regs tstore mwheel mwords l1 l2 l4 l5 l6 z4_0 := hres.trans (by rw [← hz4])
    rw [f_X8_save_c43] at hres
    by_cases c46 : z4_0 = 0
    · rw [if_pos c46] at hres
      cases hres
      exact (by first | exact hoz | decide)
    · rw [if_neg c46] at hres
      obtain ⟨z5_0, hz5⟩ := g_ex1 (f_X10_isRegister l6)
      replace hres : (r_0, r_1, r_2, r_3) = f_X8_save_c51 tlow thigh tnum tret regs tstore mwheel mwords l1 l2 l4 l5 l6 z5_0 := hres.trans (by rw [← hz5])
      rw [f_X8_save_c51] at hres
      by_cases c54 : z5_0 = 0
      · rw [if_pos c54] at hres
        cases hres
        exact (by first | exact hoz | decide)
      · rw [if_neg c54] at hres
        obtain ⟨z6_0, hz6⟩ := g_ex1 (f_X1_numberS l1)
        replace hres : (r_0, r_1, r_2, r_3) = f_X8_save_c69 tlow thigh tnum tret regs tstore mwheel mwords l2 l4 l5 l6 z6_0 := hres.trans (by rw [← hz6])
        rw [f_X8_save_c69] at hres
        obtain ⟨z7_0, hz7⟩ := g_ex1 (f_X8_canReach ((regs (Int32.toNatClampNeg l5)) + z6_0) l4 tlow thigh)
        replace hres : (r_0, r_1, r_2, r_3) = f_X8_save_c80 tnum tret regs tstore mwheel mwords l2 l4 l5 l6 z6_0 z7_0 := hres.trans (by rw [← hz7])
        rw [f_X8_save_c80] at hres
        by_cases c83 : z7_0 = 0
        · rw [if_pos c83] at hres
          cases hres
          exact (by first | exact hoz | decide)
        · rw [if_neg c83] at hres
          by_cases c93 : l4 = (2 : Int32)
          · rw [if_pos c93] at hres
            exact o_X8_save_109 hres 
          · rw [if_neg c93] at hres
            obtain ⟨z8_0, hz8⟩ := g_ex1 (f_X8_bitOf ((regs (Int32.toNatClampNeg l5)) + z6_0))
            replace hres : (r_0, r_1, r_2, r_3) = f_X8_save_c105 tnum tret regs tstore mwheel mwords l2 l4 l5 l6 z6_0 z8_0 := hres.trans (by rw [← hz8])
            rw [f_X8_save_c105] at hres
            exact o_X8_save_109 hres 
theorem o_X8_save {word : Int32} {cycle : Int32} {tlow : Int32} {thigh : Int32} {tnum : Int32} {tret : Int32} {regs : Nat → Int32} {tstore : Nat → Int32} {mwheel : Int32} {mwords : Nat → Int32} {r_0 : Nat} {r_1 : Int32} {r_2 : (Nat → Int32)} {r_3 : (Nat → Int32)} (hres : (r_0, r_1, r_2, r_3) = f_X8_save word cycle tlow thigh tnum tret regs tstore mwheel mwords) : 1000 ≤ r_0 ∧ r_0 < 1003 := by
  rw [f_X8_save] at hres
  obtain ⟨z1_0, hz1⟩ := g_ex1 (f_X1_f word)
  replace hres : (r_0, r_1, r_2, r_3) = f_X8_save_c1 word cycle tlow thigh tnum tret regs tstore mwheel mwords z1_0 := hres.trans (by rw [← hz1])
  rw [f_X8_save_c1] at hres
  obtain ⟨z2_0, hz2⟩ := g_ex1 (f_X1_rs word)
  replace hres : (r_0, r_1, r_2, r_3) = f_X8_save_c7 word cycle tlow thigh tnum tret regs tstore mwheel mwords z1_0 z2_0 := hres.trans (by rw [← hz2])
  rw [f_X8_save_c7] at hres
  obtain ⟨z3_0, hz3⟩ := g_ex1 (f_X1_rt word)
  replace hres : (r_0, r_1, r_2, r_3) = f_X8_save_c13 word cycle tlow thigh tnum tret regs tstore mwheel mwords z1_0 z2_0 z3_0 := hres.trans (by rw [← hz3])
  rw [f_X8_save_c13] at hres
  by_cases c21 : z1_0 = (2 : Int32)
  · rw [if_pos c21] at hres
    exact o_X8_save_34 hres 
  · rw [if_neg c21] at hres
    by_cases c26 : z1_0 = 0
    · rw [if_pos c26] at hres
      exact o_X8_save_34 hres 
    · rw [if_neg c26] at hres
      exact o_X8_save_34 hres 
abbrev M_X8_computeWithNumber : g_M := (cX8_computeWithNumber, 8, RX8, (some (.object "TimedThreads$Outcome")), { frames := 2, cells := 0, slots := 0, locals := 44 }, 0, 0)
theorem dm_X8_computeWithNumber_0 : decode M_X8_computeWithNumber.1 0 = .ok (.iload_n 1, 1) := by decide +kernel
theorem dm_X8_computeWithNumber_1 : decode M_X8_computeWithNumber.1 1 = .ok (.invokestatic 132, 3) := by decide +kernel
theorem dm_X8_computeWithNumber_4 : decode M_X8_computeWithNumber.1 4 = .ok (.istore_n 2, 1) := by decide +kernel
theorem dm_X8_computeWithNumber_5 : decode M_X8_computeWithNumber.1 5 = .ok (.iload_n 1, 1) := by decide +kernel
theorem dm_X8_computeWithNumber_6 : decode M_X8_computeWithNumber.1 6 = .ok (.invokestatic 188, 3) := by decide +kernel
theorem dm_X8_computeWithNumber_9 : decode M_X8_computeWithNumber.1 9 = .ok (.istore_n 3, 1) := by decide +kernel
theorem dm_X8_computeWithNumber_10 : decode M_X8_computeWithNumber.1 10 = .ok (.iload_n 1, 1) := by decide +kernel
theorem dm_X8_computeWithNumber_11 : decode M_X8_computeWithNumber.1 11 = .ok (.invokestatic 113, 3) := by decide +kernel
theorem dm_X8_computeWithNumber_14 : decode M_X8_computeWithNumber.1 14 = .ok (.istore 4, 2) := by decide +kernel
theorem dm_X8_computeWithNumber_16 : decode M_X8_computeWithNumber.1 16 = .ok (.iload_n 1, 1) := by decide +kernel
theorem dm_X8_computeWithNumber_17 : decode M_X8_computeWithNumber.1 17 = .ok (.invokestatic 129, 3) := by decide +kernel
theorem dm_X8_computeWithNumber_20 : decode M_X8_computeWithNumber.1 20 = .ok (.istore 5, 2) := by decide +kernel
theorem dm_X8_computeWithNumber_22 : decode M_X8_computeWithNumber.1 22 = .ok (.iload_n 2, 1) := by decide +kernel
theorem dm_X8_computeWithNumber_23 : decode M_X8_computeWithNumber.1 23 = .ok (.iconst 1, 1) := by decide +kernel
theorem dm_X8_computeWithNumber_24 : decode M_X8_computeWithNumber.1 24 = .ok (.if_icmp .ne 7, 3) := by decide +kernel
theorem dm_X8_computeWithNumber_27 : decode M_X8_computeWithNumber.1 27 = .ok (.iload_n 3, 1) := by decide +kernel
theorem dm_X8_computeWithNumber_28 : decode M_X8_computeWithNumber.1 28 = .ok (.ifCond .ne 18, 3) := by decide +kernel
theorem dm_X8_computeWithNumber_31 : decode M_X8_computeWithNumber.1 31 = .ok (.iload_n 2, 1) := by decide +kernel
theorem dm_X8_computeWithNumber_32 : decode M_X8_computeWithNumber.1 32 = .ok (.iconst 5, 1) := by decide +kernel
theorem dm_X8_computeWithNumber_33 : decode M_X8_computeWithNumber.1 33 = .ok (.if_icmp .ne 17, 3) := by decide +kernel
theorem dm_X8_computeWithNumber_36 : decode M_X8_computeWithNumber.1 36 = .ok (.iload_n 3, 1) := by decide +kernel
theorem dm_X8_computeWithNumber_37 : decode M_X8_computeWithNumber.1 37 = .ok (.ifCond .eq 13, 3) := by decide +kernel
theorem dm_X8_computeWithNumber_40 : decode M_X8_computeWithNumber.1 40 = .ok (.iload_n 3, 1) := by decide +kernel
theorem dm_X8_computeWithNumber_41 : decode M_X8_computeWithNumber.1 41 = .ok (.bipush 32, 2) := by decide +kernel
theorem dm_X8_computeWithNumber_43 : decode M_X8_computeWithNumber.1 43 = .ok (.if_icmp .eq 7, 3) := by decide +kernel
theorem dm_X8_computeWithNumber_46 : decode M_X8_computeWithNumber.1 46 = .ok (.iconst 1, 1) := by decide +kernel
theorem dm_X8_computeWithNumber_47 : decode M_X8_computeWithNumber.1 47 = .ok (.goto 4, 3) := by decide +kernel
theorem dm_X8_computeWithNumber_50 : decode M_X8_computeWithNumber.1 50 = .ok (.iconst 0, 1) := by decide +kernel
theorem dm_X8_computeWithNumber_51 : decode M_X8_computeWithNumber.1 51 = .ok (.istore 6, 2) := by decide +kernel
theorem dm_X8_computeWithNumber_53 : decode M_X8_computeWithNumber.1 53 = .ok (.iload 6, 2) := by decide +kernel
theorem dm_X8_computeWithNumber_55 : decode M_X8_computeWithNumber.1 55 = .ok (.ifCond .ne 19, 3) := by decide +kernel
theorem dm_X8_computeWithNumber_58 : decode M_X8_computeWithNumber.1 58 = .ok (.iload 4, 2) := by decide +kernel
theorem dm_X8_computeWithNumber_60 : decode M_X8_computeWithNumber.1 60 = .ok (.invokestatic 116, 3) := by decide +kernel
theorem dm_X8_computeWithNumber_63 : decode M_X8_computeWithNumber.1 63 = .ok (.ifCond .eq 11, 3) := by decide +kernel
theorem dm_X8_computeWithNumber_66 : decode M_X8_computeWithNumber.1 66 = .ok (.iload 5, 2) := by decide +kernel
theorem dm_X8_computeWithNumber_68 : decode M_X8_computeWithNumber.1 68 = .ok (.invokestatic 116, 3) := by decide +kernel
theorem dm_X8_computeWithNumber_71 : decode M_X8_computeWithNumber.1 71 = .ok (.ifCond .ne 7, 3) := by decide +kernel
theorem dm_X8_computeWithNumber_74 : decode M_X8_computeWithNumber.1 74 = .ok (.getstatic 48, 3) := by decide +kernel
theorem dm_X8_computeWithNumber_77 : decode M_X8_computeWithNumber.1 77 = .ok (.areturn, 1) := by decide +kernel
theorem dm_X8_computeWithNumber_78 : decode M_X8_computeWithNumber.1 78 = .ok (.iload_n 2, 1) := by decide +kernel
theorem dm_X8_computeWithNumber_79 : decode M_X8_computeWithNumber.1 79 = .ok (.iconst 5, 1) := by decide +kernel
theorem dm_X8_computeWithNumber_80 : decode M_X8_computeWithNumber.1 80 = .ok (.if_icmp .ne 13, 3) := by decide +kernel
theorem dm_X8_computeWithNumber_83 : decode M_X8_computeWithNumber.1 83 = .ok (.iload_n 3, 1) := by decide +kernel
theorem dm_X8_computeWithNumber_84 : decode M_X8_computeWithNumber.1 84 = .ok (.bipush 32, 2) := by decide +kernel
theorem dm_X8_computeWithNumber_86 : decode M_X8_computeWithNumber.1 86 = .ok (.if_icmp .ne 7, 3) := by decide +kernel
theorem dm_X8_computeWithNumber_89 : decode M_X8_computeWithNumber.1 89 = .ok (.iconst 1, 1) := by decide +kernel
theorem dm_X8_computeWithNumber_90 : decode M_X8_computeWithNumber.1 90 = .ok (.goto 4, 3) := by decide +kernel
theorem dm_X8_computeWithNumber_93 : decode M_X8_computeWithNumber.1 93 = .ok (.iconst 0, 1) := by decide +kernel
theorem dm_X8_computeWithNumber_94 : decode M_X8_computeWithNumber.1 94 = .ok (.istore 7, 2) := by decide +kernel
theorem dm_X8_computeWithNumber_96 : decode M_X8_computeWithNumber.1 96 = .ok (.aload_n 0, 1) := by decide +kernel
theorem dm_X8_computeWithNumber_97 : decode M_X8_computeWithNumber.1 97 = .ok (.iload 4, 2) := by decide +kernel
theorem dm_X8_computeWithNumber_99 : decode M_X8_computeWithNumber.1 99 = .ok (.iload_n 2, 1) := by decide +kernel
theorem dm_X8_computeWithNumber_100 : decode M_X8_computeWithNumber.1 100 = .ok (.iload 7, 2) := by decide +kernel
theorem dm_X8_computeWithNumber_102 : decode M_X8_computeWithNumber.1 102 = .ok (.aload_n 0, 1) := by decide +kernel
theorem dm_X8_computeWithNumber_103 : decode M_X8_computeWithNumber.1 103 = .ok (.getfield 9, 3) := by decide +kernel
theorem dm_X8_computeWithNumber_106 : decode M_X8_computeWithNumber.1 106 = .ok (.iload 5, 2) := by decide +kernel
theorem dm_X8_computeWithNumber_108 : decode M_X8_computeWithNumber.1 108 = .ok (.iaload, 1) := by decide +kernel
theorem dm_X8_computeWithNumber_109 : decode M_X8_computeWithNumber.1 109 = .ok (.iload_n 1, 1) := by decide +kernel
theorem dm_X8_computeWithNumber_110 : decode M_X8_computeWithNumber.1 110 = .ok (.invokestatic 135, 3) := by decide +kernel
theorem dm_X8_computeWithNumber_113 : decode M_X8_computeWithNumber.1 113 = .ok (.invokestatic 191, 3) := by decide +kernel
theorem dm_X8_computeWithNumber_116 : decode M_X8_computeWithNumber.1 116 = .ok (.invokevirtual 122, 3) := by decide +kernel
theorem dm_X8_computeWithNumber_119 : decode M_X8_computeWithNumber.1 119 = .ok (.getstatic 54, 3) := by decide +kernel
theorem dm_X8_computeWithNumber_122 : decode M_X8_computeWithNumber.1 122 = .ok (.areturn, 1) := by decide +kernel
theorem gc_X8_computeWithNumber_132 : g_cs M_X8_computeWithNumber 132 M_X1_f yX1_f 1 := ⟨tw658, tw659, tw359, tw660, ⟨rfl, rfl, rfl, rfl⟩, gd_X1_f, ⟨by decide, by decide⟩⟩
theorem gc_X8_computeWithNumber_188 : g_cs M_X8_computeWithNumber 188 M_X1_g yX1_g 1 := ⟨tw723, tw724, tw359, tw725, ⟨rfl, rfl, rfl, rfl⟩, gd_X1_g, ⟨by decide, by decide⟩⟩
theorem gc_X8_computeWithNumber_113 : g_cs M_X8_computeWithNumber 113 M_X1_rd yX1_rd 1 := ⟨tw632, tw633, tw359, tw634, ⟨rfl, rfl, rfl, rfl⟩, gd_X1_rd, ⟨by decide, by decide⟩⟩
theorem gc_X8_computeWithNumber_129 : g_cs M_X8_computeWithNumber 129 M_X1_rs yX1_rs 1 := ⟨tw655, tw656, tw359, tw657, ⟨rfl, rfl, rfl, rfl⟩, gd_X1_rs, ⟨by decide, by decide⟩⟩
theorem gc_X8_computeWithNumber_116 : g_csn M_X8_computeWithNumber 116 M_X10_isRegister yX10_isRegister 1 := ⟨(List.mem_of_getElem? (i := 3) rfl), tw635, tw2, tw636, ⟨rfl, rfl, rfl, rfl⟩, gd_X10_isRegister, ⟨by decide, by decide⟩⟩
theorem gc_X8_computeWithNumber_135 : g_cs M_X8_computeWithNumber 135 M_X1_numberI yX1_numberI 1 := ⟨tw661, tw662, tw359, tw663, ⟨rfl, rfl, rfl, rfl⟩, gd_X1_numberI, ⟨by decide, by decide⟩⟩
theorem gc_X8_computeWithNumber_191 : g_cs M_X8_computeWithNumber 191 M_X8_compute yX8_compute 4 := ⟨tw726, tw727, tw32, tw728, ⟨rfl, rfl, rfl, rfl⟩, gd_X8_compute, ⟨by decide, by decide⟩⟩
theorem gc_X8_computeWithNumber_122 : g_cv M_X8_computeWithNumber 122 M_X8_setRegister yX8_setRegister 2 := ⟨tw640, tw641, tw642, tw32, tw643, ⟨rfl, rfl, rfl, rfl⟩, gd_X8_setRegister, ⟨by decide, by decide⟩⟩
def f_X8_computeWithNumber_c116 (z9_0 : (Nat → Int32)) : Nat × (Nat → Int32) := (1000, z9_0)
def f_X8_computeWithNumber_c113 (regs : Nat → Int32) (l4 : Int32) (z8_0 : Int32) : Nat × (Nat → Int32) := (f_X8_computeWithNumber_c116 (f_X8_setRegister l4 z8_0 regs))
def f_X8_computeWithNumber_c110 (regs : Nat → Int32) (l2 : Int32) (l4 : Int32) (l5 : Int32) (s0 : Int32) (z7_0 : Int32) : Nat × (Nat → Int32) := (f_X8_computeWithNumber_c113 regs l4 (f_X8_compute l2 s0 (regs (Int32.toNatClampNeg l5)) z7_0))
def f_X8_computeWithNumber_94 (regs : Nat → Int32) (l1 : Int32) (l2 : Int32) (l4 : Int32) (l5 : Int32) (s0 : Int32) : Nat × (Nat → Int32) := (f_X8_computeWithNumber_c110 regs l2 l4 l5 s0 (f_X1_numberI l1))
set_option maxRecDepth 20000 in
theorem j_X8_computeWithNumber_94 {l1 : Int32} {l2 : Int32} {l4 : Int32} {l5 : Int32} {s0 : Int32} {tlow : Int32} {thigh : Int32} {tnum : Int32} {tstat : Int32} {taddr : Int32} {tready : Int32} {tnext : Int32} {tret : Int32} {regs : Nat → Int32} {tstore : Nat → Int32} {hcount : Int32} {haddr : Nat → Int32} {hcyc : Nat → Int32} {hret : Nat → Int32} {tims : Nat → Int32} {r_0 : Nat} {r_1 : (Nat → Int32)} (hres : (r_0, r_1) = (f_X8_computeWithNumber_94 regs l1 l2 l4 l5 s0)) (h4 : 0 ≤ l4.toInt ∧ l4.toInt < 16) (h5 : 0 ≤ l5.toInt ∧ l5.toInt < 16) : G M_X8_computeWithNumber 0 0 94 [(0, .ref 0), (1, .int l1), (2, .int l2), (4, .int l4), (5, .int l5)] [.int s0] (w_t tlow thigh tnum tstat taddr tready tnext tret regs tstore hcount haddr hcyc hret tims) (some (.ref r_0)) (w_t tlow thigh tnum tstat taddr tready tnext tret r_1 tstore hcount haddr hcyc hret tims) := by
  rw [f_X8_computeWithNumber_94] at hres
  refine G.istore (pc := 94) (lv1 := [(7, .int s0), (0, .ref 0), (1, .int l1), (2, .int l2), (4, .int l4), (5, .int l5)]) dm_X8_computeWithNumber_94 rfl rfl ?_
  refine G.aload_n (pc := 96) dm_X8_computeWithNumber_96 rfl ?_
  refine G.iload (pc := 97) dm_X8_computeWithNumber_97 rfl ?_
  refine G.iload_n (pc := 99) dm_X8_computeWithNumber_99 rfl ?_
  refine G.iload (pc := 100) dm_X8_computeWithNumber_100 rfl ?_
  refine G.aload_n (pc := 102) dm_X8_computeWithNumber_102 rfl ?_
  refine G.getfield (pc := 103) dm_X8_computeWithNumber_103 gf_X8_9 rfl rfl ?_
  refine G.iload (pc := 106) dm_X8_computeWithNumber_106 rfl ?_
  refine G.iaload (pc := 108) dm_X8_computeWithNumber_108 rfl (q_r16 h5) ?_
  refine G.iload_n (pc := 109) dm_X8_computeWithNumber_109 rfl ?_
  obtain ⟨z7_0, hz7⟩ := g_ex1 (f_X1_numberI l1)
  refine G.callS (pc := 110) (rest := [.int (regs (Int32.toNatClampNeg l5)), .int s0, .int l2, .int l4, .ref 0]) (st1 := [.int z7_0, .int (regs (Int32.toNatClampNeg l5)), .int s0, .int l2, .int l4, .ref 0]) (ws1 := (w_t tlow thigh tnum tstat taddr tready tnext tret regs tstore hcount haddr hcyc hret tims)) [] dm_X8_computeWithNumber_110 gc_X8_computeWithNumber_135 (k_X1_numberI (x := l1) hz7) rfl rfl rfl rfl rfl rfl rfl rfl ?_
  replace hres : (r_0, r_1) = f_X8_computeWithNumber_c110 regs l2 l4 l5 s0 z7_0 := hres.trans (by rw [← hz7])
  rw [f_X8_computeWithNumber_c110] at hres
  obtain ⟨z8_0, hz8⟩ := g_ex1 (f_X8_compute l2 s0 (regs (Int32.toNatClampNeg l5)) z7_0)
  refine G.callS (pc := 113) (rest := [.int l4, .ref 0]) (st1 := [.int z8_0, .int l4, .ref 0]) (ws1 := (w_t tlow thigh tnum tstat taddr tready tnext tret regs tstore hcount haddr hcyc hret tims)) [] dm_X8_computeWithNumber_113 gc_X8_computeWithNumber_191 (k_X8_compute (f := l2) (other := s0) (left := (regs (Int32.toNatClampNeg l5))) (right := z7_0) hz8) rfl rfl rfl rfl rfl rfl rfl rfl ?_
  replace hres : (r_0, r_1) = f_X8_computeWithNumber_c113 regs l4 z8_0 := hres.trans (by rw [← hz8])
  rw [f_X8_computeWithNumber_c113] at hres
  obtain ⟨z9_0, hz9⟩ := g_ex1 (f_X8_setRegister l4 z8_0 regs)
  refine G.callV0 (pc := 116) (rest := []) (st1 := []) dm_X8_computeWithNumber_116 gc_X8_computeWithNumber_122 (k_X8_setRegister (k := l4) (value := z8_0) (tlow := tlow) (thigh := thigh) (tnum := tnum) (tstat := tstat) (taddr := taddr) (tready := tready) (tnext := tnext) (tret := tret) (regs := regs) (tstore := tstore) (hcount := hcount) (haddr := haddr) (hcyc := hcyc) (hret := hret) (tims := tims) h4 hz9) rfl rfl rfl rfl rfl rfl rfl rfl ?_
  replace hres : (r_0, r_1) = f_X8_computeWithNumber_c116 z9_0 := hres.trans (by rw [← hz9])
  rw [f_X8_computeWithNumber_c116] at hres
  refine G.getstatic (pc := 119) dm_X8_computeWithNumber_119 (Or.inl ⟨0, by decide, rfl⟩) tw614 ?_
  cases hres
  exact G.areturn (pc := 122) dm_X8_computeWithNumber_122 rfl (Or.inl ⟨_, rfl⟩) rfl rfl
def f_X8_computeWithNumber_c68 (regs : Nat → Int32) (l1 : Int32) (l2 : Int32) (l3 : Int32) (l4 : Int32) (l5 : Int32) (z6_0 : Int32) : Nat × (Nat → Int32) := (if z6_0 = 0 then (1002, regs) else (if l2 = (5 : Int32) then (if l3 = (32 : Int32) then (f_X8_computeWithNumber_94 regs l1 l2 l4 l5 (1 : Int32)) else (f_X8_computeWithNumber_94 regs l1 l2 l4 l5 (0 : Int32))) else (f_X8_computeWithNumber_94 regs l1 l2 l4 l5 (0 : Int32))))
def f_X8_computeWithNumber_c60 (regs : Nat → Int32) (l1 : Int32) (l2 : Int32) (l3 : Int32) (l4 : Int32) (l5 : Int32) (z5_0 : Int32) : Nat × (Nat → Int32) := (if z5_0 = 0 then (1002, regs) else (f_X8_computeWithNumber_c68 regs l1 l2 l3 l4 l5 (f_X10_isRegister l5)))
def f_X8_computeWithNumber_51 (regs : Nat → Int32) (l1 : Int32) (l2 : Int32) (l3 : Int32) (l4 : Int32) (l5 : Int32) (s0 : Int32) : Nat × (Nat → Int32) := (if s0 = 0 then (f_X8_computeWithNumber_c60 regs l1 l2 l3 l4 l5 (f_X10_isRegister l4)) else (1002, regs))
set_option maxRecDepth 20000 in
theorem j_X8_computeWithNumber_51 {l1 : Int32} {l2 : Int32} {l3 : Int32} {l4 : Int32} {l5 : Int32} {s0 : Int32} {tlow : Int32} {thigh : Int32} {tnum : Int32} {tstat : Int32} {taddr : Int32} {tready : Int32} {tnext : Int32} {tret : Int32} {regs : Nat → Int32} {tstore : Nat → Int32} {hcount : Int32} {haddr : Nat → Int32} {hcyc : Nat → Int32} {hret : Nat → Int32} {tims : Nat → Int32} {r_0 : Nat} {r_1 : (Nat → Int32)} (hres : (r_0, r_1) = (f_X8_computeWithNumber_51 regs l1 l2 l3 l4 l5 s0)) : G M_X8_computeWithNumber 0 0 51 [(0, .ref 0), (1, .int l1), (2, .int l2), (3, .int l3), (4, .int l4), (5, .int l5)] [.int s0] (w_t tlow thigh tnum tstat taddr tready tnext tret regs tstore hcount haddr hcyc hret tims) (some (.ref r_0)) (w_t tlow thigh tnum tstat taddr tready tnext tret r_1 tstore hcount haddr hcyc hret tims) := by
  rw [f_X8_computeWithNumber_51] at hres
  refine G.istore (pc := 51) (lv1 := [(6, .int s0), (0, .ref 0), (1, .int l1), (2, .int l2), (3, .int l3), (4, .int l4), (5, .int l5)]) dm_X8_computeWithNumber_51 rfl rfl ?_
  refine G.iload (pc := 53) dm_X8_computeWithNumber_53 rfl ?_
  refine G.if_ne (pc := 55) (tgt := 74) dm_X8_computeWithNumber_55 (by decide) (fun c55 => ?_) (fun c55 => ?_)
  · rw [if_neg c55] at hres
    refine G.getstatic (pc := 74) dm_X8_computeWithNumber_74 (Or.inl ⟨2, by decide, rfl⟩) tw613 ?_
    cases hres
    exact G.areturn (pc := 77) dm_X8_computeWithNumber_77 rfl (Or.inl ⟨_, rfl⟩) rfl rfl
  · rw [if_pos c55] at hres
    refine G.iload (pc := 58) dm_X8_computeWithNumber_58 rfl ?_
    obtain ⟨z5_0, hz5⟩ := g_ex1 (f_X10_isRegister l4)
    refine G.callSN (pc := 60) (rest := []) (st1 := [.int z5_0]) (ws1 := (w_t tlow thigh tnum tstat taddr tready tnext tret regs tstore hcount haddr hcyc hret tims)) [] dm_X8_computeWithNumber_60 gc_X8_computeWithNumber_116 (k_X10_isRegister (k := l4) hz5) rfl rfl rfl rfl rfl rfl rfl rfl ?_
    have hrd := a_isReg hz5
    replace hres : (r_0, r_1) = f_X8_computeWithNumber_c60 regs l1 l2 l3 l4 l5 z5_0 := hres.trans (by rw [← hz5])
    rw [f_X8_computeWithNumber_c60] at hres
    refine G.if_eq (pc := 63) (tgt := 74) dm_X8_computeWithNumber_63 (by decide) (fun c63 => ?_) (fun c63 => ?_)
    · rw [if_pos c63] at hres
      refine G.getstatic (pc := 74) dm_X8_computeWithNumber_74 (Or.inl ⟨2, by decide, rfl⟩) tw613 ?_
      cases hres
      exact G.areturn (pc := 77) dm_X8_computeWithNumber_77 rfl (Or.inl ⟨_, rfl⟩) rfl rfl
    · rw [if_neg c63] at hres
      refine G.iload (pc := 66) dm_X8_computeWithNumber_66 rfl ?_
      obtain ⟨z6_0, hz6⟩ := g_ex1 (f_X10_isRegister l5)
      refine G.callSN (pc := 68) (rest := []) (st1 := [.int z6_0]) (ws1 := (w_t tlow thigh tnum tstat taddr tready tnext tret regs tstore hcount haddr hcyc hret tims)) [] dm_X8_computeWithNumber_68 gc_X8_computeWithNumber_116 (k_X10_isRegister (k := l5) hz6) rfl rfl rfl rfl rfl rfl rfl rfl ?_
      have hrs := a_isReg hz6
      replace hres : (r_0, r_1) = f_X8_computeWithNumber_c68 regs l1 l2 l3 l4 l5 z6_0 := hres.trans (by rw [← hz6])
      rw [f_X8_computeWithNumber_c68] at hres
      refine G.if_ne (pc := 71) (tgt := 78) dm_X8_computeWithNumber_71 (by decide) (fun c71 => ?_) (fun c71 => ?_)
      · rw [if_neg c71] at hres
        have h4 := hrd c63
        have h5 := hrs c71
        refine G.iload_n (pc := 78) dm_X8_computeWithNumber_78 rfl ?_
        refine G.iconst (pc := 79) (v := (5 : Int32)) dm_X8_computeWithNumber_79 qi_5 ?_
        refine G.icmp_ne (pc := 80) (tgt := 93) dm_X8_computeWithNumber_80 (by decide) (fun c80 => ?_) (fun c80 => ?_)
        · rw [if_neg c80] at hres
          refine G.iconst (pc := 93) (v := (0 : Int32)) dm_X8_computeWithNumber_93 qi_0 ?_
          refine G.lvp [1, 2, 3, 5, 6] rfl ?_
          exact j_X8_computeWithNumber_94 hres (by assumption) (by assumption)
        · rw [if_pos c80] at hres
          refine G.iload_n (pc := 83) dm_X8_computeWithNumber_83 rfl ?_
          refine G.bipush (pc := 84) (v := (32 : Int32)) dm_X8_computeWithNumber_84 qb_32 ?_
          refine G.icmp_ne (pc := 86) (tgt := 93) dm_X8_computeWithNumber_86 (by decide) (fun c86 => ?_) (fun c86 => ?_)
          · rw [if_neg c86] at hres
            refine G.iconst (pc := 93) (v := (0 : Int32)) dm_X8_computeWithNumber_93 qi_0 ?_
            refine G.lvp [1, 2, 3, 5, 6] rfl ?_
            exact j_X8_computeWithNumber_94 hres (by assumption) (by assumption)
          · rw [if_pos c86] at hres
            refine G.iconst (pc := 89) (v := (1 : Int32)) dm_X8_computeWithNumber_89 qi_1 ?_
            refine G.goto (pc := 90) (tgt := 94) dm_X8_computeWithNumber_90 (by decide) ?_
            refine G.lvp [1, 2, 3, 5, 6] rfl ?_
            exact j_X8_computeWithNumber_94 hres (by assumption) (by assumption)
      · rw [if_pos c71] at hres
        refine G.getstatic (pc := 74) dm_X8_computeWithNumber_74 (Or.inl ⟨2, by decide, rfl⟩) tw613 ?_
        cases hres
        exact G.areturn (pc := 77) dm_X8_computeWithNumber_77 rfl (Or.inl ⟨_, rfl⟩) rfl rfl
def f_X8_computeWithNumber_50 (regs : Nat → Int32) (l1 : Int32) (l2 : Int32) (l3 : Int32) (l4 : Int32) (l5 : Int32) : Nat × (Nat → Int32) := (f_X8_computeWithNumber_51 regs l1 l2 l3 l4 l5 (0 : Int32))
set_option maxRecDepth 20000 in
theorem j_X8_computeWithNumber_50 {l1 : Int32} {l2 : Int32} {l3 : Int32} {l4 : Int32} {l5 : Int32} {tlow : Int32} {thigh : Int32} {tnum : Int32} {tstat : Int32} {taddr : Int32} {tready : Int32} {tnext : Int32} {tret : Int32} {regs : Nat → Int32} {tstore : Nat → Int32} {hcount : Int32} {haddr : Nat → Int32} {hcyc : Nat → Int32} {hret : Nat → Int32} {tims : Nat → Int32} {r_0 : Nat} {r_1 : (Nat → Int32)} (hres : (r_0, r_1) = (f_X8_computeWithNumber_50 regs l1 l2 l3 l4 l5)) : G M_X8_computeWithNumber 0 0 50 [(0, .ref 0), (1, .int l1), (2, .int l2), (3, .int l3), (4, .int l4), (5, .int l5)] [] (w_t tlow thigh tnum tstat taddr tready tnext tret regs tstore hcount haddr hcyc hret tims) (some (.ref r_0)) (w_t tlow thigh tnum tstat taddr tready tnext tret r_1 tstore hcount haddr hcyc hret tims) := by
  rw [f_X8_computeWithNumber_50] at hres
  refine G.iconst (pc := 50) (v := (0 : Int32)) dm_X8_computeWithNumber_50 qi_0 ?_
  exact j_X8_computeWithNumber_51 hres 
def f_X8_computeWithNumber_31 (regs : Nat → Int32) (l1 : Int32) (l2 : Int32) (l3 : Int32) (l4 : Int32) (l5 : Int32) : Nat × (Nat → Int32) := (if l2 = (5 : Int32) then (if l3 = 0 then (f_X8_computeWithNumber_50 regs l1 l2 l3 l4 l5) else (if l3 = (32 : Int32) then (f_X8_computeWithNumber_50 regs l1 l2 l3 l4 l5) else (f_X8_computeWithNumber_51 regs l1 l2 l3 l4 l5 (1 : Int32)))) else (f_X8_computeWithNumber_50 regs l1 l2 l3 l4 l5))
set_option maxRecDepth 20000 in
theorem j_X8_computeWithNumber_31 {l1 : Int32} {l2 : Int32} {l3 : Int32} {l4 : Int32} {l5 : Int32} {tlow : Int32} {thigh : Int32} {tnum : Int32} {tstat : Int32} {taddr : Int32} {tready : Int32} {tnext : Int32} {tret : Int32} {regs : Nat → Int32} {tstore : Nat → Int32} {hcount : Int32} {haddr : Nat → Int32} {hcyc : Nat → Int32} {hret : Nat → Int32} {tims : Nat → Int32} {r_0 : Nat} {r_1 : (Nat → Int32)} (hres : (r_0, r_1) = (f_X8_computeWithNumber_31 regs l1 l2 l3 l4 l5)) : G M_X8_computeWithNumber 0 0 31 [(0, .ref 0), (1, .int l1), (2, .int l2), (3, .int l3), (4, .int l4), (5, .int l5)] [] (w_t tlow thigh tnum tstat taddr tready tnext tret regs tstore hcount haddr hcyc hret tims) (some (.ref r_0)) (w_t tlow thigh tnum tstat taddr tready tnext tret r_1 tstore hcount haddr hcyc hret tims) := by
  rw [f_X8_computeWithNumber_31] at hres
  refine G.iload_n (pc := 31) dm_X8_computeWithNumber_31 rfl ?_
  refine G.iconst (pc := 32) (v := (5 : Int32)) dm_X8_computeWithNumber_32 qi_5 ?_
  refine G.icmp_ne (pc := 33) (tgt := 50) dm_X8_computeWithNumber_33 (by decide) (fun c33 => ?_) (fun c33 => ?_)
  · rw [if_neg c33] at hres
    exact j_X8_computeWithNumber_50 hres 
  · rw [if_pos c33] at hres
    refine G.iload_n (pc := 36) dm_X8_computeWithNumber_36 rfl ?_
    refine G.if_eq (pc := 37) (tgt := 50) dm_X8_computeWithNumber_37 (by decide) (fun c37 => ?_) (fun c37 => ?_)
    · rw [if_pos c37] at hres
      exact j_X8_computeWithNumber_50 hres 
    · rw [if_neg c37] at hres
      refine G.iload_n (pc := 40) dm_X8_computeWithNumber_40 rfl ?_
      refine G.bipush (pc := 41) (v := (32 : Int32)) dm_X8_computeWithNumber_41 qb_32 ?_
      refine G.icmp_eq (pc := 43) (tgt := 50) dm_X8_computeWithNumber_43 (by decide) (fun c43 => ?_) (fun c43 => ?_)
      · rw [if_pos c43] at hres
        exact j_X8_computeWithNumber_50 hres 
      · rw [if_neg c43] at hres
        refine G.iconst (pc := 46) (v := (1 : Int32)) dm_X8_computeWithNumber_46 qi_1 ?_
        refine G.goto (pc := 47) (tgt := 51) dm_X8_computeWithNumber_47 (by decide) ?_
        exact j_X8_computeWithNumber_51 hres 
def f_X8_computeWithNumber_c17 (word : Int32) (regs : Nat → Int32) (z1_0 : Int32) (z2_0 : Int32) (z3_0 : Int32) (z4_0 : Int32) : Nat × (Nat → Int32) := (if z1_0 = (1 : Int32) then (if z2_0 = 0 then (f_X8_computeWithNumber_31 regs word z1_0 z2_0 z3_0 z4_0) else (f_X8_computeWithNumber_51 regs word z1_0 z2_0 z3_0 z4_0 (1 : Int32))) else (f_X8_computeWithNumber_31 regs word z1_0 z2_0 z3_0 z4_0))
def f_X8_computeWithNumber_c11 (word : Int32) (regs : Nat → Int32) (z1_0 : Int32) (z2_0 : Int32) (z3_0 : Int32) : Nat × (Nat → Int32) := (f_X8_computeWithNumber_c17 word regs z1_0 z2_0 z3_0 (f_X1_rs word))
def f_X8_computeWithNumber_c6 (word : Int32) (regs : Nat → Int32) (z1_0 : Int32) (z2_0 : Int32) : Nat × (Nat → Int32) := (f_X8_computeWithNumber_c11 word regs z1_0 z2_0 (f_X1_rd word))
def f_X8_computeWithNumber_c1 (word : Int32) (regs : Nat → Int32) (z1_0 : Int32) : Nat × (Nat → Int32) := (f_X8_computeWithNumber_c6 word regs z1_0 (f_X1_g word))
def f_X8_computeWithNumber (word : Int32) (regs : Nat → Int32) : Nat × (Nat → Int32) := (f_X8_computeWithNumber_c1 word regs (f_X1_f word))
set_option maxRecDepth 20000 in
theorem k_X8_computeWithNumber {word : Int32} {tlow : Int32} {thigh : Int32} {tnum : Int32} {tstat : Int32} {taddr : Int32} {tready : Int32} {tnext : Int32} {tret : Int32} {regs : Nat → Int32} {tstore : Nat → Int32} {hcount : Int32} {haddr : Nat → Int32} {hcyc : Nat → Int32} {hret : Nat → Int32} {tims : Nat → Int32} {r_0 : Nat} {r_1 : (Nat → Int32)} (hres : (r_0, r_1) = f_X8_computeWithNumber word regs) : K M_X8_computeWithNumber yX8_computeWithNumber [.ref 0, .int word] (w_t tlow thigh tnum tstat taddr tready tnext tret regs tstore hcount haddr hcyc hret tims) (some (.ref r_0)) (w_t tlow thigh tnum tstat taddr tready tnext tret r_1 tstore hcount haddr hcyc hret tims) := by
  refine K.of (lv := [(0, .ref 0), (1, .int word)]) (by decide +kernel) rfl rfl rfl ?_
  rw [f_X8_computeWithNumber] at hres
  refine G.iload_n (pc := 0) dm_X8_computeWithNumber_0 rfl ?_
  obtain ⟨z1_0, hz1⟩ := g_ex1 (f_X1_f word)
  refine G.callS (pc := 1) (rest := []) (st1 := [.int z1_0]) (ws1 := (w_t tlow thigh tnum tstat taddr tready tnext tret regs tstore hcount haddr hcyc hret tims)) [] dm_X8_computeWithNumber_1 gc_X8_computeWithNumber_132 (k_X1_f (x := word) hz1) rfl rfl rfl rfl rfl rfl rfl rfl ?_
  replace hres : (r_0, r_1) = f_X8_computeWithNumber_c1 word regs z1_0 := hres.trans (by rw [← hz1])
  rw [f_X8_computeWithNumber_c1] at hres
  refine G.istore_n (pc := 4) (lv1 := [(2, .int z1_0), (0, .ref 0), (1, .int word)]) dm_X8_computeWithNumber_4 rfl rfl ?_
  refine G.iload_n (pc := 5) dm_X8_computeWithNumber_5 rfl ?_
  obtain ⟨z2_0, hz2⟩ := g_ex1 (f_X1_g word)
  refine G.callS (pc := 6) (rest := []) (st1 := [.int z2_0]) (ws1 := (w_t tlow thigh tnum tstat taddr tready tnext tret regs tstore hcount haddr hcyc hret tims)) [] dm_X8_computeWithNumber_6 gc_X8_computeWithNumber_188 (k_X1_g (x := word) hz2) rfl rfl rfl rfl rfl rfl rfl rfl ?_
  replace hres : (r_0, r_1) = f_X8_computeWithNumber_c6 word regs z1_0 z2_0 := hres.trans (by rw [← hz2])
  rw [f_X8_computeWithNumber_c6] at hres
  refine G.istore_n (pc := 9) (lv1 := [(3, .int z2_0), (2, .int z1_0), (0, .ref 0), (1, .int word)]) dm_X8_computeWithNumber_9 rfl rfl ?_
  refine G.iload_n (pc := 10) dm_X8_computeWithNumber_10 rfl ?_
  obtain ⟨z3_0, hz3⟩ := g_ex1 (f_X1_rd word)
  refine G.callS (pc := 11) (rest := []) (st1 := [.int z3_0]) (ws1 := (w_t tlow thigh tnum tstat taddr tready tnext tret regs tstore hcount haddr hcyc hret tims)) [] dm_X8_computeWithNumber_11 gc_X8_computeWithNumber_113 (k_X1_rd (x := word) hz3) rfl rfl rfl rfl rfl rfl rfl rfl ?_
  replace hres : (r_0, r_1) = f_X8_computeWithNumber_c11 word regs z1_0 z2_0 z3_0 := hres.trans (by rw [← hz3])
  rw [f_X8_computeWithNumber_c11] at hres
  refine G.istore (pc := 14) (lv1 := [(4, .int z3_0), (3, .int z2_0), (2, .int z1_0), (0, .ref 0), (1, .int word)]) dm_X8_computeWithNumber_14 rfl rfl ?_
  refine G.iload_n (pc := 16) dm_X8_computeWithNumber_16 rfl ?_
  obtain ⟨z4_0, hz4⟩ := g_ex1 (f_X1_rs word)
  refine G.callS (pc := 17) (rest := []) (st1 := [.int z4_0]) (ws1 := (w_t tlow thigh tnum tstat taddr tready tnext tret regs tstore hcount haddr hcyc hret tims)) [] dm_X8_computeWithNumber_17 gc_X8_computeWithNumber_129 (k_X1_rs (x := word) hz4) rfl rfl rfl rfl rfl rfl rfl rfl ?_
  replace hres : (r_0, r_1) = f_X8_computeWithNumber_c17 word regs z1_0 z2_0 z3_0 z4_0 := hres.trans (by rw [← hz4])
  rw [f_X8_computeWithNumber_c17] at hres
  refine G.istore (pc := 20) (lv1 := [(5, .int z4_0), (4, .int z3_0), (3, .int z2_0), (2, .int z1_0), (0, .ref 0), (1, .int word)]) dm_X8_computeWithNumber_20 rfl rfl ?_
  refine G.iload_n (pc := 22) dm_X8_computeWithNumber_22 rfl ?_
  refine G.iconst (pc := 23) (v := (1 : Int32)) dm_X8_computeWithNumber_23 qi_1 ?_
  refine G.icmp_ne (pc := 24) (tgt := 31) dm_X8_computeWithNumber_24 (by decide) (fun c24 => ?_) (fun c24 => ?_)
  · rw [if_neg c24] at hres
    refine G.lvp [4, 5, 3, 2, 1, 0] rfl ?_
    exact j_X8_computeWithNumber_31 hres 
  · rw [if_pos c24] at hres
    refine G.iload_n (pc := 27) dm_X8_computeWithNumber_27 rfl ?_
    refine G.if_ne (pc := 28) (tgt := 46) dm_X8_computeWithNumber_28 (by decide) (fun c28 => ?_) (fun c28 => ?_)
    · rw [if_neg c28] at hres
      refine G.iconst (pc := 46) (v := (1 : Int32)) dm_X8_computeWithNumber_46 qi_1 ?_
      refine G.goto (pc := 47) (tgt := 51) dm_X8_computeWithNumber_47 (by decide) ?_
      refine G.lvp [4, 5, 3, 2, 1, 0] rfl ?_
      exact j_X8_computeWithNumber_51 hres 
    · rw [if_pos c28] at hres
      refine G.lvp [4, 5, 3, 2, 1, 0] rfl ?_
      exact j_X8_computeWithNumber_31 hres 
theorem o_X8_computeWithNumber_94 {l1 : Int32} {l2 : Int32} {l4 : Int32} {l5 : Int32} {s0 : Int32} {regs : Nat → Int32} {r_0 : Nat} {r_1 : (Nat → Int32)} (hres : (r_0, r_1) = (f_X8_computeWithNumber_94 regs l1 l2 l4 l5 s0)) : 1000 ≤ r_0 ∧ r_0 < 1003 := by
  rw [f_X8_computeWithNumber_94] at hres
  obtain ⟨z7_0, hz7⟩ := g_ex1 (f_X1_numberI l1)
  replace hres : (r_0, r_1) = f_X8_computeWithNumber_c110 regs l2 l4 l5 s0 z7_0 := hres.trans (by rw [← hz7])
  rw [f_X8_computeWithNumber_c110] at hres
  obtain ⟨z8_0, hz8⟩ := g_ex1 (f_X8_compute l2 s0 (regs (Int32.toNatClampNeg l5)) z7_0)
  replace hres : (r_0, r_1) = f_X8_computeWithNumber_c113 regs l4 z8_0 := hres.trans (by rw [← hz8])
  rw [f_X8_computeWithNumber_c113] at hres
  obtain ⟨z9_0, hz9⟩ := g_ex1 (f_X8_setRegister l4 z8_0 regs)
  replace hres : (r_0, r_1) = f_X8_computeWithNumber_c116 z9_0 := hres.trans (by rw [← hz9])
  rw [f_X8_computeWithNumber_c116] at hres
  cases hres
  exact (by first | exact hoz | decide)
theorem o_X8_computeWithNumber_51 {l1 : Int32} {l2 : Int32} {l3 : Int32} {l4 : Int32} {l5 : Int32} {s0 : Int32} {regs : Nat → Int32} {r_0 : Nat} {r_1 : (Nat → Int32)} (hres : (r_0, r_1) = (f_X8_computeWithNumber_51 regs l1 l2 l3 l4 l5 s0)) : 1000 ≤ r_0 ∧ r_0 < 1003 := by
  rw [f_X8_computeWithNumber_51] at hres
  by_cases c55 : s0 = 0
  · rw [if_pos c55] at hres
    obtain ⟨z5_0, hz5⟩ := g_ex1 (f_X10_isRegister l4)
    replace hres : (r_0, r_1) = f_X8_computeWithNumber_c60 regs l1 l2 l3 l4 l5 z5_0 := hres.trans (by rw [← hz5])
    rw [f_X8_computeWithNumber_c60] at hres
    by_cases c63 : z5_0 = 0
    · rw [if_pos c63] at hres
      cases hres
      exact (by first | exact hoz | decide)
    · rw [if_neg c63] at hres
      obtain ⟨z6_0, hz6⟩ := g_ex1 (f_X10_isRegister l5)
      replace hres : (r_0, r_1) = f_X8_computeWithNumber_c68 regs l1 l2 l3 l4 l5 z6_0 := hres.trans (by rw [← hz6])
      rw [f_X8_computeWithNumber_c68] at hres
      by_cases c71 : z6_0 = 0
      · rw [if_pos c71] at hres
        cases hres
        exact (by first | exact hoz | decide)
      · rw [if_neg c71] at hres
        by_cases c80 : l2 = (5 : Int32)
        · rw [if_pos c80] at hres
          by_cases c86 : l3 = (32 : Int32)
          · rw [if_pos c86] at hres
            exact o_X8_computeWithNumber_94 hres 
          · rw [if_neg c86] at hres
            exact o_X8_computeWithNumber_94 hres 
        · rw [if_neg c80] at hres
          exact o_X8_computeWithNumber_94 hres 
  · rw [if_neg c55] at hres
    cases hres
    exact (by first | exact hoz | decide)
theorem o_X8_computeWithNumber_50 {l1 : Int32} {l2 : Int32} {l3 : Int32} {l4 : Int32} {l5 : Int32} {regs : Nat → Int32} {r_0 : Nat} {r_1 : (Nat → Int32)} (hres : (r_0, r_1) = (f_X8_computeWithNumber_50 regs l1 l2 l3 l4 l5)) : 1000 ≤ r_0 ∧ r_0 < 1003 := by
  rw [f_X8_computeWithNumber_50] at hres
  exact o_X8_computeWithNumber_51 hres 
theorem o_X8_computeWithNumber_31 {l1 : Int32} {l2 : Int32} {l3 : Int32} {l4 : Int32} {l5 : Int32} {regs : Nat → Int32} {r_0 : Nat} {r_1 : (Nat → Int32)} (hres : (r_0, r_1) = (f_X8_computeWithNumber_31 regs l1 l2 l3 l4 l5)) : 1000 ≤ r_0 ∧ r_0 < 1003 := by
  rw [f_X8_computeWithNumber_31] at hres
  by_cases c33 : l2 = (5 : Int32)
  · rw [if_pos c33] at hres
    by_cases c37 : l3 = 0
    · rw [if_pos c37] at hres
      exact o_X8_computeWithNumber_50 hres 
    · rw [if_neg c37] at hres
      by_cases c43 : l3 = (32 : Int32)
      · rw [if_pos c43] at hres
        exact o_X8_computeWithNumber_50 hres 
      · rw [if_neg c43] at hres
        exact o_X8_computeWithNumber_51 hres 
  · rw [if_neg c33] at hres
    exact o_X8_computeWithNumber_50 hres 
theorem o_X8_computeWithNumber {word : Int32} {regs : Nat → Int32} {r_0 : Nat} {r_1 : (Nat → Int32)} (hres : (r_0, r_1) = f_X8_computeWithNumber word regs) : 1000 ≤ r_0 ∧ r_0 < 1003 := by
  rw [f_X8_computeWithNumber] at hres
  obtain ⟨z1_0, hz1⟩ := g_ex1 (f_X1_f word)
  replace hres : (r_0, r_1) = f_X8_computeWithNumber_c1 word regs z1_0 := hres.trans (by rw [← hz1])
  rw [f_X8_computeWithNumber_c1] at hres
  obtain ⟨z2_0, hz2⟩ := g_ex1 (f_X1_g word)
  replace hres : (r_0, r_1) = f_X8_computeWithNumber_c6 word regs z1_0 z2_0 := hres.trans (by rw [← hz2])
  rw [f_X8_computeWithNumber_c6] at hres
  obtain ⟨z3_0, hz3⟩ := g_ex1 (f_X1_rd word)
  replace hres : (r_0, r_1) = f_X8_computeWithNumber_c11 word regs z1_0 z2_0 z3_0 := hres.trans (by rw [← hz3])
  rw [f_X8_computeWithNumber_c11] at hres
  obtain ⟨z4_0, hz4⟩ := g_ex1 (f_X1_rs word)
  replace hres : (r_0, r_1) = f_X8_computeWithNumber_c17 word regs z1_0 z2_0 z3_0 z4_0 := hres.trans (by rw [← hz4])
  rw [f_X8_computeWithNumber_c17] at hres
  by_cases c24 : z1_0 = (1 : Int32)
  · rw [if_pos c24] at hres
    by_cases c28 : z2_0 = 0
    · rw [if_pos c28] at hres
      exact o_X8_computeWithNumber_31 hres 
    · rw [if_neg c28] at hres
      exact o_X8_computeWithNumber_51 hres 
  · rw [if_neg c24] at hres
    exact o_X8_computeWithNumber_31 hres 
abbrev M_X8_computeWithRegister : g_M := (cX8_computeWithRegister, 8, RX8, (some (.object "TimedThreads$Outcome")), { frames := 2, cells := 0, slots := 0, locals := 44 }, 0, 0)
theorem dm_X8_computeWithRegister_0 : decode M_X8_computeWithRegister.1 0 = .ok (.iload_n 1, 1) := by decide +kernel
theorem dm_X8_computeWithRegister_1 : decode M_X8_computeWithRegister.1 1 = .ok (.invokestatic 132, 3) := by decide +kernel
theorem dm_X8_computeWithRegister_4 : decode M_X8_computeWithRegister.1 4 = .ok (.istore_n 2, 1) := by decide +kernel
theorem dm_X8_computeWithRegister_5 : decode M_X8_computeWithRegister.1 5 = .ok (.iload_n 1, 1) := by decide +kernel
theorem dm_X8_computeWithRegister_6 : decode M_X8_computeWithRegister.1 6 = .ok (.invokestatic 188, 3) := by decide +kernel
theorem dm_X8_computeWithRegister_9 : decode M_X8_computeWithRegister.1 9 = .ok (.istore_n 3, 1) := by decide +kernel
theorem dm_X8_computeWithRegister_10 : decode M_X8_computeWithRegister.1 10 = .ok (.iload_n 1, 1) := by decide +kernel
theorem dm_X8_computeWithRegister_11 : decode M_X8_computeWithRegister.1 11 = .ok (.invokestatic 113, 3) := by decide +kernel
theorem dm_X8_computeWithRegister_14 : decode M_X8_computeWithRegister.1 14 = .ok (.istore 4, 2) := by decide +kernel
theorem dm_X8_computeWithRegister_16 : decode M_X8_computeWithRegister.1 16 = .ok (.iload_n 1, 1) := by decide +kernel
theorem dm_X8_computeWithRegister_17 : decode M_X8_computeWithRegister.1 17 = .ok (.invokestatic 129, 3) := by decide +kernel
theorem dm_X8_computeWithRegister_20 : decode M_X8_computeWithRegister.1 20 = .ok (.istore 5, 2) := by decide +kernel
theorem dm_X8_computeWithRegister_22 : decode M_X8_computeWithRegister.1 22 = .ok (.iload_n 1, 1) := by decide +kernel
theorem dm_X8_computeWithRegister_23 : decode M_X8_computeWithRegister.1 23 = .ok (.invokestatic 138, 3) := by decide +kernel
theorem dm_X8_computeWithRegister_26 : decode M_X8_computeWithRegister.1 26 = .ok (.istore 6, 2) := by decide +kernel
theorem dm_X8_computeWithRegister_28 : decode M_X8_computeWithRegister.1 28 = .ok (.iload_n 3, 1) := by decide +kernel
theorem dm_X8_computeWithRegister_29 : decode M_X8_computeWithRegister.1 29 = .ok (.ifCond .eq 18, 3) := by decide +kernel
theorem dm_X8_computeWithRegister_32 : decode M_X8_computeWithRegister.1 32 = .ok (.iload_n 3, 1) := by decide +kernel
theorem dm_X8_computeWithRegister_33 : decode M_X8_computeWithRegister.1 33 = .ok (.bipush 32, 2) := by decide +kernel
theorem dm_X8_computeWithRegister_35 : decode M_X8_computeWithRegister.1 35 = .ok (.if_icmp .ne 16, 3) := by decide +kernel
theorem dm_X8_computeWithRegister_38 : decode M_X8_computeWithRegister.1 38 = .ok (.iload_n 2, 1) := by decide +kernel
theorem dm_X8_computeWithRegister_39 : decode M_X8_computeWithRegister.1 39 = .ok (.ifCond .eq 8, 3) := by decide +kernel
theorem dm_X8_computeWithRegister_42 : decode M_X8_computeWithRegister.1 42 = .ok (.iload_n 2, 1) := by decide +kernel
theorem dm_X8_computeWithRegister_43 : decode M_X8_computeWithRegister.1 43 = .ok (.iconst 5, 1) := by decide +kernel
theorem dm_X8_computeWithRegister_44 : decode M_X8_computeWithRegister.1 44 = .ok (.if_icmp .ne 7, 3) := by decide +kernel
theorem dm_X8_computeWithRegister_47 : decode M_X8_computeWithRegister.1 47 = .ok (.iconst 1, 1) := by decide +kernel
theorem dm_X8_computeWithRegister_48 : decode M_X8_computeWithRegister.1 48 = .ok (.goto 4, 3) := by decide +kernel
theorem dm_X8_computeWithRegister_51 : decode M_X8_computeWithRegister.1 51 = .ok (.iconst 0, 1) := by decide +kernel
theorem dm_X8_computeWithRegister_52 : decode M_X8_computeWithRegister.1 52 = .ok (.istore 7, 2) := by decide +kernel
theorem dm_X8_computeWithRegister_54 : decode M_X8_computeWithRegister.1 54 = .ok (.iload 7, 2) := by decide +kernel
theorem dm_X8_computeWithRegister_56 : decode M_X8_computeWithRegister.1 56 = .ok (.ifCond .eq 27, 3) := by decide +kernel
theorem dm_X8_computeWithRegister_59 : decode M_X8_computeWithRegister.1 59 = .ok (.iload 4, 2) := by decide +kernel
theorem dm_X8_computeWithRegister_61 : decode M_X8_computeWithRegister.1 61 = .ok (.invokestatic 116, 3) := by decide +kernel
theorem dm_X8_computeWithRegister_64 : decode M_X8_computeWithRegister.1 64 = .ok (.ifCond .eq 19, 3) := by decide +kernel
theorem dm_X8_computeWithRegister_67 : decode M_X8_computeWithRegister.1 67 = .ok (.iload 5, 2) := by decide +kernel
theorem dm_X8_computeWithRegister_69 : decode M_X8_computeWithRegister.1 69 = .ok (.invokestatic 116, 3) := by decide +kernel
theorem dm_X8_computeWithRegister_72 : decode M_X8_computeWithRegister.1 72 = .ok (.ifCond .eq 11, 3) := by decide +kernel
theorem dm_X8_computeWithRegister_75 : decode M_X8_computeWithRegister.1 75 = .ok (.iload 6, 2) := by decide +kernel
theorem dm_X8_computeWithRegister_77 : decode M_X8_computeWithRegister.1 77 = .ok (.invokestatic 116, 3) := by decide +kernel
theorem dm_X8_computeWithRegister_80 : decode M_X8_computeWithRegister.1 80 = .ok (.ifCond .ne 7, 3) := by decide +kernel
theorem dm_X8_computeWithRegister_83 : decode M_X8_computeWithRegister.1 83 = .ok (.getstatic 48, 3) := by decide +kernel
theorem dm_X8_computeWithRegister_86 : decode M_X8_computeWithRegister.1 86 = .ok (.areturn, 1) := by decide +kernel
theorem dm_X8_computeWithRegister_87 : decode M_X8_computeWithRegister.1 87 = .ok (.aload_n 0, 1) := by decide +kernel
theorem dm_X8_computeWithRegister_88 : decode M_X8_computeWithRegister.1 88 = .ok (.iload 4, 2) := by decide +kernel
theorem dm_X8_computeWithRegister_90 : decode M_X8_computeWithRegister.1 90 = .ok (.iload_n 2, 1) := by decide +kernel
theorem dm_X8_computeWithRegister_91 : decode M_X8_computeWithRegister.1 91 = .ok (.iload_n 3, 1) := by decide +kernel
theorem dm_X8_computeWithRegister_92 : decode M_X8_computeWithRegister.1 92 = .ok (.bipush 32, 2) := by decide +kernel
theorem dm_X8_computeWithRegister_94 : decode M_X8_computeWithRegister.1 94 = .ok (.if_icmp .ne 7, 3) := by decide +kernel
theorem dm_X8_computeWithRegister_97 : decode M_X8_computeWithRegister.1 97 = .ok (.iconst 1, 1) := by decide +kernel
theorem dm_X8_computeWithRegister_98 : decode M_X8_computeWithRegister.1 98 = .ok (.goto 4, 3) := by decide +kernel
theorem dm_X8_computeWithRegister_101 : decode M_X8_computeWithRegister.1 101 = .ok (.iconst 0, 1) := by decide +kernel
theorem dm_X8_computeWithRegister_102 : decode M_X8_computeWithRegister.1 102 = .ok (.aload_n 0, 1) := by decide +kernel
theorem dm_X8_computeWithRegister_103 : decode M_X8_computeWithRegister.1 103 = .ok (.getfield 9, 3) := by decide +kernel
theorem dm_X8_computeWithRegister_106 : decode M_X8_computeWithRegister.1 106 = .ok (.iload 5, 2) := by decide +kernel
theorem dm_X8_computeWithRegister_108 : decode M_X8_computeWithRegister.1 108 = .ok (.iaload, 1) := by decide +kernel
theorem dm_X8_computeWithRegister_109 : decode M_X8_computeWithRegister.1 109 = .ok (.aload_n 0, 1) := by decide +kernel
theorem dm_X8_computeWithRegister_110 : decode M_X8_computeWithRegister.1 110 = .ok (.getfield 9, 3) := by decide +kernel
theorem dm_X8_computeWithRegister_113 : decode M_X8_computeWithRegister.1 113 = .ok (.iload 6, 2) := by decide +kernel
theorem dm_X8_computeWithRegister_115 : decode M_X8_computeWithRegister.1 115 = .ok (.iaload, 1) := by decide +kernel
theorem dm_X8_computeWithRegister_116 : decode M_X8_computeWithRegister.1 116 = .ok (.invokestatic 191, 3) := by decide +kernel
theorem dm_X8_computeWithRegister_119 : decode M_X8_computeWithRegister.1 119 = .ok (.invokevirtual 122, 3) := by decide +kernel
theorem dm_X8_computeWithRegister_122 : decode M_X8_computeWithRegister.1 122 = .ok (.getstatic 54, 3) := by decide +kernel
theorem dm_X8_computeWithRegister_125 : decode M_X8_computeWithRegister.1 125 = .ok (.areturn, 1) := by decide +kernel
theorem gc_X8_computeWithRegister_132 : g_cs M_X8_computeWithRegister 132 M_X1_f yX1_f 1 := ⟨tw658, tw659, tw359, tw660, ⟨rfl, rfl, rfl, rfl⟩, gd_X1_f, ⟨by decide, by decide⟩⟩
theorem gc_X8_computeWithRegister_188 : g_cs M_X8_computeWithRegister 188 M_X1_g yX1_g 1 := ⟨tw723, tw724, tw359, tw725, ⟨rfl, rfl, rfl, rfl⟩, gd_X1_g, ⟨by decide, by decide⟩⟩
theorem gc_X8_computeWithRegister_113 : g_cs M_X8_computeWithRegister 113 M_X1_rd yX1_rd 1 := ⟨tw632, tw633, tw359, tw634, ⟨rfl, rfl, rfl, rfl⟩, gd_X1_rd, ⟨by decide, by decide⟩⟩
theorem gc_X8_computeWithRegister_129 : g_cs M_X8_computeWithRegister 129 M_X1_rs yX1_rs 1 := ⟨tw655, tw656, tw359, tw657, ⟨rfl, rfl, rfl, rfl⟩, gd_X1_rs, ⟨by decide, by decide⟩⟩
theorem gc_X8_computeWithRegister_138 : g_cs M_X8_computeWithRegister 138 M_X1_rt yX1_rt 1 := ⟨tw668, tw669, tw359, tw670, ⟨rfl, rfl, rfl, rfl⟩, gd_X1_rt, ⟨by decide, by decide⟩⟩
theorem gc_X8_computeWithRegister_116 : g_csn M_X8_computeWithRegister 116 M_X10_isRegister yX10_isRegister 1 := ⟨(List.mem_of_getElem? (i := 3) rfl), tw635, tw2, tw636, ⟨rfl, rfl, rfl, rfl⟩, gd_X10_isRegister, ⟨by decide, by decide⟩⟩
theorem gc_X8_computeWithRegister_191 : g_cs M_X8_computeWithRegister 191 M_X8_compute yX8_compute 4 := ⟨tw726, tw727, tw32, tw728, ⟨rfl, rfl, rfl, rfl⟩, gd_X8_compute, ⟨by decide, by decide⟩⟩
theorem gc_X8_computeWithRegister_122 : g_cv M_X8_computeWithRegister 122 M_X8_setRegister yX8_setRegister 2 := ⟨tw640, tw641, tw642, tw32, tw643, ⟨rfl, rfl, rfl, rfl⟩, gd_X8_setRegister, ⟨by decide, by decide⟩⟩
def f_X8_computeWithRegister_c119 (z10_0 : (Nat → Int32)) : Nat × (Nat → Int32) := (1000, z10_0)
def f_X8_computeWithRegister_c116 (regs : Nat → Int32) (s1 : Int32) (z9_0 : Int32) : Nat × (Nat → Int32) := (f_X8_computeWithRegister_c119 (f_X8_setRegister s1 z9_0 regs))
def f_X8_computeWithRegister_102 (regs : Nat → Int32) (l5 : Int32) (l6 : Int32) (s1 : Int32) (s2 : Int32) (s3 : Int32) : Nat × (Nat → Int32) := (f_X8_computeWithRegister_c116 regs s1 (f_X8_compute s2 s3 (regs (Int32.toNatClampNeg l5)) (regs (Int32.toNatClampNeg l6))))
set_option maxRecDepth 20000 in
theorem j_X8_computeWithRegister_102 {l5 : Int32} {l6 : Int32} {s1 : Int32} {s2 : Int32} {s3 : Int32} {tlow : Int32} {thigh : Int32} {tnum : Int32} {tstat : Int32} {taddr : Int32} {tready : Int32} {tnext : Int32} {tret : Int32} {regs : Nat → Int32} {tstore : Nat → Int32} {hcount : Int32} {haddr : Nat → Int32} {hcyc : Nat → Int32} {hret : Nat → Int32} {tims : Nat → Int32} {r_0 : Nat} {r_1 : (Nat → Int32)} (hres : (r_0, r_1) = (f_X8_computeWithRegister_102 regs l5 l6 s1 s2 s3)) (h4 : 0 ≤ s1.toInt ∧ s1.toInt < 16) (h5 : 0 ≤ l5.toInt ∧ l5.toInt < 16) (h6 : 0 ≤ l6.toInt ∧ l6.toInt < 16) : G M_X8_computeWithRegister 0 0 102 [(0, .ref 0), (5, .int l5), (6, .int l6)] [.int s3, .int s2, .int s1, .ref 0] (w_t tlow thigh tnum tstat taddr tready tnext tret regs tstore hcount haddr hcyc hret tims) (some (.ref r_0)) (w_t tlow thigh tnum tstat taddr tready tnext tret r_1 tstore hcount haddr hcyc hret tims) := by
  rw [f_X8_computeWithRegister_102] at hres
  refine G.aload_n (pc := 102) dm_X8_computeWithRegister_102 rfl ?_
  refine G.getfield (pc := 103) dm_X8_computeWithRegister_103 gf_X8_9 rfl rfl ?_
  refine G.iload (pc := 106) dm_X8_computeWithRegister_106 rfl ?_
  refine G.iaload (pc := 108) dm_X8_computeWithRegister_108 rfl (q_r16 h5) ?_
  refine G.aload_n (pc := 109) dm_X8_computeWithRegister_109 rfl ?_
  refine G.getfield (pc := 110) dm_X8_computeWithRegister_110 gf_X8_9 rfl rfl ?_
  refine G.iload (pc := 113) dm_X8_computeWithRegister_113 rfl ?_
  refine G.iaload (pc := 115) dm_X8_computeWithRegister_115 rfl (q_r16 h6) ?_
  obtain ⟨z9_0, hz9⟩ := g_ex1 (f_X8_compute s2 s3 (regs (Int32.toNatClampNeg l5)) (regs (Int32.toNatClampNeg l6)))
  refine G.callS (pc := 116) (rest := [.int s1, .ref 0]) (st1 := [.int z9_0, .int s1, .ref 0]) (ws1 := (w_t tlow thigh tnum tstat taddr tready tnext tret regs tstore hcount haddr hcyc hret tims)) [] dm_X8_computeWithRegister_116 gc_X8_computeWithRegister_191 (k_X8_compute (f := s2) (other := s3) (left := (regs (Int32.toNatClampNeg l5))) (right := (regs (Int32.toNatClampNeg l6))) hz9) rfl rfl rfl rfl rfl rfl rfl rfl ?_
  replace hres : (r_0, r_1) = f_X8_computeWithRegister_c116 regs s1 z9_0 := hres.trans (by rw [← hz9])
  rw [f_X8_computeWithRegister_c116] at hres
  obtain ⟨z10_0, hz10⟩ := g_ex1 (f_X8_setRegister s1 z9_0 regs)
  refine G.callV0 (pc := 119) (rest := []) (st1 := []) dm_X8_computeWithRegister_119 gc_X8_computeWithRegister_122 (k_X8_setRegister (k := s1) (value := z9_0) (tlow := tlow) (thigh := thigh) (tnum := tnum) (tstat := tstat) (taddr := taddr) (tready := tready) (tnext := tnext) (tret := tret) (regs := regs) (tstore := tstore) (hcount := hcount) (haddr := haddr) (hcyc := hcyc) (hret := hret) (tims := tims) h4 hz10) rfl rfl rfl rfl rfl rfl rfl rfl ?_
  replace hres : (r_0, r_1) = f_X8_computeWithRegister_c119 z10_0 := hres.trans (by rw [← hz10])
  rw [f_X8_computeWithRegister_c119] at hres
  refine G.getstatic (pc := 122) dm_X8_computeWithRegister_122 (Or.inl ⟨0, by decide, rfl⟩) tw614 ?_
  cases hres
  exact G.areturn (pc := 125) dm_X8_computeWithRegister_125 rfl (Or.inl ⟨_, rfl⟩) rfl rfl
def f_X8_computeWithRegister_c77 (regs : Nat → Int32) (l2 : Int32) (l3 : Int32) (l4 : Int32) (l5 : Int32) (l6 : Int32) (z8_0 : Int32) : Nat × (Nat → Int32) := (if z8_0 = 0 then (1002, regs) else (if l3 = (32 : Int32) then (f_X8_computeWithRegister_102 regs l5 l6 l4 l2 (1 : Int32)) else (f_X8_computeWithRegister_102 regs l5 l6 l4 l2 (0 : Int32))))
def f_X8_computeWithRegister_c69 (regs : Nat → Int32) (l2 : Int32) (l3 : Int32) (l4 : Int32) (l5 : Int32) (l6 : Int32) (z7_0 : Int32) : Nat × (Nat → Int32) := (if z7_0 = 0 then (1002, regs) else (f_X8_computeWithRegister_c77 regs l2 l3 l4 l5 l6 (f_X10_isRegister l6)))
def f_X8_computeWithRegister_c61 (regs : Nat → Int32) (l2 : Int32) (l3 : Int32) (l4 : Int32) (l5 : Int32) (l6 : Int32) (z6_0 : Int32) : Nat × (Nat → Int32) := (if z6_0 = 0 then (1002, regs) else (f_X8_computeWithRegister_c69 regs l2 l3 l4 l5 l6 (f_X10_isRegister l5)))
def f_X8_computeWithRegister_52 (regs : Nat → Int32) (l2 : Int32) (l3 : Int32) (l4 : Int32) (l5 : Int32) (l6 : Int32) (s0 : Int32) : Nat × (Nat → Int32) := (if s0 = 0 then (1002, regs) else (f_X8_computeWithRegister_c61 regs l2 l3 l4 l5 l6 (f_X10_isRegister l4)))
set_option maxRecDepth 20000 in
theorem j_X8_computeWithRegister_52 {l2 : Int32} {l3 : Int32} {l4 : Int32} {l5 : Int32} {l6 : Int32} {s0 : Int32} {tlow : Int32} {thigh : Int32} {tnum : Int32} {tstat : Int32} {taddr : Int32} {tready : Int32} {tnext : Int32} {tret : Int32} {regs : Nat → Int32} {tstore : Nat → Int32} {hcount : Int32} {haddr : Nat → Int32} {hcyc : Nat → Int32} {hret : Nat → Int32} {tims : Nat → Int32} {r_0 : Nat} {r_1 : (Nat → Int32)} (hres : (r_0, r_1) = (f_X8_computeWithRegister_52 regs l2 l3 l4 l5 l6 s0)) : G M_X8_computeWithRegister 0 0 52 [(0, .ref 0), (2, .int l2), (3, .int l3), (4, .int l4), (5, .int l5), (6, .int l6)] [.int s0] (w_t tlow thigh tnum tstat taddr tready tnext tret regs tstore hcount haddr hcyc hret tims) (some (.ref r_0)) (w_t tlow thigh tnum tstat taddr tready tnext tret r_1 tstore hcount haddr hcyc hret tims) := by
  rw [f_X8_computeWithRegister_52] at hres
  refine G.istore (pc := 52) (lv1 := [(7, .int s0), (0, .ref 0), (2, .int l2), (3, .int l3), (4, .int l4), (5, .int l5), (6, .int l6)]) dm_X8_computeWithRegister_52 rfl rfl ?_
  refine G.iload (pc := 54) dm_X8_computeWithRegister_54 rfl ?_
  refine G.if_eq (pc := 56) (tgt := 83) dm_X8_computeWithRegister_56 (by decide) (fun c56 => ?_) (fun c56 => ?_)
  · rw [if_pos c56] at hres
    refine G.getstatic (pc := 83) dm_X8_computeWithRegister_83 (Or.inl ⟨2, by decide, rfl⟩) tw613 ?_
    cases hres
    exact G.areturn (pc := 86) dm_X8_computeWithRegister_86 rfl (Or.inl ⟨_, rfl⟩) rfl rfl
  · rw [if_neg c56] at hres
    refine G.iload (pc := 59) dm_X8_computeWithRegister_59 rfl ?_
    obtain ⟨z6_0, hz6⟩ := g_ex1 (f_X10_isRegister l4)
    refine G.callSN (pc := 61) (rest := []) (st1 := [.int z6_0]) (ws1 := (w_t tlow thigh tnum tstat taddr tready tnext tret regs tstore hcount haddr hcyc hret tims)) [] dm_X8_computeWithRegister_61 gc_X8_computeWithRegister_116 (k_X10_isRegister (k := l4) hz6) rfl rfl rfl rfl rfl rfl rfl rfl ?_
    have hrd := a_isReg hz6
    replace hres : (r_0, r_1) = f_X8_computeWithRegister_c61 regs l2 l3 l4 l5 l6 z6_0 := hres.trans (by rw [← hz6])
    rw [f_X8_computeWithRegister_c61] at hres
    refine G.if_eq (pc := 64) (tgt := 83) dm_X8_computeWithRegister_64 (by decide) (fun c64 => ?_) (fun c64 => ?_)
    · rw [if_pos c64] at hres
      refine G.getstatic (pc := 83) dm_X8_computeWithRegister_83 (Or.inl ⟨2, by decide, rfl⟩) tw613 ?_
      cases hres
      exact G.areturn (pc := 86) dm_X8_computeWithRegister_86 rfl (Or.inl ⟨_, rfl⟩) rfl rfl
    · rw [if_neg c64] at hres
      refine G.iload (pc := 67) dm_X8_computeWithRegister_67 rfl ?_
      obtain ⟨z7_0, hz7⟩ := g_ex1 (f_X10_isRegister l5)
      refine G.callSN (pc := 69) (rest := []) (st1 := [.int z7_0]) (ws1 := (w_t tlow thigh tnum tstat taddr tready tnext tret regs tstore hcount haddr hcyc hret tims)) [] dm_X8_computeWithRegister_69 gc_X8_computeWithRegister_116 (k_X10_isRegister (k := l5) hz7) rfl rfl rfl rfl rfl rfl rfl rfl ?_
      have hrs := a_isReg hz7
      replace hres : (r_0, r_1) = f_X8_computeWithRegister_c69 regs l2 l3 l4 l5 l6 z7_0 := hres.trans (by rw [← hz7])
      rw [f_X8_computeWithRegister_c69] at hres
      refine G.if_eq (pc := 72) (tgt := 83) dm_X8_computeWithRegister_72 (by decide) (fun c72 => ?_) (fun c72 => ?_)
      · rw [if_pos c72] at hres
        refine G.getstatic (pc := 83) dm_X8_computeWithRegister_83 (Or.inl ⟨2, by decide, rfl⟩) tw613 ?_
        cases hres
        exact G.areturn (pc := 86) dm_X8_computeWithRegister_86 rfl (Or.inl ⟨_, rfl⟩) rfl rfl
      · rw [if_neg c72] at hres
        refine G.iload (pc := 75) dm_X8_computeWithRegister_75 rfl ?_
        obtain ⟨z8_0, hz8⟩ := g_ex1 (f_X10_isRegister l6)
        refine G.callSN (pc := 77) (rest := []) (st1 := [.int z8_0]) (ws1 := (w_t tlow thigh tnum tstat taddr tready tnext tret regs tstore hcount haddr hcyc hret tims)) [] dm_X8_computeWithRegister_77 gc_X8_computeWithRegister_116 (k_X10_isRegister (k := l6) hz8) rfl rfl rfl rfl rfl rfl rfl rfl ?_
        have hrt := a_isReg hz8
        replace hres : (r_0, r_1) = f_X8_computeWithRegister_c77 regs l2 l3 l4 l5 l6 z8_0 := hres.trans (by rw [← hz8])
        rw [f_X8_computeWithRegister_c77] at hres
        refine G.if_ne (pc := 80) (tgt := 87) dm_X8_computeWithRegister_80 (by decide) (fun c80 => ?_) (fun c80 => ?_)
        · rw [if_neg c80] at hres
          have h4 := hrd c64
          have h5 := hrs c72
          have h6 := hrt c80
          refine G.aload_n (pc := 87) dm_X8_computeWithRegister_87 rfl ?_
          refine G.iload (pc := 88) dm_X8_computeWithRegister_88 rfl ?_
          refine G.iload_n (pc := 90) dm_X8_computeWithRegister_90 rfl ?_
          refine G.iload_n (pc := 91) dm_X8_computeWithRegister_91 rfl ?_
          refine G.bipush (pc := 92) (v := (32 : Int32)) dm_X8_computeWithRegister_92 qb_32 ?_
          refine G.icmp_ne (pc := 94) (tgt := 101) dm_X8_computeWithRegister_94 (by decide) (fun c94 => ?_) (fun c94 => ?_)
          · rw [if_neg c94] at hres
            refine G.iconst (pc := 101) (v := (0 : Int32)) dm_X8_computeWithRegister_101 qi_0 ?_
            refine G.lvp [1, 5, 6] rfl ?_
            exact j_X8_computeWithRegister_102 hres (by assumption) (by assumption) (by assumption)
          · rw [if_pos c94] at hres
            refine G.iconst (pc := 97) (v := (1 : Int32)) dm_X8_computeWithRegister_97 qi_1 ?_
            refine G.goto (pc := 98) (tgt := 102) dm_X8_computeWithRegister_98 (by decide) ?_
            refine G.lvp [1, 5, 6] rfl ?_
            exact j_X8_computeWithRegister_102 hres (by assumption) (by assumption) (by assumption)
        · rw [if_pos c80] at hres
          refine G.getstatic (pc := 83) dm_X8_computeWithRegister_83 (Or.inl ⟨2, by decide, rfl⟩) tw613 ?_
          cases hres
          exact G.areturn (pc := 86) dm_X8_computeWithRegister_86 rfl (Or.inl ⟨_, rfl⟩) rfl rfl
def f_X8_computeWithRegister_51 (regs : Nat → Int32) (l2 : Int32) (l3 : Int32) (l4 : Int32) (l5 : Int32) (l6 : Int32) : Nat × (Nat → Int32) := (f_X8_computeWithRegister_52 regs l2 l3 l4 l5 l6 (0 : Int32))
set_option maxRecDepth 20000 in
theorem j_X8_computeWithRegister_51 {l2 : Int32} {l3 : Int32} {l4 : Int32} {l5 : Int32} {l6 : Int32} {tlow : Int32} {thigh : Int32} {tnum : Int32} {tstat : Int32} {taddr : Int32} {tready : Int32} {tnext : Int32} {tret : Int32} {regs : Nat → Int32} {tstore : Nat → Int32} {hcount : Int32} {haddr : Nat → Int32} {hcyc : Nat → Int32} {hret : Nat → Int32} {tims : Nat → Int32} {r_0 : Nat} {r_1 : (Nat → Int32)} (hres : (r_0, r_1) = (f_X8_computeWithRegister_51 regs l2 l3 l4 l5 l6)) : G M_X8_computeWithRegister 0 0 51 [(0, .ref 0), (2, .int l2), (3, .int l3), (4, .int l4), (5, .int l5), (6, .int l6)] [] (w_t tlow thigh tnum tstat taddr tready tnext tret regs tstore hcount haddr hcyc hret tims) (some (.ref r_0)) (w_t tlow thigh tnum tstat taddr tready tnext tret r_1 tstore hcount haddr hcyc hret tims) := by
  rw [f_X8_computeWithRegister_51] at hres
  refine G.iconst (pc := 51) (v := (0 : Int32)) dm_X8_computeWithRegister_51 qi_0 ?_
  exact j_X8_computeWithRegister_52 hres 
def f_X8_computeWithRegister_c23 (regs : Nat → Int32) (z1_0 : Int32) (z2_0 : Int32) (z3_0 : Int32) (z4_0 : Int32) (z5_0 : Int32) : Nat × (Nat → Int32) := (if z2_0 = 0 then (f_X8_computeWithRegister_52 regs z1_0 z2_0 z3_0 z4_0 z5_0 (1 : Int32)) else (if z2_0 = (32 : Int32) then (if z1_0 = 0 then (f_X8_computeWithRegister_52 regs z1_0 z2_0 z3_0 z4_0 z5_0 (1 : Int32)) else (if z1_0 = (5 : Int32) then (f_X8_computeWithRegister_52 regs z1_0 z2_0 z3_0 z4_0 z5_0 (1 : Int32)) else (f_X8_computeWithRegister_51 regs z1_0 z2_0 z3_0 z4_0 z5_0))) else (f_X8_computeWithRegister_51 regs z1_0 z2_0 z3_0 z4_0 z5_0)))
def f_X8_computeWithRegister_c17 (word : Int32) (regs : Nat → Int32) (z1_0 : Int32) (z2_0 : Int32) (z3_0 : Int32) (z4_0 : Int32) : Nat × (Nat → Int32) := (f_X8_computeWithRegister_c23 regs z1_0 z2_0 z3_0 z4_0 (f_X1_rt word))
def f_X8_computeWithRegister_c11 (word : Int32) (regs : Nat → Int32) (z1_0 : Int32) (z2_0 : Int32) (z3_0 : Int32) : Nat × (Nat → Int32) := (f_X8_computeWithRegister_c17 word regs z1_0 z2_0 z3_0 (f_X1_rs word))
def f_X8_computeWithRegister_c6 (word : Int32) (regs : Nat → Int32) (z1_0 : Int32) (z2_0 : Int32) : Nat × (Nat → Int32) := (f_X8_computeWithRegister_c11 word regs z1_0 z2_0 (f_X1_rd word))
def f_X8_computeWithRegister_c1 (word : Int32) (regs : Nat → Int32) (z1_0 : Int32) : Nat × (Nat → Int32) := (f_X8_computeWithRegister_c6 word regs z1_0 (f_X1_g word))
def f_X8_computeWithRegister (word : Int32) (regs : Nat → Int32) : Nat × (Nat → Int32) := (f_X8_computeWithRegister_c1 word regs (f_X1_f word))
set_option maxRecDepth 20000 in
theorem k_X8_computeWithRegister {word : Int32} {tlow : Int32} {thigh : Int32} {tnum : Int32} {tstat : Int32} {taddr : Int32} {tready : Int32} {tnext : Int32} {tret : Int32} {regs : Nat → Int32} {tstore : Nat → Int32} {hcount : Int32} {haddr : Nat → Int32} {hcyc : Nat → Int32} {hret : Nat → Int32} {tims : Nat → Int32} {r_0 : Nat} {r_1 : (Nat → Int32)} (hres : (r_0, r_1) = f_X8_computeWithRegister word regs) : K M_X8_computeWithRegister yX8_computeWithRegister [.ref 0, .int word] (w_t tlow thigh tnum tstat taddr tready tnext tret regs tstore hcount haddr hcyc hret tims) (some (.ref r_0)) (w_t tlow thigh tnum tstat taddr tready tnext tret r_1 tstore hcount haddr hcyc hret tims) := by
  refine K.of (lv := [(0, .ref 0), (1, .int word)]) (by decide +kernel) rfl rfl rfl ?_
  rw [f_X8_computeWithRegister] at hres
  refine G.iload_n (pc := 0) dm_X8_computeWithRegister_0 rfl ?_
  obtain ⟨z1_0, hz1⟩ := g_ex1 (f_X1_f word)
  refine G.callS (pc := 1) (rest := []) (st1 := [.int z1_0]) (ws1 := (w_t tlow thigh tnum tstat taddr tready tnext tret regs tstore hcount haddr hcyc hret tims)) [] dm_X8_computeWithRegister_1 gc_X8_computeWithRegister_132 (k_X1_f (x := word) hz1) rfl rfl rfl rfl rfl rfl rfl rfl ?_
  replace hres : (r_0, r_1) = f_X8_computeWithRegister_c1 word regs z1_0 := hres.trans (by rw [← hz1])
  rw [f_X8_computeWithRegister_c1] at hres
  refine G.istore_n (pc := 4) (lv1 := [(2, .int z1_0), (0, .ref 0), (1, .int word)]) dm_X8_computeWithRegister_4 rfl rfl ?_
  refine G.iload_n (pc := 5) dm_X8_computeWithRegister_5 rfl ?_
  obtain ⟨z2_0, hz2⟩ := g_ex1 (f_X1_g word)
  refine G.callS (pc := 6) (rest := []) (st1 := [.int z2_0]) (ws1 := (w_t tlow thigh tnum tstat taddr tready tnext tret regs tstore hcount haddr hcyc hret tims)) [] dm_X8_computeWithRegister_6 gc_X8_computeWithRegister_188 (k_X1_g (x := word) hz2) rfl rfl rfl rfl rfl rfl rfl rfl ?_
  replace hres : (r_0, r_1) = f_X8_computeWithRegister_c6 word regs z1_0 z2_0 := hres.trans (by rw [← hz2])
  rw [f_X8_computeWithRegister_c6] at hres
  refine G.istore_n (pc := 9) (lv1 := [(3, .int z2_0), (2, .int z1_0), (0, .ref 0), (1, .int word)]) dm_X8_computeWithRegister_9 rfl rfl ?_
  refine G.iload_n (pc := 10) dm_X8_computeWithRegister_10 rfl ?_
  obtain ⟨z3_0, hz3⟩ := g_ex1 (f_X1_rd word)
  refine G.callS (pc := 11) (rest := []) (st1 := [.int z3_0]) (ws1 := (w_t tlow thigh tnum tstat taddr tready tnext tret regs tstore hcount haddr hcyc hret tims)) [] dm_X8_computeWithRegister_11 gc_X8_computeWithRegister_113 (k_X1_rd (x := word) hz3) rfl rfl rfl rfl rfl rfl rfl rfl ?_
  replace hres : (r_0, r_1) = f_X8_computeWithRegister_c11 word regs z1_0 z2_0 z3_0 := hres.trans (by rw [← hz3])
  rw [f_X8_computeWithRegister_c11] at hres
  refine G.istore (pc := 14) (lv1 := [(4, .int z3_0), (3, .int z2_0), (2, .int z1_0), (0, .ref 0), (1, .int word)]) dm_X8_computeWithRegister_14 rfl rfl ?_
  refine G.iload_n (pc := 16) dm_X8_computeWithRegister_16 rfl ?_
  obtain ⟨z4_0, hz4⟩ := g_ex1 (f_X1_rs word)
  refine G.callS (pc := 17) (rest := []) (st1 := [.int z4_0]) (ws1 := (w_t tlow thigh tnum tstat taddr tready tnext tret regs tstore hcount haddr hcyc hret tims)) [] dm_X8_computeWithRegister_17 gc_X8_computeWithRegister_129 (k_X1_rs (x := word) hz4) rfl rfl rfl rfl rfl rfl rfl rfl ?_
  replace hres : (r_0, r_1) = f_X8_computeWithRegister_c17 word regs z1_0 z2_0 z3_0 z4_0 := hres.trans (by rw [← hz4])
  rw [f_X8_computeWithRegister_c17] at hres
  refine G.istore (pc := 20) (lv1 := [(5, .int z4_0), (4, .int z3_0), (3, .int z2_0), (2, .int z1_0), (0, .ref 0), (1, .int word)]) dm_X8_computeWithRegister_20 rfl rfl ?_
  refine G.iload_n (pc := 22) dm_X8_computeWithRegister_22 rfl ?_
  obtain ⟨z5_0, hz5⟩ := g_ex1 (f_X1_rt word)
  refine G.callS (pc := 23) (rest := []) (st1 := [.int z5_0]) (ws1 := (w_t tlow thigh tnum tstat taddr tready tnext tret regs tstore hcount haddr hcyc hret tims)) [] dm_X8_computeWithRegister_23 gc_X8_computeWithRegister_138 (k_X1_rt (x := word) hz5) rfl rfl rfl rfl rfl rfl rfl rfl ?_
  replace hres : (r_0, r_1) = f_X8_computeWithRegister_c23 regs z1_0 z2_0 z3_0 z4_0 z5_0 := hres.trans (by rw [← hz5])
  rw [f_X8_computeWithRegister_c23] at hres
  refine G.istore (pc := 26) (lv1 := [(6, .int z5_0), (5, .int z4_0), (4, .int z3_0), (3, .int z2_0), (2, .int z1_0), (0, .ref 0), (1, .int word)]) dm_X8_computeWithRegister_26 rfl rfl ?_
  refine G.iload_n (pc := 28) dm_X8_computeWithRegister_28 rfl ?_
  refine G.if_eq (pc := 29) (tgt := 47) dm_X8_computeWithRegister_29 (by decide) (fun c29 => ?_) (fun c29 => ?_)
  · rw [if_pos c29] at hres
    refine G.iconst (pc := 47) (v := (1 : Int32)) dm_X8_computeWithRegister_47 qi_1 ?_
    refine G.goto (pc := 48) (tgt := 52) dm_X8_computeWithRegister_48 (by decide) ?_
    refine G.lvp [5, 4, 3, 2, 1, 0] rfl ?_
    exact j_X8_computeWithRegister_52 hres 
  · rw [if_neg c29] at hres
    refine G.iload_n (pc := 32) dm_X8_computeWithRegister_32 rfl ?_
    refine G.bipush (pc := 33) (v := (32 : Int32)) dm_X8_computeWithRegister_33 qb_32 ?_
    refine G.icmp_ne (pc := 35) (tgt := 51) dm_X8_computeWithRegister_35 (by decide) (fun c35 => ?_) (fun c35 => ?_)
    · rw [if_neg c35] at hres
      refine G.lvp [5, 4, 3, 2, 1, 0] rfl ?_
      exact j_X8_computeWithRegister_51 hres 
    · rw [if_pos c35] at hres
      refine G.iload_n (pc := 38) dm_X8_computeWithRegister_38 rfl ?_
      refine G.if_eq (pc := 39) (tgt := 47) dm_X8_computeWithRegister_39 (by decide) (fun c39 => ?_) (fun c39 => ?_)
      · rw [if_pos c39] at hres
        refine G.iconst (pc := 47) (v := (1 : Int32)) dm_X8_computeWithRegister_47 qi_1 ?_
        refine G.goto (pc := 48) (tgt := 52) dm_X8_computeWithRegister_48 (by decide) ?_
        refine G.lvp [5, 4, 3, 2, 1, 0] rfl ?_
        exact j_X8_computeWithRegister_52 hres 
      · rw [if_neg c39] at hres
        refine G.iload_n (pc := 42) dm_X8_computeWithRegister_42 rfl ?_
        refine G.iconst (pc := 43) (v := (5 : Int32)) dm_X8_computeWithRegister_43 qi_5 ?_
        refine G.icmp_ne (pc := 44) (tgt := 51) dm_X8_computeWithRegister_44 (by decide) (fun c44 => ?_) (fun c44 => ?_)
        · rw [if_neg c44] at hres
          refine G.lvp [5, 4, 3, 2, 1, 0] rfl ?_
          exact j_X8_computeWithRegister_51 hres 
        · rw [if_pos c44] at hres
          refine G.iconst (pc := 47) (v := (1 : Int32)) dm_X8_computeWithRegister_47 qi_1 ?_
          refine G.goto (pc := 48) (tgt := 52) dm_X8_computeWithRegister_48 (by decide) ?_
          refine G.lvp [5, 4, 3, 2, 1, 0] rfl ?_
          exact j_X8_computeWithRegister_52 hres 
theorem o_X8_computeWithRegister_102 {l5 : Int32} {l6 : Int32} {s1 : Int32} {s2 : Int32} {s3 : Int32} {regs : Nat → Int32} {r_0 : Nat} {r_1 : (Nat → Int32)} (hres : (r_0, r_1) = (f_X8_computeWithRegister_102 regs l5 l6 s1 s2 s3)) : 1000 ≤ r_0 ∧ r_0 < 1003 := by
  rw [f_X8_computeWithRegister_102] at hres
  obtain ⟨z9_0, hz9⟩ := g_ex1 (f_X8_compute s2 s3 (regs (Int32.toNatClampNeg l5)) (regs (Int32.toNatClampNeg l6)))
  replace hres : (r_0, r_1) = f_X8_computeWithRegister_c116 regs s1 z9_0 := hres.trans (by rw [← hz9])
  rw [f_X8_computeWithRegister_c116] at hres
  obtain ⟨z10_0, hz10⟩ := g_ex1 (f_X8_setRegister s1 z9_0 regs)
  replace hres : (r_0, r_1) = f_X8_computeWithRegister_c119 z10_0 := hres.trans (by rw [← hz10])
  rw [f_X8_computeWithRegister_c119] at hres
  cases hres
  exact (by first | exact hoz | decide)
theorem o_X8_computeWithRegister_52 {l2 : Int32} {l3 : Int32} {l4 : Int32} {l5 : Int32} {l6 : Int32} {s0 : Int32} {regs : Nat → Int32} {r_0 : Nat} {r_1 : (Nat → Int32)} (hres : (r_0, r_1) = (f_X8_computeWithRegister_52 regs l2 l3 l4 l5 l6 s0)) : 1000 ≤ r_0 ∧ r_0 < 1003 := by
  rw [f_X8_computeWithRegister_52] at hres
  by_cases c56 : s0 = 0
  · rw [if_pos c56] at hres
    cases hres
    exact (by first | exact hoz | decide)
  · rw [if_neg c56] at hres
    obtain ⟨z6_0, hz6⟩ := g_ex1 (f_X10_isRegister l4)
    replace hres : (r_0, r_1) = f_X8_computeWithRegister_c61 regs l2 l3 l4 l5 l6 z6_0 := hres.trans (by rw [← hz6])
    rw [f_X8_computeWithRegister_c61] at hres
    by_cases c64 : z6_0 = 0
    · rw [if_pos c64] at hres
      cases hres
      exact (by first | exact hoz | decide)
    · rw [if_neg c64] at hres
      obtain ⟨z7_0, hz7⟩ := g_ex1 (f_X10_isRegister l5)
      replace hres : (r_0, r_1) = f_X8_computeWithRegister_c69 regs l2 l3 l4 l5 l6 z7_0 := hres.trans (by rw [← hz7])
      rw [f_X8_computeWithRegister_c69] at hres
      by_cases c72 : z7_0 = 0
      · rw [if_pos c72] at hres
        cases hres
        exact (by first | exact hoz | decide)
      · rw [if_neg c72] at hres
        obtain ⟨z8_0, hz8⟩ := g_ex1 (f_X10_isRegister l6)
        replace hres : (r_0, r_1) = f_X8_computeWithRegister_c77 regs l2 l3 l4 l5 l6 z8_0 := hres.trans (by rw [← hz8])
        rw [f_X8_computeWithRegister_c77] at hres
        by_cases c80 : z8_0 = 0
        · rw [if_pos c80] at hres
          cases hres
          exact (by first | exact hoz | decide)
        · rw [if_neg c80] at hres
          by_cases c94 : l3 = (32 : Int32)
          · rw [if_pos c94] at hres
            exact o_X8_computeWithRegister_102 hres 
          · rw [if_neg c94] at hres
            exact o_X8_computeWithRegister_102 hres 
theorem o_X8_computeWithRegister_51 {l2 : Int32} {l3 : Int32} {l4 : Int32} {l5 : Int32} {l6 : Int32} {regs : Nat → Int32} {r_0 : Nat} {r_1 : (Nat → Int32)} (hres : (r_0, r_1) = (f_X8_computeWithRegister_51 regs l2 l3 l4 l5 l6)) : 1000 ≤ r_0 ∧ r_0 < 1003 := by
  rw [f_X8_computeWithRegister_51] at hres
  exact o_X8_computeWithRegister_52 hres 
theorem o_X8_computeWithRegister {word : Int32} {regs : Nat → Int32} {r_0 : Nat} {r_1 : (Nat → Int32)} (hres : (r_0, r_1) = f_X8_computeWithRegister word regs) : 1000 ≤ r_0 ∧ r_0 < 1003 := by
  rw [f_X8_computeWithRegister] at hres
  obtain ⟨z1_0, hz1⟩ := g_ex1 (f_X1_f word)
  replace hres : (r_0, r_1) = f_X8_computeWithRegister_c1 word regs z1_0 := hres.trans (by rw [← hz1])
  rw [f_X8_computeWithRegister_c1] at hres
  obtain ⟨z2_0, hz2⟩ := g_ex1 (f_X1_g word)
  replace hres : (r_0, r_1) = f_X8_computeWithRegister_c6 word regs z1_0 z2_0 := hres.trans (by rw [← hz2])
  rw [f_X8_computeWithRegister_c6] at hres
  obtain ⟨z3_0, hz3⟩ := g_ex1 (f_X1_rd word)
  replace hres : (r_0, r_1) = f_X8_computeWithRegister_c11 word regs z1_0 z2_0 z3_0 := hres.trans (by rw [← hz3])
  rw [f_X8_computeWithRegister_c11] at hres
  obtain ⟨z4_0, hz4⟩ := g_ex1 (f_X1_rs word)
  replace hres : (r_0, r_1) = f_X8_computeWithRegister_c17 word regs z1_0 z2_0 z3_0 z4_0 := hres.trans (by rw [← hz4])
  rw [f_X8_computeWithRegister_c17] at hres
  obtain ⟨z5_0, hz5⟩ := g_ex1 (f_X1_rt word)
  replace hres : (r_0, r_1) = f_X8_computeWithRegister_c23 regs z1_0 z2_0 z3_0 z4_0 z5_0 := hres.trans (by rw [← hz5])
  rw [f_X8_computeWithRegister_c23] at hres
  by_cases c29 : z2_0 = 0
  · rw [if_pos c29] at hres
    exact o_X8_computeWithRegister_52 hres 
  · rw [if_neg c29] at hres
    by_cases c35 : z2_0 = (32 : Int32)
    · rw [if_pos c35] at hres
      by_cases c39 : z1_0 = 0
      · rw [if_pos c39] at hres
        exact o_X8_computeWithRegister_52 hres 
      · rw [if_neg c39] at hres
        by_cases c44 : z1_0 = (5 : Int32)
        · rw [if_pos c44] at hres
          exact o_X8_computeWithRegister_52 hres 
        · rw [if_neg c44] at hres
          exact o_X8_computeWithRegister_51 hres 
    · rw [if_neg c35] at hres
      exact o_X8_computeWithRegister_51 hres 
abbrev M_X8_setTimer : g_M := (cX8_setTimer, 7, RX8, (some (.object "TimedThreads$Outcome")), { frames := 1, cells := 0, slots := 0, locals := 23 }, 0, 0)
theorem dm_X8_setTimer_0 : decode M_X8_setTimer.1 0 = .ok (.iload_n 2, 1) := by decide +kernel
theorem dm_X8_setTimer_1 : decode M_X8_setTimer.1 1 = .ok (.invokestatic 129, 3) := by decide +kernel
theorem dm_X8_setTimer_4 : decode M_X8_setTimer.1 4 = .ok (.istore 4, 2) := by decide +kernel
theorem dm_X8_setTimer_6 : decode M_X8_setTimer.1 6 = .ok (.iload_n 1, 1) := by decide +kernel
theorem dm_X8_setTimer_7 : decode M_X8_setTimer.1 7 = .ok (.iconst 4, 1) := by decide +kernel
theorem dm_X8_setTimer_8 : decode M_X8_setTimer.1 8 = .ok (.if_icmp .ge 11, 3) := by decide +kernel
theorem dm_X8_setTimer_11 : decode M_X8_setTimer.1 11 = .ok (.iload 4, 2) := by decide +kernel
theorem dm_X8_setTimer_13 : decode M_X8_setTimer.1 13 = .ok (.invokestatic 116, 3) := by decide +kernel
theorem dm_X8_setTimer_16 : decode M_X8_setTimer.1 16 = .ok (.ifCond .ne 7, 3) := by decide +kernel
theorem dm_X8_setTimer_19 : decode M_X8_setTimer.1 19 = .ok (.getstatic 48, 3) := by decide +kernel
theorem dm_X8_setTimer_22 : decode M_X8_setTimer.1 22 = .ok (.areturn, 1) := by decide +kernel
theorem dm_X8_setTimer_23 : decode M_X8_setTimer.1 23 = .ok (.iload_n 3, 1) := by decide +kernel
theorem dm_X8_setTimer_24 : decode M_X8_setTimer.1 24 = .ok (.aload_n 0, 1) := by decide +kernel
theorem dm_X8_setTimer_25 : decode M_X8_setTimer.1 25 = .ok (.getfield 25, 3) := by decide +kernel
theorem dm_X8_setTimer_28 : decode M_X8_setTimer.1 28 = .ok (.iload_n 1, 1) := by decide +kernel
theorem dm_X8_setTimer_29 : decode M_X8_setTimer.1 29 = .ok (.iaload, 1) := by decide +kernel
theorem dm_X8_setTimer_30 : decode M_X8_setTimer.1 30 = .ok (.if_icmp .ge 7, 3) := by decide +kernel
theorem dm_X8_setTimer_33 : decode M_X8_setTimer.1 33 = .ok (.getstatic 199, 3) := by decide +kernel
theorem dm_X8_setTimer_36 : decode M_X8_setTimer.1 36 = .ok (.areturn, 1) := by decide +kernel
theorem dm_X8_setTimer_37 : decode M_X8_setTimer.1 37 = .ok (.iload_n 3, 1) := by decide +kernel
theorem dm_X8_setTimer_38 : decode M_X8_setTimer.1 38 = .ok (.i2l, 1) := by decide +kernel
theorem dm_X8_setTimer_39 : decode M_X8_setTimer.1 39 = .ok (.aload_n 0, 1) := by decide +kernel
theorem dm_X8_setTimer_40 : decode M_X8_setTimer.1 40 = .ok (.getfield 9, 3) := by decide +kernel
theorem dm_X8_setTimer_43 : decode M_X8_setTimer.1 43 = .ok (.iload 4, 2) := by decide +kernel
theorem dm_X8_setTimer_45 : decode M_X8_setTimer.1 45 = .ok (.iaload, 1) := by decide +kernel
theorem dm_X8_setTimer_46 : decode M_X8_setTimer.1 46 = .ok (.i2l, 1) := by decide +kernel
theorem dm_X8_setTimer_47 : decode M_X8_setTimer.1 47 = .ok (.ladd, 1) := by decide +kernel
theorem dm_X8_setTimer_48 : decode M_X8_setTimer.1 48 = .ok (.iload_n 2, 1) := by decide +kernel
theorem dm_X8_setTimer_49 : decode M_X8_setTimer.1 49 = .ok (.invokestatic 135, 3) := by decide +kernel
theorem dm_X8_setTimer_52 : decode M_X8_setTimer.1 52 = .ok (.i2l, 1) := by decide +kernel
theorem dm_X8_setTimer_53 : decode M_X8_setTimer.1 53 = .ok (.ladd, 1) := by decide +kernel
theorem dm_X8_setTimer_54 : decode M_X8_setTimer.1 54 = .ok (.lstore 5, 2) := by decide +kernel
theorem dm_X8_setTimer_56 : decode M_X8_setTimer.1 56 = .ok (.aload_n 0, 1) := by decide +kernel
theorem dm_X8_setTimer_57 : decode M_X8_setTimer.1 57 = .ok (.getfield 25, 3) := by decide +kernel
theorem dm_X8_setTimer_60 : decode M_X8_setTimer.1 60 = .ok (.iload_n 1, 1) := by decide +kernel
theorem dm_X8_setTimer_61 : decode M_X8_setTimer.1 61 = .ok (.ldc2_w 202, 3) := by decide +kernel
theorem dm_X8_setTimer_64 : decode M_X8_setTimer.1 64 = .ok (.iload_n 3, 1) := by decide +kernel
theorem dm_X8_setTimer_65 : decode M_X8_setTimer.1 65 = .ok (.i2l, 1) := by decide +kernel
theorem dm_X8_setTimer_66 : decode M_X8_setTimer.1 66 = .ok (.lload 5, 2) := by decide +kernel
theorem dm_X8_setTimer_68 : decode M_X8_setTimer.1 68 = .ok (.invokestatic 204, 3) := by decide +kernel
theorem dm_X8_setTimer_71 : decode M_X8_setTimer.1 71 = .ok (.invokestatic 210, 3) := by decide +kernel
theorem dm_X8_setTimer_74 : decode M_X8_setTimer.1 74 = .ok (.l2i, 1) := by decide +kernel
theorem dm_X8_setTimer_75 : decode M_X8_setTimer.1 75 = .ok (.iastore, 1) := by decide +kernel
theorem dm_X8_setTimer_76 : decode M_X8_setTimer.1 76 = .ok (.getstatic 54, 3) := by decide +kernel
theorem dm_X8_setTimer_79 : decode M_X8_setTimer.1 79 = .ok (.areturn, 1) := by decide +kernel
theorem gc_X8_setTimer_129 : g_cs M_X8_setTimer 129 M_X1_rs yX1_rs 1 := ⟨tw655, tw656, tw359, tw657, ⟨rfl, rfl, rfl, rfl⟩, gd_X1_rs, ⟨by decide, by decide⟩⟩
theorem gc_X8_setTimer_116 : g_csn M_X8_setTimer 116 M_X10_isRegister yX10_isRegister 1 := ⟨(List.mem_of_getElem? (i := 3) rfl), tw635, tw2, tw636, ⟨rfl, rfl, rfl, rfl⟩, gd_X10_isRegister, ⟨by decide, by decide⟩⟩
theorem gc_X8_setTimer_135 : g_cs M_X8_setTimer 135 M_X1_numberI yX1_numberI 1 := ⟨tw661, tw662, tw359, tw663, ⟨rfl, rfl, rfl, rfl⟩, gd_X1_numberI, ⟨by decide, by decide⟩⟩
def f_X8_setTimer_c49 (timer : Int32) (cycle : Int32) (regs : Nat → Int32) (tims : Nat → Int32) (z1_0 : Int32) (z3_0 : Int32) : Nat × (Nat → Int32) := (1000, (upd tims (Int32.toNatClampNeg timer) (Int64.toInt32 (if (if (((Int32.toInt64 cycle) + (Int32.toInt64 (regs (Int32.toNatClampNeg z1_0)))) + (Int32.toInt64 z3_0)) < (Int32.toInt64 cycle) then (Int32.toInt64 cycle) else (((Int32.toInt64 cycle) + (Int32.toInt64 (regs (Int32.toNatClampNeg z1_0)))) + (Int32.toInt64 z3_0))) < (2147483647 : Int64) then (if (((Int32.toInt64 cycle) + (Int32.toInt64 (regs (Int32.toNatClampNeg z1_0)))) + (Int32.toInt64 z3_0)) < (Int32.toInt64 cycle) then (Int32.toInt64 cycle) else (((Int32.toInt64 cycle) + (Int32.toInt64 (regs (Int32.toNatClampNeg z1_0)))) + (Int32.toInt64 z3_0))) else (2147483647 : Int64)))))
def f_X8_setTimer_c13 (timer : Int32) (word : Int32) (cycle : Int32) (regs : Nat → Int32) (tims : Nat → Int32) (z1_0 : Int32) (z2_0 : Int32) : Nat × (Nat → Int32) := (if z2_0 = 0 then (1002, tims) else (if (tims (Int32.toNatClampNeg timer)) ≤ cycle then (f_X8_setTimer_c49 timer cycle regs tims z1_0 (f_X1_numberI word)) else (1001, tims)))
def f_X8_setTimer_c1 (timer : Int32) (word : Int32) (cycle : Int32) (regs : Nat → Int32) (tims : Nat → Int32) (z1_0 : Int32) : Nat × (Nat → Int32) := (if (4 : Int32) ≤ timer then (1002, tims) else (f_X8_setTimer_c13 timer word cycle regs tims z1_0 (f_X10_isRegister z1_0)))
def f_X8_setTimer (timer : Int32) (word : Int32) (cycle : Int32) (regs : Nat → Int32) (tims : Nat → Int32) : Nat × (Nat → Int32) := (f_X8_setTimer_c1 timer word cycle regs tims (f_X1_rs word))
set_option maxRecDepth 20000 in
theorem k_X8_setTimer {timer : Int32} {word : Int32} {cycle : Int32} {tlow : Int32} {thigh : Int32} {tnum : Int32} {tstat : Int32} {taddr : Int32} {tready : Int32} {tnext : Int32} {tret : Int32} {regs : Nat → Int32} {tstore : Nat → Int32} {hcount : Int32} {haddr : Nat → Int32} {hcyc : Nat → Int32} {hret : Nat → Int32} {tims : Nat → Int32} (htm : 0 ≤ timer.toInt) {r_0 : Nat} {r_1 : (Nat → Int32)} (hres : (r_0, r_1) = f_X8_setTimer timer word cycle regs tims) : K M_X8_setTimer yX8_setTimer [.ref 0, .int timer, .int word, .int cycle] (w_t tlow thigh tnum tstat taddr tready tnext tret regs tstore hcount haddr hcyc hret tims) (some (.ref r_0)) (w_t tlow thigh tnum tstat taddr tready tnext tret regs tstore hcount haddr hcyc hret r_1) := by
  refine K.of (lv := [(0, .ref 0), (1, .int timer), (2, .int word), (3, .int cycle)]) (by decide +kernel) rfl rfl rfl ?_
  rw [f_X8_setTimer] at hres
  refine G.iload_n (pc := 0) dm_X8_setTimer_0 rfl ?_
  obtain ⟨z1_0, hz1⟩ := g_ex1 (f_X1_rs word)
  refine G.callS (pc := 1) (rest := []) (st1 := [.int z1_0]) (ws1 := (w_t tlow thigh tnum tstat taddr tready tnext tret regs tstore hcount haddr hcyc hret tims)) [] dm_X8_setTimer_1 gc_X8_setTimer_129 (k_X1_rs (x := word) hz1) rfl rfl rfl rfl rfl rfl rfl rfl ?_
  replace hres : (r_0, r_1) = f_X8_setTimer_c1 timer word cycle regs tims z1_0 := hres.trans (by rw [← hz1])
  rw [f_X8_setTimer_c1] at hres
  refine G.istore (pc := 4) (lv1 := [(4, .int z1_0), (0, .ref 0), (1, .int timer), (2, .int word), (3, .int cycle)]) dm_X8_setTimer_4 rfl rfl ?_
  refine G.iload_n (pc := 6) dm_X8_setTimer_6 rfl ?_
  refine G.iconst (pc := 7) (v := (4 : Int32)) dm_X8_setTimer_7 qi_4 ?_
  refine G.icmp_ge (pc := 8) (tgt := 19) dm_X8_setTimer_8 (by decide) (fun c8 => ?_) (fun c8 => ?_)
  · rw [if_pos c8] at hres
    refine G.getstatic (pc := 19) dm_X8_setTimer_19 (Or.inl ⟨2, by decide, rfl⟩) tw613 ?_
    cases hres
    exact G.areturn (pc := 22) dm_X8_setTimer_22 rfl (Or.inl ⟨_, rfl⟩) rfl rfl
  · rw [if_neg c8] at hres
    refine G.iload (pc := 11) dm_X8_setTimer_11 rfl ?_
    obtain ⟨z2_0, hz2⟩ := g_ex1 (f_X10_isRegister z1_0)
    refine G.callSN (pc := 13) (rest := []) (st1 := [.int z2_0]) (ws1 := (w_t tlow thigh tnum tstat taddr tready tnext tret regs tstore hcount haddr hcyc hret tims)) [] dm_X8_setTimer_13 gc_X8_setTimer_116 (k_X10_isRegister (k := z1_0) hz2) rfl rfl rfl rfl rfl rfl rfl rfl ?_
    have hrs := a_isReg hz2
    replace hres : (r_0, r_1) = f_X8_setTimer_c13 timer word cycle regs tims z1_0 z2_0 := hres.trans (by rw [← hz2])
    rw [f_X8_setTimer_c13] at hres
    refine G.if_ne (pc := 16) (tgt := 23) dm_X8_setTimer_16 (by decide) (fun c16 => ?_) (fun c16 => ?_)
    · rw [if_neg c16] at hres
      have ht4 := q_tm htm c8
      refine G.iload_n (pc := 23) dm_X8_setTimer_23 rfl ?_
      refine G.aload_n (pc := 24) dm_X8_setTimer_24 rfl ?_
      refine G.getfield (pc := 25) dm_X8_setTimer_25 gf_X8_25 rfl rfl ?_
      refine G.iload_n (pc := 28) dm_X8_setTimer_28 rfl ?_
      refine G.iaload (pc := 29) dm_X8_setTimer_29 rfl ht4 ?_
      refine G.icmp_ge (pc := 30) (tgt := 37) dm_X8_setTimer_30 (by decide) (fun c30 => ?_) (fun c30 => ?_)
      · rw [if_pos c30] at hres
        refine G.iload_n (pc := 37) dm_X8_setTimer_37 rfl ?_
        refine G.i2l (pc := 38) dm_X8_setTimer_38 ?_
        refine G.aload_n (pc := 39) dm_X8_setTimer_39 rfl ?_
        refine G.getfield (pc := 40) dm_X8_setTimer_40 gf_X8_9 rfl rfl ?_
        refine G.iload (pc := 43) dm_X8_setTimer_43 rfl ?_
        refine G.iaload (pc := 45) dm_X8_setTimer_45 rfl (q_r16 (hrs c16)) ?_
        refine G.i2l (pc := 46) dm_X8_setTimer_46 ?_
        refine G.ladd (pc := 47) dm_X8_setTimer_47 ?_
        refine G.iload_n (pc := 48) dm_X8_setTimer_48 rfl ?_
        obtain ⟨z3_0, hz3⟩ := g_ex1 (f_X1_numberI word)
        refine G.callS (pc := 49) (rest := [.long ((Int32.toInt64 cycle) + (Int32.toInt64 (regs (Int32.toNatClampNeg z1_0))))]) (st1 := [.int z3_0, .long ((Int32.toInt64 cycle) + (Int32.toInt64 (regs (Int32.toNatClampNeg z1_0))))]) (ws1 := (w_t tlow thigh tnum tstat taddr tready tnext tret regs tstore hcount haddr hcyc hret tims)) [] dm_X8_setTimer_49 gc_X8_setTimer_135 (k_X1_numberI (x := word) hz3) rfl rfl rfl rfl rfl rfl rfl rfl ?_
        replace hres : (r_0, r_1) = f_X8_setTimer_c49 timer cycle regs tims z1_0 z3_0 := hres.trans (by rw [← hz3])
        rw [f_X8_setTimer_c49] at hres
        refine G.i2l (pc := 52) dm_X8_setTimer_52 ?_
        refine G.ladd (pc := 53) dm_X8_setTimer_53 ?_
        refine G.lstore (pc := 54) (lv1 := [(5, .long (((Int32.toInt64 cycle) + (Int32.toInt64 (regs (Int32.toNatClampNeg z1_0)))) + (Int32.toInt64 z3_0))), (4, .int z1_0), (0, .ref 0), (1, .int timer), (2, .int word), (3, .int cycle)]) dm_X8_setTimer_54 rfl rfl ?_
        refine G.aload_n (pc := 56) dm_X8_setTimer_56 rfl ?_
        refine G.getfield (pc := 57) dm_X8_setTimer_57 gf_X8_25 rfl rfl ?_
        refine G.iload_n (pc := 60) dm_X8_setTimer_60 rfl ?_
        refine G.ldc2 (pc := 61) dm_X8_setTimer_61 tw742 ?_
        refine G.iload_n (pc := 64) dm_X8_setTimer_64 rfl ?_
        refine G.i2l (pc := 65) dm_X8_setTimer_65 ?_
        refine G.lload (pc := 66) dm_X8_setTimer_66 rfl ?_
        refine G.lmax (pc := 68) dm_X8_setTimer_68 tw743 tw744 tw23 tw745 rfl ?_
        refine G.lmin (pc := 71) dm_X8_setTimer_71 tw746 tw747 tw23 tw748 rfl ?_
        refine G.l2i (pc := 74) dm_X8_setTimer_74 ?_
        refine G.iastore (pc := 75) (ws1 := (w_t tlow thigh tnum tstat taddr tready tnext tret regs tstore hcount haddr hcyc hret (upd tims (Int32.toNatClampNeg timer) (Int64.toInt32 (if (if (((Int32.toInt64 cycle) + (Int32.toInt64 (regs (Int32.toNatClampNeg z1_0)))) + (Int32.toInt64 z3_0)) < (Int32.toInt64 cycle) then (Int32.toInt64 cycle) else (((Int32.toInt64 cycle) + (Int32.toInt64 (regs (Int32.toNatClampNeg z1_0)))) + (Int32.toInt64 z3_0))) < (2147483647 : Int64) then (if (((Int32.toInt64 cycle) + (Int32.toInt64 (regs (Int32.toNatClampNeg z1_0)))) + (Int32.toInt64 z3_0)) < (Int32.toInt64 cycle) then (Int32.toInt64 cycle) else (((Int32.toInt64 cycle) + (Int32.toInt64 (regs (Int32.toNatClampNeg z1_0)))) + (Int32.toInt64 z3_0))) else (2147483647 : Int64)))))) dm_X8_setTimer_75 rfl ht4 rfl ?_
        refine G.getstatic (pc := 76) dm_X8_setTimer_76 (Or.inl ⟨0, by decide, rfl⟩) tw614 ?_
        cases hres
        exact G.areturn (pc := 79) dm_X8_setTimer_79 rfl (Or.inl ⟨_, rfl⟩) rfl rfl
      · rw [if_neg c30] at hres
        refine G.getstatic (pc := 33) dm_X8_setTimer_33 (Or.inl ⟨1, by decide, rfl⟩) tw741 ?_
        cases hres
        exact G.areturn (pc := 36) dm_X8_setTimer_36 rfl (Or.inl ⟨_, rfl⟩) rfl rfl
    · rw [if_pos c16] at hres
      refine G.getstatic (pc := 19) dm_X8_setTimer_19 (Or.inl ⟨2, by decide, rfl⟩) tw613 ?_
      cases hres
      exact G.areturn (pc := 22) dm_X8_setTimer_22 rfl (Or.inl ⟨_, rfl⟩) rfl rfl
theorem o_X8_setTimer {timer : Int32} {word : Int32} {cycle : Int32} {regs : Nat → Int32} {tims : Nat → Int32} {r_0 : Nat} {r_1 : (Nat → Int32)} (hres : (r_0, r_1) = f_X8_setTimer timer word cycle regs tims) : 1000 ≤ r_0 ∧ r_0 < 1003 := by
  rw [f_X8_setTimer] at hres
  obtain ⟨z1_0, hz1⟩ := g_ex1 (f_X1_rs word)
  replace hres : (r_0, r_1) = f_X8_setTimer_c1 timer word cycle regs tims z1_0 := hres.trans (by rw [← hz1])
  rw [f_X8_setTimer_c1] at hres
  by_cases c8 : (4 : Int32) ≤ timer
  · rw [if_pos c8] at hres
    cases hres
    exact (by first | exact hoz | decide)
  · rw [if_neg c8] at hres
    obtain ⟨z2_0, hz2⟩ := g_ex1 (f_X10_isRegister z1_0)
    replace hres : (r_0, r_1) = f_X8_setTimer_c13 timer word cycle regs tims z1_0 z2_0 := hres.trans (by rw [← hz2])
    rw [f_X8_setTimer_c13] at hres
    by_cases c16 : z2_0 = 0
    · rw [if_pos c16] at hres
      cases hres
      exact (by first | exact hoz | decide)
    · rw [if_neg c16] at hres
      by_cases c30 : (tims (Int32.toNatClampNeg timer)) ≤ cycle
      · rw [if_pos c30] at hres
        obtain ⟨z3_0, hz3⟩ := g_ex1 (f_X1_numberI word)
        replace hres : (r_0, r_1) = f_X8_setTimer_c49 timer cycle regs tims z1_0 z3_0 := hres.trans (by rw [← hz3])
        rw [f_X8_setTimer_c49] at hres
        cases hres
        exact (by first | exact hoz | decide)
      · rw [if_neg c30] at hres
        cases hres
        exact (by first | exact hoz | decide)
abbrev M_X8_timed : g_M := (cX8_timed, 5, RX8, (some (.object "TimedThreads$Outcome")), { frames := 2, cells := 0, slots := 0, locals := 49 }, 0, 0)
theorem dm_X8_timed_0 : decode M_X8_timed.1 0 = .ok (.iload_n 1, 1) := by decide +kernel
theorem dm_X8_timed_1 : decode M_X8_timed.1 1 = .ok (.invokestatic 132, 3) := by decide +kernel
theorem dm_X8_timed_4 : decode M_X8_timed.1 4 = .ok (.istore_n 3, 1) := by decide +kernel
theorem dm_X8_timed_5 : decode M_X8_timed.1 5 = .ok (.iload_n 1, 1) := by decide +kernel
theorem dm_X8_timed_6 : decode M_X8_timed.1 6 = .ok (.invokestatic 113, 3) := by decide +kernel
theorem dm_X8_timed_9 : decode M_X8_timed.1 9 = .ok (.istore 4, 2) := by decide +kernel
theorem dm_X8_timed_11 : decode M_X8_timed.1 11 = .ok (.iload_n 3, 1) := by decide +kernel
theorem dm_X8_timed_12 : decode M_X8_timed.1 12 = .ok (.ifCond .ne 12, 3) := by decide +kernel
theorem dm_X8_timed_15 : decode M_X8_timed.1 15 = .ok (.aload_n 0, 1) := by decide +kernel
theorem dm_X8_timed_16 : decode M_X8_timed.1 16 = .ok (.iload 4, 2) := by decide +kernel
theorem dm_X8_timed_18 : decode M_X8_timed.1 18 = .ok (.iload_n 1, 1) := by decide +kernel
theorem dm_X8_timed_19 : decode M_X8_timed.1 19 = .ok (.iload_n 2, 1) := by decide +kernel
theorem dm_X8_timed_20 : decode M_X8_timed.1 20 = .ok (.invokevirtual 195, 3) := by decide +kernel
theorem dm_X8_timed_23 : decode M_X8_timed.1 23 = .ok (.areturn, 1) := by decide +kernel
theorem dm_X8_timed_24 : decode M_X8_timed.1 24 = .ok (.iload_n 3, 1) := by decide +kernel
theorem dm_X8_timed_25 : decode M_X8_timed.1 25 = .ok (.iconst 1, 1) := by decide +kernel
theorem dm_X8_timed_26 : decode M_X8_timed.1 26 = .ok (.if_icmp .ne 11, 3) := by decide +kernel
theorem dm_X8_timed_29 : decode M_X8_timed.1 29 = .ok (.iload 4, 2) := by decide +kernel
theorem dm_X8_timed_31 : decode M_X8_timed.1 31 = .ok (.invokestatic 116, 3) := by decide +kernel
theorem dm_X8_timed_34 : decode M_X8_timed.1 34 = .ok (.ifCond .ne 7, 3) := by decide +kernel
theorem dm_X8_timed_37 : decode M_X8_timed.1 37 = .ok (.getstatic 48, 3) := by decide +kernel
theorem dm_X8_timed_40 : decode M_X8_timed.1 40 = .ok (.areturn, 1) := by decide +kernel
theorem dm_X8_timed_41 : decode M_X8_timed.1 41 = .ok (.aload_n 0, 1) := by decide +kernel
theorem dm_X8_timed_42 : decode M_X8_timed.1 42 = .ok (.iload 4, 2) := by decide +kernel
theorem dm_X8_timed_44 : decode M_X8_timed.1 44 = .ok (.iload_n 2, 1) := by decide +kernel
theorem dm_X8_timed_45 : decode M_X8_timed.1 45 = .ok (.invokevirtual 122, 3) := by decide +kernel
theorem dm_X8_timed_48 : decode M_X8_timed.1 48 = .ok (.getstatic 54, 3) := by decide +kernel
theorem dm_X8_timed_51 : decode M_X8_timed.1 51 = .ok (.areturn, 1) := by decide +kernel
theorem gc_X8_timed_132 : g_cs M_X8_timed 132 M_X1_f yX1_f 1 := ⟨tw658, tw659, tw359, tw660, ⟨rfl, rfl, rfl, rfl⟩, gd_X1_f, ⟨by decide, by decide⟩⟩
theorem gc_X8_timed_113 : g_cs M_X8_timed 113 M_X1_rd yX1_rd 1 := ⟨tw632, tw633, tw359, tw634, ⟨rfl, rfl, rfl, rfl⟩, gd_X1_rd, ⟨by decide, by decide⟩⟩
theorem gc_X8_timed_195 : g_cv M_X8_timed 195 M_X8_setTimer yX8_setTimer 3 := ⟨tw737, tw738, tw739, tw32, tw740, ⟨rfl, rfl, rfl, rfl⟩, gd_X8_setTimer, ⟨by decide, by decide⟩⟩
theorem gc_X8_timed_116 : g_csn M_X8_timed 116 M_X10_isRegister yX10_isRegister 1 := ⟨(List.mem_of_getElem? (i := 3) rfl), tw635, tw2, tw636, ⟨rfl, rfl, rfl, rfl⟩, gd_X10_isRegister, ⟨by decide, by decide⟩⟩
theorem gc_X8_timed_122 : g_cv M_X8_timed 122 M_X8_setRegister yX8_setRegister 2 := ⟨tw640, tw641, tw642, tw32, tw643, ⟨rfl, rfl, rfl, rfl⟩, gd_X8_setRegister, ⟨by decide, by decide⟩⟩
def f_X8_timed_c45 (tims : Nat → Int32) (z4_0 : (Nat → Int32)) : Nat × (Nat → Int32) × (Nat → Int32) := (1000, z4_0, tims)
def f_X8_timed_c31 (cycle : Int32) (regs : Nat → Int32) (tims : Nat → Int32) (z2_0 : Int32) (z3_0 : Int32) : Nat × (Nat → Int32) × (Nat → Int32) := (if z3_0 = 0 then (1002, regs, tims) else (f_X8_timed_c45 tims (f_X8_setRegister z2_0 cycle regs)))
def f_X8_timed_c20 (regs : Nat → Int32) (z5_0 : Nat) (z5_1 : (Nat → Int32)) : Nat × (Nat → Int32) × (Nat → Int32) := (z5_0, regs, z5_1)
def f_X8_timed_c6 (word : Int32) (cycle : Int32) (regs : Nat → Int32) (tims : Nat → Int32) (z1_0 : Int32) (z2_0 : Int32) : Nat × (Nat → Int32) × (Nat → Int32) := (if z1_0 = 0 then (f_X8_timed_c20 regs (f_X8_setTimer z2_0 word cycle regs tims).1 (f_X8_setTimer z2_0 word cycle regs tims).2) else (if z1_0 = (1 : Int32) then (f_X8_timed_c31 cycle regs tims z2_0 (f_X10_isRegister z2_0)) else (1002, regs, tims)))
def f_X8_timed_c1 (word : Int32) (cycle : Int32) (regs : Nat → Int32) (tims : Nat → Int32) (z1_0 : Int32) : Nat × (Nat → Int32) × (Nat → Int32) := (f_X8_timed_c6 word cycle regs tims z1_0 (f_X1_rd word))
def f_X8_timed (word : Int32) (cycle : Int32) (regs : Nat → Int32) (tims : Nat → Int32) : Nat × (Nat → Int32) × (Nat → Int32) := (f_X8_timed_c1 word cycle regs tims (f_X1_f word))
set_option maxRecDepth 20000 in
theorem k_X8_timed {word : Int32} {cycle : Int32} {tlow : Int32} {thigh : Int32} {tnum : Int32} {tstat : Int32} {taddr : Int32} {tready : Int32} {tnext : Int32} {tret : Int32} {regs : Nat → Int32} {tstore : Nat → Int32} {hcount : Int32} {haddr : Nat → Int32} {hcyc : Nat → Int32} {hret : Nat → Int32} {tims : Nat → Int32} {r_0 : Nat} {r_1 : (Nat → Int32)} {r_2 : (Nat → Int32)} (hres : (r_0, r_1, r_2) = f_X8_timed word cycle regs tims) : K M_X8_timed yX8_timed [.ref 0, .int word, .int cycle] (w_t tlow thigh tnum tstat taddr tready tnext tret regs tstore hcount haddr hcyc hret tims) (some (.ref r_0)) (w_t tlow thigh tnum tstat taddr tready tnext tret r_1 tstore hcount haddr hcyc hret r_2) := by
  refine K.of (lv := [(0, .ref 0), (1, .int word), (2, .int cycle)]) (by decide +kernel) rfl rfl rfl ?_
  rw [f_X8_timed] at hres
  refine G.iload_n (pc := 0) dm_X8_timed_0 rfl ?_
  obtain ⟨z1_0, hz1⟩ := g_ex1 (f_X1_f word)
  refine G.callS (pc := 1) (rest := []) (st1 := [.int z1_0]) (ws1 := (w_t tlow thigh tnum tstat taddr tready tnext tret regs tstore hcount haddr hcyc hret tims)) [] dm_X8_timed_1 gc_X8_timed_132 (k_X1_f (x := word) hz1) rfl rfl rfl rfl rfl rfl rfl rfl ?_
  replace hres : (r_0, r_1, r_2) = f_X8_timed_c1 word cycle regs tims z1_0 := hres.trans (by rw [← hz1])
  rw [f_X8_timed_c1] at hres
  refine G.istore_n (pc := 4) (lv1 := [(3, .int z1_0), (0, .ref 0), (1, .int word), (2, .int cycle)]) dm_X8_timed_4 rfl rfl ?_
  refine G.iload_n (pc := 5) dm_X8_timed_5 rfl ?_
  obtain ⟨z2_0, hz2⟩ := g_ex1 (f_X1_rd word)
  refine G.callS (pc := 6) (rest := []) (st1 := [.int z2_0]) (ws1 := (w_t tlow thigh tnum tstat taddr tready tnext tret regs tstore hcount haddr hcyc hret tims)) [] dm_X8_timed_6 gc_X8_timed_113 (k_X1_rd (x := word) hz2) rfl rfl rfl rfl rfl rfl rfl rfl ?_
  have h4 := a_rd hz2
  replace hres : (r_0, r_1, r_2) = f_X8_timed_c6 word cycle regs tims z1_0 z2_0 := hres.trans (by rw [← hz2])
  rw [f_X8_timed_c6] at hres
  refine G.istore (pc := 9) (lv1 := [(4, .int z2_0), (3, .int z1_0), (0, .ref 0), (1, .int word), (2, .int cycle)]) dm_X8_timed_9 rfl rfl ?_
  refine G.iload_n (pc := 11) dm_X8_timed_11 rfl ?_
  refine G.if_ne (pc := 12) (tgt := 24) dm_X8_timed_12 (by decide) (fun c12 => ?_) (fun c12 => ?_)
  · rw [if_neg c12] at hres
    refine G.iload_n (pc := 24) dm_X8_timed_24 rfl ?_
    refine G.iconst (pc := 25) (v := (1 : Int32)) dm_X8_timed_25 qi_1 ?_
    refine G.icmp_ne (pc := 26) (tgt := 37) dm_X8_timed_26 (by decide) (fun c26 => ?_) (fun c26 => ?_)
    · rw [if_neg c26] at hres
      refine G.getstatic (pc := 37) dm_X8_timed_37 (Or.inl ⟨2, by decide, rfl⟩) tw613 ?_
      cases hres
      exact G.areturn (pc := 40) dm_X8_timed_40 rfl (Or.inl ⟨_, rfl⟩) rfl rfl
    · rw [if_pos c26] at hres
      refine G.iload (pc := 29) dm_X8_timed_29 rfl ?_
      obtain ⟨z3_0, hz3⟩ := g_ex1 (f_X10_isRegister z2_0)
      refine G.callSN (pc := 31) (rest := []) (st1 := [.int z3_0]) (ws1 := (w_t tlow thigh tnum tstat taddr tready tnext tret regs tstore hcount haddr hcyc hret tims)) [] dm_X8_timed_31 gc_X8_timed_116 (k_X10_isRegister (k := z2_0) hz3) rfl rfl rfl rfl rfl rfl rfl rfl ?_
      have hrd := a_isReg hz3
      replace hres : (r_0, r_1, r_2) = f_X8_timed_c31 cycle regs tims z2_0 z3_0 := hres.trans (by rw [← hz3])
      rw [f_X8_timed_c31] at hres
      refine G.if_ne (pc := 34) (tgt := 41) dm_X8_timed_34 (by decide) (fun c34 => ?_) (fun c34 => ?_)
      · rw [if_neg c34] at hres
        refine G.aload_n (pc := 41) dm_X8_timed_41 rfl ?_
        refine G.iload (pc := 42) dm_X8_timed_42 rfl ?_
        refine G.iload_n (pc := 44) dm_X8_timed_44 rfl ?_
        obtain ⟨z4_0, hz4⟩ := g_ex1 (f_X8_setRegister z2_0 cycle regs)
        refine G.callV0 (pc := 45) (rest := []) (st1 := []) dm_X8_timed_45 gc_X8_timed_122 (k_X8_setRegister (k := z2_0) (value := cycle) (tlow := tlow) (thigh := thigh) (tnum := tnum) (tstat := tstat) (taddr := taddr) (tready := tready) (tnext := tnext) (tret := tret) (regs := regs) (tstore := tstore) (hcount := hcount) (haddr := haddr) (hcyc := hcyc) (hret := hret) (tims := tims) (hrd c34) hz4) rfl rfl rfl rfl rfl rfl rfl rfl ?_
        replace hres : (r_0, r_1, r_2) = f_X8_timed_c45 tims z4_0 := hres.trans (by rw [← hz4])
        rw [f_X8_timed_c45] at hres
        refine G.getstatic (pc := 48) dm_X8_timed_48 (Or.inl ⟨0, by decide, rfl⟩) tw614 ?_
        cases hres
        exact G.areturn (pc := 51) dm_X8_timed_51 rfl (Or.inl ⟨_, rfl⟩) rfl rfl
      · rw [if_pos c34] at hres
        refine G.getstatic (pc := 37) dm_X8_timed_37 (Or.inl ⟨2, by decide, rfl⟩) tw613 ?_
        cases hres
        exact G.areturn (pc := 40) dm_X8_timed_40 rfl (Or.inl ⟨_, rfl⟩) rfl rfl
  · rw [if_pos c12] at hres
    refine G.aload_n (pc := 15) dm_X8_timed_15 rfl ?_
    refine G.iload (pc := 16) dm_X8_timed_16 rfl ?_
    refine G.iload_n (pc := 18) dm_X8_timed_18 rfl ?_
    refine G.iload_n (pc := 19) dm_X8_timed_19 rfl ?_
    obtain ⟨z5_0, z5_1, hz5⟩ := g_ex2 (f_X8_setTimer z2_0 word cycle regs tims)
    refine G.callV0 (pc := 20) (rest := []) (st1 := [.ref z5_0]) dm_X8_timed_20 gc_X8_timed_195 (k_X8_setTimer (timer := z2_0) (word := word) (cycle := cycle) (tlow := tlow) (thigh := thigh) (tnum := tnum) (tstat := tstat) (taddr := taddr) (tready := tready) (tnext := tnext) (tret := tret) (regs := regs) (tstore := tstore) (hcount := hcount) (haddr := haddr) (hcyc := hcyc) (hret := hret) (tims := tims) h4.1 hz5) rfl rfl rfl rfl rfl rfl rfl rfl ?_
    replace hres : (r_0, r_1, r_2) = f_X8_timed_c20 regs z5_0 z5_1 := hres.trans (by rw [← hz5])
    rw [f_X8_timed_c20] at hres
    cases hres
    exact G.areturn (pc := 23) dm_X8_timed_23 rfl (Or.inl ⟨_, rfl⟩) rfl rfl
theorem o_X8_timed {word : Int32} {cycle : Int32} {regs : Nat → Int32} {tims : Nat → Int32} {r_0 : Nat} {r_1 : (Nat → Int32)} {r_2 : (Nat → Int32)} (hres : (r_0, r_1, r_2) = f_X8_timed word cycle regs tims) : 1000 ≤ r_0 ∧ r_0 < 1003 := by
  rw [f_X8_timed] at hres
  obtain ⟨z1_0, hz1⟩ := g_ex1 (f_X1_f word)
  replace hres : (r_0, r_1, r_2) = f_X8_timed_c1 word cycle regs tims z1_0 := hres.trans (by rw [← hz1])
  rw [f_X8_timed_c1] at hres
  obtain ⟨z2_0, hz2⟩ := g_ex1 (f_X1_rd word)
  replace hres : (r_0, r_1, r_2) = f_X8_timed_c6 word cycle regs tims z1_0 z2_0 := hres.trans (by rw [← hz2])
  rw [f_X8_timed_c6] at hres
  by_cases c12 : z1_0 = 0
  · rw [if_pos c12] at hres
    obtain ⟨z5_0, z5_1, hz5⟩ := g_ex2 (f_X8_setTimer z2_0 word cycle regs tims)
    have hoz := o_X8_setTimer hz5
    replace hres : (r_0, r_1, r_2) = f_X8_timed_c20 regs z5_0 z5_1 := hres.trans (by rw [← hz5])
    rw [f_X8_timed_c20] at hres
    cases hres
    exact (by first | exact hoz | decide)
  · rw [if_neg c12] at hres
    by_cases c26 : z1_0 = (1 : Int32)
    · rw [if_pos c26] at hres
      obtain ⟨z3_0, hz3⟩ := g_ex1 (f_X10_isRegister z2_0)
      replace hres : (r_0, r_1, r_2) = f_X8_timed_c31 cycle regs tims z2_0 z3_0 := hres.trans (by rw [← hz3])
      rw [f_X8_timed_c31] at hres
      by_cases c34 : z3_0 = 0
      · rw [if_pos c34] at hres
        cases hres
        exact (by first | exact hoz | decide)
      · rw [if_neg c34] at hres
        obtain ⟨z4_0, hz4⟩ := g_ex1 (f_X8_setRegister z2_0 cycle regs)
        replace hres : (r_0, r_1, r_2) = f_X8_timed_c45 tims z4_0 := hres.trans (by rw [← hz4])
        rw [f_X8_timed_c45] at hres
        cases hres
        exact (by first | exact hoz | decide)
    · rw [if_neg c26] at hres
      cases hres
      exact (by first | exact hoz | decide)
abbrev M_X8_halt : g_M := (cX8_halt, 2, RX8, (some (.object "TimedThreads$Outcome")), { frames := 0, cells := 0, slots := 0, locals := 0 }, 0, 0)
theorem dm_X8_halt_0 : decode M_X8_halt.1 0 = .ok (.iload_n 1, 1) := by decide +kernel
theorem dm_X8_halt_1 : decode M_X8_halt.1 1 = .ok (.bipush 115, 2) := by decide +kernel
theorem dm_X8_halt_3 : decode M_X8_halt.1 3 = .ok (.if_icmp .eq 7, 3) := by decide +kernel
theorem dm_X8_halt_6 : decode M_X8_halt.1 6 = .ok (.getstatic 48, 3) := by decide +kernel
theorem dm_X8_halt_9 : decode M_X8_halt.1 9 = .ok (.areturn, 1) := by decide +kernel
theorem dm_X8_halt_10 : decode M_X8_halt.1 10 = .ok (.aload_n 0, 1) := by decide +kernel
theorem dm_X8_halt_11 : decode M_X8_halt.1 11 = .ok (.iconst 2, 1) := by decide +kernel
theorem dm_X8_halt_12 : decode M_X8_halt.1 12 = .ok (.putfield 28, 3) := by decide +kernel
theorem dm_X8_halt_15 : decode M_X8_halt.1 15 = .ok (.getstatic 54, 3) := by decide +kernel
theorem dm_X8_halt_18 : decode M_X8_halt.1 18 = .ok (.areturn, 1) := by decide +kernel
def f_X8_halt (word : Int32) (tstat : Int32) : Nat × Int32 := (if word = (115 : Int32) then (1000, (2 : Int32)) else (1002, tstat))
set_option maxRecDepth 20000 in
theorem k_X8_halt {word : Int32} {tlow : Int32} {thigh : Int32} {tnum : Int32} {tstat : Int32} {taddr : Int32} {tready : Int32} {tnext : Int32} {tret : Int32} {regs : Nat → Int32} {tstore : Nat → Int32} {hcount : Int32} {haddr : Nat → Int32} {hcyc : Nat → Int32} {hret : Nat → Int32} {tims : Nat → Int32} {r_0 : Nat} {r_1 : Int32} (hres : (r_0, r_1) = f_X8_halt word tstat) : K M_X8_halt yX8_halt [.ref 0, .int word] (w_t tlow thigh tnum tstat taddr tready tnext tret regs tstore hcount haddr hcyc hret tims) (some (.ref r_0)) (w_t tlow thigh tnum r_1 taddr tready tnext tret regs tstore hcount haddr hcyc hret tims) := by
  refine K.of (lv := [(0, .ref 0), (1, .int word)]) (by decide +kernel) rfl rfl rfl ?_
  rw [f_X8_halt] at hres
  refine G.iload_n (pc := 0) dm_X8_halt_0 rfl ?_
  refine G.bipush (pc := 1) (v := (115 : Int32)) dm_X8_halt_1 qb_115 ?_
  refine G.icmp_eq (pc := 3) (tgt := 10) dm_X8_halt_3 (by decide) (fun c3 => ?_) (fun c3 => ?_)
  · rw [if_pos c3] at hres
    refine G.aload_n (pc := 10) dm_X8_halt_10 rfl ?_
    refine G.iconst (pc := 11) (v := (2 : Int32)) dm_X8_halt_11 qi_2 ?_
    refine G.putfield (pc := 12) (ws1 := (w_t tlow thigh tnum (2 : Int32) taddr tready tnext tret regs tstore hcount haddr hcyc hret tims)) dm_X8_halt_12 gw_X8_28 rfl (g_fit_i _) rfl rfl ?_
    refine G.getstatic (pc := 15) dm_X8_halt_15 (Or.inl ⟨0, by decide, rfl⟩) tw614 ?_
    cases hres
    exact G.areturn (pc := 18) dm_X8_halt_18 rfl (Or.inl ⟨_, rfl⟩) rfl rfl
  · rw [if_neg c3] at hres
    refine G.getstatic (pc := 6) dm_X8_halt_6 (Or.inl ⟨2, by decide, rfl⟩) tw613 ?_
    cases hres
    exact G.areturn (pc := 9) dm_X8_halt_9 rfl (Or.inl ⟨_, rfl⟩) rfl rfl
theorem o_X8_halt {word : Int32} {tstat : Int32} {r_0 : Nat} {r_1 : Int32} (hres : (r_0, r_1) = f_X8_halt word tstat) : 1000 ≤ r_0 ∧ r_0 < 1003 := by
  rw [f_X8_halt] at hres
  by_cases c3 : word = (115 : Int32)
  · rw [if_pos c3] at hres
    cases hres
    exact (by first | exact hoz | decide)
  · rw [if_neg c3] at hres
    cases hres
    exact (by first | exact hoz | decide)
abbrev M_X8_attempt : g_M := (cX8_attempt, 4, RX8, (some (.object "TimedThreads$Outcome")), { frames := 4, cells := 0, slots := 0, locals := 100 }, 0, 0)
theorem dm_X8_attempt_0 : decode M_X8_attempt.1 0 = .ok (.aload_n 0, 1) := by decide +kernel
theorem dm_X8_attempt_1 : decode M_X8_attempt.1 1 = .ok (.getfield 35, 3) := by decide +kernel
theorem dm_X8_attempt_4 : decode M_X8_attempt.1 4 = .ok (.invokestatic 67, 3) := by decide +kernel
theorem dm_X8_attempt_7 : decode M_X8_attempt.1 7 = .ok (.ifCond .eq 13, 3) := by decide +kernel
theorem dm_X8_attempt_10 : decode M_X8_attempt.1 10 = .ok (.aload_n 0, 1) := by decide +kernel
theorem dm_X8_attempt_11 : decode M_X8_attempt.1 11 = .ok (.getfield 35, 3) := by decide +kernel
theorem dm_X8_attempt_14 : decode M_X8_attempt.1 14 = .ok (.invokestatic 71, 3) := by decide +kernel
theorem dm_X8_attempt_17 : decode M_X8_attempt.1 17 = .ok (.ifCond .ne 7, 3) := by decide +kernel
theorem dm_X8_attempt_20 : decode M_X8_attempt.1 20 = .ok (.getstatic 48, 3) := by decide +kernel
theorem dm_X8_attempt_23 : decode M_X8_attempt.1 23 = .ok (.areturn, 1) := by decide +kernel
theorem dm_X8_attempt_24 : decode M_X8_attempt.1 24 = .ok (.aload_n 0, 1) := by decide +kernel
theorem dm_X8_attempt_25 : decode M_X8_attempt.1 25 = .ok (.getfield 15, 3) := by decide +kernel
theorem dm_X8_attempt_28 : decode M_X8_attempt.1 28 = .ok (.aload_n 0, 1) := by decide +kernel
theorem dm_X8_attempt_29 : decode M_X8_attempt.1 29 = .ok (.getfield 35, 3) := by decide +kernel
theorem dm_X8_attempt_32 : decode M_X8_attempt.1 32 = .ok (.iconst 2, 1) := by decide +kernel
theorem dm_X8_attempt_33 : decode M_X8_attempt.1 33 = .ok (.ishr, 1) := by decide +kernel
theorem dm_X8_attempt_34 : decode M_X8_attempt.1 34 = .ok (.iaload, 1) := by decide +kernel
theorem dm_X8_attempt_35 : decode M_X8_attempt.1 35 = .ok (.istore_n 3, 1) := by decide +kernel
theorem dm_X8_attempt_36 : decode M_X8_attempt.1 36 = .ok (.aload_n 0, 1) := by decide +kernel
theorem dm_X8_attempt_37 : decode M_X8_attempt.1 37 = .ok (.aload_n 0, 1) := by decide +kernel
theorem dm_X8_attempt_38 : decode M_X8_attempt.1 38 = .ok (.getfield 35, 3) := by decide +kernel
theorem dm_X8_attempt_41 : decode M_X8_attempt.1 41 = .ok (.iconst 4, 1) := by decide +kernel
theorem dm_X8_attempt_42 : decode M_X8_attempt.1 42 = .ok (.iadd, 1) := by decide +kernel
theorem dm_X8_attempt_43 : decode M_X8_attempt.1 43 = .ok (.putfield 64, 3) := by decide +kernel
theorem dm_X8_attempt_46 : decode M_X8_attempt.1 46 = .ok (.aload_n 0, 1) := by decide +kernel
theorem dm_X8_attempt_47 : decode M_X8_attempt.1 47 = .ok (.iload_n 1, 1) := by decide +kernel
theorem dm_X8_attempt_48 : decode M_X8_attempt.1 48 = .ok (.iconst 4, 1) := by decide +kernel
theorem dm_X8_attempt_49 : decode M_X8_attempt.1 49 = .ok (.iadd, 1) := by decide +kernel
theorem dm_X8_attempt_50 : decode M_X8_attempt.1 50 = .ok (.putfield 57, 3) := by decide +kernel
theorem dm_X8_attempt_53 : decode M_X8_attempt.1 53 = .ok (.iload_n 3, 1) := by decide +kernel
theorem dm_X8_attempt_54 : decode M_X8_attempt.1 54 = .ok (.invokestatic 74, 3) := by decide +kernel
theorem dm_X8_attempt_57 : decode M_X8_attempt.1 57 = .ok (.lookupswitch 156 #[(3, 115), (11, 143), (19, 131), (35, 123), (51, 137), (55, 91), (99, 109), (103, 103), (111, 97), (115, 150)], 91) := by decide +kernel
theorem dm_X8_attempt_148 : decode M_X8_attempt.1 148 = .ok (.aload_n 0, 1) := by decide +kernel
theorem dm_X8_attempt_149 : decode M_X8_attempt.1 149 = .ok (.iload_n 3, 1) := by decide +kernel
theorem dm_X8_attempt_150 : decode M_X8_attempt.1 150 = .ok (.invokevirtual 80, 3) := by decide +kernel
theorem dm_X8_attempt_153 : decode M_X8_attempt.1 153 = .ok (.areturn, 1) := by decide +kernel
theorem dm_X8_attempt_154 : decode M_X8_attempt.1 154 = .ok (.aload_n 0, 1) := by decide +kernel
theorem dm_X8_attempt_155 : decode M_X8_attempt.1 155 = .ok (.iload_n 3, 1) := by decide +kernel
theorem dm_X8_attempt_156 : decode M_X8_attempt.1 156 = .ok (.invokevirtual 84, 3) := by decide +kernel
theorem dm_X8_attempt_159 : decode M_X8_attempt.1 159 = .ok (.areturn, 1) := by decide +kernel
theorem dm_X8_attempt_160 : decode M_X8_attempt.1 160 = .ok (.aload_n 0, 1) := by decide +kernel
theorem dm_X8_attempt_161 : decode M_X8_attempt.1 161 = .ok (.iload_n 3, 1) := by decide +kernel
theorem dm_X8_attempt_162 : decode M_X8_attempt.1 162 = .ok (.invokevirtual 87, 3) := by decide +kernel
theorem dm_X8_attempt_165 : decode M_X8_attempt.1 165 = .ok (.areturn, 1) := by decide +kernel
theorem dm_X8_attempt_166 : decode M_X8_attempt.1 166 = .ok (.aload_n 0, 1) := by decide +kernel
theorem dm_X8_attempt_167 : decode M_X8_attempt.1 167 = .ok (.iload_n 3, 1) := by decide +kernel
theorem dm_X8_attempt_168 : decode M_X8_attempt.1 168 = .ok (.invokevirtual 90, 3) := by decide +kernel
theorem dm_X8_attempt_171 : decode M_X8_attempt.1 171 = .ok (.areturn, 1) := by decide +kernel
theorem dm_X8_attempt_172 : decode M_X8_attempt.1 172 = .ok (.aload_n 0, 1) := by decide +kernel
theorem dm_X8_attempt_173 : decode M_X8_attempt.1 173 = .ok (.iload_n 3, 1) := by decide +kernel
theorem dm_X8_attempt_174 : decode M_X8_attempt.1 174 = .ok (.iload_n 1, 1) := by decide +kernel
theorem dm_X8_attempt_175 : decode M_X8_attempt.1 175 = .ok (.aload_n 2, 1) := by decide +kernel
theorem dm_X8_attempt_176 : decode M_X8_attempt.1 176 = .ok (.invokevirtual 93, 3) := by decide +kernel
theorem dm_X8_attempt_179 : decode M_X8_attempt.1 179 = .ok (.areturn, 1) := by decide +kernel
theorem dm_X8_attempt_180 : decode M_X8_attempt.1 180 = .ok (.aload_n 0, 1) := by decide +kernel
theorem dm_X8_attempt_181 : decode M_X8_attempt.1 181 = .ok (.iload_n 3, 1) := by decide +kernel
theorem dm_X8_attempt_182 : decode M_X8_attempt.1 182 = .ok (.iload_n 1, 1) := by decide +kernel
theorem dm_X8_attempt_183 : decode M_X8_attempt.1 183 = .ok (.aload_n 2, 1) := by decide +kernel
theorem dm_X8_attempt_184 : decode M_X8_attempt.1 184 = .ok (.invokevirtual 97, 3) := by decide +kernel
theorem dm_X8_attempt_187 : decode M_X8_attempt.1 187 = .ok (.areturn, 1) := by decide +kernel
theorem dm_X8_attempt_188 : decode M_X8_attempt.1 188 = .ok (.aload_n 0, 1) := by decide +kernel
theorem dm_X8_attempt_189 : decode M_X8_attempt.1 189 = .ok (.iload_n 3, 1) := by decide +kernel
theorem dm_X8_attempt_190 : decode M_X8_attempt.1 190 = .ok (.invokevirtual 100, 3) := by decide +kernel
theorem dm_X8_attempt_193 : decode M_X8_attempt.1 193 = .ok (.areturn, 1) := by decide +kernel
theorem dm_X8_attempt_194 : decode M_X8_attempt.1 194 = .ok (.aload_n 0, 1) := by decide +kernel
theorem dm_X8_attempt_195 : decode M_X8_attempt.1 195 = .ok (.iload_n 3, 1) := by decide +kernel
theorem dm_X8_attempt_196 : decode M_X8_attempt.1 196 = .ok (.invokevirtual 103, 3) := by decide +kernel
theorem dm_X8_attempt_199 : decode M_X8_attempt.1 199 = .ok (.areturn, 1) := by decide +kernel
theorem dm_X8_attempt_200 : decode M_X8_attempt.1 200 = .ok (.aload_n 0, 1) := by decide +kernel
theorem dm_X8_attempt_201 : decode M_X8_attempt.1 201 = .ok (.iload_n 3, 1) := by decide +kernel
theorem dm_X8_attempt_202 : decode M_X8_attempt.1 202 = .ok (.iload_n 1, 1) := by decide +kernel
theorem dm_X8_attempt_203 : decode M_X8_attempt.1 203 = .ok (.invokevirtual 106, 3) := by decide +kernel
theorem dm_X8_attempt_206 : decode M_X8_attempt.1 206 = .ok (.areturn, 1) := by decide +kernel
theorem dm_X8_attempt_207 : decode M_X8_attempt.1 207 = .ok (.aload_n 0, 1) := by decide +kernel
theorem dm_X8_attempt_208 : decode M_X8_attempt.1 208 = .ok (.iload_n 3, 1) := by decide +kernel
theorem dm_X8_attempt_209 : decode M_X8_attempt.1 209 = .ok (.invokevirtual 110, 3) := by decide +kernel
theorem dm_X8_attempt_212 : decode M_X8_attempt.1 212 = .ok (.areturn, 1) := by decide +kernel
theorem dm_X8_attempt_213 : decode M_X8_attempt.1 213 = .ok (.getstatic 48, 3) := by decide +kernel
theorem dm_X8_attempt_216 : decode M_X8_attempt.1 216 = .ok (.areturn, 1) := by decide +kernel
theorem gc_X8_attempt_67 : g_cs M_X8_attempt 67 M_X8_isInStore yX8_isInStore 1 := ⟨tw621, tw622, tw32, tw623, ⟨rfl, rfl, rfl, rfl⟩, gd_X8_isInStore, ⟨by decide, by decide⟩⟩
theorem gc_X8_attempt_71 : g_cs M_X8_attempt 71 M_X8_isAligned yX8_isAligned 1 := ⟨tw624, tw625, tw32, tw626, ⟨rfl, rfl, rfl, rfl⟩, gd_X8_isAligned, ⟨by decide, by decide⟩⟩
theorem gc_X8_attempt_74 : g_cs M_X8_attempt 74 M_X1_op yX1_op 1 := ⟨tw627, tw398, tw359, tw399, ⟨rfl, rfl, rfl, rfl⟩, gd_X1_op, ⟨by decide, by decide⟩⟩
theorem gc_X8_attempt_80 : g_cv M_X8_attempt 80 M_X8_loadUpper yX8_loadUpper 1 := ⟨tw628, tw629, tw630, tw32, tw631, ⟨rfl, rfl, rfl, rfl⟩, gd_X8_loadUpper, ⟨by decide, by decide⟩⟩
theorem gc_X8_attempt_84 : g_cv M_X8_attempt 84 M_X8_jump yX8_jump 1 := ⟨tw644, tw645, tw646, tw32, tw647, ⟨rfl, rfl, rfl, rfl⟩, gd_X8_jump, ⟨by decide, by decide⟩⟩
theorem gc_X8_attempt_87 : g_cv M_X8_attempt 87 M_X8_jumpToRegister yX8_jumpToRegister 1 := ⟨tw651, tw652, tw653, tw32, tw654, ⟨rfl, rfl, rfl, rfl⟩, gd_X8_jumpToRegister, ⟨by decide, by decide⟩⟩
theorem gc_X8_attempt_90 : g_cv M_X8_attempt 90 M_X8_branch yX8_branch 1 := ⟨tw664, tw665, tw666, tw32, tw667, ⟨rfl, rfl, rfl, rfl⟩, gd_X8_branch, ⟨by decide, by decide⟩⟩
theorem gc_X8_attempt_93 : g_cv M_X8_attempt 93 M_X8_load yX8_load 3 := ⟨tw681, tw682, tw683, tw32, tw684, ⟨rfl, rfl, rfl, rfl⟩, gd_X8_load, ⟨by decide, by decide⟩⟩
theorem gc_X8_attempt_97 : g_cv M_X8_attempt 97 M_X8_save yX8_save 3 := ⟨tw711, tw712, tw713, tw32, tw714, ⟨rfl, rfl, rfl, rfl⟩, gd_X8_save, ⟨by decide, by decide⟩⟩
theorem gc_X8_attempt_100 : g_cv M_X8_attempt 100 M_X8_computeWithNumber yX8_computeWithNumber 1 := ⟨tw719, tw720, tw721, tw32, tw722, ⟨rfl, rfl, rfl, rfl⟩, gd_X8_computeWithNumber, ⟨by decide, by decide⟩⟩
theorem gc_X8_attempt_103 : g_cv M_X8_attempt 103 M_X8_computeWithRegister yX8_computeWithRegister 1 := ⟨tw729, tw730, tw731, tw32, tw732, ⟨rfl, rfl, rfl, rfl⟩, gd_X8_computeWithRegister, ⟨by decide, by decide⟩⟩
theorem gc_X8_attempt_106 : g_cv M_X8_attempt 106 M_X8_timed yX8_timed 2 := ⟨tw733, tw734, tw735, tw32, tw736, ⟨rfl, rfl, rfl, rfl⟩, gd_X8_timed, ⟨by decide, by decide⟩⟩
theorem gc_X8_attempt_110 : g_cv M_X8_attempt 110 M_X8_halt yX8_halt 1 := ⟨tw749, tw750, tw751, tw32, tw752, ⟨rfl, rfl, rfl, rfl⟩, gd_X8_halt, ⟨by decide, by decide⟩⟩
def f_X8_attempt_c176 (tstat : Int32) (taddr : Int32) (tstore : Nat → Int32) (tims : Nat → Int32) (mwords : Nat → Int32) (z4_0 : Nat) (z4_1 : Int32) (z4_2 : (Nat → Int32)) : Nat × Int32 × Int32 × Int32 × (Nat → Int32) × (Nat → Int32) × (Nat → Int32) × (Nat → Int32) := (z4_0, tstat, (taddr + (4 : Int32)), z4_1, z4_2, tstore, tims, mwords)
def f_X8_attempt_c203 (cycle : Int32) (tstat : Int32) (taddr : Int32) (tstore : Nat → Int32) (mwords : Nat → Int32) (z5_0 : Nat) (z5_1 : (Nat → Int32)) (z5_2 : (Nat → Int32)) : Nat × Int32 × Int32 × Int32 × (Nat → Int32) × (Nat → Int32) × (Nat → Int32) × (Nat → Int32) := (z5_0, tstat, (taddr + (4 : Int32)), (cycle + (4 : Int32)), z5_1, tstore, z5_2, mwords)
def f_X8_attempt_c190 (cycle : Int32) (tstat : Int32) (taddr : Int32) (tstore : Nat → Int32) (tims : Nat → Int32) (mwords : Nat → Int32) (z6_0 : Nat) (z6_1 : (Nat → Int32)) : Nat × Int32 × Int32 × Int32 × (Nat → Int32) × (Nat → Int32) × (Nat → Int32) × (Nat → Int32) := (z6_0, tstat, (taddr + (4 : Int32)), (cycle + (4 : Int32)), z6_1, tstore, tims, mwords)
def f_X8_attempt_c184 (tstat : Int32) (taddr : Int32) (regs : Nat → Int32) (tims : Nat → Int32) (z7_0 : Nat) (z7_1 : Int32) (z7_2 : (Nat → Int32)) (z7_3 : (Nat → Int32)) : Nat × Int32 × Int32 × Int32 × (Nat → Int32) × (Nat → Int32) × (Nat → Int32) × (Nat → Int32) := (z7_0, tstat, (taddr + (4 : Int32)), z7_1, regs, z7_2, tims, z7_3)
def f_X8_attempt_c196 (cycle : Int32) (tstat : Int32) (taddr : Int32) (tstore : Nat → Int32) (tims : Nat → Int32) (mwords : Nat → Int32) (z8_0 : Nat) (z8_1 : (Nat → Int32)) : Nat × Int32 × Int32 × Int32 × (Nat → Int32) × (Nat → Int32) × (Nat → Int32) × (Nat → Int32) := (z8_0, tstat, (taddr + (4 : Int32)), (cycle + (4 : Int32)), z8_1, tstore, tims, mwords)
def f_X8_attempt_c150 (cycle : Int32) (tstat : Int32) (taddr : Int32) (tstore : Nat → Int32) (tims : Nat → Int32) (mwords : Nat → Int32) (z9_0 : Nat) (z9_1 : (Nat → Int32)) : Nat × Int32 × Int32 × Int32 × (Nat → Int32) × (Nat → Int32) × (Nat → Int32) × (Nat → Int32) := (z9_0, tstat, (taddr + (4 : Int32)), (cycle + (4 : Int32)), z9_1, tstore, tims, mwords)
def f_X8_attempt_c168 (cycle : Int32) (tstat : Int32) (regs : Nat → Int32) (tstore : Nat → Int32) (tims : Nat → Int32) (mwords : Nat → Int32) (z10_0 : Nat) (z10_1 : Int32) : Nat × Int32 × Int32 × Int32 × (Nat → Int32) × (Nat → Int32) × (Nat → Int32) × (Nat → Int32) := (z10_0, tstat, z10_1, (cycle + (4 : Int32)), regs, tstore, tims, mwords)
def f_X8_attempt_c162 (cycle : Int32) (tstat : Int32) (tstore : Nat → Int32) (tims : Nat → Int32) (mwords : Nat → Int32) (z11_0 : Nat) (z11_1 : Int32) (z11_2 : (Nat → Int32)) : Nat × Int32 × Int32 × Int32 × (Nat → Int32) × (Nat → Int32) × (Nat → Int32) × (Nat → Int32) := (z11_0, tstat, z11_1, (cycle + (4 : Int32)), z11_2, tstore, tims, mwords)
def f_X8_attempt_c156 (cycle : Int32) (tstat : Int32) (tstore : Nat → Int32) (tims : Nat → Int32) (mwords : Nat → Int32) (z12_0 : Nat) (z12_1 : Int32) (z12_2 : (Nat → Int32)) : Nat × Int32 × Int32 × Int32 × (Nat → Int32) × (Nat → Int32) × (Nat → Int32) × (Nat → Int32) := (z12_0, tstat, z12_1, (cycle + (4 : Int32)), z12_2, tstore, tims, mwords)
def f_X8_attempt_c209 (cycle : Int32) (taddr : Int32) (regs : Nat → Int32) (tstore : Nat → Int32) (tims : Nat → Int32) (mwords : Nat → Int32) (z13_0 : Nat) (z13_1 : Int32) : Nat × Int32 × Int32 × Int32 × (Nat → Int32) × (Nat → Int32) × (Nat → Int32) × (Nat → Int32) := (z13_0, z13_1, (taddr + (4 : Int32)), (cycle + (4 : Int32)), regs, tstore, tims, mwords)
def f_X8_attempt_c54 (cycle : Int32) (tlow : Int32) (thigh : Int32) (tnum : Int32) (tstat : Int32) (taddr : Int32) (regs : Nat → Int32) (tstore : Nat → Int32) (tims : Nat → Int32) (mwheel : Int32) (mwords : Nat → Int32) (z3_0 : Int32) : Nat × Int32 × Int32 × Int32 × (Nat → Int32) × (Nat → Int32) × (Nat → Int32) × (Nat → Int32) := (if z3_0 = (3 : Int32) then (f_X8_attempt_c176 tstat taddr tstore tims mwords (f_X8_load (tstore (Int32.toNatClampNeg (taddr >>> ((2 : Int32) &&& 31)))) cycle tlow thigh tnum (cycle + (4 : Int32)) regs tstore mwheel mwords).1 (f_X8_load (tstore (Int32.toNatClampNeg (taddr >>> ((2 : Int32) &&& 31)))) cycle tlow thigh tnum (cycle + (4 : Int32)) regs tstore mwheel mwords).2.1 (f_X8_load (tstore (Int32.toNatClampNeg (taddr >>> ((2 : Int32) &&& 31)))) cycle tlow thigh tnum (cycle + (4 : Int32)) regs tstore mwheel mwords).2.2) else (if z3_0 = (11 : Int32) then (f_X8_attempt_c203 cycle tstat taddr tstore mwords (f_X8_timed (tstore (Int32.toNatClampNeg (taddr >>> ((2 : Int32) &&& 31)))) cycle regs tims).1 (f_X8_timed (tstore (Int32.toNatClampNeg (taddr >>> ((2 : Int32) &&& 31)))) cycle regs tims).2.1 (f_X8_timed (tstore (Int32.toNatClampNeg (taddr >>> ((2 : Int32) &&& 31)))) cycle regs tims).2.2) else (if z3_0 = (19 : Int32) then (f_X8_attempt_c190 cycle tstat taddr tstore tims mwords (f_X8_computeWithNumber (tstore (Int32.toNatClampNeg (taddr >>> ((2 : Int32) &&& 31)))) regs).1 (f_X8_computeWithNumber (tstore (Int32.toNatClampNeg (taddr >>> ((2 : Int32) &&& 31)))) regs).2) else (if z3_0 = (35 : Int32) then (f_X8_attempt_c184 tstat taddr regs tims (f_X8_save (tstore (Int32.toNatClampNeg (taddr >>> ((2 : Int32) &&& 31)))) cycle tlow thigh tnum (cycle + (4 : Int32)) regs tstore mwheel mwords).1 (f_X8_save (tstore (Int32.toNatClampNeg (taddr >>> ((2 : Int32) &&& 31)))) cycle tlow thigh tnum (cycle + (4 : Int32)) regs tstore mwheel mwords).2.1 (f_X8_save (tstore (Int32.toNatClampNeg (taddr >>> ((2 : Int32) &&& 31)))) cycle tlow thigh tnum (cycle + (4 : Int32)) regs tstore mwheel mwords).2.2.1 (f_X8_save (tstore (Int32.toNatClampNeg (taddr >>> ((2 : Int32) &&& 31)))) cycle tlow thigh tnum (cycle + (4 : Int32)) regs tstore mwheel mwords).2.2.2) else (if z3_0 = (51 : Int32) then (f_X8_attempt_c196 cycle tstat taddr tstore tims mwords (f_X8_computeWithRegister (tstore (Int32.toNatClampNeg (taddr >>> ((2 : Int32) &&& 31)))) regs).1 (f_X8_computeWithRegister (tstore (Int32.toNatClampNeg (taddr >>> ((2 : Int32) &&& 31)))) regs).2) else (if z3_0 = (55 : Int32) then (f_X8_attempt_c150 cycle tstat taddr tstore tims mwords (f_X8_loadUpper (tstore (Int32.toNatClampNeg (taddr >>> ((2 : Int32) &&& 31)))) regs).1 (f_X8_loadUpper (tstore (Int32.toNatClampNeg (taddr >>> ((2 : Int32) &&& 31)))) regs).2) else (if z3_0 = (99 : Int32) then (f_X8_attempt_c168 cycle tstat regs tstore tims mwords (f_X8_branch (tstore (Int32.toNatClampNeg (taddr >>> ((2 : Int32) &&& 31)))) taddr (taddr + (4 : Int32)) regs).1 (f_X8_branch (tstore (Int32.toNatClampNeg (taddr >>> ((2 : Int32) &&& 31)))) taddr (taddr + (4 : Int32)) regs).2) else (if z3_0 = (103 : Int32) then (f_X8_attempt_c162 cycle tstat tstore tims mwords (f_X8_jumpToRegister (tstore (Int32.toNatClampNeg (taddr >>> ((2 : Int32) &&& 31)))) (taddr + (4 : Int32)) regs).1 (f_X8_jumpToRegister (tstore (Int32.toNatClampNeg (taddr >>> ((2 : Int32) &&& 31)))) (taddr + (4 : Int32)) regs).2.1 (f_X8_jumpToRegister (tstore (Int32.toNatClampNeg (taddr >>> ((2 : Int32) &&& 31)))) (taddr + (4 : Int32)) regs).2.2) else (if z3_0 = (111 : Int32) then (f_X8_attempt_c156 cycle tstat tstore tims mwords (f_X8_jump (tstore (Int32.toNatClampNeg (taddr >>> ((2 : Int32) &&& 31)))) taddr (taddr + (4 : Int32)) regs).1 (f_X8_jump (tstore (Int32.toNatClampNeg (taddr >>> ((2 : Int32) &&& 31)))) taddr (taddr + (4 : Int32)) regs).2.1 (f_X8_jump (tstore (Int32.toNatClampNeg (taddr >>> ((2 : Int32) &&& 31)))) taddr (taddr + (4 : Int32)) regs).2.2) else (if z3_0 = (115 : Int32) then (f_X8_attempt_c209 cycle taddr regs tstore tims mwords (f_X8_halt (tstore (Int32.toNatClampNeg (taddr >>> ((2 : Int32) &&& 31)))) tstat).1 (f_X8_halt (tstore (Int32.toNatClampNeg (taddr >>> ((2 : Int32) &&& 31)))) tstat).2) else (1002, tstat, (taddr + (4 : Int32)), (cycle + (4 : Int32)), regs, tstore, tims, mwords)))))))))))
def f_X8_attempt_c14 (cycle : Int32) (tlow : Int32) (thigh : Int32) (tnum : Int32) (tstat : Int32) (taddr : Int32) (tnext : Int32) (tret : Int32) (regs : Nat → Int32) (tstore : Nat → Int32) (tims : Nat → Int32) (mwheel : Int32) (mwords : Nat → Int32) (z2_0 : Int32) : Nat × Int32 × Int32 × Int32 × (Nat → Int32) × (Nat → Int32) × (Nat → Int32) × (Nat → Int32) := (if z2_0 = 0 then (1002, tstat, tnext, tret, regs, tstore, tims, mwords) else (f_X8_attempt_c54 cycle tlow thigh tnum tstat taddr regs tstore tims mwheel mwords (f_X1_op (tstore (Int32.toNatClampNeg (taddr >>> ((2 : Int32) &&& 31)))))))
def f_X8_attempt_c4 (cycle : Int32) (tlow : Int32) (thigh : Int32) (tnum : Int32) (tstat : Int32) (taddr : Int32) (tnext : Int32) (tret : Int32) (regs : Nat → Int32) (tstore : Nat → Int32) (tims : Nat → Int32) (mwheel : Int32) (mwords : Nat → Int32) (z1_0 : Int32) : Nat × Int32 × Int32 × Int32 × (Nat → Int32) × (Nat → Int32) × (Nat → Int32) × (Nat → Int32) := (if z1_0 = 0 then (1002, tstat, tnext, tret, regs, tstore, tims, mwords) else (f_X8_attempt_c14 cycle tlow thigh tnum tstat taddr tnext tret regs tstore tims mwheel mwords (f_X8_isAligned taddr)))
def f_X8_attempt (cycle : Int32) (tlow : Int32) (thigh : Int32) (tnum : Int32) (tstat : Int32) (taddr : Int32) (tnext : Int32) (tret : Int32) (regs : Nat → Int32) (tstore : Nat → Int32) (tims : Nat → Int32) (mwheel : Int32) (mwords : Nat → Int32) : Nat × Int32 × Int32 × Int32 × (Nat → Int32) × (Nat → Int32) × (Nat → Int32) × (Nat → Int32) := (f_X8_attempt_c4 cycle tlow thigh tnum tstat taddr tnext tret regs tstore tims mwheel mwords (f_X8_isInStore taddr))
set_option maxRecDepth 20000 in
theorem k_X8_attempt {cycle : Int32} {tlow : Int32} {thigh : Int32} {tnum : Int32} {tstat : Int32} {taddr : Int32} {tready : Int32} {tnext : Int32} {tret : Int32} {regs : Nat → Int32} {tstore : Nat → Int32} {hcount : Int32} {haddr : Nat → Int32} {hcyc : Nat → Int32} {hret : Nat → Int32} {tims : Nat → Int32} {mwheel : Int32} {mwords : Nat → Int32} (hlt : 0 ≤ tlow.toInt ∧ tlow.toInt ≤ thigh.toInt ∧ thigh.toInt ≤ 64) (hwh : 1 ≤ mwheel.toInt ∧ mwheel.toInt ≤ 8) {r_0 : Nat} {r_1 : Int32} {r_2 : Int32} {r_3 : Int32} {r_4 : (Nat → Int32)} {r_5 : (Nat → Int32)} {r_6 : (Nat → Int32)} {r_7 : (Nat → Int32)} (hres : (r_0, r_1, r_2, r_3, r_4, r_5, r_6, r_7) = f_X8_attempt cycle tlow thigh tnum tstat taddr tnext tret regs tstore tims mwheel mwords) : K M_X8_attempt yX8_attempt [.ref 0, .int cycle, .ref 8] (w_T tlow thigh tnum tstat taddr tready tnext tret regs tstore hcount haddr hcyc hret tims mwheel mwords) (some (.ref r_0)) (w_T tlow thigh tnum r_1 taddr tready r_2 r_3 r_4 r_5 hcount haddr hcyc hret r_6 mwheel r_7) := by
  refine K.of (lv := [(0, .ref 0), (1, .int cycle), (2, .ref 8)]) (by decide +kernel) rfl rfl rfl ?_
  rw [f_X8_attempt] at hres
  refine G.aload_n (pc := 0) dm_X8_attempt_0 rfl ?_
  refine G.getfield (pc := 1) dm_X8_attempt_1 gf_X8_35 rfl rfl ?_
  obtain ⟨z1_0, hz1⟩ := g_ex1 (f_X8_isInStore taddr)
  refine G.callS (pc := 4) (rest := []) (st1 := [.int z1_0]) (ws1 := (w_T tlow thigh tnum tstat taddr tready tnext tret regs tstore hcount haddr hcyc hret tims mwheel mwords)) [] dm_X8_attempt_4 gc_X8_attempt_67 (k_X8_isInStore (at_ := taddr) hz1) rfl rfl rfl rfl rfl rfl rfl rfl ?_
  have own := a_isInStore hz1
  replace hres : (r_0, r_1, r_2, r_3, r_4, r_5, r_6, r_7) = f_X8_attempt_c4 cycle tlow thigh tnum tstat taddr tnext tret regs tstore tims mwheel mwords z1_0 := hres.trans (by rw [← hz1])
  rw [f_X8_attempt_c4] at hres
  refine G.if_eq (pc := 7) (tgt := 20) dm_X8_attempt_7 (by decide) (fun c7 => ?_) (fun c7 => ?_)
  · rw [if_pos c7] at hres
    refine G.getstatic (pc := 20) dm_X8_attempt_20 (Or.inl ⟨2, by decide, rfl⟩) tw613 ?_
    cases hres
    exact G.areturn (pc := 23) dm_X8_attempt_23 rfl (Or.inl ⟨_, rfl⟩) rfl rfl
  · rw [if_neg c7] at hres
    refine G.aload_n (pc := 10) dm_X8_attempt_10 rfl ?_
    refine G.getfield (pc := 11) dm_X8_attempt_11 gf_X8_35 rfl rfl ?_
    obtain ⟨z2_0, hz2⟩ := g_ex1 (f_X8_isAligned taddr)
    refine G.callS (pc := 14) (rest := []) (st1 := [.int z2_0]) (ws1 := (w_T tlow thigh tnum tstat taddr tready tnext tret regs tstore hcount haddr hcyc hret tims mwheel mwords)) [] dm_X8_attempt_14 gc_X8_attempt_71 (k_X8_isAligned (at_ := taddr) hz2) rfl rfl rfl rfl rfl rfl rfl rfl ?_
    replace hres : (r_0, r_1, r_2, r_3, r_4, r_5, r_6, r_7) = f_X8_attempt_c14 cycle tlow thigh tnum tstat taddr tnext tret regs tstore tims mwheel mwords z2_0 := hres.trans (by rw [← hz2])
    rw [f_X8_attempt_c14] at hres
    refine G.if_ne (pc := 17) (tgt := 24) dm_X8_attempt_17 (by decide) (fun c17 => ?_) (fun c17 => ?_)
    · rw [if_neg c17] at hres
      refine G.aload_n (pc := 24) dm_X8_attempt_24 rfl ?_
      refine G.getfield (pc := 25) dm_X8_attempt_25 gf_X8_15 rfl rfl ?_
      refine G.aload_n (pc := 28) dm_X8_attempt_28 rfl ?_
      refine G.getfield (pc := 29) dm_X8_attempt_29 gf_X8_35 rfl rfl ?_
      refine G.iconst (pc := 32) (v := (2 : Int32)) dm_X8_attempt_32 qi_2 ?_
      refine G.ishr (pc := 33) dm_X8_attempt_33 ?_
      refine G.iaload (pc := 34) dm_X8_attempt_34 rfl (q_st7 (own.1 c7)) ?_
      refine G.istore_n (pc := 35) (lv1 := [(3, .int (tstore (Int32.toNatClampNeg (taddr >>> ((2 : Int32) &&& 31))))), (0, .ref 0), (1, .int cycle), (2, .ref 8)]) dm_X8_attempt_35 rfl rfl ?_
      refine G.aload_n (pc := 36) dm_X8_attempt_36 rfl ?_
      refine G.aload_n (pc := 37) dm_X8_attempt_37 rfl ?_
      refine G.getfield (pc := 38) dm_X8_attempt_38 gf_X8_35 rfl rfl ?_
      refine G.iconst (pc := 41) (v := (4 : Int32)) dm_X8_attempt_41 qi_4 ?_
      refine G.iadd (pc := 42) dm_X8_attempt_42 ?_
      refine G.putfield (pc := 43) (ws1 := (w_T tlow thigh tnum tstat taddr tready (taddr + (4 : Int32)) tret regs tstore hcount haddr hcyc hret tims mwheel mwords)) dm_X8_attempt_43 gw_X8_64 rfl (g_fit_i _) rfl rfl ?_
      refine G.aload_n (pc := 46) dm_X8_attempt_46 rfl ?_
      refine G.iload_n (pc := 47) dm_X8_attempt_47 rfl ?_
      refine G.iconst (pc := 48) (v := (4 : Int32)) dm_X8_attempt_48 qi_4 ?_
      refine G.iadd (pc := 49) dm_X8_attempt_49 ?_
      refine G.putfield (pc := 50) (ws1 := (w_T tlow thigh tnum tstat taddr tready (taddr + (4 : Int32)) (cycle + (4 : Int32)) regs tstore hcount haddr hcyc hret tims mwheel mwords)) dm_X8_attempt_50 gw_X8_57 rfl (g_fit_i _) rfl rfl ?_
      refine G.iload_n (pc := 53) dm_X8_attempt_53 rfl ?_
      obtain ⟨z3_0, hz3⟩ := g_ex1 (f_X1_op (tstore (Int32.toNatClampNeg (taddr >>> ((2 : Int32) &&& 31)))))
      refine G.callS (pc := 54) (rest := []) (st1 := [.int z3_0]) (ws1 := (w_T tlow thigh tnum tstat taddr tready (taddr + (4 : Int32)) (cycle + (4 : Int32)) regs tstore hcount haddr hcyc hret tims mwheel mwords)) [] dm_X8_attempt_54 gc_X8_attempt_74 (k_X1_op (x := (tstore (Int32.toNatClampNeg (taddr >>> ((2 : Int32) &&& 31))))) hz3) rfl rfl rfl rfl rfl rfl rfl rfl ?_
      replace hres : (r_0, r_1, r_2, r_3, r_4, r_5, r_6, r_7) = f_X8_attempt_c54 cycle tlow thigh tnum tstat taddr regs tstore tims mwheel mwords z3_0 := hres.trans (by rw [← hz3])
      rw [f_X8_attempt_c54] at hres
      by_cases c57_0 : z3_0 = (3 : Int32)
      · rw [if_pos c57_0] at hres
        refine G.lookup (pc := 57) (tgt := 172) dm_X8_attempt_57 (by decide) (by rw [c57_0] <;> rfl) (by decide) ?_
        refine G.aload_n (pc := 172) dm_X8_attempt_172 rfl ?_
        refine G.iload_n (pc := 173) dm_X8_attempt_173 rfl ?_
        refine G.iload_n (pc := 174) dm_X8_attempt_174 rfl ?_
        refine G.aload_n (pc := 175) dm_X8_attempt_175 rfl ?_
        obtain ⟨z4_0, z4_1, z4_2, hz4⟩ := g_ex3 (f_X8_load (tstore (Int32.toNatClampNeg (taddr >>> ((2 : Int32) &&& 31)))) cycle tlow thigh tnum (cycle + (4 : Int32)) regs tstore mwheel mwords)
        refine G.callV0 (pc := 176) (rest := []) (st1 := [.ref z4_0]) dm_X8_attempt_176 gc_X8_attempt_93 (k_X8_load (word := (tstore (Int32.toNatClampNeg (taddr >>> ((2 : Int32) &&& 31))))) (cycle := cycle) (tlow := tlow) (thigh := thigh) (tnum := tnum) (tstat := tstat) (taddr := taddr) (tready := tready) (tnext := (taddr + (4 : Int32))) (tret := (cycle + (4 : Int32))) (regs := regs) (tstore := tstore) (hcount := hcount) (haddr := haddr) (hcyc := hcyc) (hret := hret) (tims := tims) (mwheel := mwheel) (mwords := mwords) (by assumption) (by assumption) hz4) rfl rfl rfl rfl rfl rfl rfl rfl ?_
        replace hres : (r_0, r_1, r_2, r_3, r_4, r_5, r_6, r_7) = f_X8_attempt_c176 tstat taddr tstore tims mwords z4_0 z4_1 z4_2 := hres.trans (by rw [← hz4])
        rw [f_X8_attempt_c176] at hres
        cases hres
        exact G.areturn (pc := 179) dm_X8_attempt_179 rfl (Or.inl ⟨_, rfl⟩) rfl rfl
      rw [if_neg c57_0] at hres
      by_cases c57_1 : z3_0 = (11 : Int32)
      · rw [if_pos c57_1] at hres
        refine G.lookup (pc := 57) (tgt := 200) dm_X8_attempt_57 (by decide) (by rw [c57_1] <;> rfl) (by decide) ?_
        refine G.aload_n (pc := 200) dm_X8_attempt_200 rfl ?_
        refine G.iload_n (pc := 201) dm_X8_attempt_201 rfl ?_
        refine G.iload_n (pc := 202) dm_X8_attempt_202 rfl ?_
        obtain ⟨z5_0, z5_1, z5_2, hz5⟩ := g_ex3 (f_X8_timed (tstore (Int32.toNatClampNeg (taddr >>> ((2 : Int32) &&& 31)))) cycle regs tims)
        refine G.callV (pc := 203) (rest := []) (st1 := [.ref z5_0]) (ws1 := (w_T tlow thigh tnum tstat taddr tready (taddr + (4 : Int32)) (cycle + (4 : Int32)) z5_1 tstore hcount haddr hcyc hret z5_2 mwheel mwords)) [0, 1, 2, 3, 4, 5, 6, 7] dm_X8_attempt_203 gc_X8_attempt_106 (k_X8_timed (word := (tstore (Int32.toNatClampNeg (taddr >>> ((2 : Int32) &&& 31))))) (cycle := cycle) (tlow := tlow) (thigh := thigh) (tnum := tnum) (tstat := tstat) (taddr := taddr) (tready := tready) (tnext := (taddr + (4 : Int32))) (tret := (cycle + (4 : Int32))) (regs := regs) (tstore := tstore) (hcount := hcount) (haddr := haddr) (hcyc := hcyc) (hret := hret) (tims := tims) hz5) rfl rfl rfl rfl rfl rfl rfl rfl (g_rr (o_X8_timed hz5) (by decide)) rfl ?_
        replace hres : (r_0, r_1, r_2, r_3, r_4, r_5, r_6, r_7) = f_X8_attempt_c203 cycle tstat taddr tstore mwords z5_0 z5_1 z5_2 := hres.trans (by rw [← hz5])
        rw [f_X8_attempt_c203] at hres
        cases hres
        exact G.areturn (pc := 206) dm_X8_attempt_206 rfl (Or.inl ⟨_, rfl⟩) rfl rfl
      rw [if_neg c57_1] at hres
      by_cases c57_2 : z3_0 = (19 : Int32)
      · rw [if_pos c57_2] at hres
        refine G.lookup (pc := 57) (tgt := 188) dm_X8_attempt_57 (by decide) (by rw [c57_2] <;> rfl) (by decide) ?_
        refine G.aload_n (pc := 188) dm_X8_attempt_188 rfl ?_
        refine G.iload_n (pc := 189) dm_X8_attempt_189 rfl ?_
        obtain ⟨z6_0, z6_1, hz6⟩ := g_ex2 (f_X8_computeWithNumber (tstore (Int32.toNatClampNeg (taddr >>> ((2 : Int32) &&& 31)))) regs)
        refine G.callV (pc := 190) (rest := []) (st1 := [.ref z6_0]) (ws1 := (w_T tlow thigh tnum tstat taddr tready (taddr + (4 : Int32)) (cycle + (4 : Int32)) z6_1 tstore hcount haddr hcyc hret tims mwheel mwords)) [0, 1, 2, 3, 4, 5, 6, 7] dm_X8_attempt_190 gc_X8_attempt_100 (k_X8_computeWithNumber (word := (tstore (Int32.toNatClampNeg (taddr >>> ((2 : Int32) &&& 31))))) (tlow := tlow) (thigh := thigh) (tnum := tnum) (tstat := tstat) (taddr := taddr) (tready := tready) (tnext := (taddr + (4 : Int32))) (tret := (cycle + (4 : Int32))) (regs := regs) (tstore := tstore) (hcount := hcount) (haddr := haddr) (hcyc := hcyc) (hret := hret) (tims := tims) hz6) rfl rfl rfl rfl rfl rfl rfl rfl (g_rr (o_X8_computeWithNumber hz6) (by decide)) rfl ?_
        replace hres : (r_0, r_1, r_2, r_3, r_4, r_5, r_6, r_7) = f_X8_attempt_c190 cycle tstat taddr tstore tims mwords z6_0 z6_1 := hres.trans (by rw [← hz6])
        rw [f_X8_attempt_c190] at hres
        cases hres
        exact G.areturn (pc := 193) dm_X8_attempt_193 rfl (Or.inl ⟨_, rfl⟩) rfl rfl
      rw [if_neg c57_2] at hres
      by_cases c57_3 : z3_0 = (35 : Int32)
      · rw [if_pos c57_3] at hres
        refine G.lookup (pc := 57) (tgt := 180) dm_X8_attempt_57 (by decide) (by rw [c57_3] <;> rfl) (by decide) ?_
        refine G.aload_n (pc := 180) dm_X8_attempt_180 rfl ?_
        refine G.iload_n (pc := 181) dm_X8_attempt_181 rfl ?_
        refine G.iload_n (pc := 182) dm_X8_attempt_182 rfl ?_
        refine G.aload_n (pc := 183) dm_X8_attempt_183 rfl ?_
        obtain ⟨z7_0, z7_1, z7_2, z7_3, hz7⟩ := g_ex4 (f_X8_save (tstore (Int32.toNatClampNeg (taddr >>> ((2 : Int32) &&& 31)))) cycle tlow thigh tnum (cycle + (4 : Int32)) regs tstore mwheel mwords)
        refine G.callV0 (pc := 184) (rest := []) (st1 := [.ref z7_0]) dm_X8_attempt_184 gc_X8_attempt_97 (k_X8_save (word := (tstore (Int32.toNatClampNeg (taddr >>> ((2 : Int32) &&& 31))))) (cycle := cycle) (tlow := tlow) (thigh := thigh) (tnum := tnum) (tstat := tstat) (taddr := taddr) (tready := tready) (tnext := (taddr + (4 : Int32))) (tret := (cycle + (4 : Int32))) (regs := regs) (tstore := tstore) (hcount := hcount) (haddr := haddr) (hcyc := hcyc) (hret := hret) (tims := tims) (mwheel := mwheel) (mwords := mwords) (by assumption) (by assumption) hz7) rfl rfl rfl rfl rfl rfl rfl rfl ?_
        replace hres : (r_0, r_1, r_2, r_3, r_4, r_5, r_6, r_7) = f_X8_attempt_c184 tstat taddr regs tims z7_0 z7_1 z7_2 z7_3 := hres.trans (by rw [← hz7])
        rw [f_X8_attempt_c184] at hres
        cases hres
        exact G.areturn (pc := 187) dm_X8_attempt_187 rfl (Or.inl ⟨_, rfl⟩) rfl rfl
      rw [if_neg c57_3] at hres
      by_cases c57_4 : z3_0 = (51 : Int32)
      · rw [if_pos c57_4] at hres
        refine G.lookup (pc := 57) (tgt := 194) dm_X8_attempt_57 (by decide) (by rw [c57_4] <;> rfl) (by decide) ?_
        refine G.aload_n (pc := 194) dm_X8_attempt_194 rfl ?_
        refine G.iload_n (pc := 195) dm_X8_attempt_195 rfl ?_
        obtain ⟨z8_0, z8_1, hz8⟩ := g_ex2 (f_X8_computeWithRegister (tstore (Int32.toNatClampNeg (taddr >>> ((2 : Int32) &&& 31)))) regs)
        refine G.callV (pc := 196) (rest := []) (st1 := [.ref z8_0]) (ws1 := (w_T tlow thigh tnum tstat taddr tready (taddr + (4 : Int32)) (cycle + (4 : Int32)) z8_1 tstore hcount haddr hcyc hret tims mwheel mwords)) [0, 1, 2, 3, 4, 5, 6, 7] dm_X8_attempt_196 gc_X8_attempt_103 (k_X8_computeWithRegister (word := (tstore (Int32.toNatClampNeg (taddr >>> ((2 : Int32) &&& 31))))) (tlow := tlow) (thigh := thigh) (tnum := tnum) (tstat := tstat) (taddr := taddr) (tready := tready) (tnext := (taddr + (4 : Int32))) (tret := (cycle + (4 : Int32))) (regs := regs) (tstore := tstore) (hcount := hcount) (haddr := haddr) (hcyc := hcyc) (hret := hret) (tims := tims) hz8) rfl rfl rfl rfl rfl rfl rfl rfl (g_rr (o_X8_computeWithRegister hz8) (by decide)) rfl ?_
        replace hres : (r_0, r_1, r_2, r_3, r_4, r_5, r_6, r_7) = f_X8_attempt_c196 cycle tstat taddr tstore tims mwords z8_0 z8_1 := hres.trans (by rw [← hz8])
        rw [f_X8_attempt_c196] at hres
        cases hres
        exact G.areturn (pc := 199) dm_X8_attempt_199 rfl (Or.inl ⟨_, rfl⟩) rfl rfl
      rw [if_neg c57_4] at hres
      by_cases c57_5 : z3_0 = (55 : Int32)
      · rw [if_pos c57_5] at hres
        refine G.lookup (pc := 57) (tgt := 148) dm_X8_attempt_57 (by decide) (by rw [c57_5] <;> rfl) (by decide) ?_
        refine G.aload_n (pc := 148) dm_X8_attempt_148 rfl ?_
        refine G.iload_n (pc := 149) dm_X8_attempt_149 rfl ?_
        obtain ⟨z9_0, z9_1, hz9⟩ := g_ex2 (f_X8_loadUpper (tstore (Int32.toNatClampNeg (taddr >>> ((2 : Int32) &&& 31)))) regs)
        refine G.callV (pc := 150) (rest := []) (st1 := [.ref z9_0]) (ws1 := (w_T tlow thigh tnum tstat taddr tready (taddr + (4 : Int32)) (cycle + (4 : Int32)) z9_1 tstore hcount haddr hcyc hret tims mwheel mwords)) [0, 1, 2, 3, 4, 5, 6, 7] dm_X8_attempt_150 gc_X8_attempt_80 (k_X8_loadUpper (word := (tstore (Int32.toNatClampNeg (taddr >>> ((2 : Int32) &&& 31))))) (tlow := tlow) (thigh := thigh) (tnum := tnum) (tstat := tstat) (taddr := taddr) (tready := tready) (tnext := (taddr + (4 : Int32))) (tret := (cycle + (4 : Int32))) (regs := regs) (tstore := tstore) (hcount := hcount) (haddr := haddr) (hcyc := hcyc) (hret := hret) (tims := tims) hz9) rfl rfl rfl rfl rfl rfl rfl rfl (g_rr (o_X8_loadUpper hz9) (by decide)) rfl ?_
        replace hres : (r_0, r_1, r_2, r_3, r_4, r_5, r_6, r_7) = f_X8_attempt_c150 cycle tstat taddr tstore tims mwords z9_0 z9_1 := hres.trans (by rw [← hz9])
        rw [f_X8_attempt_c150] at hres
        cases hres
        exact G.areturn (pc := 153) dm_X8_attempt_153 rfl (Or.inl ⟨_, rfl⟩) rfl rfl
      rw [if_neg c57_5] at hres
      by_cases c57_6 : z3_0 = (99 : Int32)
      · rw [if_pos c57_6] at hres
        refine G.lookup (pc := 57) (tgt := 166) dm_X8_attempt_57 (by decide) (by rw [c57_6] <;> rfl) (by decide) ?_
        refine G.aload_n (pc := 166) dm_X8_attempt_166 rfl ?_
        refine G.iload_n (pc := 167) dm_X8_attempt_167 rfl ?_
        obtain ⟨z10_0, z10_1, hz10⟩ := g_ex2 (f_X8_branch (tstore (Int32.toNatClampNeg (taddr >>> ((2 : Int32) &&& 31)))) taddr (taddr + (4 : Int32)) regs)
        refine G.callV (pc := 168) (rest := []) (st1 := [.ref z10_0]) (ws1 := (w_T tlow thigh tnum tstat taddr tready z10_1 (cycle + (4 : Int32)) regs tstore hcount haddr hcyc hret tims mwheel mwords)) [0, 1, 2, 3, 4, 5, 6, 7] dm_X8_attempt_168 gc_X8_attempt_90 (k_X8_branch (word := (tstore (Int32.toNatClampNeg (taddr >>> ((2 : Int32) &&& 31))))) (tlow := tlow) (thigh := thigh) (tnum := tnum) (tstat := tstat) (taddr := taddr) (tready := tready) (tnext := (taddr + (4 : Int32))) (tret := (cycle + (4 : Int32))) (regs := regs) (tstore := tstore) (hcount := hcount) (haddr := haddr) (hcyc := hcyc) (hret := hret) (tims := tims) hz10) rfl rfl rfl rfl rfl rfl rfl rfl (g_rr (o_X8_branch hz10) (by decide)) rfl ?_
        replace hres : (r_0, r_1, r_2, r_3, r_4, r_5, r_6, r_7) = f_X8_attempt_c168 cycle tstat regs tstore tims mwords z10_0 z10_1 := hres.trans (by rw [← hz10])
        rw [f_X8_attempt_c168] at hres
        cases hres
        exact G.areturn (pc := 171) dm_X8_attempt_171 rfl (Or.inl ⟨_, rfl⟩) rfl rfl
      rw [if_neg c57_6] at hres
      by_cases c57_7 : z3_0 = (103 : Int32)
      · rw [if_pos c57_7] at hres
        refine G.lookup (pc := 57) (tgt := 160) dm_X8_attempt_57 (by decide) (by rw [c57_7] <;> rfl) (by decide) ?_
        refine G.aload_n (pc := 160) dm_X8_attempt_160 rfl ?_
        refine G.iload_n (pc := 161) dm_X8_attempt_161 rfl ?_
        obtain ⟨z11_0, z11_1, z11_2, hz11⟩ := g_ex3 (f_X8_jumpToRegister (tstore (Int32.toNatClampNeg (taddr >>> ((2 : Int32) &&& 31)))) (taddr + (4 : Int32)) regs)
        refine G.callV (pc := 162) (rest := []) (st1 := [.ref z11_0]) (ws1 := (w_T tlow thigh tnum tstat taddr tready z11_1 (cycle + (4 : Int32)) z11_2 tstore hcount haddr hcyc hret tims mwheel mwords)) [0, 1, 2, 3, 4, 5, 6, 7] dm_X8_attempt_162 gc_X8_attempt_87 (k_X8_jumpToRegister (word := (tstore (Int32.toNatClampNeg (taddr >>> ((2 : Int32) &&& 31))))) (tlow := tlow) (thigh := thigh) (tnum := tnum) (tstat := tstat) (taddr := taddr) (tready := tready) (tnext := (taddr + (4 : Int32))) (tret := (cycle + (4 : Int32))) (regs := regs) (tstore := tstore) (hcount := hcount) (haddr := haddr) (hcyc := hcyc) (hret := hret) (tims := tims) hz11) rfl rfl rfl rfl rfl rfl rfl rfl (g_rr (o_X8_jumpToRegister hz11) (by decide)) rfl ?_
        replace hres : (r_0, r_1, r_2, r_3, r_4, r_5, r_6, r_7) = f_X8_attempt_c162 cycle tstat tstore tims mwords z11_0 z11_1 z11_2 := hres.trans (by rw [← hz11])
        rw [f_X8_attempt_c162] at hres
        cases hres
        exact G.areturn (pc := 165) dm_X8_attempt_165 rfl (Or.inl ⟨_, rfl⟩) rfl rfl
      rw [if_neg c57_7] at hres
      by_cases c57_8 : z3_0 = (111 : Int32)
      · rw [if_pos c57_8] at hres
        refine G.lookup (pc := 57) (tgt := 154) dm_X8_attempt_57 (by decide) (by rw [c57_8] <;> rfl) (by decide) ?_
        refine G.aload_n (pc := 154) dm_X8_attempt_154 rfl ?_
        refine G.iload_n (pc := 155) dm_X8_attempt_155 rfl ?_
        obtain ⟨z12_0, z12_1, z12_2, hz12⟩ := g_ex3 (f_X8_jump (tstore (Int32.toNatClampNeg (taddr >>> ((2 : Int32) &&& 31)))) taddr (taddr + (4 : Int32)) regs)
        refine G.callV (pc := 156) (rest := []) (st1 := [.ref z12_0]) (ws1 := (w_T tlow thigh tnum tstat taddr tready z12_1 (cycle + (4 : Int32)) z12_2 tstore hcount haddr hcyc hret tims mwheel mwords)) [0, 1, 2, 3, 4, 5, 6, 7] dm_X8_attempt_156 gc_X8_attempt_84 (k_X8_jump (word := (tstore (Int32.toNatClampNeg (taddr >>> ((2 : Int32) &&& 31))))) (tlow := tlow) (thigh := thigh) (tnum := tnum) (tstat := tstat) (taddr := taddr) (tready := tready) (tnext := (taddr + (4 : Int32))) (tret := (cycle + (4 : Int32))) (regs := regs) (tstore := tstore) (hcount := hcount) (haddr := haddr) (hcyc := hcyc) (hret := hret) (tims := tims) hz12) rfl rfl rfl rfl rfl rfl rfl rfl (g_rr (o_X8_jump hz12) (by decide)) rfl ?_
        replace hres : (r_0, r_1, r_2, r_3, r_4, r_5, r_6, r_7) = f_X8_attempt_c156 cycle tstat tstore tims mwords z12_0 z12_1 z12_2 := hres.trans (by rw [← hz12])
        rw [f_X8_attempt_c156] at hres
        cases hres
        exact G.areturn (pc := 159) dm_X8_attempt_159 rfl (Or.inl ⟨_, rfl⟩) rfl rfl
      rw [if_neg c57_8] at hres
      by_cases c57_9 : z3_0 = (115 : Int32)
      · rw [if_pos c57_9] at hres
        refine G.lookup (pc := 57) (tgt := 207) dm_X8_attempt_57 (by decide) (by rw [c57_9] <;> rfl) (by decide) ?_
        refine G.aload_n (pc := 207) dm_X8_attempt_207 rfl ?_
        refine G.iload_n (pc := 208) dm_X8_attempt_208 rfl ?_
        obtain ⟨z13_0, z13_1, hz13⟩ := g_ex2 (f_X8_halt (tstore (Int32.toNatClampNeg (taddr >>> ((2 : Int32) &&& 31)))) tstat)
        refine G.callV (pc := 209) (rest := []) (st1 := [.ref z13_0]) (ws1 := (w_T tlow thigh tnum z13_1 taddr tready (taddr + (4 : Int32)) (cycle + (4 : Int32)) regs tstore hcount haddr hcyc hret tims mwheel mwords)) [0, 1, 2, 3, 4, 5, 6, 7] dm_X8_attempt_209 gc_X8_attempt_110 (k_X8_halt (word := (tstore (Int32.toNatClampNeg (taddr >>> ((2 : Int32) &&& 31))))) (tlow := tlow) (thigh := thigh) (tnum := tnum) (tstat := tstat) (taddr := taddr) (tready := tready) (tnext := (taddr + (4 : Int32))) (tret := (cycle + (4 : Int32))) (regs := regs) (tstore := tstore) (hcount := hcount) (haddr := haddr) (hcyc := hcyc) (hret := hret) (tims := tims) hz13) rfl rfl rfl rfl rfl rfl rfl rfl (g_rr (o_X8_halt hz13) (by decide)) rfl ?_
        replace hres : (r_0, r_1, r_2, r_3, r_4, r_5, r_6, r_7) = f_X8_attempt_c209 cycle taddr regs tstore tims mwords z13_0 z13_1 := hres.trans (by rw [← hz13])
        rw [f_X8_attempt_c209] at hres
        cases hres
        exact G.areturn (pc := 212) dm_X8_attempt_212 rfl (Or.inl ⟨_, rfl⟩) rfl rfl
      rw [if_neg c57_9] at hres
      refine G.lookup (pc := 57) (tgt := 213) dm_X8_attempt_57 (by decide) (g_lkmiss (by simp only [List.all_cons, List.all_nil, Bool.and_true, Bool.and_eq_true, decide_eq_true_eq]; exact ⟨g_toInt_ne c57_0 (by decide), g_toInt_ne c57_1 (by decide), g_toInt_ne c57_2 (by decide), g_toInt_ne c57_3 (by decide), g_toInt_ne c57_4 (by decide), g_toInt_ne c57_5 (by decide), g_toInt_ne c57_6 (by decide), g_toInt_ne c57_7 (by decide), g_toInt_ne c57_8 (by decide), g_toInt_ne c57_9 (by decide)⟩)) (by decide) ?_
      refine G.getstatic (pc := 213) dm_X8_attempt_213 (Or.inl ⟨2, by decide, rfl⟩) tw613 ?_
      cases hres
      exact G.areturn (pc := 216) dm_X8_attempt_216 rfl (Or.inl ⟨_, rfl⟩) rfl rfl
    · rw [if_pos c17] at hres
      refine G.getstatic (pc := 20) dm_X8_attempt_20 (Or.inl ⟨2, by decide, rfl⟩) tw613 ?_
      cases hres
      exact G.areturn (pc := 23) dm_X8_attempt_23 rfl (Or.inl ⟨_, rfl⟩) rfl rfl
theorem o_X8_attempt {cycle : Int32} {tlow : Int32} {thigh : Int32} {tnum : Int32} {tstat : Int32} {taddr : Int32} {tnext : Int32} {tret : Int32} {regs : Nat → Int32} {tstore : Nat → Int32} {tims : Nat → Int32} {mwheel : Int32} {mwords : Nat → Int32} {r_0 : Nat} {r_1 : Int32} {r_2 : Int32} {r_3 : Int32} {r_4 : (Nat → Int32)} {r_5 : (Nat → Int32)} {r_6 : (Nat → Int32)} {r_7 : (Nat → Int32)} (hres : (r_0, r_1, r_2, r_3, r_4, r_5, r_6, r_7) = f_X8_attempt cycle tlow thigh tnum tstat taddr tnext tret regs tstore tims mwheel mwords) : 1000 ≤ r_0 ∧ r_0 < 1003 := by
  rw [f_X8_attempt] at hres
  obtain ⟨z1_0, hz1⟩ := g_ex1 (f_X8_isInStore taddr)
  replace hres : (r_0, r_1, r_2, r_3, r_4, r_5, r_6, r_7) = f_X8_attempt_c4 cycle tlow thigh tnum tstat taddr tnext tret regs tstore tims mwheel mwords z1_0 := hres.trans (by rw [← hz1])
  rw [f_X8_attempt_c4] at hres
  by_cases c7 : z1_0 = 0
  · rw [if_pos c7] at hres
    cases hres
    exact (by first | exact hoz | decide)
  · rw [if_neg c7] at hres
    obtain ⟨z2_0, hz2⟩ := g_ex1 (f_X8_isAligned taddr)
    replace hres : (r_0, r_1, r_2, r_3, r_4, r_5, r_6, r_7) = f_X8_attempt_c14 cycle tlow thigh tnum tstat taddr tnext tret regs tstore tims mwheel mwords z2_0 := hres.trans (by rw [← hz2])
    rw [f_X8_attempt_c14] at hres
    by_cases c17 : z2_0 = 0
    · rw [if_pos c17] at hres
      cases hres
      exact (by first | exact hoz | decide)
    · rw [if_neg c17] at hres
      obtain ⟨z3_0, hz3⟩ := g_ex1 (f_X1_op (tstore (Int32.toNatClampNeg (taddr >>> ((2 : Int32) &&& 31)))))
      replace hres : (r_0, r_1, r_2, r_3, r_4, r_5, r_6, r_7) = f_X8_attempt_c54 cycle tlow thigh tnum tstat taddr regs tstore tims mwheel mwords z3_0 := hres.trans (by rw [← hz3])
      rw [f_X8_attempt_c54] at hres
      by_cases c57_0 : z3_0 = (3 : Int32)
      · rw [if_pos c57_0] at hres
        obtain ⟨z4_0, z4_1, z4_2, hz4⟩ := g_ex3 (f_X8_load (tstore (Int32.toNatClampNeg (taddr >>> ((2 : Int32) &&& 31)))) cycle tlow thigh tnum (cycle + (4 : Int32)) regs tstore mwheel mwords)
        have hoz := o_X8_load hz4
        replace hres : (r_0, r_1, r_2, r_3, r_4, r_5, r_6, r_7) = f_X8_attempt_c176 tstat taddr tstore tims mwords z4_0 z4_1 z4_2 := hres.trans (by rw [← hz4])
        rw [f_X8_attempt_c176] at hres
        cases hres
        exact (by first | exact hoz | decide)
      rw [if_neg c57_0] at hres
      by_cases c57_1 : z3_0 = (11 : Int32)
      · rw [if_pos c57_1] at hres
        obtain ⟨z5_0, z5_1, z5_2, hz5⟩ := g_ex3 (f_X8_timed (tstore (Int32.toNatClampNeg (taddr >>> ((2 : Int32) &&& 31)))) cycle regs tims)
        have hoz := o_X8_timed hz5
        replace hres : (r_0, r_1, r_2, r_3, r_4, r_5, r_6, r_7) = f_X8_attempt_c203 cycle tstat taddr tstore mwords z5_0 z5_1 z5_2 := hres.trans (by rw [← hz5])
        rw [f_X8_attempt_c203] at hres
        cases hres
        exact (by first | exact hoz | decide)
      rw [if_neg c57_1] at hres
      by_cases c57_2 : z3_0 = (19 : Int32)
      · rw [if_pos c57_2] at hres
        obtain ⟨z6_0, z6_1, hz6⟩ := g_ex2 (f_X8_computeWithNumber (tstore (Int32.toNatClampNeg (taddr >>> ((2 : Int32) &&& 31)))) regs)
        have hoz := o_X8_computeWithNumber hz6
        replace hres : (r_0, r_1, r_2, r_3, r_4, r_5, r_6, r_7) = f_X8_attempt_c190 cycle tstat taddr tstore tims mwords z6_0 z6_1 := hres.trans (by rw [← hz6])
        rw [f_X8_attempt_c190] at hres
        cases hres
        exact (by first | exact hoz | decide)
      rw [if_neg c57_2] at hres
      by_cases c57_3 : z3_0 = (35 : Int32)
      · rw [if_pos c57_3] at hres
        obtain ⟨z7_0, z7_1, z7_2, z7_3, hz7⟩ := g_ex4 (f_X8_save (tstore (Int32.toNatClampNeg (taddr >>> ((2 : Int32) &&& 31)))) cycle tlow thigh tnum (cycle + (4 : Int32)) regs tstore mwheel mwords)
        have hoz := o_X8_save hz7
        replace hres : (r_0, r_1, r_2, r_3, r_4, r_5, r_6, r_7) = f_X8_attempt_c184 tstat taddr regs tims z7_0 z7_1 z7_2 z7_3 := hres.trans (by rw [← hz7])
        rw [f_X8_attempt_c184] at hres
        cases hres
        exact (by first | exact hoz | decide)
      rw [if_neg c57_3] at hres
      by_cases c57_4 : z3_0 = (51 : Int32)
      · rw [if_pos c57_4] at hres
        obtain ⟨z8_0, z8_1, hz8⟩ := g_ex2 (f_X8_computeWithRegister (tstore (Int32.toNatClampNeg (taddr >>> ((2 : Int32) &&& 31)))) regs)
        have hoz := o_X8_computeWithRegister hz8
        replace hres : (r_0, r_1, r_2, r_3, r_4, r_5, r_6, r_7) = f_X8_attempt_c196 cycle tstat taddr tstore tims mwords z8_0 z8_1 := hres.trans (by rw [← hz8])
        rw [f_X8_attempt_c196] at hres
        cases hres
        exact (by first | exact hoz | decide)
      rw [if_neg c57_4] at hres
      by_cases c57_5 : z3_0 = (55 : Int32)
      · rw [if_pos c57_5] at hres
        obtain ⟨z9_0, z9_1, hz9⟩ := g_ex2 (f_X8_loadUpper (tstore (Int32.toNatClampNeg (taddr >>> ((2 : Int32) &&& 31)))) regs)
        have hoz := o_X8_loadUpper hz9
        replace hres : (r_0, r_1, r_2, r_3, r_4, r_5, r_6, r_7) = f_X8_attempt_c150 cycle tstat taddr tstore tims mwords z9_0 z9_1 := hres.trans (by rw [← hz9])
        rw [f_X8_attempt_c150] at hres
        cases hres
        exact (by first | exact hoz | decide)
      rw [if_neg c57_5] at hres
      by_cases c57_6 : z3_0 = (99 : Int32)
      · rw [if_pos c57_6] at hres
        obtain ⟨z10_0, z10_1, hz10⟩ := g_ex2 (f_X8_branch (tstore (Int32.toNatClampNeg (taddr >>> ((2 : Int32) &&& 31)))) taddr (taddr + (4 : Int32)) regs)
        have hoz := o_X8_branch hz10
        replace hres : (r_0, r_1, r_2, r_3, r_4, r_5, r_6, r_7) = f_X8_attempt_c168 cycle tstat regs tstore tims mwords z10_0 z10_1 := hres.trans (by rw [← hz10])
        rw [f_X8_attempt_c168] at hres
        cases hres
        exact (by first | exact hoz | decide)
      rw [if_neg c57_6] at hres
      by_cases c57_7 : z3_0 = (103 : Int32)
      · rw [if_pos c57_7] at hres
        obtain ⟨z11_0, z11_1, z11_2, hz11⟩ := g_ex3 (f_X8_jumpToRegister (tstore (Int32.toNatClampNeg (taddr >>> ((2 : Int32) &&& 31)))) (taddr + (4 : Int32)) regs)
        have hoz := o_X8_jumpToRegister hz11
        replace hres : (r_0, r_1, r_2, r_3, r_4, r_5, r_6, r_7) = f_X8_attempt_c162 cycle tstat tstore tims mwords z11_0 z11_1 z11_2 := hres.trans (by rw [← hz11])
        rw [f_X8_attempt_c162] at hres
        cases hres
        exact (by first | exact hoz | decide)
      rw [if_neg c57_7] at hres
      by_cases c57_8 : z3_0 = (111 : Int32)
      · rw [if_pos c57_8] at hres
        obtain ⟨z12_0, z12_1, z12_2, hz12⟩ := g_ex3 (f_X8_jump (tstore (Int32.toNatClampNeg (taddr >>> ((2 : Int32) &&& 31)))) taddr (taddr + (4 : Int32)) regs)
        have hoz := o_X8_jump hz12
        replace hres : (r_0, r_1, r_2, r_3, r_4, r_5, r_6, r_7) = f_X8_attempt_c156 cycle tstat tstore tims mwords z12_0 z12_1 z12_2 := hres.trans (by rw [← hz12])
        rw [f_X8_attempt_c156] at hres
        cases hres
        exact (by first | exact hoz | decide)
      rw [if_neg c57_8] at hres
      by_cases c57_9 : z3_0 = (115 : Int32)
      · rw [if_pos c57_9] at hres
        obtain ⟨z13_0, z13_1, hz13⟩ := g_ex2 (f_X8_halt (tstore (Int32.toNatClampNeg (taddr >>> ((2 : Int32) &&& 31)))) tstat)
        have hoz := o_X8_halt hz13
        replace hres : (r_0, r_1, r_2, r_3, r_4, r_5, r_6, r_7) = f_X8_attempt_c209 cycle taddr regs tstore tims mwords z13_0 z13_1 := hres.trans (by rw [← hz13])
        rw [f_X8_attempt_c209] at hres
        cases hres
        exact (by first | exact hoz | decide)
      rw [if_neg c57_9] at hres
      cases hres
      exact (by first | exact hoz | decide)
abbrev M_X8_takeTurn : g_M := (cX8_takeTurn, 4, RX8, (some .boolean), { frames := 5, cells := 0, slots := 0, locals := 123 }, 0, 0)
theorem dm_X8_takeTurn_0 : decode M_X8_takeTurn.1 0 = .ok (.aload_n 0, 1) := by decide +kernel
theorem dm_X8_takeTurn_1 : decode M_X8_takeTurn.1 1 = .ok (.getfield 28, 3) := by decide +kernel
theorem dm_X8_takeTurn_4 : decode M_X8_takeTurn.1 4 = .ok (.iconst 1, 1) := by decide +kernel
theorem dm_X8_takeTurn_5 : decode M_X8_takeTurn.1 5 = .ok (.if_icmp .ne 11, 3) := by decide +kernel
theorem dm_X8_takeTurn_8 : decode M_X8_takeTurn.1 8 = .ok (.iload_n 1, 1) := by decide +kernel
theorem dm_X8_takeTurn_9 : decode M_X8_takeTurn.1 9 = .ok (.aload_n 0, 1) := by decide +kernel
theorem dm_X8_takeTurn_10 : decode M_X8_takeTurn.1 10 = .ok (.getfield 38, 3) := by decide +kernel
theorem dm_X8_takeTurn_13 : decode M_X8_takeTurn.1 13 = .ok (.if_icmp .ge 5, 3) := by decide +kernel
theorem dm_X8_takeTurn_16 : decode M_X8_takeTurn.1 16 = .ok (.iconst 0, 1) := by decide +kernel
theorem dm_X8_takeTurn_17 : decode M_X8_takeTurn.1 17 = .ok (.ireturn, 1) := by decide +kernel
theorem dm_X8_takeTurn_18 : decode M_X8_takeTurn.1 18 = .ok (.aload_n 0, 1) := by decide +kernel
theorem dm_X8_takeTurn_19 : decode M_X8_takeTurn.1 19 = .ok (.iload_n 1, 1) := by decide +kernel
theorem dm_X8_takeTurn_20 : decode M_X8_takeTurn.1 20 = .ok (.aload_n 2, 1) := by decide +kernel
theorem dm_X8_takeTurn_21 : decode M_X8_takeTurn.1 21 = .ok (.invokevirtual 44, 3) := by decide +kernel
theorem dm_X8_takeTurn_24 : decode M_X8_takeTurn.1 24 = .ok (.astore_n 3, 1) := by decide +kernel
theorem dm_X8_takeTurn_25 : decode M_X8_takeTurn.1 25 = .ok (.aload_n 3, 1) := by decide +kernel
theorem dm_X8_takeTurn_26 : decode M_X8_takeTurn.1 26 = .ok (.getstatic 48, 3) := by decide +kernel
theorem dm_X8_takeTurn_29 : decode M_X8_takeTurn.1 29 = .ok (.if_acmp .ne 8, 3) := by decide +kernel
theorem dm_X8_takeTurn_32 : decode M_X8_takeTurn.1 32 = .ok (.aload_n 0, 1) := by decide +kernel
theorem dm_X8_takeTurn_33 : decode M_X8_takeTurn.1 33 = .ok (.iconst 3, 1) := by decide +kernel
theorem dm_X8_takeTurn_34 : decode M_X8_takeTurn.1 34 = .ok (.putfield 28, 3) := by decide +kernel
theorem dm_X8_takeTurn_37 : decode M_X8_takeTurn.1 37 = .ok (.aload_n 3, 1) := by decide +kernel
theorem dm_X8_takeTurn_38 : decode M_X8_takeTurn.1 38 = .ok (.getstatic 54, 3) := by decide +kernel
theorem dm_X8_takeTurn_41 : decode M_X8_takeTurn.1 41 = .ok (.if_acmp .eq 5, 3) := by decide +kernel
theorem dm_X8_takeTurn_44 : decode M_X8_takeTurn.1 44 = .ok (.iconst 0, 1) := by decide +kernel
theorem dm_X8_takeTurn_45 : decode M_X8_takeTurn.1 45 = .ok (.ireturn, 1) := by decide +kernel
theorem dm_X8_takeTurn_46 : decode M_X8_takeTurn.1 46 = .ok (.aload_n 0, 1) := by decide +kernel
theorem dm_X8_takeTurn_47 : decode M_X8_takeTurn.1 47 = .ok (.getfield 21, 3) := by decide +kernel
theorem dm_X8_takeTurn_50 : decode M_X8_takeTurn.1 50 = .ok (.aload_n 0, 1) := by decide +kernel
theorem dm_X8_takeTurn_51 : decode M_X8_takeTurn.1 51 = .ok (.getfield 35, 3) := by decide +kernel
theorem dm_X8_takeTurn_54 : decode M_X8_takeTurn.1 54 = .ok (.iload_n 1, 1) := by decide +kernel
theorem dm_X8_takeTurn_55 : decode M_X8_takeTurn.1 55 = .ok (.aload_n 0, 1) := by decide +kernel
theorem dm_X8_takeTurn_56 : decode M_X8_takeTurn.1 56 = .ok (.getfield 57, 3) := by decide +kernel
theorem dm_X8_takeTurn_59 : decode M_X8_takeTurn.1 59 = .ok (.invokevirtual 60, 3) := by decide +kernel
theorem dm_X8_takeTurn_62 : decode M_X8_takeTurn.1 62 = .ok (.aload_n 0, 1) := by decide +kernel
theorem dm_X8_takeTurn_63 : decode M_X8_takeTurn.1 63 = .ok (.aload_n 0, 1) := by decide +kernel
theorem dm_X8_takeTurn_64 : decode M_X8_takeTurn.1 64 = .ok (.getfield 64, 3) := by decide +kernel
theorem dm_X8_takeTurn_67 : decode M_X8_takeTurn.1 67 = .ok (.putfield 35, 3) := by decide +kernel
theorem dm_X8_takeTurn_70 : decode M_X8_takeTurn.1 70 = .ok (.aload_n 0, 1) := by decide +kernel
theorem dm_X8_takeTurn_71 : decode M_X8_takeTurn.1 71 = .ok (.aload_n 0, 1) := by decide +kernel
theorem dm_X8_takeTurn_72 : decode M_X8_takeTurn.1 72 = .ok (.getfield 57, 3) := by decide +kernel
theorem dm_X8_takeTurn_75 : decode M_X8_takeTurn.1 75 = .ok (.putfield 38, 3) := by decide +kernel
theorem dm_X8_takeTurn_78 : decode M_X8_takeTurn.1 78 = .ok (.iconst 1, 1) := by decide +kernel
theorem dm_X8_takeTurn_79 : decode M_X8_takeTurn.1 79 = .ok (.ireturn, 1) := by decide +kernel
theorem gc_X8_takeTurn_44 : g_cv M_X8_takeTurn 44 M_X8_attempt yX8_attempt 2 := ⟨tw617, tw618, tw619, tw32, tw620, ⟨rfl, rfl, rfl, rfl⟩, gd_X8_attempt, ⟨by decide, by decide⟩⟩
theorem gc_X8_takeTurn_60 : g_cv M_X8_takeTurn 60 M_X2_add yX2_add 3 := ⟨tw753, tw754, tw755, tw56, tw756, ⟨rfl, rfl, rfl, rfl⟩, gd_X2_add, ⟨by decide, by decide⟩⟩
def f_X8_takeTurn_c59 (tstat : Int32) (tnext : Int32) (tret : Int32) (regs : Nat → Int32) (tstore : Nat → Int32) (tims : Nat → Int32) (mwords : Nat → Int32) (z2_0 : Int32) (z2_1 : (Nat → Int32)) (z2_2 : (Nat → Int32)) (z2_3 : (Nat → Int32)) : Int32 × Int32 × Int32 × Int32 × Int32 × Int32 × (Nat → Int32) × (Nat → Int32) × Int32 × (Nat → Int32) × (Nat → Int32) × (Nat → Int32) × (Nat → Int32) × (Nat → Int32) := ((1 : Int32), tstat, tnext, tret, tnext, tret, regs, tstore, z2_0, z2_1, z2_2, z2_3, tims, mwords)
def f_X8_takeTurn_37 (tstat : Int32) (taddr : Int32) (tready : Int32) (tnext : Int32) (tret : Int32) (regs : Nat → Int32) (tstore : Nat → Int32) (hcount : Int32) (haddr : Nat → Int32) (hcyc : Nat → Int32) (hret : Nat → Int32) (tims : Nat → Int32) (mwords : Nat → Int32) (l1 : Int32) (l3 : Nat) : Int32 × Int32 × Int32 × Int32 × Int32 × Int32 × (Nat → Int32) × (Nat → Int32) × Int32 × (Nat → Int32) × (Nat → Int32) × (Nat → Int32) × (Nat → Int32) × (Nat → Int32) := (if l3 = 1000 then (f_X8_takeTurn_c59 tstat tnext tret regs tstore tims mwords (f_X2_add taddr l1 tret hcount haddr hcyc hret).1 (f_X2_add taddr l1 tret hcount haddr hcyc hret).2.1 (f_X2_add taddr l1 tret hcount haddr hcyc hret).2.2.1 (f_X2_add taddr l1 tret hcount haddr hcyc hret).2.2.2) else ((0 : Int32), tstat, taddr, tready, tnext, tret, regs, tstore, hcount, haddr, hcyc, hret, tims, mwords))
set_option maxRecDepth 20000 in
theorem j_X8_takeTurn_37 {l1 : Int32} {l3 : Nat} {tlow : Int32} {thigh : Int32} {tnum : Int32} {tstat : Int32} {taddr : Int32} {tready : Int32} {tnext : Int32} {tret : Int32} {regs : Nat → Int32} {tstore : Nat → Int32} {hcount : Int32} {haddr : Nat → Int32} {hcyc : Nat → Int32} {hret : Nat → Int32} {tims : Nat → Int32} {mwheel : Int32} {mwords : Nat → Int32} {r_0 : Int32} {r_1 : Int32} {r_2 : Int32} {r_3 : Int32} {r_4 : Int32} {r_5 : Int32} {r_6 : (Nat → Int32)} {r_7 : (Nat → Int32)} {r_8 : Int32} {r_9 : (Nat → Int32)} {r_10 : (Nat → Int32)} {r_11 : (Nat → Int32)} {r_12 : (Nat → Int32)} {r_13 : (Nat → Int32)} (hres : (r_0, r_1, r_2, r_3, r_4, r_5, r_6, r_7, r_8, r_9, r_10, r_11, r_12, r_13) = (f_X8_takeTurn_37 tstat taddr tready tnext tret regs tstore hcount haddr hcyc hret tims mwords l1 l3)) (h3 : 1000 ≤ l3 ∧ l3 < 1003) : G M_X8_takeTurn 0 0 37 [(0, .ref 0), (1, .int l1), (3, .ref l3)] [] (w_T tlow thigh tnum tstat taddr tready tnext tret regs tstore hcount haddr hcyc hret tims mwheel mwords) (some (.int r_0)) (w_T tlow thigh tnum r_1 r_2 r_3 r_4 r_5 r_6 r_7 r_8 r_9 r_10 r_11 r_12 mwheel r_13) := by
  rw [f_X8_takeTurn_37] at hres
  refine G.aload_n (pc := 37) dm_X8_takeTurn_37 rfl ?_
  refine G.getstatic (pc := 38) dm_X8_takeTurn_38 (Or.inl ⟨0, by decide, rfl⟩) tw614 ?_
  refine G.acmp_eq (pc := 41) (tgt := 46) dm_X8_takeTurn_41 h3 (by decide) (by decide) (fun c41 => ?_) (fun c41 => ?_)
  · rw [if_pos c41] at hres
    refine G.aload_n (pc := 46) dm_X8_takeTurn_46 rfl ?_
    refine G.getfield (pc := 47) dm_X8_takeTurn_47 gf_X8_21 rfl rfl ?_
    refine G.aload_n (pc := 50) dm_X8_takeTurn_50 rfl ?_
    refine G.getfield (pc := 51) dm_X8_takeTurn_51 gf_X8_35 rfl rfl ?_
    refine G.iload_n (pc := 54) dm_X8_takeTurn_54 rfl ?_
    refine G.aload_n (pc := 55) dm_X8_takeTurn_55 rfl ?_
    refine G.getfield (pc := 56) dm_X8_takeTurn_56 gf_X8_57 rfl rfl ?_
    obtain ⟨z2_0, z2_1, z2_2, z2_3, hz2⟩ := g_ex4 (f_X2_add taddr l1 tret hcount haddr hcyc hret)
    refine G.callV (pc := 59) (rest := []) (st1 := []) (ws1 := (w_T tlow thigh tnum tstat taddr tready tnext tret regs tstore z2_0 z2_1 z2_2 z2_3 tims mwheel mwords)) [3, 4, 5, 6] dm_X8_takeTurn_59 gc_X8_takeTurn_60 (k_X2_add (address := taddr) (cycle := l1) (retirement := tret) (hcount := hcount) (haddr := haddr) (hcyc := hcyc) (hret := hret) hz2) rfl rfl rfl rfl rfl rfl rfl rfl rfl rfl ?_
    replace hres : (r_0, r_1, r_2, r_3, r_4, r_5, r_6, r_7, r_8, r_9, r_10, r_11, r_12, r_13) = f_X8_takeTurn_c59 tstat tnext tret regs tstore tims mwords z2_0 z2_1 z2_2 z2_3 := hres.trans (by rw [← hz2])
    rw [f_X8_takeTurn_c59] at hres
    refine G.aload_n (pc := 62) dm_X8_takeTurn_62 rfl ?_
    refine G.aload_n (pc := 63) dm_X8_takeTurn_63 rfl ?_
    refine G.getfield (pc := 64) dm_X8_takeTurn_64 gf_X8_64 rfl rfl ?_
    refine G.putfield (pc := 67) (ws1 := (w_T tlow thigh tnum tstat tnext tready tnext tret regs tstore z2_0 z2_1 z2_2 z2_3 tims mwheel mwords)) dm_X8_takeTurn_67 gw_X8_35 rfl (g_fit_i _) rfl rfl ?_
    refine G.aload_n (pc := 70) dm_X8_takeTurn_70 rfl ?_
    refine G.aload_n (pc := 71) dm_X8_takeTurn_71 rfl ?_
    refine G.getfield (pc := 72) dm_X8_takeTurn_72 gf_X8_57 rfl rfl ?_
    refine G.putfield (pc := 75) (ws1 := (w_T tlow thigh tnum tstat tnext tret tnext tret regs tstore z2_0 z2_1 z2_2 z2_3 tims mwheel mwords)) dm_X8_takeTurn_75 gw_X8_38 rfl (g_fit_i _) rfl rfl ?_
    refine G.iconst (pc := 78) (v := (1 : Int32)) dm_X8_takeTurn_78 qi_1 ?_
    cases hres
    exact G.zreturn (pc := 79) dm_X8_takeTurn_79 rfl (by decide) rfl rfl
  · rw [if_neg c41] at hres
    refine G.iconst (pc := 44) (v := (0 : Int32)) dm_X8_takeTurn_44 qi_0 ?_
    cases hres
    exact G.zreturn (pc := 45) dm_X8_takeTurn_45 rfl (by decide) rfl rfl
def f_X8_takeTurn_c21 (cycle : Int32) (taddr : Int32) (tready : Int32) (hcount : Int32) (haddr : Nat → Int32) (hcyc : Nat → Int32) (hret : Nat → Int32) (z1_0 : Nat) (z1_1 : Int32) (z1_2 : Int32) (z1_3 : Int32) (z1_4 : (Nat → Int32)) (z1_5 : (Nat → Int32)) (z1_6 : (Nat → Int32)) (z1_7 : (Nat → Int32)) : Int32 × Int32 × Int32 × Int32 × Int32 × Int32 × (Nat → Int32) × (Nat → Int32) × Int32 × (Nat → Int32) × (Nat → Int32) × (Nat → Int32) × (Nat → Int32) × (Nat → Int32) := (if z1_0 = 1002 then (f_X8_takeTurn_37 (3 : Int32) taddr tready z1_2 z1_3 z1_4 z1_5 hcount haddr hcyc hret z1_6 z1_7 cycle z1_0) else (f_X8_takeTurn_37 z1_1 taddr tready z1_2 z1_3 z1_4 z1_5 hcount haddr hcyc hret z1_6 z1_7 cycle z1_0))
def f_X8_takeTurn (cycle : Int32) (tlow : Int32) (thigh : Int32) (tnum : Int32) (tstat : Int32) (taddr : Int32) (tready : Int32) (tnext : Int32) (tret : Int32) (regs : Nat → Int32) (tstore : Nat → Int32) (hcount : Int32) (haddr : Nat → Int32) (hcyc : Nat → Int32) (hret : Nat → Int32) (tims : Nat → Int32) (mwheel : Int32) (mwords : Nat → Int32) : Int32 × Int32 × Int32 × Int32 × Int32 × Int32 × (Nat → Int32) × (Nat → Int32) × Int32 × (Nat → Int32) × (Nat → Int32) × (Nat → Int32) × (Nat → Int32) × (Nat → Int32) := (if tstat = (1 : Int32) then (if tready ≤ cycle then (f_X8_takeTurn_c21 cycle taddr tready hcount haddr hcyc hret (f_X8_attempt cycle tlow thigh tnum tstat taddr tnext tret regs tstore tims mwheel mwords).1 (f_X8_attempt cycle tlow thigh tnum tstat taddr tnext tret regs tstore tims mwheel mwords).2.1 (f_X8_attempt cycle tlow thigh tnum tstat taddr tnext tret regs tstore tims mwheel mwords).2.2.1 (f_X8_attempt cycle tlow thigh tnum tstat taddr tnext tret regs tstore tims mwheel mwords).2.2.2.1 (f_X8_attempt cycle tlow thigh tnum tstat taddr tnext tret regs tstore tims mwheel mwords).2.2.2.2.1 (f_X8_attempt cycle tlow thigh tnum tstat taddr tnext tret regs tstore tims mwheel mwords).2.2.2.2.2.1 (f_X8_attempt cycle tlow thigh tnum tstat taddr tnext tret regs tstore tims mwheel mwords).2.2.2.2.2.2.1 (f_X8_attempt cycle tlow thigh tnum tstat taddr tnext tret regs tstore tims mwheel mwords).2.2.2.2.2.2.2) else ((0 : Int32), tstat, taddr, tready, tnext, tret, regs, tstore, hcount, haddr, hcyc, hret, tims, mwords)) else ((0 : Int32), tstat, taddr, tready, tnext, tret, regs, tstore, hcount, haddr, hcyc, hret, tims, mwords))
set_option maxRecDepth 20000 in
theorem k_X8_takeTurn {cycle : Int32} {tlow : Int32} {thigh : Int32} {tnum : Int32} {tstat : Int32} {taddr : Int32} {tready : Int32} {tnext : Int32} {tret : Int32} {regs : Nat → Int32} {tstore : Nat → Int32} {hcount : Int32} {haddr : Nat → Int32} {hcyc : Nat → Int32} {hret : Nat → Int32} {tims : Nat → Int32} {mwheel : Int32} {mwords : Nat → Int32} (hlt : 0 ≤ tlow.toInt ∧ tlow.toInt ≤ thigh.toInt ∧ thigh.toInt ≤ 64) (hwh : 1 ≤ mwheel.toInt ∧ mwheel.toInt ≤ 8) {r_0 : Int32} {r_1 : Int32} {r_2 : Int32} {r_3 : Int32} {r_4 : Int32} {r_5 : Int32} {r_6 : (Nat → Int32)} {r_7 : (Nat → Int32)} {r_8 : Int32} {r_9 : (Nat → Int32)} {r_10 : (Nat → Int32)} {r_11 : (Nat → Int32)} {r_12 : (Nat → Int32)} {r_13 : (Nat → Int32)} (hres : (r_0, r_1, r_2, r_3, r_4, r_5, r_6, r_7, r_8, r_9, r_10, r_11, r_12, r_13) = f_X8_takeTurn cycle tlow thigh tnum tstat taddr tready tnext tret regs tstore hcount haddr hcyc hret tims mwheel mwords) : K M_X8_takeTurn yX8_takeTurn [.ref 0, .int cycle, .ref 8] (w_T tlow thigh tnum tstat taddr tready tnext tret regs tstore hcount haddr hcyc hret tims mwheel mwords) (some (.int r_0)) (w_T tlow thigh tnum r_1 r_2 r_3 r_4 r_5 r_6 r_7 r_8 r_9 r_10 r_11 r_12 mwheel r_13) := by
  refine K.of (lv := [(0, .ref 0), (1, .int cycle), (2, .ref 8)]) (by decide +kernel) rfl rfl rfl ?_
  rw [f_X8_takeTurn] at hres
  refine G.aload_n (pc := 0) dm_X8_takeTurn_0 rfl ?_
  refine G.getfield (pc := 1) dm_X8_takeTurn_1 gf_X8_28 rfl rfl ?_
  refine G.iconst (pc := 4) (v := (1 : Int32)) dm_X8_takeTurn_4 qi_1 ?_
  refine G.icmp_ne (pc := 5) (tgt := 16) dm_X8_takeTurn_5 (by decide) (fun c5 => ?_) (fun c5 => ?_)
  · rw [if_neg c5] at hres
    refine G.iconst (pc := 16) (v := (0 : Int32)) dm_X8_takeTurn_16 qi_0 ?_
    cases hres
    exact G.zreturn (pc := 17) dm_X8_takeTurn_17 rfl (by decide) rfl rfl
  · rw [if_pos c5] at hres
    refine G.iload_n (pc := 8) dm_X8_takeTurn_8 rfl ?_
    refine G.aload_n (pc := 9) dm_X8_takeTurn_9 rfl ?_
    refine G.getfield (pc := 10) dm_X8_takeTurn_10 gf_X8_38 rfl rfl ?_
    refine G.icmp_ge (pc := 13) (tgt := 18) dm_X8_takeTurn_13 (by decide) (fun c13 => ?_) (fun c13 => ?_)
    · rw [if_pos c13] at hres
      refine G.aload_n (pc := 18) dm_X8_takeTurn_18 rfl ?_
      refine G.iload_n (pc := 19) dm_X8_takeTurn_19 rfl ?_
      refine G.aload_n (pc := 20) dm_X8_takeTurn_20 rfl ?_
      obtain ⟨z1_0, z1_1, z1_2, z1_3, z1_4, z1_5, z1_6, z1_7, hz1⟩ := g_ex8 (f_X8_attempt cycle tlow thigh tnum tstat taddr tnext tret regs tstore tims mwheel mwords)
      refine G.callV0 (pc := 21) (rest := []) (st1 := [.ref z1_0]) dm_X8_takeTurn_21 gc_X8_takeTurn_44 (k_X8_attempt (cycle := cycle) (tlow := tlow) (thigh := thigh) (tnum := tnum) (tstat := tstat) (taddr := taddr) (tready := tready) (tnext := tnext) (tret := tret) (regs := regs) (tstore := tstore) (hcount := hcount) (haddr := haddr) (hcyc := hcyc) (hret := hret) (tims := tims) (mwheel := mwheel) (mwords := mwords) (by assumption) (by assumption) hz1) rfl rfl rfl rfl rfl rfl rfl rfl ?_
      have ho := o_X8_attempt hz1
      replace hres : (r_0, r_1, r_2, r_3, r_4, r_5, r_6, r_7, r_8, r_9, r_10, r_11, r_12, r_13) = f_X8_takeTurn_c21 cycle taddr tready hcount haddr hcyc hret z1_0 z1_1 z1_2 z1_3 z1_4 z1_5 z1_6 z1_7 := hres.trans (by rw [← hz1])
      rw [f_X8_takeTurn_c21] at hres
      refine G.astore_n (pc := 24) (lv1 := [(3, .ref z1_0), (0, .ref 0), (1, .int cycle), (2, .ref 8)]) dm_X8_takeTurn_24 rfl rfl ?_
      refine G.aload_n (pc := 25) dm_X8_takeTurn_25 rfl ?_
      refine G.getstatic (pc := 26) dm_X8_takeTurn_26 (Or.inl ⟨2, by decide, rfl⟩) tw613 ?_
      refine G.acmp_ne (pc := 29) (tgt := 37) dm_X8_takeTurn_29 ho (by decide) (by decide) (fun c29 => ?_) (fun c29 => ?_)
      · rw [if_neg c29] at hres
        refine G.lvp [1, 2, 0] rfl ?_
        exact j_X8_takeTurn_37 hres (by assumption)
      · rw [if_pos c29] at hres
        refine G.aload_n (pc := 32) dm_X8_takeTurn_32 rfl ?_
        refine G.iconst (pc := 33) (v := (3 : Int32)) dm_X8_takeTurn_33 qi_3 ?_
        refine G.putfield (pc := 34) (ws1 := (w_T tlow thigh tnum (3 : Int32) taddr tready z1_2 z1_3 z1_4 z1_5 hcount haddr hcyc hret z1_6 mwheel z1_7)) dm_X8_takeTurn_34 gw_X8_28 rfl (g_fit_i _) rfl rfl ?_
        refine G.lvp [1, 2, 0] rfl ?_
        exact j_X8_takeTurn_37 hres (by assumption)
    · rw [if_neg c13] at hres
      refine G.iconst (pc := 16) (v := (0 : Int32)) dm_X8_takeTurn_16 qi_0 ?_
      cases hres
      exact G.zreturn (pc := 17) dm_X8_takeTurn_17 rfl (by decide) rfl rfl
