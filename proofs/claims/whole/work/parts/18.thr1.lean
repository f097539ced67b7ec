def w_t (tlow : Int32) (thigh : Int32) (tnum : Int32) (tstat : Int32) (taddr : Int32) (tready : Int32) (tnext : Int32) (tret : Int32) (regs : Nat → Int32) (tstore : Nat → Int32) (hcount : Int32) (haddr : Nat → Int32) (hcyc : Nat → Int32) (hret : Nat → Int32) (tims : Nat → Int32) : List va_E := [.inr (5, [.ref 1, .ref 2, .ref 3, .int tlow, .int thigh, .int tnum, .ref 7, .int tstat, .int taddr, .int tready, .int tnext, .int tret]), .inl (1, 16, .inl regs), .inl (1, 128, .inl tstore), .inr (1, [.int hcount, .ref 4, .ref 5, .ref 6]), .inl (1, 16, .inl haddr), .inl (1, 16, .inl hcyc), .inl (1, 16, .inl hret), .inl (1, 4, .inl tims)]
def w_T (tlow : Int32) (thigh : Int32) (tnum : Int32) (tstat : Int32) (taddr : Int32) (tready : Int32) (tnext : Int32) (tret : Int32) (regs : Nat → Int32) (tstore : Nat → Int32) (hcount : Int32) (haddr : Nat → Int32) (hcyc : Nat → Int32) (hret : Nat → Int32) (tims : Nat → Int32) (mwheel : Int32) (mwords : Nat → Int32) : List va_E := [.inr (5, [.ref 1, .ref 2, .ref 3, .int tlow, .int thigh, .int tnum, .ref 7, .int tstat, .int taddr, .int tready, .int tnext, .int tret]), .inl (1, 16, .inl regs), .inl (1, 128, .inl tstore), .inr (1, [.int hcount, .ref 4, .ref 5, .ref 6]), .inl (1, 16, .inl haddr), .inl (1, 16, .inl hcyc), .inl (1, 16, .inl hret), .inl (1, 4, .inl tims), .inr (3, [.ref 9, .int mwheel]), .inl (1, 64, .inl mwords)]
def w_S (mwheel : Int32) (mwords : Nat → Int32) : List va_E := [.inr (3, [.ref 1, .int mwheel]), .inl (1, 64, .inl mwords)]
theorem q_cnd {x : Int32} (c1 : ¬ x < 4) (c2 : ¬ 8 ≤ x) : vp_in (x - 4) 4 := by
  have h1 := q_nlt c1
  have h2 := q_nle c2
  have h3 : (4 : Int32).toInt = 4 := by decide
  have h4 : (8 : Int32).toInt = 8 := by decide
  have h5 : (x - 4).toInt = x.toInt - 4 := by rw [q_sub (by omega) (by omega), h3]
  exact q_in (by omega) (by omega)
theorem q_tm {x : Int32} (h : 0 ≤ x.toInt) (c : ¬ 4 ≤ x) : vp_in x 4 := by
  have h1 := q_nle c
  have h3 : (4 : Int32).toInt = 4 := by decide
  exact q_in h (by omega)
theorem g_rr {is : List Nat} {z : Nat} {rest : List Value} (h : 1000 ≤ z ∧ z < 1003) (hl : is.length ≤ 1000) : (Option.map (g_rv is) (some (Value.ref z))).toList ++ rest = .ref z :: rest := by
  have h1 : is[z]? = none := by simp; omega
  simp [g_rv, g_tv, g_rn, h1]
theorem a_rd {x z : Int32} (h : z = f_X1_rd x) : 0 ≤ z.toInt ∧ z.toInt < 32 := by
  subst h
  exact q_31 _
theorem gd_X10_isRegister : yX10_isRegister.cls ≠ "java/lang/invoke/MethodHandle" ∧ yX10_isRegister.cls ≠ "java/lang/invoke/VarHandle" ∧ (parseMethodDescriptor yX10_isRegister.desc).map (fun d => d.parameters.length) = some 1 := ⟨by decide, by decide, by decide +kernel⟩
theorem gd_X8_isInStore : yX8_isInStore.cls ≠ "java/lang/invoke/MethodHandle" ∧ yX8_isInStore.cls ≠ "java/lang/invoke/VarHandle" ∧ (parseMethodDescriptor yX8_isInStore.desc).map (fun d => d.parameters.length) = some 1 := ⟨by decide, by decide, by decide +kernel⟩
theorem gd_X8_isAligned : yX8_isAligned.cls ≠ "java/lang/invoke/MethodHandle" ∧ yX8_isAligned.cls ≠ "java/lang/invoke/VarHandle" ∧ (parseMethodDescriptor yX8_isAligned.desc).map (fun d => d.parameters.length) = some 1 := ⟨by decide, by decide, by decide +kernel⟩
theorem gd_X8_bitOf : yX8_bitOf.cls ≠ "java/lang/invoke/MethodHandle" ∧ yX8_bitOf.cls ≠ "java/lang/invoke/VarHandle" ∧ (parseMethodDescriptor yX8_bitOf.desc).map (fun d => d.parameters.length) = some 1 := ⟨by decide, by decide, by decide +kernel⟩
theorem gd_X8_placeOf : yX8_placeOf.cls ≠ "java/lang/invoke/MethodHandle" ∧ yX8_placeOf.cls ≠ "java/lang/invoke/VarHandle" ∧ (parseMethodDescriptor yX8_placeOf.desc).map (fun d => d.parameters.length) = some 1 := ⟨by decide, by decide, by decide +kernel⟩
theorem gd_X8_isBelowUnsigned : yX8_isBelowUnsigned.cls ≠ "java/lang/invoke/MethodHandle" ∧ yX8_isBelowUnsigned.cls ≠ "java/lang/invoke/VarHandle" ∧ (parseMethodDescriptor yX8_isBelowUnsigned.desc).map (fun d => d.parameters.length) = some 2 := ⟨by decide, by decide, by decide +kernel⟩
theorem gd_X8_isSo : yX8_isSo.cls ≠ "java/lang/invoke/MethodHandle" ∧ yX8_isSo.cls ≠ "java/lang/invoke/VarHandle" ∧ (parseMethodDescriptor yX8_isSo.desc).map (fun d => d.parameters.length) = some 3 := ⟨by decide, by decide, by decide +kernel⟩
theorem gd_X8_compute : yX8_compute.cls ≠ "java/lang/invoke/MethodHandle" ∧ yX8_compute.cls ≠ "java/lang/invoke/VarHandle" ∧ (parseMethodDescriptor yX8_compute.desc).map (fun d => d.parameters.length) = some 4 := ⟨by decide, by decide, by decide +kernel⟩
theorem gd_X2_add : yX2_add.cls ≠ "java/lang/invoke/MethodHandle" ∧ yX2_add.cls ≠ "java/lang/invoke/VarHandle" ∧ (parseMethodDescriptor yX2_add.desc).map (fun d => d.parameters.length) = some 3 := ⟨by decide, by decide, by decide +kernel⟩
theorem gd_X2_entry : yX2_entry.cls ≠ "java/lang/invoke/MethodHandle" ∧ yX2_entry.cls ≠ "java/lang/invoke/VarHandle" ∧ (parseMethodDescriptor yX2_entry.desc).map (fun d => d.parameters.length) = some 2 := ⟨by decide, by decide, by decide +kernel⟩
theorem gd_X6_retirement : yX6_retirement.cls ≠ "java/lang/invoke/MethodHandle" ∧ yX6_retirement.cls ≠ "java/lang/invoke/VarHandle" ∧ (parseMethodDescriptor yX6_retirement.desc).map (fun d => d.parameters.length) = some 2 := ⟨by decide, by decide, by decide +kernel⟩
theorem gd_X8_setRegister : yX8_setRegister.cls ≠ "java/lang/invoke/MethodHandle" ∧ yX8_setRegister.cls ≠ "java/lang/invoke/VarHandle" ∧ (parseMethodDescriptor yX8_setRegister.desc).map (fun d => d.parameters.length) = some 2 := ⟨by decide, by decide, by decide +kernel⟩
theorem gd_X8_setRetirement : yX8_setRetirement.cls ≠ "java/lang/invoke/MethodHandle" ∧ yX8_setRetirement.cls ≠ "java/lang/invoke/VarHandle" ∧ (parseMethodDescriptor yX8_setRetirement.desc).map (fun d => d.parameters.length) = some 3 := ⟨by decide, by decide, by decide +kernel⟩
theorem gd_X8_canReach : yX8_canReach.cls ≠ "java/lang/invoke/MethodHandle" ∧ yX8_canReach.cls ≠ "java/lang/invoke/VarHandle" ∧ (parseMethodDescriptor yX8_canReach.desc).map (fun d => d.parameters.length) = some 2 := ⟨by decide, by decide, by decide +kernel⟩
theorem gd_X8_rowOf : yX8_rowOf.cls ≠ "java/lang/invoke/MethodHandle" ∧ yX8_rowOf.cls ≠ "java/lang/invoke/VarHandle" ∧ (parseMethodDescriptor yX8_rowOf.desc).map (fun d => d.parameters.length) = some 2 := ⟨by decide, by decide, by decide +kernel⟩
theorem gd_X8_begin : yX8_begin.cls ≠ "java/lang/invoke/MethodHandle" ∧ yX8_begin.cls ≠ "java/lang/invoke/VarHandle" ∧ (parseMethodDescriptor yX8_begin.desc).map (fun d => d.parameters.length) = some 2 := ⟨by decide, by decide, by decide +kernel⟩
theorem gd_X8_condition : yX8_condition.cls ≠ "java/lang/invoke/MethodHandle" ∧ yX8_condition.cls ≠ "java/lang/invoke/VarHandle" ∧ (parseMethodDescriptor yX8_condition.desc).map (fun d => d.parameters.length) = some 1 := ⟨by decide, by decide, by decide +kernel⟩
theorem gd_X8_loadUpper : yX8_loadUpper.cls ≠ "java/lang/invoke/MethodHandle" ∧ yX8_loadUpper.cls ≠ "java/lang/invoke/VarHandle" ∧ (parseMethodDescriptor yX8_loadUpper.desc).map (fun d => d.parameters.length) = some 1 := ⟨by decide, by decide, by decide +kernel⟩
theorem gd_X8_jump : yX8_jump.cls ≠ "java/lang/invoke/MethodHandle" ∧ yX8_jump.cls ≠ "java/lang/invoke/VarHandle" ∧ (parseMethodDescriptor yX8_jump.desc).map (fun d => d.parameters.length) = some 1 := ⟨by decide, by decide, by decide +kernel⟩
theorem gd_X8_jumpToRegister : yX8_jumpToRegister.cls ≠ "java/lang/invoke/MethodHandle" ∧ yX8_jumpToRegister.cls ≠ "java/lang/invoke/VarHandle" ∧ (parseMethodDescriptor yX8_jumpToRegister.desc).map (fun d => d.parameters.length) = some 1 := ⟨by decide, by decide, by decide +kernel⟩
theorem gd_X8_branch : yX8_branch.cls ≠ "java/lang/invoke/MethodHandle" ∧ yX8_branch.cls ≠ "java/lang/invoke/VarHandle" ∧ (parseMethodDescriptor yX8_branch.desc).map (fun d => d.parameters.length) = some 1 := ⟨by decide, by decide, by decide +kernel⟩
theorem gd_X8_load : yX8_load.cls ≠ "java/lang/invoke/MethodHandle" ∧ yX8_load.cls ≠ "java/lang/invoke/VarHandle" ∧ (parseMethodDescriptor yX8_load.desc).map (fun d => d.parameters.length) = some 3 := ⟨by decide, by decide, by decide +kernel⟩
theorem gd_X8_save : yX8_save.cls ≠ "java/lang/invoke/MethodHandle" ∧ yX8_save.cls ≠ "java/lang/invoke/VarHandle" ∧ (parseMethodDescriptor yX8_save.desc).map (fun d => d.parameters.length) = some 3 := ⟨by decide, by decide, by decide +kernel⟩
theorem gd_X8_computeWithNumber : yX8_computeWithNumber.cls ≠ "java/lang/invoke/MethodHandle" ∧ yX8_computeWithNumber.cls ≠ "java/lang/invoke/VarHandle" ∧ (parseMethodDescriptor yX8_computeWithNumber.desc).map (fun d => d.parameters.length) = some 1 := ⟨by decide, by decide, by decide +kernel⟩
theorem gd_X8_computeWithRegister : yX8_computeWithRegister.cls ≠ "java/lang/invoke/MethodHandle" ∧ yX8_computeWithRegister.cls ≠ "java/lang/invoke/VarHandle" ∧ (parseMethodDescriptor yX8_computeWithRegister.desc).map (fun d => d.parameters.length) = some 1 := ⟨by decide, by decide, by decide +kernel⟩
theorem gd_X8_setTimer : yX8_setTimer.cls ≠ "java/lang/invoke/MethodHandle" ∧ yX8_setTimer.cls ≠ "java/lang/invoke/VarHandle" ∧ (parseMethodDescriptor yX8_setTimer.desc).map (fun d => d.parameters.length) = some 3 := ⟨by decide, by decide, by decide +kernel⟩
theorem gd_X8_timed : yX8_timed.cls ≠ "java/lang/invoke/MethodHandle" ∧ yX8_timed.cls ≠ "java/lang/invoke/VarHandle" ∧ (parseMethodDescriptor yX8_timed.desc).map (fun d => d.parameters.length) = some 2 := ⟨by decide, by decide, by decide +kernel⟩
theorem gd_X8_halt : yX8_halt.cls ≠ "java/lang/invoke/MethodHandle" ∧ yX8_halt.cls ≠ "java/lang/invoke/VarHandle" ∧ (parseMethodDescriptor yX8_halt.desc).map (fun d => d.parameters.length) = some 1 := ⟨by decide, by decide, by decide +kernel⟩
theorem gd_X8_attempt : yX8_attempt.cls ≠ "java/lang/invoke/MethodHandle" ∧ yX8_attempt.cls ≠ "java/lang/invoke/VarHandle" ∧ (parseMethodDescriptor yX8_attempt.desc).map (fun d => d.parameters.length) = some 2 := ⟨by decide, by decide, by decide +kernel⟩
theorem gd_X8_takeTurn : yX8_takeTurn.cls ≠ "java/lang/invoke/MethodHandle" ∧ yX8_takeTurn.cls ≠ "java/lang/invoke/VarHandle" ∧ (parseMethodDescriptor yX8_takeTurn.desc).map (fun d => d.parameters.length) = some 2 := ⟨by decide, by decide, by decide +kernel⟩
abbrev M_X10_isRegister : g_M := (cX10_isRegister, 1, RX10, (some .boolean), { frames := 0, cells := 0, slots := 0, locals := 0 }, 0, 0)
theorem dm_X10_isRegister_0 : decode M_X10_isRegister.1 0 = .ok (.iload_n 0, 1) := by decide +kernel
theorem dm_X10_isRegister_1 : decode M_X10_isRegister.1 1 = .ok (.ifCond .lt 13, 3) := by decide +kernel
theorem dm_X10_isRegister_4 : decode M_X10_isRegister.1 4 = .ok (.iload_n 0, 1) := by decide +kernel
theorem dm_X10_isRegister_5 : decode M_X10_isRegister.1 5 = .ok (.bipush 16, 2) := by decide +kernel
theorem dm_X10_isRegister_7 : decode M_X10_isRegister.1 7 = .ok (.if_icmp .ge 7, 3) := by decide +kernel
theorem dm_X10_isRegister_10 : decode M_X10_isRegister.1 10 = .ok (.iconst 1, 1) := by decide +kernel
theorem dm_X10_isRegister_11 : decode M_X10_isRegister.1 11 = .ok (.goto 4, 3) := by decide +kernel
theorem dm_X10_isRegister_14 : decode M_X10_isRegister.1 14 = .ok (.iconst 0, 1) := by decide +kernel
theorem dm_X10_isRegister_15 : decode M_X10_isRegister.1 15 = .ok (.ireturn, 1) := by decide +kernel
def f_X10_isRegister (k : Int32) : Int32 := (if k < 0 then (0 : Int32) else (if (16 : Int32) ≤ k then (0 : Int32) else (1 : Int32)))
set_option maxRecDepth 20000 in
theorem k_X10_isRegister {k : Int32} {r_0 : Int32} (hres : r_0 = f_X10_isRegister k) : K M_X10_isRegister yX10_isRegister [.int k] [] (some (.int r_0)) [] := by
  refine K.of (lv := [(0, .int k)]) (by decide +kernel) rfl rfl rfl ?_
  rw [f_X10_isRegister] at hres
  refine G.iload_n (pc := 0) dm_X10_isRegister_0 rfl ?_
  refine G.if_lt (pc := 1) (tgt := 14) dm_X10_isRegister_1 (by decide) (fun c1 => ?_) (fun c1 => ?_)
  · rw [if_pos c1] at hres
    refine G.iconst (pc := 14) (v := (0 : Int32)) dm_X10_isRegister_14 qi_0 ?_
    subst hres
    exact G.zreturn (pc := 15) dm_X10_isRegister_15 rfl (by decide) rfl rfl
  · rw [if_neg c1] at hres
    refine G.iload_n (pc := 4) dm_X10_isRegister_4 rfl ?_
    refine G.bipush (pc := 5) (v := (16 : Int32)) dm_X10_isRegister_5 qb_16 ?_
    refine G.icmp_ge (pc := 7) (tgt := 14) dm_X10_isRegister_7 (by decide) (fun c7 => ?_) (fun c7 => ?_)
    · rw [if_pos c7] at hres
      refine G.iconst (pc := 14) (v := (0 : Int32)) dm_X10_isRegister_14 qi_0 ?_
      subst hres
      exact G.zreturn (pc := 15) dm_X10_isRegister_15 rfl (by decide) rfl rfl
    · rw [if_neg c7] at hres
      refine G.iconst (pc := 10) (v := (1 : Int32)) dm_X10_isRegister_10 qi_1 ?_
      refine G.goto (pc := 11) (tgt := 15) dm_X10_isRegister_11 (by decide) ?_
      subst hres
      exact G.zreturn (pc := 15) dm_X10_isRegister_15 rfl (by decide) rfl rfl
theorem a_isReg {a z : Int32} (h : z = f_X10_isRegister a) : ¬ z = 0 → 0 ≤ a.toInt ∧ a.toInt < 16 := by
  have h1 : (16 : Int32).toInt = 16 := by decide
  have h2 : (0 : Int32).toInt = 0 := by decide
  subst h
  unfold f_X10_isRegister
  intro h
  split at h
  · exact absurd rfl h
  · rename_i c1
    split at h
    · exact absurd rfl h
    · rename_i c2
      have := q_nlt c1
      have := q_nle c2
      omega
theorem q_r16 {a : Int32} (h : 0 ≤ a.toInt ∧ a.toInt < 16) : vp_in a 16 := q_in h.1 (by omega)
abbrev M_X8_isInStore : g_M := (cX8_isInStore, 1, RX8, (some .boolean), { frames := 0, cells := 0, slots := 0, locals := 0 }, 0, 0)
theorem dm_X8_isInStore_0 : decode M_X8_isInStore.1 0 = .ok (.iload_n 0, 1) := by decide +kernel
theorem dm_X8_isInStore_1 : decode M_X8_isInStore.1 1 = .ok (.ifCond .lt 14, 3) := by decide +kernel
theorem dm_X8_isInStore_4 : decode M_X8_isInStore.1 4 = .ok (.iload_n 0, 1) := by decide +kernel
theorem dm_X8_isInStore_5 : decode M_X8_isInStore.1 5 = .ok (.sipush 512, 3) := by decide +kernel
theorem dm_X8_isInStore_8 : decode M_X8_isInStore.1 8 = .ok (.if_icmp .ge 7, 3) := by decide +kernel
theorem dm_X8_isInStore_11 : decode M_X8_isInStore.1 11 = .ok (.iconst 1, 1) := by decide +kernel
theorem dm_X8_isInStore_12 : decode M_X8_isInStore.1 12 = .ok (.goto 4, 3) := by decide +kernel
theorem dm_X8_isInStore_15 : decode M_X8_isInStore.1 15 = .ok (.iconst 0, 1) := by decide +kernel
theorem dm_X8_isInStore_16 : decode M_X8_isInStore.1 16 = .ok (.ireturn, 1) := by decide +kernel
def f_X8_isInStore (at_ : Int32) : Int32 := (if at_ < 0 then (0 : Int32) else (if (512 : Int32) ≤ at_ then (0 : Int32) else (1 : Int32)))
set_option maxRecDepth 20000 in
theorem k_X8_isInStore {at_ : Int32} {r_0 : Int32} (hres : r_0 = f_X8_isInStore at_) : K M_X8_isInStore yX8_isInStore [.int at_] [] (some (.int r_0)) [] := by
  refine K.of (lv := [(0, .int at_)]) (by decide +kernel) rfl rfl rfl ?_
  rw [f_X8_isInStore] at hres
  refine G.iload_n (pc := 0) dm_X8_isInStore_0 rfl ?_
  refine G.if_lt (pc := 1) (tgt := 15) dm_X8_isInStore_1 (by decide) (fun c1 => ?_) (fun c1 => ?_)
  · rw [if_pos c1] at hres
    refine G.iconst (pc := 15) (v := (0 : Int32)) dm_X8_isInStore_15 qi_0 ?_
    subst hres
    exact G.zreturn (pc := 16) dm_X8_isInStore_16 rfl (by decide) rfl rfl
  · rw [if_neg c1] at hres
    refine G.iload_n (pc := 4) dm_X8_isInStore_4 rfl ?_
    refine G.sipush (pc := 5) (v := (512 : Int32)) dm_X8_isInStore_5 qs_512 ?_
    refine G.icmp_ge (pc := 8) (tgt := 15) dm_X8_isInStore_8 (by decide) (fun c8 => ?_) (fun c8 => ?_)
    · rw [if_pos c8] at hres
      refine G.iconst (pc := 15) (v := (0 : Int32)) dm_X8_isInStore_15 qi_0 ?_
      subst hres
      exact G.zreturn (pc := 16) dm_X8_isInStore_16 rfl (by decide) rfl rfl
    · rw [if_neg c8] at hres
      refine G.iconst (pc := 11) (v := (1 : Int32)) dm_X8_isInStore_11 qi_1 ?_
      refine G.goto (pc := 12) (tgt := 16) dm_X8_isInStore_12 (by decide) ?_
      subst hres
      exact G.zreturn (pc := 16) dm_X8_isInStore_16 rfl (by decide) rfl rfl
theorem a_isInStore {a z : Int32} (h : z = f_X8_isInStore a) : (¬ z = 0 → 0 ≤ a.toInt ∧ a.toInt < 512) ∧ (z = 0 → a.toInt < 0 ∨ 512 ≤ a.toInt) := by
  have h1 : (512 : Int32).toInt = 512 := by decide
  have h2 : (0 : Int32).toInt = 0 := by decide
  subst h
  unfold f_X8_isInStore
  constructor
  · intro h
    split at h
    · exact absurd rfl h
    · rename_i c1
      split at h
      · exact absurd rfl h
      · rename_i c2
        have := q_nlt c1
        have := q_nle c2
        omega
  · intro h
    split at h
    · rename_i c1
      have := q_lt c1
      omega
    · split at h
      · rename_i c2
        have := q_le c2
        omega
      · exact absurd h (by decide)
abbrev M_X8_isAligned : g_M := (cX8_isAligned, 1, RX8, (some .boolean), { frames := 0, cells := 0, slots := 0, locals := 0 }, 0, 0)
theorem dm_X8_isAligned_0 : decode M_X8_isAligned.1 0 = .ok (.iload_n 0, 1) := by decide +kernel
theorem dm_X8_isAligned_1 : decode M_X8_isAligned.1 1 = .ok (.iconst 3, 1) := by decide +kernel
theorem dm_X8_isAligned_2 : decode M_X8_isAligned.1 2 = .ok (.iand, 1) := by decide +kernel
theorem dm_X8_isAligned_3 : decode M_X8_isAligned.1 3 = .ok (.ifCond .ne 7, 3) := by decide +kernel
theorem dm_X8_isAligned_6 : decode M_X8_isAligned.1 6 = .ok (.iconst 1, 1) := by decide +kernel
theorem dm_X8_isAligned_7 : decode M_X8_isAligned.1 7 = .ok (.goto 4, 3) := by decide +kernel
theorem dm_X8_isAligned_10 : decode M_X8_isAligned.1 10 = .ok (.iconst 0, 1) := by decide +kernel
theorem dm_X8_isAligned_11 : decode M_X8_isAligned.1 11 = .ok (.ireturn, 1) := by decide +kernel
def f_X8_isAligned (at_ : Int32) : Int32 := (if (at_ &&& (3 : Int32)) = 0 then (1 : Int32) else (0 : Int32))
set_option maxRecDepth 20000 in
theorem k_X8_isAligned {at_ : Int32} {r_0 : Int32} (hres : r_0 = f_X8_isAligned at_) : K M_X8_isAligned yX8_isAligned [.int at_] [] (some (.int r_0)) [] := by
  refine K.of (lv := [(0, .int at_)]) (by decide +kernel) rfl rfl rfl ?_
  rw [f_X8_isAligned] at hres
  refine G.iload_n (pc := 0) dm_X8_isAligned_0 rfl ?_
  refine G.iconst (pc := 1) (v := (3 : Int32)) dm_X8_isAligned_1 qi_3 ?_
  refine G.iand (pc := 2) dm_X8_isAligned_2 ?_
  refine G.if_ne (pc := 3) (tgt := 10) dm_X8_isAligned_3 (by decide) (fun c3 => ?_) (fun c3 => ?_)
  · rw [if_neg c3] at hres
    refine G.iconst (pc := 10) (v := (0 : Int32)) dm_X8_isAligned_10 qi_0 ?_
    subst hres
    exact G.zreturn (pc := 11) dm_X8_isAligned_11 rfl (by decide) rfl rfl
  · rw [if_pos c3] at hres
    refine G.iconst (pc := 6) (v := (1 : Int32)) dm_X8_isAligned_6 qi_1 ?_
    refine G.goto (pc := 7) (tgt := 11) dm_X8_isAligned_7 (by decide) ?_
    subst hres
    exact G.zreturn (pc := 11) dm_X8_isAligned_11 rfl (by decide) rfl rfl
abbrev M_X8_bitOf : g_M := (cX8_bitOf, 1, RX8, (some .int), { frames := 0, cells := 0, slots := 0, locals := 0 }, 0, 0)
theorem dm_X8_bitOf_0 : decode M_X8_bitOf.1 0 = .ok (.iload_n 0, 1) := by decide +kernel
theorem dm_X8_bitOf_1 : decode M_X8_bitOf.1 1 = .ok (.iconst 3, 1) := by decide +kernel
theorem dm_X8_bitOf_2 : decode M_X8_bitOf.1 2 = .ok (.iand, 1) := by decide +kernel
theorem dm_X8_bitOf_3 : decode M_X8_bitOf.1 3 = .ok (.iconst 3, 1) := by decide +kernel
theorem dm_X8_bitOf_4 : decode M_X8_bitOf.1 4 = .ok (.ishl, 1) := by decide +kernel
theorem dm_X8_bitOf_5 : decode M_X8_bitOf.1 5 = .ok (.ireturn, 1) := by decide +kernel
def f_X8_bitOf (at_ : Int32) : Int32 := ((at_ &&& (3 : Int32)) <<< ((3 : Int32) &&& 31))
set_option maxRecDepth 20000 in
theorem k_X8_bitOf {at_ : Int32} {r_0 : Int32} (hres : r_0 = f_X8_bitOf at_) : K M_X8_bitOf yX8_bitOf [.int at_] [] (some (.int r_0)) [] := by
  refine K.of (lv := [(0, .int at_)]) (by decide +kernel) rfl rfl rfl ?_
  rw [f_X8_bitOf] at hres
  refine G.iload_n (pc := 0) dm_X8_bitOf_0 rfl ?_
  refine G.iconst (pc := 1) (v := (3 : Int32)) dm_X8_bitOf_1 qi_3 ?_
  refine G.iand (pc := 2) dm_X8_bitOf_2 ?_
  refine G.iconst (pc := 3) (v := (3 : Int32)) dm_X8_bitOf_3 qi_3 ?_
  refine G.ishl (pc := 4) dm_X8_bitOf_4 ?_
  subst hres
  exact G.ireturn (pc := 5) dm_X8_bitOf_5 rfl rfl rfl
abbrev M_X8_placeOf : g_M := (cX8_placeOf, 1, RX8, (some .int), { frames := 1, cells := 0, slots := 0, locals := 20 }, 0, 0)
theorem dm_X8_placeOf_0 : decode M_X8_placeOf.1 0 = .ok (.iload_n 0, 1) := by decide +kernel
theorem dm_X8_placeOf_1 : decode M_X8_placeOf.1 1 = .ok (.invokestatic 67, 3) := by decide +kernel
theorem dm_X8_placeOf_4 : decode M_X8_placeOf.1 4 = .ok (.ifCond .eq 7, 3) := by decide +kernel
theorem dm_X8_placeOf_7 : decode M_X8_placeOf.1 7 = .ok (.iload_n 0, 1) := by decide +kernel
theorem dm_X8_placeOf_8 : decode M_X8_placeOf.1 8 = .ok (.goto 8, 3) := by decide +kernel
theorem dm_X8_placeOf_11 : decode M_X8_placeOf.1 11 = .ok (.iload_n 0, 1) := by decide +kernel
theorem dm_X8_placeOf_12 : decode M_X8_placeOf.1 12 = .ok (.sipush 4096, 3) := by decide +kernel
theorem dm_X8_placeOf_15 : decode M_X8_placeOf.1 15 = .ok (.isub, 1) := by decide +kernel
theorem dm_X8_placeOf_16 : decode M_X8_placeOf.1 16 = .ok (.iconst 2, 1) := by decide +kernel
theorem dm_X8_placeOf_17 : decode M_X8_placeOf.1 17 = .ok (.ishr, 1) := by decide +kernel
theorem dm_X8_placeOf_18 : decode M_X8_placeOf.1 18 = .ok (.ireturn, 1) := by decide +kernel
theorem gc_X8_placeOf_67 : g_cs M_X8_placeOf 67 M_X8_isInStore yX8_isInStore 1 := ⟨tw621, tw622, tw32, tw623, ⟨rfl, rfl, rfl, rfl⟩, gd_X8_isInStore, ⟨by decide, by decide⟩⟩
def f_X8_placeOf_c1 (at_ : Int32) (z1_0 : Int32) : Int32 := (if z1_0 = 0 then ((at_ - (4096 : Int32)) >>> ((2 : Int32) &&& 31)) else (at_ >>> ((2 : Int32) &&& 31)))
def f_X8_placeOf (at_ : Int32) : Int32 := (f_X8_placeOf_c1 at_ (f_X8_isInStore at_))
set_option maxRecDepth 20000 in
theorem k_X8_placeOf {at_ : Int32} {r_0 : Int32} (hres : r_0 = f_X8_placeOf at_) : K M_X8_placeOf yX8_placeOf [.int at_] [] (some (.int r_0)) [] := by
  refine K.of (lv := [(0, .int at_)]) (by decide +kernel) rfl rfl rfl ?_
  rw [f_X8_placeOf] at hres
  refine G.iload_n (pc := 0) dm_X8_placeOf_0 rfl ?_
  obtain ⟨z1_0, hz1⟩ := g_ex1 (f_X8_isInStore at_)
  refine G.callS (pc := 1) (rest := []) (st1 := [.int z1_0]) (ws1 := []) [] dm_X8_placeOf_1 gc_X8_placeOf_67 (k_X8_isInStore (at_ := at_) hz1) rfl rfl rfl rfl rfl rfl rfl rfl ?_
  replace hres : r_0 = f_X8_placeOf_c1 at_ z1_0 := hres.trans (by rw [← hz1])
  rw [f_X8_placeOf_c1] at hres
  refine G.if_eq (pc := 4) (tgt := 11) dm_X8_placeOf_4 (by decide) (fun c4 => ?_) (fun c4 => ?_)
  · rw [if_pos c4] at hres
    refine G.iload_n (pc := 11) dm_X8_placeOf_11 rfl ?_
    refine G.sipush (pc := 12) (v := (4096 : Int32)) dm_X8_placeOf_12 qs_4096 ?_
    refine G.isub (pc := 15) dm_X8_placeOf_15 ?_
    refine G.iconst (pc := 16) (v := (2 : Int32)) dm_X8_placeOf_16 qi_2 ?_
    refine G.ishr (pc := 17) dm_X8_placeOf_17 ?_
    subst hres
    exact G.ireturn (pc := 18) dm_X8_placeOf_18 rfl rfl rfl
  · rw [if_neg c4] at hres
    refine G.iload_n (pc := 7) dm_X8_placeOf_7 rfl ?_
    refine G.goto (pc := 8) (tgt := 16) dm_X8_placeOf_8 (by decide) ?_
    refine G.iconst (pc := 16) (v := (2 : Int32)) dm_X8_placeOf_16 qi_2 ?_
    refine G.ishr (pc := 17) dm_X8_placeOf_17 ?_
    subst hres
    exact G.ireturn (pc := 18) dm_X8_placeOf_18 rfl rfl rfl
theorem a_placeOf {a z : Int32} (h : z = f_X8_placeOf a) (hwa : (0 ≤ a.toInt ∧ a.toInt < 512) ∨ (4096 ≤ a.toInt ∧ a.toInt < 4352)) : (f_X8_isInStore a = 0 → vp_in z 64) ∧ (¬ f_X8_isInStore a = 0 → vp_in z 128) := by
  subst h
  have hi := a_isInStore (a := a) rfl
  unfold f_X8_placeOf f_X8_placeOf_c1
  constructor
  · intro h
    have h1 := hi.2 h
    have h4 : (4096 : Int32).toInt = 4096 := by decide
    have h5 : (a - 4096).toInt = a.toInt - 4096 := by rw [q_sub (by omega) (by omega), h4]
    have h6 := q_shr (a - 4096)
    rw [if_pos h]
    exact q_in (by omega) (by omega)
  · intro h
    rw [if_neg h]
    exact q_st7 (hi.1 h)
abbrev M_X8_isBelowUnsigned : g_M := (cX8_isBelowUnsigned, 2, RX8, (some .boolean), { frames := 0, cells := 0, slots := 0, locals := 0 }, 0, 0)
theorem dm_X8_isBelowUnsigned_0 : decode M_X8_isBelowUnsigned.1 0 = .ok (.iload_n 0, 1) := by decide +kernel
theorem dm_X8_isBelowUnsigned_1 : decode M_X8_isBelowUnsigned.1 1 = .ok (.i2l, 1) := by decide +kernel
theorem dm_X8_isBelowUnsigned_2 : decode M_X8_isBelowUnsigned.1 2 = .ok (.ldc2_w 152, 3) := by decide +kernel
theorem dm_X8_isBelowUnsigned_5 : decode M_X8_isBelowUnsigned.1 5 = .ok (.land, 1) := by decide +kernel
theorem dm_X8_isBelowUnsigned_6 : decode M_X8_isBelowUnsigned.1 6 = .ok (.iload_n 1, 1) := by decide +kernel
theorem dm_X8_isBelowUnsigned_7 : decode M_X8_isBelowUnsigned.1 7 = .ok (.i2l, 1) := by decide +kernel
theorem dm_X8_isBelowUnsigned_8 : decode M_X8_isBelowUnsigned.1 8 = .ok (.ldc2_w 152, 3) := by decide +kernel
theorem dm_X8_isBelowUnsigned_11 : decode M_X8_isBelowUnsigned.1 11 = .ok (.land, 1) := by decide +kernel
theorem dm_X8_isBelowUnsigned_12 : decode M_X8_isBelowUnsigned.1 12 = .ok (.lcmp, 1) := by decide +kernel
theorem dm_X8_isBelowUnsigned_13 : decode M_X8_isBelowUnsigned.1 13 = .ok (.ifCond .ge 7, 3) := by decide +kernel
theorem dm_X8_isBelowUnsigned_16 : decode M_X8_isBelowUnsigned.1 16 = .ok (.iconst 1, 1) := by decide +kernel
theorem dm_X8_isBelowUnsigned_17 : decode M_X8_isBelowUnsigned.1 17 = .ok (.goto 4, 3) := by decide +kernel
theorem dm_X8_isBelowUnsigned_20 : decode M_X8_isBelowUnsigned.1 20 = .ok (.iconst 0, 1) := by decide +kernel
theorem dm_X8_isBelowUnsigned_21 : decode M_X8_isBelowUnsigned.1 21 = .ok (.ireturn, 1) := by decide +kernel
def f_X8_isBelowUnsigned (left : Int32) (right : Int32) : Int32 := (if 0 ≤ (lg_cmp ((Int32.toInt64 left) &&& (4294967295 : Int64)) ((Int32.toInt64 right) &&& (4294967295 : Int64))) then (0 : Int32) else (1 : Int32))
set_option maxRecDepth 20000 in
theorem k_X8_isBelowUnsigned {left : Int32} {right : Int32} {r_0 : Int32} (hres : r_0 = f_X8_isBelowUnsigned left right) : K M_X8_isBelowUnsigned yX8_isBelowUnsigned [.int left, .int right] [] (some (.int r_0)) [] := by
  refine K.of (lv := [(0, .int left), (1, .int right)]) (by decide +kernel) rfl rfl rfl ?_
  rw [f_X8_isBelowUnsigned] at hres
  refine G.iload_n (pc := 0) dm_X8_isBelowUnsigned_0 rfl ?_
  refine G.i2l (pc := 1) dm_X8_isBelowUnsigned_1 ?_
  refine G.ldc2 (pc := 2) dm_X8_isBelowUnsigned_2 tw677 ?_
  refine G.land (pc := 5) dm_X8_isBelowUnsigned_5 ?_
  refine G.iload_n (pc := 6) dm_X8_isBelowUnsigned_6 rfl ?_
  refine G.i2l (pc := 7) dm_X8_isBelowUnsigned_7 ?_
  refine G.ldc2 (pc := 8) dm_X8_isBelowUnsigned_8 tw677 ?_
  refine G.land (pc := 11) dm_X8_isBelowUnsigned_11 ?_
  refine G.lcmp (pc := 12) dm_X8_isBelowUnsigned_12 ?_
  refine G.if_ge (pc := 13) (tgt := 20) dm_X8_isBelowUnsigned_13 (by decide) (fun c13 => ?_) (fun c13 => ?_)
  · rw [if_pos c13] at hres
    refine G.iconst (pc := 20) (v := (0 : Int32)) dm_X8_isBelowUnsigned_20 qi_0 ?_
    subst hres
    exact G.zreturn (pc := 21) dm_X8_isBelowUnsigned_21 rfl (by decide) rfl rfl
  · rw [if_neg c13] at hres
    refine G.iconst (pc := 16) (v := (1 : Int32)) dm_X8_isBelowUnsigned_16 qi_1 ?_
    refine G.goto (pc := 17) (tgt := 21) dm_X8_isBelowUnsigned_17 (by decide) ?_
    subst hres
    exact G.zreturn (pc := 21) dm_X8_isBelowUnsigned_21 rfl (by decide) rfl rfl
theorem b_below {a b z : Int32} (h : z = f_X8_isBelowUnsigned a b) : z = 0 ∨ z = 1 := by
  subst h
  unfold f_X8_isBelowUnsigned
  split <;> simp
theorem q_nb {z : Int32} (h : z = 0 ∨ z = 1) : narrow .boolean (.int z) = .int z := by rcases h with rfl | rfl <;> decide
abbrev M_X8_isSo : g_M := (cX8_isSo, 3, RX8, (some .boolean), { frames := 1, cells := 0, slots := 0, locals := 21 }, 0, 0)
theorem dm_X8_isSo_0 : decode M_X8_isSo.1 0 = .ok (.iload_n 0, 1) := by decide +kernel
theorem dm_X8_isSo_1 : decode M_X8_isSo.1 1 = .ok (.tableswitch 93 0 6 #[43, 54, 93, 93, 65, 76, 87], 43) := by decide +kernel
theorem dm_X8_isSo_44 : decode M_X8_isSo.1 44 = .ok (.iload_n 1, 1) := by decide +kernel
theorem dm_X8_isSo_45 : decode M_X8_isSo.1 45 = .ok (.iload_n 2, 1) := by decide +kernel
theorem dm_X8_isSo_46 : decode M_X8_isSo.1 46 = .ok (.if_icmp .ne 7, 3) := by decide +kernel
theorem dm_X8_isSo_49 : decode M_X8_isSo.1 49 = .ok (.iconst 1, 1) := by decide +kernel
theorem dm_X8_isSo_50 : decode M_X8_isSo.1 50 = .ok (.goto 4, 3) := by decide +kernel
theorem dm_X8_isSo_53 : decode M_X8_isSo.1 53 = .ok (.iconst 0, 1) := by decide +kernel
theorem dm_X8_isSo_54 : decode M_X8_isSo.1 54 = .ok (.ireturn, 1) := by decide +kernel
theorem dm_X8_isSo_55 : decode M_X8_isSo.1 55 = .ok (.iload_n 1, 1) := by decide +kernel
theorem dm_X8_isSo_56 : decode M_X8_isSo.1 56 = .ok (.iload_n 2, 1) := by decide +kernel
theorem dm_X8_isSo_57 : decode M_X8_isSo.1 57 = .ok (.if_icmp .eq 7, 3) := by decide +kernel
theorem dm_X8_isSo_60 : decode M_X8_isSo.1 60 = .ok (.iconst 1, 1) := by decide +kernel
theorem dm_X8_isSo_61 : decode M_X8_isSo.1 61 = .ok (.goto 4, 3) := by decide +kernel
theorem dm_X8_isSo_64 : decode M_X8_isSo.1 64 = .ok (.iconst 0, 1) := by decide +kernel
theorem dm_X8_isSo_65 : decode M_X8_isSo.1 65 = .ok (.ireturn, 1) := by decide +kernel
theorem dm_X8_isSo_66 : decode M_X8_isSo.1 66 = .ok (.iload_n 1, 1) := by decide +kernel
theorem dm_X8_isSo_67 : decode M_X8_isSo.1 67 = .ok (.iload_n 2, 1) := by decide +kernel
theorem dm_X8_isSo_68 : decode M_X8_isSo.1 68 = .ok (.if_icmp .ge 7, 3) := by decide +kernel
theorem dm_X8_isSo_71 : decode M_X8_isSo.1 71 = .ok (.iconst 1, 1) := by decide +kernel
theorem dm_X8_isSo_72 : decode M_X8_isSo.1 72 = .ok (.goto 4, 3) := by decide +kernel
theorem dm_X8_isSo_75 : decode M_X8_isSo.1 75 = .ok (.iconst 0, 1) := by decide +kernel
theorem dm_X8_isSo_76 : decode M_X8_isSo.1 76 = .ok (.ireturn, 1) := by decide +kernel
theorem dm_X8_isSo_77 : decode M_X8_isSo.1 77 = .ok (.iload_n 1, 1) := by decide +kernel
theorem dm_X8_isSo_78 : decode M_X8_isSo.1 78 = .ok (.iload_n 2, 1) := by decide +kernel
theorem dm_X8_isSo_79 : decode M_X8_isSo.1 79 = .ok (.if_icmp .lt 7, 3) := by decide +kernel
theorem dm_X8_isSo_82 : decode M_X8_isSo.1 82 = .ok (.iconst 1, 1) := by decide +kernel
theorem dm_X8_isSo_83 : decode M_X8_isSo.1 83 = .ok (.goto 4, 3) := by decide +kernel
theorem dm_X8_isSo_86 : decode M_X8_isSo.1 86 = .ok (.iconst 0, 1) := by decide +kernel
theorem dm_X8_isSo_87 : decode M_X8_isSo.1 87 = .ok (.ireturn, 1) := by decide +kernel
theorem dm_X8_isSo_88 : decode M_X8_isSo.1 88 = .ok (.iload_n 1, 1) := by decide +kernel
theorem dm_X8_isSo_89 : decode M_X8_isSo.1 89 = .ok (.iload_n 2, 1) := by decide +kernel
theorem dm_X8_isSo_90 : decode M_X8_isSo.1 90 = .ok (.invokestatic 148, 3) := by decide +kernel
theorem dm_X8_isSo_93 : decode M_X8_isSo.1 93 = .ok (.ireturn, 1) := by decide +kernel
theorem dm_X8_isSo_94 : decode M_X8_isSo.1 94 = .ok (.iload_n 1, 1) := by decide +kernel
theorem dm_X8_isSo_95 : decode M_X8_isSo.1 95 = .ok (.iload_n 2, 1) := by decide +kernel
theorem dm_X8_isSo_96 : decode M_X8_isSo.1 96 = .ok (.invokestatic 148, 3) := by decide +kernel
theorem dm_X8_isSo_99 : decode M_X8_isSo.1 99 = .ok (.ifCond .ne 7, 3) := by decide +kernel
theorem dm_X8_isSo_102 : decode M_X8_isSo.1 102 = .ok (.iconst 1, 1) := by decide +kernel
theorem dm_X8_isSo_103 : decode M_X8_isSo.1 103 = .ok (.goto 4, 3) := by decide +kernel
theorem dm_X8_isSo_106 : decode M_X8_isSo.1 106 = .ok (.iconst 0, 1) := by decide +kernel
theorem dm_X8_isSo_107 : decode M_X8_isSo.1 107 = .ok (.ireturn, 1) := by decide +kernel
theorem gc_X8_isSo_148 : g_cs M_X8_isSo 148 M_X8_isBelowUnsigned yX8_isBelowUnsigned 2 := ⟨tw674, tw675, tw32, tw676, ⟨rfl, rfl, rfl, rfl⟩, gd_X8_isBelowUnsigned, ⟨by decide, by decide⟩⟩
def f_X8_isSo_c90 (z1_0 : Int32) : Int32 := z1_0
def f_X8_isSo_c96 (z2_0 : Int32) : Int32 := (if z2_0 = 0 then (1 : Int32) else (0 : Int32))
def f_X8_isSo (f : Int32) (left : Int32) (right : Int32) : Int32 := (if f = (0 : Int32) then (if left = right then (1 : Int32) else (0 : Int32)) else (if f = (1 : Int32) then (if left = right then (0 : Int32) else (1 : Int32)) else (if f = (4 : Int32) then (if right ≤ left then (0 : Int32) else (1 : Int32)) else (if f = (5 : Int32) then (if left < right then (0 : Int32) else (1 : Int32)) else (if f = (6 : Int32) then (f_X8_isSo_c90 (f_X8_isBelowUnsigned left right)) else (f_X8_isSo_c96 (f_X8_isBelowUnsigned left right)))))))
set_option maxRecDepth 20000 in
theorem k_X8_isSo {f : Int32} {left : Int32} {right : Int32} {r_0 : Int32} (hres : r_0 = f_X8_isSo f left right) : K M_X8_isSo yX8_isSo [.int f, .int left, .int right] [] (some (.int r_0)) [] := by
  refine K.of (lv := [(0, .int f), (1, .int left), (2, .int right)]) (by decide +kernel) rfl rfl rfl ?_
  rw [f_X8_isSo] at hres
  refine G.iload_n (pc := 0) dm_X8_isSo_0 rfl ?_
  by_cases c1_0 : f = (0 : Int32)
  · rw [if_pos c1_0] at hres
    refine G.tabIn (pc := 1) (tgt := 44) dm_X8_isSo_1 c1_0 (by decide) (by decide) rfl (by decide) ?_
    refine G.iload_n (pc := 44) dm_X8_isSo_44 rfl ?_
    refine G.iload_n (pc := 45) dm_X8_isSo_45 rfl ?_
    refine G.icmp_ne (pc := 46) (tgt := 53) dm_X8_isSo_46 (by decide) (fun c46 => ?_) (fun c46 => ?_)
    · rw [if_neg c46] at hres
      refine G.iconst (pc := 53) (v := (0 : Int32)) dm_X8_isSo_53 qi_0 ?_
      subst hres
      exact G.zreturn (pc := 54) dm_X8_isSo_54 rfl (by decide) rfl rfl
    · rw [if_pos c46] at hres
      refine G.iconst (pc := 49) (v := (1 : Int32)) dm_X8_isSo_49 qi_1 ?_
      refine G.goto (pc := 50) (tgt := 54) dm_X8_isSo_50 (by decide) ?_
      subst hres
      exact G.zreturn (pc := 54) dm_X8_isSo_54 rfl (by decide) rfl rfl
  rw [if_neg c1_0] at hres
  by_cases c1_1 : f = (1 : Int32)
  · rw [if_pos c1_1] at hres
    refine G.tabIn (pc := 1) (tgt := 55) dm_X8_isSo_1 c1_1 (by decide) (by decide) rfl (by decide) ?_
    refine G.iload_n (pc := 55) dm_X8_isSo_55 rfl ?_
    refine G.iload_n (pc := 56) dm_X8_isSo_56 rfl ?_
    refine G.icmp_eq (pc := 57) (tgt := 64) dm_X8_isSo_57 (by decide) (fun c57 => ?_) (fun c57 => ?_)
    · rw [if_pos c57] at hres
      refine G.iconst (pc := 64) (v := (0 : Int32)) dm_X8_isSo_64 qi_0 ?_
      subst hres
      exact G.zreturn (pc := 65) dm_X8_isSo_65 rfl (by decide) rfl rfl
    · rw [if_neg c57] at hres
      refine G.iconst (pc := 60) (v := (1 : Int32)) dm_X8_isSo_60 qi_1 ?_
      refine G.goto (pc := 61) (tgt := 65) dm_X8_isSo_61 (by decide) ?_
      subst hres
      exact G.zreturn (pc := 65) dm_X8_isSo_65 rfl (by decide) rfl rfl
  rw [if_neg c1_1] at hres
  by_cases c1_2 : f = (4 : Int32)
  · rw [if_pos c1_2] at hres
    refine G.tabIn (pc := 1) (tgt := 66) dm_X8_isSo_1 c1_2 (by decide) (by decide) rfl (by decide) ?_
    refine G.iload_n (pc := 66) dm_X8_isSo_66 rfl ?_
    refine G.iload_n (pc := 67) dm_X8_isSo_67 rfl ?_
    refine G.icmp_ge (pc := 68) (tgt := 75) dm_X8_isSo_68 (by decide) (fun c68 => ?_) (fun c68 => ?_)
    · rw [if_pos c68] at hres
      refine G.iconst (pc := 75) (v := (0 : Int32)) dm_X8_isSo_75 qi_0 ?_
      subst hres
      exact G.zreturn (pc := 76) dm_X8_isSo_76 rfl (by decide) rfl rfl
    · rw [if_neg c68] at hres
      refine G.iconst (pc := 71) (v := (1 : Int32)) dm_X8_isSo_71 qi_1 ?_
      refine G.goto (pc := 72) (tgt := 76) dm_X8_isSo_72 (by decide) ?_
      subst hres
      exact G.zreturn (pc := 76) dm_X8_isSo_76 rfl (by decide) rfl rfl
  rw [if_neg c1_2] at hres
  by_cases c1_3 : f = (5 : Int32)
  · rw [if_pos c1_3] at hres
    refine G.tabIn (pc := 1) (tgt := 77) dm_X8_isSo_1 c1_3 (by decide) (by decide) rfl (by decide) ?_
    refine G.iload_n (pc := 77) dm_X8_isSo_77 rfl ?_
    refine G.iload_n (pc := 78) dm_X8_isSo_78 rfl ?_
    refine G.icmp_lt (pc := 79) (tgt := 86) dm_X8_isSo_79 (by decide) (fun c79 => ?_) (fun c79 => ?_)
    · rw [if_pos c79] at hres
      refine G.iconst (pc := 86) (v := (0 : Int32)) dm_X8_isSo_86 qi_0 ?_
      subst hres
      exact G.zreturn (pc := 87) dm_X8_isSo_87 rfl (by decide) rfl rfl
    · rw [if_neg c79] at hres
      refine G.iconst (pc := 82) (v := (1 : Int32)) dm_X8_isSo_82 qi_1 ?_
      refine G.goto (pc := 83) (tgt := 87) dm_X8_isSo_83 (by decide) ?_
      subst hres
      exact G.zreturn (pc := 87) dm_X8_isSo_87 rfl (by decide) rfl rfl
  rw [if_neg c1_3] at hres
  by_cases c1_4 : f = (6 : Int32)
  · rw [if_pos c1_4] at hres
    refine G.tabIn (pc := 1) (tgt := 88) dm_X8_isSo_1 c1_4 (by decide) (by decide) rfl (by decide) ?_
    refine G.iload_n (pc := 88) dm_X8_isSo_88 rfl ?_
    refine G.iload_n (pc := 89) dm_X8_isSo_89 rfl ?_
    obtain ⟨z1_0, hz1⟩ := g_ex1 (f_X8_isBelowUnsigned left right)
    refine G.callS (pc := 90) (rest := []) (st1 := [.int z1_0]) (ws1 := []) [] dm_X8_isSo_90 gc_X8_isSo_148 (k_X8_isBelowUnsigned (left := left) (right := right) hz1) rfl rfl rfl rfl rfl rfl rfl rfl ?_
    have hb := b_below hz1
    replace hres : r_0 = f_X8_isSo_c90 z1_0 := hres.trans (by rw [← hz1])
    rw [f_X8_isSo_c90] at hres
    subst hres
    exact G.zreturn (pc := 93) dm_X8_isSo_93 rfl (q_nb hb) rfl rfl
  rw [if_neg c1_4] at hres
  by_cases e1_2 : f = (2 : Int32)
  · refine G.tabIn (pc := 1) (tgt := 94) dm_X8_isSo_1 e1_2 (by decide) (by decide) rfl (by decide) ?_
    refine G.iload_n (pc := 94) dm_X8_isSo_94 rfl ?_
    refine G.iload_n (pc := 95) dm_X8_isSo_95 rfl ?_
    obtain ⟨z2_0, hz2⟩ := g_ex1 (f_X8_isBelowUnsigned left right)
    refine G.callS (pc := 96) (rest := []) (st1 := [.int z2_0]) (ws1 := []) [] dm_X8_isSo_96 gc_X8_isSo_148 (k_X8_isBelowUnsigned (left := left) (right := right) hz2) rfl rfl rfl rfl rfl rfl rfl rfl ?_
    replace hres : r_0 = f_X8_isSo_c96 z2_0 := hres.trans (by rw [← hz2])
    rw [f_X8_isSo_c96] at hres
    refine G.if_ne (pc := 99) (tgt := 106) dm_X8_isSo_99 (by decide) (fun c99 => ?_) (fun c99 => ?_)
    · rw [if_neg c99] at hres
      refine G.iconst (pc := 106) (v := (0 : Int32)) dm_X8_isSo_106 qi_0 ?_
      subst hres
      exact G.zreturn (pc := 107) dm_X8_isSo_107 rfl (by decide) rfl rfl
    · rw [if_pos c99] at hres
      refine G.iconst (pc := 102) (v := (1 : Int32)) dm_X8_isSo_102 qi_1 ?_
      refine G.goto (pc := 103) (tgt := 107) dm_X8_isSo_103 (by decide) ?_
      subst hres
      exact G.zreturn (pc := 107) dm_X8_isSo_107 rfl (by decide) rfl rfl
  by_cases e1_3 : f = (3 : Int32)
  · refine G.tabIn (pc := 1) (tgt := 94) dm_X8_isSo_1 e1_3 (by decide) (by decide) rfl (by decide) ?_
    refine G.iload_n (pc := 94) dm_X8_isSo_94 rfl ?_
    refine G.iload_n (pc := 95) dm_X8_isSo_95 rfl ?_
    obtain ⟨z2_0, hz2⟩ := g_ex1 (f_X8_isBelowUnsigned left right)
    refine G.callS (pc := 96) (rest := []) (st1 := [.int z2_0]) (ws1 := []) [] dm_X8_isSo_96 gc_X8_isSo_148 (k_X8_isBelowUnsigned (left := left) (right := right) hz2) rfl rfl rfl rfl rfl rfl rfl rfl ?_
    replace hres : r_0 = f_X8_isSo_c96 z2_0 := hres.trans (by rw [← hz2])
    rw [f_X8_isSo_c96] at hres
    refine G.if_ne (pc := 99) (tgt := 106) dm_X8_isSo_99 (by decide) (fun c99 => ?_) (fun c99 => ?_)
    · rw [if_neg c99] at hres
      refine G.iconst (pc := 106) (v := (0 : Int32)) dm_X8_isSo_106 qi_0 ?_
      subst hres
      exact G.zreturn (pc := 107) dm_X8_isSo_107 rfl (by decide) rfl rfl
    · rw [if_pos c99] at hres
      refine G.iconst (pc := 102) (v := (1 : Int32)) dm_X8_isSo_102 qi_1 ?_
      refine G.goto (pc := 103) (tgt := 107) dm_X8_isSo_103 (by decide) ?_
      subst hres
      exact G.zreturn (pc := 107) dm_X8_isSo_107 rfl (by decide) rfl rfl
  refine G.tabOut (pc := 1) (tgt := 94) dm_X8_isSo_1 (g_tabmiss (by decide) (by decide) (fun v h1 h2 => by rcases (show v = 0 ∨ v = 1 ∨ v = 2 ∨ v = 3 ∨ v = 4 ∨ v = 5 ∨ v = 6 by omega) with rfl | rfl | rfl | rfl | rfl | rfl | rfl <;> intro h <;> first | exact c1_0 (by rw [h]; decide) | exact c1_1 (by rw [h]; decide) | exact c1_2 (by rw [h]; decide) | exact c1_3 (by rw [h]; decide) | exact c1_4 (by rw [h]; decide) | exact e1_2 (by rw [h]; decide) | exact e1_3 (by rw [h]; decide))) (by decide) ?_
  refine G.iload_n (pc := 94) dm_X8_isSo_94 rfl ?_
  refine G.iload_n (pc := 95) dm_X8_isSo_95 rfl ?_
  obtain ⟨z2_0, hz2⟩ := g_ex1 (f_X8_isBelowUnsigned left right)
  refine G.callS (pc := 96) (rest := []) (st1 := [.int z2_0]) (ws1 := []) [] dm_X8_isSo_96 gc_X8_isSo_148 (k_X8_isBelowUnsigned (left := left) (right := right) hz2) rfl rfl rfl rfl rfl rfl rfl rfl ?_
  replace hres : r_0 = f_X8_isSo_c96 z2_0 := hres.trans (by rw [← hz2])
  rw [f_X8_isSo_c96] at hres
  refine G.if_ne (pc := 99) (tgt := 106) dm_X8_isSo_99 (by decide) (fun c99 => ?_) (fun c99 => ?_)
  · rw [if_neg c99] at hres
    refine G.iconst (pc := 106) (v := (0 : Int32)) dm_X8_isSo_106 qi_0 ?_
    subst hres
    exact G.zreturn (pc := 107) dm_X8_isSo_107 rfl (by decide) rfl rfl
  · rw [if_pos c99] at hres
    refine G.iconst (pc := 102) (v := (1 : Int32)) dm_X8_isSo_102 qi_1 ?_
    refine G.goto (pc := 103) (tgt := 107) dm_X8_isSo_103 (by decide) ?_
    subst hres
    exact G.zreturn (pc := 107) dm_X8_isSo_107 rfl (by decide) rfl rfl
abbrev M_X8_compute : g_M := (cX8_compute, 4, RX8, (some .int), { frames := 1, cells := 0, slots := 0, locals := 21 }, 0, 0)
theorem dm_X8_compute_0 : decode M_X8_compute.1 0 = .ok (.iload_n 0, 1) := by decide +kernel
theorem dm_X8_compute_1 : decode M_X8_compute.1 1 = .ok (.tableswitch 108 0 6 #[43, 57, 61, 72, 86, 90, 104], 43) := by decide +kernel
theorem dm_X8_compute_44 : decode M_X8_compute.1 44 = .ok (.iload_n 1, 1) := by decide +kernel
theorem dm_X8_compute_45 : decode M_X8_compute.1 45 = .ok (.ifCond .eq 9, 3) := by decide +kernel
theorem dm_X8_compute_48 : decode M_X8_compute.1 48 = .ok (.iload_n 2, 1) := by decide +kernel
theorem dm_X8_compute_49 : decode M_X8_compute.1 49 = .ok (.iload_n 3, 1) := by decide +kernel
theorem dm_X8_compute_50 : decode M_X8_compute.1 50 = .ok (.isub, 1) := by decide +kernel
theorem dm_X8_compute_51 : decode M_X8_compute.1 51 = .ok (.goto 6, 3) := by decide +kernel
theorem dm_X8_compute_54 : decode M_X8_compute.1 54 = .ok (.iload_n 2, 1) := by decide +kernel
theorem dm_X8_compute_55 : decode M_X8_compute.1 55 = .ok (.iload_n 3, 1) := by decide +kernel
theorem dm_X8_compute_56 : decode M_X8_compute.1 56 = .ok (.iadd, 1) := by decide +kernel
theorem dm_X8_compute_57 : decode M_X8_compute.1 57 = .ok (.ireturn, 1) := by decide +kernel
theorem dm_X8_compute_58 : decode M_X8_compute.1 58 = .ok (.iload_n 2, 1) := by decide +kernel
theorem dm_X8_compute_59 : decode M_X8_compute.1 59 = .ok (.iload_n 3, 1) := by decide +kernel
theorem dm_X8_compute_60 : decode M_X8_compute.1 60 = .ok (.ishl, 1) := by decide +kernel
theorem dm_X8_compute_61 : decode M_X8_compute.1 61 = .ok (.ireturn, 1) := by decide +kernel
theorem dm_X8_compute_62 : decode M_X8_compute.1 62 = .ok (.iload_n 2, 1) := by decide +kernel
theorem dm_X8_compute_63 : decode M_X8_compute.1 63 = .ok (.iload_n 3, 1) := by decide +kernel
theorem dm_X8_compute_64 : decode M_X8_compute.1 64 = .ok (.if_icmp .ge 7, 3) := by decide +kernel
theorem dm_X8_compute_67 : decode M_X8_compute.1 67 = .ok (.iconst 1, 1) := by decide +kernel
theorem dm_X8_compute_68 : decode M_X8_compute.1 68 = .ok (.goto 4, 3) := by decide +kernel
theorem dm_X8_compute_71 : decode M_X8_compute.1 71 = .ok (.iconst 0, 1) := by decide +kernel
theorem dm_X8_compute_72 : decode M_X8_compute.1 72 = .ok (.ireturn, 1) := by decide +kernel
theorem dm_X8_compute_73 : decode M_X8_compute.1 73 = .ok (.iload_n 2, 1) := by decide +kernel
theorem dm_X8_compute_74 : decode M_X8_compute.1 74 = .ok (.iload_n 3, 1) := by decide +kernel
theorem dm_X8_compute_75 : decode M_X8_compute.1 75 = .ok (.invokestatic 148, 3) := by decide +kernel
theorem dm_X8_compute_78 : decode M_X8_compute.1 78 = .ok (.ifCond .eq 7, 3) := by decide +kernel
theorem dm_X8_compute_81 : decode M_X8_compute.1 81 = .ok (.iconst 1, 1) := by decide +kernel
theorem dm_X8_compute_82 : decode M_X8_compute.1 82 = .ok (.goto 4, 3) := by decide +kernel
theorem dm_X8_compute_85 : decode M_X8_compute.1 85 = .ok (.iconst 0, 1) := by decide +kernel
theorem dm_X8_compute_86 : decode M_X8_compute.1 86 = .ok (.ireturn, 1) := by decide +kernel
theorem dm_X8_compute_87 : decode M_X8_compute.1 87 = .ok (.iload_n 2, 1) := by decide +kernel
theorem dm_X8_compute_88 : decode M_X8_compute.1 88 = .ok (.iload_n 3, 1) := by decide +kernel
theorem dm_X8_compute_89 : decode M_X8_compute.1 89 = .ok (.ixor, 1) := by decide +kernel
theorem dm_X8_compute_90 : decode M_X8_compute.1 90 = .ok (.ireturn, 1) := by decide +kernel
theorem dm_X8_compute_91 : decode M_X8_compute.1 91 = .ok (.iload_n 1, 1) := by decide +kernel
theorem dm_X8_compute_92 : decode M_X8_compute.1 92 = .ok (.ifCond .eq 9, 3) := by decide +kernel
theorem dm_X8_compute_95 : decode M_X8_compute.1 95 = .ok (.iload_n 2, 1) := by decide +kernel
theorem dm_X8_compute_96 : decode M_X8_compute.1 96 = .ok (.iload_n 3, 1) := by decide +kernel
theorem dm_X8_compute_97 : decode M_X8_compute.1 97 = .ok (.ishr, 1) := by decide +kernel
theorem dm_X8_compute_98 : decode M_X8_compute.1 98 = .ok (.goto 6, 3) := by decide +kernel
theorem dm_X8_compute_101 : decode M_X8_compute.1 101 = .ok (.iload_n 2, 1) := by decide +kernel
theorem dm_X8_compute_102 : decode M_X8_compute.1 102 = .ok (.iload_n 3, 1) := by decide +kernel
theorem dm_X8_compute_103 : decode M_X8_compute.1 103 = .ok (.iushr, 1) := by decide +kernel
theorem dm_X8_compute_104 : decode M_X8_compute.1 104 = .ok (.ireturn, 1) := by decide +kernel
theorem dm_X8_compute_105 : decode M_X8_compute.1 105 = .ok (.iload_n 2, 1) := by decide +kernel
theorem dm_X8_compute_106 : decode M_X8_compute.1 106 = .ok (.iload_n 3, 1) := by decide +kernel
theorem dm_X8_compute_107 : decode M_X8_compute.1 107 = .ok (.ior, 1) := by decide +kernel
theorem dm_X8_compute_108 : decode M_X8_compute.1 108 = .ok (.ireturn, 1) := by decide +kernel
theorem dm_X8_compute_109 : decode M_X8_compute.1 109 = .ok (.iload_n 2, 1) := by decide +kernel
theorem dm_X8_compute_110 : decode M_X8_compute.1 110 = .ok (.iload_n 3, 1) := by decide +kernel
theorem dm_X8_compute_111 : decode M_X8_compute.1 111 = .ok (.iand, 1) := by decide +kernel
theorem dm_X8_compute_112 : decode M_X8_compute.1 112 = .ok (.ireturn, 1) := by decide +kernel
theorem gc_X8_compute_148 : g_cs M_X8_compute 148 M_X8_isBelowUnsigned yX8_isBelowUnsigned 2 := ⟨tw674, tw675, tw32, tw676, ⟨rfl, rfl, rfl, rfl⟩, gd_X8_isBelowUnsigned, ⟨by decide, by decide⟩⟩
def f_X8_compute_c75 (z1_0 : Int32) : Int32 := (if z1_0 = 0 then (0 : Int32) else (1 : Int32))
def f_X8_compute (f : Int32) (other : Int32) (left : Int32) (right : Int32) : Int32 := (if f = (0 : Int32) then (if other = 0 then (left + right) else (left - right)) else (if f = (1 : Int32) then (left <<< (right &&& 31)) else (if f = (2 : Int32) then (if right ≤ left then (0 : Int32) else (1 : Int32)) else (if f = (3 : Int32) then (f_X8_compute_c75 (f_X8_isBelowUnsigned left right)) else (if f = (4 : Int32) then (left ^^^ right) else (if f = (5 : Int32) then (if other = 0 then (g_ushr left right) else (left >>> (right &&& 31))) else (if f = (6 : Int32) then (left ||| right) else (left &&& right))))))))
set_option maxRecDepth 20000 in
theorem k_X8_compute {f : Int32} {other : Int32} {left : Int32} {right : Int32} {r_0 : Int32} (hres : r_0 = f_X8_compute f other left right) : K M_X8_compute yX8_compute [.int f, .int other, .int left, .int right] [] (some (.int r_0)) [] := by
  refine K.of (lv := [(0, .int f), (1, .int other), (2, .int left), (3, .int right)]) (by decide +kernel) rfl rfl rfl ?_
  rw [f_X8_compute] at hres
  refine G.iload_n (pc := 0) dm_X8_compute_0 rfl ?_
  by_cases c1_0 : f = (0 : Int32)
  · rw [if_pos c1_0] at hres
    refine G.tabIn (pc := 1) (tgt := 44) dm_X8_compute_1 c1_0 (by decide) (by decide) rfl (by decide) ?_
    refine G.iload_n (pc := 44) dm_X8_compute_44 rfl ?_
    refine G.if_eq (pc := 45) (tgt := 54) dm_X8_compute_45 (by decide) (fun c45 => ?_) (fun c45 => ?_)
    · rw [if_pos c45] at hres
      refine G.iload_n (pc := 54) dm_X8_compute_54 rfl ?_
      refine G.iload_n (pc := 55) dm_X8_compute_55 rfl ?_
      refine G.iadd (pc := 56) dm_X8_compute_56 ?_
      subst hres
      exact G.ireturn (pc := 57) dm_X8_compute_57 rfl rfl rfl
    · rw [if_neg c45] at hres
      refine G.iload_n (pc := 48) dm_X8_compute_48 rfl ?_
      refine G.iload_n (pc := 49) dm_X8_compute_49 rfl ?_
      refine G.isub (pc := 50) dm_X8_compute_50 ?_
      refine G.goto (pc := 51) (tgt := 57) dm_X8_compute_51 (by decide) ?_
      subst hres
      exact G.ireturn (pc := 57) dm_X8_compute_57 rfl rfl rfl
  rw [if_neg c1_0] at hres
  by_cases c1_1 : f = (1 : Int32)
  · rw [if_pos c1_1] at hres
    refine G.tabIn (pc := 1) (tgt := 58) dm_X8_compute_1 c1_1 (by decide) (by decide) rfl (by decide) ?_
    refine G.iload_n (pc := 58) dm_X8_compute_58 rfl ?_
    refine G.iload_n (pc := 59) dm_X8_compute_59 rfl ?_
    refine G.ishl (pc := 60) dm_X8_compute_60 ?_
    subst hres
    exact G.ireturn (pc := 61) dm_X8_compute_61 rfl rfl rfl
  rw [if_neg c1_1] at hres
  by_cases c1_2 : f = (2 : Int32)
  · rw [if_pos c1_2] at hres
    refine G.tabIn (pc := 1) (tgt := 62) dm_X8_compute_1 c1_2 (by decide) (by decide) rfl (by decide) ?_
    refine G.iload_n (pc := 62) dm_X8_compute_62 rfl ?_
    refine G.iload_n (pc := 63) dm_X8_compute_63 rfl ?_
    refine G.icmp_ge (pc := 64) (tgt := 71) dm_X8_compute_64 (by decide) (fun c64 => ?_) (fun c64 => ?_)
    · rw [if_pos c64] at hres
      refine G.iconst (pc := 71) (v := (0 : Int32)) dm_X8_compute_71 qi_0 ?_
      subst hres
      exact G.ireturn (pc := 72) dm_X8_compute_72 rfl rfl rfl
    · rw [if_neg c64] at hres
      refine G.iconst (pc := 67) (v := (1 : Int32)) dm_X8_compute_67 qi_1 ?_
      refine G.goto (pc := 68) (tgt := 72) dm_X8_compute_68 (by decide) ?_
      subst hres
      exact G.ireturn (pc := 72) dm_X8_compute_72 rfl rfl rfl
  rw [if_neg c1_2] at hres
  by_cases c1_3 : f = (3 : Int32)
  · rw [if_pos c1_3] at hres
    refine G.tabIn (pc := 1) (tgt := 73) dm_X8_compute_1 c1_3 (by decide) (by decide) rfl (by decide) ?_
    refine G.iload_n (pc := 73) dm_X8_compute_73 rfl ?_
    refine G.iload_n (pc := 74) dm_X8_compute_74 rfl ?_
    obtain ⟨z1_0, hz1⟩ := g_ex1 (f_X8_isBelowUnsigned left right)
    refine G.callS (pc := 75) (rest := []) (st1 := [.int z1_0]) (ws1 := []) [] dm_X8_compute_75 gc_X8_compute_148 (k_X8_isBelowUnsigned (left := left) (right := right) hz1) rfl rfl rfl rfl rfl rfl rfl rfl ?_
    replace hres : r_0 = f_X8_compute_c75 z1_0 := hres.trans (by rw [← hz1])
    rw [f_X8_compute_c75] at hres
    refine G.if_eq (pc := 78) (tgt := 85) dm_X8_compute_78 (by decide) (fun c78 => ?_) (fun c78 => ?_)
    · rw [if_pos c78] at hres
      refine G.iconst (pc := 85) (v := (0 : Int32)) dm_X8_compute_85 qi_0 ?_
      subst hres
      exact G.ireturn (pc := 86) dm_X8_compute_86 rfl rfl rfl
    · rw [if_neg c78] at hres
      refine G.iconst (pc := 81) (v := (1 : Int32)) dm_X8_compute_81 qi_1 ?_
      refine G.goto (pc := 82) (tgt := 86) dm_X8_compute_82 (by decide) ?_
      subst hres
      exact G.ireturn (pc := 86) dm_X8_compute_86 rfl rfl rfl
  rw [if_neg c1_3] at hres
  by_cases c1_4 : f = (4 : Int32)
  · rw [if_pos c1_4] at hres
    refine G.tabIn (pc := 1) (tgt := 87) dm_X8_compute_1 c1_4 (by decide) (by decide) rfl (by decide) ?_
    refine G.iload_n (pc := 87) dm_X8_compute_87 rfl ?_
    refine G.iload_n (pc := 88) dm_X8_compute_88 rfl ?_
    refine G.ixor (pc := 89) dm_X8_compute_89 ?_
    subst hres
    exact G.ireturn (pc := 90) dm_X8_compute_90 rfl rfl rfl
  rw [if_neg c1_4] at hres
  by_cases c1_5 : f = (5 : Int32)
  · rw [if_pos c1_5] at hres
    refine G.tabIn (pc := 1) (tgt := 91) dm_X8_compute_1 c1_5 (by decide) (by decide) rfl (by decide) ?_
    refine G.iload_n (pc := 91) dm_X8_compute_91 rfl ?_
    refine G.if_eq (pc := 92) (tgt := 101) dm_X8_compute_92 (by decide) (fun c92 => ?_) (fun c92 => ?_)
    · rw [if_pos c92] at hres
      refine G.iload_n (pc := 101) dm_X8_compute_101 rfl ?_
      refine G.iload_n (pc := 102) dm_X8_compute_102 rfl ?_
      refine G.iushr (pc := 103) dm_X8_compute_103 ?_
      subst hres
      exact G.ireturn (pc := 104) dm_X8_compute_104 rfl rfl rfl
    · rw [if_neg c92] at hres
      refine G.iload_n (pc := 95) dm_X8_compute_95 rfl ?_
      refine G.iload_n (pc := 96) dm_X8_compute_96 rfl ?_
      refine G.ishr (pc := 97) dm_X8_compute_97 ?_
      refine G.goto (pc := 98) (tgt := 104) dm_X8_compute_98 (by decide) ?_
      subst hres
      exact G.ireturn (pc := 104) dm_X8_compute_104 rfl rfl rfl
  rw [if_neg c1_5] at hres
  by_cases c1_6 : f = (6 : Int32)
  · rw [if_pos c1_6] at hres
    refine G.tabIn (pc := 1) (tgt := 105) dm_X8_compute_1 c1_6 (by decide) (by decide) rfl (by decide) ?_
    refine G.iload_n (pc := 105) dm_X8_compute_105 rfl ?_
    refine G.iload_n (pc := 106) dm_X8_compute_106 rfl ?_
    refine G.ior (pc := 107) dm_X8_compute_107 ?_
    subst hres
    exact G.ireturn (pc := 108) dm_X8_compute_108 rfl rfl rfl
  rw [if_neg c1_6] at hres
  refine G.tabOut (pc := 1) (tgt := 109) dm_X8_compute_1 (g_tabmiss (by decide) (by decide) (fun v h1 h2 => by rcases (show v = 0 ∨ v = 1 ∨ v = 2 ∨ v = 3 ∨ v = 4 ∨ v = 5 ∨ v = 6 by omega) with rfl | rfl | rfl | rfl | rfl | rfl | rfl <;> intro h <;> first | exact c1_0 (by rw [h]; decide) | exact c1_1 (by rw [h]; decide) | exact c1_2 (by rw [h]; decide) | exact c1_3 (by rw [h]; decide) | exact c1_4 (by rw [h]; decide) | exact c1_5 (by rw [h]; decide) | exact c1_6 (by rw [h]; decide))) (by decide) ?_
  refine G.iload_n (pc := 109) dm_X8_compute_109 rfl ?_
  refine G.iload_n (pc := 110) dm_X8_compute_110 rfl ?_
  refine G.iand (pc := 111) dm_X8_compute_111 ?_
  subst hres
  exact G.ireturn (pc := 112) dm_X8_compute_112 rfl rfl rfl
abbrev M_X2_add : g_M := (cX2_add, 5, RX2, none, { frames := 2, cells := 0, slots := 0, locals := 42 }, 0, 0)
theorem dm_X2_add_0 : decode M_X2_add.1 0 = .ok (.aload_n 0, 1) := by decide +kernel
theorem dm_X2_add_1 : decode M_X2_add.1 1 = .ok (.getfield 21, 3) := by decide +kernel
theorem dm_X2_add_4 : decode M_X2_add.1 4 = .ok (.invokestatic 25, 3) := by decide +kernel
theorem dm_X2_add_7 : decode M_X2_add.1 7 = .ok (.istore 4, 2) := by decide +kernel
theorem dm_X2_add_9 : decode M_X2_add.1 9 = .ok (.aload_n 0, 1) := by decide +kernel
theorem dm_X2_add_10 : decode M_X2_add.1 10 = .ok (.getfield 9, 3) := by decide +kernel
theorem dm_X2_add_13 : decode M_X2_add.1 13 = .ok (.iload 4, 2) := by decide +kernel
theorem dm_X2_add_15 : decode M_X2_add.1 15 = .ok (.iload_n 1, 1) := by decide +kernel
theorem dm_X2_add_16 : decode M_X2_add.1 16 = .ok (.iastore, 1) := by decide +kernel
theorem dm_X2_add_17 : decode M_X2_add.1 17 = .ok (.aload_n 0, 1) := by decide +kernel
theorem dm_X2_add_18 : decode M_X2_add.1 18 = .ok (.getfield 15, 3) := by decide +kernel
theorem dm_X2_add_21 : decode M_X2_add.1 21 = .ok (.iload 4, 2) := by decide +kernel
theorem dm_X2_add_23 : decode M_X2_add.1 23 = .ok (.iload_n 2, 1) := by decide +kernel
theorem dm_X2_add_24 : decode M_X2_add.1 24 = .ok (.iastore, 1) := by decide +kernel
theorem dm_X2_add_25 : decode M_X2_add.1 25 = .ok (.aload_n 0, 1) := by decide +kernel
theorem dm_X2_add_26 : decode M_X2_add.1 26 = .ok (.getfield 18, 3) := by decide +kernel
theorem dm_X2_add_29 : decode M_X2_add.1 29 = .ok (.iload 4, 2) := by decide +kernel
theorem dm_X2_add_31 : decode M_X2_add.1 31 = .ok (.iload_n 3, 1) := by decide +kernel
theorem dm_X2_add_32 : decode M_X2_add.1 32 = .ok (.iastore, 1) := by decide +kernel
theorem dm_X2_add_33 : decode M_X2_add.1 33 = .ok (.aload_n 0, 1) := by decide +kernel
theorem dm_X2_add_34 : decode M_X2_add.1 34 = .ok (.dup, 1) := by decide +kernel
theorem dm_X2_add_35 : decode M_X2_add.1 35 = .ok (.getfield 21, 3) := by decide +kernel
theorem dm_X2_add_38 : decode M_X2_add.1 38 = .ok (.iconst 1, 1) := by decide +kernel
theorem dm_X2_add_39 : decode M_X2_add.1 39 = .ok (.iadd, 1) := by decide +kernel
theorem dm_X2_add_40 : decode M_X2_add.1 40 = .ok (.putfield 21, 3) := by decide +kernel
theorem dm_X2_add_43 : decode M_X2_add.1 43 = .ok (.return_, 1) := by decide +kernel
theorem gc_X2_add_25 : g_cs M_X2_add 25 M_X2_placeOf yX2_placeOf 1 := ⟨tw758, tw759, tw56, tw760, ⟨rfl, rfl, rfl, rfl⟩, gd_X2_placeOf, ⟨by decide, by decide⟩⟩
def f_X2_add_c4 (address : Int32) (cycle : Int32) (retirement : Int32) (hcount : Int32) (haddr : Nat → Int32) (hcyc : Nat → Int32) (hret : Nat → Int32) (z1_0 : Int32) : Int32 × (Nat → Int32) × (Nat → Int32) × (Nat → Int32) := ((hcount + (1 : Int32)), (upd haddr (Int32.toNatClampNeg z1_0) address), (upd hcyc (Int32.toNatClampNeg z1_0) cycle), (upd hret (Int32.toNatClampNeg z1_0) retirement))
def f_X2_add (address : Int32) (cycle : Int32) (retirement : Int32) (hcount : Int32) (haddr : Nat → Int32) (hcyc : Nat → Int32) (hret : Nat → Int32) : Int32 × (Nat → Int32) × (Nat → Int32) × (Nat → Int32) := (f_X2_add_c4 address cycle retirement hcount haddr hcyc hret (f_X2_placeOf hcount))
set_option maxRecDepth 20000 in
theorem k_X2_add {address : Int32} {cycle : Int32} {retirement : Int32} {hcount : Int32} {haddr : Nat → Int32} {hcyc : Nat → Int32} {hret : Nat → Int32} {r_0 : Int32} {r_1 : (Nat → Int32)} {r_2 : (Nat → Int32)} {r_3 : (Nat → Int32)} (hres : (r_0, r_1, r_2, r_3) = f_X2_add address cycle retirement hcount haddr hcyc hret) : K M_X2_add yX2_add [.ref 0, .int address, .int cycle, .int retirement] (w_H hcount haddr hcyc hret) (none) (w_H r_0 r_1 r_2 r_3) := by
  refine K.of (lv := [(0, .ref 0), (1, .int address), (2, .int cycle), (3, .int retirement)]) (by decide +kernel) rfl rfl rfl ?_
  rw [f_X2_add] at hres
  refine G.aload_n (pc := 0) dm_X2_add_0 rfl ?_
  refine G.getfield (pc := 1) dm_X2_add_1 gf_X2_21 rfl rfl ?_
  obtain ⟨z1_0, hz1⟩ := g_ex1 (f_X2_placeOf hcount)
  refine G.callS (pc := 4) (rest := []) (st1 := [.int z1_0]) (ws1 := (w_H hcount haddr hcyc hret)) [] dm_X2_add_4 gc_X2_add_25 (k_X2_placeOf (x := hcount) hz1) rfl rfl rfl rfl rfl rfl rfl rfl ?_
  have hp := a_pl hz1
  replace hres : (r_0, r_1, r_2, r_3) = f_X2_add_c4 address cycle retirement hcount haddr hcyc hret z1_0 := hres.trans (by rw [← hz1])
  rw [f_X2_add_c4] at hres
  refine G.istore (pc := 7) (lv1 := [(4, .int z1_0), (0, .ref 0), (1, .int address), (2, .int cycle), (3, .int retirement)]) dm_X2_add_7 rfl rfl ?_
  refine G.aload_n (pc := 9) dm_X2_add_9 rfl ?_
  refine G.getfield (pc := 10) dm_X2_add_10 gf_X2_9 rfl rfl ?_
  refine G.iload (pc := 13) dm_X2_add_13 rfl ?_
  refine G.iload_n (pc := 15) dm_X2_add_15 rfl ?_
  refine G.iastore (pc := 16) (ws1 := (w_H hcount (upd haddr (Int32.toNatClampNeg z1_0) address) hcyc hret)) dm_X2_add_16 rfl hp rfl ?_
  refine G.aload_n (pc := 17) dm_X2_add_17 rfl ?_
  refine G.getfield (pc := 18) dm_X2_add_18 gf_X2_15 rfl rfl ?_
  refine G.iload (pc := 21) dm_X2_add_21 rfl ?_
  refine G.iload_n (pc := 23) dm_X2_add_23 rfl ?_
  refine G.iastore (pc := 24) (ws1 := (w_H hcount (upd haddr (Int32.toNatClampNeg z1_0) address) (upd hcyc (Int32.toNatClampNeg z1_0) cycle) hret)) dm_X2_add_24 rfl hp rfl ?_
  refine G.aload_n (pc := 25) dm_X2_add_25 rfl ?_
  refine G.getfield (pc := 26) dm_X2_add_26 gf_X2_18 rfl rfl ?_
  refine G.iload (pc := 29) dm_X2_add_29 rfl ?_
  refine G.iload_n (pc := 31) dm_X2_add_31 rfl ?_
  refine G.iastore (pc := 32) (ws1 := (w_H hcount (upd haddr (Int32.toNatClampNeg z1_0) address) (upd hcyc (Int32.toNatClampNeg z1_0) cycle) (upd hret (Int32.toNatClampNeg z1_0) retirement))) dm_X2_add_32 rfl hp rfl ?_
  refine G.aload_n (pc := 33) dm_X2_add_33 rfl ?_
  refine G.dup (pc := 34) dm_X2_add_34 rfl ?_
  refine G.getfield (pc := 35) dm_X2_add_35 gf_X2_21 rfl rfl ?_
  refine G.iconst (pc := 38) (v := (1 : Int32)) dm_X2_add_38 qi_1 ?_
  refine G.iadd (pc := 39) dm_X2_add_39 ?_
  refine G.putfield (pc := 40) (ws1 := (w_H (hcount + (1 : Int32)) (upd haddr (Int32.toNatClampNeg z1_0) address) (upd hcyc (Int32.toNatClampNeg z1_0) cycle) (upd hret (Int32.toNatClampNeg z1_0) retirement))) dm_X2_add_40 gw_X2_21 rfl (g_fit_i _) rfl rfl ?_
  cases hres
  exact G.vreturn (pc := 43) dm_X2_add_43 rfl rfl rfl
abbrev M_X2_entry : g_M := (cX2_entry, 4, RX2, (some .int), { frames := 2, cells := 0, slots := 0, locals := 42 }, 0, 0)
theorem dm_X2_entry_0 : decode M_X2_entry.1 0 = .ok (.iload_n 1, 1) := by decide +kernel
theorem dm_X2_entry_1 : decode M_X2_entry.1 1 = .ok (.ifCond .lt 17, 3) := by decide +kernel
theorem dm_X2_entry_4 : decode M_X2_entry.1 4 = .ok (.iload_n 1, 1) := by decide +kernel
theorem dm_X2_entry_5 : decode M_X2_entry.1 5 = .ok (.bipush 16, 2) := by decide +kernel
theorem dm_X2_entry_7 : decode M_X2_entry.1 7 = .ok (.if_icmp .ge 11, 3) := by decide +kernel
theorem dm_X2_entry_10 : decode M_X2_entry.1 10 = .ok (.iload_n 1, 1) := by decide +kernel
theorem dm_X2_entry_11 : decode M_X2_entry.1 11 = .ok (.aload_n 0, 1) := by decide +kernel
theorem dm_X2_entry_12 : decode M_X2_entry.1 12 = .ok (.getfield 21, 3) := by decide +kernel
theorem dm_X2_entry_15 : decode M_X2_entry.1 15 = .ok (.if_icmp .lt 5, 3) := by decide +kernel
theorem dm_X2_entry_18 : decode M_X2_entry.1 18 = .ok (.iconst (-1), 1) := by decide +kernel
theorem dm_X2_entry_19 : decode M_X2_entry.1 19 = .ok (.ireturn, 1) := by decide +kernel
theorem dm_X2_entry_20 : decode M_X2_entry.1 20 = .ok (.aload_n 0, 1) := by decide +kernel
theorem dm_X2_entry_21 : decode M_X2_entry.1 21 = .ok (.getfield 21, 3) := by decide +kernel
theorem dm_X2_entry_24 : decode M_X2_entry.1 24 = .ok (.iconst 1, 1) := by decide +kernel
theorem dm_X2_entry_25 : decode M_X2_entry.1 25 = .ok (.isub, 1) := by decide +kernel
theorem dm_X2_entry_26 : decode M_X2_entry.1 26 = .ok (.iload_n 1, 1) := by decide +kernel
theorem dm_X2_entry_27 : decode M_X2_entry.1 27 = .ok (.isub, 1) := by decide +kernel
theorem dm_X2_entry_28 : decode M_X2_entry.1 28 = .ok (.invokestatic 25, 3) := by decide +kernel
theorem dm_X2_entry_31 : decode M_X2_entry.1 31 = .ok (.istore_n 3, 1) := by decide +kernel
theorem dm_X2_entry_32 : decode M_X2_entry.1 32 = .ok (.iload_n 2, 1) := by decide +kernel
theorem dm_X2_entry_33 : decode M_X2_entry.1 33 = .ok (.tableswitch 48 0 2 #[27, 34, 41], 27) := by decide +kernel
theorem dm_X2_entry_60 : decode M_X2_entry.1 60 = .ok (.aload_n 0, 1) := by decide +kernel
theorem dm_X2_entry_61 : decode M_X2_entry.1 61 = .ok (.getfield 9, 3) := by decide +kernel
theorem dm_X2_entry_64 : decode M_X2_entry.1 64 = .ok (.iload_n 3, 1) := by decide +kernel
theorem dm_X2_entry_65 : decode M_X2_entry.1 65 = .ok (.iaload, 1) := by decide +kernel
theorem dm_X2_entry_66 : decode M_X2_entry.1 66 = .ok (.ireturn, 1) := by decide +kernel
theorem dm_X2_entry_67 : decode M_X2_entry.1 67 = .ok (.aload_n 0, 1) := by decide +kernel
theorem dm_X2_entry_68 : decode M_X2_entry.1 68 = .ok (.getfield 15, 3) := by decide +kernel
theorem dm_X2_entry_71 : decode M_X2_entry.1 71 = .ok (.iload_n 3, 1) := by decide +kernel
theorem dm_X2_entry_72 : decode M_X2_entry.1 72 = .ok (.iaload, 1) := by decide +kernel
theorem dm_X2_entry_73 : decode M_X2_entry.1 73 = .ok (.ireturn, 1) := by decide +kernel
theorem dm_X2_entry_74 : decode M_X2_entry.1 74 = .ok (.aload_n 0, 1) := by decide +kernel
theorem dm_X2_entry_75 : decode M_X2_entry.1 75 = .ok (.getfield 18, 3) := by decide +kernel
theorem dm_X2_entry_78 : decode M_X2_entry.1 78 = .ok (.iload_n 3, 1) := by decide +kernel
theorem dm_X2_entry_79 : decode M_X2_entry.1 79 = .ok (.iaload, 1) := by decide +kernel
theorem dm_X2_entry_80 : decode M_X2_entry.1 80 = .ok (.ireturn, 1) := by decide +kernel
theorem dm_X2_entry_81 : decode M_X2_entry.1 81 = .ok (.iconst (-1), 1) := by decide +kernel
theorem dm_X2_entry_82 : decode M_X2_entry.1 82 = .ok (.ireturn, 1) := by decide +kernel
theorem gc_X2_entry_25 : g_cs M_X2_entry 25 M_X2_placeOf yX2_placeOf 1 := ⟨tw758, tw759, tw56, tw760, ⟨rfl, rfl, rfl, rfl⟩, gd_X2_placeOf, ⟨by decide, by decide⟩⟩
def f_X2_entry_c28 (what : Int32) (haddr : Nat → Int32) (hcyc : Nat → Int32) (hret : Nat → Int32) (z1_0 : Int32) : Int32 := (if what = (0 : Int32) then (haddr (Int32.toNatClampNeg z1_0)) else (if what = (1 : Int32) then (hcyc (Int32.toNatClampNeg z1_0)) else (if what = (2 : Int32) then (hret (Int32.toNatClampNeg z1_0)) else (-1 : Int32))))
def f_X2_entry (k : Int32) (what : Int32) (hcount : Int32) (haddr : Nat → Int32) (hcyc : Nat → Int32) (hret : Nat → Int32) : Int32 := (if k < 0 then (-1 : Int32) else (if (16 : Int32) ≤ k then (-1 : Int32) else (if k < hcount then (f_X2_entry_c28 what haddr hcyc hret (f_X2_placeOf ((hcount - (1 : Int32)) - k))) else (-1 : Int32))))
set_option maxRecDepth 20000 in
theorem k_X2_entry {k : Int32} {what : Int32} {hcount : Int32} {haddr : Nat → Int32} {hcyc : Nat → Int32} {hret : Nat → Int32} {r_0 : Int32} (hres : r_0 = f_X2_entry k what hcount haddr hcyc hret) : K M_X2_entry yX2_entry [.ref 0, .int k, .int what] (w_H hcount haddr hcyc hret) (some (.int r_0)) (w_H hcount haddr hcyc hret) := by
  refine K.of (lv := [(0, .ref 0), (1, .int k), (2, .int what)]) (by decide +kernel) rfl rfl rfl ?_
  rw [f_X2_entry] at hres
  refine G.iload_n (pc := 0) dm_X2_entry_0 rfl ?_
  refine G.if_lt (pc := 1) (tgt := 18) dm_X2_entry_1 (by decide) (fun c1 => ?_) (fun c1 => ?_)
  · rw [if_pos c1] at hres
    refine G.iconst (pc := 18) (v := (-1 : Int32)) dm_X2_entry_18 qi_m1 ?_
    subst hres
    exact G.ireturn (pc := 19) dm_X2_entry_19 rfl rfl rfl
  · rw [if_neg c1] at hres
    refine G.iload_n (pc := 4) dm_X2_entry_4 rfl ?_
    refine G.bipush (pc := 5) (v := (16 : Int32)) dm_X2_entry_5 qb_16 ?_
    refine G.icmp_ge (pc := 7) (tgt := 18) dm_X2_entry_7 (by decide) (fun c7 => ?_) (fun c7 => ?_)
    · rw [if_pos c7] at hres
      refine G.iconst (pc := 18) (v := (-1 : Int32)) dm_X2_entry_18 qi_m1 ?_
      subst hres
      exact G.ireturn (pc := 19) dm_X2_entry_19 rfl rfl rfl
    · rw [if_neg c7] at hres
      refine G.iload_n (pc := 10) dm_X2_entry_10 rfl ?_
      refine G.aload_n (pc := 11) dm_X2_entry_11 rfl ?_
      refine G.getfield (pc := 12) dm_X2_entry_12 gf_X2_21 rfl rfl ?_
      refine G.icmp_lt (pc := 15) (tgt := 20) dm_X2_entry_15 (by decide) (fun c15 => ?_) (fun c15 => ?_)
      · rw [if_pos c15] at hres
        refine G.aload_n (pc := 20) dm_X2_entry_20 rfl ?_
        refine G.getfield (pc := 21) dm_X2_entry_21 gf_X2_21 rfl rfl ?_
        refine G.iconst (pc := 24) (v := (1 : Int32)) dm_X2_entry_24 qi_1 ?_
        refine G.isub (pc := 25) dm_X2_entry_25 ?_
        refine G.iload_n (pc := 26) dm_X2_entry_26 rfl ?_
        refine G.isub (pc := 27) dm_X2_entry_27 ?_
        obtain ⟨z1_0, hz1⟩ := g_ex1 (f_X2_placeOf ((hcount - (1 : Int32)) - k))
        refine G.callS (pc := 28) (rest := []) (st1 := [.int z1_0]) (ws1 := (w_H hcount haddr hcyc hret)) [] dm_X2_entry_28 gc_X2_entry_25 (k_X2_placeOf (x := ((hcount - (1 : Int32)) - k)) hz1) rfl rfl rfl rfl rfl rfl rfl rfl ?_
        have hp := a_pl hz1
        replace hres : r_0 = f_X2_entry_c28 what haddr hcyc hret z1_0 := hres.trans (by rw [← hz1])
        rw [f_X2_entry_c28] at hres
        refine G.istore_n (pc := 31) (lv1 := [(3, .int z1_0), (0, .ref 0), (1, .int k), (2, .int what)]) dm_X2_entry_31 rfl rfl ?_
        refine G.iload_n (pc := 32) dm_X2_entry_32 rfl ?_
        by_cases c33_0 : what = (0 : Int32)
        · rw [if_pos c33_0] at hres
          refine G.tabIn (pc := 33) (tgt := 60) dm_X2_entry_33 c33_0 (by decide) (by decide) rfl (by decide) ?_
          refine G.aload_n (pc := 60) dm_X2_entry_60 rfl ?_
          refine G.getfield (pc := 61) dm_X2_entry_61 gf_X2_9 rfl rfl ?_
          refine G.iload_n (pc := 64) dm_X2_entry_64 rfl ?_
          refine G.iaload (pc := 65) dm_X2_entry_65 rfl hp ?_
          subst hres
          exact G.ireturn (pc := 66) dm_X2_entry_66 rfl rfl rfl
        rw [if_neg c33_0] at hres
        by_cases c33_1 : what = (1 : Int32)
        · rw [if_pos c33_1] at hres
          refine G.tabIn (pc := 33) (tgt := 67) dm_X2_entry_33 c33_1 (by decide) (by decide) rfl (by decide) ?_
          refine G.aload_n (pc := 67) dm_X2_entry_67 rfl ?_
          refine G.getfield (pc := 68) dm_X2_entry_68 gf_X2_15 rfl rfl ?_
          refine G.iload_n (pc := 71) dm_X2_entry_71 rfl ?_
          refine G.iaload (pc := 72) dm_X2_entry_72 rfl hp ?_
          subst hres
          exact G.ireturn (pc := 73) dm_X2_entry_73 rfl rfl rfl
        rw [if_neg c33_1] at hres
        by_cases c33_2 : what = (2 : Int32)
        · rw [if_pos c33_2] at hres
          refine G.tabIn (pc := 33) (tgt := 74) dm_X2_entry_33 c33_2 (by decide) (by decide) rfl (by decide) ?_
          refine G.aload_n (pc := 74) dm_X2_entry_74 rfl ?_
          refine G.getfield (pc := 75) dm_X2_entry_75 gf_X2_18 rfl rfl ?_
          refine G.iload_n (pc := 78) dm_X2_entry_78 rfl ?_
          refine G.iaload (pc := 79) dm_X2_entry_79 rfl hp ?_
          subst hres
          exact G.ireturn (pc := 80) dm_X2_entry_80 rfl rfl rfl
        rw [if_neg c33_2] at hres
        refine G.tabOut (pc := 33) (tgt := 81) dm_X2_entry_33 (g_tabmiss (by decide) (by decide) (fun v h1 h2 => by rcases (show v = 0 ∨ v = 1 ∨ v = 2 by omega) with rfl | rfl | rfl <;> intro h <;> first | exact c33_0 (by rw [h]; decide) | exact c33_1 (by rw [h]; decide) | exact c33_2 (by rw [h]; decide))) (by decide) ?_
        refine G.iconst (pc := 81) (v := (-1 : Int32)) dm_X2_entry_81 qi_m1 ?_
        subst hres
        exact G.ireturn (pc := 82) dm_X2_entry_82 rfl rfl rfl
      · rw [if_neg c15] at hres
        refine G.iconst (pc := 18) (v := (-1 : Int32)) dm_X2_entry_18 qi_m1 ?_
        subst hres
        exact G.ireturn (pc := 19) dm_X2_entry_19 rfl rfl rfl
abbrev M_X6_retirement : g_M := (cX6_retirement, 4, RX6, (some .int), { frames := 1, cells := 0, slots := 0, locals := 22 }, 0, 0)
theorem dm_X6_retirement_0 : decode M_X6_retirement.1 0 = .ok (.aload_n 0, 1) := by decide +kernel
theorem dm_X6_retirement_1 : decode M_X6_retirement.1 1 = .ok (.getfield 15, 3) := by decide +kernel
theorem dm_X6_retirement_4 : decode M_X6_retirement.1 4 = .ok (.iload_n 1, 1) := by decide +kernel
theorem dm_X6_retirement_5 : decode M_X6_retirement.1 5 = .ok (.imul, 1) := by decide +kernel
theorem dm_X6_retirement_6 : decode M_X6_retirement.1 6 = .ok (.iload_n 2, 1) := by decide +kernel
theorem dm_X6_retirement_7 : decode M_X6_retirement.1 7 = .ok (.isub, 1) := by decide +kernel
theorem dm_X6_retirement_8 : decode M_X6_retirement.1 8 = .ok (.iconst 4, 1) := by decide +kernel
theorem dm_X6_retirement_9 : decode M_X6_retirement.1 9 = .ok (.aload_n 0, 1) := by decide +kernel
theorem dm_X6_retirement_10 : decode M_X6_retirement.1 10 = .ok (.getfield 15, 3) := by decide +kernel
theorem dm_X6_retirement_13 : decode M_X6_retirement.1 13 = .ok (.imul, 1) := by decide +kernel
theorem dm_X6_retirement_14 : decode M_X6_retirement.1 14 = .ok (.invokestatic 19, 3) := by decide +kernel
theorem dm_X6_retirement_17 : decode M_X6_retirement.1 17 = .ok (.istore_n 3, 1) := by decide +kernel
theorem dm_X6_retirement_18 : decode M_X6_retirement.1 18 = .ok (.iload_n 2, 1) := by decide +kernel
theorem dm_X6_retirement_19 : decode M_X6_retirement.1 19 = .ok (.iload_n 3, 1) := by decide +kernel
theorem dm_X6_retirement_20 : decode M_X6_retirement.1 20 = .ok (.iadd, 1) := by decide +kernel
theorem dm_X6_retirement_21 : decode M_X6_retirement.1 21 = .ok (.aload_n 0, 1) := by decide +kernel
theorem dm_X6_retirement_22 : decode M_X6_retirement.1 22 = .ok (.getfield 15, 3) := by decide +kernel
theorem dm_X6_retirement_25 : decode M_X6_retirement.1 25 = .ok (.iadd, 1) := by decide +kernel
theorem dm_X6_retirement_26 : decode M_X6_retirement.1 26 = .ok (.ireturn, 1) := by decide +kernel
theorem gc_X6_retirement_19 : g_cs M_X6_retirement 19 M_J9_floorMod_7cf53 yJ9_floorMod_7cf53 2 := ⟨tw710, tw606, tw607, tw608, ⟨rfl, rfl, rfl, rfl⟩, gd_J9_floorMod_7cf53, ⟨by decide, by decide⟩⟩
def f_X6_retirement_c14 (cycle : Int32) (mwheel : Int32) (z1_0 : Int32) : Int32 := ((cycle + z1_0) + mwheel)
def f_X6_retirement (thread : Int32) (cycle : Int32) (mwheel : Int32) : Int32 := (f_X6_retirement_c14 cycle mwheel (f_J9_floorMod_7cf53 ((mwheel * thread) - cycle) ((4 : Int32) * mwheel)))
set_option maxRecDepth 20000 in
theorem k_X6_retirement {thread : Int32} {cycle : Int32} {mwheel : Int32} {mwords : Nat → Int32} (hwh : 1 ≤ mwheel.toInt ∧ mwheel.toInt ≤ 8) {r_0 : Int32} (hres : r_0 = f_X6_retirement thread cycle mwheel) : K M_X6_retirement yX6_retirement [.ref 0, .int thread, .int cycle] (w_S mwheel mwords) (some (.int r_0)) (w_S mwheel mwords) := by
  refine K.of (lv := [(0, .ref 0), (1, .int thread), (2, .int cycle)]) (by decide +kernel) rfl rfl rfl ?_
  rw [f_X6_retirement] at hres
  refine G.aload_n (pc := 0) dm_X6_retirement_0 rfl ?_
  refine G.getfield (pc := 1) dm_X6_retirement_1 gf_X6_15 rfl rfl ?_
  refine G.iload_n (pc := 4) dm_X6_retirement_4 rfl ?_
  refine G.imul (pc := 5) dm_X6_retirement_5 ?_
  refine G.iload_n (pc := 6) dm_X6_retirement_6 rfl ?_
  refine G.isub (pc := 7) dm_X6_retirement_7 ?_
  refine G.iconst (pc := 8) (v := (4 : Int32)) dm_X6_retirement_8 qi_4 ?_
  refine G.aload_n (pc := 9) dm_X6_retirement_9 rfl ?_
  refine G.getfield (pc := 10) dm_X6_retirement_10 gf_X6_15 rfl rfl ?_
  refine G.imul (pc := 13) dm_X6_retirement_13 ?_
  obtain ⟨z1_0, hz1⟩ := g_ex1 (f_J9_floorMod_7cf53 ((mwheel * thread) - cycle) ((4 : Int32) * mwheel))
  refine G.callS (pc := 14) (rest := []) (st1 := [.int z1_0]) (ws1 := (w_S mwheel mwords)) [] dm_X6_retirement_14 gc_X6_retirement_19 (k_J9_floorMod_7cf53 (x := ((mwheel * thread) - cycle)) (y := ((4 : Int32) * mwheel)) (q_w40 hwh) hz1) rfl rfl rfl rfl rfl rfl rfl rfl ?_
  replace hres : r_0 = f_X6_retirement_c14 cycle mwheel z1_0 := hres.trans (by rw [← hz1])
  rw [f_X6_retirement_c14] at hres
  refine G.istore_n (pc := 17) (lv1 := [(3, .int z1_0), (0, .ref 0), (1, .int thread), (2, .int cycle)]) dm_X6_retirement_17 rfl rfl ?_
  refine G.iload_n (pc := 18) dm_X6_retirement_18 rfl ?_
  refine G.iload_n (pc := 19) dm_X6_retirement_19 rfl ?_
  refine G.iadd (pc := 20) dm_X6_retirement_20 ?_
  refine G.aload_n (pc := 21) dm_X6_retirement_21 rfl ?_
  refine G.getfield (pc := 22) dm_X6_retirement_22 gf_X6_15 rfl rfl ?_
  refine G.iadd (pc := 25) dm_X6_retirement_25 ?_
  subst hres
  exact G.ireturn (pc := 26) dm_X6_retirement_26 rfl rfl rfl
abbrev M_X8_setRegister : g_M := (cX8_setRegister, 3, RX8, none, { frames := 0, cells := 0, slots := 0, locals := 0 }, 0, 0)
theorem dm_X8_setRegister_0 : decode M_X8_setRegister.1 0 = .ok (.iload_n 1, 1) := by decide +kernel
theorem dm_X8_setRegister_1 : decode M_X8_setRegister.1 1 = .ok (.ifCond .eq 10, 3) := by decide +kernel
theorem dm_X8_setRegister_4 : decode M_X8_setRegister.1 4 = .ok (.aload_n 0, 1) := by decide +kernel
theorem dm_X8_setRegister_5 : decode M_X8_setRegister.1 5 = .ok (.getfield 9, 3) := by decide +kernel
theorem dm_X8_setRegister_8 : decode M_X8_setRegister.1 8 = .ok (.iload_n 1, 1) := by decide +kernel
theorem dm_X8_setRegister_9 : decode M_X8_setRegister.1 9 = .ok (.iload_n 2, 1) := by decide +kernel
theorem dm_X8_setRegister_10 : decode M_X8_setRegister.1 10 = .ok (.iastore, 1) := by decide +kernel
theorem dm_X8_setRegister_11 : decode M_X8_setRegister.1 11 = .ok (.return_, 1) := by decide +kernel
def f_X8_setRegister (k : Int32) (value : Int32) (regs : Nat → Int32) : (Nat → Int32) := (if k = 0 then regs else (upd regs (Int32.toNatClampNeg k) value))
set_option maxRecDepth 20000 in
theorem k_X8_setRegister {k : Int32} {value : Int32} {tlow : Int32} {thigh : Int32} {tnum : Int32} {tstat : Int32} {taddr : Int32} {tready : Int32} {tnext : Int32} {tret : Int32} {regs : Nat → Int32} {tstore : Nat → Int32} {hcount : Int32} {haddr : Nat → Int32} {hcyc : Nat → Int32} {hret : Nat → Int32} {tims : Nat → Int32} (hk : 0 ≤ k.toInt ∧ k.toInt < 16) {r_0 : (Nat → Int32)} (hres : r_0 = f_X8_setRegister k value regs) : K M_X8_setRegister yX8_setRegister [.ref 0, .int k, .int value] (w_t tlow thigh tnum tstat taddr tready tnext tret regs tstore hcount haddr hcyc hret tims) (none) (w_t tlow thigh tnum tstat taddr tready tnext tret r_0 tstore hcount haddr hcyc hret tims) := by
  refine K.of (lv := [(0, .ref 0), (1, .int k), (2, .int value)]) (by decide +kernel) rfl rfl rfl ?_
  rw [f_X8_setRegister] at hres
  refine G.iload_n (pc := 0) dm_X8_setRegister_0 rfl ?_
  refine G.if_eq (pc := 1) (tgt := 11) dm_X8_setRegister_1 (by decide) (fun c1 => ?_) (fun c1 => ?_)
  · rw [if_pos c1] at hres
    subst hres
    exact G.vreturn (pc := 11) dm_X8_setRegister_11 rfl rfl rfl
  · rw [if_neg c1] at hres
    refine G.aload_n (pc := 4) dm_X8_setRegister_4 rfl ?_
    refine G.getfield (pc := 5) dm_X8_setRegister_5 gf_X8_9 rfl rfl ?_
    refine G.iload_n (pc := 8) dm_X8_setRegister_8 rfl ?_
    refine G.iload_n (pc := 9) dm_X8_setRegister_9 rfl ?_
    refine G.iastore (pc := 10) (ws1 := (w_t tlow thigh tnum tstat taddr tready tnext tret (upd regs (Int32.toNatClampNeg k) value) tstore hcount haddr hcyc hret tims)) dm_X8_setRegister_10 rfl (q_r16 hk) rfl ?_
    subst hres
    exact G.vreturn (pc := 11) dm_X8_setRegister_11 rfl rfl rfl
abbrev M_X8_setRetirement : g_M := (cX8_setRetirement, 4, RX8, none, { frames := 2, cells := 0, slots := 0, locals := 45 }, 0, 0)
theorem dm_X8_setRetirement_0 : decode M_X8_setRetirement.1 0 = .ok (.iload_n 1, 1) := by decide +kernel
theorem dm_X8_setRetirement_1 : decode M_X8_setRetirement.1 1 = .ok (.invokestatic 67, 3) := by decide +kernel
theorem dm_X8_setRetirement_4 : decode M_X8_setRetirement.1 4 = .ok (.ifCond .ne 16, 3) := by decide +kernel
theorem dm_X8_setRetirement_7 : decode M_X8_setRetirement.1 7 = .ok (.aload_n 0, 1) := by decide +kernel
theorem dm_X8_setRetirement_8 : decode M_X8_setRetirement.1 8 = .ok (.aload_n 3, 1) := by decide +kernel
theorem dm_X8_setRetirement_9 : decode M_X8_setRetirement.1 9 = .ok (.aload_n 0, 1) := by decide +kernel
theorem dm_X8_setRetirement_10 : decode M_X8_setRetirement.1 10 = .ok (.getfield 32, 3) := by decide +kernel
theorem dm_X8_setRetirement_13 : decode M_X8_setRetirement.1 13 = .ok (.iload_n 2, 1) := by decide +kernel
theorem dm_X8_setRetirement_14 : decode M_X8_setRetirement.1 14 = .ok (.invokevirtual 185, 3) := by decide +kernel
theorem dm_X8_setRetirement_17 : decode M_X8_setRetirement.1 17 = .ok (.putfield 57, 3) := by decide +kernel
theorem dm_X8_setRetirement_20 : decode M_X8_setRetirement.1 20 = .ok (.return_, 1) := by decide +kernel
theorem gc_X8_setRetirement_67 : g_cs M_X8_setRetirement 67 M_X8_isInStore yX8_isInStore 1 := ⟨tw621, tw622, tw32, tw623, ⟨rfl, rfl, rfl, rfl⟩, gd_X8_isInStore, ⟨by decide, by decide⟩⟩
theorem gc_X8_setRetirement_185 : g_cv M_X8_setRetirement 185 M_X6_retirement yX6_retirement 2 := ⟨tw706, tw707, tw708, tw20, tw709, ⟨rfl, rfl, rfl, rfl⟩, gd_X6_retirement, ⟨by decide, by decide⟩⟩
def f_X8_setRetirement_c14 (z2_0 : Int32) : Int32 := z2_0
def f_X8_setRetirement_c1 (cycle : Int32) (tnum : Int32) (tret : Int32) (mwheel : Int32) (z1_0 : Int32) : Int32 := (if z1_0 = 0 then (f_X8_setRetirement_c14 (f_X6_retirement tnum cycle mwheel)) else tret)
def f_X8_setRetirement (at_ : Int32) (cycle : Int32) (tnum : Int32) (tret : Int32) (mwheel : Int32) : Int32 := (f_X8_setRetirement_c1 cycle tnum tret mwheel (f_X8_isInStore at_))
set_option maxRecDepth 20000 in
theorem k_X8_setRetirement {at_ : Int32} {cycle : Int32} {tlow : Int32} {thigh : Int32} {tnum : Int32} {tstat : Int32} {taddr : Int32} {tready : Int32} {tnext : Int32} {tret : Int32} {regs : Nat → Int32} {tstore : Nat → Int32} {hcount : Int32} {haddr : Nat → Int32} {hcyc : Nat → Int32} {hret : Nat → Int32} {tims : Nat → Int32} {mwheel : Int32} {mwords : Nat → Int32} (hwh : 1 ≤ mwheel.toInt ∧ mwheel.toInt ≤ 8) {r_0 : Int32} (hres : r_0 = f_X8_setRetirement at_ cycle tnum tret mwheel) : K M_X8_setRetirement yX8_setRetirement [.ref 0, .int at_, .int cycle, .ref 8] (w_T tlow thigh tnum tstat taddr tready tnext tret regs tstore hcount haddr hcyc hret tims mwheel mwords) (none) (w_T tlow thigh tnum tstat taddr tready tnext r_0 regs tstore hcount haddr hcyc hret tims mwheel mwords) := by
  refine K.of (lv := [(0, .ref 0), (1, .int at_), (2, .int cycle), (3, .ref 8)]) (by decide +kernel) rfl rfl rfl ?_
  rw [f_X8_setRetirement] at hres
  refine G.iload_n (pc := 0) dm_X8_setRetirement_0 rfl ?_
  obtain ⟨z1_0, hz1⟩ := g_ex1 (f_X8_isInStore at_)
  refine G.callS (pc := 1) (rest := []) (st1 := [.int z1_0]) (ws1 := (w_T tlow thigh tnum tstat taddr tready tnext tret regs tstore hcount haddr hcyc hret tims mwheel mwords)) [] dm_X8_setRetirement_1 gc_X8_setRetirement_67 (k_X8_isInStore (at_ := at_) hz1) rfl rfl rfl rfl rfl rfl rfl rfl ?_
  replace hres : r_0 = f_X8_setRetirement_c1 cycle tnum tret mwheel z1_0 := hres.trans (by rw [← hz1])
  rw [f_X8_setRetirement_c1] at hres
  refine G.if_ne (pc := 4) (tgt := 20) dm_X8_setRetirement_4 (by decide) (fun c4 => ?_) (fun c4 => ?_)
  · rw [if_neg c4] at hres
    subst hres
    exact G.vreturn (pc := 20) dm_X8_setRetirement_20 rfl rfl rfl
  · rw [if_pos c4] at hres
    refine G.aload_n (pc := 7) dm_X8_setRetirement_7 rfl ?_
    refine G.aload_n (pc := 8) dm_X8_setRetirement_8 rfl ?_
    refine G.aload_n (pc := 9) dm_X8_setRetirement_9 rfl ?_
    refine G.getfield (pc := 10) dm_X8_setRetirement_10 gf_X8_32 rfl rfl ?_
    refine G.iload_n (pc := 13) dm_X8_setRetirement_13 rfl ?_
    obtain ⟨z2_0, hz2⟩ := g_ex1 (f_X6_retirement tnum cycle mwheel)
    refine G.callV (pc := 14) (rest := [.ref 0]) (st1 := [.int z2_0, .ref 0]) (ws1 := (w_T tlow thigh tnum tstat taddr tready tnext tret regs tstore hcount haddr hcyc hret tims mwheel mwords)) [8, 9] dm_X8_setRetirement_14 gc_X8_setRetirement_185 (k_X6_retirement (thread := tnum) (cycle := cycle) (mwheel := mwheel) (mwords := mwords) (by first | assumption | exact q_31 _ | exact q_7 _) hz2) rfl rfl rfl rfl rfl rfl rfl rfl rfl rfl ?_
    replace hres : r_0 = f_X8_setRetirement_c14 z2_0 := hres.trans (by rw [← hz2])
    rw [f_X8_setRetirement_c14] at hres
    refine G.putfield (pc := 17) (ws1 := (w_T tlow thigh tnum tstat taddr tready tnext z2_0 regs tstore hcount haddr hcyc hret tims mwheel mwords)) dm_X8_setRetirement_17 gw_X8_57 rfl (g_fit_i _) rfl rfl ?_
    subst hres
    exact G.vreturn (pc := 20) dm_X8_setRetirement_20 rfl rfl rfl
abbrev M_X8_canReach : g_M := (cX8_canReach, 4, RX8, (some .boolean), { frames := 1, cells := 0, slots := 0, locals := 20 }, 0, 0)
theorem dm_X8_canReach_0 : decode M_X8_canReach.1 0 = .ok (.iload_n 1, 1) := by decide +kernel
theorem dm_X8_canReach_1 : decode M_X8_canReach.1 1 = .ok (.sipush 4096, 3) := by decide +kernel
theorem dm_X8_canReach_4 : decode M_X8_canReach.1 4 = .ok (.iconst 4, 1) := by decide +kernel
theorem dm_X8_canReach_5 : decode M_X8_canReach.1 5 = .ok (.aload_n 0, 1) := by decide +kernel
theorem dm_X8_canReach_6 : decode M_X8_canReach.1 6 = .ok (.getfield 174, 3) := by decide +kernel
theorem dm_X8_canReach_9 : decode M_X8_canReach.1 9 = .ok (.imul, 1) := by decide +kernel
theorem dm_X8_canReach_10 : decode M_X8_canReach.1 10 = .ok (.iadd, 1) := by decide +kernel
theorem dm_X8_canReach_11 : decode M_X8_canReach.1 11 = .ok (.if_icmp .lt 21, 3) := by decide +kernel
theorem dm_X8_canReach_14 : decode M_X8_canReach.1 14 = .ok (.iload_n 1, 1) := by decide +kernel
theorem dm_X8_canReach_15 : decode M_X8_canReach.1 15 = .ok (.sipush 4096, 3) := by decide +kernel
theorem dm_X8_canReach_18 : decode M_X8_canReach.1 18 = .ok (.iconst 4, 1) := by decide +kernel
theorem dm_X8_canReach_19 : decode M_X8_canReach.1 19 = .ok (.aload_n 0, 1) := by decide +kernel
theorem dm_X8_canReach_20 : decode M_X8_canReach.1 20 = .ok (.getfield 177, 3) := by decide +kernel
theorem dm_X8_canReach_23 : decode M_X8_canReach.1 23 = .ok (.imul, 1) := by decide +kernel
theorem dm_X8_canReach_24 : decode M_X8_canReach.1 24 = .ok (.iadd, 1) := by decide +kernel
theorem dm_X8_canReach_25 : decode M_X8_canReach.1 25 = .ok (.if_icmp .ge 7, 3) := by decide +kernel
theorem dm_X8_canReach_28 : decode M_X8_canReach.1 28 = .ok (.iconst 1, 1) := by decide +kernel
theorem dm_X8_canReach_29 : decode M_X8_canReach.1 29 = .ok (.goto 4, 3) := by decide +kernel
theorem dm_X8_canReach_32 : decode M_X8_canReach.1 32 = .ok (.iconst 0, 1) := by decide +kernel
theorem dm_X8_canReach_33 : decode M_X8_canReach.1 33 = .ok (.istore_n 3, 1) := by decide +kernel
theorem dm_X8_canReach_34 : decode M_X8_canReach.1 34 = .ok (.iload_n 1, 1) := by decide +kernel
theorem dm_X8_canReach_35 : decode M_X8_canReach.1 35 = .ok (.invokestatic 67, 3) := by decide +kernel
theorem dm_X8_canReach_38 : decode M_X8_canReach.1 38 = .ok (.ifCond .ne 7, 3) := by decide +kernel
theorem dm_X8_canReach_41 : decode M_X8_canReach.1 41 = .ok (.iload_n 3, 1) := by decide +kernel
theorem dm_X8_canReach_42 : decode M_X8_canReach.1 42 = .ok (.ifCond .eq 19, 3) := by decide +kernel
theorem dm_X8_canReach_45 : decode M_X8_canReach.1 45 = .ok (.iload_n 2, 1) := by decide +kernel
theorem dm_X8_canReach_46 : decode M_X8_canReach.1 46 = .ok (.iconst 2, 1) := by decide +kernel
theorem dm_X8_canReach_47 : decode M_X8_canReach.1 47 = .ok (.if_icmp .ne 10, 3) := by decide +kernel
theorem dm_X8_canReach_50 : decode M_X8_canReach.1 50 = .ok (.iload_n 1, 1) := by decide +kernel
theorem dm_X8_canReach_51 : decode M_X8_canReach.1 51 = .ok (.invokestatic 71, 3) := by decide +kernel
theorem dm_X8_canReach_54 : decode M_X8_canReach.1 54 = .ok (.ifCond .eq 7, 3) := by decide +kernel
theorem dm_X8_canReach_57 : decode M_X8_canReach.1 57 = .ok (.iconst 1, 1) := by decide +kernel
theorem dm_X8_canReach_58 : decode M_X8_canReach.1 58 = .ok (.goto 4, 3) := by decide +kernel
theorem dm_X8_canReach_61 : decode M_X8_canReach.1 61 = .ok (.iconst 0, 1) := by decide +kernel
theorem dm_X8_canReach_62 : decode M_X8_canReach.1 62 = .ok (.ireturn, 1) := by decide +kernel
theorem gc_X8_canReach_67 : g_cs M_X8_canReach 67 M_X8_isInStore yX8_isInStore 1 := ⟨tw621, tw622, tw32, tw623, ⟨rfl, rfl, rfl, rfl⟩, gd_X8_isInStore, ⟨by decide, by decide⟩⟩
theorem gc_X8_canReach_71 : g_cs M_X8_canReach 71 M_X8_isAligned yX8_isAligned 1 := ⟨tw624, tw625, tw32, tw626, ⟨rfl, rfl, rfl, rfl⟩, gd_X8_isAligned, ⟨by decide, by decide⟩⟩
def f_X8_canReach_c51 (z2_0 : Int32) : Int32 := (if z2_0 = 0 then (0 : Int32) else (1 : Int32))
def f_X8_canReach_45 (l1 : Int32) (l2 : Int32) : Int32 := (if l2 = (2 : Int32) then (f_X8_canReach_c51 (f_X8_isAligned l1)) else (1 : Int32))
set_option maxRecDepth 20000 in
theorem j_X8_canReach_45 {l1 : Int32} {l2 : Int32} {tlow : Int32} {thigh : Int32} {tnum : Int32} {tstat : Int32} {taddr : Int32} {tready : Int32} {tnext : Int32} {tret : Int32} {regs : Nat → Int32} {tstore : Nat → Int32} {hcount : Int32} {haddr : Nat → Int32} {hcyc : Nat → Int32} {hret : Nat → Int32} {tims : Nat → Int32} {r_0 : Int32} (hres : r_0 = (f_X8_canReach_45 l1 l2)) : G M_X8_canReach 0 0 45 [(1, .int l1), (2, .int l2)] [] (w_t tlow thigh tnum tstat taddr tready tnext tret regs tstore hcount haddr hcyc hret tims) (some (.int r_0)) (w_t tlow thigh tnum tstat taddr tready tnext tret regs tstore hcount haddr hcyc hret tims) := by
  rw [f_X8_canReach_45] at hres
  refine G.iload_n (pc := 45) dm_X8_canReach_45 rfl ?_
  refine G.iconst (pc := 46) (v := (2 : Int32)) dm_X8_canReach_46 qi_2 ?_
  refine G.icmp_ne (pc := 47) (tgt := 57) dm_X8_canReach_47 (by decide) (fun c47 => ?_) (fun c47 => ?_)
  · rw [if_neg c47] at hres
    refine G.iconst (pc := 57) (v := (1 : Int32)) dm_X8_canReach_57 qi_1 ?_
    refine G.goto (pc := 58) (tgt := 62) dm_X8_canReach_58 (by decide) ?_
    subst hres
    exact G.zreturn (pc := 62) dm_X8_canReach_62 rfl (by decide) rfl rfl
  · rw [if_pos c47] at hres
    refine G.iload_n (pc := 50) dm_X8_canReach_50 rfl ?_
    obtain ⟨z2_0, hz2⟩ := g_ex1 (f_X8_isAligned l1)
    refine G.callS (pc := 51) (rest := []) (st1 := [.int z2_0]) (ws1 := (w_t tlow thigh tnum tstat taddr tready tnext tret regs tstore hcount haddr hcyc hret tims)) [] dm_X8_canReach_51 gc_X8_canReach_71 (k_X8_isAligned (at_ := l1) hz2) rfl rfl rfl rfl rfl rfl rfl rfl ?_
    replace hres : r_0 = f_X8_canReach_c51 z2_0 := hres.trans (by rw [← hz2])
    rw [f_X8_canReach_c51] at hres
    refine G.if_eq (pc := 54) (tgt := 61) dm_X8_canReach_54 (by decide) (fun c54 => ?_) (fun c54 => ?_)
    · rw [if_pos c54] at hres
      refine G.iconst (pc := 61) (v := (0 : Int32)) dm_X8_canReach_61 qi_0 ?_
      subst hres
      exact G.zreturn (pc := 62) dm_X8_canReach_62 rfl (by decide) rfl rfl
    · rw [if_neg c54] at hres
      refine G.iconst (pc := 57) (v := (1 : Int32)) dm_X8_canReach_57 qi_1 ?_
      refine G.goto (pc := 58) (tgt := 62) dm_X8_canReach_58 (by decide) ?_
      subst hres
      exact G.zreturn (pc := 62) dm_X8_canReach_62 rfl (by decide) rfl rfl
def f_X8_canReach_c35 (l1 : Int32) (l2 : Int32) (s0 : Int32) (z1_0 : Int32) : Int32 := (if z1_0 = 0 then (if s0 = 0 then (0 : Int32) else (f_X8_canReach_45 l1 l2)) else (f_X8_canReach_45 l1 l2))
def f_X8_canReach_33 (l1 : Int32) (l2 : Int32) (s0 : Int32) : Int32 := (f_X8_canReach_c35 l1 l2 s0 (f_X8_isInStore l1))
set_option maxRecDepth 20000 in
theorem j_X8_canReach_33 {l1 : Int32} {l2 : Int32} {s0 : Int32} {tlow : Int32} {thigh : Int32} {tnum : Int32} {tstat : Int32} {taddr : Int32} {tready : Int32} {tnext : Int32} {tret : Int32} {regs : Nat → Int32} {tstore : Nat → Int32} {hcount : Int32} {haddr : Nat → Int32} {hcyc : Nat → Int32} {hret : Nat → Int32} {tims : Nat → Int32} {r_0 : Int32} (hres : r_0 = (f_X8_canReach_33 l1 l2 s0)) : G M_X8_canReach 0 0 33 [(1, .int l1), (2, .int l2)] [.int s0] (w_t tlow thigh tnum tstat taddr tready tnext tret regs tstore hcount haddr hcyc hret tims) (some (.int r_0)) (w_t tlow thigh tnum tstat taddr tready tnext tret regs tstore hcount haddr hcyc hret tims) := by
  rw [f_X8_canReach_33] at hres
  refine G.istore_n (pc := 33) (lv1 := [(3, .int s0), (1, .int l1), (2, .int l2)]) dm_X8_canReach_33 rfl rfl ?_
  refine G.iload_n (pc := 34) dm_X8_canReach_34 rfl ?_
  obtain ⟨z1_0, hz1⟩ := g_ex1 (f_X8_isInStore l1)
  refine G.callS (pc := 35) (rest := []) (st1 := [.int z1_0]) (ws1 := (w_t tlow thigh tnum tstat taddr tready tnext tret regs tstore hcount haddr hcyc hret tims)) [] dm_X8_canReach_35 gc_X8_canReach_67 (k_X8_isInStore (at_ := l1) hz1) rfl rfl rfl rfl rfl rfl rfl rfl ?_
  replace hres : r_0 = f_X8_canReach_c35 l1 l2 s0 z1_0 := hres.trans (by rw [← hz1])
  rw [f_X8_canReach_c35] at hres
  refine G.if_ne (pc := 38) (tgt := 45) dm_X8_canReach_38 (by decide) (fun c38 => ?_) (fun c38 => ?_)
  · rw [if_neg c38] at hres
    refine G.lvp [1, 2] rfl ?_
    exact j_X8_canReach_45 hres 
  · rw [if_pos c38] at hres
    refine G.iload_n (pc := 41) dm_X8_canReach_41 rfl ?_
    refine G.if_eq (pc := 42) (tgt := 61) dm_X8_canReach_42 (by decide) (fun c42 => ?_) (fun c42 => ?_)
    · rw [if_pos c42] at hres
      refine G.iconst (pc := 61) (v := (0 : Int32)) dm_X8_canReach_61 qi_0 ?_
      subst hres
      exact G.zreturn (pc := 62) dm_X8_canReach_62 rfl (by decide) rfl rfl
    · rw [if_neg c42] at hres
      refine G.lvp [1, 2] rfl ?_
      exact j_X8_canReach_45 hres 
def f_X8_canReach_32 (l1 : Int32) (l2 : Int32) : Int32 := (f_X8_canReach_33 l1 l2 (0 : Int32))
set_option maxRecDepth 20000 in
theorem j_X8_canReach_32 {l1 : Int32} {l2 : Int32} {tlow : Int32} {thigh : Int32} {tnum : Int32} {tstat : Int32} {taddr : Int32} {tready : Int32} {tnext : Int32} {tret : Int32} {regs : Nat → Int32} {tstore : Nat → Int32} {hcount : Int32} {haddr : Nat → Int32} {hcyc : Nat → Int32} {hret : Nat → Int32} {tims : Nat → Int32} {r_0 : Int32} (hres : r_0 = (f_X8_canReach_32 l1 l2)) : G M_X8_canReach 0 0 32 [(1, .int l1), (2, .int l2)] [] (w_t tlow thigh tnum tstat taddr tready tnext tret regs tstore hcount haddr hcyc hret tims) (some (.int r_0)) (w_t tlow thigh tnum tstat taddr tready tnext tret regs tstore hcount haddr hcyc hret tims) := by
  rw [f_X8_canReach_32] at hres
  refine G.iconst (pc := 32) (v := (0 : Int32)) dm_X8_canReach_32 qi_0 ?_
  exact j_X8_canReach_33 hres 
def f_X8_canReach (at_ : Int32) (f : Int32) (tlow : Int32) (thigh : Int32) : Int32 := (if at_ < ((4096 : Int32) + ((4 : Int32) * tlow)) then (f_X8_canReach_32 at_ f) else (if ((4096 : Int32) + ((4 : Int32) * thigh)) ≤ at_ then (f_X8_canReach_32 at_ f) else (f_X8_canReach_33 at_ f (1 : Int32))))
set_option maxRecDepth 20000 in
theorem k_X8_canReach {at_ : Int32} {f : Int32} {tlow : Int32} {thigh : Int32} {tnum : Int32} {tstat : Int32} {taddr : Int32} {tready : Int32} {tnext : Int32} {tret : Int32} {regs : Nat → Int32} {tstore : Nat → Int32} {hcount : Int32} {haddr : Nat → Int32} {hcyc : Nat → Int32} {hret : Nat → Int32} {tims : Nat → Int32} {r_0 : Int32} (hres : r_0 = f_X8_canReach at_ f tlow thigh) : K M_X8_canReach yX8_canReach [.ref 0, .int at_, .int f] (w_t tlow thigh tnum tstat taddr tready tnext tret regs tstore hcount haddr hcyc hret tims) (some (.int r_0)) (w_t tlow thigh tnum tstat taddr tready tnext tret regs tstore hcount haddr hcyc hret tims) := by
  refine K.of (lv := [(0, .ref 0), (1, .int at_), (2, .int f)]) (by decide +kernel) rfl rfl rfl ?_
  rw [f_X8_canReach] at hres
  refine G.iload_n (pc := 0) dm_X8_canReach_0 rfl ?_
  refine G.sipush (pc := 1) (v := (4096 : Int32)) dm_X8_canReach_1 qs_4096 ?_
  refine G.iconst (pc := 4) (v := (4 : Int32)) dm_X8_canReach_4 qi_4 ?_
  refine G.aload_n (pc := 5) dm_X8_canReach_5 rfl ?_
  refine G.getfield (pc := 6) dm_X8_canReach_6 gf_X8_174 rfl rfl ?_
  refine G.imul (pc := 9) dm_X8_canReach_9 ?_
  refine G.iadd (pc := 10) dm_X8_canReach_10 ?_
  refine G.icmp_lt (pc := 11) (tgt := 32) dm_X8_canReach_11 (by decide) (fun c11 => ?_) (fun c11 => ?_)
  · rw [if_pos c11] at hres
    refine G.lvp [1, 2] rfl ?_
    exact j_X8_canReach_32 hres 
  · rw [if_neg c11] at hres
    refine G.iload_n (pc := 14) dm_X8_canReach_14 rfl ?_
    refine G.sipush (pc := 15) (v := (4096 : Int32)) dm_X8_canReach_15 qs_4096 ?_
    refine G.iconst (pc := 18) (v := (4 : Int32)) dm_X8_canReach_18 qi_4 ?_
    refine G.aload_n (pc := 19) dm_X8_canReach_19 rfl ?_
    refine G.getfield (pc := 20) dm_X8_canReach_20 gf_X8_177 rfl rfl ?_
    refine G.imul (pc := 23) dm_X8_canReach_23 ?_
    refine G.iadd (pc := 24) dm_X8_canReach_24 ?_
    refine G.icmp_ge (pc := 25) (tgt := 32) dm_X8_canReach_25 (by decide) (fun c25 => ?_) (fun c25 => ?_)
    · rw [if_pos c25] at hres
      refine G.lvp [1, 2] rfl ?_
      exact j_X8_canReach_32 hres 
    · rw [if_neg c25] at hres
      refine G.iconst (pc := 28) (v := (1 : Int32)) dm_X8_canReach_28 qi_1 ?_
      refine G.goto (pc := 29) (tgt := 33) dm_X8_canReach_29 (by decide) ?_
      refine G.lvp [1, 2] rfl ?_
      exact j_X8_canReach_33 hres 
theorem q_cr {a l h : Int32} (hlt : 0 ≤ l.toInt ∧ l.toInt ≤ h.toInt ∧ h.toInt ≤ 64) (c1 : ¬ a < 4096 + 4 * l) (c2 : ¬ 4096 + 4 * h ≤ a) : 4096 ≤ a.toInt ∧ a.toInt < 4352 := by
  have h1 := q_4096 (x := l) ⟨hlt.1, by omega⟩
  have h2 := q_4096 (x := h) ⟨by omega, hlt.2.2⟩
  have h3 := q_nlt c1
  have h4 := q_nle c2
  omega
theorem a_X8_canReach_45 {l1 : Int32} {l2 : Int32} {r_0 : Int32} {a0 : Int32} (hres : r_0 = (f_X8_canReach_45 l1 l2)) (hwa : (0 ≤ a0.toInt ∧ a0.toInt < 512) ∨ (4096 ≤ a0.toInt ∧ a0.toInt < 4352)) : ¬ r_0 = 0 → ((0 ≤ a0.toInt ∧ a0.toInt < 512) ∨ (4096 ≤ a0.toInt ∧ a0.toInt < 4352)) := by
  rw [f_X8_canReach_45] at hres
  by_cases c47 : l2 = (2 : Int32)
  · rw [if_pos c47] at hres
    obtain ⟨z2_0, hz2⟩ := g_ex1 (f_X8_isAligned l1)
    replace hres : r_0 = f_X8_canReach_c51 z2_0 := hres.trans (by rw [← hz2])
    rw [f_X8_canReach_c51] at hres
    by_cases c54 : z2_0 = 0
    · rw [if_pos c54] at hres
      subst hres
      exact (by first | exact fun h => absurd rfl h | exact fun _ => hwa)
    · rw [if_neg c54] at hres
      subst hres
      exact (by first | exact fun h => absurd rfl h | exact fun _ => hwa)
  · rw [if_neg c47] at hres
    subst hres
    exact (by first | exact fun h => absurd rfl h | exact fun _ => hwa)
theorem a_X8_canReach_33 {l1 : Int32} {l2 : Int32} {s0 : Int32} {tlow : Int32} {thigh : Int32} {r_0 : Int32} {a0 : Int32} (hres : r_0 = (f_X8_canReach_33 l1 l2 s0)) (hlt : 0 ≤ tlow.toInt ∧ tlow.toInt ≤ thigh.toInt ∧ thigh.toInt ≤ 64) (he : l1 = a0) (hs : ¬ s0 = 0 → 4096 ≤ a0.toInt ∧ a0.toInt < 4352) : ¬ r_0 = 0 → ((0 ≤ a0.toInt ∧ a0.toInt < 512) ∨ (4096 ≤ a0.toInt ∧ a0.toInt < 4352)) := by
  rw [f_X8_canReach_33] at hres
  obtain ⟨z1_0, hz1⟩ := g_ex1 (f_X8_isInStore l1)
  have own := a_isInStore hz1
  replace hres : r_0 = f_X8_canReach_c35 l1 l2 s0 z1_0 := hres.trans (by rw [← hz1])
  rw [f_X8_canReach_c35] at hres
  by_cases c38 : z1_0 = 0
  · rw [if_pos c38] at hres
    by_cases c42 : s0 = 0
    · rw [if_pos c42] at hres
      subst hres
      exact (by first | exact fun h => absurd rfl h | exact fun _ => hwa)
    · rw [if_neg c42] at hres
      exact a_X8_canReach_45 hres (Or.inr (hs c42))
  · rw [if_neg c38] at hres
    exact a_X8_canReach_45 hres (Or.inl (he ▸ own.1 c38))
theorem a_X8_canReach_32 {l1 : Int32} {l2 : Int32} {tlow : Int32} {thigh : Int32} {r_0 : Int32} {a0 : Int32} (hres : r_0 = (f_X8_canReach_32 l1 l2)) (hlt : 0 ≤ tlow.toInt ∧ tlow.toInt ≤ thigh.toInt ∧ thigh.toInt ≤ 64) (he : l1 = a0) : ¬ r_0 = 0 → ((0 ≤ a0.toInt ∧ a0.toInt < 512) ∨ (4096 ≤ a0.toInt ∧ a0.toInt < 4352)) := by
  rw [f_X8_canReach_32] at hres
  exact a_X8_canReach_33 hres hlt he (fun h => absurd rfl h)
theorem a_X8_canReach {at_ : Int32} {f : Int32} {tlow : Int32} {thigh : Int32} {r_0 : Int32} {a0 : Int32} (hres : r_0 = f_X8_canReach at_ f tlow thigh) (hlt : 0 ≤ tlow.toInt ∧ tlow.toInt ≤ thigh.toInt ∧ thigh.toInt ≤ 64) (he : at_ = a0) : ¬ r_0 = 0 → ((0 ≤ a0.toInt ∧ a0.toInt < 512) ∨ (4096 ≤ a0.toInt ∧ a0.toInt < 4352)) := by
  rw [f_X8_canReach] at hres
  by_cases c11 : at_ < ((4096 : Int32) + ((4 : Int32) * tlow))
  · rw [if_pos c11] at hres
    exact a_X8_canReach_32 hres (by assumption) (by assumption)
  · rw [if_neg c11] at hres
    by_cases c25 : ((4096 : Int32) + ((4 : Int32) * thigh)) ≤ at_
    · rw [if_pos c25] at hres
      exact a_X8_canReach_32 hres (by assumption) (by assumption)
    · rw [if_neg c25] at hres
      exact a_X8_canReach_33 hres hlt he (by subst he; exact fun _ => q_cr hlt c11 c25)
abbrev M_X8_rowOf : g_M := (cX8_rowOf, 3, RX8, (some (.array .int)), { frames := 1, cells := 0, slots := 0, locals := 20 }, 0, 0)
theorem dm_X8_rowOf_0 : decode M_X8_rowOf.1 0 = .ok (.iload_n 1, 1) := by decide +kernel
theorem dm_X8_rowOf_1 : decode M_X8_rowOf.1 1 = .ok (.invokestatic 67, 3) := by decide +kernel
theorem dm_X8_rowOf_4 : decode M_X8_rowOf.1 4 = .ok (.ifCond .eq 10, 3) := by decide +kernel
theorem dm_X8_rowOf_7 : decode M_X8_rowOf.1 7 = .ok (.aload_n 0, 1) := by decide +kernel
theorem dm_X8_rowOf_8 : decode M_X8_rowOf.1 8 = .ok (.getfield 15, 3) := by decide +kernel
theorem dm_X8_rowOf_11 : decode M_X8_rowOf.1 11 = .ok (.goto 7, 3) := by decide +kernel
theorem dm_X8_rowOf_14 : decode M_X8_rowOf.1 14 = .ok (.aload_n 2, 1) := by decide +kernel
theorem dm_X8_rowOf_15 : decode M_X8_rowOf.1 15 = .ok (.getfield 180, 3) := by decide +kernel
theorem dm_X8_rowOf_18 : decode M_X8_rowOf.1 18 = .ok (.areturn, 1) := by decide +kernel
theorem gc_X8_rowOf_67 : g_cs M_X8_rowOf 67 M_X8_isInStore yX8_isInStore 1 := ⟨tw621, tw622, tw32, tw623, ⟨rfl, rfl, rfl, rfl⟩, gd_X8_isInStore, ⟨by decide, by decide⟩⟩
theorem k_X8_rowOf_a {at_ : Int32} {tlow : Int32} {thigh : Int32} {tnum : Int32} {tstat : Int32} {taddr : Int32} {tready : Int32} {tnext : Int32} {tret : Int32} {regs : Nat → Int32} {tstore : Nat → Int32} {hcount : Int32} {haddr : Nat → Int32} {hcyc : Nat → Int32} {hret : Nat → Int32} {tims : Nat → Int32} {mwheel : Int32} {mwords : Nat → Int32} (d : f_X8_isInStore at_ = 0) : K M_X8_rowOf yX8_rowOf [.ref 0, .int at_, .ref 8] (w_T tlow thigh tnum tstat taddr tready tnext tret regs tstore hcount haddr hcyc hret tims mwheel mwords) (some (.ref 9)) (w_T tlow thigh tnum tstat taddr tready tnext tret regs tstore hcount haddr hcyc hret tims mwheel mwords) := by
  refine K.of (lv := [(0, .ref 0), (1, .int at_), (2, .ref 8)]) (by decide +kernel) rfl rfl rfl ?_
  refine G.iload_n (pc := 0) dm_X8_rowOf_0 rfl ?_
  refine G.callS (pc := 1) (rest := []) (st1 := [.int (f_X8_isInStore at_)]) (ws1 := (w_T tlow thigh tnum tstat taddr tready tnext tret regs tstore hcount haddr hcyc hret tims mwheel mwords)) [] dm_X8_rowOf_1 gc_X8_rowOf_67 (k_X8_isInStore (at_ := at_) rfl) rfl rfl rfl rfl rfl rfl rfl rfl ?_
  refine G.if_eq (pc := 4) (tgt := 14) dm_X8_rowOf_4 (by decide) (fun c4 => ?_) (fun c4 => ?_)
  · refine G.aload_n (pc := 14) dm_X8_rowOf_14 rfl ?_
    refine G.getfield (pc := 15) dm_X8_rowOf_15 gf_X8_180 rfl rfl ?_
    exact G.areturn (pc := 18) dm_X8_rowOf_18 rfl (Or.inr ⟨_, rfl⟩) rfl rfl
  · exact absurd d c4
theorem k_X8_rowOf_b {at_ : Int32} {tlow : Int32} {thigh : Int32} {tnum : Int32} {tstat : Int32} {taddr : Int32} {tready : Int32} {tnext : Int32} {tret : Int32} {regs : Nat → Int32} {tstore : Nat → Int32} {hcount : Int32} {haddr : Nat → Int32} {hcyc : Nat → Int32} {hret : Nat → Int32} {tims : Nat → Int32} {mwheel : Int32} {mwords : Nat → Int32} (d : ¬ f_X8_isInStore at_ = 0) : K M_X8_rowOf yX8_rowOf [.ref 0, .int at_, .ref 8] (w_T tlow thigh tnum tstat taddr tready tnext tret regs tstore hcount haddr hcyc hret tims mwheel mwords) (some (.ref 2)) (w_T tlow thigh tnum tstat taddr tready tnext tret regs tstore hcount haddr hcyc hret tims mwheel mwords) := by
  refine K.of (lv := [(0, .ref 0), (1, .int at_), (2, .ref 8)]) (by decide +kernel) rfl rfl rfl ?_
  refine G.iload_n (pc := 0) dm_X8_rowOf_0 rfl ?_
  refine G.callS (pc := 1) (rest := []) (st1 := [.int (f_X8_isInStore at_)]) (ws1 := (w_T tlow thigh tnum tstat taddr tready tnext tret regs tstore hcount haddr hcyc hret tims mwheel mwords)) [] dm_X8_rowOf_1 gc_X8_rowOf_67 (k_X8_isInStore (at_ := at_) rfl) rfl rfl rfl rfl rfl rfl rfl rfl ?_
  refine G.if_eq (pc := 4) (tgt := 14) dm_X8_rowOf_4 (by decide) (fun c4 => ?_) (fun c4 => ?_)
  · exact absurd c4 d
  · refine G.aload_n (pc := 7) dm_X8_rowOf_7 rfl ?_
    refine G.getfield (pc := 8) dm_X8_rowOf_8 gf_X8_15 rfl rfl ?_
    refine G.goto (pc := 11) (tgt := 18) dm_X8_rowOf_11 (by decide) ?_
    exact G.areturn (pc := 18) dm_X8_rowOf_18 rfl (Or.inr ⟨_, rfl⟩) rfl rfl
abbrev M_X8_begin : g_M := (cX8_begin, 3, RX8, none, { frames := 0, cells := 0, slots := 0, locals := 0 }, 0, 0)
theorem dm_X8_begin_0 : decode M_X8_begin.1 0 = .ok (.aload_n 0, 1) := by decide +kernel
theorem dm_X8_begin_1 : decode M_X8_begin.1 1 = .ok (.iconst 1, 1) := by decide +kernel
theorem dm_X8_begin_2 : decode M_X8_begin.1 2 = .ok (.putfield 28, 3) := by decide +kernel
theorem dm_X8_begin_5 : decode M_X8_begin.1 5 = .ok (.aload_n 0, 1) := by decide +kernel
theorem dm_X8_begin_6 : decode M_X8_begin.1 6 = .ok (.iload_n 1, 1) := by decide +kernel
theorem dm_X8_begin_7 : decode M_X8_begin.1 7 = .ok (.putfield 35, 3) := by decide +kernel
theorem dm_X8_begin_10 : decode M_X8_begin.1 10 = .ok (.aload_n 0, 1) := by decide +kernel
theorem dm_X8_begin_11 : decode M_X8_begin.1 11 = .ok (.iload_n 2, 1) := by decide +kernel
theorem dm_X8_begin_12 : decode M_X8_begin.1 12 = .ok (.putfield 38, 3) := by decide +kernel
theorem dm_X8_begin_15 : decode M_X8_begin.1 15 = .ok (.return_, 1) := by decide +kernel
def f_X8_begin (from_ : Int32) (cycle : Int32) : Int32 × Int32 × Int32 := ((1 : Int32), from_, cycle)
set_option maxRecDepth 20000 in
theorem k_X8_begin {from_ : Int32} {cycle : Int32} {tlow : Int32} {thigh : Int32} {tnum : Int32} {tstat : Int32} {taddr : Int32} {tready : Int32} {tnext : Int32} {tret : Int32} {regs : Nat → Int32} {tstore : Nat → Int32} {hcount : Int32} {haddr : Nat → Int32} {hcyc : Nat → Int32} {hret : Nat → Int32} {tims : Nat → Int32} {r_0 : Int32} {r_1 : Int32} {r_2 : Int32} (hres : (r_0, r_1, r_2) = f_X8_begin from_ cycle) : K M_X8_begin yX8_begin [.ref 0, .int from_, .int cycle] (w_t tlow thigh tnum tstat taddr tready tnext tret regs tstore hcount haddr hcyc hret tims) (none) (w_t tlow thigh tnum r_0 r_1 r_2 tnext tret regs tstore hcount haddr hcyc hret tims) := by
  refine K.of (lv := [(0, .ref 0), (1, .int from_), (2, .int cycle)]) (by decide +kernel) rfl rfl rfl ?_
  rw [f_X8_begin] at hres
  refine G.aload_n (pc := 0) dm_X8_begin_0 rfl ?_
  refine G.iconst (pc := 1) (v := (1 : Int32)) dm_X8_begin_1 qi_1 ?_
  refine G.putfield (pc := 2) (ws1 := (w_t tlow thigh tnum (1 : Int32) taddr tready tnext tret regs tstore hcount haddr hcyc hret tims)) dm_X8_begin_2 gw_X8_28 rfl (g_fit_i _) rfl rfl ?_
  refine G.aload_n (pc := 5) dm_X8_begin_5 rfl ?_
  refine G.iload_n (pc := 6) dm_X8_begin_6 rfl ?_
  refine G.putfield (pc := 7) (ws1 := (w_t tlow thigh tnum (1 : Int32) from_ tready tnext tret regs tstore hcount haddr hcyc hret tims)) dm_X8_begin_7 gw_X8_35 rfl (g_fit_i _) rfl rfl ?_
  refine G.aload_n (pc := 10) dm_X8_begin_10 rfl ?_
  refine G.iload_n (pc := 11) dm_X8_begin_11 rfl ?_
  refine G.putfield (pc := 12) (ws1 := (w_t tlow thigh tnum (1 : Int32) from_ cycle tnext tret regs tstore hcount haddr hcyc hret tims)) dm_X8_begin_12 gw_X8_38 rfl (g_fit_i _) rfl rfl ?_
  cases hres
  exact G.vreturn (pc := 15) dm_X8_begin_15 rfl rfl rfl
abbrev M_X8_condition : g_M := (cX8_condition, 2, RX8, (some .int), { frames := 0, cells := 0, slots := 0, locals := 0 }, 0, 0)
theorem dm_X8_condition_0 : decode M_X8_condition.1 0 = .ok (.iload_n 1, 1) := by decide +kernel
theorem dm_X8_condition_1 : decode M_X8_condition.1 1 = .ok (.tableswitch 54 0 3 #[31, 36, 41, 49], 31) := by decide +kernel
theorem dm_X8_condition_32 : decode M_X8_condition.1 32 = .ok (.aload_n 0, 1) := by decide +kernel
theorem dm_X8_condition_33 : decode M_X8_condition.1 33 = .ok (.getfield 28, 3) := by decide +kernel
theorem dm_X8_condition_36 : decode M_X8_condition.1 36 = .ok (.ireturn, 1) := by decide +kernel
theorem dm_X8_condition_37 : decode M_X8_condition.1 37 = .ok (.aload_n 0, 1) := by decide +kernel
theorem dm_X8_condition_38 : decode M_X8_condition.1 38 = .ok (.getfield 35, 3) := by decide +kernel
theorem dm_X8_condition_41 : decode M_X8_condition.1 41 = .ok (.ireturn, 1) := by decide +kernel
theorem dm_X8_condition_42 : decode M_X8_condition.1 42 = .ok (.aload_n 0, 1) := by decide +kernel
theorem dm_X8_condition_43 : decode M_X8_condition.1 43 = .ok (.getfield 21, 3) := by decide +kernel
theorem dm_X8_condition_46 : decode M_X8_condition.1 46 = .ok (.getfield 41, 3) := by decide +kernel
theorem dm_X8_condition_49 : decode M_X8_condition.1 49 = .ok (.ireturn, 1) := by decide +kernel
theorem dm_X8_condition_50 : decode M_X8_condition.1 50 = .ok (.aload_n 0, 1) := by decide +kernel
theorem dm_X8_condition_51 : decode M_X8_condition.1 51 = .ok (.getfield 38, 3) := by decide +kernel
theorem dm_X8_condition_54 : decode M_X8_condition.1 54 = .ok (.ireturn, 1) := by decide +kernel
theorem dm_X8_condition_55 : decode M_X8_condition.1 55 = .ok (.iload_n 1, 1) := by decide +kernel
theorem dm_X8_condition_56 : decode M_X8_condition.1 56 = .ok (.iconst 4, 1) := by decide +kernel
theorem dm_X8_condition_57 : decode M_X8_condition.1 57 = .ok (.if_icmp .lt 20, 3) := by decide +kernel
theorem dm_X8_condition_60 : decode M_X8_condition.1 60 = .ok (.iload_n 1, 1) := by decide +kernel
theorem dm_X8_condition_61 : decode M_X8_condition.1 61 = .ok (.bipush 8, 2) := by decide +kernel
theorem dm_X8_condition_63 : decode M_X8_condition.1 63 = .ok (.if_icmp .ge 14, 3) := by decide +kernel
theorem dm_X8_condition_66 : decode M_X8_condition.1 66 = .ok (.aload_n 0, 1) := by decide +kernel
theorem dm_X8_condition_67 : decode M_X8_condition.1 67 = .ok (.getfield 25, 3) := by decide +kernel
theorem dm_X8_condition_70 : decode M_X8_condition.1 70 = .ok (.iload_n 1, 1) := by decide +kernel
theorem dm_X8_condition_71 : decode M_X8_condition.1 71 = .ok (.iconst 4, 1) := by decide +kernel
theorem dm_X8_condition_72 : decode M_X8_condition.1 72 = .ok (.isub, 1) := by decide +kernel
theorem dm_X8_condition_73 : decode M_X8_condition.1 73 = .ok (.iaload, 1) := by decide +kernel
theorem dm_X8_condition_74 : decode M_X8_condition.1 74 = .ok (.goto 4, 3) := by decide +kernel
theorem dm_X8_condition_77 : decode M_X8_condition.1 77 = .ok (.iconst (-1), 1) := by decide +kernel
theorem dm_X8_condition_78 : decode M_X8_condition.1 78 = .ok (.ireturn, 1) := by decide +kernel
def f_X8_condition (what : Int32) (tstat : Int32) (taddr : Int32) (tready : Int32) (hcount : Int32) (tims : Nat → Int32) : Int32 := (if what = (0 : Int32) then tstat else (if what = (1 : Int32) then taddr else (if what = (2 : Int32) then hcount else (if what = (3 : Int32) then tready else (if what < (4 : Int32) then (-1 : Int32) else (if (8 : Int32) ≤ what then (-1 : Int32) else (tims (Int32.toNatClampNeg (what - (4 : Int32))))))))))
set_option maxRecDepth 20000 in
theorem k_X8_condition {what : Int32} {tlow : Int32} {thigh : Int32} {tnum : Int32} {tstat : Int32} {taddr : Int32} {tready : Int32} {tnext : Int32} {tret : Int32} {regs : Nat → Int32} {tstore : Nat → Int32} {hcount : Int32} {haddr : Nat → Int32} {hcyc : Nat → Int32} {hret : Nat → Int32} {tims : Nat → Int32} {r_0 : Int32} (hres : r_0 = f_X8_condition what tstat taddr tready hcount tims) : K M_X8_condition yX8_condition [.ref 0, .int what] (w_t tlow thigh tnum tstat taddr tready tnext tret regs tstore hcount haddr hcyc hret tims) (some (.int r_0)) (w_t tlow thigh tnum tstat taddr tready tnext tret regs tstore hcount haddr hcyc hret tims) := by
  refine K.of (lv := [(0, .ref 0), (1, .int what)]) (by decide +kernel) rfl rfl rfl ?_
  rw [f_X8_condition] at hres
  refine G.iload_n (pc := 0) dm_X8_condition_0 rfl ?_
  by_cases c1_0 : what = (0 : Int32)
  · rw [if_pos c1_0] at hres
    refine G.tabIn (pc := 1) (tgt := 32) dm_X8_condition_1 c1_0 (by decide) (by decide) rfl (by decide) ?_
    refine G.aload_n (pc := 32) dm_X8_condition_32 rfl ?_
    refine G.getfield (pc := 33) dm_X8_condition_33 gf_X8_28 rfl rfl ?_
    subst hres
    exact G.ireturn (pc := 36) dm_X8_condition_36 rfl rfl rfl
  rw [if_neg c1_0] at hres
  by_cases c1_1 : what = (1 : Int32)
  · rw [if_pos c1_1] at hres
    refine G.tabIn (pc := 1) (tgt := 37) dm_X8_condition_1 c1_1 (by decide) (by decide) rfl (by decide) ?_
    refine G.aload_n (pc := 37) dm_X8_condition_37 rfl ?_
    refine G.getfield (pc := 38) dm_X8_condition_38 gf_X8_35 rfl rfl ?_
    subst hres
    exact G.ireturn (pc := 41) dm_X8_condition_41 rfl rfl rfl
  rw [if_neg c1_1] at hres
  by_cases c1_2 : what = (2 : Int32)
  · rw [if_pos c1_2] at hres
    refine G.tabIn (pc := 1) (tgt := 42) dm_X8_condition_1 c1_2 (by decide) (by decide) rfl (by decide) ?_
    refine G.aload_n (pc := 42) dm_X8_condition_42 rfl ?_
    refine G.getfield (pc := 43) dm_X8_condition_43 gf_X8_21 rfl rfl ?_
    refine G.getfield (pc := 46) dm_X8_condition_46 gf_X8_41 rfl rfl ?_
    subst hres
    exact G.ireturn (pc := 49) dm_X8_condition_49 rfl rfl rfl
  rw [if_neg c1_2] at hres
  by_cases c1_3 : what = (3 : Int32)
  · rw [if_pos c1_3] at hres
    refine G.tabIn (pc := 1) (tgt := 50) dm_X8_condition_1 c1_3 (by decide) (by decide) rfl (by decide) ?_
    refine G.aload_n (pc := 50) dm_X8_condition_50 rfl ?_
    refine G.getfield (pc := 51) dm_X8_condition_51 gf_X8_38 rfl rfl ?_
    subst hres
    exact G.ireturn (pc := 54) dm_X8_condition_54 rfl rfl rfl
  rw [if_neg c1_3] at hres
  refine G.tabOut (pc := 1) (tgt := 55) dm_X8_condition_1 (g_tabmiss (by decide) (by decide) (fun v h1 h2 => by rcases (show v = 0 ∨ v = 1 ∨ v = 2 ∨ v = 3 by omega) with rfl | rfl | rfl | rfl <;> intro h <;> first | exact c1_0 (by rw [h]; decide) | exact c1_1 (by rw [h]; decide) | exact c1_2 (by rw [h]; decide) | exact c1_3 (by rw [h]; decide))) (by decide) ?_
  refine G.iload_n (pc := 55) dm_X8_condition_55 rfl ?_
  refine G.iconst (pc := 56) (v := (4 : Int32)) dm_X8_condition_56 qi_4 ?_
  refine G.icmp_lt (pc := 57) (tgt := 77) dm_X8_condition_57 (by decide) (fun c57 => ?_) (fun c57 => ?_)
  · rw [if_pos c57] at hres
    refine G.iconst (pc := 77) (v := (-1 : Int32)) dm_X8_condition_77 qi_m1 ?_
    subst hres
    exact G.ireturn (pc := 78) dm_X8_condition_78 rfl rfl rfl
  · rw [if_neg c57] at hres
    refine G.iload_n (pc := 60) dm_X8_condition_60 rfl ?_
    refine G.bipush (pc := 61) (v := (8 : Int32)) dm_X8_condition_61 qb_8 ?_
    refine G.icmp_ge (pc := 63) (tgt := 77) dm_X8_condition_63 (by decide) (fun c63 => ?_) (fun c63 => ?_)
    · rw [if_pos c63] at hres
      refine G.iconst (pc := 77) (v := (-1 : Int32)) dm_X8_condition_77 qi_m1 ?_
      subst hres
      exact G.ireturn (pc := 78) dm_X8_condition_78 rfl rfl rfl
    · rw [if_neg c63] at hres
      refine G.aload_n (pc := 66) dm_X8_condition_66 rfl ?_
      refine G.getfield (pc := 67) dm_X8_condition_67 gf_X8_25 rfl rfl ?_
      refine G.iload_n (pc := 70) dm_X8_condition_70 rfl ?_
      refine G.iconst (pc := 71) (v := (4 : Int32)) dm_X8_condition_71 qi_4 ?_
      refine G.isub (pc := 72) dm_X8_condition_72 ?_
      refine G.iaload (pc := 73) dm_X8_condition_73 rfl (q_cnd c57 c63) ?_
      refine G.goto (pc := 74) (tgt := 78) dm_X8_condition_74 (by decide) ?_
      subst hres
      exact G.ireturn (pc := 78) dm_X8_condition_78 rfl rfl rfl
