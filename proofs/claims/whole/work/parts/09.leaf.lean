def w_H (hcount : Int32) (haddr : Nat → Int32) (hcyc : Nat → Int32) (hret : Nat → Int32) : List va_E := [.inr (1, [.int hcount, .ref 1, .ref 2, .ref 3]), .inl (1, 16, .inl haddr), .inl (1, 16, .inl hcyc), .inl (1, 16, .inl hret)]
def w_L (lcount : Int32) (lkeys : Nat → Int64) (lplaces : Nat → Int32) : List va_E := [.inr (2, [.int lcount, .ref 1, .ref 2]), .inl (2, 16, .inr (.inl lkeys)), .inl (1, 16, .inl lplaces)]
theorem gd_J9_floorMod_7cf53 : yJ9_floorMod_7cf53.cls ≠ "java/lang/invoke/MethodHandle" ∧ yJ9_floorMod_7cf53.cls ≠ "java/lang/invoke/VarHandle" ∧ (parseMethodDescriptor yJ9_floorMod_7cf53.desc).map (fun d => d.parameters.length) = some 2 := ⟨by decide, by decide, by decide +kernel⟩
theorem gd_X1_op : yX1_op.cls ≠ "java/lang/invoke/MethodHandle" ∧ yX1_op.cls ≠ "java/lang/invoke/VarHandle" ∧ (parseMethodDescriptor yX1_op.desc).map (fun d => d.parameters.length) = some 1 := ⟨by decide, by decide, by decide +kernel⟩
theorem gd_X1_rd : yX1_rd.cls ≠ "java/lang/invoke/MethodHandle" ∧ yX1_rd.cls ≠ "java/lang/invoke/VarHandle" ∧ (parseMethodDescriptor yX1_rd.desc).map (fun d => d.parameters.length) = some 1 := ⟨by decide, by decide, by decide +kernel⟩
theorem gd_X1_f : yX1_f.cls ≠ "java/lang/invoke/MethodHandle" ∧ yX1_f.cls ≠ "java/lang/invoke/VarHandle" ∧ (parseMethodDescriptor yX1_f.desc).map (fun d => d.parameters.length) = some 1 := ⟨by decide, by decide, by decide +kernel⟩
theorem gd_X1_rs : yX1_rs.cls ≠ "java/lang/invoke/MethodHandle" ∧ yX1_rs.cls ≠ "java/lang/invoke/VarHandle" ∧ (parseMethodDescriptor yX1_rs.desc).map (fun d => d.parameters.length) = some 1 := ⟨by decide, by decide, by decide +kernel⟩
theorem gd_X1_rt : yX1_rt.cls ≠ "java/lang/invoke/MethodHandle" ∧ yX1_rt.cls ≠ "java/lang/invoke/VarHandle" ∧ (parseMethodDescriptor yX1_rt.desc).map (fun d => d.parameters.length) = some 1 := ⟨by decide, by decide, by decide +kernel⟩
theorem gd_X1_g : yX1_g.cls ≠ "java/lang/invoke/MethodHandle" ∧ yX1_g.cls ≠ "java/lang/invoke/VarHandle" ∧ (parseMethodDescriptor yX1_g.desc).map (fun d => d.parameters.length) = some 1 := ⟨by decide, by decide, by decide +kernel⟩
theorem gd_X1_numberI : yX1_numberI.cls ≠ "java/lang/invoke/MethodHandle" ∧ yX1_numberI.cls ≠ "java/lang/invoke/VarHandle" ∧ (parseMethodDescriptor yX1_numberI.desc).map (fun d => d.parameters.length) = some 1 := ⟨by decide, by decide, by decide +kernel⟩
theorem gd_X1_numberS : yX1_numberS.cls ≠ "java/lang/invoke/MethodHandle" ∧ yX1_numberS.cls ≠ "java/lang/invoke/VarHandle" ∧ (parseMethodDescriptor yX1_numberS.desc).map (fun d => d.parameters.length) = some 1 := ⟨by decide, by decide, by decide +kernel⟩
theorem gd_X1_numberB : yX1_numberB.cls ≠ "java/lang/invoke/MethodHandle" ∧ yX1_numberB.cls ≠ "java/lang/invoke/VarHandle" ∧ (parseMethodDescriptor yX1_numberB.desc).map (fun d => d.parameters.length) = some 1 := ⟨by decide, by decide, by decide +kernel⟩
theorem gd_X1_numberJ : yX1_numberJ.cls ≠ "java/lang/invoke/MethodHandle" ∧ yX1_numberJ.cls ≠ "java/lang/invoke/VarHandle" ∧ (parseMethodDescriptor yX1_numberJ.desc).map (fun d => d.parameters.length) = some 1 := ⟨by decide, by decide, by decide +kernel⟩
theorem gd_X1_numberU : yX1_numberU.cls ≠ "java/lang/invoke/MethodHandle" ∧ yX1_numberU.cls ≠ "java/lang/invoke/VarHandle" ∧ (parseMethodDescriptor yX1_numberU.desc).map (fun d => d.parameters.length) = some 1 := ⟨by decide, by decide, by decide +kernel⟩
theorem gd_X1_bitsOfS : yX1_bitsOfS.cls ≠ "java/lang/invoke/MethodHandle" ∧ yX1_bitsOfS.cls ≠ "java/lang/invoke/VarHandle" ∧ (parseMethodDescriptor yX1_bitsOfS.desc).map (fun d => d.parameters.length) = some 1 := ⟨by decide, by decide, by decide +kernel⟩
theorem gd_X1_bitsOfB : yX1_bitsOfB.cls ≠ "java/lang/invoke/MethodHandle" ∧ yX1_bitsOfB.cls ≠ "java/lang/invoke/VarHandle" ∧ (parseMethodDescriptor yX1_bitsOfB.desc).map (fun d => d.parameters.length) = some 1 := ⟨by decide, by decide, by decide +kernel⟩
theorem gd_X1_bitsOfJ : yX1_bitsOfJ.cls ≠ "java/lang/invoke/MethodHandle" ∧ yX1_bitsOfJ.cls ≠ "java/lang/invoke/VarHandle" ∧ (parseMethodDescriptor yX1_bitsOfJ.desc).map (fun d => d.parameters.length) = some 1 := ⟨by decide, by decide, by decide +kernel⟩
theorem gd_X2_placeOf : yX2_placeOf.cls ≠ "java/lang/invoke/MethodHandle" ∧ yX2_placeOf.cls ≠ "java/lang/invoke/VarHandle" ∧ (parseMethodDescriptor yX2_placeOf.desc).map (fun d => d.parameters.length) = some 1 := ⟨by decide, by decide, by decide +kernel⟩
theorem gd_X3_find : yX3_find.cls ≠ "java/lang/invoke/MethodHandle" ∧ yX3_find.cls ≠ "java/lang/invoke/VarHandle" ∧ (parseMethodDescriptor yX3_find.desc).map (fun d => d.parameters.length) = some 1 := ⟨by decide, by decide, by decide +kernel⟩
abbrev M_J9_floorMod_7cf53 : g_M := (cJ9_floorMod_7cf53, 3, RJ9, (some .int), { frames := 0, cells := 0, slots := 0, locals := 0 }, 0, 0)
theorem dm_J9_floorMod_7cf53_0 : decode M_J9_floorMod_7cf53.1 0 = .ok (.iload_n 0, 1) := by decide +kernel
theorem dm_J9_floorMod_7cf53_1 : decode M_J9_floorMod_7cf53.1 1 = .ok (.iload_n 1, 1) := by decide +kernel
theorem dm_J9_floorMod_7cf53_2 : decode M_J9_floorMod_7cf53.1 2 = .ok (.irem, 1) := by decide +kernel
theorem dm_J9_floorMod_7cf53_3 : decode M_J9_floorMod_7cf53.1 3 = .ok (.istore_n 2, 1) := by decide +kernel
theorem dm_J9_floorMod_7cf53_4 : decode M_J9_floorMod_7cf53.1 4 = .ok (.iload_n 0, 1) := by decide +kernel
theorem dm_J9_floorMod_7cf53_5 : decode M_J9_floorMod_7cf53.1 5 = .ok (.iload_n 1, 1) := by decide +kernel
theorem dm_J9_floorMod_7cf53_6 : decode M_J9_floorMod_7cf53.1 6 = .ok (.ixor, 1) := by decide +kernel
theorem dm_J9_floorMod_7cf53_7 : decode M_J9_floorMod_7cf53.1 7 = .ok (.ifCond .ge 11, 3) := by decide +kernel
theorem dm_J9_floorMod_7cf53_10 : decode M_J9_floorMod_7cf53.1 10 = .ok (.iload_n 2, 1) := by decide +kernel
theorem dm_J9_floorMod_7cf53_11 : decode M_J9_floorMod_7cf53.1 11 = .ok (.ifCond .eq 7, 3) := by decide +kernel
theorem dm_J9_floorMod_7cf53_14 : decode M_J9_floorMod_7cf53.1 14 = .ok (.iload_n 2, 1) := by decide +kernel
theorem dm_J9_floorMod_7cf53_15 : decode M_J9_floorMod_7cf53.1 15 = .ok (.iload_n 1, 1) := by decide +kernel
theorem dm_J9_floorMod_7cf53_16 : decode M_J9_floorMod_7cf53.1 16 = .ok (.iadd, 1) := by decide +kernel
theorem dm_J9_floorMod_7cf53_17 : decode M_J9_floorMod_7cf53.1 17 = .ok (.ireturn, 1) := by decide +kernel
theorem dm_J9_floorMod_7cf53_18 : decode M_J9_floorMod_7cf53.1 18 = .ok (.iload_n 2, 1) := by decide +kernel
theorem dm_J9_floorMod_7cf53_19 : decode M_J9_floorMod_7cf53.1 19 = .ok (.ireturn, 1) := by decide +kernel
def f_J9_floorMod_7cf53 (x : Int32) (y : Int32) : Int32 := (if 0 ≤ (x ^^^ y) then (x - x / y * y) else (if (x - x / y * y) = 0 then (x - x / y * y) else ((x - x / y * y) + y)))
set_option maxRecDepth 20000 in
theorem k_J9_floorMod_7cf53 {x : Int32} {y : Int32} (hne : ¬ y = 0) {r_0 : Int32} (hres : r_0 = f_J9_floorMod_7cf53 x y) : K M_J9_floorMod_7cf53 yJ9_floorMod_7cf53 [.int x, .int y] [] (some (.int r_0)) [] := by
  refine K.of (lv := [(0, .int x), (1, .int y)]) (by decide +kernel) rfl rfl rfl ?_
  rw [f_J9_floorMod_7cf53] at hres
  refine G.iload_n (pc := 0) dm_J9_floorMod_7cf53_0 rfl ?_
  refine G.iload_n (pc := 1) dm_J9_floorMod_7cf53_1 rfl ?_
  refine G.irem (pc := 2) dm_J9_floorMod_7cf53_2 hne ?_
  refine G.istore_n (pc := 3) (lv1 := [(2, .int (x - x / y * y)), (0, .int x), (1, .int y)]) dm_J9_floorMod_7cf53_3 rfl rfl ?_
  refine G.iload_n (pc := 4) dm_J9_floorMod_7cf53_4 rfl ?_
  refine G.iload_n (pc := 5) dm_J9_floorMod_7cf53_5 rfl ?_
  refine G.ixor (pc := 6) dm_J9_floorMod_7cf53_6 ?_
  refine G.if_ge (pc := 7) (tgt := 18) dm_J9_floorMod_7cf53_7 (by decide) (fun c7 => ?_) (fun c7 => ?_)
  · rw [if_pos c7] at hres
    refine G.iload_n (pc := 18) dm_J9_floorMod_7cf53_18 rfl ?_
    subst hres
    exact G.ireturn (pc := 19) dm_J9_floorMod_7cf53_19 rfl rfl rfl
  · rw [if_neg c7] at hres
    refine G.iload_n (pc := 10) dm_J9_floorMod_7cf53_10 rfl ?_
    refine G.if_eq (pc := 11) (tgt := 18) dm_J9_floorMod_7cf53_11 (by decide) (fun c11 => ?_) (fun c11 => ?_)
    · rw [if_pos c11] at hres
      refine G.iload_n (pc := 18) dm_J9_floorMod_7cf53_18 rfl ?_
      subst hres
      exact G.ireturn (pc := 19) dm_J9_floorMod_7cf53_19 rfl rfl rfl
    · rw [if_neg c11] at hres
      refine G.iload_n (pc := 14) dm_J9_floorMod_7cf53_14 rfl ?_
      refine G.iload_n (pc := 15) dm_J9_floorMod_7cf53_15 rfl ?_
      refine G.iadd (pc := 16) dm_J9_floorMod_7cf53_16 ?_
      subst hres
      exact G.ireturn (pc := 17) dm_J9_floorMod_7cf53_17 rfl rfl rfl
abbrev M_X1_op : g_M := (cX1_op, 1, RX1, (some .int), { frames := 0, cells := 0, slots := 0, locals := 0 }, 0, 0)
theorem dm_X1_op_0 : decode M_X1_op.1 0 = .ok (.iload_n 0, 1) := by decide +kernel
theorem dm_X1_op_1 : decode M_X1_op.1 1 = .ok (.bipush 127, 2) := by decide +kernel
theorem dm_X1_op_3 : decode M_X1_op.1 3 = .ok (.iand, 1) := by decide +kernel
theorem dm_X1_op_4 : decode M_X1_op.1 4 = .ok (.ireturn, 1) := by decide +kernel
def f_X1_op (x : Int32) : Int32 := (x &&& (127 : Int32))
set_option maxRecDepth 20000 in
theorem k_X1_op {x : Int32} {r_0 : Int32} (hres : r_0 = f_X1_op x) : K M_X1_op yX1_op [.int x] [] (some (.int r_0)) [] := by
  refine K.of (lv := [(0, .int x)]) (by decide +kernel) rfl rfl rfl ?_
  rw [f_X1_op] at hres
  refine G.iload_n (pc := 0) dm_X1_op_0 rfl ?_
  refine G.bipush (pc := 1) (v := (127 : Int32)) dm_X1_op_1 qb_127 ?_
  refine G.iand (pc := 3) dm_X1_op_3 ?_
  subst hres
  exact G.ireturn (pc := 4) dm_X1_op_4 rfl rfl rfl
abbrev M_X1_rd : g_M := (cX1_rd, 1, RX1, (some .int), { frames := 0, cells := 0, slots := 0, locals := 0 }, 0, 0)
theorem dm_X1_rd_0 : decode M_X1_rd.1 0 = .ok (.iload_n 0, 1) := by decide +kernel
theorem dm_X1_rd_1 : decode M_X1_rd.1 1 = .ok (.bipush 7, 2) := by decide +kernel
theorem dm_X1_rd_3 : decode M_X1_rd.1 3 = .ok (.iushr, 1) := by decide +kernel
theorem dm_X1_rd_4 : decode M_X1_rd.1 4 = .ok (.bipush 31, 2) := by decide +kernel
theorem dm_X1_rd_6 : decode M_X1_rd.1 6 = .ok (.iand, 1) := by decide +kernel
theorem dm_X1_rd_7 : decode M_X1_rd.1 7 = .ok (.ireturn, 1) := by decide +kernel
def f_X1_rd (x : Int32) : Int32 := ((g_ushr x (7 : Int32)) &&& (31 : Int32))
set_option maxRecDepth 20000 in
theorem k_X1_rd {x : Int32} {r_0 : Int32} (hres : r_0 = f_X1_rd x) : K M_X1_rd yX1_rd [.int x] [] (some (.int r_0)) [] := by
  refine K.of (lv := [(0, .int x)]) (by decide +kernel) rfl rfl rfl ?_
  rw [f_X1_rd] at hres
  refine G.iload_n (pc := 0) dm_X1_rd_0 rfl ?_
  refine G.bipush (pc := 1) (v := (7 : Int32)) dm_X1_rd_1 qb_7 ?_
  refine G.iushr (pc := 3) dm_X1_rd_3 ?_
  refine G.bipush (pc := 4) (v := (31 : Int32)) dm_X1_rd_4 qb_31 ?_
  refine G.iand (pc := 6) dm_X1_rd_6 ?_
  subst hres
  exact G.ireturn (pc := 7) dm_X1_rd_7 rfl rfl rfl
abbrev M_X1_f : g_M := (cX1_f, 1, RX1, (some .int), { frames := 0, cells := 0, slots := 0, locals := 0 }, 0, 0)
theorem dm_X1_f_0 : decode M_X1_f.1 0 = .ok (.iload_n 0, 1) := by decide +kernel
theorem dm_X1_f_1 : decode M_X1_f.1 1 = .ok (.bipush 12, 2) := by decide +kernel
theorem dm_X1_f_3 : decode M_X1_f.1 3 = .ok (.iushr, 1) := by decide +kernel
theorem dm_X1_f_4 : decode M_X1_f.1 4 = .ok (.bipush 7, 2) := by decide +kernel
theorem dm_X1_f_6 : decode M_X1_f.1 6 = .ok (.iand, 1) := by decide +kernel
theorem dm_X1_f_7 : decode M_X1_f.1 7 = .ok (.ireturn, 1) := by decide +kernel
def f_X1_f (x : Int32) : Int32 := ((g_ushr x (12 : Int32)) &&& (7 : Int32))
set_option maxRecDepth 20000 in
theorem k_X1_f {x : Int32} {r_0 : Int32} (hres : r_0 = f_X1_f x) : K M_X1_f yX1_f [.int x] [] (some (.int r_0)) [] := by
  refine K.of (lv := [(0, .int x)]) (by decide +kernel) rfl rfl rfl ?_
  rw [f_X1_f] at hres
  refine G.iload_n (pc := 0) dm_X1_f_0 rfl ?_
  refine G.bipush (pc := 1) (v := (12 : Int32)) dm_X1_f_1 qb_12 ?_
  refine G.iushr (pc := 3) dm_X1_f_3 ?_
  refine G.bipush (pc := 4) (v := (7 : Int32)) dm_X1_f_4 qb_7 ?_
  refine G.iand (pc := 6) dm_X1_f_6 ?_
  subst hres
  exact G.ireturn (pc := 7) dm_X1_f_7 rfl rfl rfl
abbrev M_X1_rs : g_M := (cX1_rs, 1, RX1, (some .int), { frames := 0, cells := 0, slots := 0, locals := 0 }, 0, 0)
theorem dm_X1_rs_0 : decode M_X1_rs.1 0 = .ok (.iload_n 0, 1) := by decide +kernel
theorem dm_X1_rs_1 : decode M_X1_rs.1 1 = .ok (.bipush 15, 2) := by decide +kernel
theorem dm_X1_rs_3 : decode M_X1_rs.1 3 = .ok (.iushr, 1) := by decide +kernel
theorem dm_X1_rs_4 : decode M_X1_rs.1 4 = .ok (.bipush 31, 2) := by decide +kernel
theorem dm_X1_rs_6 : decode M_X1_rs.1 6 = .ok (.iand, 1) := by decide +kernel
theorem dm_X1_rs_7 : decode M_X1_rs.1 7 = .ok (.ireturn, 1) := by decide +kernel
def f_X1_rs (x : Int32) : Int32 := ((g_ushr x (15 : Int32)) &&& (31 : Int32))
set_option maxRecDepth 20000 in
theorem k_X1_rs {x : Int32} {r_0 : Int32} (hres : r_0 = f_X1_rs x) : K M_X1_rs yX1_rs [.int x] [] (some (.int r_0)) [] := by
  refine K.of (lv := [(0, .int x)]) (by decide +kernel) rfl rfl rfl ?_
  rw [f_X1_rs] at hres
  refine G.iload_n (pc := 0) dm_X1_rs_0 rfl ?_
  refine G.bipush (pc := 1) (v := (15 : Int32)) dm_X1_rs_1 qb_15 ?_
  refine G.iushr (pc := 3) dm_X1_rs_3 ?_
  refine G.bipush (pc := 4) (v := (31 : Int32)) dm_X1_rs_4 qb_31 ?_
  refine G.iand (pc := 6) dm_X1_rs_6 ?_
  subst hres
  exact G.ireturn (pc := 7) dm_X1_rs_7 rfl rfl rfl
abbrev M_X1_rt : g_M := (cX1_rt, 1, RX1, (some .int), { frames := 0, cells := 0, slots := 0, locals := 0 }, 0, 0)
theorem dm_X1_rt_0 : decode M_X1_rt.1 0 = .ok (.iload_n 0, 1) := by decide +kernel
theorem dm_X1_rt_1 : decode M_X1_rt.1 1 = .ok (.bipush 20, 2) := by decide +kernel
theorem dm_X1_rt_3 : decode M_X1_rt.1 3 = .ok (.iushr, 1) := by decide +kernel
theorem dm_X1_rt_4 : decode M_X1_rt.1 4 = .ok (.bipush 31, 2) := by decide +kernel
theorem dm_X1_rt_6 : decode M_X1_rt.1 6 = .ok (.iand, 1) := by decide +kernel
theorem dm_X1_rt_7 : decode M_X1_rt.1 7 = .ok (.ireturn, 1) := by decide +kernel
def f_X1_rt (x : Int32) : Int32 := ((g_ushr x (20 : Int32)) &&& (31 : Int32))
set_option maxRecDepth 20000 in
theorem k_X1_rt {x : Int32} {r_0 : Int32} (hres : r_0 = f_X1_rt x) : K M_X1_rt yX1_rt [.int x] [] (some (.int r_0)) [] := by
  refine K.of (lv := [(0, .int x)]) (by decide +kernel) rfl rfl rfl ?_
  rw [f_X1_rt] at hres
  refine G.iload_n (pc := 0) dm_X1_rt_0 rfl ?_
  refine G.bipush (pc := 1) (v := (20 : Int32)) dm_X1_rt_1 qb_20 ?_
  refine G.iushr (pc := 3) dm_X1_rt_3 ?_
  refine G.bipush (pc := 4) (v := (31 : Int32)) dm_X1_rt_4 qb_31 ?_
  refine G.iand (pc := 6) dm_X1_rt_6 ?_
  subst hres
  exact G.ireturn (pc := 7) dm_X1_rt_7 rfl rfl rfl
abbrev M_X1_g : g_M := (cX1_g, 1, RX1, (some .int), { frames := 0, cells := 0, slots := 0, locals := 0 }, 0, 0)
theorem dm_X1_g_0 : decode M_X1_g.1 0 = .ok (.iload_n 0, 1) := by decide +kernel
theorem dm_X1_g_1 : decode M_X1_g.1 1 = .ok (.bipush 25, 2) := by decide +kernel
theorem dm_X1_g_3 : decode M_X1_g.1 3 = .ok (.iushr, 1) := by decide +kernel
theorem dm_X1_g_4 : decode M_X1_g.1 4 = .ok (.ireturn, 1) := by decide +kernel
def f_X1_g (x : Int32) : Int32 := (g_ushr x (25 : Int32))
set_option maxRecDepth 20000 in
theorem k_X1_g {x : Int32} {r_0 : Int32} (hres : r_0 = f_X1_g x) : K M_X1_g yX1_g [.int x] [] (some (.int r_0)) [] := by
  refine K.of (lv := [(0, .int x)]) (by decide +kernel) rfl rfl rfl ?_
  rw [f_X1_g] at hres
  refine G.iload_n (pc := 0) dm_X1_g_0 rfl ?_
  refine G.bipush (pc := 1) (v := (25 : Int32)) dm_X1_g_1 qb_25 ?_
  refine G.iushr (pc := 3) dm_X1_g_3 ?_
  subst hres
  exact G.ireturn (pc := 4) dm_X1_g_4 rfl rfl rfl
abbrev M_X1_numberI : g_M := (cX1_numberI, 1, RX1, (some .int), { frames := 0, cells := 0, slots := 0, locals := 0 }, 0, 0)
theorem dm_X1_numberI_0 : decode M_X1_numberI.1 0 = .ok (.iload_n 0, 1) := by decide +kernel
theorem dm_X1_numberI_1 : decode M_X1_numberI.1 1 = .ok (.bipush 20, 2) := by decide +kernel
theorem dm_X1_numberI_3 : decode M_X1_numberI.1 3 = .ok (.ishr, 1) := by decide +kernel
theorem dm_X1_numberI_4 : decode M_X1_numberI.1 4 = .ok (.ireturn, 1) := by decide +kernel
def f_X1_numberI (x : Int32) : Int32 := (x >>> ((20 : Int32) &&& 31))
set_option maxRecDepth 20000 in
theorem k_X1_numberI {x : Int32} {r_0 : Int32} (hres : r_0 = f_X1_numberI x) : K M_X1_numberI yX1_numberI [.int x] [] (some (.int r_0)) [] := by
  refine K.of (lv := [(0, .int x)]) (by decide +kernel) rfl rfl rfl ?_
  rw [f_X1_numberI] at hres
  refine G.iload_n (pc := 0) dm_X1_numberI_0 rfl ?_
  refine G.bipush (pc := 1) (v := (20 : Int32)) dm_X1_numberI_1 qb_20 ?_
  refine G.ishr (pc := 3) dm_X1_numberI_3 ?_
  subst hres
  exact G.ireturn (pc := 4) dm_X1_numberI_4 rfl rfl rfl
abbrev M_X1_numberS : g_M := (cX1_numberS, 1, RX1, (some .int), { frames := 1, cells := 0, slots := 0, locals := 20 }, 0, 0)
theorem dm_X1_numberS_0 : decode M_X1_numberS.1 0 = .ok (.iload_n 0, 1) := by decide +kernel
theorem dm_X1_numberS_1 : decode M_X1_numberS.1 1 = .ok (.bipush 25, 2) := by decide +kernel
theorem dm_X1_numberS_3 : decode M_X1_numberS.1 3 = .ok (.ishr, 1) := by decide +kernel
theorem dm_X1_numberS_4 : decode M_X1_numberS.1 4 = .ok (.iconst 5, 1) := by decide +kernel
theorem dm_X1_numberS_5 : decode M_X1_numberS.1 5 = .ok (.ishl, 1) := by decide +kernel
theorem dm_X1_numberS_6 : decode M_X1_numberS.1 6 = .ok (.iload_n 0, 1) := by decide +kernel
theorem dm_X1_numberS_7 : decode M_X1_numberS.1 7 = .ok (.invokestatic 9, 3) := by decide +kernel
theorem dm_X1_numberS_10 : decode M_X1_numberS.1 10 = .ok (.ior, 1) := by decide +kernel
theorem dm_X1_numberS_11 : decode M_X1_numberS.1 11 = .ok (.ireturn, 1) := by decide +kernel
theorem gc_X1_numberS_9 : g_cs M_X1_numberS 9 M_X1_rd yX1_rd 1 := ⟨tw718, tw633, tw359, tw634, ⟨rfl, rfl, rfl, rfl⟩, gd_X1_rd, ⟨by decide, by decide⟩⟩
def f_X1_numberS_c7 (x : Int32) (z1_0 : Int32) : Int32 := (((x >>> ((25 : Int32) &&& 31)) <<< ((5 : Int32) &&& 31)) ||| z1_0)
def f_X1_numberS (x : Int32) : Int32 := (f_X1_numberS_c7 x (f_X1_rd x))
set_option maxRecDepth 20000 in
theorem k_X1_numberS {x : Int32} {r_0 : Int32} (hres : r_0 = f_X1_numberS x) : K M_X1_numberS yX1_numberS [.int x] [] (some (.int r_0)) [] := by
  refine K.of (lv := [(0, .int x)]) (by decide +kernel) rfl rfl rfl ?_
  rw [f_X1_numberS] at hres
  refine G.iload_n (pc := 0) dm_X1_numberS_0 rfl ?_
  refine G.bipush (pc := 1) (v := (25 : Int32)) dm_X1_numberS_1 qb_25 ?_
  refine G.ishr (pc := 3) dm_X1_numberS_3 ?_
  refine G.iconst (pc := 4) (v := (5 : Int32)) dm_X1_numberS_4 qi_5 ?_
  refine G.ishl (pc := 5) dm_X1_numberS_5 ?_
  refine G.iload_n (pc := 6) dm_X1_numberS_6 rfl ?_
  obtain ⟨z1_0, hz1⟩ := g_ex1 (f_X1_rd x)
  refine G.callS (pc := 7) (rest := [.int ((x >>> ((25 : Int32) &&& 31)) <<< ((5 : Int32) &&& 31))]) (st1 := [.int z1_0, .int ((x >>> ((25 : Int32) &&& 31)) <<< ((5 : Int32) &&& 31))]) (ws1 := []) [] dm_X1_numberS_7 gc_X1_numberS_9 (k_X1_rd (x := x) hz1) rfl rfl rfl rfl rfl rfl rfl rfl ?_
  replace hres : r_0 = f_X1_numberS_c7 x z1_0 := hres.trans (by rw [← hz1])
  rw [f_X1_numberS_c7] at hres
  refine G.ior (pc := 10) dm_X1_numberS_10 ?_
  subst hres
  exact G.ireturn (pc := 11) dm_X1_numberS_11 rfl rfl rfl
abbrev M_X1_numberB : g_M := (cX1_numberB, 1, RX1, (some .int), { frames := 0, cells := 0, slots := 0, locals := 0 }, 0, 0)
theorem dm_X1_numberB_0 : decode M_X1_numberB.1 0 = .ok (.iload_n 0, 1) := by decide +kernel
theorem dm_X1_numberB_1 : decode M_X1_numberB.1 1 = .ok (.bipush 31, 2) := by decide +kernel
theorem dm_X1_numberB_3 : decode M_X1_numberB.1 3 = .ok (.ishr, 1) := by decide +kernel
theorem dm_X1_numberB_4 : decode M_X1_numberB.1 4 = .ok (.bipush 12, 2) := by decide +kernel
theorem dm_X1_numberB_6 : decode M_X1_numberB.1 6 = .ok (.ishl, 1) := by decide +kernel
theorem dm_X1_numberB_7 : decode M_X1_numberB.1 7 = .ok (.iload_n 0, 1) := by decide +kernel
theorem dm_X1_numberB_8 : decode M_X1_numberB.1 8 = .ok (.iconst 4, 1) := by decide +kernel
theorem dm_X1_numberB_9 : decode M_X1_numberB.1 9 = .ok (.ishl, 1) := by decide +kernel
theorem dm_X1_numberB_10 : decode M_X1_numberB.1 10 = .ok (.sipush 2048, 3) := by decide +kernel
theorem dm_X1_numberB_13 : decode M_X1_numberB.1 13 = .ok (.iand, 1) := by decide +kernel
theorem dm_X1_numberB_14 : decode M_X1_numberB.1 14 = .ok (.ior, 1) := by decide +kernel
theorem dm_X1_numberB_15 : decode M_X1_numberB.1 15 = .ok (.iload_n 0, 1) := by decide +kernel
theorem dm_X1_numberB_16 : decode M_X1_numberB.1 16 = .ok (.bipush 20, 2) := by decide +kernel
theorem dm_X1_numberB_18 : decode M_X1_numberB.1 18 = .ok (.iushr, 1) := by decide +kernel
theorem dm_X1_numberB_19 : decode M_X1_numberB.1 19 = .ok (.sipush 2016, 3) := by decide +kernel
theorem dm_X1_numberB_22 : decode M_X1_numberB.1 22 = .ok (.iand, 1) := by decide +kernel
theorem dm_X1_numberB_23 : decode M_X1_numberB.1 23 = .ok (.ior, 1) := by decide +kernel
theorem dm_X1_numberB_24 : decode M_X1_numberB.1 24 = .ok (.iload_n 0, 1) := by decide +kernel
theorem dm_X1_numberB_25 : decode M_X1_numberB.1 25 = .ok (.bipush 7, 2) := by decide +kernel
theorem dm_X1_numberB_27 : decode M_X1_numberB.1 27 = .ok (.iushr, 1) := by decide +kernel
theorem dm_X1_numberB_28 : decode M_X1_numberB.1 28 = .ok (.bipush 30, 2) := by decide +kernel
theorem dm_X1_numberB_30 : decode M_X1_numberB.1 30 = .ok (.iand, 1) := by decide +kernel
theorem dm_X1_numberB_31 : decode M_X1_numberB.1 31 = .ok (.ior, 1) := by decide +kernel
theorem dm_X1_numberB_32 : decode M_X1_numberB.1 32 = .ok (.ireturn, 1) := by decide +kernel
def f_X1_numberB (x : Int32) : Int32 := (((((x >>> ((31 : Int32) &&& 31)) <<< ((12 : Int32) &&& 31)) ||| ((x <<< ((4 : Int32) &&& 31)) &&& (2048 : Int32))) ||| ((g_ushr x (20 : Int32)) &&& (2016 : Int32))) ||| ((g_ushr x (7 : Int32)) &&& (30 : Int32)))
set_option maxRecDepth 20000 in
theorem k_X1_numberB {x : Int32} {r_0 : Int32} (hres : r_0 = f_X1_numberB x) : K M_X1_numberB yX1_numberB [.int x] [] (some (.int r_0)) [] := by
  refine K.of (lv := [(0, .int x)]) (by decide +kernel) rfl rfl rfl ?_
  rw [f_X1_numberB] at hres
  refine G.iload_n (pc := 0) dm_X1_numberB_0 rfl ?_
  refine G.bipush (pc := 1) (v := (31 : Int32)) dm_X1_numberB_1 qb_31 ?_
  refine G.ishr (pc := 3) dm_X1_numberB_3 ?_
  refine G.bipush (pc := 4) (v := (12 : Int32)) dm_X1_numberB_4 qb_12 ?_
  refine G.ishl (pc := 6) dm_X1_numberB_6 ?_
  refine G.iload_n (pc := 7) dm_X1_numberB_7 rfl ?_
  refine G.iconst (pc := 8) (v := (4 : Int32)) dm_X1_numberB_8 qi_4 ?_
  refine G.ishl (pc := 9) dm_X1_numberB_9 ?_
  refine G.sipush (pc := 10) (v := (2048 : Int32)) dm_X1_numberB_10 qs_2048 ?_
  refine G.iand (pc := 13) dm_X1_numberB_13 ?_
  refine G.ior (pc := 14) dm_X1_numberB_14 ?_
  refine G.iload_n (pc := 15) dm_X1_numberB_15 rfl ?_
  refine G.bipush (pc := 16) (v := (20 : Int32)) dm_X1_numberB_16 qb_20 ?_
  refine G.iushr (pc := 18) dm_X1_numberB_18 ?_
  refine G.sipush (pc := 19) (v := (2016 : Int32)) dm_X1_numberB_19 qs_2016 ?_
  refine G.iand (pc := 22) dm_X1_numberB_22 ?_
  refine G.ior (pc := 23) dm_X1_numberB_23 ?_
  refine G.iload_n (pc := 24) dm_X1_numberB_24 rfl ?_
  refine G.bipush (pc := 25) (v := (7 : Int32)) dm_X1_numberB_25 qb_7 ?_
  refine G.iushr (pc := 27) dm_X1_numberB_27 ?_
  refine G.bipush (pc := 28) (v := (30 : Int32)) dm_X1_numberB_28 qb_30 ?_
  refine G.iand (pc := 30) dm_X1_numberB_30 ?_
  refine G.ior (pc := 31) dm_X1_numberB_31 ?_
  subst hres
  exact G.ireturn (pc := 32) dm_X1_numberB_32 rfl rfl rfl
abbrev M_X1_numberJ : g_M := (cX1_numberJ, 1, RX1, (some .int), { frames := 0, cells := 0, slots := 0, locals := 0 }, 0, 0)
theorem dm_X1_numberJ_0 : decode M_X1_numberJ.1 0 = .ok (.iload_n 0, 1) := by decide +kernel
theorem dm_X1_numberJ_1 : decode M_X1_numberJ.1 1 = .ok (.bipush 31, 2) := by decide +kernel
theorem dm_X1_numberJ_3 : decode M_X1_numberJ.1 3 = .ok (.ishr, 1) := by decide +kernel
theorem dm_X1_numberJ_4 : decode M_X1_numberJ.1 4 = .ok (.bipush 20, 2) := by decide +kernel
theorem dm_X1_numberJ_6 : decode M_X1_numberJ.1 6 = .ok (.ishl, 1) := by decide +kernel
theorem dm_X1_numberJ_7 : decode M_X1_numberJ.1 7 = .ok (.iload_n 0, 1) := by decide +kernel
theorem dm_X1_numberJ_8 : decode M_X1_numberJ.1 8 = .ok (.ldc 15, 2) := by decide +kernel
theorem dm_X1_numberJ_10 : decode M_X1_numberJ.1 10 = .ok (.iand, 1) := by decide +kernel
theorem dm_X1_numberJ_11 : decode M_X1_numberJ.1 11 = .ok (.ior, 1) := by decide +kernel
theorem dm_X1_numberJ_12 : decode M_X1_numberJ.1 12 = .ok (.iload_n 0, 1) := by decide +kernel
theorem dm_X1_numberJ_13 : decode M_X1_numberJ.1 13 = .ok (.bipush 9, 2) := by decide +kernel
theorem dm_X1_numberJ_15 : decode M_X1_numberJ.1 15 = .ok (.iushr, 1) := by decide +kernel
theorem dm_X1_numberJ_16 : decode M_X1_numberJ.1 16 = .ok (.sipush 2048, 3) := by decide +kernel
theorem dm_X1_numberJ_19 : decode M_X1_numberJ.1 19 = .ok (.iand, 1) := by decide +kernel
theorem dm_X1_numberJ_20 : decode M_X1_numberJ.1 20 = .ok (.ior, 1) := by decide +kernel
theorem dm_X1_numberJ_21 : decode M_X1_numberJ.1 21 = .ok (.iload_n 0, 1) := by decide +kernel
theorem dm_X1_numberJ_22 : decode M_X1_numberJ.1 22 = .ok (.bipush 20, 2) := by decide +kernel
theorem dm_X1_numberJ_24 : decode M_X1_numberJ.1 24 = .ok (.iushr, 1) := by decide +kernel
theorem dm_X1_numberJ_25 : decode M_X1_numberJ.1 25 = .ok (.sipush 2046, 3) := by decide +kernel
theorem dm_X1_numberJ_28 : decode M_X1_numberJ.1 28 = .ok (.iand, 1) := by decide +kernel
theorem dm_X1_numberJ_29 : decode M_X1_numberJ.1 29 = .ok (.ior, 1) := by decide +kernel
theorem dm_X1_numberJ_30 : decode M_X1_numberJ.1 30 = .ok (.ireturn, 1) := by decide +kernel
def f_X1_numberJ (x : Int32) : Int32 := (((((x >>> ((31 : Int32) &&& 31)) <<< ((20 : Int32) &&& 31)) ||| (x &&& (1044480 : Int32))) ||| ((g_ushr x (9 : Int32)) &&& (2048 : Int32))) ||| ((g_ushr x (20 : Int32)) &&& (2046 : Int32)))
set_option maxRecDepth 20000 in
theorem k_X1_numberJ {x : Int32} {r_0 : Int32} (hres : r_0 = f_X1_numberJ x) : K M_X1_numberJ yX1_numberJ [.int x] [] (some (.int r_0)) [] := by
  refine K.of (lv := [(0, .int x)]) (by decide +kernel) rfl rfl rfl ?_
  rw [f_X1_numberJ] at hres
  refine G.iload_n (pc := 0) dm_X1_numberJ_0 rfl ?_
  refine G.bipush (pc := 1) (v := (31 : Int32)) dm_X1_numberJ_1 qb_31 ?_
  refine G.ishr (pc := 3) dm_X1_numberJ_3 ?_
  refine G.bipush (pc := 4) (v := (20 : Int32)) dm_X1_numberJ_4 qb_20 ?_
  refine G.ishl (pc := 6) dm_X1_numberJ_6 ?_
  refine G.iload_n (pc := 7) dm_X1_numberJ_7 rfl ?_
  refine G.ldc (pc := 8) dm_X1_numberJ_8 tw371 ?_
  refine G.iand (pc := 10) dm_X1_numberJ_10 ?_
  refine G.ior (pc := 11) dm_X1_numberJ_11 ?_
  refine G.iload_n (pc := 12) dm_X1_numberJ_12 rfl ?_
  refine G.bipush (pc := 13) (v := (9 : Int32)) dm_X1_numberJ_13 qb_9 ?_
  refine G.iushr (pc := 15) dm_X1_numberJ_15 ?_
  refine G.sipush (pc := 16) (v := (2048 : Int32)) dm_X1_numberJ_16 qs_2048 ?_
  refine G.iand (pc := 19) dm_X1_numberJ_19 ?_
  refine G.ior (pc := 20) dm_X1_numberJ_20 ?_
  refine G.iload_n (pc := 21) dm_X1_numberJ_21 rfl ?_
  refine G.bipush (pc := 22) (v := (20 : Int32)) dm_X1_numberJ_22 qb_20 ?_
  refine G.iushr (pc := 24) dm_X1_numberJ_24 ?_
  refine G.sipush (pc := 25) (v := (2046 : Int32)) dm_X1_numberJ_25 qs_2046 ?_
  refine G.iand (pc := 28) dm_X1_numberJ_28 ?_
  refine G.ior (pc := 29) dm_X1_numberJ_29 ?_
  subst hres
  exact G.ireturn (pc := 30) dm_X1_numberJ_30 rfl rfl rfl
abbrev M_X1_numberU : g_M := (cX1_numberU, 1, RX1, (some .int), { frames := 0, cells := 0, slots := 0, locals := 0 }, 0, 0)
theorem dm_X1_numberU_0 : decode M_X1_numberU.1 0 = .ok (.iload_n 0, 1) := by decide +kernel
theorem dm_X1_numberU_1 : decode M_X1_numberU.1 1 = .ok (.sipush (-4096), 3) := by decide +kernel
theorem dm_X1_numberU_4 : decode M_X1_numberU.1 4 = .ok (.iand, 1) := by decide +kernel
theorem dm_X1_numberU_5 : decode M_X1_numberU.1 5 = .ok (.ireturn, 1) := by decide +kernel
def f_X1_numberU (x : Int32) : Int32 := (x &&& (-4096 : Int32))
set_option maxRecDepth 20000 in
theorem k_X1_numberU {x : Int32} {r_0 : Int32} (hres : r_0 = f_X1_numberU x) : K M_X1_numberU yX1_numberU [.int x] [] (some (.int r_0)) [] := by
  refine K.of (lv := [(0, .int x)]) (by decide +kernel) rfl rfl rfl ?_
  rw [f_X1_numberU] at hres
  refine G.iload_n (pc := 0) dm_X1_numberU_0 rfl ?_
  refine G.sipush (pc := 1) (v := (-4096 : Int32)) dm_X1_numberU_1 qs_m4096 ?_
  refine G.iand (pc := 4) dm_X1_numberU_4 ?_
  subst hres
  exact G.ireturn (pc := 5) dm_X1_numberU_5 rfl rfl rfl
abbrev M_X1_bitsOfS : g_M := (cX1_bitsOfS, 1, RX1, (some .int), { frames := 0, cells := 0, slots := 0, locals := 0 }, 0, 0)
theorem dm_X1_bitsOfS_0 : decode M_X1_bitsOfS.1 0 = .ok (.iload_n 0, 1) := by decide +kernel
theorem dm_X1_bitsOfS_1 : decode M_X1_bitsOfS.1 1 = .ok (.iconst 5, 1) := by decide +kernel
theorem dm_X1_bitsOfS_2 : decode M_X1_bitsOfS.1 2 = .ok (.ishr, 1) := by decide +kernel
theorem dm_X1_bitsOfS_3 : decode M_X1_bitsOfS.1 3 = .ok (.bipush 25, 2) := by decide +kernel
theorem dm_X1_bitsOfS_5 : decode M_X1_bitsOfS.1 5 = .ok (.ishl, 1) := by decide +kernel
theorem dm_X1_bitsOfS_6 : decode M_X1_bitsOfS.1 6 = .ok (.iload_n 0, 1) := by decide +kernel
theorem dm_X1_bitsOfS_7 : decode M_X1_bitsOfS.1 7 = .ok (.bipush 31, 2) := by decide +kernel
theorem dm_X1_bitsOfS_9 : decode M_X1_bitsOfS.1 9 = .ok (.iand, 1) := by decide +kernel
theorem dm_X1_bitsOfS_10 : decode M_X1_bitsOfS.1 10 = .ok (.bipush 7, 2) := by decide +kernel
theorem dm_X1_bitsOfS_12 : decode M_X1_bitsOfS.1 12 = .ok (.ishl, 1) := by decide +kernel
theorem dm_X1_bitsOfS_13 : decode M_X1_bitsOfS.1 13 = .ok (.ior, 1) := by decide +kernel
theorem dm_X1_bitsOfS_14 : decode M_X1_bitsOfS.1 14 = .ok (.ireturn, 1) := by decide +kernel
def f_X1_bitsOfS (x : Int32) : Int32 := (((x >>> ((5 : Int32) &&& 31)) <<< ((25 : Int32) &&& 31)) ||| ((x &&& (31 : Int32)) <<< ((7 : Int32) &&& 31)))
set_option maxRecDepth 20000 in
theorem k_X1_bitsOfS {x : Int32} {r_0 : Int32} (hres : r_0 = f_X1_bitsOfS x) : K M_X1_bitsOfS yX1_bitsOfS [.int x] [] (some (.int r_0)) [] := by
  refine K.of (lv := [(0, .int x)]) (by decide +kernel) rfl rfl rfl ?_
  rw [f_X1_bitsOfS] at hres
  refine G.iload_n (pc := 0) dm_X1_bitsOfS_0 rfl ?_
  refine G.iconst (pc := 1) (v := (5 : Int32)) dm_X1_bitsOfS_1 qi_5 ?_
  refine G.ishr (pc := 2) dm_X1_bitsOfS_2 ?_
  refine G.bipush (pc := 3) (v := (25 : Int32)) dm_X1_bitsOfS_3 qb_25 ?_
  refine G.ishl (pc := 5) dm_X1_bitsOfS_5 ?_
  refine G.iload_n (pc := 6) dm_X1_bitsOfS_6 rfl ?_
  refine G.bipush (pc := 7) (v := (31 : Int32)) dm_X1_bitsOfS_7 qb_31 ?_
  refine G.iand (pc := 9) dm_X1_bitsOfS_9 ?_
  refine G.bipush (pc := 10) (v := (7 : Int32)) dm_X1_bitsOfS_10 qb_7 ?_
  refine G.ishl (pc := 12) dm_X1_bitsOfS_12 ?_
  refine G.ior (pc := 13) dm_X1_bitsOfS_13 ?_
  subst hres
  exact G.ireturn (pc := 14) dm_X1_bitsOfS_14 rfl rfl rfl
abbrev M_X1_bitsOfB : g_M := (cX1_bitsOfB, 1, RX1, (some .int), { frames := 0, cells := 0, slots := 0, locals := 0 }, 0, 0)
theorem dm_X1_bitsOfB_0 : decode M_X1_bitsOfB.1 0 = .ok (.iload_n 0, 1) := by decide +kernel
theorem dm_X1_bitsOfB_1 : decode M_X1_bitsOfB.1 1 = .ok (.bipush 12, 2) := by decide +kernel
theorem dm_X1_bitsOfB_3 : decode M_X1_bitsOfB.1 3 = .ok (.ishr, 1) := by decide +kernel
theorem dm_X1_bitsOfB_4 : decode M_X1_bitsOfB.1 4 = .ok (.bipush 31, 2) := by decide +kernel
theorem dm_X1_bitsOfB_6 : decode M_X1_bitsOfB.1 6 = .ok (.ishl, 1) := by decide +kernel
theorem dm_X1_bitsOfB_7 : decode M_X1_bitsOfB.1 7 = .ok (.iload_n 0, 1) := by decide +kernel
theorem dm_X1_bitsOfB_8 : decode M_X1_bitsOfB.1 8 = .ok (.sipush 2016, 3) := by decide +kernel
theorem dm_X1_bitsOfB_11 : decode M_X1_bitsOfB.1 11 = .ok (.iand, 1) := by decide +kernel
theorem dm_X1_bitsOfB_12 : decode M_X1_bitsOfB.1 12 = .ok (.bipush 20, 2) := by decide +kernel
theorem dm_X1_bitsOfB_14 : decode M_X1_bitsOfB.1 14 = .ok (.ishl, 1) := by decide +kernel
theorem dm_X1_bitsOfB_15 : decode M_X1_bitsOfB.1 15 = .ok (.ior, 1) := by decide +kernel
theorem dm_X1_bitsOfB_16 : decode M_X1_bitsOfB.1 16 = .ok (.iload_n 0, 1) := by decide +kernel
theorem dm_X1_bitsOfB_17 : decode M_X1_bitsOfB.1 17 = .ok (.bipush 30, 2) := by decide +kernel
theorem dm_X1_bitsOfB_19 : decode M_X1_bitsOfB.1 19 = .ok (.iand, 1) := by decide +kernel
theorem dm_X1_bitsOfB_20 : decode M_X1_bitsOfB.1 20 = .ok (.bipush 7, 2) := by decide +kernel
theorem dm_X1_bitsOfB_22 : decode M_X1_bitsOfB.1 22 = .ok (.ishl, 1) := by decide +kernel
theorem dm_X1_bitsOfB_23 : decode M_X1_bitsOfB.1 23 = .ok (.ior, 1) := by decide +kernel
theorem dm_X1_bitsOfB_24 : decode M_X1_bitsOfB.1 24 = .ok (.iload_n 0, 1) := by decide +kernel
theorem dm_X1_bitsOfB_25 : decode M_X1_bitsOfB.1 25 = .ok (.sipush 2048, 3) := by decide +kernel
theorem dm_X1_bitsOfB_28 : decode M_X1_bitsOfB.1 28 = .ok (.iand, 1) := by decide +kernel
theorem dm_X1_bitsOfB_29 : decode M_X1_bitsOfB.1 29 = .ok (.iconst 4, 1) := by decide +kernel
theorem dm_X1_bitsOfB_30 : decode M_X1_bitsOfB.1 30 = .ok (.ishr, 1) := by decide +kernel
theorem dm_X1_bitsOfB_31 : decode M_X1_bitsOfB.1 31 = .ok (.ior, 1) := by decide +kernel
theorem dm_X1_bitsOfB_32 : decode M_X1_bitsOfB.1 32 = .ok (.ireturn, 1) := by decide +kernel
def f_X1_bitsOfB (x : Int32) : Int32 := (((((x >>> ((12 : Int32) &&& 31)) <<< ((31 : Int32) &&& 31)) ||| ((x &&& (2016 : Int32)) <<< ((20 : Int32) &&& 31))) ||| ((x &&& (30 : Int32)) <<< ((7 : Int32) &&& 31))) ||| ((x &&& (2048 : Int32)) >>> ((4 : Int32) &&& 31)))
set_option maxRecDepth 20000 in
theorem k_X1_bitsOfB {x : Int32} {r_0 : Int32} (hres : r_0 = f_X1_bitsOfB x) : K M_X1_bitsOfB yX1_bitsOfB [.int x] [] (some (.int r_0)) [] := by
  refine K.of (lv := [(0, .int x)]) (by decide +kernel) rfl rfl rfl ?_
  rw [f_X1_bitsOfB] at hres
  refine G.iload_n (pc := 0) dm_X1_bitsOfB_0 rfl ?_
  refine G.bipush (pc := 1) (v := (12 : Int32)) dm_X1_bitsOfB_1 qb_12 ?_
  refine G.ishr (pc := 3) dm_X1_bitsOfB_3 ?_
  refine G.bipush (pc := 4) (v := (31 : Int32)) dm_X1_bitsOfB_4 qb_31 ?_
  refine G.ishl (pc := 6) dm_X1_bitsOfB_6 ?_
  refine G.iload_n (pc := 7) dm_X1_bitsOfB_7 rfl ?_
  refine G.sipush (pc := 8) (v := (2016 : Int32)) dm_X1_bitsOfB_8 qs_2016 ?_
  refine G.iand (pc := 11) dm_X1_bitsOfB_11 ?_
  refine G.bipush (pc := 12) (v := (20 : Int32)) dm_X1_bitsOfB_12 qb_20 ?_
  refine G.ishl (pc := 14) dm_X1_bitsOfB_14 ?_
  refine G.ior (pc := 15) dm_X1_bitsOfB_15 ?_
  refine G.iload_n (pc := 16) dm_X1_bitsOfB_16 rfl ?_
  refine G.bipush (pc := 17) (v := (30 : Int32)) dm_X1_bitsOfB_17 qb_30 ?_
  refine G.iand (pc := 19) dm_X1_bitsOfB_19 ?_
  refine G.bipush (pc := 20) (v := (7 : Int32)) dm_X1_bitsOfB_20 qb_7 ?_
  refine G.ishl (pc := 22) dm_X1_bitsOfB_22 ?_
  refine G.ior (pc := 23) dm_X1_bitsOfB_23 ?_
  refine G.iload_n (pc := 24) dm_X1_bitsOfB_24 rfl ?_
  refine G.sipush (pc := 25) (v := (2048 : Int32)) dm_X1_bitsOfB_25 qs_2048 ?_
  refine G.iand (pc := 28) dm_X1_bitsOfB_28 ?_
  refine G.iconst (pc := 29) (v := (4 : Int32)) dm_X1_bitsOfB_29 qi_4 ?_
  refine G.ishr (pc := 30) dm_X1_bitsOfB_30 ?_
  refine G.ior (pc := 31) dm_X1_bitsOfB_31 ?_
  subst hres
  exact G.ireturn (pc := 32) dm_X1_bitsOfB_32 rfl rfl rfl
abbrev M_X1_bitsOfJ : g_M := (cX1_bitsOfJ, 1, RX1, (some .int), { frames := 0, cells := 0, slots := 0, locals := 0 }, 0, 0)
theorem dm_X1_bitsOfJ_0 : decode M_X1_bitsOfJ.1 0 = .ok (.iload_n 0, 1) := by decide +kernel
theorem dm_X1_bitsOfJ_1 : decode M_X1_bitsOfJ.1 1 = .ok (.bipush 20, 2) := by decide +kernel
theorem dm_X1_bitsOfJ_3 : decode M_X1_bitsOfJ.1 3 = .ok (.ishr, 1) := by decide +kernel
theorem dm_X1_bitsOfJ_4 : decode M_X1_bitsOfJ.1 4 = .ok (.bipush 31, 2) := by decide +kernel
theorem dm_X1_bitsOfJ_6 : decode M_X1_bitsOfJ.1 6 = .ok (.ishl, 1) := by decide +kernel
theorem dm_X1_bitsOfJ_7 : decode M_X1_bitsOfJ.1 7 = .ok (.iload_n 0, 1) := by decide +kernel
theorem dm_X1_bitsOfJ_8 : decode M_X1_bitsOfJ.1 8 = .ok (.sipush 2046, 3) := by decide +kernel
theorem dm_X1_bitsOfJ_11 : decode M_X1_bitsOfJ.1 11 = .ok (.iand, 1) := by decide +kernel
theorem dm_X1_bitsOfJ_12 : decode M_X1_bitsOfJ.1 12 = .ok (.bipush 20, 2) := by decide +kernel
theorem dm_X1_bitsOfJ_14 : decode M_X1_bitsOfJ.1 14 = .ok (.ishl, 1) := by decide +kernel
theorem dm_X1_bitsOfJ_15 : decode M_X1_bitsOfJ.1 15 = .ok (.ior, 1) := by decide +kernel
theorem dm_X1_bitsOfJ_16 : decode M_X1_bitsOfJ.1 16 = .ok (.iload_n 0, 1) := by decide +kernel
theorem dm_X1_bitsOfJ_17 : decode M_X1_bitsOfJ.1 17 = .ok (.sipush 2048, 3) := by decide +kernel
theorem dm_X1_bitsOfJ_20 : decode M_X1_bitsOfJ.1 20 = .ok (.iand, 1) := by decide +kernel
theorem dm_X1_bitsOfJ_21 : decode M_X1_bitsOfJ.1 21 = .ok (.bipush 9, 2) := by decide +kernel
theorem dm_X1_bitsOfJ_23 : decode M_X1_bitsOfJ.1 23 = .ok (.ishl, 1) := by decide +kernel
theorem dm_X1_bitsOfJ_24 : decode M_X1_bitsOfJ.1 24 = .ok (.ior, 1) := by decide +kernel
theorem dm_X1_bitsOfJ_25 : decode M_X1_bitsOfJ.1 25 = .ok (.iload_n 0, 1) := by decide +kernel
theorem dm_X1_bitsOfJ_26 : decode M_X1_bitsOfJ.1 26 = .ok (.ldc 15, 2) := by decide +kernel
theorem dm_X1_bitsOfJ_28 : decode M_X1_bitsOfJ.1 28 = .ok (.iand, 1) := by decide +kernel
theorem dm_X1_bitsOfJ_29 : decode M_X1_bitsOfJ.1 29 = .ok (.ior, 1) := by decide +kernel
theorem dm_X1_bitsOfJ_30 : decode M_X1_bitsOfJ.1 30 = .ok (.ireturn, 1) := by decide +kernel
def f_X1_bitsOfJ (x : Int32) : Int32 := (((((x >>> ((20 : Int32) &&& 31)) <<< ((31 : Int32) &&& 31)) ||| ((x &&& (2046 : Int32)) <<< ((20 : Int32) &&& 31))) ||| ((x &&& (2048 : Int32)) <<< ((9 : Int32) &&& 31))) ||| (x &&& (1044480 : Int32)))
set_option maxRecDepth 20000 in
theorem k_X1_bitsOfJ {x : Int32} {r_0 : Int32} (hres : r_0 = f_X1_bitsOfJ x) : K M_X1_bitsOfJ yX1_bitsOfJ [.int x] [] (some (.int r_0)) [] := by
  refine K.of (lv := [(0, .int x)]) (by decide +kernel) rfl rfl rfl ?_
  rw [f_X1_bitsOfJ] at hres
  refine G.iload_n (pc := 0) dm_X1_bitsOfJ_0 rfl ?_
  refine G.bipush (pc := 1) (v := (20 : Int32)) dm_X1_bitsOfJ_1 qb_20 ?_
  refine G.ishr (pc := 3) dm_X1_bitsOfJ_3 ?_
  refine G.bipush (pc := 4) (v := (31 : Int32)) dm_X1_bitsOfJ_4 qb_31 ?_
  refine G.ishl (pc := 6) dm_X1_bitsOfJ_6 ?_
  refine G.iload_n (pc := 7) dm_X1_bitsOfJ_7 rfl ?_
  refine G.sipush (pc := 8) (v := (2046 : Int32)) dm_X1_bitsOfJ_8 qs_2046 ?_
  refine G.iand (pc := 11) dm_X1_bitsOfJ_11 ?_
  refine G.bipush (pc := 12) (v := (20 : Int32)) dm_X1_bitsOfJ_12 qb_20 ?_
  refine G.ishl (pc := 14) dm_X1_bitsOfJ_14 ?_
  refine G.ior (pc := 15) dm_X1_bitsOfJ_15 ?_
  refine G.iload_n (pc := 16) dm_X1_bitsOfJ_16 rfl ?_
  refine G.sipush (pc := 17) (v := (2048 : Int32)) dm_X1_bitsOfJ_17 qs_2048 ?_
  refine G.iand (pc := 20) dm_X1_bitsOfJ_20 ?_
  refine G.bipush (pc := 21) (v := (9 : Int32)) dm_X1_bitsOfJ_21 qb_9 ?_
  refine G.ishl (pc := 23) dm_X1_bitsOfJ_23 ?_
  refine G.ior (pc := 24) dm_X1_bitsOfJ_24 ?_
  refine G.iload_n (pc := 25) dm_X1_bitsOfJ_25 rfl ?_
  refine G.ldc (pc := 26) dm_X1_bitsOfJ_26 tw371 ?_
  refine G.iand (pc := 28) dm_X1_bitsOfJ_28 ?_
  refine G.ior (pc := 29) dm_X1_bitsOfJ_29 ?_
  subst hres
  exact G.ireturn (pc := 30) dm_X1_bitsOfJ_30 rfl rfl rfl
abbrev M_X2_placeOf : g_M := (cX2_placeOf, 1, RX2, (some .int), { frames := 1, cells := 0, slots := 0, locals := 22 }, 0, 0)
theorem dm_X2_placeOf_0 : decode M_X2_placeOf.1 0 = .ok (.iload_n 0, 1) := by decide +kernel
theorem dm_X2_placeOf_1 : decode M_X2_placeOf.1 1 = .ok (.bipush 16, 2) := by decide +kernel
theorem dm_X2_placeOf_3 : decode M_X2_placeOf.1 3 = .ok (.invokestatic 29, 3) := by decide +kernel
theorem dm_X2_placeOf_6 : decode M_X2_placeOf.1 6 = .ok (.ireturn, 1) := by decide +kernel
theorem gc_X2_placeOf_29 : g_cs M_X2_placeOf 29 M_J9_floorMod_7cf53 yJ9_floorMod_7cf53 2 := ⟨tw761, tw606, tw607, tw608, ⟨rfl, rfl, rfl, rfl⟩, gd_J9_floorMod_7cf53, ⟨by decide, by decide⟩⟩
def f_X2_placeOf_c3 (z1_0 : Int32) : Int32 := z1_0
def f_X2_placeOf (x : Int32) : Int32 := (f_X2_placeOf_c3 (f_J9_floorMod_7cf53 x (16 : Int32)))
set_option maxRecDepth 20000 in
theorem k_X2_placeOf {x : Int32} {r_0 : Int32} (hres : r_0 = f_X2_placeOf x) : K M_X2_placeOf yX2_placeOf [.int x] [] (some (.int r_0)) [] := by
  refine K.of (lv := [(0, .int x)]) (by decide +kernel) rfl rfl rfl ?_
  rw [f_X2_placeOf] at hres
  refine G.iload_n (pc := 0) dm_X2_placeOf_0 rfl ?_
  refine G.bipush (pc := 1) (v := (16 : Int32)) dm_X2_placeOf_1 qb_16 ?_
  obtain ⟨z1_0, hz1⟩ := g_ex1 (f_J9_floorMod_7cf53 x (16 : Int32))
  refine G.callS (pc := 3) (rest := []) (st1 := [.int z1_0]) (ws1 := []) [] dm_X2_placeOf_3 gc_X2_placeOf_29 (k_J9_floorMod_7cf53 (x := x) (y := (16 : Int32)) (by decide) hz1) rfl rfl rfl rfl rfl rfl rfl rfl ?_
  replace hres : r_0 = f_X2_placeOf_c3 z1_0 := hres.trans (by rw [← hz1])
  rw [f_X2_placeOf_c3] at hres
  subst hres
  exact G.ireturn (pc := 6) dm_X2_placeOf_6 rfl rfl rfl
abbrev M_X3_find : g_M := (cX3_find, 4, RX3, (some .int), { frames := 0, cells := 0, slots := 0, locals := 0 }, 0, 0)
theorem dm_X3_find_0 : decode M_X3_find.1 0 = .ok (.iconst 0, 1) := by decide +kernel
theorem dm_X3_find_1 : decode M_X3_find.1 1 = .ok (.istore_n 3, 1) := by decide +kernel
theorem dm_X3_find_2 : decode M_X3_find.1 2 = .ok (.iload_n 3, 1) := by decide +kernel
theorem dm_X3_find_3 : decode M_X3_find.1 3 = .ok (.aload_n 0, 1) := by decide +kernel
theorem dm_X3_find_4 : decode M_X3_find.1 4 = .ok (.getfield 19, 3) := by decide +kernel
theorem dm_X3_find_7 : decode M_X3_find.1 7 = .ok (.if_icmp .ge 27, 3) := by decide +kernel
theorem dm_X3_find_10 : decode M_X3_find.1 10 = .ok (.aload_n 0, 1) := by decide +kernel
theorem dm_X3_find_11 : decode M_X3_find.1 11 = .ok (.getfield 9, 3) := by decide +kernel
theorem dm_X3_find_14 : decode M_X3_find.1 14 = .ok (.iload_n 3, 1) := by decide +kernel
theorem dm_X3_find_15 : decode M_X3_find.1 15 = .ok (.laload, 1) := by decide +kernel
theorem dm_X3_find_16 : decode M_X3_find.1 16 = .ok (.lload_n 1, 1) := by decide +kernel
theorem dm_X3_find_17 : decode M_X3_find.1 17 = .ok (.lcmp, 1) := by decide +kernel
theorem dm_X3_find_18 : decode M_X3_find.1 18 = .ok (.ifCond .ne 10, 3) := by decide +kernel
theorem dm_X3_find_21 : decode M_X3_find.1 21 = .ok (.aload_n 0, 1) := by decide +kernel
theorem dm_X3_find_22 : decode M_X3_find.1 22 = .ok (.getfield 15, 3) := by decide +kernel
theorem dm_X3_find_25 : decode M_X3_find.1 25 = .ok (.iload_n 3, 1) := by decide +kernel
theorem dm_X3_find_26 : decode M_X3_find.1 26 = .ok (.iaload, 1) := by decide +kernel
theorem dm_X3_find_27 : decode M_X3_find.1 27 = .ok (.ireturn, 1) := by decide +kernel
theorem dm_X3_find_28 : decode M_X3_find.1 28 = .ok (.iinc 3 1, 3) := by decide +kernel
theorem dm_X3_find_31 : decode M_X3_find.1 31 = .ok (.goto (-29), 3) := by decide +kernel
theorem dm_X3_find_34 : decode M_X3_find.1 34 = .ok (.iconst (-1), 1) := by decide +kernel
theorem dm_X3_find_35 : decode M_X3_find.1 35 = .ok (.ireturn, 1) := by decide +kernel
def f_X3_find_2 (lcount : Int32) (lkeys : Nat → Int64) (lplaces : Nat → Int32) : Nat → Int64 → Int32 → Int32
  | 0, l1, l3 => 0
  | n + 1, l1, l3 => (if lcount ≤ l3 then (-1 : Int32) else (if (lg_cmp (lkeys (Int32.toNatClampNeg l3)) l1) = 0 then (lplaces (Int32.toNatClampNeg l3)) else ((f_X3_find_2 lcount lkeys lplaces n) l1 (l3 + (1 : Int32)))))
set_option maxRecDepth 20000 in
theorem j_X3_find_2 : ∀ (n : Nat) {l1 : Int64} {l3 : Int32} {lcount : Int32} {lkeys : Nat → Int64} {lplaces : Nat → Int32} {r_0 : Int32}, (hlc : lcount.toInt ≤ 16) → (h0 : 0 ≤ l3.toInt) → (16 - l3.toInt.toNat) < n → r_0 = f_X3_find_2 lcount lkeys lplaces n l1 l3 → G M_X3_find 0 0 2 [(0, .ref 0), (1, .long l1), (3, .int l3)] [] (w_L lcount lkeys lplaces) (some (.int r_0)) (w_L lcount lkeys lplaces) := by
  intro n
  induction n with
  | zero =>
    intro l1 l3 lcount lkeys lplaces r_0 hlc h0 hm hres
    exact absurd hm (Nat.not_lt_zero _)
  | succ n ih =>
    intro l1 l3 lcount lkeys lplaces r_0 hlc h0 hm hres
    obtain ⟨mu, hmu⟩ : ∃ z, (16 - l3.toInt.toNat) = z := ⟨_, rfl⟩
    rw [hmu] at hm
    have hk2 : ∀ {l1 : Int64} {l3 : Int32}, (lcount.toInt ≤ 16) → (0 ≤ l3.toInt) → (16 - l3.toInt.toNat) < mu → r_0 = (f_X3_find_2 lcount lkeys lplaces n) l1 l3 → G M_X3_find 0 0 2 [(0, .ref 0), (1, .long l1), (3, .int l3)] [] (w_L lcount lkeys lplaces) (some (.int r_0)) (w_L lcount lkeys lplaces) := fun hlc h0 hlt he => ih hlc h0 (Nat.lt_of_lt_of_le hlt (Nat.le_of_lt_succ hm)) he
    rw [f_X3_find_2] at hres
    refine G.iload_n (pc := 2) dm_X3_find_2 rfl ?_
    refine G.aload_n (pc := 3) dm_X3_find_3 rfl ?_
    refine G.getfield (pc := 4) dm_X3_find_4 gf_X3_19 rfl rfl ?_
    refine G.icmp_ge (pc := 7) (tgt := 34) dm_X3_find_7 (by decide) (fun c7 => ?_) (fun c7 => ?_)
    · rw [if_pos c7] at hres
      refine G.iconst (pc := 34) (v := (-1 : Int32)) dm_X3_find_34 qi_m1 ?_
      subst hres
      exact G.ireturn (pc := 35) dm_X3_find_35 rfl rfl rfl
    · rw [if_neg c7] at hres
      refine G.aload_n (pc := 10) dm_X3_find_10 rfl ?_
      refine G.getfield (pc := 11) dm_X3_find_11 gf_X3_9 rfl rfl ?_
      refine G.iload_n (pc := 14) dm_X3_find_14 rfl ?_
      refine G.laload (pc := 15) dm_X3_find_15 rfl (q_in h0 (by have := q_nle c7; omega)) ?_
      refine G.lload_n (pc := 16) dm_X3_find_16 rfl ?_
      refine G.lcmp (pc := 17) dm_X3_find_17 ?_
      refine G.if_ne (pc := 18) (tgt := 28) dm_X3_find_18 (by decide) (fun c18 => ?_) (fun c18 => ?_)
      · rw [if_neg c18] at hres
        refine G.iinc (pc := 28) (v := (l3 + (1 : Int32))) (lv1 := [(3, .int (l3 + (1 : Int32))), (0, .ref 0), (1, .long l1)]) dm_X3_find_28 rfl rfl rfl rfl ?_
        refine G.goto (pc := 31) (tgt := 2) dm_X3_find_31 (by decide) ?_
        refine G.lvp [1, 2, 0] rfl ?_
        exact hk2 hlc (by have := q_nle c7; rw [q_inc (by omega)]; omega) (by have := q_nle c7; rw [q_inc (by omega)]; omega) hres
      · rw [if_pos c18] at hres
        refine G.aload_n (pc := 21) dm_X3_find_21 rfl ?_
        refine G.getfield (pc := 22) dm_X3_find_22 gf_X3_15 rfl rfl ?_
        refine G.iload_n (pc := 25) dm_X3_find_25 rfl ?_
        refine G.iaload (pc := 26) dm_X3_find_26 rfl (q_in h0 (by have := q_nle c7; omega)) ?_
        subst hres
        exact G.ireturn (pc := 27) dm_X3_find_27 rfl rfl rfl
def f_X3_find (key : Int64) (lcount : Int32) (lkeys : Nat → Int64) (lplaces : Nat → Int32) : Int32 := (f_X3_find_2 lcount lkeys lplaces (17) key (0 : Int32))
set_option maxRecDepth 20000 in
theorem k_X3_find {key : Int64} {lcount : Int32} {lkeys : Nat → Int64} {lplaces : Nat → Int32} (hlc : lcount.toInt ≤ 16) {r_0 : Int32} (hres : r_0 = f_X3_find key lcount lkeys lplaces) : K M_X3_find yX3_find [.ref 0, .long key] (w_L lcount lkeys lplaces) (some (.int r_0)) (w_L lcount lkeys lplaces) := by
  refine K.of (lv := [(0, .ref 0), (1, .long key)]) (by decide +kernel) rfl rfl rfl ?_
  rw [f_X3_find] at hres
  refine G.iconst (pc := 0) (v := (0 : Int32)) dm_X3_find_0 qi_0 ?_
  refine G.istore_n (pc := 1) (lv1 := [(3, .int (0 : Int32)), (0, .ref 0), (1, .long key)]) dm_X3_find_1 rfl rfl ?_
  refine G.lvp [1, 2, 0] rfl ?_
  exact j_X3_find_2 _ hlc (by decide) (by decide) hres
