abbrev M_L_type : g_M := (cL_type, 6, RL, (some .int), { frames := 7, cells := 1, slots := 6, locals := 113 }, 1, 6)
theorem dm_L_type_0 : decode M_L_type.1 0 = .ok (.aload 4, 2) := by decide +kernel
theorem dm_L_type_2 : decode M_L_type.1 2 = .ok (.iconst 0, 1) := by decide +kernel
theorem dm_L_type_3 : decode M_L_type.1 3 = .ok (.aload_n 0, 1) := by decide +kernel
theorem dm_L_type_4 : decode M_L_type.1 4 = .ok (.lload_n 1, 1) := by decide +kernel
theorem dm_L_type_5 : decode M_L_type.1 5 = .ok (.iload_n 3, 1) := by decide +kernel
theorem dm_L_type_6 : decode M_L_type.1 6 = .ok (.invokevirtual 7, 3) := by decide +kernel
theorem dm_L_type_9 : decode M_L_type.1 9 = .ok (.i2l, 1) := by decide +kernel
theorem dm_L_type_10 : decode M_L_type.1 10 = .ok (.lastore, 1) := by decide +kernel
theorem dm_L_type_11 : decode M_L_type.1 11 = .ok (.goto 11, 3) := by decide +kernel
theorem dm_L_type_14 : decode M_L_type.1 14 = .ok (.astore 5, 2) := by decide +kernel
theorem dm_L_type_16 : decode M_L_type.1 16 = .ok (.iconst 1, 1) := by decide +kernel
theorem dm_L_type_17 : decode M_L_type.1 17 = .ok (.ireturn, 1) := by decide +kernel
theorem dm_L_type_18 : decode M_L_type.1 18 = .ok (.astore 5, 2) := by decide +kernel
theorem dm_L_type_20 : decode M_L_type.1 20 = .ok (.iconst 2, 1) := by decide +kernel
theorem dm_L_type_21 : decode M_L_type.1 21 = .ok (.ireturn, 1) := by decide +kernel
theorem dm_L_type_22 : decode M_L_type.1 22 = .ok (.iconst 0, 1) := by decide +kernel
theorem dm_L_type_23 : decode M_L_type.1 23 = .ok (.ireturn, 1) := by decide +kernel
theorem gcx_L_type_7 : g_cx M_L_type 7 M_X10_type yX10_type 2 := ⟨tw127, tw128, tw129, tw2, tw130, ⟨rfl, rfl⟩, gd_X10_type, ⟨by decide, by decide⟩⟩
theorem gd_L_type : yL_type.cls ≠ "java/lang/invoke/MethodHandle" ∧ yL_type.cls ≠ "java/lang/invoke/VarHandle" ∧ (parseMethodDescriptor yL_type.desc).map (fun d => d.parameters.length) = some 4 := ⟨by decide, by decide, by decide +kernel⟩
set_option maxRecDepth 20000 in
theorem k_L_type_a {typed : Int64} {n : Int32} {cycle : Int32} {mwheel : Int32} {mwords : Nat → Int32} {xlow : Nat → Int32} {xhigh : Nat → Int32} {xnum : Nat → Int32} {xstat : Nat → Int32} {xaddr : Nat → Int32} {xready : Nat → Int32} {xnext : Nat → Int32} {xret : Nat → Int32} {xregs : Nat → Nat → Int32} {xstore : Nat → Nat → Int32} {xhcount : Nat → Int32} {xhaddr : Nat → Nat → Int32} {xhcyc : Nat → Nat → Int32} {xhret : Nat → Nat → Int32} {xtims : Nat → Nat → Int32} {tlen : Int32} {tchars : Nat → Int32} {acount : Int32} {afk : Int32} {afl : Int32} {aat : Int32} {alabel : Int64} {ahas : Int32} {aword : Int32} {atarget : Int64} {amal : Int32} {amis : Int32} {awords : Nat → Int32} {atargets : Nat → Int64} {alines : Nat → Int32} {lcount : Int32} {lkeys : Nat → Int64} {lplaces : Nat → Int32} {kcount : Int32} {kat : Int32} {kinds : Nat → Int32} {kvals : Nat → Int64} {B : List va_E} (hB : B.length = 19) {out : Nat → Int64} (hb : f_X7_canBeTyped typed n = 0) : KE M_L_type [(0, 11, 14, 13), (0, 11, 18, 15)] yL_type [.ref 0, .long typed, .int n, .ref 67] ((w_C cycle mwheel mwords xlow xhigh xnum xstat xaddr xready xnext xret xregs xstore xhcount xhaddr xhcyc xhret xtims tlen tchars acount afk afl aat alabel ahas aword atarget amal amis awords atargets alines lcount lkeys lplaces kcount kat kinds kvals) ++ (B ++ [.inl (2, 1, .inr (.inl out))])) (some (.int (1 : Int32))) ((w_C cycle mwheel mwords xlow xhigh xnum xstat xaddr xready xnext xret xregs xstore xhcount xhaddr xhcyc xhret xtims tlen tchars acount afk afl aat alabel ahas aword atarget amal amis awords atargets alines lcount lkeys lplaces kcount kat kinds kvals) ++ (B ++ [.inl (2, 1, .inr (.inl out))])) := by
  refine KE.of (lv := [(0, .ref 0), (1, .long typed), (3, .int n), (4, .ref 67)]) (by decide +kernel) rfl rfl rfl ?_
  refine G.aload (pc := 0) dm_L_type_0 rfl ?_
  refine G.iconst (pc := 2) (v := (0 : Int32)) dm_L_type_2 qi_0 ?_
  refine G.aload_n (pc := 3) dm_L_type_3 rfl ?_
  refine G.lload_n (pc := 4) dm_L_type_4 rfl ?_
  refine G.iload_n (pc := 5) dm_L_type_5 rfl ?_
  refine G.callVTp (pc := 6) (n9 := 48) (rest := [.int (0 : Int32), .ref 67]) (k1 := 1) (n1 := 6) (lv1 := [(0, .ref 0), (1, .long typed), (3, .int n), (4, .ref 67)]) (E := "java/lang/IllegalArgumentException") [] ⟨0, 11, 14, 13⟩ [⟨0, 11, 18, 15⟩] (by decide) rfl rfl rfl dm_L_type_6 gcx_L_type_7 (k_X10_type_a (typed := typed) (n := n) hb) rfl rfl rfl rfl rfl rfl rfl rfl rfl rfl (fun z hz => by cases hz) (by decide) (by decide) tw125 (by decide +kernel) dm_L_type_14 rfl rfl ?_
  refine G.iconst (pc := 16) (v := (1 : Int32)) dm_L_type_16 qi_1 ?_
  exact G.gd (G.ireturn (pc := 17) dm_L_type_17 rfl rfl rfl)
set_option maxRecDepth 20000 in
theorem k_L_type_b {typed : Int64} {n : Int32} {cycle : Int32} {mwheel : Int32} {mwords : Nat → Int32} {xlow : Nat → Int32} {xhigh : Nat → Int32} {xnum : Nat → Int32} {xstat : Nat → Int32} {xaddr : Nat → Int32} {xready : Nat → Int32} {xnext : Nat → Int32} {xret : Nat → Int32} {xregs : Nat → Nat → Int32} {xstore : Nat → Nat → Int32} {xhcount : Nat → Int32} {xhaddr : Nat → Nat → Int32} {xhcyc : Nat → Nat → Int32} {xhret : Nat → Nat → Int32} {xtims : Nat → Nat → Int32} {tlen : Int32} {tchars : Nat → Int32} {acount : Int32} {afk : Int32} {afl : Int32} {aat : Int32} {alabel : Int64} {ahas : Int32} {aword : Int32} {atarget : Int64} {amal : Int32} {amis : Int32} {awords : Nat → Int32} {atargets : Nat → Int64} {alines : Nat → Int32} {lcount : Int32} {lkeys : Nat → Int64} {lplaces : Nat → Int32} {kcount : Int32} {kat : Int32} {kinds : Nat → Int32} {kvals : Nat → Int64} {B : List va_E} (hB : B.length = 19) {out : Nat → Int64} (hb : ¬ f_X7_canBeTyped typed n = 0) (hl : ¬ tlen + n ≤ 400) : KE M_L_type [(0, 11, 14, 13), (0, 11, 18, 15)] yL_type [.ref 0, .long typed, .int n, .ref 67] ((w_C cycle mwheel mwords xlow xhigh xnum xstat xaddr xready xnext xret xregs xstore xhcount xhaddr xhcyc xhret xtims tlen tchars acount afk afl aat alabel ahas aword atarget amal amis awords atargets alines lcount lkeys lplaces kcount kat kinds kvals) ++ (B ++ [.inl (2, 1, .inr (.inl out))])) (some (.int (2 : Int32))) ((w_C cycle mwheel mwords xlow xhigh xnum xstat xaddr xready xnext xret xregs xstore xhcount xhaddr xhcyc xhret xtims tlen tchars acount afk afl aat alabel ahas aword atarget amal amis awords atargets alines lcount lkeys lplaces kcount kat kinds kvals) ++ (B ++ [.inl (2, 1, .inr (.inl out))])) := by
  refine KE.of (lv := [(0, .ref 0), (1, .long typed), (3, .int n), (4, .ref 67)]) (by decide +kernel) rfl rfl rfl ?_
  refine G.aload (pc := 0) dm_L_type_0 rfl ?_
  refine G.iconst (pc := 2) (v := (0 : Int32)) dm_L_type_2 qi_0 ?_
  refine G.aload_n (pc := 3) dm_L_type_3 rfl ?_
  refine G.lload_n (pc := 4) dm_L_type_4 rfl ?_
  refine G.iload_n (pc := 5) dm_L_type_5 rfl ?_
  refine G.callVTp (pc := 6) (n9 := 48) (rest := [.int (0 : Int32), .ref 67]) (k1 := 1) (n1 := 6) (lv1 := [(0, .ref 0), (1, .long typed), (3, .int n), (4, .ref 67)]) (E := "java/lang/IllegalStateException") [⟨0, 11, 14, 13⟩] ⟨0, 11, 18, 15⟩ [] (by decide) rfl rfl rfl dm_L_type_6 gcx_L_type_7 (k_X10_type_b (typed := typed) (n := n) hb hl) rfl rfl rfl rfl rfl rfl rfl rfl rfl rfl (fun z hz => by
    rcases List.mem_singleton.mp hz with rfl
    exact Or.inr ⟨by decide, "java/lang/IllegalArgumentException", tw125, Or.inl ⟨rfl, rfl⟩⟩) (by decide) (by decide) tw126 (by decide +kernel) dm_L_type_18 rfl rfl ?_
  refine G.iconst (pc := 20) (v := (2 : Int32)) dm_L_type_20 qi_2 ?_
  exact G.gd (G.ireturn (pc := 21) dm_L_type_21 rfl rfl rfl)
set_option maxRecDepth 20000 in
theorem k_L_type_c {typed : Int64} {n : Int32} {cycle : Int32} {mwheel : Int32} {mwords : Nat → Int32} {xlow : Nat → Int32} {xhigh : Nat → Int32} {xnum : Nat → Int32} {xstat : Nat → Int32} {xaddr : Nat → Int32} {xready : Nat → Int32} {xnext : Nat → Int32} {xret : Nat → Int32} {xregs : Nat → Nat → Int32} {xstore : Nat → Nat → Int32} {xhcount : Nat → Int32} {xhaddr : Nat → Nat → Int32} {xhcyc : Nat → Nat → Int32} {xhret : Nat → Nat → Int32} {xtims : Nat → Nat → Int32} {tlen : Int32} {tchars : Nat → Int32} {acount : Int32} {afk : Int32} {afl : Int32} {aat : Int32} {alabel : Int64} {ahas : Int32} {aword : Int32} {atarget : Int64} {amal : Int32} {amis : Int32} {awords : Nat → Int32} {atargets : Nat → Int64} {alines : Nat → Int32} {lcount : Int32} {lkeys : Nat → Int64} {lplaces : Nat → Int32} {kcount : Int32} {kat : Int32} {kinds : Nat → Int32} {kvals : Nat → Int64} {B : List va_E} (hB : B.length = 19) {out : Nat → Int64} (hb : ¬ f_X7_canBeTyped typed n = 0) (hl : tlen + n ≤ 400) (hn : n.toInt ≤ 8) (htl : 0 ≤ tlen.toInt ∧ tlen.toInt ≤ 400) {r_0 : Int32} {r_1 : Nat → Int32} (hres : (r_0, r_1) = f_X7_add typed n tlen tchars) : KE M_L_type [(0, 11, 14, 13), (0, 11, 18, 15)] yL_type [.ref 0, .long typed, .int n, .ref 67] ((w_C cycle mwheel mwords xlow xhigh xnum xstat xaddr xready xnext xret xregs xstore xhcount xhaddr xhcyc xhret xtims tlen tchars acount afk afl aat alabel ahas aword atarget amal amis awords atargets alines lcount lkeys lplaces kcount kat kinds kvals) ++ (B ++ [.inl (2, 1, .inr (.inl out))])) (some (.int (0 : Int32))) ((w_C cycle mwheel mwords xlow xhigh xnum xstat xaddr xready xnext xret xregs xstore xhcount xhaddr xhcyc xhret xtims r_0 r_1 acount afk afl aat alabel ahas aword atarget amal amis awords atargets alines lcount lkeys lplaces kcount kat kinds kvals) ++ (B ++ [.inl (2, 1, .inr (.inl (vp_updL out (Int32.toNatClampNeg 0) (Int32.toInt64 r_0))))])) := by
  refine KE.of (lv := [(0, .ref 0), (1, .long typed), (3, .int n), (4, .ref 67)]) (by decide +kernel) rfl rfl rfl ?_
  refine G.aload (pc := 0) dm_L_type_0 rfl ?_
  refine G.iconst (pc := 2) (v := (0 : Int32)) dm_L_type_2 qi_0 ?_
  refine G.aload_n (pc := 3) dm_L_type_3 rfl ?_
  refine G.lload_n (pc := 4) dm_L_type_4 rfl ?_
  refine G.iload_n (pc := 5) dm_L_type_5 rfl ?_
  refine G.callVXp (pc := 6) (n9 := 48) (rest := [.int (0 : Int32), .ref 67]) (k1 := 1) (n1 := 6) (st1 := [.int r_0, .int (0 : Int32), .ref 67]) (by decide) rfl rfl rfl dm_L_type_6 gcx_L_type_7 (k_X10_type_c (typed := typed) (n := n) hb hl hn htl hres) rfl rfl rfl rfl rfl rfl rfl rfl rfl rfl ?_
  refine G.i2l (pc := 9) dm_L_type_9 ?_
  refine G.lastore (pc := 10) (ws1 := ((w_C cycle mwheel mwords xlow xhigh xnum xstat xaddr xready xnext xret xregs xstore xhcount xhaddr xhcyc xhret xtims r_0 r_1 acount afk afl aat alabel ahas aword atarget amal amis awords atargets alines lcount lkeys lplaces kcount kat kinds kvals) ++ (B ++ [.inl (2, 1, .inr (.inl (vp_updL out (Int32.toNatClampNeg 0) (Int32.toInt64 r_0))))]))) dm_L_type_10 (g_at3 (a := 48) (b := 19) rfl hB) (q_in (by decide) (by decide)) (g_set3 (a := 48) (b := 19) rfl hB) ?_
  refine G.goto (pc := 11) (tgt := 22) dm_L_type_11 (by decide) ?_
  refine G.iconst (pc := 22) (v := (0 : Int32)) dm_L_type_22 qi_0 ?_
  exact G.gd (G.ireturn (pc := 23) dm_L_type_23 rfl rfl rfl)
