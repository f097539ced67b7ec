theorem q_geN {x : Int32} (h : 0 ≤ x.toInt) : ¬ x < 0 := fun h1 => by
  have := q_lt h1
  have e : (0 : Int32).toInt = 0 := by decide
  omega
theorem q_capN {x : Int32} {m : Nat} (h : 0 ≤ x.toInt) (h1 : x.toInt ≤ m) : Int32.toNatClampNeg x ≤ m := by
  have hx := x.toInt_lt
  rw [pk_cl x.toInt.toNat (q_nI h)]
  omega
theorem q_capN2 {x y : Int32} {m : Nat} (h : 0 ≤ x.toInt) (h9 : 0 ≤ y.toInt) (h1 : x.toInt + y.toInt ≤ m) : Int32.toNatClampNeg x + Int32.toNatClampNeg y ≤ m := by
  have hx := x.toInt_lt
  have hy := y.toInt_lt
  rw [pk_cl x.toInt.toNat (q_nI h), pk_cl y.toInt.toNat (q_nI h9)]
  omega
abbrev M_X10_type : g_M := (cX10_type, 4, RX10, (some .int), { frames := 6, cells := 1, slots := 6, locals := 90 }, 1, 6)
theorem dm_X10_type_0 : decode M_X10_type.1 0 = .ok (.lload_n 1, 1) := by decide +kernel
theorem dm_X10_type_1 : decode M_X10_type.1 1 = .ok (.iload_n 3, 1) := by decide +kernel
theorem dm_X10_type_2 : decode M_X10_type.1 2 = .ok (.invokestatic 50, 3) := by decide +kernel
theorem dm_X10_type_5 : decode M_X10_type.1 5 = .ok (.ifCond .ne 11, 3) := by decide +kernel
theorem dm_X10_type_8 : decode M_X10_type.1 8 = .ok (.new 54, 3) := by decide +kernel
theorem dm_X10_type_11 : decode M_X10_type.1 11 = .ok (.dup, 1) := by decide +kernel
theorem dm_X10_type_12 : decode M_X10_type.1 12 = .ok (.invokespecial 56, 3) := by decide +kernel
theorem dm_X10_type_15 : decode M_X10_type.1 15 = .ok (.athrow, 1) := by decide +kernel
theorem dm_X10_type_16 : decode M_X10_type.1 16 = .ok (.aload_n 0, 1) := by decide +kernel
theorem dm_X10_type_17 : decode M_X10_type.1 17 = .ok (.getfield 37, 3) := by decide +kernel
theorem dm_X10_type_20 : decode M_X10_type.1 20 = .ok (.getfield 57, 3) := by decide +kernel
theorem dm_X10_type_23 : decode M_X10_type.1 23 = .ok (.iload_n 3, 1) := by decide +kernel
theorem dm_X10_type_24 : decode M_X10_type.1 24 = .ok (.iadd, 1) := by decide +kernel
theorem dm_X10_type_25 : decode M_X10_type.1 25 = .ok (.sipush 400, 3) := by decide +kernel
theorem dm_X10_type_28 : decode M_X10_type.1 28 = .ok (.if_icmp .le 11, 3) := by decide +kernel
theorem dm_X10_type_31 : decode M_X10_type.1 31 = .ok (.new 61, 3) := by decide +kernel
theorem dm_X10_type_34 : decode M_X10_type.1 34 = .ok (.dup, 1) := by decide +kernel
theorem dm_X10_type_35 : decode M_X10_type.1 35 = .ok (.invokespecial 63, 3) := by decide +kernel
theorem dm_X10_type_38 : decode M_X10_type.1 38 = .ok (.athrow, 1) := by decide +kernel
theorem dm_X10_type_39 : decode M_X10_type.1 39 = .ok (.aload_n 0, 1) := by decide +kernel
theorem dm_X10_type_40 : decode M_X10_type.1 40 = .ok (.getfield 37, 3) := by decide +kernel
theorem dm_X10_type_43 : decode M_X10_type.1 43 = .ok (.lload_n 1, 1) := by decide +kernel
theorem dm_X10_type_44 : decode M_X10_type.1 44 = .ok (.iload_n 3, 1) := by decide +kernel
theorem dm_X10_type_45 : decode M_X10_type.1 45 = .ok (.invokevirtual 64, 3) := by decide +kernel
theorem dm_X10_type_48 : decode M_X10_type.1 48 = .ok (.aload_n 0, 1) := by decide +kernel
theorem dm_X10_type_49 : decode M_X10_type.1 49 = .ok (.getfield 37, 3) := by decide +kernel
theorem dm_X10_type_52 : decode M_X10_type.1 52 = .ok (.getfield 57, 3) := by decide +kernel
theorem dm_X10_type_55 : decode M_X10_type.1 55 = .ok (.ireturn, 1) := by decide +kernel
theorem gc_X10_type_50 : g_cs M_X10_type 50 M_X7_canBeTyped yX7_canBeTyped 2 := ⟨tw136, tw137, tw35, tw138, ⟨rfl, rfl, rfl, rfl⟩, gd_X7_canBeTyped, ⟨by decide, by decide⟩⟩
theorem gc_X10_type_64 : g_cv M_X10_type 64 M_X7_add yX7_add 2 := ⟨tw143, tw144, tw145, tw35, tw146, ⟨rfl, rfl, rfl, rfl⟩, gd_X7_add, ⟨by decide, by decide⟩⟩
theorem gd_X10_type : yX10_type.cls ≠ "java/lang/invoke/MethodHandle" ∧ yX10_type.cls ≠ "java/lang/invoke/VarHandle" ∧ (parseMethodDescriptor yX10_type.desc).map (fun d => d.parameters.length) = some 2 := ⟨by decide, by decide, by decide +kernel⟩
set_option maxRecDepth 20000 in
theorem k_X10_type_a {typed : Int64} {n : Int32} {cycle : Int32} {mwheel : Int32} {mwords : Nat → Int32} {xlow : Nat → Int32} {xhigh : Nat → Int32} {xnum : Nat → Int32} {xstat : Nat → Int32} {xaddr : Nat → Int32} {xready : Nat → Int32} {xnext : Nat → Int32} {xret : Nat → Int32} {xregs : Nat → Nat → Int32} {xstore : Nat → Nat → Int32} {xhcount : Nat → Int32} {xhaddr : Nat → Nat → Int32} {xhcyc : Nat → Nat → Int32} {xhret : Nat → Nat → Int32} {xtims : Nat → Nat → Int32} {tlen : Int32} {tchars : Nat → Int32} {acount : Int32} {afk : Int32} {afl : Int32} {aat : Int32} {alabel : Int64} {ahas : Int32} {aword : Int32} {atarget : Int64} {amal : Int32} {amis : Int32} {awords : Nat → Int32} {atargets : Nat → Int64} {alines : Nat → Int32} {lcount : Int32} {lkeys : Nat → Int64} {lplaces : Nat → Int32} {kcount : Int32} {kat : Int32} {kinds : Nat → Int32} {kvals : Nat → Int64} (hb : f_X7_canBeTyped typed n = 0) : KX M_X10_type yX10_type [.ref 0, .long typed, .int n] (w_C cycle mwheel mwords xlow xhigh xnum xstat xaddr xready xnext xret xregs xstore xhcount xhaddr xhcyc xhret xtims tlen tchars acount afk afl aat alabel ahas aword atarget amal amis awords atargets alines lcount lkeys lplaces kcount kat kinds kvals) (.inr "java/lang/IllegalArgumentException") (w_C cycle mwheel mwords xlow xhigh xnum xstat xaddr xready xnext xret xregs xstore xhcount xhaddr xhcyc xhret xtims tlen tchars acount afk afl aat alabel ahas aword atarget amal amis awords atargets alines lcount lkeys lplaces kcount kat kinds kvals) := by
  refine KX.of (lv := [(0, .ref 0), (1, .long typed), (3, .int n)]) (by decide +kernel) rfl rfl rfl ?_
  refine G.lload_n (pc := 0) dm_X10_type_0 rfl ?_
  refine G.iload_n (pc := 1) dm_X10_type_1 rfl ?_
  obtain ⟨z1, hz1⟩ := g_ex1 (f_X7_canBeTyped typed n)
  refine G.callS (pc := 2) (rest := []) (st1 := [.int z1]) (ws1 := (w_C cycle mwheel mwords xlow xhigh xnum xstat xaddr xready xnext xret xregs xstore xhcount xhaddr xhcyc xhret xtims tlen tchars acount afk afl aat alabel ahas aword atarget amal amis awords atargets alines lcount lkeys lplaces kcount kat kinds kvals)) [] dm_X10_type_2 gc_X10_type_50 (k_X7_canBeTyped (typed := typed) (n := n) hz1) rfl rfl rfl rfl rfl rfl rfl rfl ?_
  rw [← hz1] at hb
  refine G.if_ne (pc := 5) (tgt := 16) dm_X10_type_5 (by decide) (fun c5 => absurd hb c5) (fun c5 => ?_)
  exact G.throw0 (pc := 8) rfl g_thrA dm_X10_type_8 dm_X10_type_11 dm_X10_type_12 dm_X10_type_15 rfl rfl rfl
set_option maxRecDepth 20000 in
theorem k_X10_type_b {typed : Int64} {n : Int32} {cycle : Int32} {mwheel : Int32} {mwords : Nat → Int32} {xlow : Nat → Int32} {xhigh : Nat → Int32} {xnum : Nat → Int32} {xstat : Nat → Int32} {xaddr : Nat → Int32} {xready : Nat → Int32} {xnext : Nat → Int32} {xret : Nat → Int32} {xregs : Nat → Nat → Int32} {xstore : Nat → Nat → Int32} {xhcount : Nat → Int32} {xhaddr : Nat → Nat → Int32} {xhcyc : Nat → Nat → Int32} {xhret : Nat → Nat → Int32} {xtims : Nat → Nat → Int32} {tlen : Int32} {tchars : Nat → Int32} {acount : Int32} {afk : Int32} {afl : Int32} {aat : Int32} {alabel : Int64} {ahas : Int32} {aword : Int32} {atarget : Int64} {amal : Int32} {amis : Int32} {awords : Nat → Int32} {atargets : Nat → Int64} {alines : Nat → Int32} {lcount : Int32} {lkeys : Nat → Int64} {lplaces : Nat → Int32} {kcount : Int32} {kat : Int32} {kinds : Nat → Int32} {kvals : Nat → Int64} (hb : ¬ f_X7_canBeTyped typed n = 0) (hl : ¬ tlen + n ≤ 400) : KX M_X10_type yX10_type [.ref 0, .long typed, .int n] (w_C cycle mwheel mwords xlow xhigh xnum xstat xaddr xready xnext xret xregs xstore xhcount xhaddr xhcyc xhret xtims tlen tchars acount afk afl aat alabel ahas aword atarget amal amis awords atargets alines lcount lkeys lplaces kcount kat kinds kvals) (.inr "java/lang/IllegalStateException") (w_C cycle mwheel mwords xlow xhigh xnum xstat xaddr xready xnext xret xregs xstore xhcount xhaddr xhcyc xhret xtims tlen tchars acount afk afl aat alabel ahas aword atarget amal amis awords atargets alines lcount lkeys lplaces kcount kat kinds kvals) := by
  refine KX.of (lv := [(0, .ref 0), (1, .long typed), (3, .int n)]) (by decide +kernel) rfl rfl rfl ?_
  refine G.lload_n (pc := 0) dm_X10_type_0 rfl ?_
  refine G.iload_n (pc := 1) dm_X10_type_1 rfl ?_
  obtain ⟨z1, hz1⟩ := g_ex1 (f_X7_canBeTyped typed n)
  refine G.callS (pc := 2) (rest := []) (st1 := [.int z1]) (ws1 := (w_C cycle mwheel mwords xlow xhigh xnum xstat xaddr xready xnext xret xregs xstore xhcount xhaddr xhcyc xhret xtims tlen tchars acount afk afl aat alabel ahas aword atarget amal amis awords atargets alines lcount lkeys lplaces kcount kat kinds kvals)) [] dm_X10_type_2 gc_X10_type_50 (k_X7_canBeTyped (typed := typed) (n := n) hz1) rfl rfl rfl rfl rfl rfl rfl rfl ?_
  rw [← hz1] at hb
  refine G.if_ne (pc := 5) (tgt := 16) dm_X10_type_5 (by decide) (fun c5 => ?_) (fun c5 => absurd c5 hb)
  refine G.aload_n (pc := 16) dm_X10_type_16 rfl ?_
  refine G.getfield (pc := 17) dm_X10_type_17 gf_X10_37 rfl rfl ?_
  refine G.getfield (pc := 20) dm_X10_type_20 gf_X10_57 rfl rfl ?_
  refine G.iload_n (pc := 23) dm_X10_type_23 rfl ?_
  refine G.iadd (pc := 24) dm_X10_type_24 ?_
  refine G.sipush (pc := 25) (v := (400 : Int32)) dm_X10_type_25 qs_400 ?_
  refine G.icmp_le (pc := 28) (tgt := 39) dm_X10_type_28 (by decide) (fun c => absurd c hl) (fun c => ?_)
  exact G.throw0 (pc := 31) rfl g_thrS dm_X10_type_31 dm_X10_type_34 dm_X10_type_35 dm_X10_type_38 rfl rfl rfl
set_option maxRecDepth 20000 in
theorem k_X10_type_c {typed : Int64} {n : Int32} {cycle : Int32} {mwheel : Int32} {mwords : Nat → Int32} {xlow : Nat → Int32} {xhigh : Nat → Int32} {xnum : Nat → Int32} {xstat : Nat → Int32} {xaddr : Nat → Int32} {xready : Nat → Int32} {xnext : Nat → Int32} {xret : Nat → Int32} {xregs : Nat → Nat → Int32} {xstore : Nat → Nat → Int32} {xhcount : Nat → Int32} {xhaddr : Nat → Nat → Int32} {xhcyc : Nat → Nat → Int32} {xhret : Nat → Nat → Int32} {xtims : Nat → Nat → Int32} {tlen : Int32} {tchars : Nat → Int32} {acount : Int32} {afk : Int32} {afl : Int32} {aat : Int32} {alabel : Int64} {ahas : Int32} {aword : Int32} {atarget : Int64} {amal : Int32} {amis : Int32} {awords : Nat → Int32} {atargets : Nat → Int64} {alines : Nat → Int32} {lcount : Int32} {lkeys : Nat → Int64} {lplaces : Nat → Int32} {kcount : Int32} {kat : Int32} {kinds : Nat → Int32} {kvals : Nat → Int64} (hb : ¬ f_X7_canBeTyped typed n = 0) (hl : tlen + n ≤ 400) (hn : n.toInt ≤ 8) (htl : 0 ≤ tlen.toInt ∧ tlen.toInt ≤ 400) {r_0 : Int32} {r_1 : Nat → Int32} (hres : (r_0, r_1) = f_X7_add typed n tlen tchars) : KX M_X10_type yX10_type [.ref 0, .long typed, .int n] (w_C cycle mwheel mwords xlow xhigh xnum xstat xaddr xready xnext xret xregs xstore xhcount xhaddr xhcyc xhret xtims tlen tchars acount afk afl aat alabel ahas aword atarget amal amis awords atargets alines lcount lkeys lplaces kcount kat kinds kvals) (.inl (some (.int r_0))) (w_C cycle mwheel mwords xlow xhigh xnum xstat xaddr xready xnext xret xregs xstore xhcount xhaddr xhcyc xhret xtims r_0 r_1 acount afk afl aat alabel ahas aword atarget amal amis awords atargets alines lcount lkeys lplaces kcount kat kinds kvals) := by
  refine KX.of (lv := [(0, .ref 0), (1, .long typed), (3, .int n)]) (by decide +kernel) rfl rfl rfl ?_
  refine G.lload_n (pc := 0) dm_X10_type_0 rfl ?_
  refine G.iload_n (pc := 1) dm_X10_type_1 rfl ?_
  obtain ⟨z1, hz1⟩ := g_ex1 (f_X7_canBeTyped typed n)
  refine G.callS (pc := 2) (rest := []) (st1 := [.int z1]) (ws1 := (w_C cycle mwheel mwords xlow xhigh xnum xstat xaddr xready xnext xret xregs xstore xhcount xhaddr xhcyc xhret xtims tlen tchars acount afk afl aat alabel ahas aword atarget amal amis awords atargets alines lcount lkeys lplaces kcount kat kinds kvals)) [] dm_X10_type_2 gc_X10_type_50 (k_X7_canBeTyped (typed := typed) (n := n) hz1) rfl rfl rfl rfl rfl rfl rfl rfl ?_
  rw [← hz1] at hb
  refine G.if_ne (pc := 5) (tgt := 16) dm_X10_type_5 (by decide) (fun c5 => ?_) (fun c5 => absurd c5 hb)
  refine G.aload_n (pc := 16) dm_X10_type_16 rfl ?_
  refine G.getfield (pc := 17) dm_X10_type_17 gf_X10_37 rfl rfl ?_
  refine G.getfield (pc := 20) dm_X10_type_20 gf_X10_57 rfl rfl ?_
  refine G.iload_n (pc := 23) dm_X10_type_23 rfl ?_
  refine G.iadd (pc := 24) dm_X10_type_24 ?_
  refine G.sipush (pc := 25) (v := (400 : Int32)) dm_X10_type_25 qs_400 ?_
  refine G.icmp_le (pc := 28) (tgt := 39) dm_X10_type_28 (by decide) (fun c => ?_) (fun c => absurd hl c)
  refine G.aload_n (pc := 39) dm_X10_type_39 rfl ?_
  refine G.getfield (pc := 40) dm_X10_type_40 gf_X10_37 rfl rfl ?_
  refine G.lload_n (pc := 43) dm_X10_type_43 rfl ?_
  refine G.iload_n (pc := 44) dm_X10_type_44 rfl ?_
  refine G.callV (pc := 45) (rest := []) (st1 := []) (ws1 := (w_C cycle mwheel mwords xlow xhigh xnum xstat xaddr xready xnext xret xregs xstore xhcount xhaddr xhcyc xhret xtims r_0 r_1 acount afk afl aat alabel ahas aword atarget amal amis awords atargets alines lcount lkeys lplaces kcount kat kinds kvals)) [36, 37] dm_X10_type_45 gc_X10_type_64 (k_X7_add (typed := typed) (n := n) (tlen := tlen) (tchars := tchars) hn htl hres) rfl rfl rfl rfl rfl rfl rfl rfl rfl rfl ?_
  refine G.aload_n (pc := 48) dm_X10_type_48 rfl ?_
  refine G.getfield (pc := 49) dm_X10_type_49 gf_X10_37 rfl rfl ?_
  refine G.getfield (pc := 52) dm_X10_type_52 gf_X10_57 rfl rfl ?_
  exact G.xret (G.ireturn (pc := 55) dm_X10_type_55 rfl rfl rfl)
