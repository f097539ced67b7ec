abbrev M_X10_assemble : g_M := (cX10_assemble, 3, RX10, (some .int), { frames := 7, cells := 1, slots := 6, locals := 152 }, 1, 6)
theorem dm_X10_assemble_0 : decode M_X10_assemble.1 0 = .ok (.iload_n 1, 1) := by decide +kernel
theorem dm_X10_assemble_1 : decode M_X10_assemble.1 1 = .ok (.iload_n 2, 1) := by decide +kernel
theorem dm_X10_assemble_2 : decode M_X10_assemble.1 2 = .ok (.invokestatic 66, 3) := by decide +kernel
theorem dm_X10_assemble_5 : decode M_X10_assemble.1 5 = .ok (.ifCond .ne 11, 3) := by decide +kernel
theorem dm_X10_assemble_8 : decode M_X10_assemble.1 8 = .ok (.new 70, 3) := by decide +kernel
theorem dm_X10_assemble_11 : decode M_X10_assemble.1 11 = .ok (.dup, 1) := by decide +kernel
theorem dm_X10_assemble_12 : decode M_X10_assemble.1 12 = .ok (.invokespecial 72, 3) := by decide +kernel
theorem dm_X10_assemble_15 : decode M_X10_assemble.1 15 = .ok (.athrow, 1) := by decide +kernel
theorem dm_X10_assemble_16 : decode M_X10_assemble.1 16 = .ok (.aload_n 0, 1) := by decide +kernel
theorem dm_X10_assemble_17 : decode M_X10_assemble.1 17 = .ok (.getfield 44, 3) := by decide +kernel
theorem dm_X10_assemble_20 : decode M_X10_assemble.1 20 = .ok (.aload_n 0, 1) := by decide +kernel
theorem dm_X10_assemble_21 : decode M_X10_assemble.1 21 = .ok (.getfield 37, 3) := by decide +kernel
theorem dm_X10_assemble_24 : decode M_X10_assemble.1 24 = .ok (.iload_n 2, 1) := by decide +kernel
theorem dm_X10_assemble_25 : decode M_X10_assemble.1 25 = .ok (.invokevirtual 73, 3) := by decide +kernel
theorem dm_X10_assemble_28 : decode M_X10_assemble.1 28 = .ok (.aload_n 0, 1) := by decide +kernel
theorem dm_X10_assemble_29 : decode M_X10_assemble.1 29 = .ok (.getfield 44, 3) := by decide +kernel
theorem dm_X10_assemble_32 : decode M_X10_assemble.1 32 = .ok (.getfield 77, 3) := by decide +kernel
theorem dm_X10_assemble_35 : decode M_X10_assemble.1 35 = .ok (.ifCond .eq 11, 3) := by decide +kernel
theorem dm_X10_assemble_38 : decode M_X10_assemble.1 38 = .ok (.new 52, 3) := by decide +kernel
theorem dm_X10_assemble_41 : decode M_X10_assemble.1 41 = .ok (.dup, 1) := by decide +kernel
theorem dm_X10_assemble_42 : decode M_X10_assemble.1 42 = .ok (.invokespecial 54, 3) := by decide +kernel
theorem dm_X10_assemble_45 : decode M_X10_assemble.1 45 = .ok (.athrow, 1) := by decide +kernel
theorem dm_X10_assemble_46 : decode M_X10_assemble.1 46 = .ok (.aload_n 0, 1) := by decide +kernel
theorem dm_X10_assemble_47 : decode M_X10_assemble.1 47 = .ok (.getfield 44, 3) := by decide +kernel
theorem dm_X10_assemble_50 : decode M_X10_assemble.1 50 = .ok (.getfield 80, 3) := by decide +kernel
theorem dm_X10_assemble_53 : decode M_X10_assemble.1 53 = .ok (.iconst 0, 1) := by decide +kernel
theorem dm_X10_assemble_54 : decode M_X10_assemble.1 54 = .ok (.aload_n 0, 1) := by decide +kernel
theorem dm_X10_assemble_55 : decode M_X10_assemble.1 55 = .ok (.getfield 29, 3) := by decide +kernel
theorem dm_X10_assemble_58 : decode M_X10_assemble.1 58 = .ok (.iload_n 1, 1) := by decide +kernel
theorem dm_X10_assemble_59 : decode M_X10_assemble.1 59 = .ok (.aaload, 1) := by decide +kernel
theorem dm_X10_assemble_60 : decode M_X10_assemble.1 60 = .ok (.getfield 84, 3) := by decide +kernel
theorem dm_X10_assemble_63 : decode M_X10_assemble.1 63 = .ok (.iload_n 2, 1) := by decide +kernel
theorem dm_X10_assemble_64 : decode M_X10_assemble.1 64 = .ok (.aload_n 0, 1) := by decide +kernel
theorem dm_X10_assemble_65 : decode M_X10_assemble.1 65 = .ok (.getfield 44, 3) := by decide +kernel
theorem dm_X10_assemble_68 : decode M_X10_assemble.1 68 = .ok (.getfield 87, 3) := by decide +kernel
theorem dm_X10_assemble_71 : decode M_X10_assemble.1 71 = .ok (.invokestatic 90, 3) := by decide +kernel
theorem dm_X10_assemble_74 : decode M_X10_assemble.1 74 = .ok (.aload_n 0, 1) := by decide +kernel
theorem dm_X10_assemble_75 : decode M_X10_assemble.1 75 = .ok (.getfield 44, 3) := by decide +kernel
theorem dm_X10_assemble_78 : decode M_X10_assemble.1 78 = .ok (.getfield 87, 3) := by decide +kernel
theorem dm_X10_assemble_81 : decode M_X10_assemble.1 81 = .ok (.ireturn, 1) := by decide +kernel
theorem gc_X10_assemble_66 : g_cs M_X10_assemble 66 M_X10_isStoreWord yX10_isStoreWord 2 := ⟨tw188, tw189, tw2, tw190, ⟨rfl, rfl, rfl, rfl⟩, gd_X10_isStoreWord, ⟨by decide, by decide⟩⟩
theorem gc_X10_assemble_73 : g_cv M_X10_assemble 73 M_X0_read yX0_read 2 := ⟨tw194, tw195, tw196, tw39, tw197, ⟨rfl, rfl, rfl, rfl⟩, gd_X0_read, ⟨by decide, by decide⟩⟩
theorem gd_X10_assemble : yX10_assemble.cls ≠ "java/lang/invoke/MethodHandle" ∧ yX10_assemble.cls ≠ "java/lang/invoke/VarHandle" ∧ (parseMethodDescriptor yX10_assemble.desc).map (fun d => d.parameters.length) = some 2 := ⟨by decide, by decide, by decide +kernel⟩
set_option maxRecDepth 20000 in
theorem k_X10_assemble_a {thread : Int32} {word : Int32} {cycle : Int32} {mwheel : Int32} {mwords : Nat → Int32} {xlow : Nat → Int32} {xhigh : Nat → Int32} {xnum : Nat → Int32} {xstat : Nat → Int32} {xaddr : Nat → Int32} {xready : Nat → Int32} {xnext : Nat → Int32} {xret : Nat → Int32} {xregs : Nat → Nat → Int32} {xstore : Nat → Nat → Int32} {xhcount : Nat → Int32} {xhaddr : Nat → Nat → Int32} {xhcyc : Nat → Nat → Int32} {xhret : Nat → Nat → Int32} {xtims : Nat → Nat → Int32} {tlen : Int32} {tchars : Nat → Int32} {acount : Int32} {afk : Int32} {afl : Int32} {aat : Int32} {alabel : Int64} {ahas : Int32} {aword : Int32} {atarget : Int64} {amal : Int32} {amis : Int32} {awords : Nat → Int32} {atargets : Nat → Int64} {alines : Nat → Int32} {lcount : Int32} {lkeys : Nat → Int64} {lplaces : Nat → Int32} {kcount : Int32} {chv : Value} {klen : Int32} {kat : Int32} {kinds : Nat → Int32} {kvals : Nat → Int64} (hb : f_X10_isStoreWord thread word = 0) : KX M_X10_assemble yX10_assemble [.ref 0, .int thread, .int word] (w_C cycle mwheel mwords xlow xhigh xnum xstat xaddr xready xnext xret xregs xstore xhcount xhaddr xhcyc xhret xtims tlen tchars acount afk afl aat alabel ahas aword atarget amal amis awords atargets alines lcount lkeys lplaces kcount chv klen kat kinds kvals) (.inr "java/util/NoSuchElementException") (w_C cycle mwheel mwords xlow xhigh xnum xstat xaddr xready xnext xret xregs xstore xhcount xhaddr xhcyc xhret xtims tlen tchars acount afk afl aat alabel ahas aword atarget amal amis awords atargets alines lcount lkeys lplaces kcount chv klen kat kinds kvals) := by
  refine KX.of (lv := [(0, .ref 0), (1, .int thread), (2, .int word)]) (by decide +kernel) rfl rfl rfl ?_
  refine G.iload_n (pc := 0) dm_X10_assemble_0 rfl ?_
  refine G.iload_n (pc := 1) dm_X10_assemble_1 rfl ?_
  obtain ⟨z1, hz1⟩ := g_ex1 (f_X10_isStoreWord thread word)
  refine G.callS (pc := 2) (rest := []) (st1 := [.int z1]) (ws1 := (w_C cycle mwheel mwords xlow xhigh xnum xstat xaddr xready xnext xret xregs xstore xhcount xhaddr xhcyc xhret xtims tlen tchars acount afk afl aat alabel ahas aword atarget amal amis awords atargets alines lcount lkeys lplaces kcount chv klen kat kinds kvals)) [] dm_X10_assemble_2 gc_X10_assemble_66 (k_X10_isStoreWord (thread := thread) (word := word) hz1) rfl rfl rfl rfl rfl rfl rfl rfl ?_
  rw [← hz1] at hb
  refine G.if_ne (pc := 5) (tgt := 16) dm_X10_assemble_5 (by decide) (fun c5 => absurd hb c5) (fun c5 => ?_)
  exact G.throw0 (pc := 8) rfl g_thr70 dm_X10_assemble_8 dm_X10_assemble_11 dm_X10_assemble_12 dm_X10_assemble_15 rfl rfl rfl
set_option maxRecDepth 20000 in
theorem k_X10_assemble_b1 {thread : Int32} {word : Int32} {cycle : Int32} {mwheel : Int32} {mwords : Nat → Int32} {xlow : Nat → Int32} {xhigh : Nat → Int32} {xnum : Nat → Int32} {xstat : Nat → Int32} {xaddr : Nat → Int32} {xready : Nat → Int32} {xnext : Nat → Int32} {xret : Nat → Int32} {xregs : Nat → Nat → Int32} {xstore : Nat → Nat → Int32} {xhcount : Nat → Int32} {xhaddr : Nat → Nat → Int32} {xhcyc : Nat → Nat → Int32} {xhret : Nat → Nat → Int32} {xtims : Nat → Nat → Int32} {tlen : Int32} {tchars : Nat → Int32} {acount : Int32} {afk : Int32} {afl : Int32} {aat : Int32} {alabel : Int64} {ahas : Int32} {aword : Int32} {atarget : Int64} {amal : Int32} {amis : Int32} {awords : Nat → Int32} {atargets : Nat → Int64} {alines : Nat → Int32} {lcount : Int32} {lkeys : Nat → Int64} {lplaces : Nat → Int32} {kcount : Int32} {klen : Int32} {kat : Int32} {kinds : Nat → Int32} {kvals : Nat → Int64} (hb : ¬ f_X10_isStoreWord thread word = 0) (htl : 0 ≤ tlen.toInt ∧ tlen.toInt ≤ 400) (hch : q_ch kinds) {r_0 : Int32} {r_1 : Int32} {r_2 : Int32} {r_3 : Int32} {r_4 : Int64} {r_5 : Int32} {r_6 : Int32} {r_7 : Int64} {r_8 : Int32} {r_9 : Int32} {r_10 : Nat → Int32} {r_11 : Nat → Int64} {r_12 : Nat → Int32} {r_13 : Int32} {r_14 : Nat → Int64} {r_15 : Nat → Int32} {r_16 : Int32} {r_17 : Int32} {r_18 : Int32} {r_19 : Nat → Int32} {r_20 : Nat → Int64} (hres : (r_0, r_1, r_2, r_3, r_4, r_5, r_6, r_7, r_8, r_9, r_10, r_11, r_12, r_13, r_14, r_15, r_16, r_17, r_18, r_19, r_20) = f_X0_read word alabel ahas aword atarget amal amis awords atargets alines lkeys lplaces kinds kvals tchars tlen) (hf : ¬ r_1 = 0) : KX M_X10_assemble yX10_assemble [.ref 0, .int thread, .int word] (w_C cycle mwheel mwords xlow xhigh xnum xstat xaddr xready xnext xret xregs xstore xhcount xhaddr xhcyc xhret xtims tlen tchars acount afk afl aat alabel ahas aword atarget amal amis awords atargets alines lcount lkeys lplaces kcount (.ref 37) klen kat kinds kvals) (.inr "java/lang/IllegalArgumentException") (w_C cycle mwheel mwords xlow xhigh xnum xstat xaddr xready xnext xret xregs xstore xhcount xhaddr xhcyc xhret xtims tlen tchars r_0 r_1 r_2 r_3 r_4 r_5 r_6 r_7 r_8 r_9 r_10 r_11 r_12 r_13 r_14 r_15 r_16 (.ref 37) r_17 r_18 r_19 r_20) := by
  refine KX.of (lv := [(0, .ref 0), (1, .int thread), (2, .int word)]) (by decide +kernel) rfl rfl rfl ?_
  refine G.iload_n (pc := 0) dm_X10_assemble_0 rfl ?_
  refine G.iload_n (pc := 1) dm_X10_assemble_1 rfl ?_
  obtain ⟨z1, hz1⟩ := g_ex1 (f_X10_isStoreWord thread word)
  refine G.callS (pc := 2) (rest := []) (st1 := [.int z1]) (ws1 := (w_C cycle mwheel mwords xlow xhigh xnum xstat xaddr xready xnext xret xregs xstore xhcount xhaddr xhcyc xhret xtims tlen tchars acount afk afl aat alabel ahas aword atarget amal amis awords atargets alines lcount lkeys lplaces kcount (.ref 37) klen kat kinds kvals)) [] dm_X10_assemble_2 gc_X10_assemble_66 (k_X10_isStoreWord (thread := thread) (word := word) hz1) rfl rfl rfl rfl rfl rfl rfl rfl ?_
  have hsw := a_isSW hz1
  rw [← hz1] at hb
  refine G.if_ne (pc := 5) (tgt := 16) dm_X10_assemble_5 (by decide) (fun c5 => ?_) (fun c5 => absurd c5 hb)
  have hh := hsw c5
  refine G.aload_n (pc := 16) dm_X10_assemble_16 rfl ?_
  refine G.getfield (pc := 17) dm_X10_assemble_17 gf_X10_44 rfl rfl ?_
  refine G.aload_n (pc := 20) dm_X10_assemble_20 rfl ?_
  refine G.getfield (pc := 21) dm_X10_assemble_21 gf_X10_37 rfl rfl ?_
  refine G.iload_n (pc := 24) dm_X10_assemble_24 rfl ?_
  refine G.callV (pc := 25) (rest := []) (st1 := []) (ws1 := (w_C cycle mwheel mwords xlow xhigh xnum xstat xaddr xready xnext xret xregs xstore xhcount xhaddr xhcyc xhret xtims tlen tchars r_0 r_1 r_2 r_3 r_4 r_5 r_6 r_7 r_8 r_9 r_10 r_11 r_12 r_13 r_14 r_15 r_16 (.ref 37) r_17 r_18 r_19 r_20)) [38, 39, 40, 41, 42, 43, 44, 45, 46, 47, 37, 36] dm_X10_assemble_25 gc_X10_assemble_73 (k_X0_read (firstWord := word) htl hch hres) rfl rfl rfl rfl rfl rfl rfl rfl rfl rfl ?_
  refine G.aload_n (pc := 28) dm_X10_assemble_28 rfl ?_
  refine G.getfield (pc := 29) dm_X10_assemble_29 gf_X10_44 rfl rfl ?_
  refine G.getfield (pc := 32) dm_X10_assemble_32 gf_X10_77 rfl rfl ?_
  refine G.if_eq (pc := 35) (tgt := 46) dm_X10_assemble_35 (by decide) (fun c => absurd c hf) (fun c => ?_)
  exact G.throw0 (pc := 38) rfl g_thr52 dm_X10_assemble_38 dm_X10_assemble_41 dm_X10_assemble_42 dm_X10_assemble_45 rfl rfl rfl
set_option maxRecDepth 20000 in
theorem k_X10_assemble_c1 {thread : Int32} {word : Int32} {cycle : Int32} {mwheel : Int32} {mwords : Nat → Int32} {xlow : Nat → Int32} {xhigh : Nat → Int32} {xnum : Nat → Int32} {xstat : Nat → Int32} {xaddr : Nat → Int32} {xready : Nat → Int32} {xnext : Nat → Int32} {xret : Nat → Int32} {xregs : Nat → Nat → Int32} {xstore : Nat → Nat → Int32} {xhcount : Nat → Int32} {xhaddr : Nat → Nat → Int32} {xhcyc : Nat → Nat → Int32} {xhret : Nat → Nat → Int32} {xtims : Nat → Nat → Int32} {tlen : Int32} {tchars : Nat → Int32} {acount : Int32} {afk : Int32} {afl : Int32} {aat : Int32} {alabel : Int64} {ahas : Int32} {aword : Int32} {atarget : Int64} {amal : Int32} {amis : Int32} {awords : Nat → Int32} {atargets : Nat → Int64} {alines : Nat → Int32} {lcount : Int32} {lkeys : Nat → Int64} {lplaces : Nat → Int32} {kcount : Int32} {klen : Int32} {kat : Int32} {kinds : Nat → Int32} {kvals : Nat → Int64} (hb : ¬ f_X10_isStoreWord thread word = 0) (htl : 0 ≤ tlen.toInt ∧ tlen.toInt ≤ 400) (hch : q_ch kinds) {r_0 : Int32} {r_1 : Int32} {r_2 : Int32} {r_3 : Int32} {r_4 : Int64} {r_5 : Int32} {r_6 : Int32} {r_7 : Int64} {r_8 : Int32} {r_9 : Int32} {r_10 : Nat → Int32} {r_11 : Nat → Int64} {r_12 : Nat → Int32} {r_13 : Int32} {r_14 : Nat → Int64} {r_15 : Nat → Int32} {r_16 : Int32} {r_17 : Int32} {r_18 : Int32} {r_19 : Nat → Int32} {r_20 : Nat → Int64} (hres : (r_0, r_1, r_2, r_3, r_4, r_5, r_6, r_7, r_8, r_9, r_10, r_11, r_12, r_13, r_14, r_15, r_16, r_17, r_18, r_19, r_20) = f_X0_read word alabel ahas aword atarget amal amis awords atargets alines lkeys lplaces kinds kvals tchars tlen) (hf : r_1 = 0) (hr0 : 0 ≤ r_0.toInt ∧ r_0.toInt ≤ 128 - word.toInt) : KX M_X10_assemble yX10_assemble [.ref 0, .int thread, .int word] (w_C cycle mwheel mwords xlow xhigh xnum xstat xaddr xready xnext xret xregs xstore xhcount xhaddr xhcyc xhret xtims tlen tchars acount afk afl aat alabel ahas aword atarget amal amis awords atargets alines lcount lkeys lplaces kcount (.ref 37) klen kat kinds kvals) (.inl (some (.int r_0))) (w_C cycle mwheel mwords xlow xhigh xnum xstat xaddr xready xnext xret xregs (g_up xstore (Int32.toNatClampNeg thread) (va_cpy r_10 (xstore (Int32.toNatClampNeg thread)) 0 (Int32.toNatClampNeg word) (Int32.toNatClampNeg r_0))) xhcount xhaddr xhcyc xhret xtims tlen tchars r_0 r_1 r_2 r_3 r_4 r_5 r_6 r_7 r_8 r_9 r_10 r_11 r_12 r_13 r_14 r_15 r_16 (.ref 37) r_17 r_18 r_19 r_20) := by
  refine KX.of (lv := [(0, .ref 0), (1, .int thread), (2, .int word)]) (by decide +kernel) rfl rfl rfl ?_
  refine G.iload_n (pc := 0) dm_X10_assemble_0 rfl ?_
  refine G.iload_n (pc := 1) dm_X10_assemble_1 rfl ?_
  obtain ⟨z1, hz1⟩ := g_ex1 (f_X10_isStoreWord thread word)
  refine G.callS (pc := 2) (rest := []) (st1 := [.int z1]) (ws1 := (w_C cycle mwheel mwords xlow xhigh xnum xstat xaddr xready xnext xret xregs xstore xhcount xhaddr xhcyc xhret xtims tlen tchars acount afk afl aat alabel ahas aword atarget amal amis awords atargets alines lcount lkeys lplaces kcount (.ref 37) klen kat kinds kvals)) [] dm_X10_assemble_2 gc_X10_assemble_66 (k_X10_isStoreWord (thread := thread) (word := word) hz1) rfl rfl rfl rfl rfl rfl rfl rfl ?_
  have hsw := a_isSW hz1
  rw [← hz1] at hb
  refine G.if_ne (pc := 5) (tgt := 16) dm_X10_assemble_5 (by decide) (fun c5 => ?_) (fun c5 => absurd c5 hb)
  have hh := hsw c5
  refine G.aload_n (pc := 16) dm_X10_assemble_16 rfl ?_
  refine G.getfield (pc := 17) dm_X10_assemble_17 gf_X10_44 rfl rfl ?_
  refine G.aload_n (pc := 20) dm_X10_assemble_20 rfl ?_
  refine G.getfield (pc := 21) dm_X10_assemble_21 gf_X10_37 rfl rfl ?_
  refine G.iload_n (pc := 24) dm_X10_assemble_24 rfl ?_
  refine G.callV (pc := 25) (rest := []) (st1 := []) (ws1 := (w_C cycle mwheel mwords xlow xhigh xnum xstat xaddr xready xnext xret xregs xstore xhcount xhaddr xhcyc xhret xtims tlen tchars r_0 r_1 r_2 r_3 r_4 r_5 r_6 r_7 r_8 r_9 r_10 r_11 r_12 r_13 r_14 r_15 r_16 (.ref 37) r_17 r_18 r_19 r_20)) [38, 39, 40, 41, 42, 43, 44, 45, 46, 47, 37, 36] dm_X10_assemble_25 gc_X10_assemble_73 (k_X0_read (firstWord := word) htl hch hres) rfl rfl rfl rfl rfl rfl rfl rfl rfl rfl ?_
  refine G.aload_n (pc := 28) dm_X10_assemble_28 rfl ?_
  refine G.getfield (pc := 29) dm_X10_assemble_29 gf_X10_44 rfl rfl ?_
  refine G.getfield (pc := 32) dm_X10_assemble_32 gf_X10_77 rfl rfl ?_
  refine G.if_eq (pc := 35) (tgt := 46) dm_X10_assemble_35 (by decide) (fun c => ?_) (fun c => absurd hf c)
  have ht4 := q_t hh.1
  have hc1 : ¬ r_0 < 0 := q_geN hr0.1
  have hc2 : ¬ word < 0 := q_geN hh.2.1
  have hn0 : Int32.toNatClampNeg r_0 ≤ 128 := q_capN hr0.1 (by omega)
  have hn1 : Int32.toNatClampNeg word + Int32.toNatClampNeg r_0 ≤ 128 := q_capN2 hh.2.1 hr0.1 (by omega)
  refine G.aload_n (pc := 46) dm_X10_assemble_46 rfl ?_
  refine G.getfield (pc := 47) dm_X10_assemble_47 gf_X10_44 rfl rfl ?_
  refine G.getfield (pc := 50) dm_X10_assemble_50 gf_X10_80 rfl rfl ?_
  refine G.iconst (pc := 53) (v := (0 : Int32)) dm_X10_assemble_53 qi_0 ?_
  refine G.aload_n (pc := 54) dm_X10_assemble_54 rfl ?_
  refine G.getfield (pc := 55) dm_X10_assemble_55 gf_X10_29 rfl rfl ?_
  refine G.iload_n (pc := 58) dm_X10_assemble_58 rfl ?_
  rcases g_four ht4 with eT | eT | eT | eT
  · rw [eT]
    refine G.aaload (pc := 59) dm_X10_assemble_59 rfl ht4 (by rw [eT]) ?_
    refine G.getfield (pc := 60) dm_X10_assemble_60 gf_X10_84 rfl rfl ?_
    refine G.iload_n (pc := 63) dm_X10_assemble_63 rfl ?_
    refine G.aload_n (pc := 64) dm_X10_assemble_64 rfl ?_
    refine G.getfield (pc := 65) dm_X10_assemble_65 gf_X10_44 rfl rfl ?_
    refine G.getfield (pc := 68) dm_X10_assemble_68 gf_X10_87 rfl rfl ?_
    refine G.copyi (pc := 71) (a0 := 39) (a1 := 6) (ws1 := (w_C cycle mwheel mwords xlow xhigh xnum xstat xaddr xready xnext xret xregs (g_up xstore 0 (va_cpy r_10 (xstore 0) 0 (Int32.toNatClampNeg word) (Int32.toNatClampNeg r_0))) xhcount xhaddr xhcyc xhret xtims tlen tchars r_0 r_1 r_2 r_3 r_4 r_5 r_6 r_7 r_8 r_9 r_10 r_11 r_12 r_13 r_14 r_15 r_16 (.ref 37) r_17 r_18 r_19 r_20)) dm_X10_assemble_71 tw184 tw185 tw186 tw187 rfl rfl (by decide) hc2 hc1 (by rw [show Int32.toNatClampNeg 0 = 0 by decide]; omega) hn1 rfl rfl ?_
    refine G.aload_n (pc := 74) dm_X10_assemble_74 rfl ?_
    refine G.getfield (pc := 75) dm_X10_assemble_75 gf_X10_44 rfl rfl ?_
    refine G.getfield (pc := 78) dm_X10_assemble_78 gf_X10_87 rfl rfl ?_
    exact G.xret (G.ireturn (pc := 81) dm_X10_assemble_81 rfl rfl rfl)
  · rw [eT]
    refine G.aaload (pc := 59) dm_X10_assemble_59 rfl ht4 (by rw [eT]) ?_
    refine G.getfield (pc := 60) dm_X10_assemble_60 gf_X10_84 rfl rfl ?_
    refine G.iload_n (pc := 63) dm_X10_assemble_63 rfl ?_
    refine G.aload_n (pc := 64) dm_X10_assemble_64 rfl ?_
    refine G.getfield (pc := 65) dm_X10_assemble_65 gf_X10_44 rfl rfl ?_
    refine G.getfield (pc := 68) dm_X10_assemble_68 gf_X10_87 rfl rfl ?_
    refine G.copyi (pc := 71) (a0 := 39) (a1 := 14) (ws1 := (w_C cycle mwheel mwords xlow xhigh xnum xstat xaddr xready xnext xret xregs (g_up xstore 1 (va_cpy r_10 (xstore 1) 0 (Int32.toNatClampNeg word) (Int32.toNatClampNeg r_0))) xhcount xhaddr xhcyc xhret xtims tlen tchars r_0 r_1 r_2 r_3 r_4 r_5 r_6 r_7 r_8 r_9 r_10 r_11 r_12 r_13 r_14 r_15 r_16 (.ref 37) r_17 r_18 r_19 r_20)) dm_X10_assemble_71 tw184 tw185 tw186 tw187 rfl rfl (by decide) hc2 hc1 (by rw [show Int32.toNatClampNeg 0 = 0 by decide]; omega) hn1 rfl rfl ?_
    refine G.aload_n (pc := 74) dm_X10_assemble_74 rfl ?_
    refine G.getfield (pc := 75) dm_X10_assemble_75 gf_X10_44 rfl rfl ?_
    refine G.getfield (pc := 78) dm_X10_assemble_78 gf_X10_87 rfl rfl ?_
    exact G.xret (G.ireturn (pc := 81) dm_X10_assemble_81 rfl rfl rfl)
  · rw [eT]
    refine G.aaload (pc := 59) dm_X10_assemble_59 rfl ht4 (by rw [eT]) ?_
    refine G.getfield (pc := 60) dm_X10_assemble_60 gf_X10_84 rfl rfl ?_
    refine G.iload_n (pc := 63) dm_X10_assemble_63 rfl ?_
    refine G.aload_n (pc := 64) dm_X10_assemble_64 rfl ?_
    refine G.getfield (pc := 65) dm_X10_assemble_65 gf_X10_44 rfl rfl ?_
    refine G.getfield (pc := 68) dm_X10_assemble_68 gf_X10_87 rfl rfl ?_
    refine G.copyi (pc := 71) (a0 := 39) (a1 := 22) (ws1 := (w_C cycle mwheel mwords xlow xhigh xnum xstat xaddr xready xnext xret xregs (g_up xstore 2 (va_cpy r_10 (xstore 2) 0 (Int32.toNatClampNeg word) (Int32.toNatClampNeg r_0))) xhcount xhaddr xhcyc xhret xtims tlen tchars r_0 r_1 r_2 r_3 r_4 r_5 r_6 r_7 r_8 r_9 r_10 r_11 r_12 r_13 r_14 r_15 r_16 (.ref 37) r_17 r_18 r_19 r_20)) dm_X10_assemble_71 tw184 tw185 tw186 tw187 rfl rfl (by decide) hc2 hc1 (by rw [show Int32.toNatClampNeg 0 = 0 by decide]; omega) hn1 rfl rfl ?_
    refine G.aload_n (pc := 74) dm_X10_assemble_74 rfl ?_
    refine G.getfield (pc := 75) dm_X10_assemble_75 gf_X10_44 rfl rfl ?_
    refine G.getfield (pc := 78) dm_X10_assemble_78 gf_X10_87 rfl rfl ?_
    exact G.xret (G.ireturn (pc := 81) dm_X10_assemble_81 rfl rfl rfl)
  · rw [eT]
    refine G.aaload (pc := 59) dm_X10_assemble_59 rfl ht4 (by rw [eT]) ?_
    refine G.getfield (pc := 60) dm_X10_assemble_60 gf_X10_84 rfl rfl ?_
    refine G.iload_n (pc := 63) dm_X10_assemble_63 rfl ?_
    refine G.aload_n (pc := 64) dm_X10_assemble_64 rfl ?_
    refine G.getfield (pc := 65) dm_X10_assemble_65 gf_X10_44 rfl rfl ?_
    refine G.getfield (pc := 68) dm_X10_assemble_68 gf_X10_87 rfl rfl ?_
    refine G.copyi (pc := 71) (a0 := 39) (a1 := 30) (ws1 := (w_C cycle mwheel mwords xlow xhigh xnum xstat xaddr xready xnext xret xregs (g_up xstore 3 (va_cpy r_10 (xstore 3) 0 (Int32.toNatClampNeg word) (Int32.toNatClampNeg r_0))) xhcount xhaddr xhcyc xhret xtims tlen tchars r_0 r_1 r_2 r_3 r_4 r_5 r_6 r_7 r_8 r_9 r_10 r_11 r_12 r_13 r_14 r_15 r_16 (.ref 37) r_17 r_18 r_19 r_20)) dm_X10_assemble_71 tw184 tw185 tw186 tw187 rfl rfl (by decide) hc2 hc1 (by rw [show Int32.toNatClampNeg 0 = 0 by decide]; omega) hn1 rfl rfl ?_
    refine G.aload_n (pc := 74) dm_X10_assemble_74 rfl ?_
    refine G.getfield (pc := 75) dm_X10_assemble_75 gf_X10_44 rfl rfl ?_
    refine G.getfield (pc := 78) dm_X10_assemble_78 gf_X10_87 rfl rfl ?_
    exact G.xret (G.ireturn (pc := 81) dm_X10_assemble_81 rfl rfl rfl)
set_option maxRecDepth 20000 in
theorem k_X10_assemble_b0 {thread : Int32} {word : Int32} {cycle : Int32} {mwheel : Int32} {mwords : Nat → Int32} {xlow : Nat → Int32} {xhigh : Nat → Int32} {xnum : Nat → Int32} {xstat : Nat → Int32} {xaddr : Nat → Int32} {xready : Nat → Int32} {xnext : Nat → Int32} {xret : Nat → Int32} {xregs : Nat → Nat → Int32} {xstore : Nat → Nat → Int32} {xhcount : Nat → Int32} {xhaddr : Nat → Nat → Int32} {xhcyc : Nat → Nat → Int32} {xhret : Nat → Nat → Int32} {xtims : Nat → Nat → Int32} {tlen : Int32} {tchars : Nat → Int32} {acount : Int32} {afk : Int32} {afl : Int32} {aat : Int32} {alabel : Int64} {ahas : Int32} {aword : Int32} {atarget : Int64} {amal : Int32} {amis : Int32} {awords : Nat → Int32} {atargets : Nat → Int64} {alines : Nat → Int32} {lcount : Int32} {lkeys : Nat → Int64} {lplaces : Nat → Int32} {kcount : Int32} {klen : Int32} {kat : Int32} {kinds : Nat → Int32} {kvals : Nat → Int64} (hb : ¬ f_X10_isStoreWord thread word = 0) (htl : 0 ≤ tlen.toInt ∧ tlen.toInt ≤ 400) (hch : q_ch kinds) {r_0 : Int32} {r_1 : Int32} {r_2 : Int32} {r_3 : Int32} {r_4 : Int64} {r_5 : Int32} {r_6 : Int32} {r_7 : Int64} {r_8 : Int32} {r_9 : Int32} {r_10 : Nat → Int32} {r_11 : Nat → Int64} {r_12 : Nat → Int32} {r_13 : Int32} {r_14 : Nat → Int64} {r_15 : Nat → Int32} {r_16 : Int32} {r_17 : Int32} {r_18 : Int32} {r_19 : Nat → Int32} {r_20 : Nat → Int64} (hres : (r_0, r_1, r_2, r_3, r_4, r_5, r_6, r_7, r_8, r_9, r_10, r_11, r_12, r_13, r_14, r_15, r_16, r_17, r_18, r_19, r_20) = f_X0_read word alabel ahas aword atarget amal amis awords atargets alines lkeys lplaces kinds kvals tchars tlen) (hf : ¬ r_1 = 0) : KX M_X10_assemble yX10_assemble [.ref 0, .int thread, .int word] (w_C cycle mwheel mwords xlow xhigh xnum xstat xaddr xready xnext xret xregs xstore xhcount xhaddr xhcyc xhret xtims tlen tchars acount afk afl aat alabel ahas aword atarget amal amis awords atargets alines lcount lkeys lplaces kcount .null klen kat kinds kvals) (.inr "java/lang/IllegalArgumentException") (w_C cycle mwheel mwords xlow xhigh xnum xstat xaddr xready xnext xret xregs xstore xhcount xhaddr xhcyc xhret xtims tlen tchars r_0 r_1 r_2 r_3 r_4 r_5 r_6 r_7 r_8 r_9 r_10 r_11 r_12 r_13 r_14 r_15 r_16 (.ref 37) r_17 r_18 r_19 r_20) := by
  refine KX.of (lv := [(0, .ref 0), (1, .int thread), (2, .int word)]) (by decide +kernel) rfl rfl rfl ?_
  refine G.iload_n (pc := 0) dm_X10_assemble_0 rfl ?_
  refine G.iload_n (pc := 1) dm_X10_assemble_1 rfl ?_
  obtain ⟨z1, hz1⟩ := g_ex1 (f_X10_isStoreWord thread word)
  refine G.callS (pc := 2) (rest := []) (st1 := [.int z1]) (ws1 := (w_C cycle mwheel mwords xlow xhigh xnum xstat xaddr xready xnext xret xregs xstore xhcount xhaddr xhcyc xhret xtims tlen tchars acount afk afl aat alabel ahas aword atarget amal amis awords atargets alines lcount lkeys lplaces kcount .null klen kat kinds kvals)) [] dm_X10_assemble_2 gc_X10_assemble_66 (k_X10_isStoreWord (thread := thread) (word := word) hz1) rfl rfl rfl rfl rfl rfl rfl rfl ?_
  have hsw := a_isSW hz1
  rw [← hz1] at hb
  refine G.if_ne (pc := 5) (tgt := 16) dm_X10_assemble_5 (by decide) (fun c5 => ?_) (fun c5 => absurd c5 hb)
  have hh := hsw c5
  refine G.aload_n (pc := 16) dm_X10_assemble_16 rfl ?_
  refine G.getfield (pc := 17) dm_X10_assemble_17 gf_X10_44 rfl rfl ?_
  refine G.aload_n (pc := 20) dm_X10_assemble_20 rfl ?_
  refine G.getfield (pc := 21) dm_X10_assemble_21 gf_X10_37 rfl rfl ?_
  refine G.iload_n (pc := 24) dm_X10_assemble_24 rfl ?_
  refine G.callV (pc := 25) (rest := []) (st1 := []) (ws1 := (w_C cycle mwheel mwords xlow xhigh xnum xstat xaddr xready xnext xret xregs xstore xhcount xhaddr xhcyc xhret xtims tlen tchars r_0 r_1 r_2 r_3 r_4 r_5 r_6 r_7 r_8 r_9 r_10 r_11 r_12 r_13 r_14 r_15 r_16 (.ref 37) r_17 r_18 r_19 r_20)) [38, 39, 40, 41, 42, 43, 44, 45, 46, 47, 37, 36] dm_X10_assemble_25 gc_X10_assemble_73 (k_X0_read_0 (firstWord := word) htl hch hres) rfl rfl rfl rfl rfl rfl rfl rfl rfl rfl ?_
  refine G.aload_n (pc := 28) dm_X10_assemble_28 rfl ?_
  refine G.getfield (pc := 29) dm_X10_assemble_29 gf_X10_44 rfl rfl ?_
  refine G.getfield (pc := 32) dm_X10_assemble_32 gf_X10_77 rfl rfl ?_
  refine G.if_eq (pc := 35) (tgt := 46) dm_X10_assemble_35 (by decide) (fun c => absurd c hf) (fun c => ?_)
  exact G.throw0 (pc := 38) rfl g_thr52 dm_X10_assemble_38 dm_X10_assemble_41 dm_X10_assemble_42 dm_X10_assemble_45 rfl rfl rfl
set_option maxRecDepth 20000 in
theorem k_X10_assemble_c0 {thread : Int32} {word : Int32} {cycle : Int32} {mwheel : Int32} {mwords : Nat → Int32} {xlow : Nat → Int32} {xhigh : Nat → Int32} {xnum : Nat → Int32} {xstat : Nat → Int32} {xaddr : Nat → Int32} {xready : Nat → Int32} {xnext : Nat → Int32} {xret : Nat → Int32} {xregs : Nat → Nat → Int32} {xstore : Nat → Nat → Int32} {xhcount : Nat → Int32} {xhaddr : Nat → Nat → Int32} {xhcyc : Nat → Nat → Int32} {xhret : Nat → Nat → Int32} {xtims : Nat → Nat → Int32} {tlen : Int32} {tchars : Nat → Int32} {acount : Int32} {afk : Int32} {afl : Int32} {aat : Int32} {alabel : Int64} {ahas : Int32} {aword : Int32} {atarget : Int64} {amal : Int32} {amis : Int32} {awords : Nat → Int32} {atargets : Nat → Int64} {alines : Nat → Int32} {lcount : Int32} {lkeys : Nat → Int64} {lplaces : Nat → Int32} {kcount : Int32} {klen : Int32} {kat : Int32} {kinds : Nat → Int32} {kvals : Nat → Int64} (hb : ¬ f_X10_isStoreWord thread word = 0) (htl : 0 ≤ tlen.toInt ∧ tlen.toInt ≤ 400) (hch : q_ch kinds) {r_0 : Int32} {r_1 : Int32} {r_2 : Int32} {r_3 : Int32} {r_4 : Int64} {r_5 : Int32} {r_6 : Int32} {r_7 : Int64} {r_8 : Int32} {r_9 : Int32} {r_10 : Nat → Int32} {r_11 : Nat → Int64} {r_12 : Nat → Int32} {r_13 : Int32} {r_14 : Nat → Int64} {r_15 : Nat → Int32} {r_16 : Int32} {r_17 : Int32} {r_18 : Int32} {r_19 : Nat → Int32} {r_20 : Nat → Int64} (hres : (r_0, r_1, r_2, r_3, r_4, r_5, r_6, r_7, r_8, r_9, r_10, r_11, r_12, r_13, r_14, r_15, r_16, r_17, r_18, r_19, r_20) = f_X0_read word alabel ahas aword atarget amal amis awords atargets alines lkeys lplaces kinds kvals tchars tlen) (hf : r_1 = 0) (hr0 : 0 ≤ r_0.toInt ∧ r_0.toInt ≤ 128 - word.toInt) : KX M_X10_assemble yX10_assemble [.ref 0, .int thread, .int word] (w_C cycle mwheel mwords xlow xhigh xnum xstat xaddr xready xnext xret xregs xstore xhcount xhaddr xhcyc xhret xtims tlen tchars acount afk afl aat alabel ahas aword atarget amal amis awords atargets alines lcount lkeys lplaces kcount .null klen kat kinds kvals) (.inl (some (.int r_0))) (w_C cycle mwheel mwords xlow xhigh xnum xstat xaddr xready xnext xret xregs (g_up xstore (Int32.toNatClampNeg thread) (va_cpy r_10 (xstore (Int32.toNatClampNeg thread)) 0 (Int32.toNatClampNeg word) (Int32.toNatClampNeg r_0))) xhcount xhaddr xhcyc xhret xtims tlen tchars r_0 r_1 r_2 r_3 r_4 r_5 r_6 r_7 r_8 r_9 r_10 r_11 r_12 r_13 r_14 r_15 r_16 (.ref 37) r_17 r_18 r_19 r_20) := by
  refine KX.of (lv := [(0, .ref 0), (1, .int thread), (2, .int word)]) (by decide +kernel) rfl rfl rfl ?_
  refine G.iload_n (pc := 0) dm_X10_assemble_0 rfl ?_
  refine G.iload_n (pc := 1) dm_X10_assemble_1 rfl ?_
  obtain ⟨z1, hz1⟩ := g_ex1 (f_X10_isStoreWord thread word)
  refine G.callS (pc := 2) (rest := []) (st1 := [.int z1]) (ws1 := (w_C cycle mwheel mwords xlow xhigh xnum xstat xaddr xready xnext xret xregs xstore xhcount xhaddr xhcyc xhret xtims tlen tchars acount afk afl aat alabel ahas aword atarget amal amis awords atargets alines lcount lkeys lplaces kcount .null klen kat kinds kvals)) [] dm_X10_assemble_2 gc_X10_assemble_66 (k_X10_isStoreWord (thread := thread) (word := word) hz1) rfl rfl rfl rfl rfl rfl rfl rfl ?_
  have hsw := a_isSW hz1
  rw [← hz1] at hb
  refine G.if_ne (pc := 5) (tgt := 16) dm_X10_assemble_5 (by decide) (fun c5 => ?_) (fun c5 => absurd c5 hb)
  have hh := hsw c5
  refine G.aload_n (pc := 16) dm_X10_assemble_16 rfl ?_
  refine G.getfield (pc := 17) dm_X10_assemble_17 gf_X10_44 rfl rfl ?_
  refine G.aload_n (pc := 20) dm_X10_assemble_20 rfl ?_
  refine G.getfield (pc := 21) dm_X10_assemble_21 gf_X10_37 rfl rfl ?_
  refine G.iload_n (pc := 24) dm_X10_assemble_24 rfl ?_
  refine G.callV (pc := 25) (rest := []) (st1 := []) (ws1 := (w_C cycle mwheel mwords xlow xhigh xnum xstat xaddr xready xnext xret xregs xstore xhcount xhaddr xhcyc xhret xtims tlen tchars r_0 r_1 r_2 r_3 r_4 r_5 r_6 r_7 r_8 r_9 r_10 r_11 r_12 r_13 r_14 r_15 r_16 (.ref 37) r_17 r_18 r_19 r_20)) [38, 39, 40, 41, 42, 43, 44, 45, 46, 47, 37, 36] dm_X10_assemble_25 gc_X10_assemble_73 (k_X0_read_0 (firstWord := word) htl hch hres) rfl rfl rfl rfl rfl rfl rfl rfl rfl rfl ?_
  refine G.aload_n (pc := 28) dm_X10_assemble_28 rfl ?_
  refine G.getfield (pc := 29) dm_X10_assemble_29 gf_X10_44 rfl rfl ?_
  refine G.getfield (pc := 32) dm_X10_assemble_32 gf_X10_77 rfl rfl ?_
  refine G.if_eq (pc := 35) (tgt := 46) dm_X10_assemble_35 (by decide) (fun c => ?_) (fun c => absurd hf c)
  have ht4 := q_t hh.1
  have hc1 : ¬ r_0 < 0 := q_geN hr0.1
  have hc2 : ¬ word < 0 := q_geN hh.2.1
  have hn0 : Int32.toNatClampNeg r_0 ≤ 128 := q_capN hr0.1 (by omega)
  have hn1 : Int32.toNatClampNeg word + Int32.toNatClampNeg r_0 ≤ 128 := q_capN2 hh.2.1 hr0.1 (by omega)
  refine G.aload_n (pc := 46) dm_X10_assemble_46 rfl ?_
  refine G.getfield (pc := 47) dm_X10_assemble_47 gf_X10_44 rfl rfl ?_
  refine G.getfield (pc := 50) dm_X10_assemble_50 gf_X10_80 rfl rfl ?_
  refine G.iconst (pc := 53) (v := (0 : Int32)) dm_X10_assemble_53 qi_0 ?_
  refine G.aload_n (pc := 54) dm_X10_assemble_54 rfl ?_
  refine G.getfield (pc := 55) dm_X10_assemble_55 gf_X10_29 rfl rfl ?_
  refine G.iload_n (pc := 58) dm_X10_assemble_58 rfl ?_
  rcases g_four ht4 with eT | eT | eT | eT
  · rw [eT]
    refine G.aaload (pc := 59) dm_X10_assemble_59 rfl ht4 (by rw [eT]) ?_
    refine G.getfield (pc := 60) dm_X10_assemble_60 gf_X10_84 rfl rfl ?_
    refine G.iload_n (pc := 63) dm_X10_assemble_63 rfl ?_
    refine G.aload_n (pc := 64) dm_X10_assemble_64 rfl ?_
    refine G.getfield (pc := 65) dm_X10_assemble_65 gf_X10_44 rfl rfl ?_
    refine G.getfield (pc := 68) dm_X10_assemble_68 gf_X10_87 rfl rfl ?_
    refine G.copyi (pc := 71) (a0 := 39) (a1 := 6) (ws1 := (w_C cycle mwheel mwords xlow xhigh xnum xstat xaddr xready xnext xret xregs (g_up xstore 0 (va_cpy r_10 (xstore 0) 0 (Int32.toNatClampNeg word) (Int32.toNatClampNeg r_0))) xhcount xhaddr xhcyc xhret xtims tlen tchars r_0 r_1 r_2 r_3 r_4 r_5 r_6 r_7 r_8 r_9 r_10 r_11 r_12 r_13 r_14 r_15 r_16 (.ref 37) r_17 r_18 r_19 r_20)) dm_X10_assemble_71 tw184 tw185 tw186 tw187 rfl rfl (by decide) hc2 hc1 (by rw [show Int32.toNatClampNeg 0 = 0 by decide]; omega) hn1 rfl rfl ?_
    refine G.aload_n (pc := 74) dm_X10_assemble_74 rfl ?_
    refine G.getfield (pc := 75) dm_X10_assemble_75 gf_X10_44 rfl rfl ?_
    refine G.getfield (pc := 78) dm_X10_assemble_78 gf_X10_87 rfl rfl ?_
    exact G.xret (G.ireturn (pc := 81) dm_X10_assemble_81 rfl rfl rfl)
  · rw [eT]
    refine G.aaload (pc := 59) dm_X10_assemble_59 rfl ht4 (by rw [eT]) ?_
    refine G.getfield (pc := 60) dm_X10_assemble_60 gf_X10_84 rfl rfl ?_
    refine G.iload_n (pc := 63) dm_X10_assemble_63 rfl ?_
    refine G.aload_n (pc := 64) dm_X10_assemble_64 rfl ?_
    refine G.getfield (pc := 65) dm_X10_assemble_65 gf_X10_44 rfl rfl ?_
    refine G.getfield (pc := 68) dm_X10_assemble_68 gf_X10_87 rfl rfl ?_
    refine G.copyi (pc := 71) (a0 := 39) (a1 := 14) (ws1 := (w_C cycle mwheel mwords xlow xhigh xnum xstat xaddr xready xnext xret xregs (g_up xstore 1 (va_cpy r_10 (xstore 1) 0 (Int32.toNatClampNeg word) (Int32.toNatClampNeg r_0))) xhcount xhaddr xhcyc xhret xtims tlen tchars r_0 r_1 r_2 r_3 r_4 r_5 r_6 r_7 r_8 r_9 r_10 r_11 r_12 r_13 r_14 r_15 r_16 (.ref 37) r_17 r_18 r_19 r_20)) dm_X10_assemble_71 tw184 tw185 tw186 tw187 rfl rfl (by decide) hc2 hc1 (by rw [show Int32.toNatClampNeg 0 = 0 by decide]; omega) hn1 rfl rfl ?_
    refine G.aload_n (pc := 74) dm_X10_assemble_74 rfl ?_
    refine G.getfield (pc := 75) dm_X10_assemble_75 gf_X10_44 rfl rfl ?_
    refine G.getfield (pc := 78) dm_X10_assemble_78 gf_X10_87 rfl rfl ?_
    exact G.xret (G.ireturn (pc := 81) dm_X10_assemble_81 rfl rfl rfl)
  · rw [eT]
    refine G.aaload (pc := 59) dm_X10_assemble_59 rfl ht4 (by rw [eT]) ?_
    refine G.getfield (pc := 60) dm_X10_assemble_60 gf_X10_84 rfl rfl ?_
    refine G.iload_n (pc := 63) dm_X10_assemble_63 rfl ?_
    refine G.aload_n (pc := 64) dm_X10_assemble_64 rfl ?_
    refine G.getfield (pc := 65) dm_X10_assemble_65 gf_X10_44 rfl rfl ?_
    refine G.getfield (pc := 68) dm_X10_assemble_68 gf_X10_87 rfl rfl ?_
    refine G.copyi (pc := 71) (a0 := 39) (a1 := 22) (ws1 := (w_C cycle mwheel mwords xlow xhigh xnum xstat xaddr xready xnext xret xregs (g_up xstore 2 (va_cpy r_10 (xstore 2) 0 (Int32.toNatClampNeg word) (Int32.toNatClampNeg r_0))) xhcount xhaddr xhcyc xhret xtims tlen tchars r_0 r_1 r_2 r_3 r_4 r_5 r_6 r_7 r_8 r_9 r_10 r_11 r_12 r_13 r_14 r_15 r_16 (.ref 37) r_17 r_18 r_19 r_20)) dm_X10_assemble_71 tw184 tw185 tw186 tw187 rfl rfl (by decide) hc2 hc1 (by rw [show Int32.toNatClampNeg 0 = 0 by decide]; omega) hn1 rfl rfl ?_
    refine G.aload_n (pc := 74) dm_X10_assemble_74 rfl ?_
    refine G.getfield (pc := 75) dm_X10_assemble_75 gf_X10_44 rfl rfl ?_
    refine G.getfield (pc := 78) dm_X10_assemble_78 gf_X10_87 rfl rfl ?_
    exact G.xret (G.ireturn (pc := 81) dm_X10_assemble_81 rfl rfl rfl)
  · rw [eT]
    refine G.aaload (pc := 59) dm_X10_assemble_59 rfl ht4 (by rw [eT]) ?_
    refine G.getfield (pc := 60) dm_X10_assemble_60 gf_X10_84 rfl rfl ?_
    refine G.iload_n (pc := 63) dm_X10_assemble_63 rfl ?_
    refine G.aload_n (pc := 64) dm_X10_assemble_64 rfl ?_
    refine G.getfield (pc := 65) dm_X10_assemble_65 gf_X10_44 rfl rfl ?_
    refine G.getfield (pc := 68) dm_X10_assemble_68 gf_X10_87 rfl rfl ?_
    refine G.copyi (pc := 71) (a0 := 39) (a1 := 30) (ws1 := (w_C cycle mwheel mwords xlow xhigh xnum xstat xaddr xready xnext xret xregs (g_up xstore 3 (va_cpy r_10 (xstore 3) 0 (Int32.toNatClampNeg word) (Int32.toNatClampNeg r_0))) xhcount xhaddr xhcyc xhret xtims tlen tchars r_0 r_1 r_2 r_3 r_4 r_5 r_6 r_7 r_8 r_9 r_10 r_11 r_12 r_13 r_14 r_15 r_16 (.ref 37) r_17 r_18 r_19 r_20)) dm_X10_assemble_71 tw184 tw185 tw186 tw187 rfl rfl (by decide) hc2 hc1 (by rw [show Int32.toNatClampNeg 0 = 0 by decide]; omega) hn1 rfl rfl ?_
    refine G.aload_n (pc := 74) dm_X10_assemble_74 rfl ?_
    refine G.getfield (pc := 75) dm_X10_assemble_75 gf_X10_44 rfl rfl ?_
    refine G.getfield (pc := 78) dm_X10_assemble_78 gf_X10_87 rfl rfl ?_
    exact G.xret (G.ireturn (pc := 81) dm_X10_assemble_81 rfl rfl rfl)
