abbrev M_X10_assemble : g_M := (cX10_assemble, 3, RX10, (some .int), { frames := 7, cells := 1, slots := 6, locals := 151 }, 1, 6)
theorem dm_X10_assemble_0 : decode M_X10_assemble.1 0 = .ok (.iload_n 1, 1) := by decide +kernel
theorem dm_X10_assemble_1 : decode M_X10_assemble.1 1 = .ok (.iload_n 2, 1) := by decide +kernel
theorem dm_X10_assemble_2 : decode M_X10_assemble.1 2 = .ok (.invokestatic 68, 3) := by decide +kernel
theorem dm_X10_assemble_5 : decode M_X10_assemble.1 5 = .ok (.ifCond .ne 11, 3) := by decide +kernel
theorem dm_X10_assemble_8 : decode M_X10_assemble.1 8 = .ok (.new 72, 3) := by decide +kernel
theorem dm_X10_assemble_11 : decode M_X10_assemble.1 11 = .ok (.dup, 1) := by decide +kernel
theorem dm_X10_assemble_12 : decode M_X10_assemble.1 12 = .ok (.invokespecial 74, 3) := by decide +kernel
theorem dm_X10_assemble_15 : decode M_X10_assemble.1 15 = .ok (.athrow, 1) := by decide +kernel
theorem dm_X10_assemble_16 : decode M_X10_assemble.1 16 = .ok (.aload_n 0, 1) := by decide +kernel
theorem dm_X10_assemble_17 : decode M_X10_assemble.1 17 = .ok (.getfield 46, 3) := by decide +kernel
theorem dm_X10_assemble_20 : decode M_X10_assemble.1 20 = .ok (.iload_n 2, 1) := by decide +kernel
theorem dm_X10_assemble_21 : decode M_X10_assemble.1 21 = .ok (.invokevirtual 75, 3) := by decide +kernel
theorem dm_X10_assemble_24 : decode M_X10_assemble.1 24 = .ok (.aload_n 0, 1) := by decide +kernel
theorem dm_X10_assemble_25 : decode M_X10_assemble.1 25 = .ok (.getfield 46, 3) := by decide +kernel
theorem dm_X10_assemble_28 : decode M_X10_assemble.1 28 = .ok (.getfield 78, 3) := by decide +kernel
theorem dm_X10_assemble_31 : decode M_X10_assemble.1 31 = .ok (.ifCond .eq 11, 3) := by decide +kernel
theorem dm_X10_assemble_34 : decode M_X10_assemble.1 34 = .ok (.new 54, 3) := by decide +kernel
theorem dm_X10_assemble_37 : decode M_X10_assemble.1 37 = .ok (.dup, 1) := by decide +kernel
theorem dm_X10_assemble_38 : decode M_X10_assemble.1 38 = .ok (.invokespecial 56, 3) := by decide +kernel
theorem dm_X10_assemble_41 : decode M_X10_assemble.1 41 = .ok (.athrow, 1) := by decide +kernel
theorem dm_X10_assemble_42 : decode M_X10_assemble.1 42 = .ok (.aload_n 0, 1) := by decide +kernel
theorem dm_X10_assemble_43 : decode M_X10_assemble.1 43 = .ok (.getfield 46, 3) := by decide +kernel
theorem dm_X10_assemble_46 : decode M_X10_assemble.1 46 = .ok (.getfield 81, 3) := by decide +kernel
theorem dm_X10_assemble_49 : decode M_X10_assemble.1 49 = .ok (.iconst 0, 1) := by decide +kernel
theorem dm_X10_assemble_50 : decode M_X10_assemble.1 50 = .ok (.aload_n 0, 1) := by decide +kernel
theorem dm_X10_assemble_51 : decode M_X10_assemble.1 51 = .ok (.getfield 29, 3) := by decide +kernel
theorem dm_X10_assemble_54 : decode M_X10_assemble.1 54 = .ok (.iload_n 1, 1) := by decide +kernel
theorem dm_X10_assemble_55 : decode M_X10_assemble.1 55 = .ok (.aaload, 1) := by decide +kernel
theorem dm_X10_assemble_56 : decode M_X10_assemble.1 56 = .ok (.getfield 85, 3) := by decide +kernel
theorem dm_X10_assemble_59 : decode M_X10_assemble.1 59 = .ok (.iload_n 2, 1) := by decide +kernel
theorem dm_X10_assemble_60 : decode M_X10_assemble.1 60 = .ok (.aload_n 0, 1) := by decide +kernel
theorem dm_X10_assemble_61 : decode M_X10_assemble.1 61 = .ok (.getfield 46, 3) := by decide +kernel
theorem dm_X10_assemble_64 : decode M_X10_assemble.1 64 = .ok (.getfield 88, 3) := by decide +kernel
theorem dm_X10_assemble_67 : decode M_X10_assemble.1 67 = .ok (.invokestatic 91, 3) := by decide +kernel
theorem dm_X10_assemble_70 : decode M_X10_assemble.1 70 = .ok (.aload_n 0, 1) := by decide +kernel
theorem dm_X10_assemble_71 : decode M_X10_assemble.1 71 = .ok (.getfield 46, 3) := by decide +kernel
theorem dm_X10_assemble_74 : decode M_X10_assemble.1 74 = .ok (.getfield 88, 3) := by decide +kernel
theorem dm_X10_assemble_77 : decode M_X10_assemble.1 77 = .ok (.ireturn, 1) := by decide +kernel
theorem gc_X10_assemble_68 : g_cs M_X10_assemble 68 M_X10_isStoreWord yX10_isStoreWord 2 := ⟨tw191, tw192, tw2, tw193, ⟨rfl, rfl, rfl, rfl⟩, gd_X10_isStoreWord, ⟨by decide, by decide⟩⟩
theorem gc_X10_assemble_75 : g_cv M_X10_assemble 75 M_X0_read yX0_read 1 := ⟨tw197, tw198, tw199, tw39, tw200, ⟨rfl, rfl, rfl, rfl⟩, gd_X0_read, ⟨by decide, by decide⟩⟩
theorem gd_X10_assemble : yX10_assemble.cls ≠ "java/lang/invoke/MethodHandle" ∧ yX10_assemble.cls ≠ "java/lang/invoke/VarHandle" ∧ (parseMethodDescriptor yX10_assemble.desc).map (fun d => d.parameters.length) = some 2 := ⟨by decide, by decide, by decide +kernel⟩
set_option maxRecDepth 20000 in
theorem k_X10_assemble_a {thread : Int32} {word : Int32} {cycle : Int32} {mwheel : Int32} {mwords : Nat → Int32} {xlow : Nat → Int32} {xhigh : Nat → Int32} {xnum : Nat → Int32} {xstat : Nat → Int32} {xaddr : Nat → Int32} {xready : Nat → Int32} {xnext : Nat → Int32} {xret : Nat → Int32} {xregs : Nat → Nat → Int32} {xstore : Nat → Nat → Int32} {xhcount : Nat → Int32} {xhaddr : Nat → Nat → Int32} {xhcyc : Nat → Nat → Int32} {xhret : Nat → Nat → Int32} {xtims : Nat → Nat → Int32} {tlen : Int32} {tchars : Nat → Int32} {acount : Int32} {afk : Int32} {afl : Int32} {aat : Int32} {alabel : Int64} {ahas : Int32} {aword : Int32} {atarget : Int64} {amal : Int32} {amis : Int32} {awords : Nat → Int32} {atargets : Nat → Int64} {alines : Nat → Int32} {lcount : Int32} {lkeys : Nat → Int64} {lplaces : Nat → Int32} {kcount : Int32} {kat : Int32} {kinds : Nat → Int32} {kvals : Nat → Int64} (hb : f_X10_isStoreWord thread word = 0) : KX M_X10_assemble yX10_assemble [.ref 0, .int thread, .int word] (w_C cycle mwheel mwords xlow xhigh xnum xstat xaddr xready xnext xret xregs xstore xhcount xhaddr xhcyc xhret xtims tlen tchars acount afk afl aat alabel ahas aword atarget amal amis awords atargets alines lcount lkeys lplaces kcount kat kinds kvals) (.inr "java/util/NoSuchElementException") (w_C cycle mwheel mwords xlow xhigh xnum xstat xaddr xready xnext xret xregs xstore xhcount xhaddr xhcyc xhret xtims tlen tchars acount afk afl aat alabel ahas aword atarget amal amis awords atargets alines lcount lkeys lplaces kcount kat kinds kvals) := by
  refine KX.of (lv := [(0, .ref 0), (1, .int thread), (2, .int word)]) (by decide +kernel) rfl rfl rfl ?_
  refine G.iload_n (pc := 0) dm_X10_assemble_0 rfl ?_
  refine G.iload_n (pc := 1) dm_X10_assemble_1 rfl ?_
  obtain ⟨z1, hz1⟩ := g_ex1 (f_X10_isStoreWord thread word)
  refine G.callS (pc := 2) (rest := []) (st1 := [.int z1]) (ws1 := (w_C cycle mwheel mwords xlow xhigh xnum xstat xaddr xready xnext xret xregs xstore xhcount xhaddr xhcyc xhret xtims tlen tchars acount afk afl aat alabel ahas aword atarget amal amis awords atargets alines lcount lkeys lplaces kcount kat kinds kvals)) [] dm_X10_assemble_2 gc_X10_assemble_68 (k_X10_isStoreWord (thread := thread) (word := word) hz1) rfl rfl rfl rfl rfl rfl rfl rfl ?_
  rw [← hz1] at hb
  refine G.if_ne (pc := 5) (tgt := 16) dm_X10_assemble_5 (by decide) (fun c5 => absurd hb c5) (fun c5 => ?_)
  exact G.throw0 (pc := 8) rfl g_thrN dm_X10_assemble_8 dm_X10_assemble_11 dm_X10_assemble_12 dm_X10_assemble_15 rfl rfl rfl
set_option maxRecDepth 20000 in
theorem k_X10_assemble_b {thread : Int32} {word : Int32} {cycle : Int32} {mwheel : Int32} {mwords : Nat → Int32} {xlow : Nat → Int32} {xhigh : Nat → Int32} {xnum : Nat → Int32} {xstat : Nat → Int32} {xaddr : Nat → Int32} {xready : Nat → Int32} {xnext : Nat → Int32} {xret : Nat → Int32} {xregs : Nat → Nat → Int32} {xstore : Nat → Nat → Int32} {xhcount : Nat → Int32} {xhaddr : Nat → Nat → Int32} {xhcyc : Nat → Nat → Int32} {xhret : Nat → Nat → Int32} {xtims : Nat → Nat → Int32} {tlen : Int32} {tchars : Nat → Int32} {acount : Int32} {afk : Int32} {afl : Int32} {aat : Int32} {alabel : Int64} {ahas : Int32} {aword : Int32} {atarget : Int64} {amal : Int32} {amis : Int32} {awords : Nat → Int32} {atargets : Nat → Int64} {alines : Nat → Int32} {lcount : Int32} {lkeys : Nat → Int64} {lplaces : Nat → Int32} {kcount : Int32} {kat : Int32} {kinds : Nat → Int32} {kvals : Nat → Int64} (hb : ¬ f_X10_isStoreWord thread word = 0) (htl : 0 ≤ tlen.toInt ∧ tlen.toInt ≤ 400) (hch : q_ch kinds) {r_0 : Int32} {r_1 : Int32} {r_2 : Int32} {r_3 : Int32} {r_4 : Int64} {r_5 : Int32} {r_6 : Int32} {r_7 : Int64} {r_8 : Int32} {r_9 : Int32} {r_10 : Nat → Int32} {r_11 : Nat → Int64} {r_12 : Nat → Int32} {r_13 : Int32} {r_14 : Nat → Int64} {r_15 : Nat → Int32} {r_16 : Int32} {r_17 : Int32} {r_18 : Nat → Int32} {r_19 : Nat → Int64} (hres : (r_0, r_1, r_2, r_3, r_4, r_5, r_6, r_7, r_8, r_9, r_10, r_11, r_12, r_13, r_14, r_15, r_16, r_17, r_18, r_19) = f_X0_read word alabel ahas aword atarget amal amis awords atargets alines lkeys lplaces tlen kinds kvals tchars) (hf : ¬ r_1 = 0) : KX M_X10_assemble yX10_assemble [.ref 0, .int thread, .int word] (w_C cycle mwheel mwords xlow xhigh xnum xstat xaddr xready xnext xret xregs xstore xhcount xhaddr xhcyc xhret xtims tlen tchars acount afk afl aat alabel ahas aword atarget amal amis awords atargets alines lcount lkeys lplaces kcount kat kinds kvals) (.inr "java/lang/IllegalArgumentException") (w_C cycle mwheel mwords xlow xhigh xnum xstat xaddr xready xnext xret xregs xstore xhcount xhaddr xhcyc xhret xtims tlen tchars r_0 r_1 r_2 r_3 r_4 r_5 r_6 r_7 r_8 r_9 r_10 r_11 r_12 r_13 r_14 r_15 r_16 r_17 r_18 r_19) := by
  refine KX.of (lv := [(0, .ref 0), (1, .int thread), (2, .int word)]) (by decide +kernel) rfl rfl rfl ?_
  refine G.iload_n (pc := 0) dm_X10_assemble_0 rfl ?_
  refine G.iload_n (pc := 1) dm_X10_assemble_1 rfl ?_
  obtain ⟨z1, hz1⟩ := g_ex1 (f_X10_isStoreWord thread word)
  refine G.callS (pc := 2) (rest := []) (st1 := [.int z1]) (ws1 := (w_C cycle mwheel mwords xlow xhigh xnum xstat xaddr xready xnext xret xregs xstore xhcount xhaddr xhcyc xhret xtims tlen tchars acount afk afl aat alabel ahas aword atarget amal amis awords atargets alines lcount lkeys lplaces kcount kat kinds kvals)) [] dm_X10_assemble_2 gc_X10_assemble_68 (k_X10_isStoreWord (thread := thread) (word := word) hz1) rfl rfl rfl rfl rfl rfl rfl rfl ?_
  have hsw := a_isSW hz1
  rw [← hz1] at hb
  refine G.if_ne (pc := 5) (tgt := 16) dm_X10_assemble_5 (by decide) (fun c5 => ?_) (fun c5 => absurd c5 hb)
  have hh := hsw c5
  refine G.aload_n (pc := 16) dm_X10_assemble_16 rfl ?_
  refine G.getfield (pc := 17) dm_X10_assemble_17 gf_X10_46 rfl rfl ?_
  refine G.iload_n (pc := 20) dm_X10_assemble_20 rfl ?_
  refine G.callV (pc := 21) (rest := []) (st1 := []) (ws1 := (w_C cycle mwheel mwords xlow xhigh xnum xstat xaddr xready xnext xret xregs xstore xhcount xhaddr xhcyc xhret xtims tlen tchars r_0 r_1 r_2 r_3 r_4 r_5 r_6 r_7 r_8 r_9 r_10 r_11 r_12 r_13 r_14 r_15 r_16 r_17 r_18 r_19)) [38, 39, 40, 41, 42, 43, 44, 45, 46, 47, 37, 36] dm_X10_assemble_21 gc_X10_assemble_75 (k_X0_read (firstWord := word) htl hch hres) rfl rfl rfl rfl rfl rfl rfl rfl rfl rfl ?_
  refine G.aload_n (pc := 24) dm_X10_assemble_24 rfl ?_
  refine G.getfield (pc := 25) dm_X10_assemble_25 gf_X10_46 rfl rfl ?_
  refine G.getfield (pc := 28) dm_X10_assemble_28 gf_X10_78 rfl rfl ?_
  refine G.if_eq (pc := 31) (tgt := 42) dm_X10_assemble_31 (by decide) (fun c => absurd c hf) (fun c => ?_)
  exact G.throw0 (pc := 34) rfl g_thrA dm_X10_assemble_34 dm_X10_assemble_37 dm_X10_assemble_38 dm_X10_assemble_41 rfl rfl rfl
set_option maxRecDepth 20000 in
theorem k_X10_assemble_c {thread : Int32} {word : Int32} {cycle : Int32} {mwheel : Int32} {mwords : Nat → Int32} {xlow : Nat → Int32} {xhigh : Nat → Int32} {xnum : Nat → Int32} {xstat : Nat → Int32} {xaddr : Nat → Int32} {xready : Nat → Int32} {xnext : Nat → Int32} {xret : Nat → Int32} {xregs : Nat → Nat → Int32} {xstore : Nat → Nat → Int32} {xhcount : Nat → Int32} {xhaddr : Nat → Nat → Int32} {xhcyc : Nat → Nat → Int32} {xhret : Nat → Nat → Int32} {xtims : Nat → Nat → Int32} {tlen : Int32} {tchars : Nat → Int32} {acount : Int32} {afk : Int32} {afl : Int32} {aat : Int32} {alabel : Int64} {ahas : Int32} {aword : Int32} {atarget : Int64} {amal : Int32} {amis : Int32} {awords : Nat → Int32} {atargets : Nat → Int64} {alines : Nat → Int32} {lcount : Int32} {lkeys : Nat → Int64} {lplaces : Nat → Int32} {kcount : Int32} {kat : Int32} {kinds : Nat → Int32} {kvals : Nat → Int64} (hb : ¬ f_X10_isStoreWord thread word = 0) (htl : 0 ≤ tlen.toInt ∧ tlen.toInt ≤ 400) (hch : q_ch kinds) {r_0 : Int32} {r_1 : Int32} {r_2 : Int32} {r_3 : Int32} {r_4 : Int64} {r_5 : Int32} {r_6 : Int32} {r_7 : Int64} {r_8 : Int32} {r_9 : Int32} {r_10 : Nat → Int32} {r_11 : Nat → Int64} {r_12 : Nat → Int32} {r_13 : Int32} {r_14 : Nat → Int64} {r_15 : Nat → Int32} {r_16 : Int32} {r_17 : Int32} {r_18 : Nat → Int32} {r_19 : Nat → Int64} (hres : (r_0, r_1, r_2, r_3, r_4, r_5, r_6, r_7, r_8, r_9, r_10, r_11, r_12, r_13, r_14, r_15, r_16, r_17, r_18, r_19) = f_X0_read word alabel ahas aword atarget amal amis awords atargets alines lkeys lplaces tlen kinds kvals tchars) (hf : r_1 = 0) (hr0 : 0 ≤ r_0.toInt ∧ r_0.toInt ≤ 128 - word.toInt) : KX M_X10_assemble yX10_assemble [.ref 0, .int thread, .int word] (w_C cycle mwheel mwords xlow xhigh xnum xstat xaddr xready xnext xret xregs xstore xhcount xhaddr xhcyc xhret xtims tlen tchars acount afk afl aat alabel ahas aword atarget amal amis awords atargets alines lcount lkeys lplaces kcount kat kinds kvals) (.inl (some (.int r_0))) (w_C cycle mwheel mwords xlow xhigh xnum xstat xaddr xready xnext xret xregs (g_up xstore (Int32.toNatClampNeg thread) (va_cpy r_10 (xstore (Int32.toNatClampNeg thread)) 0 (Int32.toNatClampNeg word) (Int32.toNatClampNeg r_0))) xhcount xhaddr xhcyc xhret xtims tlen tchars r_0 r_1 r_2 r_3 r_4 r_5 r_6 r_7 r_8 r_9 r_10 r_11 r_12 r_13 r_14 r_15 r_16 r_17 r_18 r_19) := by
  refine KX.of (lv := [(0, .ref 0), (1, .int thread), (2, .int word)]) (by decide +kernel) rfl rfl rfl ?_
  refine G.iload_n (pc := 0) dm_X10_assemble_0 rfl ?_
  refine G.iload_n (pc := 1) dm_X10_assemble_1 rfl ?_
  obtain ⟨z1, hz1⟩ := g_ex1 (f_X10_isStoreWord thread word)
  refine G.callS (pc := 2) (rest := []) (st1 := [.int z1]) (ws1 := (w_C cycle mwheel mwords xlow xhigh xnum xstat xaddr xready xnext xret xregs xstore xhcount xhaddr xhcyc xhret xtims tlen tchars acount afk afl aat alabel ahas aword atarget amal amis awords atargets alines lcount lkeys lplaces kcount kat kinds kvals)) [] dm_X10_assemble_2 gc_X10_assemble_68 (k_X10_isStoreWord (thread := thread) (word := word) hz1) rfl rfl rfl rfl rfl rfl rfl rfl ?_
  have hsw := a_isSW hz1
  rw [← hz1] at hb
  refine G.if_ne (pc := 5) (tgt := 16) dm_X10_assemble_5 (by decide) (fun c5 => ?_) (fun c5 => absurd c5 hb)
  have hh := hsw c5
  refine G.aload_n (pc := 16) dm_X10_assemble_16 rfl ?_
  refine G.getfield (pc := 17) dm_X10_assemble_17 gf_X10_46 rfl rfl ?_
  refine G.iload_n (pc := 20) dm_X10_assemble_20 rfl ?_
  refine G.callV (pc := 21) (rest := []) (st1 := []) (ws1 := (w_C cycle mwheel mwords xlow xhigh xnum xstat xaddr xready xnext xret xregs xstore xhcount xhaddr xhcyc xhret xtims tlen tchars r_0 r_1 r_2 r_3 r_4 r_5 r_6 r_7 r_8 r_9 r_10 r_11 r_12 r_13 r_14 r_15 r_16 r_17 r_18 r_19)) [38, 39, 40, 41, 42, 43, 44, 45, 46, 47, 37, 36] dm_X10_assemble_21 gc_X10_assemble_75 (k_X0_read (firstWord := word) htl hch hres) rfl rfl rfl rfl rfl rfl rfl rfl rfl rfl ?_
  refine G.aload_n (pc := 24) dm_X10_assemble_24 rfl ?_
  refine G.getfield (pc := 25) dm_X10_assemble_25 gf_X10_46 rfl rfl ?_
  refine G.getfield (pc := 28) dm_X10_assemble_28 gf_X10_78 rfl rfl ?_
  refine G.if_eq (pc := 31) (tgt := 42) dm_X10_assemble_31 (by decide) (fun c => ?_) (fun c => absurd hf c)
  have ht4 := q_t hh.1
  have hc1 : ¬ r_0 < 0 := q_geN hr0.1
  have hc2 : ¬ word < 0 := q_geN hh.2.1
  have hn0 : Int32.toNatClampNeg r_0 ≤ 128 := q_capN hr0.1 (by omega)
  have hn1 : Int32.toNatClampNeg word + Int32.toNatClampNeg r_0 ≤ 128 := q_capN2 hh.2.1 hr0.1 (by omega)
  refine G.aload_n (pc := 42) dm_X10_assemble_42 rfl ?_
  refine G.getfield (pc := 43) dm_X10_assemble_43 gf_X10_46 rfl rfl ?_
  refine G.getfield (pc := 46) dm_X10_assemble_46 gf_X10_81 rfl rfl ?_
  refine G.iconst (pc := 49) (v := (0 : Int32)) dm_X10_assemble_49 qi_0 ?_
  refine G.aload_n (pc := 50) dm_X10_assemble_50 rfl ?_
  refine G.getfield (pc := 51) dm_X10_assemble_51 gf_X10_29 rfl rfl ?_
  refine G.iload_n (pc := 54) dm_X10_assemble_54 rfl ?_
  rcases g_four ht4 with eT | eT | eT | eT
  · rw [eT]
    refine G.aaload (pc := 55) dm_X10_assemble_55 rfl ht4 (by rw [eT]) ?_
    refine G.getfield (pc := 56) dm_X10_assemble_56 gf_X10_85 rfl rfl ?_
    refine G.iload_n (pc := 59) dm_X10_assemble_59 rfl ?_
    refine G.aload_n (pc := 60) dm_X10_assemble_60 rfl ?_
    refine G.getfield (pc := 61) dm_X10_assemble_61 gf_X10_46 rfl rfl ?_
    refine G.getfield (pc := 64) dm_X10_assemble_64 gf_X10_88 rfl rfl ?_
    refine G.copyi (pc := 67) (a0 := 39) (a1 := 6) (ws1 := (w_C cycle mwheel mwords xlow xhigh xnum xstat xaddr xready xnext xret xregs (g_up xstore 0 (va_cpy r_10 (xstore 0) 0 (Int32.toNatClampNeg word) (Int32.toNatClampNeg r_0))) xhcount xhaddr xhcyc xhret xtims tlen tchars r_0 r_1 r_2 r_3 r_4 r_5 r_6 r_7 r_8 r_9 r_10 r_11 r_12 r_13 r_14 r_15 r_16 r_17 r_18 r_19)) dm_X10_assemble_67 tw187 tw188 tw189 tw190 rfl rfl (by decide) hc2 hc1 (by rw [show Int32.toNatClampNeg 0 = 0 by decide]; omega) hn1 rfl rfl ?_
    refine G.aload_n (pc := 70) dm_X10_assemble_70 rfl ?_
    refine G.getfield (pc := 71) dm_X10_assemble_71 gf_X10_46 rfl rfl ?_
    refine G.getfield (pc := 74) dm_X10_assemble_74 gf_X10_88 rfl rfl ?_
    exact G.xret (G.ireturn (pc := 77) dm_X10_assemble_77 rfl rfl rfl)
  · rw [eT]
    refine G.aaload (pc := 55) dm_X10_assemble_55 rfl ht4 (by rw [eT]) ?_
    refine G.getfield (pc := 56) dm_X10_assemble_56 gf_X10_85 rfl rfl ?_
    refine G.iload_n (pc := 59) dm_X10_assemble_59 rfl ?_
    refine G.aload_n (pc := 60) dm_X10_assemble_60 rfl ?_
    refine G.getfield (pc := 61) dm_X10_assemble_61 gf_X10_46 rfl rfl ?_
    refine G.getfield (pc := 64) dm_X10_assemble_64 gf_X10_88 rfl rfl ?_
    refine G.copyi (pc := 67) (a0 := 39) (a1 := 14) (ws1 := (w_C cycle mwheel mwords xlow xhigh xnum xstat xaddr xready xnext xret xregs (g_up xstore 1 (va_cpy r_10 (xstore 1) 0 (Int32.toNatClampNeg word) (Int32.toNatClampNeg r_0))) xhcount xhaddr xhcyc xhret xtims tlen tchars r_0 r_1 r_2 r_3 r_4 r_5 r_6 r_7 r_8 r_9 r_10 r_11 r_12 r_13 r_14 r_15 r_16 r_17 r_18 r_19)) dm_X10_assemble_67 tw187 tw188 tw189 tw190 rfl rfl (by decide) hc2 hc1 (by rw [show Int32.toNatClampNeg 0 = 0 by decide]; omega) hn1 rfl rfl ?_
    refine G.aload_n (pc := 70) dm_X10_assemble_70 rfl ?_
    refine G.getfield (pc := 71) dm_X10_assemble_71 gf_X10_46 rfl rfl ?_
    refine G.getfield (pc := 74) dm_X10_assemble_74 gf_X10_88 rfl rfl ?_
    exact G.xret (G.ireturn (pc := 77) dm_X10_assemble_77 rfl rfl rfl)
  · rw [eT]
    refine G.aaload (pc := 55) dm_X10_assemble_55 rfl ht4 (by rw [eT]) ?_
    refine G.getfield (pc := 56) dm_X10_assemble_56 gf_X10_85 rfl rfl ?_
    refine G.iload_n (pc := 59) dm_X10_assemble_59 rfl ?_
    refine G.aload_n (pc := 60) dm_X10_assemble_60 rfl ?_
    refine G.getfield (pc := 61) dm_X10_assemble_61 gf_X10_46 rfl rfl ?_
    refine G.getfield (pc := 64) dm_X10_assemble_64 gf_X10_88 rfl rfl ?_
    refine G.copyi (pc := 67) (a0 := 39) (a1 := 22) (ws1 := (w_C cycle mwheel mwords xlow xhigh xnum xstat xaddr xready xnext xret xregs (g_up xstore 2 (va_cpy r_10 (xstore 2) 0 (Int32.toNatClampNeg word) (Int32.toNatClampNeg r_0))) xhcount xhaddr xhcyc xhret xtims tlen tchars r_0 r_1 r_2 r_3 r_4 r_5 r_6 r_7 r_8 r_9 r_10 r_11 r_12 r_13 r_14 r_15 r_16 r_17 r_18 r_19)) dm_X10_assemble_67 tw187 tw188 tw189 tw190 rfl rfl (by decide) hc2 hc1 (by rw [show Int32.toNatClampNeg 0 = 0 by decide]; omega) hn1 rfl rfl ?_
    refine G.aload_n (pc := 70) dm_X10_assemble_70 rfl ?_
    refine G.getfield (pc := 71) dm_X10_assemble_71 gf_X10_46 rfl rfl ?_
    refine G.getfield (pc := 74) dm_X10_assemble_74 gf_X10_88 rfl rfl ?_
    exact G.xret (G.ireturn (pc := 77) dm_X10_assemble_77 rfl rfl rfl)
  · rw [eT]
    refine G.aaload (pc := 55) dm_X10_assemble_55 rfl ht4 (by rw [eT]) ?_
    refine G.getfield (pc := 56) dm_X10_assemble_56 gf_X10_85 rfl rfl ?_
    refine G.iload_n (pc := 59) dm_X10_assemble_59 rfl ?_
    refine G.aload_n (pc := 60) dm_X10_assemble_60 rfl ?_
    refine G.getfield (pc := 61) dm_X10_assemble_61 gf_X10_46 rfl rfl ?_
    refine G.getfield (pc := 64) dm_X10_assemble_64 gf_X10_88 rfl rfl ?_
    refine G.copyi (pc := 67) (a0 := 39) (a1 := 30) (ws1 := (w_C cycle mwheel mwords xlow xhigh xnum xstat xaddr xready xnext xret xregs (g_up xstore 3 (va_cpy r_10 (xstore 3) 0 (Int32.toNatClampNeg word) (Int32.toNatClampNeg r_0))) xhcount xhaddr xhcyc xhret xtims tlen tchars r_0 r_1 r_2 r_3 r_4 r_5 r_6 r_7 r_8 r_9 r_10 r_11 r_12 r_13 r_14 r_15 r_16 r_17 r_18 r_19)) dm_X10_assemble_67 tw187 tw188 tw189 tw190 rfl rfl (by decide) hc2 hc1 (by rw [show Int32.toNatClampNeg 0 = 0 by decide]; omega) hn1 rfl rfl ?_
    refine G.aload_n (pc := 70) dm_X10_assemble_70 rfl ?_
    refine G.getfield (pc := 71) dm_X10_assemble_71 gf_X10_46 rfl rfl ?_
    refine G.getfield (pc := 74) dm_X10_assemble_74 gf_X10_88 rfl rfl ?_
    exact G.xret (G.ireturn (pc := 77) dm_X10_assemble_77 rfl rfl rfl)
