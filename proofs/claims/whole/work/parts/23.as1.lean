def w_A (acount : Int32) (afk : Int32) (afl : Int32) (aat : Int32) (alabel : Int64) (ahas : Int32) (aword : Int32) (atarget : Int64) (amal : Int32) (amis : Int32) (awords : Nat → Int32) (atargets : Nat → Int64) (alines : Nat → Int32) (lcount : Int32) (lkeys : Nat → Int64) (lplaces : Nat → Int32) (kcount : Int32) (klen : Int32) (kat : Int32) (kinds : Nat → Int32) (kvals : Nat → Int64) (tchars : Nat → Int32) : List va_E := [.inr (0, [.ref 1, .int acount, .int afk, .int afl, .ref 2, .ref 3, .ref 4, .ref 7, .int aat, .long alabel, .int ahas, .int aword, .long atarget, .int amal, .int amis]), .inl (1, 128, .inl awords), .inl (2, 128, .inr (.inl atargets)), .inl (1, 128, .inl alines), .inr (2, [.int lcount, .ref 5, .ref 6]), .inl (2, 16, .inr (.inl lkeys)), .inl (1, 16, .inl lplaces), .inr (6, [.ref 8, .ref 9, .ref 11, .int kcount, .int kat]), .inl (0, 401, .inl kinds), .inl (2, 401, .inr (.inl kvals)), .inl (0, 400, .inl tchars), .inr (4, [.ref 10, .int klen])]
theorem q_l16 {x : Int32} (c : ¬ 16 ≤ x) : x.toInt < (16 : Nat) := by
  have h := q_nle c
  have h1 : (16 : Int32).toInt = 16 := by decide
  omega
theorem q_37 {x : Int32} (c : ¬ 37 ≤ x) : x.toInt < (37 : Nat) := by
  have h := q_nle c
  have h1 : (37 : Int32).toInt = 37 := by decide
  omega
theorem q_128 {x : Int32} (c : ¬ 128 ≤ x) : x.toInt < (128 : Nat) := by
  have h := q_nle c
  have h1 : (128 : Int32).toInt = 128 := by decide
  omega
theorem q_l400 {x : Int32} (c : ¬ 400 < x) : x.toInt ≤ 400 := by
  have h := q_nlt c
  have h1 : (400 : Int32).toInt = 400 := by decide
  omega
theorem q_cln {x : Int32} (h : 0 ≤ x.toInt) (h2 : x.toInt < 37) : x.toNatClampNeg < 37 := by
  rw [pk_cl x.toInt.toNat (q_nI h)]; omega
theorem q_cl37 {x : Int32} (h : 0 ≤ x.toInt) (c : ¬ 37 ≤ x) : x.toNatClampNeg < 37 := q_cln h (q_37 c)
theorem q_ms {i : Nat} (h : i < 37) : 1200 ≤ 1200 + m_str.getD i 0 ∧ 1200 + m_str.getD i 0 < 1212 := by
  have h9 : ∀ i : Fin 37, m_str.getD i.val 0 < 12 := by decide
  have h8 : m_str.getD i 0 < 12 := h9 ⟨i, h⟩
  omega
theorem q_sl {s : Nat} {z k : Int32} (hs : 1200 ≤ s ∧ s < 1212) (hz : z = f_J0_length_8abf5 s) (c : ¬ z ≤ k) : k.toInt < 6 := by
  have h6 := m_len6 (i := s - 1200) (by omega)
  have hn : (Int32.ofNat (m_len.getD (s - 1200) 0)).toInt = (m_len.getD (s - 1200) 0 : Int) := Int32.toInt_ofNat_of_lt (by omega)
  have h := q_nle c
  rw [hz, f_J0_length_8abf5, hn] at h
  omega
theorem q_si {s : Nat} {z k : Int32} (hs : 1200 ≤ s ∧ s < 1212) (h0 : 0 ≤ k.toInt) (hz : z = f_J0_length_8abf5 s) (c : ¬ z ≤ k) : vp_in k (m_len.getD (s - 1200) 0) := by
  have h6 := m_len6 (i := s - 1200) (by omega)
  have hn : (Int32.ofNat (m_len.getD (s - 1200) 0)).toInt = (m_len.getD (s - 1200) 0 : Int) := Int32.toInt_ofNat_of_lt (by omega)
  have h := q_nle c
  rw [hz, f_J0_length_8abf5, hn] at h
  exact q_in h0 h
theorem q_up16 {n : Int32} (hc : 0 ≤ n.toInt ∧ n.toInt ≤ 16) (c : ¬ 16 ≤ n) : 0 ≤ (n + 1).toInt ∧ (n + 1).toInt ≤ 16 := by
  have := q_l16 c
  rw [q_inc (by omega)]; omega
theorem q_up128 {n : Int32} (hc : 0 ≤ n.toInt ∧ n.toInt ≤ 128) (c : ¬ 128 ≤ n) : 0 ≤ (n + 1).toInt ∧ (n + 1).toInt ≤ 128 := by
  have := q_128 c
  rw [q_inc (by omega)]; omega
theorem gd_X3_add : yX3_add.cls ≠ "java/lang/invoke/MethodHandle" ∧ yX3_add.cls ≠ "java/lang/invoke/VarHandle" ∧ (parseMethodDescriptor yX3_add.desc).map (fun d => d.parameters.length) = some 2 := ⟨by decide, by decide, by decide +kernel⟩
theorem gd_X0_setFault : yX0_setFault.cls ≠ "java/lang/invoke/MethodHandle" ∧ yX0_setFault.cls ≠ "java/lang/invoke/VarHandle" ∧ (parseMethodDescriptor yX0_setFault.desc).map (fun d => d.parameters.length) = some 2 := ⟨by decide, by decide, by decide +kernel⟩
theorem gd_X0_fitted : yX0_fitted.cls ≠ "java/lang/invoke/MethodHandle" ∧ yX0_fitted.cls ≠ "java/lang/invoke/VarHandle" ∧ (parseMethodDescriptor yX0_fitted.desc).map (fun d => d.parameters.length) = some 3 := ⟨by decide, by decide, by decide +kernel⟩
theorem gd_X0_noteOdd : yX0_noteOdd.cls ≠ "java/lang/invoke/MethodHandle" ∧ yX0_noteOdd.cls ≠ "java/lang/invoke/VarHandle" ∧ (parseMethodDescriptor yX0_noteOdd.desc).map (fun d => d.parameters.length) = some 1 := ⟨by decide, by decide, by decide +kernel⟩
theorem gd_X0_kindOf : yX0_kindOf.cls ≠ "java/lang/invoke/MethodHandle" ∧ yX0_kindOf.cls ≠ "java/lang/invoke/VarHandle" ∧ (parseMethodDescriptor yX0_kindOf.desc).map (fun d => d.parameters.length) = some 1 := ⟨by decide, by decide, by decide +kernel⟩
theorem gd_X0_mnemonicOf : yX0_mnemonicOf.cls ≠ "java/lang/invoke/MethodHandle" ∧ yX0_mnemonicOf.cls ≠ "java/lang/invoke/VarHandle" ∧ (parseMethodDescriptor yX0_mnemonicOf.desc).map (fun d => d.parameters.length) = some 1 := ⟨by decide, by decide, by decide +kernel⟩
theorem gd_X0_putPiece : yX0_putPiece.cls ≠ "java/lang/invoke/MethodHandle" ∧ yX0_putPiece.cls ≠ "java/lang/invoke/VarHandle" ∧ (parseMethodDescriptor yX0_putPiece.desc).map (fun d => d.parameters.length) = some 2 := ⟨by decide, by decide, by decide +kernel⟩
theorem gd_X0_readPiece : yX0_readPiece.cls ≠ "java/lang/invoke/MethodHandle" ∧ yX0_readPiece.cls ≠ "java/lang/invoke/VarHandle" ∧ (parseMethodDescriptor yX0_readPiece.desc).map (fun d => d.parameters.length) = some 1 := ⟨by decide, by decide, by decide +kernel⟩
theorem gd_X0_readInstruction : yX0_readInstruction.cls ≠ "java/lang/invoke/MethodHandle" ∧ yX0_readInstruction.cls ≠ "java/lang/invoke/VarHandle" ∧ (parseMethodDescriptor yX0_readInstruction.desc).map (fun d => d.parameters.length) = some 1 := ⟨by decide, by decide, by decide +kernel⟩
theorem gd_X0_readLine : yX0_readLine.cls ≠ "java/lang/invoke/MethodHandle" ∧ yX0_readLine.cls ≠ "java/lang/invoke/VarHandle" ∧ (parseMethodDescriptor yX0_readLine.desc).map (fun d => d.parameters.length) = some 0 := ⟨by decide, by decide, by decide +kernel⟩
theorem gd_X0_faultOfLine : yX0_faultOfLine.cls ≠ "java/lang/invoke/MethodHandle" ∧ yX0_faultOfLine.cls ≠ "java/lang/invoke/VarHandle" ∧ (parseMethodDescriptor yX0_faultOfLine.desc).map (fun d => d.parameters.length) = some 1 := ⟨by decide, by decide, by decide +kernel⟩
theorem gd_X0_keepLine : yX0_keepLine.cls ≠ "java/lang/invoke/MethodHandle" ∧ yX0_keepLine.cls ≠ "java/lang/invoke/VarHandle" ∧ (parseMethodDescriptor yX0_keepLine.desc).map (fun d => d.parameters.length) = some 1 := ⟨by decide, by decide, by decide +kernel⟩
theorem gd_X0_resolveTargets : yX0_resolveTargets.cls ≠ "java/lang/invoke/MethodHandle" ∧ yX0_resolveTargets.cls ≠ "java/lang/invoke/VarHandle" ∧ (parseMethodDescriptor yX0_resolveTargets.desc).map (fun d => d.parameters.length) = some 0 := ⟨by decide, by decide, by decide +kernel⟩
theorem gd_X0_read : yX0_read.cls ≠ "java/lang/invoke/MethodHandle" ∧ yX0_read.cls ≠ "java/lang/invoke/VarHandle" ∧ (parseMethodDescriptor yX0_read.desc).map (fun d => d.parameters.length) = some 1 := ⟨by decide, by decide, by decide +kernel⟩
abbrev M_X3_add : g_M := (cX3_add, 4, RX3, none, { frames := 0, cells := 0, slots := 0, locals := 0 }, 0, 0)
theorem dm_X3_add_0 : decode M_X3_add.1 0 = .ok (.aload_n 0, 1) := by decide +kernel
theorem dm_X3_add_1 : decode M_X3_add.1 1 = .ok (.getfield 19, 3) := by decide +kernel
theorem dm_X3_add_4 : decode M_X3_add.1 4 = .ok (.bipush 16, 2) := by decide +kernel
theorem dm_X3_add_6 : decode M_X3_add.1 6 = .ok (.if_icmp .ge 33, 3) := by decide +kernel
theorem dm_X3_add_9 : decode M_X3_add.1 9 = .ok (.aload_n 0, 1) := by decide +kernel
theorem dm_X3_add_10 : decode M_X3_add.1 10 = .ok (.getfield 9, 3) := by decide +kernel
theorem dm_X3_add_13 : decode M_X3_add.1 13 = .ok (.aload_n 0, 1) := by decide +kernel
theorem dm_X3_add_14 : decode M_X3_add.1 14 = .ok (.getfield 19, 3) := by decide +kernel
theorem dm_X3_add_17 : decode M_X3_add.1 17 = .ok (.lload_n 1, 1) := by decide +kernel
theorem dm_X3_add_18 : decode M_X3_add.1 18 = .ok (.lastore, 1) := by decide +kernel
theorem dm_X3_add_19 : decode M_X3_add.1 19 = .ok (.aload_n 0, 1) := by decide +kernel
theorem dm_X3_add_20 : decode M_X3_add.1 20 = .ok (.getfield 15, 3) := by decide +kernel
theorem dm_X3_add_23 : decode M_X3_add.1 23 = .ok (.aload_n 0, 1) := by decide +kernel
theorem dm_X3_add_24 : decode M_X3_add.1 24 = .ok (.getfield 19, 3) := by decide +kernel
theorem dm_X3_add_27 : decode M_X3_add.1 27 = .ok (.iload_n 3, 1) := by decide +kernel
theorem dm_X3_add_28 : decode M_X3_add.1 28 = .ok (.iastore, 1) := by decide +kernel
theorem dm_X3_add_29 : decode M_X3_add.1 29 = .ok (.aload_n 0, 1) := by decide +kernel
theorem dm_X3_add_30 : decode M_X3_add.1 30 = .ok (.dup, 1) := by decide +kernel
theorem dm_X3_add_31 : decode M_X3_add.1 31 = .ok (.getfield 19, 3) := by decide +kernel
theorem dm_X3_add_34 : decode M_X3_add.1 34 = .ok (.iconst 1, 1) := by decide +kernel
theorem dm_X3_add_35 : decode M_X3_add.1 35 = .ok (.iadd, 1) := by decide +kernel
theorem dm_X3_add_36 : decode M_X3_add.1 36 = .ok (.putfield 19, 3) := by decide +kernel
theorem dm_X3_add_39 : decode M_X3_add.1 39 = .ok (.return_, 1) := by decide +kernel
def f_X3_add (key : Int64) (place : Int32) (lcount : Int32) (lkeys : Nat → Int64) (lplaces : Nat → Int32) : Int32 × (Nat → Int64) × (Nat → Int32) := (if (16 : Int32) ≤ lcount then (lcount, lkeys, lplaces) else ((lcount + (1 : Int32)), (vp_updL lkeys (Int32.toNatClampNeg lcount) key), (upd lplaces (Int32.toNatClampNeg lcount) place)))
set_option maxRecDepth 20000 in
theorem k_X3_add {key : Int64} {place : Int32} {lcount : Int32} {lkeys : Nat → Int64} {lplaces : Nat → Int32} (hlc : 0 ≤ lcount.toInt ∧ lcount.toInt ≤ 16) {r_0 : Int32} {r_1 : (Nat → Int64)} {r_2 : (Nat → Int32)} (hres : (r_0, r_1, r_2) = f_X3_add key place lcount lkeys lplaces) : K M_X3_add yX3_add [.ref 0, .long key, .int place] (w_L lcount lkeys lplaces) (none) (w_L r_0 r_1 r_2) := by
  refine K.of (lv := [(0, .ref 0), (1, .long key), (3, .int place)]) (by decide +kernel) rfl rfl rfl ?_
  rw [f_X3_add] at hres
  refine G.aload_n (pc := 0) dm_X3_add_0 rfl ?_
  refine G.getfield (pc := 1) dm_X3_add_1 gf_X3_19 rfl rfl ?_
  refine G.bipush (pc := 4) (v := (16 : Int32)) dm_X3_add_4 qb_16 ?_
  refine G.icmp_ge (pc := 6) (tgt := 39) dm_X3_add_6 (by decide) (fun c6 => ?_) (fun c6 => ?_)
  · rw [if_pos c6] at hres
    cases hres
    exact G.vreturn (pc := 39) dm_X3_add_39 rfl rfl rfl
  · rw [if_neg c6] at hres
    refine G.aload_n (pc := 9) dm_X3_add_9 rfl ?_
    refine G.getfield (pc := 10) dm_X3_add_10 gf_X3_9 rfl rfl ?_
    refine G.aload_n (pc := 13) dm_X3_add_13 rfl ?_
    refine G.getfield (pc := 14) dm_X3_add_14 gf_X3_19 rfl rfl ?_
    refine G.lload_n (pc := 17) dm_X3_add_17 rfl ?_
    refine G.lastore (pc := 18) (ws1 := (w_L lcount (vp_updL lkeys (Int32.toNatClampNeg lcount) key) lplaces)) dm_X3_add_18 rfl (q_in hlc.1 (q_l16 c6)) rfl ?_
    refine G.aload_n (pc := 19) dm_X3_add_19 rfl ?_
    refine G.getfield (pc := 20) dm_X3_add_20 gf_X3_15 rfl rfl ?_
    refine G.aload_n (pc := 23) dm_X3_add_23 rfl ?_
    refine G.getfield (pc := 24) dm_X3_add_24 gf_X3_19 rfl rfl ?_
    refine G.iload_n (pc := 27) dm_X3_add_27 rfl ?_
    refine G.iastore (pc := 28) (ws1 := (w_L lcount (vp_updL lkeys (Int32.toNatClampNeg lcount) key) (upd lplaces (Int32.toNatClampNeg lcount) place))) dm_X3_add_28 rfl (q_in hlc.1 (q_l16 c6)) rfl ?_
    refine G.aload_n (pc := 29) dm_X3_add_29 rfl ?_
    refine G.dup (pc := 30) dm_X3_add_30 rfl ?_
    refine G.getfield (pc := 31) dm_X3_add_31 gf_X3_19 rfl rfl ?_
    refine G.iconst (pc := 34) (v := (1 : Int32)) dm_X3_add_34 qi_1 ?_
    refine G.iadd (pc := 35) dm_X3_add_35 ?_
    refine G.putfield (pc := 36) (ws1 := (w_L (lcount + (1 : Int32)) (vp_updL lkeys (Int32.toNatClampNeg lcount) key) (upd lplaces (Int32.toNatClampNeg lcount) place))) dm_X3_add_36 gw_X3_19 rfl (g_fit_i _) rfl rfl ?_
    cases hres
    exact G.vreturn (pc := 39) dm_X3_add_39 rfl rfl rfl
theorem a_X3_add {key : Int64} {place : Int32} {lcount : Int32} {lkeys : Nat → Int64} {lplaces : Nat → Int32} {r_0 : Int32} {r_1 : (Nat → Int64)} {r_2 : (Nat → Int32)} (hres : (r_0, r_1, r_2) = f_X3_add key place lcount lkeys lplaces) (hlc : 0 ≤ lcount.toInt ∧ lcount.toInt ≤ 16) : 0 ≤ r_0.toInt ∧ r_0.toInt ≤ 16 := by
  rw [f_X3_add] at hres
  by_cases c6 : (16 : Int32) ≤ lcount
  · rw [if_pos c6] at hres
    cases hres
    exact (by first | exact hlc | exact q_up16 hlc c6)
  · rw [if_neg c6] at hres
    cases hres
    exact (by first | exact hlc | exact q_up16 hlc c6)
abbrev M_X0_setFault : g_M := (cX0_setFault, 3, RX0, none, { frames := 0, cells := 0, slots := 0, locals := 0 }, 0, 0)
theorem dm_X0_setFault_0 : decode M_X0_setFault.1 0 = .ok (.aload_n 0, 1) := by decide +kernel
theorem dm_X0_setFault_1 : decode M_X0_setFault.1 1 = .ok (.iload_n 1, 1) := by decide +kernel
theorem dm_X0_setFault_2 : decode M_X0_setFault.1 2 = .ok (.putfield 49, 3) := by decide +kernel
theorem dm_X0_setFault_5 : decode M_X0_setFault.1 5 = .ok (.aload_n 0, 1) := by decide +kernel
theorem dm_X0_setFault_6 : decode M_X0_setFault.1 6 = .ok (.iload_n 2, 1) := by decide +kernel
theorem dm_X0_setFault_7 : decode M_X0_setFault.1 7 = .ok (.putfield 52, 3) := by decide +kernel
theorem dm_X0_setFault_10 : decode M_X0_setFault.1 10 = .ok (.return_, 1) := by decide +kernel
def f_X0_setFault (kind : Int32) (line : Int32) : Int32 × Int32 := (kind, line)
set_option maxRecDepth 20000 in
theorem k_X0_setFault {kind : Int32} {line : Int32} {acount : Int32} {afk : Int32} {afl : Int32} {aat : Int32} {alabel : Int64} {ahas : Int32} {aword : Int32} {atarget : Int64} {amal : Int32} {amis : Int32} {awords : Nat → Int32} {atargets : Nat → Int64} {alines : Nat → Int32} {lcount : Int32} {lkeys : Nat → Int64} {lplaces : Nat → Int32} {kcount : Int32} {klen : Int32} {kat : Int32} {kinds : Nat → Int32} {kvals : Nat → Int64} {tchars : Nat → Int32} {r_0 : Int32} {r_1 : Int32} (hres : (r_0, r_1) = f_X0_setFault kind line) : K M_X0_setFault yX0_setFault [.ref 0, .int kind, .int line] (w_A acount afk afl aat alabel ahas aword atarget amal amis awords atargets alines lcount lkeys lplaces kcount klen kat kinds kvals tchars) (none) (w_A acount r_0 r_1 aat alabel ahas aword atarget amal amis awords atargets alines lcount lkeys lplaces kcount klen kat kinds kvals tchars) := by
  refine K.of (lv := [(0, .ref 0), (1, .int kind), (2, .int line)]) (by decide +kernel) rfl rfl rfl ?_
  rw [f_X0_setFault] at hres
  refine G.aload_n (pc := 0) dm_X0_setFault_0 rfl ?_
  refine G.iload_n (pc := 1) dm_X0_setFault_1 rfl ?_
  refine G.putfield (pc := 2) (ws1 := (w_A acount kind afl aat alabel ahas aword atarget amal amis awords atargets alines lcount lkeys lplaces kcount klen kat kinds kvals tchars)) dm_X0_setFault_2 gw_X0_49 rfl (g_fit_i _) rfl rfl ?_
  refine G.aload_n (pc := 5) dm_X0_setFault_5 rfl ?_
  refine G.iload_n (pc := 6) dm_X0_setFault_6 rfl ?_
  refine G.putfield (pc := 7) (ws1 := (w_A acount kind line aat alabel ahas aword atarget amal amis awords atargets alines lcount lkeys lplaces kcount klen kat kinds kvals tchars)) dm_X0_setFault_7 gw_X0_52 rfl (g_fit_i _) rfl rfl ?_
  cases hres
  exact G.vreturn (pc := 10) dm_X0_setFault_10 rfl rfl rfl
abbrev M_X0_fitted : g_M := (cX0_fitted, 7, RX0, (some .int), { frames := 0, cells := 0, slots := 0, locals := 0 }, 0, 0)
theorem dm_X0_fitted_0 : decode M_X0_fitted.1 0 = .ok (.lload_n 1, 1) := by decide +kernel
theorem dm_X0_fitted_1 : decode M_X0_fitted.1 1 = .ok (.lload_n 3, 1) := by decide +kernel
theorem dm_X0_fitted_2 : decode M_X0_fitted.1 2 = .ok (.lcmp, 1) := by decide +kernel
theorem dm_X0_fitted_3 : decode M_X0_fitted.1 3 = .ok (.ifCond .lt 10, 3) := by decide +kernel
theorem dm_X0_fitted_6 : decode M_X0_fitted.1 6 = .ok (.lload_n 1, 1) := by decide +kernel
theorem dm_X0_fitted_7 : decode M_X0_fitted.1 7 = .ok (.lload 5, 2) := by decide +kernel
theorem dm_X0_fitted_9 : decode M_X0_fitted.1 9 = .ok (.lcmp, 1) := by decide +kernel
theorem dm_X0_fitted_10 : decode M_X0_fitted.1 10 = .ok (.ifCond .le 8, 3) := by decide +kernel
theorem dm_X0_fitted_13 : decode M_X0_fitted.1 13 = .ok (.aload_n 0, 1) := by decide +kernel
theorem dm_X0_fitted_14 : decode M_X0_fitted.1 14 = .ok (.iconst 1, 1) := by decide +kernel
theorem dm_X0_fitted_15 : decode M_X0_fitted.1 15 = .ok (.putfield 94, 3) := by decide +kernel
theorem dm_X0_fitted_18 : decode M_X0_fitted.1 18 = .ok (.lload_n 1, 1) := by decide +kernel
theorem dm_X0_fitted_19 : decode M_X0_fitted.1 19 = .ok (.l2i, 1) := by decide +kernel
theorem dm_X0_fitted_20 : decode M_X0_fitted.1 20 = .ok (.ireturn, 1) := by decide +kernel
def f_X0_fitted (value : Int64) (low : Int64) (high : Int64) (amis : Int32) : Int32 × Int32 := (if (lg_cmp value low) < 0 then ((Int64.toInt32 value), (1 : Int32)) else (if (lg_cmp value high) ≤ 0 then ((Int64.toInt32 value), amis) else ((Int64.toInt32 value), (1 : Int32))))
set_option maxRecDepth 20000 in
theorem k_X0_fitted {value : Int64} {low : Int64} {high : Int64} {acount : Int32} {afk : Int32} {afl : Int32} {aat : Int32} {alabel : Int64} {ahas : Int32} {aword : Int32} {atarget : Int64} {amal : Int32} {amis : Int32} {awords : Nat → Int32} {atargets : Nat → Int64} {alines : Nat → Int32} {lcount : Int32} {lkeys : Nat → Int64} {lplaces : Nat → Int32} {kcount : Int32} {klen : Int32} {kat : Int32} {kinds : Nat → Int32} {kvals : Nat → Int64} {tchars : Nat → Int32} {r_0 : Int32} {r_1 : Int32} (hres : (r_0, r_1) = f_X0_fitted value low high amis) : K M_X0_fitted yX0_fitted [.ref 0, .long value, .long low, .long high] (w_A acount afk afl aat alabel ahas aword atarget amal amis awords atargets alines lcount lkeys lplaces kcount klen kat kinds kvals tchars) (some (.int r_0)) (w_A acount afk afl aat alabel ahas aword atarget amal r_1 awords atargets alines lcount lkeys lplaces kcount klen kat kinds kvals tchars) := by
  refine K.of (lv := [(0, .ref 0), (1, .long value), (3, .long low), (5, .long high)]) (by decide +kernel) rfl rfl rfl ?_
  rw [f_X0_fitted] at hres
  refine G.lload_n (pc := 0) dm_X0_fitted_0 rfl ?_
  refine G.lload_n (pc := 1) dm_X0_fitted_1 rfl ?_
  refine G.lcmp (pc := 2) dm_X0_fitted_2 ?_
  refine G.if_lt (pc := 3) (tgt := 13) dm_X0_fitted_3 (by decide) (fun c3 => ?_) (fun c3 => ?_)
  · rw [if_pos c3] at hres
    refine G.aload_n (pc := 13) dm_X0_fitted_13 rfl ?_
    refine G.iconst (pc := 14) (v := (1 : Int32)) dm_X0_fitted_14 qi_1 ?_
    refine G.putfield (pc := 15) (ws1 := (w_A acount afk afl aat alabel ahas aword atarget amal (1 : Int32) awords atargets alines lcount lkeys lplaces kcount klen kat kinds kvals tchars)) dm_X0_fitted_15 gw_X0_94 rfl (g_fit_z (Or.inr rfl)) rfl rfl ?_
    refine G.lload_n (pc := 18) dm_X0_fitted_18 rfl ?_
    refine G.l2i (pc := 19) dm_X0_fitted_19 ?_
    cases hres
    exact G.ireturn (pc := 20) dm_X0_fitted_20 rfl rfl rfl
  · rw [if_neg c3] at hres
    refine G.lload_n (pc := 6) dm_X0_fitted_6 rfl ?_
    refine G.lload (pc := 7) dm_X0_fitted_7 rfl ?_
    refine G.lcmp (pc := 9) dm_X0_fitted_9 ?_
    refine G.if_le (pc := 10) (tgt := 18) dm_X0_fitted_10 (by decide) (fun c10 => ?_) (fun c10 => ?_)
    · rw [if_pos c10] at hres
      refine G.lload_n (pc := 18) dm_X0_fitted_18 rfl ?_
      refine G.l2i (pc := 19) dm_X0_fitted_19 ?_
      cases hres
      exact G.ireturn (pc := 20) dm_X0_fitted_20 rfl rfl rfl
    · rw [if_neg c10] at hres
      refine G.aload_n (pc := 13) dm_X0_fitted_13 rfl ?_
      refine G.iconst (pc := 14) (v := (1 : Int32)) dm_X0_fitted_14 qi_1 ?_
      refine G.putfield (pc := 15) (ws1 := (w_A acount afk afl aat alabel ahas aword atarget amal (1 : Int32) awords atargets alines lcount lkeys lplaces kcount klen kat kinds kvals tchars)) dm_X0_fitted_15 gw_X0_94 rfl (g_fit_z (Or.inr rfl)) rfl rfl ?_
      refine G.lload_n (pc := 18) dm_X0_fitted_18 rfl ?_
      refine G.l2i (pc := 19) dm_X0_fitted_19 ?_
      cases hres
      exact G.ireturn (pc := 20) dm_X0_fitted_20 rfl rfl rfl
abbrev M_X0_noteOdd : g_M := (cX0_noteOdd, 3, RX0, none, { frames := 0, cells := 0, slots := 0, locals := 0 }, 0, 0)
theorem dm_X0_noteOdd_0 : decode M_X0_noteOdd.1 0 = .ok (.lload_n 1, 1) := by decide +kernel
theorem dm_X0_noteOdd_1 : decode M_X0_noteOdd.1 1 = .ok (.lconst 1, 1) := by decide +kernel
theorem dm_X0_noteOdd_2 : decode M_X0_noteOdd.1 2 = .ok (.land, 1) := by decide +kernel
theorem dm_X0_noteOdd_3 : decode M_X0_noteOdd.1 3 = .ok (.lconst 0, 1) := by decide +kernel
theorem dm_X0_noteOdd_4 : decode M_X0_noteOdd.1 4 = .ok (.lcmp, 1) := by decide +kernel
theorem dm_X0_noteOdd_5 : decode M_X0_noteOdd.1 5 = .ok (.ifCond .eq 8, 3) := by decide +kernel
theorem dm_X0_noteOdd_8 : decode M_X0_noteOdd.1 8 = .ok (.aload_n 0, 1) := by decide +kernel
theorem dm_X0_noteOdd_9 : decode M_X0_noteOdd.1 9 = .ok (.iconst 1, 1) := by decide +kernel
theorem dm_X0_noteOdd_10 : decode M_X0_noteOdd.1 10 = .ok (.putfield 94, 3) := by decide +kernel
theorem dm_X0_noteOdd_13 : decode M_X0_noteOdd.1 13 = .ok (.return_, 1) := by decide +kernel
def f_X0_noteOdd (value : Int64) (amis : Int32) : Int32 := (if (lg_cmp (value &&& (1 : Int64)) (0 : Int64)) = 0 then amis else (1 : Int32))
set_option maxRecDepth 20000 in
theorem k_X0_noteOdd {value : Int64} {acount : Int32} {afk : Int32} {afl : Int32} {aat : Int32} {alabel : Int64} {ahas : Int32} {aword : Int32} {atarget : Int64} {amal : Int32} {amis : Int32} {awords : Nat → Int32} {atargets : Nat → Int64} {alines : Nat → Int32} {lcount : Int32} {lkeys : Nat → Int64} {lplaces : Nat → Int32} {kcount : Int32} {klen : Int32} {kat : Int32} {kinds : Nat → Int32} {kvals : Nat → Int64} {tchars : Nat → Int32} {r_0 : Int32} (hres : r_0 = f_X0_noteOdd value amis) : K M_X0_noteOdd yX0_noteOdd [.ref 0, .long value] (w_A acount afk afl aat alabel ahas aword atarget amal amis awords atargets alines lcount lkeys lplaces kcount klen kat kinds kvals tchars) (none) (w_A acount afk afl aat alabel ahas aword atarget amal r_0 awords atargets alines lcount lkeys lplaces kcount klen kat kinds kvals tchars) := by
  refine K.of (lv := [(0, .ref 0), (1, .long value)]) (by decide +kernel) rfl rfl rfl ?_
  rw [f_X0_noteOdd] at hres
  refine G.lload_n (pc := 0) dm_X0_noteOdd_0 rfl ?_
  refine G.lconst (pc := 1) (v := (1 : Int64)) dm_X0_noteOdd_1 (by decide) ?_
  refine G.land (pc := 2) dm_X0_noteOdd_2 ?_
  refine G.lconst (pc := 3) (v := (0 : Int64)) dm_X0_noteOdd_3 (by decide) ?_
  refine G.lcmp (pc := 4) dm_X0_noteOdd_4 ?_
  refine G.if_eq (pc := 5) (tgt := 13) dm_X0_noteOdd_5 (by decide) (fun c5 => ?_) (fun c5 => ?_)
  · rw [if_pos c5] at hres
    subst hres
    exact G.vreturn (pc := 13) dm_X0_noteOdd_13 rfl rfl rfl
  · rw [if_neg c5] at hres
    refine G.aload_n (pc := 8) dm_X0_noteOdd_8 rfl ?_
    refine G.iconst (pc := 9) (v := (1 : Int32)) dm_X0_noteOdd_9 qi_1 ?_
    refine G.putfield (pc := 10) (ws1 := (w_A acount afk afl aat alabel ahas aword atarget amal (1 : Int32) awords atargets alines lcount lkeys lplaces kcount klen kat kinds kvals tchars)) dm_X0_noteOdd_10 gw_X0_94 rfl (g_fit_z (Or.inr rfl)) rfl rfl ?_
    subst hres
    exact G.vreturn (pc := 13) dm_X0_noteOdd_13 rfl rfl rfl
abbrev M_X0_kindOf : g_M := (cX0_kindOf, 1, RX0, (some .char), { frames := 0, cells := 0, slots := 0, locals := 0 }, 0, 0)
theorem dm_X0_kindOf_0 : decode M_X0_kindOf.1 0 = .ok (.iload_n 0, 1) := by decide +kernel
theorem dm_X0_kindOf_1 : decode M_X0_kindOf.1 1 = .ok (.lookupswitch 64 #[(40, 59), (41, 59), (44, 59), (100, 61), (115, 61), (116, 61)], 59) := by decide +kernel
theorem dm_X0_kindOf_60 : decode M_X0_kindOf.1 60 = .ok (.iload_n 0, 1) := by decide +kernel
theorem dm_X0_kindOf_61 : decode M_X0_kindOf.1 61 = .ok (.ireturn, 1) := by decide +kernel
theorem dm_X0_kindOf_62 : decode M_X0_kindOf.1 62 = .ok (.bipush 120, 2) := by decide +kernel
theorem dm_X0_kindOf_64 : decode M_X0_kindOf.1 64 = .ok (.ireturn, 1) := by decide +kernel
theorem dm_X0_kindOf_65 : decode M_X0_kindOf.1 65 = .ok (.bipush 48, 2) := by decide +kernel
theorem dm_X0_kindOf_67 : decode M_X0_kindOf.1 67 = .ok (.ireturn, 1) := by decide +kernel
def f_X0_kindOf (piece : Int32) : Int32 := (if piece = (40 : Int32) then piece else (if piece = (41 : Int32) then piece else (if piece = (44 : Int32) then piece else (if piece = (100 : Int32) then (120 : Int32) else (if piece = (115 : Int32) then (120 : Int32) else (if piece = (116 : Int32) then (120 : Int32) else (48 : Int32)))))))
set_option maxRecDepth 20000 in
theorem k_X0_kindOf {piece : Int32} {r_0 : Int32} (hres : r_0 = f_X0_kindOf piece) : K M_X0_kindOf yX0_kindOf [.int piece] [] (some (.int r_0)) [] := by
  refine K.of (lv := [(0, .int piece)]) (by decide +kernel) rfl rfl rfl ?_
  rw [f_X0_kindOf] at hres
  refine G.iload_n (pc := 0) dm_X0_kindOf_0 rfl ?_
  by_cases c1_0 : piece = (40 : Int32)
  · rw [if_pos c1_0] at hres
    refine G.lookup (pc := 1) (tgt := 60) dm_X0_kindOf_1 (by decide) (by rw [c1_0] <;> rfl) (by decide) ?_
    refine G.iload_n (pc := 60) dm_X0_kindOf_60 rfl ?_
    subst hres
    exact G.zreturn (pc := 61) dm_X0_kindOf_61 rfl (by first | (rw [c1_0]; decide) | (rw [c1_1]; decide) | (rw [c1_2]; decide)) rfl rfl
  rw [if_neg c1_0] at hres
  by_cases c1_1 : piece = (41 : Int32)
  · rw [if_pos c1_1] at hres
    refine G.lookup (pc := 1) (tgt := 60) dm_X0_kindOf_1 (by decide) (by rw [c1_1] <;> rfl) (by decide) ?_
    refine G.iload_n (pc := 60) dm_X0_kindOf_60 rfl ?_
    subst hres
    exact G.zreturn (pc := 61) dm_X0_kindOf_61 rfl (by first | (rw [c1_0]; decide) | (rw [c1_1]; decide) | (rw [c1_2]; decide)) rfl rfl
  rw [if_neg c1_1] at hres
  by_cases c1_2 : piece = (44 : Int32)
  · rw [if_pos c1_2] at hres
    refine G.lookup (pc := 1) (tgt := 60) dm_X0_kindOf_1 (by decide) (by rw [c1_2] <;> rfl) (by decide) ?_
    refine G.iload_n (pc := 60) dm_X0_kindOf_60 rfl ?_
    subst hres
    exact G.zreturn (pc := 61) dm_X0_kindOf_61 rfl (by first | (rw [c1_0]; decide) | (rw [c1_1]; decide) | (rw [c1_2]; decide)) rfl rfl
  rw [if_neg c1_2] at hres
  by_cases c1_3 : piece = (100 : Int32)
  · rw [if_pos c1_3] at hres
    refine G.lookup (pc := 1) (tgt := 62) dm_X0_kindOf_1 (by decide) (by rw [c1_3] <;> rfl) (by decide) ?_
    refine G.bipush (pc := 62) (v := (120 : Int32)) dm_X0_kindOf_62 qb_120 ?_
    subst hres
    exact G.zreturn (pc := 64) dm_X0_kindOf_64 rfl (by decide) rfl rfl
  rw [if_neg c1_3] at hres
  by_cases c1_4 : piece = (115 : Int32)
  · rw [if_pos c1_4] at hres
    refine G.lookup (pc := 1) (tgt := 62) dm_X0_kindOf_1 (by decide) (by rw [c1_4] <;> rfl) (by decide) ?_
    refine G.bipush (pc := 62) (v := (120 : Int32)) dm_X0_kindOf_62 qb_120 ?_
    subst hres
    exact G.zreturn (pc := 64) dm_X0_kindOf_64 rfl (by decide) rfl rfl
  rw [if_neg c1_4] at hres
  by_cases c1_5 : piece = (116 : Int32)
  · rw [if_pos c1_5] at hres
    refine G.lookup (pc := 1) (tgt := 62) dm_X0_kindOf_1 (by decide) (by rw [c1_5] <;> rfl) (by decide) ?_
    refine G.bipush (pc := 62) (v := (120 : Int32)) dm_X0_kindOf_62 qb_120 ?_
    subst hres
    exact G.zreturn (pc := 64) dm_X0_kindOf_64 rfl (by decide) rfl rfl
  rw [if_neg c1_5] at hres
  refine G.lookup (pc := 1) (tgt := 65) dm_X0_kindOf_1 (by decide) (g_lkmiss (by simp only [List.all_cons, List.all_nil, Bool.and_true, Bool.and_eq_true, decide_eq_true_eq]; exact ⟨g_toInt_ne c1_0 (by decide), g_toInt_ne c1_1 (by decide), g_toInt_ne c1_2 (by decide), g_toInt_ne c1_3 (by decide), g_toInt_ne c1_4 (by decide), g_toInt_ne c1_5 (by decide)⟩)) (by decide) ?_
  refine G.bipush (pc := 65) (v := (48 : Int32)) dm_X0_kindOf_65 qb_48 ?_
  subst hres
  exact G.zreturn (pc := 67) dm_X0_kindOf_67 rfl (by decide) rfl rfl
abbrev M_X0_mnemonicOf : g_M := (cX0_mnemonicOf, 3, RX0, (some .int), { frames := 0, cells := 0, slots := 0, locals := 0 }, 0, 0)
theorem dm_X0_mnemonicOf_0 : decode M_X0_mnemonicOf.1 0 = .ok (.iconst 0, 1) := by decide +kernel
theorem dm_X0_mnemonicOf_1 : decode M_X0_mnemonicOf.1 1 = .ok (.istore_n 2, 1) := by decide +kernel
theorem dm_X0_mnemonicOf_2 : decode M_X0_mnemonicOf.1 2 = .ok (.iload_n 2, 1) := by decide +kernel
theorem dm_X0_mnemonicOf_3 : decode M_X0_mnemonicOf.1 3 = .ok (.getstatic 119, 3) := by decide +kernel
theorem dm_X0_mnemonicOf_6 : decode M_X0_mnemonicOf.1 6 = .ok (.arraylength, 1) := by decide +kernel
theorem dm_X0_mnemonicOf_7 : decode M_X0_mnemonicOf.1 7 = .ok (.if_icmp .ge 24, 3) := by decide +kernel
theorem dm_X0_mnemonicOf_10 : decode M_X0_mnemonicOf.1 10 = .ok (.getstatic 119, 3) := by decide +kernel
theorem dm_X0_mnemonicOf_13 : decode M_X0_mnemonicOf.1 13 = .ok (.iload_n 2, 1) := by decide +kernel
theorem dm_X0_mnemonicOf_14 : decode M_X0_mnemonicOf.1 14 = .ok (.aaload, 1) := by decide +kernel
theorem dm_X0_mnemonicOf_15 : decode M_X0_mnemonicOf.1 15 = .ok (.getfield 123, 3) := by decide +kernel
theorem dm_X0_mnemonicOf_18 : decode M_X0_mnemonicOf.1 18 = .ok (.lload_n 0, 1) := by decide +kernel
theorem dm_X0_mnemonicOf_19 : decode M_X0_mnemonicOf.1 19 = .ok (.lcmp, 1) := by decide +kernel
theorem dm_X0_mnemonicOf_20 : decode M_X0_mnemonicOf.1 20 = .ok (.ifCond .ne 5, 3) := by decide +kernel
theorem dm_X0_mnemonicOf_23 : decode M_X0_mnemonicOf.1 23 = .ok (.iload_n 2, 1) := by decide +kernel
theorem dm_X0_mnemonicOf_24 : decode M_X0_mnemonicOf.1 24 = .ok (.ireturn, 1) := by decide +kernel
theorem dm_X0_mnemonicOf_25 : decode M_X0_mnemonicOf.1 25 = .ok (.iinc 2 1, 3) := by decide +kernel
theorem dm_X0_mnemonicOf_28 : decode M_X0_mnemonicOf.1 28 = .ok (.goto (-26), 3) := by decide +kernel
theorem dm_X0_mnemonicOf_31 : decode M_X0_mnemonicOf.1 31 = .ok (.iconst (-1), 1) := by decide +kernel
theorem dm_X0_mnemonicOf_32 : decode M_X0_mnemonicOf.1 32 = .ok (.ireturn, 1) := by decide +kernel
def f_X0_mnemonicOf_2 : Nat → Int64 → Int32 → Int32
  | 0, l0, l2 => 0
  | n + 1, l0, l2 => (if (37 : Int32) ≤ l2 then (-1 : Int32) else (if (lg_cmp (m_key.getD (Int32.toNatClampNeg l2) 0) l0) = 0 then l2 else ((f_X0_mnemonicOf_2 n) l0 (l2 + (1 : Int32)))))
set_option maxRecDepth 20000 in
theorem j_X0_mnemonicOf_2 : ∀ (n : Nat) {l0 : Int64} {l2 : Int32} {r_0 : Int32}, (h2 : 0 ≤ l2.toInt) → (37 - l2.toInt.toNat) < n → r_0 = f_X0_mnemonicOf_2 n l0 l2 → G M_X0_mnemonicOf 0 0 2 [(0, .long l0), (2, .int l2)] [] [] (some (.int r_0)) [] := by
  intro n
  induction n with
  | zero =>
    intro l0 l2 r_0 h2 hm hres
    exact absurd hm (Nat.not_lt_zero _)
  | succ n ih =>
    intro l0 l2 r_0 h2 hm hres
    obtain ⟨mu, hmu⟩ : ∃ z, (37 - l2.toInt.toNat) = z := ⟨_, rfl⟩
    rw [hmu] at hm
    have hk2 : ∀ {l0 : Int64} {l2 : Int32}, (0 ≤ l2.toInt) → (37 - l2.toInt.toNat) < mu → r_0 = (f_X0_mnemonicOf_2 n) l0 l2 → G M_X0_mnemonicOf 0 0 2 [(0, .long l0), (2, .int l2)] [] [] (some (.int r_0)) [] := fun h2 hlt he => ih h2 (Nat.lt_of_lt_of_le hlt (Nat.le_of_lt_succ hm)) he
    rw [f_X0_mnemonicOf_2] at hres
    refine G.iload_n (pc := 2) dm_X0_mnemonicOf_2 rfl ?_
    refine G.getstaticN (pc := 3) rfl dm_X0_mnemonicOf_3 ?_
    refine G.alenC (pc := 6) (v := 37) dm_X0_mnemonicOf_6 (Or.inl rfl) (by decide) ?_
    refine G.icmp_ge (pc := 7) (tgt := 31) dm_X0_mnemonicOf_7 (by decide) (fun c7 => ?_) (fun c7 => ?_)
    · rw [if_pos c7] at hres
      refine G.iconst (pc := 31) (v := (-1 : Int32)) dm_X0_mnemonicOf_31 qi_m1 ?_
      subst hres
      exact G.ireturn (pc := 32) dm_X0_mnemonicOf_32 rfl rfl rfl
    · rw [if_neg c7] at hres
      refine G.getstaticN (pc := 10) rfl dm_X0_mnemonicOf_10 ?_
      refine G.iload_n (pc := 13) dm_X0_mnemonicOf_13 rfl ?_
      refine G.aaloadC (pc := 14) dm_X0_mnemonicOf_14 (Or.inl rfl) (q_in h2 (q_37 c7)) rfl ?_
      refine G.getfieldC (pc := 15) dm_X0_mnemonicOf_15 (Or.inl ⟨Int32.toNatClampNeg l2, (q_cl37 h2 c7), Or.inl rfl⟩) tw275 ?_
      refine G.lload_n (pc := 18) dm_X0_mnemonicOf_18 rfl ?_
      refine G.lcmp (pc := 19) dm_X0_mnemonicOf_19 ?_
      refine G.if_ne (pc := 20) (tgt := 25) dm_X0_mnemonicOf_20 (by decide) (fun c20 => ?_) (fun c20 => ?_)
      · rw [if_neg c20] at hres
        refine G.iinc (pc := 25) (v := (l2 + (1 : Int32))) (lv1 := [(2, .int (l2 + (1 : Int32))), (0, .long l0)]) dm_X0_mnemonicOf_25 rfl rfl rfl rfl ?_
        refine G.goto (pc := 28) (tgt := 2) dm_X0_mnemonicOf_28 (by decide) ?_
        refine G.lvp [1, 0] rfl ?_
        exact hk2 (by have := q_37 c7; rw [q_inc (by omega)]; omega) (by have := q_37 c7; rw [q_inc (by omega)]; omega) hres
      · rw [if_pos c20] at hres
        refine G.iload_n (pc := 23) dm_X0_mnemonicOf_23 rfl ?_
        subst hres
        exact G.ireturn (pc := 24) dm_X0_mnemonicOf_24 rfl rfl rfl
def f_X0_mnemonicOf (key : Int64) : Int32 := (f_X0_mnemonicOf_2 (38) key (0 : Int32))
set_option maxRecDepth 20000 in
theorem k_X0_mnemonicOf {key : Int64} {r_0 : Int32} (hres : r_0 = f_X0_mnemonicOf key) : K M_X0_mnemonicOf yX0_mnemonicOf [.long key] [] (some (.int r_0)) [] := by
  refine K.of (lv := [(0, .long key)]) (by decide +kernel) rfl rfl rfl ?_
  rw [f_X0_mnemonicOf] at hres
  refine G.iconst (pc := 0) (v := (0 : Int32)) dm_X0_mnemonicOf_0 qi_0 ?_
  refine G.istore_n (pc := 1) (lv1 := [(2, .int (0 : Int32)), (0, .long key)]) dm_X0_mnemonicOf_1 rfl rfl ?_
  refine G.lvp [1, 0] rfl ?_
  exact j_X0_mnemonicOf_2 _ (by decide) (by decide) hres
theorem b_X0_mnemonicOf_2 : ∀ (n : Nat) {l0 : Int64} {l2 : Int32} {r_0 : Int32}, r_0 = f_X0_mnemonicOf_2 n l0 l2 → r_0.toInt < 37 := by
  intro n
  induction n with
  | zero =>
    intro l0 l2 r_0  hres
    rw [f_X0_mnemonicOf_2] at hres
    subst hres
    exact (by decide)
  | succ n ih =>
    intro l0 l2 r_0  hres
    have hk2 : ∀ {l0 : Int64} {l2 : Int32}, r_0 = (f_X0_mnemonicOf_2 n) l0 l2 → r_0.toInt < 37 := fun  he => ih  he
    rw [f_X0_mnemonicOf_2] at hres
    by_cases c7 : (37 : Int32) ≤ l2
    · rw [if_pos c7] at hres
      subst hres
      exact (by first | decide | exact q_37 c7)
    · rw [if_neg c7] at hres
      by_cases c20 : (lg_cmp (m_key.getD (Int32.toNatClampNeg l2) 0) l0) = 0
      · rw [if_pos c20] at hres
        subst hres
        exact (by first | decide | exact q_37 c7)
      · rw [if_neg c20] at hres
        exact hk2  hres
theorem b_X0_mnemonicOf {key : Int64} {r_0 : Int32} (hres : r_0 = f_X0_mnemonicOf key) : r_0.toInt < 37 := by
  rw [f_X0_mnemonicOf] at hres
  exact b_X0_mnemonicOf_2 _  hres
