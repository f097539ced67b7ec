set_option maxRecDepth 100000 in
def w_M (refusal : Int32) (wheel : Int32) (now : Int32) (length : Int32) (at_ : Int32) (fault : Int32) (faultLine : Int32) (line : Int32) (words : Int32) (labels : Int32) (targets : Int32) (wrong : Int32) (unfit : Int32) (text : Nat → Int32) (code_ : Nat → Int32) (label : Nat → Int64) (labelWord : Nat → Int32) (target : Nat → Int64) (targetWord : Nat → Int32) (targetLine : Nat → Int32) (store : Nat → Int32) (common : Nat → Int32) (low : Nat → Int32) (high : Nat → Int32) (register : Nat → Int32) (address : Nat → Int32) (status : Nat → Int32) (did : Nat → Int32) (ready : Nat → Int32) (timer : Nat → Int32) (trace : Nat → Int32) : List va_E := [.inr (8, [.int refusal, .int wheel, .int now, .ref 1, .int length, .int at_, .int fault, .int faultLine, .int line, .int words, .int labels, .int targets, .int wrong, .int unfit, .ref 2, .ref 3, .ref 4, .ref 5, .ref 6, .ref 7, .ref 8, .ref 9, .ref 10, .ref 11, .ref 12, .ref 13, .ref 14, .ref 15, .ref 16, .ref 17, .ref 18]), .inl (0, 400, .inl text), .inl (1, 128, .inl code_), .inl (2, 16, .inr (.inl label)), .inl (1, 16, .inl labelWord), .inl (2, 128, .inr (.inl target)), .inl (1, 128, .inl targetWord), .inl (1, 128, .inl targetLine), .inl (1, 512, .inl store), .inl (1, 64, .inl common), .inl (1, 4, .inl low), .inl (1, 4, .inl high), .inl (1, 64, .inl register), .inl (1, 4, .inl address), .inl (1, 4, .inl status), .inl (1, 4, .inl did), .inl (1, 4, .inl ready), .inl (1, 16, .inl timer), .inl (1, 192, .inl trace)]
theorem q_cl {t : Int32} (ht : 0 ≤ t.toInt ∧ t.toInt < 4) : t.toNatClampNeg < 4 := by
  rw [pk_cl t.toInt.toNat (q_nI ht.1)]; omega
theorem q_one {x : Int32} (h : 0 ≤ x.toInt ∧ x.toInt ≤ 1) (c : ¬ x = 1) : x = 0 := by
  have h1 : (1 : Int32).toInt = 1 := by decide
  have h0 : (0 : Int32).toInt = 0 := by decide
  rcases (show x.toInt = 0 ∨ x.toInt = 1 by omega) with e | e
  · exact Int32.toInt_inj.mp (by rw [e, h0])
  · exact absurd (Int32.toInt_inj.mp (by rw [e, h1])) c
theorem gd_X11_thrown : yX11_thrown.cls ≠ "java/lang/invoke/MethodHandle" ∧ yX11_thrown.cls ≠ "java/lang/invoke/VarHandle" ∧ (parseMethodDescriptor yX11_thrown.desc).map (fun d => d.parameters.length) = some 0 := ⟨by decide, by decide, by decide +kernel⟩
theorem gd_X11_refuse : yX11_refuse.cls ≠ "java/lang/invoke/MethodHandle" ∧ yX11_refuse.cls ≠ "java/lang/invoke/VarHandle" ∧ (parseMethodDescriptor yX11_refuse.desc).map (fun d => d.parameters.length) = some 1 := ⟨by decide, by decide, by decide +kernel⟩
theorem gd_X11_isOwn : yX11_isOwn.cls ≠ "java/lang/invoke/MethodHandle" ∧ yX11_isOwn.cls ≠ "java/lang/invoke/VarHandle" ∧ (parseMethodDescriptor yX11_isOwn.desc).map (fun d => d.parameters.length) = some 1 := ⟨by decide, by decide, by decide +kernel⟩
theorem gd_X11_isLess : yX11_isLess.cls ≠ "java/lang/invoke/MethodHandle" ∧ yX11_isLess.cls ≠ "java/lang/invoke/VarHandle" ∧ (parseMethodDescriptor yX11_isLess.desc).map (fun d => d.parameters.length) = some 2 := ⟨by decide, by decide, by decide +kernel⟩
theorem gd_X11_worked : yX11_worked.cls ≠ "java/lang/invoke/MethodHandle" ∧ yX11_worked.cls ≠ "java/lang/invoke/VarHandle" ∧ (parseMethodDescriptor yX11_worked.desc).map (fun d => d.parameters.length) = some 4 := ⟨by decide, by decide, by decide +kernel⟩
theorem gd_X11_goes : yX11_goes.cls ≠ "java/lang/invoke/MethodHandle" ∧ yX11_goes.cls ≠ "java/lang/invoke/VarHandle" ∧ (parseMethodDescriptor yX11_goes.desc).map (fun d => d.parameters.length) = some 3 := ⟨by decide, by decide, by decide +kernel⟩
theorem gd_X11_stop : yX11_stop.cls ≠ "java/lang/invoke/MethodHandle" ∧ yX11_stop.cls ≠ "java/lang/invoke/VarHandle" ∧ (parseMethodDescriptor yX11_stop.desc).map (fun d => d.parameters.length) = some 1 := ⟨by decide, by decide, by decide +kernel⟩
theorem gd_X11_set : yX11_set.cls ≠ "java/lang/invoke/MethodHandle" ∧ yX11_set.cls ≠ "java/lang/invoke/VarHandle" ∧ (parseMethodDescriptor yX11_set.desc).map (fun d => d.parameters.length) = some 3 := ⟨by decide, by decide, by decide +kernel⟩
theorem gd_X11_done : yX11_done.cls ≠ "java/lang/invoke/MethodHandle" ∧ yX11_done.cls ≠ "java/lang/invoke/VarHandle" ∧ (parseMethodDescriptor yX11_done.desc).map (fun d => d.parameters.length) = some 3 := ⟨by decide, by decide, by decide +kernel⟩
theorem gd_X11_isThere : yX11_isThere.cls ≠ "java/lang/invoke/MethodHandle" ∧ yX11_isThere.cls ≠ "java/lang/invoke/VarHandle" ∧ (parseMethodDescriptor yX11_isThere.desc).map (fun d => d.parameters.length) = some 3 := ⟨by decide, by decide, by decide +kernel⟩
theorem gd_X11_wordAt : yX11_wordAt.cls ≠ "java/lang/invoke/MethodHandle" ∧ yX11_wordAt.cls ≠ "java/lang/invoke/VarHandle" ∧ (parseMethodDescriptor yX11_wordAt.desc).map (fun d => d.parameters.length) = some 2 := ⟨by decide, by decide, by decide +kernel⟩
theorem gd_X11_put : yX11_put.cls ≠ "java/lang/invoke/MethodHandle" ∧ yX11_put.cls ≠ "java/lang/invoke/VarHandle" ∧ (parseMethodDescriptor yX11_put.desc).map (fun d => d.parameters.length) = some 3 := ⟨by decide, by decide, by decide +kernel⟩
theorem gd_X11_first : yX11_first.cls ≠ "java/lang/invoke/MethodHandle" ∧ yX11_first.cls ≠ "java/lang/invoke/VarHandle" ∧ (parseMethodDescriptor yX11_first.desc).map (fun d => d.parameters.length) = some 1 := ⟨by decide, by decide, by decide +kernel⟩
theorem gd_X11_moveWord : yX11_moveWord.cls ≠ "java/lang/invoke/MethodHandle" ∧ yX11_moveWord.cls ≠ "java/lang/invoke/VarHandle" ∧ (parseMethodDescriptor yX11_moveWord.desc).map (fun d => d.parameters.length) = some 3 := ⟨by decide, by decide, by decide +kernel⟩
theorem gd_X11_calculate : yX11_calculate.cls ≠ "java/lang/invoke/MethodHandle" ∧ yX11_calculate.cls ≠ "java/lang/invoke/VarHandle" ∧ (parseMethodDescriptor yX11_calculate.desc).map (fun d => d.parameters.length) = some 3 := ⟨by decide, by decide, by decide +kernel⟩
theorem gd_X11_jump : yX11_jump.cls ≠ "java/lang/invoke/MethodHandle" ∧ yX11_jump.cls ≠ "java/lang/invoke/VarHandle" ∧ (parseMethodDescriptor yX11_jump.desc).map (fun d => d.parameters.length) = some 3 := ⟨by decide, by decide, by decide +kernel⟩
theorem gd_X11_branch : yX11_branch.cls ≠ "java/lang/invoke/MethodHandle" ∧ yX11_branch.cls ≠ "java/lang/invoke/VarHandle" ∧ (parseMethodDescriptor yX11_branch.desc).map (fun d => d.parameters.length) = some 2 := ⟨by decide, by decide, by decide +kernel⟩
theorem gd_X11_clock : yX11_clock.cls ≠ "java/lang/invoke/MethodHandle" ∧ yX11_clock.cls ≠ "java/lang/invoke/VarHandle" ∧ (parseMethodDescriptor yX11_clock.desc).map (fun d => d.parameters.length) = some 2 := ⟨by decide, by decide, by decide +kernel⟩
theorem gd_X11_turn : yX11_turn.cls ≠ "java/lang/invoke/MethodHandle" ∧ yX11_turn.cls ≠ "java/lang/invoke/VarHandle" ∧ (parseMethodDescriptor yX11_turn.desc).map (fun d => d.parameters.length) = some 1 := ⟨by decide, by decide, by decide +kernel⟩
theorem gd_X11_clear : yX11_clear.cls ≠ "java/lang/invoke/MethodHandle" ∧ yX11_clear.cls ≠ "java/lang/invoke/VarHandle" ∧ (parseMethodDescriptor yX11_clear.desc).map (fun d => d.parameters.length) = some 0 := ⟨by decide, by decide, by decide +kernel⟩
theorem gd_X11_fault : yX11_fault.cls ≠ "java/lang/invoke/MethodHandle" ∧ yX11_fault.cls ≠ "java/lang/invoke/VarHandle" ∧ (parseMethodDescriptor yX11_fault.desc).map (fun d => d.parameters.length) = some 1 := ⟨by decide, by decide, by decide +kernel⟩
theorem gd_X11_now : yX11_now.cls ≠ "java/lang/invoke/MethodHandle" ∧ yX11_now.cls ≠ "java/lang/invoke/VarHandle" ∧ (parseMethodDescriptor yX11_now.desc).map (fun d => d.parameters.length) = some 0 := ⟨by decide, by decide, by decide +kernel⟩
theorem gd_X11_peek : yX11_peek.cls ≠ "java/lang/invoke/MethodHandle" ∧ yX11_peek.cls ≠ "java/lang/invoke/VarHandle" ∧ (parseMethodDescriptor yX11_peek.desc).map (fun d => d.parameters.length) = some 2 := ⟨by decide, by decide, by decide +kernel⟩
theorem gd_X11_poke : yX11_poke.cls ≠ "java/lang/invoke/MethodHandle" ∧ yX11_poke.cls ≠ "java/lang/invoke/VarHandle" ∧ (parseMethodDescriptor yX11_poke.desc).map (fun d => d.parameters.length) = some 3 := ⟨by decide, by decide, by decide +kernel⟩
theorem gd_X11_shared : yX11_shared.cls ≠ "java/lang/invoke/MethodHandle" ∧ yX11_shared.cls ≠ "java/lang/invoke/VarHandle" ∧ (parseMethodDescriptor yX11_shared.desc).map (fun d => d.parameters.length) = some 1 := ⟨by decide, by decide, by decide +kernel⟩
theorem gd_X11_part : yX11_part.cls ≠ "java/lang/invoke/MethodHandle" ∧ yX11_part.cls ≠ "java/lang/invoke/VarHandle" ∧ (parseMethodDescriptor yX11_part.desc).map (fun d => d.parameters.length) = some 3 := ⟨by decide, by decide, by decide +kernel⟩
theorem gd_X11_start : yX11_start.cls ≠ "java/lang/invoke/MethodHandle" ∧ yX11_start.cls ≠ "java/lang/invoke/VarHandle" ∧ (parseMethodDescriptor yX11_start.desc).map (fun d => d.parameters.length) = some 2 := ⟨by decide, by decide, by decide +kernel⟩
theorem gd_X11_register : yX11_register.cls ≠ "java/lang/invoke/MethodHandle" ∧ yX11_register.cls ≠ "java/lang/invoke/VarHandle" ∧ (parseMethodDescriptor yX11_register.desc).map (fun d => d.parameters.length) = some 2 := ⟨by decide, by decide, by decide +kernel⟩
theorem gd_X11_state : yX11_state.cls ≠ "java/lang/invoke/MethodHandle" ∧ yX11_state.cls ≠ "java/lang/invoke/VarHandle" ∧ (parseMethodDescriptor yX11_state.desc).map (fun d => d.parameters.length) = some 2 := ⟨by decide, by decide, by decide +kernel⟩
theorem gd_X11_trace : yX11_trace.cls ≠ "java/lang/invoke/MethodHandle" ∧ yX11_trace.cls ≠ "java/lang/invoke/VarHandle" ∧ (parseMethodDescriptor yX11_trace.desc).map (fun d => d.parameters.length) = some 3 := ⟨by decide, by decide, by decide +kernel⟩
abbrev M_X11_thrown : g_M := (cX11_thrown, 1, RX11, (some .int), { frames := 0, cells := 0, slots := 0, locals := 0 }, 0, 0)
theorem dm_X11_thrown_0 : decode M_X11_thrown.1 0 = .ok (.aload_n 0, 1) := by decide +kernel
theorem dm_X11_thrown_1 : decode M_X11_thrown.1 1 = .ok (.getfield 70, 3) := by decide +kernel
theorem dm_X11_thrown_4 : decode M_X11_thrown.1 4 = .ok (.ireturn, 1) := by decide +kernel
def f_X11_thrown (refusal : Int32) : Int32 := refusal
set_option maxRecDepth 20000 in
theorem k_X11_thrown {refusal : Int32} {wheel : Int32} {now : Int32} {length : Int32} {at_ : Int32} {fault : Int32} {faultLine : Int32} {line : Int32} {words : Int32} {labels : Int32} {targets : Int32} {wrong : Int32} {unfit : Int32} {text : Nat → Int32} {code_ : Nat → Int32} {label : Nat → Int64} {labelWord : Nat → Int32} {target : Nat → Int64} {targetWord : Nat → Int32} {targetLine : Nat → Int32} {store : Nat → Int32} {common : Nat → Int32} {low : Nat → Int32} {high : Nat → Int32} {register : Nat → Int32} {address : Nat → Int32} {status : Nat → Int32} {did : Nat → Int32} {ready : Nat → Int32} {timer : Nat → Int32} {trace : Nat → Int32} {r_0 : Int32} (hres : r_0 = f_X11_thrown refusal) : K M_X11_thrown yX11_thrown [.ref 0] (w_M refusal wheel now length at_ fault faultLine line words labels targets wrong unfit text code_ label labelWord target targetWord targetLine store common low high register address status did ready timer trace) (some (.int r_0)) (w_M refusal wheel now length at_ fault faultLine line words labels targets wrong unfit text code_ label labelWord target targetWord targetLine store common low high register address status did ready timer trace) := by
  refine K.of (lv := [(0, .ref 0)]) (by decide +kernel) rfl rfl rfl ?_
  rw [f_X11_thrown] at hres
  refine G.aload_n (pc := 0) dm_X11_thrown_0 rfl ?_
  refine G.getfield (pc := 1) dm_X11_thrown_1 gf_X11_70 rfl rfl ?_
  subst hres
  exact G.ireturn (pc := 4) dm_X11_thrown_4 rfl rfl rfl
abbrev M_X11_refuse : g_M := (cX11_refuse, 2, RX11, (some .int), { frames := 0, cells := 0, slots := 0, locals := 0 }, 0, 0)
theorem dm_X11_refuse_0 : decode M_X11_refuse.1 0 = .ok (.aload_n 0, 1) := by decide +kernel
theorem dm_X11_refuse_1 : decode M_X11_refuse.1 1 = .ok (.iload_n 1, 1) := by decide +kernel
theorem dm_X11_refuse_2 : decode M_X11_refuse.1 2 = .ok (.putfield 70, 3) := by decide +kernel
theorem dm_X11_refuse_5 : decode M_X11_refuse.1 5 = .ok (.iconst 0, 1) := by decide +kernel
theorem dm_X11_refuse_6 : decode M_X11_refuse.1 6 = .ok (.ireturn, 1) := by decide +kernel
def f_X11_refuse (code : Int32) : Int32 × Int32 := ((0 : Int32), code)
set_option maxRecDepth 20000 in
theorem k_X11_refuse {code : Int32} {refusal : Int32} {wheel : Int32} {now : Int32} {length : Int32} {at_ : Int32} {fault : Int32} {faultLine : Int32} {line : Int32} {words : Int32} {labels : Int32} {targets : Int32} {wrong : Int32} {unfit : Int32} {text : Nat → Int32} {code_ : Nat → Int32} {label : Nat → Int64} {labelWord : Nat → Int32} {target : Nat → Int64} {targetWord : Nat → Int32} {targetLine : Nat → Int32} {store : Nat → Int32} {common : Nat → Int32} {low : Nat → Int32} {high : Nat → Int32} {register : Nat → Int32} {address : Nat → Int32} {status : Nat → Int32} {did : Nat → Int32} {ready : Nat → Int32} {timer : Nat → Int32} {trace : Nat → Int32} {r_0 : Int32} {r_1 : Int32} (hres : (r_0, r_1) = f_X11_refuse code) : K M_X11_refuse yX11_refuse [.ref 0, .int code] (w_M refusal wheel now length at_ fault faultLine line words labels targets wrong unfit text code_ label labelWord target targetWord targetLine store common low high register address status did ready timer trace) (some (.int r_0)) (w_M r_1 wheel now length at_ fault faultLine line words labels targets wrong unfit text code_ label labelWord target targetWord targetLine store common low high register address status did ready timer trace) := by
  refine K.of (lv := [(0, .ref 0), (1, .int code)]) (by decide +kernel) rfl rfl rfl ?_
  rw [f_X11_refuse] at hres
  refine G.aload_n (pc := 0) dm_X11_refuse_0 rfl ?_
  refine G.iload_n (pc := 1) dm_X11_refuse_1 rfl ?_
  refine G.putfield (pc := 2) (ws1 := (w_M code wheel now length at_ fault faultLine line words labels targets wrong unfit text code_ label labelWord target targetWord targetLine store common low high register address status did ready timer trace)) dm_X11_refuse_2 gw_X11_70 rfl (g_fit_i _) rfl rfl ?_
  refine G.iconst (pc := 5) (v := (0 : Int32)) dm_X11_refuse_5 qi_0 ?_
  cases hres
  exact G.ireturn (pc := 6) dm_X11_refuse_6 rfl rfl rfl
abbrev M_X11_isOwn : g_M := (cX11_isOwn, 1, RX11, (some .boolean), { frames := 0, cells := 0, slots := 0, locals := 0 }, 0, 0)
theorem dm_X11_isOwn_0 : decode M_X11_isOwn.1 0 = .ok (.iload_n 0, 1) := by decide +kernel
theorem dm_X11_isOwn_1 : decode M_X11_isOwn.1 1 = .ok (.ifCond .lt 14, 3) := by decide +kernel
theorem dm_X11_isOwn_4 : decode M_X11_isOwn.1 4 = .ok (.iload_n 0, 1) := by decide +kernel
theorem dm_X11_isOwn_5 : decode M_X11_isOwn.1 5 = .ok (.sipush 512, 3) := by decide +kernel
theorem dm_X11_isOwn_8 : decode M_X11_isOwn.1 8 = .ok (.if_icmp .ge 7, 3) := by decide +kernel
theorem dm_X11_isOwn_11 : decode M_X11_isOwn.1 11 = .ok (.iconst 1, 1) := by decide +kernel
theorem dm_X11_isOwn_12 : decode M_X11_isOwn.1 12 = .ok (.goto 4, 3) := by decide +kernel
theorem dm_X11_isOwn_15 : decode M_X11_isOwn.1 15 = .ok (.iconst 0, 1) := by decide +kernel
theorem dm_X11_isOwn_16 : decode M_X11_isOwn.1 16 = .ok (.ireturn, 1) := by decide +kernel
def f_X11_isOwn (a : Int32) : Int32 := (if a < 0 then (0 : Int32) else (if (512 : Int32) ≤ a then (0 : Int32) else (1 : Int32)))
set_option maxRecDepth 20000 in
theorem k_X11_isOwn {a : Int32} {r_0 : Int32} (hres : r_0 = f_X11_isOwn a) : K M_X11_isOwn yX11_isOwn [.int a] [] (some (.int r_0)) [] := by
  refine K.of (lv := [(0, .int a)]) (by decide +kernel) rfl rfl rfl ?_
  rw [f_X11_isOwn] at hres
  refine G.iload_n (pc := 0) dm_X11_isOwn_0 rfl ?_
  refine G.if_lt (pc := 1) (tgt := 15) dm_X11_isOwn_1 (by decide) (fun c1 => ?_) (fun c1 => ?_)
  · rw [if_pos c1] at hres
    refine G.iconst (pc := 15) (v := (0 : Int32)) dm_X11_isOwn_15 qi_0 ?_
    subst hres
    exact G.zreturn (pc := 16) dm_X11_isOwn_16 rfl (by decide) rfl rfl
  · rw [if_neg c1] at hres
    refine G.iload_n (pc := 4) dm_X11_isOwn_4 rfl ?_
    refine G.sipush (pc := 5) (v := (512 : Int32)) dm_X11_isOwn_5 qs_512 ?_
    refine G.icmp_ge (pc := 8) (tgt := 15) dm_X11_isOwn_8 (by decide) (fun c8 => ?_) (fun c8 => ?_)
    · rw [if_pos c8] at hres
      refine G.iconst (pc := 15) (v := (0 : Int32)) dm_X11_isOwn_15 qi_0 ?_
      subst hres
      exact G.zreturn (pc := 16) dm_X11_isOwn_16 rfl (by decide) rfl rfl
    · rw [if_neg c8] at hres
      refine G.iconst (pc := 11) (v := (1 : Int32)) dm_X11_isOwn_11 qi_1 ?_
      refine G.goto (pc := 12) (tgt := 16) dm_X11_isOwn_12 (by decide) ?_
      subst hres
      exact G.zreturn (pc := 16) dm_X11_isOwn_16 rfl (by decide) rfl rfl
theorem a_isOwn {a z : Int32} (h : f_X11_isOwn a = z) : (¬ z = 0 → 0 ≤ a.toInt ∧ a.toInt < 512) ∧ (z = 0 → a.toInt < 0 ∨ 512 ≤ a.toInt) := by
  have h1 : (512 : Int32).toInt = 512 := by decide
  have h2 : (0 : Int32).toInt = 0 := by decide
  subst h
  unfold f_X11_isOwn
  constructor
  · intro h
    split at h
    · exact absurd rfl h
    · rename_i c1
      split at h
      · exact absurd rfl h
      · rename_i c2
        have := q_nlt c1
        have := q_nle c2
        omega
  · intro h
    split at h
    · rename_i c1
      have := q_lt c1
      omega
    · split at h
      · rename_i c2
        have := q_le c2
        omega
      · exact absurd h (by decide)
abbrev M_X11_isLess : g_M := (cX11_isLess, 2, RX11, (some .boolean), { frames := 0, cells := 0, slots := 0, locals := 0 }, 0, 0)
theorem dm_X11_isLess_0 : decode M_X11_isLess.1 0 = .ok (.iload_n 0, 1) := by decide +kernel
theorem dm_X11_isLess_1 : decode M_X11_isLess.1 1 = .ok (.ldc_w 294, 3) := by decide +kernel
theorem dm_X11_isLess_4 : decode M_X11_isLess.1 4 = .ok (.ixor, 1) := by decide +kernel
theorem dm_X11_isLess_5 : decode M_X11_isLess.1 5 = .ok (.iload_n 1, 1) := by decide +kernel
theorem dm_X11_isLess_6 : decode M_X11_isLess.1 6 = .ok (.ldc_w 294, 3) := by decide +kernel
theorem dm_X11_isLess_9 : decode M_X11_isLess.1 9 = .ok (.ixor, 1) := by decide +kernel
theorem dm_X11_isLess_10 : decode M_X11_isLess.1 10 = .ok (.if_icmp .ge 7, 3) := by decide +kernel
theorem dm_X11_isLess_13 : decode M_X11_isLess.1 13 = .ok (.iconst 1, 1) := by decide +kernel
theorem dm_X11_isLess_14 : decode M_X11_isLess.1 14 = .ok (.goto 4, 3) := by decide +kernel
theorem dm_X11_isLess_17 : decode M_X11_isLess.1 17 = .ok (.iconst 0, 1) := by decide +kernel
theorem dm_X11_isLess_18 : decode M_X11_isLess.1 18 = .ok (.ireturn, 1) := by decide +kernel
def f_X11_isLess (a : Int32) (b : Int32) : Int32 := (if (b ^^^ (-2147483648 : Int32)) ≤ (a ^^^ (-2147483648 : Int32)) then (0 : Int32) else (1 : Int32))
set_option maxRecDepth 20000 in
theorem k_X11_isLess {a : Int32} {b : Int32} {r_0 : Int32} (hres : r_0 = f_X11_isLess a b) : K M_X11_isLess yX11_isLess [.int a, .int b] [] (some (.int r_0)) [] := by
  refine K.of (lv := [(0, .int a), (1, .int b)]) (by decide +kernel) rfl rfl rfl ?_
  rw [f_X11_isLess] at hres
  refine G.iload_n (pc := 0) dm_X11_isLess_0 rfl ?_
  refine G.ldc_w (pc := 1) dm_X11_isLess_1 tw799 ?_
  refine G.ixor (pc := 4) dm_X11_isLess_4 ?_
  refine G.iload_n (pc := 5) dm_X11_isLess_5 rfl ?_
  refine G.ldc_w (pc := 6) dm_X11_isLess_6 tw799 ?_
  refine G.ixor (pc := 9) dm_X11_isLess_9 ?_
  refine G.icmp_ge (pc := 10) (tgt := 17) dm_X11_isLess_10 (by decide) (fun c10 => ?_) (fun c10 => ?_)
  · rw [if_pos c10] at hres
    refine G.iconst (pc := 17) (v := (0 : Int32)) dm_X11_isLess_17 qi_0 ?_
    subst hres
    exact G.zreturn (pc := 18) dm_X11_isLess_18 rfl (by decide) rfl rfl
  · rw [if_neg c10] at hres
    refine G.iconst (pc := 13) (v := (1 : Int32)) dm_X11_isLess_13 qi_1 ?_
    refine G.goto (pc := 14) (tgt := 18) dm_X11_isLess_14 (by decide) ?_
    subst hres
    exact G.zreturn (pc := 18) dm_X11_isLess_18 rfl (by decide) rfl rfl
abbrev M_X11_worked : g_M := (cX11_worked, 4, RX11, (some .int), { frames := 1, cells := 0, slots := 0, locals := 21 }, 0, 0)
theorem dm_X11_worked_0 : decode M_X11_worked.1 0 = .ok (.iload_n 0, 1) := by decide +kernel
theorem dm_X11_worked_1 : decode M_X11_worked.1 1 = .ok (.tableswitch 117 0 6 #[43, 57, 64, 75, 89, 93, 113], 43) := by decide +kernel
theorem dm_X11_worked_44 : decode M_X11_worked.1 44 = .ok (.iload_n 1, 1) := by decide +kernel
theorem dm_X11_worked_45 : decode M_X11_worked.1 45 = .ok (.ifCond .eq 9, 3) := by decide +kernel
theorem dm_X11_worked_48 : decode M_X11_worked.1 48 = .ok (.iload_n 2, 1) := by decide +kernel
theorem dm_X11_worked_49 : decode M_X11_worked.1 49 = .ok (.iload_n 3, 1) := by decide +kernel
theorem dm_X11_worked_50 : decode M_X11_worked.1 50 = .ok (.isub, 1) := by decide +kernel
theorem dm_X11_worked_51 : decode M_X11_worked.1 51 = .ok (.goto 6, 3) := by decide +kernel
theorem dm_X11_worked_54 : decode M_X11_worked.1 54 = .ok (.iload_n 2, 1) := by decide +kernel
theorem dm_X11_worked_55 : decode M_X11_worked.1 55 = .ok (.iload_n 3, 1) := by decide +kernel
theorem dm_X11_worked_56 : decode M_X11_worked.1 56 = .ok (.iadd, 1) := by decide +kernel
theorem dm_X11_worked_57 : decode M_X11_worked.1 57 = .ok (.ireturn, 1) := by decide +kernel
theorem dm_X11_worked_58 : decode M_X11_worked.1 58 = .ok (.iload_n 2, 1) := by decide +kernel
theorem dm_X11_worked_59 : decode M_X11_worked.1 59 = .ok (.iload_n 3, 1) := by decide +kernel
theorem dm_X11_worked_60 : decode M_X11_worked.1 60 = .ok (.bipush 31, 2) := by decide +kernel
theorem dm_X11_worked_62 : decode M_X11_worked.1 62 = .ok (.iand, 1) := by decide +kernel
theorem dm_X11_worked_63 : decode M_X11_worked.1 63 = .ok (.ishl, 1) := by decide +kernel
theorem dm_X11_worked_64 : decode M_X11_worked.1 64 = .ok (.ireturn, 1) := by decide +kernel
theorem dm_X11_worked_65 : decode M_X11_worked.1 65 = .ok (.iload_n 2, 1) := by decide +kernel
theorem dm_X11_worked_66 : decode M_X11_worked.1 66 = .ok (.iload_n 3, 1) := by decide +kernel
theorem dm_X11_worked_67 : decode M_X11_worked.1 67 = .ok (.if_icmp .ge 7, 3) := by decide +kernel
theorem dm_X11_worked_70 : decode M_X11_worked.1 70 = .ok (.iconst 1, 1) := by decide +kernel
theorem dm_X11_worked_71 : decode M_X11_worked.1 71 = .ok (.goto 4, 3) := by decide +kernel
theorem dm_X11_worked_74 : decode M_X11_worked.1 74 = .ok (.iconst 0, 1) := by decide +kernel
theorem dm_X11_worked_75 : decode M_X11_worked.1 75 = .ok (.ireturn, 1) := by decide +kernel
theorem dm_X11_worked_76 : decode M_X11_worked.1 76 = .ok (.iload_n 2, 1) := by decide +kernel
theorem dm_X11_worked_77 : decode M_X11_worked.1 77 = .ok (.iload_n 3, 1) := by decide +kernel
theorem dm_X11_worked_78 : decode M_X11_worked.1 78 = .ok (.invokestatic 295, 3) := by decide +kernel
theorem dm_X11_worked_81 : decode M_X11_worked.1 81 = .ok (.ifCond .eq 7, 3) := by decide +kernel
theorem dm_X11_worked_84 : decode M_X11_worked.1 84 = .ok (.iconst 1, 1) := by decide +kernel
theorem dm_X11_worked_85 : decode M_X11_worked.1 85 = .ok (.goto 4, 3) := by decide +kernel
theorem dm_X11_worked_88 : decode M_X11_worked.1 88 = .ok (.iconst 0, 1) := by decide +kernel
theorem dm_X11_worked_89 : decode M_X11_worked.1 89 = .ok (.ireturn, 1) := by decide +kernel
theorem dm_X11_worked_90 : decode M_X11_worked.1 90 = .ok (.iload_n 2, 1) := by decide +kernel
theorem dm_X11_worked_91 : decode M_X11_worked.1 91 = .ok (.iload_n 3, 1) := by decide +kernel
theorem dm_X11_worked_92 : decode M_X11_worked.1 92 = .ok (.ixor, 1) := by decide +kernel
theorem dm_X11_worked_93 : decode M_X11_worked.1 93 = .ok (.ireturn, 1) := by decide +kernel
theorem dm_X11_worked_94 : decode M_X11_worked.1 94 = .ok (.iload_n 1, 1) := by decide +kernel
theorem dm_X11_worked_95 : decode M_X11_worked.1 95 = .ok (.ifCond .eq 12, 3) := by decide +kernel
theorem dm_X11_worked_98 : decode M_X11_worked.1 98 = .ok (.iload_n 2, 1) := by decide +kernel
theorem dm_X11_worked_99 : decode M_X11_worked.1 99 = .ok (.iload_n 3, 1) := by decide +kernel
theorem dm_X11_worked_100 : decode M_X11_worked.1 100 = .ok (.bipush 31, 2) := by decide +kernel
theorem dm_X11_worked_102 : decode M_X11_worked.1 102 = .ok (.iand, 1) := by decide +kernel
theorem dm_X11_worked_103 : decode M_X11_worked.1 103 = .ok (.ishr, 1) := by decide +kernel
theorem dm_X11_worked_104 : decode M_X11_worked.1 104 = .ok (.goto 9, 3) := by decide +kernel
theorem dm_X11_worked_107 : decode M_X11_worked.1 107 = .ok (.iload_n 2, 1) := by decide +kernel
theorem dm_X11_worked_108 : decode M_X11_worked.1 108 = .ok (.iload_n 3, 1) := by decide +kernel
theorem dm_X11_worked_109 : decode M_X11_worked.1 109 = .ok (.bipush 31, 2) := by decide +kernel
theorem dm_X11_worked_111 : decode M_X11_worked.1 111 = .ok (.iand, 1) := by decide +kernel
theorem dm_X11_worked_112 : decode M_X11_worked.1 112 = .ok (.iushr, 1) := by decide +kernel
theorem dm_X11_worked_113 : decode M_X11_worked.1 113 = .ok (.ireturn, 1) := by decide +kernel
theorem dm_X11_worked_114 : decode M_X11_worked.1 114 = .ok (.iload_n 2, 1) := by decide +kernel
theorem dm_X11_worked_115 : decode M_X11_worked.1 115 = .ok (.iload_n 3, 1) := by decide +kernel
theorem dm_X11_worked_116 : decode M_X11_worked.1 116 = .ok (.ior, 1) := by decide +kernel
theorem dm_X11_worked_117 : decode M_X11_worked.1 117 = .ok (.ireturn, 1) := by decide +kernel
theorem dm_X11_worked_118 : decode M_X11_worked.1 118 = .ok (.iload_n 2, 1) := by decide +kernel
theorem dm_X11_worked_119 : decode M_X11_worked.1 119 = .ok (.iload_n 3, 1) := by decide +kernel
theorem dm_X11_worked_120 : decode M_X11_worked.1 120 = .ok (.iand, 1) := by decide +kernel
theorem dm_X11_worked_121 : decode M_X11_worked.1 121 = .ok (.ireturn, 1) := by decide +kernel
theorem gc_X11_worked_295 : g_cs M_X11_worked 295 M_X11_isLess yX11_isLess 2 := ⟨tw796, tw797, tw5, tw798, ⟨rfl, rfl, rfl, rfl⟩, gd_X11_isLess, ⟨by decide, by decide⟩⟩
def f_X11_worked_c78 (z1_0 : Int32) : Int32 := (if z1_0 = 0 then (0 : Int32) else (1 : Int32))
def f_X11_worked (f : Int32) (other : Int32) (a : Int32) (b : Int32) : Int32 := (if f = (0 : Int32) then (if other = 0 then (a + b) else (a - b)) else (if f = (1 : Int32) then (a <<< ((b &&& (31 : Int32)) &&& 31)) else (if f = (2 : Int32) then (if b ≤ a then (0 : Int32) else (1 : Int32)) else (if f = (3 : Int32) then (f_X11_worked_c78 (f_X11_isLess a b)) else (if f = (4 : Int32) then (a ^^^ b) else (if f = (5 : Int32) then (if other = 0 then (g_ushr a (b &&& (31 : Int32))) else (a >>> ((b &&& (31 : Int32)) &&& 31))) else (if f = (6 : Int32) then (a ||| b) else (a &&& b))))))))
set_option maxRecDepth 20000 in
theorem k_X11_worked {f : Int32} {other : Int32} {a : Int32} {b : Int32} {r_0 : Int32} (hres : r_0 = f_X11_worked f other a b) : K M_X11_worked yX11_worked [.int f, .int other, .int a, .int b] [] (some (.int r_0)) [] := by
  refine K.of (lv := [(0, .int f), (1, .int other), (2, .int a), (3, .int b)]) (by decide +kernel) rfl rfl rfl ?_
  rw [f_X11_worked] at hres
  refine G.iload_n (pc := 0) dm_X11_worked_0 rfl ?_
  by_cases c1_0 : f = (0 : Int32)
  · rw [if_pos c1_0] at hres
    refine G.tabIn (pc := 1) (tgt := 44) dm_X11_worked_1 c1_0 (by decide) (by decide) rfl (by decide) ?_
    refine G.iload_n (pc := 44) dm_X11_worked_44 rfl ?_
    refine G.if_eq (pc := 45) (tgt := 54) dm_X11_worked_45 (by decide) (fun c45 => ?_) (fun c45 => ?_)
    · rw [if_pos c45] at hres
      refine G.iload_n (pc := 54) dm_X11_worked_54 rfl ?_
      refine G.iload_n (pc := 55) dm_X11_worked_55 rfl ?_
      refine G.iadd (pc := 56) dm_X11_worked_56 ?_
      subst hres
      exact G.ireturn (pc := 57) dm_X11_worked_57 rfl rfl rfl
    · rw [if_neg c45] at hres
      refine G.iload_n (pc := 48) dm_X11_worked_48 rfl ?_
      refine G.iload_n (pc := 49) dm_X11_worked_49 rfl ?_
      refine G.isub (pc := 50) dm_X11_worked_50 ?_
      refine G.goto (pc := 51) (tgt := 57) dm_X11_worked_51 (by decide) ?_
      subst hres
      exact G.ireturn (pc := 57) dm_X11_worked_57 rfl rfl rfl
  rw [if_neg c1_0] at hres
  by_cases c1_1 : f = (1 : Int32)
  · rw [if_pos c1_1] at hres
    refine G.tabIn (pc := 1) (tgt := 58) dm_X11_worked_1 c1_1 (by decide) (by decide) rfl (by decide) ?_
    refine G.iload_n (pc := 58) dm_X11_worked_58 rfl ?_
    refine G.iload_n (pc := 59) dm_X11_worked_59 rfl ?_
    refine G.bipush (pc := 60) (v := (31 : Int32)) dm_X11_worked_60 qb_31 ?_
    refine G.iand (pc := 62) dm_X11_worked_62 ?_
    refine G.ishl (pc := 63) dm_X11_worked_63 ?_
    subst hres
    exact G.ireturn (pc := 64) dm_X11_worked_64 rfl rfl rfl
  rw [if_neg c1_1] at hres
  by_cases c1_2 : f = (2 : Int32)
  · rw [if_pos c1_2] at hres
    refine G.tabIn (pc := 1) (tgt := 65) dm_X11_worked_1 c1_2 (by decide) (by decide) rfl (by decide) ?_
    refine G.iload_n (pc := 65) dm_X11_worked_65 rfl ?_
    refine G.iload_n (pc := 66) dm_X11_worked_66 rfl ?_
    refine G.icmp_ge (pc := 67) (tgt := 74) dm_X11_worked_67 (by decide) (fun c67 => ?_) (fun c67 => ?_)
    · rw [if_pos c67] at hres
      refine G.iconst (pc := 74) (v := (0 : Int32)) dm_X11_worked_74 qi_0 ?_
      subst hres
      exact G.ireturn (pc := 75) dm_X11_worked_75 rfl rfl rfl
    · rw [if_neg c67] at hres
      refine G.iconst (pc := 70) (v := (1 : Int32)) dm_X11_worked_70 qi_1 ?_
      refine G.goto (pc := 71) (tgt := 75) dm_X11_worked_71 (by decide) ?_
      subst hres
      exact G.ireturn (pc := 75) dm_X11_worked_75 rfl rfl rfl
  rw [if_neg c1_2] at hres
  by_cases c1_3 : f = (3 : Int32)
  · rw [if_pos c1_3] at hres
    refine G.tabIn (pc := 1) (tgt := 76) dm_X11_worked_1 c1_3 (by decide) (by decide) rfl (by decide) ?_
    refine G.iload_n (pc := 76) dm_X11_worked_76 rfl ?_
    refine G.iload_n (pc := 77) dm_X11_worked_77 rfl ?_
    obtain ⟨z1_0, hz1⟩ := g_ex1 (f_X11_isLess a b)
    refine G.callS (pc := 78) (rest := []) (st1 := [.int z1_0]) (ws1 := []) [] dm_X11_worked_78 gc_X11_worked_295 (k_X11_isLess (a := a) (b := b) hz1) rfl rfl rfl rfl rfl rfl rfl rfl ?_
    replace hres : r_0 = f_X11_worked_c78 z1_0 := hres.trans (by rw [← hz1])
    rw [f_X11_worked_c78] at hres
    refine G.if_eq (pc := 81) (tgt := 88) dm_X11_worked_81 (by decide) (fun c81 => ?_) (fun c81 => ?_)
    · rw [if_pos c81] at hres
      refine G.iconst (pc := 88) (v := (0 : Int32)) dm_X11_worked_88 qi_0 ?_
      subst hres
      exact G.ireturn (pc := 89) dm_X11_worked_89 rfl rfl rfl
    · rw [if_neg c81] at hres
      refine G.iconst (pc := 84) (v := (1 : Int32)) dm_X11_worked_84 qi_1 ?_
      refine G.goto (pc := 85) (tgt := 89) dm_X11_worked_85 (by decide) ?_
      subst hres
      exact G.ireturn (pc := 89) dm_X11_worked_89 rfl rfl rfl
  rw [if_neg c1_3] at hres
  by_cases c1_4 : f = (4 : Int32)
  · rw [if_pos c1_4] at hres
    refine G.tabIn (pc := 1) (tgt := 90) dm_X11_worked_1 c1_4 (by decide) (by decide) rfl (by decide) ?_
    refine G.iload_n (pc := 90) dm_X11_worked_90 rfl ?_
    refine G.iload_n (pc := 91) dm_X11_worked_91 rfl ?_
    refine G.ixor (pc := 92) dm_X11_worked_92 ?_
    subst hres
    exact G.ireturn (pc := 93) dm_X11_worked_93 rfl rfl rfl
  rw [if_neg c1_4] at hres
  by_cases c1_5 : f = (5 : Int32)
  · rw [if_pos c1_5] at hres
    refine G.tabIn (pc := 1) (tgt := 94) dm_X11_worked_1 c1_5 (by decide) (by decide) rfl (by decide) ?_
    refine G.iload_n (pc := 94) dm_X11_worked_94 rfl ?_
    refine G.if_eq (pc := 95) (tgt := 107) dm_X11_worked_95 (by decide) (fun c95 => ?_) (fun c95 => ?_)
    · rw [if_pos c95] at hres
      refine G.iload_n (pc := 107) dm_X11_worked_107 rfl ?_
      refine G.iload_n (pc := 108) dm_X11_worked_108 rfl ?_
      refine G.bipush (pc := 109) (v := (31 : Int32)) dm_X11_worked_109 qb_31 ?_
      refine G.iand (pc := 111) dm_X11_worked_111 ?_
      refine G.iushr (pc := 112) dm_X11_worked_112 ?_
      subst hres
      exact G.ireturn (pc := 113) dm_X11_worked_113 rfl rfl rfl
    · rw [if_neg c95] at hres
      refine G.iload_n (pc := 98) dm_X11_worked_98 rfl ?_
      refine G.iload_n (pc := 99) dm_X11_worked_99 rfl ?_
      refine G.bipush (pc := 100) (v := (31 : Int32)) dm_X11_worked_100 qb_31 ?_
      refine G.iand (pc := 102) dm_X11_worked_102 ?_
      refine G.ishr (pc := 103) dm_X11_worked_103 ?_
      refine G.goto (pc := 104) (tgt := 113) dm_X11_worked_104 (by decide) ?_
      subst hres
      exact G.ireturn (pc := 113) dm_X11_worked_113 rfl rfl rfl
  rw [if_neg c1_5] at hres
  by_cases c1_6 : f = (6 : Int32)
  · rw [if_pos c1_6] at hres
    refine G.tabIn (pc := 1) (tgt := 114) dm_X11_worked_1 c1_6 (by decide) (by decide) rfl (by decide) ?_
    refine G.iload_n (pc := 114) dm_X11_worked_114 rfl ?_
    refine G.iload_n (pc := 115) dm_X11_worked_115 rfl ?_
    refine G.ior (pc := 116) dm_X11_worked_116 ?_
    subst hres
    exact G.ireturn (pc := 117) dm_X11_worked_117 rfl rfl rfl
  rw [if_neg c1_6] at hres
  refine G.tabOut (pc := 1) (tgt := 118) dm_X11_worked_1 (g_tabmiss (by decide) (by decide) (fun v h1 h2 => by rcases (show v = 0 ∨ v = 1 ∨ v = 2 ∨ v = 3 ∨ v = 4 ∨ v = 5 ∨ v = 6 by omega) with rfl | rfl | rfl | rfl | rfl | rfl | rfl <;> intro h <;> first | exact c1_0 (by rw [h]; decide) | exact c1_1 (by rw [h]; decide) | exact c1_2 (by rw [h]; decide) | exact c1_3 (by rw [h]; decide) | exact c1_4 (by rw [h]; decide) | exact c1_5 (by rw [h]; decide) | exact c1_6 (by rw [h]; decide))) (by decide) ?_
  refine G.iload_n (pc := 118) dm_X11_worked_118 rfl ?_
  refine G.iload_n (pc := 119) dm_X11_worked_119 rfl ?_
  refine G.iand (pc := 120) dm_X11_worked_120 ?_
  subst hres
  exact G.ireturn (pc := 121) dm_X11_worked_121 rfl rfl rfl
abbrev M_X11_goes : g_M := (cX11_goes, 4, RX11, (some .boolean), { frames := 1, cells := 0, slots := 0, locals := 21 }, 0, 0)
theorem dm_X11_goes_0 : decode M_X11_goes.1 0 = .ok (.iload_n 0, 1) := by decide +kernel
theorem dm_X11_goes_1 : decode M_X11_goes.1 1 = .ok (.iconst 2, 1) := by decide +kernel
theorem dm_X11_goes_2 : decode M_X11_goes.1 2 = .ok (.if_icmp .ge 16, 3) := by decide +kernel
theorem dm_X11_goes_5 : decode M_X11_goes.1 5 = .ok (.iload_n 1, 1) := by decide +kernel
theorem dm_X11_goes_6 : decode M_X11_goes.1 6 = .ok (.iload_n 2, 1) := by decide +kernel
theorem dm_X11_goes_7 : decode M_X11_goes.1 7 = .ok (.if_icmp .ne 7, 3) := by decide +kernel
theorem dm_X11_goes_10 : decode M_X11_goes.1 10 = .ok (.iconst 1, 1) := by decide +kernel
theorem dm_X11_goes_11 : decode M_X11_goes.1 11 = .ok (.goto 31, 3) := by decide +kernel
theorem dm_X11_goes_14 : decode M_X11_goes.1 14 = .ok (.iconst 0, 1) := by decide +kernel
theorem dm_X11_goes_15 : decode M_X11_goes.1 15 = .ok (.goto 27, 3) := by decide +kernel
theorem dm_X11_goes_18 : decode M_X11_goes.1 18 = .ok (.iload_n 0, 1) := by decide +kernel
theorem dm_X11_goes_19 : decode M_X11_goes.1 19 = .ok (.bipush 6, 2) := by decide +kernel
theorem dm_X11_goes_21 : decode M_X11_goes.1 21 = .ok (.if_icmp .ge 16, 3) := by decide +kernel
theorem dm_X11_goes_24 : decode M_X11_goes.1 24 = .ok (.iload_n 1, 1) := by decide +kernel
theorem dm_X11_goes_25 : decode M_X11_goes.1 25 = .ok (.iload_n 2, 1) := by decide +kernel
theorem dm_X11_goes_26 : decode M_X11_goes.1 26 = .ok (.if_icmp .ge 7, 3) := by decide +kernel
theorem dm_X11_goes_29 : decode M_X11_goes.1 29 = .ok (.iconst 1, 1) := by decide +kernel
theorem dm_X11_goes_30 : decode M_X11_goes.1 30 = .ok (.goto 12, 3) := by decide +kernel
theorem dm_X11_goes_33 : decode M_X11_goes.1 33 = .ok (.iconst 0, 1) := by decide +kernel
theorem dm_X11_goes_34 : decode M_X11_goes.1 34 = .ok (.goto 8, 3) := by decide +kernel
theorem dm_X11_goes_37 : decode M_X11_goes.1 37 = .ok (.iload_n 1, 1) := by decide +kernel
theorem dm_X11_goes_38 : decode M_X11_goes.1 38 = .ok (.iload_n 2, 1) := by decide +kernel
theorem dm_X11_goes_39 : decode M_X11_goes.1 39 = .ok (.invokestatic 295, 3) := by decide +kernel
theorem dm_X11_goes_42 : decode M_X11_goes.1 42 = .ok (.istore_n 3, 1) := by decide +kernel
theorem dm_X11_goes_43 : decode M_X11_goes.1 43 = .ok (.iload_n 3, 1) := by decide +kernel
theorem dm_X11_goes_44 : decode M_X11_goes.1 44 = .ok (.iload_n 0, 1) := by decide +kernel
theorem dm_X11_goes_45 : decode M_X11_goes.1 45 = .ok (.iconst 2, 1) := by decide +kernel
theorem dm_X11_goes_46 : decode M_X11_goes.1 46 = .ok (.irem, 1) := by decide +kernel
theorem dm_X11_goes_47 : decode M_X11_goes.1 47 = .ok (.ifCond .ne 7, 3) := by decide +kernel
theorem dm_X11_goes_50 : decode M_X11_goes.1 50 = .ok (.iconst 1, 1) := by decide +kernel
theorem dm_X11_goes_51 : decode M_X11_goes.1 51 = .ok (.goto 4, 3) := by decide +kernel
theorem dm_X11_goes_54 : decode M_X11_goes.1 54 = .ok (.iconst 0, 1) := by decide +kernel
theorem dm_X11_goes_55 : decode M_X11_goes.1 55 = .ok (.if_icmp .ne 7, 3) := by decide +kernel
theorem dm_X11_goes_58 : decode M_X11_goes.1 58 = .ok (.iconst 1, 1) := by decide +kernel
theorem dm_X11_goes_59 : decode M_X11_goes.1 59 = .ok (.goto 4, 3) := by decide +kernel
theorem dm_X11_goes_62 : decode M_X11_goes.1 62 = .ok (.iconst 0, 1) := by decide +kernel
theorem dm_X11_goes_63 : decode M_X11_goes.1 63 = .ok (.ireturn, 1) := by decide +kernel
theorem gc_X11_goes_295 : g_cs M_X11_goes 295 M_X11_isLess yX11_isLess 2 := ⟨tw796, tw797, tw5, tw798, ⟨rfl, rfl, rfl, rfl⟩, gd_X11_isLess, ⟨by decide, by decide⟩⟩
def f_X11_goes_55 (s0 : Int32) (s1 : Int32) : Int32 := (if s0 = s1 then (1 : Int32) else (0 : Int32))
set_option maxRecDepth 20000 in
theorem j_X11_goes_55 {s0 : Int32} {s1 : Int32} {r_0 : Int32} (hres : r_0 = (f_X11_goes_55 s0 s1)) : G M_X11_goes 0 0 55 [] [.int s1, .int s0] [] (some (.int r_0)) [] := by
  rw [f_X11_goes_55] at hres
  refine G.icmp_ne (pc := 55) (tgt := 62) dm_X11_goes_55 (by decide) (fun c55 => ?_) (fun c55 => ?_)
  · rw [if_neg c55] at hres
    refine G.iconst (pc := 62) (v := (0 : Int32)) dm_X11_goes_62 qi_0 ?_
    subst hres
    exact G.zreturn (pc := 63) dm_X11_goes_63 rfl (by decide) rfl rfl
  · rw [if_pos c55] at hres
    refine G.iconst (pc := 58) (v := (1 : Int32)) dm_X11_goes_58 qi_1 ?_
    refine G.goto (pc := 59) (tgt := 63) dm_X11_goes_59 (by decide) ?_
    subst hres
    exact G.zreturn (pc := 63) dm_X11_goes_63 rfl (by decide) rfl rfl
def f_X11_goes_42 (l0 : Int32) (s0 : Int32) : Int32 := (if (l0 - l0 / (2 : Int32) * (2 : Int32)) = 0 then (f_X11_goes_55 s0 (1 : Int32)) else (f_X11_goes_55 s0 (0 : Int32)))
set_option maxRecDepth 20000 in
theorem j_X11_goes_42 {l0 : Int32} {s0 : Int32} {r_0 : Int32} (hres : r_0 = (f_X11_goes_42 l0 s0)) : G M_X11_goes 0 0 42 [(0, .int l0)] [.int s0] [] (some (.int r_0)) [] := by
  rw [f_X11_goes_42] at hres
  refine G.istore_n (pc := 42) (lv1 := [(3, .int s0), (0, .int l0)]) dm_X11_goes_42 rfl rfl ?_
  refine G.iload_n (pc := 43) dm_X11_goes_43 rfl ?_
  refine G.iload_n (pc := 44) dm_X11_goes_44 rfl ?_
  refine G.iconst (pc := 45) (v := (2 : Int32)) dm_X11_goes_45 qi_2 ?_
  refine G.irem (pc := 46) dm_X11_goes_46 (by decide) ?_
  refine G.if_ne (pc := 47) (tgt := 54) dm_X11_goes_47 (by decide) (fun c47 => ?_) (fun c47 => ?_)
  · rw [if_neg c47] at hres
    refine G.iconst (pc := 54) (v := (0 : Int32)) dm_X11_goes_54 qi_0 ?_
    refine G.lvp [] rfl ?_
    exact j_X11_goes_55 hres 
  · rw [if_pos c47] at hres
    refine G.iconst (pc := 50) (v := (1 : Int32)) dm_X11_goes_50 qi_1 ?_
    refine G.goto (pc := 51) (tgt := 55) dm_X11_goes_51 (by decide) ?_
    refine G.lvp [] rfl ?_
    exact j_X11_goes_55 hres 
def f_X11_goes_c39 (f : Int32) (z1_0 : Int32) : Int32 := (f_X11_goes_42 f z1_0)
def f_X11_goes (f : Int32) (a : Int32) (b : Int32) : Int32 := (if (2 : Int32) ≤ f then (if (6 : Int32) ≤ f then (f_X11_goes_c39 f (f_X11_isLess a b)) else (if b ≤ a then (f_X11_goes_42 f (0 : Int32)) else (f_X11_goes_42 f (1 : Int32)))) else (if a = b then (f_X11_goes_42 f (1 : Int32)) else (f_X11_goes_42 f (0 : Int32))))
set_option maxRecDepth 20000 in
theorem k_X11_goes {f : Int32} {a : Int32} {b : Int32} {r_0 : Int32} (hres : r_0 = f_X11_goes f a b) : K M_X11_goes yX11_goes [.int f, .int a, .int b] [] (some (.int r_0)) [] := by
  refine K.of (lv := [(0, .int f), (1, .int a), (2, .int b)]) (by decide +kernel) rfl rfl rfl ?_
  rw [f_X11_goes] at hres
  refine G.iload_n (pc := 0) dm_X11_goes_0 rfl ?_
  refine G.iconst (pc := 1) (v := (2 : Int32)) dm_X11_goes_1 qi_2 ?_
  refine G.icmp_ge (pc := 2) (tgt := 18) dm_X11_goes_2 (by decide) (fun c2 => ?_) (fun c2 => ?_)
  · rw [if_pos c2] at hres
    refine G.iload_n (pc := 18) dm_X11_goes_18 rfl ?_
    refine G.bipush (pc := 19) (v := (6 : Int32)) dm_X11_goes_19 qb_6 ?_
    refine G.icmp_ge (pc := 21) (tgt := 37) dm_X11_goes_21 (by decide) (fun c21 => ?_) (fun c21 => ?_)
    · rw [if_pos c21] at hres
      refine G.iload_n (pc := 37) dm_X11_goes_37 rfl ?_
      refine G.iload_n (pc := 38) dm_X11_goes_38 rfl ?_
      obtain ⟨z1_0, hz1⟩ := g_ex1 (f_X11_isLess a b)
      refine G.callS (pc := 39) (rest := []) (st1 := [.int z1_0]) (ws1 := []) [] dm_X11_goes_39 gc_X11_goes_295 (k_X11_isLess (a := a) (b := b) hz1) rfl rfl rfl rfl rfl rfl rfl rfl ?_
      replace hres : r_0 = f_X11_goes_c39 f z1_0 := hres.trans (by rw [← hz1])
      rw [f_X11_goes_c39] at hres
      refine G.lvp [0] rfl ?_
      exact j_X11_goes_42 hres 
    · rw [if_neg c21] at hres
      refine G.iload_n (pc := 24) dm_X11_goes_24 rfl ?_
      refine G.iload_n (pc := 25) dm_X11_goes_25 rfl ?_
      refine G.icmp_ge (pc := 26) (tgt := 33) dm_X11_goes_26 (by decide) (fun c26 => ?_) (fun c26 => ?_)
      · rw [if_pos c26] at hres
        refine G.iconst (pc := 33) (v := (0 : Int32)) dm_X11_goes_33 qi_0 ?_
        refine G.goto (pc := 34) (tgt := 42) dm_X11_goes_34 (by decide) ?_
        refine G.lvp [0] rfl ?_
        exact j_X11_goes_42 hres 
      · rw [if_neg c26] at hres
        refine G.iconst (pc := 29) (v := (1 : Int32)) dm_X11_goes_29 qi_1 ?_
        refine G.goto (pc := 30) (tgt := 42) dm_X11_goes_30 (by decide) ?_
        refine G.lvp [0] rfl ?_
        exact j_X11_goes_42 hres 
  · rw [if_neg c2] at hres
    refine G.iload_n (pc := 5) dm_X11_goes_5 rfl ?_
    refine G.iload_n (pc := 6) dm_X11_goes_6 rfl ?_
    refine G.icmp_ne (pc := 7) (tgt := 14) dm_X11_goes_7 (by decide) (fun c7 => ?_) (fun c7 => ?_)
    · rw [if_neg c7] at hres
      refine G.iconst (pc := 14) (v := (0 : Int32)) dm_X11_goes_14 qi_0 ?_
      refine G.goto (pc := 15) (tgt := 42) dm_X11_goes_15 (by decide) ?_
      refine G.lvp [0] rfl ?_
      exact j_X11_goes_42 hres 
    · rw [if_pos c7] at hres
      refine G.iconst (pc := 10) (v := (1 : Int32)) dm_X11_goes_10 qi_1 ?_
      refine G.goto (pc := 11) (tgt := 42) dm_X11_goes_11 (by decide) ?_
      refine G.lvp [0] rfl ?_
      exact j_X11_goes_42 hres 
abbrev M_X11_stop : g_M := (cX11_stop, 2, RX11, (some .int), { frames := 0, cells := 0, slots := 0, locals := 0 }, 0, 0)
theorem dm_X11_stop_0 : decode M_X11_stop.1 0 = .ok (.aload_n 0, 1) := by decide +kernel
theorem dm_X11_stop_1 : decode M_X11_stop.1 1 = .ok (.getfield 51, 3) := by decide +kernel
theorem dm_X11_stop_4 : decode M_X11_stop.1 4 = .ok (.iload_n 1, 1) := by decide +kernel
theorem dm_X11_stop_5 : decode M_X11_stop.1 5 = .ok (.iconst 3, 1) := by decide +kernel
theorem dm_X11_stop_6 : decode M_X11_stop.1 6 = .ok (.iastore, 1) := by decide +kernel
theorem dm_X11_stop_7 : decode M_X11_stop.1 7 = .ok (.iconst 0, 1) := by decide +kernel
theorem dm_X11_stop_8 : decode M_X11_stop.1 8 = .ok (.ireturn, 1) := by decide +kernel
def f_X11_stop (t : Int32) (status : Nat → Int32) : Int32 × (Nat → Int32) := ((0 : Int32), (upd status (Int32.toNatClampNeg t) (3 : Int32)))
set_option maxRecDepth 20000 in
theorem k_X11_stop {t : Int32} {refusal : Int32} {wheel : Int32} {now : Int32} {length : Int32} {at_ : Int32} {fault : Int32} {faultLine : Int32} {line : Int32} {words : Int32} {labels : Int32} {targets : Int32} {wrong : Int32} {unfit : Int32} {text : Nat → Int32} {code_ : Nat → Int32} {label : Nat → Int64} {labelWord : Nat → Int32} {target : Nat → Int64} {targetWord : Nat → Int32} {targetLine : Nat → Int32} {store : Nat → Int32} {common : Nat → Int32} {low : Nat → Int32} {high : Nat → Int32} {register : Nat → Int32} {address : Nat → Int32} {status : Nat → Int32} {did : Nat → Int32} {ready : Nat → Int32} {timer : Nat → Int32} {trace : Nat → Int32} (ht : 0 ≤ t.toInt ∧ t.toInt < 4) {r_0 : Int32} {r_1 : (Nat → Int32)} (hres : (r_0, r_1) = f_X11_stop t status) : K M_X11_stop yX11_stop [.ref 0, .int t] (w_M refusal wheel now length at_ fault faultLine line words labels targets wrong unfit text code_ label labelWord target targetWord targetLine store common low high register address status did ready timer trace) (some (.int r_0)) (w_M refusal wheel now length at_ fault faultLine line words labels targets wrong unfit text code_ label labelWord target targetWord targetLine store common low high register address r_1 did ready timer trace) := by
  refine K.of (lv := [(0, .ref 0), (1, .int t)]) (by decide +kernel) rfl rfl rfl ?_
  rw [f_X11_stop] at hres
  refine G.aload_n (pc := 0) dm_X11_stop_0 rfl ?_
  refine G.getfield (pc := 1) dm_X11_stop_1 gf_X11_51 rfl rfl ?_
  refine G.iload_n (pc := 4) dm_X11_stop_4 rfl ?_
  refine G.iconst (pc := 5) (v := (3 : Int32)) dm_X11_stop_5 qi_3 ?_
  refine G.iastore (pc := 6) (ws1 := (w_M refusal wheel now length at_ fault faultLine line words labels targets wrong unfit text code_ label labelWord target targetWord targetLine store common low high register address (upd status (Int32.toNatClampNeg t) (3 : Int32)) did ready timer trace)) dm_X11_stop_6 rfl (q_t ht) rfl ?_
  refine G.iconst (pc := 7) (v := (0 : Int32)) dm_X11_stop_7 qi_0 ?_
  cases hres
  exact G.ireturn (pc := 8) dm_X11_stop_8 rfl rfl rfl
abbrev M_X11_set : g_M := (cX11_set, 4, RX11, none, { frames := 0, cells := 0, slots := 0, locals := 0 }, 0, 0)
theorem dm_X11_set_0 : decode M_X11_set.1 0 = .ok (.iload_n 2, 1) := by decide +kernel
theorem dm_X11_set_1 : decode M_X11_set.1 1 = .ok (.ifCond .le 15, 3) := by decide +kernel
theorem dm_X11_set_4 : decode M_X11_set.1 4 = .ok (.aload_n 0, 1) := by decide +kernel
theorem dm_X11_set_5 : decode M_X11_set.1 5 = .ok (.getfield 45, 3) := by decide +kernel
theorem dm_X11_set_8 : decode M_X11_set.1 8 = .ok (.bipush 16, 2) := by decide +kernel
theorem dm_X11_set_10 : decode M_X11_set.1 10 = .ok (.iload_n 1, 1) := by decide +kernel
theorem dm_X11_set_11 : decode M_X11_set.1 11 = .ok (.imul, 1) := by decide +kernel
theorem dm_X11_set_12 : decode M_X11_set.1 12 = .ok (.iload_n 2, 1) := by decide +kernel
theorem dm_X11_set_13 : decode M_X11_set.1 13 = .ok (.iadd, 1) := by decide +kernel
theorem dm_X11_set_14 : decode M_X11_set.1 14 = .ok (.iload_n 3, 1) := by decide +kernel
theorem dm_X11_set_15 : decode M_X11_set.1 15 = .ok (.iastore, 1) := by decide +kernel
theorem dm_X11_set_16 : decode M_X11_set.1 16 = .ok (.return_, 1) := by decide +kernel
def f_X11_set (t : Int32) (r : Int32) (v : Int32) (register : Nat → Int32) : (Nat → Int32) := (if r ≤ 0 then register else (upd register (Int32.toNatClampNeg (((16 : Int32) * t) + r)) v))
set_option maxRecDepth 20000 in
theorem k_X11_set {t : Int32} {r : Int32} {v : Int32} {refusal : Int32} {wheel : Int32} {now : Int32} {length : Int32} {at_ : Int32} {fault : Int32} {faultLine : Int32} {line : Int32} {words : Int32} {labels : Int32} {targets : Int32} {wrong : Int32} {unfit : Int32} {text : Nat → Int32} {code_ : Nat → Int32} {label : Nat → Int64} {labelWord : Nat → Int32} {target : Nat → Int64} {targetWord : Nat → Int32} {targetLine : Nat → Int32} {store : Nat → Int32} {common : Nat → Int32} {low : Nat → Int32} {high : Nat → Int32} {register : Nat → Int32} {address : Nat → Int32} {status : Nat → Int32} {did : Nat → Int32} {ready : Nat → Int32} {timer : Nat → Int32} {trace : Nat → Int32} (ht : 0 ≤ t.toInt ∧ t.toInt < 4) (hr : 0 ≤ r.toInt ∧ r.toInt < 16) {r_0 : (Nat → Int32)} (hres : r_0 = f_X11_set t r v register) : K M_X11_set yX11_set [.ref 0, .int t, .int r, .int v] (w_M refusal wheel now length at_ fault faultLine line words labels targets wrong unfit text code_ label labelWord target targetWord targetLine store common low high register address status did ready timer trace) (none) (w_M refusal wheel now length at_ fault faultLine line words labels targets wrong unfit text code_ label labelWord target targetWord targetLine store common low high r_0 address status did ready timer trace) := by
  refine K.of (lv := [(0, .ref 0), (1, .int t), (2, .int r), (3, .int v)]) (by decide +kernel) rfl rfl rfl ?_
  rw [f_X11_set] at hres
  refine G.iload_n (pc := 0) dm_X11_set_0 rfl ?_
  refine G.if_le (pc := 1) (tgt := 16) dm_X11_set_1 (by decide) (fun c1 => ?_) (fun c1 => ?_)
  · rw [if_pos c1] at hres
    subst hres
    exact G.vreturn (pc := 16) dm_X11_set_16 rfl rfl rfl
  · rw [if_neg c1] at hres
    refine G.aload_n (pc := 4) dm_X11_set_4 rfl ?_
    refine G.getfield (pc := 5) dm_X11_set_5 gf_X11_45 rfl rfl ?_
    refine G.bipush (pc := 8) (v := (16 : Int32)) dm_X11_set_8 qb_16 ?_
    refine G.iload_n (pc := 10) dm_X11_set_10 rfl ?_
    refine G.imul (pc := 11) dm_X11_set_11 ?_
    refine G.iload_n (pc := 12) dm_X11_set_12 rfl ?_
    refine G.iadd (pc := 13) dm_X11_set_13 ?_
    refine G.iload_n (pc := 14) dm_X11_set_14 rfl ?_
    refine G.iastore (pc := 15) (ws1 := (w_M refusal wheel now length at_ fault faultLine line words labels targets wrong unfit text code_ label labelWord target targetWord targetLine store common low high (upd register (Int32.toNatClampNeg (((16 : Int32) * t) + r)) v) address status did ready timer trace)) dm_X11_set_15 rfl (q_i16 ht hr) rfl ?_
    subst hres
    exact G.vreturn (pc := 16) dm_X11_set_16 rfl rfl rfl
abbrev M_X11_done : g_M := (cX11_done, 5, RX11, (some .int), { frames := 0, cells := 0, slots := 0, locals := 0 }, 0, 0)
theorem dm_X11_done_0 : decode M_X11_done.1 0 = .ok (.bipush 48, 2) := by decide +kernel
theorem dm_X11_done_2 : decode M_X11_done.1 2 = .ok (.iload_n 1, 1) := by decide +kernel
theorem dm_X11_done_3 : decode M_X11_done.1 3 = .ok (.imul, 1) := by decide +kernel
theorem dm_X11_done_4 : decode M_X11_done.1 4 = .ok (.iconst 3, 1) := by decide +kernel
theorem dm_X11_done_5 : decode M_X11_done.1 5 = .ok (.aload_n 0, 1) := by decide +kernel
theorem dm_X11_done_6 : decode M_X11_done.1 6 = .ok (.getfield 54, 3) := by decide +kernel
theorem dm_X11_done_9 : decode M_X11_done.1 9 = .ok (.iload_n 1, 1) := by decide +kernel
theorem dm_X11_done_10 : decode M_X11_done.1 10 = .ok (.iaload, 1) := by decide +kernel
theorem dm_X11_done_11 : decode M_X11_done.1 11 = .ok (.bipush 16, 2) := by decide +kernel
theorem dm_X11_done_13 : decode M_X11_done.1 13 = .ok (.irem, 1) := by decide +kernel
theorem dm_X11_done_14 : decode M_X11_done.1 14 = .ok (.imul, 1) := by decide +kernel
theorem dm_X11_done_15 : decode M_X11_done.1 15 = .ok (.iadd, 1) := by decide +kernel
theorem dm_X11_done_16 : decode M_X11_done.1 16 = .ok (.istore 4, 2) := by decide +kernel
theorem dm_X11_done_18 : decode M_X11_done.1 18 = .ok (.aload_n 0, 1) := by decide +kernel
theorem dm_X11_done_19 : decode M_X11_done.1 19 = .ok (.getfield 63, 3) := by decide +kernel
theorem dm_X11_done_22 : decode M_X11_done.1 22 = .ok (.iload 4, 2) := by decide +kernel
theorem dm_X11_done_24 : decode M_X11_done.1 24 = .ok (.aload_n 0, 1) := by decide +kernel
theorem dm_X11_done_25 : decode M_X11_done.1 25 = .ok (.getfield 48, 3) := by decide +kernel
theorem dm_X11_done_28 : decode M_X11_done.1 28 = .ok (.iload_n 1, 1) := by decide +kernel
theorem dm_X11_done_29 : decode M_X11_done.1 29 = .ok (.iaload, 1) := by decide +kernel
theorem dm_X11_done_30 : decode M_X11_done.1 30 = .ok (.iastore, 1) := by decide +kernel
theorem dm_X11_done_31 : decode M_X11_done.1 31 = .ok (.aload_n 0, 1) := by decide +kernel
theorem dm_X11_done_32 : decode M_X11_done.1 32 = .ok (.getfield 63, 3) := by decide +kernel
theorem dm_X11_done_35 : decode M_X11_done.1 35 = .ok (.iload 4, 2) := by decide +kernel
theorem dm_X11_done_37 : decode M_X11_done.1 37 = .ok (.iconst 1, 1) := by decide +kernel
theorem dm_X11_done_38 : decode M_X11_done.1 38 = .ok (.iadd, 1) := by decide +kernel
theorem dm_X11_done_39 : decode M_X11_done.1 39 = .ok (.aload_n 0, 1) := by decide +kernel
theorem dm_X11_done_40 : decode M_X11_done.1 40 = .ok (.getfield 291, 3) := by decide +kernel
theorem dm_X11_done_43 : decode M_X11_done.1 43 = .ok (.iastore, 1) := by decide +kernel
theorem dm_X11_done_44 : decode M_X11_done.1 44 = .ok (.aload_n 0, 1) := by decide +kernel
theorem dm_X11_done_45 : decode M_X11_done.1 45 = .ok (.getfield 63, 3) := by decide +kernel
theorem dm_X11_done_48 : decode M_X11_done.1 48 = .ok (.iload 4, 2) := by decide +kernel
theorem dm_X11_done_50 : decode M_X11_done.1 50 = .ok (.iconst 2, 1) := by decide +kernel
theorem dm_X11_done_51 : decode M_X11_done.1 51 = .ok (.iadd, 1) := by decide +kernel
theorem dm_X11_done_52 : decode M_X11_done.1 52 = .ok (.iload_n 3, 1) := by decide +kernel
theorem dm_X11_done_53 : decode M_X11_done.1 53 = .ok (.iastore, 1) := by decide +kernel
theorem dm_X11_done_54 : decode M_X11_done.1 54 = .ok (.aload_n 0, 1) := by decide +kernel
theorem dm_X11_done_55 : decode M_X11_done.1 55 = .ok (.getfield 54, 3) := by decide +kernel
theorem dm_X11_done_58 : decode M_X11_done.1 58 = .ok (.iload_n 1, 1) := by decide +kernel
theorem dm_X11_done_59 : decode M_X11_done.1 59 = .ok (.dup2, 1) := by decide +kernel
theorem dm_X11_done_60 : decode M_X11_done.1 60 = .ok (.iaload, 1) := by decide +kernel
theorem dm_X11_done_61 : decode M_X11_done.1 61 = .ok (.iconst 1, 1) := by decide +kernel
theorem dm_X11_done_62 : decode M_X11_done.1 62 = .ok (.iadd, 1) := by decide +kernel
theorem dm_X11_done_63 : decode M_X11_done.1 63 = .ok (.iastore, 1) := by decide +kernel
theorem dm_X11_done_64 : decode M_X11_done.1 64 = .ok (.aload_n 0, 1) := by decide +kernel
theorem dm_X11_done_65 : decode M_X11_done.1 65 = .ok (.getfield 48, 3) := by decide +kernel
theorem dm_X11_done_68 : decode M_X11_done.1 68 = .ok (.iload_n 1, 1) := by decide +kernel
theorem dm_X11_done_69 : decode M_X11_done.1 69 = .ok (.iload_n 2, 1) := by decide +kernel
theorem dm_X11_done_70 : decode M_X11_done.1 70 = .ok (.iastore, 1) := by decide +kernel
theorem dm_X11_done_71 : decode M_X11_done.1 71 = .ok (.aload_n 0, 1) := by decide +kernel
theorem dm_X11_done_72 : decode M_X11_done.1 72 = .ok (.getfield 57, 3) := by decide +kernel
theorem dm_X11_done_75 : decode M_X11_done.1 75 = .ok (.iload_n 1, 1) := by decide +kernel
theorem dm_X11_done_76 : decode M_X11_done.1 76 = .ok (.iload_n 3, 1) := by decide +kernel
theorem dm_X11_done_77 : decode M_X11_done.1 77 = .ok (.iastore, 1) := by decide +kernel
theorem dm_X11_done_78 : decode M_X11_done.1 78 = .ok (.iconst 1, 1) := by decide +kernel
theorem dm_X11_done_79 : decode M_X11_done.1 79 = .ok (.ireturn, 1) := by decide +kernel
def f_X11_done (t : Int32) (a : Int32) (when : Int32) (now : Int32) (address : Nat → Int32) (did : Nat → Int32) (ready : Nat → Int32) (trace : Nat → Int32) : Int32 × (Nat → Int32) × (Nat → Int32) × (Nat → Int32) × (Nat → Int32) := ((1 : Int32), (upd address (Int32.toNatClampNeg t) a), (upd did (Int32.toNatClampNeg t) ((did (Int32.toNatClampNeg t)) + (1 : Int32))), (upd ready (Int32.toNatClampNeg t) when), (upd (upd (upd trace (Int32.toNatClampNeg (((48 : Int32) * t) + ((3 : Int32) * ((did (Int32.toNatClampNeg t)) - (did (Int32.toNatClampNeg t)) / (16 : Int32) * (16 : Int32))))) (address (Int32.toNatClampNeg t))) (Int32.toNatClampNeg ((((48 : Int32) * t) + ((3 : Int32) * ((did (Int32.toNatClampNeg t)) - (did (Int32.toNatClampNeg t)) / (16 : Int32) * (16 : Int32)))) + (1 : Int32))) now) (Int32.toNatClampNeg ((((48 : Int32) * t) + ((3 : Int32) * ((did (Int32.toNatClampNeg t)) - (did (Int32.toNatClampNeg t)) / (16 : Int32) * (16 : Int32)))) + (2 : Int32))) when))
set_option maxRecDepth 20000 in
theorem k_X11_done {t : Int32} {a : Int32} {when : Int32} {refusal : Int32} {wheel : Int32} {now : Int32} {length : Int32} {at_ : Int32} {fault : Int32} {faultLine : Int32} {line : Int32} {words : Int32} {labels : Int32} {targets : Int32} {wrong : Int32} {unfit : Int32} {text : Nat → Int32} {code_ : Nat → Int32} {label : Nat → Int64} {labelWord : Nat → Int32} {target : Nat → Int64} {targetWord : Nat → Int32} {targetLine : Nat → Int32} {store : Nat → Int32} {common : Nat → Int32} {low : Nat → Int32} {high : Nat → Int32} {register : Nat → Int32} {address : Nat → Int32} {status : Nat → Int32} {did : Nat → Int32} {ready : Nat → Int32} {timer : Nat → Int32} {trace : Nat → Int32} (ht : 0 ≤ t.toInt ∧ t.toInt < 4) (hdid : ∀ j, j < 4 → 0 ≤ (did j).toInt) {r_0 : Int32} {r_1 : (Nat → Int32)} {r_2 : (Nat → Int32)} {r_3 : (Nat → Int32)} {r_4 : (Nat → Int32)} (hres : (r_0, r_1, r_2, r_3, r_4) = f_X11_done t a when now address did ready trace) : K M_X11_done yX11_done [.ref 0, .int t, .int a, .int when] (w_M refusal wheel now length at_ fault faultLine line words labels targets wrong unfit text code_ label labelWord target targetWord targetLine store common low high register address status did ready timer trace) (some (.int r_0)) (w_M refusal wheel now length at_ fault faultLine line words labels targets wrong unfit text code_ label labelWord target targetWord targetLine store common low high register r_1 status r_2 r_3 timer r_4) := by
  refine K.of (lv := [(0, .ref 0), (1, .int t), (2, .int a), (3, .int when)]) (by decide +kernel) rfl rfl rfl ?_
  rw [f_X11_done] at hres
  refine G.bipush (pc := 0) (v := (48 : Int32)) dm_X11_done_0 qb_48 ?_
  refine G.iload_n (pc := 2) dm_X11_done_2 rfl ?_
  refine G.imul (pc := 3) dm_X11_done_3 ?_
  refine G.iconst (pc := 4) (v := (3 : Int32)) dm_X11_done_4 qi_3 ?_
  refine G.aload_n (pc := 5) dm_X11_done_5 rfl ?_
  refine G.getfield (pc := 6) dm_X11_done_6 gf_X11_54 rfl rfl ?_
  refine G.iload_n (pc := 9) dm_X11_done_9 rfl ?_
  refine G.iaload (pc := 10) dm_X11_done_10 rfl (q_t ht) ?_
  refine G.bipush (pc := 11) (v := (16 : Int32)) dm_X11_done_11 qb_16 ?_
  refine G.irem (pc := 13) dm_X11_done_13 (by decide) ?_
  refine G.imul (pc := 14) dm_X11_done_14 ?_
  refine G.iadd (pc := 15) dm_X11_done_15 ?_
  refine G.istore (pc := 16) (lv1 := [(4, .int (((48 : Int32) * t) + ((3 : Int32) * ((did (Int32.toNatClampNeg t)) - (did (Int32.toNatClampNeg t)) / (16 : Int32) * (16 : Int32))))), (0, .ref 0), (1, .int t), (2, .int a), (3, .int when)]) dm_X11_done_16 rfl rfl ?_
  refine G.aload_n (pc := 18) dm_X11_done_18 rfl ?_
  refine G.getfield (pc := 19) dm_X11_done_19 gf_X11_63 rfl rfl ?_
  refine G.iload (pc := 22) dm_X11_done_22 rfl ?_
  refine G.aload_n (pc := 24) dm_X11_done_24 rfl ?_
  refine G.getfield (pc := 25) dm_X11_done_25 gf_X11_48 rfl rfl ?_
  refine G.iload_n (pc := 28) dm_X11_done_28 rfl ?_
  refine G.iaload (pc := 29) dm_X11_done_29 rfl (q_t ht) ?_
  refine G.iastore (pc := 30) (ws1 := (w_M refusal wheel now length at_ fault faultLine line words labels targets wrong unfit text code_ label labelWord target targetWord targetLine store common low high register address status did ready timer (upd trace (Int32.toNatClampNeg (((48 : Int32) * t) + ((3 : Int32) * ((did (Int32.toNatClampNeg t)) - (did (Int32.toNatClampNeg t)) / (16 : Int32) * (16 : Int32))))) (address (Int32.toNatClampNeg t))))) dm_X11_done_30 rfl (q_tr (e := 1) ht (hdid _ (q_cl ht)) (by decide)).1 rfl ?_
  refine G.aload_n (pc := 31) dm_X11_done_31 rfl ?_
  refine G.getfield (pc := 32) dm_X11_done_32 gf_X11_63 rfl rfl ?_
  refine G.iload (pc := 35) dm_X11_done_35 rfl ?_
  refine G.iconst (pc := 37) (v := (1 : Int32)) dm_X11_done_37 qi_1 ?_
  refine G.iadd (pc := 38) dm_X11_done_38 ?_
  refine G.aload_n (pc := 39) dm_X11_done_39 rfl ?_
  refine G.getfield (pc := 40) dm_X11_done_40 gf_X11_291 rfl rfl ?_
  refine G.iastore (pc := 43) (ws1 := (w_M refusal wheel now length at_ fault faultLine line words labels targets wrong unfit text code_ label labelWord target targetWord targetLine store common low high register address status did ready timer (upd (upd trace (Int32.toNatClampNeg (((48 : Int32) * t) + ((3 : Int32) * ((did (Int32.toNatClampNeg t)) - (did (Int32.toNatClampNeg t)) / (16 : Int32) * (16 : Int32))))) (address (Int32.toNatClampNeg t))) (Int32.toNatClampNeg ((((48 : Int32) * t) + ((3 : Int32) * ((did (Int32.toNatClampNeg t)) - (did (Int32.toNatClampNeg t)) / (16 : Int32) * (16 : Int32)))) + (1 : Int32))) now))) dm_X11_done_43 rfl (q_tr ht (hdid _ (q_cl ht)) (by decide)).2 rfl ?_
  refine G.aload_n (pc := 44) dm_X11_done_44 rfl ?_
  refine G.getfield (pc := 45) dm_X11_done_45 gf_X11_63 rfl rfl ?_
  refine G.iload (pc := 48) dm_X11_done_48 rfl ?_
  refine G.iconst (pc := 50) (v := (2 : Int32)) dm_X11_done_50 qi_2 ?_
  refine G.iadd (pc := 51) dm_X11_done_51 ?_
  refine G.iload_n (pc := 52) dm_X11_done_52 rfl ?_
  refine G.iastore (pc := 53) (ws1 := (w_M refusal wheel now length at_ fault faultLine line words labels targets wrong unfit text code_ label labelWord target targetWord targetLine store common low high register address status did ready timer (upd (upd (upd trace (Int32.toNatClampNeg (((48 : Int32) * t) + ((3 : Int32) * ((did (Int32.toNatClampNeg t)) - (did (Int32.toNatClampNeg t)) / (16 : Int32) * (16 : Int32))))) (address (Int32.toNatClampNeg t))) (Int32.toNatClampNeg ((((48 : Int32) * t) + ((3 : Int32) * ((did (Int32.toNatClampNeg t)) - (did (Int32.toNatClampNeg t)) / (16 : Int32) * (16 : Int32)))) + (1 : Int32))) now) (Int32.toNatClampNeg ((((48 : Int32) * t) + ((3 : Int32) * ((did (Int32.toNatClampNeg t)) - (did (Int32.toNatClampNeg t)) / (16 : Int32) * (16 : Int32)))) + (2 : Int32))) when))) dm_X11_done_53 rfl (q_tr ht (hdid _ (q_cl ht)) (by decide)).2 rfl ?_
  refine G.aload_n (pc := 54) dm_X11_done_54 rfl ?_
  refine G.getfield (pc := 55) dm_X11_done_55 gf_X11_54 rfl rfl ?_
  refine G.iload_n (pc := 58) dm_X11_done_58 rfl ?_
  refine G.dup2 (pc := 59) dm_X11_done_59 rfl rfl ?_
  refine G.iaload (pc := 60) dm_X11_done_60 rfl (q_t ht) ?_
  refine G.iconst (pc := 61) (v := (1 : Int32)) dm_X11_done_61 qi_1 ?_
  refine G.iadd (pc := 62) dm_X11_done_62 ?_
  refine G.iastore (pc := 63) (ws1 := (w_M refusal wheel now length at_ fault faultLine line words labels targets wrong unfit text code_ label labelWord target targetWord targetLine store common low high register address status (upd did (Int32.toNatClampNeg t) ((did (Int32.toNatClampNeg t)) + (1 : Int32))) ready timer (upd (upd (upd trace (Int32.toNatClampNeg (((48 : Int32) * t) + ((3 : Int32) * ((did (Int32.toNatClampNeg t)) - (did (Int32.toNatClampNeg t)) / (16 : Int32) * (16 : Int32))))) (address (Int32.toNatClampNeg t))) (Int32.toNatClampNeg ((((48 : Int32) * t) + ((3 : Int32) * ((did (Int32.toNatClampNeg t)) - (did (Int32.toNatClampNeg t)) / (16 : Int32) * (16 : Int32)))) + (1 : Int32))) now) (Int32.toNatClampNeg ((((48 : Int32) * t) + ((3 : Int32) * ((did (Int32.toNatClampNeg t)) - (did (Int32.toNatClampNeg t)) / (16 : Int32) * (16 : Int32)))) + (2 : Int32))) when))) dm_X11_done_63 rfl (q_t ht) rfl ?_
  refine G.aload_n (pc := 64) dm_X11_done_64 rfl ?_
  refine G.getfield (pc := 65) dm_X11_done_65 gf_X11_48 rfl rfl ?_
  refine G.iload_n (pc := 68) dm_X11_done_68 rfl ?_
  refine G.iload_n (pc := 69) dm_X11_done_69 rfl ?_
  refine G.iastore (pc := 70) (ws1 := (w_M refusal wheel now length at_ fault faultLine line words labels targets wrong unfit text code_ label labelWord target targetWord targetLine store common low high register (upd address (Int32.toNatClampNeg t) a) status (upd did (Int32.toNatClampNeg t) ((did (Int32.toNatClampNeg t)) + (1 : Int32))) ready timer (upd (upd (upd trace (Int32.toNatClampNeg (((48 : Int32) * t) + ((3 : Int32) * ((did (Int32.toNatClampNeg t)) - (did (Int32.toNatClampNeg t)) / (16 : Int32) * (16 : Int32))))) (address (Int32.toNatClampNeg t))) (Int32.toNatClampNeg ((((48 : Int32) * t) + ((3 : Int32) * ((did (Int32.toNatClampNeg t)) - (did (Int32.toNatClampNeg t)) / (16 : Int32) * (16 : Int32)))) + (1 : Int32))) now) (Int32.toNatClampNeg ((((48 : Int32) * t) + ((3 : Int32) * ((did (Int32.toNatClampNeg t)) - (did (Int32.toNatClampNeg t)) / (16 : Int32) * (16 : Int32)))) + (2 : Int32))) when))) dm_X11_done_70 rfl (q_t ht) rfl ?_
  refine G.aload_n (pc := 71) dm_X11_done_71 rfl ?_
  refine G.getfield (pc := 72) dm_X11_done_72 gf_X11_57 rfl rfl ?_
  refine G.iload_n (pc := 75) dm_X11_done_75 rfl ?_
  refine G.iload_n (pc := 76) dm_X11_done_76 rfl ?_
  refine G.iastore (pc := 77) (ws1 := (w_M refusal wheel now length at_ fault faultLine line words labels targets wrong unfit text code_ label labelWord target targetWord targetLine store common low high register (upd address (Int32.toNatClampNeg t) a) status (upd did (Int32.toNatClampNeg t) ((did (Int32.toNatClampNeg t)) + (1 : Int32))) (upd ready (Int32.toNatClampNeg t) when) timer (upd (upd (upd trace (Int32.toNatClampNeg (((48 : Int32) * t) + ((3 : Int32) * ((did (Int32.toNatClampNeg t)) - (did (Int32.toNatClampNeg t)) / (16 : Int32) * (16 : Int32))))) (address (Int32.toNatClampNeg t))) (Int32.toNatClampNeg ((((48 : Int32) * t) + ((3 : Int32) * ((did (Int32.toNatClampNeg t)) - (did (Int32.toNatClampNeg t)) / (16 : Int32) * (16 : Int32)))) + (1 : Int32))) now) (Int32.toNatClampNeg ((((48 : Int32) * t) + ((3 : Int32) * ((did (Int32.toNatClampNeg t)) - (did (Int32.toNatClampNeg t)) / (16 : Int32) * (16 : Int32)))) + (2 : Int32))) when))) dm_X11_done_77 rfl (q_t ht) rfl ?_
  refine G.iconst (pc := 78) (v := (1 : Int32)) dm_X11_done_78 qi_1 ?_
  cases hres
  exact G.ireturn (pc := 79) dm_X11_done_79 rfl rfl rfl
abbrev M_X11_isThere : g_M := (cX11_isThere, 4, RX11, (some .boolean), { frames := 1, cells := 0, slots := 0, locals := 20 }, 0, 0)
theorem dm_X11_isThere_0 : decode M_X11_isThere.1 0 = .ok (.iload_n 2, 1) := by decide +kernel
theorem dm_X11_isThere_1 : decode M_X11_isThere.1 1 = .ok (.iload_n 3, 1) := by decide +kernel
theorem dm_X11_isThere_2 : decode M_X11_isThere.1 2 = .ok (.iconst 1, 1) := by decide +kernel
theorem dm_X11_isThere_3 : decode M_X11_isThere.1 3 = .ok (.isub, 1) := by decide +kernel
theorem dm_X11_isThere_4 : decode M_X11_isThere.1 4 = .ok (.iand, 1) := by decide +kernel
theorem dm_X11_isThere_5 : decode M_X11_isThere.1 5 = .ok (.ifCond .eq 5, 3) := by decide +kernel
theorem dm_X11_isThere_8 : decode M_X11_isThere.1 8 = .ok (.iconst 0, 1) := by decide +kernel
theorem dm_X11_isThere_9 : decode M_X11_isThere.1 9 = .ok (.ireturn, 1) := by decide +kernel
theorem dm_X11_isThere_10 : decode M_X11_isThere.1 10 = .ok (.iload_n 2, 1) := by decide +kernel
theorem dm_X11_isThere_11 : decode M_X11_isThere.1 11 = .ok (.invokestatic 288, 3) := by decide +kernel
theorem dm_X11_isThere_14 : decode M_X11_isThere.1 14 = .ok (.ifCond .ne 35, 3) := by decide +kernel
theorem dm_X11_isThere_17 : decode M_X11_isThere.1 17 = .ok (.iload_n 2, 1) := by decide +kernel
theorem dm_X11_isThere_18 : decode M_X11_isThere.1 18 = .ok (.sipush 4096, 3) := by decide +kernel
theorem dm_X11_isThere_21 : decode M_X11_isThere.1 21 = .ok (.iconst 4, 1) := by decide +kernel
theorem dm_X11_isThere_22 : decode M_X11_isThere.1 22 = .ok (.aload_n 0, 1) := by decide +kernel
theorem dm_X11_isThere_23 : decode M_X11_isThere.1 23 = .ok (.getfield 39, 3) := by decide +kernel
theorem dm_X11_isThere_26 : decode M_X11_isThere.1 26 = .ok (.iload_n 1, 1) := by decide +kernel
theorem dm_X11_isThere_27 : decode M_X11_isThere.1 27 = .ok (.iaload, 1) := by decide +kernel
theorem dm_X11_isThere_28 : decode M_X11_isThere.1 28 = .ok (.imul, 1) := by decide +kernel
theorem dm_X11_isThere_29 : decode M_X11_isThere.1 29 = .ok (.iadd, 1) := by decide +kernel
theorem dm_X11_isThere_30 : decode M_X11_isThere.1 30 = .ok (.if_icmp .lt 23, 3) := by decide +kernel
theorem dm_X11_isThere_33 : decode M_X11_isThere.1 33 = .ok (.iload_n 2, 1) := by decide +kernel
theorem dm_X11_isThere_34 : decode M_X11_isThere.1 34 = .ok (.sipush 4096, 3) := by decide +kernel
theorem dm_X11_isThere_37 : decode M_X11_isThere.1 37 = .ok (.iconst 4, 1) := by decide +kernel
theorem dm_X11_isThere_38 : decode M_X11_isThere.1 38 = .ok (.aload_n 0, 1) := by decide +kernel
theorem dm_X11_isThere_39 : decode M_X11_isThere.1 39 = .ok (.getfield 42, 3) := by decide +kernel
theorem dm_X11_isThere_42 : decode M_X11_isThere.1 42 = .ok (.iload_n 1, 1) := by decide +kernel
theorem dm_X11_isThere_43 : decode M_X11_isThere.1 43 = .ok (.iaload, 1) := by decide +kernel
theorem dm_X11_isThere_44 : decode M_X11_isThere.1 44 = .ok (.imul, 1) := by decide +kernel
theorem dm_X11_isThere_45 : decode M_X11_isThere.1 45 = .ok (.iadd, 1) := by decide +kernel
theorem dm_X11_isThere_46 : decode M_X11_isThere.1 46 = .ok (.if_icmp .ge 7, 3) := by decide +kernel
theorem dm_X11_isThere_49 : decode M_X11_isThere.1 49 = .ok (.iconst 1, 1) := by decide +kernel
theorem dm_X11_isThere_50 : decode M_X11_isThere.1 50 = .ok (.goto 4, 3) := by decide +kernel
theorem dm_X11_isThere_53 : decode M_X11_isThere.1 53 = .ok (.iconst 0, 1) := by decide +kernel
theorem dm_X11_isThere_54 : decode M_X11_isThere.1 54 = .ok (.ireturn, 1) := by decide +kernel
theorem gc_X11_isThere_288 : g_cs M_X11_isThere 288 M_X11_isOwn yX11_isOwn 1 := ⟨tw770, tw771, tw5, tw772, ⟨rfl, rfl, rfl, rfl⟩, gd_X11_isOwn, ⟨by decide, by decide⟩⟩
def f_X11_isThere_c11 (t : Int32) (a : Int32) (low : Nat → Int32) (high : Nat → Int32) (z1_0 : Int32) : Int32 := (if z1_0 = 0 then (if a < ((4096 : Int32) + ((4 : Int32) * (low (Int32.toNatClampNeg t)))) then (0 : Int32) else (if ((4096 : Int32) + ((4 : Int32) * (high (Int32.toNatClampNeg t)))) ≤ a then (0 : Int32) else (1 : Int32))) else (1 : Int32))
def f_X11_isThere (t : Int32) (a : Int32) (size : Int32) (low : Nat → Int32) (high : Nat → Int32) : Int32 := (if (a &&& (size - (1 : Int32))) = 0 then (f_X11_isThere_c11 t a low high (f_X11_isOwn a)) else (0 : Int32))
set_option maxRecDepth 20000 in
theorem k_X11_isThere {t : Int32} {a : Int32} {size : Int32} {refusal : Int32} {wheel : Int32} {now : Int32} {length : Int32} {at_ : Int32} {fault : Int32} {faultLine : Int32} {line : Int32} {words : Int32} {labels : Int32} {targets : Int32} {wrong : Int32} {unfit : Int32} {text : Nat → Int32} {code_ : Nat → Int32} {label : Nat → Int64} {labelWord : Nat → Int32} {target : Nat → Int64} {targetWord : Nat → Int32} {targetLine : Nat → Int32} {store : Nat → Int32} {common : Nat → Int32} {low : Nat → Int32} {high : Nat → Int32} {register : Nat → Int32} {address : Nat → Int32} {status : Nat → Int32} {did : Nat → Int32} {ready : Nat → Int32} {timer : Nat → Int32} {trace : Nat → Int32} (ht : 0 ≤ t.toInt ∧ t.toInt < 4) {r_0 : Int32} (hres : r_0 = f_X11_isThere t a size low high) : K M_X11_isThere yX11_isThere [.ref 0, .int t, .int a, .int size] (w_M refusal wheel now length at_ fault faultLine line words labels targets wrong unfit text code_ label labelWord target targetWord targetLine store common low high register address status did ready timer trace) (some (.int r_0)) (w_M refusal wheel now length at_ fault faultLine line words labels targets wrong unfit text code_ label labelWord target targetWord targetLine store common low high register address status did ready timer trace) := by
  refine K.of (lv := [(0, .ref 0), (1, .int t), (2, .int a), (3, .int size)]) (by decide +kernel) rfl rfl rfl ?_
  rw [f_X11_isThere] at hres
  refine G.iload_n (pc := 0) dm_X11_isThere_0 rfl ?_
  refine G.iload_n (pc := 1) dm_X11_isThere_1 rfl ?_
  refine G.iconst (pc := 2) (v := (1 : Int32)) dm_X11_isThere_2 qi_1 ?_
  refine G.isub (pc := 3) dm_X11_isThere_3 ?_
  refine G.iand (pc := 4) dm_X11_isThere_4 ?_
  refine G.if_eq (pc := 5) (tgt := 10) dm_X11_isThere_5 (by decide) (fun c5 => ?_) (fun c5 => ?_)
  · rw [if_pos c5] at hres
    refine G.iload_n (pc := 10) dm_X11_isThere_10 rfl ?_
    obtain ⟨z1_0, hz1⟩ := g_ex1 (f_X11_isOwn a)
    refine G.callS (pc := 11) (rest := []) (st1 := [.int z1_0]) (ws1 := (w_M refusal wheel now length at_ fault faultLine line words labels targets wrong unfit text code_ label labelWord target targetWord targetLine store common low high register address status did ready timer trace)) [] dm_X11_isThere_11 gc_X11_isThere_288 (k_X11_isOwn (a := a) hz1) rfl rfl rfl rfl rfl rfl rfl rfl ?_
    replace hres : r_0 = f_X11_isThere_c11 t a low high z1_0 := hres.trans (by rw [← hz1])
    rw [f_X11_isThere_c11] at hres
    refine G.if_ne (pc := 14) (tgt := 49) dm_X11_isThere_14 (by decide) (fun c14 => ?_) (fun c14 => ?_)
    · rw [if_neg c14] at hres
      refine G.iconst (pc := 49) (v := (1 : Int32)) dm_X11_isThere_49 qi_1 ?_
      refine G.goto (pc := 50) (tgt := 54) dm_X11_isThere_50 (by decide) ?_
      subst hres
      exact G.zreturn (pc := 54) dm_X11_isThere_54 rfl (by decide) rfl rfl
    · rw [if_pos c14] at hres
      refine G.iload_n (pc := 17) dm_X11_isThere_17 rfl ?_
      refine G.sipush (pc := 18) (v := (4096 : Int32)) dm_X11_isThere_18 qs_4096 ?_
      refine G.iconst (pc := 21) (v := (4 : Int32)) dm_X11_isThere_21 qi_4 ?_
      refine G.aload_n (pc := 22) dm_X11_isThere_22 rfl ?_
      refine G.getfield (pc := 23) dm_X11_isThere_23 gf_X11_39 rfl rfl ?_
      refine G.iload_n (pc := 26) dm_X11_isThere_26 rfl ?_
      refine G.iaload (pc := 27) dm_X11_isThere_27 rfl (q_t ht) ?_
      refine G.imul (pc := 28) dm_X11_isThere_28 ?_
      refine G.iadd (pc := 29) dm_X11_isThere_29 ?_
      refine G.icmp_lt (pc := 30) (tgt := 53) dm_X11_isThere_30 (by decide) (fun c30 => ?_) (fun c30 => ?_)
      · rw [if_pos c30] at hres
        refine G.iconst (pc := 53) (v := (0 : Int32)) dm_X11_isThere_53 qi_0 ?_
        subst hres
        exact G.zreturn (pc := 54) dm_X11_isThere_54 rfl (by decide) rfl rfl
      · rw [if_neg c30] at hres
        refine G.iload_n (pc := 33) dm_X11_isThere_33 rfl ?_
        refine G.sipush (pc := 34) (v := (4096 : Int32)) dm_X11_isThere_34 qs_4096 ?_
        refine G.iconst (pc := 37) (v := (4 : Int32)) dm_X11_isThere_37 qi_4 ?_
        refine G.aload_n (pc := 38) dm_X11_isThere_38 rfl ?_
        refine G.getfield (pc := 39) dm_X11_isThere_39 gf_X11_42 rfl rfl ?_
        refine G.iload_n (pc := 42) dm_X11_isThere_42 rfl ?_
        refine G.iaload (pc := 43) dm_X11_isThere_43 rfl (q_t ht) ?_
        refine G.imul (pc := 44) dm_X11_isThere_44 ?_
        refine G.iadd (pc := 45) dm_X11_isThere_45 ?_
        refine G.icmp_ge (pc := 46) (tgt := 53) dm_X11_isThere_46 (by decide) (fun c46 => ?_) (fun c46 => ?_)
        · rw [if_pos c46] at hres
          refine G.iconst (pc := 53) (v := (0 : Int32)) dm_X11_isThere_53 qi_0 ?_
          subst hres
          exact G.zreturn (pc := 54) dm_X11_isThere_54 rfl (by decide) rfl rfl
        · rw [if_neg c46] at hres
          refine G.iconst (pc := 49) (v := (1 : Int32)) dm_X11_isThere_49 qi_1 ?_
          refine G.goto (pc := 50) (tgt := 54) dm_X11_isThere_50 (by decide) ?_
          subst hres
          exact G.zreturn (pc := 54) dm_X11_isThere_54 rfl (by decide) rfl rfl
  · rw [if_neg c5] at hres
    refine G.iconst (pc := 8) (v := (0 : Int32)) dm_X11_isThere_8 qi_0 ?_
    subst hres
    exact G.zreturn (pc := 9) dm_X11_isThere_9 rfl (by decide) rfl rfl
theorem a_isThere {t a size z : Int32} {low high : Nat → Int32} (h : f_X11_isThere t a size low high = z) (ht : 0 ≤ t.toInt ∧ t.toInt < 4) (hlh : ∀ j, j < 4 → 0 ≤ (low j).toInt ∧ (low j).toInt ≤ (high j).toInt ∧ (high j).toInt ≤ 64) : ¬ z = 0 → (0 ≤ a.toInt ∧ a.toInt < 512) ∨ (4096 ≤ a.toInt ∧ a.toInt < 4352) := by
  subst h
  unfold f_X11_isThere f_X11_isThere_c11
  intro hz
  have hl := hlh _ (q_cl ht)
  have h1 := q_4096 (x := low t.toNatClampNeg) ⟨hl.1, by omega⟩
  have h2 := q_4096 (x := high t.toNatClampNeg) ⟨by omega, hl.2.2⟩
  split at hz
  · split at hz
    · split at hz
      · exact absurd rfl hz
      · rename_i c1
        split at hz
        · exact absurd rfl hz
        · rename_i c2
          have := q_nlt c1
          have := q_nle c2
          omega
    · rename_i c0
      exact Or.inl ((a_isOwn rfl).1 c0)
  · exact absurd rfl hz
abbrev M_X11_wordAt : g_M := (cX11_wordAt, 3, RX11, (some .int), { frames := 1, cells := 0, slots := 0, locals := 20 }, 0, 0)
theorem dm_X11_wordAt_0 : decode M_X11_wordAt.1 0 = .ok (.iload_n 2, 1) := by decide +kernel
theorem dm_X11_wordAt_1 : decode M_X11_wordAt.1 1 = .ok (.invokestatic 288, 3) := by decide +kernel
theorem dm_X11_wordAt_4 : decode M_X11_wordAt.1 4 = .ok (.ifCond .eq 20, 3) := by decide +kernel
theorem dm_X11_wordAt_7 : decode M_X11_wordAt.1 7 = .ok (.aload_n 0, 1) := by decide +kernel
theorem dm_X11_wordAt_8 : decode M_X11_wordAt.1 8 = .ok (.getfield 33, 3) := by decide +kernel
theorem dm_X11_wordAt_11 : decode M_X11_wordAt.1 11 = .ok (.sipush 128, 3) := by decide +kernel
theorem dm_X11_wordAt_14 : decode M_X11_wordAt.1 14 = .ok (.iload_n 1, 1) := by decide +kernel
theorem dm_X11_wordAt_15 : decode M_X11_wordAt.1 15 = .ok (.imul, 1) := by decide +kernel
theorem dm_X11_wordAt_16 : decode M_X11_wordAt.1 16 = .ok (.iload_n 2, 1) := by decide +kernel
theorem dm_X11_wordAt_17 : decode M_X11_wordAt.1 17 = .ok (.iconst 4, 1) := by decide +kernel
theorem dm_X11_wordAt_18 : decode M_X11_wordAt.1 18 = .ok (.idiv, 1) := by decide +kernel
theorem dm_X11_wordAt_19 : decode M_X11_wordAt.1 19 = .ok (.iadd, 1) := by decide +kernel
theorem dm_X11_wordAt_20 : decode M_X11_wordAt.1 20 = .ok (.iaload, 1) := by decide +kernel
theorem dm_X11_wordAt_21 : decode M_X11_wordAt.1 21 = .ok (.goto 15, 3) := by decide +kernel
theorem dm_X11_wordAt_24 : decode M_X11_wordAt.1 24 = .ok (.aload_n 0, 1) := by decide +kernel
theorem dm_X11_wordAt_25 : decode M_X11_wordAt.1 25 = .ok (.getfield 36, 3) := by decide +kernel
theorem dm_X11_wordAt_28 : decode M_X11_wordAt.1 28 = .ok (.iload_n 2, 1) := by decide +kernel
theorem dm_X11_wordAt_29 : decode M_X11_wordAt.1 29 = .ok (.sipush 4096, 3) := by decide +kernel
theorem dm_X11_wordAt_32 : decode M_X11_wordAt.1 32 = .ok (.isub, 1) := by decide +kernel
theorem dm_X11_wordAt_33 : decode M_X11_wordAt.1 33 = .ok (.iconst 4, 1) := by decide +kernel
theorem dm_X11_wordAt_34 : decode M_X11_wordAt.1 34 = .ok (.idiv, 1) := by decide +kernel
theorem dm_X11_wordAt_35 : decode M_X11_wordAt.1 35 = .ok (.iaload, 1) := by decide +kernel
theorem dm_X11_wordAt_36 : decode M_X11_wordAt.1 36 = .ok (.ireturn, 1) := by decide +kernel
theorem gc_X11_wordAt_288 : g_cs M_X11_wordAt 288 M_X11_isOwn yX11_isOwn 1 := ⟨tw770, tw771, tw5, tw772, ⟨rfl, rfl, rfl, rfl⟩, gd_X11_isOwn, ⟨by decide, by decide⟩⟩
def f_X11_wordAt_c1 (t : Int32) (a : Int32) (store : Nat → Int32) (common : Nat → Int32) (z1_0 : Int32) : Int32 := (if z1_0 = 0 then (common (Int32.toNatClampNeg ((a - (4096 : Int32)) / (4 : Int32)))) else (store (Int32.toNatClampNeg (((128 : Int32) * t) + (a / (4 : Int32))))))
def f_X11_wordAt (t : Int32) (a : Int32) (store : Nat → Int32) (common : Nat → Int32) : Int32 := (f_X11_wordAt_c1 t a store common (f_X11_isOwn a))
set_option maxRecDepth 20000 in
theorem k_X11_wordAt {t : Int32} {a : Int32} {refusal : Int32} {wheel : Int32} {now : Int32} {length : Int32} {at_ : Int32} {fault : Int32} {faultLine : Int32} {line : Int32} {words : Int32} {labels : Int32} {targets : Int32} {wrong : Int32} {unfit : Int32} {text : Nat → Int32} {code_ : Nat → Int32} {label : Nat → Int64} {labelWord : Nat → Int32} {target : Nat → Int64} {targetWord : Nat → Int32} {targetLine : Nat → Int32} {store : Nat → Int32} {common : Nat → Int32} {low : Nat → Int32} {high : Nat → Int32} {register : Nat → Int32} {address : Nat → Int32} {status : Nat → Int32} {did : Nat → Int32} {ready : Nat → Int32} {timer : Nat → Int32} {trace : Nat → Int32} (ht : 0 ≤ t.toInt ∧ t.toInt < 4) (hwa : (0 ≤ a.toInt ∧ a.toInt < 512) ∨ (4096 ≤ a.toInt ∧ a.toInt < 4352)) {r_0 : Int32} (hres : r_0 = f_X11_wordAt t a store common) : K M_X11_wordAt yX11_wordAt [.ref 0, .int t, .int a] (w_M refusal wheel now length at_ fault faultLine line words labels targets wrong unfit text code_ label labelWord target targetWord targetLine store common low high register address status did ready timer trace) (some (.int r_0)) (w_M refusal wheel now length at_ fault faultLine line words labels targets wrong unfit text code_ label labelWord target targetWord targetLine store common low high register address status did ready timer trace) := by
  refine K.of (lv := [(0, .ref 0), (1, .int t), (2, .int a)]) (by decide +kernel) rfl rfl rfl ?_
  rw [f_X11_wordAt] at hres
  refine G.iload_n (pc := 0) dm_X11_wordAt_0 rfl ?_
  obtain ⟨z1_0, hz1⟩ := g_ex1 (f_X11_isOwn a)
  refine G.callS (pc := 1) (rest := []) (st1 := [.int z1_0]) (ws1 := (w_M refusal wheel now length at_ fault faultLine line words labels targets wrong unfit text code_ label labelWord target targetWord targetLine store common low high register address status did ready timer trace)) [] dm_X11_wordAt_1 gc_X11_wordAt_288 (k_X11_isOwn (a := a) hz1) rfl rfl rfl rfl rfl rfl rfl rfl ?_
  have own := a_isOwn hz1.symm
  replace hres : r_0 = f_X11_wordAt_c1 t a store common z1_0 := hres.trans (by rw [← hz1])
  rw [f_X11_wordAt_c1] at hres
  refine G.if_eq (pc := 4) (tgt := 24) dm_X11_wordAt_4 (by decide) (fun c4 => ?_) (fun c4 => ?_)
  · rw [if_pos c4] at hres
    refine G.aload_n (pc := 24) dm_X11_wordAt_24 rfl ?_
    refine G.getfield (pc := 25) dm_X11_wordAt_25 gf_X11_36 rfl rfl ?_
    refine G.iload_n (pc := 28) dm_X11_wordAt_28 rfl ?_
    refine G.sipush (pc := 29) (v := (4096 : Int32)) dm_X11_wordAt_29 qs_4096 ?_
    refine G.isub (pc := 32) dm_X11_wordAt_32 ?_
    refine G.iconst (pc := 33) (v := (4 : Int32)) dm_X11_wordAt_33 qi_4 ?_
    refine G.idiv (pc := 34) dm_X11_wordAt_34 (by decide) ?_
    refine G.iaload (pc := 35) dm_X11_wordAt_35 rfl (q_sh (hwa.resolve_left (fun h => by have := own.2 c4; omega))) ?_
    subst hres
    exact G.ireturn (pc := 36) dm_X11_wordAt_36 rfl rfl rfl
  · rw [if_neg c4] at hres
    refine G.aload_n (pc := 7) dm_X11_wordAt_7 rfl ?_
    refine G.getfield (pc := 8) dm_X11_wordAt_8 gf_X11_33 rfl rfl ?_
    refine G.sipush (pc := 11) (v := (128 : Int32)) dm_X11_wordAt_11 qs_128 ?_
    refine G.iload_n (pc := 14) dm_X11_wordAt_14 rfl ?_
    refine G.imul (pc := 15) dm_X11_wordAt_15 ?_
    refine G.iload_n (pc := 16) dm_X11_wordAt_16 rfl ?_
    refine G.iconst (pc := 17) (v := (4 : Int32)) dm_X11_wordAt_17 qi_4 ?_
    refine G.idiv (pc := 18) dm_X11_wordAt_18 (by decide) ?_
    refine G.iadd (pc := 19) dm_X11_wordAt_19 ?_
    refine G.iaload (pc := 20) dm_X11_wordAt_20 rfl (q_w4 ht (own.1 c4)) ?_
    refine G.goto (pc := 21) (tgt := 36) dm_X11_wordAt_21 (by decide) ?_
    subst hres
    exact G.ireturn (pc := 36) dm_X11_wordAt_36 rfl rfl rfl
abbrev M_X11_put : g_M := (cX11_put, 4, RX11, none, { frames := 1, cells := 0, slots := 0, locals := 20 }, 0, 0)
theorem dm_X11_put_0 : decode M_X11_put.1 0 = .ok (.iload_n 2, 1) := by decide +kernel
theorem dm_X11_put_1 : decode M_X11_put.1 1 = .ok (.invokestatic 288, 3) := by decide +kernel
theorem dm_X11_put_4 : decode M_X11_put.1 4 = .ok (.ifCond .eq 21, 3) := by decide +kernel
theorem dm_X11_put_7 : decode M_X11_put.1 7 = .ok (.aload_n 0, 1) := by decide +kernel
theorem dm_X11_put_8 : decode M_X11_put.1 8 = .ok (.getfield 33, 3) := by decide +kernel
theorem dm_X11_put_11 : decode M_X11_put.1 11 = .ok (.sipush 128, 3) := by decide +kernel
theorem dm_X11_put_14 : decode M_X11_put.1 14 = .ok (.iload_n 1, 1) := by decide +kernel
theorem dm_X11_put_15 : decode M_X11_put.1 15 = .ok (.imul, 1) := by decide +kernel
theorem dm_X11_put_16 : decode M_X11_put.1 16 = .ok (.iload_n 2, 1) := by decide +kernel
theorem dm_X11_put_17 : decode M_X11_put.1 17 = .ok (.iconst 4, 1) := by decide +kernel
theorem dm_X11_put_18 : decode M_X11_put.1 18 = .ok (.idiv, 1) := by decide +kernel
theorem dm_X11_put_19 : decode M_X11_put.1 19 = .ok (.iadd, 1) := by decide +kernel
theorem dm_X11_put_20 : decode M_X11_put.1 20 = .ok (.iload_n 3, 1) := by decide +kernel
theorem dm_X11_put_21 : decode M_X11_put.1 21 = .ok (.iastore, 1) := by decide +kernel
theorem dm_X11_put_22 : decode M_X11_put.1 22 = .ok (.goto 16, 3) := by decide +kernel
theorem dm_X11_put_25 : decode M_X11_put.1 25 = .ok (.aload_n 0, 1) := by decide +kernel
theorem dm_X11_put_26 : decode M_X11_put.1 26 = .ok (.getfield 36, 3) := by decide +kernel
theorem dm_X11_put_29 : decode M_X11_put.1 29 = .ok (.iload_n 2, 1) := by decide +kernel
theorem dm_X11_put_30 : decode M_X11_put.1 30 = .ok (.sipush 4096, 3) := by decide +kernel
theorem dm_X11_put_33 : decode M_X11_put.1 33 = .ok (.isub, 1) := by decide +kernel
theorem dm_X11_put_34 : decode M_X11_put.1 34 = .ok (.iconst 4, 1) := by decide +kernel
theorem dm_X11_put_35 : decode M_X11_put.1 35 = .ok (.idiv, 1) := by decide +kernel
theorem dm_X11_put_36 : decode M_X11_put.1 36 = .ok (.iload_n 3, 1) := by decide +kernel
theorem dm_X11_put_37 : decode M_X11_put.1 37 = .ok (.iastore, 1) := by decide +kernel
theorem dm_X11_put_38 : decode M_X11_put.1 38 = .ok (.return_, 1) := by decide +kernel
theorem gc_X11_put_288 : g_cs M_X11_put 288 M_X11_isOwn yX11_isOwn 1 := ⟨tw770, tw771, tw5, tw772, ⟨rfl, rfl, rfl, rfl⟩, gd_X11_isOwn, ⟨by decide, by decide⟩⟩
def f_X11_put_c1 (t : Int32) (a : Int32) (v : Int32) (store : Nat → Int32) (common : Nat → Int32) (z1_0 : Int32) : (Nat → Int32) × (Nat → Int32) := (if z1_0 = 0 then (store, (upd common (Int32.toNatClampNeg ((a - (4096 : Int32)) / (4 : Int32))) v)) else ((upd store (Int32.toNatClampNeg (((128 : Int32) * t) + (a / (4 : Int32)))) v), common))
def f_X11_put (t : Int32) (a : Int32) (v : Int32) (store : Nat → Int32) (common : Nat → Int32) : (Nat → Int32) × (Nat → Int32) := (f_X11_put_c1 t a v store common (f_X11_isOwn a))
set_option maxRecDepth 20000 in
theorem k_X11_put {t : Int32} {a : Int32} {v : Int32} {refusal : Int32} {wheel : Int32} {now : Int32} {length : Int32} {at_ : Int32} {fault : Int32} {faultLine : Int32} {line : Int32} {words : Int32} {labels : Int32} {targets : Int32} {wrong : Int32} {unfit : Int32} {text : Nat → Int32} {code_ : Nat → Int32} {label : Nat → Int64} {labelWord : Nat → Int32} {target : Nat → Int64} {targetWord : Nat → Int32} {targetLine : Nat → Int32} {store : Nat → Int32} {common : Nat → Int32} {low : Nat → Int32} {high : Nat → Int32} {register : Nat → Int32} {address : Nat → Int32} {status : Nat → Int32} {did : Nat → Int32} {ready : Nat → Int32} {timer : Nat → Int32} {trace : Nat → Int32} (ht : 0 ≤ t.toInt ∧ t.toInt < 4) (hwa : (0 ≤ a.toInt ∧ a.toInt < 512) ∨ (4096 ≤ a.toInt ∧ a.toInt < 4352)) {r_0 : (Nat → Int32)} {r_1 : (Nat → Int32)} (hres : (r_0, r_1) = f_X11_put t a v store common) : K M_X11_put yX11_put [.ref 0, .int t, .int a, .int v] (w_M refusal wheel now length at_ fault faultLine line words labels targets wrong unfit text code_ label labelWord target targetWord targetLine store common low high register address status did ready timer trace) (none) (w_M refusal wheel now length at_ fault faultLine line words labels targets wrong unfit text code_ label labelWord target targetWord targetLine r_0 r_1 low high register address status did ready timer trace) := by
  refine K.of (lv := [(0, .ref 0), (1, .int t), (2, .int a), (3, .int v)]) (by decide +kernel) rfl rfl rfl ?_
  rw [f_X11_put] at hres
  refine G.iload_n (pc := 0) dm_X11_put_0 rfl ?_
  obtain ⟨z1_0, hz1⟩ := g_ex1 (f_X11_isOwn a)
  refine G.callS (pc := 1) (rest := []) (st1 := [.int z1_0]) (ws1 := (w_M refusal wheel now length at_ fault faultLine line words labels targets wrong unfit text code_ label labelWord target targetWord targetLine store common low high register address status did ready timer trace)) [] dm_X11_put_1 gc_X11_put_288 (k_X11_isOwn (a := a) hz1) rfl rfl rfl rfl rfl rfl rfl rfl ?_
  have own := a_isOwn hz1.symm
  replace hres : (r_0, r_1) = f_X11_put_c1 t a v store common z1_0 := hres.trans (by rw [← hz1])
  rw [f_X11_put_c1] at hres
  refine G.if_eq (pc := 4) (tgt := 25) dm_X11_put_4 (by decide) (fun c4 => ?_) (fun c4 => ?_)
  · rw [if_pos c4] at hres
    refine G.aload_n (pc := 25) dm_X11_put_25 rfl ?_
    refine G.getfield (pc := 26) dm_X11_put_26 gf_X11_36 rfl rfl ?_
    refine G.iload_n (pc := 29) dm_X11_put_29 rfl ?_
    refine G.sipush (pc := 30) (v := (4096 : Int32)) dm_X11_put_30 qs_4096 ?_
    refine G.isub (pc := 33) dm_X11_put_33 ?_
    refine G.iconst (pc := 34) (v := (4 : Int32)) dm_X11_put_34 qi_4 ?_
    refine G.idiv (pc := 35) dm_X11_put_35 (by decide) ?_
    refine G.iload_n (pc := 36) dm_X11_put_36 rfl ?_
    refine G.iastore (pc := 37) (ws1 := (w_M refusal wheel now length at_ fault faultLine line words labels targets wrong unfit text code_ label labelWord target targetWord targetLine store (upd common (Int32.toNatClampNeg ((a - (4096 : Int32)) / (4 : Int32))) v) low high register address status did ready timer trace)) dm_X11_put_37 rfl (q_sh (hwa.resolve_left (fun h => by have := own.2 c4; omega))) rfl ?_
    cases hres
    exact G.vreturn (pc := 38) dm_X11_put_38 rfl rfl rfl
  · rw [if_neg c4] at hres
    refine G.aload_n (pc := 7) dm_X11_put_7 rfl ?_
    refine G.getfield (pc := 8) dm_X11_put_8 gf_X11_33 rfl rfl ?_
    refine G.sipush (pc := 11) (v := (128 : Int32)) dm_X11_put_11 qs_128 ?_
    refine G.iload_n (pc := 14) dm_X11_put_14 rfl ?_
    refine G.imul (pc := 15) dm_X11_put_15 ?_
    refine G.iload_n (pc := 16) dm_X11_put_16 rfl ?_
    refine G.iconst (pc := 17) (v := (4 : Int32)) dm_X11_put_17 qi_4 ?_
    refine G.idiv (pc := 18) dm_X11_put_18 (by decide) ?_
    refine G.iadd (pc := 19) dm_X11_put_19 ?_
    refine G.iload_n (pc := 20) dm_X11_put_20 rfl ?_
    refine G.iastore (pc := 21) (ws1 := (w_M refusal wheel now length at_ fault faultLine line words labels targets wrong unfit text code_ label labelWord target targetWord targetLine (upd store (Int32.toNatClampNeg (((128 : Int32) * t) + (a / (4 : Int32)))) v) common low high register address status did ready timer trace)) dm_X11_put_21 rfl (q_w4 ht (own.1 c4)) rfl ?_
    refine G.goto (pc := 22) (tgt := 38) dm_X11_put_22 (by decide) ?_
    cases hres
    exact G.vreturn (pc := 38) dm_X11_put_38 rfl rfl rfl
abbrev M_X11_first : g_M := (cX11_first, 3, RX11, (some .int), { frames := 0, cells := 0, slots := 0, locals := 0 }, 0, 0)
theorem dm_X11_first_0 : decode M_X11_first.1 0 = .ok (.aload_n 0, 1) := by decide +kernel
theorem dm_X11_first_1 : decode M_X11_first.1 1 = .ok (.getfield 291, 3) := by decide +kernel
theorem dm_X11_first_4 : decode M_X11_first.1 4 = .ok (.istore_n 2, 1) := by decide +kernel
theorem dm_X11_first_5 : decode M_X11_first.1 5 = .ok (.iload_n 2, 1) := by decide +kernel
theorem dm_X11_first_6 : decode M_X11_first.1 6 = .ok (.iconst 4, 1) := by decide +kernel
theorem dm_X11_first_7 : decode M_X11_first.1 7 = .ok (.aload_n 0, 1) := by decide +kernel
theorem dm_X11_first_8 : decode M_X11_first.1 8 = .ok (.getfield 66, 3) := by decide +kernel
theorem dm_X11_first_11 : decode M_X11_first.1 11 = .ok (.imul, 1) := by decide +kernel
theorem dm_X11_first_12 : decode M_X11_first.1 12 = .ok (.irem, 1) := by decide +kernel
theorem dm_X11_first_13 : decode M_X11_first.1 13 = .ok (.aload_n 0, 1) := by decide +kernel
theorem dm_X11_first_14 : decode M_X11_first.1 14 = .ok (.getfield 66, 3) := by decide +kernel
theorem dm_X11_first_17 : decode M_X11_first.1 17 = .ok (.iload_n 1, 1) := by decide +kernel
theorem dm_X11_first_18 : decode M_X11_first.1 18 = .ok (.imul, 1) := by decide +kernel
theorem dm_X11_first_19 : decode M_X11_first.1 19 = .ok (.if_icmp .eq 9, 3) := by decide +kernel
theorem dm_X11_first_22 : decode M_X11_first.1 22 = .ok (.iinc 2 1, 3) := by decide +kernel
theorem dm_X11_first_25 : decode M_X11_first.1 25 = .ok (.goto (-20), 3) := by decide +kernel
theorem dm_X11_first_28 : decode M_X11_first.1 28 = .ok (.iload_n 2, 1) := by decide +kernel
theorem dm_X11_first_29 : decode M_X11_first.1 29 = .ok (.ireturn, 1) := by decide +kernel
def f_X11_first_5 (wheel : Int32) : Nat → Int32 → Int32 → Int32
  | 0, l1, l2 => 0
  | n + 1, l1, l2 => (if (l2 - l2 / ((4 : Int32) * wheel) * ((4 : Int32) * wheel)) = (wheel * l1) then l2 else ((f_X11_first_5 wheel n) l1 (l2 + (1 : Int32))))
set_option maxRecDepth 20000 in
theorem j_X11_first_5 : ∀ (n : Nat) {l1 : Int32} {l2 : Int32} {refusal : Int32} {wheel : Int32} {now : Int32} {length : Int32} {at_ : Int32} {fault : Int32} {faultLine : Int32} {line : Int32} {words : Int32} {labels : Int32} {targets : Int32} {wrong : Int32} {unfit : Int32} {text : Nat → Int32} {code_ : Nat → Int32} {label : Nat → Int64} {labelWord : Nat → Int32} {target : Nat → Int64} {targetWord : Nat → Int32} {targetLine : Nat → Int32} {store : Nat → Int32} {common : Nat → Int32} {low : Nat → Int32} {high : Nat → Int32} {register : Nat → Int32} {address : Nat → Int32} {status : Nat → Int32} {did : Nat → Int32} {ready : Nat → Int32} {timer : Nat → Int32} {trace : Nat → Int32} {r_0 : Int32}, (hwh : 1 ≤ wheel.toInt ∧ wheel.toInt ≤ 8) → (ht : 0 ≤ l1.toInt ∧ l1.toInt < 4) → (hb : 0 ≤ l2.toInt ∧ l2.toInt + (wheel.toInt * l1.toInt - l2.toInt) % (4 * wheel.toInt) ≤ 1100040) → (((wheel.toInt * l1.toInt - l2.toInt) % (4 * wheel.toInt)).toNat) < n → r_0 = f_X11_first_5 wheel n l1 l2 → G M_X11_first 0 0 5 [(0, .ref 0), (1, .int l1), (2, .int l2)] [] (w_M refusal wheel now length at_ fault faultLine line words labels targets wrong unfit text code_ label labelWord target targetWord targetLine store common low high register address status did ready timer trace) (some (.int r_0)) (w_M refusal wheel now length at_ fault faultLine line words labels targets wrong unfit text code_ label labelWord target targetWord targetLine store common low high register address status did ready timer trace) := by
  intro n
  induction n with
  | zero =>
    intro l1 l2 refusal wheel now length at_ fault faultLine line words labels targets wrong unfit text code_ label labelWord target targetWord targetLine store common low high register address status did ready timer trace r_0 hwh ht hb hm hres
    exact absurd hm (Nat.not_lt_zero _)
  | succ n ih =>
    intro l1 l2 refusal wheel now length at_ fault faultLine line words labels targets wrong unfit text code_ label labelWord target targetWord targetLine store common low high register address status did ready timer trace r_0 hwh ht hb hm hres
    obtain ⟨mu, hmu⟩ : ∃ z, (((wheel.toInt * l1.toInt - l2.toInt) % (4 * wheel.toInt)).toNat) = z := ⟨_, rfl⟩
    rw [hmu] at hm
    have hk5 : ∀ {l1 : Int32} {l2 : Int32}, (1 ≤ wheel.toInt ∧ wheel.toInt ≤ 8) → (0 ≤ l1.toInt ∧ l1.toInt < 4) → (0 ≤ l2.toInt ∧ l2.toInt + (wheel.toInt * l1.toInt - l2.toInt) % (4 * wheel.toInt) ≤ 1100040) → (((wheel.toInt * l1.toInt - l2.toInt) % (4 * wheel.toInt)).toNat) < mu → r_0 = (f_X11_first_5 wheel n) l1 l2 → G M_X11_first 0 0 5 [(0, .ref 0), (1, .int l1), (2, .int l2)] [] (w_M refusal wheel now length at_ fault faultLine line words labels targets wrong unfit text code_ label labelWord target targetWord targetLine store common low high register address status did ready timer trace) (some (.int r_0)) (w_M refusal wheel now length at_ fault faultLine line words labels targets wrong unfit text code_ label labelWord target targetWord targetLine store common low high register address status did ready timer trace) := fun hwh ht hb hlt he => ih hwh ht hb (Nat.lt_of_lt_of_le hlt (Nat.le_of_lt_succ hm)) he
    rw [f_X11_first_5] at hres
    refine G.iload_n (pc := 5) dm_X11_first_5 rfl ?_
    refine G.iconst (pc := 6) (v := (4 : Int32)) dm_X11_first_6 qi_4 ?_
    refine G.aload_n (pc := 7) dm_X11_first_7 rfl ?_
    refine G.getfield (pc := 8) dm_X11_first_8 gf_X11_66 rfl rfl ?_
    refine G.imul (pc := 11) dm_X11_first_11 ?_
    refine G.irem (pc := 12) dm_X11_first_12 (q_w40 hwh) ?_
    refine G.aload_n (pc := 13) dm_X11_first_13 rfl ?_
    refine G.getfield (pc := 14) dm_X11_first_14 gf_X11_66 rfl rfl ?_
    refine G.iload_n (pc := 17) dm_X11_first_17 rfl ?_
    refine G.imul (pc := 18) dm_X11_first_18 ?_
    refine G.icmp_eq (pc := 19) (tgt := 28) dm_X11_first_19 (by decide) (fun c19 => ?_) (fun c19 => ?_)
    · rw [if_pos c19] at hres
      refine G.iload_n (pc := 28) dm_X11_first_28 rfl ?_
      subst hres
      exact G.ireturn (pc := 29) dm_X11_first_29 rfl rfl rfl
    · rw [if_neg c19] at hres
      refine G.iinc (pc := 22) (v := (l2 + (1 : Int32))) (lv1 := [(2, .int (l2 + (1 : Int32))), (0, .ref 0), (1, .int l1)]) dm_X11_first_22 rfl rfl rfl rfl ?_
      refine G.goto (pc := 25) (tgt := 5) dm_X11_first_25 (by decide) ?_
      refine G.lvp [1, 2, 0] rfl ?_
      exact hk5 hwh ht (by have := q_fst2 hwh ht hb.1 hb.2 c19; rw [this.1, this.2.1]; omega) (by have := q_fst2 hwh ht hb.1 hb.2 c19; rw [this.1, this.2.1] ; omega) hres
def f_X11_first (t : Int32) (wheel : Int32) (now : Int32) : Int32 := (f_X11_first_5 wheel (33) t now)
set_option maxRecDepth 20000 in
theorem k_X11_first {t : Int32} {refusal : Int32} {wheel : Int32} {now : Int32} {length : Int32} {at_ : Int32} {fault : Int32} {faultLine : Int32} {line : Int32} {words : Int32} {labels : Int32} {targets : Int32} {wrong : Int32} {unfit : Int32} {text : Nat → Int32} {code_ : Nat → Int32} {label : Nat → Int64} {labelWord : Nat → Int32} {target : Nat → Int64} {targetWord : Nat → Int32} {targetLine : Nat → Int32} {store : Nat → Int32} {common : Nat → Int32} {low : Nat → Int32} {high : Nat → Int32} {register : Nat → Int32} {address : Nat → Int32} {status : Nat → Int32} {did : Nat → Int32} {ready : Nat → Int32} {timer : Nat → Int32} {trace : Nat → Int32} (hwh : 1 ≤ wheel.toInt ∧ wheel.toInt ≤ 8) (ht : 0 ≤ t.toInt ∧ t.toInt < 4) (hnow : 0 ≤ now.toInt ∧ now.toInt ≤ 1100000) {r_0 : Int32} (hres : r_0 = f_X11_first t wheel now) : K M_X11_first yX11_first [.ref 0, .int t] (w_M refusal wheel now length at_ fault faultLine line words labels targets wrong unfit text code_ label labelWord target targetWord targetLine store common low high register address status did ready timer trace) (some (.int r_0)) (w_M refusal wheel now length at_ fault faultLine line words labels targets wrong unfit text code_ label labelWord target targetWord targetLine store common low high register address status did ready timer trace) := by
  refine K.of (lv := [(0, .ref 0), (1, .int t)]) (by decide +kernel) rfl rfl rfl ?_
  rw [f_X11_first] at hres
  refine G.aload_n (pc := 0) dm_X11_first_0 rfl ?_
  refine G.getfield (pc := 1) dm_X11_first_1 gf_X11_291 rfl rfl ?_
  refine G.istore_n (pc := 4) (lv1 := [(2, .int now), (0, .ref 0), (1, .int t)]) dm_X11_first_4 rfl rfl ?_
  refine G.lvp [1, 2, 0] rfl ?_
  exact j_X11_first_5 _ hwh ht (q_fst4 hwh hnow) (q_fst3 hwh) hres
abbrev M_X11_moveWord : g_M := (cX11_moveWord, 13, RX11, (some .int), { frames := 2, cells := 0, slots := 0, locals := 43 }, 0, 0)
theorem dm_X11_moveWord_0 : decode M_X11_moveWord.1 0 = .ok (.iload_n 2, 1) := by decide +kernel
theorem dm_X11_moveWord_1 : decode M_X11_moveWord.1 1 = .ok (.bipush 12, 2) := by decide +kernel
theorem dm_X11_moveWord_3 : decode M_X11_moveWord.1 3 = .ok (.ishr, 1) := by decide +kernel
theorem dm_X11_moveWord_4 : decode M_X11_moveWord.1 4 = .ok (.bipush 7, 2) := by decide +kernel
theorem dm_X11_moveWord_6 : decode M_X11_moveWord.1 6 = .ok (.iand, 1) := by decide +kernel
theorem dm_X11_moveWord_7 : decode M_X11_moveWord.1 7 = .ok (.istore 4, 2) := by decide +kernel
theorem dm_X11_moveWord_9 : decode M_X11_moveWord.1 9 = .ok (.iload_n 2, 1) := by decide +kernel
theorem dm_X11_moveWord_10 : decode M_X11_moveWord.1 10 = .ok (.bipush 15, 2) := by decide +kernel
theorem dm_X11_moveWord_12 : decode M_X11_moveWord.1 12 = .ok (.ishr, 1) := by decide +kernel
theorem dm_X11_moveWord_13 : decode M_X11_moveWord.1 13 = .ok (.bipush 31, 2) := by decide +kernel
theorem dm_X11_moveWord_15 : decode M_X11_moveWord.1 15 = .ok (.iand, 1) := by decide +kernel
theorem dm_X11_moveWord_16 : decode M_X11_moveWord.1 16 = .ok (.istore 5, 2) := by decide +kernel
theorem dm_X11_moveWord_18 : decode M_X11_moveWord.1 18 = .ok (.iload_n 3, 1) := by decide +kernel
theorem dm_X11_moveWord_19 : decode M_X11_moveWord.1 19 = .ok (.ifCond .eq 13, 3) := by decide +kernel
theorem dm_X11_moveWord_22 : decode M_X11_moveWord.1 22 = .ok (.iload_n 2, 1) := by decide +kernel
theorem dm_X11_moveWord_23 : decode M_X11_moveWord.1 23 = .ok (.bipush 20, 2) := by decide +kernel
theorem dm_X11_moveWord_25 : decode M_X11_moveWord.1 25 = .ok (.ishr, 1) := by decide +kernel
theorem dm_X11_moveWord_26 : decode M_X11_moveWord.1 26 = .ok (.bipush 31, 2) := by decide +kernel
theorem dm_X11_moveWord_28 : decode M_X11_moveWord.1 28 = .ok (.iand, 1) := by decide +kernel
theorem dm_X11_moveWord_29 : decode M_X11_moveWord.1 29 = .ok (.goto 10, 3) := by decide +kernel
theorem dm_X11_moveWord_32 : decode M_X11_moveWord.1 32 = .ok (.iload_n 2, 1) := by decide +kernel
theorem dm_X11_moveWord_33 : decode M_X11_moveWord.1 33 = .ok (.bipush 7, 2) := by decide +kernel
theorem dm_X11_moveWord_35 : decode M_X11_moveWord.1 35 = .ok (.ishr, 1) := by decide +kernel
theorem dm_X11_moveWord_36 : decode M_X11_moveWord.1 36 = .ok (.bipush 31, 2) := by decide +kernel
theorem dm_X11_moveWord_38 : decode M_X11_moveWord.1 38 = .ok (.iand, 1) := by decide +kernel
theorem dm_X11_moveWord_39 : decode M_X11_moveWord.1 39 = .ok (.istore 6, 2) := by decide +kernel
theorem dm_X11_moveWord_41 : decode M_X11_moveWord.1 41 = .ok (.iload_n 3, 1) := by decide +kernel
theorem dm_X11_moveWord_42 : decode M_X11_moveWord.1 42 = .ok (.ifCond .eq 22, 3) := by decide +kernel
theorem dm_X11_moveWord_45 : decode M_X11_moveWord.1 45 = .ok (.iload 4, 2) := by decide +kernel
theorem dm_X11_moveWord_47 : decode M_X11_moveWord.1 47 = .ok (.iconst 2, 1) := by decide +kernel
theorem dm_X11_moveWord_48 : decode M_X11_moveWord.1 48 = .ok (.if_icmp .eq 8, 3) := by decide +kernel
theorem dm_X11_moveWord_51 : decode M_X11_moveWord.1 51 = .ok (.iload 4, 2) := by decide +kernel
theorem dm_X11_moveWord_53 : decode M_X11_moveWord.1 53 = .ok (.ifCond .ne 7, 3) := by decide +kernel
theorem dm_X11_moveWord_56 : decode M_X11_moveWord.1 56 = .ok (.iconst 1, 1) := by decide +kernel
theorem dm_X11_moveWord_57 : decode M_X11_moveWord.1 57 = .ok (.goto 29, 3) := by decide +kernel
theorem dm_X11_moveWord_60 : decode M_X11_moveWord.1 60 = .ok (.iconst 0, 1) := by decide +kernel
theorem dm_X11_moveWord_61 : decode M_X11_moveWord.1 61 = .ok (.goto 25, 3) := by decide +kernel
theorem dm_X11_moveWord_64 : decode M_X11_moveWord.1 64 = .ok (.iload 4, 2) := by decide +kernel
theorem dm_X11_moveWord_66 : decode M_X11_moveWord.1 66 = .ok (.iconst 2, 1) := by decide +kernel
theorem dm_X11_moveWord_67 : decode M_X11_moveWord.1 67 = .ok (.if_icmp .eq 14, 3) := by decide +kernel
theorem dm_X11_moveWord_70 : decode M_X11_moveWord.1 70 = .ok (.iload 4, 2) := by decide +kernel
theorem dm_X11_moveWord_72 : decode M_X11_moveWord.1 72 = .ok (.ifCond .eq 9, 3) := by decide +kernel
theorem dm_X11_moveWord_75 : decode M_X11_moveWord.1 75 = .ok (.iload 4, 2) := by decide +kernel
theorem dm_X11_moveWord_77 : decode M_X11_moveWord.1 77 = .ok (.iconst 4, 1) := by decide +kernel
theorem dm_X11_moveWord_78 : decode M_X11_moveWord.1 78 = .ok (.if_icmp .ne 7, 3) := by decide +kernel
theorem dm_X11_moveWord_81 : decode M_X11_moveWord.1 81 = .ok (.iconst 1, 1) := by decide +kernel
theorem dm_X11_moveWord_82 : decode M_X11_moveWord.1 82 = .ok (.goto 4, 3) := by decide +kernel
theorem dm_X11_moveWord_85 : decode M_X11_moveWord.1 85 = .ok (.iconst 0, 1) := by decide +kernel
theorem dm_X11_moveWord_86 : decode M_X11_moveWord.1 86 = .ok (.istore 7, 2) := by decide +kernel
theorem dm_X11_moveWord_88 : decode M_X11_moveWord.1 88 = .ok (.iload 7, 2) := by decide +kernel
theorem dm_X11_moveWord_90 : decode M_X11_moveWord.1 90 = .ok (.ifCond .eq 17, 3) := by decide +kernel
theorem dm_X11_moveWord_93 : decode M_X11_moveWord.1 93 = .ok (.iload 5, 2) := by decide +kernel
theorem dm_X11_moveWord_95 : decode M_X11_moveWord.1 95 = .ok (.bipush 15, 2) := by decide +kernel
theorem dm_X11_moveWord_97 : decode M_X11_moveWord.1 97 = .ok (.if_icmp .gt 10, 3) := by decide +kernel
theorem dm_X11_moveWord_100 : decode M_X11_moveWord.1 100 = .ok (.iload 6, 2) := by decide +kernel
theorem dm_X11_moveWord_102 : decode M_X11_moveWord.1 102 = .ok (.bipush 15, 2) := by decide +kernel
theorem dm_X11_moveWord_104 : decode M_X11_moveWord.1 104 = .ok (.if_icmp .le 9, 3) := by decide +kernel
theorem dm_X11_moveWord_107 : decode M_X11_moveWord.1 107 = .ok (.aload_n 0, 1) := by decide +kernel
theorem dm_X11_moveWord_108 : decode M_X11_moveWord.1 108 = .ok (.iload_n 1, 1) := by decide +kernel
theorem dm_X11_moveWord_109 : decode M_X11_moveWord.1 109 = .ok (.invokevirtual 299, 3) := by decide +kernel
theorem dm_X11_moveWord_112 : decode M_X11_moveWord.1 112 = .ok (.ireturn, 1) := by decide +kernel
theorem dm_X11_moveWord_113 : decode M_X11_moveWord.1 113 = .ok (.iload_n 3, 1) := by decide +kernel
theorem dm_X11_moveWord_114 : decode M_X11_moveWord.1 114 = .ok (.ifCond .eq 20, 3) := by decide +kernel
theorem dm_X11_moveWord_117 : decode M_X11_moveWord.1 117 = .ok (.iload_n 2, 1) := by decide +kernel
theorem dm_X11_moveWord_118 : decode M_X11_moveWord.1 118 = .ok (.bipush 25, 2) := by decide +kernel
theorem dm_X11_moveWord_120 : decode M_X11_moveWord.1 120 = .ok (.ishr, 1) := by decide +kernel
theorem dm_X11_moveWord_121 : decode M_X11_moveWord.1 121 = .ok (.iconst 5, 1) := by decide +kernel
theorem dm_X11_moveWord_122 : decode M_X11_moveWord.1 122 = .ok (.ishl, 1) := by decide +kernel
theorem dm_X11_moveWord_123 : decode M_X11_moveWord.1 123 = .ok (.iload_n 2, 1) := by decide +kernel
theorem dm_X11_moveWord_124 : decode M_X11_moveWord.1 124 = .ok (.bipush 7, 2) := by decide +kernel
theorem dm_X11_moveWord_126 : decode M_X11_moveWord.1 126 = .ok (.ishr, 1) := by decide +kernel
theorem dm_X11_moveWord_127 : decode M_X11_moveWord.1 127 = .ok (.bipush 31, 2) := by decide +kernel
theorem dm_X11_moveWord_129 : decode M_X11_moveWord.1 129 = .ok (.iand, 1) := by decide +kernel
theorem dm_X11_moveWord_130 : decode M_X11_moveWord.1 130 = .ok (.ior, 1) := by decide +kernel
theorem dm_X11_moveWord_131 : decode M_X11_moveWord.1 131 = .ok (.goto 7, 3) := by decide +kernel
theorem dm_X11_moveWord_134 : decode M_X11_moveWord.1 134 = .ok (.iload_n 2, 1) := by decide +kernel
theorem dm_X11_moveWord_135 : decode M_X11_moveWord.1 135 = .ok (.bipush 20, 2) := by decide +kernel
theorem dm_X11_moveWord_137 : decode M_X11_moveWord.1 137 = .ok (.ishr, 1) := by decide +kernel
theorem dm_X11_moveWord_138 : decode M_X11_moveWord.1 138 = .ok (.istore 8, 2) := by decide +kernel
theorem dm_X11_moveWord_140 : decode M_X11_moveWord.1 140 = .ok (.aload_n 0, 1) := by decide +kernel
theorem dm_X11_moveWord_141 : decode M_X11_moveWord.1 141 = .ok (.getfield 45, 3) := by decide +kernel
theorem dm_X11_moveWord_144 : decode M_X11_moveWord.1 144 = .ok (.bipush 16, 2) := by decide +kernel
theorem dm_X11_moveWord_146 : decode M_X11_moveWord.1 146 = .ok (.iload_n 1, 1) := by decide +kernel
theorem dm_X11_moveWord_147 : decode M_X11_moveWord.1 147 = .ok (.imul, 1) := by decide +kernel
theorem dm_X11_moveWord_148 : decode M_X11_moveWord.1 148 = .ok (.iload 5, 2) := by decide +kernel
theorem dm_X11_moveWord_150 : decode M_X11_moveWord.1 150 = .ok (.iadd, 1) := by decide +kernel
theorem dm_X11_moveWord_151 : decode M_X11_moveWord.1 151 = .ok (.iaload, 1) := by decide +kernel
theorem dm_X11_moveWord_152 : decode M_X11_moveWord.1 152 = .ok (.iload 8, 2) := by decide +kernel
theorem dm_X11_moveWord_154 : decode M_X11_moveWord.1 154 = .ok (.iadd, 1) := by decide +kernel
theorem dm_X11_moveWord_155 : decode M_X11_moveWord.1 155 = .ok (.istore 9, 2) := by decide +kernel
theorem dm_X11_moveWord_157 : decode M_X11_moveWord.1 157 = .ok (.aload_n 0, 1) := by decide +kernel
theorem dm_X11_moveWord_158 : decode M_X11_moveWord.1 158 = .ok (.iload_n 1, 1) := by decide +kernel
theorem dm_X11_moveWord_159 : decode M_X11_moveWord.1 159 = .ok (.iload 9, 2) := by decide +kernel
theorem dm_X11_moveWord_161 : decode M_X11_moveWord.1 161 = .ok (.iload 4, 2) := by decide +kernel
theorem dm_X11_moveWord_163 : decode M_X11_moveWord.1 163 = .ok (.iconst 2, 1) := by decide +kernel
theorem dm_X11_moveWord_164 : decode M_X11_moveWord.1 164 = .ok (.if_icmp .ne 7, 3) := by decide +kernel
theorem dm_X11_moveWord_167 : decode M_X11_moveWord.1 167 = .ok (.iconst 4, 1) := by decide +kernel
theorem dm_X11_moveWord_168 : decode M_X11_moveWord.1 168 = .ok (.goto 4, 3) := by decide +kernel
theorem dm_X11_moveWord_171 : decode M_X11_moveWord.1 171 = .ok (.iconst 1, 1) := by decide +kernel
theorem dm_X11_moveWord_172 : decode M_X11_moveWord.1 172 = .ok (.invokevirtual 302, 3) := by decide +kernel
theorem dm_X11_moveWord_175 : decode M_X11_moveWord.1 175 = .ok (.ifCond .ne 9, 3) := by decide +kernel
theorem dm_X11_moveWord_178 : decode M_X11_moveWord.1 178 = .ok (.aload_n 0, 1) := by decide +kernel
theorem dm_X11_moveWord_179 : decode M_X11_moveWord.1 179 = .ok (.iload_n 1, 1) := by decide +kernel
theorem dm_X11_moveWord_180 : decode M_X11_moveWord.1 180 = .ok (.invokevirtual 299, 3) := by decide +kernel
theorem dm_X11_moveWord_183 : decode M_X11_moveWord.1 183 = .ok (.ireturn, 1) := by decide +kernel
theorem dm_X11_moveWord_184 : decode M_X11_moveWord.1 184 = .ok (.bipush 8, 2) := by decide +kernel
theorem dm_X11_moveWord_186 : decode M_X11_moveWord.1 186 = .ok (.iload 9, 2) := by decide +kernel
theorem dm_X11_moveWord_188 : decode M_X11_moveWord.1 188 = .ok (.iconst 3, 1) := by decide +kernel
theorem dm_X11_moveWord_189 : decode M_X11_moveWord.1 189 = .ok (.iand, 1) := by decide +kernel
theorem dm_X11_moveWord_190 : decode M_X11_moveWord.1 190 = .ok (.imul, 1) := by decide +kernel
theorem dm_X11_moveWord_191 : decode M_X11_moveWord.1 191 = .ok (.istore 10, 2) := by decide +kernel
theorem dm_X11_moveWord_193 : decode M_X11_moveWord.1 193 = .ok (.aload_n 0, 1) := by decide +kernel
theorem dm_X11_moveWord_194 : decode M_X11_moveWord.1 194 = .ok (.iload_n 1, 1) := by decide +kernel
theorem dm_X11_moveWord_195 : decode M_X11_moveWord.1 195 = .ok (.iload 9, 2) := by decide +kernel
theorem dm_X11_moveWord_197 : decode M_X11_moveWord.1 197 = .ok (.invokevirtual 306, 3) := by decide +kernel
theorem dm_X11_moveWord_200 : decode M_X11_moveWord.1 200 = .ok (.istore 11, 2) := by decide +kernel
theorem dm_X11_moveWord_202 : decode M_X11_moveWord.1 202 = .ok (.aload_n 0, 1) := by decide +kernel
theorem dm_X11_moveWord_203 : decode M_X11_moveWord.1 203 = .ok (.getfield 45, 3) := by decide +kernel
theorem dm_X11_moveWord_206 : decode M_X11_moveWord.1 206 = .ok (.bipush 16, 2) := by decide +kernel
theorem dm_X11_moveWord_208 : decode M_X11_moveWord.1 208 = .ok (.iload_n 1, 1) := by decide +kernel
theorem dm_X11_moveWord_209 : decode M_X11_moveWord.1 209 = .ok (.imul, 1) := by decide +kernel
theorem dm_X11_moveWord_210 : decode M_X11_moveWord.1 210 = .ok (.iload 6, 2) := by decide +kernel
theorem dm_X11_moveWord_212 : decode M_X11_moveWord.1 212 = .ok (.iadd, 1) := by decide +kernel
theorem dm_X11_moveWord_213 : decode M_X11_moveWord.1 213 = .ok (.iaload, 1) := by decide +kernel
theorem dm_X11_moveWord_214 : decode M_X11_moveWord.1 214 = .ok (.istore 12, 2) := by decide +kernel
theorem dm_X11_moveWord_216 : decode M_X11_moveWord.1 216 = .ok (.iload_n 3, 1) := by decide +kernel
theorem dm_X11_moveWord_217 : decode M_X11_moveWord.1 217 = .ok (.ifCond .eq 45, 3) := by decide +kernel
theorem dm_X11_moveWord_220 : decode M_X11_moveWord.1 220 = .ok (.aload_n 0, 1) := by decide +kernel
theorem dm_X11_moveWord_221 : decode M_X11_moveWord.1 221 = .ok (.iload_n 1, 1) := by decide +kernel
theorem dm_X11_moveWord_222 : decode M_X11_moveWord.1 222 = .ok (.iload 9, 2) := by decide +kernel
theorem dm_X11_moveWord_224 : decode M_X11_moveWord.1 224 = .ok (.iload 4, 2) := by decide +kernel
theorem dm_X11_moveWord_226 : decode M_X11_moveWord.1 226 = .ok (.iconst 2, 1) := by decide +kernel
theorem dm_X11_moveWord_227 : decode M_X11_moveWord.1 227 = .ok (.if_icmp .ne 8, 3) := by decide +kernel
theorem dm_X11_moveWord_230 : decode M_X11_moveWord.1 230 = .ok (.iload 12, 2) := by decide +kernel
theorem dm_X11_moveWord_232 : decode M_X11_moveWord.1 232 = .ok (.goto 24, 3) := by decide +kernel
theorem dm_X11_moveWord_235 : decode M_X11_moveWord.1 235 = .ok (.iload 11, 2) := by decide +kernel
theorem dm_X11_moveWord_237 : decode M_X11_moveWord.1 237 = .ok (.sipush 255, 3) := by decide +kernel
theorem dm_X11_moveWord_240 : decode M_X11_moveWord.1 240 = .ok (.iload 10, 2) := by decide +kernel
theorem dm_X11_moveWord_242 : decode M_X11_moveWord.1 242 = .ok (.ishl, 1) := by decide +kernel
theorem dm_X11_moveWord_243 : decode M_X11_moveWord.1 243 = .ok (.iconst (-1), 1) := by decide +kernel
theorem dm_X11_moveWord_244 : decode M_X11_moveWord.1 244 = .ok (.ixor, 1) := by decide +kernel
theorem dm_X11_moveWord_245 : decode M_X11_moveWord.1 245 = .ok (.iand, 1) := by decide +kernel
theorem dm_X11_moveWord_246 : decode M_X11_moveWord.1 246 = .ok (.iload 12, 2) := by decide +kernel
theorem dm_X11_moveWord_248 : decode M_X11_moveWord.1 248 = .ok (.sipush 255, 3) := by decide +kernel
theorem dm_X11_moveWord_251 : decode M_X11_moveWord.1 251 = .ok (.iand, 1) := by decide +kernel
theorem dm_X11_moveWord_252 : decode M_X11_moveWord.1 252 = .ok (.iload 10, 2) := by decide +kernel
theorem dm_X11_moveWord_254 : decode M_X11_moveWord.1 254 = .ok (.ishl, 1) := by decide +kernel
theorem dm_X11_moveWord_255 : decode M_X11_moveWord.1 255 = .ok (.ior, 1) := by decide +kernel
theorem dm_X11_moveWord_256 : decode M_X11_moveWord.1 256 = .ok (.invokevirtual 309, 3) := by decide +kernel
theorem dm_X11_moveWord_259 : decode M_X11_moveWord.1 259 = .ok (.goto 50, 3) := by decide +kernel
theorem dm_X11_moveWord_262 : decode M_X11_moveWord.1 262 = .ok (.aload_n 0, 1) := by decide +kernel
theorem dm_X11_moveWord_263 : decode M_X11_moveWord.1 263 = .ok (.iload_n 1, 1) := by decide +kernel
theorem dm_X11_moveWord_264 : decode M_X11_moveWord.1 264 = .ok (.iload 6, 2) := by decide +kernel
theorem dm_X11_moveWord_266 : decode M_X11_moveWord.1 266 = .ok (.iload 4, 2) := by decide +kernel
theorem dm_X11_moveWord_268 : decode M_X11_moveWord.1 268 = .ok (.iconst 2, 1) := by decide +kernel
theorem dm_X11_moveWord_269 : decode M_X11_moveWord.1 269 = .ok (.if_icmp .ne 8, 3) := by decide +kernel
theorem dm_X11_moveWord_272 : decode M_X11_moveWord.1 272 = .ok (.iload 11, 2) := by decide +kernel
theorem dm_X11_moveWord_274 : decode M_X11_moveWord.1 274 = .ok (.goto 32, 3) := by decide +kernel
theorem dm_X11_moveWord_277 : decode M_X11_moveWord.1 277 = .ok (.iload 4, 2) := by decide +kernel
theorem dm_X11_moveWord_279 : decode M_X11_moveWord.1 279 = .ok (.iconst 4, 1) := by decide +kernel
theorem dm_X11_moveWord_280 : decode M_X11_moveWord.1 280 = .ok (.if_icmp .ne 15, 3) := by decide +kernel
theorem dm_X11_moveWord_283 : decode M_X11_moveWord.1 283 = .ok (.iload 11, 2) := by decide +kernel
theorem dm_X11_moveWord_285 : decode M_X11_moveWord.1 285 = .ok (.iload 10, 2) := by decide +kernel
theorem dm_X11_moveWord_287 : decode M_X11_moveWord.1 287 = .ok (.ishr, 1) := by decide +kernel
theorem dm_X11_moveWord_288 : decode M_X11_moveWord.1 288 = .ok (.sipush 255, 3) := by decide +kernel
theorem dm_X11_moveWord_291 : decode M_X11_moveWord.1 291 = .ok (.iand, 1) := by decide +kernel
theorem dm_X11_moveWord_292 : decode M_X11_moveWord.1 292 = .ok (.goto 14, 3) := by decide +kernel
theorem dm_X11_moveWord_295 : decode M_X11_moveWord.1 295 = .ok (.iload 11, 2) := by decide +kernel
theorem dm_X11_moveWord_297 : decode M_X11_moveWord.1 297 = .ok (.bipush 24, 2) := by decide +kernel
theorem dm_X11_moveWord_299 : decode M_X11_moveWord.1 299 = .ok (.iload 10, 2) := by decide +kernel
theorem dm_X11_moveWord_301 : decode M_X11_moveWord.1 301 = .ok (.isub, 1) := by decide +kernel
theorem dm_X11_moveWord_302 : decode M_X11_moveWord.1 302 = .ok (.ishl, 1) := by decide +kernel
theorem dm_X11_moveWord_303 : decode M_X11_moveWord.1 303 = .ok (.bipush 24, 2) := by decide +kernel
theorem dm_X11_moveWord_305 : decode M_X11_moveWord.1 305 = .ok (.ishr, 1) := by decide +kernel
theorem dm_X11_moveWord_306 : decode M_X11_moveWord.1 306 = .ok (.invokevirtual 313, 3) := by decide +kernel
theorem dm_X11_moveWord_309 : decode M_X11_moveWord.1 309 = .ok (.aload_n 0, 1) := by decide +kernel
theorem dm_X11_moveWord_310 : decode M_X11_moveWord.1 310 = .ok (.iload_n 1, 1) := by decide +kernel
theorem dm_X11_moveWord_311 : decode M_X11_moveWord.1 311 = .ok (.aload_n 0, 1) := by decide +kernel
theorem dm_X11_moveWord_312 : decode M_X11_moveWord.1 312 = .ok (.getfield 48, 3) := by decide +kernel
theorem dm_X11_moveWord_315 : decode M_X11_moveWord.1 315 = .ok (.iload_n 1, 1) := by decide +kernel
theorem dm_X11_moveWord_316 : decode M_X11_moveWord.1 316 = .ok (.iaload, 1) := by decide +kernel
theorem dm_X11_moveWord_317 : decode M_X11_moveWord.1 317 = .ok (.iconst 4, 1) := by decide +kernel
theorem dm_X11_moveWord_318 : decode M_X11_moveWord.1 318 = .ok (.iadd, 1) := by decide +kernel
theorem dm_X11_moveWord_319 : decode M_X11_moveWord.1 319 = .ok (.iload 9, 2) := by decide +kernel
theorem dm_X11_moveWord_321 : decode M_X11_moveWord.1 321 = .ok (.invokestatic 288, 3) := by decide +kernel
theorem dm_X11_moveWord_324 : decode M_X11_moveWord.1 324 = .ok (.ifCond .eq 12, 3) := by decide +kernel
theorem dm_X11_moveWord_327 : decode M_X11_moveWord.1 327 = .ok (.aload_n 0, 1) := by decide +kernel
theorem dm_X11_moveWord_328 : decode M_X11_moveWord.1 328 = .ok (.getfield 291, 3) := by decide +kernel
theorem dm_X11_moveWord_331 : decode M_X11_moveWord.1 331 = .ok (.iconst 4, 1) := by decide +kernel
theorem dm_X11_moveWord_332 : decode M_X11_moveWord.1 332 = .ok (.iadd, 1) := by decide +kernel
theorem dm_X11_moveWord_333 : decode M_X11_moveWord.1 333 = .ok (.goto 13, 3) := by decide +kernel
theorem dm_X11_moveWord_336 : decode M_X11_moveWord.1 336 = .ok (.aload_n 0, 1) := by decide +kernel
theorem dm_X11_moveWord_337 : decode M_X11_moveWord.1 337 = .ok (.iload_n 1, 1) := by decide +kernel
theorem dm_X11_moveWord_338 : decode M_X11_moveWord.1 338 = .ok (.invokevirtual 316, 3) := by decide +kernel
theorem dm_X11_moveWord_341 : decode M_X11_moveWord.1 341 = .ok (.aload_n 0, 1) := by decide +kernel
theorem dm_X11_moveWord_342 : decode M_X11_moveWord.1 342 = .ok (.getfield 66, 3) := by decide +kernel
theorem dm_X11_moveWord_345 : decode M_X11_moveWord.1 345 = .ok (.iadd, 1) := by decide +kernel
theorem dm_X11_moveWord_346 : decode M_X11_moveWord.1 346 = .ok (.invokevirtual 319, 3) := by decide +kernel
theorem dm_X11_moveWord_349 : decode M_X11_moveWord.1 349 = .ok (.ireturn, 1) := by decide +kernel
theorem gc_X11_moveWord_299 : g_cv M_X11_moveWord 299 M_X11_stop yX11_stop 1 := ⟨tw773, tw774, tw775, tw5, tw776, ⟨rfl, rfl, rfl, rfl⟩, gd_X11_stop, ⟨by decide, by decide⟩⟩
theorem gc_X11_moveWord_302 : g_cv M_X11_moveWord 302 M_X11_isThere yX11_isThere 3 := ⟨tw804, tw805, tw806, tw5, tw807, ⟨rfl, rfl, rfl, rfl⟩, gd_X11_isThere, ⟨by decide, by decide⟩⟩
theorem gc_X11_moveWord_306 : g_cv M_X11_moveWord 306 M_X11_wordAt yX11_wordAt 2 := ⟨tw808, tw809, tw810, tw5, tw811, ⟨rfl, rfl, rfl, rfl⟩, gd_X11_wordAt, ⟨by decide, by decide⟩⟩
theorem gc_X11_moveWord_309 : g_cv M_X11_moveWord 309 M_X11_put yX11_put 3 := ⟨tw812, tw813, tw814, tw5, tw815, ⟨rfl, rfl, rfl, rfl⟩, gd_X11_put, ⟨by decide, by decide⟩⟩
theorem gc_X11_moveWord_313 : g_cv M_X11_moveWord 313 M_X11_set yX11_set 3 := ⟨tw777, tw778, tw779, tw5, tw780, ⟨rfl, rfl, rfl, rfl⟩, gd_X11_set, ⟨by decide, by decide⟩⟩
theorem gc_X11_moveWord_288 : g_cs M_X11_moveWord 288 M_X11_isOwn yX11_isOwn 1 := ⟨tw770, tw771, tw5, tw772, ⟨rfl, rfl, rfl, rfl⟩, gd_X11_isOwn, ⟨by decide, by decide⟩⟩
theorem gc_X11_moveWord_316 : g_cv M_X11_moveWord 316 M_X11_first yX11_first 1 := ⟨tw816, tw817, tw818, tw5, tw819, ⟨rfl, rfl, rfl, rfl⟩, gd_X11_first, ⟨by decide, by decide⟩⟩
theorem gc_X11_moveWord_319 : g_cv M_X11_moveWord 319 M_X11_done yX11_done 3 := ⟨tw781, tw782, tw783, tw5, tw784, ⟨rfl, rfl, rfl, rfl⟩, gd_X11_done, ⟨by decide, by decide⟩⟩
def f_X11_moveWord_c109 (store : Nat → Int32) (common : Nat → Int32) (register : Nat → Int32) (address : Nat → Int32) (did : Nat → Int32) (ready : Nat → Int32) (trace : Nat → Int32) (z1_0 : Int32) (z1_1 : (Nat → Int32)) : Int32 × (Nat → Int32) × (Nat → Int32) × (Nat → Int32) × (Nat → Int32) × (Nat → Int32) × (Nat → Int32) × (Nat → Int32) × (Nat → Int32) := (z1_0, store, common, register, address, z1_1, did, ready, trace)
def f_X11_moveWord_107 (store : Nat → Int32) (common : Nat → Int32) (register : Nat → Int32) (address : Nat → Int32) (status : Nat → Int32) (did : Nat → Int32) (ready : Nat → Int32) (trace : Nat → Int32) (l1 : Int32) : Int32 × (Nat → Int32) × (Nat → Int32) × (Nat → Int32) × (Nat → Int32) × (Nat → Int32) × (Nat → Int32) × (Nat → Int32) × (Nat → Int32) := (f_X11_moveWord_c109 store common register address did ready trace (f_X11_stop l1 status).1 (f_X11_stop l1 status).2)
set_option maxRecDepth 20000 in
theorem j_X11_moveWord_107 {l1 : Int32} {refusal : Int32} {wheel : Int32} {now : Int32} {length : Int32} {at_ : Int32} {fault : Int32} {faultLine : Int32} {line : Int32} {words : Int32} {labels : Int32} {targets : Int32} {wrong : Int32} {unfit : Int32} {text : Nat → Int32} {code_ : Nat → Int32} {label : Nat → Int64} {labelWord : Nat → Int32} {target : Nat → Int64} {targetWord : Nat → Int32} {targetLine : Nat → Int32} {store : Nat → Int32} {common : Nat → Int32} {low : Nat → Int32} {high : Nat → Int32} {register : Nat → Int32} {address : Nat → Int32} {status : Nat → Int32} {did : Nat → Int32} {ready : Nat → Int32} {timer : Nat → Int32} {trace : Nat → Int32} {r_0 : Int32} {r_1 : (Nat → Int32)} {r_2 : (Nat → Int32)} {r_3 : (Nat → Int32)} {r_4 : (Nat → Int32)} {r_5 : (Nat → Int32)} {r_6 : (Nat → Int32)} {r_7 : (Nat → Int32)} {r_8 : (Nat → Int32)} (hres : (r_0, r_1, r_2, r_3, r_4, r_5, r_6, r_7, r_8) = (f_X11_moveWord_107 store common register address status did ready trace l1)) (ht : 0 ≤ l1.toInt ∧ l1.toInt < 4) : G M_X11_moveWord 0 0 107 [(0, .ref 0), (1, .int l1)] [] (w_M refusal wheel now length at_ fault faultLine line words labels targets wrong unfit text code_ label labelWord target targetWord targetLine store common low high register address status did ready timer trace) (some (.int r_0)) (w_M refusal wheel now length at_ fault faultLine line words labels targets wrong unfit text code_ label labelWord target targetWord targetLine r_1 r_2 low high r_3 r_4 r_5 r_6 r_7 timer r_8) := by
  rw [f_X11_moveWord_107] at hres
  refine G.aload_n (pc := 107) dm_X11_moveWord_107 rfl ?_
  refine G.iload_n (pc := 108) dm_X11_moveWord_108 rfl ?_
  obtain ⟨z1_0, z1_1, hz1⟩ := g_ex2 (f_X11_stop l1 status)
  refine G.callV0 (pc := 109) (rest := []) (st1 := [.int z1_0]) dm_X11_moveWord_109 gc_X11_moveWord_299 (k_X11_stop (t := l1) (refusal := refusal) (wheel := wheel) (now := now) (length := length) (at_ := at_) (fault := fault) (faultLine := faultLine) (line := line) (words := words) (labels := labels) (targets := targets) (wrong := wrong) (unfit := unfit) (text := text) (code_ := code_) (label := label) (labelWord := labelWord) (target := target) (targetWord := targetWord) (targetLine := targetLine) (store := store) (common := common) (low := low) (high := high) (register := register) (address := address) (status := status) (did := did) (ready := ready) (timer := timer) (trace := trace) (by first | assumption | exact q_31 _ | rfl) hz1) rfl rfl rfl rfl rfl rfl rfl rfl ?_
  replace hres : (r_0, r_1, r_2, r_3, r_4, r_5, r_6, r_7, r_8) = f_X11_moveWord_c109 store common register address did ready trace z1_0 z1_1 := hres.trans (by rw [← hz1])
  rw [f_X11_moveWord_c109] at hres
  cases hres
  exact G.ireturn (pc := 112) dm_X11_moveWord_112 rfl rfl rfl
def f_X11_moveWord_c346 (store : Nat → Int32) (common : Nat → Int32) (register : Nat → Int32) (status : Nat → Int32) (z7_0 : Int32) (z7_1 : (Nat → Int32)) (z7_2 : (Nat → Int32)) (z7_3 : (Nat → Int32)) (z7_4 : (Nat → Int32)) : Int32 × (Nat → Int32) × (Nat → Int32) × (Nat → Int32) × (Nat → Int32) × (Nat → Int32) × (Nat → Int32) × (Nat → Int32) × (Nat → Int32) := (z7_0, store, common, register, z7_1, status, z7_2, z7_3, z7_4)
def f_X11_moveWord_346 (now : Int32) (store : Nat → Int32) (common : Nat → Int32) (register : Nat → Int32) (address : Nat → Int32) (status : Nat → Int32) (did : Nat → Int32) (ready : Nat → Int32) (trace : Nat → Int32) (s1 : Int32) (s2 : Int32) (s3 : Int32) : Int32 × (Nat → Int32) × (Nat → Int32) × (Nat → Int32) × (Nat → Int32) × (Nat → Int32) × (Nat → Int32) × (Nat → Int32) × (Nat → Int32) := (f_X11_moveWord_c346 store common register status (f_X11_done s1 s2 s3 now address did ready trace).1 (f_X11_done s1 s2 s3 now address did ready trace).2.1 (f_X11_done s1 s2 s3 now address did ready trace).2.2.1 (f_X11_done s1 s2 s3 now address did ready trace).2.2.2.1 (f_X11_done s1 s2 s3 now address did ready trace).2.2.2.2)
set_option maxRecDepth 20000 in
theorem j_X11_moveWord_346 {s1 : Int32} {s2 : Int32} {s3 : Int32} {refusal : Int32} {wheel : Int32} {now : Int32} {length : Int32} {at_ : Int32} {fault : Int32} {faultLine : Int32} {line : Int32} {words : Int32} {labels : Int32} {targets : Int32} {wrong : Int32} {unfit : Int32} {text : Nat → Int32} {code_ : Nat → Int32} {label : Nat → Int64} {labelWord : Nat → Int32} {target : Nat → Int64} {targetWord : Nat → Int32} {targetLine : Nat → Int32} {store : Nat → Int32} {common : Nat → Int32} {low : Nat → Int32} {high : Nat → Int32} {register : Nat → Int32} {address : Nat → Int32} {status : Nat → Int32} {did : Nat → Int32} {ready : Nat → Int32} {timer : Nat → Int32} {trace : Nat → Int32} {r_0 : Int32} {r_1 : (Nat → Int32)} {r_2 : (Nat → Int32)} {r_3 : (Nat → Int32)} {r_4 : (Nat → Int32)} {r_5 : (Nat → Int32)} {r_6 : (Nat → Int32)} {r_7 : (Nat → Int32)} {r_8 : (Nat → Int32)} (hres : (r_0, r_1, r_2, r_3, r_4, r_5, r_6, r_7, r_8) = (f_X11_moveWord_346 now store common register address status did ready trace s1 s2 s3)) (hts : 0 ≤ s1.toInt ∧ s1.toInt < 4) (hdid : ∀ j, j < 4 → 0 ≤ (did j).toInt) : G M_X11_moveWord 0 0 346 [] [.int s3, .int s2, .int s1, .ref 0] (w_M refusal wheel now length at_ fault faultLine line words labels targets wrong unfit text code_ label labelWord target targetWord targetLine store common low high register address status did ready timer trace) (some (.int r_0)) (w_M refusal wheel now length at_ fault faultLine line words labels targets wrong unfit text code_ label labelWord target targetWord targetLine r_1 r_2 low high r_3 r_4 r_5 r_6 r_7 timer r_8) := by
  rw [f_X11_moveWord_346] at hres
  obtain ⟨z7_0, z7_1, z7_2, z7_3, z7_4, hz7⟩ := g_ex5 (f_X11_done s1 s2 s3 now address did ready trace)
  refine G.callV0 (pc := 346) (rest := []) (st1 := [.int z7_0]) dm_X11_moveWord_346 gc_X11_moveWord_319 (k_X11_done (t := s1) (a := s2) (when := s3) (refusal := refusal) (wheel := wheel) (now := now) (length := length) (at_ := at_) (fault := fault) (faultLine := faultLine) (line := line) (words := words) (labels := labels) (targets := targets) (wrong := wrong) (unfit := unfit) (text := text) (code_ := code_) (label := label) (labelWord := labelWord) (target := target) (targetWord := targetWord) (targetLine := targetLine) (store := store) (common := common) (low := low) (high := high) (register := register) (address := address) (status := status) (did := did) (ready := ready) (timer := timer) (trace := trace) hts hdid hz7) rfl rfl rfl rfl rfl rfl rfl rfl ?_
  replace hres : (r_0, r_1, r_2, r_3, r_4, r_5, r_6, r_7, r_8) = f_X11_moveWord_c346 store common register status z7_0 z7_1 z7_2 z7_3 z7_4 := hres.trans (by rw [← hz7])
  rw [f_X11_moveWord_c346] at hres
  cases hres
  exact G.ireturn (pc := 349) dm_X11_moveWord_349 rfl rfl rfl
def f_X11_moveWord_c338 (wheel : Int32) (now : Int32) (store : Nat → Int32) (common : Nat → Int32) (register : Nat → Int32) (address : Nat → Int32) (status : Nat → Int32) (did : Nat → Int32) (ready : Nat → Int32) (trace : Nat → Int32) (l1 : Int32) (z6_0 : Int32) : Int32 × (Nat → Int32) × (Nat → Int32) × (Nat → Int32) × (Nat → Int32) × (Nat → Int32) × (Nat → Int32) × (Nat → Int32) × (Nat → Int32) := (f_X11_moveWord_346 now store common register address status did ready trace l1 ((address (Int32.toNatClampNeg l1)) + (4 : Int32)) (z6_0 + wheel))
def f_X11_moveWord_c321 (wheel : Int32) (now : Int32) (store : Nat → Int32) (common : Nat → Int32) (register : Nat → Int32) (address : Nat → Int32) (status : Nat → Int32) (did : Nat → Int32) (ready : Nat → Int32) (trace : Nat → Int32) (l1 : Int32) (z5_0 : Int32) : Int32 × (Nat → Int32) × (Nat → Int32) × (Nat → Int32) × (Nat → Int32) × (Nat → Int32) × (Nat → Int32) × (Nat → Int32) × (Nat → Int32) := (if z5_0 = 0 then (f_X11_moveWord_c338 wheel now store common register address status did ready trace l1 (f_X11_first l1 wheel now)) else (f_X11_moveWord_346 now store common register address status did ready trace l1 ((address (Int32.toNatClampNeg l1)) + (4 : Int32)) (now + (4 : Int32))))
def f_X11_moveWord_309 (wheel : Int32) (now : Int32) (store : Nat → Int32) (common : Nat → Int32) (register : Nat → Int32) (address : Nat → Int32) (status : Nat → Int32) (did : Nat → Int32) (ready : Nat → Int32) (trace : Nat → Int32) (l1 : Int32) (l9 : Int32) : Int32 × (Nat → Int32) × (Nat → Int32) × (Nat → Int32) × (Nat → Int32) × (Nat → Int32) × (Nat → Int32) × (Nat → Int32) × (Nat → Int32) := (f_X11_moveWord_c321 wheel now store common register address status did ready trace l1 (f_X11_isOwn l9))
set_option maxRecDepth 20000 in
theorem j_X11_moveWord_309 {l1 : Int32} {l9 : Int32} {refusal : Int32} {wheel : Int32} {now : Int32} {length : Int32} {at_ : Int32} {fault : Int32} {faultLine : Int32} {line : Int32} {words : Int32} {labels : Int32} {targets : Int32} {wrong : Int32} {unfit : Int32} {text : Nat → Int32} {code_ : Nat → Int32} {label : Nat → Int64} {labelWord : Nat → Int32} {target : Nat → Int64} {targetWord : Nat → Int32} {targetLine : Nat → Int32} {store : Nat → Int32} {common : Nat → Int32} {low : Nat → Int32} {high : Nat → Int32} {register : Nat → Int32} {address : Nat → Int32} {status : Nat → Int32} {did : Nat → Int32} {ready : Nat → Int32} {timer : Nat → Int32} {trace : Nat → Int32} {r_0 : Int32} {r_1 : (Nat → Int32)} {r_2 : (Nat → Int32)} {r_3 : (Nat → Int32)} {r_4 : (Nat → Int32)} {r_5 : (Nat → Int32)} {r_6 : (Nat → Int32)} {r_7 : (Nat → Int32)} {r_8 : (Nat → Int32)} (hres : (r_0, r_1, r_2, r_3, r_4, r_5, r_6, r_7, r_8) = (f_X11_moveWord_309 wheel now store common register address status did ready trace l1 l9)) (ht : 0 ≤ l1.toInt ∧ l1.toInt < 4) (hdid : ∀ j, j < 4 → 0 ≤ (did j).toInt) (hlh : ∀ j, j < 4 → 0 ≤ (low j).toInt ∧ (low j).toInt ≤ (high j).toInt ∧ (high j).toInt ≤ 64) (hwh : 1 ≤ wheel.toInt ∧ wheel.toInt ≤ 8) (hnow : 0 ≤ now.toInt ∧ now.toInt ≤ 1100000) : G M_X11_moveWord 0 0 309 [(0, .ref 0), (1, .int l1), (9, .int l9)] [] (w_M refusal wheel now length at_ fault faultLine line words labels targets wrong unfit text code_ label labelWord target targetWord targetLine store common low high register address status did ready timer trace) (some (.int r_0)) (w_M refusal wheel now length at_ fault faultLine line words labels targets wrong unfit text code_ label labelWord target targetWord targetLine r_1 r_2 low high r_3 r_4 r_5 r_6 r_7 timer r_8) := by
  rw [f_X11_moveWord_309] at hres
  refine G.aload_n (pc := 309) dm_X11_moveWord_309 rfl ?_
  refine G.iload_n (pc := 310) dm_X11_moveWord_310 rfl ?_
  refine G.aload_n (pc := 311) dm_X11_moveWord_311 rfl ?_
  refine G.getfield (pc := 312) dm_X11_moveWord_312 gf_X11_48 rfl rfl ?_
  refine G.iload_n (pc := 315) dm_X11_moveWord_315 rfl ?_
  refine G.iaload (pc := 316) dm_X11_moveWord_316 rfl (q_t ht) ?_
  refine G.iconst (pc := 317) (v := (4 : Int32)) dm_X11_moveWord_317 qi_4 ?_
  refine G.iadd (pc := 318) dm_X11_moveWord_318 ?_
  refine G.iload (pc := 319) dm_X11_moveWord_319 rfl ?_
  obtain ⟨z5_0, hz5⟩ := g_ex1 (f_X11_isOwn l9)
  refine G.callS (pc := 321) (rest := [.int ((address (Int32.toNatClampNeg l1)) + (4 : Int32)), .int l1, .ref 0]) (st1 := [.int z5_0, .int ((address (Int32.toNatClampNeg l1)) + (4 : Int32)), .int l1, .ref 0]) (ws1 := (w_M refusal wheel now length at_ fault faultLine line words labels targets wrong unfit text code_ label labelWord target targetWord targetLine store common low high register address status did ready timer trace)) [] dm_X11_moveWord_321 gc_X11_moveWord_288 (k_X11_isOwn (a := l9) hz5) rfl rfl rfl rfl rfl rfl rfl rfl ?_
  replace hres : (r_0, r_1, r_2, r_3, r_4, r_5, r_6, r_7, r_8) = f_X11_moveWord_c321 wheel now store common register address status did ready trace l1 z5_0 := hres.trans (by rw [← hz5])
  rw [f_X11_moveWord_c321] at hres
  refine G.if_eq (pc := 324) (tgt := 336) dm_X11_moveWord_324 (by decide) (fun c324 => ?_) (fun c324 => ?_)
  · rw [if_pos c324] at hres
    refine G.aload_n (pc := 336) dm_X11_moveWord_336 rfl ?_
    refine G.iload_n (pc := 337) dm_X11_moveWord_337 rfl ?_
    obtain ⟨z6_0, hz6⟩ := g_ex1 (f_X11_first l1 wheel now)
    refine G.callV0 (pc := 338) (rest := [.int ((address (Int32.toNatClampNeg l1)) + (4 : Int32)), .int l1, .ref 0]) (st1 := [.int z6_0, .int ((address (Int32.toNatClampNeg l1)) + (4 : Int32)), .int l1, .ref 0]) dm_X11_moveWord_338 gc_X11_moveWord_316 (k_X11_first (t := l1) (refusal := refusal) (wheel := wheel) (now := now) (length := length) (at_ := at_) (fault := fault) (faultLine := faultLine) (line := line) (words := words) (labels := labels) (targets := targets) (wrong := wrong) (unfit := unfit) (text := text) (code_ := code_) (label := label) (labelWord := labelWord) (target := target) (targetWord := targetWord) (targetLine := targetLine) (store := store) (common := common) (low := low) (high := high) (register := register) (address := address) (status := status) (did := did) (ready := ready) (timer := timer) (trace := trace) (by first | assumption | exact q_31 _ | rfl) (by first | assumption | exact q_31 _ | rfl) (by first | assumption | exact q_31 _ | rfl) hz6) rfl rfl rfl rfl rfl rfl rfl rfl ?_
    replace hres : (r_0, r_1, r_2, r_3, r_4, r_5, r_6, r_7, r_8) = f_X11_moveWord_c338 wheel now store common register address status did ready trace l1 z6_0 := hres.trans (by rw [← hz6])
    rw [f_X11_moveWord_c338] at hres
    refine G.aload_n (pc := 341) dm_X11_moveWord_341 rfl ?_
    refine G.getfield (pc := 342) dm_X11_moveWord_342 gf_X11_66 rfl rfl ?_
    refine G.iadd (pc := 345) dm_X11_moveWord_345 ?_
    refine G.lvp [] rfl ?_
    exact j_X11_moveWord_346 hres (by first | assumption | exact q_31 _ | rfl) (by first | assumption | exact q_31 _ | rfl)
  · rw [if_neg c324] at hres
    refine G.aload_n (pc := 327) dm_X11_moveWord_327 rfl ?_
    refine G.getfield (pc := 328) dm_X11_moveWord_328 gf_X11_291 rfl rfl ?_
    refine G.iconst (pc := 331) (v := (4 : Int32)) dm_X11_moveWord_331 qi_4 ?_
    refine G.iadd (pc := 332) dm_X11_moveWord_332 ?_
    refine G.goto (pc := 333) (tgt := 346) dm_X11_moveWord_333 (by decide) ?_
    refine G.lvp [] rfl ?_
    exact j_X11_moveWord_346 hres (by first | assumption | exact q_31 _ | rfl) (by first | assumption | exact q_31 _ | rfl)
def f_X11_moveWord_c306 (wheel : Int32) (now : Int32) (store : Nat → Int32) (common : Nat → Int32) (address : Nat → Int32) (status : Nat → Int32) (did : Nat → Int32) (ready : Nat → Int32) (trace : Nat → Int32) (l1 : Int32) (l9 : Int32) (z4_0 : (Nat → Int32)) : Int32 × (Nat → Int32) × (Nat → Int32) × (Nat → Int32) × (Nat → Int32) × (Nat → Int32) × (Nat → Int32) × (Nat → Int32) × (Nat → Int32) := (f_X11_moveWord_309 wheel now store common z4_0 address status did ready trace l1 l9)
def f_X11_moveWord_306 (wheel : Int32) (now : Int32) (store : Nat → Int32) (common : Nat → Int32) (register : Nat → Int32) (address : Nat → Int32) (status : Nat → Int32) (did : Nat → Int32) (ready : Nat → Int32) (trace : Nat → Int32) (l1 : Int32) (l9 : Int32) (s1 : Int32) (s2 : Int32) (s3 : Int32) : Int32 × (Nat → Int32) × (Nat → Int32) × (Nat → Int32) × (Nat → Int32) × (Nat → Int32) × (Nat → Int32) × (Nat → Int32) × (Nat → Int32) := (f_X11_moveWord_c306 wheel now store common address status did ready trace l1 l9 (f_X11_set s1 s2 s3 register))
set_option maxRecDepth 20000 in
theorem j_X11_moveWord_306 {l1 : Int32} {l9 : Int32} {s1 : Int32} {s2 : Int32} {s3 : Int32} {refusal : Int32} {wheel : Int32} {now : Int32} {length : Int32} {at_ : Int32} {fault : Int32} {faultLine : Int32} {line : Int32} {words : Int32} {labels : Int32} {targets : Int32} {wrong : Int32} {unfit : Int32} {text : Nat → Int32} {code_ : Nat → Int32} {label : Nat → Int64} {labelWord : Nat → Int32} {target : Nat → Int64} {targetWord : Nat → Int32} {targetLine : Nat → Int32} {store : Nat → Int32} {common : Nat → Int32} {low : Nat → Int32} {high : Nat → Int32} {register : Nat → Int32} {address : Nat → Int32} {status : Nat → Int32} {did : Nat → Int32} {ready : Nat → Int32} {timer : Nat → Int32} {trace : Nat → Int32} {r_0 : Int32} {r_1 : (Nat → Int32)} {r_2 : (Nat → Int32)} {r_3 : (Nat → Int32)} {r_4 : (Nat → Int32)} {r_5 : (Nat → Int32)} {r_6 : (Nat → Int32)} {r_7 : (Nat → Int32)} {r_8 : (Nat → Int32)} (hres : (r_0, r_1, r_2, r_3, r_4, r_5, r_6, r_7, r_8) = (f_X11_moveWord_306 wheel now store common register address status did ready trace l1 l9 s1 s2 s3)) (ht : 0 ≤ l1.toInt ∧ l1.toInt < 4) (hdid : ∀ j, j < 4 → 0 ≤ (did j).toInt) (hlh : ∀ j, j < 4 → 0 ≤ (low j).toInt ∧ (low j).toInt ≤ (high j).toInt ∧ (high j).toInt ≤ 64) (hwh : 1 ≤ wheel.toInt ∧ wheel.toInt ≤ 8) (hnow : 0 ≤ now.toInt ∧ now.toInt ≤ 1100000) (hts : 0 ≤ s1.toInt ∧ s1.toInt < 4) (hr : 0 ≤ s2.toInt ∧ s2.toInt < 16) : G M_X11_moveWord 0 0 306 [(0, .ref 0), (1, .int l1), (9, .int l9)] [.int s3, .int s2, .int s1, .ref 0] (w_M refusal wheel now length at_ fault faultLine line words labels targets wrong unfit text code_ label labelWord target targetWord targetLine store common low high register address status did ready timer trace) (some (.int r_0)) (w_M refusal wheel now length at_ fault faultLine line words labels targets wrong unfit text code_ label labelWord target targetWord targetLine r_1 r_2 low high r_3 r_4 r_5 r_6 r_7 timer r_8) := by
  rw [f_X11_moveWord_306] at hres
  obtain ⟨z4_0, hz4⟩ := g_ex1 (f_X11_set s1 s2 s3 register)
  refine G.callV0 (pc := 306) (rest := []) (st1 := []) dm_X11_moveWord_306 gc_X11_moveWord_313 (k_X11_set (t := s1) (r := s2) (v := s3) (refusal := refusal) (wheel := wheel) (now := now) (length := length) (at_ := at_) (fault := fault) (faultLine := faultLine) (line := line) (words := words) (labels := labels) (targets := targets) (wrong := wrong) (unfit := unfit) (text := text) (code_ := code_) (label := label) (labelWord := labelWord) (target := target) (targetWord := targetWord) (targetLine := targetLine) (store := store) (common := common) (low := low) (high := high) (register := register) (address := address) (status := status) (did := did) (ready := ready) (timer := timer) (trace := trace) hts hr hz4) rfl rfl rfl rfl rfl rfl rfl rfl ?_
  replace hres : (r_0, r_1, r_2, r_3, r_4, r_5, r_6, r_7, r_8) = f_X11_moveWord_c306 wheel now store common address status did ready trace l1 l9 z4_0 := hres.trans (by rw [← hz4])
  rw [f_X11_moveWord_c306] at hres
  exact j_X11_moveWord_309 hres (by first | assumption | exact q_31 _ | rfl) (by first | assumption | exact q_31 _ | rfl) (by first | assumption | exact q_31 _ | rfl) (by first | assumption | exact q_31 _ | rfl) (by first | assumption | exact q_31 _ | rfl)
def f_X11_moveWord_c256 (wheel : Int32) (now : Int32) (register : Nat → Int32) (address : Nat → Int32) (status : Nat → Int32) (did : Nat → Int32) (ready : Nat → Int32) (trace : Nat → Int32) (l1 : Int32) (l9 : Int32) (z8_0 : (Nat → Int32)) (z8_1 : (Nat → Int32)) : Int32 × (Nat → Int32) × (Nat → Int32) × (Nat → Int32) × (Nat → Int32) × (Nat → Int32) × (Nat → Int32) × (Nat → Int32) × (Nat → Int32) := (f_X11_moveWord_309 wheel now z8_0 z8_1 register address status did ready trace l1 l9)
def f_X11_moveWord_256 (wheel : Int32) (now : Int32) (store : Nat → Int32) (common : Nat → Int32) (register : Nat → Int32) (address : Nat → Int32) (status : Nat → Int32) (did : Nat → Int32) (ready : Nat → Int32) (trace : Nat → Int32) (l1 : Int32) (l9 : Int32) (s1 : Int32) (s2 : Int32) (s3 : Int32) : Int32 × (Nat → Int32) × (Nat → Int32) × (Nat → Int32) × (Nat → Int32) × (Nat → Int32) × (Nat → Int32) × (Nat → Int32) × (Nat → Int32) := (f_X11_moveWord_c256 wheel now register address status did ready trace l1 l9 (f_X11_put s1 s2 s3 store common).1 (f_X11_put s1 s2 s3 store common).2)
set_option maxRecDepth 20000 in
theorem j_X11_moveWord_256 {l1 : Int32} {l9 : Int32} {s1 : Int32} {s2 : Int32} {s3 : Int32} {refusal : Int32} {wheel : Int32} {now : Int32} {length : Int32} {at_ : Int32} {fault : Int32} {faultLine : Int32} {line : Int32} {words : Int32} {labels : Int32} {targets : Int32} {wrong : Int32} {unfit : Int32} {text : Nat → Int32} {code_ : Nat → Int32} {label : Nat → Int64} {labelWord : Nat → Int32} {target : Nat → Int64} {targetWord : Nat → Int32} {targetLine : Nat → Int32} {store : Nat → Int32} {common : Nat → Int32} {low : Nat → Int32} {high : Nat → Int32} {register : Nat → Int32} {address : Nat → Int32} {status : Nat → Int32} {did : Nat → Int32} {ready : Nat → Int32} {timer : Nat → Int32} {trace : Nat → Int32} {r_0 : Int32} {r_1 : (Nat → Int32)} {r_2 : (Nat → Int32)} {r_3 : (Nat → Int32)} {r_4 : (Nat → Int32)} {r_5 : (Nat → Int32)} {r_6 : (Nat → Int32)} {r_7 : (Nat → Int32)} {r_8 : (Nat → Int32)} (hres : (r_0, r_1, r_2, r_3, r_4, r_5, r_6, r_7, r_8) = (f_X11_moveWord_256 wheel now store common register address status did ready trace l1 l9 s1 s2 s3)) (ht : 0 ≤ l1.toInt ∧ l1.toInt < 4) (hdid : ∀ j, j < 4 → 0 ≤ (did j).toInt) (hlh : ∀ j, j < 4 → 0 ≤ (low j).toInt ∧ (low j).toInt ≤ (high j).toInt ∧ (high j).toInt ≤ 64) (hwh : 1 ≤ wheel.toInt ∧ wheel.toInt ≤ 8) (hnow : 0 ≤ now.toInt ∧ now.toInt ≤ 1100000) (hts : 0 ≤ s1.toInt ∧ s1.toInt < 4) (hwa : (0 ≤ s2.toInt ∧ s2.toInt < 512) ∨ (4096 ≤ s2.toInt ∧ s2.toInt < 4352)) : G M_X11_moveWord 0 0 256 [(0, .ref 0), (1, .int l1), (9, .int l9)] [.int s3, .int s2, .int s1, .ref 0] (w_M refusal wheel now length at_ fault faultLine line words labels targets wrong unfit text code_ label labelWord target targetWord targetLine store common low high register address status did ready timer trace) (some (.int r_0)) (w_M refusal wheel now length at_ fault faultLine line words labels targets wrong unfit text code_ label labelWord target targetWord targetLine r_1 r_2 low high r_3 r_4 r_5 r_6 r_7 timer r_8) := by
  rw [f_X11_moveWord_256] at hres
  obtain ⟨z8_0, z8_1, hz8⟩ := g_ex2 (f_X11_put s1 s2 s3 store common)
  refine G.callV0 (pc := 256) (rest := []) (st1 := []) dm_X11_moveWord_256 gc_X11_moveWord_309 (k_X11_put (t := s1) (a := s2) (v := s3) (refusal := refusal) (wheel := wheel) (now := now) (length := length) (at_ := at_) (fault := fault) (faultLine := faultLine) (line := line) (words := words) (labels := labels) (targets := targets) (wrong := wrong) (unfit := unfit) (text := text) (code_ := code_) (label := label) (labelWord := labelWord) (target := target) (targetWord := targetWord) (targetLine := targetLine) (store := store) (common := common) (low := low) (high := high) (register := register) (address := address) (status := status) (did := did) (ready := ready) (timer := timer) (trace := trace) hts hwa hz8) rfl rfl rfl rfl rfl rfl rfl rfl ?_
  replace hres : (r_0, r_1, r_2, r_3, r_4, r_5, r_6, r_7, r_8) = f_X11_moveWord_c256 wheel now register address status did ready trace l1 l9 z8_0 z8_1 := hres.trans (by rw [← hz8])
  rw [f_X11_moveWord_c256] at hres
  refine G.goto (pc := 259) (tgt := 309) dm_X11_moveWord_259 (by decide) ?_
  exact j_X11_moveWord_309 hres (by first | assumption | exact q_31 _ | rfl) (by first | assumption | exact q_31 _ | rfl) (by first | assumption | exact q_31 _ | rfl) (by first | assumption | exact q_31 _ | rfl) (by first | assumption | exact q_31 _ | rfl)
def f_X11_moveWord_c197 (wheel : Int32) (now : Int32) (store : Nat → Int32) (common : Nat → Int32) (register : Nat → Int32) (address : Nat → Int32) (status : Nat → Int32) (did : Nat → Int32) (ready : Nat → Int32) (trace : Nat → Int32) (l1 : Int32) (l3 : Int32) (l4 : Int32) (l6 : Int32) (l9 : Int32) (z3_0 : Int32) : Int32 × (Nat → Int32) × (Nat → Int32) × (Nat → Int32) × (Nat → Int32) × (Nat → Int32) × (Nat → Int32) × (Nat → Int32) × (Nat → Int32) := (if l3 = 0 then (if l4 = (2 : Int32) then (f_X11_moveWord_306 wheel now store common register address status did ready trace l1 l9 l1 l6 z3_0) else (if l4 = (4 : Int32) then (f_X11_moveWord_306 wheel now store common register address status did ready trace l1 l9 l1 l6 ((z3_0 >>> (((8 : Int32) * (l9 &&& (3 : Int32))) &&& 31)) &&& (255 : Int32))) else (f_X11_moveWord_306 wheel now store common register address status did ready trace l1 l9 l1 l6 ((z3_0 <<< (((24 : Int32) - ((8 : Int32) * (l9 &&& (3 : Int32)))) &&& 31)) >>> ((24 : Int32) &&& 31))))) else (if l4 = (2 : Int32) then (f_X11_moveWord_256 wheel now store common register address status did ready trace l1 l9 l1 l9 (register (Int32.toNatClampNeg (((16 : Int32) * l1) + l6)))) else (f_X11_moveWord_256 wheel now store common register address status did ready trace l1 l9 l1 l9 ((z3_0 &&& (((255 : Int32) <<< (((8 : Int32) * (l9 &&& (3 : Int32))) &&& 31)) ^^^ (-1 : Int32))) ||| (((register (Int32.toNatClampNeg (((16 : Int32) * l1) + l6))) &&& (255 : Int32)) <<< (((8 : Int32) * (l9 &&& (3 : Int32))) &&& 31))))))
def f_X11_moveWord_c180 (store : Nat → Int32) (common : Nat → Int32) (register : Nat → Int32) (address : Nat → Int32) (did : Nat → Int32) (ready : Nat → Int32) (trace : Nat → Int32) (z9_0 : Int32) (z9_1 : (Nat → Int32)) : Int32 × (Nat → Int32) × (Nat → Int32) × (Nat → Int32) × (Nat → Int32) × (Nat → Int32) × (Nat → Int32) × (Nat → Int32) × (Nat → Int32) := (z9_0, store, common, register, address, z9_1, did, ready, trace)
def f_X11_moveWord_c172 (wheel : Int32) (now : Int32) (store : Nat → Int32) (common : Nat → Int32) (register : Nat → Int32) (address : Nat → Int32) (status : Nat → Int32) (did : Nat → Int32) (ready : Nat → Int32) (trace : Nat → Int32) (l1 : Int32) (l3 : Int32) (l4 : Int32) (l6 : Int32) (l9 : Int32) (z2_0 : Int32) : Int32 × (Nat → Int32) × (Nat → Int32) × (Nat → Int32) × (Nat → Int32) × (Nat → Int32) × (Nat → Int32) × (Nat → Int32) × (Nat → Int32) := (if z2_0 = 0 then (f_X11_moveWord_c180 store common register address did ready trace (f_X11_stop l1 status).1 (f_X11_stop l1 status).2) else (f_X11_moveWord_c197 wheel now store common register address status did ready trace l1 l3 l4 l6 l9 (f_X11_wordAt l1 l9 store common)))
def f_X11_moveWord_172 (wheel : Int32) (now : Int32) (store : Nat → Int32) (common : Nat → Int32) (low : Nat → Int32) (high : Nat → Int32) (register : Nat → Int32) (address : Nat → Int32) (status : Nat → Int32) (did : Nat → Int32) (ready : Nat → Int32) (trace : Nat → Int32) (l1 : Int32) (l3 : Int32) (l4 : Int32) (l6 : Int32) (l9 : Int32) (s1 : Int32) (s2 : Int32) (s3 : Int32) : Int32 × (Nat → Int32) × (Nat → Int32) × (Nat → Int32) × (Nat → Int32) × (Nat → Int32) × (Nat → Int32) × (Nat → Int32) × (Nat → Int32) := (f_X11_moveWord_c172 wheel now store common register address status did ready trace l1 l3 l4 l6 l9 (f_X11_isThere s1 s2 s3 low high))
set_option maxRecDepth 20000 in
theorem j_X11_moveWord_172 {l1 : Int32} {l3 : Int32} {l4 : Int32} {l6 : Int32} {l9 : Int32} {s1 : Int32} {s2 : Int32} {s3 : Int32} {refusal : Int32} {wheel : Int32} {now : Int32} {length : Int32} {at_ : Int32} {fault : Int32} {faultLine : Int32} {line : Int32} {words : Int32} {labels : Int32} {targets : Int32} {wrong : Int32} {unfit : Int32} {text : Nat → Int32} {code_ : Nat → Int32} {label : Nat → Int64} {labelWord : Nat → Int32} {target : Nat → Int64} {targetWord : Nat → Int32} {targetLine : Nat → Int32} {store : Nat → Int32} {common : Nat → Int32} {low : Nat → Int32} {high : Nat → Int32} {register : Nat → Int32} {address : Nat → Int32} {status : Nat → Int32} {did : Nat → Int32} {ready : Nat → Int32} {timer : Nat → Int32} {trace : Nat → Int32} {r_0 : Int32} {r_1 : (Nat → Int32)} {r_2 : (Nat → Int32)} {r_3 : (Nat → Int32)} {r_4 : (Nat → Int32)} {r_5 : (Nat → Int32)} {r_6 : (Nat → Int32)} {r_7 : (Nat → Int32)} {r_8 : (Nat → Int32)} (hres : (r_0, r_1, r_2, r_3, r_4, r_5, r_6, r_7, r_8) = (f_X11_moveWord_172 wheel now store common low high register address status did ready trace l1 l3 l4 l6 l9 s1 s2 s3)) (ht : 0 ≤ l1.toInt ∧ l1.toInt < 4) (hdid : ∀ j, j < 4 → 0 ≤ (did j).toInt) (hlh : ∀ j, j < 4 → 0 ≤ (low j).toInt ∧ (low j).toInt ≤ (high j).toInt ∧ (high j).toInt ≤ 64) (hwh : 1 ≤ wheel.toInt ∧ wheel.toInt ≤ 8) (hnow : 0 ≤ now.toInt ∧ now.toInt ≤ 1100000) (h6 : 0 ≤ l6.toInt ∧ l6.toInt < 16) (hts : 0 ≤ s1.toInt ∧ s1.toInt < 4) (hs2 : s2 = l9) : G M_X11_moveWord 0 0 172 [(0, .ref 0), (1, .int l1), (3, .int l3), (4, .int l4), (6, .int l6), (9, .int l9)] [.int s3, .int s2, .int s1, .ref 0] (w_M refusal wheel now length at_ fault faultLine line words labels targets wrong unfit text code_ label labelWord target targetWord targetLine store common low high register address status did ready timer trace) (some (.int r_0)) (w_M refusal wheel now length at_ fault faultLine line words labels targets wrong unfit text code_ label labelWord target targetWord targetLine r_1 r_2 low high r_3 r_4 r_5 r_6 r_7 timer r_8) := by
  rw [f_X11_moveWord_172] at hres
  obtain ⟨z2_0, hz2⟩ := g_ex1 (f_X11_isThere s1 s2 s3 low high)
  refine G.callV0 (pc := 172) (rest := []) (st1 := [.int z2_0]) dm_X11_moveWord_172 gc_X11_moveWord_302 (k_X11_isThere (t := s1) (a := s2) (size := s3) (refusal := refusal) (wheel := wheel) (now := now) (length := length) (at_ := at_) (fault := fault) (faultLine := faultLine) (line := line) (words := words) (labels := labels) (targets := targets) (wrong := wrong) (unfit := unfit) (text := text) (code_ := code_) (label := label) (labelWord := labelWord) (target := target) (targetWord := targetWord) (targetLine := targetLine) (store := store) (common := common) (low := low) (high := high) (register := register) (address := address) (status := status) (did := did) (ready := ready) (timer := timer) (trace := trace) hts hz2) rfl rfl rfl rfl rfl rfl rfl rfl ?_
  have there := a_isThere hz2.symm hts hlh
  replace hres : (r_0, r_1, r_2, r_3, r_4, r_5, r_6, r_7, r_8) = f_X11_moveWord_c172 wheel now store common register address status did ready trace l1 l3 l4 l6 l9 z2_0 := hres.trans (by rw [← hz2])
  rw [f_X11_moveWord_c172] at hres
  refine G.if_ne (pc := 175) (tgt := 184) dm_X11_moveWord_175 (by decide) (fun c175 => ?_) (fun c175 => ?_)
  · rw [if_neg c175] at hres
    have hwa := there c175
    rw [hs2] at hwa
    refine G.bipush (pc := 184) (v := (8 : Int32)) dm_X11_moveWord_184 qb_8 ?_
    refine G.iload (pc := 186) dm_X11_moveWord_186 rfl ?_
    refine G.iconst (pc := 188) (v := (3 : Int32)) dm_X11_moveWord_188 qi_3 ?_
    refine G.iand (pc := 189) dm_X11_moveWord_189 ?_
    refine G.imul (pc := 190) dm_X11_moveWord_190 ?_
    refine G.istore (pc := 191) (lv1 := [(10, .int ((8 : Int32) * (l9 &&& (3 : Int32)))), (0, .ref 0), (1, .int l1), (3, .int l3), (4, .int l4), (6, .int l6), (9, .int l9)]) dm_X11_moveWord_191 rfl rfl ?_
    refine G.aload_n (pc := 193) dm_X11_moveWord_193 rfl ?_
    refine G.iload_n (pc := 194) dm_X11_moveWord_194 rfl ?_
    refine G.iload (pc := 195) dm_X11_moveWord_195 rfl ?_
    obtain ⟨z3_0, hz3⟩ := g_ex1 (f_X11_wordAt l1 l9 store common)
    refine G.callV0 (pc := 197) (rest := []) (st1 := [.int z3_0]) dm_X11_moveWord_197 gc_X11_moveWord_306 (k_X11_wordAt (t := l1) (a := l9) (refusal := refusal) (wheel := wheel) (now := now) (length := length) (at_ := at_) (fault := fault) (faultLine := faultLine) (line := line) (words := words) (labels := labels) (targets := targets) (wrong := wrong) (unfit := unfit) (text := text) (code_ := code_) (label := label) (labelWord := labelWord) (target := target) (targetWord := targetWord) (targetLine := targetLine) (store := store) (common := common) (low := low) (high := high) (register := register) (address := address) (status := status) (did := did) (ready := ready) (timer := timer) (trace := trace) (by first | assumption | exact q_31 _ | rfl) (by first | assumption | exact q_31 _ | rfl) hz3) rfl rfl rfl rfl rfl rfl rfl rfl ?_
    replace hres : (r_0, r_1, r_2, r_3, r_4, r_5, r_6, r_7, r_8) = f_X11_moveWord_c197 wheel now store common register address status did ready trace l1 l3 l4 l6 l9 z3_0 := hres.trans (by rw [← hz3])
    rw [f_X11_moveWord_c197] at hres
    refine G.istore (pc := 200) (lv1 := [(11, .int z3_0), (10, .int ((8 : Int32) * (l9 &&& (3 : Int32)))), (0, .ref 0), (1, .int l1), (3, .int l3), (4, .int l4), (6, .int l6), (9, .int l9)]) dm_X11_moveWord_200 rfl rfl ?_
    refine G.aload_n (pc := 202) dm_X11_moveWord_202 rfl ?_
    refine G.getfield (pc := 203) dm_X11_moveWord_203 gf_X11_45 rfl rfl ?_
    refine G.bipush (pc := 206) (v := (16 : Int32)) dm_X11_moveWord_206 qb_16 ?_
    refine G.iload_n (pc := 208) dm_X11_moveWord_208 rfl ?_
    refine G.imul (pc := 209) dm_X11_moveWord_209 ?_
    refine G.iload (pc := 210) dm_X11_moveWord_210 rfl ?_
    refine G.iadd (pc := 212) dm_X11_moveWord_212 ?_
    refine G.iaload (pc := 213) dm_X11_moveWord_213 rfl (q_i16 ht h6) ?_
    refine G.istore (pc := 214) (lv1 := [(12, .int (register (Int32.toNatClampNeg (((16 : Int32) * l1) + l6)))), (11, .int z3_0), (10, .int ((8 : Int32) * (l9 &&& (3 : Int32)))), (0, .ref 0), (1, .int l1), (3, .int l3), (4, .int l4), (6, .int l6), (9, .int l9)]) dm_X11_moveWord_214 rfl rfl ?_
    refine G.iload_n (pc := 216) dm_X11_moveWord_216 rfl ?_
    refine G.if_eq (pc := 217) (tgt := 262) dm_X11_moveWord_217 (by decide) (fun c217 => ?_) (fun c217 => ?_)
    · rw [if_pos c217] at hres
      refine G.aload_n (pc := 262) dm_X11_moveWord_262 rfl ?_
      refine G.iload_n (pc := 263) dm_X11_moveWord_263 rfl ?_
      refine G.iload (pc := 264) dm_X11_moveWord_264 rfl ?_
      refine G.iload (pc := 266) dm_X11_moveWord_266 rfl ?_
      refine G.iconst (pc := 268) (v := (2 : Int32)) dm_X11_moveWord_268 qi_2 ?_
      refine G.icmp_ne (pc := 269) (tgt := 277) dm_X11_moveWord_269 (by decide) (fun c269 => ?_) (fun c269 => ?_)
      · rw [if_neg c269] at hres
        refine G.iload (pc := 277) dm_X11_moveWord_277 rfl ?_
        refine G.iconst (pc := 279) (v := (4 : Int32)) dm_X11_moveWord_279 qi_4 ?_
        refine G.icmp_ne (pc := 280) (tgt := 295) dm_X11_moveWord_280 (by decide) (fun c280 => ?_) (fun c280 => ?_)
        · rw [if_neg c280] at hres
          refine G.iload (pc := 295) dm_X11_moveWord_295 rfl ?_
          refine G.bipush (pc := 297) (v := (24 : Int32)) dm_X11_moveWord_297 qb_24 ?_
          refine G.iload (pc := 299) dm_X11_moveWord_299 rfl ?_
          refine G.isub (pc := 301) dm_X11_moveWord_301 ?_
          refine G.ishl (pc := 302) dm_X11_moveWord_302 ?_
          refine G.bipush (pc := 303) (v := (24 : Int32)) dm_X11_moveWord_303 qb_24 ?_
          refine G.ishr (pc := 305) dm_X11_moveWord_305 ?_
          refine G.lvp [3, 4, 8] rfl ?_
          exact j_X11_moveWord_306 hres (by first | assumption | exact q_31 _ | rfl) (by first | assumption | exact q_31 _ | rfl) (by first | assumption | exact q_31 _ | rfl) (by first | assumption | exact q_31 _ | rfl) (by first | assumption | exact q_31 _ | rfl) (by first | assumption | exact q_31 _ | rfl) (by first | assumption | exact q_31 _ | rfl)
        · rw [if_pos c280] at hres
          refine G.iload (pc := 283) dm_X11_moveWord_283 rfl ?_
          refine G.iload (pc := 285) dm_X11_moveWord_285 rfl ?_
          refine G.ishr (pc := 287) dm_X11_moveWord_287 ?_
          refine G.sipush (pc := 288) (v := (255 : Int32)) dm_X11_moveWord_288 qs_255 ?_
          refine G.iand (pc := 291) dm_X11_moveWord_291 ?_
          refine G.goto (pc := 292) (tgt := 306) dm_X11_moveWord_292 (by decide) ?_
          refine G.lvp [3, 4, 8] rfl ?_
          exact j_X11_moveWord_306 hres (by first | assumption | exact q_31 _ | rfl) (by first | assumption | exact q_31 _ | rfl) (by first | assumption | exact q_31 _ | rfl) (by first | assumption | exact q_31 _ | rfl) (by first | assumption | exact q_31 _ | rfl) (by first | assumption | exact q_31 _ | rfl) (by first | assumption | exact q_31 _ | rfl)
      · rw [if_pos c269] at hres
        refine G.iload (pc := 272) dm_X11_moveWord_272 rfl ?_
        refine G.goto (pc := 274) (tgt := 306) dm_X11_moveWord_274 (by decide) ?_
        refine G.lvp [3, 4, 8] rfl ?_
        exact j_X11_moveWord_306 hres (by first | assumption | exact q_31 _ | rfl) (by first | assumption | exact q_31 _ | rfl) (by first | assumption | exact q_31 _ | rfl) (by first | assumption | exact q_31 _ | rfl) (by first | assumption | exact q_31 _ | rfl) (by first | assumption | exact q_31 _ | rfl) (by first | assumption | exact q_31 _ | rfl)
    · rw [if_neg c217] at hres
      refine G.aload_n (pc := 220) dm_X11_moveWord_220 rfl ?_
      refine G.iload_n (pc := 221) dm_X11_moveWord_221 rfl ?_
      refine G.iload (pc := 222) dm_X11_moveWord_222 rfl ?_
      refine G.iload (pc := 224) dm_X11_moveWord_224 rfl ?_
      refine G.iconst (pc := 226) (v := (2 : Int32)) dm_X11_moveWord_226 qi_2 ?_
      refine G.icmp_ne (pc := 227) (tgt := 235) dm_X11_moveWord_227 (by decide) (fun c227 => ?_) (fun c227 => ?_)
      · rw [if_neg c227] at hres
        refine G.iload (pc := 235) dm_X11_moveWord_235 rfl ?_
        refine G.sipush (pc := 237) (v := (255 : Int32)) dm_X11_moveWord_237 qs_255 ?_
        refine G.iload (pc := 240) dm_X11_moveWord_240 rfl ?_
        refine G.ishl (pc := 242) dm_X11_moveWord_242 ?_
        refine G.iconst (pc := 243) (v := (-1 : Int32)) dm_X11_moveWord_243 qi_m1 ?_
        refine G.ixor (pc := 244) dm_X11_moveWord_244 ?_
        refine G.iand (pc := 245) dm_X11_moveWord_245 ?_
        refine G.iload (pc := 246) dm_X11_moveWord_246 rfl ?_
        refine G.sipush (pc := 248) (v := (255 : Int32)) dm_X11_moveWord_248 qs_255 ?_
        refine G.iand (pc := 251) dm_X11_moveWord_251 ?_
        refine G.iload (pc := 252) dm_X11_moveWord_252 rfl ?_
        refine G.ishl (pc := 254) dm_X11_moveWord_254 ?_
        refine G.ior (pc := 255) dm_X11_moveWord_255 ?_
        refine G.lvp [3, 4, 8] rfl ?_
        exact j_X11_moveWord_256 hres (by first | assumption | exact q_31 _ | rfl) (by first | assumption | exact q_31 _ | rfl) (by first | assumption | exact q_31 _ | rfl) (by first | assumption | exact q_31 _ | rfl) (by first | assumption | exact q_31 _ | rfl) (by first | assumption | exact q_31 _ | rfl) (by first | assumption | exact q_31 _ | rfl)
      · rw [if_pos c227] at hres
        refine G.iload (pc := 230) dm_X11_moveWord_230 rfl ?_
        refine G.goto (pc := 232) (tgt := 256) dm_X11_moveWord_232 (by decide) ?_
        refine G.lvp [3, 4, 8] rfl ?_
        exact j_X11_moveWord_256 hres (by first | assumption | exact q_31 _ | rfl) (by first | assumption | exact q_31 _ | rfl) (by first | assumption | exact q_31 _ | rfl) (by first | assumption | exact q_31 _ | rfl) (by first | assumption | exact q_31 _ | rfl) (by first | assumption | exact q_31 _ | rfl) (by first | assumption | exact q_31 _ | rfl)
  · rw [if_pos c175] at hres
    refine G.aload_n (pc := 178) dm_X11_moveWord_178 rfl ?_
    refine G.iload_n (pc := 179) dm_X11_moveWord_179 rfl ?_
    obtain ⟨z9_0, z9_1, hz9⟩ := g_ex2 (f_X11_stop l1 status)
    refine G.callV0 (pc := 180) (rest := []) (st1 := [.int z9_0]) dm_X11_moveWord_180 gc_X11_moveWord_299 (k_X11_stop (t := l1) (refusal := refusal) (wheel := wheel) (now := now) (length := length) (at_ := at_) (fault := fault) (faultLine := faultLine) (line := line) (words := words) (labels := labels) (targets := targets) (wrong := wrong) (unfit := unfit) (text := text) (code_ := code_) (label := label) (labelWord := labelWord) (target := target) (targetWord := targetWord) (targetLine := targetLine) (store := store) (common := common) (low := low) (high := high) (register := register) (address := address) (status := status) (did := did) (ready := ready) (timer := timer) (trace := trace) (by first | assumption | exact q_31 _ | rfl) hz9) rfl rfl rfl rfl rfl rfl rfl rfl ?_
    replace hres : (r_0, r_1, r_2, r_3, r_4, r_5, r_6, r_7, r_8) = f_X11_moveWord_c180 store common register address did ready trace z9_0 z9_1 := hres.trans (by rw [← hz9])
    rw [f_X11_moveWord_c180] at hres
    cases hres
    exact G.ireturn (pc := 183) dm_X11_moveWord_183 rfl rfl rfl
def f_X11_moveWord_138 (wheel : Int32) (now : Int32) (store : Nat → Int32) (common : Nat → Int32) (low : Nat → Int32) (high : Nat → Int32) (register : Nat → Int32) (address : Nat → Int32) (status : Nat → Int32) (did : Nat → Int32) (ready : Nat → Int32) (trace : Nat → Int32) (l1 : Int32) (l3 : Int32) (l4 : Int32) (l5 : Int32) (s0 : Int32) (l6 : Int32) : Int32 × (Nat → Int32) × (Nat → Int32) × (Nat → Int32) × (Nat → Int32) × (Nat → Int32) × (Nat → Int32) × (Nat → Int32) × (Nat → Int32) := (if l4 = (2 : Int32) then (f_X11_moveWord_172 wheel now store common low high register address status did ready trace l1 l3 l4 l6 ((register (Int32.toNatClampNeg (((16 : Int32) * l1) + l5))) + s0) l1 ((register (Int32.toNatClampNeg (((16 : Int32) * l1) + l5))) + s0) (4 : Int32)) else (f_X11_moveWord_172 wheel now store common low high register address status did ready trace l1 l3 l4 l6 ((register (Int32.toNatClampNeg (((16 : Int32) * l1) + l5))) + s0) l1 ((register (Int32.toNatClampNeg (((16 : Int32) * l1) + l5))) + s0) (1 : Int32)))
set_option maxRecDepth 20000 in
theorem j_X11_moveWord_138 {l1 : Int32} {l3 : Int32} {l4 : Int32} {l5 : Int32} {l6 : Int32} {s0 : Int32} {refusal : Int32} {wheel : Int32} {now : Int32} {length : Int32} {at_ : Int32} {fault : Int32} {faultLine : Int32} {line : Int32} {words : Int32} {labels : Int32} {targets : Int32} {wrong : Int32} {unfit : Int32} {text : Nat → Int32} {code_ : Nat → Int32} {label : Nat → Int64} {labelWord : Nat → Int32} {target : Nat → Int64} {targetWord : Nat → Int32} {targetLine : Nat → Int32} {store : Nat → Int32} {common : Nat → Int32} {low : Nat → Int32} {high : Nat → Int32} {register : Nat → Int32} {address : Nat → Int32} {status : Nat → Int32} {did : Nat → Int32} {ready : Nat → Int32} {timer : Nat → Int32} {trace : Nat → Int32} {r_0 : Int32} {r_1 : (Nat → Int32)} {r_2 : (Nat → Int32)} {r_3 : (Nat → Int32)} {r_4 : (Nat → Int32)} {r_5 : (Nat → Int32)} {r_6 : (Nat → Int32)} {r_7 : (Nat → Int32)} {r_8 : (Nat → Int32)} (hres : (r_0, r_1, r_2, r_3, r_4, r_5, r_6, r_7, r_8) = (f_X11_moveWord_138 wheel now store common low high register address status did ready trace l1 l3 l4 l5 s0 l6)) (ht : 0 ≤ l1.toInt ∧ l1.toInt < 4) (hdid : ∀ j, j < 4 → 0 ≤ (did j).toInt) (hlh : ∀ j, j < 4 → 0 ≤ (low j).toInt ∧ (low j).toInt ≤ (high j).toInt ∧ (high j).toInt ≤ 64) (hwh : 1 ≤ wheel.toInt ∧ wheel.toInt ≤ 8) (hnow : 0 ≤ now.toInt ∧ now.toInt ≤ 1100000) (h5 : 0 ≤ l5.toInt ∧ l5.toInt < 16) (h6 : 0 ≤ l6.toInt ∧ l6.toInt < 16) : G M_X11_moveWord 0 0 138 [(0, .ref 0), (1, .int l1), (3, .int l3), (4, .int l4), (5, .int l5), (6, .int l6)] [.int s0] (w_M refusal wheel now length at_ fault faultLine line words labels targets wrong unfit text code_ label labelWord target targetWord targetLine store common low high register address status did ready timer trace) (some (.int r_0)) (w_M refusal wheel now length at_ fault faultLine line words labels targets wrong unfit text code_ label labelWord target targetWord targetLine r_1 r_2 low high r_3 r_4 r_5 r_6 r_7 timer r_8) := by
  rw [f_X11_moveWord_138] at hres
  refine G.istore (pc := 138) (lv1 := [(8, .int s0), (0, .ref 0), (1, .int l1), (3, .int l3), (4, .int l4), (5, .int l5), (6, .int l6)]) dm_X11_moveWord_138 rfl rfl ?_
  refine G.aload_n (pc := 140) dm_X11_moveWord_140 rfl ?_
  refine G.getfield (pc := 141) dm_X11_moveWord_141 gf_X11_45 rfl rfl ?_
  refine G.bipush (pc := 144) (v := (16 : Int32)) dm_X11_moveWord_144 qb_16 ?_
  refine G.iload_n (pc := 146) dm_X11_moveWord_146 rfl ?_
  refine G.imul (pc := 147) dm_X11_moveWord_147 ?_
  refine G.iload (pc := 148) dm_X11_moveWord_148 rfl ?_
  refine G.iadd (pc := 150) dm_X11_moveWord_150 ?_
  refine G.iaload (pc := 151) dm_X11_moveWord_151 rfl (q_i16 ht h5) ?_
  refine G.iload (pc := 152) dm_X11_moveWord_152 rfl ?_
  refine G.iadd (pc := 154) dm_X11_moveWord_154 ?_
  refine G.istore (pc := 155) (lv1 := [(9, .int ((register (Int32.toNatClampNeg (((16 : Int32) * l1) + l5))) + s0)), (8, .int s0), (0, .ref 0), (1, .int l1), (3, .int l3), (4, .int l4), (5, .int l5), (6, .int l6)]) dm_X11_moveWord_155 rfl rfl ?_
  refine G.aload_n (pc := 157) dm_X11_moveWord_157 rfl ?_
  refine G.iload_n (pc := 158) dm_X11_moveWord_158 rfl ?_
  refine G.iload (pc := 159) dm_X11_moveWord_159 rfl ?_
  refine G.iload (pc := 161) dm_X11_moveWord_161 rfl ?_
  refine G.iconst (pc := 163) (v := (2 : Int32)) dm_X11_moveWord_163 qi_2 ?_
  refine G.icmp_ne (pc := 164) (tgt := 171) dm_X11_moveWord_164 (by decide) (fun c164 => ?_) (fun c164 => ?_)
  · rw [if_neg c164] at hres
    refine G.iconst (pc := 171) (v := (1 : Int32)) dm_X11_moveWord_171 qi_1 ?_
    refine G.lvp [2, 3, 4, 5, 7, 0] rfl ?_
    exact j_X11_moveWord_172 hres (by first | assumption | exact q_31 _ | rfl) (by first | assumption | exact q_31 _ | rfl) (by first | assumption | exact q_31 _ | rfl) (by first | assumption | exact q_31 _ | rfl) (by first | assumption | exact q_31 _ | rfl) (by first | assumption | exact q_31 _ | rfl) (by first | assumption | exact q_31 _ | rfl) (by first | assumption | exact q_31 _ | rfl)
  · rw [if_pos c164] at hres
    refine G.iconst (pc := 167) (v := (4 : Int32)) dm_X11_moveWord_167 qi_4 ?_
    refine G.goto (pc := 168) (tgt := 172) dm_X11_moveWord_168 (by decide) ?_
    refine G.lvp [2, 3, 4, 5, 7, 0] rfl ?_
    exact j_X11_moveWord_172 hres (by first | assumption | exact q_31 _ | rfl) (by first | assumption | exact q_31 _ | rfl) (by first | assumption | exact q_31 _ | rfl) (by first | assumption | exact q_31 _ | rfl) (by first | assumption | exact q_31 _ | rfl) (by first | assumption | exact q_31 _ | rfl) (by first | assumption | exact q_31 _ | rfl) (by first | assumption | exact q_31 _ | rfl)
def f_X11_moveWord_86 (wheel : Int32) (now : Int32) (store : Nat → Int32) (common : Nat → Int32) (low : Nat → Int32) (high : Nat → Int32) (register : Nat → Int32) (address : Nat → Int32) (status : Nat → Int32) (did : Nat → Int32) (ready : Nat → Int32) (trace : Nat → Int32) (l1 : Int32) (l2 : Int32) (l3 : Int32) (l4 : Int32) (l5 : Int32) (s0 : Int32) (l6 : Int32) : Int32 × (Nat → Int32) × (Nat → Int32) × (Nat → Int32) × (Nat → Int32) × (Nat → Int32) × (Nat → Int32) × (Nat → Int32) × (Nat → Int32) := (if s0 = 0 then (f_X11_moveWord_107 store common register address status did ready trace l1) else (if (15 : Int32) < l5 then (f_X11_moveWord_107 store common register address status did ready trace l1) else (if l6 ≤ (15 : Int32) then (if l3 = 0 then (f_X11_moveWord_138 wheel now store common low high register address status did ready trace l1 l3 l4 l5 (l2 >>> ((20 : Int32) &&& 31)) l6) else (f_X11_moveWord_138 wheel now store common low high register address status did ready trace l1 l3 l4 l5 (((l2 >>> ((25 : Int32) &&& 31)) <<< ((5 : Int32) &&& 31)) ||| ((l2 >>> ((7 : Int32) &&& 31)) &&& (31 : Int32))) l6)) else (f_X11_moveWord_107 store common register address status did ready trace l1))))
set_option maxRecDepth 20000 in
theorem j_X11_moveWord_86 {l1 : Int32} {l2 : Int32} {l3 : Int32} {l4 : Int32} {l5 : Int32} {l6 : Int32} {s0 : Int32} {refusal : Int32} {wheel : Int32} {now : Int32} {length : Int32} {at_ : Int32} {fault : Int32} {faultLine : Int32} {line : Int32} {words : Int32} {labels : Int32} {targets : Int32} {wrong : Int32} {unfit : Int32} {text : Nat → Int32} {code_ : Nat → Int32} {label : Nat → Int64} {labelWord : Nat → Int32} {target : Nat → Int64} {targetWord : Nat → Int32} {targetLine : Nat → Int32} {store : Nat → Int32} {common : Nat → Int32} {low : Nat → Int32} {high : Nat → Int32} {register : Nat → Int32} {address : Nat → Int32} {status : Nat → Int32} {did : Nat → Int32} {ready : Nat → Int32} {timer : Nat → Int32} {trace : Nat → Int32} {r_0 : Int32} {r_1 : (Nat → Int32)} {r_2 : (Nat → Int32)} {r_3 : (Nat → Int32)} {r_4 : (Nat → Int32)} {r_5 : (Nat → Int32)} {r_6 : (Nat → Int32)} {r_7 : (Nat → Int32)} {r_8 : (Nat → Int32)} (hres : (r_0, r_1, r_2, r_3, r_4, r_5, r_6, r_7, r_8) = (f_X11_moveWord_86 wheel now store common low high register address status did ready trace l1 l2 l3 l4 l5 s0 l6)) (ht : 0 ≤ l1.toInt ∧ l1.toInt < 4) (hdid : ∀ j, j < 4 → 0 ≤ (did j).toInt) (hlh : ∀ j, j < 4 → 0 ≤ (low j).toInt ∧ (low j).toInt ≤ (high j).toInt ∧ (high j).toInt ≤ 64) (hwh : 1 ≤ wheel.toInt ∧ wheel.toInt ≤ 8) (hnow : 0 ≤ now.toInt ∧ now.toInt ≤ 1100000) (h5 : 0 ≤ l5.toInt ∧ l5.toInt < 32) (h6 : 0 ≤ l6.toInt ∧ l6.toInt < 32) : G M_X11_moveWord 0 0 86 [(0, .ref 0), (1, .int l1), (2, .int l2), (3, .int l3), (4, .int l4), (5, .int l5), (6, .int l6)] [.int s0] (w_M refusal wheel now length at_ fault faultLine line words labels targets wrong unfit text code_ label labelWord target targetWord targetLine store common low high register address status did ready timer trace) (some (.int r_0)) (w_M refusal wheel now length at_ fault faultLine line words labels targets wrong unfit text code_ label labelWord target targetWord targetLine r_1 r_2 low high r_3 r_4 r_5 r_6 r_7 timer r_8) := by
  rw [f_X11_moveWord_86] at hres
  refine G.istore (pc := 86) (lv1 := [(7, .int s0), (0, .ref 0), (1, .int l1), (2, .int l2), (3, .int l3), (4, .int l4), (5, .int l5), (6, .int l6)]) dm_X11_moveWord_86 rfl rfl ?_
  refine G.iload (pc := 88) dm_X11_moveWord_88 rfl ?_
  refine G.if_eq (pc := 90) (tgt := 107) dm_X11_moveWord_90 (by decide) (fun c90 => ?_) (fun c90 => ?_)
  · rw [if_pos c90] at hres
    refine G.lvp [1, 2] rfl ?_
    exact j_X11_moveWord_107 hres (by first | assumption | exact q_31 _ | rfl)
  · rw [if_neg c90] at hres
    refine G.iload (pc := 93) dm_X11_moveWord_93 rfl ?_
    refine G.bipush (pc := 95) (v := (15 : Int32)) dm_X11_moveWord_95 qb_15 ?_
    refine G.icmp_gt (pc := 97) (tgt := 107) dm_X11_moveWord_97 (by decide) (fun c97 => ?_) (fun c97 => ?_)
    · rw [if_pos c97] at hres
      refine G.lvp [1, 2] rfl ?_
      exact j_X11_moveWord_107 hres (by first | assumption | exact q_31 _ | rfl)
    · rw [if_neg c97] at hres
      refine G.iload (pc := 100) dm_X11_moveWord_100 rfl ?_
      refine G.bipush (pc := 102) (v := (15 : Int32)) dm_X11_moveWord_102 qb_15 ?_
      refine G.icmp_le (pc := 104) (tgt := 113) dm_X11_moveWord_104 (by decide) (fun c104 => ?_) (fun c104 => ?_)
      · rw [if_pos c104] at hres
        have h5 := q_16 h5 c97
        have h6 := q_16' h6 c104
        refine G.iload_n (pc := 113) dm_X11_moveWord_113 rfl ?_
        refine G.if_eq (pc := 114) (tgt := 134) dm_X11_moveWord_114 (by decide) (fun c114 => ?_) (fun c114 => ?_)
        · rw [if_pos c114] at hres
          refine G.iload_n (pc := 134) dm_X11_moveWord_134 rfl ?_
          refine G.bipush (pc := 135) (v := (20 : Int32)) dm_X11_moveWord_135 qb_20 ?_
          refine G.ishr (pc := 137) dm_X11_moveWord_137 ?_
          refine G.lvp [1, 2, 4, 5, 6, 7] rfl ?_
          exact j_X11_moveWord_138 hres (by first | assumption | exact q_31 _ | rfl) (by first | assumption | exact q_31 _ | rfl) (by first | assumption | exact q_31 _ | rfl) (by first | assumption | exact q_31 _ | rfl) (by first | assumption | exact q_31 _ | rfl) (by first | assumption | exact q_31 _ | rfl) (by first | assumption | exact q_31 _ | rfl)
        · rw [if_neg c114] at hres
          refine G.iload_n (pc := 117) dm_X11_moveWord_117 rfl ?_
          refine G.bipush (pc := 118) (v := (25 : Int32)) dm_X11_moveWord_118 qb_25 ?_
          refine G.ishr (pc := 120) dm_X11_moveWord_120 ?_
          refine G.iconst (pc := 121) (v := (5 : Int32)) dm_X11_moveWord_121 qi_5 ?_
          refine G.ishl (pc := 122) dm_X11_moveWord_122 ?_
          refine G.iload_n (pc := 123) dm_X11_moveWord_123 rfl ?_
          refine G.bipush (pc := 124) (v := (7 : Int32)) dm_X11_moveWord_124 qb_7 ?_
          refine G.ishr (pc := 126) dm_X11_moveWord_126 ?_
          refine G.bipush (pc := 127) (v := (31 : Int32)) dm_X11_moveWord_127 qb_31 ?_
          refine G.iand (pc := 129) dm_X11_moveWord_129 ?_
          refine G.ior (pc := 130) dm_X11_moveWord_130 ?_
          refine G.goto (pc := 131) (tgt := 138) dm_X11_moveWord_131 (by decide) ?_
          refine G.lvp [1, 2, 4, 5, 6, 7] rfl ?_
          exact j_X11_moveWord_138 hres (by first | assumption | exact q_31 _ | rfl) (by first | assumption | exact q_31 _ | rfl) (by first | assumption | exact q_31 _ | rfl) (by first | assumption | exact q_31 _ | rfl) (by first | assumption | exact q_31 _ | rfl) (by first | assumption | exact q_31 _ | rfl) (by first | assumption | exact q_31 _ | rfl)
      · rw [if_neg c104] at hres
        refine G.lvp [1, 2] rfl ?_
        exact j_X11_moveWord_107 hres (by first | assumption | exact q_31 _ | rfl)
def f_X11_moveWord_39 (wheel : Int32) (now : Int32) (store : Nat → Int32) (common : Nat → Int32) (low : Nat → Int32) (high : Nat → Int32) (register : Nat → Int32) (address : Nat → Int32) (status : Nat → Int32) (did : Nat → Int32) (ready : Nat → Int32) (trace : Nat → Int32) (l1 : Int32) (l2 : Int32) (l3 : Int32) (l4 : Int32) (l5 : Int32) (s0 : Int32) : Int32 × (Nat → Int32) × (Nat → Int32) × (Nat → Int32) × (Nat → Int32) × (Nat → Int32) × (Nat → Int32) × (Nat → Int32) × (Nat → Int32) := (if l3 = 0 then (if l4 = (2 : Int32) then (f_X11_moveWord_86 wheel now store common low high register address status did ready trace l1 l2 l3 l4 l5 (1 : Int32) s0) else (if l4 = 0 then (f_X11_moveWord_86 wheel now store common low high register address status did ready trace l1 l2 l3 l4 l5 (1 : Int32) s0) else (if l4 = (4 : Int32) then (f_X11_moveWord_86 wheel now store common low high register address status did ready trace l1 l2 l3 l4 l5 (1 : Int32) s0) else (f_X11_moveWord_86 wheel now store common low high register address status did ready trace l1 l2 l3 l4 l5 (0 : Int32) s0)))) else (if l4 = (2 : Int32) then (f_X11_moveWord_86 wheel now store common low high register address status did ready trace l1 l2 l3 l4 l5 (1 : Int32) s0) else (if l4 = 0 then (f_X11_moveWord_86 wheel now store common low high register address status did ready trace l1 l2 l3 l4 l5 (1 : Int32) s0) else (f_X11_moveWord_86 wheel now store common low high register address status did ready trace l1 l2 l3 l4 l5 (0 : Int32) s0))))
set_option maxRecDepth 20000 in
theorem j_X11_moveWord_39 {l1 : Int32} {l2 : Int32} {l3 : Int32} {l4 : Int32} {l5 : Int32} {s0 : Int32} {refusal : Int32} {wheel : Int32} {now : Int32} {length : Int32} {at_ : Int32} {fault : Int32} {faultLine : Int32} {line : Int32} {words : Int32} {labels : Int32} {targets : Int32} {wrong : Int32} {unfit : Int32} {text : Nat → Int32} {code_ : Nat → Int32} {label : Nat → Int64} {labelWord : Nat → Int32} {target : Nat → Int64} {targetWord : Nat → Int32} {targetLine : Nat → Int32} {store : Nat → Int32} {common : Nat → Int32} {low : Nat → Int32} {high : Nat → Int32} {register : Nat → Int32} {address : Nat → Int32} {status : Nat → Int32} {did : Nat → Int32} {ready : Nat → Int32} {timer : Nat → Int32} {trace : Nat → Int32} {r_0 : Int32} {r_1 : (Nat → Int32)} {r_2 : (Nat → Int32)} {r_3 : (Nat → Int32)} {r_4 : (Nat → Int32)} {r_5 : (Nat → Int32)} {r_6 : (Nat → Int32)} {r_7 : (Nat → Int32)} {r_8 : (Nat → Int32)} (hres : (r_0, r_1, r_2, r_3, r_4, r_5, r_6, r_7, r_8) = (f_X11_moveWord_39 wheel now store common low high register address status did ready trace l1 l2 l3 l4 l5 s0)) (ht : 0 ≤ l1.toInt ∧ l1.toInt < 4) (hdid : ∀ j, j < 4 → 0 ≤ (did j).toInt) (hlh : ∀ j, j < 4 → 0 ≤ (low j).toInt ∧ (low j).toInt ≤ (high j).toInt ∧ (high j).toInt ≤ 64) (hwh : 1 ≤ wheel.toInt ∧ wheel.toInt ≤ 8) (hnow : 0 ≤ now.toInt ∧ now.toInt ≤ 1100000) (hs : 0 ≤ s0.toInt ∧ s0.toInt < 32) (h5 : 0 ≤ l5.toInt ∧ l5.toInt < 32) : G M_X11_moveWord 0 0 39 [(0, .ref 0), (1, .int l1), (2, .int l2), (3, .int l3), (4, .int l4), (5, .int l5)] [.int s0] (w_M refusal wheel now length at_ fault faultLine line words labels targets wrong unfit text code_ label labelWord target targetWord targetLine store common low high register address status did ready timer trace) (some (.int r_0)) (w_M refusal wheel now length at_ fault faultLine line words labels targets wrong unfit text code_ label labelWord target targetWord targetLine r_1 r_2 low high r_3 r_4 r_5 r_6 r_7 timer r_8) := by
  rw [f_X11_moveWord_39] at hres
  refine G.istore (pc := 39) (lv1 := [(6, .int s0), (0, .ref 0), (1, .int l1), (2, .int l2), (3, .int l3), (4, .int l4), (5, .int l5)]) dm_X11_moveWord_39 rfl rfl ?_
  refine G.iload_n (pc := 41) dm_X11_moveWord_41 rfl ?_
  refine G.if_eq (pc := 42) (tgt := 64) dm_X11_moveWord_42 (by decide) (fun c42 => ?_) (fun c42 => ?_)
  · rw [if_pos c42] at hres
    refine G.iload (pc := 64) dm_X11_moveWord_64 rfl ?_
    refine G.iconst (pc := 66) (v := (2 : Int32)) dm_X11_moveWord_66 qi_2 ?_
    refine G.icmp_eq (pc := 67) (tgt := 81) dm_X11_moveWord_67 (by decide) (fun c67 => ?_) (fun c67 => ?_)
    · rw [if_pos c67] at hres
      refine G.iconst (pc := 81) (v := (1 : Int32)) dm_X11_moveWord_81 qi_1 ?_
      refine G.goto (pc := 82) (tgt := 86) dm_X11_moveWord_82 (by decide) ?_
      refine G.lvp [1, 2, 3, 4, 5, 6, 0] rfl ?_
      exact j_X11_moveWord_86 hres (by first | assumption | exact q_31 _ | rfl) (by first | assumption | exact q_31 _ | rfl) (by first | assumption | exact q_31 _ | rfl) (by first | assumption | exact q_31 _ | rfl) (by first | assumption | exact q_31 _ | rfl) (by first | assumption | exact q_31 _ | rfl) (by first | assumption | exact q_31 _ | rfl)
    · rw [if_neg c67] at hres
      refine G.iload (pc := 70) dm_X11_moveWord_70 rfl ?_
      refine G.if_eq (pc := 72) (tgt := 81) dm_X11_moveWord_72 (by decide) (fun c72 => ?_) (fun c72 => ?_)
      · rw [if_pos c72] at hres
        refine G.iconst (pc := 81) (v := (1 : Int32)) dm_X11_moveWord_81 qi_1 ?_
        refine G.goto (pc := 82) (tgt := 86) dm_X11_moveWord_82 (by decide) ?_
        refine G.lvp [1, 2, 3, 4, 5, 6, 0] rfl ?_
        exact j_X11_moveWord_86 hres (by first | assumption | exact q_31 _ | rfl) (by first | assumption | exact q_31 _ | rfl) (by first | assumption | exact q_31 _ | rfl) (by first | assumption | exact q_31 _ | rfl) (by first | assumption | exact q_31 _ | rfl) (by first | assumption | exact q_31 _ | rfl) (by first | assumption | exact q_31 _ | rfl)
      · rw [if_neg c72] at hres
        refine G.iload (pc := 75) dm_X11_moveWord_75 rfl ?_
        refine G.iconst (pc := 77) (v := (4 : Int32)) dm_X11_moveWord_77 qi_4 ?_
        refine G.icmp_ne (pc := 78) (tgt := 85) dm_X11_moveWord_78 (by decide) (fun c78 => ?_) (fun c78 => ?_)
        · rw [if_neg c78] at hres
          refine G.iconst (pc := 85) (v := (0 : Int32)) dm_X11_moveWord_85 qi_0 ?_
          refine G.lvp [1, 2, 3, 4, 5, 6, 0] rfl ?_
          exact j_X11_moveWord_86 hres (by first | assumption | exact q_31 _ | rfl) (by first | assumption | exact q_31 _ | rfl) (by first | assumption | exact q_31 _ | rfl) (by first | assumption | exact q_31 _ | rfl) (by first | assumption | exact q_31 _ | rfl) (by first | assumption | exact q_31 _ | rfl) (by first | assumption | exact q_31 _ | rfl)
        · rw [if_pos c78] at hres
          refine G.iconst (pc := 81) (v := (1 : Int32)) dm_X11_moveWord_81 qi_1 ?_
          refine G.goto (pc := 82) (tgt := 86) dm_X11_moveWord_82 (by decide) ?_
          refine G.lvp [1, 2, 3, 4, 5, 6, 0] rfl ?_
          exact j_X11_moveWord_86 hres (by first | assumption | exact q_31 _ | rfl) (by first | assumption | exact q_31 _ | rfl) (by first | assumption | exact q_31 _ | rfl) (by first | assumption | exact q_31 _ | rfl) (by first | assumption | exact q_31 _ | rfl) (by first | assumption | exact q_31 _ | rfl) (by first | assumption | exact q_31 _ | rfl)
  · rw [if_neg c42] at hres
    refine G.iload (pc := 45) dm_X11_moveWord_45 rfl ?_
    refine G.iconst (pc := 47) (v := (2 : Int32)) dm_X11_moveWord_47 qi_2 ?_
    refine G.icmp_eq (pc := 48) (tgt := 56) dm_X11_moveWord_48 (by decide) (fun c48 => ?_) (fun c48 => ?_)
    · rw [if_pos c48] at hres
      refine G.iconst (pc := 56) (v := (1 : Int32)) dm_X11_moveWord_56 qi_1 ?_
      refine G.goto (pc := 57) (tgt := 86) dm_X11_moveWord_57 (by decide) ?_
      refine G.lvp [1, 2, 3, 4, 5, 6, 0] rfl ?_
      exact j_X11_moveWord_86 hres (by first | assumption | exact q_31 _ | rfl) (by first | assumption | exact q_31 _ | rfl) (by first | assumption | exact q_31 _ | rfl) (by first | assumption | exact q_31 _ | rfl) (by first | assumption | exact q_31 _ | rfl) (by first | assumption | exact q_31 _ | rfl) (by first | assumption | exact q_31 _ | rfl)
    · rw [if_neg c48] at hres
      refine G.iload (pc := 51) dm_X11_moveWord_51 rfl ?_
      refine G.if_ne (pc := 53) (tgt := 60) dm_X11_moveWord_53 (by decide) (fun c53 => ?_) (fun c53 => ?_)
      · rw [if_neg c53] at hres
        refine G.iconst (pc := 60) (v := (0 : Int32)) dm_X11_moveWord_60 qi_0 ?_
        refine G.goto (pc := 61) (tgt := 86) dm_X11_moveWord_61 (by decide) ?_
        refine G.lvp [1, 2, 3, 4, 5, 6, 0] rfl ?_
        exact j_X11_moveWord_86 hres (by first | assumption | exact q_31 _ | rfl) (by first | assumption | exact q_31 _ | rfl) (by first | assumption | exact q_31 _ | rfl) (by first | assumption | exact q_31 _ | rfl) (by first | assumption | exact q_31 _ | rfl) (by first | assumption | exact q_31 _ | rfl) (by first | assumption | exact q_31 _ | rfl)
      · rw [if_pos c53] at hres
        refine G.iconst (pc := 56) (v := (1 : Int32)) dm_X11_moveWord_56 qi_1 ?_
        refine G.goto (pc := 57) (tgt := 86) dm_X11_moveWord_57 (by decide) ?_
        refine G.lvp [1, 2, 3, 4, 5, 6, 0] rfl ?_
        exact j_X11_moveWord_86 hres (by first | assumption | exact q_31 _ | rfl) (by first | assumption | exact q_31 _ | rfl) (by first | assumption | exact q_31 _ | rfl) (by first | assumption | exact q_31 _ | rfl) (by first | assumption | exact q_31 _ | rfl) (by first | assumption | exact q_31 _ | rfl) (by first | assumption | exact q_31 _ | rfl)
def f_X11_moveWord (t : Int32) (w : Int32) (stores : Int32) (wheel : Int32) (now : Int32) (store : Nat → Int32) (common : Nat → Int32) (low : Nat → Int32) (high : Nat → Int32) (register : Nat → Int32) (address : Nat → Int32) (status : Nat → Int32) (did : Nat → Int32) (ready : Nat → Int32) (trace : Nat → Int32) : Int32 × (Nat → Int32) × (Nat → Int32) × (Nat → Int32) × (Nat → Int32) × (Nat → Int32) × (Nat → Int32) × (Nat → Int32) × (Nat → Int32) := (if stores = 0 then (f_X11_moveWord_39 wheel now store common low high register address status did ready trace t w stores ((w >>> ((12 : Int32) &&& 31)) &&& (7 : Int32)) ((w >>> ((15 : Int32) &&& 31)) &&& (31 : Int32)) ((w >>> ((7 : Int32) &&& 31)) &&& (31 : Int32))) else (f_X11_moveWord_39 wheel now store common low high register address status did ready trace t w stores ((w >>> ((12 : Int32) &&& 31)) &&& (7 : Int32)) ((w >>> ((15 : Int32) &&& 31)) &&& (31 : Int32)) ((w >>> ((20 : Int32) &&& 31)) &&& (31 : Int32))))
set_option maxRecDepth 20000 in
theorem k_X11_moveWord {t : Int32} {w : Int32} {stores : Int32} {refusal : Int32} {wheel : Int32} {now : Int32} {length : Int32} {at_ : Int32} {fault : Int32} {faultLine : Int32} {line : Int32} {words : Int32} {labels : Int32} {targets : Int32} {wrong : Int32} {unfit : Int32} {text : Nat → Int32} {code_ : Nat → Int32} {label : Nat → Int64} {labelWord : Nat → Int32} {target : Nat → Int64} {targetWord : Nat → Int32} {targetLine : Nat → Int32} {store : Nat → Int32} {common : Nat → Int32} {low : Nat → Int32} {high : Nat → Int32} {register : Nat → Int32} {address : Nat → Int32} {status : Nat → Int32} {did : Nat → Int32} {ready : Nat → Int32} {timer : Nat → Int32} {trace : Nat → Int32} (ht : 0 ≤ t.toInt ∧ t.toInt < 4) (hdid : ∀ j, j < 4 → 0 ≤ (did j).toInt) (hlh : ∀ j, j < 4 → 0 ≤ (low j).toInt ∧ (low j).toInt ≤ (high j).toInt ∧ (high j).toInt ≤ 64) (hwh : 1 ≤ wheel.toInt ∧ wheel.toInt ≤ 8) (hnow : 0 ≤ now.toInt ∧ now.toInt ≤ 1100000) {r_0 : Int32} {r_1 : (Nat → Int32)} {r_2 : (Nat → Int32)} {r_3 : (Nat → Int32)} {r_4 : (Nat → Int32)} {r_5 : (Nat → Int32)} {r_6 : (Nat → Int32)} {r_7 : (Nat → Int32)} {r_8 : (Nat → Int32)} (hres : (r_0, r_1, r_2, r_3, r_4, r_5, r_6, r_7, r_8) = f_X11_moveWord t w stores wheel now store common low high register address status did ready trace) : K M_X11_moveWord yX11_moveWord [.ref 0, .int t, .int w, .int stores] (w_M refusal wheel now length at_ fault faultLine line words labels targets wrong unfit text code_ label labelWord target targetWord targetLine store common low high register address status did ready timer trace) (some (.int r_0)) (w_M refusal wheel now length at_ fault faultLine line words labels targets wrong unfit text code_ label labelWord target targetWord targetLine r_1 r_2 low high r_3 r_4 r_5 r_6 r_7 timer r_8) := by
  refine K.of (lv := [(0, .ref 0), (1, .int t), (2, .int w), (3, .int stores)]) (by decide +kernel) rfl rfl rfl ?_
  rw [f_X11_moveWord] at hres
  refine G.iload_n (pc := 0) dm_X11_moveWord_0 rfl ?_
  refine G.bipush (pc := 1) (v := (12 : Int32)) dm_X11_moveWord_1 qb_12 ?_
  refine G.ishr (pc := 3) dm_X11_moveWord_3 ?_
  refine G.bipush (pc := 4) (v := (7 : Int32)) dm_X11_moveWord_4 qb_7 ?_
  refine G.iand (pc := 6) dm_X11_moveWord_6 ?_
  refine G.istore (pc := 7) (lv1 := [(4, .int ((w >>> ((12 : Int32) &&& 31)) &&& (7 : Int32))), (0, .ref 0), (1, .int t), (2, .int w), (3, .int stores)]) dm_X11_moveWord_7 rfl rfl ?_
  refine G.iload_n (pc := 9) dm_X11_moveWord_9 rfl ?_
  refine G.bipush (pc := 10) (v := (15 : Int32)) dm_X11_moveWord_10 qb_15 ?_
  refine G.ishr (pc := 12) dm_X11_moveWord_12 ?_
  refine G.bipush (pc := 13) (v := (31 : Int32)) dm_X11_moveWord_13 qb_31 ?_
  refine G.iand (pc := 15) dm_X11_moveWord_15 ?_
  refine G.istore (pc := 16) (lv1 := [(5, .int ((w >>> ((15 : Int32) &&& 31)) &&& (31 : Int32))), (4, .int ((w >>> ((12 : Int32) &&& 31)) &&& (7 : Int32))), (0, .ref 0), (1, .int t), (2, .int w), (3, .int stores)]) dm_X11_moveWord_16 rfl rfl ?_
  refine G.iload_n (pc := 18) dm_X11_moveWord_18 rfl ?_
  refine G.if_eq (pc := 19) (tgt := 32) dm_X11_moveWord_19 (by decide) (fun c19 => ?_) (fun c19 => ?_)
  · rw [if_pos c19] at hres
    refine G.iload_n (pc := 32) dm_X11_moveWord_32 rfl ?_
    refine G.bipush (pc := 33) (v := (7 : Int32)) dm_X11_moveWord_33 qb_7 ?_
    refine G.ishr (pc := 35) dm_X11_moveWord_35 ?_
    refine G.bipush (pc := 36) (v := (31 : Int32)) dm_X11_moveWord_36 qb_31 ?_
    refine G.iand (pc := 38) dm_X11_moveWord_38 ?_
    refine G.lvp [2, 3, 4, 5, 1, 0] rfl ?_
    exact j_X11_moveWord_39 hres (by first | assumption | exact q_31 _ | rfl) (by first | assumption | exact q_31 _ | rfl) (by first | assumption | exact q_31 _ | rfl) (by first | assumption | exact q_31 _ | rfl) (by first | assumption | exact q_31 _ | rfl) (by first | assumption | exact q_31 _ | rfl) (by first | assumption | exact q_31 _ | rfl)
  · rw [if_neg c19] at hres
    refine G.iload_n (pc := 22) dm_X11_moveWord_22 rfl ?_
    refine G.bipush (pc := 23) (v := (20 : Int32)) dm_X11_moveWord_23 qb_20 ?_
    refine G.ishr (pc := 25) dm_X11_moveWord_25 ?_
    refine G.bipush (pc := 26) (v := (31 : Int32)) dm_X11_moveWord_26 qb_31 ?_
    refine G.iand (pc := 28) dm_X11_moveWord_28 ?_
    refine G.goto (pc := 29) (tgt := 39) dm_X11_moveWord_29 (by decide) ?_
    refine G.lvp [2, 3, 4, 5, 1, 0] rfl ?_
    exact j_X11_moveWord_39 hres (by first | assumption | exact q_31 _ | rfl) (by first | assumption | exact q_31 _ | rfl) (by first | assumption | exact q_31 _ | rfl) (by first | assumption | exact q_31 _ | rfl) (by first | assumption | exact q_31 _ | rfl) (by first | assumption | exact q_31 _ | rfl) (by first | assumption | exact q_31 _ | rfl)
abbrev M_X11_calculate : g_M := (cX11_calculate, 13, RX11, (some .int), { frames := 2, cells := 0, slots := 0, locals := 44 }, 0, 0)
theorem dm_X11_calculate_0 : decode M_X11_calculate.1 0 = .ok (.iload_n 2, 1) := by decide +kernel
theorem dm_X11_calculate_1 : decode M_X11_calculate.1 1 = .ok (.bipush 12, 2) := by decide +kernel
theorem dm_X11_calculate_3 : decode M_X11_calculate.1 3 = .ok (.ishr, 1) := by decide +kernel
theorem dm_X11_calculate_4 : decode M_X11_calculate.1 4 = .ok (.bipush 7, 2) := by decide +kernel
theorem dm_X11_calculate_6 : decode M_X11_calculate.1 6 = .ok (.iand, 1) := by decide +kernel
theorem dm_X11_calculate_7 : decode M_X11_calculate.1 7 = .ok (.istore 4, 2) := by decide +kernel
theorem dm_X11_calculate_9 : decode M_X11_calculate.1 9 = .ok (.iload_n 2, 1) := by decide +kernel
theorem dm_X11_calculate_10 : decode M_X11_calculate.1 10 = .ok (.bipush 7, 2) := by decide +kernel
theorem dm_X11_calculate_12 : decode M_X11_calculate.1 12 = .ok (.ishr, 1) := by decide +kernel
theorem dm_X11_calculate_13 : decode M_X11_calculate.1 13 = .ok (.bipush 31, 2) := by decide +kernel
theorem dm_X11_calculate_15 : decode M_X11_calculate.1 15 = .ok (.iand, 1) := by decide +kernel
theorem dm_X11_calculate_16 : decode M_X11_calculate.1 16 = .ok (.istore 5, 2) := by decide +kernel
theorem dm_X11_calculate_18 : decode M_X11_calculate.1 18 = .ok (.iload_n 2, 1) := by decide +kernel
theorem dm_X11_calculate_19 : decode M_X11_calculate.1 19 = .ok (.bipush 15, 2) := by decide +kernel
theorem dm_X11_calculate_21 : decode M_X11_calculate.1 21 = .ok (.ishr, 1) := by decide +kernel
theorem dm_X11_calculate_22 : decode M_X11_calculate.1 22 = .ok (.bipush 31, 2) := by decide +kernel
theorem dm_X11_calculate_24 : decode M_X11_calculate.1 24 = .ok (.iand, 1) := by decide +kernel
theorem dm_X11_calculate_25 : decode M_X11_calculate.1 25 = .ok (.istore 6, 2) := by decide +kernel
theorem dm_X11_calculate_27 : decode M_X11_calculate.1 27 = .ok (.iload_n 2, 1) := by decide +kernel
theorem dm_X11_calculate_28 : decode M_X11_calculate.1 28 = .ok (.bipush 20, 2) := by decide +kernel
theorem dm_X11_calculate_30 : decode M_X11_calculate.1 30 = .ok (.ishr, 1) := by decide +kernel
theorem dm_X11_calculate_31 : decode M_X11_calculate.1 31 = .ok (.bipush 31, 2) := by decide +kernel
theorem dm_X11_calculate_33 : decode M_X11_calculate.1 33 = .ok (.iand, 1) := by decide +kernel
theorem dm_X11_calculate_34 : decode M_X11_calculate.1 34 = .ok (.istore 7, 2) := by decide +kernel
theorem dm_X11_calculate_36 : decode M_X11_calculate.1 36 = .ok (.iload_n 2, 1) := by decide +kernel
theorem dm_X11_calculate_37 : decode M_X11_calculate.1 37 = .ok (.bipush 25, 2) := by decide +kernel
theorem dm_X11_calculate_39 : decode M_X11_calculate.1 39 = .ok (.iushr, 1) := by decide +kernel
theorem dm_X11_calculate_40 : decode M_X11_calculate.1 40 = .ok (.istore 8, 2) := by decide +kernel
theorem dm_X11_calculate_42 : decode M_X11_calculate.1 42 = .ok (.iload 4, 2) := by decide +kernel
theorem dm_X11_calculate_44 : decode M_X11_calculate.1 44 = .ok (.iconst 1, 1) := by decide +kernel
theorem dm_X11_calculate_45 : decode M_X11_calculate.1 45 = .ok (.if_icmp .eq 9, 3) := by decide +kernel
theorem dm_X11_calculate_48 : decode M_X11_calculate.1 48 = .ok (.iload 4, 2) := by decide +kernel
theorem dm_X11_calculate_50 : decode M_X11_calculate.1 50 = .ok (.iconst 5, 1) := by decide +kernel
theorem dm_X11_calculate_51 : decode M_X11_calculate.1 51 = .ok (.if_icmp .ne 7, 3) := by decide +kernel
theorem dm_X11_calculate_54 : decode M_X11_calculate.1 54 = .ok (.iconst 1, 1) := by decide +kernel
theorem dm_X11_calculate_55 : decode M_X11_calculate.1 55 = .ok (.goto 4, 3) := by decide +kernel
theorem dm_X11_calculate_58 : decode M_X11_calculate.1 58 = .ok (.iconst 0, 1) := by decide +kernel
theorem dm_X11_calculate_59 : decode M_X11_calculate.1 59 = .ok (.istore 9, 2) := by decide +kernel
theorem dm_X11_calculate_61 : decode M_X11_calculate.1 61 = .ok (.iload 8, 2) := by decide +kernel
theorem dm_X11_calculate_63 : decode M_X11_calculate.1 63 = .ok (.bipush 32, 2) := by decide +kernel
theorem dm_X11_calculate_65 : decode M_X11_calculate.1 65 = .ok (.if_icmp .ne 22, 3) := by decide +kernel
theorem dm_X11_calculate_68 : decode M_X11_calculate.1 68 = .ok (.iload 4, 2) := by decide +kernel
theorem dm_X11_calculate_70 : decode M_X11_calculate.1 70 = .ok (.iconst 5, 1) := by decide +kernel
theorem dm_X11_calculate_71 : decode M_X11_calculate.1 71 = .ok (.if_icmp .eq 12, 3) := by decide +kernel
theorem dm_X11_calculate_74 : decode M_X11_calculate.1 74 = .ok (.iload_n 3, 1) := by decide +kernel
theorem dm_X11_calculate_75 : decode M_X11_calculate.1 75 = .ok (.ifCond .eq 12, 3) := by decide +kernel
theorem dm_X11_calculate_78 : decode M_X11_calculate.1 78 = .ok (.iload 4, 2) := by decide +kernel
theorem dm_X11_calculate_80 : decode M_X11_calculate.1 80 = .ok (.ifCond .ne 7, 3) := by decide +kernel
theorem dm_X11_calculate_83 : decode M_X11_calculate.1 83 = .ok (.iconst 1, 1) := by decide +kernel
theorem dm_X11_calculate_84 : decode M_X11_calculate.1 84 = .ok (.goto 4, 3) := by decide +kernel
theorem dm_X11_calculate_87 : decode M_X11_calculate.1 87 = .ok (.iconst 0, 1) := by decide +kernel
theorem dm_X11_calculate_88 : decode M_X11_calculate.1 88 = .ok (.istore 10, 2) := by decide +kernel
theorem dm_X11_calculate_90 : decode M_X11_calculate.1 90 = .ok (.iload_n 3, 1) := by decide +kernel
theorem dm_X11_calculate_91 : decode M_X11_calculate.1 91 = .ok (.ifCond .ne 8, 3) := by decide +kernel
theorem dm_X11_calculate_94 : decode M_X11_calculate.1 94 = .ok (.iload 9, 2) := by decide +kernel
theorem dm_X11_calculate_96 : decode M_X11_calculate.1 96 = .ok (.ifCond .eq 13, 3) := by decide +kernel
theorem dm_X11_calculate_99 : decode M_X11_calculate.1 99 = .ok (.iload 8, 2) := by decide +kernel
theorem dm_X11_calculate_101 : decode M_X11_calculate.1 101 = .ok (.ifCond .eq 8, 3) := by decide +kernel
theorem dm_X11_calculate_104 : decode M_X11_calculate.1 104 = .ok (.iload 10, 2) := by decide +kernel
theorem dm_X11_calculate_106 : decode M_X11_calculate.1 106 = .ok (.ifCond .eq 7, 3) := by decide +kernel
theorem dm_X11_calculate_109 : decode M_X11_calculate.1 109 = .ok (.iconst 1, 1) := by decide +kernel
theorem dm_X11_calculate_110 : decode M_X11_calculate.1 110 = .ok (.goto 4, 3) := by decide +kernel
theorem dm_X11_calculate_113 : decode M_X11_calculate.1 113 = .ok (.iconst 0, 1) := by decide +kernel
theorem dm_X11_calculate_114 : decode M_X11_calculate.1 114 = .ok (.istore 11, 2) := by decide +kernel
theorem dm_X11_calculate_116 : decode M_X11_calculate.1 116 = .ok (.iload 11, 2) := by decide +kernel
theorem dm_X11_calculate_118 : decode M_X11_calculate.1 118 = .ok (.ifCond .eq 28, 3) := by decide +kernel
theorem dm_X11_calculate_121 : decode M_X11_calculate.1 121 = .ok (.iload 5, 2) := by decide +kernel
theorem dm_X11_calculate_123 : decode M_X11_calculate.1 123 = .ok (.bipush 15, 2) := by decide +kernel
theorem dm_X11_calculate_125 : decode M_X11_calculate.1 125 = .ok (.if_icmp .gt 21, 3) := by decide +kernel
theorem dm_X11_calculate_128 : decode M_X11_calculate.1 128 = .ok (.iload 6, 2) := by decide +kernel
theorem dm_X11_calculate_130 : decode M_X11_calculate.1 130 = .ok (.bipush 15, 2) := by decide +kernel
theorem dm_X11_calculate_132 : decode M_X11_calculate.1 132 = .ok (.if_icmp .gt 14, 3) := by decide +kernel
theorem dm_X11_calculate_135 : decode M_X11_calculate.1 135 = .ok (.iload_n 3, 1) := by decide +kernel
theorem dm_X11_calculate_136 : decode M_X11_calculate.1 136 = .ok (.ifCond .eq 16, 3) := by decide +kernel
theorem dm_X11_calculate_139 : decode M_X11_calculate.1 139 = .ok (.iload 7, 2) := by decide +kernel
theorem dm_X11_calculate_141 : decode M_X11_calculate.1 141 = .ok (.bipush 15, 2) := by decide +kernel
theorem dm_X11_calculate_143 : decode M_X11_calculate.1 143 = .ok (.if_icmp .le 9, 3) := by decide +kernel
theorem dm_X11_calculate_146 : decode M_X11_calculate.1 146 = .ok (.aload_n 0, 1) := by decide +kernel
theorem dm_X11_calculate_147 : decode M_X11_calculate.1 147 = .ok (.iload_n 1, 1) := by decide +kernel
theorem dm_X11_calculate_148 : decode M_X11_calculate.1 148 = .ok (.invokevirtual 299, 3) := by decide +kernel
theorem dm_X11_calculate_151 : decode M_X11_calculate.1 151 = .ok (.ireturn, 1) := by decide +kernel
theorem dm_X11_calculate_152 : decode M_X11_calculate.1 152 = .ok (.iload_n 3, 1) := by decide +kernel
theorem dm_X11_calculate_153 : decode M_X11_calculate.1 153 = .ok (.ifCond .eq 18, 3) := by decide +kernel
theorem dm_X11_calculate_156 : decode M_X11_calculate.1 156 = .ok (.aload_n 0, 1) := by decide +kernel
theorem dm_X11_calculate_157 : decode M_X11_calculate.1 157 = .ok (.getfield 45, 3) := by decide +kernel
theorem dm_X11_calculate_160 : decode M_X11_calculate.1 160 = .ok (.bipush 16, 2) := by decide +kernel
theorem dm_X11_calculate_162 : decode M_X11_calculate.1 162 = .ok (.iload_n 1, 1) := by decide +kernel
theorem dm_X11_calculate_163 : decode M_X11_calculate.1 163 = .ok (.imul, 1) := by decide +kernel
theorem dm_X11_calculate_164 : decode M_X11_calculate.1 164 = .ok (.iload 7, 2) := by decide +kernel
theorem dm_X11_calculate_166 : decode M_X11_calculate.1 166 = .ok (.iadd, 1) := by decide +kernel
theorem dm_X11_calculate_167 : decode M_X11_calculate.1 167 = .ok (.iaload, 1) := by decide +kernel
theorem dm_X11_calculate_168 : decode M_X11_calculate.1 168 = .ok (.goto 17, 3) := by decide +kernel
theorem dm_X11_calculate_171 : decode M_X11_calculate.1 171 = .ok (.iload 9, 2) := by decide +kernel
theorem dm_X11_calculate_173 : decode M_X11_calculate.1 173 = .ok (.ifCond .eq 8, 3) := by decide +kernel
theorem dm_X11_calculate_176 : decode M_X11_calculate.1 176 = .ok (.iload 7, 2) := by decide +kernel
theorem dm_X11_calculate_178 : decode M_X11_calculate.1 178 = .ok (.goto 7, 3) := by decide +kernel
theorem dm_X11_calculate_181 : decode M_X11_calculate.1 181 = .ok (.iload_n 2, 1) := by decide +kernel
theorem dm_X11_calculate_182 : decode M_X11_calculate.1 182 = .ok (.bipush 20, 2) := by decide +kernel
theorem dm_X11_calculate_184 : decode M_X11_calculate.1 184 = .ok (.ishr, 1) := by decide +kernel
theorem dm_X11_calculate_185 : decode M_X11_calculate.1 185 = .ok (.istore 12, 2) := by decide +kernel
theorem dm_X11_calculate_187 : decode M_X11_calculate.1 187 = .ok (.aload_n 0, 1) := by decide +kernel
theorem dm_X11_calculate_188 : decode M_X11_calculate.1 188 = .ok (.iload_n 1, 1) := by decide +kernel
theorem dm_X11_calculate_189 : decode M_X11_calculate.1 189 = .ok (.iload 5, 2) := by decide +kernel
theorem dm_X11_calculate_191 : decode M_X11_calculate.1 191 = .ok (.iload 4, 2) := by decide +kernel
theorem dm_X11_calculate_193 : decode M_X11_calculate.1 193 = .ok (.iload 10, 2) := by decide +kernel
theorem dm_X11_calculate_195 : decode M_X11_calculate.1 195 = .ok (.aload_n 0, 1) := by decide +kernel
theorem dm_X11_calculate_196 : decode M_X11_calculate.1 196 = .ok (.getfield 45, 3) := by decide +kernel
theorem dm_X11_calculate_199 : decode M_X11_calculate.1 199 = .ok (.bipush 16, 2) := by decide +kernel
theorem dm_X11_calculate_201 : decode M_X11_calculate.1 201 = .ok (.iload_n 1, 1) := by decide +kernel
theorem dm_X11_calculate_202 : decode M_X11_calculate.1 202 = .ok (.imul, 1) := by decide +kernel
theorem dm_X11_calculate_203 : decode M_X11_calculate.1 203 = .ok (.iload 6, 2) := by decide +kernel
theorem dm_X11_calculate_205 : decode M_X11_calculate.1 205 = .ok (.iadd, 1) := by decide +kernel
theorem dm_X11_calculate_206 : decode M_X11_calculate.1 206 = .ok (.iaload, 1) := by decide +kernel
theorem dm_X11_calculate_207 : decode M_X11_calculate.1 207 = .ok (.iload 12, 2) := by decide +kernel
theorem dm_X11_calculate_209 : decode M_X11_calculate.1 209 = .ok (.invokestatic 323, 3) := by decide +kernel
theorem dm_X11_calculate_212 : decode M_X11_calculate.1 212 = .ok (.invokevirtual 313, 3) := by decide +kernel
theorem dm_X11_calculate_215 : decode M_X11_calculate.1 215 = .ok (.aload_n 0, 1) := by decide +kernel
theorem dm_X11_calculate_216 : decode M_X11_calculate.1 216 = .ok (.iload_n 1, 1) := by decide +kernel
theorem dm_X11_calculate_217 : decode M_X11_calculate.1 217 = .ok (.aload_n 0, 1) := by decide +kernel
theorem dm_X11_calculate_218 : decode M_X11_calculate.1 218 = .ok (.getfield 48, 3) := by decide +kernel
theorem dm_X11_calculate_221 : decode M_X11_calculate.1 221 = .ok (.iload_n 1, 1) := by decide +kernel
theorem dm_X11_calculate_222 : decode M_X11_calculate.1 222 = .ok (.iaload, 1) := by decide +kernel
theorem dm_X11_calculate_223 : decode M_X11_calculate.1 223 = .ok (.iconst 4, 1) := by decide +kernel
theorem dm_X11_calculate_224 : decode M_X11_calculate.1 224 = .ok (.iadd, 1) := by decide +kernel
theorem dm_X11_calculate_225 : decode M_X11_calculate.1 225 = .ok (.aload_n 0, 1) := by decide +kernel
theorem dm_X11_calculate_226 : decode M_X11_calculate.1 226 = .ok (.getfield 291, 3) := by decide +kernel
theorem dm_X11_calculate_229 : decode M_X11_calculate.1 229 = .ok (.iconst 4, 1) := by decide +kernel
theorem dm_X11_calculate_230 : decode M_X11_calculate.1 230 = .ok (.iadd, 1) := by decide +kernel
theorem dm_X11_calculate_231 : decode M_X11_calculate.1 231 = .ok (.invokevirtual 319, 3) := by decide +kernel
theorem dm_X11_calculate_234 : decode M_X11_calculate.1 234 = .ok (.ireturn, 1) := by decide +kernel
theorem gc_X11_calculate_299 : g_cv M_X11_calculate 299 M_X11_stop yX11_stop 1 := ⟨tw773, tw774, tw775, tw5, tw776, ⟨rfl, rfl, rfl, rfl⟩, gd_X11_stop, ⟨by decide, by decide⟩⟩
theorem gc_X11_calculate_323 : g_cs M_X11_calculate 323 M_X11_worked yX11_worked 4 := ⟨tw824, tw825, tw5, tw826, ⟨rfl, rfl, rfl, rfl⟩, gd_X11_worked, ⟨by decide, by decide⟩⟩
theorem gc_X11_calculate_313 : g_cv M_X11_calculate 313 M_X11_set yX11_set 3 := ⟨tw777, tw778, tw779, tw5, tw780, ⟨rfl, rfl, rfl, rfl⟩, gd_X11_set, ⟨by decide, by decide⟩⟩
theorem gc_X11_calculate_319 : g_cv M_X11_calculate 319 M_X11_done yX11_done 3 := ⟨tw781, tw782, tw783, tw5, tw784, ⟨rfl, rfl, rfl, rfl⟩, gd_X11_done, ⟨by decide, by decide⟩⟩
def f_X11_calculate_c148 (register : Nat → Int32) (address : Nat → Int32) (did : Nat → Int32) (ready : Nat → Int32) (trace : Nat → Int32) (z1_0 : Int32) (z1_1 : (Nat → Int32)) : Int32 × (Nat → Int32) × (Nat → Int32) × (Nat → Int32) × (Nat → Int32) × (Nat → Int32) × (Nat → Int32) := (z1_0, register, address, z1_1, did, ready, trace)
def f_X11_calculate_146 (register : Nat → Int32) (address : Nat → Int32) (status : Nat → Int32) (did : Nat → Int32) (ready : Nat → Int32) (trace : Nat → Int32) (l1 : Int32) : Int32 × (Nat → Int32) × (Nat → Int32) × (Nat → Int32) × (Nat → Int32) × (Nat → Int32) × (Nat → Int32) := (f_X11_calculate_c148 register address did ready trace (f_X11_stop l1 status).1 (f_X11_stop l1 status).2)
set_option maxRecDepth 20000 in
theorem j_X11_calculate_146 {l1 : Int32} {refusal : Int32} {wheel : Int32} {now : Int32} {length : Int32} {at_ : Int32} {fault : Int32} {faultLine : Int32} {line : Int32} {words : Int32} {labels : Int32} {targets : Int32} {wrong : Int32} {unfit : Int32} {text : Nat → Int32} {code_ : Nat → Int32} {label : Nat → Int64} {labelWord : Nat → Int32} {target : Nat → Int64} {targetWord : Nat → Int32} {targetLine : Nat → Int32} {store : Nat → Int32} {common : Nat → Int32} {low : Nat → Int32} {high : Nat → Int32} {register : Nat → Int32} {address : Nat → Int32} {status : Nat → Int32} {did : Nat → Int32} {ready : Nat → Int32} {timer : Nat → Int32} {trace : Nat → Int32} {r_0 : Int32} {r_1 : (Nat → Int32)} {r_2 : (Nat → Int32)} {r_3 : (Nat → Int32)} {r_4 : (Nat → Int32)} {r_5 : (Nat → Int32)} {r_6 : (Nat → Int32)} (hres : (r_0, r_1, r_2, r_3, r_4, r_5, r_6) = (f_X11_calculate_146 register address status did ready trace l1)) (ht : 0 ≤ l1.toInt ∧ l1.toInt < 4) : G M_X11_calculate 0 0 146 [(0, .ref 0), (1, .int l1)] [] (w_M refusal wheel now length at_ fault faultLine line words labels targets wrong unfit text code_ label labelWord target targetWord targetLine store common low high register address status did ready timer trace) (some (.int r_0)) (w_M refusal wheel now length at_ fault faultLine line words labels targets wrong unfit text code_ label labelWord target targetWord targetLine store common low high r_1 r_2 r_3 r_4 r_5 timer r_6) := by
  rw [f_X11_calculate_146] at hres
  refine G.aload_n (pc := 146) dm_X11_calculate_146 rfl ?_
  refine G.iload_n (pc := 147) dm_X11_calculate_147 rfl ?_
  obtain ⟨z1_0, z1_1, hz1⟩ := g_ex2 (f_X11_stop l1 status)
  refine G.callV0 (pc := 148) (rest := []) (st1 := [.int z1_0]) dm_X11_calculate_148 gc_X11_calculate_299 (k_X11_stop (t := l1) (refusal := refusal) (wheel := wheel) (now := now) (length := length) (at_ := at_) (fault := fault) (faultLine := faultLine) (line := line) (words := words) (labels := labels) (targets := targets) (wrong := wrong) (unfit := unfit) (text := text) (code_ := code_) (label := label) (labelWord := labelWord) (target := target) (targetWord := targetWord) (targetLine := targetLine) (store := store) (common := common) (low := low) (high := high) (register := register) (address := address) (status := status) (did := did) (ready := ready) (timer := timer) (trace := trace) (by first | assumption | exact q_31 _) hz1) rfl rfl rfl rfl rfl rfl rfl rfl ?_
  replace hres : (r_0, r_1, r_2, r_3, r_4, r_5, r_6) = f_X11_calculate_c148 register address did ready trace z1_0 z1_1 := hres.trans (by rw [← hz1])
  rw [f_X11_calculate_c148] at hres
  cases hres
  exact G.ireturn (pc := 151) dm_X11_calculate_151 rfl rfl rfl
def f_X11_calculate_c231 (status : Nat → Int32) (z3_0 : (Nat → Int32)) (z4_0 : Int32) (z4_1 : (Nat → Int32)) (z4_2 : (Nat → Int32)) (z4_3 : (Nat → Int32)) (z4_4 : (Nat → Int32)) : Int32 × (Nat → Int32) × (Nat → Int32) × (Nat → Int32) × (Nat → Int32) × (Nat → Int32) × (Nat → Int32) := (z4_0, z3_0, z4_1, status, z4_2, z4_3, z4_4)
def f_X11_calculate_c212 (now : Int32) (address : Nat → Int32) (status : Nat → Int32) (did : Nat → Int32) (ready : Nat → Int32) (trace : Nat → Int32) (l1 : Int32) (z3_0 : (Nat → Int32)) : Int32 × (Nat → Int32) × (Nat → Int32) × (Nat → Int32) × (Nat → Int32) × (Nat → Int32) × (Nat → Int32) := (f_X11_calculate_c231 status z3_0 (f_X11_done l1 ((address (Int32.toNatClampNeg l1)) + (4 : Int32)) (now + (4 : Int32)) now address did ready trace).1 (f_X11_done l1 ((address (Int32.toNatClampNeg l1)) + (4 : Int32)) (now + (4 : Int32)) now address did ready trace).2.1 (f_X11_done l1 ((address (Int32.toNatClampNeg l1)) + (4 : Int32)) (now + (4 : Int32)) now address did ready trace).2.2.1 (f_X11_done l1 ((address (Int32.toNatClampNeg l1)) + (4 : Int32)) (now + (4 : Int32)) now address did ready trace).2.2.2.1 (f_X11_done l1 ((address (Int32.toNatClampNeg l1)) + (4 : Int32)) (now + (4 : Int32)) now address did ready trace).2.2.2.2)
def f_X11_calculate_c209 (now : Int32) (register : Nat → Int32) (address : Nat → Int32) (status : Nat → Int32) (did : Nat → Int32) (ready : Nat → Int32) (trace : Nat → Int32) (l1 : Int32) (l5 : Int32) (z2_0 : Int32) : Int32 × (Nat → Int32) × (Nat → Int32) × (Nat → Int32) × (Nat → Int32) × (Nat → Int32) × (Nat → Int32) := (f_X11_calculate_c212 now address status did ready trace l1 (f_X11_set l1 l5 z2_0 register))
def f_X11_calculate_185 (now : Int32) (register : Nat → Int32) (address : Nat → Int32) (status : Nat → Int32) (did : Nat → Int32) (ready : Nat → Int32) (trace : Nat → Int32) (l1 : Int32) (l4 : Int32) (l5 : Int32) (l6 : Int32) (s0 : Int32) (l10 : Int32) : Int32 × (Nat → Int32) × (Nat → Int32) × (Nat → Int32) × (Nat → Int32) × (Nat → Int32) × (Nat → Int32) := (f_X11_calculate_c209 now register address status did ready trace l1 l5 (f_X11_worked l4 l10 (register (Int32.toNatClampNeg (((16 : Int32) * l1) + l6))) s0))
set_option maxRecDepth 20000 in
theorem j_X11_calculate_185 {l1 : Int32} {l4 : Int32} {l5 : Int32} {l6 : Int32} {l10 : Int32} {s0 : Int32} {refusal : Int32} {wheel : Int32} {now : Int32} {length : Int32} {at_ : Int32} {fault : Int32} {faultLine : Int32} {line : Int32} {words : Int32} {labels : Int32} {targets : Int32} {wrong : Int32} {unfit : Int32} {text : Nat → Int32} {code_ : Nat → Int32} {label : Nat → Int64} {labelWord : Nat → Int32} {target : Nat → Int64} {targetWord : Nat → Int32} {targetLine : Nat → Int32} {store : Nat → Int32} {common : Nat → Int32} {low : Nat → Int32} {high : Nat → Int32} {register : Nat → Int32} {address : Nat → Int32} {status : Nat → Int32} {did : Nat → Int32} {ready : Nat → Int32} {timer : Nat → Int32} {trace : Nat → Int32} {r_0 : Int32} {r_1 : (Nat → Int32)} {r_2 : (Nat → Int32)} {r_3 : (Nat → Int32)} {r_4 : (Nat → Int32)} {r_5 : (Nat → Int32)} {r_6 : (Nat → Int32)} (hres : (r_0, r_1, r_2, r_3, r_4, r_5, r_6) = (f_X11_calculate_185 now register address status did ready trace l1 l4 l5 l6 s0 l10)) (ht : 0 ≤ l1.toInt ∧ l1.toInt < 4) (hdid : ∀ j, j < 4 → 0 ≤ (did j).toInt) (h5 : 0 ≤ l5.toInt ∧ l5.toInt < 16) (h6 : 0 ≤ l6.toInt ∧ l6.toInt < 16) : G M_X11_calculate 0 0 185 [(0, .ref 0), (1, .int l1), (4, .int l4), (5, .int l5), (6, .int l6), (10, .int l10)] [.int s0] (w_M refusal wheel now length at_ fault faultLine line words labels targets wrong unfit text code_ label labelWord target targetWord targetLine store common low high register address status did ready timer trace) (some (.int r_0)) (w_M refusal wheel now length at_ fault faultLine line words labels targets wrong unfit text code_ label labelWord target targetWord targetLine store common low high r_1 r_2 r_3 r_4 r_5 timer r_6) := by
  rw [f_X11_calculate_185] at hres
  refine G.istore (pc := 185) (lv1 := [(12, .int s0), (0, .ref 0), (1, .int l1), (4, .int l4), (5, .int l5), (6, .int l6), (10, .int l10)]) dm_X11_calculate_185 rfl rfl ?_
  refine G.aload_n (pc := 187) dm_X11_calculate_187 rfl ?_
  refine G.iload_n (pc := 188) dm_X11_calculate_188 rfl ?_
  refine G.iload (pc := 189) dm_X11_calculate_189 rfl ?_
  refine G.iload (pc := 191) dm_X11_calculate_191 rfl ?_
  refine G.iload (pc := 193) dm_X11_calculate_193 rfl ?_
  refine G.aload_n (pc := 195) dm_X11_calculate_195 rfl ?_
  refine G.getfield (pc := 196) dm_X11_calculate_196 gf_X11_45 rfl rfl ?_
  refine G.bipush (pc := 199) (v := (16 : Int32)) dm_X11_calculate_199 qb_16 ?_
  refine G.iload_n (pc := 201) dm_X11_calculate_201 rfl ?_
  refine G.imul (pc := 202) dm_X11_calculate_202 ?_
  refine G.iload (pc := 203) dm_X11_calculate_203 rfl ?_
  refine G.iadd (pc := 205) dm_X11_calculate_205 ?_
  refine G.iaload (pc := 206) dm_X11_calculate_206 rfl (q_i16 ht h6) ?_
  refine G.iload (pc := 207) dm_X11_calculate_207 rfl ?_
  obtain ⟨z2_0, hz2⟩ := g_ex1 (f_X11_worked l4 l10 (register (Int32.toNatClampNeg (((16 : Int32) * l1) + l6))) s0)
  refine G.callS (pc := 209) (rest := [.int l5, .int l1, .ref 0]) (st1 := [.int z2_0, .int l5, .int l1, .ref 0]) (ws1 := (w_M refusal wheel now length at_ fault faultLine line words labels targets wrong unfit text code_ label labelWord target targetWord targetLine store common low high register address status did ready timer trace)) [] dm_X11_calculate_209 gc_X11_calculate_323 (k_X11_worked (f := l4) (other := l10) (a := (register (Int32.toNatClampNeg (((16 : Int32) * l1) + l6)))) (b := s0) hz2) rfl rfl rfl rfl rfl rfl rfl rfl ?_
  replace hres : (r_0, r_1, r_2, r_3, r_4, r_5, r_6) = f_X11_calculate_c209 now register address status did ready trace l1 l5 z2_0 := hres.trans (by rw [← hz2])
  rw [f_X11_calculate_c209] at hres
  obtain ⟨z3_0, hz3⟩ := g_ex1 (f_X11_set l1 l5 z2_0 register)
  refine G.callV0 (pc := 212) (rest := []) (st1 := []) dm_X11_calculate_212 gc_X11_calculate_313 (k_X11_set (t := l1) (r := l5) (v := z2_0) (refusal := refusal) (wheel := wheel) (now := now) (length := length) (at_ := at_) (fault := fault) (faultLine := faultLine) (line := line) (words := words) (labels := labels) (targets := targets) (wrong := wrong) (unfit := unfit) (text := text) (code_ := code_) (label := label) (labelWord := labelWord) (target := target) (targetWord := targetWord) (targetLine := targetLine) (store := store) (common := common) (low := low) (high := high) (register := register) (address := address) (status := status) (did := did) (ready := ready) (timer := timer) (trace := trace) (by first | assumption | exact q_31 _) (by first | assumption | exact q_31 _) hz3) rfl rfl rfl rfl rfl rfl rfl rfl ?_
  replace hres : (r_0, r_1, r_2, r_3, r_4, r_5, r_6) = f_X11_calculate_c212 now address status did ready trace l1 z3_0 := hres.trans (by rw [← hz3])
  rw [f_X11_calculate_c212] at hres
  refine G.aload_n (pc := 215) dm_X11_calculate_215 rfl ?_
  refine G.iload_n (pc := 216) dm_X11_calculate_216 rfl ?_
  refine G.aload_n (pc := 217) dm_X11_calculate_217 rfl ?_
  refine G.getfield (pc := 218) dm_X11_calculate_218 gf_X11_48 rfl rfl ?_
  refine G.iload_n (pc := 221) dm_X11_calculate_221 rfl ?_
  refine G.iaload (pc := 222) dm_X11_calculate_222 rfl (q_t ht) ?_
  refine G.iconst (pc := 223) (v := (4 : Int32)) dm_X11_calculate_223 qi_4 ?_
  refine G.iadd (pc := 224) dm_X11_calculate_224 ?_
  refine G.aload_n (pc := 225) dm_X11_calculate_225 rfl ?_
  refine G.getfield (pc := 226) dm_X11_calculate_226 gf_X11_291 rfl rfl ?_
  refine G.iconst (pc := 229) (v := (4 : Int32)) dm_X11_calculate_229 qi_4 ?_
  refine G.iadd (pc := 230) dm_X11_calculate_230 ?_
  obtain ⟨z4_0, z4_1, z4_2, z4_3, z4_4, hz4⟩ := g_ex5 (f_X11_done l1 ((address (Int32.toNatClampNeg l1)) + (4 : Int32)) (now + (4 : Int32)) now address did ready trace)
  refine G.callV0 (pc := 231) (rest := []) (st1 := [.int z4_0]) dm_X11_calculate_231 gc_X11_calculate_319 (k_X11_done (t := l1) (a := ((address (Int32.toNatClampNeg l1)) + (4 : Int32))) (when := (now + (4 : Int32))) (refusal := refusal) (wheel := wheel) (now := now) (length := length) (at_ := at_) (fault := fault) (faultLine := faultLine) (line := line) (words := words) (labels := labels) (targets := targets) (wrong := wrong) (unfit := unfit) (text := text) (code_ := code_) (label := label) (labelWord := labelWord) (target := target) (targetWord := targetWord) (targetLine := targetLine) (store := store) (common := common) (low := low) (high := high) (register := z3_0) (address := address) (status := status) (did := did) (ready := ready) (timer := timer) (trace := trace) (by first | assumption | exact q_31 _) (by first | assumption | exact q_31 _) hz4) rfl rfl rfl rfl rfl rfl rfl rfl ?_
  replace hres : (r_0, r_1, r_2, r_3, r_4, r_5, r_6) = f_X11_calculate_c231 status z3_0 z4_0 z4_1 z4_2 z4_3 z4_4 := hres.trans (by rw [← hz4])
  rw [f_X11_calculate_c231] at hres
  cases hres
  exact G.ireturn (pc := 234) dm_X11_calculate_234 rfl rfl rfl
def f_X11_calculate_152 (now : Int32) (register : Nat → Int32) (address : Nat → Int32) (status : Nat → Int32) (did : Nat → Int32) (ready : Nat → Int32) (trace : Nat → Int32) (l1 : Int32) (l2 : Int32) (l3 : Int32) (l4 : Int32) (l5 : Int32) (l6 : Int32) (l7 : Int32) (l9 : Int32) (l10 : Int32) : Int32 × (Nat → Int32) × (Nat → Int32) × (Nat → Int32) × (Nat → Int32) × (Nat → Int32) × (Nat → Int32) := (if l3 = 0 then (if l9 = 0 then (f_X11_calculate_185 now register address status did ready trace l1 l4 l5 l6 (l2 >>> ((20 : Int32) &&& 31)) l10) else (f_X11_calculate_185 now register address status did ready trace l1 l4 l5 l6 l7 l10)) else (f_X11_calculate_185 now register address status did ready trace l1 l4 l5 l6 (register (Int32.toNatClampNeg (((16 : Int32) * l1) + l7))) l10))
set_option maxRecDepth 20000 in
theorem j_X11_calculate_152 {l1 : Int32} {l2 : Int32} {l3 : Int32} {l4 : Int32} {l5 : Int32} {l6 : Int32} {l7 : Int32} {l9 : Int32} {l10 : Int32} {refusal : Int32} {wheel : Int32} {now : Int32} {length : Int32} {at_ : Int32} {fault : Int32} {faultLine : Int32} {line : Int32} {words : Int32} {labels : Int32} {targets : Int32} {wrong : Int32} {unfit : Int32} {text : Nat → Int32} {code_ : Nat → Int32} {label : Nat → Int64} {labelWord : Nat → Int32} {target : Nat → Int64} {targetWord : Nat → Int32} {targetLine : Nat → Int32} {store : Nat → Int32} {common : Nat → Int32} {low : Nat → Int32} {high : Nat → Int32} {register : Nat → Int32} {address : Nat → Int32} {status : Nat → Int32} {did : Nat → Int32} {ready : Nat → Int32} {timer : Nat → Int32} {trace : Nat → Int32} {r_0 : Int32} {r_1 : (Nat → Int32)} {r_2 : (Nat → Int32)} {r_3 : (Nat → Int32)} {r_4 : (Nat → Int32)} {r_5 : (Nat → Int32)} {r_6 : (Nat → Int32)} (hres : (r_0, r_1, r_2, r_3, r_4, r_5, r_6) = (f_X11_calculate_152 now register address status did ready trace l1 l2 l3 l4 l5 l6 l7 l9 l10)) (ht : 0 ≤ l1.toInt ∧ l1.toInt < 4) (hdid : ∀ j, j < 4 → 0 ≤ (did j).toInt) (h5 : 0 ≤ l5.toInt ∧ l5.toInt < 16) (h6 : 0 ≤ l6.toInt ∧ l6.toInt < 16) (h7 : 0 ≤ l7.toInt ∧ l7.toInt < 32 ∧ (¬ l3 = 0 → l7.toInt < 16)) : G M_X11_calculate 0 0 152 [(0, .ref 0), (1, .int l1), (2, .int l2), (3, .int l3), (4, .int l4), (5, .int l5), (6, .int l6), (7, .int l7), (9, .int l9), (10, .int l10)] [] (w_M refusal wheel now length at_ fault faultLine line words labels targets wrong unfit text code_ label labelWord target targetWord targetLine store common low high register address status did ready timer trace) (some (.int r_0)) (w_M refusal wheel now length at_ fault faultLine line words labels targets wrong unfit text code_ label labelWord target targetWord targetLine store common low high r_1 r_2 r_3 r_4 r_5 timer r_6) := by
  rw [f_X11_calculate_152] at hres
  refine G.iload_n (pc := 152) dm_X11_calculate_152 rfl ?_
  refine G.if_eq (pc := 153) (tgt := 171) dm_X11_calculate_153 (by decide) (fun c153 => ?_) (fun c153 => ?_)
  · rw [if_pos c153] at hres
    refine G.iload (pc := 171) dm_X11_calculate_171 rfl ?_
    refine G.if_eq (pc := 173) (tgt := 181) dm_X11_calculate_173 (by decide) (fun c173 => ?_) (fun c173 => ?_)
    · rw [if_pos c173] at hres
      refine G.iload_n (pc := 181) dm_X11_calculate_181 rfl ?_
      refine G.bipush (pc := 182) (v := (20 : Int32)) dm_X11_calculate_182 qb_20 ?_
      refine G.ishr (pc := 184) dm_X11_calculate_184 ?_
      refine G.lvp [0, 1, 4, 5, 6, 9] rfl ?_
      exact j_X11_calculate_185 hres (by first | assumption | exact q_31 _) (by first | assumption | exact q_31 _) (by first | assumption | exact q_31 _) (by first | assumption | exact q_31 _)
    · rw [if_neg c173] at hres
      refine G.iload (pc := 176) dm_X11_calculate_176 rfl ?_
      refine G.goto (pc := 178) (tgt := 185) dm_X11_calculate_178 (by decide) ?_
      refine G.lvp [0, 1, 4, 5, 6, 9] rfl ?_
      exact j_X11_calculate_185 hres (by first | assumption | exact q_31 _) (by first | assumption | exact q_31 _) (by first | assumption | exact q_31 _) (by first | assumption | exact q_31 _)
  · rw [if_neg c153] at hres
    refine G.aload_n (pc := 156) dm_X11_calculate_156 rfl ?_
    refine G.getfield (pc := 157) dm_X11_calculate_157 gf_X11_45 rfl rfl ?_
    refine G.bipush (pc := 160) (v := (16 : Int32)) dm_X11_calculate_160 qb_16 ?_
    refine G.iload_n (pc := 162) dm_X11_calculate_162 rfl ?_
    refine G.imul (pc := 163) dm_X11_calculate_163 ?_
    refine G.iload (pc := 164) dm_X11_calculate_164 rfl ?_
    refine G.iadd (pc := 166) dm_X11_calculate_166 ?_
    refine G.iaload (pc := 167) dm_X11_calculate_167 rfl (q_i16 ht ⟨h7.1, h7.2.2 c153⟩) ?_
    refine G.goto (pc := 168) (tgt := 185) dm_X11_calculate_168 (by decide) ?_
    refine G.lvp [0, 1, 4, 5, 6, 9] rfl ?_
    exact j_X11_calculate_185 hres (by first | assumption | exact q_31 _) (by first | assumption | exact q_31 _) (by first | assumption | exact q_31 _) (by first | assumption | exact q_31 _)
def f_X11_calculate_114 (now : Int32) (register : Nat → Int32) (address : Nat → Int32) (status : Nat → Int32) (did : Nat → Int32) (ready : Nat → Int32) (trace : Nat → Int32) (l1 : Int32) (l2 : Int32) (l3 : Int32) (l4 : Int32) (l5 : Int32) (l6 : Int32) (l7 : Int32) (s0 : Int32) (l9 : Int32) (l10 : Int32) : Int32 × (Nat → Int32) × (Nat → Int32) × (Nat → Int32) × (Nat → Int32) × (Nat → Int32) × (Nat → Int32) := (if s0 = 0 then (f_X11_calculate_146 register address status did ready trace l1) else (if (15 : Int32) < l5 then (f_X11_calculate_146 register address status did ready trace l1) else (if (15 : Int32) < l6 then (f_X11_calculate_146 register address status did ready trace l1) else (if l3 = 0 then (f_X11_calculate_152 now register address status did ready trace l1 l2 l3 l4 l5 l6 l7 l9 l10) else (if l7 ≤ (15 : Int32) then (f_X11_calculate_152 now register address status did ready trace l1 l2 l3 l4 l5 l6 l7 l9 l10) else (f_X11_calculate_146 register address status did ready trace l1))))))
set_option maxRecDepth 20000 in
theorem j_X11_calculate_114 {l1 : Int32} {l2 : Int32} {l3 : Int32} {l4 : Int32} {l5 : Int32} {l6 : Int32} {l7 : Int32} {l9 : Int32} {l10 : Int32} {s0 : Int32} {refusal : Int32} {wheel : Int32} {now : Int32} {length : Int32} {at_ : Int32} {fault : Int32} {faultLine : Int32} {line : Int32} {words : Int32} {labels : Int32} {targets : Int32} {wrong : Int32} {unfit : Int32} {text : Nat → Int32} {code_ : Nat → Int32} {label : Nat → Int64} {labelWord : Nat → Int32} {target : Nat → Int64} {targetWord : Nat → Int32} {targetLine : Nat → Int32} {store : Nat → Int32} {common : Nat → Int32} {low : Nat → Int32} {high : Nat → Int32} {register : Nat → Int32} {address : Nat → Int32} {status : Nat → Int32} {did : Nat → Int32} {ready : Nat → Int32} {timer : Nat → Int32} {trace : Nat → Int32} {r_0 : Int32} {r_1 : (Nat → Int32)} {r_2 : (Nat → Int32)} {r_3 : (Nat → Int32)} {r_4 : (Nat → Int32)} {r_5 : (Nat → Int32)} {r_6 : (Nat → Int32)} (hres : (r_0, r_1, r_2, r_3, r_4, r_5, r_6) = (f_X11_calculate_114 now register address status did ready trace l1 l2 l3 l4 l5 l6 l7 s0 l9 l10)) (ht : 0 ≤ l1.toInt ∧ l1.toInt < 4) (hdid : ∀ j, j < 4 → 0 ≤ (did j).toInt) (h5 : 0 ≤ l5.toInt ∧ l5.toInt < 32) (h6 : 0 ≤ l6.toInt ∧ l6.toInt < 32) (h7 : 0 ≤ l7.toInt ∧ l7.toInt < 32) : G M_X11_calculate 0 0 114 [(0, .ref 0), (1, .int l1), (2, .int l2), (3, .int l3), (4, .int l4), (5, .int l5), (6, .int l6), (7, .int l7), (9, .int l9), (10, .int l10)] [.int s0] (w_M refusal wheel now length at_ fault faultLine line words labels targets wrong unfit text code_ label labelWord target targetWord targetLine store common low high register address status did ready timer trace) (some (.int r_0)) (w_M refusal wheel now length at_ fault faultLine line words labels targets wrong unfit text code_ label labelWord target targetWord targetLine store common low high r_1 r_2 r_3 r_4 r_5 timer r_6) := by
  rw [f_X11_calculate_114] at hres
  refine G.istore (pc := 114) (lv1 := [(11, .int s0), (0, .ref 0), (1, .int l1), (2, .int l2), (3, .int l3), (4, .int l4), (5, .int l5), (6, .int l6), (7, .int l7), (9, .int l9), (10, .int l10)]) dm_X11_calculate_114 rfl rfl ?_
  refine G.iload (pc := 116) dm_X11_calculate_116 rfl ?_
  refine G.if_eq (pc := 118) (tgt := 146) dm_X11_calculate_118 (by decide) (fun c118 => ?_) (fun c118 => ?_)
  · rw [if_pos c118] at hres
    refine G.lvp [1, 2] rfl ?_
    exact j_X11_calculate_146 hres (by first | assumption | exact q_31 _)
  · rw [if_neg c118] at hres
    refine G.iload (pc := 121) dm_X11_calculate_121 rfl ?_
    refine G.bipush (pc := 123) (v := (15 : Int32)) dm_X11_calculate_123 qb_15 ?_
    refine G.icmp_gt (pc := 125) (tgt := 146) dm_X11_calculate_125 (by decide) (fun c125 => ?_) (fun c125 => ?_)
    · rw [if_pos c125] at hres
      refine G.lvp [1, 2] rfl ?_
      exact j_X11_calculate_146 hres (by first | assumption | exact q_31 _)
    · rw [if_neg c125] at hres
      refine G.iload (pc := 128) dm_X11_calculate_128 rfl ?_
      refine G.bipush (pc := 130) (v := (15 : Int32)) dm_X11_calculate_130 qb_15 ?_
      refine G.icmp_gt (pc := 132) (tgt := 146) dm_X11_calculate_132 (by decide) (fun c132 => ?_) (fun c132 => ?_)
      · rw [if_pos c132] at hres
        refine G.lvp [1, 2] rfl ?_
        exact j_X11_calculate_146 hres (by first | assumption | exact q_31 _)
      · rw [if_neg c132] at hres
        have h5 := q_16 h5 c125
        have h6 := q_16 h6 c132
        refine G.iload_n (pc := 135) dm_X11_calculate_135 rfl ?_
        refine G.if_eq (pc := 136) (tgt := 152) dm_X11_calculate_136 (by decide) (fun c136 => ?_) (fun c136 => ?_)
        · rw [if_pos c136] at hres
          refine G.lvp [1, 2, 3, 4, 5, 6, 7, 8, 9, 10] rfl ?_
          exact j_X11_calculate_152 hres ht hdid h5 h6 ⟨h7.1, h7.2, fun h => absurd c136 h⟩
        · rw [if_neg c136] at hres
          refine G.iload (pc := 139) dm_X11_calculate_139 rfl ?_
          refine G.bipush (pc := 141) (v := (15 : Int32)) dm_X11_calculate_141 qb_15 ?_
          refine G.icmp_le (pc := 143) (tgt := 152) dm_X11_calculate_143 (by decide) (fun c143 => ?_) (fun c143 => ?_)
          · rw [if_pos c143] at hres
            refine G.lvp [1, 2, 3, 4, 5, 6, 7, 8, 9, 10] rfl ?_
            exact j_X11_calculate_152 hres ht hdid h5 h6 ⟨h7.1, h7.2, fun _ => (q_16' h7 c143).2⟩
          · rw [if_neg c143] at hres
            refine G.lvp [1, 2] rfl ?_
            exact j_X11_calculate_146 hres (by first | assumption | exact q_31 _)
def f_X11_calculate_99 (now : Int32) (register : Nat → Int32) (address : Nat → Int32) (status : Nat → Int32) (did : Nat → Int32) (ready : Nat → Int32) (trace : Nat → Int32) (l1 : Int32) (l2 : Int32) (l3 : Int32) (l4 : Int32) (l5 : Int32) (l6 : Int32) (l7 : Int32) (l8 : Int32) (l9 : Int32) (l10 : Int32) : Int32 × (Nat → Int32) × (Nat → Int32) × (Nat → Int32) × (Nat → Int32) × (Nat → Int32) × (Nat → Int32) := (if l8 = 0 then (f_X11_calculate_114 now register address status did ready trace l1 l2 l3 l4 l5 l6 l7 (1 : Int32) l9 l10) else (if l10 = 0 then (f_X11_calculate_114 now register address status did ready trace l1 l2 l3 l4 l5 l6 l7 (0 : Int32) l9 l10) else (f_X11_calculate_114 now register address status did ready trace l1 l2 l3 l4 l5 l6 l7 (1 : Int32) l9 l10)))
set_option maxRecDepth 20000 in
theorem j_X11_calculate_99 {l1 : Int32} {l2 : Int32} {l3 : Int32} {l4 : Int32} {l5 : Int32} {l6 : Int32} {l7 : Int32} {l8 : Int32} {l9 : Int32} {l10 : Int32} {refusal : Int32} {wheel : Int32} {now : Int32} {length : Int32} {at_ : Int32} {fault : Int32} {faultLine : Int32} {line : Int32} {words : Int32} {labels : Int32} {targets : Int32} {wrong : Int32} {unfit : Int32} {text : Nat → Int32} {code_ : Nat → Int32} {label : Nat → Int64} {labelWord : Nat → Int32} {target : Nat → Int64} {targetWord : Nat → Int32} {targetLine : Nat → Int32} {store : Nat → Int32} {common : Nat → Int32} {low : Nat → Int32} {high : Nat → Int32} {register : Nat → Int32} {address : Nat → Int32} {status : Nat → Int32} {did : Nat → Int32} {ready : Nat → Int32} {timer : Nat → Int32} {trace : Nat → Int32} {r_0 : Int32} {r_1 : (Nat → Int32)} {r_2 : (Nat → Int32)} {r_3 : (Nat → Int32)} {r_4 : (Nat → Int32)} {r_5 : (Nat → Int32)} {r_6 : (Nat → Int32)} (hres : (r_0, r_1, r_2, r_3, r_4, r_5, r_6) = (f_X11_calculate_99 now register address status did ready trace l1 l2 l3 l4 l5 l6 l7 l8 l9 l10)) (ht : 0 ≤ l1.toInt ∧ l1.toInt < 4) (hdid : ∀ j, j < 4 → 0 ≤ (did j).toInt) (h5 : 0 ≤ l5.toInt ∧ l5.toInt < 32) (h6 : 0 ≤ l6.toInt ∧ l6.toInt < 32) (h7 : 0 ≤ l7.toInt ∧ l7.toInt < 32) : G M_X11_calculate 0 0 99 [(0, .ref 0), (1, .int l1), (2, .int l2), (3, .int l3), (4, .int l4), (5, .int l5), (6, .int l6), (7, .int l7), (8, .int l8), (9, .int l9), (10, .int l10)] [] (w_M refusal wheel now length at_ fault faultLine line words labels targets wrong unfit text code_ label labelWord target targetWord targetLine store common low high register address status did ready timer trace) (some (.int r_0)) (w_M refusal wheel now length at_ fault faultLine line words labels targets wrong unfit text code_ label labelWord target targetWord targetLine store common low high r_1 r_2 r_3 r_4 r_5 timer r_6) := by
  rw [f_X11_calculate_99] at hres
  refine G.iload (pc := 99) dm_X11_calculate_99 rfl ?_
  refine G.if_eq (pc := 101) (tgt := 109) dm_X11_calculate_101 (by decide) (fun c101 => ?_) (fun c101 => ?_)
  · rw [if_pos c101] at hres
    refine G.iconst (pc := 109) (v := (1 : Int32)) dm_X11_calculate_109 qi_1 ?_
    refine G.goto (pc := 110) (tgt := 114) dm_X11_calculate_110 (by decide) ?_
    refine G.lvp [0, 1, 2, 3, 4, 5, 6, 7, 9, 10] rfl ?_
    exact j_X11_calculate_114 hres (by first | assumption | exact q_31 _) (by first | assumption | exact q_31 _) (by first | assumption | exact q_31 _) (by first | assumption | exact q_31 _) (by first | assumption | exact q_31 _)
  · rw [if_neg c101] at hres
    refine G.iload (pc := 104) dm_X11_calculate_104 rfl ?_
    refine G.if_eq (pc := 106) (tgt := 113) dm_X11_calculate_106 (by decide) (fun c106 => ?_) (fun c106 => ?_)
    · rw [if_pos c106] at hres
      refine G.iconst (pc := 113) (v := (0 : Int32)) dm_X11_calculate_113 qi_0 ?_
      refine G.lvp [0, 1, 2, 3, 4, 5, 6, 7, 9, 10] rfl ?_
      exact j_X11_calculate_114 hres (by first | assumption | exact q_31 _) (by first | assumption | exact q_31 _) (by first | assumption | exact q_31 _) (by first | assumption | exact q_31 _) (by first | assumption | exact q_31 _)
    · rw [if_neg c106] at hres
      refine G.iconst (pc := 109) (v := (1 : Int32)) dm_X11_calculate_109 qi_1 ?_
      refine G.goto (pc := 110) (tgt := 114) dm_X11_calculate_110 (by decide) ?_
      refine G.lvp [0, 1, 2, 3, 4, 5, 6, 7, 9, 10] rfl ?_
      exact j_X11_calculate_114 hres (by first | assumption | exact q_31 _) (by first | assumption | exact q_31 _) (by first | assumption | exact q_31 _) (by first | assumption | exact q_31 _) (by first | assumption | exact q_31 _)
def f_X11_calculate_88 (now : Int32) (register : Nat → Int32) (address : Nat → Int32) (status : Nat → Int32) (did : Nat → Int32) (ready : Nat → Int32) (trace : Nat → Int32) (l1 : Int32) (l2 : Int32) (l3 : Int32) (l4 : Int32) (l5 : Int32) (l6 : Int32) (l7 : Int32) (l8 : Int32) (s0 : Int32) (l9 : Int32) : Int32 × (Nat → Int32) × (Nat → Int32) × (Nat → Int32) × (Nat → Int32) × (Nat → Int32) × (Nat → Int32) := (if l3 = 0 then (if l9 = 0 then (f_X11_calculate_114 now register address status did ready trace l1 l2 l3 l4 l5 l6 l7 (1 : Int32) l9 s0) else (f_X11_calculate_99 now register address status did ready trace l1 l2 l3 l4 l5 l6 l7 l8 l9 s0)) else (f_X11_calculate_99 now register address status did ready trace l1 l2 l3 l4 l5 l6 l7 l8 l9 s0))
set_option maxRecDepth 20000 in
theorem j_X11_calculate_88 {l1 : Int32} {l2 : Int32} {l3 : Int32} {l4 : Int32} {l5 : Int32} {l6 : Int32} {l7 : Int32} {l8 : Int32} {l9 : Int32} {s0 : Int32} {refusal : Int32} {wheel : Int32} {now : Int32} {length : Int32} {at_ : Int32} {fault : Int32} {faultLine : Int32} {line : Int32} {words : Int32} {labels : Int32} {targets : Int32} {wrong : Int32} {unfit : Int32} {text : Nat → Int32} {code_ : Nat → Int32} {label : Nat → Int64} {labelWord : Nat → Int32} {target : Nat → Int64} {targetWord : Nat → Int32} {targetLine : Nat → Int32} {store : Nat → Int32} {common : Nat → Int32} {low : Nat → Int32} {high : Nat → Int32} {register : Nat → Int32} {address : Nat → Int32} {status : Nat → Int32} {did : Nat → Int32} {ready : Nat → Int32} {timer : Nat → Int32} {trace : Nat → Int32} {r_0 : Int32} {r_1 : (Nat → Int32)} {r_2 : (Nat → Int32)} {r_3 : (Nat → Int32)} {r_4 : (Nat → Int32)} {r_5 : (Nat → Int32)} {r_6 : (Nat → Int32)} (hres : (r_0, r_1, r_2, r_3, r_4, r_5, r_6) = (f_X11_calculate_88 now register address status did ready trace l1 l2 l3 l4 l5 l6 l7 l8 s0 l9)) (ht : 0 ≤ l1.toInt ∧ l1.toInt < 4) (hdid : ∀ j, j < 4 → 0 ≤ (did j).toInt) (h5 : 0 ≤ l5.toInt ∧ l5.toInt < 32) (h6 : 0 ≤ l6.toInt ∧ l6.toInt < 32) (h7 : 0 ≤ l7.toInt ∧ l7.toInt < 32) : G M_X11_calculate 0 0 88 [(0, .ref 0), (1, .int l1), (2, .int l2), (3, .int l3), (4, .int l4), (5, .int l5), (6, .int l6), (7, .int l7), (8, .int l8), (9, .int l9)] [.int s0] (w_M refusal wheel now length at_ fault faultLine line words labels targets wrong unfit text code_ label labelWord target targetWord targetLine store common low high register address status did ready timer trace) (some (.int r_0)) (w_M refusal wheel now length at_ fault faultLine line words labels targets wrong unfit text code_ label labelWord target targetWord targetLine store common low high r_1 r_2 r_3 r_4 r_5 timer r_6) := by
  rw [f_X11_calculate_88] at hres
  refine G.istore (pc := 88) (lv1 := [(10, .int s0), (0, .ref 0), (1, .int l1), (2, .int l2), (3, .int l3), (4, .int l4), (5, .int l5), (6, .int l6), (7, .int l7), (8, .int l8), (9, .int l9)]) dm_X11_calculate_88 rfl rfl ?_
  refine G.iload_n (pc := 90) dm_X11_calculate_90 rfl ?_
  refine G.if_ne (pc := 91) (tgt := 99) dm_X11_calculate_91 (by decide) (fun c91 => ?_) (fun c91 => ?_)
  · rw [if_neg c91] at hres
    refine G.lvp [1, 2, 3, 4, 5, 6, 7, 8, 9, 10, 0] rfl ?_
    exact j_X11_calculate_99 hres (by first | assumption | exact q_31 _) (by first | assumption | exact q_31 _) (by first | assumption | exact q_31 _) (by first | assumption | exact q_31 _) (by first | assumption | exact q_31 _)
  · rw [if_pos c91] at hres
    refine G.iload (pc := 94) dm_X11_calculate_94 rfl ?_
    refine G.if_eq (pc := 96) (tgt := 109) dm_X11_calculate_96 (by decide) (fun c96 => ?_) (fun c96 => ?_)
    · rw [if_pos c96] at hres
      refine G.iconst (pc := 109) (v := (1 : Int32)) dm_X11_calculate_109 qi_1 ?_
      refine G.goto (pc := 110) (tgt := 114) dm_X11_calculate_110 (by decide) ?_
      refine G.lvp [1, 2, 3, 4, 5, 6, 7, 8, 10, 0] rfl ?_
      exact j_X11_calculate_114 hres (by first | assumption | exact q_31 _) (by first | assumption | exact q_31 _) (by first | assumption | exact q_31 _) (by first | assumption | exact q_31 _) (by first | assumption | exact q_31 _)
    · rw [if_neg c96] at hres
      refine G.lvp [1, 2, 3, 4, 5, 6, 7, 8, 9, 10, 0] rfl ?_
      exact j_X11_calculate_99 hres (by first | assumption | exact q_31 _) (by first | assumption | exact q_31 _) (by first | assumption | exact q_31 _) (by first | assumption | exact q_31 _) (by first | assumption | exact q_31 _)
def f_X11_calculate_87 (now : Int32) (register : Nat → Int32) (address : Nat → Int32) (status : Nat → Int32) (did : Nat → Int32) (ready : Nat → Int32) (trace : Nat → Int32) (l1 : Int32) (l2 : Int32) (l3 : Int32) (l4 : Int32) (l5 : Int32) (l6 : Int32) (l7 : Int32) (l8 : Int32) (l9 : Int32) : Int32 × (Nat → Int32) × (Nat → Int32) × (Nat → Int32) × (Nat → Int32) × (Nat → Int32) × (Nat → Int32) := (f_X11_calculate_88 now register address status did ready trace l1 l2 l3 l4 l5 l6 l7 l8 (0 : Int32) l9)
set_option maxRecDepth 20000 in
theorem j_X11_calculate_87 {l1 : Int32} {l2 : Int32} {l3 : Int32} {l4 : Int32} {l5 : Int32} {l6 : Int32} {l7 : Int32} {l8 : Int32} {l9 : Int32} {refusal : Int32} {wheel : Int32} {now : Int32} {length : Int32} {at_ : Int32} {fault : Int32} {faultLine : Int32} {line : Int32} {words : Int32} {labels : Int32} {targets : Int32} {wrong : Int32} {unfit : Int32} {text : Nat → Int32} {code_ : Nat → Int32} {label : Nat → Int64} {labelWord : Nat → Int32} {target : Nat → Int64} {targetWord : Nat → Int32} {targetLine : Nat → Int32} {store : Nat → Int32} {common : Nat → Int32} {low : Nat → Int32} {high : Nat → Int32} {register : Nat → Int32} {address : Nat → Int32} {status : Nat → Int32} {did : Nat → Int32} {ready : Nat → Int32} {timer : Nat → Int32} {trace : Nat → Int32} {r_0 : Int32} {r_1 : (Nat → Int32)} {r_2 : (Nat → Int32)} {r_3 : (Nat → Int32)} {r_4 : (Nat → Int32)} {r_5 : (Nat → Int32)} {r_6 : (Nat → Int32)} (hres : (r_0, r_1, r_2, r_3, r_4, r_5, r_6) = (f_X11_calculate_87 now register address status did ready trace l1 l2 l3 l4 l5 l6 l7 l8 l9)) (ht : 0 ≤ l1.toInt ∧ l1.toInt < 4) (hdid : ∀ j, j < 4 → 0 ≤ (did j).toInt) (h5 : 0 ≤ l5.toInt ∧ l5.toInt < 32) (h6 : 0 ≤ l6.toInt ∧ l6.toInt < 32) (h7 : 0 ≤ l7.toInt ∧ l7.toInt < 32) : G M_X11_calculate 0 0 87 [(0, .ref 0), (1, .int l1), (2, .int l2), (3, .int l3), (4, .int l4), (5, .int l5), (6, .int l6), (7, .int l7), (8, .int l8), (9, .int l9)] [] (w_M refusal wheel now length at_ fault faultLine line words labels targets wrong unfit text code_ label labelWord target targetWord targetLine store common low high register address status did ready timer trace) (some (.int r_0)) (w_M refusal wheel now length at_ fault faultLine line words labels targets wrong unfit text code_ label labelWord target targetWord targetLine store common low high r_1 r_2 r_3 r_4 r_5 timer r_6) := by
  rw [f_X11_calculate_87] at hres
  refine G.iconst (pc := 87) (v := (0 : Int32)) dm_X11_calculate_87 qi_0 ?_
  exact j_X11_calculate_88 hres (by first | assumption | exact q_31 _) (by first | assumption | exact q_31 _) (by first | assumption | exact q_31 _) (by first | assumption | exact q_31 _) (by first | assumption | exact q_31 _)
def f_X11_calculate_59 (now : Int32) (register : Nat → Int32) (address : Nat → Int32) (status : Nat → Int32) (did : Nat → Int32) (ready : Nat → Int32) (trace : Nat → Int32) (l1 : Int32) (l2 : Int32) (l3 : Int32) (l4 : Int32) (l5 : Int32) (l6 : Int32) (l7 : Int32) (l8 : Int32) (s0 : Int32) : Int32 × (Nat → Int32) × (Nat → Int32) × (Nat → Int32) × (Nat → Int32) × (Nat → Int32) × (Nat → Int32) := (if l8 = (32 : Int32) then (if l4 = (5 : Int32) then (f_X11_calculate_88 now register address status did ready trace l1 l2 l3 l4 l5 l6 l7 l8 (1 : Int32) s0) else (if l3 = 0 then (f_X11_calculate_87 now register address status did ready trace l1 l2 l3 l4 l5 l6 l7 l8 s0) else (if l4 = 0 then (f_X11_calculate_88 now register address status did ready trace l1 l2 l3 l4 l5 l6 l7 l8 (1 : Int32) s0) else (f_X11_calculate_87 now register address status did ready trace l1 l2 l3 l4 l5 l6 l7 l8 s0)))) else (f_X11_calculate_87 now register address status did ready trace l1 l2 l3 l4 l5 l6 l7 l8 s0))
set_option maxRecDepth 20000 in
theorem j_X11_calculate_59 {l1 : Int32} {l2 : Int32} {l3 : Int32} {l4 : Int32} {l5 : Int32} {l6 : Int32} {l7 : Int32} {l8 : Int32} {s0 : Int32} {refusal : Int32} {wheel : Int32} {now : Int32} {length : Int32} {at_ : Int32} {fault : Int32} {faultLine : Int32} {line : Int32} {words : Int32} {labels : Int32} {targets : Int32} {wrong : Int32} {unfit : Int32} {text : Nat → Int32} {code_ : Nat → Int32} {label : Nat → Int64} {labelWord : Nat → Int32} {target : Nat → Int64} {targetWord : Nat → Int32} {targetLine : Nat → Int32} {store : Nat → Int32} {common : Nat → Int32} {low : Nat → Int32} {high : Nat → Int32} {register : Nat → Int32} {address : Nat → Int32} {status : Nat → Int32} {did : Nat → Int32} {ready : Nat → Int32} {timer : Nat → Int32} {trace : Nat → Int32} {r_0 : Int32} {r_1 : (Nat → Int32)} {r_2 : (Nat → Int32)} {r_3 : (Nat → Int32)} {r_4 : (Nat → Int32)} {r_5 : (Nat → Int32)} {r_6 : (Nat → Int32)} (hres : (r_0, r_1, r_2, r_3, r_4, r_5, r_6) = (f_X11_calculate_59 now register address status did ready trace l1 l2 l3 l4 l5 l6 l7 l8 s0)) (ht : 0 ≤ l1.toInt ∧ l1.toInt < 4) (hdid : ∀ j, j < 4 → 0 ≤ (did j).toInt) (h5 : 0 ≤ l5.toInt ∧ l5.toInt < 32) (h6 : 0 ≤ l6.toInt ∧ l6.toInt < 32) (h7 : 0 ≤ l7.toInt ∧ l7.toInt < 32) : G M_X11_calculate 0 0 59 [(0, .ref 0), (1, .int l1), (2, .int l2), (3, .int l3), (4, .int l4), (5, .int l5), (6, .int l6), (7, .int l7), (8, .int l8)] [.int s0] (w_M refusal wheel now length at_ fault faultLine line words labels targets wrong unfit text code_ label labelWord target targetWord targetLine store common low high register address status did ready timer trace) (some (.int r_0)) (w_M refusal wheel now length at_ fault faultLine line words labels targets wrong unfit text code_ label labelWord target targetWord targetLine store common low high r_1 r_2 r_3 r_4 r_5 timer r_6) := by
  rw [f_X11_calculate_59] at hres
  refine G.istore (pc := 59) (lv1 := [(9, .int s0), (0, .ref 0), (1, .int l1), (2, .int l2), (3, .int l3), (4, .int l4), (5, .int l5), (6, .int l6), (7, .int l7), (8, .int l8)]) dm_X11_calculate_59 rfl rfl ?_
  refine G.iload (pc := 61) dm_X11_calculate_61 rfl ?_
  refine G.bipush (pc := 63) (v := (32 : Int32)) dm_X11_calculate_63 qb_32 ?_
  refine G.icmp_ne (pc := 65) (tgt := 87) dm_X11_calculate_65 (by decide) (fun c65 => ?_) (fun c65 => ?_)
  · rw [if_neg c65] at hres
    refine G.lvp [1, 2, 3, 4, 5, 6, 7, 8, 9, 0] rfl ?_
    exact j_X11_calculate_87 hres (by first | assumption | exact q_31 _) (by first | assumption | exact q_31 _) (by first | assumption | exact q_31 _) (by first | assumption | exact q_31 _) (by first | assumption | exact q_31 _)
  · rw [if_pos c65] at hres
    refine G.iload (pc := 68) dm_X11_calculate_68 rfl ?_
    refine G.iconst (pc := 70) (v := (5 : Int32)) dm_X11_calculate_70 qi_5 ?_
    refine G.icmp_eq (pc := 71) (tgt := 83) dm_X11_calculate_71 (by decide) (fun c71 => ?_) (fun c71 => ?_)
    · rw [if_pos c71] at hres
      refine G.iconst (pc := 83) (v := (1 : Int32)) dm_X11_calculate_83 qi_1 ?_
      refine G.goto (pc := 84) (tgt := 88) dm_X11_calculate_84 (by decide) ?_
      refine G.lvp [1, 2, 3, 4, 5, 6, 7, 8, 9, 0] rfl ?_
      exact j_X11_calculate_88 hres (by first | assumption | exact q_31 _) (by first | assumption | exact q_31 _) (by first | assumption | exact q_31 _) (by first | assumption | exact q_31 _) (by first | assumption | exact q_31 _)
    · rw [if_neg c71] at hres
      refine G.iload_n (pc := 74) dm_X11_calculate_74 rfl ?_
      refine G.if_eq (pc := 75) (tgt := 87) dm_X11_calculate_75 (by decide) (fun c75 => ?_) (fun c75 => ?_)
      · rw [if_pos c75] at hres
        refine G.lvp [1, 2, 3, 4, 5, 6, 7, 8, 9, 0] rfl ?_
        exact j_X11_calculate_87 hres (by first | assumption | exact q_31 _) (by first | assumption | exact q_31 _) (by first | assumption | exact q_31 _) (by first | assumption | exact q_31 _) (by first | assumption | exact q_31 _)
      · rw [if_neg c75] at hres
        refine G.iload (pc := 78) dm_X11_calculate_78 rfl ?_
        refine G.if_ne (pc := 80) (tgt := 87) dm_X11_calculate_80 (by decide) (fun c80 => ?_) (fun c80 => ?_)
        · rw [if_neg c80] at hres
          refine G.lvp [1, 2, 3, 4, 5, 6, 7, 8, 9, 0] rfl ?_
          exact j_X11_calculate_87 hres (by first | assumption | exact q_31 _) (by first | assumption | exact q_31 _) (by first | assumption | exact q_31 _) (by first | assumption | exact q_31 _) (by first | assumption | exact q_31 _)
        · rw [if_pos c80] at hres
          refine G.iconst (pc := 83) (v := (1 : Int32)) dm_X11_calculate_83 qi_1 ?_
          refine G.goto (pc := 84) (tgt := 88) dm_X11_calculate_84 (by decide) ?_
          refine G.lvp [1, 2, 3, 4, 5, 6, 7, 8, 9, 0] rfl ?_
          exact j_X11_calculate_88 hres (by first | assumption | exact q_31 _) (by first | assumption | exact q_31 _) (by first | assumption | exact q_31 _) (by first | assumption | exact q_31 _) (by first | assumption | exact q_31 _)
def f_X11_calculate (t : Int32) (w : Int32) (plain : Int32) (now : Int32) (register : Nat → Int32) (address : Nat → Int32) (status : Nat → Int32) (did : Nat → Int32) (ready : Nat → Int32) (trace : Nat → Int32) : Int32 × (Nat → Int32) × (Nat → Int32) × (Nat → Int32) × (Nat → Int32) × (Nat → Int32) × (Nat → Int32) := (if ((w >>> ((12 : Int32) &&& 31)) &&& (7 : Int32)) = (1 : Int32) then (f_X11_calculate_59 now register address status did ready trace t w plain ((w >>> ((12 : Int32) &&& 31)) &&& (7 : Int32)) ((w >>> ((7 : Int32) &&& 31)) &&& (31 : Int32)) ((w >>> ((15 : Int32) &&& 31)) &&& (31 : Int32)) ((w >>> ((20 : Int32) &&& 31)) &&& (31 : Int32)) (g_ushr w (25 : Int32)) (1 : Int32)) else (if ((w >>> ((12 : Int32) &&& 31)) &&& (7 : Int32)) = (5 : Int32) then (f_X11_calculate_59 now register address status did ready trace t w plain ((w >>> ((12 : Int32) &&& 31)) &&& (7 : Int32)) ((w >>> ((7 : Int32) &&& 31)) &&& (31 : Int32)) ((w >>> ((15 : Int32) &&& 31)) &&& (31 : Int32)) ((w >>> ((20 : Int32) &&& 31)) &&& (31 : Int32)) (g_ushr w (25 : Int32)) (1 : Int32)) else (f_X11_calculate_59 now register address status did ready trace t w plain ((w >>> ((12 : Int32) &&& 31)) &&& (7 : Int32)) ((w >>> ((7 : Int32) &&& 31)) &&& (31 : Int32)) ((w >>> ((15 : Int32) &&& 31)) &&& (31 : Int32)) ((w >>> ((20 : Int32) &&& 31)) &&& (31 : Int32)) (g_ushr w (25 : Int32)) (0 : Int32))))
set_option maxRecDepth 20000 in
theorem k_X11_calculate {t : Int32} {w : Int32} {plain : Int32} {refusal : Int32} {wheel : Int32} {now : Int32} {length : Int32} {at_ : Int32} {fault : Int32} {faultLine : Int32} {line : Int32} {words : Int32} {labels : Int32} {targets : Int32} {wrong : Int32} {unfit : Int32} {text : Nat → Int32} {code_ : Nat → Int32} {label : Nat → Int64} {labelWord : Nat → Int32} {target : Nat → Int64} {targetWord : Nat → Int32} {targetLine : Nat → Int32} {store : Nat → Int32} {common : Nat → Int32} {low : Nat → Int32} {high : Nat → Int32} {register : Nat → Int32} {address : Nat → Int32} {status : Nat → Int32} {did : Nat → Int32} {ready : Nat → Int32} {timer : Nat → Int32} {trace : Nat → Int32} (ht : 0 ≤ t.toInt ∧ t.toInt < 4) (hdid : ∀ j, j < 4 → 0 ≤ (did j).toInt) {r_0 : Int32} {r_1 : (Nat → Int32)} {r_2 : (Nat → Int32)} {r_3 : (Nat → Int32)} {r_4 : (Nat → Int32)} {r_5 : (Nat → Int32)} {r_6 : (Nat → Int32)} (hres : (r_0, r_1, r_2, r_3, r_4, r_5, r_6) = f_X11_calculate t w plain now register address status did ready trace) : K M_X11_calculate yX11_calculate [.ref 0, .int t, .int w, .int plain] (w_M refusal wheel now length at_ fault faultLine line words labels targets wrong unfit text code_ label labelWord target targetWord targetLine store common low high register address status did ready timer trace) (some (.int r_0)) (w_M refusal wheel now length at_ fault faultLine line words labels targets wrong unfit text code_ label labelWord target targetWord targetLine store common low high r_1 r_2 r_3 r_4 r_5 timer r_6) := by
  refine K.of (lv := [(0, .ref 0), (1, .int t), (2, .int w), (3, .int plain)]) (by decide +kernel) rfl rfl rfl ?_
  rw [f_X11_calculate] at hres
  refine G.iload_n (pc := 0) dm_X11_calculate_0 rfl ?_
  refine G.bipush (pc := 1) (v := (12 : Int32)) dm_X11_calculate_1 qb_12 ?_
  refine G.ishr (pc := 3) dm_X11_calculate_3 ?_
  refine G.bipush (pc := 4) (v := (7 : Int32)) dm_X11_calculate_4 qb_7 ?_
  refine G.iand (pc := 6) dm_X11_calculate_6 ?_
  refine G.istore (pc := 7) (lv1 := [(4, .int ((w >>> ((12 : Int32) &&& 31)) &&& (7 : Int32))), (0, .ref 0), (1, .int t), (2, .int w), (3, .int plain)]) dm_X11_calculate_7 rfl rfl ?_
  refine G.iload_n (pc := 9) dm_X11_calculate_9 rfl ?_
  refine G.bipush (pc := 10) (v := (7 : Int32)) dm_X11_calculate_10 qb_7 ?_
  refine G.ishr (pc := 12) dm_X11_calculate_12 ?_
  refine G.bipush (pc := 13) (v := (31 : Int32)) dm_X11_calculate_13 qb_31 ?_
  refine G.iand (pc := 15) dm_X11_calculate_15 ?_
  refine G.istore (pc := 16) (lv1 := [(5, .int ((w >>> ((7 : Int32) &&& 31)) &&& (31 : Int32))), (4, .int ((w >>> ((12 : Int32) &&& 31)) &&& (7 : Int32))), (0, .ref 0), (1, .int t), (2, .int w), (3, .int plain)]) dm_X11_calculate_16 rfl rfl ?_
  refine G.iload_n (pc := 18) dm_X11_calculate_18 rfl ?_
  refine G.bipush (pc := 19) (v := (15 : Int32)) dm_X11_calculate_19 qb_15 ?_
  refine G.ishr (pc := 21) dm_X11_calculate_21 ?_
  refine G.bipush (pc := 22) (v := (31 : Int32)) dm_X11_calculate_22 qb_31 ?_
  refine G.iand (pc := 24) dm_X11_calculate_24 ?_
  refine G.istore (pc := 25) (lv1 := [(6, .int ((w >>> ((15 : Int32) &&& 31)) &&& (31 : Int32))), (5, .int ((w >>> ((7 : Int32) &&& 31)) &&& (31 : Int32))), (4, .int ((w >>> ((12 : Int32) &&& 31)) &&& (7 : Int32))), (0, .ref 0), (1, .int t), (2, .int w), (3, .int plain)]) dm_X11_calculate_25 rfl rfl ?_
  refine G.iload_n (pc := 27) dm_X11_calculate_27 rfl ?_
  refine G.bipush (pc := 28) (v := (20 : Int32)) dm_X11_calculate_28 qb_20 ?_
  refine G.ishr (pc := 30) dm_X11_calculate_30 ?_
  refine G.bipush (pc := 31) (v := (31 : Int32)) dm_X11_calculate_31 qb_31 ?_
  refine G.iand (pc := 33) dm_X11_calculate_33 ?_
  refine G.istore (pc := 34) (lv1 := [(7, .int ((w >>> ((20 : Int32) &&& 31)) &&& (31 : Int32))), (6, .int ((w >>> ((15 : Int32) &&& 31)) &&& (31 : Int32))), (5, .int ((w >>> ((7 : Int32) &&& 31)) &&& (31 : Int32))), (4, .int ((w >>> ((12 : Int32) &&& 31)) &&& (7 : Int32))), (0, .ref 0), (1, .int t), (2, .int w), (3, .int plain)]) dm_X11_calculate_34 rfl rfl ?_
  refine G.iload_n (pc := 36) dm_X11_calculate_36 rfl ?_
  refine G.bipush (pc := 37) (v := (25 : Int32)) dm_X11_calculate_37 qb_25 ?_
  refine G.iushr (pc := 39) dm_X11_calculate_39 ?_
  refine G.istore (pc := 40) (lv1 := [(8, .int (g_ushr w (25 : Int32))), (7, .int ((w >>> ((20 : Int32) &&& 31)) &&& (31 : Int32))), (6, .int ((w >>> ((15 : Int32) &&& 31)) &&& (31 : Int32))), (5, .int ((w >>> ((7 : Int32) &&& 31)) &&& (31 : Int32))), (4, .int ((w >>> ((12 : Int32) &&& 31)) &&& (7 : Int32))), (0, .ref 0), (1, .int t), (2, .int w), (3, .int plain)]) dm_X11_calculate_40 rfl rfl ?_
  refine G.iload (pc := 42) dm_X11_calculate_42 rfl ?_
  refine G.iconst (pc := 44) (v := (1 : Int32)) dm_X11_calculate_44 qi_1 ?_
  refine G.icmp_eq (pc := 45) (tgt := 54) dm_X11_calculate_45 (by decide) (fun c45 => ?_) (fun c45 => ?_)
  · rw [if_pos c45] at hres
    refine G.iconst (pc := 54) (v := (1 : Int32)) dm_X11_calculate_54 qi_1 ?_
    refine G.goto (pc := 55) (tgt := 59) dm_X11_calculate_55 (by decide) ?_
    refine G.lvp [5, 6, 7, 8, 4, 3, 2, 1, 0] rfl ?_
    exact j_X11_calculate_59 hres (by first | assumption | exact q_31 _) (by first | assumption | exact q_31 _) (by first | assumption | exact q_31 _) (by first | assumption | exact q_31 _) (by first | assumption | exact q_31 _)
  · rw [if_neg c45] at hres
    refine G.iload (pc := 48) dm_X11_calculate_48 rfl ?_
    refine G.iconst (pc := 50) (v := (5 : Int32)) dm_X11_calculate_50 qi_5 ?_
    refine G.icmp_ne (pc := 51) (tgt := 58) dm_X11_calculate_51 (by decide) (fun c51 => ?_) (fun c51 => ?_)
    · rw [if_neg c51] at hres
      refine G.iconst (pc := 58) (v := (0 : Int32)) dm_X11_calculate_58 qi_0 ?_
      refine G.lvp [5, 6, 7, 8, 4, 3, 2, 1, 0] rfl ?_
      exact j_X11_calculate_59 hres (by first | assumption | exact q_31 _) (by first | assumption | exact q_31 _) (by first | assumption | exact q_31 _) (by first | assumption | exact q_31 _) (by first | assumption | exact q_31 _)
    · rw [if_pos c51] at hres
      refine G.iconst (pc := 54) (v := (1 : Int32)) dm_X11_calculate_54 qi_1 ?_
      refine G.goto (pc := 55) (tgt := 59) dm_X11_calculate_55 (by decide) ?_
      refine G.lvp [5, 6, 7, 8, 4, 3, 2, 1, 0] rfl ?_
      exact j_X11_calculate_59 hres (by first | assumption | exact q_31 _) (by first | assumption | exact q_31 _) (by first | assumption | exact q_31 _) (by first | assumption | exact q_31 _) (by first | assumption | exact q_31 _)
abbrev M_X11_jump : g_M := (cX11_jump, 8, RX11, (some .int), { frames := 1, cells := 0, slots := 0, locals := 24 }, 0, 0)
theorem dm_X11_jump_0 : decode M_X11_jump.1 0 = .ok (.iload_n 2, 1) := by decide +kernel
theorem dm_X11_jump_1 : decode M_X11_jump.1 1 = .ok (.bipush 7, 2) := by decide +kernel
theorem dm_X11_jump_3 : decode M_X11_jump.1 3 = .ok (.ishr, 1) := by decide +kernel
theorem dm_X11_jump_4 : decode M_X11_jump.1 4 = .ok (.bipush 31, 2) := by decide +kernel
theorem dm_X11_jump_6 : decode M_X11_jump.1 6 = .ok (.iand, 1) := by decide +kernel
theorem dm_X11_jump_7 : decode M_X11_jump.1 7 = .ok (.istore 4, 2) := by decide +kernel
theorem dm_X11_jump_9 : decode M_X11_jump.1 9 = .ok (.iload_n 2, 1) := by decide +kernel
theorem dm_X11_jump_10 : decode M_X11_jump.1 10 = .ok (.bipush 15, 2) := by decide +kernel
theorem dm_X11_jump_12 : decode M_X11_jump.1 12 = .ok (.ishr, 1) := by decide +kernel
theorem dm_X11_jump_13 : decode M_X11_jump.1 13 = .ok (.bipush 31, 2) := by decide +kernel
theorem dm_X11_jump_15 : decode M_X11_jump.1 15 = .ok (.iand, 1) := by decide +kernel
theorem dm_X11_jump_16 : decode M_X11_jump.1 16 = .ok (.istore 5, 2) := by decide +kernel
theorem dm_X11_jump_18 : decode M_X11_jump.1 18 = .ok (.iload 4, 2) := by decide +kernel
theorem dm_X11_jump_20 : decode M_X11_jump.1 20 = .ok (.bipush 15, 2) := by decide +kernel
theorem dm_X11_jump_22 : decode M_X11_jump.1 22 = .ok (.if_icmp .gt 24, 3) := by decide +kernel
theorem dm_X11_jump_25 : decode M_X11_jump.1 25 = .ok (.iload_n 3, 1) := by decide +kernel
theorem dm_X11_jump_26 : decode M_X11_jump.1 26 = .ok (.ifCond .eq 26, 3) := by decide +kernel
theorem dm_X11_jump_29 : decode M_X11_jump.1 29 = .ok (.iload 5, 2) := by decide +kernel
theorem dm_X11_jump_31 : decode M_X11_jump.1 31 = .ok (.bipush 15, 2) := by decide +kernel
theorem dm_X11_jump_33 : decode M_X11_jump.1 33 = .ok (.if_icmp .gt 13, 3) := by decide +kernel
theorem dm_X11_jump_36 : decode M_X11_jump.1 36 = .ok (.iload_n 2, 1) := by decide +kernel
theorem dm_X11_jump_37 : decode M_X11_jump.1 37 = .ok (.bipush 12, 2) := by decide +kernel
theorem dm_X11_jump_39 : decode M_X11_jump.1 39 = .ok (.ishr, 1) := by decide +kernel
theorem dm_X11_jump_40 : decode M_X11_jump.1 40 = .ok (.bipush 7, 2) := by decide +kernel
theorem dm_X11_jump_42 : decode M_X11_jump.1 42 = .ok (.iand, 1) := by decide +kernel
theorem dm_X11_jump_43 : decode M_X11_jump.1 43 = .ok (.ifCond .eq 9, 3) := by decide +kernel
theorem dm_X11_jump_46 : decode M_X11_jump.1 46 = .ok (.aload_n 0, 1) := by decide +kernel
theorem dm_X11_jump_47 : decode M_X11_jump.1 47 = .ok (.iload_n 1, 1) := by decide +kernel
theorem dm_X11_jump_48 : decode M_X11_jump.1 48 = .ok (.invokevirtual 299, 3) := by decide +kernel
theorem dm_X11_jump_51 : decode M_X11_jump.1 51 = .ok (.ireturn, 1) := by decide +kernel
theorem dm_X11_jump_52 : decode M_X11_jump.1 52 = .ok (.iload_n 2, 1) := by decide +kernel
theorem dm_X11_jump_53 : decode M_X11_jump.1 53 = .ok (.bipush 21, 2) := by decide +kernel
theorem dm_X11_jump_55 : decode M_X11_jump.1 55 = .ok (.ishr, 1) := by decide +kernel
theorem dm_X11_jump_56 : decode M_X11_jump.1 56 = .ok (.sipush 1023, 3) := by decide +kernel
theorem dm_X11_jump_59 : decode M_X11_jump.1 59 = .ok (.iand, 1) := by decide +kernel
theorem dm_X11_jump_60 : decode M_X11_jump.1 60 = .ok (.iconst 1, 1) := by decide +kernel
theorem dm_X11_jump_61 : decode M_X11_jump.1 61 = .ok (.ishl, 1) := by decide +kernel
theorem dm_X11_jump_62 : decode M_X11_jump.1 62 = .ok (.iload_n 2, 1) := by decide +kernel
theorem dm_X11_jump_63 : decode M_X11_jump.1 63 = .ok (.bipush 20, 2) := by decide +kernel
theorem dm_X11_jump_65 : decode M_X11_jump.1 65 = .ok (.ishr, 1) := by decide +kernel
theorem dm_X11_jump_66 : decode M_X11_jump.1 66 = .ok (.iconst 1, 1) := by decide +kernel
theorem dm_X11_jump_67 : decode M_X11_jump.1 67 = .ok (.iand, 1) := by decide +kernel
theorem dm_X11_jump_68 : decode M_X11_jump.1 68 = .ok (.bipush 11, 2) := by decide +kernel
theorem dm_X11_jump_70 : decode M_X11_jump.1 70 = .ok (.ishl, 1) := by decide +kernel
theorem dm_X11_jump_71 : decode M_X11_jump.1 71 = .ok (.ior, 1) := by decide +kernel
theorem dm_X11_jump_72 : decode M_X11_jump.1 72 = .ok (.iload_n 2, 1) := by decide +kernel
theorem dm_X11_jump_73 : decode M_X11_jump.1 73 = .ok (.bipush 12, 2) := by decide +kernel
theorem dm_X11_jump_75 : decode M_X11_jump.1 75 = .ok (.ishr, 1) := by decide +kernel
theorem dm_X11_jump_76 : decode M_X11_jump.1 76 = .ok (.sipush 255, 3) := by decide +kernel
theorem dm_X11_jump_79 : decode M_X11_jump.1 79 = .ok (.iand, 1) := by decide +kernel
theorem dm_X11_jump_80 : decode M_X11_jump.1 80 = .ok (.bipush 12, 2) := by decide +kernel
theorem dm_X11_jump_82 : decode M_X11_jump.1 82 = .ok (.ishl, 1) := by decide +kernel
theorem dm_X11_jump_83 : decode M_X11_jump.1 83 = .ok (.ior, 1) := by decide +kernel
theorem dm_X11_jump_84 : decode M_X11_jump.1 84 = .ok (.iload_n 2, 1) := by decide +kernel
theorem dm_X11_jump_85 : decode M_X11_jump.1 85 = .ok (.bipush 31, 2) := by decide +kernel
theorem dm_X11_jump_87 : decode M_X11_jump.1 87 = .ok (.ishr, 1) := by decide +kernel
theorem dm_X11_jump_88 : decode M_X11_jump.1 88 = .ok (.bipush 20, 2) := by decide +kernel
theorem dm_X11_jump_90 : decode M_X11_jump.1 90 = .ok (.ishl, 1) := by decide +kernel
theorem dm_X11_jump_91 : decode M_X11_jump.1 91 = .ok (.ior, 1) := by decide +kernel
theorem dm_X11_jump_92 : decode M_X11_jump.1 92 = .ok (.istore 6, 2) := by decide +kernel
theorem dm_X11_jump_94 : decode M_X11_jump.1 94 = .ok (.iload_n 3, 1) := by decide +kernel
theorem dm_X11_jump_95 : decode M_X11_jump.1 95 = .ok (.ifCond .eq 26, 3) := by decide +kernel
theorem dm_X11_jump_98 : decode M_X11_jump.1 98 = .ok (.aload_n 0, 1) := by decide +kernel
theorem dm_X11_jump_99 : decode M_X11_jump.1 99 = .ok (.getfield 45, 3) := by decide +kernel
theorem dm_X11_jump_102 : decode M_X11_jump.1 102 = .ok (.bipush 16, 2) := by decide +kernel
theorem dm_X11_jump_104 : decode M_X11_jump.1 104 = .ok (.iload_n 1, 1) := by decide +kernel
theorem dm_X11_jump_105 : decode M_X11_jump.1 105 = .ok (.imul, 1) := by decide +kernel
theorem dm_X11_jump_106 : decode M_X11_jump.1 106 = .ok (.iload 5, 2) := by decide +kernel
theorem dm_X11_jump_108 : decode M_X11_jump.1 108 = .ok (.iadd, 1) := by decide +kernel
theorem dm_X11_jump_109 : decode M_X11_jump.1 109 = .ok (.iaload, 1) := by decide +kernel
theorem dm_X11_jump_110 : decode M_X11_jump.1 110 = .ok (.iload_n 2, 1) := by decide +kernel
theorem dm_X11_jump_111 : decode M_X11_jump.1 111 = .ok (.bipush 20, 2) := by decide +kernel
theorem dm_X11_jump_113 : decode M_X11_jump.1 113 = .ok (.ishr, 1) := by decide +kernel
theorem dm_X11_jump_114 : decode M_X11_jump.1 114 = .ok (.iadd, 1) := by decide +kernel
theorem dm_X11_jump_115 : decode M_X11_jump.1 115 = .ok (.bipush (-2), 2) := by decide +kernel
theorem dm_X11_jump_117 : decode M_X11_jump.1 117 = .ok (.iand, 1) := by decide +kernel
theorem dm_X11_jump_118 : decode M_X11_jump.1 118 = .ok (.goto 12, 3) := by decide +kernel
theorem dm_X11_jump_121 : decode M_X11_jump.1 121 = .ok (.aload_n 0, 1) := by decide +kernel
theorem dm_X11_jump_122 : decode M_X11_jump.1 122 = .ok (.getfield 48, 3) := by decide +kernel
theorem dm_X11_jump_125 : decode M_X11_jump.1 125 = .ok (.iload_n 1, 1) := by decide +kernel
theorem dm_X11_jump_126 : decode M_X11_jump.1 126 = .ok (.iaload, 1) := by decide +kernel
theorem dm_X11_jump_127 : decode M_X11_jump.1 127 = .ok (.iload 6, 2) := by decide +kernel
theorem dm_X11_jump_129 : decode M_X11_jump.1 129 = .ok (.iadd, 1) := by decide +kernel
theorem dm_X11_jump_130 : decode M_X11_jump.1 130 = .ok (.istore 7, 2) := by decide +kernel
theorem dm_X11_jump_132 : decode M_X11_jump.1 132 = .ok (.aload_n 0, 1) := by decide +kernel
theorem dm_X11_jump_133 : decode M_X11_jump.1 133 = .ok (.iload_n 1, 1) := by decide +kernel
theorem dm_X11_jump_134 : decode M_X11_jump.1 134 = .ok (.iload 4, 2) := by decide +kernel
theorem dm_X11_jump_136 : decode M_X11_jump.1 136 = .ok (.aload_n 0, 1) := by decide +kernel
theorem dm_X11_jump_137 : decode M_X11_jump.1 137 = .ok (.getfield 48, 3) := by decide +kernel
theorem dm_X11_jump_140 : decode M_X11_jump.1 140 = .ok (.iload_n 1, 1) := by decide +kernel
theorem dm_X11_jump_141 : decode M_X11_jump.1 141 = .ok (.iaload, 1) := by decide +kernel
theorem dm_X11_jump_142 : decode M_X11_jump.1 142 = .ok (.iconst 4, 1) := by decide +kernel
theorem dm_X11_jump_143 : decode M_X11_jump.1 143 = .ok (.iadd, 1) := by decide +kernel
theorem dm_X11_jump_144 : decode M_X11_jump.1 144 = .ok (.invokevirtual 313, 3) := by decide +kernel
theorem dm_X11_jump_147 : decode M_X11_jump.1 147 = .ok (.aload_n 0, 1) := by decide +kernel
theorem dm_X11_jump_148 : decode M_X11_jump.1 148 = .ok (.iload_n 1, 1) := by decide +kernel
theorem dm_X11_jump_149 : decode M_X11_jump.1 149 = .ok (.iload 7, 2) := by decide +kernel
theorem dm_X11_jump_151 : decode M_X11_jump.1 151 = .ok (.aload_n 0, 1) := by decide +kernel
theorem dm_X11_jump_152 : decode M_X11_jump.1 152 = .ok (.getfield 291, 3) := by decide +kernel
theorem dm_X11_jump_155 : decode M_X11_jump.1 155 = .ok (.iconst 4, 1) := by decide +kernel
theorem dm_X11_jump_156 : decode M_X11_jump.1 156 = .ok (.iadd, 1) := by decide +kernel
theorem dm_X11_jump_157 : decode M_X11_jump.1 157 = .ok (.invokevirtual 319, 3) := by decide +kernel
theorem dm_X11_jump_160 : decode M_X11_jump.1 160 = .ok (.ireturn, 1) := by decide +kernel
theorem gc_X11_jump_299 : g_cv M_X11_jump 299 M_X11_stop yX11_stop 1 := ⟨tw773, tw774, tw775, tw5, tw776, ⟨rfl, rfl, rfl, rfl⟩, gd_X11_stop, ⟨by decide, by decide⟩⟩
theorem gc_X11_jump_313 : g_cv M_X11_jump 313 M_X11_set yX11_set 3 := ⟨tw777, tw778, tw779, tw5, tw780, ⟨rfl, rfl, rfl, rfl⟩, gd_X11_set, ⟨by decide, by decide⟩⟩
theorem gc_X11_jump_319 : g_cv M_X11_jump 319 M_X11_done yX11_done 3 := ⟨tw781, tw782, tw783, tw5, tw784, ⟨rfl, rfl, rfl, rfl⟩, gd_X11_done, ⟨by decide, by decide⟩⟩
def f_X11_jump_c48 (register : Nat → Int32) (address : Nat → Int32) (did : Nat → Int32) (ready : Nat → Int32) (trace : Nat → Int32) (z1_0 : Int32) (z1_1 : (Nat → Int32)) : Int32 × (Nat → Int32) × (Nat → Int32) × (Nat → Int32) × (Nat → Int32) × (Nat → Int32) × (Nat → Int32) := (z1_0, register, address, z1_1, did, ready, trace)
def f_X11_jump_46 (register : Nat → Int32) (address : Nat → Int32) (status : Nat → Int32) (did : Nat → Int32) (ready : Nat → Int32) (trace : Nat → Int32) (l1 : Int32) : Int32 × (Nat → Int32) × (Nat → Int32) × (Nat → Int32) × (Nat → Int32) × (Nat → Int32) × (Nat → Int32) := (f_X11_jump_c48 register address did ready trace (f_X11_stop l1 status).1 (f_X11_stop l1 status).2)
set_option maxRecDepth 20000 in
theorem j_X11_jump_46 {l1 : Int32} {refusal : Int32} {wheel : Int32} {now : Int32} {length : Int32} {at_ : Int32} {fault : Int32} {faultLine : Int32} {line : Int32} {words : Int32} {labels : Int32} {targets : Int32} {wrong : Int32} {unfit : Int32} {text : Nat → Int32} {code_ : Nat → Int32} {label : Nat → Int64} {labelWord : Nat → Int32} {target : Nat → Int64} {targetWord : Nat → Int32} {targetLine : Nat → Int32} {store : Nat → Int32} {common : Nat → Int32} {low : Nat → Int32} {high : Nat → Int32} {register : Nat → Int32} {address : Nat → Int32} {status : Nat → Int32} {did : Nat → Int32} {ready : Nat → Int32} {timer : Nat → Int32} {trace : Nat → Int32} {r_0 : Int32} {r_1 : (Nat → Int32)} {r_2 : (Nat → Int32)} {r_3 : (Nat → Int32)} {r_4 : (Nat → Int32)} {r_5 : (Nat → Int32)} {r_6 : (Nat → Int32)} (hres : (r_0, r_1, r_2, r_3, r_4, r_5, r_6) = (f_X11_jump_46 register address status did ready trace l1)) (ht : 0 ≤ l1.toInt ∧ l1.toInt < 4) : G M_X11_jump 0 0 46 [(0, .ref 0), (1, .int l1)] [] (w_M refusal wheel now length at_ fault faultLine line words labels targets wrong unfit text code_ label labelWord target targetWord targetLine store common low high register address status did ready timer trace) (some (.int r_0)) (w_M refusal wheel now length at_ fault faultLine line words labels targets wrong unfit text code_ label labelWord target targetWord targetLine store common low high r_1 r_2 r_3 r_4 r_5 timer r_6) := by
  rw [f_X11_jump_46] at hres
  refine G.aload_n (pc := 46) dm_X11_jump_46 rfl ?_
  refine G.iload_n (pc := 47) dm_X11_jump_47 rfl ?_
  obtain ⟨z1_0, z1_1, hz1⟩ := g_ex2 (f_X11_stop l1 status)
  refine G.callV0 (pc := 48) (rest := []) (st1 := [.int z1_0]) dm_X11_jump_48 gc_X11_jump_299 (k_X11_stop (t := l1) (refusal := refusal) (wheel := wheel) (now := now) (length := length) (at_ := at_) (fault := fault) (faultLine := faultLine) (line := line) (words := words) (labels := labels) (targets := targets) (wrong := wrong) (unfit := unfit) (text := text) (code_ := code_) (label := label) (labelWord := labelWord) (target := target) (targetWord := targetWord) (targetLine := targetLine) (store := store) (common := common) (low := low) (high := high) (register := register) (address := address) (status := status) (did := did) (ready := ready) (timer := timer) (trace := trace) (by first | assumption | exact q_31 _) hz1) rfl rfl rfl rfl rfl rfl rfl rfl ?_
  replace hres : (r_0, r_1, r_2, r_3, r_4, r_5, r_6) = f_X11_jump_c48 register address did ready trace z1_0 z1_1 := hres.trans (by rw [← hz1])
  rw [f_X11_jump_c48] at hres
  cases hres
  exact G.ireturn (pc := 51) dm_X11_jump_51 rfl rfl rfl
def f_X11_jump_c157 (status : Nat → Int32) (z2_0 : (Nat → Int32)) (z3_0 : Int32) (z3_1 : (Nat → Int32)) (z3_2 : (Nat → Int32)) (z3_3 : (Nat → Int32)) (z3_4 : (Nat → Int32)) : Int32 × (Nat → Int32) × (Nat → Int32) × (Nat → Int32) × (Nat → Int32) × (Nat → Int32) × (Nat → Int32) := (z3_0, z2_0, z3_1, status, z3_2, z3_3, z3_4)
def f_X11_jump_c144 (now : Int32) (address : Nat → Int32) (status : Nat → Int32) (did : Nat → Int32) (ready : Nat → Int32) (trace : Nat → Int32) (l1 : Int32) (s0 : Int32) (z2_0 : (Nat → Int32)) : Int32 × (Nat → Int32) × (Nat → Int32) × (Nat → Int32) × (Nat → Int32) × (Nat → Int32) × (Nat → Int32) := (f_X11_jump_c157 status z2_0 (f_X11_done l1 s0 (now + (4 : Int32)) now address did ready trace).1 (f_X11_done l1 s0 (now + (4 : Int32)) now address did ready trace).2.1 (f_X11_done l1 s0 (now + (4 : Int32)) now address did ready trace).2.2.1 (f_X11_done l1 s0 (now + (4 : Int32)) now address did ready trace).2.2.2.1 (f_X11_done l1 s0 (now + (4 : Int32)) now address did ready trace).2.2.2.2)
def f_X11_jump_130 (now : Int32) (register : Nat → Int32) (address : Nat → Int32) (status : Nat → Int32) (did : Nat → Int32) (ready : Nat → Int32) (trace : Nat → Int32) (l1 : Int32) (l4 : Int32) (s0 : Int32) : Int32 × (Nat → Int32) × (Nat → Int32) × (Nat → Int32) × (Nat → Int32) × (Nat → Int32) × (Nat → Int32) := (f_X11_jump_c144 now address status did ready trace l1 s0 (f_X11_set l1 l4 ((address (Int32.toNatClampNeg l1)) + (4 : Int32)) register))
set_option maxRecDepth 20000 in
theorem j_X11_jump_130 {l1 : Int32} {l4 : Int32} {s0 : Int32} {refusal : Int32} {wheel : Int32} {now : Int32} {length : Int32} {at_ : Int32} {fault : Int32} {faultLine : Int32} {line : Int32} {words : Int32} {labels : Int32} {targets : Int32} {wrong : Int32} {unfit : Int32} {text : Nat → Int32} {code_ : Nat → Int32} {label : Nat → Int64} {labelWord : Nat → Int32} {target : Nat → Int64} {targetWord : Nat → Int32} {targetLine : Nat → Int32} {store : Nat → Int32} {common : Nat → Int32} {low : Nat → Int32} {high : Nat → Int32} {register : Nat → Int32} {address : Nat → Int32} {status : Nat → Int32} {did : Nat → Int32} {ready : Nat → Int32} {timer : Nat → Int32} {trace : Nat → Int32} {r_0 : Int32} {r_1 : (Nat → Int32)} {r_2 : (Nat → Int32)} {r_3 : (Nat → Int32)} {r_4 : (Nat → Int32)} {r_5 : (Nat → Int32)} {r_6 : (Nat → Int32)} (hres : (r_0, r_1, r_2, r_3, r_4, r_5, r_6) = (f_X11_jump_130 now register address status did ready trace l1 l4 s0)) (ht : 0 ≤ l1.toInt ∧ l1.toInt < 4) (hdid : ∀ j, j < 4 → 0 ≤ (did j).toInt) (h4 : 0 ≤ l4.toInt ∧ l4.toInt < 16) : G M_X11_jump 0 0 130 [(0, .ref 0), (1, .int l1), (4, .int l4)] [.int s0] (w_M refusal wheel now length at_ fault faultLine line words labels targets wrong unfit text code_ label labelWord target targetWord targetLine store common low high register address status did ready timer trace) (some (.int r_0)) (w_M refusal wheel now length at_ fault faultLine line words labels targets wrong unfit text code_ label labelWord target targetWord targetLine store common low high r_1 r_2 r_3 r_4 r_5 timer r_6) := by
  rw [f_X11_jump_130] at hres
  refine G.istore (pc := 130) (lv1 := [(7, .int s0), (0, .ref 0), (1, .int l1), (4, .int l4)]) dm_X11_jump_130 rfl rfl ?_
  refine G.aload_n (pc := 132) dm_X11_jump_132 rfl ?_
  refine G.iload_n (pc := 133) dm_X11_jump_133 rfl ?_
  refine G.iload (pc := 134) dm_X11_jump_134 rfl ?_
  refine G.aload_n (pc := 136) dm_X11_jump_136 rfl ?_
  refine G.getfield (pc := 137) dm_X11_jump_137 gf_X11_48 rfl rfl ?_
  refine G.iload_n (pc := 140) dm_X11_jump_140 rfl ?_
  refine G.iaload (pc := 141) dm_X11_jump_141 rfl (q_t ht) ?_
  refine G.iconst (pc := 142) (v := (4 : Int32)) dm_X11_jump_142 qi_4 ?_
  refine G.iadd (pc := 143) dm_X11_jump_143 ?_
  obtain ⟨z2_0, hz2⟩ := g_ex1 (f_X11_set l1 l4 ((address (Int32.toNatClampNeg l1)) + (4 : Int32)) register)
  refine G.callV0 (pc := 144) (rest := []) (st1 := []) dm_X11_jump_144 gc_X11_jump_313 (k_X11_set (t := l1) (r := l4) (v := ((address (Int32.toNatClampNeg l1)) + (4 : Int32))) (refusal := refusal) (wheel := wheel) (now := now) (length := length) (at_ := at_) (fault := fault) (faultLine := faultLine) (line := line) (words := words) (labels := labels) (targets := targets) (wrong := wrong) (unfit := unfit) (text := text) (code_ := code_) (label := label) (labelWord := labelWord) (target := target) (targetWord := targetWord) (targetLine := targetLine) (store := store) (common := common) (low := low) (high := high) (register := register) (address := address) (status := status) (did := did) (ready := ready) (timer := timer) (trace := trace) (by first | assumption | exact q_31 _) (by first | assumption | exact q_31 _) hz2) rfl rfl rfl rfl rfl rfl rfl rfl ?_
  replace hres : (r_0, r_1, r_2, r_3, r_4, r_5, r_6) = f_X11_jump_c144 now address status did ready trace l1 s0 z2_0 := hres.trans (by rw [← hz2])
  rw [f_X11_jump_c144] at hres
  refine G.aload_n (pc := 147) dm_X11_jump_147 rfl ?_
  refine G.iload_n (pc := 148) dm_X11_jump_148 rfl ?_
  refine G.iload (pc := 149) dm_X11_jump_149 rfl ?_
  refine G.aload_n (pc := 151) dm_X11_jump_151 rfl ?_
  refine G.getfield (pc := 152) dm_X11_jump_152 gf_X11_291 rfl rfl ?_
  refine G.iconst (pc := 155) (v := (4 : Int32)) dm_X11_jump_155 qi_4 ?_
  refine G.iadd (pc := 156) dm_X11_jump_156 ?_
  obtain ⟨z3_0, z3_1, z3_2, z3_3, z3_4, hz3⟩ := g_ex5 (f_X11_done l1 s0 (now + (4 : Int32)) now address did ready trace)
  refine G.callV0 (pc := 157) (rest := []) (st1 := [.int z3_0]) dm_X11_jump_157 gc_X11_jump_319 (k_X11_done (t := l1) (a := s0) (when := (now + (4 : Int32))) (refusal := refusal) (wheel := wheel) (now := now) (length := length) (at_ := at_) (fault := fault) (faultLine := faultLine) (line := line) (words := words) (labels := labels) (targets := targets) (wrong := wrong) (unfit := unfit) (text := text) (code_ := code_) (label := label) (labelWord := labelWord) (target := target) (targetWord := targetWord) (targetLine := targetLine) (store := store) (common := common) (low := low) (high := high) (register := z2_0) (address := address) (status := status) (did := did) (ready := ready) (timer := timer) (trace := trace) (by first | assumption | exact q_31 _) (by first | assumption | exact q_31 _) hz3) rfl rfl rfl rfl rfl rfl rfl rfl ?_
  replace hres : (r_0, r_1, r_2, r_3, r_4, r_5, r_6) = f_X11_jump_c157 status z2_0 z3_0 z3_1 z3_2 z3_3 z3_4 := hres.trans (by rw [← hz3])
  rw [f_X11_jump_c157] at hres
  cases hres
  exact G.ireturn (pc := 160) dm_X11_jump_160 rfl rfl rfl
def f_X11_jump_52 (now : Int32) (register : Nat → Int32) (address : Nat → Int32) (status : Nat → Int32) (did : Nat → Int32) (ready : Nat → Int32) (trace : Nat → Int32) (l1 : Int32) (l2 : Int32) (l3 : Int32) (l4 : Int32) (l5 : Int32) : Int32 × (Nat → Int32) × (Nat → Int32) × (Nat → Int32) × (Nat → Int32) × (Nat → Int32) × (Nat → Int32) := (if l3 = 0 then (f_X11_jump_130 now register address status did ready trace l1 l4 ((address (Int32.toNatClampNeg l1)) + ((((((l2 >>> ((21 : Int32) &&& 31)) &&& (1023 : Int32)) <<< ((1 : Int32) &&& 31)) ||| (((l2 >>> ((20 : Int32) &&& 31)) &&& (1 : Int32)) <<< ((11 : Int32) &&& 31))) ||| (((l2 >>> ((12 : Int32) &&& 31)) &&& (255 : Int32)) <<< ((12 : Int32) &&& 31))) ||| ((l2 >>> ((31 : Int32) &&& 31)) <<< ((20 : Int32) &&& 31))))) else (f_X11_jump_130 now register address status did ready trace l1 l4 (((register (Int32.toNatClampNeg (((16 : Int32) * l1) + l5))) + (l2 >>> ((20 : Int32) &&& 31))) &&& (-2 : Int32))))
set_option maxRecDepth 20000 in
theorem j_X11_jump_52 {l1 : Int32} {l2 : Int32} {l3 : Int32} {l4 : Int32} {l5 : Int32} {refusal : Int32} {wheel : Int32} {now : Int32} {length : Int32} {at_ : Int32} {fault : Int32} {faultLine : Int32} {line : Int32} {words : Int32} {labels : Int32} {targets : Int32} {wrong : Int32} {unfit : Int32} {text : Nat → Int32} {code_ : Nat → Int32} {label : Nat → Int64} {labelWord : Nat → Int32} {target : Nat → Int64} {targetWord : Nat → Int32} {targetLine : Nat → Int32} {store : Nat → Int32} {common : Nat → Int32} {low : Nat → Int32} {high : Nat → Int32} {register : Nat → Int32} {address : Nat → Int32} {status : Nat → Int32} {did : Nat → Int32} {ready : Nat → Int32} {timer : Nat → Int32} {trace : Nat → Int32} {r_0 : Int32} {r_1 : (Nat → Int32)} {r_2 : (Nat → Int32)} {r_3 : (Nat → Int32)} {r_4 : (Nat → Int32)} {r_5 : (Nat → Int32)} {r_6 : (Nat → Int32)} (hres : (r_0, r_1, r_2, r_3, r_4, r_5, r_6) = (f_X11_jump_52 now register address status did ready trace l1 l2 l3 l4 l5)) (ht : 0 ≤ l1.toInt ∧ l1.toInt < 4) (hdid : ∀ j, j < 4 → 0 ≤ (did j).toInt) (h4 : 0 ≤ l4.toInt ∧ l4.toInt < 16) (h5 : 0 ≤ l5.toInt ∧ l5.toInt < 32 ∧ (¬ l3 = 0 → l5.toInt < 16)) : G M_X11_jump 0 0 52 [(0, .ref 0), (1, .int l1), (2, .int l2), (3, .int l3), (4, .int l4), (5, .int l5)] [] (w_M refusal wheel now length at_ fault faultLine line words labels targets wrong unfit text code_ label labelWord target targetWord targetLine store common low high register address status did ready timer trace) (some (.int r_0)) (w_M refusal wheel now length at_ fault faultLine line words labels targets wrong unfit text code_ label labelWord target targetWord targetLine store common low high r_1 r_2 r_3 r_4 r_5 timer r_6) := by
  rw [f_X11_jump_52] at hres
  refine G.iload_n (pc := 52) dm_X11_jump_52 rfl ?_
  refine G.bipush (pc := 53) (v := (21 : Int32)) dm_X11_jump_53 qb_21 ?_
  refine G.ishr (pc := 55) dm_X11_jump_55 ?_
  refine G.sipush (pc := 56) (v := (1023 : Int32)) dm_X11_jump_56 qs_1023 ?_
  refine G.iand (pc := 59) dm_X11_jump_59 ?_
  refine G.iconst (pc := 60) (v := (1 : Int32)) dm_X11_jump_60 qi_1 ?_
  refine G.ishl (pc := 61) dm_X11_jump_61 ?_
  refine G.iload_n (pc := 62) dm_X11_jump_62 rfl ?_
  refine G.bipush (pc := 63) (v := (20 : Int32)) dm_X11_jump_63 qb_20 ?_
  refine G.ishr (pc := 65) dm_X11_jump_65 ?_
  refine G.iconst (pc := 66) (v := (1 : Int32)) dm_X11_jump_66 qi_1 ?_
  refine G.iand (pc := 67) dm_X11_jump_67 ?_
  refine G.bipush (pc := 68) (v := (11 : Int32)) dm_X11_jump_68 qb_11 ?_
  refine G.ishl (pc := 70) dm_X11_jump_70 ?_
  refine G.ior (pc := 71) dm_X11_jump_71 ?_
  refine G.iload_n (pc := 72) dm_X11_jump_72 rfl ?_
  refine G.bipush (pc := 73) (v := (12 : Int32)) dm_X11_jump_73 qb_12 ?_
  refine G.ishr (pc := 75) dm_X11_jump_75 ?_
  refine G.sipush (pc := 76) (v := (255 : Int32)) dm_X11_jump_76 qs_255 ?_
  refine G.iand (pc := 79) dm_X11_jump_79 ?_
  refine G.bipush (pc := 80) (v := (12 : Int32)) dm_X11_jump_80 qb_12 ?_
  refine G.ishl (pc := 82) dm_X11_jump_82 ?_
  refine G.ior (pc := 83) dm_X11_jump_83 ?_
  refine G.iload_n (pc := 84) dm_X11_jump_84 rfl ?_
  refine G.bipush (pc := 85) (v := (31 : Int32)) dm_X11_jump_85 qb_31 ?_
  refine G.ishr (pc := 87) dm_X11_jump_87 ?_
  refine G.bipush (pc := 88) (v := (20 : Int32)) dm_X11_jump_88 qb_20 ?_
  refine G.ishl (pc := 90) dm_X11_jump_90 ?_
  refine G.ior (pc := 91) dm_X11_jump_91 ?_
  refine G.istore (pc := 92) (lv1 := [(6, .int ((((((l2 >>> ((21 : Int32) &&& 31)) &&& (1023 : Int32)) <<< ((1 : Int32) &&& 31)) ||| (((l2 >>> ((20 : Int32) &&& 31)) &&& (1 : Int32)) <<< ((11 : Int32) &&& 31))) ||| (((l2 >>> ((12 : Int32) &&& 31)) &&& (255 : Int32)) <<< ((12 : Int32) &&& 31))) ||| ((l2 >>> ((31 : Int32) &&& 31)) <<< ((20 : Int32) &&& 31)))), (0, .ref 0), (1, .int l1), (2, .int l2), (3, .int l3), (4, .int l4), (5, .int l5)]) dm_X11_jump_92 rfl rfl ?_
  refine G.iload_n (pc := 94) dm_X11_jump_94 rfl ?_
  refine G.if_eq (pc := 95) (tgt := 121) dm_X11_jump_95 (by decide) (fun c95 => ?_) (fun c95 => ?_)
  · rw [if_pos c95] at hres
    refine G.aload_n (pc := 121) dm_X11_jump_121 rfl ?_
    refine G.getfield (pc := 122) dm_X11_jump_122 gf_X11_48 rfl rfl ?_
    refine G.iload_n (pc := 125) dm_X11_jump_125 rfl ?_
    refine G.iaload (pc := 126) dm_X11_jump_126 rfl (q_t ht) ?_
    refine G.iload (pc := 127) dm_X11_jump_127 rfl ?_
    refine G.iadd (pc := 129) dm_X11_jump_129 ?_
    refine G.lvp [1, 2, 5] rfl ?_
    exact j_X11_jump_130 hres (by first | assumption | exact q_31 _) (by first | assumption | exact q_31 _) (by first | assumption | exact q_31 _)
  · rw [if_neg c95] at hres
    refine G.aload_n (pc := 98) dm_X11_jump_98 rfl ?_
    refine G.getfield (pc := 99) dm_X11_jump_99 gf_X11_45 rfl rfl ?_
    refine G.bipush (pc := 102) (v := (16 : Int32)) dm_X11_jump_102 qb_16 ?_
    refine G.iload_n (pc := 104) dm_X11_jump_104 rfl ?_
    refine G.imul (pc := 105) dm_X11_jump_105 ?_
    refine G.iload (pc := 106) dm_X11_jump_106 rfl ?_
    refine G.iadd (pc := 108) dm_X11_jump_108 ?_
    refine G.iaload (pc := 109) dm_X11_jump_109 rfl (q_i16 ht ⟨h5.1, h5.2.2 c95⟩) ?_
    refine G.iload_n (pc := 110) dm_X11_jump_110 rfl ?_
    refine G.bipush (pc := 111) (v := (20 : Int32)) dm_X11_jump_111 qb_20 ?_
    refine G.ishr (pc := 113) dm_X11_jump_113 ?_
    refine G.iadd (pc := 114) dm_X11_jump_114 ?_
    refine G.bipush (pc := 115) (v := (-2 : Int32)) dm_X11_jump_115 qb_m2 ?_
    refine G.iand (pc := 117) dm_X11_jump_117 ?_
    refine G.goto (pc := 118) (tgt := 130) dm_X11_jump_118 (by decide) ?_
    refine G.lvp [1, 2, 5] rfl ?_
    exact j_X11_jump_130 hres (by first | assumption | exact q_31 _) (by first | assumption | exact q_31 _) (by first | assumption | exact q_31 _)
def f_X11_jump (t : Int32) (w : Int32) (far : Int32) (now : Int32) (register : Nat → Int32) (address : Nat → Int32) (status : Nat → Int32) (did : Nat → Int32) (ready : Nat → Int32) (trace : Nat → Int32) : Int32 × (Nat → Int32) × (Nat → Int32) × (Nat → Int32) × (Nat → Int32) × (Nat → Int32) × (Nat → Int32) := (if (15 : Int32) < ((w >>> ((7 : Int32) &&& 31)) &&& (31 : Int32)) then (f_X11_jump_46 register address status did ready trace t) else (if far = 0 then (f_X11_jump_52 now register address status did ready trace t w far ((w >>> ((7 : Int32) &&& 31)) &&& (31 : Int32)) ((w >>> ((15 : Int32) &&& 31)) &&& (31 : Int32))) else (if (15 : Int32) < ((w >>> ((15 : Int32) &&& 31)) &&& (31 : Int32)) then (f_X11_jump_46 register address status did ready trace t) else (if ((w >>> ((12 : Int32) &&& 31)) &&& (7 : Int32)) = 0 then (f_X11_jump_52 now register address status did ready trace t w far ((w >>> ((7 : Int32) &&& 31)) &&& (31 : Int32)) ((w >>> ((15 : Int32) &&& 31)) &&& (31 : Int32))) else (f_X11_jump_46 register address status did ready trace t)))))
set_option maxRecDepth 20000 in
theorem k_X11_jump {t : Int32} {w : Int32} {far : Int32} {refusal : Int32} {wheel : Int32} {now : Int32} {length : Int32} {at_ : Int32} {fault : Int32} {faultLine : Int32} {line : Int32} {words : Int32} {labels : Int32} {targets : Int32} {wrong : Int32} {unfit : Int32} {text : Nat → Int32} {code_ : Nat → Int32} {label : Nat → Int64} {labelWord : Nat → Int32} {target : Nat → Int64} {targetWord : Nat → Int32} {targetLine : Nat → Int32} {store : Nat → Int32} {common : Nat → Int32} {low : Nat → Int32} {high : Nat → Int32} {register : Nat → Int32} {address : Nat → Int32} {status : Nat → Int32} {did : Nat → Int32} {ready : Nat → Int32} {timer : Nat → Int32} {trace : Nat → Int32} (ht : 0 ≤ t.toInt ∧ t.toInt < 4) (hdid : ∀ j, j < 4 → 0 ≤ (did j).toInt) {r_0 : Int32} {r_1 : (Nat → Int32)} {r_2 : (Nat → Int32)} {r_3 : (Nat → Int32)} {r_4 : (Nat → Int32)} {r_5 : (Nat → Int32)} {r_6 : (Nat → Int32)} (hres : (r_0, r_1, r_2, r_3, r_4, r_5, r_6) = f_X11_jump t w far now register address status did ready trace) : K M_X11_jump yX11_jump [.ref 0, .int t, .int w, .int far] (w_M refusal wheel now length at_ fault faultLine line words labels targets wrong unfit text code_ label labelWord target targetWord targetLine store common low high register address status did ready timer trace) (some (.int r_0)) (w_M refusal wheel now length at_ fault faultLine line words labels targets wrong unfit text code_ label labelWord target targetWord targetLine store common low high r_1 r_2 r_3 r_4 r_5 timer r_6) := by
  refine K.of (lv := [(0, .ref 0), (1, .int t), (2, .int w), (3, .int far)]) (by decide +kernel) rfl rfl rfl ?_
  rw [f_X11_jump] at hres
  refine G.iload_n (pc := 0) dm_X11_jump_0 rfl ?_
  refine G.bipush (pc := 1) (v := (7 : Int32)) dm_X11_jump_1 qb_7 ?_
  refine G.ishr (pc := 3) dm_X11_jump_3 ?_
  refine G.bipush (pc := 4) (v := (31 : Int32)) dm_X11_jump_4 qb_31 ?_
  refine G.iand (pc := 6) dm_X11_jump_6 ?_
  refine G.istore (pc := 7) (lv1 := [(4, .int ((w >>> ((7 : Int32) &&& 31)) &&& (31 : Int32))), (0, .ref 0), (1, .int t), (2, .int w), (3, .int far)]) dm_X11_jump_7 rfl rfl ?_
  refine G.iload_n (pc := 9) dm_X11_jump_9 rfl ?_
  refine G.bipush (pc := 10) (v := (15 : Int32)) dm_X11_jump_10 qb_15 ?_
  refine G.ishr (pc := 12) dm_X11_jump_12 ?_
  refine G.bipush (pc := 13) (v := (31 : Int32)) dm_X11_jump_13 qb_31 ?_
  refine G.iand (pc := 15) dm_X11_jump_15 ?_
  refine G.istore (pc := 16) (lv1 := [(5, .int ((w >>> ((15 : Int32) &&& 31)) &&& (31 : Int32))), (4, .int ((w >>> ((7 : Int32) &&& 31)) &&& (31 : Int32))), (0, .ref 0), (1, .int t), (2, .int w), (3, .int far)]) dm_X11_jump_16 rfl rfl ?_
  refine G.iload (pc := 18) dm_X11_jump_18 rfl ?_
  refine G.bipush (pc := 20) (v := (15 : Int32)) dm_X11_jump_20 qb_15 ?_
  refine G.icmp_gt (pc := 22) (tgt := 46) dm_X11_jump_22 (by decide) (fun c22 => ?_) (fun c22 => ?_)
  · rw [if_pos c22] at hres
    refine G.lvp [2, 3] rfl ?_
    exact j_X11_jump_46 hres (by first | assumption | exact q_31 _)
  · rw [if_neg c22] at hres
    refine G.iload_n (pc := 25) dm_X11_jump_25 rfl ?_
    refine G.if_eq (pc := 26) (tgt := 52) dm_X11_jump_26 (by decide) (fun c26 => ?_) (fun c26 => ?_)
    · rw [if_pos c26] at hres
      refine G.lvp [2, 3, 4, 5, 1, 0] rfl ?_
      exact j_X11_jump_52 hres ht hdid (q_16 (q_31 _) c22) ⟨(q_31 _).1, (q_31 _).2, fun h => absurd c26 h⟩
    · rw [if_neg c26] at hres
      refine G.iload (pc := 29) dm_X11_jump_29 rfl ?_
      refine G.bipush (pc := 31) (v := (15 : Int32)) dm_X11_jump_31 qb_15 ?_
      refine G.icmp_gt (pc := 33) (tgt := 46) dm_X11_jump_33 (by decide) (fun c33 => ?_) (fun c33 => ?_)
      · rw [if_pos c33] at hres
        refine G.lvp [2, 3] rfl ?_
        exact j_X11_jump_46 hres (by first | assumption | exact q_31 _)
      · rw [if_neg c33] at hres
        refine G.iload_n (pc := 36) dm_X11_jump_36 rfl ?_
        refine G.bipush (pc := 37) (v := (12 : Int32)) dm_X11_jump_37 qb_12 ?_
        refine G.ishr (pc := 39) dm_X11_jump_39 ?_
        refine G.bipush (pc := 40) (v := (7 : Int32)) dm_X11_jump_40 qb_7 ?_
        refine G.iand (pc := 42) dm_X11_jump_42 ?_
        refine G.if_eq (pc := 43) (tgt := 52) dm_X11_jump_43 (by decide) (fun c43 => ?_) (fun c43 => ?_)
        · rw [if_pos c43] at hres
          refine G.lvp [2, 3, 4, 5, 1, 0] rfl ?_
          exact j_X11_jump_52 hres ht hdid (q_16 (q_31 _) c22) ⟨(q_31 _).1, (q_31 _).2, fun _ => (q_16 (q_31 _) c33).2⟩
        · rw [if_neg c43] at hres
          refine G.lvp [2, 3] rfl ?_
          exact j_X11_jump_46 hres (by first | assumption | exact q_31 _)
abbrev M_X11_branch : g_M := (cX11_branch, 8, RX11, (some .int), { frames := 2, cells := 0, slots := 0, locals := 44 }, 0, 0)
theorem dm_X11_branch_0 : decode M_X11_branch.1 0 = .ok (.iload_n 2, 1) := by decide +kernel
theorem dm_X11_branch_1 : decode M_X11_branch.1 1 = .ok (.bipush 12, 2) := by decide +kernel
theorem dm_X11_branch_3 : decode M_X11_branch.1 3 = .ok (.ishr, 1) := by decide +kernel
theorem dm_X11_branch_4 : decode M_X11_branch.1 4 = .ok (.bipush 7, 2) := by decide +kernel
theorem dm_X11_branch_6 : decode M_X11_branch.1 6 = .ok (.iand, 1) := by decide +kernel
theorem dm_X11_branch_7 : decode M_X11_branch.1 7 = .ok (.istore_n 3, 1) := by decide +kernel
theorem dm_X11_branch_8 : decode M_X11_branch.1 8 = .ok (.iload_n 2, 1) := by decide +kernel
theorem dm_X11_branch_9 : decode M_X11_branch.1 9 = .ok (.bipush 15, 2) := by decide +kernel
theorem dm_X11_branch_11 : decode M_X11_branch.1 11 = .ok (.ishr, 1) := by decide +kernel
theorem dm_X11_branch_12 : decode M_X11_branch.1 12 = .ok (.bipush 31, 2) := by decide +kernel
theorem dm_X11_branch_14 : decode M_X11_branch.1 14 = .ok (.iand, 1) := by decide +kernel
theorem dm_X11_branch_15 : decode M_X11_branch.1 15 = .ok (.istore 4, 2) := by decide +kernel
theorem dm_X11_branch_17 : decode M_X11_branch.1 17 = .ok (.iload_n 2, 1) := by decide +kernel
theorem dm_X11_branch_18 : decode M_X11_branch.1 18 = .ok (.bipush 20, 2) := by decide +kernel
theorem dm_X11_branch_20 : decode M_X11_branch.1 20 = .ok (.ishr, 1) := by decide +kernel
theorem dm_X11_branch_21 : decode M_X11_branch.1 21 = .ok (.bipush 31, 2) := by decide +kernel
theorem dm_X11_branch_23 : decode M_X11_branch.1 23 = .ok (.iand, 1) := by decide +kernel
theorem dm_X11_branch_24 : decode M_X11_branch.1 24 = .ok (.istore 5, 2) := by decide +kernel
theorem dm_X11_branch_26 : decode M_X11_branch.1 26 = .ok (.iload_n 3, 1) := by decide +kernel
theorem dm_X11_branch_27 : decode M_X11_branch.1 27 = .ok (.iconst 2, 1) := by decide +kernel
theorem dm_X11_branch_28 : decode M_X11_branch.1 28 = .ok (.if_icmp .eq 22, 3) := by decide +kernel
theorem dm_X11_branch_31 : decode M_X11_branch.1 31 = .ok (.iload_n 3, 1) := by decide +kernel
theorem dm_X11_branch_32 : decode M_X11_branch.1 32 = .ok (.iconst 3, 1) := by decide +kernel
theorem dm_X11_branch_33 : decode M_X11_branch.1 33 = .ok (.if_icmp .eq 17, 3) := by decide +kernel
theorem dm_X11_branch_36 : decode M_X11_branch.1 36 = .ok (.iload 4, 2) := by decide +kernel
theorem dm_X11_branch_38 : decode M_X11_branch.1 38 = .ok (.bipush 15, 2) := by decide +kernel
theorem dm_X11_branch_40 : decode M_X11_branch.1 40 = .ok (.if_icmp .gt 10, 3) := by decide +kernel
theorem dm_X11_branch_43 : decode M_X11_branch.1 43 = .ok (.iload 5, 2) := by decide +kernel
theorem dm_X11_branch_45 : decode M_X11_branch.1 45 = .ok (.bipush 15, 2) := by decide +kernel
theorem dm_X11_branch_47 : decode M_X11_branch.1 47 = .ok (.if_icmp .le 9, 3) := by decide +kernel
theorem dm_X11_branch_50 : decode M_X11_branch.1 50 = .ok (.aload_n 0, 1) := by decide +kernel
theorem dm_X11_branch_51 : decode M_X11_branch.1 51 = .ok (.iload_n 1, 1) := by decide +kernel
theorem dm_X11_branch_52 : decode M_X11_branch.1 52 = .ok (.invokevirtual 299, 3) := by decide +kernel
theorem dm_X11_branch_55 : decode M_X11_branch.1 55 = .ok (.ireturn, 1) := by decide +kernel
theorem dm_X11_branch_56 : decode M_X11_branch.1 56 = .ok (.iload_n 2, 1) := by decide +kernel
theorem dm_X11_branch_57 : decode M_X11_branch.1 57 = .ok (.bipush 8, 2) := by decide +kernel
theorem dm_X11_branch_59 : decode M_X11_branch.1 59 = .ok (.ishr, 1) := by decide +kernel
theorem dm_X11_branch_60 : decode M_X11_branch.1 60 = .ok (.bipush 15, 2) := by decide +kernel
theorem dm_X11_branch_62 : decode M_X11_branch.1 62 = .ok (.iand, 1) := by decide +kernel
theorem dm_X11_branch_63 : decode M_X11_branch.1 63 = .ok (.iconst 1, 1) := by decide +kernel
theorem dm_X11_branch_64 : decode M_X11_branch.1 64 = .ok (.ishl, 1) := by decide +kernel
theorem dm_X11_branch_65 : decode M_X11_branch.1 65 = .ok (.iload_n 2, 1) := by decide +kernel
theorem dm_X11_branch_66 : decode M_X11_branch.1 66 = .ok (.bipush 25, 2) := by decide +kernel
theorem dm_X11_branch_68 : decode M_X11_branch.1 68 = .ok (.ishr, 1) := by decide +kernel
theorem dm_X11_branch_69 : decode M_X11_branch.1 69 = .ok (.bipush 63, 2) := by decide +kernel
theorem dm_X11_branch_71 : decode M_X11_branch.1 71 = .ok (.iand, 1) := by decide +kernel
theorem dm_X11_branch_72 : decode M_X11_branch.1 72 = .ok (.iconst 5, 1) := by decide +kernel
theorem dm_X11_branch_73 : decode M_X11_branch.1 73 = .ok (.ishl, 1) := by decide +kernel
theorem dm_X11_branch_74 : decode M_X11_branch.1 74 = .ok (.ior, 1) := by decide +kernel
theorem dm_X11_branch_75 : decode M_X11_branch.1 75 = .ok (.iload_n 2, 1) := by decide +kernel
theorem dm_X11_branch_76 : decode M_X11_branch.1 76 = .ok (.bipush 7, 2) := by decide +kernel
theorem dm_X11_branch_78 : decode M_X11_branch.1 78 = .ok (.ishr, 1) := by decide +kernel
theorem dm_X11_branch_79 : decode M_X11_branch.1 79 = .ok (.iconst 1, 1) := by decide +kernel
theorem dm_X11_branch_80 : decode M_X11_branch.1 80 = .ok (.iand, 1) := by decide +kernel
theorem dm_X11_branch_81 : decode M_X11_branch.1 81 = .ok (.bipush 11, 2) := by decide +kernel
theorem dm_X11_branch_83 : decode M_X11_branch.1 83 = .ok (.ishl, 1) := by decide +kernel
theorem dm_X11_branch_84 : decode M_X11_branch.1 84 = .ok (.ior, 1) := by decide +kernel
theorem dm_X11_branch_85 : decode M_X11_branch.1 85 = .ok (.iload_n 2, 1) := by decide +kernel
theorem dm_X11_branch_86 : decode M_X11_branch.1 86 = .ok (.bipush 31, 2) := by decide +kernel
theorem dm_X11_branch_88 : decode M_X11_branch.1 88 = .ok (.ishr, 1) := by decide +kernel
theorem dm_X11_branch_89 : decode M_X11_branch.1 89 = .ok (.bipush 12, 2) := by decide +kernel
theorem dm_X11_branch_91 : decode M_X11_branch.1 91 = .ok (.ishl, 1) := by decide +kernel
theorem dm_X11_branch_92 : decode M_X11_branch.1 92 = .ok (.ior, 1) := by decide +kernel
theorem dm_X11_branch_93 : decode M_X11_branch.1 93 = .ok (.istore 6, 2) := by decide +kernel
theorem dm_X11_branch_95 : decode M_X11_branch.1 95 = .ok (.iload_n 3, 1) := by decide +kernel
theorem dm_X11_branch_96 : decode M_X11_branch.1 96 = .ok (.aload_n 0, 1) := by decide +kernel
theorem dm_X11_branch_97 : decode M_X11_branch.1 97 = .ok (.getfield 45, 3) := by decide +kernel
theorem dm_X11_branch_100 : decode M_X11_branch.1 100 = .ok (.bipush 16, 2) := by decide +kernel
theorem dm_X11_branch_102 : decode M_X11_branch.1 102 = .ok (.iload_n 1, 1) := by decide +kernel
theorem dm_X11_branch_103 : decode M_X11_branch.1 103 = .ok (.imul, 1) := by decide +kernel
theorem dm_X11_branch_104 : decode M_X11_branch.1 104 = .ok (.iload 4, 2) := by decide +kernel
theorem dm_X11_branch_106 : decode M_X11_branch.1 106 = .ok (.iadd, 1) := by decide +kernel
theorem dm_X11_branch_107 : decode M_X11_branch.1 107 = .ok (.iaload, 1) := by decide +kernel
theorem dm_X11_branch_108 : decode M_X11_branch.1 108 = .ok (.aload_n 0, 1) := by decide +kernel
theorem dm_X11_branch_109 : decode M_X11_branch.1 109 = .ok (.getfield 45, 3) := by decide +kernel
theorem dm_X11_branch_112 : decode M_X11_branch.1 112 = .ok (.bipush 16, 2) := by decide +kernel
theorem dm_X11_branch_114 : decode M_X11_branch.1 114 = .ok (.iload_n 1, 1) := by decide +kernel
theorem dm_X11_branch_115 : decode M_X11_branch.1 115 = .ok (.imul, 1) := by decide +kernel
theorem dm_X11_branch_116 : decode M_X11_branch.1 116 = .ok (.iload 5, 2) := by decide +kernel
theorem dm_X11_branch_118 : decode M_X11_branch.1 118 = .ok (.iadd, 1) := by decide +kernel
theorem dm_X11_branch_119 : decode M_X11_branch.1 119 = .ok (.iaload, 1) := by decide +kernel
theorem dm_X11_branch_120 : decode M_X11_branch.1 120 = .ok (.invokestatic 327, 3) := by decide +kernel
theorem dm_X11_branch_123 : decode M_X11_branch.1 123 = .ok (.istore 7, 2) := by decide +kernel
theorem dm_X11_branch_125 : decode M_X11_branch.1 125 = .ok (.aload_n 0, 1) := by decide +kernel
theorem dm_X11_branch_126 : decode M_X11_branch.1 126 = .ok (.iload_n 1, 1) := by decide +kernel
theorem dm_X11_branch_127 : decode M_X11_branch.1 127 = .ok (.aload_n 0, 1) := by decide +kernel
theorem dm_X11_branch_128 : decode M_X11_branch.1 128 = .ok (.getfield 48, 3) := by decide +kernel
theorem dm_X11_branch_131 : decode M_X11_branch.1 131 = .ok (.iload_n 1, 1) := by decide +kernel
theorem dm_X11_branch_132 : decode M_X11_branch.1 132 = .ok (.iaload, 1) := by decide +kernel
theorem dm_X11_branch_133 : decode M_X11_branch.1 133 = .ok (.iload 7, 2) := by decide +kernel
theorem dm_X11_branch_135 : decode M_X11_branch.1 135 = .ok (.ifCond .eq 8, 3) := by decide +kernel
theorem dm_X11_branch_138 : decode M_X11_branch.1 138 = .ok (.iload 6, 2) := by decide +kernel
theorem dm_X11_branch_140 : decode M_X11_branch.1 140 = .ok (.goto 4, 3) := by decide +kernel
theorem dm_X11_branch_143 : decode M_X11_branch.1 143 = .ok (.iconst 4, 1) := by decide +kernel
theorem dm_X11_branch_144 : decode M_X11_branch.1 144 = .ok (.iadd, 1) := by decide +kernel
theorem dm_X11_branch_145 : decode M_X11_branch.1 145 = .ok (.aload_n 0, 1) := by decide +kernel
theorem dm_X11_branch_146 : decode M_X11_branch.1 146 = .ok (.getfield 291, 3) := by decide +kernel
theorem dm_X11_branch_149 : decode M_X11_branch.1 149 = .ok (.iconst 4, 1) := by decide +kernel
theorem dm_X11_branch_150 : decode M_X11_branch.1 150 = .ok (.iadd, 1) := by decide +kernel
theorem dm_X11_branch_151 : decode M_X11_branch.1 151 = .ok (.invokevirtual 319, 3) := by decide +kernel
theorem dm_X11_branch_154 : decode M_X11_branch.1 154 = .ok (.ireturn, 1) := by decide +kernel
theorem gc_X11_branch_299 : g_cv M_X11_branch 299 M_X11_stop yX11_stop 1 := ⟨tw773, tw774, tw775, tw5, tw776, ⟨rfl, rfl, rfl, rfl⟩, gd_X11_stop, ⟨by decide, by decide⟩⟩
theorem gc_X11_branch_327 : g_cs M_X11_branch 327 M_X11_goes yX11_goes 3 := ⟨tw793, tw794, tw5, tw795, ⟨rfl, rfl, rfl, rfl⟩, gd_X11_goes, ⟨by decide, by decide⟩⟩
theorem gc_X11_branch_319 : g_cv M_X11_branch 319 M_X11_done yX11_done 3 := ⟨tw781, tw782, tw783, tw5, tw784, ⟨rfl, rfl, rfl, rfl⟩, gd_X11_done, ⟨by decide, by decide⟩⟩
def f_X11_branch_c52 (address : Nat → Int32) (did : Nat → Int32) (ready : Nat → Int32) (trace : Nat → Int32) (z1_0 : Int32) (z1_1 : (Nat → Int32)) : Int32 × (Nat → Int32) × (Nat → Int32) × (Nat → Int32) × (Nat → Int32) × (Nat → Int32) := (z1_0, address, z1_1, did, ready, trace)
def f_X11_branch_50 (address : Nat → Int32) (status : Nat → Int32) (did : Nat → Int32) (ready : Nat → Int32) (trace : Nat → Int32) (l1 : Int32) : Int32 × (Nat → Int32) × (Nat → Int32) × (Nat → Int32) × (Nat → Int32) × (Nat → Int32) := (f_X11_branch_c52 address did ready trace (f_X11_stop l1 status).1 (f_X11_stop l1 status).2)
set_option maxRecDepth 20000 in
theorem j_X11_branch_50 {l1 : Int32} {refusal : Int32} {wheel : Int32} {now : Int32} {length : Int32} {at_ : Int32} {fault : Int32} {faultLine : Int32} {line : Int32} {words : Int32} {labels : Int32} {targets : Int32} {wrong : Int32} {unfit : Int32} {text : Nat → Int32} {code_ : Nat → Int32} {label : Nat → Int64} {labelWord : Nat → Int32} {target : Nat → Int64} {targetWord : Nat → Int32} {targetLine : Nat → Int32} {store : Nat → Int32} {common : Nat → Int32} {low : Nat → Int32} {high : Nat → Int32} {register : Nat → Int32} {address : Nat → Int32} {status : Nat → Int32} {did : Nat → Int32} {ready : Nat → Int32} {timer : Nat → Int32} {trace : Nat → Int32} {r_0 : Int32} {r_1 : (Nat → Int32)} {r_2 : (Nat → Int32)} {r_3 : (Nat → Int32)} {r_4 : (Nat → Int32)} {r_5 : (Nat → Int32)} (hres : (r_0, r_1, r_2, r_3, r_4, r_5) = (f_X11_branch_50 address status did ready trace l1)) (ht : 0 ≤ l1.toInt ∧ l1.toInt < 4) : G M_X11_branch 0 0 50 [(0, .ref 0), (1, .int l1)] [] (w_M refusal wheel now length at_ fault faultLine line words labels targets wrong unfit text code_ label labelWord target targetWord targetLine store common low high register address status did ready timer trace) (some (.int r_0)) (w_M refusal wheel now length at_ fault faultLine line words labels targets wrong unfit text code_ label labelWord target targetWord targetLine store common low high register r_1 r_2 r_3 r_4 timer r_5) := by
  rw [f_X11_branch_50] at hres
  refine G.aload_n (pc := 50) dm_X11_branch_50 rfl ?_
  refine G.iload_n (pc := 51) dm_X11_branch_51 rfl ?_
  obtain ⟨z1_0, z1_1, hz1⟩ := g_ex2 (f_X11_stop l1 status)
  refine G.callV0 (pc := 52) (rest := []) (st1 := [.int z1_0]) dm_X11_branch_52 gc_X11_branch_299 (k_X11_stop (t := l1) (refusal := refusal) (wheel := wheel) (now := now) (length := length) (at_ := at_) (fault := fault) (faultLine := faultLine) (line := line) (words := words) (labels := labels) (targets := targets) (wrong := wrong) (unfit := unfit) (text := text) (code_ := code_) (label := label) (labelWord := labelWord) (target := target) (targetWord := targetWord) (targetLine := targetLine) (store := store) (common := common) (low := low) (high := high) (register := register) (address := address) (status := status) (did := did) (ready := ready) (timer := timer) (trace := trace) (by first | assumption | exact q_31 _) hz1) rfl rfl rfl rfl rfl rfl rfl rfl ?_
  replace hres : (r_0, r_1, r_2, r_3, r_4, r_5) = f_X11_branch_c52 address did ready trace z1_0 z1_1 := hres.trans (by rw [← hz1])
  rw [f_X11_branch_c52] at hres
  cases hres
  exact G.ireturn (pc := 55) dm_X11_branch_55 rfl rfl rfl
def f_X11_branch_c151 (status : Nat → Int32) (z3_0 : Int32) (z3_1 : (Nat → Int32)) (z3_2 : (Nat → Int32)) (z3_3 : (Nat → Int32)) (z3_4 : (Nat → Int32)) : Int32 × (Nat → Int32) × (Nat → Int32) × (Nat → Int32) × (Nat → Int32) × (Nat → Int32) := (z3_0, z3_1, status, z3_2, z3_3, z3_4)
def f_X11_branch_144 (now : Int32) (address : Nat → Int32) (status : Nat → Int32) (did : Nat → Int32) (ready : Nat → Int32) (trace : Nat → Int32) (s1 : Int32) (s2 : Int32) (s3 : Int32) : Int32 × (Nat → Int32) × (Nat → Int32) × (Nat → Int32) × (Nat → Int32) × (Nat → Int32) := (f_X11_branch_c151 status (f_X11_done s1 (s2 + s3) (now + (4 : Int32)) now address did ready trace).1 (f_X11_done s1 (s2 + s3) (now + (4 : Int32)) now address did ready trace).2.1 (f_X11_done s1 (s2 + s3) (now + (4 : Int32)) now address did ready trace).2.2.1 (f_X11_done s1 (s2 + s3) (now + (4 : Int32)) now address did ready trace).2.2.2.1 (f_X11_done s1 (s2 + s3) (now + (4 : Int32)) now address did ready trace).2.2.2.2)
set_option maxRecDepth 20000 in
theorem j_X11_branch_144 {s1 : Int32} {s2 : Int32} {s3 : Int32} {refusal : Int32} {wheel : Int32} {now : Int32} {length : Int32} {at_ : Int32} {fault : Int32} {faultLine : Int32} {line : Int32} {words : Int32} {labels : Int32} {targets : Int32} {wrong : Int32} {unfit : Int32} {text : Nat → Int32} {code_ : Nat → Int32} {label : Nat → Int64} {labelWord : Nat → Int32} {target : Nat → Int64} {targetWord : Nat → Int32} {targetLine : Nat → Int32} {store : Nat → Int32} {common : Nat → Int32} {low : Nat → Int32} {high : Nat → Int32} {register : Nat → Int32} {address : Nat → Int32} {status : Nat → Int32} {did : Nat → Int32} {ready : Nat → Int32} {timer : Nat → Int32} {trace : Nat → Int32} {r_0 : Int32} {r_1 : (Nat → Int32)} {r_2 : (Nat → Int32)} {r_3 : (Nat → Int32)} {r_4 : (Nat → Int32)} {r_5 : (Nat → Int32)} (hres : (r_0, r_1, r_2, r_3, r_4, r_5) = (f_X11_branch_144 now address status did ready trace s1 s2 s3)) (hts : 0 ≤ s1.toInt ∧ s1.toInt < 4) (hdid : ∀ j, j < 4 → 0 ≤ (did j).toInt) : G M_X11_branch 0 0 144 [(0, .ref 0)] [.int s3, .int s2, .int s1, .ref 0] (w_M refusal wheel now length at_ fault faultLine line words labels targets wrong unfit text code_ label labelWord target targetWord targetLine store common low high register address status did ready timer trace) (some (.int r_0)) (w_M refusal wheel now length at_ fault faultLine line words labels targets wrong unfit text code_ label labelWord target targetWord targetLine store common low high register r_1 r_2 r_3 r_4 timer r_5) := by
  rw [f_X11_branch_144] at hres
  refine G.iadd (pc := 144) dm_X11_branch_144 ?_
  refine G.aload_n (pc := 145) dm_X11_branch_145 rfl ?_
  refine G.getfield (pc := 146) dm_X11_branch_146 gf_X11_291 rfl rfl ?_
  refine G.iconst (pc := 149) (v := (4 : Int32)) dm_X11_branch_149 qi_4 ?_
  refine G.iadd (pc := 150) dm_X11_branch_150 ?_
  obtain ⟨z3_0, z3_1, z3_2, z3_3, z3_4, hz3⟩ := g_ex5 (f_X11_done s1 (s2 + s3) (now + (4 : Int32)) now address did ready trace)
  refine G.callV0 (pc := 151) (rest := []) (st1 := [.int z3_0]) dm_X11_branch_151 gc_X11_branch_319 (k_X11_done (t := s1) (a := (s2 + s3)) (when := (now + (4 : Int32))) (refusal := refusal) (wheel := wheel) (now := now) (length := length) (at_ := at_) (fault := fault) (faultLine := faultLine) (line := line) (words := words) (labels := labels) (targets := targets) (wrong := wrong) (unfit := unfit) (text := text) (code_ := code_) (label := label) (labelWord := labelWord) (target := target) (targetWord := targetWord) (targetLine := targetLine) (store := store) (common := common) (low := low) (high := high) (register := register) (address := address) (status := status) (did := did) (ready := ready) (timer := timer) (trace := trace) (by first | assumption | exact q_31 _) (by first | assumption | exact q_31 _) hz3) rfl rfl rfl rfl rfl rfl rfl rfl ?_
  replace hres : (r_0, r_1, r_2, r_3, r_4, r_5) = f_X11_branch_c151 status z3_0 z3_1 z3_2 z3_3 z3_4 := hres.trans (by rw [← hz3])
  rw [f_X11_branch_c151] at hres
  cases hres
  exact G.ireturn (pc := 154) dm_X11_branch_154 rfl rfl rfl
def f_X11_branch_c120 (t : Int32) (w : Int32) (now : Int32) (address : Nat → Int32) (status : Nat → Int32) (did : Nat → Int32) (ready : Nat → Int32) (trace : Nat → Int32) (z2_0 : Int32) : Int32 × (Nat → Int32) × (Nat → Int32) × (Nat → Int32) × (Nat → Int32) × (Nat → Int32) := (if z2_0 = 0 then (f_X11_branch_144 now address status did ready trace t (address (Int32.toNatClampNeg t)) (4 : Int32)) else (f_X11_branch_144 now address status did ready trace t (address (Int32.toNatClampNeg t)) ((((((w >>> ((8 : Int32) &&& 31)) &&& (15 : Int32)) <<< ((1 : Int32) &&& 31)) ||| (((w >>> ((25 : Int32) &&& 31)) &&& (63 : Int32)) <<< ((5 : Int32) &&& 31))) ||| (((w >>> ((7 : Int32) &&& 31)) &&& (1 : Int32)) <<< ((11 : Int32) &&& 31))) ||| ((w >>> ((31 : Int32) &&& 31)) <<< ((12 : Int32) &&& 31)))))
def f_X11_branch (t : Int32) (w : Int32) (now : Int32) (register : Nat → Int32) (address : Nat → Int32) (status : Nat → Int32) (did : Nat → Int32) (ready : Nat → Int32) (trace : Nat → Int32) : Int32 × (Nat → Int32) × (Nat → Int32) × (Nat → Int32) × (Nat → Int32) × (Nat → Int32) := (if ((w >>> ((12 : Int32) &&& 31)) &&& (7 : Int32)) = (2 : Int32) then (f_X11_branch_50 address status did ready trace t) else (if ((w >>> ((12 : Int32) &&& 31)) &&& (7 : Int32)) = (3 : Int32) then (f_X11_branch_50 address status did ready trace t) else (if (15 : Int32) < ((w >>> ((15 : Int32) &&& 31)) &&& (31 : Int32)) then (f_X11_branch_50 address status did ready trace t) else (if ((w >>> ((20 : Int32) &&& 31)) &&& (31 : Int32)) ≤ (15 : Int32) then (f_X11_branch_c120 t w now address status did ready trace (f_X11_goes ((w >>> ((12 : Int32) &&& 31)) &&& (7 : Int32)) (register (Int32.toNatClampNeg (((16 : Int32) * t) + ((w >>> ((15 : Int32) &&& 31)) &&& (31 : Int32))))) (register (Int32.toNatClampNeg (((16 : Int32) * t) + ((w >>> ((20 : Int32) &&& 31)) &&& (31 : Int32))))))) else (f_X11_branch_50 address status did ready trace t)))))
set_option maxRecDepth 20000 in
theorem k_X11_branch {t : Int32} {w : Int32} {refusal : Int32} {wheel : Int32} {now : Int32} {length : Int32} {at_ : Int32} {fault : Int32} {faultLine : Int32} {line : Int32} {words : Int32} {labels : Int32} {targets : Int32} {wrong : Int32} {unfit : Int32} {text : Nat → Int32} {code_ : Nat → Int32} {label : Nat → Int64} {labelWord : Nat → Int32} {target : Nat → Int64} {targetWord : Nat → Int32} {targetLine : Nat → Int32} {store : Nat → Int32} {common : Nat → Int32} {low : Nat → Int32} {high : Nat → Int32} {register : Nat → Int32} {address : Nat → Int32} {status : Nat → Int32} {did : Nat → Int32} {ready : Nat → Int32} {timer : Nat → Int32} {trace : Nat → Int32} (ht : 0 ≤ t.toInt ∧ t.toInt < 4) (hdid : ∀ j, j < 4 → 0 ≤ (did j).toInt) {r_0 : Int32} {r_1 : (Nat → Int32)} {r_2 : (Nat → Int32)} {r_3 : (Nat → Int32)} {r_4 : (Nat → Int32)} {r_5 : (Nat → Int32)} (hres : (r_0, r_1, r_2, r_3, r_4, r_5) = f_X11_branch t w now register address status did ready trace) : K M_X11_branch yX11_branch [.ref 0, .int t, .int w] (w_M refusal wheel now length at_ fault faultLine line words labels targets wrong unfit text code_ label labelWord target targetWord targetLine store common low high register address status did ready timer trace) (some (.int r_0)) (w_M refusal wheel now length at_ fault faultLine line words labels targets wrong unfit text code_ label labelWord target targetWord targetLine store common low high register r_1 r_2 r_3 r_4 timer r_5) := by
  refine K.of (lv := [(0, .ref 0), (1, .int t), (2, .int w)]) (by decide +kernel) rfl rfl rfl ?_
  rw [f_X11_branch] at hres
  refine G.iload_n (pc := 0) dm_X11_branch_0 rfl ?_
  refine G.bipush (pc := 1) (v := (12 : Int32)) dm_X11_branch_1 qb_12 ?_
  refine G.ishr (pc := 3) dm_X11_branch_3 ?_
  refine G.bipush (pc := 4) (v := (7 : Int32)) dm_X11_branch_4 qb_7 ?_
  refine G.iand (pc := 6) dm_X11_branch_6 ?_
  refine G.istore_n (pc := 7) (lv1 := [(3, .int ((w >>> ((12 : Int32) &&& 31)) &&& (7 : Int32))), (0, .ref 0), (1, .int t), (2, .int w)]) dm_X11_branch_7 rfl rfl ?_
  refine G.iload_n (pc := 8) dm_X11_branch_8 rfl ?_
  refine G.bipush (pc := 9) (v := (15 : Int32)) dm_X11_branch_9 qb_15 ?_
  refine G.ishr (pc := 11) dm_X11_branch_11 ?_
  refine G.bipush (pc := 12) (v := (31 : Int32)) dm_X11_branch_12 qb_31 ?_
  refine G.iand (pc := 14) dm_X11_branch_14 ?_
  refine G.istore (pc := 15) (lv1 := [(4, .int ((w >>> ((15 : Int32) &&& 31)) &&& (31 : Int32))), (3, .int ((w >>> ((12 : Int32) &&& 31)) &&& (7 : Int32))), (0, .ref 0), (1, .int t), (2, .int w)]) dm_X11_branch_15 rfl rfl ?_
  refine G.iload_n (pc := 17) dm_X11_branch_17 rfl ?_
  refine G.bipush (pc := 18) (v := (20 : Int32)) dm_X11_branch_18 qb_20 ?_
  refine G.ishr (pc := 20) dm_X11_branch_20 ?_
  refine G.bipush (pc := 21) (v := (31 : Int32)) dm_X11_branch_21 qb_31 ?_
  refine G.iand (pc := 23) dm_X11_branch_23 ?_
  refine G.istore (pc := 24) (lv1 := [(5, .int ((w >>> ((20 : Int32) &&& 31)) &&& (31 : Int32))), (4, .int ((w >>> ((15 : Int32) &&& 31)) &&& (31 : Int32))), (3, .int ((w >>> ((12 : Int32) &&& 31)) &&& (7 : Int32))), (0, .ref 0), (1, .int t), (2, .int w)]) dm_X11_branch_24 rfl rfl ?_
  refine G.iload_n (pc := 26) dm_X11_branch_26 rfl ?_
  refine G.iconst (pc := 27) (v := (2 : Int32)) dm_X11_branch_27 qi_2 ?_
  refine G.icmp_eq (pc := 28) (tgt := 50) dm_X11_branch_28 (by decide) (fun c28 => ?_) (fun c28 => ?_)
  · rw [if_pos c28] at hres
    refine G.lvp [3, 4] rfl ?_
    exact j_X11_branch_50 hres (by first | assumption | exact q_31 _)
  · rw [if_neg c28] at hres
    refine G.iload_n (pc := 31) dm_X11_branch_31 rfl ?_
    refine G.iconst (pc := 32) (v := (3 : Int32)) dm_X11_branch_32 qi_3 ?_
    refine G.icmp_eq (pc := 33) (tgt := 50) dm_X11_branch_33 (by decide) (fun c33 => ?_) (fun c33 => ?_)
    · rw [if_pos c33] at hres
      refine G.lvp [3, 4] rfl ?_
      exact j_X11_branch_50 hres (by first | assumption | exact q_31 _)
    · rw [if_neg c33] at hres
      refine G.iload (pc := 36) dm_X11_branch_36 rfl ?_
      refine G.bipush (pc := 38) (v := (15 : Int32)) dm_X11_branch_38 qb_15 ?_
      refine G.icmp_gt (pc := 40) (tgt := 50) dm_X11_branch_40 (by decide) (fun c40 => ?_) (fun c40 => ?_)
      · rw [if_pos c40] at hres
        refine G.lvp [3, 4] rfl ?_
        exact j_X11_branch_50 hres (by first | assumption | exact q_31 _)
      · rw [if_neg c40] at hres
        refine G.iload (pc := 43) dm_X11_branch_43 rfl ?_
        refine G.bipush (pc := 45) (v := (15 : Int32)) dm_X11_branch_45 qb_15 ?_
        refine G.icmp_le (pc := 47) (tgt := 56) dm_X11_branch_47 (by decide) (fun c47 => ?_) (fun c47 => ?_)
        · rw [if_pos c47] at hres
          refine G.iload_n (pc := 56) dm_X11_branch_56 rfl ?_
          refine G.bipush (pc := 57) (v := (8 : Int32)) dm_X11_branch_57 qb_8 ?_
          refine G.ishr (pc := 59) dm_X11_branch_59 ?_
          refine G.bipush (pc := 60) (v := (15 : Int32)) dm_X11_branch_60 qb_15 ?_
          refine G.iand (pc := 62) dm_X11_branch_62 ?_
          refine G.iconst (pc := 63) (v := (1 : Int32)) dm_X11_branch_63 qi_1 ?_
          refine G.ishl (pc := 64) dm_X11_branch_64 ?_
          refine G.iload_n (pc := 65) dm_X11_branch_65 rfl ?_
          refine G.bipush (pc := 66) (v := (25 : Int32)) dm_X11_branch_66 qb_25 ?_
          refine G.ishr (pc := 68) dm_X11_branch_68 ?_
          refine G.bipush (pc := 69) (v := (63 : Int32)) dm_X11_branch_69 qb_63 ?_
          refine G.iand (pc := 71) dm_X11_branch_71 ?_
          refine G.iconst (pc := 72) (v := (5 : Int32)) dm_X11_branch_72 qi_5 ?_
          refine G.ishl (pc := 73) dm_X11_branch_73 ?_
          refine G.ior (pc := 74) dm_X11_branch_74 ?_
          refine G.iload_n (pc := 75) dm_X11_branch_75 rfl ?_
          refine G.bipush (pc := 76) (v := (7 : Int32)) dm_X11_branch_76 qb_7 ?_
          refine G.ishr (pc := 78) dm_X11_branch_78 ?_
          refine G.iconst (pc := 79) (v := (1 : Int32)) dm_X11_branch_79 qi_1 ?_
          refine G.iand (pc := 80) dm_X11_branch_80 ?_
          refine G.bipush (pc := 81) (v := (11 : Int32)) dm_X11_branch_81 qb_11 ?_
          refine G.ishl (pc := 83) dm_X11_branch_83 ?_
          refine G.ior (pc := 84) dm_X11_branch_84 ?_
          refine G.iload_n (pc := 85) dm_X11_branch_85 rfl ?_
          refine G.bipush (pc := 86) (v := (31 : Int32)) dm_X11_branch_86 qb_31 ?_
          refine G.ishr (pc := 88) dm_X11_branch_88 ?_
          refine G.bipush (pc := 89) (v := (12 : Int32)) dm_X11_branch_89 qb_12 ?_
          refine G.ishl (pc := 91) dm_X11_branch_91 ?_
          refine G.ior (pc := 92) dm_X11_branch_92 ?_
          refine G.istore (pc := 93) (lv1 := [(6, .int ((((((w >>> ((8 : Int32) &&& 31)) &&& (15 : Int32)) <<< ((1 : Int32) &&& 31)) ||| (((w >>> ((25 : Int32) &&& 31)) &&& (63 : Int32)) <<< ((5 : Int32) &&& 31))) ||| (((w >>> ((7 : Int32) &&& 31)) &&& (1 : Int32)) <<< ((11 : Int32) &&& 31))) ||| ((w >>> ((31 : Int32) &&& 31)) <<< ((12 : Int32) &&& 31)))), (5, .int ((w >>> ((20 : Int32) &&& 31)) &&& (31 : Int32))), (4, .int ((w >>> ((15 : Int32) &&& 31)) &&& (31 : Int32))), (3, .int ((w >>> ((12 : Int32) &&& 31)) &&& (7 : Int32))), (0, .ref 0), (1, .int t), (2, .int w)]) dm_X11_branch_93 rfl rfl ?_
          refine G.iload_n (pc := 95) dm_X11_branch_95 rfl ?_
          refine G.aload_n (pc := 96) dm_X11_branch_96 rfl ?_
          refine G.getfield (pc := 97) dm_X11_branch_97 gf_X11_45 rfl rfl ?_
          refine G.bipush (pc := 100) (v := (16 : Int32)) dm_X11_branch_100 qb_16 ?_
          refine G.iload_n (pc := 102) dm_X11_branch_102 rfl ?_
          refine G.imul (pc := 103) dm_X11_branch_103 ?_
          refine G.iload (pc := 104) dm_X11_branch_104 rfl ?_
          refine G.iadd (pc := 106) dm_X11_branch_106 ?_
          refine G.iaload (pc := 107) dm_X11_branch_107 rfl (q_i16 ht (q_16 (q_31 _) c40)) ?_
          refine G.aload_n (pc := 108) dm_X11_branch_108 rfl ?_
          refine G.getfield (pc := 109) dm_X11_branch_109 gf_X11_45 rfl rfl ?_
          refine G.bipush (pc := 112) (v := (16 : Int32)) dm_X11_branch_112 qb_16 ?_
          refine G.iload_n (pc := 114) dm_X11_branch_114 rfl ?_
          refine G.imul (pc := 115) dm_X11_branch_115 ?_
          refine G.iload (pc := 116) dm_X11_branch_116 rfl ?_
          refine G.iadd (pc := 118) dm_X11_branch_118 ?_
          refine G.iaload (pc := 119) dm_X11_branch_119 rfl (q_i16 ht (q_16' (q_31 _) c47)) ?_
          obtain ⟨z2_0, hz2⟩ := g_ex1 (f_X11_goes ((w >>> ((12 : Int32) &&& 31)) &&& (7 : Int32)) (register (Int32.toNatClampNeg (((16 : Int32) * t) + ((w >>> ((15 : Int32) &&& 31)) &&& (31 : Int32))))) (register (Int32.toNatClampNeg (((16 : Int32) * t) + ((w >>> ((20 : Int32) &&& 31)) &&& (31 : Int32))))))
          refine G.callS (pc := 120) (rest := []) (st1 := [.int z2_0]) (ws1 := (w_M refusal wheel now length at_ fault faultLine line words labels targets wrong unfit text code_ label labelWord target targetWord targetLine store common low high register address status did ready timer trace)) [] dm_X11_branch_120 gc_X11_branch_327 (k_X11_goes (f := ((w >>> ((12 : Int32) &&& 31)) &&& (7 : Int32))) (a := (register (Int32.toNatClampNeg (((16 : Int32) * t) + ((w >>> ((15 : Int32) &&& 31)) &&& (31 : Int32)))))) (b := (register (Int32.toNatClampNeg (((16 : Int32) * t) + ((w >>> ((20 : Int32) &&& 31)) &&& (31 : Int32)))))) hz2) rfl rfl rfl rfl rfl rfl rfl rfl ?_
          replace hres : (r_0, r_1, r_2, r_3, r_4, r_5) = f_X11_branch_c120 t w now address status did ready trace z2_0 := hres.trans (by rw [← hz2])
          rw [f_X11_branch_c120] at hres
          refine G.istore (pc := 123) (lv1 := [(7, .int z2_0), (6, .int ((((((w >>> ((8 : Int32) &&& 31)) &&& (15 : Int32)) <<< ((1 : Int32) &&& 31)) ||| (((w >>> ((25 : Int32) &&& 31)) &&& (63 : Int32)) <<< ((5 : Int32) &&& 31))) ||| (((w >>> ((7 : Int32) &&& 31)) &&& (1 : Int32)) <<< ((11 : Int32) &&& 31))) ||| ((w >>> ((31 : Int32) &&& 31)) <<< ((12 : Int32) &&& 31)))), (5, .int ((w >>> ((20 : Int32) &&& 31)) &&& (31 : Int32))), (4, .int ((w >>> ((15 : Int32) &&& 31)) &&& (31 : Int32))), (3, .int ((w >>> ((12 : Int32) &&& 31)) &&& (7 : Int32))), (0, .ref 0), (1, .int t), (2, .int w)]) dm_X11_branch_123 rfl rfl ?_
          refine G.aload_n (pc := 125) dm_X11_branch_125 rfl ?_
          refine G.iload_n (pc := 126) dm_X11_branch_126 rfl ?_
          refine G.aload_n (pc := 127) dm_X11_branch_127 rfl ?_
          refine G.getfield (pc := 128) dm_X11_branch_128 gf_X11_48 rfl rfl ?_
          refine G.iload_n (pc := 131) dm_X11_branch_131 rfl ?_
          refine G.iaload (pc := 132) dm_X11_branch_132 rfl (q_t ht) ?_
          refine G.iload (pc := 133) dm_X11_branch_133 rfl ?_
          refine G.if_eq (pc := 135) (tgt := 143) dm_X11_branch_135 (by decide) (fun c135 => ?_) (fun c135 => ?_)
          · rw [if_pos c135] at hres
            refine G.iconst (pc := 143) (v := (4 : Int32)) dm_X11_branch_143 qi_4 ?_
            refine G.lvp [5] rfl ?_
            exact j_X11_branch_144 hres (by first | assumption | exact q_31 _) (by first | assumption | exact q_31 _)
          · rw [if_neg c135] at hres
            refine G.iload (pc := 138) dm_X11_branch_138 rfl ?_
            refine G.goto (pc := 140) (tgt := 144) dm_X11_branch_140 (by decide) ?_
            refine G.lvp [5] rfl ?_
            exact j_X11_branch_144 hres (by first | assumption | exact q_31 _) (by first | assumption | exact q_31 _)
        · rw [if_neg c47] at hres
          refine G.lvp [3, 4] rfl ?_
          exact j_X11_branch_50 hres (by first | assumption | exact q_31 _)
abbrev M_X11_clock : g_M := (cX11_clock, 8, RX11, (some .int), { frames := 1, cells := 0, slots := 0, locals := 24 }, 0, 0)
theorem dm_X11_clock_0 : decode M_X11_clock.1 0 = .ok (.iload_n 2, 1) := by decide +kernel
theorem dm_X11_clock_1 : decode M_X11_clock.1 1 = .ok (.bipush 12, 2) := by decide +kernel
theorem dm_X11_clock_3 : decode M_X11_clock.1 3 = .ok (.ishr, 1) := by decide +kernel
theorem dm_X11_clock_4 : decode M_X11_clock.1 4 = .ok (.bipush 7, 2) := by decide +kernel
theorem dm_X11_clock_6 : decode M_X11_clock.1 6 = .ok (.iand, 1) := by decide +kernel
theorem dm_X11_clock_7 : decode M_X11_clock.1 7 = .ok (.istore_n 3, 1) := by decide +kernel
theorem dm_X11_clock_8 : decode M_X11_clock.1 8 = .ok (.iload_n 2, 1) := by decide +kernel
theorem dm_X11_clock_9 : decode M_X11_clock.1 9 = .ok (.bipush 7, 2) := by decide +kernel
theorem dm_X11_clock_11 : decode M_X11_clock.1 11 = .ok (.ishr, 1) := by decide +kernel
theorem dm_X11_clock_12 : decode M_X11_clock.1 12 = .ok (.bipush 31, 2) := by decide +kernel
theorem dm_X11_clock_14 : decode M_X11_clock.1 14 = .ok (.iand, 1) := by decide +kernel
theorem dm_X11_clock_15 : decode M_X11_clock.1 15 = .ok (.istore 4, 2) := by decide +kernel
theorem dm_X11_clock_17 : decode M_X11_clock.1 17 = .ok (.iload_n 2, 1) := by decide +kernel
theorem dm_X11_clock_18 : decode M_X11_clock.1 18 = .ok (.bipush 15, 2) := by decide +kernel
theorem dm_X11_clock_20 : decode M_X11_clock.1 20 = .ok (.ishr, 1) := by decide +kernel
theorem dm_X11_clock_21 : decode M_X11_clock.1 21 = .ok (.bipush 31, 2) := by decide +kernel
theorem dm_X11_clock_23 : decode M_X11_clock.1 23 = .ok (.iand, 1) := by decide +kernel
theorem dm_X11_clock_24 : decode M_X11_clock.1 24 = .ok (.istore 5, 2) := by decide +kernel
theorem dm_X11_clock_26 : decode M_X11_clock.1 26 = .ok (.iload_n 3, 1) := by decide +kernel
theorem dm_X11_clock_27 : decode M_X11_clock.1 27 = .ok (.iconst 1, 1) := by decide +kernel
theorem dm_X11_clock_28 : decode M_X11_clock.1 28 = .ok (.if_icmp .gt 27, 3) := by decide +kernel
theorem dm_X11_clock_31 : decode M_X11_clock.1 31 = .ok (.iload_n 3, 1) := by decide +kernel
theorem dm_X11_clock_32 : decode M_X11_clock.1 32 = .ok (.ifCond .ne 16, 3) := by decide +kernel
theorem dm_X11_clock_35 : decode M_X11_clock.1 35 = .ok (.iload 4, 2) := by decide +kernel
theorem dm_X11_clock_37 : decode M_X11_clock.1 37 = .ok (.iconst 3, 1) := by decide +kernel
theorem dm_X11_clock_38 : decode M_X11_clock.1 38 = .ok (.if_icmp .gt 17, 3) := by decide +kernel
theorem dm_X11_clock_41 : decode M_X11_clock.1 41 = .ok (.iload 5, 2) := by decide +kernel
theorem dm_X11_clock_43 : decode M_X11_clock.1 43 = .ok (.bipush 15, 2) := by decide +kernel
theorem dm_X11_clock_45 : decode M_X11_clock.1 45 = .ok (.if_icmp .gt 10, 3) := by decide +kernel
theorem dm_X11_clock_48 : decode M_X11_clock.1 48 = .ok (.iload 4, 2) := by decide +kernel
theorem dm_X11_clock_50 : decode M_X11_clock.1 50 = .ok (.bipush 15, 2) := by decide +kernel
theorem dm_X11_clock_52 : decode M_X11_clock.1 52 = .ok (.if_icmp .le 9, 3) := by decide +kernel
theorem dm_X11_clock_55 : decode M_X11_clock.1 55 = .ok (.aload_n 0, 1) := by decide +kernel
theorem dm_X11_clock_56 : decode M_X11_clock.1 56 = .ok (.iload_n 1, 1) := by decide +kernel
theorem dm_X11_clock_57 : decode M_X11_clock.1 57 = .ok (.invokevirtual 299, 3) := by decide +kernel
theorem dm_X11_clock_60 : decode M_X11_clock.1 60 = .ok (.ireturn, 1) := by decide +kernel
theorem dm_X11_clock_61 : decode M_X11_clock.1 61 = .ok (.iload_n 3, 1) := by decide +kernel
theorem dm_X11_clock_62 : decode M_X11_clock.1 62 = .ok (.iconst 1, 1) := by decide +kernel
theorem dm_X11_clock_63 : decode M_X11_clock.1 63 = .ok (.if_icmp .ne 34, 3) := by decide +kernel
theorem dm_X11_clock_66 : decode M_X11_clock.1 66 = .ok (.aload_n 0, 1) := by decide +kernel
theorem dm_X11_clock_67 : decode M_X11_clock.1 67 = .ok (.iload_n 1, 1) := by decide +kernel
theorem dm_X11_clock_68 : decode M_X11_clock.1 68 = .ok (.iload 4, 2) := by decide +kernel
theorem dm_X11_clock_70 : decode M_X11_clock.1 70 = .ok (.aload_n 0, 1) := by decide +kernel
theorem dm_X11_clock_71 : decode M_X11_clock.1 71 = .ok (.getfield 291, 3) := by decide +kernel
theorem dm_X11_clock_74 : decode M_X11_clock.1 74 = .ok (.invokevirtual 313, 3) := by decide +kernel
theorem dm_X11_clock_77 : decode M_X11_clock.1 77 = .ok (.aload_n 0, 1) := by decide +kernel
theorem dm_X11_clock_78 : decode M_X11_clock.1 78 = .ok (.iload_n 1, 1) := by decide +kernel
theorem dm_X11_clock_79 : decode M_X11_clock.1 79 = .ok (.aload_n 0, 1) := by decide +kernel
theorem dm_X11_clock_80 : decode M_X11_clock.1 80 = .ok (.getfield 48, 3) := by decide +kernel
theorem dm_X11_clock_83 : decode M_X11_clock.1 83 = .ok (.iload_n 1, 1) := by decide +kernel
theorem dm_X11_clock_84 : decode M_X11_clock.1 84 = .ok (.iaload, 1) := by decide +kernel
theorem dm_X11_clock_85 : decode M_X11_clock.1 85 = .ok (.iconst 4, 1) := by decide +kernel
theorem dm_X11_clock_86 : decode M_X11_clock.1 86 = .ok (.iadd, 1) := by decide +kernel
theorem dm_X11_clock_87 : decode M_X11_clock.1 87 = .ok (.aload_n 0, 1) := by decide +kernel
theorem dm_X11_clock_88 : decode M_X11_clock.1 88 = .ok (.getfield 291, 3) := by decide +kernel
theorem dm_X11_clock_91 : decode M_X11_clock.1 91 = .ok (.iconst 4, 1) := by decide +kernel
theorem dm_X11_clock_92 : decode M_X11_clock.1 92 = .ok (.iadd, 1) := by decide +kernel
theorem dm_X11_clock_93 : decode M_X11_clock.1 93 = .ok (.invokevirtual 319, 3) := by decide +kernel
theorem dm_X11_clock_96 : decode M_X11_clock.1 96 = .ok (.ireturn, 1) := by decide +kernel
theorem dm_X11_clock_97 : decode M_X11_clock.1 97 = .ok (.aload_n 0, 1) := by decide +kernel
theorem dm_X11_clock_98 : decode M_X11_clock.1 98 = .ok (.getfield 291, 3) := by decide +kernel
theorem dm_X11_clock_101 : decode M_X11_clock.1 101 = .ok (.aload_n 0, 1) := by decide +kernel
theorem dm_X11_clock_102 : decode M_X11_clock.1 102 = .ok (.getfield 60, 3) := by decide +kernel
theorem dm_X11_clock_105 : decode M_X11_clock.1 105 = .ok (.iconst 4, 1) := by decide +kernel
theorem dm_X11_clock_106 : decode M_X11_clock.1 106 = .ok (.iload_n 1, 1) := by decide +kernel
theorem dm_X11_clock_107 : decode M_X11_clock.1 107 = .ok (.imul, 1) := by decide +kernel
theorem dm_X11_clock_108 : decode M_X11_clock.1 108 = .ok (.iload 4, 2) := by decide +kernel
theorem dm_X11_clock_110 : decode M_X11_clock.1 110 = .ok (.iadd, 1) := by decide +kernel
theorem dm_X11_clock_111 : decode M_X11_clock.1 111 = .ok (.iaload, 1) := by decide +kernel
theorem dm_X11_clock_112 : decode M_X11_clock.1 112 = .ok (.if_icmp .ge 5, 3) := by decide +kernel
theorem dm_X11_clock_115 : decode M_X11_clock.1 115 = .ok (.iconst 0, 1) := by decide +kernel
theorem dm_X11_clock_116 : decode M_X11_clock.1 116 = .ok (.ireturn, 1) := by decide +kernel
theorem dm_X11_clock_117 : decode M_X11_clock.1 117 = .ok (.aload_n 0, 1) := by decide +kernel
theorem dm_X11_clock_118 : decode M_X11_clock.1 118 = .ok (.getfield 291, 3) := by decide +kernel
theorem dm_X11_clock_121 : decode M_X11_clock.1 121 = .ok (.i2l, 1) := by decide +kernel
theorem dm_X11_clock_122 : decode M_X11_clock.1 122 = .ok (.aload_n 0, 1) := by decide +kernel
theorem dm_X11_clock_123 : decode M_X11_clock.1 123 = .ok (.getfield 45, 3) := by decide +kernel
theorem dm_X11_clock_126 : decode M_X11_clock.1 126 = .ok (.bipush 16, 2) := by decide +kernel
theorem dm_X11_clock_128 : decode M_X11_clock.1 128 = .ok (.iload_n 1, 1) := by decide +kernel
theorem dm_X11_clock_129 : decode M_X11_clock.1 129 = .ok (.imul, 1) := by decide +kernel
theorem dm_X11_clock_130 : decode M_X11_clock.1 130 = .ok (.iload 5, 2) := by decide +kernel
theorem dm_X11_clock_132 : decode M_X11_clock.1 132 = .ok (.iadd, 1) := by decide +kernel
theorem dm_X11_clock_133 : decode M_X11_clock.1 133 = .ok (.iaload, 1) := by decide +kernel
theorem dm_X11_clock_134 : decode M_X11_clock.1 134 = .ok (.i2l, 1) := by decide +kernel
theorem dm_X11_clock_135 : decode M_X11_clock.1 135 = .ok (.ladd, 1) := by decide +kernel
theorem dm_X11_clock_136 : decode M_X11_clock.1 136 = .ok (.iload_n 2, 1) := by decide +kernel
theorem dm_X11_clock_137 : decode M_X11_clock.1 137 = .ok (.bipush 20, 2) := by decide +kernel
theorem dm_X11_clock_139 : decode M_X11_clock.1 139 = .ok (.ishr, 1) := by decide +kernel
theorem dm_X11_clock_140 : decode M_X11_clock.1 140 = .ok (.i2l, 1) := by decide +kernel
theorem dm_X11_clock_141 : decode M_X11_clock.1 141 = .ok (.ladd, 1) := by decide +kernel
theorem dm_X11_clock_142 : decode M_X11_clock.1 142 = .ok (.lstore 6, 2) := by decide +kernel
theorem dm_X11_clock_144 : decode M_X11_clock.1 144 = .ok (.aload_n 0, 1) := by decide +kernel
theorem dm_X11_clock_145 : decode M_X11_clock.1 145 = .ok (.getfield 60, 3) := by decide +kernel
theorem dm_X11_clock_148 : decode M_X11_clock.1 148 = .ok (.iconst 4, 1) := by decide +kernel
theorem dm_X11_clock_149 : decode M_X11_clock.1 149 = .ok (.iload_n 1, 1) := by decide +kernel
theorem dm_X11_clock_150 : decode M_X11_clock.1 150 = .ok (.imul, 1) := by decide +kernel
theorem dm_X11_clock_151 : decode M_X11_clock.1 151 = .ok (.iload 4, 2) := by decide +kernel
theorem dm_X11_clock_153 : decode M_X11_clock.1 153 = .ok (.iadd, 1) := by decide +kernel
theorem dm_X11_clock_154 : decode M_X11_clock.1 154 = .ok (.lload 6, 2) := by decide +kernel
theorem dm_X11_clock_156 : decode M_X11_clock.1 156 = .ok (.aload_n 0, 1) := by decide +kernel
theorem dm_X11_clock_157 : decode M_X11_clock.1 157 = .ok (.getfield 291, 3) := by decide +kernel
theorem dm_X11_clock_160 : decode M_X11_clock.1 160 = .ok (.i2l, 1) := by decide +kernel
theorem dm_X11_clock_161 : decode M_X11_clock.1 161 = .ok (.lcmp, 1) := by decide +kernel
theorem dm_X11_clock_162 : decode M_X11_clock.1 162 = .ok (.ifCond .ge 10, 3) := by decide +kernel
theorem dm_X11_clock_165 : decode M_X11_clock.1 165 = .ok (.aload_n 0, 1) := by decide +kernel
theorem dm_X11_clock_166 : decode M_X11_clock.1 166 = .ok (.getfield 291, 3) := by decide +kernel
theorem dm_X11_clock_169 : decode M_X11_clock.1 169 = .ok (.goto 21, 3) := by decide +kernel
theorem dm_X11_clock_172 : decode M_X11_clock.1 172 = .ok (.lload 6, 2) := by decide +kernel
theorem dm_X11_clock_174 : decode M_X11_clock.1 174 = .ok (.ldc2_w 330, 3) := by decide +kernel
theorem dm_X11_clock_177 : decode M_X11_clock.1 177 = .ok (.lcmp, 1) := by decide +kernel
theorem dm_X11_clock_178 : decode M_X11_clock.1 178 = .ok (.ifCond .le 9, 3) := by decide +kernel
theorem dm_X11_clock_181 : decode M_X11_clock.1 181 = .ok (.ldc_w 332, 3) := by decide +kernel
theorem dm_X11_clock_184 : decode M_X11_clock.1 184 = .ok (.goto 6, 3) := by decide +kernel
theorem dm_X11_clock_187 : decode M_X11_clock.1 187 = .ok (.lload 6, 2) := by decide +kernel
theorem dm_X11_clock_189 : decode M_X11_clock.1 189 = .ok (.l2i, 1) := by decide +kernel
theorem dm_X11_clock_190 : decode M_X11_clock.1 190 = .ok (.iastore, 1) := by decide +kernel
theorem dm_X11_clock_191 : decode M_X11_clock.1 191 = .ok (.aload_n 0, 1) := by decide +kernel
theorem dm_X11_clock_192 : decode M_X11_clock.1 192 = .ok (.iload_n 1, 1) := by decide +kernel
theorem dm_X11_clock_193 : decode M_X11_clock.1 193 = .ok (.aload_n 0, 1) := by decide +kernel
theorem dm_X11_clock_194 : decode M_X11_clock.1 194 = .ok (.getfield 48, 3) := by decide +kernel
theorem dm_X11_clock_197 : decode M_X11_clock.1 197 = .ok (.iload_n 1, 1) := by decide +kernel
theorem dm_X11_clock_198 : decode M_X11_clock.1 198 = .ok (.iaload, 1) := by decide +kernel
theorem dm_X11_clock_199 : decode M_X11_clock.1 199 = .ok (.iconst 4, 1) := by decide +kernel
theorem dm_X11_clock_200 : decode M_X11_clock.1 200 = .ok (.iadd, 1) := by decide +kernel
theorem dm_X11_clock_201 : decode M_X11_clock.1 201 = .ok (.aload_n 0, 1) := by decide +kernel
theorem dm_X11_clock_202 : decode M_X11_clock.1 202 = .ok (.getfield 291, 3) := by decide +kernel
theorem dm_X11_clock_205 : decode M_X11_clock.1 205 = .ok (.iconst 4, 1) := by decide +kernel
theorem dm_X11_clock_206 : decode M_X11_clock.1 206 = .ok (.iadd, 1) := by decide +kernel
theorem dm_X11_clock_207 : decode M_X11_clock.1 207 = .ok (.invokevirtual 319, 3) := by decide +kernel
theorem dm_X11_clock_210 : decode M_X11_clock.1 210 = .ok (.ireturn, 1) := by decide +kernel
theorem gc_X11_clock_299 : g_cv M_X11_clock 299 M_X11_stop yX11_stop 1 := ⟨tw773, tw774, tw775, tw5, tw776, ⟨rfl, rfl, rfl, rfl⟩, gd_X11_stop, ⟨by decide, by decide⟩⟩
theorem gc_X11_clock_313 : g_cv M_X11_clock 313 M_X11_set yX11_set 3 := ⟨tw777, tw778, tw779, tw5, tw780, ⟨rfl, rfl, rfl, rfl⟩, gd_X11_set, ⟨by decide, by decide⟩⟩
theorem gc_X11_clock_319 : g_cv M_X11_clock 319 M_X11_done yX11_done 3 := ⟨tw781, tw782, tw783, tw5, tw784, ⟨rfl, rfl, rfl, rfl⟩, gd_X11_done, ⟨by decide, by decide⟩⟩
def f_X11_clock_c57 (register : Nat → Int32) (address : Nat → Int32) (did : Nat → Int32) (ready : Nat → Int32) (timer : Nat → Int32) (trace : Nat → Int32) (z1_0 : Int32) (z1_1 : (Nat → Int32)) : Int32 × (Nat → Int32) × (Nat → Int32) × (Nat → Int32) × (Nat → Int32) × (Nat → Int32) × (Nat → Int32) × (Nat → Int32) := (z1_0, register, address, z1_1, did, ready, timer, trace)
def f_X11_clock_55 (register : Nat → Int32) (address : Nat → Int32) (status : Nat → Int32) (did : Nat → Int32) (ready : Nat → Int32) (timer : Nat → Int32) (trace : Nat → Int32) (l1 : Int32) : Int32 × (Nat → Int32) × (Nat → Int32) × (Nat → Int32) × (Nat → Int32) × (Nat → Int32) × (Nat → Int32) × (Nat → Int32) := (f_X11_clock_c57 register address did ready timer trace (f_X11_stop l1 status).1 (f_X11_stop l1 status).2)
set_option maxRecDepth 20000 in
theorem j_X11_clock_55 {l1 : Int32} {refusal : Int32} {wheel : Int32} {now : Int32} {length : Int32} {at_ : Int32} {fault : Int32} {faultLine : Int32} {line : Int32} {words : Int32} {labels : Int32} {targets : Int32} {wrong : Int32} {unfit : Int32} {text : Nat → Int32} {code_ : Nat → Int32} {label : Nat → Int64} {labelWord : Nat → Int32} {target : Nat → Int64} {targetWord : Nat → Int32} {targetLine : Nat → Int32} {store : Nat → Int32} {common : Nat → Int32} {low : Nat → Int32} {high : Nat → Int32} {register : Nat → Int32} {address : Nat → Int32} {status : Nat → Int32} {did : Nat → Int32} {ready : Nat → Int32} {timer : Nat → Int32} {trace : Nat → Int32} {r_0 : Int32} {r_1 : (Nat → Int32)} {r_2 : (Nat → Int32)} {r_3 : (Nat → Int32)} {r_4 : (Nat → Int32)} {r_5 : (Nat → Int32)} {r_6 : (Nat → Int32)} {r_7 : (Nat → Int32)} (hres : (r_0, r_1, r_2, r_3, r_4, r_5, r_6, r_7) = (f_X11_clock_55 register address status did ready timer trace l1)) (ht : 0 ≤ l1.toInt ∧ l1.toInt < 4) : G M_X11_clock 0 0 55 [(0, .ref 0), (1, .int l1)] [] (w_M refusal wheel now length at_ fault faultLine line words labels targets wrong unfit text code_ label labelWord target targetWord targetLine store common low high register address status did ready timer trace) (some (.int r_0)) (w_M refusal wheel now length at_ fault faultLine line words labels targets wrong unfit text code_ label labelWord target targetWord targetLine store common low high r_1 r_2 r_3 r_4 r_5 r_6 r_7) := by
  rw [f_X11_clock_55] at hres
  refine G.aload_n (pc := 55) dm_X11_clock_55 rfl ?_
  refine G.iload_n (pc := 56) dm_X11_clock_56 rfl ?_
  obtain ⟨z1_0, z1_1, hz1⟩ := g_ex2 (f_X11_stop l1 status)
  refine G.callV0 (pc := 57) (rest := []) (st1 := [.int z1_0]) dm_X11_clock_57 gc_X11_clock_299 (k_X11_stop (t := l1) (refusal := refusal) (wheel := wheel) (now := now) (length := length) (at_ := at_) (fault := fault) (faultLine := faultLine) (line := line) (words := words) (labels := labels) (targets := targets) (wrong := wrong) (unfit := unfit) (text := text) (code_ := code_) (label := label) (labelWord := labelWord) (target := target) (targetWord := targetWord) (targetLine := targetLine) (store := store) (common := common) (low := low) (high := high) (register := register) (address := address) (status := status) (did := did) (ready := ready) (timer := timer) (trace := trace) (by first | assumption | exact q_31 _ | exact q_i4 ht ⟨h4.1, h30.1⟩) hz1) rfl rfl rfl rfl rfl rfl rfl rfl ?_
  replace hres : (r_0, r_1, r_2, r_3, r_4, r_5, r_6, r_7) = f_X11_clock_c57 register address did ready timer trace z1_0 z1_1 := hres.trans (by rw [← hz1])
  rw [f_X11_clock_c57] at hres
  cases hres
  exact G.ireturn (pc := 60) dm_X11_clock_60 rfl rfl rfl
def f_X11_clock_c207 (register : Nat → Int32) (status : Nat → Int32) (timer : Nat → Int32) (s1 : Int32) (s2 : Int32) (z2_0 : Int32) (z2_1 : (Nat → Int32)) (z2_2 : (Nat → Int32)) (z2_3 : (Nat → Int32)) (z2_4 : (Nat → Int32)) : Int32 × (Nat → Int32) × (Nat → Int32) × (Nat → Int32) × (Nat → Int32) × (Nat → Int32) × (Nat → Int32) × (Nat → Int32) := (z2_0, register, z2_1, status, z2_2, z2_3, (upd timer (Int32.toNatClampNeg s1) s2), z2_4)
def f_X11_clock_190 (now : Int32) (register : Nat → Int32) (address : Nat → Int32) (status : Nat → Int32) (did : Nat → Int32) (ready : Nat → Int32) (timer : Nat → Int32) (trace : Nat → Int32) (l1 : Int32) (s1 : Int32) (s2 : Int32) : Int32 × (Nat → Int32) × (Nat → Int32) × (Nat → Int32) × (Nat → Int32) × (Nat → Int32) × (Nat → Int32) × (Nat → Int32) := (f_X11_clock_c207 register status timer s1 s2 (f_X11_done l1 ((address (Int32.toNatClampNeg l1)) + (4 : Int32)) (now + (4 : Int32)) now address did ready trace).1 (f_X11_done l1 ((address (Int32.toNatClampNeg l1)) + (4 : Int32)) (now + (4 : Int32)) now address did ready trace).2.1 (f_X11_done l1 ((address (Int32.toNatClampNeg l1)) + (4 : Int32)) (now + (4 : Int32)) now address did ready trace).2.2.1 (f_X11_done l1 ((address (Int32.toNatClampNeg l1)) + (4 : Int32)) (now + (4 : Int32)) now address did ready trace).2.2.2.1 (f_X11_done l1 ((address (Int32.toNatClampNeg l1)) + (4 : Int32)) (now + (4 : Int32)) now address did ready trace).2.2.2.2)
set_option maxRecDepth 20000 in
theorem j_X11_clock_190 {l1 : Int32} {s1 : Int32} {s2 : Int32} {refusal : Int32} {wheel : Int32} {now : Int32} {length : Int32} {at_ : Int32} {fault : Int32} {faultLine : Int32} {line : Int32} {words : Int32} {labels : Int32} {targets : Int32} {wrong : Int32} {unfit : Int32} {text : Nat → Int32} {code_ : Nat → Int32} {label : Nat → Int64} {labelWord : Nat → Int32} {target : Nat → Int64} {targetWord : Nat → Int32} {targetLine : Nat → Int32} {store : Nat → Int32} {common : Nat → Int32} {low : Nat → Int32} {high : Nat → Int32} {register : Nat → Int32} {address : Nat → Int32} {status : Nat → Int32} {did : Nat → Int32} {ready : Nat → Int32} {timer : Nat → Int32} {trace : Nat → Int32} {r_0 : Int32} {r_1 : (Nat → Int32)} {r_2 : (Nat → Int32)} {r_3 : (Nat → Int32)} {r_4 : (Nat → Int32)} {r_5 : (Nat → Int32)} {r_6 : (Nat → Int32)} {r_7 : (Nat → Int32)} (hres : (r_0, r_1, r_2, r_3, r_4, r_5, r_6, r_7) = (f_X11_clock_190 now register address status did ready timer trace l1 s1 s2)) (ht : 0 ≤ l1.toInt ∧ l1.toInt < 4) (hdid : ∀ j, j < 4 → 0 ≤ (did j).toInt) (hix : vp_in s1 16) : G M_X11_clock 0 0 190 [(0, .ref 0), (1, .int l1)] [.int s2, .int s1, .ref 17] (w_M refusal wheel now length at_ fault faultLine line words labels targets wrong unfit text code_ label labelWord target targetWord targetLine store common low high register address status did ready timer trace) (some (.int r_0)) (w_M refusal wheel now length at_ fault faultLine line words labels targets wrong unfit text code_ label labelWord target targetWord targetLine store common low high r_1 r_2 r_3 r_4 r_5 r_6 r_7) := by
  rw [f_X11_clock_190] at hres
  refine G.iastore (pc := 190) (ws1 := (w_M refusal wheel now length at_ fault faultLine line words labels targets wrong unfit text code_ label labelWord target targetWord targetLine store common low high register address status did ready (upd timer (Int32.toNatClampNeg s1) s2) trace)) dm_X11_clock_190 rfl hix rfl ?_
  refine G.aload_n (pc := 191) dm_X11_clock_191 rfl ?_
  refine G.iload_n (pc := 192) dm_X11_clock_192 rfl ?_
  refine G.aload_n (pc := 193) dm_X11_clock_193 rfl ?_
  refine G.getfield (pc := 194) dm_X11_clock_194 gf_X11_48 rfl rfl ?_
  refine G.iload_n (pc := 197) dm_X11_clock_197 rfl ?_
  refine G.iaload (pc := 198) dm_X11_clock_198 rfl (q_t ht) ?_
  refine G.iconst (pc := 199) (v := (4 : Int32)) dm_X11_clock_199 qi_4 ?_
  refine G.iadd (pc := 200) dm_X11_clock_200 ?_
  refine G.aload_n (pc := 201) dm_X11_clock_201 rfl ?_
  refine G.getfield (pc := 202) dm_X11_clock_202 gf_X11_291 rfl rfl ?_
  refine G.iconst (pc := 205) (v := (4 : Int32)) dm_X11_clock_205 qi_4 ?_
  refine G.iadd (pc := 206) dm_X11_clock_206 ?_
  obtain ⟨z2_0, z2_1, z2_2, z2_3, z2_4, hz2⟩ := g_ex5 (f_X11_done l1 ((address (Int32.toNatClampNeg l1)) + (4 : Int32)) (now + (4 : Int32)) now address did ready trace)
  refine G.callV0 (pc := 207) (rest := []) (st1 := [.int z2_0]) dm_X11_clock_207 gc_X11_clock_319 (k_X11_done (t := l1) (a := ((address (Int32.toNatClampNeg l1)) + (4 : Int32))) (when := (now + (4 : Int32))) (refusal := refusal) (wheel := wheel) (now := now) (length := length) (at_ := at_) (fault := fault) (faultLine := faultLine) (line := line) (words := words) (labels := labels) (targets := targets) (wrong := wrong) (unfit := unfit) (text := text) (code_ := code_) (label := label) (labelWord := labelWord) (target := target) (targetWord := targetWord) (targetLine := targetLine) (store := store) (common := common) (low := low) (high := high) (register := register) (address := address) (status := status) (did := did) (ready := ready) (timer := (upd timer (Int32.toNatClampNeg s1) s2)) (trace := trace) (by first | assumption | exact q_31 _ | exact q_i4 ht ⟨h4.1, h30.1⟩) (by first | assumption | exact q_31 _ | exact q_i4 ht ⟨h4.1, h30.1⟩) hz2) rfl rfl rfl rfl rfl rfl rfl rfl ?_
  replace hres : (r_0, r_1, r_2, r_3, r_4, r_5, r_6, r_7) = f_X11_clock_c207 register status timer s1 s2 z2_0 z2_1 z2_2 z2_3 z2_4 := hres.trans (by rw [← hz2])
  rw [f_X11_clock_c207] at hres
  cases hres
  exact G.ireturn (pc := 210) dm_X11_clock_210 rfl rfl rfl
def f_X11_clock_c93 (status : Nat → Int32) (timer : Nat → Int32) (z3_0 : (Nat → Int32)) (z4_0 : Int32) (z4_1 : (Nat → Int32)) (z4_2 : (Nat → Int32)) (z4_3 : (Nat → Int32)) (z4_4 : (Nat → Int32)) : Int32 × (Nat → Int32) × (Nat → Int32) × (Nat → Int32) × (Nat → Int32) × (Nat → Int32) × (Nat → Int32) × (Nat → Int32) := (z4_0, z3_0, z4_1, status, z4_2, z4_3, timer, z4_4)
def f_X11_clock_c74 (now : Int32) (address : Nat → Int32) (status : Nat → Int32) (did : Nat → Int32) (ready : Nat → Int32) (timer : Nat → Int32) (trace : Nat → Int32) (l1 : Int32) (z3_0 : (Nat → Int32)) : Int32 × (Nat → Int32) × (Nat → Int32) × (Nat → Int32) × (Nat → Int32) × (Nat → Int32) × (Nat → Int32) × (Nat → Int32) := (f_X11_clock_c93 status timer z3_0 (f_X11_done l1 ((address (Int32.toNatClampNeg l1)) + (4 : Int32)) (now + (4 : Int32)) now address did ready trace).1 (f_X11_done l1 ((address (Int32.toNatClampNeg l1)) + (4 : Int32)) (now + (4 : Int32)) now address did ready trace).2.1 (f_X11_done l1 ((address (Int32.toNatClampNeg l1)) + (4 : Int32)) (now + (4 : Int32)) now address did ready trace).2.2.1 (f_X11_done l1 ((address (Int32.toNatClampNeg l1)) + (4 : Int32)) (now + (4 : Int32)) now address did ready trace).2.2.2.1 (f_X11_done l1 ((address (Int32.toNatClampNeg l1)) + (4 : Int32)) (now + (4 : Int32)) now address did ready trace).2.2.2.2)
def f_X11_clock_48 (now : Int32) (register : Nat → Int32) (address : Nat → Int32) (status : Nat → Int32) (did : Nat → Int32) (ready : Nat → Int32) (timer : Nat → Int32) (trace : Nat → Int32) (l1 : Int32) (l2 : Int32) (l3 : Int32) (l4 : Int32) (l5 : Int32) : Int32 × (Nat → Int32) × (Nat → Int32) × (Nat → Int32) × (Nat → Int32) × (Nat → Int32) × (Nat → Int32) × (Nat → Int32) := (if l4 ≤ (15 : Int32) then (if l3 = (1 : Int32) then (f_X11_clock_c74 now address status did ready timer trace l1 (f_X11_set l1 l4 now register)) else (if (timer (Int32.toNatClampNeg (((4 : Int32) * l1) + l4))) ≤ now then (if 0 ≤ (lg_cmp (((Int32.toInt64 now) + (Int32.toInt64 (register (Int32.toNatClampNeg (((16 : Int32) * l1) + l5))))) + (Int32.toInt64 (l2 >>> ((20 : Int32) &&& 31)))) (Int32.toInt64 now)) then (if (lg_cmp (((Int32.toInt64 now) + (Int32.toInt64 (register (Int32.toNatClampNeg (((16 : Int32) * l1) + l5))))) + (Int32.toInt64 (l2 >>> ((20 : Int32) &&& 31)))) (2147483647 : Int64)) ≤ 0 then (f_X11_clock_190 now register address status did ready timer trace l1 (((4 : Int32) * l1) + l4) (Int64.toInt32 (((Int32.toInt64 now) + (Int32.toInt64 (register (Int32.toNatClampNeg (((16 : Int32) * l1) + l5))))) + (Int32.toInt64 (l2 >>> ((20 : Int32) &&& 31)))))) else (f_X11_clock_190 now register address status did ready timer trace l1 (((4 : Int32) * l1) + l4) (2147483647 : Int32))) else (f_X11_clock_190 now register address status did ready timer trace l1 (((4 : Int32) * l1) + l4) now)) else ((0 : Int32), register, address, status, did, ready, timer, trace))) else (f_X11_clock_55 register address status did ready timer trace l1))
set_option maxRecDepth 20000 in
theorem j_X11_clock_48 {l1 : Int32} {l2 : Int32} {l3 : Int32} {l4 : Int32} {l5 : Int32} {refusal : Int32} {wheel : Int32} {now : Int32} {length : Int32} {at_ : Int32} {fault : Int32} {faultLine : Int32} {line : Int32} {words : Int32} {labels : Int32} {targets : Int32} {wrong : Int32} {unfit : Int32} {text : Nat → Int32} {code_ : Nat → Int32} {label : Nat → Int64} {labelWord : Nat → Int32} {target : Nat → Int64} {targetWord : Nat → Int32} {targetLine : Nat → Int32} {store : Nat → Int32} {common : Nat → Int32} {low : Nat → Int32} {high : Nat → Int32} {register : Nat → Int32} {address : Nat → Int32} {status : Nat → Int32} {did : Nat → Int32} {ready : Nat → Int32} {timer : Nat → Int32} {trace : Nat → Int32} {r_0 : Int32} {r_1 : (Nat → Int32)} {r_2 : (Nat → Int32)} {r_3 : (Nat → Int32)} {r_4 : (Nat → Int32)} {r_5 : (Nat → Int32)} {r_6 : (Nat → Int32)} {r_7 : (Nat → Int32)} (hres : (r_0, r_1, r_2, r_3, r_4, r_5, r_6, r_7) = (f_X11_clock_48 now register address status did ready timer trace l1 l2 l3 l4 l5)) (ht : 0 ≤ l1.toInt ∧ l1.toInt < 4) (hdid : ∀ j, j < 4 → 0 ≤ (did j).toInt) (h3 : 0 ≤ l3.toInt ∧ l3.toInt ≤ 1) (h4 : 0 ≤ l4.toInt ∧ l4.toInt < 32) (h5 : 0 ≤ l5.toInt ∧ l5.toInt < 32 ∧ (l3 = 0 → l4.toInt < 4 ∧ l5.toInt < 16)) : G M_X11_clock 0 0 48 [(0, .ref 0), (1, .int l1), (2, .int l2), (3, .int l3), (4, .int l4), (5, .int l5)] [] (w_M refusal wheel now length at_ fault faultLine line words labels targets wrong unfit text code_ label labelWord target targetWord targetLine store common low high register address status did ready timer trace) (some (.int r_0)) (w_M refusal wheel now length at_ fault faultLine line words labels targets wrong unfit text code_ label labelWord target targetWord targetLine store common low high r_1 r_2 r_3 r_4 r_5 r_6 r_7) := by
  rw [f_X11_clock_48] at hres
  refine G.iload (pc := 48) dm_X11_clock_48 rfl ?_
  refine G.bipush (pc := 50) (v := (15 : Int32)) dm_X11_clock_50 qb_15 ?_
  refine G.icmp_le (pc := 52) (tgt := 61) dm_X11_clock_52 (by decide) (fun c52 => ?_) (fun c52 => ?_)
  · rw [if_pos c52] at hres
    refine G.iload_n (pc := 61) dm_X11_clock_61 rfl ?_
    refine G.iconst (pc := 62) (v := (1 : Int32)) dm_X11_clock_62 qi_1 ?_
    refine G.icmp_ne (pc := 63) (tgt := 97) dm_X11_clock_63 (by decide) (fun c63 => ?_) (fun c63 => ?_)
    · rw [if_neg c63] at hres
      have h30 := h5.2.2 (q_one h3 c63)
      refine G.aload_n (pc := 97) dm_X11_clock_97 rfl ?_
      refine G.getfield (pc := 98) dm_X11_clock_98 gf_X11_291 rfl rfl ?_
      refine G.aload_n (pc := 101) dm_X11_clock_101 rfl ?_
      refine G.getfield (pc := 102) dm_X11_clock_102 gf_X11_60 rfl rfl ?_
      refine G.iconst (pc := 105) (v := (4 : Int32)) dm_X11_clock_105 qi_4 ?_
      refine G.iload_n (pc := 106) dm_X11_clock_106 rfl ?_
      refine G.imul (pc := 107) dm_X11_clock_107 ?_
      refine G.iload (pc := 108) dm_X11_clock_108 rfl ?_
      refine G.iadd (pc := 110) dm_X11_clock_110 ?_
      refine G.iaload (pc := 111) dm_X11_clock_111 rfl (q_i4 ht ⟨h4.1, h30.1⟩) ?_
      refine G.icmp_ge (pc := 112) (tgt := 117) dm_X11_clock_112 (by decide) (fun c112 => ?_) (fun c112 => ?_)
      · rw [if_pos c112] at hres
        refine G.aload_n (pc := 117) dm_X11_clock_117 rfl ?_
        refine G.getfield (pc := 118) dm_X11_clock_118 gf_X11_291 rfl rfl ?_
        refine G.i2l (pc := 121) dm_X11_clock_121 ?_
        refine G.aload_n (pc := 122) dm_X11_clock_122 rfl ?_
        refine G.getfield (pc := 123) dm_X11_clock_123 gf_X11_45 rfl rfl ?_
        refine G.bipush (pc := 126) (v := (16 : Int32)) dm_X11_clock_126 qb_16 ?_
        refine G.iload_n (pc := 128) dm_X11_clock_128 rfl ?_
        refine G.imul (pc := 129) dm_X11_clock_129 ?_
        refine G.iload (pc := 130) dm_X11_clock_130 rfl ?_
        refine G.iadd (pc := 132) dm_X11_clock_132 ?_
        refine G.iaload (pc := 133) dm_X11_clock_133 rfl (q_i16 ht ⟨h5.1, h30.2⟩) ?_
        refine G.i2l (pc := 134) dm_X11_clock_134 ?_
        refine G.ladd (pc := 135) dm_X11_clock_135 ?_
        refine G.iload_n (pc := 136) dm_X11_clock_136 rfl ?_
        refine G.bipush (pc := 137) (v := (20 : Int32)) dm_X11_clock_137 qb_20 ?_
        refine G.ishr (pc := 139) dm_X11_clock_139 ?_
        refine G.i2l (pc := 140) dm_X11_clock_140 ?_
        refine G.ladd (pc := 141) dm_X11_clock_141 ?_
        refine G.lstore (pc := 142) (lv1 := [(6, .long (((Int32.toInt64 now) + (Int32.toInt64 (register (Int32.toNatClampNeg (((16 : Int32) * l1) + l5))))) + (Int32.toInt64 (l2 >>> ((20 : Int32) &&& 31))))), (0, .ref 0), (1, .int l1), (2, .int l2), (3, .int l3), (4, .int l4), (5, .int l5)]) dm_X11_clock_142 rfl rfl ?_
        refine G.aload_n (pc := 144) dm_X11_clock_144 rfl ?_
        refine G.getfield (pc := 145) dm_X11_clock_145 gf_X11_60 rfl rfl ?_
        refine G.iconst (pc := 148) (v := (4 : Int32)) dm_X11_clock_148 qi_4 ?_
        refine G.iload_n (pc := 149) dm_X11_clock_149 rfl ?_
        refine G.imul (pc := 150) dm_X11_clock_150 ?_
        refine G.iload (pc := 151) dm_X11_clock_151 rfl ?_
        refine G.iadd (pc := 153) dm_X11_clock_153 ?_
        refine G.lload (pc := 154) dm_X11_clock_154 rfl ?_
        refine G.aload_n (pc := 156) dm_X11_clock_156 rfl ?_
        refine G.getfield (pc := 157) dm_X11_clock_157 gf_X11_291 rfl rfl ?_
        refine G.i2l (pc := 160) dm_X11_clock_160 ?_
        refine G.lcmp (pc := 161) dm_X11_clock_161 ?_
        refine G.if_ge (pc := 162) (tgt := 172) dm_X11_clock_162 (by decide) (fun c162 => ?_) (fun c162 => ?_)
        · rw [if_pos c162] at hres
          refine G.lload (pc := 172) dm_X11_clock_172 rfl ?_
          refine G.ldc2 (pc := 174) dm_X11_clock_174 tw831 ?_
          refine G.lcmp (pc := 177) dm_X11_clock_177 ?_
          refine G.if_le (pc := 178) (tgt := 187) dm_X11_clock_178 (by decide) (fun c178 => ?_) (fun c178 => ?_)
          · rw [if_pos c178] at hres
            refine G.lload (pc := 187) dm_X11_clock_187 rfl ?_
            refine G.l2i (pc := 189) dm_X11_clock_189 ?_
            refine G.lvp [1, 2] rfl ?_
            exact j_X11_clock_190 hres (by first | assumption | exact q_31 _ | exact q_i4 ht ⟨h4.1, h30.1⟩) (by first | assumption | exact q_31 _ | exact q_i4 ht ⟨h4.1, h30.1⟩) (by first | assumption | exact q_31 _ | exact q_i4 ht ⟨h4.1, h30.1⟩)
          · rw [if_neg c178] at hres
            refine G.ldc_w (pc := 181) dm_X11_clock_181 tw832 ?_
            refine G.goto (pc := 184) (tgt := 190) dm_X11_clock_184 (by decide) ?_
            refine G.lvp [1, 2] rfl ?_
            exact j_X11_clock_190 hres (by first | assumption | exact q_31 _ | exact q_i4 ht ⟨h4.1, h30.1⟩) (by first | assumption | exact q_31 _ | exact q_i4 ht ⟨h4.1, h30.1⟩) (by first | assumption | exact q_31 _ | exact q_i4 ht ⟨h4.1, h30.1⟩)
        · rw [if_neg c162] at hres
          refine G.aload_n (pc := 165) dm_X11_clock_165 rfl ?_
          refine G.getfield (pc := 166) dm_X11_clock_166 gf_X11_291 rfl rfl ?_
          refine G.goto (pc := 169) (tgt := 190) dm_X11_clock_169 (by decide) ?_
          refine G.lvp [1, 2] rfl ?_
          exact j_X11_clock_190 hres (by first | assumption | exact q_31 _ | exact q_i4 ht ⟨h4.1, h30.1⟩) (by first | assumption | exact q_31 _ | exact q_i4 ht ⟨h4.1, h30.1⟩) (by first | assumption | exact q_31 _ | exact q_i4 ht ⟨h4.1, h30.1⟩)
      · rw [if_neg c112] at hres
        refine G.iconst (pc := 115) (v := (0 : Int32)) dm_X11_clock_115 qi_0 ?_
        cases hres
        exact G.ireturn (pc := 116) dm_X11_clock_116 rfl rfl rfl
    · rw [if_pos c63] at hres
      have h4 := q_16' h4 c52
      refine G.aload_n (pc := 66) dm_X11_clock_66 rfl ?_
      refine G.iload_n (pc := 67) dm_X11_clock_67 rfl ?_
      refine G.iload (pc := 68) dm_X11_clock_68 rfl ?_
      refine G.aload_n (pc := 70) dm_X11_clock_70 rfl ?_
      refine G.getfield (pc := 71) dm_X11_clock_71 gf_X11_291 rfl rfl ?_
      obtain ⟨z3_0, hz3⟩ := g_ex1 (f_X11_set l1 l4 now register)
      refine G.callV0 (pc := 74) (rest := []) (st1 := []) dm_X11_clock_74 gc_X11_clock_313 (k_X11_set (t := l1) (r := l4) (v := now) (refusal := refusal) (wheel := wheel) (now := now) (length := length) (at_ := at_) (fault := fault) (faultLine := faultLine) (line := line) (words := words) (labels := labels) (targets := targets) (wrong := wrong) (unfit := unfit) (text := text) (code_ := code_) (label := label) (labelWord := labelWord) (target := target) (targetWord := targetWord) (targetLine := targetLine) (store := store) (common := common) (low := low) (high := high) (register := register) (address := address) (status := status) (did := did) (ready := ready) (timer := timer) (trace := trace) (by first | assumption | exact q_31 _ | exact q_i4 ht ⟨h4.1, h30.1⟩) (by first | assumption | exact q_31 _ | exact q_i4 ht ⟨h4.1, h30.1⟩) hz3) rfl rfl rfl rfl rfl rfl rfl rfl ?_
      replace hres : (r_0, r_1, r_2, r_3, r_4, r_5, r_6, r_7) = f_X11_clock_c74 now address status did ready timer trace l1 z3_0 := hres.trans (by rw [← hz3])
      rw [f_X11_clock_c74] at hres
      refine G.aload_n (pc := 77) dm_X11_clock_77 rfl ?_
      refine G.iload_n (pc := 78) dm_X11_clock_78 rfl ?_
      refine G.aload_n (pc := 79) dm_X11_clock_79 rfl ?_
      refine G.getfield (pc := 80) dm_X11_clock_80 gf_X11_48 rfl rfl ?_
      refine G.iload_n (pc := 83) dm_X11_clock_83 rfl ?_
      refine G.iaload (pc := 84) dm_X11_clock_84 rfl (q_t ht) ?_
      refine G.iconst (pc := 85) (v := (4 : Int32)) dm_X11_clock_85 qi_4 ?_
      refine G.iadd (pc := 86) dm_X11_clock_86 ?_
      refine G.aload_n (pc := 87) dm_X11_clock_87 rfl ?_
      refine G.getfield (pc := 88) dm_X11_clock_88 gf_X11_291 rfl rfl ?_
      refine G.iconst (pc := 91) (v := (4 : Int32)) dm_X11_clock_91 qi_4 ?_
      refine G.iadd (pc := 92) dm_X11_clock_92 ?_
      obtain ⟨z4_0, z4_1, z4_2, z4_3, z4_4, hz4⟩ := g_ex5 (f_X11_done l1 ((address (Int32.toNatClampNeg l1)) + (4 : Int32)) (now + (4 : Int32)) now address did ready trace)
      refine G.callV0 (pc := 93) (rest := []) (st1 := [.int z4_0]) dm_X11_clock_93 gc_X11_clock_319 (k_X11_done (t := l1) (a := ((address (Int32.toNatClampNeg l1)) + (4 : Int32))) (when := (now + (4 : Int32))) (refusal := refusal) (wheel := wheel) (now := now) (length := length) (at_ := at_) (fault := fault) (faultLine := faultLine) (line := line) (words := words) (labels := labels) (targets := targets) (wrong := wrong) (unfit := unfit) (text := text) (code_ := code_) (label := label) (labelWord := labelWord) (target := target) (targetWord := targetWord) (targetLine := targetLine) (store := store) (common := common) (low := low) (high := high) (register := z3_0) (address := address) (status := status) (did := did) (ready := ready) (timer := timer) (trace := trace) (by first | assumption | exact q_31 _ | exact q_i4 ht ⟨h4.1, h30.1⟩) (by first | assumption | exact q_31 _ | exact q_i4 ht ⟨h4.1, h30.1⟩) hz4) rfl rfl rfl rfl rfl rfl rfl rfl ?_
      replace hres : (r_0, r_1, r_2, r_3, r_4, r_5, r_6, r_7) = f_X11_clock_c93 status timer z3_0 z4_0 z4_1 z4_2 z4_3 z4_4 := hres.trans (by rw [← hz4])
      rw [f_X11_clock_c93] at hres
      cases hres
      exact G.ireturn (pc := 96) dm_X11_clock_96 rfl rfl rfl
  · rw [if_neg c52] at hres
    refine G.lvp [0, 1] rfl ?_
    exact j_X11_clock_55 hres (by first | assumption | exact q_31 _ | exact q_i4 ht ⟨h4.1, h30.1⟩)
def f_X11_clock (t : Int32) (w : Int32) (now : Int32) (register : Nat → Int32) (address : Nat → Int32) (status : Nat → Int32) (did : Nat → Int32) (ready : Nat → Int32) (timer : Nat → Int32) (trace : Nat → Int32) : Int32 × (Nat → Int32) × (Nat → Int32) × (Nat → Int32) × (Nat → Int32) × (Nat → Int32) × (Nat → Int32) × (Nat → Int32) := (if (1 : Int32) < ((w >>> ((12 : Int32) &&& 31)) &&& (7 : Int32)) then (f_X11_clock_55 register address status did ready timer trace t) else (if ((w >>> ((12 : Int32) &&& 31)) &&& (7 : Int32)) = 0 then (if (3 : Int32) < ((w >>> ((7 : Int32) &&& 31)) &&& (31 : Int32)) then (f_X11_clock_55 register address status did ready timer trace t) else (if (15 : Int32) < ((w >>> ((15 : Int32) &&& 31)) &&& (31 : Int32)) then (f_X11_clock_55 register address status did ready timer trace t) else (f_X11_clock_48 now register address status did ready timer trace t w ((w >>> ((12 : Int32) &&& 31)) &&& (7 : Int32)) ((w >>> ((7 : Int32) &&& 31)) &&& (31 : Int32)) ((w >>> ((15 : Int32) &&& 31)) &&& (31 : Int32))))) else (f_X11_clock_48 now register address status did ready timer trace t w ((w >>> ((12 : Int32) &&& 31)) &&& (7 : Int32)) ((w >>> ((7 : Int32) &&& 31)) &&& (31 : Int32)) ((w >>> ((15 : Int32) &&& 31)) &&& (31 : Int32)))))
set_option maxRecDepth 20000 in
theorem k_X11_clock {t : Int32} {w : Int32} {refusal : Int32} {wheel : Int32} {now : Int32} {length : Int32} {at_ : Int32} {fault : Int32} {faultLine : Int32} {line : Int32} {words : Int32} {labels : Int32} {targets : Int32} {wrong : Int32} {unfit : Int32} {text : Nat → Int32} {code_ : Nat → Int32} {label : Nat → Int64} {labelWord : Nat → Int32} {target : Nat → Int64} {targetWord : Nat → Int32} {targetLine : Nat → Int32} {store : Nat → Int32} {common : Nat → Int32} {low : Nat → Int32} {high : Nat → Int32} {register : Nat → Int32} {address : Nat → Int32} {status : Nat → Int32} {did : Nat → Int32} {ready : Nat → Int32} {timer : Nat → Int32} {trace : Nat → Int32} (ht : 0 ≤ t.toInt ∧ t.toInt < 4) (hdid : ∀ j, j < 4 → 0 ≤ (did j).toInt) {r_0 : Int32} {r_1 : (Nat → Int32)} {r_2 : (Nat → Int32)} {r_3 : (Nat → Int32)} {r_4 : (Nat → Int32)} {r_5 : (Nat → Int32)} {r_6 : (Nat → Int32)} {r_7 : (Nat → Int32)} (hres : (r_0, r_1, r_2, r_3, r_4, r_5, r_6, r_7) = f_X11_clock t w now register address status did ready timer trace) : K M_X11_clock yX11_clock [.ref 0, .int t, .int w] (w_M refusal wheel now length at_ fault faultLine line words labels targets wrong unfit text code_ label labelWord target targetWord targetLine store common low high register address status did ready timer trace) (some (.int r_0)) (w_M refusal wheel now length at_ fault faultLine line words labels targets wrong unfit text code_ label labelWord target targetWord targetLine store common low high r_1 r_2 r_3 r_4 r_5 r_6 r_7) := by
  refine K.of (lv := [(0, .ref 0), (1, .int t), (2, .int w)]) (by decide +kernel) rfl rfl rfl ?_
  rw [f_X11_clock] at hres
  refine G.iload_n (pc := 0) dm_X11_clock_0 rfl ?_
  refine G.bipush (pc := 1) (v := (12 : Int32)) dm_X11_clock_1 qb_12 ?_
  refine G.ishr (pc := 3) dm_X11_clock_3 ?_
  refine G.bipush (pc := 4) (v := (7 : Int32)) dm_X11_clock_4 qb_7 ?_
  refine G.iand (pc := 6) dm_X11_clock_6 ?_
  refine G.istore_n (pc := 7) (lv1 := [(3, .int ((w >>> ((12 : Int32) &&& 31)) &&& (7 : Int32))), (0, .ref 0), (1, .int t), (2, .int w)]) dm_X11_clock_7 rfl rfl ?_
  refine G.iload_n (pc := 8) dm_X11_clock_8 rfl ?_
  refine G.bipush (pc := 9) (v := (7 : Int32)) dm_X11_clock_9 qb_7 ?_
  refine G.ishr (pc := 11) dm_X11_clock_11 ?_
  refine G.bipush (pc := 12) (v := (31 : Int32)) dm_X11_clock_12 qb_31 ?_
  refine G.iand (pc := 14) dm_X11_clock_14 ?_
  refine G.istore (pc := 15) (lv1 := [(4, .int ((w >>> ((7 : Int32) &&& 31)) &&& (31 : Int32))), (3, .int ((w >>> ((12 : Int32) &&& 31)) &&& (7 : Int32))), (0, .ref 0), (1, .int t), (2, .int w)]) dm_X11_clock_15 rfl rfl ?_
  refine G.iload_n (pc := 17) dm_X11_clock_17 rfl ?_
  refine G.bipush (pc := 18) (v := (15 : Int32)) dm_X11_clock_18 qb_15 ?_
  refine G.ishr (pc := 20) dm_X11_clock_20 ?_
  refine G.bipush (pc := 21) (v := (31 : Int32)) dm_X11_clock_21 qb_31 ?_
  refine G.iand (pc := 23) dm_X11_clock_23 ?_
  refine G.istore (pc := 24) (lv1 := [(5, .int ((w >>> ((15 : Int32) &&& 31)) &&& (31 : Int32))), (4, .int ((w >>> ((7 : Int32) &&& 31)) &&& (31 : Int32))), (3, .int ((w >>> ((12 : Int32) &&& 31)) &&& (7 : Int32))), (0, .ref 0), (1, .int t), (2, .int w)]) dm_X11_clock_24 rfl rfl ?_
  refine G.iload_n (pc := 26) dm_X11_clock_26 rfl ?_
  refine G.iconst (pc := 27) (v := (1 : Int32)) dm_X11_clock_27 qi_1 ?_
  refine G.icmp_gt (pc := 28) (tgt := 55) dm_X11_clock_28 (by decide) (fun c28 => ?_) (fun c28 => ?_)
  · rw [if_pos c28] at hres
    refine G.lvp [3, 4] rfl ?_
    exact j_X11_clock_55 hres (by first | assumption | exact q_31 _ | exact q_i4 ht ⟨h4.1, h30.1⟩)
  · rw [if_neg c28] at hres
    refine G.iload_n (pc := 31) dm_X11_clock_31 rfl ?_
    refine G.if_ne (pc := 32) (tgt := 48) dm_X11_clock_32 (by decide) (fun c32 => ?_) (fun c32 => ?_)
    · rw [if_neg c32] at hres
      refine G.lvp [3, 4, 5, 2, 1, 0] rfl ?_
      exact j_X11_clock_48 hres ht hdid ⟨(q_7 _).1, q_nlt c28⟩ (q_31 _) ⟨(q_31 _).1, (q_31 _).2, fun h => absurd h c32⟩
    · rw [if_pos c32] at hres
      refine G.iload (pc := 35) dm_X11_clock_35 rfl ?_
      refine G.iconst (pc := 37) (v := (3 : Int32)) dm_X11_clock_37 qi_3 ?_
      refine G.icmp_gt (pc := 38) (tgt := 55) dm_X11_clock_38 (by decide) (fun c38 => ?_) (fun c38 => ?_)
      · rw [if_pos c38] at hres
        refine G.lvp [3, 4] rfl ?_
        exact j_X11_clock_55 hres (by first | assumption | exact q_31 _ | exact q_i4 ht ⟨h4.1, h30.1⟩)
      · rw [if_neg c38] at hres
        refine G.iload (pc := 41) dm_X11_clock_41 rfl ?_
        refine G.bipush (pc := 43) (v := (15 : Int32)) dm_X11_clock_43 qb_15 ?_
        refine G.icmp_gt (pc := 45) (tgt := 55) dm_X11_clock_45 (by decide) (fun c45 => ?_) (fun c45 => ?_)
        · rw [if_pos c45] at hres
          refine G.lvp [3, 4] rfl ?_
          exact j_X11_clock_55 hres (by first | assumption | exact q_31 _ | exact q_i4 ht ⟨h4.1, h30.1⟩)
        · rw [if_neg c45] at hres
          refine G.lvp [3, 4, 5, 2, 1, 0] rfl ?_
          exact j_X11_clock_48 hres ht hdid ⟨(q_7 _).1, q_nlt c28⟩ (q_31 _) ⟨(q_31 _).1, (q_31 _).2, fun _ => ⟨by have h9 := q_nlt c38; exact Int.lt_of_le_of_lt h9 (by decide), (q_16 (q_31 _) c45).2⟩⟩
abbrev M_X11_turn : g_M := (cX11_turn, 4, RX11, (some .int), { frames := 3, cells := 0, slots := 0, locals := 76 }, 0, 0)
theorem dm_X11_turn_0 : decode M_X11_turn.1 0 = .ok (.aload_n 0, 1) := by decide +kernel
theorem dm_X11_turn_1 : decode M_X11_turn.1 1 = .ok (.getfield 51, 3) := by decide +kernel
theorem dm_X11_turn_4 : decode M_X11_turn.1 4 = .ok (.iload_n 1, 1) := by decide +kernel
theorem dm_X11_turn_5 : decode M_X11_turn.1 5 = .ok (.iaload, 1) := by decide +kernel
theorem dm_X11_turn_6 : decode M_X11_turn.1 6 = .ok (.iconst 1, 1) := by decide +kernel
theorem dm_X11_turn_7 : decode M_X11_turn.1 7 = .ok (.if_icmp .ne 16, 3) := by decide +kernel
theorem dm_X11_turn_10 : decode M_X11_turn.1 10 = .ok (.aload_n 0, 1) := by decide +kernel
theorem dm_X11_turn_11 : decode M_X11_turn.1 11 = .ok (.getfield 291, 3) := by decide +kernel
theorem dm_X11_turn_14 : decode M_X11_turn.1 14 = .ok (.aload_n 0, 1) := by decide +kernel
theorem dm_X11_turn_15 : decode M_X11_turn.1 15 = .ok (.getfield 57, 3) := by decide +kernel
theorem dm_X11_turn_18 : decode M_X11_turn.1 18 = .ok (.iload_n 1, 1) := by decide +kernel
theorem dm_X11_turn_19 : decode M_X11_turn.1 19 = .ok (.iaload, 1) := by decide +kernel
theorem dm_X11_turn_20 : decode M_X11_turn.1 20 = .ok (.if_icmp .ge 5, 3) := by decide +kernel
theorem dm_X11_turn_23 : decode M_X11_turn.1 23 = .ok (.iconst 0, 1) := by decide +kernel
theorem dm_X11_turn_24 : decode M_X11_turn.1 24 = .ok (.ireturn, 1) := by decide +kernel
theorem dm_X11_turn_25 : decode M_X11_turn.1 25 = .ok (.aload_n 0, 1) := by decide +kernel
theorem dm_X11_turn_26 : decode M_X11_turn.1 26 = .ok (.getfield 48, 3) := by decide +kernel
theorem dm_X11_turn_29 : decode M_X11_turn.1 29 = .ok (.iload_n 1, 1) := by decide +kernel
theorem dm_X11_turn_30 : decode M_X11_turn.1 30 = .ok (.iaload, 1) := by decide +kernel
theorem dm_X11_turn_31 : decode M_X11_turn.1 31 = .ok (.istore_n 2, 1) := by decide +kernel
theorem dm_X11_turn_32 : decode M_X11_turn.1 32 = .ok (.iload_n 2, 1) := by decide +kernel
theorem dm_X11_turn_33 : decode M_X11_turn.1 33 = .ok (.iconst 3, 1) := by decide +kernel
theorem dm_X11_turn_34 : decode M_X11_turn.1 34 = .ok (.iand, 1) := by decide +kernel
theorem dm_X11_turn_35 : decode M_X11_turn.1 35 = .ok (.ifCond .ne 10, 3) := by decide +kernel
theorem dm_X11_turn_38 : decode M_X11_turn.1 38 = .ok (.iload_n 2, 1) := by decide +kernel
theorem dm_X11_turn_39 : decode M_X11_turn.1 39 = .ok (.invokestatic 288, 3) := by decide +kernel
theorem dm_X11_turn_42 : decode M_X11_turn.1 42 = .ok (.ifCond .ne 9, 3) := by decide +kernel
theorem dm_X11_turn_45 : decode M_X11_turn.1 45 = .ok (.aload_n 0, 1) := by decide +kernel
theorem dm_X11_turn_46 : decode M_X11_turn.1 46 = .ok (.iload_n 1, 1) := by decide +kernel
theorem dm_X11_turn_47 : decode M_X11_turn.1 47 = .ok (.invokevirtual 299, 3) := by decide +kernel
theorem dm_X11_turn_50 : decode M_X11_turn.1 50 = .ok (.ireturn, 1) := by decide +kernel
theorem dm_X11_turn_51 : decode M_X11_turn.1 51 = .ok (.aload_n 0, 1) := by decide +kernel
theorem dm_X11_turn_52 : decode M_X11_turn.1 52 = .ok (.getfield 33, 3) := by decide +kernel
theorem dm_X11_turn_55 : decode M_X11_turn.1 55 = .ok (.sipush 128, 3) := by decide +kernel
theorem dm_X11_turn_58 : decode M_X11_turn.1 58 = .ok (.iload_n 1, 1) := by decide +kernel
theorem dm_X11_turn_59 : decode M_X11_turn.1 59 = .ok (.imul, 1) := by decide +kernel
theorem dm_X11_turn_60 : decode M_X11_turn.1 60 = .ok (.iload_n 2, 1) := by decide +kernel
theorem dm_X11_turn_61 : decode M_X11_turn.1 61 = .ok (.iconst 4, 1) := by decide +kernel
theorem dm_X11_turn_62 : decode M_X11_turn.1 62 = .ok (.idiv, 1) := by decide +kernel
theorem dm_X11_turn_63 : decode M_X11_turn.1 63 = .ok (.iadd, 1) := by decide +kernel
theorem dm_X11_turn_64 : decode M_X11_turn.1 64 = .ok (.iaload, 1) := by decide +kernel
theorem dm_X11_turn_65 : decode M_X11_turn.1 65 = .ok (.istore_n 3, 1) := by decide +kernel
theorem dm_X11_turn_66 : decode M_X11_turn.1 66 = .ok (.iload_n 3, 1) := by decide +kernel
theorem dm_X11_turn_67 : decode M_X11_turn.1 67 = .ok (.bipush 127, 2) := by decide +kernel
theorem dm_X11_turn_69 : decode M_X11_turn.1 69 = .ok (.iand, 1) := by decide +kernel
theorem dm_X11_turn_70 : decode M_X11_turn.1 70 = .ok (.lookupswitch 196 #[(3, 157), (11, 189), (19, 173), (35, 165), (51, 181), (55, 82), (99, 150), (103, 142), (111, 134)], 82) := by decide +kernel
theorem dm_X11_turn_152 : decode M_X11_turn.1 152 = .ok (.iload_n 3, 1) := by decide +kernel
theorem dm_X11_turn_153 : decode M_X11_turn.1 153 = .ok (.bipush 7, 2) := by decide +kernel
theorem dm_X11_turn_155 : decode M_X11_turn.1 155 = .ok (.ishr, 1) := by decide +kernel
theorem dm_X11_turn_156 : decode M_X11_turn.1 156 = .ok (.bipush 31, 2) := by decide +kernel
theorem dm_X11_turn_158 : decode M_X11_turn.1 158 = .ok (.iand, 1) := by decide +kernel
theorem dm_X11_turn_159 : decode M_X11_turn.1 159 = .ok (.bipush 15, 2) := by decide +kernel
theorem dm_X11_turn_161 : decode M_X11_turn.1 161 = .ok (.if_icmp .le 9, 3) := by decide +kernel
theorem dm_X11_turn_164 : decode M_X11_turn.1 164 = .ok (.aload_n 0, 1) := by decide +kernel
theorem dm_X11_turn_165 : decode M_X11_turn.1 165 = .ok (.iload_n 1, 1) := by decide +kernel
theorem dm_X11_turn_166 : decode M_X11_turn.1 166 = .ok (.invokevirtual 299, 3) := by decide +kernel
theorem dm_X11_turn_169 : decode M_X11_turn.1 169 = .ok (.ireturn, 1) := by decide +kernel
theorem dm_X11_turn_170 : decode M_X11_turn.1 170 = .ok (.aload_n 0, 1) := by decide +kernel
theorem dm_X11_turn_171 : decode M_X11_turn.1 171 = .ok (.iload_n 1, 1) := by decide +kernel
theorem dm_X11_turn_172 : decode M_X11_turn.1 172 = .ok (.iload_n 3, 1) := by decide +kernel
theorem dm_X11_turn_173 : decode M_X11_turn.1 173 = .ok (.bipush 7, 2) := by decide +kernel
theorem dm_X11_turn_175 : decode M_X11_turn.1 175 = .ok (.ishr, 1) := by decide +kernel
theorem dm_X11_turn_176 : decode M_X11_turn.1 176 = .ok (.bipush 31, 2) := by decide +kernel
theorem dm_X11_turn_178 : decode M_X11_turn.1 178 = .ok (.iand, 1) := by decide +kernel
theorem dm_X11_turn_179 : decode M_X11_turn.1 179 = .ok (.iload_n 3, 1) := by decide +kernel
theorem dm_X11_turn_180 : decode M_X11_turn.1 180 = .ok (.bipush 12, 2) := by decide +kernel
theorem dm_X11_turn_182 : decode M_X11_turn.1 182 = .ok (.ishr, 1) := by decide +kernel
theorem dm_X11_turn_183 : decode M_X11_turn.1 183 = .ok (.bipush 12, 2) := by decide +kernel
theorem dm_X11_turn_185 : decode M_X11_turn.1 185 = .ok (.ishl, 1) := by decide +kernel
theorem dm_X11_turn_186 : decode M_X11_turn.1 186 = .ok (.invokevirtual 313, 3) := by decide +kernel
theorem dm_X11_turn_189 : decode M_X11_turn.1 189 = .ok (.aload_n 0, 1) := by decide +kernel
theorem dm_X11_turn_190 : decode M_X11_turn.1 190 = .ok (.iload_n 1, 1) := by decide +kernel
theorem dm_X11_turn_191 : decode M_X11_turn.1 191 = .ok (.iload_n 2, 1) := by decide +kernel
theorem dm_X11_turn_192 : decode M_X11_turn.1 192 = .ok (.iconst 4, 1) := by decide +kernel
theorem dm_X11_turn_193 : decode M_X11_turn.1 193 = .ok (.iadd, 1) := by decide +kernel
theorem dm_X11_turn_194 : decode M_X11_turn.1 194 = .ok (.aload_n 0, 1) := by decide +kernel
theorem dm_X11_turn_195 : decode M_X11_turn.1 195 = .ok (.getfield 291, 3) := by decide +kernel
theorem dm_X11_turn_198 : decode M_X11_turn.1 198 = .ok (.iconst 4, 1) := by decide +kernel
theorem dm_X11_turn_199 : decode M_X11_turn.1 199 = .ok (.iadd, 1) := by decide +kernel
theorem dm_X11_turn_200 : decode M_X11_turn.1 200 = .ok (.invokevirtual 319, 3) := by decide +kernel
theorem dm_X11_turn_203 : decode M_X11_turn.1 203 = .ok (.ireturn, 1) := by decide +kernel
theorem dm_X11_turn_204 : decode M_X11_turn.1 204 = .ok (.aload_n 0, 1) := by decide +kernel
theorem dm_X11_turn_205 : decode M_X11_turn.1 205 = .ok (.iload_n 1, 1) := by decide +kernel
theorem dm_X11_turn_206 : decode M_X11_turn.1 206 = .ok (.iload_n 3, 1) := by decide +kernel
theorem dm_X11_turn_207 : decode M_X11_turn.1 207 = .ok (.iconst 0, 1) := by decide +kernel
theorem dm_X11_turn_208 : decode M_X11_turn.1 208 = .ok (.invokevirtual 333, 3) := by decide +kernel
theorem dm_X11_turn_211 : decode M_X11_turn.1 211 = .ok (.ireturn, 1) := by decide +kernel
theorem dm_X11_turn_212 : decode M_X11_turn.1 212 = .ok (.aload_n 0, 1) := by decide +kernel
theorem dm_X11_turn_213 : decode M_X11_turn.1 213 = .ok (.iload_n 1, 1) := by decide +kernel
theorem dm_X11_turn_214 : decode M_X11_turn.1 214 = .ok (.iload_n 3, 1) := by decide +kernel
theorem dm_X11_turn_215 : decode M_X11_turn.1 215 = .ok (.iconst 1, 1) := by decide +kernel
theorem dm_X11_turn_216 : decode M_X11_turn.1 216 = .ok (.invokevirtual 333, 3) := by decide +kernel
theorem dm_X11_turn_219 : decode M_X11_turn.1 219 = .ok (.ireturn, 1) := by decide +kernel
theorem dm_X11_turn_220 : decode M_X11_turn.1 220 = .ok (.aload_n 0, 1) := by decide +kernel
theorem dm_X11_turn_221 : decode M_X11_turn.1 221 = .ok (.iload_n 1, 1) := by decide +kernel
theorem dm_X11_turn_222 : decode M_X11_turn.1 222 = .ok (.iload_n 3, 1) := by decide +kernel
theorem dm_X11_turn_223 : decode M_X11_turn.1 223 = .ok (.invokevirtual 337, 3) := by decide +kernel
theorem dm_X11_turn_226 : decode M_X11_turn.1 226 = .ok (.ireturn, 1) := by decide +kernel
theorem dm_X11_turn_227 : decode M_X11_turn.1 227 = .ok (.aload_n 0, 1) := by decide +kernel
theorem dm_X11_turn_228 : decode M_X11_turn.1 228 = .ok (.iload_n 1, 1) := by decide +kernel
theorem dm_X11_turn_229 : decode M_X11_turn.1 229 = .ok (.iload_n 3, 1) := by decide +kernel
theorem dm_X11_turn_230 : decode M_X11_turn.1 230 = .ok (.iconst 0, 1) := by decide +kernel
theorem dm_X11_turn_231 : decode M_X11_turn.1 231 = .ok (.invokevirtual 340, 3) := by decide +kernel
theorem dm_X11_turn_234 : decode M_X11_turn.1 234 = .ok (.ireturn, 1) := by decide +kernel
theorem dm_X11_turn_235 : decode M_X11_turn.1 235 = .ok (.aload_n 0, 1) := by decide +kernel
theorem dm_X11_turn_236 : decode M_X11_turn.1 236 = .ok (.iload_n 1, 1) := by decide +kernel
theorem dm_X11_turn_237 : decode M_X11_turn.1 237 = .ok (.iload_n 3, 1) := by decide +kernel
theorem dm_X11_turn_238 : decode M_X11_turn.1 238 = .ok (.iconst 1, 1) := by decide +kernel
theorem dm_X11_turn_239 : decode M_X11_turn.1 239 = .ok (.invokevirtual 340, 3) := by decide +kernel
theorem dm_X11_turn_242 : decode M_X11_turn.1 242 = .ok (.ireturn, 1) := by decide +kernel
theorem dm_X11_turn_243 : decode M_X11_turn.1 243 = .ok (.aload_n 0, 1) := by decide +kernel
theorem dm_X11_turn_244 : decode M_X11_turn.1 244 = .ok (.iload_n 1, 1) := by decide +kernel
theorem dm_X11_turn_245 : decode M_X11_turn.1 245 = .ok (.iload_n 3, 1) := by decide +kernel
theorem dm_X11_turn_246 : decode M_X11_turn.1 246 = .ok (.iconst 0, 1) := by decide +kernel
theorem dm_X11_turn_247 : decode M_X11_turn.1 247 = .ok (.invokevirtual 343, 3) := by decide +kernel
theorem dm_X11_turn_250 : decode M_X11_turn.1 250 = .ok (.ireturn, 1) := by decide +kernel
theorem dm_X11_turn_251 : decode M_X11_turn.1 251 = .ok (.aload_n 0, 1) := by decide +kernel
theorem dm_X11_turn_252 : decode M_X11_turn.1 252 = .ok (.iload_n 1, 1) := by decide +kernel
theorem dm_X11_turn_253 : decode M_X11_turn.1 253 = .ok (.iload_n 3, 1) := by decide +kernel
theorem dm_X11_turn_254 : decode M_X11_turn.1 254 = .ok (.iconst 1, 1) := by decide +kernel
theorem dm_X11_turn_255 : decode M_X11_turn.1 255 = .ok (.invokevirtual 343, 3) := by decide +kernel
theorem dm_X11_turn_258 : decode M_X11_turn.1 258 = .ok (.ireturn, 1) := by decide +kernel
theorem dm_X11_turn_259 : decode M_X11_turn.1 259 = .ok (.aload_n 0, 1) := by decide +kernel
theorem dm_X11_turn_260 : decode M_X11_turn.1 260 = .ok (.iload_n 1, 1) := by decide +kernel
theorem dm_X11_turn_261 : decode M_X11_turn.1 261 = .ok (.iload_n 3, 1) := by decide +kernel
theorem dm_X11_turn_262 : decode M_X11_turn.1 262 = .ok (.invokevirtual 346, 3) := by decide +kernel
theorem dm_X11_turn_265 : decode M_X11_turn.1 265 = .ok (.ireturn, 1) := by decide +kernel
theorem dm_X11_turn_266 : decode M_X11_turn.1 266 = .ok (.iload_n 3, 1) := by decide +kernel
theorem dm_X11_turn_267 : decode M_X11_turn.1 267 = .ok (.bipush 115, 2) := by decide +kernel
theorem dm_X11_turn_269 : decode M_X11_turn.1 269 = .ok (.if_icmp .eq 9, 3) := by decide +kernel
theorem dm_X11_turn_272 : decode M_X11_turn.1 272 = .ok (.aload_n 0, 1) := by decide +kernel
theorem dm_X11_turn_273 : decode M_X11_turn.1 273 = .ok (.iload_n 1, 1) := by decide +kernel
theorem dm_X11_turn_274 : decode M_X11_turn.1 274 = .ok (.invokevirtual 299, 3) := by decide +kernel
theorem dm_X11_turn_277 : decode M_X11_turn.1 277 = .ok (.ireturn, 1) := by decide +kernel
theorem dm_X11_turn_278 : decode M_X11_turn.1 278 = .ok (.aload_n 0, 1) := by decide +kernel
theorem dm_X11_turn_279 : decode M_X11_turn.1 279 = .ok (.getfield 51, 3) := by decide +kernel
theorem dm_X11_turn_282 : decode M_X11_turn.1 282 = .ok (.iload_n 1, 1) := by decide +kernel
theorem dm_X11_turn_283 : decode M_X11_turn.1 283 = .ok (.iconst 2, 1) := by decide +kernel
theorem dm_X11_turn_284 : decode M_X11_turn.1 284 = .ok (.iastore, 1) := by decide +kernel
theorem dm_X11_turn_285 : decode M_X11_turn.1 285 = .ok (.aload_n 0, 1) := by decide +kernel
theorem dm_X11_turn_286 : decode M_X11_turn.1 286 = .ok (.iload_n 1, 1) := by decide +kernel
theorem dm_X11_turn_287 : decode M_X11_turn.1 287 = .ok (.iload_n 2, 1) := by decide +kernel
theorem dm_X11_turn_288 : decode M_X11_turn.1 288 = .ok (.iconst 4, 1) := by decide +kernel
theorem dm_X11_turn_289 : decode M_X11_turn.1 289 = .ok (.iadd, 1) := by decide +kernel
theorem dm_X11_turn_290 : decode M_X11_turn.1 290 = .ok (.aload_n 0, 1) := by decide +kernel
theorem dm_X11_turn_291 : decode M_X11_turn.1 291 = .ok (.getfield 291, 3) := by decide +kernel
theorem dm_X11_turn_294 : decode M_X11_turn.1 294 = .ok (.iconst 4, 1) := by decide +kernel
theorem dm_X11_turn_295 : decode M_X11_turn.1 295 = .ok (.iadd, 1) := by decide +kernel
theorem dm_X11_turn_296 : decode M_X11_turn.1 296 = .ok (.invokevirtual 319, 3) := by decide +kernel
theorem dm_X11_turn_299 : decode M_X11_turn.1 299 = .ok (.ireturn, 1) := by decide +kernel
theorem gc_X11_turn_288 : g_cs M_X11_turn 288 M_X11_isOwn yX11_isOwn 1 := ⟨tw770, tw771, tw5, tw772, ⟨rfl, rfl, rfl, rfl⟩, gd_X11_isOwn, ⟨by decide, by decide⟩⟩
theorem gc_X11_turn_299 : g_cv M_X11_turn 299 M_X11_stop yX11_stop 1 := ⟨tw773, tw774, tw775, tw5, tw776, ⟨rfl, rfl, rfl, rfl⟩, gd_X11_stop, ⟨by decide, by decide⟩⟩
theorem gc_X11_turn_313 : g_cv M_X11_turn 313 M_X11_set yX11_set 3 := ⟨tw777, tw778, tw779, tw5, tw780, ⟨rfl, rfl, rfl, rfl⟩, gd_X11_set, ⟨by decide, by decide⟩⟩
theorem gc_X11_turn_319 : g_cv M_X11_turn 319 M_X11_done yX11_done 3 := ⟨tw781, tw782, tw783, tw5, tw784, ⟨rfl, rfl, rfl, rfl⟩, gd_X11_done, ⟨by decide, by decide⟩⟩
theorem gc_X11_turn_333 : g_cv M_X11_turn 333 M_X11_jump yX11_jump 3 := ⟨tw785, tw786, tw787, tw5, tw788, ⟨rfl, rfl, rfl, rfl⟩, gd_X11_jump, ⟨by decide, by decide⟩⟩
theorem gc_X11_turn_337 : g_cv M_X11_turn 337 M_X11_branch yX11_branch 2 := ⟨tw789, tw790, tw791, tw5, tw792, ⟨rfl, rfl, rfl, rfl⟩, gd_X11_branch, ⟨by decide, by decide⟩⟩
theorem gc_X11_turn_340 : g_cv M_X11_turn 340 M_X11_moveWord yX11_moveWord 3 := ⟨tw800, tw801, tw802, tw5, tw803, ⟨rfl, rfl, rfl, rfl⟩, gd_X11_moveWord, ⟨by decide, by decide⟩⟩
theorem gc_X11_turn_343 : g_cv M_X11_turn 343 M_X11_calculate yX11_calculate 3 := ⟨tw820, tw821, tw822, tw5, tw823, ⟨rfl, rfl, rfl, rfl⟩, gd_X11_calculate, ⟨by decide, by decide⟩⟩
theorem gc_X11_turn_346 : g_cv M_X11_turn 346 M_X11_clock yX11_clock 2 := ⟨tw827, tw828, tw829, tw5, tw830, ⟨rfl, rfl, rfl, rfl⟩, gd_X11_clock, ⟨by decide, by decide⟩⟩
def f_X11_turn_c47 (store : Nat → Int32) (common : Nat → Int32) (register : Nat → Int32) (address : Nat → Int32) (did : Nat → Int32) (ready : Nat → Int32) (timer : Nat → Int32) (trace : Nat → Int32) (z1_0 : Int32) (z1_1 : (Nat → Int32)) : Int32 × (Nat → Int32) × (Nat → Int32) × (Nat → Int32) × (Nat → Int32) × (Nat → Int32) × (Nat → Int32) × (Nat → Int32) × (Nat → Int32) × (Nat → Int32) := (z1_0, store, common, register, address, z1_1, did, ready, timer, trace)
def f_X11_turn_45 (store : Nat → Int32) (common : Nat → Int32) (register : Nat → Int32) (address : Nat → Int32) (status : Nat → Int32) (did : Nat → Int32) (ready : Nat → Int32) (timer : Nat → Int32) (trace : Nat → Int32) (l1 : Int32) : Int32 × (Nat → Int32) × (Nat → Int32) × (Nat → Int32) × (Nat → Int32) × (Nat → Int32) × (Nat → Int32) × (Nat → Int32) × (Nat → Int32) × (Nat → Int32) := (f_X11_turn_c47 store common register address did ready timer trace (f_X11_stop l1 status).1 (f_X11_stop l1 status).2)
set_option maxRecDepth 20000 in
theorem j_X11_turn_45 {l1 : Int32} {refusal : Int32} {wheel : Int32} {now : Int32} {length : Int32} {at_ : Int32} {fault : Int32} {faultLine : Int32} {line : Int32} {words : Int32} {labels : Int32} {targets : Int32} {wrong : Int32} {unfit : Int32} {text : Nat → Int32} {code_ : Nat → Int32} {label : Nat → Int64} {labelWord : Nat → Int32} {target : Nat → Int64} {targetWord : Nat → Int32} {targetLine : Nat → Int32} {store : Nat → Int32} {common : Nat → Int32} {low : Nat → Int32} {high : Nat → Int32} {register : Nat → Int32} {address : Nat → Int32} {status : Nat → Int32} {did : Nat → Int32} {ready : Nat → Int32} {timer : Nat → Int32} {trace : Nat → Int32} {r_0 : Int32} {r_1 : (Nat → Int32)} {r_2 : (Nat → Int32)} {r_3 : (Nat → Int32)} {r_4 : (Nat → Int32)} {r_5 : (Nat → Int32)} {r_6 : (Nat → Int32)} {r_7 : (Nat → Int32)} {r_8 : (Nat → Int32)} {r_9 : (Nat → Int32)} (hres : (r_0, r_1, r_2, r_3, r_4, r_5, r_6, r_7, r_8, r_9) = (f_X11_turn_45 store common register address status did ready timer trace l1)) (ht : 0 ≤ l1.toInt ∧ l1.toInt < 4) : G M_X11_turn 0 0 45 [(0, .ref 0), (1, .int l1)] [] (w_M refusal wheel now length at_ fault faultLine line words labels targets wrong unfit text code_ label labelWord target targetWord targetLine store common low high register address status did ready timer trace) (some (.int r_0)) (w_M refusal wheel now length at_ fault faultLine line words labels targets wrong unfit text code_ label labelWord target targetWord targetLine r_1 r_2 low high r_3 r_4 r_5 r_6 r_7 r_8 r_9) := by
  rw [f_X11_turn_45] at hres
  refine G.aload_n (pc := 45) dm_X11_turn_45 rfl ?_
  refine G.iload_n (pc := 46) dm_X11_turn_46 rfl ?_
  obtain ⟨z1_0, z1_1, hz1⟩ := g_ex2 (f_X11_stop l1 status)
  refine G.callV0 (pc := 47) (rest := []) (st1 := [.int z1_0]) dm_X11_turn_47 gc_X11_turn_299 (k_X11_stop (t := l1) (refusal := refusal) (wheel := wheel) (now := now) (length := length) (at_ := at_) (fault := fault) (faultLine := faultLine) (line := line) (words := words) (labels := labels) (targets := targets) (wrong := wrong) (unfit := unfit) (text := text) (code_ := code_) (label := label) (labelWord := labelWord) (target := target) (targetWord := targetWord) (targetLine := targetLine) (store := store) (common := common) (low := low) (high := high) (register := register) (address := address) (status := status) (did := did) (ready := ready) (timer := timer) (trace := trace) (by first | assumption | exact q_31 _ | exact q_7 _) hz1) rfl rfl rfl rfl rfl rfl rfl rfl ?_
  replace hres : (r_0, r_1, r_2, r_3, r_4, r_5, r_6, r_7, r_8, r_9) = f_X11_turn_c47 store common register address did ready timer trace z1_0 z1_1 := hres.trans (by rw [← hz1])
  rw [f_X11_turn_c47] at hres
  cases hres
  exact G.ireturn (pc := 50) dm_X11_turn_50 rfl rfl rfl
def f_X11_turn_c231 (timer : Nat → Int32) (z3_0 : Int32) (z3_1 : (Nat → Int32)) (z3_2 : (Nat → Int32)) (z3_3 : (Nat → Int32)) (z3_4 : (Nat → Int32)) (z3_5 : (Nat → Int32)) (z3_6 : (Nat → Int32)) (z3_7 : (Nat → Int32)) (z3_8 : (Nat → Int32)) : Int32 × (Nat → Int32) × (Nat → Int32) × (Nat → Int32) × (Nat → Int32) × (Nat → Int32) × (Nat → Int32) × (Nat → Int32) × (Nat → Int32) × (Nat → Int32) := (z3_0, z3_1, z3_2, z3_3, z3_4, z3_5, z3_6, z3_7, timer, z3_8)
def f_X11_turn_c262 (store : Nat → Int32) (common : Nat → Int32) (z4_0 : Int32) (z4_1 : (Nat → Int32)) (z4_2 : (Nat → Int32)) (z4_3 : (Nat → Int32)) (z4_4 : (Nat → Int32)) (z4_5 : (Nat → Int32)) (z4_6 : (Nat → Int32)) (z4_7 : (Nat → Int32)) : Int32 × (Nat → Int32) × (Nat → Int32) × (Nat → Int32) × (Nat → Int32) × (Nat → Int32) × (Nat → Int32) × (Nat → Int32) × (Nat → Int32) × (Nat → Int32) := (z4_0, store, common, z4_1, z4_2, z4_3, z4_4, z4_5, z4_6, z4_7)
def f_X11_turn_c247 (store : Nat → Int32) (common : Nat → Int32) (timer : Nat → Int32) (z5_0 : Int32) (z5_1 : (Nat → Int32)) (z5_2 : (Nat → Int32)) (z5_3 : (Nat → Int32)) (z5_4 : (Nat → Int32)) (z5_5 : (Nat → Int32)) (z5_6 : (Nat → Int32)) : Int32 × (Nat → Int32) × (Nat → Int32) × (Nat → Int32) × (Nat → Int32) × (Nat → Int32) × (Nat → Int32) × (Nat → Int32) × (Nat → Int32) × (Nat → Int32) := (z5_0, store, common, z5_1, z5_2, z5_3, z5_4, z5_5, timer, z5_6)
def f_X11_turn_c239 (timer : Nat → Int32) (z6_0 : Int32) (z6_1 : (Nat → Int32)) (z6_2 : (Nat → Int32)) (z6_3 : (Nat → Int32)) (z6_4 : (Nat → Int32)) (z6_5 : (Nat → Int32)) (z6_6 : (Nat → Int32)) (z6_7 : (Nat → Int32)) (z6_8 : (Nat → Int32)) : Int32 × (Nat → Int32) × (Nat → Int32) × (Nat → Int32) × (Nat → Int32) × (Nat → Int32) × (Nat → Int32) × (Nat → Int32) × (Nat → Int32) × (Nat → Int32) := (z6_0, z6_1, z6_2, z6_3, z6_4, z6_5, z6_6, z6_7, timer, z6_8)
def f_X11_turn_c255 (store : Nat → Int32) (common : Nat → Int32) (timer : Nat → Int32) (z7_0 : Int32) (z7_1 : (Nat → Int32)) (z7_2 : (Nat → Int32)) (z7_3 : (Nat → Int32)) (z7_4 : (Nat → Int32)) (z7_5 : (Nat → Int32)) (z7_6 : (Nat → Int32)) : Int32 × (Nat → Int32) × (Nat → Int32) × (Nat → Int32) × (Nat → Int32) × (Nat → Int32) × (Nat → Int32) × (Nat → Int32) × (Nat → Int32) × (Nat → Int32) := (z7_0, store, common, z7_1, z7_2, z7_3, z7_4, z7_5, timer, z7_6)
def f_X11_turn_c200 (store : Nat → Int32) (common : Nat → Int32) (status : Nat → Int32) (timer : Nat → Int32) (z8_0 : (Nat → Int32)) (z9_0 : Int32) (z9_1 : (Nat → Int32)) (z9_2 : (Nat → Int32)) (z9_3 : (Nat → Int32)) (z9_4 : (Nat → Int32)) : Int32 × (Nat → Int32) × (Nat → Int32) × (Nat → Int32) × (Nat → Int32) × (Nat → Int32) × (Nat → Int32) × (Nat → Int32) × (Nat → Int32) × (Nat → Int32) := (z9_0, store, common, z8_0, z9_1, status, z9_2, z9_3, timer, z9_4)
def f_X11_turn_c186 (t : Int32) (now : Int32) (store : Nat → Int32) (common : Nat → Int32) (address : Nat → Int32) (status : Nat → Int32) (did : Nat → Int32) (ready : Nat → Int32) (timer : Nat → Int32) (trace : Nat → Int32) (z8_0 : (Nat → Int32)) : Int32 × (Nat → Int32) × (Nat → Int32) × (Nat → Int32) × (Nat → Int32) × (Nat → Int32) × (Nat → Int32) × (Nat → Int32) × (Nat → Int32) × (Nat → Int32) := (f_X11_turn_c200 store common status timer z8_0 (f_X11_done t ((address (Int32.toNatClampNeg t)) + (4 : Int32)) (now + (4 : Int32)) now address did ready trace).1 (f_X11_done t ((address (Int32.toNatClampNeg t)) + (4 : Int32)) (now + (4 : Int32)) now address did ready trace).2.1 (f_X11_done t ((address (Int32.toNatClampNeg t)) + (4 : Int32)) (now + (4 : Int32)) now address did ready trace).2.2.1 (f_X11_done t ((address (Int32.toNatClampNeg t)) + (4 : Int32)) (now + (4 : Int32)) now address did ready trace).2.2.2.1 (f_X11_done t ((address (Int32.toNatClampNeg t)) + (4 : Int32)) (now + (4 : Int32)) now address did ready trace).2.2.2.2)
def f_X11_turn_c166 (store : Nat → Int32) (common : Nat → Int32) (register : Nat → Int32) (address : Nat → Int32) (did : Nat → Int32) (ready : Nat → Int32) (timer : Nat → Int32) (trace : Nat → Int32) (z10_0 : Int32) (z10_1 : (Nat → Int32)) : Int32 × (Nat → Int32) × (Nat → Int32) × (Nat → Int32) × (Nat → Int32) × (Nat → Int32) × (Nat → Int32) × (Nat → Int32) × (Nat → Int32) × (Nat → Int32) := (z10_0, store, common, register, address, z10_1, did, ready, timer, trace)
def f_X11_turn_c223 (store : Nat → Int32) (common : Nat → Int32) (register : Nat → Int32) (timer : Nat → Int32) (z11_0 : Int32) (z11_1 : (Nat → Int32)) (z11_2 : (Nat → Int32)) (z11_3 : (Nat → Int32)) (z11_4 : (Nat → Int32)) (z11_5 : (Nat → Int32)) : Int32 × (Nat → Int32) × (Nat → Int32) × (Nat → Int32) × (Nat → Int32) × (Nat → Int32) × (Nat → Int32) × (Nat → Int32) × (Nat → Int32) × (Nat → Int32) := (z11_0, store, common, register, z11_1, z11_2, z11_3, z11_4, timer, z11_5)
def f_X11_turn_c216 (store : Nat → Int32) (common : Nat → Int32) (timer : Nat → Int32) (z12_0 : Int32) (z12_1 : (Nat → Int32)) (z12_2 : (Nat → Int32)) (z12_3 : (Nat → Int32)) (z12_4 : (Nat → Int32)) (z12_5 : (Nat → Int32)) (z12_6 : (Nat → Int32)) : Int32 × (Nat → Int32) × (Nat → Int32) × (Nat → Int32) × (Nat → Int32) × (Nat → Int32) × (Nat → Int32) × (Nat → Int32) × (Nat → Int32) × (Nat → Int32) := (z12_0, store, common, z12_1, z12_2, z12_3, z12_4, z12_5, timer, z12_6)
def f_X11_turn_c208 (store : Nat → Int32) (common : Nat → Int32) (timer : Nat → Int32) (z13_0 : Int32) (z13_1 : (Nat → Int32)) (z13_2 : (Nat → Int32)) (z13_3 : (Nat → Int32)) (z13_4 : (Nat → Int32)) (z13_5 : (Nat → Int32)) (z13_6 : (Nat → Int32)) : Int32 × (Nat → Int32) × (Nat → Int32) × (Nat → Int32) × (Nat → Int32) × (Nat → Int32) × (Nat → Int32) × (Nat → Int32) × (Nat → Int32) × (Nat → Int32) := (z13_0, store, common, z13_1, z13_2, z13_3, z13_4, z13_5, timer, z13_6)
def f_X11_turn_c296 (t : Int32) (store : Nat → Int32) (common : Nat → Int32) (register : Nat → Int32) (status : Nat → Int32) (timer : Nat → Int32) (z14_0 : Int32) (z14_1 : (Nat → Int32)) (z14_2 : (Nat → Int32)) (z14_3 : (Nat → Int32)) (z14_4 : (Nat → Int32)) : Int32 × (Nat → Int32) × (Nat → Int32) × (Nat → Int32) × (Nat → Int32) × (Nat → Int32) × (Nat → Int32) × (Nat → Int32) × (Nat → Int32) × (Nat → Int32) := (z14_0, store, common, register, z14_1, (upd status (Int32.toNatClampNeg t) (2 : Int32)), z14_2, z14_3, timer, z14_4)
def f_X11_turn_c274 (store : Nat → Int32) (common : Nat → Int32) (register : Nat → Int32) (address : Nat → Int32) (did : Nat → Int32) (ready : Nat → Int32) (timer : Nat → Int32) (trace : Nat → Int32) (z15_0 : Int32) (z15_1 : (Nat → Int32)) : Int32 × (Nat → Int32) × (Nat → Int32) × (Nat → Int32) × (Nat → Int32) × (Nat → Int32) × (Nat → Int32) × (Nat → Int32) × (Nat → Int32) × (Nat → Int32) := (z15_0, store, common, register, address, z15_1, did, ready, timer, trace)
def f_X11_turn_c39 (t : Int32) (wheel : Int32) (now : Int32) (store : Nat → Int32) (common : Nat → Int32) (low : Nat → Int32) (high : Nat → Int32) (register : Nat → Int32) (address : Nat → Int32) (status : Nat → Int32) (did : Nat → Int32) (ready : Nat → Int32) (timer : Nat → Int32) (trace : Nat → Int32) (z2_0 : Int32) : Int32 × (Nat → Int32) × (Nat → Int32) × (Nat → Int32) × (Nat → Int32) × (Nat → Int32) × (Nat → Int32) × (Nat → Int32) × (Nat → Int32) × (Nat → Int32) := (if z2_0 = 0 then (f_X11_turn_45 store common register address status did ready timer trace t) else (if ((store (Int32.toNatClampNeg (((128 : Int32) * t) + ((address (Int32.toNatClampNeg t)) / (4 : Int32))))) &&& (127 : Int32)) = (3 : Int32) then (f_X11_turn_c231 timer (f_X11_moveWord t (store (Int32.toNatClampNeg (((128 : Int32) * t) + ((address (Int32.toNatClampNeg t)) / (4 : Int32))))) (0 : Int32) wheel now store common low high register address status did ready trace).1 (f_X11_moveWord t (store (Int32.toNatClampNeg (((128 : Int32) * t) + ((address (Int32.toNatClampNeg t)) / (4 : Int32))))) (0 : Int32) wheel now store common low high register address status did ready trace).2.1 (f_X11_moveWord t (store (Int32.toNatClampNeg (((128 : Int32) * t) + ((address (Int32.toNatClampNeg t)) / (4 : Int32))))) (0 : Int32) wheel now store common low high register address status did ready trace).2.2.1 (f_X11_moveWord t (store (Int32.toNatClampNeg (((128 : Int32) * t) + ((address (Int32.toNatClampNeg t)) / (4 : Int32))))) (0 : Int32) wheel now store common low high register address status did ready trace).2.2.2.1 (f_X11_moveWord t (store (Int32.toNatClampNeg (((128 : Int32) * t) + ((address (Int32.toNatClampNeg t)) / (4 : Int32))))) (0 : Int32) wheel now store common low high register address status did ready trace).2.2.2.2.1 (f_X11_moveWord t (store (Int32.toNatClampNeg (((128 : Int32) * t) + ((address (Int32.toNatClampNeg t)) / (4 : Int32))))) (0 : Int32) wheel now store common low high register address status did ready trace).2.2.2.2.2.1 (f_X11_moveWord t (store (Int32.toNatClampNeg (((128 : Int32) * t) + ((address (Int32.toNatClampNeg t)) / (4 : Int32))))) (0 : Int32) wheel now store common low high register address status did ready trace).2.2.2.2.2.2.1 (f_X11_moveWord t (store (Int32.toNatClampNeg (((128 : Int32) * t) + ((address (Int32.toNatClampNeg t)) / (4 : Int32))))) (0 : Int32) wheel now store common low high register address status did ready trace).2.2.2.2.2.2.2.1 (f_X11_moveWord t (store (Int32.toNatClampNeg (((128 : Int32) * t) + ((address (Int32.toNatClampNeg t)) / (4 : Int32))))) (0 : Int32) wheel now store common low high register address status did ready trace).2.2.2.2.2.2.2.2) else (if ((store (Int32.toNatClampNeg (((128 : Int32) * t) + ((address (Int32.toNatClampNeg t)) / (4 : Int32))))) &&& (127 : Int32)) = (11 : Int32) then (f_X11_turn_c262 store common (f_X11_clock t (store (Int32.toNatClampNeg (((128 : Int32) * t) + ((address (Int32.toNatClampNeg t)) / (4 : Int32))))) now register address status did ready timer trace).1 (f_X11_clock t (store (Int32.toNatClampNeg (((128 : Int32) * t) + ((address (Int32.toNatClampNeg t)) / (4 : Int32))))) now register address status did ready timer trace).2.1 (f_X11_clock t (store (Int32.toNatClampNeg (((128 : Int32) * t) + ((address (Int32.toNatClampNeg t)) / (4 : Int32))))) now register address status did ready timer trace).2.2.1 (f_X11_clock t (store (Int32.toNatClampNeg (((128 : Int32) * t) + ((address (Int32.toNatClampNeg t)) / (4 : Int32))))) now register address status did ready timer trace).2.2.2.1 (f_X11_clock t (store (Int32.toNatClampNeg (((128 : Int32) * t) + ((address (Int32.toNatClampNeg t)) / (4 : Int32))))) now register address status did ready timer trace).2.2.2.2.1 (f_X11_clock t (store (Int32.toNatClampNeg (((128 : Int32) * t) + ((address (Int32.toNatClampNeg t)) / (4 : Int32))))) now register address status did ready timer trace).2.2.2.2.2.1 (f_X11_clock t (store (Int32.toNatClampNeg (((128 : Int32) * t) + ((address (Int32.toNatClampNeg t)) / (4 : Int32))))) now register address status did ready timer trace).2.2.2.2.2.2.1 (f_X11_clock t (store (Int32.toNatClampNeg (((128 : Int32) * t) + ((address (Int32.toNatClampNeg t)) / (4 : Int32))))) now register address status did ready timer trace).2.2.2.2.2.2.2) else (if ((store (Int32.toNatClampNeg (((128 : Int32) * t) + ((address (Int32.toNatClampNeg t)) / (4 : Int32))))) &&& (127 : Int32)) = (19 : Int32) then (f_X11_turn_c247 store common timer (f_X11_calculate t (store (Int32.toNatClampNeg (((128 : Int32) * t) + ((address (Int32.toNatClampNeg t)) / (4 : Int32))))) (0 : Int32) now register address status did ready trace).1 (f_X11_calculate t (store (Int32.toNatClampNeg (((128 : Int32) * t) + ((address (Int32.toNatClampNeg t)) / (4 : Int32))))) (0 : Int32) now register address status did ready trace).2.1 (f_X11_calculate t (store (Int32.toNatClampNeg (((128 : Int32) * t) + ((address (Int32.toNatClampNeg t)) / (4 : Int32))))) (0 : Int32) now register address status did ready trace).2.2.1 (f_X11_calculate t (store (Int32.toNatClampNeg (((128 : Int32) * t) + ((address (Int32.toNatClampNeg t)) / (4 : Int32))))) (0 : Int32) now register address status did ready trace).2.2.2.1 (f_X11_calculate t (store (Int32.toNatClampNeg (((128 : Int32) * t) + ((address (Int32.toNatClampNeg t)) / (4 : Int32))))) (0 : Int32) now register address status did ready trace).2.2.2.2.1 (f_X11_calculate t (store (Int32.toNatClampNeg (((128 : Int32) * t) + ((address (Int32.toNatClampNeg t)) / (4 : Int32))))) (0 : Int32) now register address status did ready trace).2.2.2.2.2.1 (f_X11_calculate t (store (Int32.toNatClampNeg (((128 : Int32) * t) + ((address (Int32.toNatClampNeg t)) / (4 : Int32))))) (0 : Int32) now register address status did ready trace).2.2.2.2.2.2) else (if ((store (Int32.toNatClampNeg (((128 : Int32) * t) + ((address (Int32.toNatClampNeg t)) / (4 : Int32))))) &&& (127 : Int32)) = (35 : Int32) then (f_X11_turn_c239 timer (f_X11_moveWord t (store (Int32.toNatClampNeg (((128 : Int32) * t) + ((address (Int32.toNatClampNeg t)) / (4 : Int32))))) (1 : Int32) wheel now store common low high register address status did ready trace).1 (f_X11_moveWord t (store (Int32.toNatClampNeg (((128 : Int32) * t) + ((address (Int32.toNatClampNeg t)) / (4 : Int32))))) (1 : Int32) wheel now store common low high register address status did ready trace).2.1 (f_X11_moveWord t (store (Int32.toNatClampNeg (((128 : Int32) * t) + ((address (Int32.toNatClampNeg t)) / (4 : Int32))))) (1 : Int32) wheel now store common low high register address status did ready trace).2.2.1 (f_X11_moveWord t (store (Int32.toNatClampNeg (((128 : Int32) * t) + ((address (Int32.toNatClampNeg t)) / (4 : Int32))))) (1 : Int32) wheel now store common low high register address status did ready trace).2.2.2.1 (f_X11_moveWord t (store (Int32.toNatClampNeg (((128 : Int32) * t) + ((address (Int32.toNatClampNeg t)) / (4 : Int32))))) (1 : Int32) wheel now store common low high register address status did ready trace).2.2.2.2.1 (f_X11_moveWord t (store (Int32.toNatClampNeg (((128 : Int32) * t) + ((address (Int32.toNatClampNeg t)) / (4 : Int32))))) (1 : Int32) wheel now store common low high register address status did ready trace).2.2.2.2.2.1 (f_X11_moveWord t (store (Int32.toNatClampNeg (((128 : Int32) * t) + ((address (Int32.toNatClampNeg t)) / (4 : Int32))))) (1 : Int32) wheel now store common low high register address status did ready trace).2.2.2.2.2.2.1 (f_X11_moveWord t (store (Int32.toNatClampNeg (((128 : Int32) * t) + ((address (Int32.toNatClampNeg t)) / (4 : Int32))))) (1 : Int32) wheel now store common low high register address status did ready trace).2.2.2.2.2.2.2.1 (f_X11_moveWord t (store (Int32.toNatClampNeg (((128 : Int32) * t) + ((address (Int32.toNatClampNeg t)) / (4 : Int32))))) (1 : Int32) wheel now store common low high register address status did ready trace).2.2.2.2.2.2.2.2) else (if ((store (Int32.toNatClampNeg (((128 : Int32) * t) + ((address (Int32.toNatClampNeg t)) / (4 : Int32))))) &&& (127 : Int32)) = (51 : Int32) then (f_X11_turn_c255 store common timer (f_X11_calculate t (store (Int32.toNatClampNeg (((128 : Int32) * t) + ((address (Int32.toNatClampNeg t)) / (4 : Int32))))) (1 : Int32) now register address status did ready trace).1 (f_X11_calculate t (store (Int32.toNatClampNeg (((128 : Int32) * t) + ((address (Int32.toNatClampNeg t)) / (4 : Int32))))) (1 : Int32) now register address status did ready trace).2.1 (f_X11_calculate t (store (Int32.toNatClampNeg (((128 : Int32) * t) + ((address (Int32.toNatClampNeg t)) / (4 : Int32))))) (1 : Int32) now register address status did ready trace).2.2.1 (f_X11_calculate t (store (Int32.toNatClampNeg (((128 : Int32) * t) + ((address (Int32.toNatClampNeg t)) / (4 : Int32))))) (1 : Int32) now register address status did ready trace).2.2.2.1 (f_X11_calculate t (store (Int32.toNatClampNeg (((128 : Int32) * t) + ((address (Int32.toNatClampNeg t)) / (4 : Int32))))) (1 : Int32) now register address status did ready trace).2.2.2.2.1 (f_X11_calculate t (store (Int32.toNatClampNeg (((128 : Int32) * t) + ((address (Int32.toNatClampNeg t)) / (4 : Int32))))) (1 : Int32) now register address status did ready trace).2.2.2.2.2.1 (f_X11_calculate t (store (Int32.toNatClampNeg (((128 : Int32) * t) + ((address (Int32.toNatClampNeg t)) / (4 : Int32))))) (1 : Int32) now register address status did ready trace).2.2.2.2.2.2) else (if ((store (Int32.toNatClampNeg (((128 : Int32) * t) + ((address (Int32.toNatClampNeg t)) / (4 : Int32))))) &&& (127 : Int32)) = (55 : Int32) then (if (((store (Int32.toNatClampNeg (((128 : Int32) * t) + ((address (Int32.toNatClampNeg t)) / (4 : Int32))))) >>> ((7 : Int32) &&& 31)) &&& (31 : Int32)) ≤ (15 : Int32) then (f_X11_turn_c186 t now store common address status did ready timer trace (f_X11_set t (((store (Int32.toNatClampNeg (((128 : Int32) * t) + ((address (Int32.toNatClampNeg t)) / (4 : Int32))))) >>> ((7 : Int32) &&& 31)) &&& (31 : Int32)) (((store (Int32.toNatClampNeg (((128 : Int32) * t) + ((address (Int32.toNatClampNeg t)) / (4 : Int32))))) >>> ((12 : Int32) &&& 31)) <<< ((12 : Int32) &&& 31)) register)) else (f_X11_turn_c166 store common register address did ready timer trace (f_X11_stop t status).1 (f_X11_stop t status).2)) else (if ((store (Int32.toNatClampNeg (((128 : Int32) * t) + ((address (Int32.toNatClampNeg t)) / (4 : Int32))))) &&& (127 : Int32)) = (99 : Int32) then (f_X11_turn_c223 store common register timer (f_X11_branch t (store (Int32.toNatClampNeg (((128 : Int32) * t) + ((address (Int32.toNatClampNeg t)) / (4 : Int32))))) now register address status did ready trace).1 (f_X11_branch t (store (Int32.toNatClampNeg (((128 : Int32) * t) + ((address (Int32.toNatClampNeg t)) / (4 : Int32))))) now register address status did ready trace).2.1 (f_X11_branch t (store (Int32.toNatClampNeg (((128 : Int32) * t) + ((address (Int32.toNatClampNeg t)) / (4 : Int32))))) now register address status did ready trace).2.2.1 (f_X11_branch t (store (Int32.toNatClampNeg (((128 : Int32) * t) + ((address (Int32.toNatClampNeg t)) / (4 : Int32))))) now register address status did ready trace).2.2.2.1 (f_X11_branch t (store (Int32.toNatClampNeg (((128 : Int32) * t) + ((address (Int32.toNatClampNeg t)) / (4 : Int32))))) now register address status did ready trace).2.2.2.2.1 (f_X11_branch t (store (Int32.toNatClampNeg (((128 : Int32) * t) + ((address (Int32.toNatClampNeg t)) / (4 : Int32))))) now register address status did ready trace).2.2.2.2.2) else (if ((store (Int32.toNatClampNeg (((128 : Int32) * t) + ((address (Int32.toNatClampNeg t)) / (4 : Int32))))) &&& (127 : Int32)) = (103 : Int32) then (f_X11_turn_c216 store common timer (f_X11_jump t (store (Int32.toNatClampNeg (((128 : Int32) * t) + ((address (Int32.toNatClampNeg t)) / (4 : Int32))))) (1 : Int32) now register address status did ready trace).1 (f_X11_jump t (store (Int32.toNatClampNeg (((128 : Int32) * t) + ((address (Int32.toNatClampNeg t)) / (4 : Int32))))) (1 : Int32) now register address status did ready trace).2.1 (f_X11_jump t (store (Int32.toNatClampNeg (((128 : Int32) * t) + ((address (Int32.toNatClampNeg t)) / (4 : Int32))))) (1 : Int32) now register address status did ready trace).2.2.1 (f_X11_jump t (store (Int32.toNatClampNeg (((128 : Int32) * t) + ((address (Int32.toNatClampNeg t)) / (4 : Int32))))) (1 : Int32) now register address status did ready trace).2.2.2.1 (f_X11_jump t (store (Int32.toNatClampNeg (((128 : Int32) * t) + ((address (Int32.toNatClampNeg t)) / (4 : Int32))))) (1 : Int32) now register address status did ready trace).2.2.2.2.1 (f_X11_jump t (store (Int32.toNatClampNeg (((128 : Int32) * t) + ((address (Int32.toNatClampNeg t)) / (4 : Int32))))) (1 : Int32) now register address status did ready trace).2.2.2.2.2.1 (f_X11_jump t (store (Int32.toNatClampNeg (((128 : Int32) * t) + ((address (Int32.toNatClampNeg t)) / (4 : Int32))))) (1 : Int32) now register address status did ready trace).2.2.2.2.2.2) else (if ((store (Int32.toNatClampNeg (((128 : Int32) * t) + ((address (Int32.toNatClampNeg t)) / (4 : Int32))))) &&& (127 : Int32)) = (111 : Int32) then (f_X11_turn_c208 store common timer (f_X11_jump t (store (Int32.toNatClampNeg (((128 : Int32) * t) + ((address (Int32.toNatClampNeg t)) / (4 : Int32))))) (0 : Int32) now register address status did ready trace).1 (f_X11_jump t (store (Int32.toNatClampNeg (((128 : Int32) * t) + ((address (Int32.toNatClampNeg t)) / (4 : Int32))))) (0 : Int32) now register address status did ready trace).2.1 (f_X11_jump t (store (Int32.toNatClampNeg (((128 : Int32) * t) + ((address (Int32.toNatClampNeg t)) / (4 : Int32))))) (0 : Int32) now register address status did ready trace).2.2.1 (f_X11_jump t (store (Int32.toNatClampNeg (((128 : Int32) * t) + ((address (Int32.toNatClampNeg t)) / (4 : Int32))))) (0 : Int32) now register address status did ready trace).2.2.2.1 (f_X11_jump t (store (Int32.toNatClampNeg (((128 : Int32) * t) + ((address (Int32.toNatClampNeg t)) / (4 : Int32))))) (0 : Int32) now register address status did ready trace).2.2.2.2.1 (f_X11_jump t (store (Int32.toNatClampNeg (((128 : Int32) * t) + ((address (Int32.toNatClampNeg t)) / (4 : Int32))))) (0 : Int32) now register address status did ready trace).2.2.2.2.2.1 (f_X11_jump t (store (Int32.toNatClampNeg (((128 : Int32) * t) + ((address (Int32.toNatClampNeg t)) / (4 : Int32))))) (0 : Int32) now register address status did ready trace).2.2.2.2.2.2) else (if (store (Int32.toNatClampNeg (((128 : Int32) * t) + ((address (Int32.toNatClampNeg t)) / (4 : Int32))))) = (115 : Int32) then (f_X11_turn_c296 t store common register status timer (f_X11_done t ((address (Int32.toNatClampNeg t)) + (4 : Int32)) (now + (4 : Int32)) now address did ready trace).1 (f_X11_done t ((address (Int32.toNatClampNeg t)) + (4 : Int32)) (now + (4 : Int32)) now address did ready trace).2.1 (f_X11_done t ((address (Int32.toNatClampNeg t)) + (4 : Int32)) (now + (4 : Int32)) now address did ready trace).2.2.1 (f_X11_done t ((address (Int32.toNatClampNeg t)) + (4 : Int32)) (now + (4 : Int32)) now address did ready trace).2.2.2.1 (f_X11_done t ((address (Int32.toNatClampNeg t)) + (4 : Int32)) (now + (4 : Int32)) now address did ready trace).2.2.2.2) else (f_X11_turn_c274 store common register address did ready timer trace (f_X11_stop t status).1 (f_X11_stop t status).2))))))))))))
def f_X11_turn (t : Int32) (wheel : Int32) (now : Int32) (store : Nat → Int32) (common : Nat → Int32) (low : Nat → Int32) (high : Nat → Int32) (register : Nat → Int32) (address : Nat → Int32) (status : Nat → Int32) (did : Nat → Int32) (ready : Nat → Int32) (timer : Nat → Int32) (trace : Nat → Int32) : Int32 × (Nat → Int32) × (Nat → Int32) × (Nat → Int32) × (Nat → Int32) × (Nat → Int32) × (Nat → Int32) × (Nat → Int32) × (Nat → Int32) × (Nat → Int32) := (if (status (Int32.toNatClampNeg t)) = (1 : Int32) then (if (ready (Int32.toNatClampNeg t)) ≤ now then (if ((address (Int32.toNatClampNeg t)) &&& (3 : Int32)) = 0 then (f_X11_turn_c39 t wheel now store common low high register address status did ready timer trace (f_X11_isOwn (address (Int32.toNatClampNeg t)))) else (f_X11_turn_45 store common register address status did ready timer trace t)) else ((0 : Int32), store, common, register, address, status, did, ready, timer, trace)) else ((0 : Int32), store, common, register, address, status, did, ready, timer, trace))
set_option maxRecDepth 20000 in
theorem k_X11_turn {t : Int32} {refusal : Int32} {wheel : Int32} {now : Int32} {length : Int32} {at_ : Int32} {fault : Int32} {faultLine : Int32} {line : Int32} {words : Int32} {labels : Int32} {targets : Int32} {wrong : Int32} {unfit : Int32} {text : Nat → Int32} {code_ : Nat → Int32} {label : Nat → Int64} {labelWord : Nat → Int32} {target : Nat → Int64} {targetWord : Nat → Int32} {targetLine : Nat → Int32} {store : Nat → Int32} {common : Nat → Int32} {low : Nat → Int32} {high : Nat → Int32} {register : Nat → Int32} {address : Nat → Int32} {status : Nat → Int32} {did : Nat → Int32} {ready : Nat → Int32} {timer : Nat → Int32} {trace : Nat → Int32} (ht : 0 ≤ t.toInt ∧ t.toInt < 4) (hdid : ∀ j, j < 4 → 0 ≤ (did j).toInt) (hlh : ∀ j, j < 4 → 0 ≤ (low j).toInt ∧ (low j).toInt ≤ (high j).toInt ∧ (high j).toInt ≤ 64) (hwh : 1 ≤ wheel.toInt ∧ wheel.toInt ≤ 8) (hnow : 0 ≤ now.toInt ∧ now.toInt ≤ 1100000) {r_0 : Int32} {r_1 : (Nat → Int32)} {r_2 : (Nat → Int32)} {r_3 : (Nat → Int32)} {r_4 : (Nat → Int32)} {r_5 : (Nat → Int32)} {r_6 : (Nat → Int32)} {r_7 : (Nat → Int32)} {r_8 : (Nat → Int32)} {r_9 : (Nat → Int32)} (hres : (r_0, r_1, r_2, r_3, r_4, r_5, r_6, r_7, r_8, r_9) = f_X11_turn t wheel now store common low high register address status did ready timer trace) : K M_X11_turn yX11_turn [.ref 0, .int t] (w_M refusal wheel now length at_ fault faultLine line words labels targets wrong unfit text code_ label labelWord target targetWord targetLine store common low high register address status did ready timer trace) (some (.int r_0)) (w_M refusal wheel now length at_ fault faultLine line words labels targets wrong unfit text code_ label labelWord target targetWord targetLine r_1 r_2 low high r_3 r_4 r_5 r_6 r_7 r_8 r_9) := by
  refine K.of (lv := [(0, .ref 0), (1, .int t)]) (by decide +kernel) rfl rfl rfl ?_
  rw [f_X11_turn] at hres
  refine G.aload_n (pc := 0) dm_X11_turn_0 rfl ?_
  refine G.getfield (pc := 1) dm_X11_turn_1 gf_X11_51 rfl rfl ?_
  refine G.iload_n (pc := 4) dm_X11_turn_4 rfl ?_
  refine G.iaload (pc := 5) dm_X11_turn_5 rfl (q_t ht) ?_
  refine G.iconst (pc := 6) (v := (1 : Int32)) dm_X11_turn_6 qi_1 ?_
  refine G.icmp_ne (pc := 7) (tgt := 23) dm_X11_turn_7 (by decide) (fun c7 => ?_) (fun c7 => ?_)
  · rw [if_neg c7] at hres
    refine G.iconst (pc := 23) (v := (0 : Int32)) dm_X11_turn_23 qi_0 ?_
    cases hres
    exact G.ireturn (pc := 24) dm_X11_turn_24 rfl rfl rfl
  · rw [if_pos c7] at hres
    refine G.aload_n (pc := 10) dm_X11_turn_10 rfl ?_
    refine G.getfield (pc := 11) dm_X11_turn_11 gf_X11_291 rfl rfl ?_
    refine G.aload_n (pc := 14) dm_X11_turn_14 rfl ?_
    refine G.getfield (pc := 15) dm_X11_turn_15 gf_X11_57 rfl rfl ?_
    refine G.iload_n (pc := 18) dm_X11_turn_18 rfl ?_
    refine G.iaload (pc := 19) dm_X11_turn_19 rfl (q_t ht) ?_
    refine G.icmp_ge (pc := 20) (tgt := 25) dm_X11_turn_20 (by decide) (fun c20 => ?_) (fun c20 => ?_)
    · rw [if_pos c20] at hres
      refine G.aload_n (pc := 25) dm_X11_turn_25 rfl ?_
      refine G.getfield (pc := 26) dm_X11_turn_26 gf_X11_48 rfl rfl ?_
      refine G.iload_n (pc := 29) dm_X11_turn_29 rfl ?_
      refine G.iaload (pc := 30) dm_X11_turn_30 rfl (q_t ht) ?_
      refine G.istore_n (pc := 31) (lv1 := [(2, .int (address (Int32.toNatClampNeg t))), (0, .ref 0), (1, .int t)]) dm_X11_turn_31 rfl rfl ?_
      refine G.iload_n (pc := 32) dm_X11_turn_32 rfl ?_
      refine G.iconst (pc := 33) (v := (3 : Int32)) dm_X11_turn_33 qi_3 ?_
      refine G.iand (pc := 34) dm_X11_turn_34 ?_
      refine G.if_ne (pc := 35) (tgt := 45) dm_X11_turn_35 (by decide) (fun c35 => ?_) (fun c35 => ?_)
      · rw [if_neg c35] at hres
        refine G.lvp [1, 2] rfl ?_
        exact j_X11_turn_45 hres (by first | assumption | exact q_31 _ | exact q_7 _)
      · rw [if_pos c35] at hres
        refine G.iload_n (pc := 38) dm_X11_turn_38 rfl ?_
        obtain ⟨z2_0, hz2⟩ := g_ex1 (f_X11_isOwn (address (Int32.toNatClampNeg t)))
        refine G.callS (pc := 39) (rest := []) (st1 := [.int z2_0]) (ws1 := (w_M refusal wheel now length at_ fault faultLine line words labels targets wrong unfit text code_ label labelWord target targetWord targetLine store common low high register address status did ready timer trace)) [] dm_X11_turn_39 gc_X11_turn_288 (k_X11_isOwn (a := (address (Int32.toNatClampNeg t))) hz2) rfl rfl rfl rfl rfl rfl rfl rfl ?_
        have own := a_isOwn hz2.symm
        replace hres : (r_0, r_1, r_2, r_3, r_4, r_5, r_6, r_7, r_8, r_9) = f_X11_turn_c39 t wheel now store common low high register address status did ready timer trace z2_0 := hres.trans (by rw [← hz2])
        rw [f_X11_turn_c39] at hres
        refine G.if_ne (pc := 42) (tgt := 51) dm_X11_turn_42 (by decide) (fun c42 => ?_) (fun c42 => ?_)
        · rw [if_neg c42] at hres
          refine G.aload_n (pc := 51) dm_X11_turn_51 rfl ?_
          refine G.getfield (pc := 52) dm_X11_turn_52 gf_X11_33 rfl rfl ?_
          refine G.sipush (pc := 55) (v := (128 : Int32)) dm_X11_turn_55 qs_128 ?_
          refine G.iload_n (pc := 58) dm_X11_turn_58 rfl ?_
          refine G.imul (pc := 59) dm_X11_turn_59 ?_
          refine G.iload_n (pc := 60) dm_X11_turn_60 rfl ?_
          refine G.iconst (pc := 61) (v := (4 : Int32)) dm_X11_turn_61 qi_4 ?_
          refine G.idiv (pc := 62) dm_X11_turn_62 (by decide) ?_
          refine G.iadd (pc := 63) dm_X11_turn_63 ?_
          refine G.iaload (pc := 64) dm_X11_turn_64 rfl (q_w4 ht (own.1 c42)) ?_
          refine G.istore_n (pc := 65) (lv1 := [(3, .int (store (Int32.toNatClampNeg (((128 : Int32) * t) + ((address (Int32.toNatClampNeg t)) / (4 : Int32)))))), (2, .int (address (Int32.toNatClampNeg t))), (0, .ref 0), (1, .int t)]) dm_X11_turn_65 rfl rfl ?_
          refine G.iload_n (pc := 66) dm_X11_turn_66 rfl ?_
          refine G.bipush (pc := 67) (v := (127 : Int32)) dm_X11_turn_67 qb_127 ?_
          refine G.iand (pc := 69) dm_X11_turn_69 ?_
          by_cases c70_0 : ((store (Int32.toNatClampNeg (((128 : Int32) * t) + ((address (Int32.toNatClampNeg t)) / (4 : Int32))))) &&& (127 : Int32)) = (3 : Int32)
          · rw [if_pos c70_0] at hres
            refine G.lookup (pc := 70) (tgt := 227) dm_X11_turn_70 (by decide) (by rw [c70_0] <;> rfl) (by decide) ?_
            refine G.aload_n (pc := 227) dm_X11_turn_227 rfl ?_
            refine G.iload_n (pc := 228) dm_X11_turn_228 rfl ?_
            refine G.iload_n (pc := 229) dm_X11_turn_229 rfl ?_
            refine G.iconst (pc := 230) (v := (0 : Int32)) dm_X11_turn_230 qi_0 ?_
            obtain ⟨z3_0, z3_1, z3_2, z3_3, z3_4, z3_5, z3_6, z3_7, z3_8, hz3⟩ := g_ex9 (f_X11_moveWord t (store (Int32.toNatClampNeg (((128 : Int32) * t) + ((address (Int32.toNatClampNeg t)) / (4 : Int32))))) (0 : Int32) wheel now store common low high register address status did ready trace)
            refine G.callV0 (pc := 231) (rest := []) (st1 := [.int z3_0]) dm_X11_turn_231 gc_X11_turn_340 (k_X11_moveWord (t := t) (w := (store (Int32.toNatClampNeg (((128 : Int32) * t) + ((address (Int32.toNatClampNeg t)) / (4 : Int32)))))) (stores := (0 : Int32)) (refusal := refusal) (wheel := wheel) (now := now) (length := length) (at_ := at_) (fault := fault) (faultLine := faultLine) (line := line) (words := words) (labels := labels) (targets := targets) (wrong := wrong) (unfit := unfit) (text := text) (code_ := code_) (label := label) (labelWord := labelWord) (target := target) (targetWord := targetWord) (targetLine := targetLine) (store := store) (common := common) (low := low) (high := high) (register := register) (address := address) (status := status) (did := did) (ready := ready) (timer := timer) (trace := trace) (by first | assumption | exact q_31 _ | exact q_7 _) (by first | assumption | exact q_31 _ | exact q_7 _) (by first | assumption | exact q_31 _ | exact q_7 _) (by first | assumption | exact q_31 _ | exact q_7 _) (by first | assumption | exact q_31 _ | exact q_7 _) hz3) rfl rfl rfl rfl rfl rfl rfl rfl ?_
            replace hres : (r_0, r_1, r_2, r_3, r_4, r_5, r_6, r_7, r_8, r_9) = f_X11_turn_c231 timer z3_0 z3_1 z3_2 z3_3 z3_4 z3_5 z3_6 z3_7 z3_8 := hres.trans (by rw [← hz3])
            rw [f_X11_turn_c231] at hres
            cases hres
            exact G.ireturn (pc := 234) dm_X11_turn_234 rfl rfl rfl
          rw [if_neg c70_0] at hres
          by_cases c70_1 : ((store (Int32.toNatClampNeg (((128 : Int32) * t) + ((address (Int32.toNatClampNeg t)) / (4 : Int32))))) &&& (127 : Int32)) = (11 : Int32)
          · rw [if_pos c70_1] at hres
            refine G.lookup (pc := 70) (tgt := 259) dm_X11_turn_70 (by decide) (by rw [c70_1] <;> rfl) (by decide) ?_
            refine G.aload_n (pc := 259) dm_X11_turn_259 rfl ?_
            refine G.iload_n (pc := 260) dm_X11_turn_260 rfl ?_
            refine G.iload_n (pc := 261) dm_X11_turn_261 rfl ?_
            obtain ⟨z4_0, z4_1, z4_2, z4_3, z4_4, z4_5, z4_6, z4_7, hz4⟩ := g_ex8 (f_X11_clock t (store (Int32.toNatClampNeg (((128 : Int32) * t) + ((address (Int32.toNatClampNeg t)) / (4 : Int32))))) now register address status did ready timer trace)
            refine G.callV0 (pc := 262) (rest := []) (st1 := [.int z4_0]) dm_X11_turn_262 gc_X11_turn_346 (k_X11_clock (t := t) (w := (store (Int32.toNatClampNeg (((128 : Int32) * t) + ((address (Int32.toNatClampNeg t)) / (4 : Int32)))))) (refusal := refusal) (wheel := wheel) (now := now) (length := length) (at_ := at_) (fault := fault) (faultLine := faultLine) (line := line) (words := words) (labels := labels) (targets := targets) (wrong := wrong) (unfit := unfit) (text := text) (code_ := code_) (label := label) (labelWord := labelWord) (target := target) (targetWord := targetWord) (targetLine := targetLine) (store := store) (common := common) (low := low) (high := high) (register := register) (address := address) (status := status) (did := did) (ready := ready) (timer := timer) (trace := trace) (by first | assumption | exact q_31 _ | exact q_7 _) (by first | assumption | exact q_31 _ | exact q_7 _) hz4) rfl rfl rfl rfl rfl rfl rfl rfl ?_
            replace hres : (r_0, r_1, r_2, r_3, r_4, r_5, r_6, r_7, r_8, r_9) = f_X11_turn_c262 store common z4_0 z4_1 z4_2 z4_3 z4_4 z4_5 z4_6 z4_7 := hres.trans (by rw [← hz4])
            rw [f_X11_turn_c262] at hres
            cases hres
            exact G.ireturn (pc := 265) dm_X11_turn_265 rfl rfl rfl
          rw [if_neg c70_1] at hres
          by_cases c70_2 : ((store (Int32.toNatClampNeg (((128 : Int32) * t) + ((address (Int32.toNatClampNeg t)) / (4 : Int32))))) &&& (127 : Int32)) = (19 : Int32)
          · rw [if_pos c70_2] at hres
            refine G.lookup (pc := 70) (tgt := 243) dm_X11_turn_70 (by decide) (by rw [c70_2] <;> rfl) (by decide) ?_
            refine G.aload_n (pc := 243) dm_X11_turn_243 rfl ?_
            refine G.iload_n (pc := 244) dm_X11_turn_244 rfl ?_
            refine G.iload_n (pc := 245) dm_X11_turn_245 rfl ?_
            refine G.iconst (pc := 246) (v := (0 : Int32)) dm_X11_turn_246 qi_0 ?_
            obtain ⟨z5_0, z5_1, z5_2, z5_3, z5_4, z5_5, z5_6, hz5⟩ := g_ex7 (f_X11_calculate t (store (Int32.toNatClampNeg (((128 : Int32) * t) + ((address (Int32.toNatClampNeg t)) / (4 : Int32))))) (0 : Int32) now register address status did ready trace)
            refine G.callV0 (pc := 247) (rest := []) (st1 := [.int z5_0]) dm_X11_turn_247 gc_X11_turn_343 (k_X11_calculate (t := t) (w := (store (Int32.toNatClampNeg (((128 : Int32) * t) + ((address (Int32.toNatClampNeg t)) / (4 : Int32)))))) (plain := (0 : Int32)) (refusal := refusal) (wheel := wheel) (now := now) (length := length) (at_ := at_) (fault := fault) (faultLine := faultLine) (line := line) (words := words) (labels := labels) (targets := targets) (wrong := wrong) (unfit := unfit) (text := text) (code_ := code_) (label := label) (labelWord := labelWord) (target := target) (targetWord := targetWord) (targetLine := targetLine) (store := store) (common := common) (low := low) (high := high) (register := register) (address := address) (status := status) (did := did) (ready := ready) (timer := timer) (trace := trace) (by first | assumption | exact q_31 _ | exact q_7 _) (by first | assumption | exact q_31 _ | exact q_7 _) hz5) rfl rfl rfl rfl rfl rfl rfl rfl ?_
            replace hres : (r_0, r_1, r_2, r_3, r_4, r_5, r_6, r_7, r_8, r_9) = f_X11_turn_c247 store common timer z5_0 z5_1 z5_2 z5_3 z5_4 z5_5 z5_6 := hres.trans (by rw [← hz5])
            rw [f_X11_turn_c247] at hres
            cases hres
            exact G.ireturn (pc := 250) dm_X11_turn_250 rfl rfl rfl
          rw [if_neg c70_2] at hres
          by_cases c70_3 : ((store (Int32.toNatClampNeg (((128 : Int32) * t) + ((address (Int32.toNatClampNeg t)) / (4 : Int32))))) &&& (127 : Int32)) = (35 : Int32)
          · rw [if_pos c70_3] at hres
            refine G.lookup (pc := 70) (tgt := 235) dm_X11_turn_70 (by decide) (by rw [c70_3] <;> rfl) (by decide) ?_
            refine G.aload_n (pc := 235) dm_X11_turn_235 rfl ?_
            refine G.iload_n (pc := 236) dm_X11_turn_236 rfl ?_
            refine G.iload_n (pc := 237) dm_X11_turn_237 rfl ?_
            refine G.iconst (pc := 238) (v := (1 : Int32)) dm_X11_turn_238 qi_1 ?_
            obtain ⟨z6_0, z6_1, z6_2, z6_3, z6_4, z6_5, z6_6, z6_7, z6_8, hz6⟩ := g_ex9 (f_X11_moveWord t (store (Int32.toNatClampNeg (((128 : Int32) * t) + ((address (Int32.toNatClampNeg t)) / (4 : Int32))))) (1 : Int32) wheel now store common low high register address status did ready trace)
            refine G.callV0 (pc := 239) (rest := []) (st1 := [.int z6_0]) dm_X11_turn_239 gc_X11_turn_340 (k_X11_moveWord (t := t) (w := (store (Int32.toNatClampNeg (((128 : Int32) * t) + ((address (Int32.toNatClampNeg t)) / (4 : Int32)))))) (stores := (1 : Int32)) (refusal := refusal) (wheel := wheel) (now := now) (length := length) (at_ := at_) (fault := fault) (faultLine := faultLine) (line := line) (words := words) (labels := labels) (targets := targets) (wrong := wrong) (unfit := unfit) (text := text) (code_ := code_) (label := label) (labelWord := labelWord) (target := target) (targetWord := targetWord) (targetLine := targetLine) (store := store) (common := common) (low := low) (high := high) (register := register) (address := address) (status := status) (did := did) (ready := ready) (timer := timer) (trace := trace) (by first | assumption | exact q_31 _ | exact q_7 _) (by first | assumption | exact q_31 _ | exact q_7 _) (by first | assumption | exact q_31 _ | exact q_7 _) (by first | assumption | exact q_31 _ | exact q_7 _) (by first | assumption | exact q_31 _ | exact q_7 _) hz6) rfl rfl rfl rfl rfl rfl rfl rfl ?_
            replace hres : (r_0, r_1, r_2, r_3, r_4, r_5, r_6, r_7, r_8, r_9) = f_X11_turn_c239 timer z6_0 z6_1 z6_2 z6_3 z6_4 z6_5 z6_6 z6_7 z6_8 := hres.trans (by rw [← hz6])
            rw [f_X11_turn_c239] at hres
            cases hres
            exact G.ireturn (pc := 242) dm_X11_turn_242 rfl rfl rfl
          rw [if_neg c70_3] at hres
          by_cases c70_4 : ((store (Int32.toNatClampNeg (((128 : Int32) * t) + ((address (Int32.toNatClampNeg t)) / (4 : Int32))))) &&& (127 : Int32)) = (51 : Int32)
          · rw [if_pos c70_4] at hres
            refine G.lookup (pc := 70) (tgt := 251) dm_X11_turn_70 (by decide) (by rw [c70_4] <;> rfl) (by decide) ?_
            refine G.aload_n (pc := 251) dm_X11_turn_251 rfl ?_
            refine G.iload_n (pc := 252) dm_X11_turn_252 rfl ?_
            refine G.iload_n (pc := 253) dm_X11_turn_253 rfl ?_
            refine G.iconst (pc := 254) (v := (1 : Int32)) dm_X11_turn_254 qi_1 ?_
            obtain ⟨z7_0, z7_1, z7_2, z7_3, z7_4, z7_5, z7_6, hz7⟩ := g_ex7 (f_X11_calculate t (store (Int32.toNatClampNeg (((128 : Int32) * t) + ((address (Int32.toNatClampNeg t)) / (4 : Int32))))) (1 : Int32) now register address status did ready trace)
            refine G.callV0 (pc := 255) (rest := []) (st1 := [.int z7_0]) dm_X11_turn_255 gc_X11_turn_343 (k_X11_calculate (t := t) (w := (store (Int32.toNatClampNeg (((128 : Int32) * t) + ((address (Int32.toNatClampNeg t)) / (4 : Int32)))))) (plain := (1 : Int32)) (refusal := refusal) (wheel := wheel) (now := now) (length := length) (at_ := at_) (fault := fault) (faultLine := faultLine) (line := line) (words := words) (labels := labels) (targets := targets) (wrong := wrong) (unfit := unfit) (text := text) (code_ := code_) (label := label) (labelWord := labelWord) (target := target) (targetWord := targetWord) (targetLine := targetLine) (store := store) (common := common) (low := low) (high := high) (register := register) (address := address) (status := status) (did := did) (ready := ready) (timer := timer) (trace := trace) (by first | assumption | exact q_31 _ | exact q_7 _) (by first | assumption | exact q_31 _ | exact q_7 _) hz7) rfl rfl rfl rfl rfl rfl rfl rfl ?_
            replace hres : (r_0, r_1, r_2, r_3, r_4, r_5, r_6, r_7, r_8, r_9) = f_X11_turn_c255 store common timer z7_0 z7_1 z7_2 z7_3 z7_4 z7_5 z7_6 := hres.trans (by rw [← hz7])
            rw [f_X11_turn_c255] at hres
            cases hres
            exact G.ireturn (pc := 258) dm_X11_turn_258 rfl rfl rfl
          rw [if_neg c70_4] at hres
          by_cases c70_5 : ((store (Int32.toNatClampNeg (((128 : Int32) * t) + ((address (Int32.toNatClampNeg t)) / (4 : Int32))))) &&& (127 : Int32)) = (55 : Int32)
          · rw [if_pos c70_5] at hres
            refine G.lookup (pc := 70) (tgt := 152) dm_X11_turn_70 (by decide) (by rw [c70_5] <;> rfl) (by decide) ?_
            refine G.iload_n (pc := 152) dm_X11_turn_152 rfl ?_
            refine G.bipush (pc := 153) (v := (7 : Int32)) dm_X11_turn_153 qb_7 ?_
            refine G.ishr (pc := 155) dm_X11_turn_155 ?_
            refine G.bipush (pc := 156) (v := (31 : Int32)) dm_X11_turn_156 qb_31 ?_
            refine G.iand (pc := 158) dm_X11_turn_158 ?_
            refine G.bipush (pc := 159) (v := (15 : Int32)) dm_X11_turn_159 qb_15 ?_
            refine G.icmp_le (pc := 161) (tgt := 170) dm_X11_turn_161 (by decide) (fun c161 => ?_) (fun c161 => ?_)
            · rw [if_pos c161] at hres
              refine G.aload_n (pc := 170) dm_X11_turn_170 rfl ?_
              refine G.iload_n (pc := 171) dm_X11_turn_171 rfl ?_
              refine G.iload_n (pc := 172) dm_X11_turn_172 rfl ?_
              refine G.bipush (pc := 173) (v := (7 : Int32)) dm_X11_turn_173 qb_7 ?_
              refine G.ishr (pc := 175) dm_X11_turn_175 ?_
              refine G.bipush (pc := 176) (v := (31 : Int32)) dm_X11_turn_176 qb_31 ?_
              refine G.iand (pc := 178) dm_X11_turn_178 ?_
              refine G.iload_n (pc := 179) dm_X11_turn_179 rfl ?_
              refine G.bipush (pc := 180) (v := (12 : Int32)) dm_X11_turn_180 qb_12 ?_
              refine G.ishr (pc := 182) dm_X11_turn_182 ?_
              refine G.bipush (pc := 183) (v := (12 : Int32)) dm_X11_turn_183 qb_12 ?_
              refine G.ishl (pc := 185) dm_X11_turn_185 ?_
              obtain ⟨z8_0, hz8⟩ := g_ex1 (f_X11_set t (((store (Int32.toNatClampNeg (((128 : Int32) * t) + ((address (Int32.toNatClampNeg t)) / (4 : Int32))))) >>> ((7 : Int32) &&& 31)) &&& (31 : Int32)) (((store (Int32.toNatClampNeg (((128 : Int32) * t) + ((address (Int32.toNatClampNeg t)) / (4 : Int32))))) >>> ((12 : Int32) &&& 31)) <<< ((12 : Int32) &&& 31)) register)
              refine G.callV0 (pc := 186) (rest := []) (st1 := []) dm_X11_turn_186 gc_X11_turn_313 (k_X11_set (t := t) (r := (((store (Int32.toNatClampNeg (((128 : Int32) * t) + ((address (Int32.toNatClampNeg t)) / (4 : Int32))))) >>> ((7 : Int32) &&& 31)) &&& (31 : Int32))) (v := (((store (Int32.toNatClampNeg (((128 : Int32) * t) + ((address (Int32.toNatClampNeg t)) / (4 : Int32))))) >>> ((12 : Int32) &&& 31)) <<< ((12 : Int32) &&& 31))) (refusal := refusal) (wheel := wheel) (now := now) (length := length) (at_ := at_) (fault := fault) (faultLine := faultLine) (line := line) (words := words) (labels := labels) (targets := targets) (wrong := wrong) (unfit := unfit) (text := text) (code_ := code_) (label := label) (labelWord := labelWord) (target := target) (targetWord := targetWord) (targetLine := targetLine) (store := store) (common := common) (low := low) (high := high) (register := register) (address := address) (status := status) (did := did) (ready := ready) (timer := timer) (trace := trace) ht (q_16' (q_31 _) c161) hz8) rfl rfl rfl rfl rfl rfl rfl rfl ?_
              replace hres : (r_0, r_1, r_2, r_3, r_4, r_5, r_6, r_7, r_8, r_9) = f_X11_turn_c186 t now store common address status did ready timer trace z8_0 := hres.trans (by rw [← hz8])
              rw [f_X11_turn_c186] at hres
              refine G.aload_n (pc := 189) dm_X11_turn_189 rfl ?_
              refine G.iload_n (pc := 190) dm_X11_turn_190 rfl ?_
              refine G.iload_n (pc := 191) dm_X11_turn_191 rfl ?_
              refine G.iconst (pc := 192) (v := (4 : Int32)) dm_X11_turn_192 qi_4 ?_
              refine G.iadd (pc := 193) dm_X11_turn_193 ?_
              refine G.aload_n (pc := 194) dm_X11_turn_194 rfl ?_
              refine G.getfield (pc := 195) dm_X11_turn_195 gf_X11_291 rfl rfl ?_
              refine G.iconst (pc := 198) (v := (4 : Int32)) dm_X11_turn_198 qi_4 ?_
              refine G.iadd (pc := 199) dm_X11_turn_199 ?_
              obtain ⟨z9_0, z9_1, z9_2, z9_3, z9_4, hz9⟩ := g_ex5 (f_X11_done t ((address (Int32.toNatClampNeg t)) + (4 : Int32)) (now + (4 : Int32)) now address did ready trace)
              refine G.callV0 (pc := 200) (rest := []) (st1 := [.int z9_0]) dm_X11_turn_200 gc_X11_turn_319 (k_X11_done (t := t) (a := ((address (Int32.toNatClampNeg t)) + (4 : Int32))) (when := (now + (4 : Int32))) (refusal := refusal) (wheel := wheel) (now := now) (length := length) (at_ := at_) (fault := fault) (faultLine := faultLine) (line := line) (words := words) (labels := labels) (targets := targets) (wrong := wrong) (unfit := unfit) (text := text) (code_ := code_) (label := label) (labelWord := labelWord) (target := target) (targetWord := targetWord) (targetLine := targetLine) (store := store) (common := common) (low := low) (high := high) (register := z8_0) (address := address) (status := status) (did := did) (ready := ready) (timer := timer) (trace := trace) (by first | assumption | exact q_31 _ | exact q_7 _) (by first | assumption | exact q_31 _ | exact q_7 _) hz9) rfl rfl rfl rfl rfl rfl rfl rfl ?_
              replace hres : (r_0, r_1, r_2, r_3, r_4, r_5, r_6, r_7, r_8, r_9) = f_X11_turn_c200 store common status timer z8_0 z9_0 z9_1 z9_2 z9_3 z9_4 := hres.trans (by rw [← hz9])
              rw [f_X11_turn_c200] at hres
              cases hres
              exact G.ireturn (pc := 203) dm_X11_turn_203 rfl rfl rfl
            · rw [if_neg c161] at hres
              refine G.aload_n (pc := 164) dm_X11_turn_164 rfl ?_
              refine G.iload_n (pc := 165) dm_X11_turn_165 rfl ?_
              obtain ⟨z10_0, z10_1, hz10⟩ := g_ex2 (f_X11_stop t status)
              refine G.callV0 (pc := 166) (rest := []) (st1 := [.int z10_0]) dm_X11_turn_166 gc_X11_turn_299 (k_X11_stop (t := t) (refusal := refusal) (wheel := wheel) (now := now) (length := length) (at_ := at_) (fault := fault) (faultLine := faultLine) (line := line) (words := words) (labels := labels) (targets := targets) (wrong := wrong) (unfit := unfit) (text := text) (code_ := code_) (label := label) (labelWord := labelWord) (target := target) (targetWord := targetWord) (targetLine := targetLine) (store := store) (common := common) (low := low) (high := high) (register := register) (address := address) (status := status) (did := did) (ready := ready) (timer := timer) (trace := trace) (by first | assumption | exact q_31 _ | exact q_7 _) hz10) rfl rfl rfl rfl rfl rfl rfl rfl ?_
              replace hres : (r_0, r_1, r_2, r_3, r_4, r_5, r_6, r_7, r_8, r_9) = f_X11_turn_c166 store common register address did ready timer trace z10_0 z10_1 := hres.trans (by rw [← hz10])
              rw [f_X11_turn_c166] at hres
              cases hres
              exact G.ireturn (pc := 169) dm_X11_turn_169 rfl rfl rfl
          rw [if_neg c70_5] at hres
          by_cases c70_6 : ((store (Int32.toNatClampNeg (((128 : Int32) * t) + ((address (Int32.toNatClampNeg t)) / (4 : Int32))))) &&& (127 : Int32)) = (99 : Int32)
          · rw [if_pos c70_6] at hres
            refine G.lookup (pc := 70) (tgt := 220) dm_X11_turn_70 (by decide) (by rw [c70_6] <;> rfl) (by decide) ?_
            refine G.aload_n (pc := 220) dm_X11_turn_220 rfl ?_
            refine G.iload_n (pc := 221) dm_X11_turn_221 rfl ?_
            refine G.iload_n (pc := 222) dm_X11_turn_222 rfl ?_
            obtain ⟨z11_0, z11_1, z11_2, z11_3, z11_4, z11_5, hz11⟩ := g_ex6 (f_X11_branch t (store (Int32.toNatClampNeg (((128 : Int32) * t) + ((address (Int32.toNatClampNeg t)) / (4 : Int32))))) now register address status did ready trace)
            refine G.callV0 (pc := 223) (rest := []) (st1 := [.int z11_0]) dm_X11_turn_223 gc_X11_turn_337 (k_X11_branch (t := t) (w := (store (Int32.toNatClampNeg (((128 : Int32) * t) + ((address (Int32.toNatClampNeg t)) / (4 : Int32)))))) (refusal := refusal) (wheel := wheel) (now := now) (length := length) (at_ := at_) (fault := fault) (faultLine := faultLine) (line := line) (words := words) (labels := labels) (targets := targets) (wrong := wrong) (unfit := unfit) (text := text) (code_ := code_) (label := label) (labelWord := labelWord) (target := target) (targetWord := targetWord) (targetLine := targetLine) (store := store) (common := common) (low := low) (high := high) (register := register) (address := address) (status := status) (did := did) (ready := ready) (timer := timer) (trace := trace) (by first | assumption | exact q_31 _ | exact q_7 _) (by first | assumption | exact q_31 _ | exact q_7 _) hz11) rfl rfl rfl rfl rfl rfl rfl rfl ?_
            replace hres : (r_0, r_1, r_2, r_3, r_4, r_5, r_6, r_7, r_8, r_9) = f_X11_turn_c223 store common register timer z11_0 z11_1 z11_2 z11_3 z11_4 z11_5 := hres.trans (by rw [← hz11])
            rw [f_X11_turn_c223] at hres
            cases hres
            exact G.ireturn (pc := 226) dm_X11_turn_226 rfl rfl rfl
          rw [if_neg c70_6] at hres
          by_cases c70_7 : ((store (Int32.toNatClampNeg (((128 : Int32) * t) + ((address (Int32.toNatClampNeg t)) / (4 : Int32))))) &&& (127 : Int32)) = (103 : Int32)
          · rw [if_pos c70_7] at hres
            refine G.lookup (pc := 70) (tgt := 212) dm_X11_turn_70 (by decide) (by rw [c70_7] <;> rfl) (by decide) ?_
            refine G.aload_n (pc := 212) dm_X11_turn_212 rfl ?_
            refine G.iload_n (pc := 213) dm_X11_turn_213 rfl ?_
            refine G.iload_n (pc := 214) dm_X11_turn_214 rfl ?_
            refine G.iconst (pc := 215) (v := (1 : Int32)) dm_X11_turn_215 qi_1 ?_
            obtain ⟨z12_0, z12_1, z12_2, z12_3, z12_4, z12_5, z12_6, hz12⟩ := g_ex7 (f_X11_jump t (store (Int32.toNatClampNeg (((128 : Int32) * t) + ((address (Int32.toNatClampNeg t)) / (4 : Int32))))) (1 : Int32) now register address status did ready trace)
            refine G.callV0 (pc := 216) (rest := []) (st1 := [.int z12_0]) dm_X11_turn_216 gc_X11_turn_333 (k_X11_jump (t := t) (w := (store (Int32.toNatClampNeg (((128 : Int32) * t) + ((address (Int32.toNatClampNeg t)) / (4 : Int32)))))) (far := (1 : Int32)) (refusal := refusal) (wheel := wheel) (now := now) (length := length) (at_ := at_) (fault := fault) (faultLine := faultLine) (line := line) (words := words) (labels := labels) (targets := targets) (wrong := wrong) (unfit := unfit) (text := text) (code_ := code_) (label := label) (labelWord := labelWord) (target := target) (targetWord := targetWord) (targetLine := targetLine) (store := store) (common := common) (low := low) (high := high) (register := register) (address := address) (status := status) (did := did) (ready := ready) (timer := timer) (trace := trace) (by first | assumption | exact q_31 _ | exact q_7 _) (by first | assumption | exact q_31 _ | exact q_7 _) hz12) rfl rfl rfl rfl rfl rfl rfl rfl ?_
            replace hres : (r_0, r_1, r_2, r_3, r_4, r_5, r_6, r_7, r_8, r_9) = f_X11_turn_c216 store common timer z12_0 z12_1 z12_2 z12_3 z12_4 z12_5 z12_6 := hres.trans (by rw [← hz12])
            rw [f_X11_turn_c216] at hres
            cases hres
            exact G.ireturn (pc := 219) dm_X11_turn_219 rfl rfl rfl
          rw [if_neg c70_7] at hres
          by_cases c70_8 : ((store (Int32.toNatClampNeg (((128 : Int32) * t) + ((address (Int32.toNatClampNeg t)) / (4 : Int32))))) &&& (127 : Int32)) = (111 : Int32)
          · rw [if_pos c70_8] at hres
            refine G.lookup (pc := 70) (tgt := 204) dm_X11_turn_70 (by decide) (by rw [c70_8] <;> rfl) (by decide) ?_
            refine G.aload_n (pc := 204) dm_X11_turn_204 rfl ?_
            refine G.iload_n (pc := 205) dm_X11_turn_205 rfl ?_
            refine G.iload_n (pc := 206) dm_X11_turn_206 rfl ?_
            refine G.iconst (pc := 207) (v := (0 : Int32)) dm_X11_turn_207 qi_0 ?_
            obtain ⟨z13_0, z13_1, z13_2, z13_3, z13_4, z13_5, z13_6, hz13⟩ := g_ex7 (f_X11_jump t (store (Int32.toNatClampNeg (((128 : Int32) * t) + ((address (Int32.toNatClampNeg t)) / (4 : Int32))))) (0 : Int32) now register address status did ready trace)
            refine G.callV0 (pc := 208) (rest := []) (st1 := [.int z13_0]) dm_X11_turn_208 gc_X11_turn_333 (k_X11_jump (t := t) (w := (store (Int32.toNatClampNeg (((128 : Int32) * t) + ((address (Int32.toNatClampNeg t)) / (4 : Int32)))))) (far := (0 : Int32)) (refusal := refusal) (wheel := wheel) (now := now) (length := length) (at_ := at_) (fault := fault) (faultLine := faultLine) (line := line) (words := words) (labels := labels) (targets := targets) (wrong := wrong) (unfit := unfit) (text := text) (code_ := code_) (label := label) (labelWord := labelWord) (target := target) (targetWord := targetWord) (targetLine := targetLine) (store := store) (common := common) (low := low) (high := high) (register := register) (address := address) (status := status) (did := did) (ready := ready) (timer := timer) (trace := trace) (by first | assumption | exact q_31 _ | exact q_7 _) (by first | assumption | exact q_31 _ | exact q_7 _) hz13) rfl rfl rfl rfl rfl rfl rfl rfl ?_
            replace hres : (r_0, r_1, r_2, r_3, r_4, r_5, r_6, r_7, r_8, r_9) = f_X11_turn_c208 store common timer z13_0 z13_1 z13_2 z13_3 z13_4 z13_5 z13_6 := hres.trans (by rw [← hz13])
            rw [f_X11_turn_c208] at hres
            cases hres
            exact G.ireturn (pc := 211) dm_X11_turn_211 rfl rfl rfl
          rw [if_neg c70_8] at hres
          refine G.lookup (pc := 70) (tgt := 266) dm_X11_turn_70 (by decide) (g_lkmiss (by simp only [List.all_cons, List.all_nil, Bool.and_true, Bool.and_eq_true, decide_eq_true_eq]; exact ⟨g_toInt_ne c70_0 (by decide), g_toInt_ne c70_1 (by decide), g_toInt_ne c70_2 (by decide), g_toInt_ne c70_3 (by decide), g_toInt_ne c70_4 (by decide), g_toInt_ne c70_5 (by decide), g_toInt_ne c70_6 (by decide), g_toInt_ne c70_7 (by decide), g_toInt_ne c70_8 (by decide)⟩)) (by decide) ?_
          refine G.iload_n (pc := 266) dm_X11_turn_266 rfl ?_
          refine G.bipush (pc := 267) (v := (115 : Int32)) dm_X11_turn_267 qb_115 ?_
          refine G.icmp_eq (pc := 269) (tgt := 278) dm_X11_turn_269 (by decide) (fun c269 => ?_) (fun c269 => ?_)
          · rw [if_pos c269] at hres
            refine G.aload_n (pc := 278) dm_X11_turn_278 rfl ?_
            refine G.getfield (pc := 279) dm_X11_turn_279 gf_X11_51 rfl rfl ?_
            refine G.iload_n (pc := 282) dm_X11_turn_282 rfl ?_
            refine G.iconst (pc := 283) (v := (2 : Int32)) dm_X11_turn_283 qi_2 ?_
            refine G.iastore (pc := 284) (ws1 := (w_M refusal wheel now length at_ fault faultLine line words labels targets wrong unfit text code_ label labelWord target targetWord targetLine store common low high register address (upd status (Int32.toNatClampNeg t) (2 : Int32)) did ready timer trace)) dm_X11_turn_284 rfl (q_t ht) rfl ?_
            refine G.aload_n (pc := 285) dm_X11_turn_285 rfl ?_
            refine G.iload_n (pc := 286) dm_X11_turn_286 rfl ?_
            refine G.iload_n (pc := 287) dm_X11_turn_287 rfl ?_
            refine G.iconst (pc := 288) (v := (4 : Int32)) dm_X11_turn_288 qi_4 ?_
            refine G.iadd (pc := 289) dm_X11_turn_289 ?_
            refine G.aload_n (pc := 290) dm_X11_turn_290 rfl ?_
            refine G.getfield (pc := 291) dm_X11_turn_291 gf_X11_291 rfl rfl ?_
            refine G.iconst (pc := 294) (v := (4 : Int32)) dm_X11_turn_294 qi_4 ?_
            refine G.iadd (pc := 295) dm_X11_turn_295 ?_
            obtain ⟨z14_0, z14_1, z14_2, z14_3, z14_4, hz14⟩ := g_ex5 (f_X11_done t ((address (Int32.toNatClampNeg t)) + (4 : Int32)) (now + (4 : Int32)) now address did ready trace)
            refine G.callV0 (pc := 296) (rest := []) (st1 := [.int z14_0]) dm_X11_turn_296 gc_X11_turn_319 (k_X11_done (t := t) (a := ((address (Int32.toNatClampNeg t)) + (4 : Int32))) (when := (now + (4 : Int32))) (refusal := refusal) (wheel := wheel) (now := now) (length := length) (at_ := at_) (fault := fault) (faultLine := faultLine) (line := line) (words := words) (labels := labels) (targets := targets) (wrong := wrong) (unfit := unfit) (text := text) (code_ := code_) (label := label) (labelWord := labelWord) (target := target) (targetWord := targetWord) (targetLine := targetLine) (store := store) (common := common) (low := low) (high := high) (register := register) (address := address) (status := (upd status (Int32.toNatClampNeg t) (2 : Int32))) (did := did) (ready := ready) (timer := timer) (trace := trace) (by first | assumption | exact q_31 _ | exact q_7 _) (by first | assumption | exact q_31 _ | exact q_7 _) hz14) rfl rfl rfl rfl rfl rfl rfl rfl ?_
            replace hres : (r_0, r_1, r_2, r_3, r_4, r_5, r_6, r_7, r_8, r_9) = f_X11_turn_c296 t store common register status timer z14_0 z14_1 z14_2 z14_3 z14_4 := hres.trans (by rw [← hz14])
            rw [f_X11_turn_c296] at hres
            cases hres
            exact G.ireturn (pc := 299) dm_X11_turn_299 rfl rfl rfl
          · rw [if_neg c269] at hres
            refine G.aload_n (pc := 272) dm_X11_turn_272 rfl ?_
            refine G.iload_n (pc := 273) dm_X11_turn_273 rfl ?_
            obtain ⟨z15_0, z15_1, hz15⟩ := g_ex2 (f_X11_stop t status)
            refine G.callV0 (pc := 274) (rest := []) (st1 := [.int z15_0]) dm_X11_turn_274 gc_X11_turn_299 (k_X11_stop (t := t) (refusal := refusal) (wheel := wheel) (now := now) (length := length) (at_ := at_) (fault := fault) (faultLine := faultLine) (line := line) (words := words) (labels := labels) (targets := targets) (wrong := wrong) (unfit := unfit) (text := text) (code_ := code_) (label := label) (labelWord := labelWord) (target := target) (targetWord := targetWord) (targetLine := targetLine) (store := store) (common := common) (low := low) (high := high) (register := register) (address := address) (status := status) (did := did) (ready := ready) (timer := timer) (trace := trace) (by first | assumption | exact q_31 _ | exact q_7 _) hz15) rfl rfl rfl rfl rfl rfl rfl rfl ?_
            replace hres : (r_0, r_1, r_2, r_3, r_4, r_5, r_6, r_7, r_8, r_9) = f_X11_turn_c274 store common register address did ready timer trace z15_0 z15_1 := hres.trans (by rw [← hz15])
            rw [f_X11_turn_c274] at hres
            cases hres
            exact G.ireturn (pc := 277) dm_X11_turn_277 rfl rfl rfl
        · rw [if_pos c42] at hres
          refine G.lvp [1, 2] rfl ?_
          exact j_X11_turn_45 hres (by first | assumption | exact q_31 _ | exact q_7 _)
    · rw [if_neg c20] at hres
      refine G.iconst (pc := 23) (v := (0 : Int32)) dm_X11_turn_23 qi_0 ?_
      cases hres
      exact G.ireturn (pc := 24) dm_X11_turn_24 rfl rfl rfl
