abbrev M_X11_clear : g_M := (cX11_clear, 2, RX11, (some .int), { frames := 0, cells := 0, slots := 0, locals := 0 }, 0, 0)
theorem dm_X11_clear_0 : decode M_X11_clear.1 0 = .ok (.aload_n 0, 1) := by decide +kernel
theorem dm_X11_clear_1 : decode M_X11_clear.1 1 = .ok (.iconst 0, 1) := by decide +kernel
theorem dm_X11_clear_2 : decode M_X11_clear.1 2 = .ok (.putfield 70, 3) := by decide +kernel
theorem dm_X11_clear_5 : decode M_X11_clear.1 5 = .ok (.aload_n 0, 1) := by decide +kernel
theorem dm_X11_clear_6 : decode M_X11_clear.1 6 = .ok (.getfield 85, 3) := by decide +kernel
theorem dm_X11_clear_9 : decode M_X11_clear.1 9 = .ok (.istore_n 1, 1) := by decide +kernel
theorem dm_X11_clear_10 : decode M_X11_clear.1 10 = .ok (.aload_n 0, 1) := by decide +kernel
theorem dm_X11_clear_11 : decode M_X11_clear.1 11 = .ok (.iconst 0, 1) := by decide +kernel
theorem dm_X11_clear_12 : decode M_X11_clear.1 12 = .ok (.putfield 85, 3) := by decide +kernel
theorem dm_X11_clear_15 : decode M_X11_clear.1 15 = .ok (.iload_n 1, 1) := by decide +kernel
theorem dm_X11_clear_16 : decode M_X11_clear.1 16 = .ok (.ireturn, 1) := by decide +kernel
def f_X11_clear (length : Int32) : Int32 × Int32 × Int32 := (length, (0 : Int32), (0 : Int32))
set_option maxRecDepth 20000 in
theorem k_X11_clear {refusal : Int32} {wheel : Int32} {now : Int32} {length : Int32} {at_ : Int32} {fault : Int32} {faultLine : Int32} {line : Int32} {words : Int32} {labels : Int32} {targets : Int32} {wrong : Int32} {unfit : Int32} {text : Nat → Int32} {code_ : Nat → Int32} {label : Nat → Int64} {labelWord : Nat → Int32} {target : Nat → Int64} {targetWord : Nat → Int32} {targetLine : Nat → Int32} {store : Nat → Int32} {common : Nat → Int32} {low : Nat → Int32} {high : Nat → Int32} {register : Nat → Int32} {address : Nat → Int32} {status : Nat → Int32} {did : Nat → Int32} {ready : Nat → Int32} {timer : Nat → Int32} {trace : Nat → Int32} {r_0 : Int32} {r_1 : Int32} {r_2 : Int32} (hres : (r_0, r_1, r_2) = f_X11_clear length) : K M_X11_clear yX11_clear [.ref 0] (w_M refusal wheel now length at_ fault faultLine line words labels targets wrong unfit text code_ label labelWord target targetWord targetLine store common low high register address status did ready timer trace) (some (.int r_0)) (w_M r_1 wheel now r_2 at_ fault faultLine line words labels targets wrong unfit text code_ label labelWord target targetWord targetLine store common low high register address status did ready timer trace) := by
  refine K.of (lv := [(0, .ref 0)]) (by decide +kernel) rfl rfl rfl ?_
  rw [f_X11_clear] at hres
  refine G.aload_n (pc := 0) dm_X11_clear_0 rfl ?_
  refine G.iconst (pc := 1) (v := (0 : Int32)) dm_X11_clear_1 qi_0 ?_
  refine G.putfield (pc := 2) (ws1 := (w_M (0 : Int32) wheel now length at_ fault faultLine line words labels targets wrong unfit text code_ label labelWord target targetWord targetLine store common low high register address status did ready timer trace)) dm_X11_clear_2 gw_X11_70 rfl (g_fit_i _) rfl rfl ?_
  refine G.aload_n (pc := 5) dm_X11_clear_5 rfl ?_
  refine G.getfield (pc := 6) dm_X11_clear_6 gf_X11_85 rfl rfl ?_
  refine G.istore_n (pc := 9) (lv1 := [(1, .int length), (0, .ref 0)]) dm_X11_clear_9 rfl rfl ?_
  refine G.aload_n (pc := 10) dm_X11_clear_10 rfl ?_
  refine G.iconst (pc := 11) (v := (0 : Int32)) dm_X11_clear_11 qi_0 ?_
  refine G.putfield (pc := 12) (ws1 := (w_M (0 : Int32) wheel now (0 : Int32) at_ fault faultLine line words labels targets wrong unfit text code_ label labelWord target targetWord targetLine store common low high register address status did ready timer trace)) dm_X11_clear_12 gw_X11_85 rfl (g_fit_i _) rfl rfl ?_
  refine G.iload_n (pc := 15) dm_X11_clear_15 rfl ?_
  cases hres
  exact G.ireturn (pc := 16) dm_X11_clear_16 rfl rfl rfl
abbrev M_X11_fault : g_M := (cX11_fault, 2, RX11, (some .int), { frames := 0, cells := 0, slots := 0, locals := 0 }, 0, 0)
theorem dm_X11_fault_0 : decode M_X11_fault.1 0 = .ok (.aload_n 0, 1) := by decide +kernel
theorem dm_X11_fault_1 : decode M_X11_fault.1 1 = .ok (.iconst 0, 1) := by decide +kernel
theorem dm_X11_fault_2 : decode M_X11_fault.1 2 = .ok (.putfield 70, 3) := by decide +kernel
theorem dm_X11_fault_5 : decode M_X11_fault.1 5 = .ok (.iload_n 1, 1) := by decide +kernel
theorem dm_X11_fault_6 : decode M_X11_fault.1 6 = .ok (.ifCond .ne 10, 3) := by decide +kernel
theorem dm_X11_fault_9 : decode M_X11_fault.1 9 = .ok (.aload_n 0, 1) := by decide +kernel
theorem dm_X11_fault_10 : decode M_X11_fault.1 10 = .ok (.getfield 273, 3) := by decide +kernel
theorem dm_X11_fault_13 : decode M_X11_fault.1 13 = .ok (.goto 16, 3) := by decide +kernel
theorem dm_X11_fault_16 : decode M_X11_fault.1 16 = .ok (.iload_n 1, 1) := by decide +kernel
theorem dm_X11_fault_17 : decode M_X11_fault.1 17 = .ok (.iconst 1, 1) := by decide +kernel
theorem dm_X11_fault_18 : decode M_X11_fault.1 18 = .ok (.if_icmp .ne 10, 3) := by decide +kernel
theorem dm_X11_fault_21 : decode M_X11_fault.1 21 = .ok (.aload_n 0, 1) := by decide +kernel
theorem dm_X11_fault_22 : decode M_X11_fault.1 22 = .ok (.getfield 276, 3) := by decide +kernel
theorem dm_X11_fault_25 : decode M_X11_fault.1 25 = .ok (.goto 4, 3) := by decide +kernel
theorem dm_X11_fault_28 : decode M_X11_fault.1 28 = .ok (.iconst 0, 1) := by decide +kernel
theorem dm_X11_fault_29 : decode M_X11_fault.1 29 = .ok (.ireturn, 1) := by decide +kernel
def f_X11_fault (what : Int32) (fault : Int32) (faultLine : Int32) : Int32 × Int32 := (if what = 0 then (fault, (0 : Int32)) else (if what = (1 : Int32) then (faultLine, (0 : Int32)) else ((0 : Int32), (0 : Int32))))
set_option maxRecDepth 20000 in
theorem k_X11_fault {what : Int32} {refusal : Int32} {wheel : Int32} {now : Int32} {length : Int32} {at_ : Int32} {fault : Int32} {faultLine : Int32} {line : Int32} {words : Int32} {labels : Int32} {targets : Int32} {wrong : Int32} {unfit : Int32} {text : Nat → Int32} {code_ : Nat → Int32} {label : Nat → Int64} {labelWord : Nat → Int32} {target : Nat → Int64} {targetWord : Nat → Int32} {targetLine : Nat → Int32} {store : Nat → Int32} {common : Nat → Int32} {low : Nat → Int32} {high : Nat → Int32} {register : Nat → Int32} {address : Nat → Int32} {status : Nat → Int32} {did : Nat → Int32} {ready : Nat → Int32} {timer : Nat → Int32} {trace : Nat → Int32} {r_0 : Int32} {r_1 : Int32} (hres : (r_0, r_1) = f_X11_fault what fault faultLine) : K M_X11_fault yX11_fault [.ref 0, .int what] (w_M refusal wheel now length at_ fault faultLine line words labels targets wrong unfit text code_ label labelWord target targetWord targetLine store common low high register address status did ready timer trace) (some (.int r_0)) (w_M r_1 wheel now length at_ fault faultLine line words labels targets wrong unfit text code_ label labelWord target targetWord targetLine store common low high register address status did ready timer trace) := by
  refine K.of (lv := [(0, .ref 0), (1, .int what)]) (by decide +kernel) rfl rfl rfl ?_
  rw [f_X11_fault] at hres
  refine G.aload_n (pc := 0) dm_X11_fault_0 rfl ?_
  refine G.iconst (pc := 1) (v := (0 : Int32)) dm_X11_fault_1 qi_0 ?_
  refine G.putfield (pc := 2) (ws1 := (w_M (0 : Int32) wheel now length at_ fault faultLine line words labels targets wrong unfit text code_ label labelWord target targetWord targetLine store common low high register address status did ready timer trace)) dm_X11_fault_2 gw_X11_70 rfl (g_fit_i _) rfl rfl ?_
  refine G.iload_n (pc := 5) dm_X11_fault_5 rfl ?_
  refine G.if_ne (pc := 6) (tgt := 16) dm_X11_fault_6 (by decide) (fun c6 => ?_) (fun c6 => ?_)
  · rw [if_neg c6] at hres
    refine G.iload_n (pc := 16) dm_X11_fault_16 rfl ?_
    refine G.iconst (pc := 17) (v := (1 : Int32)) dm_X11_fault_17 qi_1 ?_
    refine G.icmp_ne (pc := 18) (tgt := 28) dm_X11_fault_18 (by decide) (fun c18 => ?_) (fun c18 => ?_)
    · rw [if_neg c18] at hres
      refine G.iconst (pc := 28) (v := (0 : Int32)) dm_X11_fault_28 qi_0 ?_
      cases hres
      exact G.ireturn (pc := 29) dm_X11_fault_29 rfl rfl rfl
    · rw [if_pos c18] at hres
      refine G.aload_n (pc := 21) dm_X11_fault_21 rfl ?_
      refine G.getfield (pc := 22) dm_X11_fault_22 gf_X11_276 rfl rfl ?_
      refine G.goto (pc := 25) (tgt := 29) dm_X11_fault_25 (by decide) ?_
      cases hres
      exact G.ireturn (pc := 29) dm_X11_fault_29 rfl rfl rfl
  · rw [if_pos c6] at hres
    refine G.aload_n (pc := 9) dm_X11_fault_9 rfl ?_
    refine G.getfield (pc := 10) dm_X11_fault_10 gf_X11_273 rfl rfl ?_
    refine G.goto (pc := 13) (tgt := 29) dm_X11_fault_13 (by decide) ?_
    cases hres
    exact G.ireturn (pc := 29) dm_X11_fault_29 rfl rfl rfl
abbrev M_X11_now : g_M := (cX11_now, 1, RX11, (some .int), { frames := 0, cells := 0, slots := 0, locals := 0 }, 0, 0)
theorem dm_X11_now_0 : decode M_X11_now.1 0 = .ok (.aload_n 0, 1) := by decide +kernel
theorem dm_X11_now_1 : decode M_X11_now.1 1 = .ok (.iconst 0, 1) := by decide +kernel
theorem dm_X11_now_2 : decode M_X11_now.1 2 = .ok (.putfield 70, 3) := by decide +kernel
theorem dm_X11_now_5 : decode M_X11_now.1 5 = .ok (.aload_n 0, 1) := by decide +kernel
theorem dm_X11_now_6 : decode M_X11_now.1 6 = .ok (.getfield 291, 3) := by decide +kernel
theorem dm_X11_now_9 : decode M_X11_now.1 9 = .ok (.ireturn, 1) := by decide +kernel
def f_X11_now (now : Int32) : Int32 × Int32 := (now, (0 : Int32))
set_option maxRecDepth 20000 in
theorem k_X11_now {refusal : Int32} {wheel : Int32} {now : Int32} {length : Int32} {at_ : Int32} {fault : Int32} {faultLine : Int32} {line : Int32} {words : Int32} {labels : Int32} {targets : Int32} {wrong : Int32} {unfit : Int32} {text : Nat → Int32} {code_ : Nat → Int32} {label : Nat → Int64} {labelWord : Nat → Int32} {target : Nat → Int64} {targetWord : Nat → Int32} {targetLine : Nat → Int32} {store : Nat → Int32} {common : Nat → Int32} {low : Nat → Int32} {high : Nat → Int32} {register : Nat → Int32} {address : Nat → Int32} {status : Nat → Int32} {did : Nat → Int32} {ready : Nat → Int32} {timer : Nat → Int32} {trace : Nat → Int32} {r_0 : Int32} {r_1 : Int32} (hres : (r_0, r_1) = f_X11_now now) : K M_X11_now yX11_now [.ref 0] (w_M refusal wheel now length at_ fault faultLine line words labels targets wrong unfit text code_ label labelWord target targetWord targetLine store common low high register address status did ready timer trace) (some (.int r_0)) (w_M r_1 wheel now length at_ fault faultLine line words labels targets wrong unfit text code_ label labelWord target targetWord targetLine store common low high register address status did ready timer trace) := by
  refine K.of (lv := [(0, .ref 0)]) (by decide +kernel) rfl rfl rfl ?_
  rw [f_X11_now] at hres
  refine G.aload_n (pc := 0) dm_X11_now_0 rfl ?_
  refine G.iconst (pc := 1) (v := (0 : Int32)) dm_X11_now_1 qi_0 ?_
  refine G.putfield (pc := 2) (ws1 := (w_M (0 : Int32) wheel now length at_ fault faultLine line words labels targets wrong unfit text code_ label labelWord target targetWord targetLine store common low high register address status did ready timer trace)) dm_X11_now_2 gw_X11_70 rfl (g_fit_i _) rfl rfl ?_
  refine G.aload_n (pc := 5) dm_X11_now_5 rfl ?_
  refine G.getfield (pc := 6) dm_X11_now_6 gf_X11_291 rfl rfl ?_
  cases hres
  exact G.ireturn (pc := 9) dm_X11_now_9 rfl rfl rfl
abbrev M_X11_peek : g_M := (cX11_peek, 3, RX11, (some .int), { frames := 0, cells := 0, slots := 0, locals := 0 }, 0, 0)
theorem dm_X11_peek_0 : decode M_X11_peek.1 0 = .ok (.aload_n 0, 1) := by decide +kernel
theorem dm_X11_peek_1 : decode M_X11_peek.1 1 = .ok (.iconst 0, 1) := by decide +kernel
theorem dm_X11_peek_2 : decode M_X11_peek.1 2 = .ok (.putfield 70, 3) := by decide +kernel
theorem dm_X11_peek_5 : decode M_X11_peek.1 5 = .ok (.iload_n 1, 1) := by decide +kernel
theorem dm_X11_peek_6 : decode M_X11_peek.1 6 = .ok (.ifCond .lt 19, 3) := by decide +kernel
theorem dm_X11_peek_9 : decode M_X11_peek.1 9 = .ok (.iload_n 1, 1) := by decide +kernel
theorem dm_X11_peek_10 : decode M_X11_peek.1 10 = .ok (.iconst 3, 1) := by decide +kernel
theorem dm_X11_peek_11 : decode M_X11_peek.1 11 = .ok (.if_icmp .gt 14, 3) := by decide +kernel
theorem dm_X11_peek_14 : decode M_X11_peek.1 14 = .ok (.iload_n 2, 1) := by decide +kernel
theorem dm_X11_peek_15 : decode M_X11_peek.1 15 = .ok (.ifCond .lt 10, 3) := by decide +kernel
theorem dm_X11_peek_18 : decode M_X11_peek.1 18 = .ok (.iload_n 2, 1) := by decide +kernel
theorem dm_X11_peek_19 : decode M_X11_peek.1 19 = .ok (.sipush 128, 3) := by decide +kernel
theorem dm_X11_peek_22 : decode M_X11_peek.1 22 = .ok (.if_icmp .lt 7, 3) := by decide +kernel
theorem dm_X11_peek_25 : decode M_X11_peek.1 25 = .ok (.iconst 0, 1) := by decide +kernel
theorem dm_X11_peek_26 : decode M_X11_peek.1 26 = .ok (.goto 15, 3) := by decide +kernel
theorem dm_X11_peek_29 : decode M_X11_peek.1 29 = .ok (.aload_n 0, 1) := by decide +kernel
theorem dm_X11_peek_30 : decode M_X11_peek.1 30 = .ok (.getfield 33, 3) := by decide +kernel
theorem dm_X11_peek_33 : decode M_X11_peek.1 33 = .ok (.sipush 128, 3) := by decide +kernel
theorem dm_X11_peek_36 : decode M_X11_peek.1 36 = .ok (.iload_n 1, 1) := by decide +kernel
theorem dm_X11_peek_37 : decode M_X11_peek.1 37 = .ok (.imul, 1) := by decide +kernel
theorem dm_X11_peek_38 : decode M_X11_peek.1 38 = .ok (.iload_n 2, 1) := by decide +kernel
theorem dm_X11_peek_39 : decode M_X11_peek.1 39 = .ok (.iadd, 1) := by decide +kernel
theorem dm_X11_peek_40 : decode M_X11_peek.1 40 = .ok (.iaload, 1) := by decide +kernel
theorem dm_X11_peek_41 : decode M_X11_peek.1 41 = .ok (.ireturn, 1) := by decide +kernel
def f_X11_peek (t : Int32) (w : Int32) (store : Nat → Int32) : Int32 × Int32 := (if t < 0 then ((0 : Int32), (0 : Int32)) else (if (3 : Int32) < t then ((0 : Int32), (0 : Int32)) else (if w < 0 then ((0 : Int32), (0 : Int32)) else (if w < (128 : Int32) then ((store (Int32.toNatClampNeg (((128 : Int32) * t) + w))), (0 : Int32)) else ((0 : Int32), (0 : Int32))))))
set_option maxRecDepth 20000 in
theorem k_X11_peek {t : Int32} {w : Int32} {refusal : Int32} {wheel : Int32} {now : Int32} {length : Int32} {at_ : Int32} {fault : Int32} {faultLine : Int32} {line : Int32} {words : Int32} {labels : Int32} {targets : Int32} {wrong : Int32} {unfit : Int32} {text : Nat → Int32} {code_ : Nat → Int32} {label : Nat → Int64} {labelWord : Nat → Int32} {target : Nat → Int64} {targetWord : Nat → Int32} {targetLine : Nat → Int32} {store : Nat → Int32} {common : Nat → Int32} {low : Nat → Int32} {high : Nat → Int32} {register : Nat → Int32} {address : Nat → Int32} {status : Nat → Int32} {did : Nat → Int32} {ready : Nat → Int32} {timer : Nat → Int32} {trace : Nat → Int32} {r_0 : Int32} {r_1 : Int32} (hres : (r_0, r_1) = f_X11_peek t w store) : K M_X11_peek yX11_peek [.ref 0, .int t, .int w] (w_M refusal wheel now length at_ fault faultLine line words labels targets wrong unfit text code_ label labelWord target targetWord targetLine store common low high register address status did ready timer trace) (some (.int r_0)) (w_M r_1 wheel now length at_ fault faultLine line words labels targets wrong unfit text code_ label labelWord target targetWord targetLine store common low high register address status did ready timer trace) := by
  refine K.of (lv := [(0, .ref 0), (1, .int t), (2, .int w)]) (by decide +kernel) rfl rfl rfl ?_
  rw [f_X11_peek] at hres
  refine G.aload_n (pc := 0) dm_X11_peek_0 rfl ?_
  refine G.iconst (pc := 1) (v := (0 : Int32)) dm_X11_peek_1 qi_0 ?_
  refine G.putfield (pc := 2) (ws1 := (w_M (0 : Int32) wheel now length at_ fault faultLine line words labels targets wrong unfit text code_ label labelWord target targetWord targetLine store common low high register address status did ready timer trace)) dm_X11_peek_2 gw_X11_70 rfl (g_fit_i _) rfl rfl ?_
  refine G.iload_n (pc := 5) dm_X11_peek_5 rfl ?_
  refine G.if_lt (pc := 6) (tgt := 25) dm_X11_peek_6 (by decide) (fun c6 => ?_) (fun c6 => ?_)
  · rw [if_pos c6] at hres
    refine G.iconst (pc := 25) (v := (0 : Int32)) dm_X11_peek_25 qi_0 ?_
    refine G.goto (pc := 26) (tgt := 41) dm_X11_peek_26 (by decide) ?_
    cases hres
    exact G.ireturn (pc := 41) dm_X11_peek_41 rfl rfl rfl
  · rw [if_neg c6] at hres
    refine G.iload_n (pc := 9) dm_X11_peek_9 rfl ?_
    refine G.iconst (pc := 10) (v := (3 : Int32)) dm_X11_peek_10 qi_3 ?_
    refine G.icmp_gt (pc := 11) (tgt := 25) dm_X11_peek_11 (by decide) (fun c11 => ?_) (fun c11 => ?_)
    · rw [if_pos c11] at hres
      refine G.iconst (pc := 25) (v := (0 : Int32)) dm_X11_peek_25 qi_0 ?_
      refine G.goto (pc := 26) (tgt := 41) dm_X11_peek_26 (by decide) ?_
      cases hres
      exact G.ireturn (pc := 41) dm_X11_peek_41 rfl rfl rfl
    · rw [if_neg c11] at hres
      refine G.iload_n (pc := 14) dm_X11_peek_14 rfl ?_
      refine G.if_lt (pc := 15) (tgt := 25) dm_X11_peek_15 (by decide) (fun c15 => ?_) (fun c15 => ?_)
      · rw [if_pos c15] at hres
        refine G.iconst (pc := 25) (v := (0 : Int32)) dm_X11_peek_25 qi_0 ?_
        refine G.goto (pc := 26) (tgt := 41) dm_X11_peek_26 (by decide) ?_
        cases hres
        exact G.ireturn (pc := 41) dm_X11_peek_41 rfl rfl rfl
      · rw [if_neg c15] at hres
        refine G.iload_n (pc := 18) dm_X11_peek_18 rfl ?_
        refine G.sipush (pc := 19) (v := (128 : Int32)) dm_X11_peek_19 qs_128 ?_
        refine G.icmp_lt (pc := 22) (tgt := 29) dm_X11_peek_22 (by decide) (fun c22 => ?_) (fun c22 => ?_)
        · rw [if_pos c22] at hres
          refine G.aload_n (pc := 29) dm_X11_peek_29 rfl ?_
          refine G.getfield (pc := 30) dm_X11_peek_30 gf_X11_33 rfl rfl ?_
          refine G.sipush (pc := 33) (v := (128 : Int32)) dm_X11_peek_33 qs_128 ?_
          refine G.iload_n (pc := 36) dm_X11_peek_36 rfl ?_
          refine G.imul (pc := 37) dm_X11_peek_37 ?_
          refine G.iload_n (pc := 38) dm_X11_peek_38 rfl ?_
          refine G.iadd (pc := 39) dm_X11_peek_39 ?_
          refine G.iaload (pc := 40) dm_X11_peek_40 rfl (q_i128 (q_g1 c6 c11 (by decide)) (q_g3 c15 c22 (by decide))) ?_
          cases hres
          exact G.ireturn (pc := 41) dm_X11_peek_41 rfl rfl rfl
        · rw [if_neg c22] at hres
          refine G.iconst (pc := 25) (v := (0 : Int32)) dm_X11_peek_25 qi_0 ?_
          refine G.goto (pc := 26) (tgt := 41) dm_X11_peek_26 (by decide) ?_
          cases hres
          exact G.ireturn (pc := 41) dm_X11_peek_41 rfl rfl rfl
abbrev M_X11_poke : g_M := (cX11_poke, 4, RX11, (some .boolean), { frames := 0, cells := 0, slots := 0, locals := 0 }, 0, 0)
theorem dm_X11_poke_0 : decode M_X11_poke.1 0 = .ok (.aload_n 0, 1) := by decide +kernel
theorem dm_X11_poke_1 : decode M_X11_poke.1 1 = .ok (.iconst 0, 1) := by decide +kernel
theorem dm_X11_poke_2 : decode M_X11_poke.1 2 = .ok (.putfield 70, 3) := by decide +kernel
theorem dm_X11_poke_5 : decode M_X11_poke.1 5 = .ok (.iload_n 1, 1) := by decide +kernel
theorem dm_X11_poke_6 : decode M_X11_poke.1 6 = .ok (.ifCond .lt 19, 3) := by decide +kernel
theorem dm_X11_poke_9 : decode M_X11_poke.1 9 = .ok (.iload_n 1, 1) := by decide +kernel
theorem dm_X11_poke_10 : decode M_X11_poke.1 10 = .ok (.iconst 3, 1) := by decide +kernel
theorem dm_X11_poke_11 : decode M_X11_poke.1 11 = .ok (.if_icmp .gt 14, 3) := by decide +kernel
theorem dm_X11_poke_14 : decode M_X11_poke.1 14 = .ok (.iload_n 2, 1) := by decide +kernel
theorem dm_X11_poke_15 : decode M_X11_poke.1 15 = .ok (.ifCond .lt 10, 3) := by decide +kernel
theorem dm_X11_poke_18 : decode M_X11_poke.1 18 = .ok (.iload_n 2, 1) := by decide +kernel
theorem dm_X11_poke_19 : decode M_X11_poke.1 19 = .ok (.sipush 128, 3) := by decide +kernel
theorem dm_X11_poke_22 : decode M_X11_poke.1 22 = .ok (.if_icmp .lt 5, 3) := by decide +kernel
theorem dm_X11_poke_25 : decode M_X11_poke.1 25 = .ok (.iconst 0, 1) := by decide +kernel
theorem dm_X11_poke_26 : decode M_X11_poke.1 26 = .ok (.ireturn, 1) := by decide +kernel
theorem dm_X11_poke_27 : decode M_X11_poke.1 27 = .ok (.aload_n 0, 1) := by decide +kernel
theorem dm_X11_poke_28 : decode M_X11_poke.1 28 = .ok (.getfield 33, 3) := by decide +kernel
theorem dm_X11_poke_31 : decode M_X11_poke.1 31 = .ok (.sipush 128, 3) := by decide +kernel
theorem dm_X11_poke_34 : decode M_X11_poke.1 34 = .ok (.iload_n 1, 1) := by decide +kernel
theorem dm_X11_poke_35 : decode M_X11_poke.1 35 = .ok (.imul, 1) := by decide +kernel
theorem dm_X11_poke_36 : decode M_X11_poke.1 36 = .ok (.iload_n 2, 1) := by decide +kernel
theorem dm_X11_poke_37 : decode M_X11_poke.1 37 = .ok (.iadd, 1) := by decide +kernel
theorem dm_X11_poke_38 : decode M_X11_poke.1 38 = .ok (.iload_n 3, 1) := by decide +kernel
theorem dm_X11_poke_39 : decode M_X11_poke.1 39 = .ok (.iastore, 1) := by decide +kernel
theorem dm_X11_poke_40 : decode M_X11_poke.1 40 = .ok (.iconst 1, 1) := by decide +kernel
theorem dm_X11_poke_41 : decode M_X11_poke.1 41 = .ok (.ireturn, 1) := by decide +kernel
def f_X11_poke (t : Int32) (w : Int32) (v : Int32) (store : Nat → Int32) : Int32 × Int32 × (Nat → Int32) := (if t < 0 then ((0 : Int32), (0 : Int32), store) else (if (3 : Int32) < t then ((0 : Int32), (0 : Int32), store) else (if w < 0 then ((0 : Int32), (0 : Int32), store) else (if w < (128 : Int32) then ((1 : Int32), (0 : Int32), (upd store (Int32.toNatClampNeg (((128 : Int32) * t) + w)) v)) else ((0 : Int32), (0 : Int32), store)))))
set_option maxRecDepth 20000 in
theorem k_X11_poke {t : Int32} {w : Int32} {v : Int32} {refusal : Int32} {wheel : Int32} {now : Int32} {length : Int32} {at_ : Int32} {fault : Int32} {faultLine : Int32} {line : Int32} {words : Int32} {labels : Int32} {targets : Int32} {wrong : Int32} {unfit : Int32} {text : Nat → Int32} {code_ : Nat → Int32} {label : Nat → Int64} {labelWord : Nat → Int32} {target : Nat → Int64} {targetWord : Nat → Int32} {targetLine : Nat → Int32} {store : Nat → Int32} {common : Nat → Int32} {low : Nat → Int32} {high : Nat → Int32} {register : Nat → Int32} {address : Nat → Int32} {status : Nat → Int32} {did : Nat → Int32} {ready : Nat → Int32} {timer : Nat → Int32} {trace : Nat → Int32} {r_0 : Int32} {r_1 : Int32} {r_2 : (Nat → Int32)} (hres : (r_0, r_1, r_2) = f_X11_poke t w v store) : K M_X11_poke yX11_poke [.ref 0, .int t, .int w, .int v] (w_M refusal wheel now length at_ fault faultLine line words labels targets wrong unfit text code_ label labelWord target targetWord targetLine store common low high register address status did ready timer trace) (some (.int r_0)) (w_M r_1 wheel now length at_ fault faultLine line words labels targets wrong unfit text code_ label labelWord target targetWord targetLine r_2 common low high register address status did ready timer trace) := by
  refine K.of (lv := [(0, .ref 0), (1, .int t), (2, .int w), (3, .int v)]) (by decide +kernel) rfl rfl rfl ?_
  rw [f_X11_poke] at hres
  refine G.aload_n (pc := 0) dm_X11_poke_0 rfl ?_
  refine G.iconst (pc := 1) (v := (0 : Int32)) dm_X11_poke_1 qi_0 ?_
  refine G.putfield (pc := 2) (ws1 := (w_M (0 : Int32) wheel now length at_ fault faultLine line words labels targets wrong unfit text code_ label labelWord target targetWord targetLine store common low high register address status did ready timer trace)) dm_X11_poke_2 gw_X11_70 rfl (g_fit_i _) rfl rfl ?_
  refine G.iload_n (pc := 5) dm_X11_poke_5 rfl ?_
  refine G.if_lt (pc := 6) (tgt := 25) dm_X11_poke_6 (by decide) (fun c6 => ?_) (fun c6 => ?_)
  · rw [if_pos c6] at hres
    refine G.iconst (pc := 25) (v := (0 : Int32)) dm_X11_poke_25 qi_0 ?_
    cases hres
    exact G.zreturn (pc := 26) dm_X11_poke_26 rfl (by decide) rfl rfl
  · rw [if_neg c6] at hres
    refine G.iload_n (pc := 9) dm_X11_poke_9 rfl ?_
    refine G.iconst (pc := 10) (v := (3 : Int32)) dm_X11_poke_10 qi_3 ?_
    refine G.icmp_gt (pc := 11) (tgt := 25) dm_X11_poke_11 (by decide) (fun c11 => ?_) (fun c11 => ?_)
    · rw [if_pos c11] at hres
      refine G.iconst (pc := 25) (v := (0 : Int32)) dm_X11_poke_25 qi_0 ?_
      cases hres
      exact G.zreturn (pc := 26) dm_X11_poke_26 rfl (by decide) rfl rfl
    · rw [if_neg c11] at hres
      refine G.iload_n (pc := 14) dm_X11_poke_14 rfl ?_
      refine G.if_lt (pc := 15) (tgt := 25) dm_X11_poke_15 (by decide) (fun c15 => ?_) (fun c15 => ?_)
      · rw [if_pos c15] at hres
        refine G.iconst (pc := 25) (v := (0 : Int32)) dm_X11_poke_25 qi_0 ?_
        cases hres
        exact G.zreturn (pc := 26) dm_X11_poke_26 rfl (by decide) rfl rfl
      · rw [if_neg c15] at hres
        refine G.iload_n (pc := 18) dm_X11_poke_18 rfl ?_
        refine G.sipush (pc := 19) (v := (128 : Int32)) dm_X11_poke_19 qs_128 ?_
        refine G.icmp_lt (pc := 22) (tgt := 27) dm_X11_poke_22 (by decide) (fun c22 => ?_) (fun c22 => ?_)
        · rw [if_pos c22] at hres
          refine G.aload_n (pc := 27) dm_X11_poke_27 rfl ?_
          refine G.getfield (pc := 28) dm_X11_poke_28 gf_X11_33 rfl rfl ?_
          refine G.sipush (pc := 31) (v := (128 : Int32)) dm_X11_poke_31 qs_128 ?_
          refine G.iload_n (pc := 34) dm_X11_poke_34 rfl ?_
          refine G.imul (pc := 35) dm_X11_poke_35 ?_
          refine G.iload_n (pc := 36) dm_X11_poke_36 rfl ?_
          refine G.iadd (pc := 37) dm_X11_poke_37 ?_
          refine G.iload_n (pc := 38) dm_X11_poke_38 rfl ?_
          refine G.iastore (pc := 39) (ws1 := (w_M (0 : Int32) wheel now length at_ fault faultLine line words labels targets wrong unfit text code_ label labelWord target targetWord targetLine (upd store (Int32.toNatClampNeg (((128 : Int32) * t) + w)) v) common low high register address status did ready timer trace)) dm_X11_poke_39 rfl (q_i128 (q_g1 c6 c11 (by decide)) (q_g3 c15 c22 (by decide))) rfl ?_
          refine G.iconst (pc := 40) (v := (1 : Int32)) dm_X11_poke_40 qi_1 ?_
          cases hres
          exact G.zreturn (pc := 41) dm_X11_poke_41 rfl (by decide) rfl rfl
        · rw [if_neg c22] at hres
          refine G.iconst (pc := 25) (v := (0 : Int32)) dm_X11_poke_25 qi_0 ?_
          cases hres
          exact G.zreturn (pc := 26) dm_X11_poke_26 rfl (by decide) rfl rfl
abbrev M_X11_shared : g_M := (cX11_shared, 2, RX11, (some .int), { frames := 0, cells := 0, slots := 0, locals := 0 }, 0, 0)
theorem dm_X11_shared_0 : decode M_X11_shared.1 0 = .ok (.aload_n 0, 1) := by decide +kernel
theorem dm_X11_shared_1 : decode M_X11_shared.1 1 = .ok (.iconst 0, 1) := by decide +kernel
theorem dm_X11_shared_2 : decode M_X11_shared.1 2 = .ok (.putfield 70, 3) := by decide +kernel
theorem dm_X11_shared_5 : decode M_X11_shared.1 5 = .ok (.iload_n 1, 1) := by decide +kernel
theorem dm_X11_shared_6 : decode M_X11_shared.1 6 = .ok (.ifCond .lt 9, 3) := by decide +kernel
theorem dm_X11_shared_9 : decode M_X11_shared.1 9 = .ok (.iload_n 1, 1) := by decide +kernel
theorem dm_X11_shared_10 : decode M_X11_shared.1 10 = .ok (.bipush 63, 2) := by decide +kernel
theorem dm_X11_shared_12 : decode M_X11_shared.1 12 = .ok (.if_icmp .le 7, 3) := by decide +kernel
theorem dm_X11_shared_15 : decode M_X11_shared.1 15 = .ok (.iconst 0, 1) := by decide +kernel
theorem dm_X11_shared_16 : decode M_X11_shared.1 16 = .ok (.goto 9, 3) := by decide +kernel
theorem dm_X11_shared_19 : decode M_X11_shared.1 19 = .ok (.aload_n 0, 1) := by decide +kernel
theorem dm_X11_shared_20 : decode M_X11_shared.1 20 = .ok (.getfield 36, 3) := by decide +kernel
theorem dm_X11_shared_23 : decode M_X11_shared.1 23 = .ok (.iload_n 1, 1) := by decide +kernel
theorem dm_X11_shared_24 : decode M_X11_shared.1 24 = .ok (.iaload, 1) := by decide +kernel
theorem dm_X11_shared_25 : decode M_X11_shared.1 25 = .ok (.ireturn, 1) := by decide +kernel
def f_X11_shared (w : Int32) (common : Nat → Int32) : Int32 × Int32 := (if w < 0 then ((0 : Int32), (0 : Int32)) else (if w ≤ (63 : Int32) then ((common (Int32.toNatClampNeg w)), (0 : Int32)) else ((0 : Int32), (0 : Int32))))
set_option maxRecDepth 20000 in
theorem k_X11_shared {w : Int32} {refusal : Int32} {wheel : Int32} {now : Int32} {length : Int32} {at_ : Int32} {fault : Int32} {faultLine : Int32} {line : Int32} {words : Int32} {labels : Int32} {targets : Int32} {wrong : Int32} {unfit : Int32} {text : Nat → Int32} {code_ : Nat → Int32} {label : Nat → Int64} {labelWord : Nat → Int32} {target : Nat → Int64} {targetWord : Nat → Int32} {targetLine : Nat → Int32} {store : Nat → Int32} {common : Nat → Int32} {low : Nat → Int32} {high : Nat → Int32} {register : Nat → Int32} {address : Nat → Int32} {status : Nat → Int32} {did : Nat → Int32} {ready : Nat → Int32} {timer : Nat → Int32} {trace : Nat → Int32} {r_0 : Int32} {r_1 : Int32} (hres : (r_0, r_1) = f_X11_shared w common) : K M_X11_shared yX11_shared [.ref 0, .int w] (w_M refusal wheel now length at_ fault faultLine line words labels targets wrong unfit text code_ label labelWord target targetWord targetLine store common low high register address status did ready timer trace) (some (.int r_0)) (w_M r_1 wheel now length at_ fault faultLine line words labels targets wrong unfit text code_ label labelWord target targetWord targetLine store common low high register address status did ready timer trace) := by
  refine K.of (lv := [(0, .ref 0), (1, .int w)]) (by decide +kernel) rfl rfl rfl ?_
  rw [f_X11_shared] at hres
  refine G.aload_n (pc := 0) dm_X11_shared_0 rfl ?_
  refine G.iconst (pc := 1) (v := (0 : Int32)) dm_X11_shared_1 qi_0 ?_
  refine G.putfield (pc := 2) (ws1 := (w_M (0 : Int32) wheel now length at_ fault faultLine line words labels targets wrong unfit text code_ label labelWord target targetWord targetLine store common low high register address status did ready timer trace)) dm_X11_shared_2 gw_X11_70 rfl (g_fit_i _) rfl rfl ?_
  refine G.iload_n (pc := 5) dm_X11_shared_5 rfl ?_
  refine G.if_lt (pc := 6) (tgt := 15) dm_X11_shared_6 (by decide) (fun c6 => ?_) (fun c6 => ?_)
  · rw [if_pos c6] at hres
    refine G.iconst (pc := 15) (v := (0 : Int32)) dm_X11_shared_15 qi_0 ?_
    refine G.goto (pc := 16) (tgt := 25) dm_X11_shared_16 (by decide) ?_
    cases hres
    exact G.ireturn (pc := 25) dm_X11_shared_25 rfl rfl rfl
  · rw [if_neg c6] at hres
    refine G.iload_n (pc := 9) dm_X11_shared_9 rfl ?_
    refine G.bipush (pc := 10) (v := (63 : Int32)) dm_X11_shared_10 qb_63 ?_
    refine G.icmp_le (pc := 12) (tgt := 19) dm_X11_shared_12 (by decide) (fun c12 => ?_) (fun c12 => ?_)
    · rw [if_pos c12] at hres
      refine G.aload_n (pc := 19) dm_X11_shared_19 rfl ?_
      refine G.getfield (pc := 20) dm_X11_shared_20 gf_X11_36 rfl rfl ?_
      refine G.iload_n (pc := 23) dm_X11_shared_23 rfl ?_
      refine G.iaload (pc := 24) dm_X11_shared_24 rfl (by have h := q_g2 (n := 64) c6 c12 (by decide); exact q_in h.1 h.2) ?_
      cases hres
      exact G.ireturn (pc := 25) dm_X11_shared_25 rfl rfl rfl
    · rw [if_neg c12] at hres
      refine G.iconst (pc := 15) (v := (0 : Int32)) dm_X11_shared_15 qi_0 ?_
      refine G.goto (pc := 16) (tgt := 25) dm_X11_shared_16 (by decide) ?_
      cases hres
      exact G.ireturn (pc := 25) dm_X11_shared_25 rfl rfl rfl
abbrev M_X11_part : g_M := (cX11_part, 4, RX11, (some .boolean), { frames := 0, cells := 0, slots := 0, locals := 0 }, 0, 0)
theorem dm_X11_part_0 : decode M_X11_part.1 0 = .ok (.aload_n 0, 1) := by decide +kernel
theorem dm_X11_part_1 : decode M_X11_part.1 1 = .ok (.iconst 0, 1) := by decide +kernel
theorem dm_X11_part_2 : decode M_X11_part.1 2 = .ok (.putfield 70, 3) := by decide +kernel
theorem dm_X11_part_5 : decode M_X11_part.1 5 = .ok (.iload_n 1, 1) := by decide +kernel
theorem dm_X11_part_6 : decode M_X11_part.1 6 = .ok (.ifCond .lt 23, 3) := by decide +kernel
theorem dm_X11_part_9 : decode M_X11_part.1 9 = .ok (.iload_n 1, 1) := by decide +kernel
theorem dm_X11_part_10 : decode M_X11_part.1 10 = .ok (.iconst 3, 1) := by decide +kernel
theorem dm_X11_part_11 : decode M_X11_part.1 11 = .ok (.if_icmp .gt 18, 3) := by decide +kernel
theorem dm_X11_part_14 : decode M_X11_part.1 14 = .ok (.iload_n 2, 1) := by decide +kernel
theorem dm_X11_part_15 : decode M_X11_part.1 15 = .ok (.ifCond .lt 14, 3) := by decide +kernel
theorem dm_X11_part_18 : decode M_X11_part.1 18 = .ok (.iload_n 2, 1) := by decide +kernel
theorem dm_X11_part_19 : decode M_X11_part.1 19 = .ok (.iload_n 3, 1) := by decide +kernel
theorem dm_X11_part_20 : decode M_X11_part.1 20 = .ok (.if_icmp .gt 9, 3) := by decide +kernel
theorem dm_X11_part_23 : decode M_X11_part.1 23 = .ok (.iload_n 3, 1) := by decide +kernel
theorem dm_X11_part_24 : decode M_X11_part.1 24 = .ok (.bipush 64, 2) := by decide +kernel
theorem dm_X11_part_26 : decode M_X11_part.1 26 = .ok (.if_icmp .le 5, 3) := by decide +kernel
theorem dm_X11_part_29 : decode M_X11_part.1 29 = .ok (.iconst 0, 1) := by decide +kernel
theorem dm_X11_part_30 : decode M_X11_part.1 30 = .ok (.ireturn, 1) := by decide +kernel
theorem dm_X11_part_31 : decode M_X11_part.1 31 = .ok (.aload_n 0, 1) := by decide +kernel
theorem dm_X11_part_32 : decode M_X11_part.1 32 = .ok (.getfield 39, 3) := by decide +kernel
theorem dm_X11_part_35 : decode M_X11_part.1 35 = .ok (.iload_n 1, 1) := by decide +kernel
theorem dm_X11_part_36 : decode M_X11_part.1 36 = .ok (.iload_n 2, 1) := by decide +kernel
theorem dm_X11_part_37 : decode M_X11_part.1 37 = .ok (.iastore, 1) := by decide +kernel
theorem dm_X11_part_38 : decode M_X11_part.1 38 = .ok (.aload_n 0, 1) := by decide +kernel
theorem dm_X11_part_39 : decode M_X11_part.1 39 = .ok (.getfield 42, 3) := by decide +kernel
theorem dm_X11_part_42 : decode M_X11_part.1 42 = .ok (.iload_n 1, 1) := by decide +kernel
theorem dm_X11_part_43 : decode M_X11_part.1 43 = .ok (.iload_n 3, 1) := by decide +kernel
theorem dm_X11_part_44 : decode M_X11_part.1 44 = .ok (.iastore, 1) := by decide +kernel
theorem dm_X11_part_45 : decode M_X11_part.1 45 = .ok (.iconst 1, 1) := by decide +kernel
theorem dm_X11_part_46 : decode M_X11_part.1 46 = .ok (.ireturn, 1) := by decide +kernel
def f_X11_part (t : Int32) (from_ : Int32) (to_ : Int32) (low : Nat → Int32) (high : Nat → Int32) : Int32 × Int32 × (Nat → Int32) × (Nat → Int32) := (if t < 0 then ((0 : Int32), (0 : Int32), low, high) else (if (3 : Int32) < t then ((0 : Int32), (0 : Int32), low, high) else (if from_ < 0 then ((0 : Int32), (0 : Int32), low, high) else (if to_ < from_ then ((0 : Int32), (0 : Int32), low, high) else (if to_ ≤ (64 : Int32) then ((1 : Int32), (0 : Int32), (upd low (Int32.toNatClampNeg t) from_), (upd high (Int32.toNatClampNeg t) to_)) else ((0 : Int32), (0 : Int32), low, high))))))
set_option maxRecDepth 20000 in
theorem k_X11_part {t : Int32} {from_ : Int32} {to_ : Int32} {refusal : Int32} {wheel : Int32} {now : Int32} {length : Int32} {at_ : Int32} {fault : Int32} {faultLine : Int32} {line : Int32} {words : Int32} {labels : Int32} {targets : Int32} {wrong : Int32} {unfit : Int32} {text : Nat → Int32} {code_ : Nat → Int32} {label : Nat → Int64} {labelWord : Nat → Int32} {target : Nat → Int64} {targetWord : Nat → Int32} {targetLine : Nat → Int32} {store : Nat → Int32} {common : Nat → Int32} {low : Nat → Int32} {high : Nat → Int32} {register : Nat → Int32} {address : Nat → Int32} {status : Nat → Int32} {did : Nat → Int32} {ready : Nat → Int32} {timer : Nat → Int32} {trace : Nat → Int32} {r_0 : Int32} {r_1 : Int32} {r_2 : (Nat → Int32)} {r_3 : (Nat → Int32)} (hres : (r_0, r_1, r_2, r_3) = f_X11_part t from_ to_ low high) : K M_X11_part yX11_part [.ref 0, .int t, .int from_, .int to_] (w_M refusal wheel now length at_ fault faultLine line words labels targets wrong unfit text code_ label labelWord target targetWord targetLine store common low high register address status did ready timer trace) (some (.int r_0)) (w_M r_1 wheel now length at_ fault faultLine line words labels targets wrong unfit text code_ label labelWord target targetWord targetLine store common r_2 r_3 register address status did ready timer trace) := by
  refine K.of (lv := [(0, .ref 0), (1, .int t), (2, .int from_), (3, .int to_)]) (by decide +kernel) rfl rfl rfl ?_
  rw [f_X11_part] at hres
  refine G.aload_n (pc := 0) dm_X11_part_0 rfl ?_
  refine G.iconst (pc := 1) (v := (0 : Int32)) dm_X11_part_1 qi_0 ?_
  refine G.putfield (pc := 2) (ws1 := (w_M (0 : Int32) wheel now length at_ fault faultLine line words labels targets wrong unfit text code_ label labelWord target targetWord targetLine store common low high register address status did ready timer trace)) dm_X11_part_2 gw_X11_70 rfl (g_fit_i _) rfl rfl ?_
  refine G.iload_n (pc := 5) dm_X11_part_5 rfl ?_
  refine G.if_lt (pc := 6) (tgt := 29) dm_X11_part_6 (by decide) (fun c6 => ?_) (fun c6 => ?_)
  · rw [if_pos c6] at hres
    refine G.iconst (pc := 29) (v := (0 : Int32)) dm_X11_part_29 qi_0 ?_
    cases hres
    exact G.zreturn (pc := 30) dm_X11_part_30 rfl (by decide) rfl rfl
  · rw [if_neg c6] at hres
    refine G.iload_n (pc := 9) dm_X11_part_9 rfl ?_
    refine G.iconst (pc := 10) (v := (3 : Int32)) dm_X11_part_10 qi_3 ?_
    refine G.icmp_gt (pc := 11) (tgt := 29) dm_X11_part_11 (by decide) (fun c11 => ?_) (fun c11 => ?_)
    · rw [if_pos c11] at hres
      refine G.iconst (pc := 29) (v := (0 : Int32)) dm_X11_part_29 qi_0 ?_
      cases hres
      exact G.zreturn (pc := 30) dm_X11_part_30 rfl (by decide) rfl rfl
    · rw [if_neg c11] at hres
      refine G.iload_n (pc := 14) dm_X11_part_14 rfl ?_
      refine G.if_lt (pc := 15) (tgt := 29) dm_X11_part_15 (by decide) (fun c15 => ?_) (fun c15 => ?_)
      · rw [if_pos c15] at hres
        refine G.iconst (pc := 29) (v := (0 : Int32)) dm_X11_part_29 qi_0 ?_
        cases hres
        exact G.zreturn (pc := 30) dm_X11_part_30 rfl (by decide) rfl rfl
      · rw [if_neg c15] at hres
        refine G.iload_n (pc := 18) dm_X11_part_18 rfl ?_
        refine G.iload_n (pc := 19) dm_X11_part_19 rfl ?_
        refine G.icmp_gt (pc := 20) (tgt := 29) dm_X11_part_20 (by decide) (fun c20 => ?_) (fun c20 => ?_)
        · rw [if_pos c20] at hres
          refine G.iconst (pc := 29) (v := (0 : Int32)) dm_X11_part_29 qi_0 ?_
          cases hres
          exact G.zreturn (pc := 30) dm_X11_part_30 rfl (by decide) rfl rfl
        · rw [if_neg c20] at hres
          refine G.iload_n (pc := 23) dm_X11_part_23 rfl ?_
          refine G.bipush (pc := 24) (v := (64 : Int32)) dm_X11_part_24 qb_64 ?_
          refine G.icmp_le (pc := 26) (tgt := 31) dm_X11_part_26 (by decide) (fun c26 => ?_) (fun c26 => ?_)
          · rw [if_pos c26] at hres
            refine G.aload_n (pc := 31) dm_X11_part_31 rfl ?_
            refine G.getfield (pc := 32) dm_X11_part_32 gf_X11_39 rfl rfl ?_
            refine G.iload_n (pc := 35) dm_X11_part_35 rfl ?_
            refine G.iload_n (pc := 36) dm_X11_part_36 rfl ?_
            refine G.iastore (pc := 37) (ws1 := (w_M (0 : Int32) wheel now length at_ fault faultLine line words labels targets wrong unfit text code_ label labelWord target targetWord targetLine store common (upd low (Int32.toNatClampNeg t) from_) high register address status did ready timer trace)) dm_X11_part_37 rfl (q_t (q_g1 c6 c11 (by decide))) rfl ?_
            refine G.aload_n (pc := 38) dm_X11_part_38 rfl ?_
            refine G.getfield (pc := 39) dm_X11_part_39 gf_X11_42 rfl rfl ?_
            refine G.iload_n (pc := 42) dm_X11_part_42 rfl ?_
            refine G.iload_n (pc := 43) dm_X11_part_43 rfl ?_
            refine G.iastore (pc := 44) (ws1 := (w_M (0 : Int32) wheel now length at_ fault faultLine line words labels targets wrong unfit text code_ label labelWord target targetWord targetLine store common (upd low (Int32.toNatClampNeg t) from_) (upd high (Int32.toNatClampNeg t) to_) register address status did ready timer trace)) dm_X11_part_44 rfl (q_t (q_g1 c6 c11 (by decide))) rfl ?_
            refine G.iconst (pc := 45) (v := (1 : Int32)) dm_X11_part_45 qi_1 ?_
            cases hres
            exact G.zreturn (pc := 46) dm_X11_part_46 rfl (by decide) rfl rfl
          · rw [if_neg c26] at hres
            refine G.iconst (pc := 29) (v := (0 : Int32)) dm_X11_part_29 qi_0 ?_
            cases hres
            exact G.zreturn (pc := 30) dm_X11_part_30 rfl (by decide) rfl rfl
abbrev M_X11_start : g_M := (cX11_start, 3, RX11, (some .boolean), { frames := 0, cells := 0, slots := 0, locals := 0 }, 0, 0)
theorem dm_X11_start_0 : decode M_X11_start.1 0 = .ok (.aload_n 0, 1) := by decide +kernel
theorem dm_X11_start_1 : decode M_X11_start.1 1 = .ok (.iconst 0, 1) := by decide +kernel
theorem dm_X11_start_2 : decode M_X11_start.1 2 = .ok (.putfield 70, 3) := by decide +kernel
theorem dm_X11_start_5 : decode M_X11_start.1 5 = .ok (.iload_n 1, 1) := by decide +kernel
theorem dm_X11_start_6 : decode M_X11_start.1 6 = .ok (.ifCond .lt 8, 3) := by decide +kernel
theorem dm_X11_start_9 : decode M_X11_start.1 9 = .ok (.iload_n 1, 1) := by decide +kernel
theorem dm_X11_start_10 : decode M_X11_start.1 10 = .ok (.iconst 3, 1) := by decide +kernel
theorem dm_X11_start_11 : decode M_X11_start.1 11 = .ok (.if_icmp .le 5, 3) := by decide +kernel
theorem dm_X11_start_14 : decode M_X11_start.1 14 = .ok (.iconst 0, 1) := by decide +kernel
theorem dm_X11_start_15 : decode M_X11_start.1 15 = .ok (.ireturn, 1) := by decide +kernel
theorem dm_X11_start_16 : decode M_X11_start.1 16 = .ok (.aload_n 0, 1) := by decide +kernel
theorem dm_X11_start_17 : decode M_X11_start.1 17 = .ok (.getfield 51, 3) := by decide +kernel
theorem dm_X11_start_20 : decode M_X11_start.1 20 = .ok (.iload_n 1, 1) := by decide +kernel
theorem dm_X11_start_21 : decode M_X11_start.1 21 = .ok (.iconst 1, 1) := by decide +kernel
theorem dm_X11_start_22 : decode M_X11_start.1 22 = .ok (.iastore, 1) := by decide +kernel
theorem dm_X11_start_23 : decode M_X11_start.1 23 = .ok (.aload_n 0, 1) := by decide +kernel
theorem dm_X11_start_24 : decode M_X11_start.1 24 = .ok (.getfield 48, 3) := by decide +kernel
theorem dm_X11_start_27 : decode M_X11_start.1 27 = .ok (.iload_n 1, 1) := by decide +kernel
theorem dm_X11_start_28 : decode M_X11_start.1 28 = .ok (.iload_n 2, 1) := by decide +kernel
theorem dm_X11_start_29 : decode M_X11_start.1 29 = .ok (.iastore, 1) := by decide +kernel
theorem dm_X11_start_30 : decode M_X11_start.1 30 = .ok (.aload_n 0, 1) := by decide +kernel
theorem dm_X11_start_31 : decode M_X11_start.1 31 = .ok (.getfield 57, 3) := by decide +kernel
theorem dm_X11_start_34 : decode M_X11_start.1 34 = .ok (.iload_n 1, 1) := by decide +kernel
theorem dm_X11_start_35 : decode M_X11_start.1 35 = .ok (.aload_n 0, 1) := by decide +kernel
theorem dm_X11_start_36 : decode M_X11_start.1 36 = .ok (.getfield 291, 3) := by decide +kernel
theorem dm_X11_start_39 : decode M_X11_start.1 39 = .ok (.iastore, 1) := by decide +kernel
theorem dm_X11_start_40 : decode M_X11_start.1 40 = .ok (.iconst 1, 1) := by decide +kernel
theorem dm_X11_start_41 : decode M_X11_start.1 41 = .ok (.ireturn, 1) := by decide +kernel
def f_X11_start (t : Int32) (a : Int32) (now : Int32) (address : Nat → Int32) (status : Nat → Int32) (ready : Nat → Int32) : Int32 × Int32 × (Nat → Int32) × (Nat → Int32) × (Nat → Int32) := (if t < 0 then ((0 : Int32), (0 : Int32), address, status, ready) else (if t ≤ (3 : Int32) then ((1 : Int32), (0 : Int32), (upd address (Int32.toNatClampNeg t) a), (upd status (Int32.toNatClampNeg t) (1 : Int32)), (upd ready (Int32.toNatClampNeg t) now)) else ((0 : Int32), (0 : Int32), address, status, ready)))
set_option maxRecDepth 20000 in
theorem k_X11_start {t : Int32} {a : Int32} {refusal : Int32} {wheel : Int32} {now : Int32} {length : Int32} {at_ : Int32} {fault : Int32} {faultLine : Int32} {line : Int32} {words : Int32} {labels : Int32} {targets : Int32} {wrong : Int32} {unfit : Int32} {text : Nat → Int32} {code_ : Nat → Int32} {label : Nat → Int64} {labelWord : Nat → Int32} {target : Nat → Int64} {targetWord : Nat → Int32} {targetLine : Nat → Int32} {store : Nat → Int32} {common : Nat → Int32} {low : Nat → Int32} {high : Nat → Int32} {register : Nat → Int32} {address : Nat → Int32} {status : Nat → Int32} {did : Nat → Int32} {ready : Nat → Int32} {timer : Nat → Int32} {trace : Nat → Int32} {r_0 : Int32} {r_1 : Int32} {r_2 : (Nat → Int32)} {r_3 : (Nat → Int32)} {r_4 : (Nat → Int32)} (hres : (r_0, r_1, r_2, r_3, r_4) = f_X11_start t a now address status ready) : K M_X11_start yX11_start [.ref 0, .int t, .int a] (w_M refusal wheel now length at_ fault faultLine line words labels targets wrong unfit text code_ label labelWord target targetWord targetLine store common low high register address status did ready timer trace) (some (.int r_0)) (w_M r_1 wheel now length at_ fault faultLine line words labels targets wrong unfit text code_ label labelWord target targetWord targetLine store common low high register r_2 r_3 did r_4 timer trace) := by
  refine K.of (lv := [(0, .ref 0), (1, .int t), (2, .int a)]) (by decide +kernel) rfl rfl rfl ?_
  rw [f_X11_start] at hres
  refine G.aload_n (pc := 0) dm_X11_start_0 rfl ?_
  refine G.iconst (pc := 1) (v := (0 : Int32)) dm_X11_start_1 qi_0 ?_
  refine G.putfield (pc := 2) (ws1 := (w_M (0 : Int32) wheel now length at_ fault faultLine line words labels targets wrong unfit text code_ label labelWord target targetWord targetLine store common low high register address status did ready timer trace)) dm_X11_start_2 gw_X11_70 rfl (g_fit_i _) rfl rfl ?_
  refine G.iload_n (pc := 5) dm_X11_start_5 rfl ?_
  refine G.if_lt (pc := 6) (tgt := 14) dm_X11_start_6 (by decide) (fun c6 => ?_) (fun c6 => ?_)
  · rw [if_pos c6] at hres
    refine G.iconst (pc := 14) (v := (0 : Int32)) dm_X11_start_14 qi_0 ?_
    cases hres
    exact G.zreturn (pc := 15) dm_X11_start_15 rfl (by decide) rfl rfl
  · rw [if_neg c6] at hres
    refine G.iload_n (pc := 9) dm_X11_start_9 rfl ?_
    refine G.iconst (pc := 10) (v := (3 : Int32)) dm_X11_start_10 qi_3 ?_
    refine G.icmp_le (pc := 11) (tgt := 16) dm_X11_start_11 (by decide) (fun c11 => ?_) (fun c11 => ?_)
    · rw [if_pos c11] at hres
      refine G.aload_n (pc := 16) dm_X11_start_16 rfl ?_
      refine G.getfield (pc := 17) dm_X11_start_17 gf_X11_51 rfl rfl ?_
      refine G.iload_n (pc := 20) dm_X11_start_20 rfl ?_
      refine G.iconst (pc := 21) (v := (1 : Int32)) dm_X11_start_21 qi_1 ?_
      refine G.iastore (pc := 22) (ws1 := (w_M (0 : Int32) wheel now length at_ fault faultLine line words labels targets wrong unfit text code_ label labelWord target targetWord targetLine store common low high register address (upd status (Int32.toNatClampNeg t) (1 : Int32)) did ready timer trace)) dm_X11_start_22 rfl (q_t (q_g2 c6 c11 (by decide))) rfl ?_
      refine G.aload_n (pc := 23) dm_X11_start_23 rfl ?_
      refine G.getfield (pc := 24) dm_X11_start_24 gf_X11_48 rfl rfl ?_
      refine G.iload_n (pc := 27) dm_X11_start_27 rfl ?_
      refine G.iload_n (pc := 28) dm_X11_start_28 rfl ?_
      refine G.iastore (pc := 29) (ws1 := (w_M (0 : Int32) wheel now length at_ fault faultLine line words labels targets wrong unfit text code_ label labelWord target targetWord targetLine store common low high register (upd address (Int32.toNatClampNeg t) a) (upd status (Int32.toNatClampNeg t) (1 : Int32)) did ready timer trace)) dm_X11_start_29 rfl (q_t (q_g2 c6 c11 (by decide))) rfl ?_
      refine G.aload_n (pc := 30) dm_X11_start_30 rfl ?_
      refine G.getfield (pc := 31) dm_X11_start_31 gf_X11_57 rfl rfl ?_
      refine G.iload_n (pc := 34) dm_X11_start_34 rfl ?_
      refine G.aload_n (pc := 35) dm_X11_start_35 rfl ?_
      refine G.getfield (pc := 36) dm_X11_start_36 gf_X11_291 rfl rfl ?_
      refine G.iastore (pc := 39) (ws1 := (w_M (0 : Int32) wheel now length at_ fault faultLine line words labels targets wrong unfit text code_ label labelWord target targetWord targetLine store common low high register (upd address (Int32.toNatClampNeg t) a) (upd status (Int32.toNatClampNeg t) (1 : Int32)) did (upd ready (Int32.toNatClampNeg t) now) timer trace)) dm_X11_start_39 rfl (q_t (q_g2 c6 c11 (by decide))) rfl ?_
      refine G.iconst (pc := 40) (v := (1 : Int32)) dm_X11_start_40 qi_1 ?_
      cases hres
      exact G.zreturn (pc := 41) dm_X11_start_41 rfl (by decide) rfl rfl
    · rw [if_neg c11] at hres
      refine G.iconst (pc := 14) (v := (0 : Int32)) dm_X11_start_14 qi_0 ?_
      cases hres
      exact G.zreturn (pc := 15) dm_X11_start_15 rfl (by decide) rfl rfl
abbrev M_X11_register : g_M := (cX11_register, 3, RX11, (some .int), { frames := 0, cells := 0, slots := 0, locals := 0 }, 0, 0)
theorem dm_X11_register_0 : decode M_X11_register.1 0 = .ok (.aload_n 0, 1) := by decide +kernel
theorem dm_X11_register_1 : decode M_X11_register.1 1 = .ok (.iconst 0, 1) := by decide +kernel
theorem dm_X11_register_2 : decode M_X11_register.1 2 = .ok (.putfield 70, 3) := by decide +kernel
theorem dm_X11_register_5 : decode M_X11_register.1 5 = .ok (.iload_n 1, 1) := by decide +kernel
theorem dm_X11_register_6 : decode M_X11_register.1 6 = .ok (.ifCond .lt 18, 3) := by decide +kernel
theorem dm_X11_register_9 : decode M_X11_register.1 9 = .ok (.iload_n 1, 1) := by decide +kernel
theorem dm_X11_register_10 : decode M_X11_register.1 10 = .ok (.iconst 3, 1) := by decide +kernel
theorem dm_X11_register_11 : decode M_X11_register.1 11 = .ok (.if_icmp .gt 13, 3) := by decide +kernel
theorem dm_X11_register_14 : decode M_X11_register.1 14 = .ok (.iload_n 2, 1) := by decide +kernel
theorem dm_X11_register_15 : decode M_X11_register.1 15 = .ok (.ifCond .lt 9, 3) := by decide +kernel
theorem dm_X11_register_18 : decode M_X11_register.1 18 = .ok (.iload_n 2, 1) := by decide +kernel
theorem dm_X11_register_19 : decode M_X11_register.1 19 = .ok (.bipush 15, 2) := by decide +kernel
theorem dm_X11_register_21 : decode M_X11_register.1 21 = .ok (.if_icmp .le 7, 3) := by decide +kernel
theorem dm_X11_register_24 : decode M_X11_register.1 24 = .ok (.iconst 0, 1) := by decide +kernel
theorem dm_X11_register_25 : decode M_X11_register.1 25 = .ok (.goto 14, 3) := by decide +kernel
theorem dm_X11_register_28 : decode M_X11_register.1 28 = .ok (.aload_n 0, 1) := by decide +kernel
theorem dm_X11_register_29 : decode M_X11_register.1 29 = .ok (.getfield 45, 3) := by decide +kernel
theorem dm_X11_register_32 : decode M_X11_register.1 32 = .ok (.bipush 16, 2) := by decide +kernel
theorem dm_X11_register_34 : decode M_X11_register.1 34 = .ok (.iload_n 1, 1) := by decide +kernel
theorem dm_X11_register_35 : decode M_X11_register.1 35 = .ok (.imul, 1) := by decide +kernel
theorem dm_X11_register_36 : decode M_X11_register.1 36 = .ok (.iload_n 2, 1) := by decide +kernel
theorem dm_X11_register_37 : decode M_X11_register.1 37 = .ok (.iadd, 1) := by decide +kernel
theorem dm_X11_register_38 : decode M_X11_register.1 38 = .ok (.iaload, 1) := by decide +kernel
theorem dm_X11_register_39 : decode M_X11_register.1 39 = .ok (.ireturn, 1) := by decide +kernel
def f_X11_register (t : Int32) (k : Int32) (register : Nat → Int32) : Int32 × Int32 := (if t < 0 then ((0 : Int32), (0 : Int32)) else (if (3 : Int32) < t then ((0 : Int32), (0 : Int32)) else (if k < 0 then ((0 : Int32), (0 : Int32)) else (if k ≤ (15 : Int32) then ((register (Int32.toNatClampNeg (((16 : Int32) * t) + k))), (0 : Int32)) else ((0 : Int32), (0 : Int32))))))
set_option maxRecDepth 20000 in
theorem k_X11_register {t : Int32} {k : Int32} {refusal : Int32} {wheel : Int32} {now : Int32} {length : Int32} {at_ : Int32} {fault : Int32} {faultLine : Int32} {line : Int32} {words : Int32} {labels : Int32} {targets : Int32} {wrong : Int32} {unfit : Int32} {text : Nat → Int32} {code_ : Nat → Int32} {label : Nat → Int64} {labelWord : Nat → Int32} {target : Nat → Int64} {targetWord : Nat → Int32} {targetLine : Nat → Int32} {store : Nat → Int32} {common : Nat → Int32} {low : Nat → Int32} {high : Nat → Int32} {register : Nat → Int32} {address : Nat → Int32} {status : Nat → Int32} {did : Nat → Int32} {ready : Nat → Int32} {timer : Nat → Int32} {trace : Nat → Int32} {r_0 : Int32} {r_1 : Int32} (hres : (r_0, r_1) = f_X11_register t k register) : K M_X11_register yX11_register [.ref 0, .int t, .int k] (w_M refusal wheel now length at_ fault faultLine line words labels targets wrong unfit text code_ label labelWord target targetWord targetLine store common low high register address status did ready timer trace) (some (.int r_0)) (w_M r_1 wheel now length at_ fault faultLine line words labels targets wrong unfit text code_ label labelWord target targetWord targetLine store common low high register address status did ready timer trace) := by
  refine K.of (lv := [(0, .ref 0), (1, .int t), (2, .int k)]) (by decide +kernel) rfl rfl rfl ?_
  rw [f_X11_register] at hres
  refine G.aload_n (pc := 0) dm_X11_register_0 rfl ?_
  refine G.iconst (pc := 1) (v := (0 : Int32)) dm_X11_register_1 qi_0 ?_
  refine G.putfield (pc := 2) (ws1 := (w_M (0 : Int32) wheel now length at_ fault faultLine line words labels targets wrong unfit text code_ label labelWord target targetWord targetLine store common low high register address status did ready timer trace)) dm_X11_register_2 gw_X11_70 rfl (g_fit_i _) rfl rfl ?_
  refine G.iload_n (pc := 5) dm_X11_register_5 rfl ?_
  refine G.if_lt (pc := 6) (tgt := 24) dm_X11_register_6 (by decide) (fun c6 => ?_) (fun c6 => ?_)
  · rw [if_pos c6] at hres
    refine G.iconst (pc := 24) (v := (0 : Int32)) dm_X11_register_24 qi_0 ?_
    refine G.goto (pc := 25) (tgt := 39) dm_X11_register_25 (by decide) ?_
    cases hres
    exact G.ireturn (pc := 39) dm_X11_register_39 rfl rfl rfl
  · rw [if_neg c6] at hres
    refine G.iload_n (pc := 9) dm_X11_register_9 rfl ?_
    refine G.iconst (pc := 10) (v := (3 : Int32)) dm_X11_register_10 qi_3 ?_
    refine G.icmp_gt (pc := 11) (tgt := 24) dm_X11_register_11 (by decide) (fun c11 => ?_) (fun c11 => ?_)
    · rw [if_pos c11] at hres
      refine G.iconst (pc := 24) (v := (0 : Int32)) dm_X11_register_24 qi_0 ?_
      refine G.goto (pc := 25) (tgt := 39) dm_X11_register_25 (by decide) ?_
      cases hres
      exact G.ireturn (pc := 39) dm_X11_register_39 rfl rfl rfl
    · rw [if_neg c11] at hres
      refine G.iload_n (pc := 14) dm_X11_register_14 rfl ?_
      refine G.if_lt (pc := 15) (tgt := 24) dm_X11_register_15 (by decide) (fun c15 => ?_) (fun c15 => ?_)
      · rw [if_pos c15] at hres
        refine G.iconst (pc := 24) (v := (0 : Int32)) dm_X11_register_24 qi_0 ?_
        refine G.goto (pc := 25) (tgt := 39) dm_X11_register_25 (by decide) ?_
        cases hres
        exact G.ireturn (pc := 39) dm_X11_register_39 rfl rfl rfl
      · rw [if_neg c15] at hres
        refine G.iload_n (pc := 18) dm_X11_register_18 rfl ?_
        refine G.bipush (pc := 19) (v := (15 : Int32)) dm_X11_register_19 qb_15 ?_
        refine G.icmp_le (pc := 21) (tgt := 28) dm_X11_register_21 (by decide) (fun c21 => ?_) (fun c21 => ?_)
        · rw [if_pos c21] at hres
          refine G.aload_n (pc := 28) dm_X11_register_28 rfl ?_
          refine G.getfield (pc := 29) dm_X11_register_29 gf_X11_45 rfl rfl ?_
          refine G.bipush (pc := 32) (v := (16 : Int32)) dm_X11_register_32 qb_16 ?_
          refine G.iload_n (pc := 34) dm_X11_register_34 rfl ?_
          refine G.imul (pc := 35) dm_X11_register_35 ?_
          refine G.iload_n (pc := 36) dm_X11_register_36 rfl ?_
          refine G.iadd (pc := 37) dm_X11_register_37 ?_
          refine G.iaload (pc := 38) dm_X11_register_38 rfl (q_i16 (q_g1 c6 c11 (by decide)) (q_g2 c15 c21 (by decide))) ?_
          cases hres
          exact G.ireturn (pc := 39) dm_X11_register_39 rfl rfl rfl
        · rw [if_neg c21] at hres
          refine G.iconst (pc := 24) (v := (0 : Int32)) dm_X11_register_24 qi_0 ?_
          refine G.goto (pc := 25) (tgt := 39) dm_X11_register_25 (by decide) ?_
          cases hres
          exact G.ireturn (pc := 39) dm_X11_register_39 rfl rfl rfl
abbrev M_X11_state : g_M := (cX11_state, 3, RX11, (some .int), { frames := 0, cells := 0, slots := 0, locals := 0 }, 0, 0)
theorem dm_X11_state_0 : decode M_X11_state.1 0 = .ok (.aload_n 0, 1) := by decide +kernel
theorem dm_X11_state_1 : decode M_X11_state.1 1 = .ok (.iconst 0, 1) := by decide +kernel
theorem dm_X11_state_2 : decode M_X11_state.1 2 = .ok (.putfield 70, 3) := by decide +kernel
theorem dm_X11_state_5 : decode M_X11_state.1 5 = .ok (.iload_n 1, 1) := by decide +kernel
theorem dm_X11_state_6 : decode M_X11_state.1 6 = .ok (.ifCond .lt 8, 3) := by decide +kernel
theorem dm_X11_state_9 : decode M_X11_state.1 9 = .ok (.iload_n 1, 1) := by decide +kernel
theorem dm_X11_state_10 : decode M_X11_state.1 10 = .ok (.iconst 3, 1) := by decide +kernel
theorem dm_X11_state_11 : decode M_X11_state.1 11 = .ok (.if_icmp .le 5, 3) := by decide +kernel
theorem dm_X11_state_14 : decode M_X11_state.1 14 = .ok (.iconst (-1), 1) := by decide +kernel
theorem dm_X11_state_15 : decode M_X11_state.1 15 = .ok (.ireturn, 1) := by decide +kernel
theorem dm_X11_state_16 : decode M_X11_state.1 16 = .ok (.iload_n 2, 1) := by decide +kernel
theorem dm_X11_state_17 : decode M_X11_state.1 17 = .ok (.iconst 4, 1) := by decide +kernel
theorem dm_X11_state_18 : decode M_X11_state.1 18 = .ok (.if_icmp .lt 22, 3) := by decide +kernel
theorem dm_X11_state_21 : decode M_X11_state.1 21 = .ok (.iload_n 2, 1) := by decide +kernel
theorem dm_X11_state_22 : decode M_X11_state.1 22 = .ok (.bipush 7, 2) := by decide +kernel
theorem dm_X11_state_24 : decode M_X11_state.1 24 = .ok (.if_icmp .gt 16, 3) := by decide +kernel
theorem dm_X11_state_27 : decode M_X11_state.1 27 = .ok (.aload_n 0, 1) := by decide +kernel
theorem dm_X11_state_28 : decode M_X11_state.1 28 = .ok (.getfield 60, 3) := by decide +kernel
theorem dm_X11_state_31 : decode M_X11_state.1 31 = .ok (.iconst 4, 1) := by decide +kernel
theorem dm_X11_state_32 : decode M_X11_state.1 32 = .ok (.iload_n 1, 1) := by decide +kernel
theorem dm_X11_state_33 : decode M_X11_state.1 33 = .ok (.imul, 1) := by decide +kernel
theorem dm_X11_state_34 : decode M_X11_state.1 34 = .ok (.iload_n 2, 1) := by decide +kernel
theorem dm_X11_state_35 : decode M_X11_state.1 35 = .ok (.iadd, 1) := by decide +kernel
theorem dm_X11_state_36 : decode M_X11_state.1 36 = .ok (.iconst 4, 1) := by decide +kernel
theorem dm_X11_state_37 : decode M_X11_state.1 37 = .ok (.isub, 1) := by decide +kernel
theorem dm_X11_state_38 : decode M_X11_state.1 38 = .ok (.iaload, 1) := by decide +kernel
theorem dm_X11_state_39 : decode M_X11_state.1 39 = .ok (.ireturn, 1) := by decide +kernel
theorem dm_X11_state_40 : decode M_X11_state.1 40 = .ok (.iload_n 2, 1) := by decide +kernel
theorem dm_X11_state_41 : decode M_X11_state.1 41 = .ok (.ifCond .ne 12, 3) := by decide +kernel
theorem dm_X11_state_44 : decode M_X11_state.1 44 = .ok (.aload_n 0, 1) := by decide +kernel
theorem dm_X11_state_45 : decode M_X11_state.1 45 = .ok (.getfield 51, 3) := by decide +kernel
theorem dm_X11_state_48 : decode M_X11_state.1 48 = .ok (.iload_n 1, 1) := by decide +kernel
theorem dm_X11_state_49 : decode M_X11_state.1 49 = .ok (.iaload, 1) := by decide +kernel
theorem dm_X11_state_50 : decode M_X11_state.1 50 = .ok (.goto 46, 3) := by decide +kernel
theorem dm_X11_state_53 : decode M_X11_state.1 53 = .ok (.iload_n 2, 1) := by decide +kernel
theorem dm_X11_state_54 : decode M_X11_state.1 54 = .ok (.iconst 1, 1) := by decide +kernel
theorem dm_X11_state_55 : decode M_X11_state.1 55 = .ok (.if_icmp .ne 12, 3) := by decide +kernel
theorem dm_X11_state_58 : decode M_X11_state.1 58 = .ok (.aload_n 0, 1) := by decide +kernel
theorem dm_X11_state_59 : decode M_X11_state.1 59 = .ok (.getfield 48, 3) := by decide +kernel
theorem dm_X11_state_62 : decode M_X11_state.1 62 = .ok (.iload_n 1, 1) := by decide +kernel
theorem dm_X11_state_63 : decode M_X11_state.1 63 = .ok (.iaload, 1) := by decide +kernel
theorem dm_X11_state_64 : decode M_X11_state.1 64 = .ok (.goto 32, 3) := by decide +kernel
theorem dm_X11_state_67 : decode M_X11_state.1 67 = .ok (.iload_n 2, 1) := by decide +kernel
theorem dm_X11_state_68 : decode M_X11_state.1 68 = .ok (.iconst 2, 1) := by decide +kernel
theorem dm_X11_state_69 : decode M_X11_state.1 69 = .ok (.if_icmp .ne 12, 3) := by decide +kernel
theorem dm_X11_state_72 : decode M_X11_state.1 72 = .ok (.aload_n 0, 1) := by decide +kernel
theorem dm_X11_state_73 : decode M_X11_state.1 73 = .ok (.getfield 54, 3) := by decide +kernel
theorem dm_X11_state_76 : decode M_X11_state.1 76 = .ok (.iload_n 1, 1) := by decide +kernel
theorem dm_X11_state_77 : decode M_X11_state.1 77 = .ok (.iaload, 1) := by decide +kernel
theorem dm_X11_state_78 : decode M_X11_state.1 78 = .ok (.goto 18, 3) := by decide +kernel
theorem dm_X11_state_81 : decode M_X11_state.1 81 = .ok (.iload_n 2, 1) := by decide +kernel
theorem dm_X11_state_82 : decode M_X11_state.1 82 = .ok (.iconst 3, 1) := by decide +kernel
theorem dm_X11_state_83 : decode M_X11_state.1 83 = .ok (.if_icmp .ne 12, 3) := by decide +kernel
theorem dm_X11_state_86 : decode M_X11_state.1 86 = .ok (.aload_n 0, 1) := by decide +kernel
theorem dm_X11_state_87 : decode M_X11_state.1 87 = .ok (.getfield 57, 3) := by decide +kernel
theorem dm_X11_state_90 : decode M_X11_state.1 90 = .ok (.iload_n 1, 1) := by decide +kernel
theorem dm_X11_state_91 : decode M_X11_state.1 91 = .ok (.iaload, 1) := by decide +kernel
theorem dm_X11_state_92 : decode M_X11_state.1 92 = .ok (.goto 4, 3) := by decide +kernel
theorem dm_X11_state_95 : decode M_X11_state.1 95 = .ok (.iconst (-1), 1) := by decide +kernel
theorem dm_X11_state_96 : decode M_X11_state.1 96 = .ok (.ireturn, 1) := by decide +kernel
def f_X11_state_40 (refusal : Int32) (address : Nat → Int32) (status : Nat → Int32) (did : Nat → Int32) (ready : Nat → Int32) (l1 : Int32) (l2 : Int32) : Int32 × Int32 := (if l2 = 0 then ((status (Int32.toNatClampNeg l1)), refusal) else (if l2 = (1 : Int32) then ((address (Int32.toNatClampNeg l1)), refusal) else (if l2 = (2 : Int32) then ((did (Int32.toNatClampNeg l1)), refusal) else (if l2 = (3 : Int32) then ((ready (Int32.toNatClampNeg l1)), refusal) else ((-1 : Int32), refusal)))))
set_option maxRecDepth 20000 in
theorem j_X11_state_40 {l1 : Int32} {l2 : Int32} {refusal : Int32} {wheel : Int32} {now : Int32} {length : Int32} {at_ : Int32} {fault : Int32} {faultLine : Int32} {line : Int32} {words : Int32} {labels : Int32} {targets : Int32} {wrong : Int32} {unfit : Int32} {text : Nat → Int32} {code_ : Nat → Int32} {label : Nat → Int64} {labelWord : Nat → Int32} {target : Nat → Int64} {targetWord : Nat → Int32} {targetLine : Nat → Int32} {store : Nat → Int32} {common : Nat → Int32} {low : Nat → Int32} {high : Nat → Int32} {register : Nat → Int32} {address : Nat → Int32} {status : Nat → Int32} {did : Nat → Int32} {ready : Nat → Int32} {timer : Nat → Int32} {trace : Nat → Int32} {r_0 : Int32} {r_1 : Int32} (hres : (r_0, r_1) = (f_X11_state_40 refusal address status did ready l1 l2)) (ht : 0 ≤ l1.toInt ∧ l1.toInt < 4) : G M_X11_state 0 0 40 [(0, .ref 0), (1, .int l1), (2, .int l2)] [] (w_M refusal wheel now length at_ fault faultLine line words labels targets wrong unfit text code_ label labelWord target targetWord targetLine store common low high register address status did ready timer trace) (some (.int r_0)) (w_M r_1 wheel now length at_ fault faultLine line words labels targets wrong unfit text code_ label labelWord target targetWord targetLine store common low high register address status did ready timer trace) := by
  rw [f_X11_state_40] at hres
  refine G.iload_n (pc := 40) dm_X11_state_40 rfl ?_
  refine G.if_ne (pc := 41) (tgt := 53) dm_X11_state_41 (by decide) (fun c41 => ?_) (fun c41 => ?_)
  · rw [if_neg c41] at hres
    refine G.iload_n (pc := 53) dm_X11_state_53 rfl ?_
    refine G.iconst (pc := 54) (v := (1 : Int32)) dm_X11_state_54 qi_1 ?_
    refine G.icmp_ne (pc := 55) (tgt := 67) dm_X11_state_55 (by decide) (fun c55 => ?_) (fun c55 => ?_)
    · rw [if_neg c55] at hres
      refine G.iload_n (pc := 67) dm_X11_state_67 rfl ?_
      refine G.iconst (pc := 68) (v := (2 : Int32)) dm_X11_state_68 qi_2 ?_
      refine G.icmp_ne (pc := 69) (tgt := 81) dm_X11_state_69 (by decide) (fun c69 => ?_) (fun c69 => ?_)
      · rw [if_neg c69] at hres
        refine G.iload_n (pc := 81) dm_X11_state_81 rfl ?_
        refine G.iconst (pc := 82) (v := (3 : Int32)) dm_X11_state_82 qi_3 ?_
        refine G.icmp_ne (pc := 83) (tgt := 95) dm_X11_state_83 (by decide) (fun c83 => ?_) (fun c83 => ?_)
        · rw [if_neg c83] at hres
          refine G.iconst (pc := 95) (v := (-1 : Int32)) dm_X11_state_95 qi_m1 ?_
          cases hres
          exact G.ireturn (pc := 96) dm_X11_state_96 rfl rfl rfl
        · rw [if_pos c83] at hres
          refine G.aload_n (pc := 86) dm_X11_state_86 rfl ?_
          refine G.getfield (pc := 87) dm_X11_state_87 gf_X11_57 rfl rfl ?_
          refine G.iload_n (pc := 90) dm_X11_state_90 rfl ?_
          refine G.iaload (pc := 91) dm_X11_state_91 rfl (q_t ht) ?_
          refine G.goto (pc := 92) (tgt := 96) dm_X11_state_92 (by decide) ?_
          cases hres
          exact G.ireturn (pc := 96) dm_X11_state_96 rfl rfl rfl
      · rw [if_pos c69] at hres
        refine G.aload_n (pc := 72) dm_X11_state_72 rfl ?_
        refine G.getfield (pc := 73) dm_X11_state_73 gf_X11_54 rfl rfl ?_
        refine G.iload_n (pc := 76) dm_X11_state_76 rfl ?_
        refine G.iaload (pc := 77) dm_X11_state_77 rfl (q_t ht) ?_
        refine G.goto (pc := 78) (tgt := 96) dm_X11_state_78 (by decide) ?_
        cases hres
        exact G.ireturn (pc := 96) dm_X11_state_96 rfl rfl rfl
    · rw [if_pos c55] at hres
      refine G.aload_n (pc := 58) dm_X11_state_58 rfl ?_
      refine G.getfield (pc := 59) dm_X11_state_59 gf_X11_48 rfl rfl ?_
      refine G.iload_n (pc := 62) dm_X11_state_62 rfl ?_
      refine G.iaload (pc := 63) dm_X11_state_63 rfl (q_t ht) ?_
      refine G.goto (pc := 64) (tgt := 96) dm_X11_state_64 (by decide) ?_
      cases hres
      exact G.ireturn (pc := 96) dm_X11_state_96 rfl rfl rfl
  · rw [if_pos c41] at hres
    refine G.aload_n (pc := 44) dm_X11_state_44 rfl ?_
    refine G.getfield (pc := 45) dm_X11_state_45 gf_X11_51 rfl rfl ?_
    refine G.iload_n (pc := 48) dm_X11_state_48 rfl ?_
    refine G.iaload (pc := 49) dm_X11_state_49 rfl (q_t ht) ?_
    refine G.goto (pc := 50) (tgt := 96) dm_X11_state_50 (by decide) ?_
    cases hres
    exact G.ireturn (pc := 96) dm_X11_state_96 rfl rfl rfl
def f_X11_state (t : Int32) (what : Int32) (address : Nat → Int32) (status : Nat → Int32) (did : Nat → Int32) (ready : Nat → Int32) (timer : Nat → Int32) : Int32 × Int32 := (if t < 0 then ((-1 : Int32), (0 : Int32)) else (if t ≤ (3 : Int32) then (if what < (4 : Int32) then (f_X11_state_40 (0 : Int32) address status did ready t what) else (if (7 : Int32) < what then (f_X11_state_40 (0 : Int32) address status did ready t what) else ((timer (Int32.toNatClampNeg ((((4 : Int32) * t) + what) - (4 : Int32)))), (0 : Int32)))) else ((-1 : Int32), (0 : Int32))))
set_option maxRecDepth 20000 in
theorem k_X11_state {t : Int32} {what : Int32} {refusal : Int32} {wheel : Int32} {now : Int32} {length : Int32} {at_ : Int32} {fault : Int32} {faultLine : Int32} {line : Int32} {words : Int32} {labels : Int32} {targets : Int32} {wrong : Int32} {unfit : Int32} {text : Nat → Int32} {code_ : Nat → Int32} {label : Nat → Int64} {labelWord : Nat → Int32} {target : Nat → Int64} {targetWord : Nat → Int32} {targetLine : Nat → Int32} {store : Nat → Int32} {common : Nat → Int32} {low : Nat → Int32} {high : Nat → Int32} {register : Nat → Int32} {address : Nat → Int32} {status : Nat → Int32} {did : Nat → Int32} {ready : Nat → Int32} {timer : Nat → Int32} {trace : Nat → Int32} {r_0 : Int32} {r_1 : Int32} (hres : (r_0, r_1) = f_X11_state t what address status did ready timer) : K M_X11_state yX11_state [.ref 0, .int t, .int what] (w_M refusal wheel now length at_ fault faultLine line words labels targets wrong unfit text code_ label labelWord target targetWord targetLine store common low high register address status did ready timer trace) (some (.int r_0)) (w_M r_1 wheel now length at_ fault faultLine line words labels targets wrong unfit text code_ label labelWord target targetWord targetLine store common low high register address status did ready timer trace) := by
  refine K.of (lv := [(0, .ref 0), (1, .int t), (2, .int what)]) (by decide +kernel) rfl rfl rfl ?_
  rw [f_X11_state] at hres
  refine G.aload_n (pc := 0) dm_X11_state_0 rfl ?_
  refine G.iconst (pc := 1) (v := (0 : Int32)) dm_X11_state_1 qi_0 ?_
  refine G.putfield (pc := 2) (ws1 := (w_M (0 : Int32) wheel now length at_ fault faultLine line words labels targets wrong unfit text code_ label labelWord target targetWord targetLine store common low high register address status did ready timer trace)) dm_X11_state_2 gw_X11_70 rfl (g_fit_i _) rfl rfl ?_
  refine G.iload_n (pc := 5) dm_X11_state_5 rfl ?_
  refine G.if_lt (pc := 6) (tgt := 14) dm_X11_state_6 (by decide) (fun c6 => ?_) (fun c6 => ?_)
  · rw [if_pos c6] at hres
    refine G.iconst (pc := 14) (v := (-1 : Int32)) dm_X11_state_14 qi_m1 ?_
    cases hres
    exact G.ireturn (pc := 15) dm_X11_state_15 rfl rfl rfl
  · rw [if_neg c6] at hres
    refine G.iload_n (pc := 9) dm_X11_state_9 rfl ?_
    refine G.iconst (pc := 10) (v := (3 : Int32)) dm_X11_state_10 qi_3 ?_
    refine G.icmp_le (pc := 11) (tgt := 16) dm_X11_state_11 (by decide) (fun c11 => ?_) (fun c11 => ?_)
    · rw [if_pos c11] at hres
      refine G.iload_n (pc := 16) dm_X11_state_16 rfl ?_
      refine G.iconst (pc := 17) (v := (4 : Int32)) dm_X11_state_17 qi_4 ?_
      refine G.icmp_lt (pc := 18) (tgt := 40) dm_X11_state_18 (by decide) (fun c18 => ?_) (fun c18 => ?_)
      · rw [if_pos c18] at hres
        exact j_X11_state_40 hres (q_g2 c6 c11 (by decide))
      · rw [if_neg c18] at hres
        refine G.iload_n (pc := 21) dm_X11_state_21 rfl ?_
        refine G.bipush (pc := 22) (v := (7 : Int32)) dm_X11_state_22 qb_7 ?_
        refine G.icmp_gt (pc := 24) (tgt := 40) dm_X11_state_24 (by decide) (fun c24 => ?_) (fun c24 => ?_)
        · rw [if_pos c24] at hres
          exact j_X11_state_40 hres (q_g2 c6 c11 (by decide))
        · rw [if_neg c24] at hres
          refine G.aload_n (pc := 27) dm_X11_state_27 rfl ?_
          refine G.getfield (pc := 28) dm_X11_state_28 gf_X11_60 rfl rfl ?_
          refine G.iconst (pc := 31) (v := (4 : Int32)) dm_X11_state_31 qi_4 ?_
          refine G.iload_n (pc := 32) dm_X11_state_32 rfl ?_
          refine G.imul (pc := 33) dm_X11_state_33 ?_
          refine G.iload_n (pc := 34) dm_X11_state_34 rfl ?_
          refine G.iadd (pc := 35) dm_X11_state_35 ?_
          refine G.iconst (pc := 36) (v := (4 : Int32)) dm_X11_state_36 qi_4 ?_
          refine G.isub (pc := 37) dm_X11_state_37 ?_
          refine G.iaload (pc := 38) dm_X11_state_38 rfl (q_i4m (q_g2 c6 c11 (by decide)) c18 c24) ?_
          cases hres
          exact G.ireturn (pc := 39) dm_X11_state_39 rfl rfl rfl
    · rw [if_neg c11] at hres
      refine G.iconst (pc := 14) (v := (-1 : Int32)) dm_X11_state_14 qi_m1 ?_
      cases hres
      exact G.ireturn (pc := 15) dm_X11_state_15 rfl rfl rfl
abbrev M_X11_trace : g_M := (cX11_trace, 4, RX11, (some .int), { frames := 0, cells := 0, slots := 0, locals := 0 }, 0, 0)
theorem dm_X11_trace_0 : decode M_X11_trace.1 0 = .ok (.aload_n 0, 1) := by decide +kernel
theorem dm_X11_trace_1 : decode M_X11_trace.1 1 = .ok (.iconst 0, 1) := by decide +kernel
theorem dm_X11_trace_2 : decode M_X11_trace.1 2 = .ok (.putfield 70, 3) := by decide +kernel
theorem dm_X11_trace_5 : decode M_X11_trace.1 5 = .ok (.iload_n 1, 1) := by decide +kernel
theorem dm_X11_trace_6 : decode M_X11_trace.1 6 = .ok (.ifCond .lt 37, 3) := by decide +kernel
theorem dm_X11_trace_9 : decode M_X11_trace.1 9 = .ok (.iload_n 1, 1) := by decide +kernel
theorem dm_X11_trace_10 : decode M_X11_trace.1 10 = .ok (.iconst 3, 1) := by decide +kernel
theorem dm_X11_trace_11 : decode M_X11_trace.1 11 = .ok (.if_icmp .gt 32, 3) := by decide +kernel
theorem dm_X11_trace_14 : decode M_X11_trace.1 14 = .ok (.iload_n 2, 1) := by decide +kernel
theorem dm_X11_trace_15 : decode M_X11_trace.1 15 = .ok (.ifCond .lt 28, 3) := by decide +kernel
theorem dm_X11_trace_18 : decode M_X11_trace.1 18 = .ok (.iload_n 2, 1) := by decide +kernel
theorem dm_X11_trace_19 : decode M_X11_trace.1 19 = .ok (.bipush 15, 2) := by decide +kernel
theorem dm_X11_trace_21 : decode M_X11_trace.1 21 = .ok (.if_icmp .gt 22, 3) := by decide +kernel
theorem dm_X11_trace_24 : decode M_X11_trace.1 24 = .ok (.iload_n 2, 1) := by decide +kernel
theorem dm_X11_trace_25 : decode M_X11_trace.1 25 = .ok (.aload_n 0, 1) := by decide +kernel
theorem dm_X11_trace_26 : decode M_X11_trace.1 26 = .ok (.getfield 54, 3) := by decide +kernel
theorem dm_X11_trace_29 : decode M_X11_trace.1 29 = .ok (.iload_n 1, 1) := by decide +kernel
theorem dm_X11_trace_30 : decode M_X11_trace.1 30 = .ok (.iaload, 1) := by decide +kernel
theorem dm_X11_trace_31 : decode M_X11_trace.1 31 = .ok (.if_icmp .ge 12, 3) := by decide +kernel
theorem dm_X11_trace_34 : decode M_X11_trace.1 34 = .ok (.iload_n 3, 1) := by decide +kernel
theorem dm_X11_trace_35 : decode M_X11_trace.1 35 = .ok (.ifCond .lt 8, 3) := by decide +kernel
theorem dm_X11_trace_38 : decode M_X11_trace.1 38 = .ok (.iload_n 3, 1) := by decide +kernel
theorem dm_X11_trace_39 : decode M_X11_trace.1 39 = .ok (.iconst 2, 1) := by decide +kernel
theorem dm_X11_trace_40 : decode M_X11_trace.1 40 = .ok (.if_icmp .le 5, 3) := by decide +kernel
theorem dm_X11_trace_43 : decode M_X11_trace.1 43 = .ok (.iconst (-1), 1) := by decide +kernel
theorem dm_X11_trace_44 : decode M_X11_trace.1 44 = .ok (.ireturn, 1) := by decide +kernel
theorem dm_X11_trace_45 : decode M_X11_trace.1 45 = .ok (.aload_n 0, 1) := by decide +kernel
theorem dm_X11_trace_46 : decode M_X11_trace.1 46 = .ok (.getfield 63, 3) := by decide +kernel
theorem dm_X11_trace_49 : decode M_X11_trace.1 49 = .ok (.bipush 48, 2) := by decide +kernel
theorem dm_X11_trace_51 : decode M_X11_trace.1 51 = .ok (.iload_n 1, 1) := by decide +kernel
theorem dm_X11_trace_52 : decode M_X11_trace.1 52 = .ok (.imul, 1) := by decide +kernel
theorem dm_X11_trace_53 : decode M_X11_trace.1 53 = .ok (.iconst 3, 1) := by decide +kernel
theorem dm_X11_trace_54 : decode M_X11_trace.1 54 = .ok (.aload_n 0, 1) := by decide +kernel
theorem dm_X11_trace_55 : decode M_X11_trace.1 55 = .ok (.getfield 54, 3) := by decide +kernel
theorem dm_X11_trace_58 : decode M_X11_trace.1 58 = .ok (.iload_n 1, 1) := by decide +kernel
theorem dm_X11_trace_59 : decode M_X11_trace.1 59 = .ok (.iaload, 1) := by decide +kernel
theorem dm_X11_trace_60 : decode M_X11_trace.1 60 = .ok (.iconst 1, 1) := by decide +kernel
theorem dm_X11_trace_61 : decode M_X11_trace.1 61 = .ok (.isub, 1) := by decide +kernel
theorem dm_X11_trace_62 : decode M_X11_trace.1 62 = .ok (.iload_n 2, 1) := by decide +kernel
theorem dm_X11_trace_63 : decode M_X11_trace.1 63 = .ok (.isub, 1) := by decide +kernel
theorem dm_X11_trace_64 : decode M_X11_trace.1 64 = .ok (.bipush 16, 2) := by decide +kernel
theorem dm_X11_trace_66 : decode M_X11_trace.1 66 = .ok (.irem, 1) := by decide +kernel
theorem dm_X11_trace_67 : decode M_X11_trace.1 67 = .ok (.imul, 1) := by decide +kernel
theorem dm_X11_trace_68 : decode M_X11_trace.1 68 = .ok (.iadd, 1) := by decide +kernel
theorem dm_X11_trace_69 : decode M_X11_trace.1 69 = .ok (.iload_n 3, 1) := by decide +kernel
theorem dm_X11_trace_70 : decode M_X11_trace.1 70 = .ok (.iadd, 1) := by decide +kernel
theorem dm_X11_trace_71 : decode M_X11_trace.1 71 = .ok (.iaload, 1) := by decide +kernel
theorem dm_X11_trace_72 : decode M_X11_trace.1 72 = .ok (.ireturn, 1) := by decide +kernel
def f_X11_trace (t : Int32) (k : Int32) (what : Int32) (did : Nat → Int32) (trace : Nat → Int32) : Int32 × Int32 := (if t < 0 then ((-1 : Int32), (0 : Int32)) else (if (3 : Int32) < t then ((-1 : Int32), (0 : Int32)) else (if k < 0 then ((-1 : Int32), (0 : Int32)) else (if (15 : Int32) < k then ((-1 : Int32), (0 : Int32)) else (if (did (Int32.toNatClampNeg t)) ≤ k then ((-1 : Int32), (0 : Int32)) else (if what < 0 then ((-1 : Int32), (0 : Int32)) else (if what ≤ (2 : Int32) then ((trace (Int32.toNatClampNeg ((((48 : Int32) * t) + ((3 : Int32) * ((((did (Int32.toNatClampNeg t)) - (1 : Int32)) - k) - (((did (Int32.toNatClampNeg t)) - (1 : Int32)) - k) / (16 : Int32) * (16 : Int32)))) + what))), (0 : Int32)) else ((-1 : Int32), (0 : Int32)))))))))
set_option maxRecDepth 20000 in
theorem k_X11_trace {t : Int32} {k : Int32} {what : Int32} {refusal : Int32} {wheel : Int32} {now : Int32} {length : Int32} {at_ : Int32} {fault : Int32} {faultLine : Int32} {line : Int32} {words : Int32} {labels : Int32} {targets : Int32} {wrong : Int32} {unfit : Int32} {text : Nat → Int32} {code_ : Nat → Int32} {label : Nat → Int64} {labelWord : Nat → Int32} {target : Nat → Int64} {targetWord : Nat → Int32} {targetLine : Nat → Int32} {store : Nat → Int32} {common : Nat → Int32} {low : Nat → Int32} {high : Nat → Int32} {register : Nat → Int32} {address : Nat → Int32} {status : Nat → Int32} {did : Nat → Int32} {ready : Nat → Int32} {timer : Nat → Int32} {trace : Nat → Int32} {r_0 : Int32} {r_1 : Int32} (hres : (r_0, r_1) = f_X11_trace t k what did trace) : K M_X11_trace yX11_trace [.ref 0, .int t, .int k, .int what] (w_M refusal wheel now length at_ fault faultLine line words labels targets wrong unfit text code_ label labelWord target targetWord targetLine store common low high register address status did ready timer trace) (some (.int r_0)) (w_M r_1 wheel now length at_ fault faultLine line words labels targets wrong unfit text code_ label labelWord target targetWord targetLine store common low high register address status did ready timer trace) := by
  refine K.of (lv := [(0, .ref 0), (1, .int t), (2, .int k), (3, .int what)]) (by decide +kernel) rfl rfl rfl ?_
  rw [f_X11_trace] at hres
  refine G.aload_n (pc := 0) dm_X11_trace_0 rfl ?_
  refine G.iconst (pc := 1) (v := (0 : Int32)) dm_X11_trace_1 qi_0 ?_
  refine G.putfield (pc := 2) (ws1 := (w_M (0 : Int32) wheel now length at_ fault faultLine line words labels targets wrong unfit text code_ label labelWord target targetWord targetLine store common low high register address status did ready timer trace)) dm_X11_trace_2 gw_X11_70 rfl (g_fit_i _) rfl rfl ?_
  refine G.iload_n (pc := 5) dm_X11_trace_5 rfl ?_
  refine G.if_lt (pc := 6) (tgt := 43) dm_X11_trace_6 (by decide) (fun c6 => ?_) (fun c6 => ?_)
  · rw [if_pos c6] at hres
    refine G.iconst (pc := 43) (v := (-1 : Int32)) dm_X11_trace_43 qi_m1 ?_
    cases hres
    exact G.ireturn (pc := 44) dm_X11_trace_44 rfl rfl rfl
  · rw [if_neg c6] at hres
    refine G.iload_n (pc := 9) dm_X11_trace_9 rfl ?_
    refine G.iconst (pc := 10) (v := (3 : Int32)) dm_X11_trace_10 qi_3 ?_
    refine G.icmp_gt (pc := 11) (tgt := 43) dm_X11_trace_11 (by decide) (fun c11 => ?_) (fun c11 => ?_)
    · rw [if_pos c11] at hres
      refine G.iconst (pc := 43) (v := (-1 : Int32)) dm_X11_trace_43 qi_m1 ?_
      cases hres
      exact G.ireturn (pc := 44) dm_X11_trace_44 rfl rfl rfl
    · rw [if_neg c11] at hres
      refine G.iload_n (pc := 14) dm_X11_trace_14 rfl ?_
      refine G.if_lt (pc := 15) (tgt := 43) dm_X11_trace_15 (by decide) (fun c15 => ?_) (fun c15 => ?_)
      · rw [if_pos c15] at hres
        refine G.iconst (pc := 43) (v := (-1 : Int32)) dm_X11_trace_43 qi_m1 ?_
        cases hres
        exact G.ireturn (pc := 44) dm_X11_trace_44 rfl rfl rfl
      · rw [if_neg c15] at hres
        refine G.iload_n (pc := 18) dm_X11_trace_18 rfl ?_
        refine G.bipush (pc := 19) (v := (15 : Int32)) dm_X11_trace_19 qb_15 ?_
        refine G.icmp_gt (pc := 21) (tgt := 43) dm_X11_trace_21 (by decide) (fun c21 => ?_) (fun c21 => ?_)
        · rw [if_pos c21] at hres
          refine G.iconst (pc := 43) (v := (-1 : Int32)) dm_X11_trace_43 qi_m1 ?_
          cases hres
          exact G.ireturn (pc := 44) dm_X11_trace_44 rfl rfl rfl
        · rw [if_neg c21] at hres
          refine G.iload_n (pc := 24) dm_X11_trace_24 rfl ?_
          refine G.aload_n (pc := 25) dm_X11_trace_25 rfl ?_
          refine G.getfield (pc := 26) dm_X11_trace_26 gf_X11_54 rfl rfl ?_
          refine G.iload_n (pc := 29) dm_X11_trace_29 rfl ?_
          refine G.iaload (pc := 30) dm_X11_trace_30 rfl (q_t (q_g1 c6 c11 (by decide))) ?_
          refine G.icmp_ge (pc := 31) (tgt := 43) dm_X11_trace_31 (by decide) (fun c31 => ?_) (fun c31 => ?_)
          · rw [if_pos c31] at hres
            refine G.iconst (pc := 43) (v := (-1 : Int32)) dm_X11_trace_43 qi_m1 ?_
            cases hres
            exact G.ireturn (pc := 44) dm_X11_trace_44 rfl rfl rfl
          · rw [if_neg c31] at hres
            refine G.iload_n (pc := 34) dm_X11_trace_34 rfl ?_
            refine G.if_lt (pc := 35) (tgt := 43) dm_X11_trace_35 (by decide) (fun c35 => ?_) (fun c35 => ?_)
            · rw [if_pos c35] at hres
              refine G.iconst (pc := 43) (v := (-1 : Int32)) dm_X11_trace_43 qi_m1 ?_
              cases hres
              exact G.ireturn (pc := 44) dm_X11_trace_44 rfl rfl rfl
            · rw [if_neg c35] at hres
              refine G.iload_n (pc := 38) dm_X11_trace_38 rfl ?_
              refine G.iconst (pc := 39) (v := (2 : Int32)) dm_X11_trace_39 qi_2 ?_
              refine G.icmp_le (pc := 40) (tgt := 45) dm_X11_trace_40 (by decide) (fun c40 => ?_) (fun c40 => ?_)
              · rw [if_pos c40] at hres
                refine G.aload_n (pc := 45) dm_X11_trace_45 rfl ?_
                refine G.getfield (pc := 46) dm_X11_trace_46 gf_X11_63 rfl rfl ?_
                refine G.bipush (pc := 49) (v := (48 : Int32)) dm_X11_trace_49 qb_48 ?_
                refine G.iload_n (pc := 51) dm_X11_trace_51 rfl ?_
                refine G.imul (pc := 52) dm_X11_trace_52 ?_
                refine G.iconst (pc := 53) (v := (3 : Int32)) dm_X11_trace_53 qi_3 ?_
                refine G.aload_n (pc := 54) dm_X11_trace_54 rfl ?_
                refine G.getfield (pc := 55) dm_X11_trace_55 gf_X11_54 rfl rfl ?_
                refine G.iload_n (pc := 58) dm_X11_trace_58 rfl ?_
                refine G.iaload (pc := 59) dm_X11_trace_59 rfl (q_t (q_g1 c6 c11 (by decide))) ?_
                refine G.iconst (pc := 60) (v := (1 : Int32)) dm_X11_trace_60 qi_1 ?_
                refine G.isub (pc := 61) dm_X11_trace_61 ?_
                refine G.iload_n (pc := 62) dm_X11_trace_62 rfl ?_
                refine G.isub (pc := 63) dm_X11_trace_63 ?_
                refine G.bipush (pc := 64) (v := (16 : Int32)) dm_X11_trace_64 qb_16 ?_
                refine G.irem (pc := 66) dm_X11_trace_66 (by decide) ?_
                refine G.imul (pc := 67) dm_X11_trace_67 ?_
                refine G.iadd (pc := 68) dm_X11_trace_68 ?_
                refine G.iload_n (pc := 69) dm_X11_trace_69 rfl ?_
                refine G.iadd (pc := 70) dm_X11_trace_70 ?_
                refine G.iaload (pc := 71) dm_X11_trace_71 rfl (q_trk (q_g1 c6 c11 (by decide)) c31 (q_g1 (n := 16) c15 c21 (by decide)).1 (q_g2 c35 c40 (by decide))) ?_
                cases hres
                exact G.ireturn (pc := 72) dm_X11_trace_72 rfl rfl rfl
              · rw [if_neg c40] at hres
                refine G.iconst (pc := 43) (v := (-1 : Int32)) dm_X11_trace_43 qi_m1 ?_
                cases hres
                exact G.ireturn (pc := 44) dm_X11_trace_44 rfl rfl rfl
