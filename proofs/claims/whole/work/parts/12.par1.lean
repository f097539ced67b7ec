theorem q_up {length at_ : Int32} (hln : 0 ≤ length.toInt ∧ length.toInt ≤ 400) (hat : 0 ≤ at_.toInt ∧ at_.toInt ≤ 400) (h : at_.toInt < length.toInt) : 0 ≤ (at_ + 1).toInt ∧ (at_ + 1).toInt ≤ 400 := by
  rw [q_inc (by omega)]; omega
theorem q_updec {length at_ : Int32} {mu : Nat} (hln : 0 ≤ length.toInt ∧ length.toInt ≤ 400) (hat : 0 ≤ at_.toInt ∧ at_.toInt ≤ 400) (h : at_.toInt < length.toInt) (hmu : 400 - at_.toInt.toNat = mu) : 400 - (at_ + 1).toInt.toNat < mu := by
  rw [q_inc (by omega)]; omega
theorem q_p1 {at_ : Int32} (hat : 0 ≤ at_.toInt ∧ at_.toInt ≤ 400) : 0 ≤ (at_ + 1).toInt := by
  rw [q_inc (by omega)]; omega
theorem q_p2 {length at_ : Int32} (hln : 0 ≤ length.toInt ∧ length.toInt ≤ 400) (hat : 0 ≤ at_.toInt ∧ at_.toInt ≤ 400) (h : (at_ + 1).toInt < length.toInt) : 0 ≤ (at_ + 2).toInt ∧ (at_ + 2).toInt ≤ 400 := by
  rw [q_inc (by omega)] at h
  have h2 : (2 : Int32).toInt = 2 := by decide
  rw [q_add (by omega) (by omega), h2]; omega
theorem q_ne16 {x : Int32} (h : 0 ≤ x.toInt ∧ x.toInt ≤ 16) (c : ¬ x = 16) : x.toInt < 16 := by
  have h1 : (16 : Int32).toInt = 16 := by decide
  rcases Int.lt_or_eq_of_le h.2 with h2 | h2
  · exact h2
  · exact absurd (Int32.toInt_inj.mp (by rw [h2, h1])) c
theorem q_inc16 {x : Int32} (h : 0 ≤ x.toInt ∧ x.toInt ≤ 16) (c : x.toInt < 16) : 0 ≤ (x + 1).toInt ∧ (x + 1).toInt ≤ 16 := by
  rw [q_inc (by omega)]; omega
theorem q_fw0 {f w : Int32} (hf : 0 ≤ f.toInt ∧ f.toInt < 128) (hw : 0 ≤ w.toInt ∧ w.toInt ≤ 128) : (f + w).toInt = f.toInt + w.toInt := q_add (by omega) (by omega)
theorem q_cw {f w : Int32} (hf : 0 ≤ f.toInt ∧ f.toInt < 128) (hw : 0 ≤ w.toInt ∧ w.toInt ≤ 128) (c : ¬ 128 ≤ f + w) : vp_in w 128 := by
  have h1 : (128 : Int32).toInt = 128 := by decide
  have h2 := q_nle c
  rw [q_fw0 hf hw, h1] at h2
  exact q_in hw.1 (by omega)
theorem q_fw {f l w : Int32} (hf : 0 ≤ f.toInt ∧ f.toInt < 128) (hw : 0 ≤ w.toInt ∧ w.toInt ≤ 128) (e : l = f) (c : l + w < 128) : f.toInt + w.toInt < 128 := by
  have h1 : (128 : Int32).toInt = 128 := by decide
  have h2 := q_lt c
  rw [e, q_fw0 hf hw, h1] at h2
  exact h2
theorem q_w1 {w : Int32} (hw : 0 ≤ w.toInt ∧ w.toInt ≤ 128) : (0 ≤ (w + 1).toInt ∧ (w + 1).toInt ≤ 129) ∧ (w + 1).toInt = w.toInt + 1 := by
  rw [q_inc (by omega)]; omega
theorem q_tw0 {t w : Int32} {f : Nat → Int32} (ht : 0 ≤ t.toInt ∧ t.toInt ≤ 128) (h : ∀ j, j < t.toInt.toNat → 0 ≤ (f j).toInt ∧ (f j).toInt ≤ w.toInt) : (0 ≤ (t + 0).toInt ∧ (t + 0).toInt ≤ 128) ∧ ∀ j, j < (t + 0).toInt.toNat → 0 ≤ (f j).toInt ∧ (f j).toInt ≤ w.toInt := by
  rw [Int32.add_zero]; exact ⟨ht, h⟩
theorem q_tw1 {t w : Int32} {f : Nat → Int32} (hw : 0 ≤ w.toInt ∧ w.toInt ≤ 128) (ht : 0 ≤ t.toInt ∧ t.toInt ≤ 128) (h : ∀ j, j < t.toInt.toNat → 0 ≤ (f j).toInt ∧ (f j).toInt ≤ w.toInt) (c : ¬ 128 ≤ t) : (0 ≤ (t + 1).toInt ∧ (t + 1).toInt ≤ 128) ∧ ∀ j, j < (t + 1).toInt.toNat → 0 ≤ (upd f t.toNatClampNeg w j).toInt ∧ (upd f t.toNatClampNeg w j).toInt ≤ w.toInt := by
  have h1 : (128 : Int32).toInt = 128 := by decide
  have h2 := q_nle c
  rw [h1] at h2
  rw [q_inc (by omega)]
  refine ⟨by omega, fun j hj => ?_⟩
  by_cases e : j = t.toNatClampNeg
  · rw [e, pk_us]; exact ⟨hw.1, Int.le_refl _⟩
  · rw [pk_un e]
    rw [pk_cl t.toInt.toNat (q_nI ht.1)] at e
    exact h j (by omega)
theorem q_tw3 {t : Int32} (c : ¬ 128 ≤ t) (d : t = 128) : False := c (by rw [d]; decide)
theorem q_tw2 {t : Int32} (ht : 0 ≤ t.toInt ∧ t.toInt ≤ 128) (c : 128 ≤ t) (d : ¬ t = 128) : False := by
  have h1 : (128 : Int32).toInt = 128 := by decide
  have h2 := q_le c
  rw [h1] at h2
  exact d (Int32.toInt_inj.mp (by rw [h1]; omega))
theorem q_st {at_ : Int32} (hat : 0 ≤ at_.toInt ∧ at_.toInt ≤ 400) : 400 - at_.toInt.toNat < 401 := by omega
theorem gd_X11_isLetter : yX11_isLetter.cls ≠ "java/lang/invoke/MethodHandle" ∧ yX11_isLetter.cls ≠ "java/lang/invoke/VarHandle" ∧ (parseMethodDescriptor yX11_isLetter.desc).map (fun d => d.parameters.length) = some 1 := ⟨by decide, by decide, by decide +kernel⟩
theorem gd_X11_isDigit : yX11_isDigit.cls ≠ "java/lang/invoke/MethodHandle" ∧ yX11_isDigit.cls ≠ "java/lang/invoke/VarHandle" ∧ (parseMethodDescriptor yX11_isDigit.desc).map (fun d => d.parameters.length) = some 1 := ⟨by decide, by decide, by decide +kernel⟩
theorem gd_X11_isCharacter : yX11_isCharacter.cls ≠ "java/lang/invoke/MethodHandle" ∧ yX11_isCharacter.cls ≠ "java/lang/invoke/VarHandle" ∧ (parseMethodDescriptor yX11_isCharacter.desc).map (fun d => d.parameters.length) = some 1 := ⟨by decide, by decide, by decide +kernel⟩
theorem gd_X11_character : yX11_character.cls ≠ "java/lang/invoke/MethodHandle" ∧ yX11_character.cls ≠ "java/lang/invoke/VarHandle" ∧ (parseMethodDescriptor yX11_character.desc).map (fun d => d.parameters.length) = some 1 := ⟨by decide, by decide, by decide +kernel⟩
theorem gd_X11_skip : yX11_skip.cls ≠ "java/lang/invoke/MethodHandle" ∧ yX11_skip.cls ≠ "java/lang/invoke/VarHandle" ∧ (parseMethodDescriptor yX11_skip.desc).map (fun d => d.parameters.length) = some 0 := ⟨by decide, by decide, by decide +kernel⟩
theorem gd_X11_isEnd : yX11_isEnd.cls ≠ "java/lang/invoke/MethodHandle" ∧ yX11_isEnd.cls ≠ "java/lang/invoke/VarHandle" ∧ (parseMethodDescriptor yX11_isEnd.desc).map (fun d => d.parameters.length) = some 0 := ⟨by decide, by decide, by decide +kernel⟩
theorem gd_X11_letters : yX11_letters.cls ≠ "java/lang/invoke/MethodHandle" ∧ yX11_letters.cls ≠ "java/lang/invoke/VarHandle" ∧ (parseMethodDescriptor yX11_letters.desc).map (fun d => d.parameters.length) = some 0 := ⟨by decide, by decide, by decide +kernel⟩
theorem gd_X11_need : yX11_need.cls ≠ "java/lang/invoke/MethodHandle" ∧ yX11_need.cls ≠ "java/lang/invoke/VarHandle" ∧ (parseMethodDescriptor yX11_need.desc).map (fun d => d.parameters.length) = some 1 := ⟨by decide, by decide, by decide +kernel⟩
theorem gd_X11_takeRegister : yX11_takeRegister.cls ≠ "java/lang/invoke/MethodHandle" ∧ yX11_takeRegister.cls ≠ "java/lang/invoke/VarHandle" ∧ (parseMethodDescriptor yX11_takeRegister.desc).map (fun d => d.parameters.length) = some 0 := ⟨by decide, by decide, by decide +kernel⟩
theorem gd_X11_number : yX11_number.cls ≠ "java/lang/invoke/MethodHandle" ∧ yX11_number.cls ≠ "java/lang/invoke/VarHandle" ∧ (parseMethodDescriptor yX11_number.desc).map (fun d => d.parameters.length) = some 2 := ⟨by decide, by decide, by decide +kernel⟩
theorem gd_X11_lookup : yX11_lookup.cls ≠ "java/lang/invoke/MethodHandle" ∧ yX11_lookup.cls ≠ "java/lang/invoke/VarHandle" ∧ (parseMethodDescriptor yX11_lookup.desc).map (fun d => d.parameters.length) = some 1 := ⟨by decide, by decide, by decide +kernel⟩
theorem gd_X11_immediate : yX11_immediate.cls ≠ "java/lang/invoke/MethodHandle" ∧ yX11_immediate.cls ≠ "java/lang/invoke/VarHandle" ∧ (parseMethodDescriptor yX11_immediate.desc).map (fun d => d.parameters.length) = some 1 := ⟨by decide, by decide, by decide +kernel⟩
theorem gd_X11_storing : yX11_storing.cls ≠ "java/lang/invoke/MethodHandle" ∧ yX11_storing.cls ≠ "java/lang/invoke/VarHandle" ∧ (parseMethodDescriptor yX11_storing.desc).map (fun d => d.parameters.length) = some 1 := ⟨by decide, by decide, by decide +kernel⟩
theorem gd_X11_branching : yX11_branching.cls ≠ "java/lang/invoke/MethodHandle" ∧ yX11_branching.cls ≠ "java/lang/invoke/VarHandle" ∧ (parseMethodDescriptor yX11_branching.desc).map (fun d => d.parameters.length) = some 1 := ⟨by decide, by decide, by decide +kernel⟩
theorem gd_X11_jumping : yX11_jumping.cls ≠ "java/lang/invoke/MethodHandle" ∧ yX11_jumping.cls ≠ "java/lang/invoke/VarHandle" ∧ (parseMethodDescriptor yX11_jumping.desc).map (fun d => d.parameters.length) = some 1 := ⟨by decide, by decide, by decide +kernel⟩
theorem gd_X11_distance : yX11_distance.cls ≠ "java/lang/invoke/MethodHandle" ∧ yX11_distance.cls ≠ "java/lang/invoke/VarHandle" ∧ (parseMethodDescriptor yX11_distance.desc).map (fun d => d.parameters.length) = some 1 := ⟨by decide, by decide, by decide +kernel⟩
theorem gd_X11_pair : yX11_pair.cls ≠ "java/lang/invoke/MethodHandle" ∧ yX11_pair.cls ≠ "java/lang/invoke/VarHandle" ∧ (parseMethodDescriptor yX11_pair.desc).map (fun d => d.parameters.length) = some 2 := ⟨by decide, by decide, by decide +kernel⟩
theorem gd_X11_operands : yX11_operands.cls ≠ "java/lang/invoke/MethodHandle" ∧ yX11_operands.cls ≠ "java/lang/invoke/VarHandle" ∧ (parseMethodDescriptor yX11_operands.desc).map (fun d => d.parameters.length) = some 1 := ⟨by decide, by decide, by decide +kernel⟩
theorem gd_X11_labelOf : yX11_labelOf.cls ≠ "java/lang/invoke/MethodHandle" ∧ yX11_labelOf.cls ≠ "java/lang/invoke/VarHandle" ∧ (parseMethodDescriptor yX11_labelOf.desc).map (fun d => d.parameters.length) = some 1 := ⟨by decide, by decide, by decide +kernel⟩
theorem gd_X11_takeLine : yX11_takeLine.cls ≠ "java/lang/invoke/MethodHandle" ∧ yX11_takeLine.cls ≠ "java/lang/invoke/VarHandle" ∧ (parseMethodDescriptor yX11_takeLine.desc).map (fun d => d.parameters.length) = some 1 := ⟨by decide, by decide, by decide +kernel⟩
abbrev M_X11_isLetter : g_M := (cX11_isLetter, 1, RX11, (some .boolean), { frames := 0, cells := 0, slots := 0, locals := 0 }, 0, 0)
theorem dm_X11_isLetter_0 : decode M_X11_isLetter.1 0 = .ok (.iload_n 0, 1) := by decide +kernel
theorem dm_X11_isLetter_1 : decode M_X11_isLetter.1 1 = .ok (.bipush 97, 2) := by decide +kernel
theorem dm_X11_isLetter_3 : decode M_X11_isLetter.1 3 = .ok (.if_icmp .lt 13, 3) := by decide +kernel
theorem dm_X11_isLetter_6 : decode M_X11_isLetter.1 6 = .ok (.iload_n 0, 1) := by decide +kernel
theorem dm_X11_isLetter_7 : decode M_X11_isLetter.1 7 = .ok (.bipush 122, 2) := by decide +kernel
theorem dm_X11_isLetter_9 : decode M_X11_isLetter.1 9 = .ok (.if_icmp .gt 7, 3) := by decide +kernel
theorem dm_X11_isLetter_12 : decode M_X11_isLetter.1 12 = .ok (.iconst 1, 1) := by decide +kernel
theorem dm_X11_isLetter_13 : decode M_X11_isLetter.1 13 = .ok (.goto 4, 3) := by decide +kernel
theorem dm_X11_isLetter_16 : decode M_X11_isLetter.1 16 = .ok (.iconst 0, 1) := by decide +kernel
theorem dm_X11_isLetter_17 : decode M_X11_isLetter.1 17 = .ok (.ireturn, 1) := by decide +kernel
def f_X11_isLetter (c : Int32) : Int32 := (if c < (97 : Int32) then (0 : Int32) else (if (122 : Int32) < c then (0 : Int32) else (1 : Int32)))
set_option maxRecDepth 20000 in
theorem k_X11_isLetter {c : Int32} {r_0 : Int32} (hres : r_0 = f_X11_isLetter c) : K M_X11_isLetter yX11_isLetter [.int c] [] (some (.int r_0)) [] := by
  refine K.of (lv := [(0, .int c)]) (by decide +kernel) rfl rfl rfl ?_
  rw [f_X11_isLetter] at hres
  refine G.iload_n (pc := 0) dm_X11_isLetter_0 rfl ?_
  refine G.bipush (pc := 1) (v := (97 : Int32)) dm_X11_isLetter_1 qb_97 ?_
  refine G.icmp_lt (pc := 3) (tgt := 16) dm_X11_isLetter_3 (by decide) (fun c3 => ?_) (fun c3 => ?_)
  · rw [if_pos c3] at hres
    refine G.iconst (pc := 16) (v := (0 : Int32)) dm_X11_isLetter_16 qi_0 ?_
    subst hres
    exact G.zreturn (pc := 17) dm_X11_isLetter_17 rfl (by decide) rfl rfl
  · rw [if_neg c3] at hres
    refine G.iload_n (pc := 6) dm_X11_isLetter_6 rfl ?_
    refine G.bipush (pc := 7) (v := (122 : Int32)) dm_X11_isLetter_7 qb_122 ?_
    refine G.icmp_gt (pc := 9) (tgt := 16) dm_X11_isLetter_9 (by decide) (fun c9 => ?_) (fun c9 => ?_)
    · rw [if_pos c9] at hres
      refine G.iconst (pc := 16) (v := (0 : Int32)) dm_X11_isLetter_16 qi_0 ?_
      subst hres
      exact G.zreturn (pc := 17) dm_X11_isLetter_17 rfl (by decide) rfl rfl
    · rw [if_neg c9] at hres
      refine G.iconst (pc := 12) (v := (1 : Int32)) dm_X11_isLetter_12 qi_1 ?_
      refine G.goto (pc := 13) (tgt := 17) dm_X11_isLetter_13 (by decide) ?_
      subst hres
      exact G.zreturn (pc := 17) dm_X11_isLetter_17 rfl (by decide) rfl rfl
abbrev M_X11_isDigit : g_M := (cX11_isDigit, 1, RX11, (some .boolean), { frames := 0, cells := 0, slots := 0, locals := 0 }, 0, 0)
theorem dm_X11_isDigit_0 : decode M_X11_isDigit.1 0 = .ok (.iload_n 0, 1) := by decide +kernel
theorem dm_X11_isDigit_1 : decode M_X11_isDigit.1 1 = .ok (.bipush 48, 2) := by decide +kernel
theorem dm_X11_isDigit_3 : decode M_X11_isDigit.1 3 = .ok (.if_icmp .lt 13, 3) := by decide +kernel
theorem dm_X11_isDigit_6 : decode M_X11_isDigit.1 6 = .ok (.iload_n 0, 1) := by decide +kernel
theorem dm_X11_isDigit_7 : decode M_X11_isDigit.1 7 = .ok (.bipush 57, 2) := by decide +kernel
theorem dm_X11_isDigit_9 : decode M_X11_isDigit.1 9 = .ok (.if_icmp .gt 7, 3) := by decide +kernel
theorem dm_X11_isDigit_12 : decode M_X11_isDigit.1 12 = .ok (.iconst 1, 1) := by decide +kernel
theorem dm_X11_isDigit_13 : decode M_X11_isDigit.1 13 = .ok (.goto 4, 3) := by decide +kernel
theorem dm_X11_isDigit_16 : decode M_X11_isDigit.1 16 = .ok (.iconst 0, 1) := by decide +kernel
theorem dm_X11_isDigit_17 : decode M_X11_isDigit.1 17 = .ok (.ireturn, 1) := by decide +kernel
def f_X11_isDigit (c : Int32) : Int32 := (if c < (48 : Int32) then (0 : Int32) else (if (57 : Int32) < c then (0 : Int32) else (1 : Int32)))
set_option maxRecDepth 20000 in
theorem k_X11_isDigit {c : Int32} {r_0 : Int32} (hres : r_0 = f_X11_isDigit c) : K M_X11_isDigit yX11_isDigit [.int c] [] (some (.int r_0)) [] := by
  refine K.of (lv := [(0, .int c)]) (by decide +kernel) rfl rfl rfl ?_
  rw [f_X11_isDigit] at hres
  refine G.iload_n (pc := 0) dm_X11_isDigit_0 rfl ?_
  refine G.bipush (pc := 1) (v := (48 : Int32)) dm_X11_isDigit_1 qb_48 ?_
  refine G.icmp_lt (pc := 3) (tgt := 16) dm_X11_isDigit_3 (by decide) (fun c3 => ?_) (fun c3 => ?_)
  · rw [if_pos c3] at hres
    refine G.iconst (pc := 16) (v := (0 : Int32)) dm_X11_isDigit_16 qi_0 ?_
    subst hres
    exact G.zreturn (pc := 17) dm_X11_isDigit_17 rfl (by decide) rfl rfl
  · rw [if_neg c3] at hres
    refine G.iload_n (pc := 6) dm_X11_isDigit_6 rfl ?_
    refine G.bipush (pc := 7) (v := (57 : Int32)) dm_X11_isDigit_7 qb_57 ?_
    refine G.icmp_gt (pc := 9) (tgt := 16) dm_X11_isDigit_9 (by decide) (fun c9 => ?_) (fun c9 => ?_)
    · rw [if_pos c9] at hres
      refine G.iconst (pc := 16) (v := (0 : Int32)) dm_X11_isDigit_16 qi_0 ?_
      subst hres
      exact G.zreturn (pc := 17) dm_X11_isDigit_17 rfl (by decide) rfl rfl
    · rw [if_neg c9] at hres
      refine G.iconst (pc := 12) (v := (1 : Int32)) dm_X11_isDigit_12 qi_1 ?_
      refine G.goto (pc := 13) (tgt := 17) dm_X11_isDigit_13 (by decide) ?_
      subst hres
      exact G.zreturn (pc := 17) dm_X11_isDigit_17 rfl (by decide) rfl rfl
abbrev M_X11_isCharacter : g_M := (cX11_isCharacter, 2, RX11, (some .boolean), { frames := 0, cells := 0, slots := 0, locals := 0 }, 0, 0)
theorem dm_X11_isCharacter_0 : decode M_X11_isCharacter.1 0 = .ok (.lload_n 0, 1) := by decide +kernel
theorem dm_X11_isCharacter_1 : decode M_X11_isCharacter.1 1 = .ok (.ldc2_w 73, 3) := by decide +kernel
theorem dm_X11_isCharacter_4 : decode M_X11_isCharacter.1 4 = .ok (.lcmp, 1) := by decide +kernel
theorem dm_X11_isCharacter_5 : decode M_X11_isCharacter.1 5 = .ok (.ifCond .eq 19, 3) := by decide +kernel
theorem dm_X11_isCharacter_8 : decode M_X11_isCharacter.1 8 = .ok (.lload_n 0, 1) := by decide +kernel
theorem dm_X11_isCharacter_9 : decode M_X11_isCharacter.1 9 = .ok (.ldc2_w 75, 3) := by decide +kernel
theorem dm_X11_isCharacter_12 : decode M_X11_isCharacter.1 12 = .ok (.lcmp, 1) := by decide +kernel
theorem dm_X11_isCharacter_13 : decode M_X11_isCharacter.1 13 = .ok (.ifCond .lt 15, 3) := by decide +kernel
theorem dm_X11_isCharacter_16 : decode M_X11_isCharacter.1 16 = .ok (.lload_n 0, 1) := by decide +kernel
theorem dm_X11_isCharacter_17 : decode M_X11_isCharacter.1 17 = .ok (.ldc2_w 77, 3) := by decide +kernel
theorem dm_X11_isCharacter_20 : decode M_X11_isCharacter.1 20 = .ok (.lcmp, 1) := by decide +kernel
theorem dm_X11_isCharacter_21 : decode M_X11_isCharacter.1 21 = .ok (.ifCond .gt 7, 3) := by decide +kernel
theorem dm_X11_isCharacter_24 : decode M_X11_isCharacter.1 24 = .ok (.iconst 1, 1) := by decide +kernel
theorem dm_X11_isCharacter_25 : decode M_X11_isCharacter.1 25 = .ok (.goto 4, 3) := by decide +kernel
theorem dm_X11_isCharacter_28 : decode M_X11_isCharacter.1 28 = .ok (.iconst 0, 1) := by decide +kernel
theorem dm_X11_isCharacter_29 : decode M_X11_isCharacter.1 29 = .ok (.ireturn, 1) := by decide +kernel
def f_X11_isCharacter (c : Int64) : Int32 := (if (lg_cmp c (10 : Int64)) = 0 then (1 : Int32) else (if (lg_cmp c (32 : Int64)) < 0 then (0 : Int32) else (if 0 < (lg_cmp c (126 : Int64)) then (0 : Int32) else (1 : Int32))))
set_option maxRecDepth 20000 in
theorem k_X11_isCharacter {c : Int64} {r_0 : Int32} (hres : r_0 = f_X11_isCharacter c) : K M_X11_isCharacter yX11_isCharacter [.long c] [] (some (.int r_0)) [] := by
  refine K.of (lv := [(0, .long c)]) (by decide +kernel) rfl rfl rfl ?_
  rw [f_X11_isCharacter] at hres
  refine G.lload_n (pc := 0) dm_X11_isCharacter_0 rfl ?_
  refine G.ldc2 (pc := 1) dm_X11_isCharacter_1 tw158 ?_
  refine G.lcmp (pc := 4) dm_X11_isCharacter_4 ?_
  refine G.if_eq (pc := 5) (tgt := 24) dm_X11_isCharacter_5 (by decide) (fun c5 => ?_) (fun c5 => ?_)
  · rw [if_pos c5] at hres
    refine G.iconst (pc := 24) (v := (1 : Int32)) dm_X11_isCharacter_24 qi_1 ?_
    refine G.goto (pc := 25) (tgt := 29) dm_X11_isCharacter_25 (by decide) ?_
    subst hres
    exact G.zreturn (pc := 29) dm_X11_isCharacter_29 rfl (by decide) rfl rfl
  · rw [if_neg c5] at hres
    refine G.lload_n (pc := 8) dm_X11_isCharacter_8 rfl ?_
    refine G.ldc2 (pc := 9) dm_X11_isCharacter_9 tw159 ?_
    refine G.lcmp (pc := 12) dm_X11_isCharacter_12 ?_
    refine G.if_lt (pc := 13) (tgt := 28) dm_X11_isCharacter_13 (by decide) (fun c13 => ?_) (fun c13 => ?_)
    · rw [if_pos c13] at hres
      refine G.iconst (pc := 28) (v := (0 : Int32)) dm_X11_isCharacter_28 qi_0 ?_
      subst hres
      exact G.zreturn (pc := 29) dm_X11_isCharacter_29 rfl (by decide) rfl rfl
    · rw [if_neg c13] at hres
      refine G.lload_n (pc := 16) dm_X11_isCharacter_16 rfl ?_
      refine G.ldc2 (pc := 17) dm_X11_isCharacter_17 tw160 ?_
      refine G.lcmp (pc := 20) dm_X11_isCharacter_20 ?_
      refine G.if_gt (pc := 21) (tgt := 28) dm_X11_isCharacter_21 (by decide) (fun c21 => ?_) (fun c21 => ?_)
      · rw [if_pos c21] at hres
        refine G.iconst (pc := 28) (v := (0 : Int32)) dm_X11_isCharacter_28 qi_0 ?_
        subst hres
        exact G.zreturn (pc := 29) dm_X11_isCharacter_29 rfl (by decide) rfl rfl
      · rw [if_neg c21] at hres
        refine G.iconst (pc := 24) (v := (1 : Int32)) dm_X11_isCharacter_24 qi_1 ?_
        refine G.goto (pc := 25) (tgt := 29) dm_X11_isCharacter_25 (by decide) ?_
        subst hres
        exact G.zreturn (pc := 29) dm_X11_isCharacter_29 rfl (by decide) rfl rfl
abbrev M_X11_character : g_M := (cX11_character, 2, RX11, (some .int), { frames := 0, cells := 0, slots := 0, locals := 0 }, 0, 0)
theorem dm_X11_character_0 : decode M_X11_character.1 0 = .ok (.iload_n 1, 1) := by decide +kernel
theorem dm_X11_character_1 : decode M_X11_character.1 1 = .ok (.aload_n 0, 1) := by decide +kernel
theorem dm_X11_character_2 : decode M_X11_character.1 2 = .ok (.getfield 85, 3) := by decide +kernel
theorem dm_X11_character_5 : decode M_X11_character.1 5 = .ok (.if_icmp .ge 12, 3) := by decide +kernel
theorem dm_X11_character_8 : decode M_X11_character.1 8 = .ok (.aload_n 0, 1) := by decide +kernel
theorem dm_X11_character_9 : decode M_X11_character.1 9 = .ok (.getfield 7, 3) := by decide +kernel
theorem dm_X11_character_12 : decode M_X11_character.1 12 = .ok (.iload_n 1, 1) := by decide +kernel
theorem dm_X11_character_13 : decode M_X11_character.1 13 = .ok (.caload, 1) := by decide +kernel
theorem dm_X11_character_14 : decode M_X11_character.1 14 = .ok (.goto 5, 3) := by decide +kernel
theorem dm_X11_character_17 : decode M_X11_character.1 17 = .ok (.bipush 10, 2) := by decide +kernel
theorem dm_X11_character_19 : decode M_X11_character.1 19 = .ok (.ireturn, 1) := by decide +kernel
def f_X11_character (p : Int32) (length : Int32) (text : Nat → Int32) : Int32 := (if length ≤ p then (10 : Int32) else (text (Int32.toNatClampNeg p)))
set_option maxRecDepth 20000 in
theorem k_X11_character {p : Int32} {refusal : Int32} {wheel : Int32} {now : Int32} {length : Int32} {at_ : Int32} {fault : Int32} {faultLine : Int32} {line : Int32} {words : Int32} {labels : Int32} {targets : Int32} {wrong : Int32} {unfit : Int32} {text : Nat → Int32} {code_ : Nat → Int32} {label : Nat → Int64} {labelWord : Nat → Int32} {target : Nat → Int64} {targetWord : Nat → Int32} {targetLine : Nat → Int32} {store : Nat → Int32} {common : Nat → Int32} {low : Nat → Int32} {high : Nat → Int32} {register : Nat → Int32} {address : Nat → Int32} {status : Nat → Int32} {did : Nat → Int32} {ready : Nat → Int32} {timer : Nat → Int32} {trace : Nat → Int32} (hln : 0 ≤ length.toInt ∧ length.toInt ≤ 400) (hp : 0 ≤ p.toInt) {r_0 : Int32} (hres : r_0 = f_X11_character p length text) : K M_X11_character yX11_character [.ref 0, .int p] (w_M refusal wheel now length at_ fault faultLine line words labels targets wrong unfit text code_ label labelWord target targetWord targetLine store common low high register address status did ready timer trace) (some (.int r_0)) (w_M refusal wheel now length at_ fault faultLine line words labels targets wrong unfit text code_ label labelWord target targetWord targetLine store common low high register address status did ready timer trace) := by
  refine K.of (lv := [(0, .ref 0), (1, .int p)]) (by decide +kernel) rfl rfl rfl ?_
  rw [f_X11_character] at hres
  refine G.iload_n (pc := 0) dm_X11_character_0 rfl ?_
  refine G.aload_n (pc := 1) dm_X11_character_1 rfl ?_
  refine G.getfield (pc := 2) dm_X11_character_2 gf_X11_85 rfl rfl ?_
  refine G.icmp_ge (pc := 5) (tgt := 17) dm_X11_character_5 (by decide) (fun c5 => ?_) (fun c5 => ?_)
  · rw [if_pos c5] at hres
    refine G.bipush (pc := 17) (v := (10 : Int32)) dm_X11_character_17 qb_10 ?_
    subst hres
    exact G.ireturn (pc := 19) dm_X11_character_19 rfl rfl rfl
  · rw [if_neg c5] at hres
    refine G.aload_n (pc := 8) dm_X11_character_8 rfl ?_
    refine G.getfield (pc := 9) dm_X11_character_9 gf_X11_7 rfl rfl ?_
    refine G.iload_n (pc := 12) dm_X11_character_12 rfl ?_
    refine G.caload (pc := 13) dm_X11_character_13 rfl (q_in hp (by have := q_nle c5; omega)) ?_
    refine G.goto (pc := 14) (tgt := 19) dm_X11_character_14 (by decide) ?_
    subst hres
    exact G.ireturn (pc := 19) dm_X11_character_19 rfl rfl rfl
theorem a_character {p length z : Int32} {text : Nat → Int32} (h : z = f_X11_character p length text) (hz : ¬ z = 10) : p.toInt < length.toInt := by
  subst h
  unfold f_X11_character at hz
  split at hz
  · exact absurd rfl hz
  · rename_i c
    exact q_nle c
theorem a_isDigit {c z : Int32} (h : z = f_X11_isDigit c) (hz : ¬ z = 0) : ¬ c = 10 := by
  rintro rfl
  subst h
  exact hz (by decide)
theorem a_isLetter {c z : Int32} (h : z = f_X11_isLetter c) (hz : ¬ z = 0) : ¬ c = 10 := by
  rintro rfl
  subst h
  exact hz (by decide)
abbrev M_X11_skip : g_M := (cX11_skip, 1, RX11, none, { frames := 1, cells := 0, slots := 0, locals := 21 }, 0, 0)
theorem dm_X11_skip_0 : decode M_X11_skip.1 0 = .ok (.aload_n 0, 1) := by decide +kernel
theorem dm_X11_skip_1 : decode M_X11_skip.1 1 = .ok (.aload_n 0, 1) := by decide +kernel
theorem dm_X11_skip_2 : decode M_X11_skip.1 2 = .ok (.getfield 88, 3) := by decide +kernel
theorem dm_X11_skip_5 : decode M_X11_skip.1 5 = .ok (.invokevirtual 91, 3) := by decide +kernel
theorem dm_X11_skip_8 : decode M_X11_skip.1 8 = .ok (.bipush 32, 2) := by decide +kernel
theorem dm_X11_skip_10 : decode M_X11_skip.1 10 = .ok (.if_icmp .ne 16, 3) := by decide +kernel
theorem dm_X11_skip_13 : decode M_X11_skip.1 13 = .ok (.aload_n 0, 1) := by decide +kernel
theorem dm_X11_skip_14 : decode M_X11_skip.1 14 = .ok (.dup, 1) := by decide +kernel
theorem dm_X11_skip_15 : decode M_X11_skip.1 15 = .ok (.getfield 88, 3) := by decide +kernel
theorem dm_X11_skip_18 : decode M_X11_skip.1 18 = .ok (.iconst 1, 1) := by decide +kernel
theorem dm_X11_skip_19 : decode M_X11_skip.1 19 = .ok (.iadd, 1) := by decide +kernel
theorem dm_X11_skip_20 : decode M_X11_skip.1 20 = .ok (.putfield 88, 3) := by decide +kernel
theorem dm_X11_skip_23 : decode M_X11_skip.1 23 = .ok (.goto (-23), 3) := by decide +kernel
theorem dm_X11_skip_26 : decode M_X11_skip.1 26 = .ok (.return_, 1) := by decide +kernel
theorem gc_X11_skip_91 : g_cv M_X11_skip 91 M_X11_character yX11_character 1 := ⟨tw425, tw426, tw427, tw5, tw428, ⟨rfl, rfl, rfl, rfl⟩, gd_X11_character, ⟨by decide, by decide⟩⟩
def f_X11_skip_c5 (at_ : Int32) (kL0 : Int32 → Int32) (z1_0 : Int32) : Int32 := (if z1_0 = (32 : Int32) then (kL0 (at_ + (1 : Int32))) else at_)
def f_X11_skip_0 (length : Int32) (text : Nat → Int32) : Nat → Int32 → Int32
  | 0, at_ => at_
  | n + 1, at_ => (f_X11_skip_c5 at_ (f_X11_skip_0 length text n) (f_X11_character at_ length text))
set_option maxRecDepth 20000 in
theorem j_X11_skip_0 : ∀ (n : Nat) {refusal : Int32} {wheel : Int32} {now : Int32} {length : Int32} {at_ : Int32} {fault : Int32} {faultLine : Int32} {line : Int32} {words : Int32} {labels : Int32} {targets : Int32} {wrong : Int32} {unfit : Int32} {text : Nat → Int32} {code_ : Nat → Int32} {label : Nat → Int64} {labelWord : Nat → Int32} {target : Nat → Int64} {targetWord : Nat → Int32} {targetLine : Nat → Int32} {store : Nat → Int32} {common : Nat → Int32} {low : Nat → Int32} {high : Nat → Int32} {register : Nat → Int32} {address : Nat → Int32} {status : Nat → Int32} {did : Nat → Int32} {ready : Nat → Int32} {timer : Nat → Int32} {trace : Nat → Int32} {r_0 : Int32}, (hln : 0 ≤ length.toInt ∧ length.toInt ≤ 400) → (hat : 0 ≤ at_.toInt ∧ at_.toInt ≤ 400) → (400 - at_.toInt.toNat) < n → r_0 = f_X11_skip_0 length text n at_ → G M_X11_skip 0 0 0 [(0, .ref 0)] [] (w_M refusal wheel now length at_ fault faultLine line words labels targets wrong unfit text code_ label labelWord target targetWord targetLine store common low high register address status did ready timer trace) (none) (w_M refusal wheel now length r_0 fault faultLine line words labels targets wrong unfit text code_ label labelWord target targetWord targetLine store common low high register address status did ready timer trace) := by
  intro n
  induction n with
  | zero =>
    intro refusal wheel now length at_ fault faultLine line words labels targets wrong unfit text code_ label labelWord target targetWord targetLine store common low high register address status did ready timer trace r_0 hln hat hm hres
    exact absurd hm (Nat.not_lt_zero _)
  | succ n ih =>
    intro refusal wheel now length at_ fault faultLine line words labels targets wrong unfit text code_ label labelWord target targetWord targetLine store common low high register address status did ready timer trace r_0 hln hat hm hres
    obtain ⟨mu, hmu⟩ : ∃ z, (400 - at_.toInt.toNat) = z := ⟨_, rfl⟩
    rw [hmu] at hm
    have hk0 : ∀ {at_ : Int32}, (0 ≤ length.toInt ∧ length.toInt ≤ 400) → (0 ≤ at_.toInt ∧ at_.toInt ≤ 400) → (400 - at_.toInt.toNat) < mu → r_0 = (f_X11_skip_0 length text n) at_ → G M_X11_skip 0 0 0 [(0, .ref 0)] [] (w_M refusal wheel now length at_ fault faultLine line words labels targets wrong unfit text code_ label labelWord target targetWord targetLine store common low high register address status did ready timer trace) (none) (w_M refusal wheel now length r_0 fault faultLine line words labels targets wrong unfit text code_ label labelWord target targetWord targetLine store common low high register address status did ready timer trace) := fun hln hat hlt he => ih hln hat (Nat.lt_of_lt_of_le hlt (Nat.le_of_lt_succ hm)) he
    rw [f_X11_skip_0] at hres
    refine G.aload_n (pc := 0) dm_X11_skip_0 rfl ?_
    refine G.aload_n (pc := 1) dm_X11_skip_1 rfl ?_
    refine G.getfield (pc := 2) dm_X11_skip_2 gf_X11_88 rfl rfl ?_
    obtain ⟨z1_0, hz1⟩ := g_ex1 (f_X11_character at_ length text)
    refine G.callV0 (pc := 5) (rest := []) (st1 := [.int z1_0]) dm_X11_skip_5 gc_X11_skip_91 (k_X11_character (p := at_) (refusal := refusal) (wheel := wheel) (now := now) (length := length) (at_ := at_) (fault := fault) (faultLine := faultLine) (line := line) (words := words) (labels := labels) (targets := targets) (wrong := wrong) (unfit := unfit) (text := text) (code_ := code_) (label := label) (labelWord := labelWord) (target := target) (targetWord := targetWord) (targetLine := targetLine) (store := store) (common := common) (low := low) (high := high) (register := register) (address := address) (status := status) (did := did) (ready := ready) (timer := timer) (trace := trace) hln hat.1 hz1) rfl rfl rfl rfl rfl rfl rfl rfl ?_
    have ch := a_character hz1
    replace hres : r_0 = f_X11_skip_c5 at_ (f_X11_skip_0 length text n) z1_0 := hres.trans (by rw [← hz1])
    rw [f_X11_skip_c5] at hres
    refine G.bipush (pc := 8) (v := (32 : Int32)) dm_X11_skip_8 qb_32 ?_
    refine G.icmp_ne (pc := 10) (tgt := 26) dm_X11_skip_10 (by decide) (fun c10 => ?_) (fun c10 => ?_)
    · rw [if_neg c10] at hres
      subst hres
      exact G.vreturn (pc := 26) dm_X11_skip_26 rfl rfl rfl
    · rw [if_pos c10] at hres
      refine G.aload_n (pc := 13) dm_X11_skip_13 rfl ?_
      refine G.dup (pc := 14) dm_X11_skip_14 rfl ?_
      refine G.getfield (pc := 15) dm_X11_skip_15 gf_X11_88 rfl rfl ?_
      refine G.iconst (pc := 18) (v := (1 : Int32)) dm_X11_skip_18 qi_1 ?_
      refine G.iadd (pc := 19) dm_X11_skip_19 ?_
      refine G.putfield (pc := 20) (ws1 := (w_M refusal wheel now length (at_ + (1 : Int32)) fault faultLine line words labels targets wrong unfit text code_ label labelWord target targetWord targetLine store common low high register address status did ready timer trace)) dm_X11_skip_20 gw_X11_88 rfl (g_fit_i _) rfl rfl ?_
      refine G.goto (pc := 23) (tgt := 0) dm_X11_skip_23 (by decide) ?_
      exact hk0 hln (q_up hln hat (ch (by rw [c10]; decide))) (q_updec hln hat (ch (by rw [c10]; decide)) hmu) hres
def f_X11_skip (length : Int32) (at_ : Int32) (text : Nat → Int32) : Int32 := (f_X11_skip_0 length text (401) at_)
set_option maxRecDepth 20000 in
theorem k_X11_skip {refusal : Int32} {wheel : Int32} {now : Int32} {length : Int32} {at_ : Int32} {fault : Int32} {faultLine : Int32} {line : Int32} {words : Int32} {labels : Int32} {targets : Int32} {wrong : Int32} {unfit : Int32} {text : Nat → Int32} {code_ : Nat → Int32} {label : Nat → Int64} {labelWord : Nat → Int32} {target : Nat → Int64} {targetWord : Nat → Int32} {targetLine : Nat → Int32} {store : Nat → Int32} {common : Nat → Int32} {low : Nat → Int32} {high : Nat → Int32} {register : Nat → Int32} {address : Nat → Int32} {status : Nat → Int32} {did : Nat → Int32} {ready : Nat → Int32} {timer : Nat → Int32} {trace : Nat → Int32} (hln : 0 ≤ length.toInt ∧ length.toInt ≤ 400) (hat : 0 ≤ at_.toInt ∧ at_.toInt ≤ 400) {r_0 : Int32} (hres : r_0 = f_X11_skip length at_ text) : K M_X11_skip yX11_skip [.ref 0] (w_M refusal wheel now length at_ fault faultLine line words labels targets wrong unfit text code_ label labelWord target targetWord targetLine store common low high register address status did ready timer trace) (none) (w_M refusal wheel now length r_0 fault faultLine line words labels targets wrong unfit text code_ label labelWord target targetWord targetLine store common low high register address status did ready timer trace) := by
  refine K.of (lv := [(0, .ref 0)]) (by decide +kernel) rfl rfl rfl ?_
  rw [f_X11_skip] at hres
  exact j_X11_skip_0 _ hln hat (q_st hat) hres
theorem a_skip_0 {length : Int32} {text : Nat → Int32} (hln : 0 ≤ length.toInt ∧ length.toInt ≤ 400) : ∀ (n : Nat) (at_ : Int32), 0 ≤ at_.toInt ∧ at_.toInt ≤ 400 → (0 ≤ (f_X11_skip_0 length text n at_).toInt ∧ (f_X11_skip_0 length text n at_).toInt ≤ 400) ∧ at_.toInt ≤ (f_X11_skip_0 length text n at_).toInt
  | 0, _, h => ⟨h, Int.le_refl _⟩
  | n + 1, at_, h => by
    rw [f_X11_skip_0, f_X11_skip_c5]
    split
    · rename_i c
      have hlt := a_character (rfl : f_X11_character at_ length text = _) (by rw [c]; decide)
      have h1 := a_skip_0 (text := text) hln n _ (q_up hln h hlt)
      rw [q_inc (by omega)] at h1
      exact ⟨h1.1, by omega⟩
    · exact ⟨h, Int.le_refl _⟩
theorem a_skip {length at_ z : Int32} {text : Nat → Int32} (h : z = f_X11_skip length at_ text) (hln : 0 ≤ length.toInt ∧ length.toInt ≤ 400) (hat : 0 ≤ at_.toInt ∧ at_.toInt ≤ 400) : (0 ≤ z.toInt ∧ z.toInt ≤ 400) ∧ at_.toInt ≤ z.toInt := by
  subst h
  exact a_skip_0 hln _ _ hat
abbrev M_X11_isEnd : g_M := (cX11_isEnd, 1, RX11, (some .boolean), { frames := 1, cells := 0, slots := 0, locals := 21 }, 0, 0)
theorem dm_X11_isEnd_0 : decode M_X11_isEnd.1 0 = .ok (.aload_n 0, 1) := by decide +kernel
theorem dm_X11_isEnd_1 : decode M_X11_isEnd.1 1 = .ok (.aload_n 0, 1) := by decide +kernel
theorem dm_X11_isEnd_2 : decode M_X11_isEnd.1 2 = .ok (.getfield 88, 3) := by decide +kernel
theorem dm_X11_isEnd_5 : decode M_X11_isEnd.1 5 = .ok (.invokevirtual 91, 3) := by decide +kernel
theorem dm_X11_isEnd_8 : decode M_X11_isEnd.1 8 = .ok (.bipush 10, 2) := by decide +kernel
theorem dm_X11_isEnd_10 : decode M_X11_isEnd.1 10 = .ok (.if_icmp .eq 16, 3) := by decide +kernel
theorem dm_X11_isEnd_13 : decode M_X11_isEnd.1 13 = .ok (.aload_n 0, 1) := by decide +kernel
theorem dm_X11_isEnd_14 : decode M_X11_isEnd.1 14 = .ok (.aload_n 0, 1) := by decide +kernel
theorem dm_X11_isEnd_15 : decode M_X11_isEnd.1 15 = .ok (.getfield 88, 3) := by decide +kernel
theorem dm_X11_isEnd_18 : decode M_X11_isEnd.1 18 = .ok (.invokevirtual 91, 3) := by decide +kernel
theorem dm_X11_isEnd_21 : decode M_X11_isEnd.1 21 = .ok (.bipush 59, 2) := by decide +kernel
theorem dm_X11_isEnd_23 : decode M_X11_isEnd.1 23 = .ok (.if_icmp .ne 7, 3) := by decide +kernel
theorem dm_X11_isEnd_26 : decode M_X11_isEnd.1 26 = .ok (.iconst 1, 1) := by decide +kernel
theorem dm_X11_isEnd_27 : decode M_X11_isEnd.1 27 = .ok (.goto 4, 3) := by decide +kernel
theorem dm_X11_isEnd_30 : decode M_X11_isEnd.1 30 = .ok (.iconst 0, 1) := by decide +kernel
theorem dm_X11_isEnd_31 : decode M_X11_isEnd.1 31 = .ok (.ireturn, 1) := by decide +kernel
theorem gc_X11_isEnd_91 : g_cv M_X11_isEnd 91 M_X11_character yX11_character 1 := ⟨tw425, tw426, tw427, tw5, tw428, ⟨rfl, rfl, rfl, rfl⟩, gd_X11_character, ⟨by decide, by decide⟩⟩
def f_X11_isEnd_c18 (z2_0 : Int32) : Int32 := (if z2_0 = (59 : Int32) then (1 : Int32) else (0 : Int32))
def f_X11_isEnd_c5 (length : Int32) (at_ : Int32) (text : Nat → Int32) (z1_0 : Int32) : Int32 := (if z1_0 = (10 : Int32) then (1 : Int32) else (f_X11_isEnd_c18 (f_X11_character at_ length text)))
def f_X11_isEnd (length : Int32) (at_ : Int32) (text : Nat → Int32) : Int32 := (f_X11_isEnd_c5 length at_ text (f_X11_character at_ length text))
set_option maxRecDepth 20000 in
theorem k_X11_isEnd {refusal : Int32} {wheel : Int32} {now : Int32} {length : Int32} {at_ : Int32} {fault : Int32} {faultLine : Int32} {line : Int32} {words : Int32} {labels : Int32} {targets : Int32} {wrong : Int32} {unfit : Int32} {text : Nat → Int32} {code_ : Nat → Int32} {label : Nat → Int64} {labelWord : Nat → Int32} {target : Nat → Int64} {targetWord : Nat → Int32} {targetLine : Nat → Int32} {store : Nat → Int32} {common : Nat → Int32} {low : Nat → Int32} {high : Nat → Int32} {register : Nat → Int32} {address : Nat → Int32} {status : Nat → Int32} {did : Nat → Int32} {ready : Nat → Int32} {timer : Nat → Int32} {trace : Nat → Int32} (hln : 0 ≤ length.toInt ∧ length.toInt ≤ 400) (hat : 0 ≤ at_.toInt ∧ at_.toInt ≤ 400) {r_0 : Int32} (hres : r_0 = f_X11_isEnd length at_ text) : K M_X11_isEnd yX11_isEnd [.ref 0] (w_M refusal wheel now length at_ fault faultLine line words labels targets wrong unfit text code_ label labelWord target targetWord targetLine store common low high register address status did ready timer trace) (some (.int r_0)) (w_M refusal wheel now length at_ fault faultLine line words labels targets wrong unfit text code_ label labelWord target targetWord targetLine store common low high register address status did ready timer trace) := by
  refine K.of (lv := [(0, .ref 0)]) (by decide +kernel) rfl rfl rfl ?_
  rw [f_X11_isEnd] at hres
  refine G.aload_n (pc := 0) dm_X11_isEnd_0 rfl ?_
  refine G.aload_n (pc := 1) dm_X11_isEnd_1 rfl ?_
  refine G.getfield (pc := 2) dm_X11_isEnd_2 gf_X11_88 rfl rfl ?_
  obtain ⟨z1_0, hz1⟩ := g_ex1 (f_X11_character at_ length text)
  refine G.callV0 (pc := 5) (rest := []) (st1 := [.int z1_0]) dm_X11_isEnd_5 gc_X11_isEnd_91 (k_X11_character (p := at_) (refusal := refusal) (wheel := wheel) (now := now) (length := length) (at_ := at_) (fault := fault) (faultLine := faultLine) (line := line) (words := words) (labels := labels) (targets := targets) (wrong := wrong) (unfit := unfit) (text := text) (code_ := code_) (label := label) (labelWord := labelWord) (target := target) (targetWord := targetWord) (targetLine := targetLine) (store := store) (common := common) (low := low) (high := high) (register := register) (address := address) (status := status) (did := did) (ready := ready) (timer := timer) (trace := trace) hln hat.1 hz1) rfl rfl rfl rfl rfl rfl rfl rfl ?_
  replace hres : r_0 = f_X11_isEnd_c5 length at_ text z1_0 := hres.trans (by rw [← hz1])
  rw [f_X11_isEnd_c5] at hres
  refine G.bipush (pc := 8) (v := (10 : Int32)) dm_X11_isEnd_8 qb_10 ?_
  refine G.icmp_eq (pc := 10) (tgt := 26) dm_X11_isEnd_10 (by decide) (fun c10 => ?_) (fun c10 => ?_)
  · rw [if_pos c10] at hres
    refine G.iconst (pc := 26) (v := (1 : Int32)) dm_X11_isEnd_26 qi_1 ?_
    refine G.goto (pc := 27) (tgt := 31) dm_X11_isEnd_27 (by decide) ?_
    subst hres
    exact G.zreturn (pc := 31) dm_X11_isEnd_31 rfl (by decide) rfl rfl
  · rw [if_neg c10] at hres
    refine G.aload_n (pc := 13) dm_X11_isEnd_13 rfl ?_
    refine G.aload_n (pc := 14) dm_X11_isEnd_14 rfl ?_
    refine G.getfield (pc := 15) dm_X11_isEnd_15 gf_X11_88 rfl rfl ?_
    obtain ⟨z2_0, hz2⟩ := g_ex1 (f_X11_character at_ length text)
    refine G.callV0 (pc := 18) (rest := []) (st1 := [.int z2_0]) dm_X11_isEnd_18 gc_X11_isEnd_91 (k_X11_character (p := at_) (refusal := refusal) (wheel := wheel) (now := now) (length := length) (at_ := at_) (fault := fault) (faultLine := faultLine) (line := line) (words := words) (labels := labels) (targets := targets) (wrong := wrong) (unfit := unfit) (text := text) (code_ := code_) (label := label) (labelWord := labelWord) (target := target) (targetWord := targetWord) (targetLine := targetLine) (store := store) (common := common) (low := low) (high := high) (register := register) (address := address) (status := status) (did := did) (ready := ready) (timer := timer) (trace := trace) hln hat.1 hz2) rfl rfl rfl rfl rfl rfl rfl rfl ?_
    replace hres : r_0 = f_X11_isEnd_c18 z2_0 := hres.trans (by rw [← hz2])
    rw [f_X11_isEnd_c18] at hres
    refine G.bipush (pc := 21) (v := (59 : Int32)) dm_X11_isEnd_21 qb_59 ?_
    refine G.icmp_ne (pc := 23) (tgt := 30) dm_X11_isEnd_23 (by decide) (fun c23 => ?_) (fun c23 => ?_)
    · rw [if_neg c23] at hres
      refine G.iconst (pc := 30) (v := (0 : Int32)) dm_X11_isEnd_30 qi_0 ?_
      subst hres
      exact G.zreturn (pc := 31) dm_X11_isEnd_31 rfl (by decide) rfl rfl
    · rw [if_pos c23] at hres
      refine G.iconst (pc := 26) (v := (1 : Int32)) dm_X11_isEnd_26 qi_1 ?_
      refine G.goto (pc := 27) (tgt := 31) dm_X11_isEnd_27 (by decide) ?_
      subst hres
      exact G.zreturn (pc := 31) dm_X11_isEnd_31 rfl (by decide) rfl rfl
abbrev M_X11_letters : g_M := (cX11_letters, 4, RX11, (some .long), { frames := 2, cells := 0, slots := 0, locals := 41 }, 0, 0)
theorem dm_X11_letters_0 : decode M_X11_letters.1 0 = .ok (.aload_n 0, 1) := by decide +kernel
theorem dm_X11_letters_1 : decode M_X11_letters.1 1 = .ok (.invokevirtual 95, 3) := by decide +kernel
theorem dm_X11_letters_4 : decode M_X11_letters.1 4 = .ok (.aload_n 0, 1) := by decide +kernel
theorem dm_X11_letters_5 : decode M_X11_letters.1 5 = .ok (.getfield 88, 3) := by decide +kernel
theorem dm_X11_letters_8 : decode M_X11_letters.1 8 = .ok (.istore_n 1, 1) := by decide +kernel
theorem dm_X11_letters_9 : decode M_X11_letters.1 9 = .ok (.lconst 0, 1) := by decide +kernel
theorem dm_X11_letters_10 : decode M_X11_letters.1 10 = .ok (.lstore_n 2, 1) := by decide +kernel
theorem dm_X11_letters_11 : decode M_X11_letters.1 11 = .ok (.aload_n 0, 1) := by decide +kernel
theorem dm_X11_letters_12 : decode M_X11_letters.1 12 = .ok (.aload_n 0, 1) := by decide +kernel
theorem dm_X11_letters_13 : decode M_X11_letters.1 13 = .ok (.getfield 88, 3) := by decide +kernel
theorem dm_X11_letters_16 : decode M_X11_letters.1 16 = .ok (.invokevirtual 91, 3) := by decide +kernel
theorem dm_X11_letters_19 : decode M_X11_letters.1 19 = .ok (.invokestatic 98, 3) := by decide +kernel
theorem dm_X11_letters_22 : decode M_X11_letters.1 22 = .ok (.ifCond .eq 53, 3) := by decide +kernel
theorem dm_X11_letters_25 : decode M_X11_letters.1 25 = .ok (.aload_n 0, 1) := by decide +kernel
theorem dm_X11_letters_26 : decode M_X11_letters.1 26 = .ok (.getfield 88, 3) := by decide +kernel
theorem dm_X11_letters_29 : decode M_X11_letters.1 29 = .ok (.iload_n 1, 1) := by decide +kernel
theorem dm_X11_letters_30 : decode M_X11_letters.1 30 = .ok (.isub, 1) := by decide +kernel
theorem dm_X11_letters_31 : decode M_X11_letters.1 31 = .ok (.bipush 8, 2) := by decide +kernel
theorem dm_X11_letters_33 : decode M_X11_letters.1 33 = .ok (.if_icmp .ge 27, 3) := by decide +kernel
theorem dm_X11_letters_36 : decode M_X11_letters.1 36 = .ok (.lload_n 2, 1) := by decide +kernel
theorem dm_X11_letters_37 : decode M_X11_letters.1 37 = .ok (.aload_n 0, 1) := by decide +kernel
theorem dm_X11_letters_38 : decode M_X11_letters.1 38 = .ok (.aload_n 0, 1) := by decide +kernel
theorem dm_X11_letters_39 : decode M_X11_letters.1 39 = .ok (.getfield 88, 3) := by decide +kernel
theorem dm_X11_letters_42 : decode M_X11_letters.1 42 = .ok (.invokevirtual 91, 3) := by decide +kernel
theorem dm_X11_letters_45 : decode M_X11_letters.1 45 = .ok (.i2l, 1) := by decide +kernel
theorem dm_X11_letters_46 : decode M_X11_letters.1 46 = .ok (.bipush 8, 2) := by decide +kernel
theorem dm_X11_letters_48 : decode M_X11_letters.1 48 = .ok (.aload_n 0, 1) := by decide +kernel
theorem dm_X11_letters_49 : decode M_X11_letters.1 49 = .ok (.getfield 88, 3) := by decide +kernel
theorem dm_X11_letters_52 : decode M_X11_letters.1 52 = .ok (.iload_n 1, 1) := by decide +kernel
theorem dm_X11_letters_53 : decode M_X11_letters.1 53 = .ok (.isub, 1) := by decide +kernel
theorem dm_X11_letters_54 : decode M_X11_letters.1 54 = .ok (.imul, 1) := by decide +kernel
theorem dm_X11_letters_55 : decode M_X11_letters.1 55 = .ok (.lshl, 1) := by decide +kernel
theorem dm_X11_letters_56 : decode M_X11_letters.1 56 = .ok (.lor, 1) := by decide +kernel
theorem dm_X11_letters_57 : decode M_X11_letters.1 57 = .ok (.goto 4, 3) := by decide +kernel
theorem dm_X11_letters_60 : decode M_X11_letters.1 60 = .ok (.lconst 0, 1) := by decide +kernel
theorem dm_X11_letters_61 : decode M_X11_letters.1 61 = .ok (.lstore_n 2, 1) := by decide +kernel
theorem dm_X11_letters_62 : decode M_X11_letters.1 62 = .ok (.aload_n 0, 1) := by decide +kernel
theorem dm_X11_letters_63 : decode M_X11_letters.1 63 = .ok (.dup, 1) := by decide +kernel
theorem dm_X11_letters_64 : decode M_X11_letters.1 64 = .ok (.getfield 88, 3) := by decide +kernel
theorem dm_X11_letters_67 : decode M_X11_letters.1 67 = .ok (.iconst 1, 1) := by decide +kernel
theorem dm_X11_letters_68 : decode M_X11_letters.1 68 = .ok (.iadd, 1) := by decide +kernel
theorem dm_X11_letters_69 : decode M_X11_letters.1 69 = .ok (.putfield 88, 3) := by decide +kernel
theorem dm_X11_letters_72 : decode M_X11_letters.1 72 = .ok (.goto (-61), 3) := by decide +kernel
theorem dm_X11_letters_75 : decode M_X11_letters.1 75 = .ok (.aload_n 0, 1) := by decide +kernel
theorem dm_X11_letters_76 : decode M_X11_letters.1 76 = .ok (.getfield 88, 3) := by decide +kernel
theorem dm_X11_letters_79 : decode M_X11_letters.1 79 = .ok (.iload_n 1, 1) := by decide +kernel
theorem dm_X11_letters_80 : decode M_X11_letters.1 80 = .ok (.isub, 1) := by decide +kernel
theorem dm_X11_letters_81 : decode M_X11_letters.1 81 = .ok (.bipush 8, 2) := by decide +kernel
theorem dm_X11_letters_83 : decode M_X11_letters.1 83 = .ok (.if_icmp .le 7, 3) := by decide +kernel
theorem dm_X11_letters_86 : decode M_X11_letters.1 86 = .ok (.lconst 0, 1) := by decide +kernel
theorem dm_X11_letters_87 : decode M_X11_letters.1 87 = .ok (.goto 4, 3) := by decide +kernel
theorem dm_X11_letters_90 : decode M_X11_letters.1 90 = .ok (.lload_n 2, 1) := by decide +kernel
theorem dm_X11_letters_91 : decode M_X11_letters.1 91 = .ok (.lreturn, 1) := by decide +kernel
theorem gc_X11_letters_95 : g_cv M_X11_letters 95 M_X11_skip yX11_skip 0 := ⟨tw421, tw422, tw423, tw5, tw424, ⟨rfl, rfl, rfl, rfl⟩, gd_X11_skip, ⟨by decide, by decide⟩⟩
theorem gc_X11_letters_91 : g_cv M_X11_letters 91 M_X11_character yX11_character 1 := ⟨tw425, tw426, tw427, tw5, tw428, ⟨rfl, rfl, rfl, rfl⟩, gd_X11_character, ⟨by decide, by decide⟩⟩
theorem gc_X11_letters_98 : g_cs M_X11_letters 98 M_X11_isLetter yX11_isLetter 1 := ⟨tw433, tw434, tw5, tw435, ⟨rfl, rfl, rfl, rfl⟩, gd_X11_isLetter, ⟨by decide, by decide⟩⟩
def f_X11_letters_61 (at_ : Int32) (l1 : Int32) (kL11 : Int32 → Int64 → Int32 → Int64 × Int32) (s0 : Int64) : Int64 × Int32 := (kL11 l1 s0 (at_ + (1 : Int32)))
set_option maxRecDepth 20000 in
theorem j_X11_letters_61 {l1 : Int32} {s0 : Int64} {refusal : Int32} {wheel : Int32} {now : Int32} {length : Int32} {at_ : Int32} {fault : Int32} {faultLine : Int32} {line : Int32} {words : Int32} {labels : Int32} {targets : Int32} {wrong : Int32} {unfit : Int32} {text : Nat → Int32} {code_ : Nat → Int32} {label : Nat → Int64} {labelWord : Nat → Int32} {target : Nat → Int64} {targetWord : Nat → Int32} {targetLine : Nat → Int32} {store : Nat → Int32} {common : Nat → Int32} {low : Nat → Int32} {high : Nat → Int32} {register : Nat → Int32} {address : Nat → Int32} {status : Nat → Int32} {did : Nat → Int32} {ready : Nat → Int32} {timer : Nat → Int32} {trace : Nat → Int32} {kL11 : Int32 → Int64 → Int32 → Int64 × Int32} {r_0 : Int64} {r_1 : Int32} (hres : (r_0, r_1) = (f_X11_letters_61 at_ l1 kL11 s0)) (hln : 0 ≤ length.toInt ∧ length.toInt ≤ 400) (hat : 0 ≤ at_.toInt ∧ at_.toInt ≤ 400) (hlt : at_.toInt < length.toInt) {mu : Nat} (hmu : (400 - at_.toInt.toNat) = mu) (hk11 : ∀ {l1 : Int32} {l2 : Int64} {at_ : Int32}, (0 ≤ length.toInt ∧ length.toInt ≤ 400) → (0 ≤ at_.toInt ∧ at_.toInt ≤ 400) → (400 - at_.toInt.toNat) < mu → (r_0, r_1) = kL11 l1 l2 at_ → G M_X11_letters 0 0 11 [(0, .ref 0), (1, .int l1), (2, .long l2)] [] (w_M refusal wheel now length at_ fault faultLine line words labels targets wrong unfit text code_ label labelWord target targetWord targetLine store common low high register address status did ready timer trace) (some (.long r_0)) (w_M refusal wheel now length r_1 fault faultLine line words labels targets wrong unfit text code_ label labelWord target targetWord targetLine store common low high register address status did ready timer trace)) : G M_X11_letters 0 0 61 [(0, .ref 0), (1, .int l1)] [.long s0] (w_M refusal wheel now length at_ fault faultLine line words labels targets wrong unfit text code_ label labelWord target targetWord targetLine store common low high register address status did ready timer trace) (some (.long r_0)) (w_M refusal wheel now length r_1 fault faultLine line words labels targets wrong unfit text code_ label labelWord target targetWord targetLine store common low high register address status did ready timer trace) := by
  rw [f_X11_letters_61] at hres
  refine G.lstore_n (pc := 61) (lv1 := [(2, .long s0), (0, .ref 0), (1, .int l1)]) dm_X11_letters_61 rfl rfl ?_
  refine G.aload_n (pc := 62) dm_X11_letters_62 rfl ?_
  refine G.dup (pc := 63) dm_X11_letters_63 rfl ?_
  refine G.getfield (pc := 64) dm_X11_letters_64 gf_X11_88 rfl rfl ?_
  refine G.iconst (pc := 67) (v := (1 : Int32)) dm_X11_letters_67 qi_1 ?_
  refine G.iadd (pc := 68) dm_X11_letters_68 ?_
  refine G.putfield (pc := 69) (ws1 := (w_M refusal wheel now length (at_ + (1 : Int32)) fault faultLine line words labels targets wrong unfit text code_ label labelWord target targetWord targetLine store common low high register address status did ready timer trace)) dm_X11_letters_69 gw_X11_88 rfl (g_fit_i _) rfl rfl ?_
  refine G.goto (pc := 72) (tgt := 11) dm_X11_letters_72 (by decide) ?_
  refine G.lvp [1, 2, 0] rfl ?_
  exact hk11 hln (q_up hln hat hlt) (q_updec hln hat hlt hmu) hres
def f_X11_letters_c42 (at_ : Int32) (l1 : Int32) (l2 : Int64) (kL11 : Int32 → Int64 → Int32 → Int64 × Int32) (z4_0 : Int32) : Int64 × Int32 := (f_X11_letters_61 at_ l1 kL11 (l2 ||| (g_lshl (Int32.toInt64 z4_0) ((8 : Int32) * (at_ - l1)))))
def f_X11_letters_c19 (length : Int32) (at_ : Int32) (text : Nat → Int32) (l1 : Int32) (l2 : Int64) (kL11 : Int32 → Int64 → Int32 → Int64 × Int32) (z3_0 : Int32) : Int64 × Int32 := (if z3_0 = 0 then (if (at_ - l1) ≤ (8 : Int32) then (l2, at_) else ((0 : Int64), at_)) else (if (8 : Int32) ≤ (at_ - l1) then (f_X11_letters_61 at_ l1 kL11 (0 : Int64)) else (f_X11_letters_c42 at_ l1 l2 kL11 (f_X11_character at_ length text))))
def f_X11_letters_c16 (length : Int32) (at_ : Int32) (text : Nat → Int32) (l1 : Int32) (l2 : Int64) (kL11 : Int32 → Int64 → Int32 → Int64 × Int32) (z2_0 : Int32) : Int64 × Int32 := (f_X11_letters_c19 length at_ text l1 l2 kL11 (f_X11_isLetter z2_0))
def f_X11_letters_11 (length : Int32) (text : Nat → Int32) : Nat → Int32 → Int64 → Int32 → Int64 × Int32
  | 0, l1, l2, at_ => (0, at_)
  | n + 1, l1, l2, at_ => (f_X11_letters_c16 length at_ text l1 l2 (f_X11_letters_11 length text n) (f_X11_character at_ length text))
set_option maxRecDepth 20000 in
theorem j_X11_letters_11 : ∀ (n : Nat) {l1 : Int32} {l2 : Int64} {refusal : Int32} {wheel : Int32} {now : Int32} {length : Int32} {at_ : Int32} {fault : Int32} {faultLine : Int32} {line : Int32} {words : Int32} {labels : Int32} {targets : Int32} {wrong : Int32} {unfit : Int32} {text : Nat → Int32} {code_ : Nat → Int32} {label : Nat → Int64} {labelWord : Nat → Int32} {target : Nat → Int64} {targetWord : Nat → Int32} {targetLine : Nat → Int32} {store : Nat → Int32} {common : Nat → Int32} {low : Nat → Int32} {high : Nat → Int32} {register : Nat → Int32} {address : Nat → Int32} {status : Nat → Int32} {did : Nat → Int32} {ready : Nat → Int32} {timer : Nat → Int32} {trace : Nat → Int32} {r_0 : Int64} {r_1 : Int32}, (hln : 0 ≤ length.toInt ∧ length.toInt ≤ 400) → (hat : 0 ≤ at_.toInt ∧ at_.toInt ≤ 400) → (400 - at_.toInt.toNat) < n → (r_0, r_1) = f_X11_letters_11 length text n l1 l2 at_ → G M_X11_letters 0 0 11 [(0, .ref 0), (1, .int l1), (2, .long l2)] [] (w_M refusal wheel now length at_ fault faultLine line words labels targets wrong unfit text code_ label labelWord target targetWord targetLine store common low high register address status did ready timer trace) (some (.long r_0)) (w_M refusal wheel now length r_1 fault faultLine line words labels targets wrong unfit text code_ label labelWord target targetWord targetLine store common low high register address status did ready timer trace) := by
  intro n
  induction n with
  | zero =>
    intro l1 l2 refusal wheel now length at_ fault faultLine line words labels targets wrong unfit text code_ label labelWord target targetWord targetLine store common low high register address status did ready timer trace r_0 r_1 hln hat hm hres
    exact absurd hm (Nat.not_lt_zero _)
  | succ n ih =>
    intro l1 l2 refusal wheel now length at_ fault faultLine line words labels targets wrong unfit text code_ label labelWord target targetWord targetLine store common low high register address status did ready timer trace r_0 r_1 hln hat hm hres
    obtain ⟨mu, hmu⟩ : ∃ z, (400 - at_.toInt.toNat) = z := ⟨_, rfl⟩
    rw [hmu] at hm
    have hk11 : ∀ {l1 : Int32} {l2 : Int64} {at_ : Int32}, (0 ≤ length.toInt ∧ length.toInt ≤ 400) → (0 ≤ at_.toInt ∧ at_.toInt ≤ 400) → (400 - at_.toInt.toNat) < mu → (r_0, r_1) = (f_X11_letters_11 length text n) l1 l2 at_ → G M_X11_letters 0 0 11 [(0, .ref 0), (1, .int l1), (2, .long l2)] [] (w_M refusal wheel now length at_ fault faultLine line words labels targets wrong unfit text code_ label labelWord target targetWord targetLine store common low high register address status did ready timer trace) (some (.long r_0)) (w_M refusal wheel now length r_1 fault faultLine line words labels targets wrong unfit text code_ label labelWord target targetWord targetLine store common low high register address status did ready timer trace) := fun hln hat hlt he => ih hln hat (Nat.lt_of_lt_of_le hlt (Nat.le_of_lt_succ hm)) he
    rw [f_X11_letters_11] at hres
    refine G.aload_n (pc := 11) dm_X11_letters_11 rfl ?_
    refine G.aload_n (pc := 12) dm_X11_letters_12 rfl ?_
    refine G.getfield (pc := 13) dm_X11_letters_13 gf_X11_88 rfl rfl ?_
    obtain ⟨z2_0, hz2⟩ := g_ex1 (f_X11_character at_ length text)
    refine G.callV0 (pc := 16) (rest := []) (st1 := [.int z2_0]) dm_X11_letters_16 gc_X11_letters_91 (k_X11_character (p := at_) (refusal := refusal) (wheel := wheel) (now := now) (length := length) (at_ := at_) (fault := fault) (faultLine := faultLine) (line := line) (words := words) (labels := labels) (targets := targets) (wrong := wrong) (unfit := unfit) (text := text) (code_ := code_) (label := label) (labelWord := labelWord) (target := target) (targetWord := targetWord) (targetLine := targetLine) (store := store) (common := common) (low := low) (high := high) (register := register) (address := address) (status := status) (did := did) (ready := ready) (timer := timer) (trace := trace) hln hat.1 hz2) rfl rfl rfl rfl rfl rfl rfl rfl ?_
    have ch := a_character hz2
    replace hres : (r_0, r_1) = f_X11_letters_c16 length at_ text l1 l2 (f_X11_letters_11 length text n) z2_0 := hres.trans (by rw [← hz2])
    rw [f_X11_letters_c16] at hres
    obtain ⟨z3_0, hz3⟩ := g_ex1 (f_X11_isLetter z2_0)
    refine G.callS (pc := 19) (rest := []) (st1 := [.int z3_0]) (ws1 := (w_M refusal wheel now length at_ fault faultLine line words labels targets wrong unfit text code_ label labelWord target targetWord targetLine store common low high register address status did ready timer trace)) [] dm_X11_letters_19 gc_X11_letters_98 (k_X11_isLetter (c := z2_0) hz3) rfl rfl rfl rfl rfl rfl rfl rfl ?_
    have il := a_isLetter hz3
    replace hres : (r_0, r_1) = f_X11_letters_c19 length at_ text l1 l2 (f_X11_letters_11 length text n) z3_0 := hres.trans (by rw [← hz3])
    rw [f_X11_letters_c19] at hres
    refine G.if_eq (pc := 22) (tgt := 75) dm_X11_letters_22 (by decide) (fun c22 => ?_) (fun c22 => ?_)
    · rw [if_pos c22] at hres
      refine G.aload_n (pc := 75) dm_X11_letters_75 rfl ?_
      refine G.getfield (pc := 76) dm_X11_letters_76 gf_X11_88 rfl rfl ?_
      refine G.iload_n (pc := 79) dm_X11_letters_79 rfl ?_
      refine G.isub (pc := 80) dm_X11_letters_80 ?_
      refine G.bipush (pc := 81) (v := (8 : Int32)) dm_X11_letters_81 qb_8 ?_
      refine G.icmp_le (pc := 83) (tgt := 90) dm_X11_letters_83 (by decide) (fun c83 => ?_) (fun c83 => ?_)
      · rw [if_pos c83] at hres
        refine G.lload_n (pc := 90) dm_X11_letters_90 rfl ?_
        cases hres
        exact G.lreturn (pc := 91) dm_X11_letters_91 rfl rfl rfl
      · rw [if_neg c83] at hres
        refine G.lconst (pc := 86) (v := (0 : Int64)) dm_X11_letters_86 (by decide) ?_
        refine G.goto (pc := 87) (tgt := 91) dm_X11_letters_87 (by decide) ?_
        cases hres
        exact G.lreturn (pc := 91) dm_X11_letters_91 rfl rfl rfl
    · rw [if_neg c22] at hres
      have hlt := ch (il c22)
      refine G.aload_n (pc := 25) dm_X11_letters_25 rfl ?_
      refine G.getfield (pc := 26) dm_X11_letters_26 gf_X11_88 rfl rfl ?_
      refine G.iload_n (pc := 29) dm_X11_letters_29 rfl ?_
      refine G.isub (pc := 30) dm_X11_letters_30 ?_
      refine G.bipush (pc := 31) (v := (8 : Int32)) dm_X11_letters_31 qb_8 ?_
      refine G.icmp_ge (pc := 33) (tgt := 60) dm_X11_letters_33 (by decide) (fun c33 => ?_) (fun c33 => ?_)
      · rw [if_pos c33] at hres
        refine G.lconst (pc := 60) (v := (0 : Int64)) dm_X11_letters_60 (by decide) ?_
        refine G.lvp [0, 1] rfl ?_
        exact j_X11_letters_61 hres (by first | assumption | exact q_31 _ | exact q_7 _) (by first | assumption | exact q_31 _ | exact q_7 _) (by first | assumption | exact q_31 _ | exact q_7 _) hmu hk11
      · rw [if_neg c33] at hres
        refine G.lload_n (pc := 36) dm_X11_letters_36 rfl ?_
        refine G.aload_n (pc := 37) dm_X11_letters_37 rfl ?_
        refine G.aload_n (pc := 38) dm_X11_letters_38 rfl ?_
        refine G.getfield (pc := 39) dm_X11_letters_39 gf_X11_88 rfl rfl ?_
        obtain ⟨z4_0, hz4⟩ := g_ex1 (f_X11_character at_ length text)
        refine G.callV0 (pc := 42) (rest := [.long l2]) (st1 := [.int z4_0, .long l2]) dm_X11_letters_42 gc_X11_letters_91 (k_X11_character (p := at_) (refusal := refusal) (wheel := wheel) (now := now) (length := length) (at_ := at_) (fault := fault) (faultLine := faultLine) (line := line) (words := words) (labels := labels) (targets := targets) (wrong := wrong) (unfit := unfit) (text := text) (code_ := code_) (label := label) (labelWord := labelWord) (target := target) (targetWord := targetWord) (targetLine := targetLine) (store := store) (common := common) (low := low) (high := high) (register := register) (address := address) (status := status) (did := did) (ready := ready) (timer := timer) (trace := trace) hln hat.1 hz4) rfl rfl rfl rfl rfl rfl rfl rfl ?_
        replace hres : (r_0, r_1) = f_X11_letters_c42 at_ l1 l2 (f_X11_letters_11 length text n) z4_0 := hres.trans (by rw [← hz4])
        rw [f_X11_letters_c42] at hres
        refine G.i2l (pc := 45) dm_X11_letters_45 ?_
        refine G.bipush (pc := 46) (v := (8 : Int32)) dm_X11_letters_46 qb_8 ?_
        refine G.aload_n (pc := 48) dm_X11_letters_48 rfl ?_
        refine G.getfield (pc := 49) dm_X11_letters_49 gf_X11_88 rfl rfl ?_
        refine G.iload_n (pc := 52) dm_X11_letters_52 rfl ?_
        refine G.isub (pc := 53) dm_X11_letters_53 ?_
        refine G.imul (pc := 54) dm_X11_letters_54 ?_
        refine G.lshl (pc := 55) dm_X11_letters_55 ?_
        refine G.lor (pc := 56) dm_X11_letters_56 ?_
        refine G.goto (pc := 57) (tgt := 61) dm_X11_letters_57 (by decide) ?_
        refine G.lvp [0, 1] rfl ?_
        exact j_X11_letters_61 hres (by first | assumption | exact q_31 _ | exact q_7 _) (by first | assumption | exact q_31 _ | exact q_7 _) (by first | assumption | exact q_31 _ | exact q_7 _) hmu hk11
def f_X11_letters_c1 (length : Int32) (text : Nat → Int32) (z1_0 : Int32) : Int64 × Int32 := (f_X11_letters_11 length text (401) z1_0 (0 : Int64) z1_0)
def f_X11_letters (length : Int32) (at_ : Int32) (text : Nat → Int32) : Int64 × Int32 := (f_X11_letters_c1 length text (f_X11_skip length at_ text))
set_option maxRecDepth 20000 in
theorem k_X11_letters {refusal : Int32} {wheel : Int32} {now : Int32} {length : Int32} {at_ : Int32} {fault : Int32} {faultLine : Int32} {line : Int32} {words : Int32} {labels : Int32} {targets : Int32} {wrong : Int32} {unfit : Int32} {text : Nat → Int32} {code_ : Nat → Int32} {label : Nat → Int64} {labelWord : Nat → Int32} {target : Nat → Int64} {targetWord : Nat → Int32} {targetLine : Nat → Int32} {store : Nat → Int32} {common : Nat → Int32} {low : Nat → Int32} {high : Nat → Int32} {register : Nat → Int32} {address : Nat → Int32} {status : Nat → Int32} {did : Nat → Int32} {ready : Nat → Int32} {timer : Nat → Int32} {trace : Nat → Int32} (hln : 0 ≤ length.toInt ∧ length.toInt ≤ 400) (hat : 0 ≤ at_.toInt ∧ at_.toInt ≤ 400) {r_0 : Int64} {r_1 : Int32} (hres : (r_0, r_1) = f_X11_letters length at_ text) : K M_X11_letters yX11_letters [.ref 0] (w_M refusal wheel now length at_ fault faultLine line words labels targets wrong unfit text code_ label labelWord target targetWord targetLine store common low high register address status did ready timer trace) (some (.long r_0)) (w_M refusal wheel now length r_1 fault faultLine line words labels targets wrong unfit text code_ label labelWord target targetWord targetLine store common low high register address status did ready timer trace) := by
  refine K.of (lv := [(0, .ref 0)]) (by decide +kernel) rfl rfl rfl ?_
  rw [f_X11_letters] at hres
  refine G.aload_n (pc := 0) dm_X11_letters_0 rfl ?_
  obtain ⟨z1_0, hz1⟩ := g_ex1 (f_X11_skip length at_ text)
  refine G.callV0 (pc := 1) (rest := []) (st1 := []) dm_X11_letters_1 gc_X11_letters_95 (k_X11_skip (refusal := refusal) (wheel := wheel) (now := now) (length := length) (at_ := at_) (fault := fault) (faultLine := faultLine) (line := line) (words := words) (labels := labels) (targets := targets) (wrong := wrong) (unfit := unfit) (text := text) (code_ := code_) (label := label) (labelWord := labelWord) (target := target) (targetWord := targetWord) (targetLine := targetLine) (store := store) (common := common) (low := low) (high := high) (register := register) (address := address) (status := status) (did := did) (ready := ready) (timer := timer) (trace := trace) (by first | assumption | exact q_31 _ | exact q_7 _) (by first | assumption | exact q_31 _ | exact q_7 _) hz1) rfl rfl rfl rfl rfl rfl rfl rfl ?_
  have hat := (a_skip hz1 hln hat).1
  replace hres : (r_0, r_1) = f_X11_letters_c1 length text z1_0 := hres.trans (by rw [← hz1])
  rw [f_X11_letters_c1] at hres
  refine G.aload_n (pc := 4) dm_X11_letters_4 rfl ?_
  refine G.getfield (pc := 5) dm_X11_letters_5 gf_X11_88 rfl rfl ?_
  refine G.istore_n (pc := 8) (lv1 := [(1, .int z1_0), (0, .ref 0)]) dm_X11_letters_8 rfl rfl ?_
  refine G.lconst (pc := 9) (v := (0 : Int64)) dm_X11_letters_9 (by decide) ?_
  refine G.lstore_n (pc := 10) (lv1 := [(2, .long (0 : Int64)), (1, .int z1_0), (0, .ref 0)]) dm_X11_letters_10 rfl rfl ?_
  refine G.lvp [2, 1, 0] rfl ?_
  exact j_X11_letters_11 _ (by first | assumption | exact q_31 _ | exact q_7 _) (by first | assumption | exact q_31 _ | exact q_7 _) (q_st hat) hres
theorem q_tr1 {a b c : Int32} (h1 : (0 ≤ b.toInt ∧ b.toInt ≤ 400) ∧ a.toInt ≤ b.toInt) (h2 : (0 ≤ c.toInt ∧ c.toInt ≤ 400) ∧ b.toInt ≤ c.toInt) : (0 ≤ c.toInt ∧ c.toInt ≤ 400) ∧ a.toInt ≤ c.toInt := ⟨h2.1, by omega⟩
theorem q_up2 {length at_ : Int32} (hln : 0 ≤ length.toInt ∧ length.toInt ≤ 400) (hat : 0 ≤ at_.toInt ∧ at_.toInt ≤ 400) (h : at_.toInt < length.toInt) : (0 ≤ (at_ + 1).toInt ∧ (at_ + 1).toInt ≤ 400) ∧ at_.toInt ≤ (at_ + 1).toInt := by
  rw [q_inc (by omega)]; omega
theorem q_p22 {length at_ : Int32} (hln : 0 ≤ length.toInt ∧ length.toInt ≤ 400) (hat : 0 ≤ at_.toInt ∧ at_.toInt ≤ 400) (h : (at_ + 1).toInt < length.toInt) : (0 ≤ (at_ + 2).toInt ∧ (at_ + 2).toInt ≤ 400) ∧ at_.toInt ≤ (at_ + 2).toInt := by
  rw [q_inc (by omega)] at h
  have h2 : (2 : Int32).toInt = 2 := by decide
  rw [q_add (by omega) (by omega), h2]; omega
theorem a_letters_11 {length : Int32} {text : Nat → Int32} (hln : 0 ≤ length.toInt ∧ length.toInt ≤ 400) : ∀ (n : Nat) (l1 : Int32) (l2 : Int64) (at_ : Int32), 0 ≤ at_.toInt ∧ at_.toInt ≤ 400 → (0 ≤ (f_X11_letters_11 length text n l1 l2 at_).2.toInt ∧ (f_X11_letters_11 length text n l1 l2 at_).2.toInt ≤ 400) ∧ at_.toInt ≤ (f_X11_letters_11 length text n l1 l2 at_).2.toInt
  | 0, _, _, _, h => ⟨h, Int.le_refl _⟩
  | n + 1, l1, l2, at_, h => by
    rw [f_X11_letters_11, f_X11_letters_c16, f_X11_letters_c19]
    split
    · split <;> exact ⟨h, Int.le_refl _⟩
    · rename_i c
      have hlt := a_character (rfl : f_X11_character at_ length text = _) (a_isLetter rfl c)
      split
      · exact q_tr1 (q_up2 hln h hlt) (a_letters_11 hln n _ _ _ (q_up hln h hlt))
      · exact q_tr1 (q_up2 hln h hlt) (a_letters_11 hln n _ _ _ (q_up hln h hlt))
theorem a_letters {length at_ z1 : Int32} {z0 : Int64} {text : Nat → Int32} (h : (z0, z1) = f_X11_letters length at_ text) (hln : 0 ≤ length.toInt ∧ length.toInt ≤ 400) (hat : 0 ≤ at_.toInt ∧ at_.toInt ≤ 400) : (0 ≤ z1.toInt ∧ z1.toInt ≤ 400) ∧ at_.toInt ≤ z1.toInt := by
  have e : z1 = (f_X11_letters length at_ text).2 := congrArg Prod.snd h
  have h1 := a_skip (text := text) rfl hln hat
  rw [e]
  exact q_tr1 h1 (a_letters_11 hln _ _ _ _ h1.1)
abbrev M_X11_need : g_M := (cX11_need, 2, RX11, none, { frames := 2, cells := 0, slots := 0, locals := 41 }, 0, 0)
theorem dm_X11_need_0 : decode M_X11_need.1 0 = .ok (.aload_n 0, 1) := by decide +kernel
theorem dm_X11_need_1 : decode M_X11_need.1 1 = .ok (.invokevirtual 95, 3) := by decide +kernel
theorem dm_X11_need_4 : decode M_X11_need.1 4 = .ok (.aload_n 0, 1) := by decide +kernel
theorem dm_X11_need_5 : decode M_X11_need.1 5 = .ok (.aload_n 0, 1) := by decide +kernel
theorem dm_X11_need_6 : decode M_X11_need.1 6 = .ok (.getfield 102, 3) := by decide +kernel
theorem dm_X11_need_9 : decode M_X11_need.1 9 = .ok (.ifCond .ne 15, 3) := by decide +kernel
theorem dm_X11_need_12 : decode M_X11_need.1 12 = .ok (.aload_n 0, 1) := by decide +kernel
theorem dm_X11_need_13 : decode M_X11_need.1 13 = .ok (.aload_n 0, 1) := by decide +kernel
theorem dm_X11_need_14 : decode M_X11_need.1 14 = .ok (.getfield 88, 3) := by decide +kernel
theorem dm_X11_need_17 : decode M_X11_need.1 17 = .ok (.invokevirtual 91, 3) := by decide +kernel
theorem dm_X11_need_20 : decode M_X11_need.1 20 = .ok (.iload_n 1, 1) := by decide +kernel
theorem dm_X11_need_21 : decode M_X11_need.1 21 = .ok (.if_icmp .eq 7, 3) := by decide +kernel
theorem dm_X11_need_24 : decode M_X11_need.1 24 = .ok (.iconst 1, 1) := by decide +kernel
theorem dm_X11_need_25 : decode M_X11_need.1 25 = .ok (.goto 4, 3) := by decide +kernel
theorem dm_X11_need_28 : decode M_X11_need.1 28 = .ok (.iconst 0, 1) := by decide +kernel
theorem dm_X11_need_29 : decode M_X11_need.1 29 = .ok (.putfield 102, 3) := by decide +kernel
theorem dm_X11_need_32 : decode M_X11_need.1 32 = .ok (.aload_n 0, 1) := by decide +kernel
theorem dm_X11_need_33 : decode M_X11_need.1 33 = .ok (.getfield 102, 3) := by decide +kernel
theorem dm_X11_need_36 : decode M_X11_need.1 36 = .ok (.ifCond .ne 13, 3) := by decide +kernel
theorem dm_X11_need_39 : decode M_X11_need.1 39 = .ok (.aload_n 0, 1) := by decide +kernel
theorem dm_X11_need_40 : decode M_X11_need.1 40 = .ok (.dup, 1) := by decide +kernel
theorem dm_X11_need_41 : decode M_X11_need.1 41 = .ok (.getfield 88, 3) := by decide +kernel
theorem dm_X11_need_44 : decode M_X11_need.1 44 = .ok (.iconst 1, 1) := by decide +kernel
theorem dm_X11_need_45 : decode M_X11_need.1 45 = .ok (.iadd, 1) := by decide +kernel
theorem dm_X11_need_46 : decode M_X11_need.1 46 = .ok (.putfield 88, 3) := by decide +kernel
theorem dm_X11_need_49 : decode M_X11_need.1 49 = .ok (.return_, 1) := by decide +kernel
theorem gc_X11_need_95 : g_cv M_X11_need 95 M_X11_skip yX11_skip 0 := ⟨tw421, tw422, tw423, tw5, tw424, ⟨rfl, rfl, rfl, rfl⟩, gd_X11_skip, ⟨by decide, by decide⟩⟩
theorem gc_X11_need_91 : g_cv M_X11_need 91 M_X11_character yX11_character 1 := ⟨tw425, tw426, tw427, tw5, tw428, ⟨rfl, rfl, rfl, rfl⟩, gd_X11_character, ⟨by decide, by decide⟩⟩
def f_X11_need_c17 (c : Int32) (z1_0 : Int32) (z2_0 : Int32) : Int32 × Int32 := (if z2_0 = c then ((z1_0 + (1 : Int32)), (0 : Int32)) else (z1_0, (1 : Int32)))
def f_X11_need_c1 (c : Int32) (length : Int32) (wrong : Int32) (text : Nat → Int32) (z1_0 : Int32) : Int32 × Int32 := (if wrong = 0 then (f_X11_need_c17 c z1_0 (f_X11_character z1_0 length text)) else (z1_0, (1 : Int32)))
def f_X11_need (c : Int32) (length : Int32) (at_ : Int32) (wrong : Int32) (text : Nat → Int32) : Int32 × Int32 := (f_X11_need_c1 c length wrong text (f_X11_skip length at_ text))
set_option maxRecDepth 20000 in
theorem k_X11_need {c : Int32} {refusal : Int32} {wheel : Int32} {now : Int32} {length : Int32} {at_ : Int32} {fault : Int32} {faultLine : Int32} {line : Int32} {words : Int32} {labels : Int32} {targets : Int32} {wrong : Int32} {unfit : Int32} {text : Nat → Int32} {code_ : Nat → Int32} {label : Nat → Int64} {labelWord : Nat → Int32} {target : Nat → Int64} {targetWord : Nat → Int32} {targetLine : Nat → Int32} {store : Nat → Int32} {common : Nat → Int32} {low : Nat → Int32} {high : Nat → Int32} {register : Nat → Int32} {address : Nat → Int32} {status : Nat → Int32} {did : Nat → Int32} {ready : Nat → Int32} {timer : Nat → Int32} {trace : Nat → Int32} (hln : 0 ≤ length.toInt ∧ length.toInt ≤ 400) (hat : 0 ≤ at_.toInt ∧ at_.toInt ≤ 400) {r_0 : Int32} {r_1 : Int32} (hres : (r_0, r_1) = f_X11_need c length at_ wrong text) : K M_X11_need yX11_need [.ref 0, .int c] (w_M refusal wheel now length at_ fault faultLine line words labels targets wrong unfit text code_ label labelWord target targetWord targetLine store common low high register address status did ready timer trace) (none) (w_M refusal wheel now length r_0 fault faultLine line words labels targets r_1 unfit text code_ label labelWord target targetWord targetLine store common low high register address status did ready timer trace) := by
  refine K.of (lv := [(0, .ref 0), (1, .int c)]) (by decide +kernel) rfl rfl rfl ?_
  rw [f_X11_need] at hres
  refine G.aload_n (pc := 0) dm_X11_need_0 rfl ?_
  obtain ⟨z1_0, hz1⟩ := g_ex1 (f_X11_skip length at_ text)
  refine G.callV0 (pc := 1) (rest := []) (st1 := []) dm_X11_need_1 gc_X11_need_95 (k_X11_skip (refusal := refusal) (wheel := wheel) (now := now) (length := length) (at_ := at_) (fault := fault) (faultLine := faultLine) (line := line) (words := words) (labels := labels) (targets := targets) (wrong := wrong) (unfit := unfit) (text := text) (code_ := code_) (label := label) (labelWord := labelWord) (target := target) (targetWord := targetWord) (targetLine := targetLine) (store := store) (common := common) (low := low) (high := high) (register := register) (address := address) (status := status) (did := did) (ready := ready) (timer := timer) (trace := trace) (by first | assumption | exact q_31 _ | exact q_7 _) (by first | assumption | exact q_31 _ | exact q_7 _) hz1) rfl rfl rfl rfl rfl rfl rfl rfl ?_
  have hat := (a_skip hz1 hln hat).1
  replace hres : (r_0, r_1) = f_X11_need_c1 c length wrong text z1_0 := hres.trans (by rw [← hz1])
  rw [f_X11_need_c1] at hres
  refine G.aload_n (pc := 4) dm_X11_need_4 rfl ?_
  refine G.aload_n (pc := 5) dm_X11_need_5 rfl ?_
  refine G.getfield (pc := 6) dm_X11_need_6 gf_X11_102 rfl rfl ?_
  refine G.if_ne (pc := 9) (tgt := 24) dm_X11_need_9 (by decide) (fun c9 => ?_) (fun c9 => ?_)
  · rw [if_neg c9] at hres
    refine G.iconst (pc := 24) (v := (1 : Int32)) dm_X11_need_24 qi_1 ?_
    refine G.goto (pc := 25) (tgt := 29) dm_X11_need_25 (by decide) ?_
    refine G.putfield (pc := 29) (ws1 := (w_M refusal wheel now length z1_0 fault faultLine line words labels targets (1 : Int32) unfit text code_ label labelWord target targetWord targetLine store common low high register address status did ready timer trace)) dm_X11_need_29 gw_X11_102 rfl (g_fit_z (Or.inr rfl)) rfl rfl ?_
    refine G.aload_n (pc := 32) dm_X11_need_32 rfl ?_
    refine G.getfield (pc := 33) dm_X11_need_33 gf_X11_102 rfl rfl ?_
    refine G.if_ne (pc := 36) (tgt := 49) dm_X11_need_36 (by decide) (fun c36 => ?_) (fun c36 => absurd c36 (by decide))
    cases hres
    exact G.vreturn (pc := 49) dm_X11_need_49 rfl rfl rfl
  · rw [if_pos c9] at hres
    refine G.aload_n (pc := 12) dm_X11_need_12 rfl ?_
    refine G.aload_n (pc := 13) dm_X11_need_13 rfl ?_
    refine G.getfield (pc := 14) dm_X11_need_14 gf_X11_88 rfl rfl ?_
    obtain ⟨z2_0, hz2⟩ := g_ex1 (f_X11_character z1_0 length text)
    refine G.callV0 (pc := 17) (rest := [.ref 0]) (st1 := [.int z2_0, .ref 0]) dm_X11_need_17 gc_X11_need_91 (k_X11_character (p := z1_0) (refusal := refusal) (wheel := wheel) (now := now) (length := length) (at_ := z1_0) (fault := fault) (faultLine := faultLine) (line := line) (words := words) (labels := labels) (targets := targets) (wrong := wrong) (unfit := unfit) (text := text) (code_ := code_) (label := label) (labelWord := labelWord) (target := target) (targetWord := targetWord) (targetLine := targetLine) (store := store) (common := common) (low := low) (high := high) (register := register) (address := address) (status := status) (did := did) (ready := ready) (timer := timer) (trace := trace) hln hat.1 hz2) rfl rfl rfl rfl rfl rfl rfl rfl ?_
    replace hres : (r_0, r_1) = f_X11_need_c17 c z1_0 z2_0 := hres.trans (by rw [← hz2])
    rw [f_X11_need_c17] at hres
    refine G.iload_n (pc := 20) dm_X11_need_20 rfl ?_
    refine G.icmp_eq (pc := 21) (tgt := 28) dm_X11_need_21 (by decide) (fun c21 => ?_) (fun c21 => ?_)
    · rw [if_pos c21] at hres
      refine G.iconst (pc := 28) (v := (0 : Int32)) dm_X11_need_28 qi_0 ?_
      refine G.putfield (pc := 29) (ws1 := (w_M refusal wheel now length z1_0 fault faultLine line words labels targets (0 : Int32) unfit text code_ label labelWord target targetWord targetLine store common low high register address status did ready timer trace)) dm_X11_need_29 gw_X11_102 rfl (g_fit_z (Or.inl rfl)) rfl rfl ?_
      refine G.aload_n (pc := 32) dm_X11_need_32 rfl ?_
      refine G.getfield (pc := 33) dm_X11_need_33 gf_X11_102 rfl rfl ?_
      refine G.if_ne (pc := 36) (tgt := 49) dm_X11_need_36 (by decide) (fun c36 => absurd rfl c36) (fun c36 => ?_)
      refine G.aload_n (pc := 39) dm_X11_need_39 rfl ?_
      refine G.dup (pc := 40) dm_X11_need_40 rfl ?_
      refine G.getfield (pc := 41) dm_X11_need_41 gf_X11_88 rfl rfl ?_
      refine G.iconst (pc := 44) (v := (1 : Int32)) dm_X11_need_44 qi_1 ?_
      refine G.iadd (pc := 45) dm_X11_need_45 ?_
      refine G.putfield (pc := 46) (ws1 := (w_M refusal wheel now length (z1_0 + (1 : Int32)) fault faultLine line words labels targets (0 : Int32) unfit text code_ label labelWord target targetWord targetLine store common low high register address status did ready timer trace)) dm_X11_need_46 gw_X11_88 rfl (g_fit_i _) rfl rfl ?_
      cases hres
      exact G.vreturn (pc := 49) dm_X11_need_49 rfl rfl rfl
    · rw [if_neg c21] at hres
      refine G.iconst (pc := 24) (v := (1 : Int32)) dm_X11_need_24 qi_1 ?_
      refine G.goto (pc := 25) (tgt := 29) dm_X11_need_25 (by decide) ?_
      refine G.putfield (pc := 29) (ws1 := (w_M refusal wheel now length z1_0 fault faultLine line words labels targets (1 : Int32) unfit text code_ label labelWord target targetWord targetLine store common low high register address status did ready timer trace)) dm_X11_need_29 gw_X11_102 rfl (g_fit_z (Or.inr rfl)) rfl rfl ?_
      refine G.aload_n (pc := 32) dm_X11_need_32 rfl ?_
      refine G.getfield (pc := 33) dm_X11_need_33 gf_X11_102 rfl rfl ?_
      refine G.if_ne (pc := 36) (tgt := 49) dm_X11_need_36 (by decide) (fun c36 => ?_) (fun c36 => absurd c36 (by decide))
      cases hres
      exact G.vreturn (pc := 49) dm_X11_need_49 rfl rfl rfl
theorem a_need {c length at_ wrong z0 z1 : Int32} {text : Nat → Int32} (h : (z0, z1) = f_X11_need c length at_ wrong text) (hc : ¬ c = 10) (hln : 0 ≤ length.toInt ∧ length.toInt ≤ 400) (hat : 0 ≤ at_.toInt ∧ at_.toInt ≤ 400) : (0 ≤ z0.toInt ∧ z0.toInt ≤ 400) ∧ at_.toInt ≤ z0.toInt := by
  have e : z0 = (f_X11_need c length at_ wrong text).1 := congrArg Prod.fst h
  have h1 := a_skip (text := text) rfl hln hat
  rw [e, f_X11_need, f_X11_need_c1]
  split
  · rw [f_X11_need_c17]
    split
    · rename_i c1
      exact q_tr1 h1 (q_up2 hln h1.1 (a_character rfl (by rw [c1]; exact hc)))
    · exact h1
  · exact h1
abbrev M_X11_takeRegister : g_M := (cX11_takeRegister, 2, RX11, (some .int), { frames := 2, cells := 0, slots := 0, locals := 41 }, 0, 0)
theorem dm_X11_takeRegister_0 : decode M_X11_takeRegister.1 0 = .ok (.aload_n 0, 1) := by decide +kernel
theorem dm_X11_takeRegister_1 : decode M_X11_takeRegister.1 1 = .ok (.invokevirtual 95, 3) := by decide +kernel
theorem dm_X11_takeRegister_4 : decode M_X11_takeRegister.1 4 = .ok (.aload_n 0, 1) := by decide +kernel
theorem dm_X11_takeRegister_5 : decode M_X11_takeRegister.1 5 = .ok (.aload_n 0, 1) := by decide +kernel
theorem dm_X11_takeRegister_6 : decode M_X11_takeRegister.1 6 = .ok (.getfield 102, 3) := by decide +kernel
theorem dm_X11_takeRegister_9 : decode M_X11_takeRegister.1 9 = .ok (.ifCond .ne 32, 3) := by decide +kernel
theorem dm_X11_takeRegister_12 : decode M_X11_takeRegister.1 12 = .ok (.aload_n 0, 1) := by decide +kernel
theorem dm_X11_takeRegister_13 : decode M_X11_takeRegister.1 13 = .ok (.aload_n 0, 1) := by decide +kernel
theorem dm_X11_takeRegister_14 : decode M_X11_takeRegister.1 14 = .ok (.getfield 88, 3) := by decide +kernel
theorem dm_X11_takeRegister_17 : decode M_X11_takeRegister.1 17 = .ok (.invokevirtual 91, 3) := by decide +kernel
theorem dm_X11_takeRegister_20 : decode M_X11_takeRegister.1 20 = .ok (.bipush 120, 2) := by decide +kernel
theorem dm_X11_takeRegister_22 : decode M_X11_takeRegister.1 22 = .ok (.if_icmp .ne 19, 3) := by decide +kernel
theorem dm_X11_takeRegister_25 : decode M_X11_takeRegister.1 25 = .ok (.aload_n 0, 1) := by decide +kernel
theorem dm_X11_takeRegister_26 : decode M_X11_takeRegister.1 26 = .ok (.aload_n 0, 1) := by decide +kernel
theorem dm_X11_takeRegister_27 : decode M_X11_takeRegister.1 27 = .ok (.getfield 88, 3) := by decide +kernel
theorem dm_X11_takeRegister_30 : decode M_X11_takeRegister.1 30 = .ok (.iconst 1, 1) := by decide +kernel
theorem dm_X11_takeRegister_31 : decode M_X11_takeRegister.1 31 = .ok (.iadd, 1) := by decide +kernel
theorem dm_X11_takeRegister_32 : decode M_X11_takeRegister.1 32 = .ok (.invokevirtual 91, 3) := by decide +kernel
theorem dm_X11_takeRegister_35 : decode M_X11_takeRegister.1 35 = .ok (.invokestatic 106, 3) := by decide +kernel
theorem dm_X11_takeRegister_38 : decode M_X11_takeRegister.1 38 = .ok (.ifCond .ne 7, 3) := by decide +kernel
theorem dm_X11_takeRegister_41 : decode M_X11_takeRegister.1 41 = .ok (.iconst 1, 1) := by decide +kernel
theorem dm_X11_takeRegister_42 : decode M_X11_takeRegister.1 42 = .ok (.goto 4, 3) := by decide +kernel
theorem dm_X11_takeRegister_45 : decode M_X11_takeRegister.1 45 = .ok (.iconst 0, 1) := by decide +kernel
theorem dm_X11_takeRegister_46 : decode M_X11_takeRegister.1 46 = .ok (.putfield 102, 3) := by decide +kernel
theorem dm_X11_takeRegister_49 : decode M_X11_takeRegister.1 49 = .ok (.aload_n 0, 1) := by decide +kernel
theorem dm_X11_takeRegister_50 : decode M_X11_takeRegister.1 50 = .ok (.getfield 102, 3) := by decide +kernel
theorem dm_X11_takeRegister_53 : decode M_X11_takeRegister.1 53 = .ok (.ifCond .eq 5, 3) := by decide +kernel
theorem dm_X11_takeRegister_56 : decode M_X11_takeRegister.1 56 = .ok (.iconst 0, 1) := by decide +kernel
theorem dm_X11_takeRegister_57 : decode M_X11_takeRegister.1 57 = .ok (.ireturn, 1) := by decide +kernel
theorem dm_X11_takeRegister_58 : decode M_X11_takeRegister.1 58 = .ok (.aload_n 0, 1) := by decide +kernel
theorem dm_X11_takeRegister_59 : decode M_X11_takeRegister.1 59 = .ok (.aload_n 0, 1) := by decide +kernel
theorem dm_X11_takeRegister_60 : decode M_X11_takeRegister.1 60 = .ok (.getfield 88, 3) := by decide +kernel
theorem dm_X11_takeRegister_63 : decode M_X11_takeRegister.1 63 = .ok (.iconst 1, 1) := by decide +kernel
theorem dm_X11_takeRegister_64 : decode M_X11_takeRegister.1 64 = .ok (.iadd, 1) := by decide +kernel
theorem dm_X11_takeRegister_65 : decode M_X11_takeRegister.1 65 = .ok (.invokevirtual 91, 3) := by decide +kernel
theorem dm_X11_takeRegister_68 : decode M_X11_takeRegister.1 68 = .ok (.bipush 48, 2) := by decide +kernel
theorem dm_X11_takeRegister_70 : decode M_X11_takeRegister.1 70 = .ok (.isub, 1) := by decide +kernel
theorem dm_X11_takeRegister_71 : decode M_X11_takeRegister.1 71 = .ok (.istore_n 1, 1) := by decide +kernel
theorem dm_X11_takeRegister_72 : decode M_X11_takeRegister.1 72 = .ok (.aload_n 0, 1) := by decide +kernel
theorem dm_X11_takeRegister_73 : decode M_X11_takeRegister.1 73 = .ok (.dup, 1) := by decide +kernel
theorem dm_X11_takeRegister_74 : decode M_X11_takeRegister.1 74 = .ok (.getfield 88, 3) := by decide +kernel
theorem dm_X11_takeRegister_77 : decode M_X11_takeRegister.1 77 = .ok (.iconst 2, 1) := by decide +kernel
theorem dm_X11_takeRegister_78 : decode M_X11_takeRegister.1 78 = .ok (.iadd, 1) := by decide +kernel
theorem dm_X11_takeRegister_79 : decode M_X11_takeRegister.1 79 = .ok (.putfield 88, 3) := by decide +kernel
theorem dm_X11_takeRegister_82 : decode M_X11_takeRegister.1 82 = .ok (.aload_n 0, 1) := by decide +kernel
theorem dm_X11_takeRegister_83 : decode M_X11_takeRegister.1 83 = .ok (.aload_n 0, 1) := by decide +kernel
theorem dm_X11_takeRegister_84 : decode M_X11_takeRegister.1 84 = .ok (.getfield 88, 3) := by decide +kernel
theorem dm_X11_takeRegister_87 : decode M_X11_takeRegister.1 87 = .ok (.invokevirtual 91, 3) := by decide +kernel
theorem dm_X11_takeRegister_90 : decode M_X11_takeRegister.1 90 = .ok (.invokestatic 106, 3) := by decide +kernel
theorem dm_X11_takeRegister_93 : decode M_X11_takeRegister.1 93 = .ok (.ifCond .eq 30, 3) := by decide +kernel
theorem dm_X11_takeRegister_96 : decode M_X11_takeRegister.1 96 = .ok (.bipush 10, 2) := by decide +kernel
theorem dm_X11_takeRegister_98 : decode M_X11_takeRegister.1 98 = .ok (.iload_n 1, 1) := by decide +kernel
theorem dm_X11_takeRegister_99 : decode M_X11_takeRegister.1 99 = .ok (.imul, 1) := by decide +kernel
theorem dm_X11_takeRegister_100 : decode M_X11_takeRegister.1 100 = .ok (.aload_n 0, 1) := by decide +kernel
theorem dm_X11_takeRegister_101 : decode M_X11_takeRegister.1 101 = .ok (.aload_n 0, 1) := by decide +kernel
theorem dm_X11_takeRegister_102 : decode M_X11_takeRegister.1 102 = .ok (.getfield 88, 3) := by decide +kernel
theorem dm_X11_takeRegister_105 : decode M_X11_takeRegister.1 105 = .ok (.invokevirtual 91, 3) := by decide +kernel
theorem dm_X11_takeRegister_108 : decode M_X11_takeRegister.1 108 = .ok (.iadd, 1) := by decide +kernel
theorem dm_X11_takeRegister_109 : decode M_X11_takeRegister.1 109 = .ok (.bipush 48, 2) := by decide +kernel
theorem dm_X11_takeRegister_111 : decode M_X11_takeRegister.1 111 = .ok (.isub, 1) := by decide +kernel
theorem dm_X11_takeRegister_112 : decode M_X11_takeRegister.1 112 = .ok (.istore_n 1, 1) := by decide +kernel
theorem dm_X11_takeRegister_113 : decode M_X11_takeRegister.1 113 = .ok (.aload_n 0, 1) := by decide +kernel
theorem dm_X11_takeRegister_114 : decode M_X11_takeRegister.1 114 = .ok (.dup, 1) := by decide +kernel
theorem dm_X11_takeRegister_115 : decode M_X11_takeRegister.1 115 = .ok (.getfield 88, 3) := by decide +kernel
theorem dm_X11_takeRegister_118 : decode M_X11_takeRegister.1 118 = .ok (.iconst 1, 1) := by decide +kernel
theorem dm_X11_takeRegister_119 : decode M_X11_takeRegister.1 119 = .ok (.iadd, 1) := by decide +kernel
theorem dm_X11_takeRegister_120 : decode M_X11_takeRegister.1 120 = .ok (.putfield 88, 3) := by decide +kernel
theorem dm_X11_takeRegister_123 : decode M_X11_takeRegister.1 123 = .ok (.aload_n 0, 1) := by decide +kernel
theorem dm_X11_takeRegister_124 : decode M_X11_takeRegister.1 124 = .ok (.aload_n 0, 1) := by decide +kernel
theorem dm_X11_takeRegister_125 : decode M_X11_takeRegister.1 125 = .ok (.aload_n 0, 1) := by decide +kernel
theorem dm_X11_takeRegister_126 : decode M_X11_takeRegister.1 126 = .ok (.getfield 88, 3) := by decide +kernel
theorem dm_X11_takeRegister_129 : decode M_X11_takeRegister.1 129 = .ok (.invokevirtual 91, 3) := by decide +kernel
theorem dm_X11_takeRegister_132 : decode M_X11_takeRegister.1 132 = .ok (.invokestatic 106, 3) := by decide +kernel
theorem dm_X11_takeRegister_135 : decode M_X11_takeRegister.1 135 = .ok (.ifCond .ne 9, 3) := by decide +kernel
theorem dm_X11_takeRegister_138 : decode M_X11_takeRegister.1 138 = .ok (.iload_n 1, 1) := by decide +kernel
theorem dm_X11_takeRegister_139 : decode M_X11_takeRegister.1 139 = .ok (.bipush 15, 2) := by decide +kernel
theorem dm_X11_takeRegister_141 : decode M_X11_takeRegister.1 141 = .ok (.if_icmp .le 7, 3) := by decide +kernel
theorem dm_X11_takeRegister_144 : decode M_X11_takeRegister.1 144 = .ok (.iconst 1, 1) := by decide +kernel
theorem dm_X11_takeRegister_145 : decode M_X11_takeRegister.1 145 = .ok (.goto 4, 3) := by decide +kernel
theorem dm_X11_takeRegister_148 : decode M_X11_takeRegister.1 148 = .ok (.iconst 0, 1) := by decide +kernel
theorem dm_X11_takeRegister_149 : decode M_X11_takeRegister.1 149 = .ok (.putfield 102, 3) := by decide +kernel
theorem dm_X11_takeRegister_152 : decode M_X11_takeRegister.1 152 = .ok (.iload_n 1, 1) := by decide +kernel
theorem dm_X11_takeRegister_153 : decode M_X11_takeRegister.1 153 = .ok (.ireturn, 1) := by decide +kernel
theorem gc_X11_takeRegister_95 : g_cv M_X11_takeRegister 95 M_X11_skip yX11_skip 0 := ⟨tw421, tw422, tw423, tw5, tw424, ⟨rfl, rfl, rfl, rfl⟩, gd_X11_skip, ⟨by decide, by decide⟩⟩
theorem gc_X11_takeRegister_91 : g_cv M_X11_takeRegister 91 M_X11_character yX11_character 1 := ⟨tw425, tw426, tw427, tw5, tw428, ⟨rfl, rfl, rfl, rfl⟩, gd_X11_character, ⟨by decide, by decide⟩⟩
theorem gc_X11_takeRegister_106 : g_cs M_X11_takeRegister 106 M_X11_isDigit yX11_isDigit 1 := ⟨tw502, tw503, tw5, tw504, ⟨rfl, rfl, rfl, rfl⟩, gd_X11_isDigit, ⟨by decide, by decide⟩⟩
def f_X11_takeRegister_c132 (at_ : Int32) (l1 : Int32) (z9_0 : Int32) : Int32 × Int32 × Int32 := (if z9_0 = 0 then (if l1 ≤ (15 : Int32) then (l1, at_, (0 : Int32)) else (l1, at_, (1 : Int32))) else (l1, at_, (1 : Int32)))
def f_X11_takeRegister_c129 (at_ : Int32) (l1 : Int32) (z8_0 : Int32) : Int32 × Int32 × Int32 := (f_X11_takeRegister_c132 at_ l1 (f_X11_isDigit z8_0))
def f_X11_takeRegister_123 (length : Int32) (at_ : Int32) (text : Nat → Int32) (l1 : Int32) : Int32 × Int32 × Int32 := (f_X11_takeRegister_c129 at_ l1 (f_X11_character at_ length text))
set_option maxRecDepth 20000 in
theorem j_X11_takeRegister_123 {l1 : Int32} {refusal : Int32} {wheel : Int32} {now : Int32} {length : Int32} {at_ : Int32} {fault : Int32} {faultLine : Int32} {line : Int32} {words : Int32} {labels : Int32} {targets : Int32} {wrong : Int32} {unfit : Int32} {text : Nat → Int32} {code_ : Nat → Int32} {label : Nat → Int64} {labelWord : Nat → Int32} {target : Nat → Int64} {targetWord : Nat → Int32} {targetLine : Nat → Int32} {store : Nat → Int32} {common : Nat → Int32} {low : Nat → Int32} {high : Nat → Int32} {register : Nat → Int32} {address : Nat → Int32} {status : Nat → Int32} {did : Nat → Int32} {ready : Nat → Int32} {timer : Nat → Int32} {trace : Nat → Int32} {r_0 : Int32} {r_1 : Int32} {r_2 : Int32} (hres : (r_0, r_1, r_2) = (f_X11_takeRegister_123 length at_ text l1)) (hln : 0 ≤ length.toInt ∧ length.toInt ≤ 400) (hat : 0 ≤ at_.toInt ∧ at_.toInt ≤ 400) : G M_X11_takeRegister 0 0 123 [(0, .ref 0), (1, .int l1)] [] (w_M refusal wheel now length at_ fault faultLine line words labels targets wrong unfit text code_ label labelWord target targetWord targetLine store common low high register address status did ready timer trace) (some (.int r_0)) (w_M refusal wheel now length r_1 fault faultLine line words labels targets r_2 unfit text code_ label labelWord target targetWord targetLine store common low high register address status did ready timer trace) := by
  rw [f_X11_takeRegister_123] at hres
  refine G.aload_n (pc := 123) dm_X11_takeRegister_123 rfl ?_
  refine G.aload_n (pc := 124) dm_X11_takeRegister_124 rfl ?_
  refine G.aload_n (pc := 125) dm_X11_takeRegister_125 rfl ?_
  refine G.getfield (pc := 126) dm_X11_takeRegister_126 gf_X11_88 rfl rfl ?_
  obtain ⟨z8_0, hz8⟩ := g_ex1 (f_X11_character at_ length text)
  refine G.callV0 (pc := 129) (rest := [.ref 0]) (st1 := [.int z8_0, .ref 0]) dm_X11_takeRegister_129 gc_X11_takeRegister_91 (k_X11_character (p := at_) (refusal := refusal) (wheel := wheel) (now := now) (length := length) (at_ := at_) (fault := fault) (faultLine := faultLine) (line := line) (words := words) (labels := labels) (targets := targets) (wrong := wrong) (unfit := unfit) (text := text) (code_ := code_) (label := label) (labelWord := labelWord) (target := target) (targetWord := targetWord) (targetLine := targetLine) (store := store) (common := common) (low := low) (high := high) (register := register) (address := address) (status := status) (did := did) (ready := ready) (timer := timer) (trace := trace) hln hat.1 hz8) rfl rfl rfl rfl rfl rfl rfl rfl ?_
  replace hres : (r_0, r_1, r_2) = f_X11_takeRegister_c129 at_ l1 z8_0 := hres.trans (by rw [← hz8])
  rw [f_X11_takeRegister_c129] at hres
  obtain ⟨z9_0, hz9⟩ := g_ex1 (f_X11_isDigit z8_0)
  refine G.callS (pc := 132) (rest := [.ref 0]) (st1 := [.int z9_0, .ref 0]) (ws1 := (w_M refusal wheel now length at_ fault faultLine line words labels targets wrong unfit text code_ label labelWord target targetWord targetLine store common low high register address status did ready timer trace)) [] dm_X11_takeRegister_132 gc_X11_takeRegister_106 (k_X11_isDigit (c := z8_0) hz9) rfl rfl rfl rfl rfl rfl rfl rfl ?_
  replace hres : (r_0, r_1, r_2) = f_X11_takeRegister_c132 at_ l1 z9_0 := hres.trans (by rw [← hz9])
  rw [f_X11_takeRegister_c132] at hres
  refine G.if_ne (pc := 135) (tgt := 144) dm_X11_takeRegister_135 (by decide) (fun c135 => ?_) (fun c135 => ?_)
  · rw [if_neg c135] at hres
    refine G.iconst (pc := 144) (v := (1 : Int32)) dm_X11_takeRegister_144 qi_1 ?_
    refine G.goto (pc := 145) (tgt := 149) dm_X11_takeRegister_145 (by decide) ?_
    refine G.putfield (pc := 149) (ws1 := (w_M refusal wheel now length at_ fault faultLine line words labels targets (1 : Int32) unfit text code_ label labelWord target targetWord targetLine store common low high register address status did ready timer trace)) dm_X11_takeRegister_149 gw_X11_102 rfl (g_fit_z (Or.inr rfl)) rfl rfl ?_
    refine G.iload_n (pc := 152) dm_X11_takeRegister_152 rfl ?_
    cases hres
    exact G.ireturn (pc := 153) dm_X11_takeRegister_153 rfl rfl rfl
  · rw [if_pos c135] at hres
    refine G.iload_n (pc := 138) dm_X11_takeRegister_138 rfl ?_
    refine G.bipush (pc := 139) (v := (15 : Int32)) dm_X11_takeRegister_139 qb_15 ?_
    refine G.icmp_le (pc := 141) (tgt := 148) dm_X11_takeRegister_141 (by decide) (fun c141 => ?_) (fun c141 => ?_)
    · rw [if_pos c141] at hres
      refine G.iconst (pc := 148) (v := (0 : Int32)) dm_X11_takeRegister_148 qi_0 ?_
      refine G.putfield (pc := 149) (ws1 := (w_M refusal wheel now length at_ fault faultLine line words labels targets (0 : Int32) unfit text code_ label labelWord target targetWord targetLine store common low high register address status did ready timer trace)) dm_X11_takeRegister_149 gw_X11_102 rfl (g_fit_z (Or.inl rfl)) rfl rfl ?_
      refine G.iload_n (pc := 152) dm_X11_takeRegister_152 rfl ?_
      cases hres
      exact G.ireturn (pc := 153) dm_X11_takeRegister_153 rfl rfl rfl
    · rw [if_neg c141] at hres
      refine G.iconst (pc := 144) (v := (1 : Int32)) dm_X11_takeRegister_144 qi_1 ?_
      refine G.goto (pc := 145) (tgt := 149) dm_X11_takeRegister_145 (by decide) ?_
      refine G.putfield (pc := 149) (ws1 := (w_M refusal wheel now length at_ fault faultLine line words labels targets (1 : Int32) unfit text code_ label labelWord target targetWord targetLine store common low high register address status did ready timer trace)) dm_X11_takeRegister_149 gw_X11_102 rfl (g_fit_z (Or.inr rfl)) rfl rfl ?_
      refine G.iload_n (pc := 152) dm_X11_takeRegister_152 rfl ?_
      cases hres
      exact G.ireturn (pc := 153) dm_X11_takeRegister_153 rfl rfl rfl
def f_X11_takeRegister_c105 (length : Int32) (text : Nat → Int32) (z1_0 : Int32) (z5_0 : Int32) (z10_0 : Int32) : Int32 × Int32 × Int32 := (f_X11_takeRegister_123 length ((z1_0 + (2 : Int32)) + (1 : Int32)) text ((((10 : Int32) * (z5_0 - (48 : Int32))) + z10_0) - (48 : Int32)))
def f_X11_takeRegister_c90 (length : Int32) (text : Nat → Int32) (z1_0 : Int32) (z5_0 : Int32) (z7_0 : Int32) : Int32 × Int32 × Int32 := (if z7_0 = 0 then (f_X11_takeRegister_123 length (z1_0 + (2 : Int32)) text (z5_0 - (48 : Int32))) else (f_X11_takeRegister_c105 length text z1_0 z5_0 (f_X11_character (z1_0 + (2 : Int32)) length text)))
def f_X11_takeRegister_c87 (length : Int32) (text : Nat → Int32) (z1_0 : Int32) (z5_0 : Int32) (z6_0 : Int32) : Int32 × Int32 × Int32 := (f_X11_takeRegister_c90 length text z1_0 z5_0 (f_X11_isDigit z6_0))
def f_X11_takeRegister_c65 (length : Int32) (text : Nat → Int32) (z1_0 : Int32) (z5_0 : Int32) : Int32 × Int32 × Int32 := (f_X11_takeRegister_c87 length text z1_0 z5_0 (f_X11_character (z1_0 + (2 : Int32)) length text))
def f_X11_takeRegister_c35 (length : Int32) (text : Nat → Int32) (z1_0 : Int32) (z4_0 : Int32) : Int32 × Int32 × Int32 := (if z4_0 = 0 then ((0 : Int32), z1_0, (1 : Int32)) else (f_X11_takeRegister_c65 length text z1_0 (f_X11_character (z1_0 + (1 : Int32)) length text)))
def f_X11_takeRegister_c32 (length : Int32) (text : Nat → Int32) (z1_0 : Int32) (z3_0 : Int32) : Int32 × Int32 × Int32 := (f_X11_takeRegister_c35 length text z1_0 (f_X11_isDigit z3_0))
def f_X11_takeRegister_c17 (length : Int32) (text : Nat → Int32) (z1_0 : Int32) (z2_0 : Int32) : Int32 × Int32 × Int32 := (if z2_0 = (120 : Int32) then (f_X11_takeRegister_c32 length text z1_0 (f_X11_character (z1_0 + (1 : Int32)) length text)) else ((0 : Int32), z1_0, (1 : Int32)))
def f_X11_takeRegister_c1 (length : Int32) (wrong : Int32) (text : Nat → Int32) (z1_0 : Int32) : Int32 × Int32 × Int32 := (if wrong = 0 then (f_X11_takeRegister_c17 length text z1_0 (f_X11_character z1_0 length text)) else ((0 : Int32), z1_0, (1 : Int32)))
def f_X11_takeRegister (length : Int32) (at_ : Int32) (wrong : Int32) (text : Nat → Int32) : Int32 × Int32 × Int32 := (f_X11_takeRegister_c1 length wrong text (f_X11_skip length at_ text))
set_option maxRecDepth 20000 in
theorem k_X11_takeRegister {refusal : Int32} {wheel : Int32} {now : Int32} {length : Int32} {at_ : Int32} {fault : Int32} {faultLine : Int32} {line : Int32} {words : Int32} {labels : Int32} {targets : Int32} {wrong : Int32} {unfit : Int32} {text : Nat → Int32} {code_ : Nat → Int32} {label : Nat → Int64} {labelWord : Nat → Int32} {target : Nat → Int64} {targetWord : Nat → Int32} {targetLine : Nat → Int32} {store : Nat → Int32} {common : Nat → Int32} {low : Nat → Int32} {high : Nat → Int32} {register : Nat → Int32} {address : Nat → Int32} {status : Nat → Int32} {did : Nat → Int32} {ready : Nat → Int32} {timer : Nat → Int32} {trace : Nat → Int32} (hln : 0 ≤ length.toInt ∧ length.toInt ≤ 400) (hat : 0 ≤ at_.toInt ∧ at_.toInt ≤ 400) {r_0 : Int32} {r_1 : Int32} {r_2 : Int32} (hres : (r_0, r_1, r_2) = f_X11_takeRegister length at_ wrong text) : K M_X11_takeRegister yX11_takeRegister [.ref 0] (w_M refusal wheel now length at_ fault faultLine line words labels targets wrong unfit text code_ label labelWord target targetWord targetLine store common low high register address status did ready timer trace) (some (.int r_0)) (w_M refusal wheel now length r_1 fault faultLine line words labels targets r_2 unfit text code_ label labelWord target targetWord targetLine store common low high register address status did ready timer trace) := by
  refine K.of (lv := [(0, .ref 0)]) (by decide +kernel) rfl rfl rfl ?_
  rw [f_X11_takeRegister] at hres
  refine G.aload_n (pc := 0) dm_X11_takeRegister_0 rfl ?_
  obtain ⟨z1_0, hz1⟩ := g_ex1 (f_X11_skip length at_ text)
  refine G.callV0 (pc := 1) (rest := []) (st1 := []) dm_X11_takeRegister_1 gc_X11_takeRegister_95 (k_X11_skip (refusal := refusal) (wheel := wheel) (now := now) (length := length) (at_ := at_) (fault := fault) (faultLine := faultLine) (line := line) (words := words) (labels := labels) (targets := targets) (wrong := wrong) (unfit := unfit) (text := text) (code_ := code_) (label := label) (labelWord := labelWord) (target := target) (targetWord := targetWord) (targetLine := targetLine) (store := store) (common := common) (low := low) (high := high) (register := register) (address := address) (status := status) (did := did) (ready := ready) (timer := timer) (trace := trace) (by first | assumption | exact q_31 _ | exact q_7 _) (by first | assumption | exact q_31 _ | exact q_7 _) hz1) rfl rfl rfl rfl rfl rfl rfl rfl ?_
  have hat := (a_skip hz1 hln hat).1
  replace hres : (r_0, r_1, r_2) = f_X11_takeRegister_c1 length wrong text z1_0 := hres.trans (by rw [← hz1])
  rw [f_X11_takeRegister_c1] at hres
  refine G.aload_n (pc := 4) dm_X11_takeRegister_4 rfl ?_
  refine G.aload_n (pc := 5) dm_X11_takeRegister_5 rfl ?_
  refine G.getfield (pc := 6) dm_X11_takeRegister_6 gf_X11_102 rfl rfl ?_
  refine G.if_ne (pc := 9) (tgt := 41) dm_X11_takeRegister_9 (by decide) (fun c9 => ?_) (fun c9 => ?_)
  · rw [if_neg c9] at hres
    refine G.iconst (pc := 41) (v := (1 : Int32)) dm_X11_takeRegister_41 qi_1 ?_
    refine G.goto (pc := 42) (tgt := 46) dm_X11_takeRegister_42 (by decide) ?_
    refine G.putfield (pc := 46) (ws1 := (w_M refusal wheel now length z1_0 fault faultLine line words labels targets (1 : Int32) unfit text code_ label labelWord target targetWord targetLine store common low high register address status did ready timer trace)) dm_X11_takeRegister_46 gw_X11_102 rfl (g_fit_z (Or.inr rfl)) rfl rfl ?_
    refine G.aload_n (pc := 49) dm_X11_takeRegister_49 rfl ?_
    refine G.getfield (pc := 50) dm_X11_takeRegister_50 gf_X11_102 rfl rfl ?_
    refine G.if_eq (pc := 53) (tgt := 58) dm_X11_takeRegister_53 (by decide) (fun c53 => absurd c53 (by decide)) (fun c53 => ?_)
    refine G.iconst (pc := 56) (v := (0 : Int32)) dm_X11_takeRegister_56 qi_0 ?_
    cases hres
    exact G.ireturn (pc := 57) dm_X11_takeRegister_57 rfl rfl rfl
  · rw [if_pos c9] at hres
    refine G.aload_n (pc := 12) dm_X11_takeRegister_12 rfl ?_
    refine G.aload_n (pc := 13) dm_X11_takeRegister_13 rfl ?_
    refine G.getfield (pc := 14) dm_X11_takeRegister_14 gf_X11_88 rfl rfl ?_
    obtain ⟨z2_0, hz2⟩ := g_ex1 (f_X11_character z1_0 length text)
    refine G.callV0 (pc := 17) (rest := [.ref 0]) (st1 := [.int z2_0, .ref 0]) dm_X11_takeRegister_17 gc_X11_takeRegister_91 (k_X11_character (p := z1_0) (refusal := refusal) (wheel := wheel) (now := now) (length := length) (at_ := z1_0) (fault := fault) (faultLine := faultLine) (line := line) (words := words) (labels := labels) (targets := targets) (wrong := wrong) (unfit := unfit) (text := text) (code_ := code_) (label := label) (labelWord := labelWord) (target := target) (targetWord := targetWord) (targetLine := targetLine) (store := store) (common := common) (low := low) (high := high) (register := register) (address := address) (status := status) (did := did) (ready := ready) (timer := timer) (trace := trace) hln hat.1 hz2) rfl rfl rfl rfl rfl rfl rfl rfl ?_
    replace hres : (r_0, r_1, r_2) = f_X11_takeRegister_c17 length text z1_0 z2_0 := hres.trans (by rw [← hz2])
    rw [f_X11_takeRegister_c17] at hres
    refine G.bipush (pc := 20) (v := (120 : Int32)) dm_X11_takeRegister_20 qb_120 ?_
    refine G.icmp_ne (pc := 22) (tgt := 41) dm_X11_takeRegister_22 (by decide) (fun c22 => ?_) (fun c22 => ?_)
    · rw [if_neg c22] at hres
      refine G.iconst (pc := 41) (v := (1 : Int32)) dm_X11_takeRegister_41 qi_1 ?_
      refine G.goto (pc := 42) (tgt := 46) dm_X11_takeRegister_42 (by decide) ?_
      refine G.putfield (pc := 46) (ws1 := (w_M refusal wheel now length z1_0 fault faultLine line words labels targets (1 : Int32) unfit text code_ label labelWord target targetWord targetLine store common low high register address status did ready timer trace)) dm_X11_takeRegister_46 gw_X11_102 rfl (g_fit_z (Or.inr rfl)) rfl rfl ?_
      refine G.aload_n (pc := 49) dm_X11_takeRegister_49 rfl ?_
      refine G.getfield (pc := 50) dm_X11_takeRegister_50 gf_X11_102 rfl rfl ?_
      refine G.if_eq (pc := 53) (tgt := 58) dm_X11_takeRegister_53 (by decide) (fun c53 => absurd c53 (by decide)) (fun c53 => ?_)
      refine G.iconst (pc := 56) (v := (0 : Int32)) dm_X11_takeRegister_56 qi_0 ?_
      cases hres
      exact G.ireturn (pc := 57) dm_X11_takeRegister_57 rfl rfl rfl
    · rw [if_pos c22] at hres
      refine G.aload_n (pc := 25) dm_X11_takeRegister_25 rfl ?_
      refine G.aload_n (pc := 26) dm_X11_takeRegister_26 rfl ?_
      refine G.getfield (pc := 27) dm_X11_takeRegister_27 gf_X11_88 rfl rfl ?_
      refine G.iconst (pc := 30) (v := (1 : Int32)) dm_X11_takeRegister_30 qi_1 ?_
      refine G.iadd (pc := 31) dm_X11_takeRegister_31 ?_
      obtain ⟨z3_0, hz3⟩ := g_ex1 (f_X11_character (z1_0 + (1 : Int32)) length text)
      refine G.callV0 (pc := 32) (rest := [.ref 0]) (st1 := [.int z3_0, .ref 0]) dm_X11_takeRegister_32 gc_X11_takeRegister_91 (k_X11_character (p := (z1_0 + (1 : Int32))) (refusal := refusal) (wheel := wheel) (now := now) (length := length) (at_ := z1_0) (fault := fault) (faultLine := faultLine) (line := line) (words := words) (labels := labels) (targets := targets) (wrong := wrong) (unfit := unfit) (text := text) (code_ := code_) (label := label) (labelWord := labelWord) (target := target) (targetWord := targetWord) (targetLine := targetLine) (store := store) (common := common) (low := low) (high := high) (register := register) (address := address) (status := status) (did := did) (ready := ready) (timer := timer) (trace := trace) hln (q_p1 hat) hz3) rfl rfl rfl rfl rfl rfl rfl rfl ?_
      have ch1 := a_character hz3
      replace hres : (r_0, r_1, r_2) = f_X11_takeRegister_c32 length text z1_0 z3_0 := hres.trans (by rw [← hz3])
      rw [f_X11_takeRegister_c32] at hres
      obtain ⟨z4_0, hz4⟩ := g_ex1 (f_X11_isDigit z3_0)
      refine G.callS (pc := 35) (rest := [.ref 0]) (st1 := [.int z4_0, .ref 0]) (ws1 := (w_M refusal wheel now length z1_0 fault faultLine line words labels targets wrong unfit text code_ label labelWord target targetWord targetLine store common low high register address status did ready timer trace)) [] dm_X11_takeRegister_35 gc_X11_takeRegister_106 (k_X11_isDigit (c := z3_0) hz4) rfl rfl rfl rfl rfl rfl rfl rfl ?_
      have dg := a_isDigit hz4
      replace hres : (r_0, r_1, r_2) = f_X11_takeRegister_c35 length text z1_0 z4_0 := hres.trans (by rw [← hz4])
      rw [f_X11_takeRegister_c35] at hres
      refine G.if_ne (pc := 38) (tgt := 45) dm_X11_takeRegister_38 (by decide) (fun c38 => ?_) (fun c38 => ?_)
      · rw [if_neg c38] at hres
        refine G.iconst (pc := 45) (v := (0 : Int32)) dm_X11_takeRegister_45 qi_0 ?_
        refine G.putfield (pc := 46) (ws1 := (w_M refusal wheel now length z1_0 fault faultLine line words labels targets (0 : Int32) unfit text code_ label labelWord target targetWord targetLine store common low high register address status did ready timer trace)) dm_X11_takeRegister_46 gw_X11_102 rfl (g_fit_z (Or.inl rfl)) rfl rfl ?_
        refine G.aload_n (pc := 49) dm_X11_takeRegister_49 rfl ?_
        refine G.getfield (pc := 50) dm_X11_takeRegister_50 gf_X11_102 rfl rfl ?_
        refine G.if_eq (pc := 53) (tgt := 58) dm_X11_takeRegister_53 (by decide) (fun c53 => ?_) (fun c53 => absurd rfl c53)
        have hlt1 := ch1 (dg c38)
        refine G.aload_n (pc := 58) dm_X11_takeRegister_58 rfl ?_
        refine G.aload_n (pc := 59) dm_X11_takeRegister_59 rfl ?_
        refine G.getfield (pc := 60) dm_X11_takeRegister_60 gf_X11_88 rfl rfl ?_
        refine G.iconst (pc := 63) (v := (1 : Int32)) dm_X11_takeRegister_63 qi_1 ?_
        refine G.iadd (pc := 64) dm_X11_takeRegister_64 ?_
        obtain ⟨z5_0, hz5⟩ := g_ex1 (f_X11_character (z1_0 + (1 : Int32)) length text)
        refine G.callV0 (pc := 65) (rest := []) (st1 := [.int z5_0]) dm_X11_takeRegister_65 gc_X11_takeRegister_91 (k_X11_character (p := (z1_0 + (1 : Int32))) (refusal := refusal) (wheel := wheel) (now := now) (length := length) (at_ := z1_0) (fault := fault) (faultLine := faultLine) (line := line) (words := words) (labels := labels) (targets := targets) (wrong := (0 : Int32)) (unfit := unfit) (text := text) (code_ := code_) (label := label) (labelWord := labelWord) (target := target) (targetWord := targetWord) (targetLine := targetLine) (store := store) (common := common) (low := low) (high := high) (register := register) (address := address) (status := status) (did := did) (ready := ready) (timer := timer) (trace := trace) hln (q_p1 hat) hz5) rfl rfl rfl rfl rfl rfl rfl rfl ?_
        replace hres : (r_0, r_1, r_2) = f_X11_takeRegister_c65 length text z1_0 z5_0 := hres.trans (by rw [← hz5])
        rw [f_X11_takeRegister_c65] at hres
        refine G.bipush (pc := 68) (v := (48 : Int32)) dm_X11_takeRegister_68 qb_48 ?_
        refine G.isub (pc := 70) dm_X11_takeRegister_70 ?_
        refine G.istore_n (pc := 71) (lv1 := [(1, .int (z5_0 - (48 : Int32))), (0, .ref 0)]) dm_X11_takeRegister_71 rfl rfl ?_
        refine G.aload_n (pc := 72) dm_X11_takeRegister_72 rfl ?_
        refine G.dup (pc := 73) dm_X11_takeRegister_73 rfl ?_
        refine G.getfield (pc := 74) dm_X11_takeRegister_74 gf_X11_88 rfl rfl ?_
        refine G.iconst (pc := 77) (v := (2 : Int32)) dm_X11_takeRegister_77 qi_2 ?_
        refine G.iadd (pc := 78) dm_X11_takeRegister_78 ?_
        refine G.putfield (pc := 79) (ws1 := (w_M refusal wheel now length (z1_0 + (2 : Int32)) fault faultLine line words labels targets (0 : Int32) unfit text code_ label labelWord target targetWord targetLine store common low high register address status did ready timer trace)) dm_X11_takeRegister_79 gw_X11_88 rfl (g_fit_i _) rfl rfl ?_
        refine G.aload_n (pc := 82) dm_X11_takeRegister_82 rfl ?_
        refine G.aload_n (pc := 83) dm_X11_takeRegister_83 rfl ?_
        refine G.getfield (pc := 84) dm_X11_takeRegister_84 gf_X11_88 rfl rfl ?_
        obtain ⟨z6_0, hz6⟩ := g_ex1 (f_X11_character (z1_0 + (2 : Int32)) length text)
        refine G.callV0 (pc := 87) (rest := []) (st1 := [.int z6_0]) dm_X11_takeRegister_87 gc_X11_takeRegister_91 (k_X11_character (p := (z1_0 + (2 : Int32))) (refusal := refusal) (wheel := wheel) (now := now) (length := length) (at_ := (z1_0 + (2 : Int32))) (fault := fault) (faultLine := faultLine) (line := line) (words := words) (labels := labels) (targets := targets) (wrong := (0 : Int32)) (unfit := unfit) (text := text) (code_ := code_) (label := label) (labelWord := labelWord) (target := target) (targetWord := targetWord) (targetLine := targetLine) (store := store) (common := common) (low := low) (high := high) (register := register) (address := address) (status := status) (did := did) (ready := ready) (timer := timer) (trace := trace) hln (q_p2 hln hat hlt1).1 hz6) rfl rfl rfl rfl rfl rfl rfl rfl ?_
        have ch2 := a_character hz6
        replace hres : (r_0, r_1, r_2) = f_X11_takeRegister_c87 length text z1_0 z5_0 z6_0 := hres.trans (by rw [← hz6])
        rw [f_X11_takeRegister_c87] at hres
        obtain ⟨z7_0, hz7⟩ := g_ex1 (f_X11_isDigit z6_0)
        refine G.callS (pc := 90) (rest := []) (st1 := [.int z7_0]) (ws1 := (w_M refusal wheel now length (z1_0 + (2 : Int32)) fault faultLine line words labels targets (0 : Int32) unfit text code_ label labelWord target targetWord targetLine store common low high register address status did ready timer trace)) [] dm_X11_takeRegister_90 gc_X11_takeRegister_106 (k_X11_isDigit (c := z6_0) hz7) rfl rfl rfl rfl rfl rfl rfl rfl ?_
        have dg2 := a_isDigit hz7
        replace hres : (r_0, r_1, r_2) = f_X11_takeRegister_c90 length text z1_0 z5_0 z7_0 := hres.trans (by rw [← hz7])
        rw [f_X11_takeRegister_c90] at hres
        refine G.if_eq (pc := 93) (tgt := 123) dm_X11_takeRegister_93 (by decide) (fun c93 => ?_) (fun c93 => ?_)
        · rw [if_pos c93] at hres
          refine G.lvp [1, 0] rfl ?_
          exact j_X11_takeRegister_123 hres hln (q_p2 hln hat hlt1)
        · rw [if_neg c93] at hres
          refine G.bipush (pc := 96) (v := (10 : Int32)) dm_X11_takeRegister_96 qb_10 ?_
          refine G.iload_n (pc := 98) dm_X11_takeRegister_98 rfl ?_
          refine G.imul (pc := 99) dm_X11_takeRegister_99 ?_
          refine G.aload_n (pc := 100) dm_X11_takeRegister_100 rfl ?_
          refine G.aload_n (pc := 101) dm_X11_takeRegister_101 rfl ?_
          refine G.getfield (pc := 102) dm_X11_takeRegister_102 gf_X11_88 rfl rfl ?_
          obtain ⟨z10_0, hz10⟩ := g_ex1 (f_X11_character (z1_0 + (2 : Int32)) length text)
          refine G.callV0 (pc := 105) (rest := [.int ((10 : Int32) * (z5_0 - (48 : Int32)))]) (st1 := [.int z10_0, .int ((10 : Int32) * (z5_0 - (48 : Int32)))]) dm_X11_takeRegister_105 gc_X11_takeRegister_91 (k_X11_character (p := (z1_0 + (2 : Int32))) (refusal := refusal) (wheel := wheel) (now := now) (length := length) (at_ := (z1_0 + (2 : Int32))) (fault := fault) (faultLine := faultLine) (line := line) (words := words) (labels := labels) (targets := targets) (wrong := (0 : Int32)) (unfit := unfit) (text := text) (code_ := code_) (label := label) (labelWord := labelWord) (target := target) (targetWord := targetWord) (targetLine := targetLine) (store := store) (common := common) (low := low) (high := high) (register := register) (address := address) (status := status) (did := did) (ready := ready) (timer := timer) (trace := trace) hln (q_p2 hln hat hlt1).1 hz10) rfl rfl rfl rfl rfl rfl rfl rfl ?_
          replace hres : (r_0, r_1, r_2) = f_X11_takeRegister_c105 length text z1_0 z5_0 z10_0 := hres.trans (by rw [← hz10])
          rw [f_X11_takeRegister_c105] at hres
          refine G.iadd (pc := 108) dm_X11_takeRegister_108 ?_
          refine G.bipush (pc := 109) (v := (48 : Int32)) dm_X11_takeRegister_109 qb_48 ?_
          refine G.isub (pc := 111) dm_X11_takeRegister_111 ?_
          refine G.istore_n (pc := 112) (lv1 := [(1, .int ((((10 : Int32) * (z5_0 - (48 : Int32))) + z10_0) - (48 : Int32))), (0, .ref 0)]) dm_X11_takeRegister_112 rfl rfl ?_
          refine G.aload_n (pc := 113) dm_X11_takeRegister_113 rfl ?_
          refine G.dup (pc := 114) dm_X11_takeRegister_114 rfl ?_
          refine G.getfield (pc := 115) dm_X11_takeRegister_115 gf_X11_88 rfl rfl ?_
          refine G.iconst (pc := 118) (v := (1 : Int32)) dm_X11_takeRegister_118 qi_1 ?_
          refine G.iadd (pc := 119) dm_X11_takeRegister_119 ?_
          refine G.putfield (pc := 120) (ws1 := (w_M refusal wheel now length ((z1_0 + (2 : Int32)) + (1 : Int32)) fault faultLine line words labels targets (0 : Int32) unfit text code_ label labelWord target targetWord targetLine store common low high register address status did ready timer trace)) dm_X11_takeRegister_120 gw_X11_88 rfl (g_fit_i _) rfl rfl ?_
          refine G.lvp [1, 0] rfl ?_
          exact j_X11_takeRegister_123 hres hln (q_up hln (q_p2 hln hat hlt1) (ch2 (dg2 c93)))
      · rw [if_pos c38] at hres
        refine G.iconst (pc := 41) (v := (1 : Int32)) dm_X11_takeRegister_41 qi_1 ?_
        refine G.goto (pc := 42) (tgt := 46) dm_X11_takeRegister_42 (by decide) ?_
        refine G.putfield (pc := 46) (ws1 := (w_M refusal wheel now length z1_0 fault faultLine line words labels targets (1 : Int32) unfit text code_ label labelWord target targetWord targetLine store common low high register address status did ready timer trace)) dm_X11_takeRegister_46 gw_X11_102 rfl (g_fit_z (Or.inr rfl)) rfl rfl ?_
        refine G.aload_n (pc := 49) dm_X11_takeRegister_49 rfl ?_
        refine G.getfield (pc := 50) dm_X11_takeRegister_50 gf_X11_102 rfl rfl ?_
        refine G.if_eq (pc := 53) (tgt := 58) dm_X11_takeRegister_53 (by decide) (fun c53 => absurd c53 (by decide)) (fun c53 => ?_)
        refine G.iconst (pc := 56) (v := (0 : Int32)) dm_X11_takeRegister_56 qi_0 ?_
        cases hres
        exact G.ireturn (pc := 57) dm_X11_takeRegister_57 rfl rfl rfl
theorem a_tr123 {length at_ l1 : Int32} {text : Nat → Int32} : (f_X11_takeRegister_123 length at_ text l1).2.1 = at_ := by
  rw [f_X11_takeRegister_123, f_X11_takeRegister_c129, f_X11_takeRegister_c132]
  split
  · split <;> rfl
  · rfl
theorem a_takeRegister {length at_ wrong z0 z1 z2 : Int32} {text : Nat → Int32} (h : (z0, z1, z2) = f_X11_takeRegister length at_ wrong text) (hln : 0 ≤ length.toInt ∧ length.toInt ≤ 400) (hat : 0 ≤ at_.toInt ∧ at_.toInt ≤ 400) : (0 ≤ z1.toInt ∧ z1.toInt ≤ 400) ∧ at_.toInt ≤ z1.toInt := by
  have e : z1 = (f_X11_takeRegister length at_ wrong text).2.1 := congrArg (fun q => q.2.1) h
  have h1 := a_skip (text := text) rfl hln hat
  rw [e, f_X11_takeRegister, f_X11_takeRegister_c1]
  split
  · rw [f_X11_takeRegister_c17]
    split
    · rw [f_X11_takeRegister_c32, f_X11_takeRegister_c35]
      split
      · exact h1
      · rename_i c1
        have hlt := a_character (rfl : f_X11_character _ length text = _) (a_isDigit rfl c1)
        have h2 := q_tr1 h1 (q_p22 hln h1.1 hlt)
        rw [f_X11_takeRegister_c65, f_X11_takeRegister_c87, f_X11_takeRegister_c90]
        split
        · rw [a_tr123]; exact h2
        · rename_i c2
          have hlt2 := a_character (rfl : f_X11_character _ length text = _) (a_isDigit rfl c2)
          rw [f_X11_takeRegister_c105, a_tr123]
          exact q_tr1 h2 (q_up2 hln h2.1 hlt2)
    · exact h1
  · exact h1
abbrev M_X11_number : g_M := (cX11_number, 10, RX11, (some .long), { frames := 2, cells := 0, slots := 0, locals := 41 }, 0, 0)
theorem dm_X11_number_0 : decode M_X11_number.1 0 = .ok (.aload_n 0, 1) := by decide +kernel
theorem dm_X11_number_1 : decode M_X11_number.1 1 = .ok (.invokevirtual 95, 3) := by decide +kernel
theorem dm_X11_number_4 : decode M_X11_number.1 4 = .ok (.aload_n 0, 1) := by decide +kernel
theorem dm_X11_number_5 : decode M_X11_number.1 5 = .ok (.aload_n 0, 1) := by decide +kernel
theorem dm_X11_number_6 : decode M_X11_number.1 6 = .ok (.getfield 88, 3) := by decide +kernel
theorem dm_X11_number_9 : decode M_X11_number.1 9 = .ok (.invokevirtual 91, 3) := by decide +kernel
theorem dm_X11_number_12 : decode M_X11_number.1 12 = .ok (.bipush 45, 2) := by decide +kernel
theorem dm_X11_number_14 : decode M_X11_number.1 14 = .ok (.if_icmp .ne 7, 3) := by decide +kernel
theorem dm_X11_number_17 : decode M_X11_number.1 17 = .ok (.iconst 1, 1) := by decide +kernel
theorem dm_X11_number_18 : decode M_X11_number.1 18 = .ok (.goto 4, 3) := by decide +kernel
theorem dm_X11_number_21 : decode M_X11_number.1 21 = .ok (.iconst 0, 1) := by decide +kernel
theorem dm_X11_number_22 : decode M_X11_number.1 22 = .ok (.istore 5, 2) := by decide +kernel
theorem dm_X11_number_24 : decode M_X11_number.1 24 = .ok (.iload 5, 2) := by decide +kernel
theorem dm_X11_number_26 : decode M_X11_number.1 26 = .ok (.ifCond .eq 12, 3) := by decide +kernel
theorem dm_X11_number_29 : decode M_X11_number.1 29 = .ok (.aload_n 0, 1) := by decide +kernel
theorem dm_X11_number_30 : decode M_X11_number.1 30 = .ok (.getfield 88, 3) := by decide +kernel
theorem dm_X11_number_33 : decode M_X11_number.1 33 = .ok (.iconst 1, 1) := by decide +kernel
theorem dm_X11_number_34 : decode M_X11_number.1 34 = .ok (.iadd, 1) := by decide +kernel
theorem dm_X11_number_35 : decode M_X11_number.1 35 = .ok (.goto 7, 3) := by decide +kernel
theorem dm_X11_number_38 : decode M_X11_number.1 38 = .ok (.aload_n 0, 1) := by decide +kernel
theorem dm_X11_number_39 : decode M_X11_number.1 39 = .ok (.getfield 88, 3) := by decide +kernel
theorem dm_X11_number_42 : decode M_X11_number.1 42 = .ok (.istore 6, 2) := by decide +kernel
theorem dm_X11_number_44 : decode M_X11_number.1 44 = .ok (.aload_n 0, 1) := by decide +kernel
theorem dm_X11_number_45 : decode M_X11_number.1 45 = .ok (.aload_n 0, 1) := by decide +kernel
theorem dm_X11_number_46 : decode M_X11_number.1 46 = .ok (.getfield 102, 3) := by decide +kernel
theorem dm_X11_number_49 : decode M_X11_number.1 49 = .ok (.ifCond .ne 15, 3) := by decide +kernel
theorem dm_X11_number_52 : decode M_X11_number.1 52 = .ok (.aload_n 0, 1) := by decide +kernel
theorem dm_X11_number_53 : decode M_X11_number.1 53 = .ok (.iload 6, 2) := by decide +kernel
theorem dm_X11_number_55 : decode M_X11_number.1 55 = .ok (.invokevirtual 91, 3) := by decide +kernel
theorem dm_X11_number_58 : decode M_X11_number.1 58 = .ok (.invokestatic 106, 3) := by decide +kernel
theorem dm_X11_number_61 : decode M_X11_number.1 61 = .ok (.ifCond .ne 7, 3) := by decide +kernel
theorem dm_X11_number_64 : decode M_X11_number.1 64 = .ok (.iconst 1, 1) := by decide +kernel
theorem dm_X11_number_65 : decode M_X11_number.1 65 = .ok (.goto 4, 3) := by decide +kernel
theorem dm_X11_number_68 : decode M_X11_number.1 68 = .ok (.iconst 0, 1) := by decide +kernel
theorem dm_X11_number_69 : decode M_X11_number.1 69 = .ok (.putfield 102, 3) := by decide +kernel
theorem dm_X11_number_72 : decode M_X11_number.1 72 = .ok (.aload_n 0, 1) := by decide +kernel
theorem dm_X11_number_73 : decode M_X11_number.1 73 = .ok (.getfield 102, 3) := by decide +kernel
theorem dm_X11_number_76 : decode M_X11_number.1 76 = .ok (.ifCond .eq 5, 3) := by decide +kernel
theorem dm_X11_number_79 : decode M_X11_number.1 79 = .ok (.lconst 0, 1) := by decide +kernel
theorem dm_X11_number_80 : decode M_X11_number.1 80 = .ok (.lreturn, 1) := by decide +kernel
theorem dm_X11_number_81 : decode M_X11_number.1 81 = .ok (.iload 6, 2) := by decide +kernel
theorem dm_X11_number_83 : decode M_X11_number.1 83 = .ok (.istore 7, 2) := by decide +kernel
theorem dm_X11_number_85 : decode M_X11_number.1 85 = .ok (.lconst 0, 1) := by decide +kernel
theorem dm_X11_number_86 : decode M_X11_number.1 86 = .ok (.lstore 8, 2) := by decide +kernel
theorem dm_X11_number_88 : decode M_X11_number.1 88 = .ok (.aload_n 0, 1) := by decide +kernel
theorem dm_X11_number_89 : decode M_X11_number.1 89 = .ok (.iload 6, 2) := by decide +kernel
theorem dm_X11_number_91 : decode M_X11_number.1 91 = .ok (.invokevirtual 91, 3) := by decide +kernel
theorem dm_X11_number_94 : decode M_X11_number.1 94 = .ok (.invokestatic 106, 3) := by decide +kernel
theorem dm_X11_number_97 : decode M_X11_number.1 97 = .ok (.ifCond .eq 44, 3) := by decide +kernel
theorem dm_X11_number_100 : decode M_X11_number.1 100 = .ok (.iload 6, 2) := by decide +kernel
theorem dm_X11_number_102 : decode M_X11_number.1 102 = .ok (.iload 7, 2) := by decide +kernel
theorem dm_X11_number_104 : decode M_X11_number.1 104 = .ok (.isub, 1) := by decide +kernel
theorem dm_X11_number_105 : decode M_X11_number.1 105 = .ok (.bipush 10, 2) := by decide +kernel
theorem dm_X11_number_107 : decode M_X11_number.1 107 = .ok (.if_icmp .ge 24, 3) := by decide +kernel
theorem dm_X11_number_110 : decode M_X11_number.1 110 = .ok (.ldc2_w 73, 3) := by decide +kernel
theorem dm_X11_number_113 : decode M_X11_number.1 113 = .ok (.lload 8, 2) := by decide +kernel
theorem dm_X11_number_115 : decode M_X11_number.1 115 = .ok (.lmul, 1) := by decide +kernel
theorem dm_X11_number_116 : decode M_X11_number.1 116 = .ok (.aload_n 0, 1) := by decide +kernel
theorem dm_X11_number_117 : decode M_X11_number.1 117 = .ok (.iload 6, 2) := by decide +kernel
theorem dm_X11_number_119 : decode M_X11_number.1 119 = .ok (.invokevirtual 91, 3) := by decide +kernel
theorem dm_X11_number_122 : decode M_X11_number.1 122 = .ok (.i2l, 1) := by decide +kernel
theorem dm_X11_number_123 : decode M_X11_number.1 123 = .ok (.ladd, 1) := by decide +kernel
theorem dm_X11_number_124 : decode M_X11_number.1 124 = .ok (.ldc2_w 109, 3) := by decide +kernel
theorem dm_X11_number_127 : decode M_X11_number.1 127 = .ok (.lsub, 1) := by decide +kernel
theorem dm_X11_number_128 : decode M_X11_number.1 128 = .ok (.goto 5, 3) := by decide +kernel
theorem dm_X11_number_131 : decode M_X11_number.1 131 = .ok (.lload 8, 2) := by decide +kernel
theorem dm_X11_number_133 : decode M_X11_number.1 133 = .ok (.lstore 8, 2) := by decide +kernel
theorem dm_X11_number_135 : decode M_X11_number.1 135 = .ok (.iinc 6 1, 3) := by decide +kernel
theorem dm_X11_number_138 : decode M_X11_number.1 138 = .ok (.goto (-50), 3) := by decide +kernel
theorem dm_X11_number_141 : decode M_X11_number.1 141 = .ok (.aload_n 0, 1) := by decide +kernel
theorem dm_X11_number_142 : decode M_X11_number.1 142 = .ok (.iload 6, 2) := by decide +kernel
theorem dm_X11_number_144 : decode M_X11_number.1 144 = .ok (.putfield 88, 3) := by decide +kernel
theorem dm_X11_number_147 : decode M_X11_number.1 147 = .ok (.iload 5, 2) := by decide +kernel
theorem dm_X11_number_149 : decode M_X11_number.1 149 = .ok (.ifCond .eq 9, 3) := by decide +kernel
theorem dm_X11_number_152 : decode M_X11_number.1 152 = .ok (.lload 8, 2) := by decide +kernel
theorem dm_X11_number_154 : decode M_X11_number.1 154 = .ok (.lneg, 1) := by decide +kernel
theorem dm_X11_number_155 : decode M_X11_number.1 155 = .ok (.goto 5, 3) := by decide +kernel
theorem dm_X11_number_158 : decode M_X11_number.1 158 = .ok (.lload 8, 2) := by decide +kernel
theorem dm_X11_number_160 : decode M_X11_number.1 160 = .ok (.lstore 8, 2) := by decide +kernel
theorem dm_X11_number_162 : decode M_X11_number.1 162 = .ok (.aload_n 0, 1) := by decide +kernel
theorem dm_X11_number_163 : decode M_X11_number.1 163 = .ok (.aload_n 0, 1) := by decide +kernel
theorem dm_X11_number_164 : decode M_X11_number.1 164 = .ok (.getfield 111, 3) := by decide +kernel
theorem dm_X11_number_167 : decode M_X11_number.1 167 = .ok (.ifCond .ne 27, 3) := by decide +kernel
theorem dm_X11_number_170 : decode M_X11_number.1 170 = .ok (.iload 6, 2) := by decide +kernel
theorem dm_X11_number_172 : decode M_X11_number.1 172 = .ok (.iload 7, 2) := by decide +kernel
theorem dm_X11_number_174 : decode M_X11_number.1 174 = .ok (.isub, 1) := by decide +kernel
theorem dm_X11_number_175 : decode M_X11_number.1 175 = .ok (.bipush 10, 2) := by decide +kernel
theorem dm_X11_number_177 : decode M_X11_number.1 177 = .ok (.if_icmp .gt 17, 3) := by decide +kernel
theorem dm_X11_number_180 : decode M_X11_number.1 180 = .ok (.lload 8, 2) := by decide +kernel
theorem dm_X11_number_182 : decode M_X11_number.1 182 = .ok (.lload_n 1, 1) := by decide +kernel
theorem dm_X11_number_183 : decode M_X11_number.1 183 = .ok (.lcmp, 1) := by decide +kernel
theorem dm_X11_number_184 : decode M_X11_number.1 184 = .ok (.ifCond .lt 10, 3) := by decide +kernel
theorem dm_X11_number_187 : decode M_X11_number.1 187 = .ok (.lload 8, 2) := by decide +kernel
theorem dm_X11_number_189 : decode M_X11_number.1 189 = .ok (.lload_n 3, 1) := by decide +kernel
theorem dm_X11_number_190 : decode M_X11_number.1 190 = .ok (.lcmp, 1) := by decide +kernel
theorem dm_X11_number_191 : decode M_X11_number.1 191 = .ok (.ifCond .le 7, 3) := by decide +kernel
theorem dm_X11_number_194 : decode M_X11_number.1 194 = .ok (.iconst 1, 1) := by decide +kernel
theorem dm_X11_number_195 : decode M_X11_number.1 195 = .ok (.goto 4, 3) := by decide +kernel
theorem dm_X11_number_198 : decode M_X11_number.1 198 = .ok (.iconst 0, 1) := by decide +kernel
theorem dm_X11_number_199 : decode M_X11_number.1 199 = .ok (.putfield 111, 3) := by decide +kernel
theorem dm_X11_number_202 : decode M_X11_number.1 202 = .ok (.lload 8, 2) := by decide +kernel
theorem dm_X11_number_204 : decode M_X11_number.1 204 = .ok (.lreturn, 1) := by decide +kernel
theorem gc_X11_number_95 : g_cv M_X11_number 95 M_X11_skip yX11_skip 0 := ⟨tw421, tw422, tw423, tw5, tw424, ⟨rfl, rfl, rfl, rfl⟩, gd_X11_skip, ⟨by decide, by decide⟩⟩
theorem gc_X11_number_91 : g_cv M_X11_number 91 M_X11_character yX11_character 1 := ⟨tw425, tw426, tw427, tw5, tw428, ⟨rfl, rfl, rfl, rfl⟩, gd_X11_character, ⟨by decide, by decide⟩⟩
theorem gc_X11_number_106 : g_cs M_X11_number 106 M_X11_isDigit yX11_isDigit 1 := ⟨tw502, tw503, tw5, tw504, ⟨rfl, rfl, rfl, rfl⟩, gd_X11_isDigit, ⟨by decide, by decide⟩⟩
def f_X11_number_160 (at_ : Int32) (wrong : Int32) (unfit : Int32) (l1 : Int64) (l3 : Int64) (s0 : Int64) (l6 : Int32) (l7 : Int32) : Int64 × Int32 × Int32 × Int32 := (if unfit = 0 then (if (10 : Int32) < (l6 - l7) then (s0, at_, wrong, (1 : Int32)) else (if (lg_cmp s0 l1) < 0 then (s0, at_, wrong, (1 : Int32)) else (if (lg_cmp s0 l3) ≤ 0 then (s0, at_, wrong, (0 : Int32)) else (s0, at_, wrong, (1 : Int32))))) else (s0, at_, wrong, (1 : Int32)))
set_option maxRecDepth 20000 in
theorem j_X11_number_160 {l1 : Int64} {l3 : Int64} {l6 : Int32} {l7 : Int32} {s0 : Int64} {refusal : Int32} {wheel : Int32} {now : Int32} {length : Int32} {at_ : Int32} {fault : Int32} {faultLine : Int32} {line : Int32} {words : Int32} {labels : Int32} {targets : Int32} {wrong : Int32} {unfit : Int32} {text : Nat → Int32} {code_ : Nat → Int32} {label : Nat → Int64} {labelWord : Nat → Int32} {target : Nat → Int64} {targetWord : Nat → Int32} {targetLine : Nat → Int32} {store : Nat → Int32} {common : Nat → Int32} {low : Nat → Int32} {high : Nat → Int32} {register : Nat → Int32} {address : Nat → Int32} {status : Nat → Int32} {did : Nat → Int32} {ready : Nat → Int32} {timer : Nat → Int32} {trace : Nat → Int32} {r_0 : Int64} {r_1 : Int32} {r_2 : Int32} {r_3 : Int32} (hres : (r_0, r_1, r_2, r_3) = (f_X11_number_160 at_ wrong unfit l1 l3 s0 l6 l7)) : G M_X11_number 0 0 160 [(0, .ref 0), (1, .long l1), (3, .long l3), (6, .int l6), (7, .int l7)] [.long s0] (w_M refusal wheel now length at_ fault faultLine line words labels targets wrong unfit text code_ label labelWord target targetWord targetLine store common low high register address status did ready timer trace) (some (.long r_0)) (w_M refusal wheel now length r_1 fault faultLine line words labels targets r_2 r_3 text code_ label labelWord target targetWord targetLine store common low high register address status did ready timer trace) := by
  rw [f_X11_number_160] at hres
  refine G.lstore (pc := 160) (lv1 := [(8, .long s0), (0, .ref 0), (1, .long l1), (3, .long l3), (6, .int l6), (7, .int l7)]) dm_X11_number_160 rfl rfl ?_
  refine G.aload_n (pc := 162) dm_X11_number_162 rfl ?_
  refine G.aload_n (pc := 163) dm_X11_number_163 rfl ?_
  refine G.getfield (pc := 164) dm_X11_number_164 gf_X11_111 rfl rfl ?_
  refine G.if_ne (pc := 167) (tgt := 194) dm_X11_number_167 (by decide) (fun c167 => ?_) (fun c167 => ?_)
  · rw [if_neg c167] at hres
    refine G.iconst (pc := 194) (v := (1 : Int32)) dm_X11_number_194 qi_1 ?_
    refine G.goto (pc := 195) (tgt := 199) dm_X11_number_195 (by decide) ?_
    refine G.putfield (pc := 199) (ws1 := (w_M refusal wheel now length at_ fault faultLine line words labels targets wrong (1 : Int32) text code_ label labelWord target targetWord targetLine store common low high register address status did ready timer trace)) dm_X11_number_199 gw_X11_111 rfl (g_fit_z (Or.inr rfl)) rfl rfl ?_
    refine G.lload (pc := 202) dm_X11_number_202 rfl ?_
    cases hres
    exact G.lreturn (pc := 204) dm_X11_number_204 rfl rfl rfl
  · rw [if_pos c167] at hres
    refine G.iload (pc := 170) dm_X11_number_170 rfl ?_
    refine G.iload (pc := 172) dm_X11_number_172 rfl ?_
    refine G.isub (pc := 174) dm_X11_number_174 ?_
    refine G.bipush (pc := 175) (v := (10 : Int32)) dm_X11_number_175 qb_10 ?_
    refine G.icmp_gt (pc := 177) (tgt := 194) dm_X11_number_177 (by decide) (fun c177 => ?_) (fun c177 => ?_)
    · rw [if_pos c177] at hres
      refine G.iconst (pc := 194) (v := (1 : Int32)) dm_X11_number_194 qi_1 ?_
      refine G.goto (pc := 195) (tgt := 199) dm_X11_number_195 (by decide) ?_
      refine G.putfield (pc := 199) (ws1 := (w_M refusal wheel now length at_ fault faultLine line words labels targets wrong (1 : Int32) text code_ label labelWord target targetWord targetLine store common low high register address status did ready timer trace)) dm_X11_number_199 gw_X11_111 rfl (g_fit_z (Or.inr rfl)) rfl rfl ?_
      refine G.lload (pc := 202) dm_X11_number_202 rfl ?_
      cases hres
      exact G.lreturn (pc := 204) dm_X11_number_204 rfl rfl rfl
    · rw [if_neg c177] at hres
      refine G.lload (pc := 180) dm_X11_number_180 rfl ?_
      refine G.lload_n (pc := 182) dm_X11_number_182 rfl ?_
      refine G.lcmp (pc := 183) dm_X11_number_183 ?_
      refine G.if_lt (pc := 184) (tgt := 194) dm_X11_number_184 (by decide) (fun c184 => ?_) (fun c184 => ?_)
      · rw [if_pos c184] at hres
        refine G.iconst (pc := 194) (v := (1 : Int32)) dm_X11_number_194 qi_1 ?_
        refine G.goto (pc := 195) (tgt := 199) dm_X11_number_195 (by decide) ?_
        refine G.putfield (pc := 199) (ws1 := (w_M refusal wheel now length at_ fault faultLine line words labels targets wrong (1 : Int32) text code_ label labelWord target targetWord targetLine store common low high register address status did ready timer trace)) dm_X11_number_199 gw_X11_111 rfl (g_fit_z (Or.inr rfl)) rfl rfl ?_
        refine G.lload (pc := 202) dm_X11_number_202 rfl ?_
        cases hres
        exact G.lreturn (pc := 204) dm_X11_number_204 rfl rfl rfl
      · rw [if_neg c184] at hres
        refine G.lload (pc := 187) dm_X11_number_187 rfl ?_
        refine G.lload_n (pc := 189) dm_X11_number_189 rfl ?_
        refine G.lcmp (pc := 190) dm_X11_number_190 ?_
        refine G.if_le (pc := 191) (tgt := 198) dm_X11_number_191 (by decide) (fun c191 => ?_) (fun c191 => ?_)
        · rw [if_pos c191] at hres
          refine G.iconst (pc := 198) (v := (0 : Int32)) dm_X11_number_198 qi_0 ?_
          refine G.putfield (pc := 199) (ws1 := (w_M refusal wheel now length at_ fault faultLine line words labels targets wrong (0 : Int32) text code_ label labelWord target targetWord targetLine store common low high register address status did ready timer trace)) dm_X11_number_199 gw_X11_111 rfl (g_fit_z (Or.inl rfl)) rfl rfl ?_
          refine G.lload (pc := 202) dm_X11_number_202 rfl ?_
          cases hres
          exact G.lreturn (pc := 204) dm_X11_number_204 rfl rfl rfl
        · rw [if_neg c191] at hres
          refine G.iconst (pc := 194) (v := (1 : Int32)) dm_X11_number_194 qi_1 ?_
          refine G.goto (pc := 195) (tgt := 199) dm_X11_number_195 (by decide) ?_
          refine G.putfield (pc := 199) (ws1 := (w_M refusal wheel now length at_ fault faultLine line words labels targets wrong (1 : Int32) text code_ label labelWord target targetWord targetLine store common low high register address status did ready timer trace)) dm_X11_number_199 gw_X11_111 rfl (g_fit_z (Or.inr rfl)) rfl rfl ?_
          refine G.lload (pc := 202) dm_X11_number_202 rfl ?_
          cases hres
          exact G.lreturn (pc := 204) dm_X11_number_204 rfl rfl rfl
def f_X11_number_133 (at_ : Int32) (wrong : Int32) (unfit : Int32) (l1 : Int64) (l3 : Int64) (s0 : Int64) (l5 : Int32) (l6 : Int32) (l7 : Int32) (kL88 : Int64 → Int64 → Int32 → Int32 → Int32 → Int64 → Int32 → Int32 → Int32 → Int64 × Int32 × Int32 × Int32) : Int64 × Int32 × Int32 × Int32 := (kL88 l1 l3 l5 (l6 + (1 : Int32)) l7 s0 at_ wrong unfit)
set_option maxRecDepth 20000 in
theorem j_X11_number_133 {l1 : Int64} {l3 : Int64} {l5 : Int32} {l6 : Int32} {l7 : Int32} {s0 : Int64} {refusal : Int32} {wheel : Int32} {now : Int32} {length : Int32} {at_ : Int32} {fault : Int32} {faultLine : Int32} {line : Int32} {words : Int32} {labels : Int32} {targets : Int32} {wrong : Int32} {unfit : Int32} {text : Nat → Int32} {code_ : Nat → Int32} {label : Nat → Int64} {labelWord : Nat → Int32} {target : Nat → Int64} {targetWord : Nat → Int32} {targetLine : Nat → Int32} {store : Nat → Int32} {common : Nat → Int32} {low : Nat → Int32} {high : Nat → Int32} {register : Nat → Int32} {address : Nat → Int32} {status : Nat → Int32} {did : Nat → Int32} {ready : Nat → Int32} {timer : Nat → Int32} {trace : Nat → Int32} {kL88 : Int64 → Int64 → Int32 → Int32 → Int32 → Int64 → Int32 → Int32 → Int32 → Int64 × Int32 × Int32 × Int32} {r_0 : Int64} {r_1 : Int32} {r_2 : Int32} {r_3 : Int32} (hres : (r_0, r_1, r_2, r_3) = (f_X11_number_133 at_ wrong unfit l1 l3 s0 l5 l6 l7 kL88)) (hln : 0 ≤ length.toInt ∧ length.toInt ≤ 400) (h6 : 0 ≤ l6.toInt ∧ l6.toInt ≤ 400) (hlt : l6.toInt < length.toInt) {mu : Nat} (hmu : (400 - l6.toInt.toNat) = mu) (hk88 : ∀ {l1 : Int64} {l3 : Int64} {l5 : Int32} {l6 : Int32} {l7 : Int32} {l8 : Int64} {at_ : Int32} {wrong : Int32} {unfit : Int32}, (0 ≤ length.toInt ∧ length.toInt ≤ 400) → (0 ≤ l6.toInt ∧ l6.toInt ≤ 400) → (400 - l6.toInt.toNat) < mu → (r_0, r_1, r_2, r_3) = kL88 l1 l3 l5 l6 l7 l8 at_ wrong unfit → G M_X11_number 0 0 88 [(0, .ref 0), (1, .long l1), (3, .long l3), (5, .int l5), (6, .int l6), (7, .int l7), (8, .long l8)] [] (w_M refusal wheel now length at_ fault faultLine line words labels targets wrong unfit text code_ label labelWord target targetWord targetLine store common low high register address status did ready timer trace) (some (.long r_0)) (w_M refusal wheel now length r_1 fault faultLine line words labels targets r_2 r_3 text code_ label labelWord target targetWord targetLine store common low high register address status did ready timer trace)) : G M_X11_number 0 0 133 [(0, .ref 0), (1, .long l1), (3, .long l3), (5, .int l5), (6, .int l6), (7, .int l7)] [.long s0] (w_M refusal wheel now length at_ fault faultLine line words labels targets wrong unfit text code_ label labelWord target targetWord targetLine store common low high register address status did ready timer trace) (some (.long r_0)) (w_M refusal wheel now length r_1 fault faultLine line words labels targets r_2 r_3 text code_ label labelWord target targetWord targetLine store common low high register address status did ready timer trace) := by
  rw [f_X11_number_133] at hres
  refine G.lstore (pc := 133) (lv1 := [(8, .long s0), (0, .ref 0), (1, .long l1), (3, .long l3), (5, .int l5), (6, .int l6), (7, .int l7)]) dm_X11_number_133 rfl rfl ?_
  refine G.iinc (pc := 135) (v := (l6 + (1 : Int32))) (lv1 := [(6, .int (l6 + (1 : Int32))), (8, .long s0), (0, .ref 0), (1, .long l1), (3, .long l3), (5, .int l5), (7, .int l7)]) dm_X11_number_135 rfl rfl rfl rfl ?_
  refine G.goto (pc := 138) (tgt := 88) dm_X11_number_138 (by decide) ?_
  refine G.lvp [2, 3, 4, 5, 0, 6, 1] rfl ?_
  exact hk88 hln (q_up hln h6 hlt) (q_updec hln h6 hlt hmu) hres
def f_X11_number_c119 (at_ : Int32) (wrong : Int32) (unfit : Int32) (l1 : Int64) (l3 : Int64) (l5 : Int32) (l6 : Int32) (l7 : Int32) (l8 : Int64) (kL88 : Int64 → Int64 → Int32 → Int32 → Int32 → Int64 → Int32 → Int32 → Int32 → Int64 × Int32 × Int32 × Int32) (z7_0 : Int32) : Int64 × Int32 × Int32 × Int32 := (f_X11_number_133 at_ wrong unfit l1 l3 ((((10 : Int64) * l8) + (Int32.toInt64 z7_0)) - (48 : Int64)) l5 l6 l7 kL88)
def f_X11_number_c94 (length : Int32) (at_ : Int32) (wrong : Int32) (unfit : Int32) (text : Nat → Int32) (l1 : Int64) (l3 : Int64) (l5 : Int32) (l6 : Int32) (l7 : Int32) (l8 : Int64) (kL88 : Int64 → Int64 → Int32 → Int32 → Int32 → Int64 → Int32 → Int32 → Int32 → Int64 × Int32 × Int32 × Int32) (z6_0 : Int32) : Int64 × Int32 × Int32 × Int32 := (if z6_0 = 0 then (if l5 = 0 then (f_X11_number_160 l6 wrong unfit l1 l3 l8 l6 l7) else (f_X11_number_160 l6 wrong unfit l1 l3 (-l8) l6 l7)) else (if (10 : Int32) ≤ (l6 - l7) then (f_X11_number_133 at_ wrong unfit l1 l3 l8 l5 l6 l7 kL88) else (f_X11_number_c119 at_ wrong unfit l1 l3 l5 l6 l7 l8 kL88 (f_X11_character l6 length text))))
def f_X11_number_c91 (length : Int32) (at_ : Int32) (wrong : Int32) (unfit : Int32) (text : Nat → Int32) (l1 : Int64) (l3 : Int64) (l5 : Int32) (l6 : Int32) (l7 : Int32) (l8 : Int64) (kL88 : Int64 → Int64 → Int32 → Int32 → Int32 → Int64 → Int32 → Int32 → Int32 → Int64 × Int32 × Int32 × Int32) (z5_0 : Int32) : Int64 × Int32 × Int32 × Int32 := (f_X11_number_c94 length at_ wrong unfit text l1 l3 l5 l6 l7 l8 kL88 (f_X11_isDigit z5_0))
def f_X11_number_88 (length : Int32) (text : Nat → Int32) : Nat → Int64 → Int64 → Int32 → Int32 → Int32 → Int64 → Int32 → Int32 → Int32 → Int64 × Int32 × Int32 × Int32
  | 0, l1, l3, l5, l6, l7, l8, at_, wrong, unfit => (0, at_, wrong, unfit)
  | n + 1, l1, l3, l5, l6, l7, l8, at_, wrong, unfit => (f_X11_number_c91 length at_ wrong unfit text l1 l3 l5 l6 l7 l8 (f_X11_number_88 length text n) (f_X11_character l6 length text))
set_option maxRecDepth 20000 in
theorem j_X11_number_88 : ∀ (n : Nat) {l1 : Int64} {l3 : Int64} {l5 : Int32} {l6 : Int32} {l7 : Int32} {l8 : Int64} {refusal : Int32} {wheel : Int32} {now : Int32} {length : Int32} {at_ : Int32} {fault : Int32} {faultLine : Int32} {line : Int32} {words : Int32} {labels : Int32} {targets : Int32} {wrong : Int32} {unfit : Int32} {text : Nat → Int32} {code_ : Nat → Int32} {label : Nat → Int64} {labelWord : Nat → Int32} {target : Nat → Int64} {targetWord : Nat → Int32} {targetLine : Nat → Int32} {store : Nat → Int32} {common : Nat → Int32} {low : Nat → Int32} {high : Nat → Int32} {register : Nat → Int32} {address : Nat → Int32} {status : Nat → Int32} {did : Nat → Int32} {ready : Nat → Int32} {timer : Nat → Int32} {trace : Nat → Int32} {r_0 : Int64} {r_1 : Int32} {r_2 : Int32} {r_3 : Int32}, (hln : 0 ≤ length.toInt ∧ length.toInt ≤ 400) → (h6 : 0 ≤ l6.toInt ∧ l6.toInt ≤ 400) → (400 - l6.toInt.toNat) < n → (r_0, r_1, r_2, r_3) = f_X11_number_88 length text n l1 l3 l5 l6 l7 l8 at_ wrong unfit → G M_X11_number 0 0 88 [(0, .ref 0), (1, .long l1), (3, .long l3), (5, .int l5), (6, .int l6), (7, .int l7), (8, .long l8)] [] (w_M refusal wheel now length at_ fault faultLine line words labels targets wrong unfit text code_ label labelWord target targetWord targetLine store common low high register address status did ready timer trace) (some (.long r_0)) (w_M refusal wheel now length r_1 fault faultLine line words labels targets r_2 r_3 text code_ label labelWord target targetWord targetLine store common low high register address status did ready timer trace) := by
  intro n
  induction n with
  | zero =>
    intro l1 l3 l5 l6 l7 l8 refusal wheel now length at_ fault faultLine line words labels targets wrong unfit text code_ label labelWord target targetWord targetLine store common low high register address status did ready timer trace r_0 r_1 r_2 r_3 hln h6 hm hres
    exact absurd hm (Nat.not_lt_zero _)
  | succ n ih =>
    intro l1 l3 l5 l6 l7 l8 refusal wheel now length at_ fault faultLine line words labels targets wrong unfit text code_ label labelWord target targetWord targetLine store common low high register address status did ready timer trace r_0 r_1 r_2 r_3 hln h6 hm hres
    obtain ⟨mu, hmu⟩ : ∃ z, (400 - l6.toInt.toNat) = z := ⟨_, rfl⟩
    rw [hmu] at hm
    have hk88 : ∀ {l1 : Int64} {l3 : Int64} {l5 : Int32} {l6 : Int32} {l7 : Int32} {l8 : Int64} {at_ : Int32} {wrong : Int32} {unfit : Int32}, (0 ≤ length.toInt ∧ length.toInt ≤ 400) → (0 ≤ l6.toInt ∧ l6.toInt ≤ 400) → (400 - l6.toInt.toNat) < mu → (r_0, r_1, r_2, r_3) = (f_X11_number_88 length text n) l1 l3 l5 l6 l7 l8 at_ wrong unfit → G M_X11_number 0 0 88 [(0, .ref 0), (1, .long l1), (3, .long l3), (5, .int l5), (6, .int l6), (7, .int l7), (8, .long l8)] [] (w_M refusal wheel now length at_ fault faultLine line words labels targets wrong unfit text code_ label labelWord target targetWord targetLine store common low high register address status did ready timer trace) (some (.long r_0)) (w_M refusal wheel now length r_1 fault faultLine line words labels targets r_2 r_3 text code_ label labelWord target targetWord targetLine store common low high register address status did ready timer trace) := fun hln h6 hlt he => ih hln h6 (Nat.lt_of_lt_of_le hlt (Nat.le_of_lt_succ hm)) he
    rw [f_X11_number_88] at hres
    refine G.aload_n (pc := 88) dm_X11_number_88 rfl ?_
    refine G.iload (pc := 89) dm_X11_number_89 rfl ?_
    obtain ⟨z5_0, hz5⟩ := g_ex1 (f_X11_character l6 length text)
    refine G.callV0 (pc := 91) (rest := []) (st1 := [.int z5_0]) dm_X11_number_91 gc_X11_number_91 (k_X11_character (p := l6) (refusal := refusal) (wheel := wheel) (now := now) (length := length) (at_ := at_) (fault := fault) (faultLine := faultLine) (line := line) (words := words) (labels := labels) (targets := targets) (wrong := wrong) (unfit := unfit) (text := text) (code_ := code_) (label := label) (labelWord := labelWord) (target := target) (targetWord := targetWord) (targetLine := targetLine) (store := store) (common := common) (low := low) (high := high) (register := register) (address := address) (status := status) (did := did) (ready := ready) (timer := timer) (trace := trace) hln h6.1 hz5) rfl rfl rfl rfl rfl rfl rfl rfl ?_
    have ch := a_character hz5
    replace hres : (r_0, r_1, r_2, r_3) = f_X11_number_c91 length at_ wrong unfit text l1 l3 l5 l6 l7 l8 (f_X11_number_88 length text n) z5_0 := hres.trans (by rw [← hz5])
    rw [f_X11_number_c91] at hres
    obtain ⟨z6_0, hz6⟩ := g_ex1 (f_X11_isDigit z5_0)
    refine G.callS (pc := 94) (rest := []) (st1 := [.int z6_0]) (ws1 := (w_M refusal wheel now length at_ fault faultLine line words labels targets wrong unfit text code_ label labelWord target targetWord targetLine store common low high register address status did ready timer trace)) [] dm_X11_number_94 gc_X11_number_106 (k_X11_isDigit (c := z5_0) hz6) rfl rfl rfl rfl rfl rfl rfl rfl ?_
    have dg := a_isDigit hz6
    replace hres : (r_0, r_1, r_2, r_3) = f_X11_number_c94 length at_ wrong unfit text l1 l3 l5 l6 l7 l8 (f_X11_number_88 length text n) z6_0 := hres.trans (by rw [← hz6])
    rw [f_X11_number_c94] at hres
    refine G.if_eq (pc := 97) (tgt := 141) dm_X11_number_97 (by decide) (fun c97 => ?_) (fun c97 => ?_)
    · rw [if_pos c97] at hres
      refine G.aload_n (pc := 141) dm_X11_number_141 rfl ?_
      refine G.iload (pc := 142) dm_X11_number_142 rfl ?_
      refine G.putfield (pc := 144) (ws1 := (w_M refusal wheel now length l6 fault faultLine line words labels targets wrong unfit text code_ label labelWord target targetWord targetLine store common low high register address status did ready timer trace)) dm_X11_number_144 gw_X11_88 rfl (g_fit_i _) rfl rfl ?_
      refine G.iload (pc := 147) dm_X11_number_147 rfl ?_
      refine G.if_eq (pc := 149) (tgt := 158) dm_X11_number_149 (by decide) (fun c149 => ?_) (fun c149 => ?_)
      · rw [if_pos c149] at hres
        refine G.lload (pc := 158) dm_X11_number_158 rfl ?_
        refine G.lvp [0, 1, 2, 4, 5] rfl ?_
        exact j_X11_number_160 hres 
      · rw [if_neg c149] at hres
        refine G.lload (pc := 152) dm_X11_number_152 rfl ?_
        refine G.lneg (pc := 154) dm_X11_number_154 ?_
        refine G.goto (pc := 155) (tgt := 160) dm_X11_number_155 (by decide) ?_
        refine G.lvp [0, 1, 2, 4, 5] rfl ?_
        exact j_X11_number_160 hres 
    · rw [if_neg c97] at hres
      have hlt := ch (dg c97)
      refine G.iload (pc := 100) dm_X11_number_100 rfl ?_
      refine G.iload (pc := 102) dm_X11_number_102 rfl ?_
      refine G.isub (pc := 104) dm_X11_number_104 ?_
      refine G.bipush (pc := 105) (v := (10 : Int32)) dm_X11_number_105 qb_10 ?_
      refine G.icmp_ge (pc := 107) (tgt := 131) dm_X11_number_107 (by decide) (fun c107 => ?_) (fun c107 => ?_)
      · rw [if_pos c107] at hres
        refine G.lload (pc := 131) dm_X11_number_131 rfl ?_
        refine G.lvp [0, 1, 2, 3, 4, 5] rfl ?_
        exact j_X11_number_133 hres (by first | assumption | exact q_31 _ | exact q_7 _) (by first | assumption | exact q_31 _ | exact q_7 _) (by first | assumption | exact q_31 _ | exact q_7 _) hmu hk88
      · rw [if_neg c107] at hres
        refine G.ldc2 (pc := 110) dm_X11_number_110 tw158 ?_
        refine G.lload (pc := 113) dm_X11_number_113 rfl ?_
        refine G.lmul (pc := 115) dm_X11_number_115 ?_
        refine G.aload_n (pc := 116) dm_X11_number_116 rfl ?_
        refine G.iload (pc := 117) dm_X11_number_117 rfl ?_
        obtain ⟨z7_0, hz7⟩ := g_ex1 (f_X11_character l6 length text)
        refine G.callV0 (pc := 119) (rest := [.long ((10 : Int64) * l8)]) (st1 := [.int z7_0, .long ((10 : Int64) * l8)]) dm_X11_number_119 gc_X11_number_91 (k_X11_character (p := l6) (refusal := refusal) (wheel := wheel) (now := now) (length := length) (at_ := at_) (fault := fault) (faultLine := faultLine) (line := line) (words := words) (labels := labels) (targets := targets) (wrong := wrong) (unfit := unfit) (text := text) (code_ := code_) (label := label) (labelWord := labelWord) (target := target) (targetWord := targetWord) (targetLine := targetLine) (store := store) (common := common) (low := low) (high := high) (register := register) (address := address) (status := status) (did := did) (ready := ready) (timer := timer) (trace := trace) hln h6.1 hz7) rfl rfl rfl rfl rfl rfl rfl rfl ?_
        replace hres : (r_0, r_1, r_2, r_3) = f_X11_number_c119 at_ wrong unfit l1 l3 l5 l6 l7 l8 (f_X11_number_88 length text n) z7_0 := hres.trans (by rw [← hz7])
        rw [f_X11_number_c119] at hres
        refine G.i2l (pc := 122) dm_X11_number_122 ?_
        refine G.ladd (pc := 123) dm_X11_number_123 ?_
        refine G.ldc2 (pc := 124) dm_X11_number_124 tw513 ?_
        refine G.lsub (pc := 127) dm_X11_number_127 ?_
        refine G.goto (pc := 128) (tgt := 133) dm_X11_number_128 (by decide) ?_
        refine G.lvp [0, 1, 2, 3, 4, 5] rfl ?_
        exact j_X11_number_133 hres (by first | assumption | exact q_31 _ | exact q_7 _) (by first | assumption | exact q_31 _ | exact q_7 _) (by first | assumption | exact q_31 _ | exact q_7 _) hmu hk88
def f_X11_number_c58 (length : Int32) (at_ : Int32) (unfit : Int32) (text : Nat → Int32) (l1 : Int64) (l3 : Int64) (s0 : Int32) (l5 : Int32) (z4_0 : Int32) : Int64 × Int32 × Int32 × Int32 := (if z4_0 = 0 then ((0 : Int64), at_, (1 : Int32), unfit) else (f_X11_number_88 length text (401) l1 l3 l5 s0 s0 (0 : Int64) at_ (0 : Int32) unfit))
def f_X11_number_c55 (length : Int32) (at_ : Int32) (unfit : Int32) (text : Nat → Int32) (l1 : Int64) (l3 : Int64) (s0 : Int32) (l5 : Int32) (z3_0 : Int32) : Int64 × Int32 × Int32 × Int32 := (f_X11_number_c58 length at_ unfit text l1 l3 s0 l5 (f_X11_isDigit z3_0))
def f_X11_number_42 (length : Int32) (at_ : Int32) (wrong : Int32) (unfit : Int32) (text : Nat → Int32) (l1 : Int64) (l3 : Int64) (s0 : Int32) (l5 : Int32) : Int64 × Int32 × Int32 × Int32 := (if wrong = 0 then (f_X11_number_c55 length at_ unfit text l1 l3 s0 l5 (f_X11_character s0 length text)) else ((0 : Int64), at_, (1 : Int32), unfit))
set_option maxRecDepth 20000 in
theorem j_X11_number_42 {l1 : Int64} {l3 : Int64} {l5 : Int32} {s0 : Int32} {refusal : Int32} {wheel : Int32} {now : Int32} {length : Int32} {at_ : Int32} {fault : Int32} {faultLine : Int32} {line : Int32} {words : Int32} {labels : Int32} {targets : Int32} {wrong : Int32} {unfit : Int32} {text : Nat → Int32} {code_ : Nat → Int32} {label : Nat → Int64} {labelWord : Nat → Int32} {target : Nat → Int64} {targetWord : Nat → Int32} {targetLine : Nat → Int32} {store : Nat → Int32} {common : Nat → Int32} {low : Nat → Int32} {high : Nat → Int32} {register : Nat → Int32} {address : Nat → Int32} {status : Nat → Int32} {did : Nat → Int32} {ready : Nat → Int32} {timer : Nat → Int32} {trace : Nat → Int32} {r_0 : Int64} {r_1 : Int32} {r_2 : Int32} {r_3 : Int32} (hres : (r_0, r_1, r_2, r_3) = (f_X11_number_42 length at_ wrong unfit text l1 l3 s0 l5)) (hln : 0 ≤ length.toInt ∧ length.toInt ≤ 400) (hp : 0 ≤ s0.toInt ∧ s0.toInt ≤ 400) : G M_X11_number 0 0 42 [(0, .ref 0), (1, .long l1), (3, .long l3), (5, .int l5)] [.int s0] (w_M refusal wheel now length at_ fault faultLine line words labels targets wrong unfit text code_ label labelWord target targetWord targetLine store common low high register address status did ready timer trace) (some (.long r_0)) (w_M refusal wheel now length r_1 fault faultLine line words labels targets r_2 r_3 text code_ label labelWord target targetWord targetLine store common low high register address status did ready timer trace) := by
  rw [f_X11_number_42] at hres
  refine G.istore (pc := 42) (lv1 := [(6, .int s0), (0, .ref 0), (1, .long l1), (3, .long l3), (5, .int l5)]) dm_X11_number_42 rfl rfl ?_
  refine G.aload_n (pc := 44) dm_X11_number_44 rfl ?_
  refine G.aload_n (pc := 45) dm_X11_number_45 rfl ?_
  refine G.getfield (pc := 46) dm_X11_number_46 gf_X11_102 rfl rfl ?_
  refine G.if_ne (pc := 49) (tgt := 64) dm_X11_number_49 (by decide) (fun c49 => ?_) (fun c49 => ?_)
  · rw [if_neg c49] at hres
    refine G.iconst (pc := 64) (v := (1 : Int32)) dm_X11_number_64 qi_1 ?_
    refine G.goto (pc := 65) (tgt := 69) dm_X11_number_65 (by decide) ?_
    refine G.putfield (pc := 69) (ws1 := (w_M refusal wheel now length at_ fault faultLine line words labels targets (1 : Int32) unfit text code_ label labelWord target targetWord targetLine store common low high register address status did ready timer trace)) dm_X11_number_69 gw_X11_102 rfl (g_fit_z (Or.inr rfl)) rfl rfl ?_
    refine G.aload_n (pc := 72) dm_X11_number_72 rfl ?_
    refine G.getfield (pc := 73) dm_X11_number_73 gf_X11_102 rfl rfl ?_
    refine G.if_eq (pc := 76) (tgt := 81) dm_X11_number_76 (by decide) (fun c76 => absurd c76 (by decide)) (fun c76 => ?_)
    refine G.lconst (pc := 79) (v := (0 : Int64)) dm_X11_number_79 (by decide) ?_
    cases hres
    exact G.lreturn (pc := 80) dm_X11_number_80 rfl rfl rfl
  · rw [if_pos c49] at hres
    refine G.aload_n (pc := 52) dm_X11_number_52 rfl ?_
    refine G.iload (pc := 53) dm_X11_number_53 rfl ?_
    obtain ⟨z3_0, hz3⟩ := g_ex1 (f_X11_character s0 length text)
    refine G.callV0 (pc := 55) (rest := [.ref 0]) (st1 := [.int z3_0, .ref 0]) dm_X11_number_55 gc_X11_number_91 (k_X11_character (p := s0) (refusal := refusal) (wheel := wheel) (now := now) (length := length) (at_ := at_) (fault := fault) (faultLine := faultLine) (line := line) (words := words) (labels := labels) (targets := targets) (wrong := wrong) (unfit := unfit) (text := text) (code_ := code_) (label := label) (labelWord := labelWord) (target := target) (targetWord := targetWord) (targetLine := targetLine) (store := store) (common := common) (low := low) (high := high) (register := register) (address := address) (status := status) (did := did) (ready := ready) (timer := timer) (trace := trace) hln hp.1 hz3) rfl rfl rfl rfl rfl rfl rfl rfl ?_
    replace hres : (r_0, r_1, r_2, r_3) = f_X11_number_c55 length at_ unfit text l1 l3 s0 l5 z3_0 := hres.trans (by rw [← hz3])
    rw [f_X11_number_c55] at hres
    obtain ⟨z4_0, hz4⟩ := g_ex1 (f_X11_isDigit z3_0)
    refine G.callS (pc := 58) (rest := [.ref 0]) (st1 := [.int z4_0, .ref 0]) (ws1 := (w_M refusal wheel now length at_ fault faultLine line words labels targets wrong unfit text code_ label labelWord target targetWord targetLine store common low high register address status did ready timer trace)) [] dm_X11_number_58 gc_X11_number_106 (k_X11_isDigit (c := z3_0) hz4) rfl rfl rfl rfl rfl rfl rfl rfl ?_
    replace hres : (r_0, r_1, r_2, r_3) = f_X11_number_c58 length at_ unfit text l1 l3 s0 l5 z4_0 := hres.trans (by rw [← hz4])
    rw [f_X11_number_c58] at hres
    refine G.if_ne (pc := 61) (tgt := 68) dm_X11_number_61 (by decide) (fun c61 => ?_) (fun c61 => ?_)
    · rw [if_neg c61] at hres
      refine G.iconst (pc := 68) (v := (0 : Int32)) dm_X11_number_68 qi_0 ?_
      refine G.putfield (pc := 69) (ws1 := (w_M refusal wheel now length at_ fault faultLine line words labels targets (0 : Int32) unfit text code_ label labelWord target targetWord targetLine store common low high register address status did ready timer trace)) dm_X11_number_69 gw_X11_102 rfl (g_fit_z (Or.inl rfl)) rfl rfl ?_
      refine G.aload_n (pc := 72) dm_X11_number_72 rfl ?_
      refine G.getfield (pc := 73) dm_X11_number_73 gf_X11_102 rfl rfl ?_
      refine G.if_eq (pc := 76) (tgt := 81) dm_X11_number_76 (by decide) (fun c76 => ?_) (fun c76 => absurd rfl c76)
      refine G.iload (pc := 81) dm_X11_number_81 rfl ?_
      refine G.istore (pc := 83) (lv1 := [(7, .int s0), (6, .int s0), (0, .ref 0), (1, .long l1), (3, .long l3), (5, .int l5)]) dm_X11_number_83 rfl rfl ?_
      refine G.lconst (pc := 85) (v := (0 : Int64)) dm_X11_number_85 (by decide) ?_
      refine G.lstore (pc := 86) (lv1 := [(8, .long (0 : Int64)), (7, .int s0), (6, .int s0), (0, .ref 0), (1, .long l1), (3, .long l3), (5, .int l5)]) dm_X11_number_86 rfl rfl ?_
      refine G.lvp [3, 4, 5, 6, 2, 1, 0] rfl ?_
      exact j_X11_number_88 _ hln hp (q_st hp) hres
    · rw [if_pos c61] at hres
      refine G.iconst (pc := 64) (v := (1 : Int32)) dm_X11_number_64 qi_1 ?_
      refine G.goto (pc := 65) (tgt := 69) dm_X11_number_65 (by decide) ?_
      refine G.putfield (pc := 69) (ws1 := (w_M refusal wheel now length at_ fault faultLine line words labels targets (1 : Int32) unfit text code_ label labelWord target targetWord targetLine store common low high register address status did ready timer trace)) dm_X11_number_69 gw_X11_102 rfl (g_fit_z (Or.inr rfl)) rfl rfl ?_
      refine G.aload_n (pc := 72) dm_X11_number_72 rfl ?_
      refine G.getfield (pc := 73) dm_X11_number_73 gf_X11_102 rfl rfl ?_
      refine G.if_eq (pc := 76) (tgt := 81) dm_X11_number_76 (by decide) (fun c76 => absurd c76 (by decide)) (fun c76 => ?_)
      refine G.lconst (pc := 79) (v := (0 : Int64)) dm_X11_number_79 (by decide) ?_
      cases hres
      exact G.lreturn (pc := 80) dm_X11_number_80 rfl rfl rfl
def f_X11_number_22 (length : Int32) (at_ : Int32) (wrong : Int32) (unfit : Int32) (text : Nat → Int32) (l1 : Int64) (l3 : Int64) (s0 : Int32) : Int64 × Int32 × Int32 × Int32 := (if s0 = 0 then (f_X11_number_42 length at_ wrong unfit text l1 l3 at_ s0) else (f_X11_number_42 length at_ wrong unfit text l1 l3 (at_ + (1 : Int32)) s0))
set_option maxRecDepth 20000 in
theorem j_X11_number_22 {l1 : Int64} {l3 : Int64} {s0 : Int32} {refusal : Int32} {wheel : Int32} {now : Int32} {length : Int32} {at_ : Int32} {fault : Int32} {faultLine : Int32} {line : Int32} {words : Int32} {labels : Int32} {targets : Int32} {wrong : Int32} {unfit : Int32} {text : Nat → Int32} {code_ : Nat → Int32} {label : Nat → Int64} {labelWord : Nat → Int32} {target : Nat → Int64} {targetWord : Nat → Int32} {targetLine : Nat → Int32} {store : Nat → Int32} {common : Nat → Int32} {low : Nat → Int32} {high : Nat → Int32} {register : Nat → Int32} {address : Nat → Int32} {status : Nat → Int32} {did : Nat → Int32} {ready : Nat → Int32} {timer : Nat → Int32} {trace : Nat → Int32} {r_0 : Int64} {r_1 : Int32} {r_2 : Int32} {r_3 : Int32} (hres : (r_0, r_1, r_2, r_3) = (f_X11_number_22 length at_ wrong unfit text l1 l3 s0)) (hln : 0 ≤ length.toInt ∧ length.toInt ≤ 400) (hat : 0 ≤ at_.toInt ∧ at_.toInt ≤ 400) (hm : ¬ s0 = 0 → at_.toInt < length.toInt) : G M_X11_number 0 0 22 [(0, .ref 0), (1, .long l1), (3, .long l3)] [.int s0] (w_M refusal wheel now length at_ fault faultLine line words labels targets wrong unfit text code_ label labelWord target targetWord targetLine store common low high register address status did ready timer trace) (some (.long r_0)) (w_M refusal wheel now length r_1 fault faultLine line words labels targets r_2 r_3 text code_ label labelWord target targetWord targetLine store common low high register address status did ready timer trace) := by
  rw [f_X11_number_22] at hres
  refine G.istore (pc := 22) (lv1 := [(5, .int s0), (0, .ref 0), (1, .long l1), (3, .long l3)]) dm_X11_number_22 rfl rfl ?_
  refine G.iload (pc := 24) dm_X11_number_24 rfl ?_
  refine G.if_eq (pc := 26) (tgt := 38) dm_X11_number_26 (by decide) (fun c26 => ?_) (fun c26 => ?_)
  · rw [if_pos c26] at hres
    refine G.aload_n (pc := 38) dm_X11_number_38 rfl ?_
    refine G.getfield (pc := 39) dm_X11_number_39 gf_X11_88 rfl rfl ?_
    refine G.lvp [1, 2, 3, 0] rfl ?_
    exact j_X11_number_42 hres hln hat
  · rw [if_neg c26] at hres
    refine G.aload_n (pc := 29) dm_X11_number_29 rfl ?_
    refine G.getfield (pc := 30) dm_X11_number_30 gf_X11_88 rfl rfl ?_
    refine G.iconst (pc := 33) (v := (1 : Int32)) dm_X11_number_33 qi_1 ?_
    refine G.iadd (pc := 34) dm_X11_number_34 ?_
    refine G.goto (pc := 35) (tgt := 42) dm_X11_number_35 (by decide) ?_
    refine G.lvp [1, 2, 3, 0] rfl ?_
    exact j_X11_number_42 hres hln (q_up hln hat (hm c26))
def f_X11_number_c9 (least : Int64) (most : Int64) (length : Int32) (wrong : Int32) (unfit : Int32) (text : Nat → Int32) (z1_0 : Int32) (z2_0 : Int32) : Int64 × Int32 × Int32 × Int32 := (if z2_0 = (45 : Int32) then (f_X11_number_22 length z1_0 wrong unfit text least most (1 : Int32)) else (f_X11_number_22 length z1_0 wrong unfit text least most (0 : Int32)))
def f_X11_number_c1 (least : Int64) (most : Int64) (length : Int32) (wrong : Int32) (unfit : Int32) (text : Nat → Int32) (z1_0 : Int32) : Int64 × Int32 × Int32 × Int32 := (f_X11_number_c9 least most length wrong unfit text z1_0 (f_X11_character z1_0 length text))
def f_X11_number (least : Int64) (most : Int64) (length : Int32) (at_ : Int32) (wrong : Int32) (unfit : Int32) (text : Nat → Int32) : Int64 × Int32 × Int32 × Int32 := (f_X11_number_c1 least most length wrong unfit text (f_X11_skip length at_ text))
set_option maxRecDepth 20000 in
theorem k_X11_number {least : Int64} {most : Int64} {refusal : Int32} {wheel : Int32} {now : Int32} {length : Int32} {at_ : Int32} {fault : Int32} {faultLine : Int32} {line : Int32} {words : Int32} {labels : Int32} {targets : Int32} {wrong : Int32} {unfit : Int32} {text : Nat → Int32} {code_ : Nat → Int32} {label : Nat → Int64} {labelWord : Nat → Int32} {target : Nat → Int64} {targetWord : Nat → Int32} {targetLine : Nat → Int32} {store : Nat → Int32} {common : Nat → Int32} {low : Nat → Int32} {high : Nat → Int32} {register : Nat → Int32} {address : Nat → Int32} {status : Nat → Int32} {did : Nat → Int32} {ready : Nat → Int32} {timer : Nat → Int32} {trace : Nat → Int32} (hln : 0 ≤ length.toInt ∧ length.toInt ≤ 400) (hat : 0 ≤ at_.toInt ∧ at_.toInt ≤ 400) {r_0 : Int64} {r_1 : Int32} {r_2 : Int32} {r_3 : Int32} (hres : (r_0, r_1, r_2, r_3) = f_X11_number least most length at_ wrong unfit text) : K M_X11_number yX11_number [.ref 0, .long least, .long most] (w_M refusal wheel now length at_ fault faultLine line words labels targets wrong unfit text code_ label labelWord target targetWord targetLine store common low high register address status did ready timer trace) (some (.long r_0)) (w_M refusal wheel now length r_1 fault faultLine line words labels targets r_2 r_3 text code_ label labelWord target targetWord targetLine store common low high register address status did ready timer trace) := by
  refine K.of (lv := [(0, .ref 0), (1, .long least), (3, .long most)]) (by decide +kernel) rfl rfl rfl ?_
  rw [f_X11_number] at hres
  refine G.aload_n (pc := 0) dm_X11_number_0 rfl ?_
  obtain ⟨z1_0, hz1⟩ := g_ex1 (f_X11_skip length at_ text)
  refine G.callV0 (pc := 1) (rest := []) (st1 := []) dm_X11_number_1 gc_X11_number_95 (k_X11_skip (refusal := refusal) (wheel := wheel) (now := now) (length := length) (at_ := at_) (fault := fault) (faultLine := faultLine) (line := line) (words := words) (labels := labels) (targets := targets) (wrong := wrong) (unfit := unfit) (text := text) (code_ := code_) (label := label) (labelWord := labelWord) (target := target) (targetWord := targetWord) (targetLine := targetLine) (store := store) (common := common) (low := low) (high := high) (register := register) (address := address) (status := status) (did := did) (ready := ready) (timer := timer) (trace := trace) (by first | assumption | exact q_31 _ | exact q_7 _) (by first | assumption | exact q_31 _ | exact q_7 _) hz1) rfl rfl rfl rfl rfl rfl rfl rfl ?_
  have hat := (a_skip hz1 hln hat).1
  replace hres : (r_0, r_1, r_2, r_3) = f_X11_number_c1 least most length wrong unfit text z1_0 := hres.trans (by rw [← hz1])
  rw [f_X11_number_c1] at hres
  refine G.aload_n (pc := 4) dm_X11_number_4 rfl ?_
  refine G.aload_n (pc := 5) dm_X11_number_5 rfl ?_
  refine G.getfield (pc := 6) dm_X11_number_6 gf_X11_88 rfl rfl ?_
  obtain ⟨z2_0, hz2⟩ := g_ex1 (f_X11_character z1_0 length text)
  refine G.callV0 (pc := 9) (rest := []) (st1 := [.int z2_0]) dm_X11_number_9 gc_X11_number_91 (k_X11_character (p := z1_0) (refusal := refusal) (wheel := wheel) (now := now) (length := length) (at_ := z1_0) (fault := fault) (faultLine := faultLine) (line := line) (words := words) (labels := labels) (targets := targets) (wrong := wrong) (unfit := unfit) (text := text) (code_ := code_) (label := label) (labelWord := labelWord) (target := target) (targetWord := targetWord) (targetLine := targetLine) (store := store) (common := common) (low := low) (high := high) (register := register) (address := address) (status := status) (did := did) (ready := ready) (timer := timer) (trace := trace) hln hat.1 hz2) rfl rfl rfl rfl rfl rfl rfl rfl ?_
  have ch := a_character hz2
  replace hres : (r_0, r_1, r_2, r_3) = f_X11_number_c9 least most length wrong unfit text z1_0 z2_0 := hres.trans (by rw [← hz2])
  rw [f_X11_number_c9] at hres
  refine G.bipush (pc := 12) (v := (45 : Int32)) dm_X11_number_12 qb_45 ?_
  refine G.icmp_ne (pc := 14) (tgt := 21) dm_X11_number_14 (by decide) (fun c14 => ?_) (fun c14 => ?_)
  · rw [if_neg c14] at hres
    refine G.iconst (pc := 21) (v := (0 : Int32)) dm_X11_number_21 qi_0 ?_
    exact j_X11_number_22 hres hln hat (fun h => absurd rfl h)
  · rw [if_pos c14] at hres
    refine G.iconst (pc := 17) (v := (1 : Int32)) dm_X11_number_17 qi_1 ?_
    refine G.goto (pc := 18) (tgt := 22) dm_X11_number_18 (by decide) ?_
    exact j_X11_number_22 hres hln hat (fun _ => ch (by rw [c14]; decide))
theorem a_n160 {at_ wrong unfit l6 l7 : Int32} {l1 l3 s0 : Int64} : (f_X11_number_160 at_ wrong unfit l1 l3 s0 l6 l7).2.1 = at_ := by
  rw [f_X11_number_160]
  split
  · split
    · rfl
    · split
      · rfl
      · split <;> rfl
  · rfl
theorem a_number_88 {length : Int32} {text : Nat → Int32} (hln : 0 ≤ length.toInt ∧ length.toInt ≤ 400) : ∀ (n : Nat) (l1 l3 : Int64) (l5 l6 l7 : Int32) (l8 : Int64) (at_ wrong unfit a0 : Int32), ((0 ≤ l6.toInt ∧ l6.toInt ≤ 400) ∧ a0.toInt ≤ l6.toInt) → ((0 ≤ at_.toInt ∧ at_.toInt ≤ 400) ∧ a0.toInt ≤ at_.toInt) → (0 ≤ (f_X11_number_88 length text n l1 l3 l5 l6 l7 l8 at_ wrong unfit).2.1.toInt ∧ (f_X11_number_88 length text n l1 l3 l5 l6 l7 l8 at_ wrong unfit).2.1.toInt ≤ 400) ∧ a0.toInt ≤ (f_X11_number_88 length text n l1 l3 l5 l6 l7 l8 at_ wrong unfit).2.1.toInt
  | 0, _, _, _, _, _, _, _, _, _, _, _, h => h
  | n + 1, l1, l3, l5, l6, l7, l8, at_, wrong, unfit, a0, h, h0 => by
    rw [f_X11_number_88, f_X11_number_c91, f_X11_number_c94]
    split
    · split <;> (rw [a_n160]; exact h)
    · rename_i c
      have hlt := a_character (rfl : f_X11_character l6 length text = _) (a_isDigit rfl c)
      split
      · exact a_number_88 hln n _ _ _ _ _ _ _ _ _ _ (q_tr1 h (q_up2 hln h.1 hlt)) h0
      · exact a_number_88 hln n _ _ _ _ _ _ _ _ _ _ (q_tr1 h (q_up2 hln h.1 hlt)) h0
theorem a_number {least most z0 : Int64} {length at_ wrong unfit z1 z2 z3 : Int32} {text : Nat → Int32} (h : (z0, z1, z2, z3) = f_X11_number least most length at_ wrong unfit text) (hln : 0 ≤ length.toInt ∧ length.toInt ≤ 400) (hat : 0 ≤ at_.toInt ∧ at_.toInt ≤ 400) : (0 ≤ z1.toInt ∧ z1.toInt ≤ 400) ∧ at_.toInt ≤ z1.toInt := by
  have e : z1 = (f_X11_number least most length at_ wrong unfit text).2.1 := congrArg (fun q => q.2.1) h
  have h1 := a_skip (text := text) rfl hln hat
  have h42 : ∀ (p l5 : Int32), ((0 ≤ p.toInt ∧ p.toInt ≤ 400) ∧ at_.toInt ≤ p.toInt) → (0 ≤ (f_X11_number_42 length (f_X11_skip length at_ text) wrong unfit text least most p l5).2.1.toInt ∧ (f_X11_number_42 length (f_X11_skip length at_ text) wrong unfit text least most p l5).2.1.toInt ≤ 400) ∧ at_.toInt ≤ (f_X11_number_42 length (f_X11_skip length at_ text) wrong unfit text least most p l5).2.1.toInt := by
    intro p l5 hp
    rw [f_X11_number_42]
    split
    · rw [f_X11_number_c55, f_X11_number_c58]
      split
      · exact h1
      · exact a_number_88 hln _ _ _ _ _ _ _ _ _ _ _ hp h1
    · exact h1
  rw [e, f_X11_number, f_X11_number_c1, f_X11_number_c9]
  split
  · rename_i c
    rw [f_X11_number_22, if_neg (by decide)]
    exact h42 _ _ (q_tr1 h1 (q_up2 hln h1.1 (a_character rfl (by rw [c]; decide))))
  · rw [f_X11_number_22, if_pos rfl]
    exact h42 _ _ h1
