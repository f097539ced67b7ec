def w_X (tlen : Int32) (tchars : Nat → Int32) : List va_E := [.inr (4, [.ref 1, .int tlen]), .inl (0, 400, .inl tchars)]
def w_K (kcount : Int32) (klen : Int32) (kat : Int32) (kinds : Nat → Int32) (kvals : Nat → Int64) (tchars : Nat → Int32) : List va_E := [.inr (6, [.ref 1, .ref 2, .ref 4, .int kcount, .int kat]), .inl (0, 401, .inl kinds), .inl (2, 401, .inr (.inl kvals)), .inl (0, 400, .inl tchars), .inr (4, [.ref 3, .int klen])]
def q_ch (f : Nat → Int32) : Prop := ∀ j, narrow .char (.int (f j)) = .int (f j)
theorem q_chu {f : Nat → Int32} (h : q_ch f) (i : Nat) (x : Int32) : q_ch (upd f i (vp_nar .char x)) := by
  intro j
  by_cases e : j = i
  · rw [e, pk_us, vp_nar_char]
    have h9 : narrow .char (.int (x.toUInt32.toUInt16.toUInt32.toInt32)) = .int (vp_nar .char (x.toUInt32.toUInt16.toUInt32.toInt32)) := rfl
    rw [h9, vp_nar_char]
    congr 1
    simp only [UInt32.toUInt32_toUInt16]
    congr 1
    apply UInt32.toNat_inj.mp
    simp only [UInt32.toNat_mod]
    exact Nat.mod_mod _ _
  · rw [pk_un e]; exact h j
theorem q_le8 {x : Int32} (c : x ≤ 8) : x.toInt ≤ 8 := by
  have h := q_le c
  have h1 : (8 : Int32).toInt = 8 := by decide
  omega
theorem q_400 {x : Int32} (c : ¬ 400 ≤ x) : x.toInt < 400 := by
  have h := q_nle c
  have h1 : (400 : Int32).toInt = 400 := by decide
  omega
theorem q_401 {x : Int32} (c : ¬ 401 ≤ x) : x.toInt < (401 : Nat) := by
  have h := q_nle c
  have h1 : (401 : Int32).toInt = 401 := by decide
  omega
theorem q_tk {n k : Int32} (hc : 0 ≤ n.toInt ∧ n.toInt ≤ 401) (c1 : ¬ k < 0) (c2 : ¬ n ≤ k) : vp_in k 401 := by
  have h1 := q_nlt c1
  have h2 := q_nle c2
  have h3 : (0 : Int32).toInt = 0 := by decide
  exact q_in (by omega) (by omega)
theorem q_kup {a l : Int32} (hk : 0 ≤ a.toInt ∧ a.toInt ≤ l.toInt ∧ l.toInt ≤ 400) (hlt : a.toInt < l.toInt) : 0 ≤ (a + 1).toInt ∧ (a + 1).toInt ≤ l.toInt ∧ l.toInt ≤ 400 := by
  rw [q_inc (by omega)]; omega
theorem q_fx {a l f : Int32} (hk : 0 ≤ a.toInt ∧ a.toInt ≤ l.toInt ∧ l.toInt ≤ 400) (h1 : 0 ≤ f.toInt ∧ f.toInt ≤ a.toInt) (c : a - f = 1) : vp_in f 400 := by
  have h2 : (a - f).toInt = a.toInt - f.toInt := q_sub (by omega) (by omega)
  have h3 : (1 : Int32).toInt = 1 := by decide
  rw [c, h3] at h2
  exact q_in h1.1 (by omega)
theorem q_c1 {n : Int32} (hc : 0 ≤ n.toInt ∧ n.toInt ≤ 401) (c : ¬ 401 ≤ n) : 0 ≤ (n + 1).toInt ∧ (n + 1).toInt ≤ 401 := by
  have := q_401 c
  rw [q_inc (by omega)]; omega
theorem gd_X7_byteOf : yX7_byteOf.cls ≠ "java/lang/invoke/MethodHandle" ∧ yX7_byteOf.cls ≠ "java/lang/invoke/VarHandle" ∧ (parseMethodDescriptor yX7_byteOf.desc).map (fun d => d.parameters.length) = some 2 := ⟨by decide, by decide, by decide +kernel⟩
theorem gd_X7_canBeTyped : yX7_canBeTyped.cls ≠ "java/lang/invoke/MethodHandle" ∧ yX7_canBeTyped.cls ≠ "java/lang/invoke/VarHandle" ∧ (parseMethodDescriptor yX7_canBeTyped.desc).map (fun d => d.parameters.length) = some 2 := ⟨by decide, by decide, by decide +kernel⟩
theorem gd_X7_add : yX7_add.cls ≠ "java/lang/invoke/MethodHandle" ∧ yX7_add.cls ≠ "java/lang/invoke/VarHandle" ∧ (parseMethodDescriptor yX7_add.desc).map (fun d => d.parameters.length) = some 2 := ⟨by decide, by decide, by decide +kernel⟩
theorem gd_X9_isLetter : yX9_isLetter.cls ≠ "java/lang/invoke/MethodHandle" ∧ yX9_isLetter.cls ≠ "java/lang/invoke/VarHandle" ∧ (parseMethodDescriptor yX9_isLetter.desc).map (fun d => d.parameters.length) = some 1 := ⟨by decide, by decide, by decide +kernel⟩
theorem gd_X9_isDigit : yX9_isDigit.cls ≠ "java/lang/invoke/MethodHandle" ∧ yX9_isDigit.cls ≠ "java/lang/invoke/VarHandle" ∧ (parseMethodDescriptor yX9_isDigit.desc).map (fun d => d.parameters.length) = some 1 := ⟨by decide, by decide, by decide +kernel⟩
theorem gd_X9_withLetter : yX9_withLetter.cls ≠ "java/lang/invoke/MethodHandle" ∧ yX9_withLetter.cls ≠ "java/lang/invoke/VarHandle" ∧ (parseMethodDescriptor yX9_withLetter.desc).map (fun d => d.parameters.length) = some 2 := ⟨by decide, by decide, by decide +kernel⟩
theorem gd_X9_add : yX9_add.cls ≠ "java/lang/invoke/MethodHandle" ∧ yX9_add.cls ≠ "java/lang/invoke/VarHandle" ∧ (parseMethodDescriptor yX9_add.desc).map (fun d => d.parameters.length) = some 2 := ⟨by decide, by decide, by decide +kernel⟩
theorem gd_X9_kindAt : yX9_kindAt.cls ≠ "java/lang/invoke/MethodHandle" ∧ yX9_kindAt.cls ≠ "java/lang/invoke/VarHandle" ∧ (parseMethodDescriptor yX9_kindAt.desc).map (fun d => d.parameters.length) = some 1 := ⟨by decide, by decide, by decide +kernel⟩
theorem gd_X9_valueAt : yX9_valueAt.cls ≠ "java/lang/invoke/MethodHandle" ∧ yX9_valueAt.cls ≠ "java/lang/invoke/VarHandle" ∧ (parseMethodDescriptor yX9_valueAt.desc).map (fun d => d.parameters.length) = some 1 := ⟨by decide, by decide, by decide +kernel⟩
theorem gd_X9_size : yX9_size.cls ≠ "java/lang/invoke/MethodHandle" ∧ yX9_size.cls ≠ "java/lang/invoke/VarHandle" ∧ (parseMethodDescriptor yX9_size.desc).map (fun d => d.parameters.length) = some 0 := ⟨by decide, by decide, by decide +kernel⟩
theorem gd_X9_takeMark : yX9_takeMark.cls ≠ "java/lang/invoke/MethodHandle" ∧ yX9_takeMark.cls ≠ "java/lang/invoke/VarHandle" ∧ (parseMethodDescriptor yX9_takeMark.desc).map (fun d => d.parameters.length) = some 1 := ⟨by decide, by decide, by decide +kernel⟩
theorem gd_X9_takeDigits : yX9_takeDigits.cls ≠ "java/lang/invoke/MethodHandle" ∧ yX9_takeDigits.cls ≠ "java/lang/invoke/VarHandle" ∧ (parseMethodDescriptor yX9_takeDigits.desc).map (fun d => d.parameters.length) = some 0 := ⟨by decide, by decide, by decide +kernel⟩
theorem gd_X9_takeRegister : yX9_takeRegister.cls ≠ "java/lang/invoke/MethodHandle" ∧ yX9_takeRegister.cls ≠ "java/lang/invoke/VarHandle" ∧ (parseMethodDescriptor yX9_takeRegister.desc).map (fun d => d.parameters.length) = some 0 := ⟨by decide, by decide, by decide +kernel⟩
theorem gd_X9_takeNumber : yX9_takeNumber.cls ≠ "java/lang/invoke/MethodHandle" ∧ yX9_takeNumber.cls ≠ "java/lang/invoke/VarHandle" ∧ (parseMethodDescriptor yX9_takeNumber.desc).map (fun d => d.parameters.length) = some 1 := ⟨by decide, by decide, by decide +kernel⟩
theorem gd_X9_takeLetters : yX9_takeLetters.cls ≠ "java/lang/invoke/MethodHandle" ∧ yX9_takeLetters.cls ≠ "java/lang/invoke/VarHandle" ∧ (parseMethodDescriptor yX9_takeLetters.desc).map (fun d => d.parameters.length) = some 0 := ⟨by decide, by decide, by decide +kernel⟩
theorem gd_X9_split : yX9_split.cls ≠ "java/lang/invoke/MethodHandle" ∧ yX9_split.cls ≠ "java/lang/invoke/VarHandle" ∧ (parseMethodDescriptor yX9_split.desc).map (fun d => d.parameters.length) = some 0 := ⟨by decide, by decide, by decide +kernel⟩
abbrev M_X7_byteOf : g_M := (cX7_byteOf, 3, RX7, (some .char), { frames := 0, cells := 0, slots := 0, locals := 0 }, 0, 0)
theorem dm_X7_byteOf_0 : decode M_X7_byteOf.1 0 = .ok (.lload_n 0, 1) := by decide +kernel
theorem dm_X7_byteOf_1 : decode M_X7_byteOf.1 1 = .ok (.bipush 8, 2) := by decide +kernel
theorem dm_X7_byteOf_3 : decode M_X7_byteOf.1 3 = .ok (.iload_n 2, 1) := by decide +kernel
theorem dm_X7_byteOf_4 : decode M_X7_byteOf.1 4 = .ok (.imul, 1) := by decide +kernel
theorem dm_X7_byteOf_5 : decode M_X7_byteOf.1 5 = .ok (.lushr, 1) := by decide +kernel
theorem dm_X7_byteOf_6 : decode M_X7_byteOf.1 6 = .ok (.ldc2_w 23, 3) := by decide +kernel
theorem dm_X7_byteOf_9 : decode M_X7_byteOf.1 9 = .ok (.land, 1) := by decide +kernel
theorem dm_X7_byteOf_10 : decode M_X7_byteOf.1 10 = .ok (.l2i, 1) := by decide +kernel
theorem dm_X7_byteOf_11 : decode M_X7_byteOf.1 11 = .ok (.i2c, 1) := by decide +kernel
theorem dm_X7_byteOf_12 : decode M_X7_byteOf.1 12 = .ok (.ireturn, 1) := by decide +kernel
def f_X7_byteOf (typed : Int64) (k : Int32) : Int32 := (g_i2c (Int64.toInt32 ((g_lushr typed ((8 : Int32) * k)) &&& (255 : Int64))))
set_option maxRecDepth 20000 in
theorem k_X7_byteOf {typed : Int64} {k : Int32} {r_0 : Int32} (hres : r_0 = f_X7_byteOf typed k) : K M_X7_byteOf yX7_byteOf [.long typed, .int k] [] (some (.int r_0)) [] := by
  refine K.of (lv := [(0, .long typed), (2, .int k)]) (by decide +kernel) rfl rfl rfl ?_
  rw [f_X7_byteOf] at hres
  refine G.lload_n (pc := 0) dm_X7_byteOf_0 rfl ?_
  refine G.bipush (pc := 1) (v := (8 : Int32)) dm_X7_byteOf_1 qb_8 ?_
  refine G.iload_n (pc := 3) dm_X7_byteOf_3 rfl ?_
  refine G.imul (pc := 4) dm_X7_byteOf_4 ?_
  refine G.lushr (pc := 5) dm_X7_byteOf_5 ?_
  refine G.ldc2 (pc := 6) dm_X7_byteOf_6 tw142 ?_
  refine G.land (pc := 9) dm_X7_byteOf_9 ?_
  refine G.l2i (pc := 10) dm_X7_byteOf_10 ?_
  refine G.i2c (pc := 11) dm_X7_byteOf_11 ?_
  subst hres
  exact G.zreturn (pc := 12) dm_X7_byteOf_12 rfl (pk_nc _) rfl rfl
abbrev M_X7_canBeTyped : g_M := (cX7_canBeTyped, 5, RX7, (some .boolean), { frames := 1, cells := 0, slots := 0, locals := 22 }, 0, 0)
theorem dm_X7_canBeTyped_0 : decode M_X7_canBeTyped.1 0 = .ok (.iload_n 2, 1) := by decide +kernel
theorem dm_X7_canBeTyped_1 : decode M_X7_canBeTyped.1 1 = .ok (.iconst 1, 1) := by decide +kernel
theorem dm_X7_canBeTyped_2 : decode M_X7_canBeTyped.1 2 = .ok (.if_icmp .lt 9, 3) := by decide +kernel
theorem dm_X7_canBeTyped_5 : decode M_X7_canBeTyped.1 5 = .ok (.iload_n 2, 1) := by decide +kernel
theorem dm_X7_canBeTyped_6 : decode M_X7_canBeTyped.1 6 = .ok (.bipush 8, 2) := by decide +kernel
theorem dm_X7_canBeTyped_8 : decode M_X7_canBeTyped.1 8 = .ok (.if_icmp .le 5, 3) := by decide +kernel
theorem dm_X7_canBeTyped_11 : decode M_X7_canBeTyped.1 11 = .ok (.iconst 0, 1) := by decide +kernel
theorem dm_X7_canBeTyped_12 : decode M_X7_canBeTyped.1 12 = .ok (.ireturn, 1) := by decide +kernel
theorem dm_X7_canBeTyped_13 : decode M_X7_canBeTyped.1 13 = .ok (.iconst 0, 1) := by decide +kernel
theorem dm_X7_canBeTyped_14 : decode M_X7_canBeTyped.1 14 = .ok (.istore_n 3, 1) := by decide +kernel
theorem dm_X7_canBeTyped_15 : decode M_X7_canBeTyped.1 15 = .ok (.iload_n 3, 1) := by decide +kernel
theorem dm_X7_canBeTyped_16 : decode M_X7_canBeTyped.1 16 = .ok (.iload_n 2, 1) := by decide +kernel
theorem dm_X7_canBeTyped_17 : decode M_X7_canBeTyped.1 17 = .ok (.if_icmp .ge 39, 3) := by decide +kernel
theorem dm_X7_canBeTyped_20 : decode M_X7_canBeTyped.1 20 = .ok (.lload_n 0, 1) := by decide +kernel
theorem dm_X7_canBeTyped_21 : decode M_X7_canBeTyped.1 21 = .ok (.iload_n 3, 1) := by decide +kernel
theorem dm_X7_canBeTyped_22 : decode M_X7_canBeTyped.1 22 = .ok (.invokestatic 15, 3) := by decide +kernel
theorem dm_X7_canBeTyped_25 : decode M_X7_canBeTyped.1 25 = .ok (.istore 4, 2) := by decide +kernel
theorem dm_X7_canBeTyped_27 : decode M_X7_canBeTyped.1 27 = .ok (.iload 4, 2) := by decide +kernel
theorem dm_X7_canBeTyped_29 : decode M_X7_canBeTyped.1 29 = .ok (.bipush 10, 2) := by decide +kernel
theorem dm_X7_canBeTyped_31 : decode M_X7_canBeTyped.1 31 = .ok (.if_icmp .eq 19, 3) := by decide +kernel
theorem dm_X7_canBeTyped_34 : decode M_X7_canBeTyped.1 34 = .ok (.iload 4, 2) := by decide +kernel
theorem dm_X7_canBeTyped_36 : decode M_X7_canBeTyped.1 36 = .ok (.bipush 32, 2) := by decide +kernel
theorem dm_X7_canBeTyped_38 : decode M_X7_canBeTyped.1 38 = .ok (.if_icmp .lt 10, 3) := by decide +kernel
theorem dm_X7_canBeTyped_41 : decode M_X7_canBeTyped.1 41 = .ok (.iload 4, 2) := by decide +kernel
theorem dm_X7_canBeTyped_43 : decode M_X7_canBeTyped.1 43 = .ok (.bipush 126, 2) := by decide +kernel
theorem dm_X7_canBeTyped_45 : decode M_X7_canBeTyped.1 45 = .ok (.if_icmp .le 5, 3) := by decide +kernel
theorem dm_X7_canBeTyped_48 : decode M_X7_canBeTyped.1 48 = .ok (.iconst 0, 1) := by decide +kernel
theorem dm_X7_canBeTyped_49 : decode M_X7_canBeTyped.1 49 = .ok (.ireturn, 1) := by decide +kernel
theorem dm_X7_canBeTyped_50 : decode M_X7_canBeTyped.1 50 = .ok (.iinc 3 1, 3) := by decide +kernel
theorem dm_X7_canBeTyped_53 : decode M_X7_canBeTyped.1 53 = .ok (.goto (-38), 3) := by decide +kernel
theorem dm_X7_canBeTyped_56 : decode M_X7_canBeTyped.1 56 = .ok (.iconst 1, 1) := by decide +kernel
theorem dm_X7_canBeTyped_57 : decode M_X7_canBeTyped.1 57 = .ok (.ireturn, 1) := by decide +kernel
theorem gc_X7_canBeTyped_15 : g_cs M_X7_canBeTyped 15 M_X7_byteOf yX7_byteOf 2 := ⟨tw139, tw140, tw35, tw141, ⟨rfl, rfl, rfl, rfl⟩, gd_X7_byteOf, ⟨by decide, by decide⟩⟩
def f_X7_canBeTyped_50 (l0 : Int64) (l2 : Int32) (l3 : Int32) (kL15 : Int64 → Int32 → Int32 → Int32) : Int32 := (kL15 l0 l2 (l3 + (1 : Int32)))
set_option maxRecDepth 20000 in
theorem j_X7_canBeTyped_50 {l0 : Int64} {l2 : Int32} {l3 : Int32} {kL15 : Int64 → Int32 → Int32 → Int32} {r_0 : Int32} (hres : r_0 = (f_X7_canBeTyped_50 l0 l2 l3 kL15)) (hn : l2.toInt ≤ 8) (h3 : 0 ≤ l3.toInt) (hlt : l3.toInt < l2.toInt) {mu : Nat} (hmu : (8 - l3.toInt.toNat) = mu) (hk15 : ∀ {l0 : Int64} {l2 : Int32} {l3 : Int32}, (l2.toInt ≤ 8) → (0 ≤ l3.toInt) → (8 - l3.toInt.toNat) < mu → r_0 = kL15 l0 l2 l3 → G M_X7_canBeTyped 0 0 15 [(0, .long l0), (2, .int l2), (3, .int l3)] [] [] (some (.int r_0)) []) : G M_X7_canBeTyped 0 0 50 [(0, .long l0), (2, .int l2), (3, .int l3)] [] [] (some (.int r_0)) [] := by
  rw [f_X7_canBeTyped_50] at hres
  refine G.iinc (pc := 50) (v := (l3 + (1 : Int32))) (lv1 := [(3, .int (l3 + (1 : Int32))), (0, .long l0), (2, .int l2)]) dm_X7_canBeTyped_50 rfl rfl rfl rfl ?_
  refine G.goto (pc := 53) (tgt := 15) dm_X7_canBeTyped_53 (by decide) ?_
  refine G.lvp [1, 2, 0] rfl ?_
  exact hk15 hn (by rw [q_inc (by omega)]; omega) (by rw [q_inc (by omega)]; omega) hres
def f_X7_canBeTyped_c22 (l0 : Int64) (l2 : Int32) (l3 : Int32) (kL15 : Int64 → Int32 → Int32 → Int32) (z1_0 : Int32) : Int32 := (if z1_0 = (10 : Int32) then (f_X7_canBeTyped_50 l0 l2 l3 kL15) else (if z1_0 < (32 : Int32) then (0 : Int32) else (if z1_0 ≤ (126 : Int32) then (f_X7_canBeTyped_50 l0 l2 l3 kL15) else (0 : Int32))))
def f_X7_canBeTyped_15 : Nat → Int64 → Int32 → Int32 → Int32
  | 0, l0, l2, l3 => 0
  | n + 1, l0, l2, l3 => (if l2 ≤ l3 then (1 : Int32) else (f_X7_canBeTyped_c22 l0 l2 l3 (f_X7_canBeTyped_15 n) (f_X7_byteOf l0 l3)))
set_option maxRecDepth 20000 in
theorem j_X7_canBeTyped_15 : ∀ (n : Nat) {l0 : Int64} {l2 : Int32} {l3 : Int32} {r_0 : Int32}, (hn : l2.toInt ≤ 8) → (h3 : 0 ≤ l3.toInt) → (8 - l3.toInt.toNat) < n → r_0 = f_X7_canBeTyped_15 n l0 l2 l3 → G M_X7_canBeTyped 0 0 15 [(0, .long l0), (2, .int l2), (3, .int l3)] [] [] (some (.int r_0)) [] := by
  intro n
  induction n with
  | zero =>
    intro l0 l2 l3 r_0 hn h3 hm hres
    exact absurd hm (Nat.not_lt_zero _)
  | succ n ih =>
    intro l0 l2 l3 r_0 hn h3 hm hres
    obtain ⟨mu, hmu⟩ : ∃ z, (8 - l3.toInt.toNat) = z := ⟨_, rfl⟩
    rw [hmu] at hm
    have hk15 : ∀ {l0 : Int64} {l2 : Int32} {l3 : Int32}, (l2.toInt ≤ 8) → (0 ≤ l3.toInt) → (8 - l3.toInt.toNat) < mu → r_0 = (f_X7_canBeTyped_15 n) l0 l2 l3 → G M_X7_canBeTyped 0 0 15 [(0, .long l0), (2, .int l2), (3, .int l3)] [] [] (some (.int r_0)) [] := fun hn h3 hlt he => ih hn h3 (Nat.lt_of_lt_of_le hlt (Nat.le_of_lt_succ hm)) he
    rw [f_X7_canBeTyped_15] at hres
    refine G.iload_n (pc := 15) dm_X7_canBeTyped_15 rfl ?_
    refine G.iload_n (pc := 16) dm_X7_canBeTyped_16 rfl ?_
    refine G.icmp_ge (pc := 17) (tgt := 56) dm_X7_canBeTyped_17 (by decide) (fun c17 => ?_) (fun c17 => ?_)
    · rw [if_pos c17] at hres
      refine G.iconst (pc := 56) (v := (1 : Int32)) dm_X7_canBeTyped_56 qi_1 ?_
      subst hres
      exact G.zreturn (pc := 57) dm_X7_canBeTyped_57 rfl (by decide) rfl rfl
    · rw [if_neg c17] at hres
      have hlt := q_nle c17
      refine G.lload_n (pc := 20) dm_X7_canBeTyped_20 rfl ?_
      refine G.iload_n (pc := 21) dm_X7_canBeTyped_21 rfl ?_
      obtain ⟨z1_0, hz1⟩ := g_ex1 (f_X7_byteOf l0 l3)
      refine G.callS (pc := 22) (rest := []) (st1 := [.int z1_0]) (ws1 := []) [] dm_X7_canBeTyped_22 gc_X7_canBeTyped_15 (k_X7_byteOf (typed := l0) (k := l3) hz1) rfl rfl rfl rfl rfl rfl rfl rfl ?_
      replace hres : r_0 = f_X7_canBeTyped_c22 l0 l2 l3 (f_X7_canBeTyped_15 n) z1_0 := hres.trans (by rw [← hz1])
      rw [f_X7_canBeTyped_c22] at hres
      refine G.istore (pc := 25) (lv1 := [(4, .int z1_0), (0, .long l0), (2, .int l2), (3, .int l3)]) dm_X7_canBeTyped_25 rfl rfl ?_
      refine G.iload (pc := 27) dm_X7_canBeTyped_27 rfl ?_
      refine G.bipush (pc := 29) (v := (10 : Int32)) dm_X7_canBeTyped_29 qb_10 ?_
      refine G.icmp_eq (pc := 31) (tgt := 50) dm_X7_canBeTyped_31 (by decide) (fun c31 => ?_) (fun c31 => ?_)
      · rw [if_pos c31] at hres
        refine G.lvp [1, 2, 3] rfl ?_
        exact j_X7_canBeTyped_50 hres (by assumption) (by assumption) (by assumption) hmu hk15
      · rw [if_neg c31] at hres
        refine G.iload (pc := 34) dm_X7_canBeTyped_34 rfl ?_
        refine G.bipush (pc := 36) (v := (32 : Int32)) dm_X7_canBeTyped_36 qb_32 ?_
        refine G.icmp_lt (pc := 38) (tgt := 48) dm_X7_canBeTyped_38 (by decide) (fun c38 => ?_) (fun c38 => ?_)
        · rw [if_pos c38] at hres
          refine G.iconst (pc := 48) (v := (0 : Int32)) dm_X7_canBeTyped_48 qi_0 ?_
          subst hres
          exact G.zreturn (pc := 49) dm_X7_canBeTyped_49 rfl (by decide) rfl rfl
        · rw [if_neg c38] at hres
          refine G.iload (pc := 41) dm_X7_canBeTyped_41 rfl ?_
          refine G.bipush (pc := 43) (v := (126 : Int32)) dm_X7_canBeTyped_43 qb_126 ?_
          refine G.icmp_le (pc := 45) (tgt := 50) dm_X7_canBeTyped_45 (by decide) (fun c45 => ?_) (fun c45 => ?_)
          · rw [if_pos c45] at hres
            refine G.lvp [1, 2, 3] rfl ?_
            exact j_X7_canBeTyped_50 hres (by assumption) (by assumption) (by assumption) hmu hk15
          · rw [if_neg c45] at hres
            refine G.iconst (pc := 48) (v := (0 : Int32)) dm_X7_canBeTyped_48 qi_0 ?_
            subst hres
            exact G.zreturn (pc := 49) dm_X7_canBeTyped_49 rfl (by decide) rfl rfl
def f_X7_canBeTyped (typed : Int64) (n : Int32) : Int32 := (if n < (1 : Int32) then (0 : Int32) else (if n ≤ (8 : Int32) then (f_X7_canBeTyped_15 (9) typed n (0 : Int32)) else (0 : Int32)))
set_option maxRecDepth 20000 in
theorem k_X7_canBeTyped {typed : Int64} {n : Int32} {r_0 : Int32} (hres : r_0 = f_X7_canBeTyped typed n) : K M_X7_canBeTyped yX7_canBeTyped [.long typed, .int n] [] (some (.int r_0)) [] := by
  refine K.of (lv := [(0, .long typed), (2, .int n)]) (by decide +kernel) rfl rfl rfl ?_
  rw [f_X7_canBeTyped] at hres
  refine G.iload_n (pc := 0) dm_X7_canBeTyped_0 rfl ?_
  refine G.iconst (pc := 1) (v := (1 : Int32)) dm_X7_canBeTyped_1 qi_1 ?_
  refine G.icmp_lt (pc := 2) (tgt := 11) dm_X7_canBeTyped_2 (by decide) (fun c2 => ?_) (fun c2 => ?_)
  · rw [if_pos c2] at hres
    refine G.iconst (pc := 11) (v := (0 : Int32)) dm_X7_canBeTyped_11 qi_0 ?_
    subst hres
    exact G.zreturn (pc := 12) dm_X7_canBeTyped_12 rfl (by decide) rfl rfl
  · rw [if_neg c2] at hres
    refine G.iload_n (pc := 5) dm_X7_canBeTyped_5 rfl ?_
    refine G.bipush (pc := 6) (v := (8 : Int32)) dm_X7_canBeTyped_6 qb_8 ?_
    refine G.icmp_le (pc := 8) (tgt := 13) dm_X7_canBeTyped_8 (by decide) (fun c8 => ?_) (fun c8 => ?_)
    · rw [if_pos c8] at hres
      refine G.iconst (pc := 13) (v := (0 : Int32)) dm_X7_canBeTyped_13 qi_0 ?_
      refine G.istore_n (pc := 14) (lv1 := [(3, .int (0 : Int32)), (0, .long typed), (2, .int n)]) dm_X7_canBeTyped_14 rfl rfl ?_
      refine G.lvp [1, 2, 0] rfl ?_
      exact j_X7_canBeTyped_15 _ (q_le8 c8) (by decide) (by decide) hres
    · rw [if_neg c8] at hres
      refine G.iconst (pc := 11) (v := (0 : Int32)) dm_X7_canBeTyped_11 qi_0 ?_
      subst hres
      exact G.zreturn (pc := 12) dm_X7_canBeTyped_12 rfl (by decide) rfl rfl
abbrev M_X7_add : g_M := (cX7_add, 5, RX7, none, { frames := 1, cells := 0, slots := 0, locals := 22 }, 0, 0)
theorem dm_X7_add_0 : decode M_X7_add.1 0 = .ok (.iconst 0, 1) := by decide +kernel
theorem dm_X7_add_1 : decode M_X7_add.1 1 = .ok (.istore 4, 2) := by decide +kernel
theorem dm_X7_add_3 : decode M_X7_add.1 3 = .ok (.iload 4, 2) := by decide +kernel
theorem dm_X7_add_5 : decode M_X7_add.1 5 = .ok (.iload_n 3, 1) := by decide +kernel
theorem dm_X7_add_6 : decode M_X7_add.1 6 = .ok (.if_icmp .ge 44, 3) := by decide +kernel
theorem dm_X7_add_9 : decode M_X7_add.1 9 = .ok (.aload_n 0, 1) := by decide +kernel
theorem dm_X7_add_10 : decode M_X7_add.1 10 = .ok (.getfield 19, 3) := by decide +kernel
theorem dm_X7_add_13 : decode M_X7_add.1 13 = .ok (.sipush 400, 3) := by decide +kernel
theorem dm_X7_add_16 : decode M_X7_add.1 16 = .ok (.if_icmp .ge 34, 3) := by decide +kernel
theorem dm_X7_add_19 : decode M_X7_add.1 19 = .ok (.aload_n 0, 1) := by decide +kernel
theorem dm_X7_add_20 : decode M_X7_add.1 20 = .ok (.getfield 9, 3) := by decide +kernel
theorem dm_X7_add_23 : decode M_X7_add.1 23 = .ok (.aload_n 0, 1) := by decide +kernel
theorem dm_X7_add_24 : decode M_X7_add.1 24 = .ok (.getfield 19, 3) := by decide +kernel
theorem dm_X7_add_27 : decode M_X7_add.1 27 = .ok (.lload_n 1, 1) := by decide +kernel
theorem dm_X7_add_28 : decode M_X7_add.1 28 = .ok (.iload 4, 2) := by decide +kernel
theorem dm_X7_add_30 : decode M_X7_add.1 30 = .ok (.invokestatic 15, 3) := by decide +kernel
theorem dm_X7_add_33 : decode M_X7_add.1 33 = .ok (.castore, 1) := by decide +kernel
theorem dm_X7_add_34 : decode M_X7_add.1 34 = .ok (.aload_n 0, 1) := by decide +kernel
theorem dm_X7_add_35 : decode M_X7_add.1 35 = .ok (.dup, 1) := by decide +kernel
theorem dm_X7_add_36 : decode M_X7_add.1 36 = .ok (.getfield 19, 3) := by decide +kernel
theorem dm_X7_add_39 : decode M_X7_add.1 39 = .ok (.iconst 1, 1) := by decide +kernel
theorem dm_X7_add_40 : decode M_X7_add.1 40 = .ok (.iadd, 1) := by decide +kernel
theorem dm_X7_add_41 : decode M_X7_add.1 41 = .ok (.putfield 19, 3) := by decide +kernel
theorem dm_X7_add_44 : decode M_X7_add.1 44 = .ok (.iinc 4 1, 3) := by decide +kernel
theorem dm_X7_add_47 : decode M_X7_add.1 47 = .ok (.goto (-44), 3) := by decide +kernel
theorem dm_X7_add_50 : decode M_X7_add.1 50 = .ok (.return_, 1) := by decide +kernel
theorem gc_X7_add_15 : g_cs M_X7_add 15 M_X7_byteOf yX7_byteOf 2 := ⟨tw139, tw140, tw35, tw141, ⟨rfl, rfl, rfl, rfl⟩, gd_X7_byteOf, ⟨by decide, by decide⟩⟩
def f_X7_add_c30 (tlen : Int32) (tchars : Nat → Int32) (l1 : Int64) (l3 : Int32) (l4 : Int32) (kL3 : Int64 → Int32 → Int32 → Int32 → (Nat → Int32) → Int32 × (Nat → Int32)) (z1_0 : Int32) : Int32 × (Nat → Int32) := (kL3 l1 l3 (l4 + (1 : Int32)) (tlen + (1 : Int32)) (upd tchars (Int32.toNatClampNeg tlen) (vp_nar .char z1_0)))
def f_X7_add_3 : Nat → Int64 → Int32 → Int32 → Int32 → (Nat → Int32) → Int32 × (Nat → Int32)
  | 0, l1, l3, l4, tlen, tchars => (tlen, tchars)
  | n + 1, l1, l3, l4, tlen, tchars => (if l3 ≤ l4 then (tlen, tchars) else (if (400 : Int32) ≤ tlen then (tlen, tchars) else (f_X7_add_c30 tlen tchars l1 l3 l4 (f_X7_add_3 n) (f_X7_byteOf l1 l4))))
set_option maxRecDepth 20000 in
theorem j_X7_add_3 : ∀ (n : Nat) {l1 : Int64} {l3 : Int32} {l4 : Int32} {tlen : Int32} {tchars : Nat → Int32} {r_0 : Int32} {r_1 : (Nat → Int32)}, (hn : l3.toInt ≤ 8) → (htl : 0 ≤ tlen.toInt ∧ tlen.toInt ≤ 400) → (h4 : 0 ≤ l4.toInt) → (8 - l4.toInt.toNat) < n → (r_0, r_1) = f_X7_add_3 n l1 l3 l4 tlen tchars → G M_X7_add 0 0 3 [(0, .ref 0), (1, .long l1), (3, .int l3), (4, .int l4)] [] (w_X tlen tchars) (none) (w_X r_0 r_1) := by
  intro n
  induction n with
  | zero =>
    intro l1 l3 l4 tlen tchars r_0 r_1 hn htl h4 hm hres
    exact absurd hm (Nat.not_lt_zero _)
  | succ n ih =>
    intro l1 l3 l4 tlen tchars r_0 r_1 hn htl h4 hm hres
    obtain ⟨mu, hmu⟩ : ∃ z, (8 - l4.toInt.toNat) = z := ⟨_, rfl⟩
    rw [hmu] at hm
    have hk3 : ∀ {l1 : Int64} {l3 : Int32} {l4 : Int32} {tlen : Int32} {tchars : Nat → Int32}, (l3.toInt ≤ 8) → (0 ≤ tlen.toInt ∧ tlen.toInt ≤ 400) → (0 ≤ l4.toInt) → (8 - l4.toInt.toNat) < mu → (r_0, r_1) = (f_X7_add_3 n) l1 l3 l4 tlen tchars → G M_X7_add 0 0 3 [(0, .ref 0), (1, .long l1), (3, .int l3), (4, .int l4)] [] (w_X tlen tchars) (none) (w_X r_0 r_1) := fun hn htl h4 hlt he => ih hn htl h4 (Nat.lt_of_lt_of_le hlt (Nat.le_of_lt_succ hm)) he
    rw [f_X7_add_3] at hres
    refine G.iload (pc := 3) dm_X7_add_3 rfl ?_
    refine G.iload_n (pc := 5) dm_X7_add_5 rfl ?_
    refine G.icmp_ge (pc := 6) (tgt := 50) dm_X7_add_6 (by decide) (fun c6 => ?_) (fun c6 => ?_)
    · rw [if_pos c6] at hres
      cases hres
      exact G.vreturn (pc := 50) dm_X7_add_50 rfl rfl rfl
    · rw [if_neg c6] at hres
      refine G.aload_n (pc := 9) dm_X7_add_9 rfl ?_
      refine G.getfield (pc := 10) dm_X7_add_10 gf_X7_19 rfl rfl ?_
      refine G.sipush (pc := 13) (v := (400 : Int32)) dm_X7_add_13 qs_400 ?_
      refine G.icmp_ge (pc := 16) (tgt := 50) dm_X7_add_16 (by decide) (fun c16 => ?_) (fun c16 => ?_)
      · rw [if_pos c16] at hres
        cases hres
        exact G.vreturn (pc := 50) dm_X7_add_50 rfl rfl rfl
      · rw [if_neg c16] at hres
        have hl4 := q_400 c16
        refine G.aload_n (pc := 19) dm_X7_add_19 rfl ?_
        refine G.getfield (pc := 20) dm_X7_add_20 gf_X7_9 rfl rfl ?_
        refine G.aload_n (pc := 23) dm_X7_add_23 rfl ?_
        refine G.getfield (pc := 24) dm_X7_add_24 gf_X7_19 rfl rfl ?_
        refine G.lload_n (pc := 27) dm_X7_add_27 rfl ?_
        refine G.iload (pc := 28) dm_X7_add_28 rfl ?_
        obtain ⟨z1_0, hz1⟩ := g_ex1 (f_X7_byteOf l1 l4)
        refine G.callS (pc := 30) (rest := [.int tlen, .ref 1]) (st1 := [.int z1_0, .int tlen, .ref 1]) (ws1 := (w_X tlen tchars)) [] dm_X7_add_30 gc_X7_add_15 (k_X7_byteOf (typed := l1) (k := l4) hz1) rfl rfl rfl rfl rfl rfl rfl rfl ?_
        replace hres : (r_0, r_1) = f_X7_add_c30 tlen tchars l1 l3 l4 (f_X7_add_3 n) z1_0 := hres.trans (by rw [← hz1])
        rw [f_X7_add_c30] at hres
        refine G.castore (pc := 33) (ws1 := (w_X tlen (upd tchars (Int32.toNatClampNeg tlen) (vp_nar .char z1_0)))) dm_X7_add_33 rfl (q_in htl.1 (by omega)) rfl ?_
        refine G.aload_n (pc := 34) dm_X7_add_34 rfl ?_
        refine G.dup (pc := 35) dm_X7_add_35 rfl ?_
        refine G.getfield (pc := 36) dm_X7_add_36 gf_X7_19 rfl rfl ?_
        refine G.iconst (pc := 39) (v := (1 : Int32)) dm_X7_add_39 qi_1 ?_
        refine G.iadd (pc := 40) dm_X7_add_40 ?_
        refine G.putfield (pc := 41) (ws1 := (w_X (tlen + (1 : Int32)) (upd tchars (Int32.toNatClampNeg tlen) (vp_nar .char z1_0)))) dm_X7_add_41 gw_X7_19 rfl (g_fit_i _) rfl rfl ?_
        refine G.iinc (pc := 44) (v := (l4 + (1 : Int32))) (lv1 := [(4, .int (l4 + (1 : Int32))), (0, .ref 0), (1, .long l1), (3, .int l3)]) dm_X7_add_44 rfl rfl rfl rfl ?_
        refine G.goto (pc := 47) (tgt := 3) dm_X7_add_47 (by decide) ?_
        refine G.lvp [1, 2, 3, 0] rfl ?_
        exact hk3 hn (by rw [q_inc (by omega)]; omega) (by have := q_nle c6; rw [q_inc (by omega)]; omega) (by have := q_nle c6; rw [q_inc (by omega)]; omega) hres
def f_X7_add (typed : Int64) (n : Int32) (tlen : Int32) (tchars : Nat → Int32) : Int32 × (Nat → Int32) := (f_X7_add_3 (9) typed n (0 : Int32) tlen tchars)
set_option maxRecDepth 20000 in
theorem k_X7_add {typed : Int64} {n : Int32} {tlen : Int32} {tchars : Nat → Int32} (hn : n.toInt ≤ 8) (htl : 0 ≤ tlen.toInt ∧ tlen.toInt ≤ 400) {r_0 : Int32} {r_1 : (Nat → Int32)} (hres : (r_0, r_1) = f_X7_add typed n tlen tchars) : K M_X7_add yX7_add [.ref 0, .long typed, .int n] (w_X tlen tchars) (none) (w_X r_0 r_1) := by
  refine K.of (lv := [(0, .ref 0), (1, .long typed), (3, .int n)]) (by decide +kernel) rfl rfl rfl ?_
  rw [f_X7_add] at hres
  refine G.iconst (pc := 0) (v := (0 : Int32)) dm_X7_add_0 qi_0 ?_
  refine G.istore (pc := 1) (lv1 := [(4, .int (0 : Int32)), (0, .ref 0), (1, .long typed), (3, .int n)]) dm_X7_add_1 rfl rfl ?_
  refine G.lvp [1, 2, 3, 0] rfl ?_
  exact j_X7_add_3 _ hn htl (by decide) (by decide) hres
abbrev M_X9_isLetter : g_M := (cX9_isLetter, 1, RX9, (some .boolean), { frames := 0, cells := 0, slots := 0, locals := 0 }, 0, 0)
theorem dm_X9_isLetter_0 : decode M_X9_isLetter.1 0 = .ok (.iload_n 0, 1) := by decide +kernel
theorem dm_X9_isLetter_1 : decode M_X9_isLetter.1 1 = .ok (.bipush 97, 2) := by decide +kernel
theorem dm_X9_isLetter_3 : decode M_X9_isLetter.1 3 = .ok (.if_icmp .lt 13, 3) := by decide +kernel
theorem dm_X9_isLetter_6 : decode M_X9_isLetter.1 6 = .ok (.iload_n 0, 1) := by decide +kernel
theorem dm_X9_isLetter_7 : decode M_X9_isLetter.1 7 = .ok (.bipush 122, 2) := by decide +kernel
theorem dm_X9_isLetter_9 : decode M_X9_isLetter.1 9 = .ok (.if_icmp .gt 7, 3) := by decide +kernel
theorem dm_X9_isLetter_12 : decode M_X9_isLetter.1 12 = .ok (.iconst 1, 1) := by decide +kernel
theorem dm_X9_isLetter_13 : decode M_X9_isLetter.1 13 = .ok (.goto 4, 3) := by decide +kernel
theorem dm_X9_isLetter_16 : decode M_X9_isLetter.1 16 = .ok (.iconst 0, 1) := by decide +kernel
theorem dm_X9_isLetter_17 : decode M_X9_isLetter.1 17 = .ok (.ireturn, 1) := by decide +kernel
def f_X9_isLetter (c : Int32) : Int32 := (if c < (97 : Int32) then (0 : Int32) else (if (122 : Int32) < c then (0 : Int32) else (1 : Int32)))
set_option maxRecDepth 20000 in
theorem k_X9_isLetter {c : Int32} {r_0 : Int32} (hres : r_0 = f_X9_isLetter c) : K M_X9_isLetter yX9_isLetter [.int c] [] (some (.int r_0)) [] := by
  refine K.of (lv := [(0, .int c)]) (by decide +kernel) rfl rfl rfl ?_
  rw [f_X9_isLetter] at hres
  refine G.iload_n (pc := 0) dm_X9_isLetter_0 rfl ?_
  refine G.bipush (pc := 1) (v := (97 : Int32)) dm_X9_isLetter_1 qb_97 ?_
  refine G.icmp_lt (pc := 3) (tgt := 16) dm_X9_isLetter_3 (by decide) (fun c3 => ?_) (fun c3 => ?_)
  · rw [if_pos c3] at hres
    refine G.iconst (pc := 16) (v := (0 : Int32)) dm_X9_isLetter_16 qi_0 ?_
    subst hres
    exact G.zreturn (pc := 17) dm_X9_isLetter_17 rfl (by decide) rfl rfl
  · rw [if_neg c3] at hres
    refine G.iload_n (pc := 6) dm_X9_isLetter_6 rfl ?_
    refine G.bipush (pc := 7) (v := (122 : Int32)) dm_X9_isLetter_7 qb_122 ?_
    refine G.icmp_gt (pc := 9) (tgt := 16) dm_X9_isLetter_9 (by decide) (fun c9 => ?_) (fun c9 => ?_)
    · rw [if_pos c9] at hres
      refine G.iconst (pc := 16) (v := (0 : Int32)) dm_X9_isLetter_16 qi_0 ?_
      subst hres
      exact G.zreturn (pc := 17) dm_X9_isLetter_17 rfl (by decide) rfl rfl
    · rw [if_neg c9] at hres
      refine G.iconst (pc := 12) (v := (1 : Int32)) dm_X9_isLetter_12 qi_1 ?_
      refine G.goto (pc := 13) (tgt := 17) dm_X9_isLetter_13 (by decide) ?_
      subst hres
      exact G.zreturn (pc := 17) dm_X9_isLetter_17 rfl (by decide) rfl rfl
abbrev M_X9_isDigit : g_M := (cX9_isDigit, 1, RX9, (some .boolean), { frames := 0, cells := 0, slots := 0, locals := 0 }, 0, 0)
theorem dm_X9_isDigit_0 : decode M_X9_isDigit.1 0 = .ok (.iload_n 0, 1) := by decide +kernel
theorem dm_X9_isDigit_1 : decode M_X9_isDigit.1 1 = .ok (.bipush 48, 2) := by decide +kernel
theorem dm_X9_isDigit_3 : decode M_X9_isDigit.1 3 = .ok (.if_icmp .lt 13, 3) := by decide +kernel
theorem dm_X9_isDigit_6 : decode M_X9_isDigit.1 6 = .ok (.iload_n 0, 1) := by decide +kernel
theorem dm_X9_isDigit_7 : decode M_X9_isDigit.1 7 = .ok (.bipush 57, 2) := by decide +kernel
theorem dm_X9_isDigit_9 : decode M_X9_isDigit.1 9 = .ok (.if_icmp .gt 7, 3) := by decide +kernel
theorem dm_X9_isDigit_12 : decode M_X9_isDigit.1 12 = .ok (.iconst 1, 1) := by decide +kernel
theorem dm_X9_isDigit_13 : decode M_X9_isDigit.1 13 = .ok (.goto 4, 3) := by decide +kernel
theorem dm_X9_isDigit_16 : decode M_X9_isDigit.1 16 = .ok (.iconst 0, 1) := by decide +kernel
theorem dm_X9_isDigit_17 : decode M_X9_isDigit.1 17 = .ok (.ireturn, 1) := by decide +kernel
def f_X9_isDigit (c : Int32) : Int32 := (if c < (48 : Int32) then (0 : Int32) else (if (57 : Int32) < c then (0 : Int32) else (1 : Int32)))
set_option maxRecDepth 20000 in
theorem k_X9_isDigit {c : Int32} {r_0 : Int32} (hres : r_0 = f_X9_isDigit c) : K M_X9_isDigit yX9_isDigit [.int c] [] (some (.int r_0)) [] := by
  refine K.of (lv := [(0, .int c)]) (by decide +kernel) rfl rfl rfl ?_
  rw [f_X9_isDigit] at hres
  refine G.iload_n (pc := 0) dm_X9_isDigit_0 rfl ?_
  refine G.bipush (pc := 1) (v := (48 : Int32)) dm_X9_isDigit_1 qb_48 ?_
  refine G.icmp_lt (pc := 3) (tgt := 16) dm_X9_isDigit_3 (by decide) (fun c3 => ?_) (fun c3 => ?_)
  · rw [if_pos c3] at hres
    refine G.iconst (pc := 16) (v := (0 : Int32)) dm_X9_isDigit_16 qi_0 ?_
    subst hres
    exact G.zreturn (pc := 17) dm_X9_isDigit_17 rfl (by decide) rfl rfl
  · rw [if_neg c3] at hres
    refine G.iload_n (pc := 6) dm_X9_isDigit_6 rfl ?_
    refine G.bipush (pc := 7) (v := (57 : Int32)) dm_X9_isDigit_7 qb_57 ?_
    refine G.icmp_gt (pc := 9) (tgt := 16) dm_X9_isDigit_9 (by decide) (fun c9 => ?_) (fun c9 => ?_)
    · rw [if_pos c9] at hres
      refine G.iconst (pc := 16) (v := (0 : Int32)) dm_X9_isDigit_16 qi_0 ?_
      subst hres
      exact G.zreturn (pc := 17) dm_X9_isDigit_17 rfl (by decide) rfl rfl
    · rw [if_neg c9] at hres
      refine G.iconst (pc := 12) (v := (1 : Int32)) dm_X9_isDigit_12 qi_1 ?_
      refine G.goto (pc := 13) (tgt := 17) dm_X9_isDigit_13 (by decide) ?_
      subst hres
      exact G.zreturn (pc := 17) dm_X9_isDigit_17 rfl (by decide) rfl rfl
abbrev M_X9_withLetter : g_M := (cX9_withLetter, 3, RX9, (some .long), { frames := 0, cells := 0, slots := 0, locals := 0 }, 0, 0)
theorem dm_X9_withLetter_0 : decode M_X9_withLetter.1 0 = .ok (.lload_n 0, 1) := by decide +kernel
theorem dm_X9_withLetter_1 : decode M_X9_withLetter.1 1 = .ok (.iconst 5, 1) := by decide +kernel
theorem dm_X9_withLetter_2 : decode M_X9_withLetter.1 2 = .ok (.lshl, 1) := by decide +kernel
theorem dm_X9_withLetter_3 : decode M_X9_withLetter.1 3 = .ok (.iload_n 2, 1) := by decide +kernel
theorem dm_X9_withLetter_4 : decode M_X9_withLetter.1 4 = .ok (.bipush 97, 2) := by decide +kernel
theorem dm_X9_withLetter_6 : decode M_X9_withLetter.1 6 = .ok (.isub, 1) := by decide +kernel
theorem dm_X9_withLetter_7 : decode M_X9_withLetter.1 7 = .ok (.iconst 1, 1) := by decide +kernel
theorem dm_X9_withLetter_8 : decode M_X9_withLetter.1 8 = .ok (.iadd, 1) := by decide +kernel
theorem dm_X9_withLetter_9 : decode M_X9_withLetter.1 9 = .ok (.i2l, 1) := by decide +kernel
theorem dm_X9_withLetter_10 : decode M_X9_withLetter.1 10 = .ok (.lor, 1) := by decide +kernel
theorem dm_X9_withLetter_11 : decode M_X9_withLetter.1 11 = .ok (.lreturn, 1) := by decide +kernel
def f_X9_withLetter (key : Int64) (letter : Int32) : Int64 := ((g_lshl key (5 : Int32)) ||| (Int32.toInt64 ((letter - (97 : Int32)) + (1 : Int32))))
set_option maxRecDepth 20000 in
theorem k_X9_withLetter {key : Int64} {letter : Int32} {r_0 : Int64} (hres : r_0 = f_X9_withLetter key letter) : K M_X9_withLetter yX9_withLetter [.long key, .int letter] [] (some (.long r_0)) [] := by
  refine K.of (lv := [(0, .long key), (2, .int letter)]) (by decide +kernel) rfl rfl rfl ?_
  rw [f_X9_withLetter] at hres
  refine G.lload_n (pc := 0) dm_X9_withLetter_0 rfl ?_
  refine G.iconst (pc := 1) (v := (5 : Int32)) dm_X9_withLetter_1 qi_5 ?_
  refine G.lshl (pc := 2) dm_X9_withLetter_2 ?_
  refine G.iload_n (pc := 3) dm_X9_withLetter_3 rfl ?_
  refine G.bipush (pc := 4) (v := (97 : Int32)) dm_X9_withLetter_4 qb_97 ?_
  refine G.isub (pc := 6) dm_X9_withLetter_6 ?_
  refine G.iconst (pc := 7) (v := (1 : Int32)) dm_X9_withLetter_7 qi_1 ?_
  refine G.iadd (pc := 8) dm_X9_withLetter_8 ?_
  refine G.i2l (pc := 9) dm_X9_withLetter_9 ?_
  refine G.lor (pc := 10) dm_X9_withLetter_10 ?_
  subst hres
  exact G.lreturn (pc := 11) dm_X9_withLetter_11 rfl rfl rfl
abbrev M_X9_add : g_M := (cX9_add, 4, RX9, none, { frames := 0, cells := 0, slots := 0, locals := 0 }, 0, 0)
theorem dm_X9_add_0 : decode M_X9_add.1 0 = .ok (.aload_n 0, 1) := by decide +kernel
theorem dm_X9_add_1 : decode M_X9_add.1 1 = .ok (.getfield 23, 3) := by decide +kernel
theorem dm_X9_add_4 : decode M_X9_add.1 4 = .ok (.aload_n 0, 1) := by decide +kernel
theorem dm_X9_add_5 : decode M_X9_add.1 5 = .ok (.getfield 9, 3) := by decide +kernel
theorem dm_X9_add_8 : decode M_X9_add.1 8 = .ok (.arraylength, 1) := by decide +kernel
theorem dm_X9_add_9 : decode M_X9_add.1 9 = .ok (.if_icmp .ge 33, 3) := by decide +kernel
theorem dm_X9_add_12 : decode M_X9_add.1 12 = .ok (.aload_n 0, 1) := by decide +kernel
theorem dm_X9_add_13 : decode M_X9_add.1 13 = .ok (.getfield 9, 3) := by decide +kernel
theorem dm_X9_add_16 : decode M_X9_add.1 16 = .ok (.aload_n 0, 1) := by decide +kernel
theorem dm_X9_add_17 : decode M_X9_add.1 17 = .ok (.getfield 23, 3) := by decide +kernel
theorem dm_X9_add_20 : decode M_X9_add.1 20 = .ok (.iload_n 1, 1) := by decide +kernel
theorem dm_X9_add_21 : decode M_X9_add.1 21 = .ok (.castore, 1) := by decide +kernel
theorem dm_X9_add_22 : decode M_X9_add.1 22 = .ok (.aload_n 0, 1) := by decide +kernel
theorem dm_X9_add_23 : decode M_X9_add.1 23 = .ok (.getfield 15, 3) := by decide +kernel
theorem dm_X9_add_26 : decode M_X9_add.1 26 = .ok (.aload_n 0, 1) := by decide +kernel
theorem dm_X9_add_27 : decode M_X9_add.1 27 = .ok (.getfield 23, 3) := by decide +kernel
theorem dm_X9_add_30 : decode M_X9_add.1 30 = .ok (.lload_n 2, 1) := by decide +kernel
theorem dm_X9_add_31 : decode M_X9_add.1 31 = .ok (.lastore, 1) := by decide +kernel
theorem dm_X9_add_32 : decode M_X9_add.1 32 = .ok (.aload_n 0, 1) := by decide +kernel
theorem dm_X9_add_33 : decode M_X9_add.1 33 = .ok (.dup, 1) := by decide +kernel
theorem dm_X9_add_34 : decode M_X9_add.1 34 = .ok (.getfield 23, 3) := by decide +kernel
theorem dm_X9_add_37 : decode M_X9_add.1 37 = .ok (.iconst 1, 1) := by decide +kernel
theorem dm_X9_add_38 : decode M_X9_add.1 38 = .ok (.iadd, 1) := by decide +kernel
theorem dm_X9_add_39 : decode M_X9_add.1 39 = .ok (.putfield 23, 3) := by decide +kernel
theorem dm_X9_add_42 : decode M_X9_add.1 42 = .ok (.return_, 1) := by decide +kernel
def f_X9_add (kind : Int32) (value : Int64) (kcount : Int32) (kinds : Nat → Int32) (kvals : Nat → Int64) : Int32 × (Nat → Int32) × (Nat → Int64) := (if (401 : Int32) ≤ kcount then (kcount, kinds, kvals) else ((kcount + (1 : Int32)), (upd kinds (Int32.toNatClampNeg kcount) (vp_nar .char kind)), (vp_updL kvals (Int32.toNatClampNeg kcount) value)))
set_option maxRecDepth 20000 in
theorem k_X9_add {kind : Int32} {value : Int64} {kcount : Int32} {klen : Int32} {kat : Int32} {kinds : Nat → Int32} {kvals : Nat → Int64} {tchars : Nat → Int32} (hc : 0 ≤ kcount.toInt ∧ kcount.toInt ≤ 401) {r_0 : Int32} {r_1 : (Nat → Int32)} {r_2 : (Nat → Int64)} (hres : (r_0, r_1, r_2) = f_X9_add kind value kcount kinds kvals) : K M_X9_add yX9_add [.ref 0, .int kind, .long value] (w_K kcount klen kat kinds kvals tchars) (none) (w_K r_0 klen kat r_1 r_2 tchars) := by
  refine K.of (lv := [(0, .ref 0), (1, .int kind), (2, .long value)]) (by decide +kernel) rfl rfl rfl ?_
  rw [f_X9_add] at hres
  refine G.aload_n (pc := 0) dm_X9_add_0 rfl ?_
  refine G.getfield (pc := 1) dm_X9_add_1 gf_X9_23 rfl rfl ?_
  refine G.aload_n (pc := 4) dm_X9_add_4 rfl ?_
  refine G.getfield (pc := 5) dm_X9_add_5 gf_X9_9 rfl rfl ?_
  refine G.arraylength (pc := 8) (v := 401) dm_X9_add_8 rfl rfl (by decide) ?_
  refine G.icmp_ge (pc := 9) (tgt := 42) dm_X9_add_9 (by decide) (fun c9 => ?_) (fun c9 => ?_)
  · rw [if_pos c9] at hres
    cases hres
    exact G.vreturn (pc := 42) dm_X9_add_42 rfl rfl rfl
  · rw [if_neg c9] at hres
    refine G.aload_n (pc := 12) dm_X9_add_12 rfl ?_
    refine G.getfield (pc := 13) dm_X9_add_13 gf_X9_9 rfl rfl ?_
    refine G.aload_n (pc := 16) dm_X9_add_16 rfl ?_
    refine G.getfield (pc := 17) dm_X9_add_17 gf_X9_23 rfl rfl ?_
    refine G.iload_n (pc := 20) dm_X9_add_20 rfl ?_
    refine G.castore (pc := 21) (ws1 := (w_K kcount klen kat (upd kinds (Int32.toNatClampNeg kcount) (vp_nar .char kind)) kvals tchars)) dm_X9_add_21 rfl (q_in hc.1 (q_401 c9)) rfl ?_
    refine G.aload_n (pc := 22) dm_X9_add_22 rfl ?_
    refine G.getfield (pc := 23) dm_X9_add_23 gf_X9_15 rfl rfl ?_
    refine G.aload_n (pc := 26) dm_X9_add_26 rfl ?_
    refine G.getfield (pc := 27) dm_X9_add_27 gf_X9_23 rfl rfl ?_
    refine G.lload_n (pc := 30) dm_X9_add_30 rfl ?_
    refine G.lastore (pc := 31) (ws1 := (w_K kcount klen kat (upd kinds (Int32.toNatClampNeg kcount) (vp_nar .char kind)) (vp_updL kvals (Int32.toNatClampNeg kcount) value) tchars)) dm_X9_add_31 rfl (q_in hc.1 (q_401 c9)) rfl ?_
    refine G.aload_n (pc := 32) dm_X9_add_32 rfl ?_
    refine G.dup (pc := 33) dm_X9_add_33 rfl ?_
    refine G.getfield (pc := 34) dm_X9_add_34 gf_X9_23 rfl rfl ?_
    refine G.iconst (pc := 37) (v := (1 : Int32)) dm_X9_add_37 qi_1 ?_
    refine G.iadd (pc := 38) dm_X9_add_38 ?_
    refine G.putfield (pc := 39) (ws1 := (w_K (kcount + (1 : Int32)) klen kat (upd kinds (Int32.toNatClampNeg kcount) (vp_nar .char kind)) (vp_updL kvals (Int32.toNatClampNeg kcount) value) tchars)) dm_X9_add_39 gw_X9_23 rfl (g_fit_i _) rfl rfl ?_
    cases hres
    exact G.vreturn (pc := 42) dm_X9_add_42 rfl rfl rfl
theorem a_X9_add {kind : Int32} {value : Int64} {kcount : Int32} {kinds : Nat → Int32} {kvals : Nat → Int64} {r_0 : Int32} {r_1 : (Nat → Int32)} {r_2 : (Nat → Int64)} (hres : (r_0, r_1, r_2) = f_X9_add kind value kcount kinds kvals) (hc : 0 ≤ kcount.toInt ∧ kcount.toInt ≤ 401) (hch : q_ch kinds) : (0 ≤ r_0.toInt ∧ r_0.toInt ≤ 401) ∧ q_ch r_1 := by
  rw [f_X9_add] at hres
  by_cases c9 : (401 : Int32) ≤ kcount
  · rw [if_pos c9] at hres
    cases hres
    exact (by first | exact ⟨hc, hch⟩ | exact ⟨q_c1 hc c9, q_chu hch _ _⟩)
  · rw [if_neg c9] at hres
    cases hres
    exact (by first | exact ⟨hc, hch⟩ | exact ⟨q_c1 hc c9, q_chu hch _ _⟩)
abbrev M_X9_kindAt : g_M := (cX9_kindAt, 2, RX9, (some .char), { frames := 0, cells := 0, slots := 0, locals := 0 }, 0, 0)
theorem dm_X9_kindAt_0 : decode M_X9_kindAt.1 0 = .ok (.iload_n 1, 1) := by decide +kernel
theorem dm_X9_kindAt_1 : decode M_X9_kindAt.1 1 = .ok (.ifCond .lt 20, 3) := by decide +kernel
theorem dm_X9_kindAt_4 : decode M_X9_kindAt.1 4 = .ok (.iload_n 1, 1) := by decide +kernel
theorem dm_X9_kindAt_5 : decode M_X9_kindAt.1 5 = .ok (.aload_n 0, 1) := by decide +kernel
theorem dm_X9_kindAt_6 : decode M_X9_kindAt.1 6 = .ok (.getfield 23, 3) := by decide +kernel
theorem dm_X9_kindAt_9 : decode M_X9_kindAt.1 9 = .ok (.if_icmp .ge 12, 3) := by decide +kernel
theorem dm_X9_kindAt_12 : decode M_X9_kindAt.1 12 = .ok (.aload_n 0, 1) := by decide +kernel
theorem dm_X9_kindAt_13 : decode M_X9_kindAt.1 13 = .ok (.getfield 9, 3) := by decide +kernel
theorem dm_X9_kindAt_16 : decode M_X9_kindAt.1 16 = .ok (.iload_n 1, 1) := by decide +kernel
theorem dm_X9_kindAt_17 : decode M_X9_kindAt.1 17 = .ok (.caload, 1) := by decide +kernel
theorem dm_X9_kindAt_18 : decode M_X9_kindAt.1 18 = .ok (.goto 5, 3) := by decide +kernel
theorem dm_X9_kindAt_21 : decode M_X9_kindAt.1 21 = .ok (.bipush 10, 2) := by decide +kernel
theorem dm_X9_kindAt_23 : decode M_X9_kindAt.1 23 = .ok (.ireturn, 1) := by decide +kernel
def f_X9_kindAt (k : Int32) (kcount : Int32) (kinds : Nat → Int32) : Int32 := (if k < 0 then (10 : Int32) else (if kcount ≤ k then (10 : Int32) else (kinds (Int32.toNatClampNeg k))))
set_option maxRecDepth 20000 in
theorem k_X9_kindAt {k : Int32} {kcount : Int32} {klen : Int32} {kat : Int32} {kinds : Nat → Int32} {kvals : Nat → Int64} {tchars : Nat → Int32} (hc : 0 ≤ kcount.toInt ∧ kcount.toInt ≤ 401) (hch : q_ch kinds) {r_0 : Int32} (hres : r_0 = f_X9_kindAt k kcount kinds) : K M_X9_kindAt yX9_kindAt [.ref 0, .int k] (w_K kcount klen kat kinds kvals tchars) (some (.int r_0)) (w_K kcount klen kat kinds kvals tchars) := by
  refine K.of (lv := [(0, .ref 0), (1, .int k)]) (by decide +kernel) rfl rfl rfl ?_
  rw [f_X9_kindAt] at hres
  refine G.iload_n (pc := 0) dm_X9_kindAt_0 rfl ?_
  refine G.if_lt (pc := 1) (tgt := 21) dm_X9_kindAt_1 (by decide) (fun c1 => ?_) (fun c1 => ?_)
  · rw [if_pos c1] at hres
    refine G.bipush (pc := 21) (v := (10 : Int32)) dm_X9_kindAt_21 qb_10 ?_
    subst hres
    exact G.zreturn (pc := 23) dm_X9_kindAt_23 rfl (by first | decide | exact hch _) rfl rfl
  · rw [if_neg c1] at hres
    refine G.iload_n (pc := 4) dm_X9_kindAt_4 rfl ?_
    refine G.aload_n (pc := 5) dm_X9_kindAt_5 rfl ?_
    refine G.getfield (pc := 6) dm_X9_kindAt_6 gf_X9_23 rfl rfl ?_
    refine G.icmp_ge (pc := 9) (tgt := 21) dm_X9_kindAt_9 (by decide) (fun c9 => ?_) (fun c9 => ?_)
    · rw [if_pos c9] at hres
      refine G.bipush (pc := 21) (v := (10 : Int32)) dm_X9_kindAt_21 qb_10 ?_
      subst hres
      exact G.zreturn (pc := 23) dm_X9_kindAt_23 rfl (by first | decide | exact hch _) rfl rfl
    · rw [if_neg c9] at hres
      refine G.aload_n (pc := 12) dm_X9_kindAt_12 rfl ?_
      refine G.getfield (pc := 13) dm_X9_kindAt_13 gf_X9_9 rfl rfl ?_
      refine G.iload_n (pc := 16) dm_X9_kindAt_16 rfl ?_
      refine G.caload (pc := 17) dm_X9_kindAt_17 rfl (q_tk hc c1 c9) ?_
      refine G.goto (pc := 18) (tgt := 23) dm_X9_kindAt_18 (by decide) ?_
      subst hres
      exact G.zreturn (pc := 23) dm_X9_kindAt_23 rfl (by first | decide | exact hch _) rfl rfl
abbrev M_X9_valueAt : g_M := (cX9_valueAt, 2, RX9, (some .long), { frames := 0, cells := 0, slots := 0, locals := 0 }, 0, 0)
theorem dm_X9_valueAt_0 : decode M_X9_valueAt.1 0 = .ok (.iload_n 1, 1) := by decide +kernel
theorem dm_X9_valueAt_1 : decode M_X9_valueAt.1 1 = .ok (.ifCond .lt 20, 3) := by decide +kernel
theorem dm_X9_valueAt_4 : decode M_X9_valueAt.1 4 = .ok (.iload_n 1, 1) := by decide +kernel
theorem dm_X9_valueAt_5 : decode M_X9_valueAt.1 5 = .ok (.aload_n 0, 1) := by decide +kernel
theorem dm_X9_valueAt_6 : decode M_X9_valueAt.1 6 = .ok (.getfield 23, 3) := by decide +kernel
theorem dm_X9_valueAt_9 : decode M_X9_valueAt.1 9 = .ok (.if_icmp .ge 12, 3) := by decide +kernel
theorem dm_X9_valueAt_12 : decode M_X9_valueAt.1 12 = .ok (.aload_n 0, 1) := by decide +kernel
theorem dm_X9_valueAt_13 : decode M_X9_valueAt.1 13 = .ok (.getfield 15, 3) := by decide +kernel
theorem dm_X9_valueAt_16 : decode M_X9_valueAt.1 16 = .ok (.iload_n 1, 1) := by decide +kernel
theorem dm_X9_valueAt_17 : decode M_X9_valueAt.1 17 = .ok (.laload, 1) := by decide +kernel
theorem dm_X9_valueAt_18 : decode M_X9_valueAt.1 18 = .ok (.goto 4, 3) := by decide +kernel
theorem dm_X9_valueAt_21 : decode M_X9_valueAt.1 21 = .ok (.lconst 0, 1) := by decide +kernel
theorem dm_X9_valueAt_22 : decode M_X9_valueAt.1 22 = .ok (.lreturn, 1) := by decide +kernel
def f_X9_valueAt (k : Int32) (kcount : Int32) (kvals : Nat → Int64) : Int64 := (if k < 0 then (0 : Int64) else (if kcount ≤ k then (0 : Int64) else (kvals (Int32.toNatClampNeg k))))
set_option maxRecDepth 20000 in
theorem k_X9_valueAt {k : Int32} {kcount : Int32} {klen : Int32} {kat : Int32} {kinds : Nat → Int32} {kvals : Nat → Int64} {tchars : Nat → Int32} (hc : 0 ≤ kcount.toInt ∧ kcount.toInt ≤ 401) {r_0 : Int64} (hres : r_0 = f_X9_valueAt k kcount kvals) : K M_X9_valueAt yX9_valueAt [.ref 0, .int k] (w_K kcount klen kat kinds kvals tchars) (some (.long r_0)) (w_K kcount klen kat kinds kvals tchars) := by
  refine K.of (lv := [(0, .ref 0), (1, .int k)]) (by decide +kernel) rfl rfl rfl ?_
  rw [f_X9_valueAt] at hres
  refine G.iload_n (pc := 0) dm_X9_valueAt_0 rfl ?_
  refine G.if_lt (pc := 1) (tgt := 21) dm_X9_valueAt_1 (by decide) (fun c1 => ?_) (fun c1 => ?_)
  · rw [if_pos c1] at hres
    refine G.lconst (pc := 21) (v := (0 : Int64)) dm_X9_valueAt_21 (by decide) ?_
    subst hres
    exact G.lreturn (pc := 22) dm_X9_valueAt_22 rfl rfl rfl
  · rw [if_neg c1] at hres
    refine G.iload_n (pc := 4) dm_X9_valueAt_4 rfl ?_
    refine G.aload_n (pc := 5) dm_X9_valueAt_5 rfl ?_
    refine G.getfield (pc := 6) dm_X9_valueAt_6 gf_X9_23 rfl rfl ?_
    refine G.icmp_ge (pc := 9) (tgt := 21) dm_X9_valueAt_9 (by decide) (fun c9 => ?_) (fun c9 => ?_)
    · rw [if_pos c9] at hres
      refine G.lconst (pc := 21) (v := (0 : Int64)) dm_X9_valueAt_21 (by decide) ?_
      subst hres
      exact G.lreturn (pc := 22) dm_X9_valueAt_22 rfl rfl rfl
    · rw [if_neg c9] at hres
      refine G.aload_n (pc := 12) dm_X9_valueAt_12 rfl ?_
      refine G.getfield (pc := 13) dm_X9_valueAt_13 gf_X9_15 rfl rfl ?_
      refine G.iload_n (pc := 16) dm_X9_valueAt_16 rfl ?_
      refine G.laload (pc := 17) dm_X9_valueAt_17 rfl (q_tk hc c1 c9) ?_
      refine G.goto (pc := 18) (tgt := 22) dm_X9_valueAt_18 (by decide) ?_
      subst hres
      exact G.lreturn (pc := 22) dm_X9_valueAt_22 rfl rfl rfl
abbrev M_X9_size : g_M := (cX9_size, 1, RX9, (some .int), { frames := 0, cells := 0, slots := 0, locals := 0 }, 0, 0)
theorem dm_X9_size_0 : decode M_X9_size.1 0 = .ok (.aload_n 0, 1) := by decide +kernel
theorem dm_X9_size_1 : decode M_X9_size.1 1 = .ok (.getfield 23, 3) := by decide +kernel
theorem dm_X9_size_4 : decode M_X9_size.1 4 = .ok (.ireturn, 1) := by decide +kernel
def f_X9_size (kcount : Int32) : Int32 := kcount
set_option maxRecDepth 20000 in
theorem k_X9_size {kcount : Int32} {klen : Int32} {kat : Int32} {kinds : Nat → Int32} {kvals : Nat → Int64} {tchars : Nat → Int32} {r_0 : Int32} (hres : r_0 = f_X9_size kcount) : K M_X9_size yX9_size [.ref 0] (w_K kcount klen kat kinds kvals tchars) (some (.int r_0)) (w_K kcount klen kat kinds kvals tchars) := by
  refine K.of (lv := [(0, .ref 0)]) (by decide +kernel) rfl rfl rfl ?_
  rw [f_X9_size] at hres
  refine G.aload_n (pc := 0) dm_X9_size_0 rfl ?_
  refine G.getfield (pc := 1) dm_X9_size_1 gf_X9_23 rfl rfl ?_
  subst hres
  exact G.ireturn (pc := 4) dm_X9_size_4 rfl rfl rfl
abbrev M_X9_takeMark : g_M := (cX9_takeMark, 2, RX9, none, { frames := 1, cells := 0, slots := 0, locals := 23 }, 0, 0)
theorem dm_X9_takeMark_0 : decode M_X9_takeMark.1 0 = .ok (.aload_n 0, 1) := by decide +kernel
theorem dm_X9_takeMark_1 : decode M_X9_takeMark.1 1 = .ok (.dup, 1) := by decide +kernel
theorem dm_X9_takeMark_2 : decode M_X9_takeMark.1 2 = .ok (.getfield 27, 3) := by decide +kernel
theorem dm_X9_takeMark_5 : decode M_X9_takeMark.1 5 = .ok (.iconst 1, 1) := by decide +kernel
theorem dm_X9_takeMark_6 : decode M_X9_takeMark.1 6 = .ok (.iadd, 1) := by decide +kernel
theorem dm_X9_takeMark_7 : decode M_X9_takeMark.1 7 = .ok (.putfield 27, 3) := by decide +kernel
theorem dm_X9_takeMark_10 : decode M_X9_takeMark.1 10 = .ok (.iload_n 1, 1) := by decide +kernel
theorem dm_X9_takeMark_11 : decode M_X9_takeMark.1 11 = .ok (.bipush 10, 2) := by decide +kernel
theorem dm_X9_takeMark_13 : decode M_X9_takeMark.1 13 = .ok (.if_icmp .eq 9, 3) := by decide +kernel
theorem dm_X9_takeMark_16 : decode M_X9_takeMark.1 16 = .ok (.iload_n 1, 1) := by decide +kernel
theorem dm_X9_takeMark_17 : decode M_X9_takeMark.1 17 = .ok (.bipush 59, 2) := by decide +kernel
theorem dm_X9_takeMark_19 : decode M_X9_takeMark.1 19 = .ok (.if_icmp .ne 13, 3) := by decide +kernel
theorem dm_X9_takeMark_22 : decode M_X9_takeMark.1 22 = .ok (.aload_n 0, 1) := by decide +kernel
theorem dm_X9_takeMark_23 : decode M_X9_takeMark.1 23 = .ok (.bipush 10, 2) := by decide +kernel
theorem dm_X9_takeMark_25 : decode M_X9_takeMark.1 25 = .ok (.lconst 0, 1) := by decide +kernel
theorem dm_X9_takeMark_26 : decode M_X9_takeMark.1 26 = .ok (.invokevirtual 56, 3) := by decide +kernel
theorem dm_X9_takeMark_29 : decode M_X9_takeMark.1 29 = .ok (.goto 49, 3) := by decide +kernel
theorem dm_X9_takeMark_32 : decode M_X9_takeMark.1 32 = .ok (.iload_n 1, 1) := by decide +kernel
theorem dm_X9_takeMark_33 : decode M_X9_takeMark.1 33 = .ok (.bipush 44, 2) := by decide +kernel
theorem dm_X9_takeMark_35 : decode M_X9_takeMark.1 35 = .ok (.if_icmp .eq 21, 3) := by decide +kernel
theorem dm_X9_takeMark_38 : decode M_X9_takeMark.1 38 = .ok (.iload_n 1, 1) := by decide +kernel
theorem dm_X9_takeMark_39 : decode M_X9_takeMark.1 39 = .ok (.bipush 40, 2) := by decide +kernel
theorem dm_X9_takeMark_41 : decode M_X9_takeMark.1 41 = .ok (.if_icmp .eq 15, 3) := by decide +kernel
theorem dm_X9_takeMark_44 : decode M_X9_takeMark.1 44 = .ok (.iload_n 1, 1) := by decide +kernel
theorem dm_X9_takeMark_45 : decode M_X9_takeMark.1 45 = .ok (.bipush 41, 2) := by decide +kernel
theorem dm_X9_takeMark_47 : decode M_X9_takeMark.1 47 = .ok (.if_icmp .eq 9, 3) := by decide +kernel
theorem dm_X9_takeMark_50 : decode M_X9_takeMark.1 50 = .ok (.iload_n 1, 1) := by decide +kernel
theorem dm_X9_takeMark_51 : decode M_X9_takeMark.1 51 = .ok (.bipush 58, 2) := by decide +kernel
theorem dm_X9_takeMark_53 : decode M_X9_takeMark.1 53 = .ok (.if_icmp .ne 12, 3) := by decide +kernel
theorem dm_X9_takeMark_56 : decode M_X9_takeMark.1 56 = .ok (.aload_n 0, 1) := by decide +kernel
theorem dm_X9_takeMark_57 : decode M_X9_takeMark.1 57 = .ok (.iload_n 1, 1) := by decide +kernel
theorem dm_X9_takeMark_58 : decode M_X9_takeMark.1 58 = .ok (.lconst 0, 1) := by decide +kernel
theorem dm_X9_takeMark_59 : decode M_X9_takeMark.1 59 = .ok (.invokevirtual 56, 3) := by decide +kernel
theorem dm_X9_takeMark_62 : decode M_X9_takeMark.1 62 = .ok (.goto 16, 3) := by decide +kernel
theorem dm_X9_takeMark_65 : decode M_X9_takeMark.1 65 = .ok (.iload_n 1, 1) := by decide +kernel
theorem dm_X9_takeMark_66 : decode M_X9_takeMark.1 66 = .ok (.bipush 32, 2) := by decide +kernel
theorem dm_X9_takeMark_68 : decode M_X9_takeMark.1 68 = .ok (.if_icmp .eq 10, 3) := by decide +kernel
theorem dm_X9_takeMark_71 : decode M_X9_takeMark.1 71 = .ok (.aload_n 0, 1) := by decide +kernel
theorem dm_X9_takeMark_72 : decode M_X9_takeMark.1 72 = .ok (.bipush 63, 2) := by decide +kernel
theorem dm_X9_takeMark_74 : decode M_X9_takeMark.1 74 = .ok (.lconst 0, 1) := by decide +kernel
theorem dm_X9_takeMark_75 : decode M_X9_takeMark.1 75 = .ok (.invokevirtual 56, 3) := by decide +kernel
theorem dm_X9_takeMark_78 : decode M_X9_takeMark.1 78 = .ok (.return_, 1) := by decide +kernel
theorem gc_X9_takeMark_56 : g_cv M_X9_takeMark 56 M_X9_add yX9_add 2 := ⟨tw238, tw239, tw240, tw85, tw241, ⟨rfl, rfl, rfl, rfl⟩, gd_X9_add, ⟨by decide, by decide⟩⟩
def f_X9_takeMark_c26 (kat : Int32) (z1_0 : Int32) (z1_1 : (Nat → Int32)) (z1_2 : (Nat → Int64)) : Int32 × Int32 × (Nat → Int32) × (Nat → Int64) := (z1_0, kat, z1_1, z1_2)
def f_X9_takeMark_22 (kcount : Int32) (kat : Int32) (kinds : Nat → Int32) (kvals : Nat → Int64) : Int32 × Int32 × (Nat → Int32) × (Nat → Int64) := (f_X9_takeMark_c26 kat (f_X9_add (10 : Int32) (0 : Int64) kcount kinds kvals).1 (f_X9_add (10 : Int32) (0 : Int64) kcount kinds kvals).2.1 (f_X9_add (10 : Int32) (0 : Int64) kcount kinds kvals).2.2)
set_option maxRecDepth 20000 in
theorem j_X9_takeMark_22 {kcount : Int32} {klen : Int32} {kat : Int32} {kinds : Nat → Int32} {kvals : Nat → Int64} {tchars : Nat → Int32} {r_0 : Int32} {r_1 : Int32} {r_2 : (Nat → Int32)} {r_3 : (Nat → Int64)} (hres : (r_0, r_1, r_2, r_3) = (f_X9_takeMark_22 kcount kat kinds kvals)) (hc : 0 ≤ kcount.toInt ∧ kcount.toInt ≤ 401) : G M_X9_takeMark 0 0 22 [(0, .ref 0)] [] (w_K kcount klen kat kinds kvals tchars) (none) (w_K r_0 klen r_1 r_2 r_3 tchars) := by
  rw [f_X9_takeMark_22] at hres
  refine G.aload_n (pc := 22) dm_X9_takeMark_22 rfl ?_
  refine G.bipush (pc := 23) (v := (10 : Int32)) dm_X9_takeMark_23 qb_10 ?_
  refine G.lconst (pc := 25) (v := (0 : Int64)) dm_X9_takeMark_25 (by decide) ?_
  obtain ⟨z1_0, z1_1, z1_2, hz1⟩ := g_ex3 (f_X9_add (10 : Int32) (0 : Int64) kcount kinds kvals)
  refine G.callV0 (pc := 26) (rest := []) (st1 := []) dm_X9_takeMark_26 gc_X9_takeMark_56 (k_X9_add (kind := (10 : Int32)) (value := (0 : Int64)) (kcount := kcount) (klen := klen) (kat := kat) (kinds := kinds) (kvals := kvals) (tchars := tchars) (by assumption) hz1) rfl rfl rfl rfl rfl rfl rfl rfl ?_
  replace hres : (r_0, r_1, r_2, r_3) = f_X9_takeMark_c26 kat z1_0 z1_1 z1_2 := hres.trans (by rw [← hz1])
  rw [f_X9_takeMark_c26] at hres
  refine G.goto (pc := 29) (tgt := 78) dm_X9_takeMark_29 (by decide) ?_
  cases hres
  exact G.vreturn (pc := 78) dm_X9_takeMark_78 rfl rfl rfl
def f_X9_takeMark_c59 (kat : Int32) (z2_0 : Int32) (z2_1 : (Nat → Int32)) (z2_2 : (Nat → Int64)) : Int32 × Int32 × (Nat → Int32) × (Nat → Int64) := (z2_0, kat, z2_1, z2_2)
def f_X9_takeMark_56 (kcount : Int32) (kat : Int32) (kinds : Nat → Int32) (kvals : Nat → Int64) (l1 : Int32) : Int32 × Int32 × (Nat → Int32) × (Nat → Int64) := (f_X9_takeMark_c59 kat (f_X9_add l1 (0 : Int64) kcount kinds kvals).1 (f_X9_add l1 (0 : Int64) kcount kinds kvals).2.1 (f_X9_add l1 (0 : Int64) kcount kinds kvals).2.2)
set_option maxRecDepth 20000 in
theorem j_X9_takeMark_56 {l1 : Int32} {kcount : Int32} {klen : Int32} {kat : Int32} {kinds : Nat → Int32} {kvals : Nat → Int64} {tchars : Nat → Int32} {r_0 : Int32} {r_1 : Int32} {r_2 : (Nat → Int32)} {r_3 : (Nat → Int64)} (hres : (r_0, r_1, r_2, r_3) = (f_X9_takeMark_56 kcount kat kinds kvals l1)) (hc : 0 ≤ kcount.toInt ∧ kcount.toInt ≤ 401) : G M_X9_takeMark 0 0 56 [(0, .ref 0), (1, .int l1)] [] (w_K kcount klen kat kinds kvals tchars) (none) (w_K r_0 klen r_1 r_2 r_3 tchars) := by
  rw [f_X9_takeMark_56] at hres
  refine G.aload_n (pc := 56) dm_X9_takeMark_56 rfl ?_
  refine G.iload_n (pc := 57) dm_X9_takeMark_57 rfl ?_
  refine G.lconst (pc := 58) (v := (0 : Int64)) dm_X9_takeMark_58 (by decide) ?_
  obtain ⟨z2_0, z2_1, z2_2, hz2⟩ := g_ex3 (f_X9_add l1 (0 : Int64) kcount kinds kvals)
  refine G.callV0 (pc := 59) (rest := []) (st1 := []) dm_X9_takeMark_59 gc_X9_takeMark_56 (k_X9_add (kind := l1) (value := (0 : Int64)) (kcount := kcount) (klen := klen) (kat := kat) (kinds := kinds) (kvals := kvals) (tchars := tchars) (by assumption) hz2) rfl rfl rfl rfl rfl rfl rfl rfl ?_
  replace hres : (r_0, r_1, r_2, r_3) = f_X9_takeMark_c59 kat z2_0 z2_1 z2_2 := hres.trans (by rw [← hz2])
  rw [f_X9_takeMark_c59] at hres
  refine G.goto (pc := 62) (tgt := 78) dm_X9_takeMark_62 (by decide) ?_
  cases hres
  exact G.vreturn (pc := 78) dm_X9_takeMark_78 rfl rfl rfl
def f_X9_takeMark_c75 (kat : Int32) (z3_0 : Int32) (z3_1 : (Nat → Int32)) (z3_2 : (Nat → Int64)) : Int32 × Int32 × (Nat → Int32) × (Nat → Int64) := (z3_0, (kat + (1 : Int32)), z3_1, z3_2)
def f_X9_takeMark (c : Int32) (kcount : Int32) (kat : Int32) (kinds : Nat → Int32) (kvals : Nat → Int64) : Int32 × Int32 × (Nat → Int32) × (Nat → Int64) := (if c = (10 : Int32) then (f_X9_takeMark_22 kcount (kat + (1 : Int32)) kinds kvals) else (if c = (59 : Int32) then (f_X9_takeMark_22 kcount (kat + (1 : Int32)) kinds kvals) else (if c = (44 : Int32) then (f_X9_takeMark_56 kcount (kat + (1 : Int32)) kinds kvals c) else (if c = (40 : Int32) then (f_X9_takeMark_56 kcount (kat + (1 : Int32)) kinds kvals c) else (if c = (41 : Int32) then (f_X9_takeMark_56 kcount (kat + (1 : Int32)) kinds kvals c) else (if c = (58 : Int32) then (f_X9_takeMark_56 kcount (kat + (1 : Int32)) kinds kvals c) else (if c = (32 : Int32) then (kcount, (kat + (1 : Int32)), kinds, kvals) else (f_X9_takeMark_c75 kat (f_X9_add (63 : Int32) (0 : Int64) kcount kinds kvals).1 (f_X9_add (63 : Int32) (0 : Int64) kcount kinds kvals).2.1 (f_X9_add (63 : Int32) (0 : Int64) kcount kinds kvals).2.2))))))))
set_option maxRecDepth 20000 in
theorem k_X9_takeMark {c : Int32} {kcount : Int32} {klen : Int32} {kat : Int32} {kinds : Nat → Int32} {kvals : Nat → Int64} {tchars : Nat → Int32} (hc : 0 ≤ kcount.toInt ∧ kcount.toInt ≤ 401) {r_0 : Int32} {r_1 : Int32} {r_2 : (Nat → Int32)} {r_3 : (Nat → Int64)} (hres : (r_0, r_1, r_2, r_3) = f_X9_takeMark c kcount kat kinds kvals) : K M_X9_takeMark yX9_takeMark [.ref 0, .int c] (w_K kcount klen kat kinds kvals tchars) (none) (w_K r_0 klen r_1 r_2 r_3 tchars) := by
  refine K.of (lv := [(0, .ref 0), (1, .int c)]) (by decide +kernel) rfl rfl rfl ?_
  rw [f_X9_takeMark] at hres
  refine G.aload_n (pc := 0) dm_X9_takeMark_0 rfl ?_
  refine G.dup (pc := 1) dm_X9_takeMark_1 rfl ?_
  refine G.getfield (pc := 2) dm_X9_takeMark_2 gf_X9_27 rfl rfl ?_
  refine G.iconst (pc := 5) (v := (1 : Int32)) dm_X9_takeMark_5 qi_1 ?_
  refine G.iadd (pc := 6) dm_X9_takeMark_6 ?_
  refine G.putfield (pc := 7) (ws1 := (w_K kcount klen (kat + (1 : Int32)) kinds kvals tchars)) dm_X9_takeMark_7 gw_X9_27 rfl (g_fit_i _) rfl rfl ?_
  refine G.iload_n (pc := 10) dm_X9_takeMark_10 rfl ?_
  refine G.bipush (pc := 11) (v := (10 : Int32)) dm_X9_takeMark_11 qb_10 ?_
  refine G.icmp_eq (pc := 13) (tgt := 22) dm_X9_takeMark_13 (by decide) (fun c13 => ?_) (fun c13 => ?_)
  · rw [if_pos c13] at hres
    refine G.lvp [0] rfl ?_
    exact j_X9_takeMark_22 hres (by assumption)
  · rw [if_neg c13] at hres
    refine G.iload_n (pc := 16) dm_X9_takeMark_16 rfl ?_
    refine G.bipush (pc := 17) (v := (59 : Int32)) dm_X9_takeMark_17 qb_59 ?_
    refine G.icmp_ne (pc := 19) (tgt := 32) dm_X9_takeMark_19 (by decide) (fun c19 => ?_) (fun c19 => ?_)
    · rw [if_neg c19] at hres
      refine G.iload_n (pc := 32) dm_X9_takeMark_32 rfl ?_
      refine G.bipush (pc := 33) (v := (44 : Int32)) dm_X9_takeMark_33 qb_44 ?_
      refine G.icmp_eq (pc := 35) (tgt := 56) dm_X9_takeMark_35 (by decide) (fun c35 => ?_) (fun c35 => ?_)
      · rw [if_pos c35] at hres
        exact j_X9_takeMark_56 hres (by assumption)
      · rw [if_neg c35] at hres
        refine G.iload_n (pc := 38) dm_X9_takeMark_38 rfl ?_
        refine G.bipush (pc := 39) (v := (40 : Int32)) dm_X9_takeMark_39 qb_40 ?_
        refine G.icmp_eq (pc := 41) (tgt := 56) dm_X9_takeMark_41 (by decide) (fun c41 => ?_) (fun c41 => ?_)
        · rw [if_pos c41] at hres
          exact j_X9_takeMark_56 hres (by assumption)
        · rw [if_neg c41] at hres
          refine G.iload_n (pc := 44) dm_X9_takeMark_44 rfl ?_
          refine G.bipush (pc := 45) (v := (41 : Int32)) dm_X9_takeMark_45 qb_41 ?_
          refine G.icmp_eq (pc := 47) (tgt := 56) dm_X9_takeMark_47 (by decide) (fun c47 => ?_) (fun c47 => ?_)
          · rw [if_pos c47] at hres
            exact j_X9_takeMark_56 hres (by assumption)
          · rw [if_neg c47] at hres
            refine G.iload_n (pc := 50) dm_X9_takeMark_50 rfl ?_
            refine G.bipush (pc := 51) (v := (58 : Int32)) dm_X9_takeMark_51 qb_58 ?_
            refine G.icmp_ne (pc := 53) (tgt := 65) dm_X9_takeMark_53 (by decide) (fun c53 => ?_) (fun c53 => ?_)
            · rw [if_neg c53] at hres
              refine G.iload_n (pc := 65) dm_X9_takeMark_65 rfl ?_
              refine G.bipush (pc := 66) (v := (32 : Int32)) dm_X9_takeMark_66 qb_32 ?_
              refine G.icmp_eq (pc := 68) (tgt := 78) dm_X9_takeMark_68 (by decide) (fun c68 => ?_) (fun c68 => ?_)
              · rw [if_pos c68] at hres
                cases hres
                exact G.vreturn (pc := 78) dm_X9_takeMark_78 rfl rfl rfl
              · rw [if_neg c68] at hres
                refine G.aload_n (pc := 71) dm_X9_takeMark_71 rfl ?_
                refine G.bipush (pc := 72) (v := (63 : Int32)) dm_X9_takeMark_72 qb_63 ?_
                refine G.lconst (pc := 74) (v := (0 : Int64)) dm_X9_takeMark_74 (by decide) ?_
                obtain ⟨z3_0, z3_1, z3_2, hz3⟩ := g_ex3 (f_X9_add (63 : Int32) (0 : Int64) kcount kinds kvals)
                refine G.callV0 (pc := 75) (rest := []) (st1 := []) dm_X9_takeMark_75 gc_X9_takeMark_56 (k_X9_add (kind := (63 : Int32)) (value := (0 : Int64)) (kcount := kcount) (klen := klen) (kat := (kat + (1 : Int32))) (kinds := kinds) (kvals := kvals) (tchars := tchars) (by assumption) hz3) rfl rfl rfl rfl rfl rfl rfl rfl ?_
                replace hres : (r_0, r_1, r_2, r_3) = f_X9_takeMark_c75 kat z3_0 z3_1 z3_2 := hres.trans (by rw [← hz3])
                rw [f_X9_takeMark_c75] at hres
                cases hres
                exact G.vreturn (pc := 78) dm_X9_takeMark_78 rfl rfl rfl
            · rw [if_pos c53] at hres
              exact j_X9_takeMark_56 hres (by assumption)
    · rw [if_pos c19] at hres
      refine G.lvp [0] rfl ?_
      exact j_X9_takeMark_22 hres (by assumption)
theorem a_X9_takeMark_22 {kcount : Int32} {klen : Int32} {kat : Int32} {kinds : Nat → Int32} {kvals : Nat → Int64} {r_0 : Int32} {r_1 : Int32} {r_2 : (Nat → Int32)} {r_3 : (Nat → Int64)} (hres : (r_0, r_1, r_2, r_3) = (f_X9_takeMark_22 kcount kat kinds kvals)) (hk : 0 ≤ kat.toInt ∧ kat.toInt ≤ klen.toInt ∧ klen.toInt ≤ 400) (hc : 0 ≤ kcount.toInt ∧ kcount.toInt ≤ 401) (hch : q_ch kinds) : (0 ≤ r_1.toInt ∧ r_1.toInt ≤ klen.toInt ∧ klen.toInt ≤ 400) ∧ (0 ≤ r_0.toInt ∧ r_0.toInt ≤ 401) ∧ q_ch r_2 := by
  rw [f_X9_takeMark_22] at hres
  obtain ⟨z1_0, z1_1, z1_2, hz1⟩ := g_ex3 (f_X9_add (10 : Int32) (0 : Int64) kcount kinds kvals)
  have hh := a_X9_add hz1 hc hch
  have hc := hh.1
  have hch := hh.2
  replace hres : (r_0, r_1, r_2, r_3) = f_X9_takeMark_c26 kat z1_0 z1_1 z1_2 := hres.trans (by rw [← hz1])
  rw [f_X9_takeMark_c26] at hres
  cases hres
  exact ⟨hk, hc, hch⟩
theorem a_X9_takeMark_56 {l1 : Int32} {kcount : Int32} {klen : Int32} {kat : Int32} {kinds : Nat → Int32} {kvals : Nat → Int64} {r_0 : Int32} {r_1 : Int32} {r_2 : (Nat → Int32)} {r_3 : (Nat → Int64)} (hres : (r_0, r_1, r_2, r_3) = (f_X9_takeMark_56 kcount kat kinds kvals l1)) (hk : 0 ≤ kat.toInt ∧ kat.toInt ≤ klen.toInt ∧ klen.toInt ≤ 400) (hc : 0 ≤ kcount.toInt ∧ kcount.toInt ≤ 401) (hch : q_ch kinds) : (0 ≤ r_1.toInt ∧ r_1.toInt ≤ klen.toInt ∧ klen.toInt ≤ 400) ∧ (0 ≤ r_0.toInt ∧ r_0.toInt ≤ 401) ∧ q_ch r_2 := by
  rw [f_X9_takeMark_56] at hres
  obtain ⟨z2_0, z2_1, z2_2, hz2⟩ := g_ex3 (f_X9_add l1 (0 : Int64) kcount kinds kvals)
  have hh := a_X9_add hz2 hc hch
  have hc := hh.1
  have hch := hh.2
  replace hres : (r_0, r_1, r_2, r_3) = f_X9_takeMark_c59 kat z2_0 z2_1 z2_2 := hres.trans (by rw [← hz2])
  rw [f_X9_takeMark_c59] at hres
  cases hres
  exact ⟨hk, hc, hch⟩
theorem a_X9_takeMark {c : Int32} {kcount : Int32} {klen : Int32} {kat : Int32} {kinds : Nat → Int32} {kvals : Nat → Int64} {r_0 : Int32} {r_1 : Int32} {r_2 : (Nat → Int32)} {r_3 : (Nat → Int64)} (hres : (r_0, r_1, r_2, r_3) = f_X9_takeMark c kcount kat kinds kvals) (hk : 0 ≤ kat.toInt ∧ kat.toInt ≤ klen.toInt ∧ klen.toInt ≤ 400) (hc : 0 ≤ kcount.toInt ∧ kcount.toInt ≤ 401) (hch : q_ch kinds) (hlt : kat.toInt < klen.toInt) : (0 ≤ r_1.toInt ∧ r_1.toInt ≤ klen.toInt ∧ klen.toInt ≤ 400) ∧ (0 ≤ r_0.toInt ∧ r_0.toInt ≤ 401) ∧ q_ch r_2 := by
  rw [f_X9_takeMark] at hres
  have hk := q_kup hk hlt
  by_cases c13 : c = (10 : Int32)
  · rw [if_pos c13] at hres
    exact a_X9_takeMark_22 hres (by assumption) (by assumption) (by assumption)
  · rw [if_neg c13] at hres
    by_cases c19 : c = (59 : Int32)
    · rw [if_pos c19] at hres
      exact a_X9_takeMark_22 hres (by assumption) (by assumption) (by assumption)
    · rw [if_neg c19] at hres
      by_cases c35 : c = (44 : Int32)
      · rw [if_pos c35] at hres
        exact a_X9_takeMark_56 hres (by assumption) (by assumption) (by assumption)
      · rw [if_neg c35] at hres
        by_cases c41 : c = (40 : Int32)
        · rw [if_pos c41] at hres
          exact a_X9_takeMark_56 hres (by assumption) (by assumption) (by assumption)
        · rw [if_neg c41] at hres
          by_cases c47 : c = (41 : Int32)
          · rw [if_pos c47] at hres
            exact a_X9_takeMark_56 hres (by assumption) (by assumption) (by assumption)
          · rw [if_neg c47] at hres
            by_cases c53 : c = (58 : Int32)
            · rw [if_pos c53] at hres
              exact a_X9_takeMark_56 hres (by assumption) (by assumption) (by assumption)
            · rw [if_neg c53] at hres
              by_cases c68 : c = (32 : Int32)
              · rw [if_pos c68] at hres
                cases hres
                exact ⟨hk, hc, hch⟩
              · rw [if_neg c68] at hres
                obtain ⟨z3_0, z3_1, z3_2, hz3⟩ := g_ex3 (f_X9_add (63 : Int32) (0 : Int64) kcount kinds kvals)
                have hh := a_X9_add hz3 hc hch
                have hc := hh.1
                have hch := hh.2
                replace hres : (r_0, r_1, r_2, r_3) = f_X9_takeMark_c75 kat z3_0 z3_1 z3_2 := hres.trans (by rw [← hz3])
                rw [f_X9_takeMark_c75] at hres
                cases hres
                exact ⟨hk, hc, hch⟩
