theorem gd_J3_checkIndex_8e157 : yJ3_checkIndex_8e157.cls ≠ "java/lang/invoke/MethodHandle" ∧ yJ3_checkIndex_8e157.cls ≠ "java/lang/invoke/VarHandle" ∧ (parseMethodDescriptor yJ3_checkIndex_8e157.desc).map (fun d => d.parameters.length) = some 3 := ⟨by decide, by decide, by decide +kernel⟩
theorem gd_J0_checkIndex_df160 : yJ0_checkIndex_df160.cls ≠ "java/lang/invoke/MethodHandle" ∧ yJ0_checkIndex_df160.cls ≠ "java/lang/invoke/VarHandle" ∧ (parseMethodDescriptor yJ0_checkIndex_df160.desc).map (fun d => d.parameters.length) = some 2 := ⟨by decide, by decide, by decide +kernel⟩
theorem gd_J1_charAt_3b067 : yJ1_charAt_3b067.cls ≠ "java/lang/invoke/MethodHandle" ∧ yJ1_charAt_3b067.cls ≠ "java/lang/invoke/VarHandle" ∧ (parseMethodDescriptor yJ1_charAt_3b067.desc).map (fun d => d.parameters.length) = some 2 := ⟨by decide, by decide, by decide +kernel⟩
theorem gd_J0_isLatin1_aae02 : yJ0_isLatin1_aae02.cls ≠ "java/lang/invoke/MethodHandle" ∧ yJ0_isLatin1_aae02.cls ≠ "java/lang/invoke/VarHandle" ∧ (parseMethodDescriptor yJ0_isLatin1_aae02.desc).map (fun d => d.parameters.length) = some 0 := ⟨by decide, by decide, by decide +kernel⟩
theorem gd_J0_coder_7d493 : yJ0_coder_7d493.cls ≠ "java/lang/invoke/MethodHandle" ∧ yJ0_coder_7d493.cls ≠ "java/lang/invoke/VarHandle" ∧ (parseMethodDescriptor yJ0_coder_7d493.desc).map (fun d => d.parameters.length) = some 0 := ⟨by decide, by decide, by decide +kernel⟩
theorem gd_J0_length_8abf5 : yJ0_length_8abf5.cls ≠ "java/lang/invoke/MethodHandle" ∧ yJ0_length_8abf5.cls ≠ "java/lang/invoke/VarHandle" ∧ (parseMethodDescriptor yJ0_length_8abf5.desc).map (fun d => d.parameters.length) = some 0 := ⟨by decide, by decide, by decide +kernel⟩
theorem gd_J0_charAt_5068e : yJ0_charAt_5068e.cls ≠ "java/lang/invoke/MethodHandle" ∧ yJ0_charAt_5068e.cls ≠ "java/lang/invoke/VarHandle" ∧ (parseMethodDescriptor yJ0_charAt_5068e.desc).map (fun d => d.parameters.length) = some 1 := ⟨by decide, by decide, by decide +kernel⟩
abbrev M_J3_checkIndex_8e157 : g_M := (cJ3_checkIndex_8e157, 3, RJ3, (some .int), { frames := 0, cells := 0, slots := 0, locals := 0 }, 0, 0)
theorem dm_J3_checkIndex_8e157_0 : decode M_J3_checkIndex_8e157.1 0 = .ok (.iload_n 0, 1) := by decide +kernel
theorem dm_J3_checkIndex_8e157_1 : decode M_J3_checkIndex_8e157.1 1 = .ok (.ifCond .lt 8, 3) := by decide +kernel
theorem dm_J3_checkIndex_8e157_4 : decode M_J3_checkIndex_8e157.1 4 = .ok (.iload_n 0, 1) := by decide +kernel
theorem dm_J3_checkIndex_8e157_5 : decode M_J3_checkIndex_8e157.1 5 = .ok (.iload_n 1, 1) := by decide +kernel
theorem dm_J3_checkIndex_8e157_6 : decode M_J3_checkIndex_8e157.1 6 = .ok (.if_icmp .lt 10, 3) := by decide +kernel
theorem dm_J3_checkIndex_8e157_9 : decode M_J3_checkIndex_8e157.1 9 = .ok (.aload_n 2, 1) := by decide +kernel
theorem dm_J3_checkIndex_8e157_10 : decode M_J3_checkIndex_8e157.1 10 = .ok (.iload_n 0, 1) := by decide +kernel
theorem dm_J3_checkIndex_8e157_11 : decode M_J3_checkIndex_8e157.1 11 = .ok (.iload_n 1, 1) := by decide +kernel
theorem dm_J3_checkIndex_8e157_12 : decode M_J3_checkIndex_8e157.1 12 = .ok (.invokestatic 95, 3) := by decide +kernel
theorem dm_J3_checkIndex_8e157_15 : decode M_J3_checkIndex_8e157.1 15 = .ok (.athrow, 1) := by decide +kernel
theorem dm_J3_checkIndex_8e157_16 : decode M_J3_checkIndex_8e157.1 16 = .ok (.iload_n 0, 1) := by decide +kernel
theorem dm_J3_checkIndex_8e157_17 : decode M_J3_checkIndex_8e157.1 17 = .ok (.ireturn, 1) := by decide +kernel
abbrev M_J0_checkIndex_df160 : g_M := (cJ0_checkIndex_df160, 2, RJ0, none, { frames := 1, cells := 0, slots := 0, locals := 22 }, 0, 0)
theorem dm_J0_checkIndex_df160_0 : decode M_J0_checkIndex_df160.1 0 = .ok (.iload_n 0, 1) := by decide +kernel
theorem dm_J0_checkIndex_df160_1 : decode M_J0_checkIndex_df160.1 1 = .ok (.iload_n 1, 1) := by decide +kernel
theorem dm_J0_checkIndex_df160_2 : decode M_J0_checkIndex_df160.1 2 = .ok (.getstatic 1053, 3) := by decide +kernel
theorem dm_J0_checkIndex_df160_5 : decode M_J0_checkIndex_df160.1 5 = .ok (.invokestatic 1059, 3) := by decide +kernel
theorem dm_J0_checkIndex_df160_8 : decode M_J0_checkIndex_df160.1 8 = .ok (.pop, 1) := by decide +kernel
theorem dm_J0_checkIndex_df160_9 : decode M_J0_checkIndex_df160.1 9 = .ok (.return_, 1) := by decide +kernel
theorem gc_J0_checkIndex_df160_1059 : g_cs M_J0_checkIndex_df160 1059 M_J3_checkIndex_8e157 yJ3_checkIndex_8e157 3 := ⟨tw310, tw311, tw312, tw313, ⟨rfl, rfl, rfl, rfl⟩, gd_J3_checkIndex_8e157, ⟨by decide, by decide⟩⟩
abbrev M_J1_charAt_3b067 : g_M := (cJ1_charAt_3b067, 2, RJ1, (some .char), { frames := 2, cells := 0, slots := 0, locals := 43 }, 0, 0)
theorem dm_J1_charAt_3b067_0 : decode M_J1_charAt_3b067.1 0 = .ok (.iload_n 1, 1) := by decide +kernel
theorem dm_J1_charAt_3b067_1 : decode M_J1_charAt_3b067.1 1 = .ok (.aload_n 0, 1) := by decide +kernel
theorem dm_J1_charAt_3b067_2 : decode M_J1_charAt_3b067.1 2 = .ok (.arraylength, 1) := by decide +kernel
theorem dm_J1_charAt_3b067_3 : decode M_J1_charAt_3b067.1 3 = .ok (.invokestatic 9, 3) := by decide +kernel
theorem dm_J1_charAt_3b067_6 : decode M_J1_charAt_3b067.1 6 = .ok (.aload_n 0, 1) := by decide +kernel
theorem dm_J1_charAt_3b067_7 : decode M_J1_charAt_3b067.1 7 = .ok (.iload_n 1, 1) := by decide +kernel
theorem dm_J1_charAt_3b067_8 : decode M_J1_charAt_3b067.1 8 = .ok (.baload, 1) := by decide +kernel
theorem dm_J1_charAt_3b067_9 : decode M_J1_charAt_3b067.1 9 = .ok (.sipush 255, 3) := by decide +kernel
theorem dm_J1_charAt_3b067_12 : decode M_J1_charAt_3b067.1 12 = .ok (.iand, 1) := by decide +kernel
theorem dm_J1_charAt_3b067_13 : decode M_J1_charAt_3b067.1 13 = .ok (.i2c, 1) := by decide +kernel
theorem dm_J1_charAt_3b067_14 : decode M_J1_charAt_3b067.1 14 = .ok (.ireturn, 1) := by decide +kernel
theorem gc_J1_charAt_3b067_9 : g_cs M_J1_charAt_3b067 9 M_J0_checkIndex_df160 yJ0_checkIndex_df160 2 := ⟨tw306, tw307, tw285, tw308, ⟨rfl, rfl, rfl, rfl⟩, gd_J0_checkIndex_df160, ⟨by decide, by decide⟩⟩
abbrev M_J0_isLatin1_aae02 : g_M := (cJ0_isLatin1_aae02, 1, RJ0, (some .boolean), { frames := 0, cells := 0, slots := 0, locals := 0 }, 0, 0)
theorem dm_J0_isLatin1_aae02_0 : decode M_J0_isLatin1_aae02.1 0 = .ok (.getstatic 38, 3) := by decide +kernel
theorem dm_J0_isLatin1_aae02_3 : decode M_J0_isLatin1_aae02.1 3 = .ok (.ifCond .eq 14, 3) := by decide +kernel
theorem dm_J0_isLatin1_aae02_6 : decode M_J0_isLatin1_aae02.1 6 = .ok (.aload_n 0, 1) := by decide +kernel
theorem dm_J0_isLatin1_aae02_7 : decode M_J0_isLatin1_aae02.1 7 = .ok (.getfield 15, 3) := by decide +kernel
theorem dm_J0_isLatin1_aae02_10 : decode M_J0_isLatin1_aae02.1 10 = .ok (.ifCond .ne 7, 3) := by decide +kernel
theorem dm_J0_isLatin1_aae02_13 : decode M_J0_isLatin1_aae02.1 13 = .ok (.iconst 1, 1) := by decide +kernel
theorem dm_J0_isLatin1_aae02_14 : decode M_J0_isLatin1_aae02.1 14 = .ok (.goto 4, 3) := by decide +kernel
theorem dm_J0_isLatin1_aae02_17 : decode M_J0_isLatin1_aae02.1 17 = .ok (.iconst 0, 1) := by decide +kernel
theorem dm_J0_isLatin1_aae02_18 : decode M_J0_isLatin1_aae02.1 18 = .ok (.ireturn, 1) := by decide +kernel
abbrev M_J0_coder_7d493 : g_M := (cJ0_coder_7d493, 1, RJ0, (some .byte), { frames := 0, cells := 0, slots := 0, locals := 0 }, 0, 0)
theorem dm_J0_coder_7d493_0 : decode M_J0_coder_7d493.1 0 = .ok (.getstatic 38, 3) := by decide +kernel
theorem dm_J0_coder_7d493_3 : decode M_J0_coder_7d493.1 3 = .ok (.ifCond .eq 10, 3) := by decide +kernel
theorem dm_J0_coder_7d493_6 : decode M_J0_coder_7d493.1 6 = .ok (.aload_n 0, 1) := by decide +kernel
theorem dm_J0_coder_7d493_7 : decode M_J0_coder_7d493.1 7 = .ok (.getfield 15, 3) := by decide +kernel
theorem dm_J0_coder_7d493_10 : decode M_J0_coder_7d493.1 10 = .ok (.goto 4, 3) := by decide +kernel
theorem dm_J0_coder_7d493_13 : decode M_J0_coder_7d493.1 13 = .ok (.iconst 1, 1) := by decide +kernel
theorem dm_J0_coder_7d493_14 : decode M_J0_coder_7d493.1 14 = .ok (.ireturn, 1) := by decide +kernel
abbrev M_J0_length_8abf5 : g_M := (cJ0_length_8abf5, 1, RJ0, (some .int), { frames := 1, cells := 0, slots := 0, locals := 20 }, 0, 0)
theorem dm_J0_length_8abf5_0 : decode M_J0_length_8abf5.1 0 = .ok (.aload_n 0, 1) := by decide +kernel
theorem dm_J0_length_8abf5_1 : decode M_J0_length_8abf5.1 1 = .ok (.getfield 9, 3) := by decide +kernel
theorem dm_J0_length_8abf5_4 : decode M_J0_length_8abf5.1 4 = .ok (.arraylength, 1) := by decide +kernel
theorem dm_J0_length_8abf5_5 : decode M_J0_length_8abf5.1 5 = .ok (.aload_n 0, 1) := by decide +kernel
theorem dm_J0_length_8abf5_6 : decode M_J0_length_8abf5.1 6 = .ok (.invokevirtual 335, 3) := by decide +kernel
theorem dm_J0_length_8abf5_9 : decode M_J0_length_8abf5.1 9 = .ok (.ishr, 1) := by decide +kernel
theorem dm_J0_length_8abf5_10 : decode M_J0_length_8abf5.1 10 = .ok (.ireturn, 1) := by decide +kernel
theorem gc_J0_length_8abf5_335 : g_cv M_J0_length_8abf5 335 M_J0_coder_7d493 yJ0_coder_7d493 0 := ⟨tw288, tw289, tw290, tw285, tw291, ⟨rfl, rfl, rfl, rfl⟩, gd_J0_coder_7d493, ⟨by decide, by decide⟩⟩
abbrev M_J0_charAt_5068e : g_M := (cJ0_charAt_5068e, 2, RJ0, (some .char), { frames := 3, cells := 0, slots := 0, locals := 64 }, 0, 0)
theorem dm_J0_charAt_5068e_0 : decode M_J0_charAt_5068e.1 0 = .ok (.aload_n 0, 1) := by decide +kernel
theorem dm_J0_charAt_5068e_1 : decode M_J0_charAt_5068e.1 1 = .ok (.invokevirtual 492, 3) := by decide +kernel
theorem dm_J0_charAt_5068e_4 : decode M_J0_charAt_5068e.1 4 = .ok (.ifCond .eq 12, 3) := by decide +kernel
theorem dm_J0_charAt_5068e_7 : decode M_J0_charAt_5068e.1 7 = .ok (.aload_n 0, 1) := by decide +kernel
theorem dm_J0_charAt_5068e_8 : decode M_J0_charAt_5068e.1 8 = .ok (.getfield 9, 3) := by decide +kernel
theorem dm_J0_charAt_5068e_11 : decode M_J0_charAt_5068e.1 11 = .ok (.iload_n 1, 1) := by decide +kernel
theorem dm_J0_charAt_5068e_12 : decode M_J0_charAt_5068e.1 12 = .ok (.invokestatic 495, 3) := by decide +kernel
theorem dm_J0_charAt_5068e_15 : decode M_J0_charAt_5068e.1 15 = .ok (.ireturn, 1) := by decide +kernel
theorem dm_J0_charAt_5068e_16 : decode M_J0_charAt_5068e.1 16 = .ok (.aload_n 0, 1) := by decide +kernel
theorem dm_J0_charAt_5068e_17 : decode M_J0_charAt_5068e.1 17 = .ok (.getfield 9, 3) := by decide +kernel
theorem dm_J0_charAt_5068e_20 : decode M_J0_charAt_5068e.1 20 = .ok (.iload_n 1, 1) := by decide +kernel
theorem dm_J0_charAt_5068e_21 : decode M_J0_charAt_5068e.1 21 = .ok (.invokestatic 498, 3) := by decide +kernel
theorem dm_J0_charAt_5068e_24 : decode M_J0_charAt_5068e.1 24 = .ok (.ireturn, 1) := by decide +kernel
theorem gc_J0_charAt_5068e_492 : g_cv M_J0_charAt_5068e 492 M_J0_isLatin1_aae02 yJ0_isLatin1_aae02 0 := ⟨tw298, tw299, tw300, tw285, tw301, ⟨rfl, rfl, rfl, rfl⟩, gd_J0_isLatin1_aae02, ⟨by decide, by decide⟩⟩
theorem gc_J0_charAt_5068e_495 : g_cs M_J0_charAt_5068e 495 M_J1_charAt_3b067 yJ1_charAt_3b067 2 := ⟨tw302, tw303, tw304, tw305, ⟨rfl, rfl, rfl, rfl⟩, gd_J1_charAt_3b067, ⟨by decide, by decide⟩⟩
theorem g_Oof {s : Nat} (hs : 1200 ≤ s ∧ s < 1212) : g_O ("java/lang/String", s) := ⟨s - 1200, by omega, by rw [show 1200 + (s - 1200) = s by omega]⟩
theorem g_OFv {s : Nat} (hs : 1200 ≤ s ∧ s < 1212) : g_OF ("java/lang/String", "value", "[B", .ref (100 + s), s) := by
  have e1 : 1200 + (s - 1200) = s := by omega
  have e2 : 1300 + (s - 1200) = 100 + s := by omega
  have e3 : s - 1200 < 12 := by omega
  exact Or.inr ⟨s - 1200, e3, Or.inr (by rw [e1, e2])⟩
theorem g_OFc {s : Nat} (hs : 1200 ≤ s ∧ s < 1212) : g_OF ("java/lang/String", "coder", "B", .int 0, s) := by
  have e1 : 1200 + (s - 1200) = s := by omega
  have e3 : s - 1200 < 12 := by omega
  exact Or.inr ⟨s - 1200, e3, Or.inl (by rw [e1])⟩
theorem g_Tb {s : Nat} (hs : 1200 ≤ s ∧ s < 1212) : g_T (.byte, 100 + s, m_len.getD (s - 1200) 0, fun j => .int ((m_byt.getD (s - 1200) []).getD j 0)) := by
  have e2 : 1300 + (s - 1200) = 100 + s := by omega
  exact Or.inr ⟨s - 1200, by omega, by rw [e2]⟩
def f_J0_length_8abf5 (s : Nat) : Int32 := Int32.ofNat (m_len.getD (s - 1200) 0)
def f_J0_charAt_5068e (s : Nat) (i : Int32) : Int32 := g_i2c ((m_byt.getD (s - 1200) []).getD i.toNatClampNeg 0 &&& 255)
theorem m_len6 {i : Nat} (h : i < 12) : m_len.getD i 0 ≤ 6 := by
  rcases (show i = 0 ∨ i = 1 ∨ i = 2 ∨ i = 3 ∨ i = 4 ∨ i = 5 ∨ i = 6 ∨ i = 7 ∨ i = 8 ∨ i = 9 ∨ i = 10 ∨ i = 11 by omega) with h | h | h | h | h | h | h | h | h | h | h | h <;> subst h <;> decide
theorem k_J3_checkIndex_8e157_a {x y : Int32} (h0 : ¬ x < 0) (h1 : x < y) : K M_J3_checkIndex_8e157 yJ3_checkIndex_8e157 [.int x, .int y, .null] [] (some (.int x)) [] := by
  refine K.of (lv := [(0, .int x), (1, .int y), (2, .null)]) (by decide +kernel) rfl rfl rfl ?_
  refine G.iload_n (pc := 0) dm_J3_checkIndex_8e157_0 rfl ?_
  refine G.if_lt (pc := 1) (tgt := 9) dm_J3_checkIndex_8e157_1 (by decide) (fun c => absurd c h0) (fun c => ?_)
  refine G.iload_n (pc := 4) dm_J3_checkIndex_8e157_4 rfl ?_
  refine G.iload_n (pc := 5) dm_J3_checkIndex_8e157_5 rfl ?_
  refine G.icmp_lt (pc := 6) (tgt := 16) dm_J3_checkIndex_8e157_6 (by decide) (fun c => ?_) (fun c => absurd h1 c)
  refine G.iload_n (pc := 16) dm_J3_checkIndex_8e157_16 rfl ?_
  exact G.ireturn (pc := 17) dm_J3_checkIndex_8e157_17 rfl rfl rfl
theorem k_J3_checkIndex_8e157_b {x y : Int32} (h0 : ¬ x < 0) (h1 : x < y) : K M_J3_checkIndex_8e157 yJ3_checkIndex_8e157 [.int x, .int y, .ref 1004] [] (some (.int x)) [] := by
  refine K.of (lv := [(0, .int x), (1, .int y), (2, .ref 1004)]) (by decide +kernel) rfl rfl rfl ?_
  refine G.iload_n (pc := 0) dm_J3_checkIndex_8e157_0 rfl ?_
  refine G.if_lt (pc := 1) (tgt := 9) dm_J3_checkIndex_8e157_1 (by decide) (fun c => absurd c h0) (fun c => ?_)
  refine G.iload_n (pc := 4) dm_J3_checkIndex_8e157_4 rfl ?_
  refine G.iload_n (pc := 5) dm_J3_checkIndex_8e157_5 rfl ?_
  refine G.icmp_lt (pc := 6) (tgt := 16) dm_J3_checkIndex_8e157_6 (by decide) (fun c => ?_) (fun c => absurd h1 c)
  refine G.iload_n (pc := 16) dm_J3_checkIndex_8e157_16 rfl ?_
  exact G.ireturn (pc := 17) dm_J3_checkIndex_8e157_17 rfl rfl rfl
theorem k_J0_checkIndex_df160 {x y : Int32} (h0 : ¬ x < 0) (h1 : x < y) : K M_J0_checkIndex_df160 yJ0_checkIndex_df160 [.int x, .int y] [] none [] := by
  refine K.of (lv := [(0, .int x), (1, .int y)]) (by decide +kernel) rfl rfl rfl ?_
  refine G.iload_n (pc := 0) dm_J0_checkIndex_df160_0 rfl ?_
  refine G.iload_n (pc := 1) dm_J0_checkIndex_df160_1 rfl ?_
  refine G.getstaticQ (pc := 2) dm_J0_checkIndex_df160_2 tw309 ?_ ?_
  · refine G.callS (pc := 5) (rest := []) (st1 := [.int x]) (ws1 := []) [] dm_J0_checkIndex_df160_5 gc_J0_checkIndex_df160_1059 (k_J3_checkIndex_8e157_a h0 h1) rfl rfl rfl rfl rfl rfl rfl rfl ?_
    refine G.pop (pc := 8) dm_J0_checkIndex_df160_8 rfl ?_
    exact G.vreturn (pc := 9) dm_J0_checkIndex_df160_9 rfl rfl rfl
  · refine G.callS (pc := 5) (rest := []) (st1 := [.int x]) (ws1 := []) [] dm_J0_checkIndex_df160_5 gc_J0_checkIndex_df160_1059 (k_J3_checkIndex_8e157_b h0 h1) rfl rfl rfl rfl rfl rfl rfl rfl ?_
    refine G.pop (pc := 8) dm_J0_checkIndex_df160_8 rfl ?_
    exact G.vreturn (pc := 9) dm_J0_checkIndex_df160_9 rfl rfl rfl
theorem k_J1_charAt_3b067 {s : Nat} {i : Int32} (hs : 1200 ≤ s ∧ s < 1212) (hi : vp_in i (m_len.getD (s - 1200) 0)) : K M_J1_charAt_3b067 yJ1_charAt_3b067 [.ref (100 + s), .int i] [] (some (.int (f_J0_charAt_5068e s i))) [] := by
  have h6 := m_len6 (i := s - 1200) (by omega)
  have hin := vp_in_iff.mp hi
  have hn : (Int32.ofNat (m_len.getD (s - 1200) 0)).toInt = (m_len.getD (s - 1200) 0 : Int) := Int32.toInt_ofNat_of_lt (by omega)
  refine K.of (lv := [(0, .ref (100 + s)), (1, .int i)]) (by decide +kernel) rfl rfl rfl ?_
  refine G.iload_n (pc := 0) dm_J1_charAt_3b067_0 rfl ?_
  refine G.aload_n (pc := 1) dm_J1_charAt_3b067_1 rfl ?_
  refine G.alenC (pc := 2) dm_J1_charAt_3b067_2 (g_Tb hs) rfl ?_
  refine G.callS (pc := 3) (rest := []) (st1 := []) (ws1 := []) [] dm_J1_charAt_3b067_3 gc_J1_charAt_3b067_9 (k_J0_checkIndex_df160 (fun c => by have := q_lt c; have h8 : (0 : Int32).toInt = 0 := (by decide); omega) (Int32.lt_iff_toInt_lt.mpr (by rw [hn]; exact hin.2))) rfl rfl rfl rfl rfl rfl rfl rfl ?_
  refine G.aload_n (pc := 6) dm_J1_charAt_3b067_6 rfl ?_
  refine G.iload_n (pc := 7) dm_J1_charAt_3b067_7 rfl ?_
  refine G.baloadC (pc := 8) dm_J1_charAt_3b067_8 (g_Tb hs) hi rfl ?_
  refine G.sipush (pc := 9) (v := 255) dm_J1_charAt_3b067_9 qs_255 ?_
  refine G.iand (pc := 12) dm_J1_charAt_3b067_12 ?_
  refine G.i2c (pc := 13) dm_J1_charAt_3b067_13 ?_
  exact G.zreturn (pc := 14) dm_J1_charAt_3b067_14 rfl (pk_nc _) rfl rfl
theorem k_J0_isLatin1_aae02 {s : Nat} (hs : 1200 ≤ s ∧ s < 1212) : K M_J0_isLatin1_aae02 yJ0_isLatin1_aae02 [.ref s] [] (some (.int 1)) [] := by
  refine K.of (lv := [(0, .ref s)]) (by decide +kernel) rfl rfl rfl ?_
  refine G.getstatic (pc := 0) dm_J0_isLatin1_aae02_0 (Or.inr (Or.inr rfl)) tw292 ?_
  refine G.if_eq (pc := 3) (tgt := 17) dm_J0_isLatin1_aae02_3 (by decide) (fun c => absurd c (by decide)) (fun c => ?_)
  refine G.aload_n (pc := 6) dm_J0_isLatin1_aae02_6 rfl ?_
  refine G.getfieldC (pc := 7) dm_J0_isLatin1_aae02_7 (g_OFc hs) tw293 ?_
  refine G.if_ne (pc := 10) (tgt := 17) dm_J0_isLatin1_aae02_10 (by decide) (fun c => absurd rfl c) (fun c => ?_)
  refine G.iconst (pc := 13) (v := 1) dm_J0_isLatin1_aae02_13 qi_1 ?_
  refine G.goto (pc := 14) (tgt := 18) dm_J0_isLatin1_aae02_14 (by decide) ?_
  exact G.zreturn (pc := 18) dm_J0_isLatin1_aae02_18 rfl (by decide) rfl rfl
theorem k_J0_coder_7d493 {s : Nat} (hs : 1200 ≤ s ∧ s < 1212) : K M_J0_coder_7d493 yJ0_coder_7d493 [.ref s] [] (some (.int 0)) [] := by
  refine K.of (lv := [(0, .ref s)]) (by decide +kernel) rfl rfl rfl ?_
  refine G.getstatic (pc := 0) dm_J0_coder_7d493_0 (Or.inr (Or.inr rfl)) tw292 ?_
  refine G.if_eq (pc := 3) (tgt := 13) dm_J0_coder_7d493_3 (by decide) (fun c => absurd c (by decide)) (fun c => ?_)
  refine G.aload_n (pc := 6) dm_J0_coder_7d493_6 rfl ?_
  refine G.getfieldC (pc := 7) dm_J0_coder_7d493_7 (g_OFc hs) tw293 ?_
  refine G.goto (pc := 10) (tgt := 14) dm_J0_coder_7d493_10 (by decide) ?_
  exact G.zreturn (pc := 14) dm_J0_coder_7d493_14 rfl (by decide) rfl rfl
theorem k_J0_length_8abf5 {s : Nat} (hs : 1200 ≤ s ∧ s < 1212) {r_0 : Int32} (hres : r_0 = f_J0_length_8abf5 s) : K M_J0_length_8abf5 yJ0_length_8abf5 [.ref s] [] (some (.int r_0)) [] := by
  refine K.of (lv := [(0, .ref s)]) (by decide +kernel) rfl rfl rfl ?_
  refine G.aload_n (pc := 0) dm_J0_length_8abf5_0 rfl ?_
  refine G.getfieldC (pc := 1) dm_J0_length_8abf5_1 (g_OFv hs) tw287 ?_
  refine G.alenC (pc := 4) dm_J0_length_8abf5_4 (g_Tb hs) rfl ?_
  refine G.aload_n (pc := 5) dm_J0_length_8abf5_5 rfl ?_
  refine G.callVC (pc := 6) (rest := [.int (Int32.ofNat (m_len.getD (s - 1200) 0))]) (st1 := [.int 0, .int (Int32.ofNat (m_len.getD (s - 1200) 0))]) dm_J0_length_8abf5_6 gc_J0_length_8abf5_335 (k_J0_coder_7d493 hs) (g_Oof hs) rfl rfl rfl rfl rfl ?_
  refine G.ishr (pc := 9) dm_J0_length_8abf5_9 ?_
  have e : (Int32.ofNat (m_len.getD (s - 1200) 0)) >>> ((0 : Int32) &&& 31) = r_0 := by
    rw [hres, f_J0_length_8abf5, show ((0 : Int32) &&& 31) = 0 by decide, Int32.shiftRight_zero]
  rw [e]
  exact G.ireturn (pc := 10) dm_J0_length_8abf5_10 rfl rfl rfl
theorem k_J0_charAt_5068e {s : Nat} {i : Int32} (hs : 1200 ≤ s ∧ s < 1212) (hi : vp_in i (m_len.getD (s - 1200) 0)) {r_0 : Int32} (hres : r_0 = f_J0_charAt_5068e s i) : K M_J0_charAt_5068e yJ0_charAt_5068e [.ref s, .int i] [] (some (.int r_0)) [] := by
  subst hres
  refine K.of (lv := [(0, .ref s), (1, .int i)]) (by decide +kernel) rfl rfl rfl ?_
  refine G.aload_n (pc := 0) dm_J0_charAt_5068e_0 rfl ?_
  refine G.callVC (pc := 1) (rest := []) (st1 := [.int 1]) dm_J0_charAt_5068e_1 gc_J0_charAt_5068e_492 (k_J0_isLatin1_aae02 hs) (g_Oof hs) rfl rfl rfl rfl rfl ?_
  refine G.if_eq (pc := 4) (tgt := 16) dm_J0_charAt_5068e_4 (by decide) (fun c => absurd c (by decide)) (fun c => ?_)
  refine G.aload_n (pc := 7) dm_J0_charAt_5068e_7 rfl ?_
  refine G.getfieldC (pc := 8) dm_J0_charAt_5068e_8 (g_OFv hs) tw287 ?_
  refine G.iload_n (pc := 11) dm_J0_charAt_5068e_11 rfl ?_
  refine G.callS (pc := 12) (rest := []) (st1 := [.int (f_J0_charAt_5068e s i)]) (ws1 := _) [] dm_J0_charAt_5068e_12 gc_J0_charAt_5068e_495 (k_J1_charAt_3b067 hs hi) ?_ rfl rfl rfl rfl rfl rfl rfl ?_
  · rfl
  exact G.zreturn (pc := 15) dm_J0_charAt_5068e_15 rfl (pk_nc _) rfl rfl
