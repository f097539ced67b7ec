theorem q_clt {x t : Int32} (h : 0 ≤ x.toInt) (c : x.toInt < t.toInt) : x.toNatClampNeg < t.toInt.toNat := by
  rw [pk_cl x.toInt.toNat (q_nI h) (by have := q_rng x; omega)]; omega
theorem q_asmdec {at_ s0 : Int32} {mu : Nat} (hat : 0 ≤ at_.toInt ∧ at_.toInt ≤ 400) (hmu : 402 - at_.toInt.toNat ≤ mu ∧ 0 < mu) : (if s0 = 0 then 0 else 402 - (at_ + 1).toInt.toNat) < mu := by
  split
  · exact hmu.2
  · rw [q_inc (by omega)]; omega
theorem q_asmst {a : Int32} : (if (1 : Int32) = 0 then 0 else 402 - a.toInt.toNat) < 403 := by
  split <;> omega
theorem q_wf0 {f : Int32} (h : 0 ≤ f.toInt ∧ f.toInt < 128) : (0 : Int32) = 0 → f.toInt + (0 : Int32).toInt ≤ 128 := fun _ => by
  have h8 : (0 : Int32).toInt = 0 := by decide
  omega
theorem q_stk {t f k : Int32} (ht : 0 ≤ t.toInt ∧ t.toInt < 4) (hf : 0 ≤ f.toInt ∧ f.toInt < 128) (hk : 0 ≤ k.toInt) (hw : f.toInt + k.toInt < 128) : vp_in (128 * t + f + k) 512 := by
  have h := q_mad (c := 128) (C := 128) (by decide) (by omega) ht (r := f) (by omega)
  have h2 : (128 * t + f + k).toInt = 128 * t.toInt + f.toInt + k.toInt := by rw [q_add (by rw [h]; omega) (by rw [h]; omega), h]
  exact q_in (by rw [h2]; omega) (by rw [h2]; omega)
theorem q_txt {length k n : Int32} (hln : 0 ≤ length.toInt ∧ length.toInt ≤ 400) (hk : 0 ≤ k.toInt) (hkn : k.toInt < n.toInt) (hr : 1 ≤ n.toInt ∧ n.toInt ≤ 8 ∧ length.toInt + n.toInt ≤ 400) : vp_in (length + k) 400 := by
  have h2 : (length + k).toInt = length.toInt + k.toInt := q_add (by omega) (by omega)
  exact q_in (by rw [h2]; omega) (by rw [h2]; omega)
theorem q_ty {length n : Int32} (hln : 0 ≤ length.toInt ∧ length.toInt ≤ 400) (hn : 1 ≤ n.toInt ∧ n.toInt ≤ 8) (c : length + n ≤ 400) : 1 ≤ n.toInt ∧ n.toInt ≤ 8 ∧ length.toInt + n.toInt ≤ 400 := by
  have h2 : (length + n).toInt = length.toInt + n.toInt := q_add (by omega) (by omega)
  have h3 := q_le c
  have h4 : (400 : Int32).toInt = 400 := by decide
  omega
theorem gd_X11_link : yX11_link.cls ≠ "java/lang/invoke/MethodHandle" ∧ yX11_link.cls ≠ "java/lang/invoke/VarHandle" ∧ (parseMethodDescriptor yX11_link.desc).map (fun d => d.parameters.length) = some 1 := ⟨by decide, by decide, by decide +kernel⟩
theorem gd_X11_assemble : yX11_assemble.cls ≠ "java/lang/invoke/MethodHandle" ∧ yX11_assemble.cls ≠ "java/lang/invoke/VarHandle" ∧ (parseMethodDescriptor yX11_assemble.desc).map (fun d => d.parameters.length) = some 2 := ⟨by decide, by decide, by decide +kernel⟩
theorem gd_X11_type : yX11_type.cls ≠ "java/lang/invoke/MethodHandle" ∧ yX11_type.cls ≠ "java/lang/invoke/VarHandle" ∧ (parseMethodDescriptor yX11_type.desc).map (fun d => d.parameters.length) = some 2 := ⟨by decide, by decide, by decide +kernel⟩
theorem b_X11_labelOf_32 {l1 : Int64} {l4 : Int32} {s0 : Int32} {labels : Int32} {kL5 : Int64 → Int32 → Int32 → Int32} {r_0 : Int32} (hres : r_0 = (f_X11_labelOf_32 l1 l4 kL5 s0)) (hlb : 0 ≤ labels.toInt) (hs : s0.toInt < labels.toInt ∨ s0.toInt ≤ 0) (hk5 : ∀ {l1 : Int64} {l3 : Int32} {l4 : Int32}, (0 ≤ labels.toInt) → (l3.toInt < labels.toInt ∨ l3.toInt ≤ 0) → r_0 = kL5 l1 l3 l4 → r_0.toInt < labels.toInt ∨ r_0.toInt ≤ 0) : r_0.toInt < labels.toInt ∨ r_0.toInt ≤ 0 := by
  rw [f_X11_labelOf_32] at hres
  exact hk5 (by assumption) (by assumption) hres
theorem b_X11_labelOf_5 : ∀ (n : Nat) {l1 : Int64} {l3 : Int32} {l4 : Int32} {labels : Int32} {label : Nat → Int64} {r_0 : Int32}, (0 ≤ labels.toInt) → (l3.toInt < labels.toInt ∨ l3.toInt ≤ 0) → r_0 = f_X11_labelOf_5 labels label n l1 l3 l4 → r_0.toInt < labels.toInt ∨ r_0.toInt ≤ 0 := by
  intro n
  induction n with
  | zero =>
    intro l1 l3 l4 labels label r_0 hlb h3 hres
    rw [f_X11_labelOf_5] at hres
    subst hres
    exact (Or.inr (by decide))
  | succ n ih =>
    intro l1 l3 l4 labels label r_0 hlb h3 hres
    have hk5 : ∀ {l1 : Int64} {l3 : Int32} {l4 : Int32}, (0 ≤ labels.toInt) → (l3.toInt < labels.toInt ∨ l3.toInt ≤ 0) → r_0 = (f_X11_labelOf_5 labels label n) l1 l3 l4 → r_0.toInt < labels.toInt ∨ r_0.toInt ≤ 0 := fun hlb h3 he => ih hlb h3 he
    rw [f_X11_labelOf_5] at hres
    by_cases c11 : labels ≤ l4
    · rw [if_pos c11] at hres
      subst hres
      exact h3
    · rw [if_neg c11] at hres
      by_cases c23 : (lg_cmp (label (Int32.toNatClampNeg l4)) l1) = 0
      · rw [if_pos c23] at hres
        exact b_X11_labelOf_32 hres hlb (Or.inl (q_nle c11)) hk5
      · rw [if_neg c23] at hres
        exact b_X11_labelOf_32 hres hlb h3 hk5
theorem b_X11_labelOf {w : Int64} {labels : Int32} {label : Nat → Int64} {r_0 : Int32} (hres : r_0 = f_X11_labelOf w labels label) (hlb : 0 ≤ labels.toInt) : r_0.toInt < labels.toInt ∨ r_0.toInt ≤ 0 := by
  rw [f_X11_labelOf] at hres
  exact b_X11_labelOf_5 _ hlb (Or.inr (by decide)) hres
abbrev M_X11_link : g_M := (cX11_link, 7, RX11, none, { frames := 1, cells := 0, slots := 0, locals := 24 }, 0, 0)
theorem dm_X11_link_0 : decode M_X11_link.1 0 = .ok (.iconst 0, 1) := by decide +kernel
theorem dm_X11_link_1 : decode M_X11_link.1 1 = .ok (.istore_n 2, 1) := by decide +kernel
theorem dm_X11_link_2 : decode M_X11_link.1 2 = .ok (.iload_n 2, 1) := by decide +kernel
theorem dm_X11_link_3 : decode M_X11_link.1 3 = .ok (.aload_n 0, 1) := by decide +kernel
theorem dm_X11_link_4 : decode M_X11_link.1 4 = .ok (.getfield 199, 3) := by decide +kernel
theorem dm_X11_link_7 : decode M_X11_link.1 7 = .ok (.if_icmp .ge 170, 3) := by decide +kernel
theorem dm_X11_link_10 : decode M_X11_link.1 10 = .ok (.aload_n 0, 1) := by decide +kernel
theorem dm_X11_link_11 : decode M_X11_link.1 11 = .ok (.getfield 273, 3) := by decide +kernel
theorem dm_X11_link_14 : decode M_X11_link.1 14 = .ok (.ifCond .ne 163, 3) := by decide +kernel
theorem dm_X11_link_17 : decode M_X11_link.1 17 = .ok (.aload_n 0, 1) := by decide +kernel
theorem dm_X11_link_18 : decode M_X11_link.1 18 = .ok (.aload_n 0, 1) := by decide +kernel
theorem dm_X11_link_19 : decode M_X11_link.1 19 = .ok (.getfield 24, 3) := by decide +kernel
theorem dm_X11_link_22 : decode M_X11_link.1 22 = .ok (.iload_n 2, 1) := by decide +kernel
theorem dm_X11_link_23 : decode M_X11_link.1 23 = .ok (.laload, 1) := by decide +kernel
theorem dm_X11_link_24 : decode M_X11_link.1 24 = .ok (.invokevirtual 259, 3) := by decide +kernel
theorem dm_X11_link_27 : decode M_X11_link.1 27 = .ok (.istore_n 3, 1) := by decide +kernel
theorem dm_X11_link_28 : decode M_X11_link.1 28 = .ok (.aload_n 0, 1) := by decide +kernel
theorem dm_X11_link_29 : decode M_X11_link.1 29 = .ok (.getfield 27, 3) := by decide +kernel
theorem dm_X11_link_32 : decode M_X11_link.1 32 = .ok (.iload_n 2, 1) := by decide +kernel
theorem dm_X11_link_33 : decode M_X11_link.1 33 = .ok (.iaload, 1) := by decide +kernel
theorem dm_X11_link_34 : decode M_X11_link.1 34 = .ok (.istore 4, 2) := by decide +kernel
theorem dm_X11_link_36 : decode M_X11_link.1 36 = .ok (.aload_n 0, 1) := by decide +kernel
theorem dm_X11_link_37 : decode M_X11_link.1 37 = .ok (.getfield 13, 3) := by decide +kernel
theorem dm_X11_link_40 : decode M_X11_link.1 40 = .ok (.iload 4, 2) := by decide +kernel
theorem dm_X11_link_42 : decode M_X11_link.1 42 = .ok (.iaload, 1) := by decide +kernel
theorem dm_X11_link_43 : decode M_X11_link.1 43 = .ok (.bipush 127, 2) := by decide +kernel
theorem dm_X11_link_45 : decode M_X11_link.1 45 = .ok (.iand, 1) := by decide +kernel
theorem dm_X11_link_46 : decode M_X11_link.1 46 = .ok (.bipush 111, 2) := by decide +kernel
theorem dm_X11_link_48 : decode M_X11_link.1 48 = .ok (.if_icmp .ne 7, 3) := by decide +kernel
theorem dm_X11_link_51 : decode M_X11_link.1 51 = .ok (.iconst 1, 1) := by decide +kernel
theorem dm_X11_link_52 : decode M_X11_link.1 52 = .ok (.goto 4, 3) := by decide +kernel
theorem dm_X11_link_55 : decode M_X11_link.1 55 = .ok (.iconst 0, 1) := by decide +kernel
theorem dm_X11_link_56 : decode M_X11_link.1 56 = .ok (.istore 5, 2) := by decide +kernel
theorem dm_X11_link_58 : decode M_X11_link.1 58 = .ok (.iload_n 3, 1) := by decide +kernel
theorem dm_X11_link_59 : decode M_X11_link.1 59 = .ok (.ifCond .ge 7, 3) := by decide +kernel
theorem dm_X11_link_62 : decode M_X11_link.1 62 = .ok (.iconst 0, 1) := by decide +kernel
theorem dm_X11_link_63 : decode M_X11_link.1 63 = .ok (.goto 16, 3) := by decide +kernel
theorem dm_X11_link_66 : decode M_X11_link.1 66 = .ok (.iconst 4, 1) := by decide +kernel
theorem dm_X11_link_67 : decode M_X11_link.1 67 = .ok (.aload_n 0, 1) := by decide +kernel
theorem dm_X11_link_68 : decode M_X11_link.1 68 = .ok (.getfield 21, 3) := by decide +kernel
theorem dm_X11_link_71 : decode M_X11_link.1 71 = .ok (.iload_n 3, 1) := by decide +kernel
theorem dm_X11_link_72 : decode M_X11_link.1 72 = .ok (.iaload, 1) := by decide +kernel
theorem dm_X11_link_73 : decode M_X11_link.1 73 = .ok (.iload_n 1, 1) := by decide +kernel
theorem dm_X11_link_74 : decode M_X11_link.1 74 = .ok (.isub, 1) := by decide +kernel
theorem dm_X11_link_75 : decode M_X11_link.1 75 = .ok (.iload 4, 2) := by decide +kernel
theorem dm_X11_link_77 : decode M_X11_link.1 77 = .ok (.isub, 1) := by decide +kernel
theorem dm_X11_link_78 : decode M_X11_link.1 78 = .ok (.imul, 1) := by decide +kernel
theorem dm_X11_link_79 : decode M_X11_link.1 79 = .ok (.istore 6, 2) := by decide +kernel
theorem dm_X11_link_81 : decode M_X11_link.1 81 = .ok (.aload_n 0, 1) := by decide +kernel
theorem dm_X11_link_82 : decode M_X11_link.1 82 = .ok (.iload_n 3, 1) := by decide +kernel
theorem dm_X11_link_83 : decode M_X11_link.1 83 = .ok (.ifCond .ge 7, 3) := by decide +kernel
theorem dm_X11_link_86 : decode M_X11_link.1 86 = .ok (.iconst 3, 1) := by decide +kernel
theorem dm_X11_link_87 : decode M_X11_link.1 87 = .ok (.goto 29, 3) := by decide +kernel
theorem dm_X11_link_90 : decode M_X11_link.1 90 = .ok (.iload 5, 2) := by decide +kernel
theorem dm_X11_link_92 : decode M_X11_link.1 92 = .ok (.ifCond .ne 23, 3) := by decide +kernel
theorem dm_X11_link_95 : decode M_X11_link.1 95 = .ok (.iload 6, 2) := by decide +kernel
theorem dm_X11_link_97 : decode M_X11_link.1 97 = .ok (.sipush (-4096), 3) := by decide +kernel
theorem dm_X11_link_100 : decode M_X11_link.1 100 = .ok (.if_icmp .lt 11, 3) := by decide +kernel
theorem dm_X11_link_103 : decode M_X11_link.1 103 = .ok (.iload 6, 2) := by decide +kernel
theorem dm_X11_link_105 : decode M_X11_link.1 105 = .ok (.sipush 4094, 3) := by decide +kernel
theorem dm_X11_link_108 : decode M_X11_link.1 108 = .ok (.if_icmp .le 7, 3) := by decide +kernel
theorem dm_X11_link_111 : decode M_X11_link.1 111 = .ok (.iconst 2, 1) := by decide +kernel
theorem dm_X11_link_112 : decode M_X11_link.1 112 = .ok (.goto 4, 3) := by decide +kernel
theorem dm_X11_link_115 : decode M_X11_link.1 115 = .ok (.iconst 0, 1) := by decide +kernel
theorem dm_X11_link_116 : decode M_X11_link.1 116 = .ok (.putfield 273, 3) := by decide +kernel
theorem dm_X11_link_119 : decode M_X11_link.1 119 = .ok (.aload_n 0, 1) := by decide +kernel
theorem dm_X11_link_120 : decode M_X11_link.1 120 = .ok (.aload_n 0, 1) := by decide +kernel
theorem dm_X11_link_121 : decode M_X11_link.1 121 = .ok (.getfield 273, 3) := by decide +kernel
theorem dm_X11_link_124 : decode M_X11_link.1 124 = .ok (.ifCond .ne 10, 3) := by decide +kernel
theorem dm_X11_link_127 : decode M_X11_link.1 127 = .ok (.aload_n 0, 1) := by decide +kernel
theorem dm_X11_link_128 : decode M_X11_link.1 128 = .ok (.getfield 276, 3) := by decide +kernel
theorem dm_X11_link_131 : decode M_X11_link.1 131 = .ok (.goto 9, 3) := by decide +kernel
theorem dm_X11_link_134 : decode M_X11_link.1 134 = .ok (.aload_n 0, 1) := by decide +kernel
theorem dm_X11_link_135 : decode M_X11_link.1 135 = .ok (.getfield 30, 3) := by decide +kernel
theorem dm_X11_link_138 : decode M_X11_link.1 138 = .ok (.iload_n 2, 1) := by decide +kernel
theorem dm_X11_link_139 : decode M_X11_link.1 139 = .ok (.iaload, 1) := by decide +kernel
theorem dm_X11_link_140 : decode M_X11_link.1 140 = .ok (.putfield 276, 3) := by decide +kernel
theorem dm_X11_link_143 : decode M_X11_link.1 143 = .ok (.aload_n 0, 1) := by decide +kernel
theorem dm_X11_link_144 : decode M_X11_link.1 144 = .ok (.getfield 13, 3) := by decide +kernel
theorem dm_X11_link_147 : decode M_X11_link.1 147 = .ok (.iload 4, 2) := by decide +kernel
theorem dm_X11_link_149 : decode M_X11_link.1 149 = .ok (.dup2, 1) := by decide +kernel
theorem dm_X11_link_150 : decode M_X11_link.1 150 = .ok (.iaload, 1) := by decide +kernel
theorem dm_X11_link_151 : decode M_X11_link.1 151 = .ok (.iload 5, 2) := by decide +kernel
theorem dm_X11_link_153 : decode M_X11_link.1 153 = .ok (.ifCond .eq 11, 3) := by decide +kernel
theorem dm_X11_link_156 : decode M_X11_link.1 156 = .ok (.iload 6, 2) := by decide +kernel
theorem dm_X11_link_158 : decode M_X11_link.1 158 = .ok (.invokestatic 214, 3) := by decide +kernel
theorem dm_X11_link_161 : decode M_X11_link.1 161 = .ok (.goto 8, 3) := by decide +kernel
theorem dm_X11_link_164 : decode M_X11_link.1 164 = .ok (.iload 6, 2) := by decide +kernel
theorem dm_X11_link_166 : decode M_X11_link.1 166 = .ok (.invokestatic 217, 3) := by decide +kernel
theorem dm_X11_link_169 : decode M_X11_link.1 169 = .ok (.ior, 1) := by decide +kernel
theorem dm_X11_link_170 : decode M_X11_link.1 170 = .ok (.iastore, 1) := by decide +kernel
theorem dm_X11_link_171 : decode M_X11_link.1 171 = .ok (.iinc 2 1, 3) := by decide +kernel
theorem dm_X11_link_174 : decode M_X11_link.1 174 = .ok (.goto (-172), 3) := by decide +kernel
theorem dm_X11_link_177 : decode M_X11_link.1 177 = .ok (.return_, 1) := by decide +kernel
theorem gc_X11_link_259 : g_cv M_X11_link 259 M_X11_labelOf yX11_labelOf 1 := ⟨tw436, tw437, tw438, tw5, tw439, ⟨rfl, rfl, rfl, rfl⟩, gd_X11_labelOf, ⟨by decide, by decide⟩⟩
theorem gc_X11_link_214 : g_cs M_X11_link 214 M_X11_jumping yX11_jumping 1 := ⟨tw527, tw528, tw5, tw529, ⟨rfl, rfl, rfl, rfl⟩, gd_X11_jumping, ⟨by decide, by decide⟩⟩
theorem gc_X11_link_217 : g_cs M_X11_link 217 M_X11_branching yX11_branching 1 := ⟨tw530, tw531, tw5, tw532, ⟨rfl, rfl, rfl, rfl⟩, gd_X11_branching, ⟨by decide, by decide⟩⟩
def f_X11_link_169 (fault : Int32) (faultLine : Int32) (code_ : Nat → Int32) (l1 : Int32) (l2 : Int32) (kL2 : Int32 → Int32 → Int32 → Int32 → (Nat → Int32) → Int32 × Int32 × (Nat → Int32)) (s1 : Int32) (s2 : Int32) (s3 : Int32) : Int32 × Int32 × (Nat → Int32) := (kL2 l1 (l2 + (1 : Int32)) fault faultLine (upd code_ (Int32.toNatClampNeg s1) (s2 ||| s3)))
set_option maxRecDepth 20000 in
theorem j_X11_link_169 {l1 : Int32} {l2 : Int32} {s1 : Int32} {s2 : Int32} {s3 : Int32} {refusal : Int32} {wheel : Int32} {now : Int32} {length : Int32} {at_ : Int32} {fault : Int32} {faultLine : Int32} {line : Int32} {words : Int32} {labels : Int32} {targets : Int32} {wrong : Int32} {unfit : Int32} {text : Nat → Int32} {code_ : Nat → Int32} {label : Nat → Int64} {labelWord : Nat → Int32} {target : Nat → Int64} {targetWord : Nat → Int32} {targetLine : Nat → Int32} {store : Nat → Int32} {common : Nat → Int32} {low : Nat → Int32} {high : Nat → Int32} {register : Nat → Int32} {address : Nat → Int32} {status : Nat → Int32} {did : Nat → Int32} {ready : Nat → Int32} {timer : Nat → Int32} {trace : Nat → Int32} {kL2 : Int32 → Int32 → Int32 → Int32 → (Nat → Int32) → Int32 × Int32 × (Nat → Int32)} {r_0 : Int32} {r_1 : Int32} {r_2 : (Nat → Int32)} (hres : (r_0, r_1, r_2) = (f_X11_link_169 fault faultLine code_ l1 l2 kL2 s1 s2 s3)) (htg : 0 ≤ targets.toInt ∧ targets.toInt ≤ 128) (hlb : 0 ≤ labels.toInt ∧ labels.toInt ≤ 16) (h2 : 0 ≤ l2.toInt) (htw : ∀ j, j < targets.toInt.toNat → 0 ≤ (targetWord j).toInt ∧ (targetWord j).toInt < 128) (hk : l2.toInt < targets.toInt) (hs1 : vp_in s1 128) {mu : Nat} (hmu : (128 - l2.toInt.toNat) = mu) (hk2 : ∀ {l1 : Int32} {l2 : Int32} {fault : Int32} {faultLine : Int32} {code_ : Nat → Int32}, (0 ≤ targets.toInt ∧ targets.toInt ≤ 128) → (0 ≤ labels.toInt ∧ labels.toInt ≤ 16) → (0 ≤ l2.toInt) → (∀ j, j < targets.toInt.toNat → 0 ≤ (targetWord j).toInt ∧ (targetWord j).toInt < 128) → (128 - l2.toInt.toNat) < mu → (r_0, r_1, r_2) = kL2 l1 l2 fault faultLine code_ → G M_X11_link 0 0 2 [(0, .ref 0), (1, .int l1), (2, .int l2)] [] (w_M refusal wheel now length at_ fault faultLine line words labels targets wrong unfit text code_ label labelWord target targetWord targetLine store common low high register address status did ready timer trace) (none) (w_M refusal wheel now length at_ r_0 r_1 line words labels targets wrong unfit text r_2 label labelWord target targetWord targetLine store common low high register address status did ready timer trace)) : G M_X11_link 0 0 169 [(0, .ref 0), (1, .int l1), (2, .int l2)] [.int s3, .int s2, .int s1, .ref 2] (w_M refusal wheel now length at_ fault faultLine line words labels targets wrong unfit text code_ label labelWord target targetWord targetLine store common low high register address status did ready timer trace) (none) (w_M refusal wheel now length at_ r_0 r_1 line words labels targets wrong unfit text r_2 label labelWord target targetWord targetLine store common low high register address status did ready timer trace) := by
  rw [f_X11_link_169] at hres
  refine G.ior (pc := 169) dm_X11_link_169 ?_
  refine G.iastore (pc := 170) (ws1 := (w_M refusal wheel now length at_ fault faultLine line words labels targets wrong unfit text (upd code_ (Int32.toNatClampNeg s1) (s2 ||| s3)) label labelWord target targetWord targetLine store common low high register address status did ready timer trace)) dm_X11_link_170 rfl hs1 rfl ?_
  refine G.iinc (pc := 171) (v := (l2 + (1 : Int32))) (lv1 := [(2, .int (l2 + (1 : Int32))), (0, .ref 0), (1, .int l1)]) dm_X11_link_171 rfl rfl rfl rfl ?_
  refine G.goto (pc := 174) (tgt := 2) dm_X11_link_174 (by decide) ?_
  refine G.lvp [1, 2, 0] rfl ?_
  exact hk2 htg hlb (by rw [q_inc (by omega)]; omega) htw (by rw [q_inc (by omega)]; omega) hres
def f_X11_link_c166 (fault : Int32) (code_ : Nat → Int32) (l1 : Int32) (l2 : Int32) (kL2 : Int32 → Int32 → Int32 → Int32 → (Nat → Int32) → Int32 × Int32 × (Nat → Int32)) (l4 : Int32) (s1 : Int32) (z2_0 : Int32) : Int32 × Int32 × (Nat → Int32) := (f_X11_link_169 fault s1 code_ l1 l2 kL2 l4 (code_ (Int32.toNatClampNeg l4)) z2_0)
def f_X11_link_c158 (fault : Int32) (code_ : Nat → Int32) (l1 : Int32) (l2 : Int32) (kL2 : Int32 → Int32 → Int32 → Int32 → (Nat → Int32) → Int32 × Int32 × (Nat → Int32)) (l4 : Int32) (s1 : Int32) (z3_0 : Int32) : Int32 × Int32 × (Nat → Int32) := (f_X11_link_169 fault s1 code_ l1 l2 kL2 l4 (code_ (Int32.toNatClampNeg l4)) z3_0)
def f_X11_link_140 (fault : Int32) (code_ : Nat → Int32) (l1 : Int32) (l2 : Int32) (kL2 : Int32 → Int32 → Int32 → Int32 → (Nat → Int32) → Int32 × Int32 × (Nat → Int32)) (l4 : Int32) (l5 : Int32) (l6 : Int32) (s1 : Int32) : Int32 × Int32 × (Nat → Int32) := (if l5 = 0 then (f_X11_link_c166 fault code_ l1 l2 kL2 l4 s1 (f_X11_branching l6)) else (f_X11_link_c158 fault code_ l1 l2 kL2 l4 s1 (f_X11_jumping l6)))
set_option maxRecDepth 20000 in
theorem j_X11_link_140 {l1 : Int32} {l2 : Int32} {l4 : Int32} {l5 : Int32} {l6 : Int32} {s1 : Int32} {refusal : Int32} {wheel : Int32} {now : Int32} {length : Int32} {at_ : Int32} {fault : Int32} {faultLine : Int32} {line : Int32} {words : Int32} {labels : Int32} {targets : Int32} {wrong : Int32} {unfit : Int32} {text : Nat → Int32} {code_ : Nat → Int32} {label : Nat → Int64} {labelWord : Nat → Int32} {target : Nat → Int64} {targetWord : Nat → Int32} {targetLine : Nat → Int32} {store : Nat → Int32} {common : Nat → Int32} {low : Nat → Int32} {high : Nat → Int32} {register : Nat → Int32} {address : Nat → Int32} {status : Nat → Int32} {did : Nat → Int32} {ready : Nat → Int32} {timer : Nat → Int32} {trace : Nat → Int32} {kL2 : Int32 → Int32 → Int32 → Int32 → (Nat → Int32) → Int32 × Int32 × (Nat → Int32)} {r_0 : Int32} {r_1 : Int32} {r_2 : (Nat → Int32)} (hres : (r_0, r_1, r_2) = (f_X11_link_140 fault code_ l1 l2 kL2 l4 l5 l6 s1)) (htg : 0 ≤ targets.toInt ∧ targets.toInt ≤ 128) (hlb : 0 ≤ labels.toInt ∧ labels.toInt ≤ 16) (h2 : 0 ≤ l2.toInt) (htw : ∀ j, j < targets.toInt.toNat → 0 ≤ (targetWord j).toInt ∧ (targetWord j).toInt < 128) (hk : l2.toInt < targets.toInt) (h4 : 0 ≤ l4.toInt ∧ l4.toInt < 128) {mu : Nat} (hmu : (128 - l2.toInt.toNat) = mu) (hk2 : ∀ {l1 : Int32} {l2 : Int32} {fault : Int32} {faultLine : Int32} {code_ : Nat → Int32}, (0 ≤ targets.toInt ∧ targets.toInt ≤ 128) → (0 ≤ labels.toInt ∧ labels.toInt ≤ 16) → (0 ≤ l2.toInt) → (∀ j, j < targets.toInt.toNat → 0 ≤ (targetWord j).toInt ∧ (targetWord j).toInt < 128) → (128 - l2.toInt.toNat) < mu → (r_0, r_1, r_2) = kL2 l1 l2 fault faultLine code_ → G M_X11_link 0 0 2 [(0, .ref 0), (1, .int l1), (2, .int l2)] [] (w_M refusal wheel now length at_ fault faultLine line words labels targets wrong unfit text code_ label labelWord target targetWord targetLine store common low high register address status did ready timer trace) (none) (w_M refusal wheel now length at_ r_0 r_1 line words labels targets wrong unfit text r_2 label labelWord target targetWord targetLine store common low high register address status did ready timer trace)) : G M_X11_link 0 0 140 [(0, .ref 0), (1, .int l1), (2, .int l2), (4, .int l4), (5, .int l5), (6, .int l6)] [.int s1, .ref 0] (w_M refusal wheel now length at_ fault faultLine line words labels targets wrong unfit text code_ label labelWord target targetWord targetLine store common low high register address status did ready timer trace) (none) (w_M refusal wheel now length at_ r_0 r_1 line words labels targets wrong unfit text r_2 label labelWord target targetWord targetLine store common low high register address status did ready timer trace) := by
  rw [f_X11_link_140] at hres
  refine G.putfield (pc := 140) (ws1 := (w_M refusal wheel now length at_ fault s1 line words labels targets wrong unfit text code_ label labelWord target targetWord targetLine store common low high register address status did ready timer trace)) dm_X11_link_140 gw_X11_276 rfl (g_fit_i _) rfl rfl ?_
  refine G.aload_n (pc := 143) dm_X11_link_143 rfl ?_
  refine G.getfield (pc := 144) dm_X11_link_144 gf_X11_13 rfl rfl ?_
  refine G.iload (pc := 147) dm_X11_link_147 rfl ?_
  refine G.dup2 (pc := 149) dm_X11_link_149 rfl rfl ?_
  refine G.iaload (pc := 150) dm_X11_link_150 rfl (q_in h4.1 h4.2) ?_
  refine G.iload (pc := 151) dm_X11_link_151 rfl ?_
  refine G.if_eq (pc := 153) (tgt := 164) dm_X11_link_153 (by decide) (fun c153 => ?_) (fun c153 => ?_)
  · rw [if_pos c153] at hres
    refine G.iload (pc := 164) dm_X11_link_164 rfl ?_
    obtain ⟨z2_0, hz2⟩ := g_ex1 (f_X11_branching l6)
    refine G.callS (pc := 166) (rest := [.int (code_ (Int32.toNatClampNeg l4)), .int l4, .ref 2]) (st1 := [.int z2_0, .int (code_ (Int32.toNatClampNeg l4)), .int l4, .ref 2]) (ws1 := (w_M refusal wheel now length at_ fault s1 line words labels targets wrong unfit text code_ label labelWord target targetWord targetLine store common low high register address status did ready timer trace)) [] dm_X11_link_166 gc_X11_link_217 (k_X11_branching (n := l6) hz2) rfl rfl rfl rfl rfl rfl rfl rfl ?_
    replace hres : (r_0, r_1, r_2) = f_X11_link_c166 fault code_ l1 l2 kL2 l4 s1 z2_0 := hres.trans (by rw [← hz2])
    rw [f_X11_link_c166] at hres
    refine G.lvp [0, 1, 2] rfl ?_
    exact j_X11_link_169 hres htg hlb h2 htw hk (q_in h4.1 h4.2) hmu hk2
  · rw [if_neg c153] at hres
    refine G.iload (pc := 156) dm_X11_link_156 rfl ?_
    obtain ⟨z3_0, hz3⟩ := g_ex1 (f_X11_jumping l6)
    refine G.callS (pc := 158) (rest := [.int (code_ (Int32.toNatClampNeg l4)), .int l4, .ref 2]) (st1 := [.int z3_0, .int (code_ (Int32.toNatClampNeg l4)), .int l4, .ref 2]) (ws1 := (w_M refusal wheel now length at_ fault s1 line words labels targets wrong unfit text code_ label labelWord target targetWord targetLine store common low high register address status did ready timer trace)) [] dm_X11_link_158 gc_X11_link_214 (k_X11_jumping (n := l6) hz3) rfl rfl rfl rfl rfl rfl rfl rfl ?_
    replace hres : (r_0, r_1, r_2) = f_X11_link_c158 fault code_ l1 l2 kL2 l4 s1 z3_0 := hres.trans (by rw [← hz3])
    rw [f_X11_link_c158] at hres
    refine G.goto (pc := 161) (tgt := 169) dm_X11_link_161 (by decide) ?_
    refine G.lvp [0, 1, 2] rfl ?_
    exact j_X11_link_169 hres htg hlb h2 htw hk (q_in h4.1 h4.2) hmu hk2
def f_X11_link_116 (faultLine : Int32) (code_ : Nat → Int32) (targetLine : Nat → Int32) (l1 : Int32) (l2 : Int32) (kL2 : Int32 → Int32 → Int32 → Int32 → (Nat → Int32) → Int32 × Int32 × (Nat → Int32)) (l4 : Int32) (l5 : Int32) (l6 : Int32) (s1 : Int32) : Int32 × Int32 × (Nat → Int32) := (if s1 = 0 then (f_X11_link_140 s1 code_ l1 l2 kL2 l4 l5 l6 faultLine) else (f_X11_link_140 s1 code_ l1 l2 kL2 l4 l5 l6 (targetLine (Int32.toNatClampNeg l2))))
set_option maxRecDepth 20000 in
theorem j_X11_link_116 {l1 : Int32} {l2 : Int32} {l4 : Int32} {l5 : Int32} {l6 : Int32} {s1 : Int32} {refusal : Int32} {wheel : Int32} {now : Int32} {length : Int32} {at_ : Int32} {fault : Int32} {faultLine : Int32} {line : Int32} {words : Int32} {labels : Int32} {targets : Int32} {wrong : Int32} {unfit : Int32} {text : Nat → Int32} {code_ : Nat → Int32} {label : Nat → Int64} {labelWord : Nat → Int32} {target : Nat → Int64} {targetWord : Nat → Int32} {targetLine : Nat → Int32} {store : Nat → Int32} {common : Nat → Int32} {low : Nat → Int32} {high : Nat → Int32} {register : Nat → Int32} {address : Nat → Int32} {status : Nat → Int32} {did : Nat → Int32} {ready : Nat → Int32} {timer : Nat → Int32} {trace : Nat → Int32} {kL2 : Int32 → Int32 → Int32 → Int32 → (Nat → Int32) → Int32 × Int32 × (Nat → Int32)} {r_0 : Int32} {r_1 : Int32} {r_2 : (Nat → Int32)} (hres : (r_0, r_1, r_2) = (f_X11_link_116 faultLine code_ targetLine l1 l2 kL2 l4 l5 l6 s1)) (htg : 0 ≤ targets.toInt ∧ targets.toInt ≤ 128) (hlb : 0 ≤ labels.toInt ∧ labels.toInt ≤ 16) (h2 : 0 ≤ l2.toInt) (htw : ∀ j, j < targets.toInt.toNat → 0 ≤ (targetWord j).toInt ∧ (targetWord j).toInt < 128) (hk : l2.toInt < targets.toInt) (h4 : 0 ≤ l4.toInt ∧ l4.toInt < 128) {mu : Nat} (hmu : (128 - l2.toInt.toNat) = mu) (hk2 : ∀ {l1 : Int32} {l2 : Int32} {fault : Int32} {faultLine : Int32} {code_ : Nat → Int32}, (0 ≤ targets.toInt ∧ targets.toInt ≤ 128) → (0 ≤ labels.toInt ∧ labels.toInt ≤ 16) → (0 ≤ l2.toInt) → (∀ j, j < targets.toInt.toNat → 0 ≤ (targetWord j).toInt ∧ (targetWord j).toInt < 128) → (128 - l2.toInt.toNat) < mu → (r_0, r_1, r_2) = kL2 l1 l2 fault faultLine code_ → G M_X11_link 0 0 2 [(0, .ref 0), (1, .int l1), (2, .int l2)] [] (w_M refusal wheel now length at_ fault faultLine line words labels targets wrong unfit text code_ label labelWord target targetWord targetLine store common low high register address status did ready timer trace) (none) (w_M refusal wheel now length at_ r_0 r_1 line words labels targets wrong unfit text r_2 label labelWord target targetWord targetLine store common low high register address status did ready timer trace)) : G M_X11_link 0 0 116 [(0, .ref 0), (1, .int l1), (2, .int l2), (4, .int l4), (5, .int l5), (6, .int l6)] [.int s1, .ref 0] (w_M refusal wheel now length at_ fault faultLine line words labels targets wrong unfit text code_ label labelWord target targetWord targetLine store common low high register address status did ready timer trace) (none) (w_M refusal wheel now length at_ r_0 r_1 line words labels targets wrong unfit text r_2 label labelWord target targetWord targetLine store common low high register address status did ready timer trace) := by
  rw [f_X11_link_116] at hres
  refine G.putfield (pc := 116) (ws1 := (w_M refusal wheel now length at_ s1 faultLine line words labels targets wrong unfit text code_ label labelWord target targetWord targetLine store common low high register address status did ready timer trace)) dm_X11_link_116 gw_X11_273 rfl (g_fit_i _) rfl rfl ?_
  refine G.aload_n (pc := 119) dm_X11_link_119 rfl ?_
  refine G.aload_n (pc := 120) dm_X11_link_120 rfl ?_
  refine G.getfield (pc := 121) dm_X11_link_121 gf_X11_273 rfl rfl ?_
  refine G.if_ne (pc := 124) (tgt := 134) dm_X11_link_124 (by decide) (fun c124 => ?_) (fun c124 => ?_)
  · rw [if_neg c124] at hres
    refine G.aload_n (pc := 134) dm_X11_link_134 rfl ?_
    refine G.getfield (pc := 135) dm_X11_link_135 gf_X11_30 rfl rfl ?_
    refine G.iload_n (pc := 138) dm_X11_link_138 rfl ?_
    refine G.iaload (pc := 139) dm_X11_link_139 rfl (q_in h2 (by omega)) ?_
    exact j_X11_link_140 hres (by assumption) (by assumption) (by assumption) (by assumption) (by assumption) (by assumption) hmu hk2
  · rw [if_pos c124] at hres
    refine G.aload_n (pc := 127) dm_X11_link_127 rfl ?_
    refine G.getfield (pc := 128) dm_X11_link_128 gf_X11_276 rfl rfl ?_
    refine G.goto (pc := 131) (tgt := 140) dm_X11_link_131 (by decide) ?_
    exact j_X11_link_140 hres (by assumption) (by assumption) (by assumption) (by assumption) (by assumption) (by assumption) hmu hk2
def f_X11_link_79 (faultLine : Int32) (code_ : Nat → Int32) (targetLine : Nat → Int32) (l1 : Int32) (l2 : Int32) (kL2 : Int32 → Int32 → Int32 → Int32 → (Nat → Int32) → Int32 × Int32 × (Nat → Int32)) (l3 : Int32) (l4 : Int32) (s0 : Int32) (l5 : Int32) : Int32 × Int32 × (Nat → Int32) := (if 0 ≤ l3 then (if l5 = 0 then (if s0 < (-4096 : Int32) then (f_X11_link_116 faultLine code_ targetLine l1 l2 kL2 l4 l5 s0 (2 : Int32)) else (if s0 ≤ (4094 : Int32) then (f_X11_link_116 faultLine code_ targetLine l1 l2 kL2 l4 l5 s0 (0 : Int32)) else (f_X11_link_116 faultLine code_ targetLine l1 l2 kL2 l4 l5 s0 (2 : Int32)))) else (f_X11_link_116 faultLine code_ targetLine l1 l2 kL2 l4 l5 s0 (0 : Int32))) else (f_X11_link_116 faultLine code_ targetLine l1 l2 kL2 l4 l5 s0 (3 : Int32)))
set_option maxRecDepth 20000 in
theorem j_X11_link_79 {l1 : Int32} {l2 : Int32} {l3 : Int32} {l4 : Int32} {l5 : Int32} {s0 : Int32} {refusal : Int32} {wheel : Int32} {now : Int32} {length : Int32} {at_ : Int32} {fault : Int32} {faultLine : Int32} {line : Int32} {words : Int32} {labels : Int32} {targets : Int32} {wrong : Int32} {unfit : Int32} {text : Nat → Int32} {code_ : Nat → Int32} {label : Nat → Int64} {labelWord : Nat → Int32} {target : Nat → Int64} {targetWord : Nat → Int32} {targetLine : Nat → Int32} {store : Nat → Int32} {common : Nat → Int32} {low : Nat → Int32} {high : Nat → Int32} {register : Nat → Int32} {address : Nat → Int32} {status : Nat → Int32} {did : Nat → Int32} {ready : Nat → Int32} {timer : Nat → Int32} {trace : Nat → Int32} {kL2 : Int32 → Int32 → Int32 → Int32 → (Nat → Int32) → Int32 × Int32 × (Nat → Int32)} {r_0 : Int32} {r_1 : Int32} {r_2 : (Nat → Int32)} (hres : (r_0, r_1, r_2) = (f_X11_link_79 faultLine code_ targetLine l1 l2 kL2 l3 l4 s0 l5)) (htg : 0 ≤ targets.toInt ∧ targets.toInt ≤ 128) (hlb : 0 ≤ labels.toInt ∧ labels.toInt ≤ 16) (h2 : 0 ≤ l2.toInt) (htw : ∀ j, j < targets.toInt.toNat → 0 ≤ (targetWord j).toInt ∧ (targetWord j).toInt < 128) (hk : l2.toInt < targets.toInt) (h4 : 0 ≤ l4.toInt ∧ l4.toInt < 128) (h3 : l3.toInt < labels.toInt ∨ l3.toInt ≤ 0) {mu : Nat} (hmu : (128 - l2.toInt.toNat) = mu) (hk2 : ∀ {l1 : Int32} {l2 : Int32} {fault : Int32} {faultLine : Int32} {code_ : Nat → Int32}, (0 ≤ targets.toInt ∧ targets.toInt ≤ 128) → (0 ≤ labels.toInt ∧ labels.toInt ≤ 16) → (0 ≤ l2.toInt) → (∀ j, j < targets.toInt.toNat → 0 ≤ (targetWord j).toInt ∧ (targetWord j).toInt < 128) → (128 - l2.toInt.toNat) < mu → (r_0, r_1, r_2) = kL2 l1 l2 fault faultLine code_ → G M_X11_link 0 0 2 [(0, .ref 0), (1, .int l1), (2, .int l2)] [] (w_M refusal wheel now length at_ fault faultLine line words labels targets wrong unfit text code_ label labelWord target targetWord targetLine store common low high register address status did ready timer trace) (none) (w_M refusal wheel now length at_ r_0 r_1 line words labels targets wrong unfit text r_2 label labelWord target targetWord targetLine store common low high register address status did ready timer trace)) : G M_X11_link 0 0 79 [(0, .ref 0), (1, .int l1), (2, .int l2), (3, .int l3), (4, .int l4), (5, .int l5)] [.int s0] (w_M refusal wheel now length at_ fault faultLine line words labels targets wrong unfit text code_ label labelWord target targetWord targetLine store common low high register address status did ready timer trace) (none) (w_M refusal wheel now length at_ r_0 r_1 line words labels targets wrong unfit text r_2 label labelWord target targetWord targetLine store common low high register address status did ready timer trace) := by
  rw [f_X11_link_79] at hres
  refine G.istore (pc := 79) (lv1 := [(6, .int s0), (0, .ref 0), (1, .int l1), (2, .int l2), (3, .int l3), (4, .int l4), (5, .int l5)]) dm_X11_link_79 rfl rfl ?_
  refine G.aload_n (pc := 81) dm_X11_link_81 rfl ?_
  refine G.iload_n (pc := 82) dm_X11_link_82 rfl ?_
  refine G.if_ge (pc := 83) (tgt := 90) dm_X11_link_83 (by decide) (fun c83 => ?_) (fun c83 => ?_)
  · rw [if_pos c83] at hres
    refine G.iload (pc := 90) dm_X11_link_90 rfl ?_
    refine G.if_ne (pc := 92) (tgt := 115) dm_X11_link_92 (by decide) (fun c92 => ?_) (fun c92 => ?_)
    · rw [if_neg c92] at hres
      refine G.iconst (pc := 115) (v := (0 : Int32)) dm_X11_link_115 qi_0 ?_
      refine G.lvp [1, 2, 3, 5, 6, 0] rfl ?_
      exact j_X11_link_116 hres (by assumption) (by assumption) (by assumption) (by assumption) (by assumption) (by assumption) hmu hk2
    · rw [if_pos c92] at hres
      refine G.iload (pc := 95) dm_X11_link_95 rfl ?_
      refine G.sipush (pc := 97) (v := (-4096 : Int32)) dm_X11_link_97 qs_m4096 ?_
      refine G.icmp_lt (pc := 100) (tgt := 111) dm_X11_link_100 (by decide) (fun c100 => ?_) (fun c100 => ?_)
      · rw [if_pos c100] at hres
        refine G.iconst (pc := 111) (v := (2 : Int32)) dm_X11_link_111 qi_2 ?_
        refine G.goto (pc := 112) (tgt := 116) dm_X11_link_112 (by decide) ?_
        refine G.lvp [1, 2, 3, 5, 6, 0] rfl ?_
        exact j_X11_link_116 hres (by assumption) (by assumption) (by assumption) (by assumption) (by assumption) (by assumption) hmu hk2
      · rw [if_neg c100] at hres
        refine G.iload (pc := 103) dm_X11_link_103 rfl ?_
        refine G.sipush (pc := 105) (v := (4094 : Int32)) dm_X11_link_105 qs_4094 ?_
        refine G.icmp_le (pc := 108) (tgt := 115) dm_X11_link_108 (by decide) (fun c108 => ?_) (fun c108 => ?_)
        · rw [if_pos c108] at hres
          refine G.iconst (pc := 115) (v := (0 : Int32)) dm_X11_link_115 qi_0 ?_
          refine G.lvp [1, 2, 3, 5, 6, 0] rfl ?_
          exact j_X11_link_116 hres (by assumption) (by assumption) (by assumption) (by assumption) (by assumption) (by assumption) hmu hk2
        · rw [if_neg c108] at hres
          refine G.iconst (pc := 111) (v := (2 : Int32)) dm_X11_link_111 qi_2 ?_
          refine G.goto (pc := 112) (tgt := 116) dm_X11_link_112 (by decide) ?_
          refine G.lvp [1, 2, 3, 5, 6, 0] rfl ?_
          exact j_X11_link_116 hres (by assumption) (by assumption) (by assumption) (by assumption) (by assumption) (by assumption) hmu hk2
  · rw [if_neg c83] at hres
    refine G.iconst (pc := 86) (v := (3 : Int32)) dm_X11_link_86 qi_3 ?_
    refine G.goto (pc := 87) (tgt := 116) dm_X11_link_87 (by decide) ?_
    refine G.lvp [1, 2, 3, 5, 6, 0] rfl ?_
    exact j_X11_link_116 hres (by assumption) (by assumption) (by assumption) (by assumption) (by assumption) (by assumption) hmu hk2
def f_X11_link_56 (faultLine : Int32) (code_ : Nat → Int32) (labelWord : Nat → Int32) (targetLine : Nat → Int32) (l1 : Int32) (l2 : Int32) (kL2 : Int32 → Int32 → Int32 → Int32 → (Nat → Int32) → Int32 × Int32 × (Nat → Int32)) (l3 : Int32) (l4 : Int32) (s0 : Int32) : Int32 × Int32 × (Nat → Int32) := (if 0 ≤ l3 then (f_X11_link_79 faultLine code_ targetLine l1 l2 kL2 l3 l4 ((4 : Int32) * (((labelWord (Int32.toNatClampNeg l3)) - l1) - l4)) s0) else (f_X11_link_79 faultLine code_ targetLine l1 l2 kL2 l3 l4 (0 : Int32) s0))
set_option maxRecDepth 20000 in
theorem j_X11_link_56 {l1 : Int32} {l2 : Int32} {l3 : Int32} {l4 : Int32} {s0 : Int32} {refusal : Int32} {wheel : Int32} {now : Int32} {length : Int32} {at_ : Int32} {fault : Int32} {faultLine : Int32} {line : Int32} {words : Int32} {labels : Int32} {targets : Int32} {wrong : Int32} {unfit : Int32} {text : Nat → Int32} {code_ : Nat → Int32} {label : Nat → Int64} {labelWord : Nat → Int32} {target : Nat → Int64} {targetWord : Nat → Int32} {targetLine : Nat → Int32} {store : Nat → Int32} {common : Nat → Int32} {low : Nat → Int32} {high : Nat → Int32} {register : Nat → Int32} {address : Nat → Int32} {status : Nat → Int32} {did : Nat → Int32} {ready : Nat → Int32} {timer : Nat → Int32} {trace : Nat → Int32} {kL2 : Int32 → Int32 → Int32 → Int32 → (Nat → Int32) → Int32 × Int32 × (Nat → Int32)} {r_0 : Int32} {r_1 : Int32} {r_2 : (Nat → Int32)} (hres : (r_0, r_1, r_2) = (f_X11_link_56 faultLine code_ labelWord targetLine l1 l2 kL2 l3 l4 s0)) (htg : 0 ≤ targets.toInt ∧ targets.toInt ≤ 128) (hlb : 0 ≤ labels.toInt ∧ labels.toInt ≤ 16) (h2 : 0 ≤ l2.toInt) (htw : ∀ j, j < targets.toInt.toNat → 0 ≤ (targetWord j).toInt ∧ (targetWord j).toInt < 128) (hk : l2.toInt < targets.toInt) (h4 : 0 ≤ l4.toInt ∧ l4.toInt < 128) (h3 : l3.toInt < labels.toInt ∨ l3.toInt ≤ 0) {mu : Nat} (hmu : (128 - l2.toInt.toNat) = mu) (hk2 : ∀ {l1 : Int32} {l2 : Int32} {fault : Int32} {faultLine : Int32} {code_ : Nat → Int32}, (0 ≤ targets.toInt ∧ targets.toInt ≤ 128) → (0 ≤ labels.toInt ∧ labels.toInt ≤ 16) → (0 ≤ l2.toInt) → (∀ j, j < targets.toInt.toNat → 0 ≤ (targetWord j).toInt ∧ (targetWord j).toInt < 128) → (128 - l2.toInt.toNat) < mu → (r_0, r_1, r_2) = kL2 l1 l2 fault faultLine code_ → G M_X11_link 0 0 2 [(0, .ref 0), (1, .int l1), (2, .int l2)] [] (w_M refusal wheel now length at_ fault faultLine line words labels targets wrong unfit text code_ label labelWord target targetWord targetLine store common low high register address status did ready timer trace) (none) (w_M refusal wheel now length at_ r_0 r_1 line words labels targets wrong unfit text r_2 label labelWord target targetWord targetLine store common low high register address status did ready timer trace)) : G M_X11_link 0 0 56 [(0, .ref 0), (1, .int l1), (2, .int l2), (3, .int l3), (4, .int l4)] [.int s0] (w_M refusal wheel now length at_ fault faultLine line words labels targets wrong unfit text code_ label labelWord target targetWord targetLine store common low high register address status did ready timer trace) (none) (w_M refusal wheel now length at_ r_0 r_1 line words labels targets wrong unfit text r_2 label labelWord target targetWord targetLine store common low high register address status did ready timer trace) := by
  rw [f_X11_link_56] at hres
  refine G.istore (pc := 56) (lv1 := [(5, .int s0), (0, .ref 0), (1, .int l1), (2, .int l2), (3, .int l3), (4, .int l4)]) dm_X11_link_56 rfl rfl ?_
  refine G.iload_n (pc := 58) dm_X11_link_58 rfl ?_
  refine G.if_ge (pc := 59) (tgt := 66) dm_X11_link_59 (by decide) (fun c59 => ?_) (fun c59 => ?_)
  · rw [if_pos c59] at hres
    refine G.iconst (pc := 66) (v := (4 : Int32)) dm_X11_link_66 qi_4 ?_
    refine G.aload_n (pc := 67) dm_X11_link_67 rfl ?_
    refine G.getfield (pc := 68) dm_X11_link_68 gf_X11_21 rfl rfl ?_
    refine G.iload_n (pc := 71) dm_X11_link_71 rfl ?_
    refine G.iaload (pc := 72) dm_X11_link_72 rfl (q_in (by have h9 := q_le c59; exact h9) (by omega)) ?_
    refine G.iload_n (pc := 73) dm_X11_link_73 rfl ?_
    refine G.isub (pc := 74) dm_X11_link_74 ?_
    refine G.iload (pc := 75) dm_X11_link_75 rfl ?_
    refine G.isub (pc := 77) dm_X11_link_77 ?_
    refine G.imul (pc := 78) dm_X11_link_78 ?_
    refine G.lvp [1, 2, 3, 4, 5, 0] rfl ?_
    exact j_X11_link_79 hres (by assumption) (by assumption) (by assumption) (by assumption) (by assumption) (by assumption) (by assumption) hmu hk2
  · rw [if_neg c59] at hres
    refine G.iconst (pc := 62) (v := (0 : Int32)) dm_X11_link_62 qi_0 ?_
    refine G.goto (pc := 63) (tgt := 79) dm_X11_link_63 (by decide) ?_
    refine G.lvp [1, 2, 3, 4, 5, 0] rfl ?_
    exact j_X11_link_79 hres (by assumption) (by assumption) (by assumption) (by assumption) (by assumption) (by assumption) (by assumption) hmu hk2
def f_X11_link_c24 (faultLine : Int32) (code_ : Nat → Int32) (labelWord : Nat → Int32) (targetWord : Nat → Int32) (targetLine : Nat → Int32) (l1 : Int32) (l2 : Int32) (kL2 : Int32 → Int32 → Int32 → Int32 → (Nat → Int32) → Int32 × Int32 × (Nat → Int32)) (z1_0 : Int32) : Int32 × Int32 × (Nat → Int32) := (if ((code_ (Int32.toNatClampNeg (targetWord (Int32.toNatClampNeg l2)))) &&& (127 : Int32)) = (111 : Int32) then (f_X11_link_56 faultLine code_ labelWord targetLine l1 l2 kL2 z1_0 (targetWord (Int32.toNatClampNeg l2)) (1 : Int32)) else (f_X11_link_56 faultLine code_ labelWord targetLine l1 l2 kL2 z1_0 (targetWord (Int32.toNatClampNeg l2)) (0 : Int32)))
def f_X11_link_2 (labels : Int32) (targets : Int32) (label : Nat → Int64) (labelWord : Nat → Int32) (target : Nat → Int64) (targetWord : Nat → Int32) (targetLine : Nat → Int32) : Nat → Int32 → Int32 → Int32 → Int32 → (Nat → Int32) → Int32 × Int32 × (Nat → Int32)
  | 0, l1, l2, fault, faultLine, code_ => (fault, faultLine, code_)
  | n + 1, l1, l2, fault, faultLine, code_ => (if targets ≤ l2 then (fault, faultLine, code_) else (if fault = 0 then (f_X11_link_c24 faultLine code_ labelWord targetWord targetLine l1 l2 (f_X11_link_2 labels targets label labelWord target targetWord targetLine n) (f_X11_labelOf (target (Int32.toNatClampNeg l2)) labels label)) else (fault, faultLine, code_)))
set_option maxRecDepth 20000 in
theorem j_X11_link_2 : ∀ (n : Nat) {l1 : Int32} {l2 : Int32} {refusal : Int32} {wheel : Int32} {now : Int32} {length : Int32} {at_ : Int32} {fault : Int32} {faultLine : Int32} {line : Int32} {words : Int32} {labels : Int32} {targets : Int32} {wrong : Int32} {unfit : Int32} {text : Nat → Int32} {code_ : Nat → Int32} {label : Nat → Int64} {labelWord : Nat → Int32} {target : Nat → Int64} {targetWord : Nat → Int32} {targetLine : Nat → Int32} {store : Nat → Int32} {common : Nat → Int32} {low : Nat → Int32} {high : Nat → Int32} {register : Nat → Int32} {address : Nat → Int32} {status : Nat → Int32} {did : Nat → Int32} {ready : Nat → Int32} {timer : Nat → Int32} {trace : Nat → Int32} {r_0 : Int32} {r_1 : Int32} {r_2 : (Nat → Int32)}, (htg : 0 ≤ targets.toInt ∧ targets.toInt ≤ 128) → (hlb : 0 ≤ labels.toInt ∧ labels.toInt ≤ 16) → (h2 : 0 ≤ l2.toInt) → (htw : ∀ j, j < targets.toInt.toNat → 0 ≤ (targetWord j).toInt ∧ (targetWord j).toInt < 128) → (128 - l2.toInt.toNat) < n → (r_0, r_1, r_2) = f_X11_link_2 labels targets label labelWord target targetWord targetLine n l1 l2 fault faultLine code_ → G M_X11_link 0 0 2 [(0, .ref 0), (1, .int l1), (2, .int l2)] [] (w_M refusal wheel now length at_ fault faultLine line words labels targets wrong unfit text code_ label labelWord target targetWord targetLine store common low high register address status did ready timer trace) (none) (w_M refusal wheel now length at_ r_0 r_1 line words labels targets wrong unfit text r_2 label labelWord target targetWord targetLine store common low high register address status did ready timer trace) := by
  intro n
  induction n with
  | zero =>
    intro l1 l2 refusal wheel now length at_ fault faultLine line words labels targets wrong unfit text code_ label labelWord target targetWord targetLine store common low high register address status did ready timer trace r_0 r_1 r_2 htg hlb h2 htw hm hres
    exact absurd hm (Nat.not_lt_zero _)
  | succ n ih =>
    intro l1 l2 refusal wheel now length at_ fault faultLine line words labels targets wrong unfit text code_ label labelWord target targetWord targetLine store common low high register address status did ready timer trace r_0 r_1 r_2 htg hlb h2 htw hm hres
    obtain ⟨mu, hmu⟩ : ∃ z, (128 - l2.toInt.toNat) = z := ⟨_, rfl⟩
    rw [hmu] at hm
    have hk2 : ∀ {l1 : Int32} {l2 : Int32} {fault : Int32} {faultLine : Int32} {code_ : Nat → Int32}, (0 ≤ targets.toInt ∧ targets.toInt ≤ 128) → (0 ≤ labels.toInt ∧ labels.toInt ≤ 16) → (0 ≤ l2.toInt) → (∀ j, j < targets.toInt.toNat → 0 ≤ (targetWord j).toInt ∧ (targetWord j).toInt < 128) → (128 - l2.toInt.toNat) < mu → (r_0, r_1, r_2) = (f_X11_link_2 labels targets label labelWord target targetWord targetLine n) l1 l2 fault faultLine code_ → G M_X11_link 0 0 2 [(0, .ref 0), (1, .int l1), (2, .int l2)] [] (w_M refusal wheel now length at_ fault faultLine line words labels targets wrong unfit text code_ label labelWord target targetWord targetLine store common low high register address status did ready timer trace) (none) (w_M refusal wheel now length at_ r_0 r_1 line words labels targets wrong unfit text r_2 label labelWord target targetWord targetLine store common low high register address status did ready timer trace) := fun htg hlb h2 htw hlt he => ih htg hlb h2 htw (Nat.lt_of_lt_of_le hlt (Nat.le_of_lt_succ hm)) he
    rw [f_X11_link_2] at hres
    refine G.iload_n (pc := 2) dm_X11_link_2 rfl ?_
    refine G.aload_n (pc := 3) dm_X11_link_3 rfl ?_
    refine G.getfield (pc := 4) dm_X11_link_4 gf_X11_199 rfl rfl ?_
    refine G.icmp_ge (pc := 7) (tgt := 177) dm_X11_link_7 (by decide) (fun c7 => ?_) (fun c7 => ?_)
    · rw [if_pos c7] at hres
      cases hres
      exact G.vreturn (pc := 177) dm_X11_link_177 rfl rfl rfl
    · rw [if_neg c7] at hres
      refine G.aload_n (pc := 10) dm_X11_link_10 rfl ?_
      refine G.getfield (pc := 11) dm_X11_link_11 gf_X11_273 rfl rfl ?_
      refine G.if_ne (pc := 14) (tgt := 177) dm_X11_link_14 (by decide) (fun c14 => ?_) (fun c14 => ?_)
      · rw [if_neg c14] at hres
        cases hres
        exact G.vreturn (pc := 177) dm_X11_link_177 rfl rfl rfl
      · rw [if_pos c14] at hres
        have hk := q_nle c7
        have hw := htw l2.toNatClampNeg (q_clt h2 hk)
        refine G.aload_n (pc := 17) dm_X11_link_17 rfl ?_
        refine G.aload_n (pc := 18) dm_X11_link_18 rfl ?_
        refine G.getfield (pc := 19) dm_X11_link_19 gf_X11_24 rfl rfl ?_
        refine G.iload_n (pc := 22) dm_X11_link_22 rfl ?_
        refine G.laload (pc := 23) dm_X11_link_23 rfl (q_in h2 (by omega)) ?_
        obtain ⟨z1_0, hz1⟩ := g_ex1 (f_X11_labelOf (target (Int32.toNatClampNeg l2)) labels label)
        refine G.callV0 (pc := 24) (rest := []) (st1 := [.int z1_0]) dm_X11_link_24 gc_X11_link_259 (k_X11_labelOf (w := (target (Int32.toNatClampNeg l2))) (refusal := refusal) (wheel := wheel) (now := now) (length := length) (at_ := at_) (fault := fault) (faultLine := faultLine) (line := line) (words := words) (labels := labels) (targets := targets) (wrong := wrong) (unfit := unfit) (text := text) (code_ := code_) (label := label) (labelWord := labelWord) (target := target) (targetWord := targetWord) (targetLine := targetLine) (store := store) (common := common) (low := low) (high := high) (register := register) (address := address) (status := status) (did := did) (ready := ready) (timer := timer) (trace := trace) (by assumption) hz1) rfl rfl rfl rfl rfl rfl rfl rfl ?_
        have h3 := b_X11_labelOf hz1 hlb.1
        replace hres : (r_0, r_1, r_2) = f_X11_link_c24 faultLine code_ labelWord targetWord targetLine l1 l2 (f_X11_link_2 labels targets label labelWord target targetWord targetLine n) z1_0 := hres.trans (by rw [← hz1])
        rw [f_X11_link_c24] at hres
        refine G.istore_n (pc := 27) (lv1 := [(3, .int z1_0), (0, .ref 0), (1, .int l1), (2, .int l2)]) dm_X11_link_27 rfl rfl ?_
        refine G.aload_n (pc := 28) dm_X11_link_28 rfl ?_
        refine G.getfield (pc := 29) dm_X11_link_29 gf_X11_27 rfl rfl ?_
        refine G.iload_n (pc := 32) dm_X11_link_32 rfl ?_
        refine G.iaload (pc := 33) dm_X11_link_33 rfl (q_in h2 (by omega)) ?_
        refine G.istore (pc := 34) (lv1 := [(4, .int (targetWord (Int32.toNatClampNeg l2))), (3, .int z1_0), (0, .ref 0), (1, .int l1), (2, .int l2)]) dm_X11_link_34 rfl rfl ?_
        refine G.aload_n (pc := 36) dm_X11_link_36 rfl ?_
        refine G.getfield (pc := 37) dm_X11_link_37 gf_X11_13 rfl rfl ?_
        refine G.iload (pc := 40) dm_X11_link_40 rfl ?_
        refine G.iaload (pc := 42) dm_X11_link_42 rfl (q_in hw.1 hw.2) ?_
        refine G.bipush (pc := 43) (v := (127 : Int32)) dm_X11_link_43 qb_127 ?_
        refine G.iand (pc := 45) dm_X11_link_45 ?_
        refine G.bipush (pc := 46) (v := (111 : Int32)) dm_X11_link_46 qb_111 ?_
        refine G.icmp_ne (pc := 48) (tgt := 55) dm_X11_link_48 (by decide) (fun c48 => ?_) (fun c48 => ?_)
        · rw [if_neg c48] at hres
          refine G.iconst (pc := 55) (v := (0 : Int32)) dm_X11_link_55 qi_0 ?_
          refine G.lvp [2, 3, 4, 1, 0] rfl ?_
          exact j_X11_link_56 hres htg hlb h2 htw hk hw h3 hmu hk2
        · rw [if_pos c48] at hres
          refine G.iconst (pc := 51) (v := (1 : Int32)) dm_X11_link_51 qi_1 ?_
          refine G.goto (pc := 52) (tgt := 56) dm_X11_link_52 (by decide) ?_
          refine G.lvp [2, 3, 4, 1, 0] rfl ?_
          exact j_X11_link_56 hres htg hlb h2 htw hk hw h3 hmu hk2
def f_X11_link (first : Int32) (fault : Int32) (faultLine : Int32) (labels : Int32) (targets : Int32) (code_ : Nat → Int32) (label : Nat → Int64) (labelWord : Nat → Int32) (target : Nat → Int64) (targetWord : Nat → Int32) (targetLine : Nat → Int32) : Int32 × Int32 × (Nat → Int32) := (f_X11_link_2 labels targets label labelWord target targetWord targetLine (129) first (0 : Int32) fault faultLine code_)
set_option maxRecDepth 20000 in
theorem k_X11_link {first : Int32} {refusal : Int32} {wheel : Int32} {now : Int32} {length : Int32} {at_ : Int32} {fault : Int32} {faultLine : Int32} {line : Int32} {words : Int32} {labels : Int32} {targets : Int32} {wrong : Int32} {unfit : Int32} {text : Nat → Int32} {code_ : Nat → Int32} {label : Nat → Int64} {labelWord : Nat → Int32} {target : Nat → Int64} {targetWord : Nat → Int32} {targetLine : Nat → Int32} {store : Nat → Int32} {common : Nat → Int32} {low : Nat → Int32} {high : Nat → Int32} {register : Nat → Int32} {address : Nat → Int32} {status : Nat → Int32} {did : Nat → Int32} {ready : Nat → Int32} {timer : Nat → Int32} {trace : Nat → Int32} (htg : 0 ≤ targets.toInt ∧ targets.toInt ≤ 128) (hlb : 0 ≤ labels.toInt ∧ labels.toInt ≤ 16) (htw : ∀ j, j < targets.toInt.toNat → 0 ≤ (targetWord j).toInt ∧ (targetWord j).toInt < 128) {r_0 : Int32} {r_1 : Int32} {r_2 : (Nat → Int32)} (hres : (r_0, r_1, r_2) = f_X11_link first fault faultLine labels targets code_ label labelWord target targetWord targetLine) : K M_X11_link yX11_link [.ref 0, .int first] (w_M refusal wheel now length at_ fault faultLine line words labels targets wrong unfit text code_ label labelWord target targetWord targetLine store common low high register address status did ready timer trace) (none) (w_M refusal wheel now length at_ r_0 r_1 line words labels targets wrong unfit text r_2 label labelWord target targetWord targetLine store common low high register address status did ready timer trace) := by
  refine K.of (lv := [(0, .ref 0), (1, .int first)]) (by decide +kernel) rfl rfl rfl ?_
  rw [f_X11_link] at hres
  refine G.iconst (pc := 0) (v := (0 : Int32)) dm_X11_link_0 qi_0 ?_
  refine G.istore_n (pc := 1) (lv1 := [(2, .int (0 : Int32)), (0, .ref 0), (1, .int first)]) dm_X11_link_1 rfl rfl ?_
  refine G.lvp [1, 2, 0] rfl ?_
  exact j_X11_link_2 _ htg hlb (by decide) htw (by decide) hres
abbrev M_X11_assemble : g_M := (cX11_assemble, 5, RX11, (some .int), { frames := 6, cells := 0, slots := 0, locals := 149 }, 0, 0)
theorem dm_X11_assemble_0 : decode M_X11_assemble.1 0 = .ok (.aload_n 0, 1) := by decide +kernel
theorem dm_X11_assemble_1 : decode M_X11_assemble.1 1 = .ok (.iconst 0, 1) := by decide +kernel
theorem dm_X11_assemble_2 : decode M_X11_assemble.1 2 = .ok (.putfield 70, 3) := by decide +kernel
theorem dm_X11_assemble_5 : decode M_X11_assemble.1 5 = .ok (.iload_n 1, 1) := by decide +kernel
theorem dm_X11_assemble_6 : decode M_X11_assemble.1 6 = .ok (.ifCond .lt 19, 3) := by decide +kernel
theorem dm_X11_assemble_9 : decode M_X11_assemble.1 9 = .ok (.iload_n 1, 1) := by decide +kernel
theorem dm_X11_assemble_10 : decode M_X11_assemble.1 10 = .ok (.iconst 3, 1) := by decide +kernel
theorem dm_X11_assemble_11 : decode M_X11_assemble.1 11 = .ok (.if_icmp .gt 14, 3) := by decide +kernel
theorem dm_X11_assemble_14 : decode M_X11_assemble.1 14 = .ok (.iload_n 2, 1) := by decide +kernel
theorem dm_X11_assemble_15 : decode M_X11_assemble.1 15 = .ok (.ifCond .lt 10, 3) := by decide +kernel
theorem dm_X11_assemble_18 : decode M_X11_assemble.1 18 = .ok (.iload_n 2, 1) := by decide +kernel
theorem dm_X11_assemble_19 : decode M_X11_assemble.1 19 = .ok (.sipush 128, 3) := by decide +kernel
theorem dm_X11_assemble_22 : decode M_X11_assemble.1 22 = .ok (.if_icmp .lt 9, 3) := by decide +kernel
theorem dm_X11_assemble_25 : decode M_X11_assemble.1 25 = .ok (.aload_n 0, 1) := by decide +kernel
theorem dm_X11_assemble_26 : decode M_X11_assemble.1 26 = .ok (.iconst 1, 1) := by decide +kernel
theorem dm_X11_assemble_27 : decode M_X11_assemble.1 27 = .ok (.invokevirtual 279, 3) := by decide +kernel
theorem dm_X11_assemble_30 : decode M_X11_assemble.1 30 = .ok (.ireturn, 1) := by decide +kernel
theorem dm_X11_assemble_31 : decode M_X11_assemble.1 31 = .ok (.aload_n 0, 1) := by decide +kernel
theorem dm_X11_assemble_32 : decode M_X11_assemble.1 32 = .ok (.iconst 0, 1) := by decide +kernel
theorem dm_X11_assemble_33 : decode M_X11_assemble.1 33 = .ok (.putfield 88, 3) := by decide +kernel
theorem dm_X11_assemble_36 : decode M_X11_assemble.1 36 = .ok (.aload_n 0, 1) := by decide +kernel
theorem dm_X11_assemble_37 : decode M_X11_assemble.1 37 = .ok (.iconst 0, 1) := by decide +kernel
theorem dm_X11_assemble_38 : decode M_X11_assemble.1 38 = .ok (.putfield 205, 3) := by decide +kernel
theorem dm_X11_assemble_41 : decode M_X11_assemble.1 41 = .ok (.aload_n 0, 1) := by decide +kernel
theorem dm_X11_assemble_42 : decode M_X11_assemble.1 42 = .ok (.iconst 0, 1) := by decide +kernel
theorem dm_X11_assemble_43 : decode M_X11_assemble.1 43 = .ok (.putfield 202, 3) := by decide +kernel
theorem dm_X11_assemble_46 : decode M_X11_assemble.1 46 = .ok (.aload_n 0, 1) := by decide +kernel
theorem dm_X11_assemble_47 : decode M_X11_assemble.1 47 = .ok (.iconst 0, 1) := by decide +kernel
theorem dm_X11_assemble_48 : decode M_X11_assemble.1 48 = .ok (.putfield 256, 3) := by decide +kernel
theorem dm_X11_assemble_51 : decode M_X11_assemble.1 51 = .ok (.aload_n 0, 1) := by decide +kernel
theorem dm_X11_assemble_52 : decode M_X11_assemble.1 52 = .ok (.iconst 0, 1) := by decide +kernel
theorem dm_X11_assemble_53 : decode M_X11_assemble.1 53 = .ok (.putfield 199, 3) := by decide +kernel
theorem dm_X11_assemble_56 : decode M_X11_assemble.1 56 = .ok (.aload_n 0, 1) := by decide +kernel
theorem dm_X11_assemble_57 : decode M_X11_assemble.1 57 = .ok (.iconst 0, 1) := by decide +kernel
theorem dm_X11_assemble_58 : decode M_X11_assemble.1 58 = .ok (.putfield 273, 3) := by decide +kernel
theorem dm_X11_assemble_61 : decode M_X11_assemble.1 61 = .ok (.aload_n 0, 1) := by decide +kernel
theorem dm_X11_assemble_62 : decode M_X11_assemble.1 62 = .ok (.iconst 0, 1) := by decide +kernel
theorem dm_X11_assemble_63 : decode M_X11_assemble.1 63 = .ok (.putfield 276, 3) := by decide +kernel
theorem dm_X11_assemble_66 : decode M_X11_assemble.1 66 = .ok (.iconst 1, 1) := by decide +kernel
theorem dm_X11_assemble_67 : decode M_X11_assemble.1 67 = .ok (.istore_n 3, 1) := by decide +kernel
theorem dm_X11_assemble_68 : decode M_X11_assemble.1 68 = .ok (.iload_n 3, 1) := by decide +kernel
theorem dm_X11_assemble_69 : decode M_X11_assemble.1 69 = .ok (.ifCond .eq 74, 3) := by decide +kernel
theorem dm_X11_assemble_72 : decode M_X11_assemble.1 72 = .ok (.aload_n 0, 1) := by decide +kernel
theorem dm_X11_assemble_73 : decode M_X11_assemble.1 73 = .ok (.iload_n 2, 1) := by decide +kernel
theorem dm_X11_assemble_74 : decode M_X11_assemble.1 74 = .ok (.invokevirtual 282, 3) := by decide +kernel
theorem dm_X11_assemble_77 : decode M_X11_assemble.1 77 = .ok (.aload_n 0, 1) := by decide +kernel
theorem dm_X11_assemble_78 : decode M_X11_assemble.1 78 = .ok (.aload_n 0, 1) := by decide +kernel
theorem dm_X11_assemble_79 : decode M_X11_assemble.1 79 = .ok (.getfield 273, 3) := by decide +kernel
theorem dm_X11_assemble_82 : decode M_X11_assemble.1 82 = .ok (.ifCond .le 10, 3) := by decide +kernel
theorem dm_X11_assemble_85 : decode M_X11_assemble.1 85 = .ok (.aload_n 0, 1) := by decide +kernel
theorem dm_X11_assemble_86 : decode M_X11_assemble.1 86 = .ok (.getfield 205, 3) := by decide +kernel
theorem dm_X11_assemble_89 : decode M_X11_assemble.1 89 = .ok (.goto 4, 3) := by decide +kernel
theorem dm_X11_assemble_92 : decode M_X11_assemble.1 92 = .ok (.iconst 0, 1) := by decide +kernel
theorem dm_X11_assemble_93 : decode M_X11_assemble.1 93 = .ok (.putfield 276, 3) := by decide +kernel
theorem dm_X11_assemble_96 : decode M_X11_assemble.1 96 = .ok (.aload_n 0, 1) := by decide +kernel
theorem dm_X11_assemble_97 : decode M_X11_assemble.1 97 = .ok (.getfield 273, 3) := by decide +kernel
theorem dm_X11_assemble_100 : decode M_X11_assemble.1 100 = .ok (.ifCond .ne 18, 3) := by decide +kernel
theorem dm_X11_assemble_103 : decode M_X11_assemble.1 103 = .ok (.aload_n 0, 1) := by decide +kernel
theorem dm_X11_assemble_104 : decode M_X11_assemble.1 104 = .ok (.getfield 88, 3) := by decide +kernel
theorem dm_X11_assemble_107 : decode M_X11_assemble.1 107 = .ok (.aload_n 0, 1) := by decide +kernel
theorem dm_X11_assemble_108 : decode M_X11_assemble.1 108 = .ok (.getfield 85, 3) := by decide +kernel
theorem dm_X11_assemble_111 : decode M_X11_assemble.1 111 = .ok (.if_icmp .ge 7, 3) := by decide +kernel
theorem dm_X11_assemble_114 : decode M_X11_assemble.1 114 = .ok (.iconst 1, 1) := by decide +kernel
theorem dm_X11_assemble_115 : decode M_X11_assemble.1 115 = .ok (.goto 4, 3) := by decide +kernel
theorem dm_X11_assemble_118 : decode M_X11_assemble.1 118 = .ok (.iconst 0, 1) := by decide +kernel
theorem dm_X11_assemble_119 : decode M_X11_assemble.1 119 = .ok (.istore_n 3, 1) := by decide +kernel
theorem dm_X11_assemble_120 : decode M_X11_assemble.1 120 = .ok (.aload_n 0, 1) := by decide +kernel
theorem dm_X11_assemble_121 : decode M_X11_assemble.1 121 = .ok (.dup, 1) := by decide +kernel
theorem dm_X11_assemble_122 : decode M_X11_assemble.1 122 = .ok (.getfield 88, 3) := by decide +kernel
theorem dm_X11_assemble_125 : decode M_X11_assemble.1 125 = .ok (.iconst 1, 1) := by decide +kernel
theorem dm_X11_assemble_126 : decode M_X11_assemble.1 126 = .ok (.iadd, 1) := by decide +kernel
theorem dm_X11_assemble_127 : decode M_X11_assemble.1 127 = .ok (.putfield 88, 3) := by decide +kernel
theorem dm_X11_assemble_130 : decode M_X11_assemble.1 130 = .ok (.aload_n 0, 1) := by decide +kernel
theorem dm_X11_assemble_131 : decode M_X11_assemble.1 131 = .ok (.dup, 1) := by decide +kernel
theorem dm_X11_assemble_132 : decode M_X11_assemble.1 132 = .ok (.getfield 205, 3) := by decide +kernel
theorem dm_X11_assemble_135 : decode M_X11_assemble.1 135 = .ok (.iconst 1, 1) := by decide +kernel
theorem dm_X11_assemble_136 : decode M_X11_assemble.1 136 = .ok (.iadd, 1) := by decide +kernel
theorem dm_X11_assemble_137 : decode M_X11_assemble.1 137 = .ok (.putfield 205, 3) := by decide +kernel
theorem dm_X11_assemble_140 : decode M_X11_assemble.1 140 = .ok (.goto (-72), 3) := by decide +kernel
theorem dm_X11_assemble_143 : decode M_X11_assemble.1 143 = .ok (.aload_n 0, 1) := by decide +kernel
theorem dm_X11_assemble_144 : decode M_X11_assemble.1 144 = .ok (.getfield 273, 3) := by decide +kernel
theorem dm_X11_assemble_147 : decode M_X11_assemble.1 147 = .ok (.ifCond .ne 8, 3) := by decide +kernel
theorem dm_X11_assemble_150 : decode M_X11_assemble.1 150 = .ok (.aload_n 0, 1) := by decide +kernel
theorem dm_X11_assemble_151 : decode M_X11_assemble.1 151 = .ok (.iload_n 2, 1) := by decide +kernel
theorem dm_X11_assemble_152 : decode M_X11_assemble.1 152 = .ok (.invokevirtual 285, 3) := by decide +kernel
theorem dm_X11_assemble_155 : decode M_X11_assemble.1 155 = .ok (.aload_n 0, 1) := by decide +kernel
theorem dm_X11_assemble_156 : decode M_X11_assemble.1 156 = .ok (.getfield 273, 3) := by decide +kernel
theorem dm_X11_assemble_159 : decode M_X11_assemble.1 159 = .ok (.ifCond .le 9, 3) := by decide +kernel
theorem dm_X11_assemble_162 : decode M_X11_assemble.1 162 = .ok (.aload_n 0, 1) := by decide +kernel
theorem dm_X11_assemble_163 : decode M_X11_assemble.1 163 = .ok (.iconst 2, 1) := by decide +kernel
theorem dm_X11_assemble_164 : decode M_X11_assemble.1 164 = .ok (.invokevirtual 279, 3) := by decide +kernel
theorem dm_X11_assemble_167 : decode M_X11_assemble.1 167 = .ok (.ireturn, 1) := by decide +kernel
theorem dm_X11_assemble_168 : decode M_X11_assemble.1 168 = .ok (.iconst 0, 1) := by decide +kernel
theorem dm_X11_assemble_169 : decode M_X11_assemble.1 169 = .ok (.istore 4, 2) := by decide +kernel
theorem dm_X11_assemble_171 : decode M_X11_assemble.1 171 = .ok (.iload 4, 2) := by decide +kernel
theorem dm_X11_assemble_173 : decode M_X11_assemble.1 173 = .ok (.aload_n 0, 1) := by decide +kernel
theorem dm_X11_assemble_174 : decode M_X11_assemble.1 174 = .ok (.getfield 202, 3) := by decide +kernel
theorem dm_X11_assemble_177 : decode M_X11_assemble.1 177 = .ok (.if_icmp .ge 31, 3) := by decide +kernel
theorem dm_X11_assemble_180 : decode M_X11_assemble.1 180 = .ok (.aload_n 0, 1) := by decide +kernel
theorem dm_X11_assemble_181 : decode M_X11_assemble.1 181 = .ok (.getfield 33, 3) := by decide +kernel
theorem dm_X11_assemble_184 : decode M_X11_assemble.1 184 = .ok (.sipush 128, 3) := by decide +kernel
theorem dm_X11_assemble_187 : decode M_X11_assemble.1 187 = .ok (.iload_n 1, 1) := by decide +kernel
theorem dm_X11_assemble_188 : decode M_X11_assemble.1 188 = .ok (.imul, 1) := by decide +kernel
theorem dm_X11_assemble_189 : decode M_X11_assemble.1 189 = .ok (.iload_n 2, 1) := by decide +kernel
theorem dm_X11_assemble_190 : decode M_X11_assemble.1 190 = .ok (.iadd, 1) := by decide +kernel
theorem dm_X11_assemble_191 : decode M_X11_assemble.1 191 = .ok (.iload 4, 2) := by decide +kernel
theorem dm_X11_assemble_193 : decode M_X11_assemble.1 193 = .ok (.iadd, 1) := by decide +kernel
theorem dm_X11_assemble_194 : decode M_X11_assemble.1 194 = .ok (.aload_n 0, 1) := by decide +kernel
theorem dm_X11_assemble_195 : decode M_X11_assemble.1 195 = .ok (.getfield 13, 3) := by decide +kernel
theorem dm_X11_assemble_198 : decode M_X11_assemble.1 198 = .ok (.iload 4, 2) := by decide +kernel
theorem dm_X11_assemble_200 : decode M_X11_assemble.1 200 = .ok (.iaload, 1) := by decide +kernel
theorem dm_X11_assemble_201 : decode M_X11_assemble.1 201 = .ok (.iastore, 1) := by decide +kernel
theorem dm_X11_assemble_202 : decode M_X11_assemble.1 202 = .ok (.iinc 4 1, 3) := by decide +kernel
theorem dm_X11_assemble_205 : decode M_X11_assemble.1 205 = .ok (.goto (-34), 3) := by decide +kernel
theorem dm_X11_assemble_208 : decode M_X11_assemble.1 208 = .ok (.aload_n 0, 1) := by decide +kernel
theorem dm_X11_assemble_209 : decode M_X11_assemble.1 209 = .ok (.getfield 202, 3) := by decide +kernel
theorem dm_X11_assemble_212 : decode M_X11_assemble.1 212 = .ok (.ireturn, 1) := by decide +kernel
theorem gc_X11_assemble_279 : g_cv M_X11_assemble 279 M_X11_refuse yX11_refuse 1 := ⟨tw411, tw412, tw413, tw5, tw414, ⟨rfl, rfl, rfl, rfl⟩, gd_X11_refuse, ⟨by decide, by decide⟩⟩
theorem gc_X11_assemble_282 : g_cv M_X11_assemble 282 M_X11_takeLine yX11_takeLine 1 := ⟨tw415, tw416, tw417, tw5, tw418, ⟨rfl, rfl, rfl, rfl⟩, gd_X11_takeLine, ⟨by decide, by decide⟩⟩
theorem gc_X11_assemble_285 : g_cv M_X11_assemble 285 M_X11_link yX11_link 1 := ⟨tw537, tw538, tw539, tw5, tw540, ⟨rfl, rfl, rfl, rfl⟩, gd_X11_link, ⟨by decide, by decide⟩⟩
def f_X11_assemble_c27 (at_ : Int32) (fault : Int32) (faultLine : Int32) (line : Int32) (words : Int32) (labels : Int32) (targets : Int32) (wrong : Int32) (unfit : Int32) (code_ : Nat → Int32) (label : Nat → Int64) (labelWord : Nat → Int32) (target : Nat → Int64) (targetWord : Nat → Int32) (targetLine : Nat → Int32) (store : Nat → Int32) (z1_0 : Int32) (z1_1 : Int32) : Int32 × Int32 × Int32 × Int32 × Int32 × Int32 × Int32 × Int32 × Int32 × Int32 × Int32 × (Nat → Int32) × (Nat → Int64) × (Nat → Int32) × (Nat → Int64) × (Nat → Int32) × (Nat → Int32) × (Nat → Int32) := (z1_0, z1_1, at_, fault, faultLine, line, words, labels, targets, wrong, unfit, code_, label, labelWord, target, targetWord, targetLine, store)
def f_X11_assemble_25 (at_ : Int32) (fault : Int32) (faultLine : Int32) (line : Int32) (words : Int32) (labels : Int32) (targets : Int32) (wrong : Int32) (unfit : Int32) (code_ : Nat → Int32) (label : Nat → Int64) (labelWord : Nat → Int32) (target : Nat → Int64) (targetWord : Nat → Int32) (targetLine : Nat → Int32) (store : Nat → Int32) : Int32 × Int32 × Int32 × Int32 × Int32 × Int32 × Int32 × Int32 × Int32 × Int32 × Int32 × (Nat → Int32) × (Nat → Int64) × (Nat → Int32) × (Nat → Int64) × (Nat → Int32) × (Nat → Int32) × (Nat → Int32) := (f_X11_assemble_c27 at_ fault faultLine line words labels targets wrong unfit code_ label labelWord target targetWord targetLine store (f_X11_refuse (1 : Int32)).1 (f_X11_refuse (1 : Int32)).2)
set_option maxRecDepth 20000 in
theorem j_X11_assemble_25 {refusal : Int32} {wheel : Int32} {now : Int32} {length : Int32} {at_ : Int32} {fault : Int32} {faultLine : Int32} {line : Int32} {words : Int32} {labels : Int32} {targets : Int32} {wrong : Int32} {unfit : Int32} {text : Nat → Int32} {code_ : Nat → Int32} {label : Nat → Int64} {labelWord : Nat → Int32} {target : Nat → Int64} {targetWord : Nat → Int32} {targetLine : Nat → Int32} {store : Nat → Int32} {common : Nat → Int32} {low : Nat → Int32} {high : Nat → Int32} {register : Nat → Int32} {address : Nat → Int32} {status : Nat → Int32} {did : Nat → Int32} {ready : Nat → Int32} {timer : Nat → Int32} {trace : Nat → Int32} {r_0 : Int32} {r_1 : Int32} {r_2 : Int32} {r_3 : Int32} {r_4 : Int32} {r_5 : Int32} {r_6 : Int32} {r_7 : Int32} {r_8 : Int32} {r_9 : Int32} {r_10 : Int32} {r_11 : (Nat → Int32)} {r_12 : (Nat → Int64)} {r_13 : (Nat → Int32)} {r_14 : (Nat → Int64)} {r_15 : (Nat → Int32)} {r_16 : (Nat → Int32)} {r_17 : (Nat → Int32)} (hres : (r_0, r_1, r_2, r_3, r_4, r_5, r_6, r_7, r_8, r_9, r_10, r_11, r_12, r_13, r_14, r_15, r_16, r_17) = (f_X11_assemble_25 at_ fault faultLine line words labels targets wrong unfit code_ label labelWord target targetWord targetLine store)) : G M_X11_assemble 0 0 25 [(0, .ref 0)] [] (w_M refusal wheel now length at_ fault faultLine line words labels targets wrong unfit text code_ label labelWord target targetWord targetLine store common low high register address status did ready timer trace) (some (.int r_0)) (w_M r_1 wheel now length r_2 r_3 r_4 r_5 r_6 r_7 r_8 r_9 r_10 text r_11 r_12 r_13 r_14 r_15 r_16 r_17 common low high register address status did ready timer trace) := by
  rw [f_X11_assemble_25] at hres
  refine G.aload_n (pc := 25) dm_X11_assemble_25 rfl ?_
  refine G.iconst (pc := 26) (v := (1 : Int32)) dm_X11_assemble_26 qi_1 ?_
  obtain ⟨z1_0, z1_1, hz1⟩ := g_ex2 (f_X11_refuse (1 : Int32))
  refine G.callV0 (pc := 27) (rest := []) (st1 := [.int z1_0]) dm_X11_assemble_27 gc_X11_assemble_279 (k_X11_refuse (code := (1 : Int32)) (refusal := refusal) (wheel := wheel) (now := now) (length := length) (at_ := at_) (fault := fault) (faultLine := faultLine) (line := line) (words := words) (labels := labels) (targets := targets) (wrong := wrong) (unfit := unfit) (text := text) (code_ := code_) (label := label) (labelWord := labelWord) (target := target) (targetWord := targetWord) (targetLine := targetLine) (store := store) (common := common) (low := low) (high := high) (register := register) (address := address) (status := status) (did := did) (ready := ready) (timer := timer) (trace := trace) hz1) rfl rfl rfl rfl rfl rfl rfl rfl ?_
  replace hres : (r_0, r_1, r_2, r_3, r_4, r_5, r_6, r_7, r_8, r_9, r_10, r_11, r_12, r_13, r_14, r_15, r_16, r_17) = f_X11_assemble_c27 at_ fault faultLine line words labels targets wrong unfit code_ label labelWord target targetWord targetLine store z1_0 z1_1 := hres.trans (by rw [← hz1])
  rw [f_X11_assemble_c27] at hres
  cases hres
  exact G.ireturn (pc := 30) dm_X11_assemble_30 rfl rfl rfl
def f_X11_assemble_171 : Nat → Int32 → Int32 → Int32 → Int32 → Int32 → Int32 → Int32 → Int32 → Int32 → Int32 → Int32 → Int32 → Int32 → (Nat → Int32) → (Nat → Int64) → (Nat → Int32) → (Nat → Int64) → (Nat → Int32) → (Nat → Int32) → (Nat → Int32) → Int32 × Int32 × Int32 × Int32 × Int32 × Int32 × Int32 × Int32 × Int32 × Int32 × Int32 × (Nat → Int32) × (Nat → Int64) × (Nat → Int32) × (Nat → Int64) × (Nat → Int32) × (Nat → Int32) × (Nat → Int32)
  | 0, l1, l2, l4, refusal, at_, fault, faultLine, line, words, labels, targets, wrong, unfit, code_, label, labelWord, target, targetWord, targetLine, store => (0, refusal, at_, fault, faultLine, line, words, labels, targets, wrong, unfit, code_, label, labelWord, target, targetWord, targetLine, store)
  | n + 1, l1, l2, l4, refusal, at_, fault, faultLine, line, words, labels, targets, wrong, unfit, code_, label, labelWord, target, targetWord, targetLine, store => (if words ≤ l4 then (words, refusal, at_, fault, faultLine, line, words, labels, targets, wrong, unfit, code_, label, labelWord, target, targetWord, targetLine, store) else ((f_X11_assemble_171 n) l1 l2 (l4 + (1 : Int32)) refusal at_ fault faultLine line words labels targets wrong unfit code_ label labelWord target targetWord targetLine (upd store (Int32.toNatClampNeg ((((128 : Int32) * l1) + l2) + l4)) (code_ (Int32.toNatClampNeg l4)))))
set_option maxRecDepth 20000 in
theorem j_X11_assemble_171 : ∀ (n : Nat) {l1 : Int32} {l2 : Int32} {l4 : Int32} {refusal : Int32} {wheel : Int32} {now : Int32} {length : Int32} {at_ : Int32} {fault : Int32} {faultLine : Int32} {line : Int32} {words : Int32} {labels : Int32} {targets : Int32} {wrong : Int32} {unfit : Int32} {text : Nat → Int32} {code_ : Nat → Int32} {label : Nat → Int64} {labelWord : Nat → Int32} {target : Nat → Int64} {targetWord : Nat → Int32} {targetLine : Nat → Int32} {store : Nat → Int32} {common : Nat → Int32} {low : Nat → Int32} {high : Nat → Int32} {register : Nat → Int32} {address : Nat → Int32} {status : Nat → Int32} {did : Nat → Int32} {ready : Nat → Int32} {timer : Nat → Int32} {trace : Nat → Int32} {r_0 : Int32} {r_1 : Int32} {r_2 : Int32} {r_3 : Int32} {r_4 : Int32} {r_5 : Int32} {r_6 : Int32} {r_7 : Int32} {r_8 : Int32} {r_9 : Int32} {r_10 : Int32} {r_11 : (Nat → Int32)} {r_12 : (Nat → Int64)} {r_13 : (Nat → Int32)} {r_14 : (Nat → Int64)} {r_15 : (Nat → Int32)} {r_16 : (Nat → Int32)} {r_17 : (Nat → Int32)}, (ht : 0 ≤ l1.toInt ∧ l1.toInt < 4) → (hf : 0 ≤ l2.toInt ∧ l2.toInt < 128) → (h4 : 0 ≤ l4.toInt) → (hle : l2.toInt + words.toInt ≤ 128) → (128 - l4.toInt.toNat) < n → (r_0, r_1, r_2, r_3, r_4, r_5, r_6, r_7, r_8, r_9, r_10, r_11, r_12, r_13, r_14, r_15, r_16, r_17) = f_X11_assemble_171 n l1 l2 l4 refusal at_ fault faultLine line words labels targets wrong unfit code_ label labelWord target targetWord targetLine store → G M_X11_assemble 0 0 171 [(0, .ref 0), (1, .int l1), (2, .int l2), (4, .int l4)] [] (w_M refusal wheel now length at_ fault faultLine line words labels targets wrong unfit text code_ label labelWord target targetWord targetLine store common low high register address status did ready timer trace) (some (.int r_0)) (w_M r_1 wheel now length r_2 r_3 r_4 r_5 r_6 r_7 r_8 r_9 r_10 text r_11 r_12 r_13 r_14 r_15 r_16 r_17 common low high register address status did ready timer trace) := by
  intro n
  induction n with
  | zero =>
    intro l1 l2 l4 refusal wheel now length at_ fault faultLine line words labels targets wrong unfit text code_ label labelWord target targetWord targetLine store common low high register address status did ready timer trace r_0 r_1 r_2 r_3 r_4 r_5 r_6 r_7 r_8 r_9 r_10 r_11 r_12 r_13 r_14 r_15 r_16 r_17 ht hf h4 hle hm hres
    exact absurd hm (Nat.not_lt_zero _)
  | succ n ih =>
    intro l1 l2 l4 refusal wheel now length at_ fault faultLine line words labels targets wrong unfit text code_ label labelWord target targetWord targetLine store common low high register address status did ready timer trace r_0 r_1 r_2 r_3 r_4 r_5 r_6 r_7 r_8 r_9 r_10 r_11 r_12 r_13 r_14 r_15 r_16 r_17 ht hf h4 hle hm hres
    obtain ⟨mu, hmu⟩ : ∃ z, (128 - l4.toInt.toNat) = z := ⟨_, rfl⟩
    rw [hmu] at hm
    have hk171 : ∀ {l1 : Int32} {l2 : Int32} {l4 : Int32} {refusal : Int32} {at_ : Int32} {fault : Int32} {faultLine : Int32} {line : Int32} {words : Int32} {labels : Int32} {targets : Int32} {wrong : Int32} {unfit : Int32} {code_ : Nat → Int32} {label : Nat → Int64} {labelWord : Nat → Int32} {target : Nat → Int64} {targetWord : Nat → Int32} {targetLine : Nat → Int32} {store : Nat → Int32}, (0 ≤ l1.toInt ∧ l1.toInt < 4) → (0 ≤ l2.toInt ∧ l2.toInt < 128) → (0 ≤ l4.toInt) → (l2.toInt + words.toInt ≤ 128) → (128 - l4.toInt.toNat) < mu → (r_0, r_1, r_2, r_3, r_4, r_5, r_6, r_7, r_8, r_9, r_10, r_11, r_12, r_13, r_14, r_15, r_16, r_17) = (f_X11_assemble_171 n) l1 l2 l4 refusal at_ fault faultLine line words labels targets wrong unfit code_ label labelWord target targetWord targetLine store → G M_X11_assemble 0 0 171 [(0, .ref 0), (1, .int l1), (2, .int l2), (4, .int l4)] [] (w_M refusal wheel now length at_ fault faultLine line words labels targets wrong unfit text code_ label labelWord target targetWord targetLine store common low high register address status did ready timer trace) (some (.int r_0)) (w_M r_1 wheel now length r_2 r_3 r_4 r_5 r_6 r_7 r_8 r_9 r_10 text r_11 r_12 r_13 r_14 r_15 r_16 r_17 common low high register address status did ready timer trace) := fun ht hf h4 hle hlt he => ih ht hf h4 hle (Nat.lt_of_lt_of_le hlt (Nat.le_of_lt_succ hm)) he
    rw [f_X11_assemble_171] at hres
    refine G.iload (pc := 171) dm_X11_assemble_171 rfl ?_
    refine G.aload_n (pc := 173) dm_X11_assemble_173 rfl ?_
    refine G.getfield (pc := 174) dm_X11_assemble_174 gf_X11_202 rfl rfl ?_
    refine G.icmp_ge (pc := 177) (tgt := 208) dm_X11_assemble_177 (by decide) (fun c177 => ?_) (fun c177 => ?_)
    · rw [if_pos c177] at hres
      refine G.aload_n (pc := 208) dm_X11_assemble_208 rfl ?_
      refine G.getfield (pc := 209) dm_X11_assemble_209 gf_X11_202 rfl rfl ?_
      cases hres
      exact G.ireturn (pc := 212) dm_X11_assemble_212 rfl rfl rfl
    · rw [if_neg c177] at hres
      refine G.aload_n (pc := 180) dm_X11_assemble_180 rfl ?_
      refine G.getfield (pc := 181) dm_X11_assemble_181 gf_X11_33 rfl rfl ?_
      refine G.sipush (pc := 184) (v := (128 : Int32)) dm_X11_assemble_184 qs_128 ?_
      refine G.iload_n (pc := 187) dm_X11_assemble_187 rfl ?_
      refine G.imul (pc := 188) dm_X11_assemble_188 ?_
      refine G.iload_n (pc := 189) dm_X11_assemble_189 rfl ?_
      refine G.iadd (pc := 190) dm_X11_assemble_190 ?_
      refine G.iload (pc := 191) dm_X11_assemble_191 rfl ?_
      refine G.iadd (pc := 193) dm_X11_assemble_193 ?_
      refine G.aload_n (pc := 194) dm_X11_assemble_194 rfl ?_
      refine G.getfield (pc := 195) dm_X11_assemble_195 gf_X11_13 rfl rfl ?_
      refine G.iload (pc := 198) dm_X11_assemble_198 rfl ?_
      refine G.iaload (pc := 200) dm_X11_assemble_200 rfl (q_in h4 (by have := q_nle c177; omega)) ?_
      refine G.iastore (pc := 201) (ws1 := (w_M refusal wheel now length at_ fault faultLine line words labels targets wrong unfit text code_ label labelWord target targetWord targetLine (upd store (Int32.toNatClampNeg ((((128 : Int32) * l1) + l2) + l4)) (code_ (Int32.toNatClampNeg l4))) common low high register address status did ready timer trace)) dm_X11_assemble_201 rfl (q_stk ht hf h4 (by have := q_nle c177; omega)) rfl ?_
      refine G.iinc (pc := 202) (v := (l4 + (1 : Int32))) (lv1 := [(4, .int (l4 + (1 : Int32))), (0, .ref 0), (1, .int l1), (2, .int l2)]) dm_X11_assemble_202 rfl rfl rfl rfl ?_
      refine G.goto (pc := 205) (tgt := 171) dm_X11_assemble_205 (by decide) ?_
      refine G.lvp [1, 2, 3, 0] rfl ?_
      exact hk171 ht hf (by have := q_nle c177; rw [q_inc (by omega)]; omega) hle (by have := q_nle c177; rw [q_inc (by omega)]; omega) hres
def f_X11_assemble_c164 (at_ : Int32) (fault : Int32) (faultLine : Int32) (line : Int32) (words : Int32) (labels : Int32) (targets : Int32) (wrong : Int32) (unfit : Int32) (code_ : Nat → Int32) (label : Nat → Int64) (labelWord : Nat → Int32) (target : Nat → Int64) (targetWord : Nat → Int32) (targetLine : Nat → Int32) (store : Nat → Int32) (z2_0 : Int32) (z2_1 : Int32) : Int32 × Int32 × Int32 × Int32 × Int32 × Int32 × Int32 × Int32 × Int32 × Int32 × Int32 × (Nat → Int32) × (Nat → Int64) × (Nat → Int32) × (Nat → Int64) × (Nat → Int32) × (Nat → Int32) × (Nat → Int32) := (z2_0, z2_1, at_, fault, faultLine, line, words, labels, targets, wrong, unfit, code_, label, labelWord, target, targetWord, targetLine, store)
def f_X11_assemble_155 (refusal : Int32) (at_ : Int32) (fault : Int32) (faultLine : Int32) (line : Int32) (words : Int32) (labels : Int32) (targets : Int32) (wrong : Int32) (unfit : Int32) (code_ : Nat → Int32) (label : Nat → Int64) (labelWord : Nat → Int32) (target : Nat → Int64) (targetWord : Nat → Int32) (targetLine : Nat → Int32) (store : Nat → Int32) (l1 : Int32) (l2 : Int32) : Int32 × Int32 × Int32 × Int32 × Int32 × Int32 × Int32 × Int32 × Int32 × Int32 × Int32 × (Nat → Int32) × (Nat → Int64) × (Nat → Int32) × (Nat → Int64) × (Nat → Int32) × (Nat → Int32) × (Nat → Int32) := (if fault ≤ 0 then (f_X11_assemble_171 (129) l1 l2 (0 : Int32) refusal at_ fault faultLine line words labels targets wrong unfit code_ label labelWord target targetWord targetLine store) else (f_X11_assemble_c164 at_ fault faultLine line words labels targets wrong unfit code_ label labelWord target targetWord targetLine store (f_X11_refuse (2 : Int32)).1 (f_X11_refuse (2 : Int32)).2))
set_option maxRecDepth 20000 in
theorem j_X11_assemble_155 {l1 : Int32} {l2 : Int32} {refusal : Int32} {wheel : Int32} {now : Int32} {length : Int32} {at_ : Int32} {fault : Int32} {faultLine : Int32} {line : Int32} {words : Int32} {labels : Int32} {targets : Int32} {wrong : Int32} {unfit : Int32} {text : Nat → Int32} {code_ : Nat → Int32} {label : Nat → Int64} {labelWord : Nat → Int32} {target : Nat → Int64} {targetWord : Nat → Int32} {targetLine : Nat → Int32} {store : Nat → Int32} {common : Nat → Int32} {low : Nat → Int32} {high : Nat → Int32} {register : Nat → Int32} {address : Nat → Int32} {status : Nat → Int32} {did : Nat → Int32} {ready : Nat → Int32} {timer : Nat → Int32} {trace : Nat → Int32} {r_0 : Int32} {r_1 : Int32} {r_2 : Int32} {r_3 : Int32} {r_4 : Int32} {r_5 : Int32} {r_6 : Int32} {r_7 : Int32} {r_8 : Int32} {r_9 : Int32} {r_10 : Int32} {r_11 : (Nat → Int32)} {r_12 : (Nat → Int64)} {r_13 : (Nat → Int32)} {r_14 : (Nat → Int64)} {r_15 : (Nat → Int32)} {r_16 : (Nat → Int32)} {r_17 : (Nat → Int32)} (hres : (r_0, r_1, r_2, r_3, r_4, r_5, r_6, r_7, r_8, r_9, r_10, r_11, r_12, r_13, r_14, r_15, r_16, r_17) = (f_X11_assemble_155 refusal at_ fault faultLine line words labels targets wrong unfit code_ label labelWord target targetWord targetLine store l1 l2)) (ht : 0 ≤ l1.toInt ∧ l1.toInt < 4) (hf : 0 ≤ l2.toInt ∧ l2.toInt < 128) (hle : fault ≤ 0 → l2.toInt + words.toInt ≤ 128) : G M_X11_assemble 0 0 155 [(0, .ref 0), (1, .int l1), (2, .int l2)] [] (w_M refusal wheel now length at_ fault faultLine line words labels targets wrong unfit text code_ label labelWord target targetWord targetLine store common low high register address status did ready timer trace) (some (.int r_0)) (w_M r_1 wheel now length r_2 r_3 r_4 r_5 r_6 r_7 r_8 r_9 r_10 text r_11 r_12 r_13 r_14 r_15 r_16 r_17 common low high register address status did ready timer trace) := by
  rw [f_X11_assemble_155] at hres
  refine G.aload_n (pc := 155) dm_X11_assemble_155 rfl ?_
  refine G.getfield (pc := 156) dm_X11_assemble_156 gf_X11_273 rfl rfl ?_
  refine G.if_le (pc := 159) (tgt := 168) dm_X11_assemble_159 (by decide) (fun c159 => ?_) (fun c159 => ?_)
  · rw [if_pos c159] at hres
    refine G.iconst (pc := 168) (v := (0 : Int32)) dm_X11_assemble_168 qi_0 ?_
    refine G.istore (pc := 169) (lv1 := [(4, .int (0 : Int32)), (0, .ref 0), (1, .int l1), (2, .int l2)]) dm_X11_assemble_169 rfl rfl ?_
    refine G.lvp [1, 2, 3, 0] rfl ?_
    exact j_X11_assemble_171 _ ht hf (by decide) (hle c159) (by decide) hres
  · rw [if_neg c159] at hres
    refine G.aload_n (pc := 162) dm_X11_assemble_162 rfl ?_
    refine G.iconst (pc := 163) (v := (2 : Int32)) dm_X11_assemble_163 qi_2 ?_
    obtain ⟨z2_0, z2_1, hz2⟩ := g_ex2 (f_X11_refuse (2 : Int32))
    refine G.callV0 (pc := 164) (rest := []) (st1 := [.int z2_0]) dm_X11_assemble_164 gc_X11_assemble_279 (k_X11_refuse (code := (2 : Int32)) (refusal := refusal) (wheel := wheel) (now := now) (length := length) (at_ := at_) (fault := fault) (faultLine := faultLine) (line := line) (words := words) (labels := labels) (targets := targets) (wrong := wrong) (unfit := unfit) (text := text) (code_ := code_) (label := label) (labelWord := labelWord) (target := target) (targetWord := targetWord) (targetLine := targetLine) (store := store) (common := common) (low := low) (high := high) (register := register) (address := address) (status := status) (did := did) (ready := ready) (timer := timer) (trace := trace) hz2) rfl rfl rfl rfl rfl rfl rfl rfl ?_
    replace hres : (r_0, r_1, r_2, r_3, r_4, r_5, r_6, r_7, r_8, r_9, r_10, r_11, r_12, r_13, r_14, r_15, r_16, r_17) = f_X11_assemble_c164 at_ fault faultLine line words labels targets wrong unfit code_ label labelWord target targetWord targetLine store z2_0 z2_1 := hres.trans (by rw [← hz2])
    rw [f_X11_assemble_c164] at hres
    cases hres
    exact G.ireturn (pc := 167) dm_X11_assemble_167 rfl rfl rfl
def f_X11_assemble_c152 (refusal : Int32) (at_ : Int32) (line : Int32) (words : Int32) (labels : Int32) (targets : Int32) (wrong : Int32) (unfit : Int32) (label : Nat → Int64) (labelWord : Nat → Int32) (target : Nat → Int64) (targetWord : Nat → Int32) (targetLine : Nat → Int32) (store : Nat → Int32) (l1 : Int32) (l2 : Int32) (z3_0 : Int32) (z3_1 : Int32) (z3_2 : (Nat → Int32)) : Int32 × Int32 × Int32 × Int32 × Int32 × Int32 × Int32 × Int32 × Int32 × Int32 × Int32 × (Nat → Int32) × (Nat → Int64) × (Nat → Int32) × (Nat → Int64) × (Nat → Int32) × (Nat → Int32) × (Nat → Int32) := (f_X11_assemble_155 refusal at_ z3_0 z3_1 line words labels targets wrong unfit z3_2 label labelWord target targetWord targetLine store l1 l2)
def f_X11_assemble_119 (refusal : Int32) (at_ : Int32) (fault : Int32) (faultLine : Int32) (line : Int32) (words : Int32) (labels : Int32) (targets : Int32) (wrong : Int32) (unfit : Int32) (code_ : Nat → Int32) (label : Nat → Int64) (labelWord : Nat → Int32) (target : Nat → Int64) (targetWord : Nat → Int32) (targetLine : Nat → Int32) (store : Nat → Int32) (l1 : Int32) (l2 : Int32) (kL68 : Int32 → Int32 → Int32 → Int32 → Int32 → Int32 → Int32 → Int32 → Int32 → Int32 → Int32 → Int32 → Int32 → (Nat → Int32) → (Nat → Int64) → (Nat → Int32) → (Nat → Int64) → (Nat → Int32) → (Nat → Int32) → (Nat → Int32) → Int32 × Int32 × Int32 × Int32 × Int32 × Int32 × Int32 × Int32 × Int32 × Int32 × Int32 × (Nat → Int32) × (Nat → Int64) × (Nat → Int32) × (Nat → Int64) × (Nat → Int32) × (Nat → Int32) × (Nat → Int32)) (s0 : Int32) : Int32 × Int32 × Int32 × Int32 × Int32 × Int32 × Int32 × Int32 × Int32 × Int32 × Int32 × (Nat → Int32) × (Nat → Int64) × (Nat → Int32) × (Nat → Int64) × (Nat → Int32) × (Nat → Int32) × (Nat → Int32) := (kL68 l1 l2 s0 refusal (at_ + (1 : Int32)) fault faultLine (line + (1 : Int32)) words labels targets wrong unfit code_ label labelWord target targetWord targetLine store)
set_option maxRecDepth 20000 in
theorem j_X11_assemble_119 {l1 : Int32} {l2 : Int32} {s0 : Int32} {refusal : Int32} {wheel : Int32} {now : Int32} {length : Int32} {at_ : Int32} {fault : Int32} {faultLine : Int32} {line : Int32} {words : Int32} {labels : Int32} {targets : Int32} {wrong : Int32} {unfit : Int32} {text : Nat → Int32} {code_ : Nat → Int32} {label : Nat → Int64} {labelWord : Nat → Int32} {target : Nat → Int64} {targetWord : Nat → Int32} {targetLine : Nat → Int32} {store : Nat → Int32} {common : Nat → Int32} {low : Nat → Int32} {high : Nat → Int32} {register : Nat → Int32} {address : Nat → Int32} {status : Nat → Int32} {did : Nat → Int32} {ready : Nat → Int32} {timer : Nat → Int32} {trace : Nat → Int32} {kL68 : Int32 → Int32 → Int32 → Int32 → Int32 → Int32 → Int32 → Int32 → Int32 → Int32 → Int32 → Int32 → Int32 → (Nat → Int32) → (Nat → Int64) → (Nat → Int32) → (Nat → Int64) → (Nat → Int32) → (Nat → Int32) → (Nat → Int32) → Int32 × Int32 × Int32 × Int32 × Int32 × Int32 × Int32 × Int32 × Int32 × Int32 × Int32 × (Nat → Int32) × (Nat → Int64) × (Nat → Int32) × (Nat → Int64) × (Nat → Int32) × (Nat → Int32) × (Nat → Int32)} {r_0 : Int32} {r_1 : Int32} {r_2 : Int32} {r_3 : Int32} {r_4 : Int32} {r_5 : Int32} {r_6 : Int32} {r_7 : Int32} {r_8 : Int32} {r_9 : Int32} {r_10 : Int32} {r_11 : (Nat → Int32)} {r_12 : (Nat → Int64)} {r_13 : (Nat → Int32)} {r_14 : (Nat → Int64)} {r_15 : (Nat → Int32)} {r_16 : (Nat → Int32)} {r_17 : (Nat → Int32)} (hres : (r_0, r_1, r_2, r_3, r_4, r_5, r_6, r_7, r_8, r_9, r_10, r_11, r_12, r_13, r_14, r_15, r_16, r_17) = (f_X11_assemble_119 refusal at_ fault faultLine line words labels targets wrong unfit code_ label labelWord target targetWord targetLine store l1 l2 kL68 s0)) (hln : 0 ≤ length.toInt ∧ length.toInt ≤ 400) (ht : 0 ≤ l1.toInt ∧ l1.toInt < 4) (hf : 0 ≤ l2.toInt ∧ l2.toInt < 128) (hlb : 0 ≤ labels.toInt ∧ labels.toInt ≤ 16) (htg : 0 ≤ targets.toInt ∧ targets.toInt ≤ 128) (hwd : 0 ≤ words.toInt ∧ words.toInt ≤ 129) (htw : ∀ j, j < targets.toInt.toNat → 0 ≤ (targetWord j).toInt ∧ (targetWord j).toInt < words.toInt) (hwf : fault = 0 → l2.toInt + words.toInt ≤ 128) (hfp : fault = 0 ∨ 0 < fault.toInt) (hat : 0 ≤ at_.toInt ∧ at_.toInt ≤ 400) (hs : ¬ s0 = 0 → fault = 0 ∧ at_.toInt < length.toInt) {mu : Nat} (hmu : 402 - at_.toInt.toNat ≤ mu ∧ 0 < mu) (hk68 : ∀ {l1 : Int32} {l2 : Int32} {l3 : Int32} {refusal : Int32} {at_ : Int32} {fault : Int32} {faultLine : Int32} {line : Int32} {words : Int32} {labels : Int32} {targets : Int32} {wrong : Int32} {unfit : Int32} {code_ : Nat → Int32} {label : Nat → Int64} {labelWord : Nat → Int32} {target : Nat → Int64} {targetWord : Nat → Int32} {targetLine : Nat → Int32} {store : Nat → Int32}, (0 ≤ length.toInt ∧ length.toInt ≤ 400) → (0 ≤ l1.toInt ∧ l1.toInt < 4) → (0 ≤ l2.toInt ∧ l2.toInt < 128) → (0 ≤ labels.toInt ∧ labels.toInt ≤ 16) → (0 ≤ targets.toInt ∧ targets.toInt ≤ 128) → (0 ≤ words.toInt ∧ words.toInt ≤ 129) → (∀ j, j < targets.toInt.toNat → 0 ≤ (targetWord j).toInt ∧ (targetWord j).toInt < words.toInt) → (fault = 0 → l2.toInt + words.toInt ≤ 128) → (fault = 0 ∨ 0 < fault.toInt) → (¬ l3 = 0 → (0 ≤ at_.toInt ∧ at_.toInt ≤ 400) ∧ fault = 0) → (if l3 = 0 then 0 else 402 - at_.toInt.toNat) < mu → (r_0, r_1, r_2, r_3, r_4, r_5, r_6, r_7, r_8, r_9, r_10, r_11, r_12, r_13, r_14, r_15, r_16, r_17) = kL68 l1 l2 l3 refusal at_ fault faultLine line words labels targets wrong unfit code_ label labelWord target targetWord targetLine store → G M_X11_assemble 0 0 68 [(0, .ref 0), (1, .int l1), (2, .int l2), (3, .int l3)] [] (w_M refusal wheel now length at_ fault faultLine line words labels targets wrong unfit text code_ label labelWord target targetWord targetLine store common low high register address status did ready timer trace) (some (.int r_0)) (w_M r_1 wheel now length r_2 r_3 r_4 r_5 r_6 r_7 r_8 r_9 r_10 text r_11 r_12 r_13 r_14 r_15 r_16 r_17 common low high register address status did ready timer trace)) : G M_X11_assemble 0 0 119 [(0, .ref 0), (1, .int l1), (2, .int l2)] [.int s0] (w_M refusal wheel now length at_ fault faultLine line words labels targets wrong unfit text code_ label labelWord target targetWord targetLine store common low high register address status did ready timer trace) (some (.int r_0)) (w_M r_1 wheel now length r_2 r_3 r_4 r_5 r_6 r_7 r_8 r_9 r_10 text r_11 r_12 r_13 r_14 r_15 r_16 r_17 common low high register address status did ready timer trace) := by
  rw [f_X11_assemble_119] at hres
  refine G.istore_n (pc := 119) (lv1 := [(3, .int s0), (0, .ref 0), (1, .int l1), (2, .int l2)]) dm_X11_assemble_119 rfl rfl ?_
  refine G.aload_n (pc := 120) dm_X11_assemble_120 rfl ?_
  refine G.dup (pc := 121) dm_X11_assemble_121 rfl ?_
  refine G.getfield (pc := 122) dm_X11_assemble_122 gf_X11_88 rfl rfl ?_
  refine G.iconst (pc := 125) (v := (1 : Int32)) dm_X11_assemble_125 qi_1 ?_
  refine G.iadd (pc := 126) dm_X11_assemble_126 ?_
  refine G.putfield (pc := 127) (ws1 := (w_M refusal wheel now length (at_ + (1 : Int32)) fault faultLine line words labels targets wrong unfit text code_ label labelWord target targetWord targetLine store common low high register address status did ready timer trace)) dm_X11_assemble_127 gw_X11_88 rfl (g_fit_i _) rfl rfl ?_
  refine G.aload_n (pc := 130) dm_X11_assemble_130 rfl ?_
  refine G.dup (pc := 131) dm_X11_assemble_131 rfl ?_
  refine G.getfield (pc := 132) dm_X11_assemble_132 gf_X11_205 rfl rfl ?_
  refine G.iconst (pc := 135) (v := (1 : Int32)) dm_X11_assemble_135 qi_1 ?_
  refine G.iadd (pc := 136) dm_X11_assemble_136 ?_
  refine G.putfield (pc := 137) (ws1 := (w_M refusal wheel now length (at_ + (1 : Int32)) fault faultLine (line + (1 : Int32)) words labels targets wrong unfit text code_ label labelWord target targetWord targetLine store common low high register address status did ready timer trace)) dm_X11_assemble_137 gw_X11_205 rfl (g_fit_i _) rfl rfl ?_
  refine G.goto (pc := 140) (tgt := 68) dm_X11_assemble_140 (by decide) ?_
  refine G.lvp [1, 2, 3, 0] rfl ?_
  exact hk68 hln ht hf hlb htg hwd htw hwf hfp (fun h => ⟨q_up hln hat (hs h).2, (hs h).1⟩) (q_asmdec hat hmu) hres
def f_X11_assemble_93 (refusal : Int32) (length : Int32) (at_ : Int32) (fault : Int32) (line : Int32) (words : Int32) (labels : Int32) (targets : Int32) (wrong : Int32) (unfit : Int32) (code_ : Nat → Int32) (label : Nat → Int64) (labelWord : Nat → Int32) (target : Nat → Int64) (targetWord : Nat → Int32) (targetLine : Nat → Int32) (store : Nat → Int32) (l1 : Int32) (l2 : Int32) (kL68 : Int32 → Int32 → Int32 → Int32 → Int32 → Int32 → Int32 → Int32 → Int32 → Int32 → Int32 → Int32 → Int32 → (Nat → Int32) → (Nat → Int64) → (Nat → Int32) → (Nat → Int64) → (Nat → Int32) → (Nat → Int32) → (Nat → Int32) → Int32 × Int32 × Int32 × Int32 × Int32 × Int32 × Int32 × Int32 × Int32 × Int32 × Int32 × (Nat → Int32) × (Nat → Int64) × (Nat → Int32) × (Nat → Int64) × (Nat → Int32) × (Nat → Int32) × (Nat → Int32)) (s1 : Int32) : Int32 × Int32 × Int32 × Int32 × Int32 × Int32 × Int32 × Int32 × Int32 × Int32 × Int32 × (Nat → Int32) × (Nat → Int64) × (Nat → Int32) × (Nat → Int64) × (Nat → Int32) × (Nat → Int32) × (Nat → Int32) := (if fault = 0 then (if length ≤ at_ then (f_X11_assemble_119 refusal at_ fault s1 line words labels targets wrong unfit code_ label labelWord target targetWord targetLine store l1 l2 kL68 (0 : Int32)) else (f_X11_assemble_119 refusal at_ fault s1 line words labels targets wrong unfit code_ label labelWord target targetWord targetLine store l1 l2 kL68 (1 : Int32))) else (f_X11_assemble_119 refusal at_ fault s1 line words labels targets wrong unfit code_ label labelWord target targetWord targetLine store l1 l2 kL68 (0 : Int32)))
set_option maxRecDepth 20000 in
theorem j_X11_assemble_93 {l1 : Int32} {l2 : Int32} {s1 : Int32} {refusal : Int32} {wheel : Int32} {now : Int32} {length : Int32} {at_ : Int32} {fault : Int32} {faultLine : Int32} {line : Int32} {words : Int32} {labels : Int32} {targets : Int32} {wrong : Int32} {unfit : Int32} {text : Nat → Int32} {code_ : Nat → Int32} {label : Nat → Int64} {labelWord : Nat → Int32} {target : Nat → Int64} {targetWord : Nat → Int32} {targetLine : Nat → Int32} {store : Nat → Int32} {common : Nat → Int32} {low : Nat → Int32} {high : Nat → Int32} {register : Nat → Int32} {address : Nat → Int32} {status : Nat → Int32} {did : Nat → Int32} {ready : Nat → Int32} {timer : Nat → Int32} {trace : Nat → Int32} {kL68 : Int32 → Int32 → Int32 → Int32 → Int32 → Int32 → Int32 → Int32 → Int32 → Int32 → Int32 → Int32 → Int32 → (Nat → Int32) → (Nat → Int64) → (Nat → Int32) → (Nat → Int64) → (Nat → Int32) → (Nat → Int32) → (Nat → Int32) → Int32 × Int32 × Int32 × Int32 × Int32 × Int32 × Int32 × Int32 × Int32 × Int32 × Int32 × (Nat → Int32) × (Nat → Int64) × (Nat → Int32) × (Nat → Int64) × (Nat → Int32) × (Nat → Int32) × (Nat → Int32)} {r_0 : Int32} {r_1 : Int32} {r_2 : Int32} {r_3 : Int32} {r_4 : Int32} {r_5 : Int32} {r_6 : Int32} {r_7 : Int32} {r_8 : Int32} {r_9 : Int32} {r_10 : Int32} {r_11 : (Nat → Int32)} {r_12 : (Nat → Int64)} {r_13 : (Nat → Int32)} {r_14 : (Nat → Int64)} {r_15 : (Nat → Int32)} {r_16 : (Nat → Int32)} {r_17 : (Nat → Int32)} (hres : (r_0, r_1, r_2, r_3, r_4, r_5, r_6, r_7, r_8, r_9, r_10, r_11, r_12, r_13, r_14, r_15, r_16, r_17) = (f_X11_assemble_93 refusal length at_ fault line words labels targets wrong unfit code_ label labelWord target targetWord targetLine store l1 l2 kL68 s1)) (hln : 0 ≤ length.toInt ∧ length.toInt ≤ 400) (ht : 0 ≤ l1.toInt ∧ l1.toInt < 4) (hf : 0 ≤ l2.toInt ∧ l2.toInt < 128) (hlb : 0 ≤ labels.toInt ∧ labels.toInt ≤ 16) (htg : 0 ≤ targets.toInt ∧ targets.toInt ≤ 128) (hwd : 0 ≤ words.toInt ∧ words.toInt ≤ 129) (htw : ∀ j, j < targets.toInt.toNat → 0 ≤ (targetWord j).toInt ∧ (targetWord j).toInt < words.toInt) (hwf : fault = 0 → l2.toInt + words.toInt ≤ 128) (hfp : fault = 0 ∨ 0 < fault.toInt) (hat : 0 ≤ at_.toInt ∧ at_.toInt ≤ 400) {mu : Nat} (hmu : 402 - at_.toInt.toNat ≤ mu ∧ 0 < mu) (hk68 : ∀ {l1 : Int32} {l2 : Int32} {l3 : Int32} {refusal : Int32} {at_ : Int32} {fault : Int32} {faultLine : Int32} {line : Int32} {words : Int32} {labels : Int32} {targets : Int32} {wrong : Int32} {unfit : Int32} {code_ : Nat → Int32} {label : Nat → Int64} {labelWord : Nat → Int32} {target : Nat → Int64} {targetWord : Nat → Int32} {targetLine : Nat → Int32} {store : Nat → Int32}, (0 ≤ length.toInt ∧ length.toInt ≤ 400) → (0 ≤ l1.toInt ∧ l1.toInt < 4) → (0 ≤ l2.toInt ∧ l2.toInt < 128) → (0 ≤ labels.toInt ∧ labels.toInt ≤ 16) → (0 ≤ targets.toInt ∧ targets.toInt ≤ 128) → (0 ≤ words.toInt ∧ words.toInt ≤ 129) → (∀ j, j < targets.toInt.toNat → 0 ≤ (targetWord j).toInt ∧ (targetWord j).toInt < words.toInt) → (fault = 0 → l2.toInt + words.toInt ≤ 128) → (fault = 0 ∨ 0 < fault.toInt) → (¬ l3 = 0 → (0 ≤ at_.toInt ∧ at_.toInt ≤ 400) ∧ fault = 0) → (if l3 = 0 then 0 else 402 - at_.toInt.toNat) < mu → (r_0, r_1, r_2, r_3, r_4, r_5, r_6, r_7, r_8, r_9, r_10, r_11, r_12, r_13, r_14, r_15, r_16, r_17) = kL68 l1 l2 l3 refusal at_ fault faultLine line words labels targets wrong unfit code_ label labelWord target targetWord targetLine store → G M_X11_assemble 0 0 68 [(0, .ref 0), (1, .int l1), (2, .int l2), (3, .int l3)] [] (w_M refusal wheel now length at_ fault faultLine line words labels targets wrong unfit text code_ label labelWord target targetWord targetLine store common low high register address status did ready timer trace) (some (.int r_0)) (w_M r_1 wheel now length r_2 r_3 r_4 r_5 r_6 r_7 r_8 r_9 r_10 text r_11 r_12 r_13 r_14 r_15 r_16 r_17 common low high register address status did ready timer trace)) : G M_X11_assemble 0 0 93 [(0, .ref 0), (1, .int l1), (2, .int l2)] [.int s1, .ref 0] (w_M refusal wheel now length at_ fault faultLine line words labels targets wrong unfit text code_ label labelWord target targetWord targetLine store common low high register address status did ready timer trace) (some (.int r_0)) (w_M r_1 wheel now length r_2 r_3 r_4 r_5 r_6 r_7 r_8 r_9 r_10 text r_11 r_12 r_13 r_14 r_15 r_16 r_17 common low high register address status did ready timer trace) := by
  rw [f_X11_assemble_93] at hres
  refine G.putfield (pc := 93) (ws1 := (w_M refusal wheel now length at_ fault s1 line words labels targets wrong unfit text code_ label labelWord target targetWord targetLine store common low high register address status did ready timer trace)) dm_X11_assemble_93 gw_X11_276 rfl (g_fit_i _) rfl rfl ?_
  refine G.aload_n (pc := 96) dm_X11_assemble_96 rfl ?_
  refine G.getfield (pc := 97) dm_X11_assemble_97 gf_X11_273 rfl rfl ?_
  refine G.if_ne (pc := 100) (tgt := 118) dm_X11_assemble_100 (by decide) (fun c100 => ?_) (fun c100 => ?_)
  · rw [if_neg c100] at hres
    refine G.iconst (pc := 118) (v := (0 : Int32)) dm_X11_assemble_118 qi_0 ?_
    exact j_X11_assemble_119 hres hln ht hf hlb htg hwd htw hwf hfp hat (fun h => absurd rfl h) hmu hk68
  · rw [if_pos c100] at hres
    refine G.aload_n (pc := 103) dm_X11_assemble_103 rfl ?_
    refine G.getfield (pc := 104) dm_X11_assemble_104 gf_X11_88 rfl rfl ?_
    refine G.aload_n (pc := 107) dm_X11_assemble_107 rfl ?_
    refine G.getfield (pc := 108) dm_X11_assemble_108 gf_X11_85 rfl rfl ?_
    refine G.icmp_ge (pc := 111) (tgt := 118) dm_X11_assemble_111 (by decide) (fun c111 => ?_) (fun c111 => ?_)
    · rw [if_pos c111] at hres
      refine G.iconst (pc := 118) (v := (0 : Int32)) dm_X11_assemble_118 qi_0 ?_
      exact j_X11_assemble_119 hres hln ht hf hlb htg hwd htw hwf hfp hat (fun h => absurd rfl h) hmu hk68
    · rw [if_neg c111] at hres
      refine G.iconst (pc := 114) (v := (1 : Int32)) dm_X11_assemble_114 qi_1 ?_
      refine G.goto (pc := 115) (tgt := 119) dm_X11_assemble_115 (by decide) ?_
      exact j_X11_assemble_119 hres hln ht hf hlb htg hwd htw hwf hfp hat (fun _ => ⟨c100, q_nle c111⟩) hmu hk68
def f_X11_assemble_c74 (refusal : Int32) (length : Int32) (line : Int32) (store : Nat → Int32) (l1 : Int32) (l2 : Int32) (kL68 : Int32 → Int32 → Int32 → Int32 → Int32 → Int32 → Int32 → Int32 → Int32 → Int32 → Int32 → Int32 → Int32 → (Nat → Int32) → (Nat → Int64) → (Nat → Int32) → (Nat → Int64) → (Nat → Int32) → (Nat → Int32) → (Nat → Int32) → Int32 × Int32 × Int32 × Int32 × Int32 × Int32 × Int32 × Int32 × Int32 × Int32 × Int32 × (Nat → Int32) × (Nat → Int64) × (Nat → Int32) × (Nat → Int64) × (Nat → Int32) × (Nat → Int32) × (Nat → Int32)) (z4_0 : Int32) (z4_1 : Int32) (z4_2 : Int32) (z4_3 : Int32) (z4_4 : Int32) (z4_5 : Int32) (z4_6 : Int32) (z4_7 : (Nat → Int32)) (z4_8 : (Nat → Int64)) (z4_9 : (Nat → Int32)) (z4_10 : (Nat → Int64)) (z4_11 : (Nat → Int32)) (z4_12 : (Nat → Int32)) : Int32 × Int32 × Int32 × Int32 × Int32 × Int32 × Int32 × Int32 × Int32 × Int32 × Int32 × (Nat → Int32) × (Nat → Int64) × (Nat → Int32) × (Nat → Int64) × (Nat → Int32) × (Nat → Int32) × (Nat → Int32) := (if z4_1 ≤ 0 then (f_X11_assemble_93 refusal length z4_0 z4_1 line z4_2 z4_3 z4_4 z4_5 z4_6 z4_7 z4_8 z4_9 z4_10 z4_11 z4_12 store l1 l2 kL68 (0 : Int32)) else (f_X11_assemble_93 refusal length z4_0 z4_1 line z4_2 z4_3 z4_4 z4_5 z4_6 z4_7 z4_8 z4_9 z4_10 z4_11 z4_12 store l1 l2 kL68 line))
def f_X11_assemble_68 (length : Int32) (text : Nat → Int32) : Nat → Int32 → Int32 → Int32 → Int32 → Int32 → Int32 → Int32 → Int32 → Int32 → Int32 → Int32 → Int32 → Int32 → (Nat → Int32) → (Nat → Int64) → (Nat → Int32) → (Nat → Int64) → (Nat → Int32) → (Nat → Int32) → (Nat → Int32) → Int32 × Int32 × Int32 × Int32 × Int32 × Int32 × Int32 × Int32 × Int32 × Int32 × Int32 × (Nat → Int32) × (Nat → Int64) × (Nat → Int32) × (Nat → Int64) × (Nat → Int32) × (Nat → Int32) × (Nat → Int32)
  | 0, l1, l2, l3, refusal, at_, fault, faultLine, line, words, labels, targets, wrong, unfit, code_, label, labelWord, target, targetWord, targetLine, store => (0, refusal, at_, fault, faultLine, line, words, labels, targets, wrong, unfit, code_, label, labelWord, target, targetWord, targetLine, store)
  | n + 1, l1, l2, l3, refusal, at_, fault, faultLine, line, words, labels, targets, wrong, unfit, code_, label, labelWord, target, targetWord, targetLine, store => (if l3 = 0 then (if fault = 0 then (f_X11_assemble_c152 refusal at_ line words labels targets wrong unfit label labelWord target targetWord targetLine store l1 l2 (f_X11_link l2 fault faultLine labels targets code_ label labelWord target targetWord targetLine).1 (f_X11_link l2 fault faultLine labels targets code_ label labelWord target targetWord targetLine).2.1 (f_X11_link l2 fault faultLine labels targets code_ label labelWord target targetWord targetLine).2.2) else (f_X11_assemble_155 refusal at_ fault faultLine line words labels targets wrong unfit code_ label labelWord target targetWord targetLine store l1 l2)) else (f_X11_assemble_c74 refusal length line store l1 l2 (f_X11_assemble_68 length text n) (f_X11_takeLine l2 length at_ line words labels targets text code_ label labelWord target targetWord targetLine).1 (f_X11_takeLine l2 length at_ line words labels targets text code_ label labelWord target targetWord targetLine).2.1 (f_X11_takeLine l2 length at_ line words labels targets text code_ label labelWord target targetWord targetLine).2.2.1 (f_X11_takeLine l2 length at_ line words labels targets text code_ label labelWord target targetWord targetLine).2.2.2.1 (f_X11_takeLine l2 length at_ line words labels targets text code_ label labelWord target targetWord targetLine).2.2.2.2.1 (f_X11_takeLine l2 length at_ line words labels targets text code_ label labelWord target targetWord targetLine).2.2.2.2.2.1 (f_X11_takeLine l2 length at_ line words labels targets text code_ label labelWord target targetWord targetLine).2.2.2.2.2.2.1 (f_X11_takeLine l2 length at_ line words labels targets text code_ label labelWord target targetWord targetLine).2.2.2.2.2.2.2.1 (f_X11_takeLine l2 length at_ line words labels targets text code_ label labelWord target targetWord targetLine).2.2.2.2.2.2.2.2.1 (f_X11_takeLine l2 length at_ line words labels targets text code_ label labelWord target targetWord targetLine).2.2.2.2.2.2.2.2.2.1 (f_X11_takeLine l2 length at_ line words labels targets text code_ label labelWord target targetWord targetLine).2.2.2.2.2.2.2.2.2.2.1 (f_X11_takeLine l2 length at_ line words labels targets text code_ label labelWord target targetWord targetLine).2.2.2.2.2.2.2.2.2.2.2.1 (f_X11_takeLine l2 length at_ line words labels targets text code_ label labelWord target targetWord targetLine).2.2.2.2.2.2.2.2.2.2.2.2))
set_option maxRecDepth 20000 in
theorem j_X11_assemble_68 : ∀ (n : Nat) {l1 : Int32} {l2 : Int32} {l3 : Int32} {refusal : Int32} {wheel : Int32} {now : Int32} {length : Int32} {at_ : Int32} {fault : Int32} {faultLine : Int32} {line : Int32} {words : Int32} {labels : Int32} {targets : Int32} {wrong : Int32} {unfit : Int32} {text : Nat → Int32} {code_ : Nat → Int32} {label : Nat → Int64} {labelWord : Nat → Int32} {target : Nat → Int64} {targetWord : Nat → Int32} {targetLine : Nat → Int32} {store : Nat → Int32} {common : Nat → Int32} {low : Nat → Int32} {high : Nat → Int32} {register : Nat → Int32} {address : Nat → Int32} {status : Nat → Int32} {did : Nat → Int32} {ready : Nat → Int32} {timer : Nat → Int32} {trace : Nat → Int32} {r_0 : Int32} {r_1 : Int32} {r_2 : Int32} {r_3 : Int32} {r_4 : Int32} {r_5 : Int32} {r_6 : Int32} {r_7 : Int32} {r_8 : Int32} {r_9 : Int32} {r_10 : Int32} {r_11 : (Nat → Int32)} {r_12 : (Nat → Int64)} {r_13 : (Nat → Int32)} {r_14 : (Nat → Int64)} {r_15 : (Nat → Int32)} {r_16 : (Nat → Int32)} {r_17 : (Nat → Int32)}, (hln : 0 ≤ length.toInt ∧ length.toInt ≤ 400) → (ht : 0 ≤ l1.toInt ∧ l1.toInt < 4) → (hf : 0 ≤ l2.toInt ∧ l2.toInt < 128) → (hlb : 0 ≤ labels.toInt ∧ labels.toInt ≤ 16) → (htg : 0 ≤ targets.toInt ∧ targets.toInt ≤ 128) → (hwd : 0 ≤ words.toInt ∧ words.toInt ≤ 129) → (htw : ∀ j, j < targets.toInt.toNat → 0 ≤ (targetWord j).toInt ∧ (targetWord j).toInt < words.toInt) → (hwf : fault = 0 → l2.toInt + words.toInt ≤ 128) → (hfp : fault = 0 ∨ 0 < fault.toInt) → (ham : ¬ l3 = 0 → (0 ≤ at_.toInt ∧ at_.toInt ≤ 400) ∧ fault = 0) → (if l3 = 0 then 0 else 402 - at_.toInt.toNat) < n → (r_0, r_1, r_2, r_3, r_4, r_5, r_6, r_7, r_8, r_9, r_10, r_11, r_12, r_13, r_14, r_15, r_16, r_17) = f_X11_assemble_68 length text n l1 l2 l3 refusal at_ fault faultLine line words labels targets wrong unfit code_ label labelWord target targetWord targetLine store → G M_X11_assemble 0 0 68 [(0, .ref 0), (1, .int l1), (2, .int l2), (3, .int l3)] [] (w_M refusal wheel now length at_ fault faultLine line words labels targets wrong unfit text code_ label labelWord target targetWord targetLine store common low high register address status did ready timer trace) (some (.int r_0)) (w_M r_1 wheel now length r_2 r_3 r_4 r_5 r_6 r_7 r_8 r_9 r_10 text r_11 r_12 r_13 r_14 r_15 r_16 r_17 common low high register address status did ready timer trace) := by
  intro n
  induction n with
  | zero =>
    intro l1 l2 l3 refusal wheel now length at_ fault faultLine line words labels targets wrong unfit text code_ label labelWord target targetWord targetLine store common low high register address status did ready timer trace r_0 r_1 r_2 r_3 r_4 r_5 r_6 r_7 r_8 r_9 r_10 r_11 r_12 r_13 r_14 r_15 r_16 r_17 hln ht hf hlb htg hwd htw hwf hfp ham hm hres
    exact absurd hm (Nat.not_lt_zero _)
  | succ n ih =>
    intro l1 l2 l3 refusal wheel now length at_ fault faultLine line words labels targets wrong unfit text code_ label labelWord target targetWord targetLine store common low high register address status did ready timer trace r_0 r_1 r_2 r_3 r_4 r_5 r_6 r_7 r_8 r_9 r_10 r_11 r_12 r_13 r_14 r_15 r_16 r_17 hln ht hf hlb htg hwd htw hwf hfp ham hm hres
    obtain ⟨mu, hmu⟩ : ∃ z, (if l3 = 0 then 0 else 402 - at_.toInt.toNat) = z := ⟨_, rfl⟩
    rw [hmu] at hm
    have hk68 : ∀ {l1 : Int32} {l2 : Int32} {l3 : Int32} {refusal : Int32} {at_ : Int32} {fault : Int32} {faultLine : Int32} {line : Int32} {words : Int32} {labels : Int32} {targets : Int32} {wrong : Int32} {unfit : Int32} {code_ : Nat → Int32} {label : Nat → Int64} {labelWord : Nat → Int32} {target : Nat → Int64} {targetWord : Nat → Int32} {targetLine : Nat → Int32} {store : Nat → Int32}, (0 ≤ length.toInt ∧ length.toInt ≤ 400) → (0 ≤ l1.toInt ∧ l1.toInt < 4) → (0 ≤ l2.toInt ∧ l2.toInt < 128) → (0 ≤ labels.toInt ∧ labels.toInt ≤ 16) → (0 ≤ targets.toInt ∧ targets.toInt ≤ 128) → (0 ≤ words.toInt ∧ words.toInt ≤ 129) → (∀ j, j < targets.toInt.toNat → 0 ≤ (targetWord j).toInt ∧ (targetWord j).toInt < words.toInt) → (fault = 0 → l2.toInt + words.toInt ≤ 128) → (fault = 0 ∨ 0 < fault.toInt) → (¬ l3 = 0 → (0 ≤ at_.toInt ∧ at_.toInt ≤ 400) ∧ fault = 0) → (if l3 = 0 then 0 else 402 - at_.toInt.toNat) < mu → (r_0, r_1, r_2, r_3, r_4, r_5, r_6, r_7, r_8, r_9, r_10, r_11, r_12, r_13, r_14, r_15, r_16, r_17) = (f_X11_assemble_68 length text n) l1 l2 l3 refusal at_ fault faultLine line words labels targets wrong unfit code_ label labelWord target targetWord targetLine store → G M_X11_assemble 0 0 68 [(0, .ref 0), (1, .int l1), (2, .int l2), (3, .int l3)] [] (w_M refusal wheel now length at_ fault faultLine line words labels targets wrong unfit text code_ label labelWord target targetWord targetLine store common low high register address status did ready timer trace) (some (.int r_0)) (w_M r_1 wheel now length r_2 r_3 r_4 r_5 r_6 r_7 r_8 r_9 r_10 text r_11 r_12 r_13 r_14 r_15 r_16 r_17 common low high register address status did ready timer trace) := fun hln ht hf hlb htg hwd htw hwf hfp ham hlt he => ih hln ht hf hlb htg hwd htw hwf hfp ham (Nat.lt_of_lt_of_le hlt (Nat.le_of_lt_succ hm)) he
    rw [f_X11_assemble_68] at hres
    refine G.iload_n (pc := 68) dm_X11_assemble_68 rfl ?_
    refine G.if_eq (pc := 69) (tgt := 143) dm_X11_assemble_69 (by decide) (fun c69 => ?_) (fun c69 => ?_)
    · rw [if_pos c69] at hres
      refine G.aload_n (pc := 143) dm_X11_assemble_143 rfl ?_
      refine G.getfield (pc := 144) dm_X11_assemble_144 gf_X11_273 rfl rfl ?_
      refine G.if_ne (pc := 147) (tgt := 155) dm_X11_assemble_147 (by decide) (fun c147 => ?_) (fun c147 => ?_)
      · rw [if_neg c147] at hres
        refine G.lvp [0, 1, 2] rfl ?_
        exact j_X11_assemble_155 hres ht hf (fun h => hfp.elim (fun e => absurd e c147) (fun e => absurd (q_le h) (by have h8 : (0 : Int32).toInt = 0 := (by decide); omega)))
      · rw [if_pos c147] at hres
        refine G.aload_n (pc := 150) dm_X11_assemble_150 rfl ?_
        refine G.iload_n (pc := 151) dm_X11_assemble_151 rfl ?_
        obtain ⟨z3_0, z3_1, z3_2, hz3⟩ := g_ex3 (f_X11_link l2 fault faultLine labels targets code_ label labelWord target targetWord targetLine)
        refine G.callV0 (pc := 152) (rest := []) (st1 := []) dm_X11_assemble_152 gc_X11_assemble_285 (k_X11_link (first := l2) (refusal := refusal) (wheel := wheel) (now := now) (length := length) (at_ := at_) (fault := fault) (faultLine := faultLine) (line := line) (words := words) (labels := labels) (targets := targets) (wrong := wrong) (unfit := unfit) (text := text) (code_ := code_) (label := label) (labelWord := labelWord) (target := target) (targetWord := targetWord) (targetLine := targetLine) (store := store) (common := common) (low := low) (high := high) (register := register) (address := address) (status := status) (did := did) (ready := ready) (timer := timer) (trace := trace) htg hlb (fun j hj => ⟨(htw j hj).1, by have := (htw j hj).2; have := hwf c147; omega⟩) hz3) rfl rfl rfl rfl rfl rfl rfl rfl ?_
        replace hres : (r_0, r_1, r_2, r_3, r_4, r_5, r_6, r_7, r_8, r_9, r_10, r_11, r_12, r_13, r_14, r_15, r_16, r_17) = f_X11_assemble_c152 refusal at_ line words labels targets wrong unfit label labelWord target targetWord targetLine store l1 l2 z3_0 z3_1 z3_2 := hres.trans (by rw [← hz3])
        rw [f_X11_assemble_c152] at hres
        refine G.lvp [0, 1, 2] rfl ?_
        exact j_X11_assemble_155 hres ht hf (fun _ => hwf c147)
    · rw [if_neg c69] at hres
      have hm9 := ham c69
      have hwf9 := hwf hm9.2
      rw [if_neg c69] at hmu
      refine G.aload_n (pc := 72) dm_X11_assemble_72 rfl ?_
      refine G.iload_n (pc := 73) dm_X11_assemble_73 rfl ?_
      obtain ⟨z4_0, z4_1, z4_2, z4_3, z4_4, z4_5, z4_6, z4_7, z4_8, z4_9, z4_10, z4_11, z4_12, hz4⟩ := g_ex13 (f_X11_takeLine l2 length at_ line words labels targets text code_ label labelWord target targetWord targetLine)
      refine G.callV0 (pc := 74) (rest := []) (st1 := []) dm_X11_assemble_74 gc_X11_assemble_282 (k_X11_takeLine (first := l2) (refusal := refusal) (wheel := wheel) (now := now) (length := length) (at_ := at_) (fault := fault) (faultLine := faultLine) (line := line) (words := words) (labels := labels) (targets := targets) (wrong := wrong) (unfit := unfit) (text := text) (code_ := code_) (label := label) (labelWord := labelWord) (target := target) (targetWord := targetWord) (targetLine := targetLine) (store := store) (common := common) (low := low) (high := high) (register := register) (address := address) (status := status) (did := did) (ready := ready) (timer := timer) (trace := trace) hln hm9.1 ⟨hwd.1, by omega⟩ hlb htg hf hz4) rfl rfl rfl rfl rfl rfl rfl rfl ?_
      have hh := a_X11_takeLine hz4 hln ⟨hm9.1, Int.le_refl _⟩ ⟨hwd.1, by omega⟩ hlb htg htw hf rfl hwf9
      have hat := hh.1.1
      have hmo := hh.1.2
      have hwd := hh.2.1
      have hlb := hh.2.2.1
      have htg := hh.2.2.2.1
      have htw := hh.2.2.2.2.1
      have hwf := hh.2.2.2.2.2.1
      have hfp := hh.2.2.2.2.2.2
      replace hres : (r_0, r_1, r_2, r_3, r_4, r_5, r_6, r_7, r_8, r_9, r_10, r_11, r_12, r_13, r_14, r_15, r_16, r_17) = f_X11_assemble_c74 refusal length line store l1 l2 (f_X11_assemble_68 length text n) z4_0 z4_1 z4_2 z4_3 z4_4 z4_5 z4_6 z4_7 z4_8 z4_9 z4_10 z4_11 z4_12 := hres.trans (by rw [← hz4])
      rw [f_X11_assemble_c74] at hres
      refine G.aload_n (pc := 77) dm_X11_assemble_77 rfl ?_
      refine G.aload_n (pc := 78) dm_X11_assemble_78 rfl ?_
      refine G.getfield (pc := 79) dm_X11_assemble_79 gf_X11_273 rfl rfl ?_
      refine G.if_le (pc := 82) (tgt := 92) dm_X11_assemble_82 (by decide) (fun c82 => ?_) (fun c82 => ?_)
      · rw [if_pos c82] at hres
        refine G.iconst (pc := 92) (v := (0 : Int32)) dm_X11_assemble_92 qi_0 ?_
        refine G.lvp [0, 1, 2] rfl ?_
        exact j_X11_assemble_93 hres (by first | assumption) (by first | assumption) (by first | assumption) (by first | assumption) (by first | assumption) (by first | assumption) (by first | assumption) (by first | assumption) (by first | assumption) (by first | assumption) ⟨by omega, by omega⟩ hk68
      · rw [if_neg c82] at hres
        refine G.aload_n (pc := 85) dm_X11_assemble_85 rfl ?_
        refine G.getfield (pc := 86) dm_X11_assemble_86 gf_X11_205 rfl rfl ?_
        refine G.goto (pc := 89) (tgt := 93) dm_X11_assemble_89 (by decide) ?_
        refine G.lvp [0, 1, 2] rfl ?_
        exact j_X11_assemble_93 hres (by first | assumption) (by first | assumption) (by first | assumption) (by first | assumption) (by first | assumption) (by first | assumption) (by first | assumption) (by first | assumption) (by first | assumption) (by first | assumption) ⟨by omega, by omega⟩ hk68
def f_X11_assemble (t : Int32) (first : Int32) (length : Int32) (at_ : Int32) (fault : Int32) (faultLine : Int32) (line : Int32) (words : Int32) (labels : Int32) (targets : Int32) (wrong : Int32) (unfit : Int32) (text : Nat → Int32) (code_ : Nat → Int32) (label : Nat → Int64) (labelWord : Nat → Int32) (target : Nat → Int64) (targetWord : Nat → Int32) (targetLine : Nat → Int32) (store : Nat → Int32) : Int32 × Int32 × Int32 × Int32 × Int32 × Int32 × Int32 × Int32 × Int32 × Int32 × Int32 × (Nat → Int32) × (Nat → Int64) × (Nat → Int32) × (Nat → Int64) × (Nat → Int32) × (Nat → Int32) × (Nat → Int32) := (if t < 0 then (f_X11_assemble_25 at_ fault faultLine line words labels targets wrong unfit code_ label labelWord target targetWord targetLine store) else (if (3 : Int32) < t then (f_X11_assemble_25 at_ fault faultLine line words labels targets wrong unfit code_ label labelWord target targetWord targetLine store) else (if first < 0 then (f_X11_assemble_25 at_ fault faultLine line words labels targets wrong unfit code_ label labelWord target targetWord targetLine store) else (if first < (128 : Int32) then (f_X11_assemble_68 length text (403) t first (1 : Int32) (0 : Int32) (0 : Int32) (0 : Int32) (0 : Int32) (0 : Int32) (0 : Int32) (0 : Int32) (0 : Int32) wrong unfit code_ label labelWord target targetWord targetLine store) else (f_X11_assemble_25 at_ fault faultLine line words labels targets wrong unfit code_ label labelWord target targetWord targetLine store)))))
set_option maxRecDepth 20000 in
theorem k_X11_assemble {t : Int32} {first : Int32} {refusal : Int32} {wheel : Int32} {now : Int32} {length : Int32} {at_ : Int32} {fault : Int32} {faultLine : Int32} {line : Int32} {words : Int32} {labels : Int32} {targets : Int32} {wrong : Int32} {unfit : Int32} {text : Nat → Int32} {code_ : Nat → Int32} {label : Nat → Int64} {labelWord : Nat → Int32} {target : Nat → Int64} {targetWord : Nat → Int32} {targetLine : Nat → Int32} {store : Nat → Int32} {common : Nat → Int32} {low : Nat → Int32} {high : Nat → Int32} {register : Nat → Int32} {address : Nat → Int32} {status : Nat → Int32} {did : Nat → Int32} {ready : Nat → Int32} {timer : Nat → Int32} {trace : Nat → Int32} (hln : 0 ≤ length.toInt ∧ length.toInt ≤ 400) {r_0 : Int32} {r_1 : Int32} {r_2 : Int32} {r_3 : Int32} {r_4 : Int32} {r_5 : Int32} {r_6 : Int32} {r_7 : Int32} {r_8 : Int32} {r_9 : Int32} {r_10 : Int32} {r_11 : (Nat → Int32)} {r_12 : (Nat → Int64)} {r_13 : (Nat → Int32)} {r_14 : (Nat → Int64)} {r_15 : (Nat → Int32)} {r_16 : (Nat → Int32)} {r_17 : (Nat → Int32)} (hres : (r_0, r_1, r_2, r_3, r_4, r_5, r_6, r_7, r_8, r_9, r_10, r_11, r_12, r_13, r_14, r_15, r_16, r_17) = f_X11_assemble t first length at_ fault faultLine line words labels targets wrong unfit text code_ label labelWord target targetWord targetLine store) : K M_X11_assemble yX11_assemble [.ref 0, .int t, .int first] (w_M refusal wheel now length at_ fault faultLine line words labels targets wrong unfit text code_ label labelWord target targetWord targetLine store common low high register address status did ready timer trace) (some (.int r_0)) (w_M r_1 wheel now length r_2 r_3 r_4 r_5 r_6 r_7 r_8 r_9 r_10 text r_11 r_12 r_13 r_14 r_15 r_16 r_17 common low high register address status did ready timer trace) := by
  refine K.of (lv := [(0, .ref 0), (1, .int t), (2, .int first)]) (by decide +kernel) rfl rfl rfl ?_
  rw [f_X11_assemble] at hres
  refine G.aload_n (pc := 0) dm_X11_assemble_0 rfl ?_
  refine G.iconst (pc := 1) (v := (0 : Int32)) dm_X11_assemble_1 qi_0 ?_
  refine G.putfield (pc := 2) (ws1 := (w_M (0 : Int32) wheel now length at_ fault faultLine line words labels targets wrong unfit text code_ label labelWord target targetWord targetLine store common low high register address status did ready timer trace)) dm_X11_assemble_2 gw_X11_70 rfl (g_fit_i _) rfl rfl ?_
  refine G.iload_n (pc := 5) dm_X11_assemble_5 rfl ?_
  refine G.if_lt (pc := 6) (tgt := 25) dm_X11_assemble_6 (by decide) (fun c6 => ?_) (fun c6 => ?_)
  · rw [if_pos c6] at hres
    refine G.lvp [0] rfl ?_
    exact j_X11_assemble_25 hres 
  · rw [if_neg c6] at hres
    refine G.iload_n (pc := 9) dm_X11_assemble_9 rfl ?_
    refine G.iconst (pc := 10) (v := (3 : Int32)) dm_X11_assemble_10 qi_3 ?_
    refine G.icmp_gt (pc := 11) (tgt := 25) dm_X11_assemble_11 (by decide) (fun c11 => ?_) (fun c11 => ?_)
    · rw [if_pos c11] at hres
      refine G.lvp [0] rfl ?_
      exact j_X11_assemble_25 hres 
    · rw [if_neg c11] at hres
      refine G.iload_n (pc := 14) dm_X11_assemble_14 rfl ?_
      refine G.if_lt (pc := 15) (tgt := 25) dm_X11_assemble_15 (by decide) (fun c15 => ?_) (fun c15 => ?_)
      · rw [if_pos c15] at hres
        refine G.lvp [0] rfl ?_
        exact j_X11_assemble_25 hres 
      · rw [if_neg c15] at hres
        refine G.iload_n (pc := 18) dm_X11_assemble_18 rfl ?_
        refine G.sipush (pc := 19) (v := (128 : Int32)) dm_X11_assemble_19 qs_128 ?_
        refine G.icmp_lt (pc := 22) (tgt := 31) dm_X11_assemble_22 (by decide) (fun c22 => ?_) (fun c22 => ?_)
        · rw [if_pos c22] at hres
          refine G.aload_n (pc := 31) dm_X11_assemble_31 rfl ?_
          refine G.iconst (pc := 32) (v := (0 : Int32)) dm_X11_assemble_32 qi_0 ?_
          refine G.putfield (pc := 33) (ws1 := (w_M (0 : Int32) wheel now length (0 : Int32) fault faultLine line words labels targets wrong unfit text code_ label labelWord target targetWord targetLine store common low high register address status did ready timer trace)) dm_X11_assemble_33 gw_X11_88 rfl (g_fit_i _) rfl rfl ?_
          refine G.aload_n (pc := 36) dm_X11_assemble_36 rfl ?_
          refine G.iconst (pc := 37) (v := (0 : Int32)) dm_X11_assemble_37 qi_0 ?_
          refine G.putfield (pc := 38) (ws1 := (w_M (0 : Int32) wheel now length (0 : Int32) fault faultLine (0 : Int32) words labels targets wrong unfit text code_ label labelWord target targetWord targetLine store common low high register address status did ready timer trace)) dm_X11_assemble_38 gw_X11_205 rfl (g_fit_i _) rfl rfl ?_
          refine G.aload_n (pc := 41) dm_X11_assemble_41 rfl ?_
          refine G.iconst (pc := 42) (v := (0 : Int32)) dm_X11_assemble_42 qi_0 ?_
          refine G.putfield (pc := 43) (ws1 := (w_M (0 : Int32) wheel now length (0 : Int32) fault faultLine (0 : Int32) (0 : Int32) labels targets wrong unfit text code_ label labelWord target targetWord targetLine store common low high register address status did ready timer trace)) dm_X11_assemble_43 gw_X11_202 rfl (g_fit_i _) rfl rfl ?_
          refine G.aload_n (pc := 46) dm_X11_assemble_46 rfl ?_
          refine G.iconst (pc := 47) (v := (0 : Int32)) dm_X11_assemble_47 qi_0 ?_
          refine G.putfield (pc := 48) (ws1 := (w_M (0 : Int32) wheel now length (0 : Int32) fault faultLine (0 : Int32) (0 : Int32) (0 : Int32) targets wrong unfit text code_ label labelWord target targetWord targetLine store common low high register address status did ready timer trace)) dm_X11_assemble_48 gw_X11_256 rfl (g_fit_i _) rfl rfl ?_
          refine G.aload_n (pc := 51) dm_X11_assemble_51 rfl ?_
          refine G.iconst (pc := 52) (v := (0 : Int32)) dm_X11_assemble_52 qi_0 ?_
          refine G.putfield (pc := 53) (ws1 := (w_M (0 : Int32) wheel now length (0 : Int32) fault faultLine (0 : Int32) (0 : Int32) (0 : Int32) (0 : Int32) wrong unfit text code_ label labelWord target targetWord targetLine store common low high register address status did ready timer trace)) dm_X11_assemble_53 gw_X11_199 rfl (g_fit_i _) rfl rfl ?_
          refine G.aload_n (pc := 56) dm_X11_assemble_56 rfl ?_
          refine G.iconst (pc := 57) (v := (0 : Int32)) dm_X11_assemble_57 qi_0 ?_
          refine G.putfield (pc := 58) (ws1 := (w_M (0 : Int32) wheel now length (0 : Int32) (0 : Int32) faultLine (0 : Int32) (0 : Int32) (0 : Int32) (0 : Int32) wrong unfit text code_ label labelWord target targetWord targetLine store common low high register address status did ready timer trace)) dm_X11_assemble_58 gw_X11_273 rfl (g_fit_i _) rfl rfl ?_
          refine G.aload_n (pc := 61) dm_X11_assemble_61 rfl ?_
          refine G.iconst (pc := 62) (v := (0 : Int32)) dm_X11_assemble_62 qi_0 ?_
          refine G.putfield (pc := 63) (ws1 := (w_M (0 : Int32) wheel now length (0 : Int32) (0 : Int32) (0 : Int32) (0 : Int32) (0 : Int32) (0 : Int32) (0 : Int32) wrong unfit text code_ label labelWord target targetWord targetLine store common low high register address status did ready timer trace)) dm_X11_assemble_63 gw_X11_276 rfl (g_fit_i _) rfl rfl ?_
          refine G.iconst (pc := 66) (v := (1 : Int32)) dm_X11_assemble_66 qi_1 ?_
          refine G.istore_n (pc := 67) (lv1 := [(3, .int (1 : Int32)), (0, .ref 0), (1, .int t), (2, .int first)]) dm_X11_assemble_67 rfl rfl ?_
          refine G.lvp [1, 2, 3, 0] rfl ?_
          exact j_X11_assemble_68 _ hln (q_g1 c6 c11 (by decide)) (q_g3 c15 c22 (by decide)) (by decide) (by decide) (by decide) (fun j hj => absurd hj (by rw [show (0 : Int32).toInt = 0 by decide]; exact Nat.not_lt_zero _)) (q_wf0 (q_g3 c15 c22 (by decide))) (Or.inl rfl) (fun _ => ⟨by decide, rfl⟩) (q_asmst) hres
        · rw [if_neg c22] at hres
          refine G.lvp [0] rfl ?_
          exact j_X11_assemble_25 hres 
abbrev M_X11_type : g_M := (cX11_type, 6, RX11, (some .int), { frames := 1, cells := 0, slots := 0, locals := 21 }, 0, 0)
theorem dm_X11_type_0 : decode M_X11_type.1 0 = .ok (.iload_n 3, 1) := by decide +kernel
theorem dm_X11_type_1 : decode M_X11_type.1 1 = .ok (.iconst 1, 1) := by decide +kernel
theorem dm_X11_type_2 : decode M_X11_type.1 2 = .ok (.if_icmp .lt 13, 3) := by decide +kernel
theorem dm_X11_type_5 : decode M_X11_type.1 5 = .ok (.iload_n 3, 1) := by decide +kernel
theorem dm_X11_type_6 : decode M_X11_type.1 6 = .ok (.bipush 8, 2) := by decide +kernel
theorem dm_X11_type_8 : decode M_X11_type.1 8 = .ok (.if_icmp .gt 7, 3) := by decide +kernel
theorem dm_X11_type_11 : decode M_X11_type.1 11 = .ok (.iconst 1, 1) := by decide +kernel
theorem dm_X11_type_12 : decode M_X11_type.1 12 = .ok (.goto 4, 3) := by decide +kernel
theorem dm_X11_type_15 : decode M_X11_type.1 15 = .ok (.iconst 0, 1) := by decide +kernel
theorem dm_X11_type_16 : decode M_X11_type.1 16 = .ok (.istore 4, 2) := by decide +kernel
theorem dm_X11_type_18 : decode M_X11_type.1 18 = .ok (.iconst 0, 1) := by decide +kernel
theorem dm_X11_type_19 : decode M_X11_type.1 19 = .ok (.istore 5, 2) := by decide +kernel
theorem dm_X11_type_21 : decode M_X11_type.1 21 = .ok (.iload 5, 2) := by decide +kernel
theorem dm_X11_type_23 : decode M_X11_type.1 23 = .ok (.iload_n 3, 1) := by decide +kernel
theorem dm_X11_type_24 : decode M_X11_type.1 24 = .ok (.if_icmp .ge 30, 3) := by decide +kernel
theorem dm_X11_type_27 : decode M_X11_type.1 27 = .ok (.iload 4, 2) := by decide +kernel
theorem dm_X11_type_29 : decode M_X11_type.1 29 = .ok (.ifCond .eq 25, 3) := by decide +kernel
theorem dm_X11_type_32 : decode M_X11_type.1 32 = .ok (.lload_n 1, 1) := by decide +kernel
theorem dm_X11_type_33 : decode M_X11_type.1 33 = .ok (.bipush 8, 2) := by decide +kernel
theorem dm_X11_type_35 : decode M_X11_type.1 35 = .ok (.iload 5, 2) := by decide +kernel
theorem dm_X11_type_37 : decode M_X11_type.1 37 = .ok (.imul, 1) := by decide +kernel
theorem dm_X11_type_38 : decode M_X11_type.1 38 = .ok (.lshr, 1) := by decide +kernel
theorem dm_X11_type_39 : decode M_X11_type.1 39 = .ok (.ldc2_w 79, 3) := by decide +kernel
theorem dm_X11_type_42 : decode M_X11_type.1 42 = .ok (.land, 1) := by decide +kernel
theorem dm_X11_type_43 : decode M_X11_type.1 43 = .ok (.invokestatic 81, 3) := by decide +kernel
theorem dm_X11_type_46 : decode M_X11_type.1 46 = .ok (.istore 4, 2) := by decide +kernel
theorem dm_X11_type_48 : decode M_X11_type.1 48 = .ok (.iinc 5 1, 3) := by decide +kernel
theorem dm_X11_type_51 : decode M_X11_type.1 51 = .ok (.goto (-30), 3) := by decide +kernel
theorem dm_X11_type_54 : decode M_X11_type.1 54 = .ok (.aload_n 0, 1) := by decide +kernel
theorem dm_X11_type_55 : decode M_X11_type.1 55 = .ok (.iload 4, 2) := by decide +kernel
theorem dm_X11_type_57 : decode M_X11_type.1 57 = .ok (.ifCond .ne 7, 3) := by decide +kernel
theorem dm_X11_type_60 : decode M_X11_type.1 60 = .ok (.iconst 1, 1) := by decide +kernel
theorem dm_X11_type_61 : decode M_X11_type.1 61 = .ok (.goto 20, 3) := by decide +kernel
theorem dm_X11_type_64 : decode M_X11_type.1 64 = .ok (.aload_n 0, 1) := by decide +kernel
theorem dm_X11_type_65 : decode M_X11_type.1 65 = .ok (.getfield 85, 3) := by decide +kernel
theorem dm_X11_type_68 : decode M_X11_type.1 68 = .ok (.iload_n 3, 1) := by decide +kernel
theorem dm_X11_type_69 : decode M_X11_type.1 69 = .ok (.iadd, 1) := by decide +kernel
theorem dm_X11_type_70 : decode M_X11_type.1 70 = .ok (.sipush 400, 3) := by decide +kernel
theorem dm_X11_type_73 : decode M_X11_type.1 73 = .ok (.if_icmp .le 7, 3) := by decide +kernel
theorem dm_X11_type_76 : decode M_X11_type.1 76 = .ok (.iconst 2, 1) := by decide +kernel
theorem dm_X11_type_77 : decode M_X11_type.1 77 = .ok (.goto 4, 3) := by decide +kernel
theorem dm_X11_type_80 : decode M_X11_type.1 80 = .ok (.iconst 0, 1) := by decide +kernel
theorem dm_X11_type_81 : decode M_X11_type.1 81 = .ok (.putfield 70, 3) := by decide +kernel
theorem dm_X11_type_84 : decode M_X11_type.1 84 = .ok (.iconst 0, 1) := by decide +kernel
theorem dm_X11_type_85 : decode M_X11_type.1 85 = .ok (.istore 5, 2) := by decide +kernel
theorem dm_X11_type_87 : decode M_X11_type.1 87 = .ok (.iload 5, 2) := by decide +kernel
theorem dm_X11_type_89 : decode M_X11_type.1 89 = .ok (.iload_n 3, 1) := by decide +kernel
theorem dm_X11_type_90 : decode M_X11_type.1 90 = .ok (.if_icmp .ge 41, 3) := by decide +kernel
theorem dm_X11_type_93 : decode M_X11_type.1 93 = .ok (.aload_n 0, 1) := by decide +kernel
theorem dm_X11_type_94 : decode M_X11_type.1 94 = .ok (.getfield 70, 3) := by decide +kernel
theorem dm_X11_type_97 : decode M_X11_type.1 97 = .ok (.ifCond .ne 34, 3) := by decide +kernel
theorem dm_X11_type_100 : decode M_X11_type.1 100 = .ok (.aload_n 0, 1) := by decide +kernel
theorem dm_X11_type_101 : decode M_X11_type.1 101 = .ok (.getfield 7, 3) := by decide +kernel
theorem dm_X11_type_104 : decode M_X11_type.1 104 = .ok (.aload_n 0, 1) := by decide +kernel
theorem dm_X11_type_105 : decode M_X11_type.1 105 = .ok (.getfield 85, 3) := by decide +kernel
theorem dm_X11_type_108 : decode M_X11_type.1 108 = .ok (.iload 5, 2) := by decide +kernel
theorem dm_X11_type_110 : decode M_X11_type.1 110 = .ok (.iadd, 1) := by decide +kernel
theorem dm_X11_type_111 : decode M_X11_type.1 111 = .ok (.lload_n 1, 1) := by decide +kernel
theorem dm_X11_type_112 : decode M_X11_type.1 112 = .ok (.bipush 8, 2) := by decide +kernel
theorem dm_X11_type_114 : decode M_X11_type.1 114 = .ok (.iload 5, 2) := by decide +kernel
theorem dm_X11_type_116 : decode M_X11_type.1 116 = .ok (.imul, 1) := by decide +kernel
theorem dm_X11_type_117 : decode M_X11_type.1 117 = .ok (.lshr, 1) := by decide +kernel
theorem dm_X11_type_118 : decode M_X11_type.1 118 = .ok (.ldc2_w 79, 3) := by decide +kernel
theorem dm_X11_type_121 : decode M_X11_type.1 121 = .ok (.land, 1) := by decide +kernel
theorem dm_X11_type_122 : decode M_X11_type.1 122 = .ok (.l2i, 1) := by decide +kernel
theorem dm_X11_type_123 : decode M_X11_type.1 123 = .ok (.i2c, 1) := by decide +kernel
theorem dm_X11_type_124 : decode M_X11_type.1 124 = .ok (.castore, 1) := by decide +kernel
theorem dm_X11_type_125 : decode M_X11_type.1 125 = .ok (.iinc 5 1, 3) := by decide +kernel
theorem dm_X11_type_128 : decode M_X11_type.1 128 = .ok (.goto (-41), 3) := by decide +kernel
theorem dm_X11_type_131 : decode M_X11_type.1 131 = .ok (.aload_n 0, 1) := by decide +kernel
theorem dm_X11_type_132 : decode M_X11_type.1 132 = .ok (.dup, 1) := by decide +kernel
theorem dm_X11_type_133 : decode M_X11_type.1 133 = .ok (.getfield 85, 3) := by decide +kernel
theorem dm_X11_type_136 : decode M_X11_type.1 136 = .ok (.aload_n 0, 1) := by decide +kernel
theorem dm_X11_type_137 : decode M_X11_type.1 137 = .ok (.getfield 70, 3) := by decide +kernel
theorem dm_X11_type_140 : decode M_X11_type.1 140 = .ok (.ifCond .ne 7, 3) := by decide +kernel
theorem dm_X11_type_143 : decode M_X11_type.1 143 = .ok (.iload_n 3, 1) := by decide +kernel
theorem dm_X11_type_144 : decode M_X11_type.1 144 = .ok (.goto 4, 3) := by decide +kernel
theorem dm_X11_type_147 : decode M_X11_type.1 147 = .ok (.iconst 0, 1) := by decide +kernel
theorem dm_X11_type_148 : decode M_X11_type.1 148 = .ok (.iadd, 1) := by decide +kernel
theorem dm_X11_type_149 : decode M_X11_type.1 149 = .ok (.putfield 85, 3) := by decide +kernel
theorem dm_X11_type_152 : decode M_X11_type.1 152 = .ok (.aload_n 0, 1) := by decide +kernel
theorem dm_X11_type_153 : decode M_X11_type.1 153 = .ok (.getfield 70, 3) := by decide +kernel
theorem dm_X11_type_156 : decode M_X11_type.1 156 = .ok (.ifCond .ne 10, 3) := by decide +kernel
theorem dm_X11_type_159 : decode M_X11_type.1 159 = .ok (.aload_n 0, 1) := by decide +kernel
theorem dm_X11_type_160 : decode M_X11_type.1 160 = .ok (.getfield 85, 3) := by decide +kernel
theorem dm_X11_type_163 : decode M_X11_type.1 163 = .ok (.goto 4, 3) := by decide +kernel
theorem dm_X11_type_166 : decode M_X11_type.1 166 = .ok (.iconst 0, 1) := by decide +kernel
theorem dm_X11_type_167 : decode M_X11_type.1 167 = .ok (.ireturn, 1) := by decide +kernel
theorem gc_X11_type_81 : g_cs M_X11_type 81 M_X11_isCharacter yX11_isCharacter 1 := ⟨tw155, tw156, tw5, tw157, ⟨rfl, rfl, rfl, rfl⟩, gd_X11_isCharacter, ⟨by decide, by decide⟩⟩
def f_X11_type_148 (refusal : Int32) (text : Nat → Int32) (s1 : Int32) (s2 : Int32) : Int32 × Int32 × Int32 × (Nat → Int32) := (if refusal = 0 then ((s1 + s2), refusal, (s1 + s2), text) else ((0 : Int32), refusal, (s1 + s2), text))
set_option maxRecDepth 20000 in
theorem j_X11_type_148 {s1 : Int32} {s2 : Int32} {refusal : Int32} {wheel : Int32} {now : Int32} {length : Int32} {at_ : Int32} {fault : Int32} {faultLine : Int32} {line : Int32} {words : Int32} {labels : Int32} {targets : Int32} {wrong : Int32} {unfit : Int32} {text : Nat → Int32} {code_ : Nat → Int32} {label : Nat → Int64} {labelWord : Nat → Int32} {target : Nat → Int64} {targetWord : Nat → Int32} {targetLine : Nat → Int32} {store : Nat → Int32} {common : Nat → Int32} {low : Nat → Int32} {high : Nat → Int32} {register : Nat → Int32} {address : Nat → Int32} {status : Nat → Int32} {did : Nat → Int32} {ready : Nat → Int32} {timer : Nat → Int32} {trace : Nat → Int32} {r_0 : Int32} {r_1 : Int32} {r_2 : Int32} {r_3 : (Nat → Int32)} (hres : (r_0, r_1, r_2, r_3) = (f_X11_type_148 refusal text s1 s2)) : G M_X11_type 0 0 148 [(0, .ref 0)] [.int s2, .int s1, .ref 0] (w_M refusal wheel now length at_ fault faultLine line words labels targets wrong unfit text code_ label labelWord target targetWord targetLine store common low high register address status did ready timer trace) (some (.int r_0)) (w_M r_1 wheel now r_2 at_ fault faultLine line words labels targets wrong unfit r_3 code_ label labelWord target targetWord targetLine store common low high register address status did ready timer trace) := by
  rw [f_X11_type_148] at hres
  refine G.iadd (pc := 148) dm_X11_type_148 ?_
  refine G.putfield (pc := 149) (ws1 := (w_M refusal wheel now (s1 + s2) at_ fault faultLine line words labels targets wrong unfit text code_ label labelWord target targetWord targetLine store common low high register address status did ready timer trace)) dm_X11_type_149 gw_X11_85 rfl (g_fit_i _) rfl rfl ?_
  refine G.aload_n (pc := 152) dm_X11_type_152 rfl ?_
  refine G.getfield (pc := 153) dm_X11_type_153 gf_X11_70 rfl rfl ?_
  refine G.if_ne (pc := 156) (tgt := 166) dm_X11_type_156 (by decide) (fun c156 => ?_) (fun c156 => ?_)
  · rw [if_neg c156] at hres
    refine G.iconst (pc := 166) (v := (0 : Int32)) dm_X11_type_166 qi_0 ?_
    cases hres
    exact G.ireturn (pc := 167) dm_X11_type_167 rfl rfl rfl
  · rw [if_pos c156] at hres
    refine G.aload_n (pc := 159) dm_X11_type_159 rfl ?_
    refine G.getfield (pc := 160) dm_X11_type_160 gf_X11_85 rfl rfl ?_
    refine G.goto (pc := 163) (tgt := 167) dm_X11_type_163 (by decide) ?_
    cases hres
    exact G.ireturn (pc := 167) dm_X11_type_167 rfl rfl rfl
def f_X11_type_131 (refusal : Int32) (length : Int32) (text : Nat → Int32) (l3 : Int32) : Int32 × Int32 × Int32 × (Nat → Int32) := (if refusal = 0 then (f_X11_type_148 refusal text length l3) else (f_X11_type_148 refusal text length (0 : Int32)))
set_option maxRecDepth 20000 in
theorem j_X11_type_131 {l3 : Int32} {refusal : Int32} {wheel : Int32} {now : Int32} {length : Int32} {at_ : Int32} {fault : Int32} {faultLine : Int32} {line : Int32} {words : Int32} {labels : Int32} {targets : Int32} {wrong : Int32} {unfit : Int32} {text : Nat → Int32} {code_ : Nat → Int32} {label : Nat → Int64} {labelWord : Nat → Int32} {target : Nat → Int64} {targetWord : Nat → Int32} {targetLine : Nat → Int32} {store : Nat → Int32} {common : Nat → Int32} {low : Nat → Int32} {high : Nat → Int32} {register : Nat → Int32} {address : Nat → Int32} {status : Nat → Int32} {did : Nat → Int32} {ready : Nat → Int32} {timer : Nat → Int32} {trace : Nat → Int32} {r_0 : Int32} {r_1 : Int32} {r_2 : Int32} {r_3 : (Nat → Int32)} (hres : (r_0, r_1, r_2, r_3) = (f_X11_type_131 refusal length text l3)) : G M_X11_type 0 0 131 [(0, .ref 0), (3, .int l3)] [] (w_M refusal wheel now length at_ fault faultLine line words labels targets wrong unfit text code_ label labelWord target targetWord targetLine store common low high register address status did ready timer trace) (some (.int r_0)) (w_M r_1 wheel now r_2 at_ fault faultLine line words labels targets wrong unfit r_3 code_ label labelWord target targetWord targetLine store common low high register address status did ready timer trace) := by
  rw [f_X11_type_131] at hres
  refine G.aload_n (pc := 131) dm_X11_type_131 rfl ?_
  refine G.dup (pc := 132) dm_X11_type_132 rfl ?_
  refine G.getfield (pc := 133) dm_X11_type_133 gf_X11_85 rfl rfl ?_
  refine G.aload_n (pc := 136) dm_X11_type_136 rfl ?_
  refine G.getfield (pc := 137) dm_X11_type_137 gf_X11_70 rfl rfl ?_
  refine G.if_ne (pc := 140) (tgt := 147) dm_X11_type_140 (by decide) (fun c140 => ?_) (fun c140 => ?_)
  · rw [if_neg c140] at hres
    refine G.iconst (pc := 147) (v := (0 : Int32)) dm_X11_type_147 qi_0 ?_
    refine G.lvp [0] rfl ?_
    exact j_X11_type_148 hres 
  · rw [if_pos c140] at hres
    refine G.iload_n (pc := 143) dm_X11_type_143 rfl ?_
    refine G.goto (pc := 144) (tgt := 148) dm_X11_type_144 (by decide) ?_
    refine G.lvp [0] rfl ?_
    exact j_X11_type_148 hres 
def f_X11_type_87 : Nat → Int64 → Int32 → Int32 → Int32 → Int32 → (Nat → Int32) → Int32 × Int32 × Int32 × (Nat → Int32)
  | 0, l1, l3, l5, refusal, length, text => (0, refusal, length, text)
  | n + 1, l1, l3, l5, refusal, length, text => (if l3 ≤ l5 then (f_X11_type_131 refusal length text l3) else (if refusal = 0 then ((f_X11_type_87 n) l1 l3 (l5 + (1 : Int32)) refusal length (upd text (Int32.toNatClampNeg (length + l5)) (vp_nar .char (g_i2c (Int64.toInt32 ((g_lshr l1 ((8 : Int32) * l5)) &&& (255 : Int64))))))) else (f_X11_type_131 refusal length text l3)))
set_option maxRecDepth 20000 in
theorem j_X11_type_87 : ∀ (n : Nat) {l1 : Int64} {l3 : Int32} {l5 : Int32} {refusal : Int32} {wheel : Int32} {now : Int32} {length : Int32} {at_ : Int32} {fault : Int32} {faultLine : Int32} {line : Int32} {words : Int32} {labels : Int32} {targets : Int32} {wrong : Int32} {unfit : Int32} {text : Nat → Int32} {code_ : Nat → Int32} {label : Nat → Int64} {labelWord : Nat → Int32} {target : Nat → Int64} {targetWord : Nat → Int32} {targetLine : Nat → Int32} {store : Nat → Int32} {common : Nat → Int32} {low : Nat → Int32} {high : Nat → Int32} {register : Nat → Int32} {address : Nat → Int32} {status : Nat → Int32} {did : Nat → Int32} {ready : Nat → Int32} {timer : Nat → Int32} {trace : Nat → Int32} {r_0 : Int32} {r_1 : Int32} {r_2 : Int32} {r_3 : (Nat → Int32)}, (hln : 0 ≤ length.toInt ∧ length.toInt ≤ 400) → (hr : refusal = 0 → 1 ≤ l3.toInt ∧ l3.toInt ≤ 8 ∧ length.toInt + l3.toInt ≤ 400) → (h5 : 0 ≤ l5.toInt) → (8 - l5.toInt.toNat) < n → (r_0, r_1, r_2, r_3) = f_X11_type_87 n l1 l3 l5 refusal length text → G M_X11_type 0 0 87 [(0, .ref 0), (1, .long l1), (3, .int l3), (5, .int l5)] [] (w_M refusal wheel now length at_ fault faultLine line words labels targets wrong unfit text code_ label labelWord target targetWord targetLine store common low high register address status did ready timer trace) (some (.int r_0)) (w_M r_1 wheel now r_2 at_ fault faultLine line words labels targets wrong unfit r_3 code_ label labelWord target targetWord targetLine store common low high register address status did ready timer trace) := by
  intro n
  induction n with
  | zero =>
    intro l1 l3 l5 refusal wheel now length at_ fault faultLine line words labels targets wrong unfit text code_ label labelWord target targetWord targetLine store common low high register address status did ready timer trace r_0 r_1 r_2 r_3 hln hr h5 hm hres
    exact absurd hm (Nat.not_lt_zero _)
  | succ n ih =>
    intro l1 l3 l5 refusal wheel now length at_ fault faultLine line words labels targets wrong unfit text code_ label labelWord target targetWord targetLine store common low high register address status did ready timer trace r_0 r_1 r_2 r_3 hln hr h5 hm hres
    obtain ⟨mu, hmu⟩ : ∃ z, (8 - l5.toInt.toNat) = z := ⟨_, rfl⟩
    rw [hmu] at hm
    have hk87 : ∀ {l1 : Int64} {l3 : Int32} {l5 : Int32} {refusal : Int32} {length : Int32} {text : Nat → Int32}, (0 ≤ length.toInt ∧ length.toInt ≤ 400) → (refusal = 0 → 1 ≤ l3.toInt ∧ l3.toInt ≤ 8 ∧ length.toInt + l3.toInt ≤ 400) → (0 ≤ l5.toInt) → (8 - l5.toInt.toNat) < mu → (r_0, r_1, r_2, r_3) = (f_X11_type_87 n) l1 l3 l5 refusal length text → G M_X11_type 0 0 87 [(0, .ref 0), (1, .long l1), (3, .int l3), (5, .int l5)] [] (w_M refusal wheel now length at_ fault faultLine line words labels targets wrong unfit text code_ label labelWord target targetWord targetLine store common low high register address status did ready timer trace) (some (.int r_0)) (w_M r_1 wheel now r_2 at_ fault faultLine line words labels targets wrong unfit r_3 code_ label labelWord target targetWord targetLine store common low high register address status did ready timer trace) := fun hln hr h5 hlt he => ih hln hr h5 (Nat.lt_of_lt_of_le hlt (Nat.le_of_lt_succ hm)) he
    rw [f_X11_type_87] at hres
    refine G.iload (pc := 87) dm_X11_type_87 rfl ?_
    refine G.iload_n (pc := 89) dm_X11_type_89 rfl ?_
    refine G.icmp_ge (pc := 90) (tgt := 131) dm_X11_type_90 (by decide) (fun c90 => ?_) (fun c90 => ?_)
    · rw [if_pos c90] at hres
      refine G.lvp [0, 2] rfl ?_
      exact j_X11_type_131 hres 
    · rw [if_neg c90] at hres
      refine G.aload_n (pc := 93) dm_X11_type_93 rfl ?_
      refine G.getfield (pc := 94) dm_X11_type_94 gf_X11_70 rfl rfl ?_
      refine G.if_ne (pc := 97) (tgt := 131) dm_X11_type_97 (by decide) (fun c97 => ?_) (fun c97 => ?_)
      · rw [if_neg c97] at hres
        refine G.lvp [0, 2] rfl ?_
        exact j_X11_type_131 hres 
      · rw [if_pos c97] at hres
        refine G.aload_n (pc := 100) dm_X11_type_100 rfl ?_
        refine G.getfield (pc := 101) dm_X11_type_101 gf_X11_7 rfl rfl ?_
        refine G.aload_n (pc := 104) dm_X11_type_104 rfl ?_
        refine G.getfield (pc := 105) dm_X11_type_105 gf_X11_85 rfl rfl ?_
        refine G.iload (pc := 108) dm_X11_type_108 rfl ?_
        refine G.iadd (pc := 110) dm_X11_type_110 ?_
        refine G.lload_n (pc := 111) dm_X11_type_111 rfl ?_
        refine G.bipush (pc := 112) (v := (8 : Int32)) dm_X11_type_112 qb_8 ?_
        refine G.iload (pc := 114) dm_X11_type_114 rfl ?_
        refine G.imul (pc := 116) dm_X11_type_116 ?_
        refine G.lshr (pc := 117) dm_X11_type_117 ?_
        refine G.ldc2 (pc := 118) dm_X11_type_118 tw152 ?_
        refine G.land (pc := 121) dm_X11_type_121 ?_
        refine G.l2i (pc := 122) dm_X11_type_122 ?_
        refine G.i2c (pc := 123) dm_X11_type_123 ?_
        refine G.castore (pc := 124) (ws1 := (w_M refusal wheel now length at_ fault faultLine line words labels targets wrong unfit (upd text (Int32.toNatClampNeg (length + l5)) (vp_nar .char (g_i2c (Int64.toInt32 ((g_lshr l1 ((8 : Int32) * l5)) &&& (255 : Int64)))))) code_ label labelWord target targetWord targetLine store common low high register address status did ready timer trace)) dm_X11_type_124 rfl (q_txt hln h5 (q_nle c90) (hr c97)) rfl ?_
        refine G.iinc (pc := 125) (v := (l5 + (1 : Int32))) (lv1 := [(5, .int (l5 + (1 : Int32))), (0, .ref 0), (1, .long l1), (3, .int l3)]) dm_X11_type_125 rfl rfl rfl rfl ?_
        refine G.goto (pc := 128) (tgt := 87) dm_X11_type_128 (by decide) ?_
        refine G.lvp [1, 2, 3, 0] rfl ?_
        exact hk87 hln hr (by have := q_nle c90; have := hr c97; rw [q_inc (by omega)]; omega) (by have := q_nle c90; have := hr c97; rw [q_inc (by omega)]; omega) hres
def f_X11_type_81 (length : Int32) (text : Nat → Int32) (l1 : Int64) (l3 : Int32) (s1 : Int32) : Int32 × Int32 × Int32 × (Nat → Int32) := (f_X11_type_87 (9) l1 l3 (0 : Int32) s1 length text)
set_option maxRecDepth 20000 in
theorem j_X11_type_81 {l1 : Int64} {l3 : Int32} {s1 : Int32} {refusal : Int32} {wheel : Int32} {now : Int32} {length : Int32} {at_ : Int32} {fault : Int32} {faultLine : Int32} {line : Int32} {words : Int32} {labels : Int32} {targets : Int32} {wrong : Int32} {unfit : Int32} {text : Nat → Int32} {code_ : Nat → Int32} {label : Nat → Int64} {labelWord : Nat → Int32} {target : Nat → Int64} {targetWord : Nat → Int32} {targetLine : Nat → Int32} {store : Nat → Int32} {common : Nat → Int32} {low : Nat → Int32} {high : Nat → Int32} {register : Nat → Int32} {address : Nat → Int32} {status : Nat → Int32} {did : Nat → Int32} {ready : Nat → Int32} {timer : Nat → Int32} {trace : Nat → Int32} {r_0 : Int32} {r_1 : Int32} {r_2 : Int32} {r_3 : (Nat → Int32)} (hres : (r_0, r_1, r_2, r_3) = (f_X11_type_81 length text l1 l3 s1)) (hln : 0 ≤ length.toInt ∧ length.toInt ≤ 400) (hr : s1 = 0 → 1 ≤ l3.toInt ∧ l3.toInt ≤ 8 ∧ length.toInt + l3.toInt ≤ 400) : G M_X11_type 0 0 81 [(0, .ref 0), (1, .long l1), (3, .int l3)] [.int s1, .ref 0] (w_M refusal wheel now length at_ fault faultLine line words labels targets wrong unfit text code_ label labelWord target targetWord targetLine store common low high register address status did ready timer trace) (some (.int r_0)) (w_M r_1 wheel now r_2 at_ fault faultLine line words labels targets wrong unfit r_3 code_ label labelWord target targetWord targetLine store common low high register address status did ready timer trace) := by
  rw [f_X11_type_81] at hres
  refine G.putfield (pc := 81) (ws1 := (w_M s1 wheel now length at_ fault faultLine line words labels targets wrong unfit text code_ label labelWord target targetWord targetLine store common low high register address status did ready timer trace)) dm_X11_type_81 gw_X11_70 rfl (g_fit_i _) rfl rfl ?_
  refine G.iconst (pc := 84) (v := (0 : Int32)) dm_X11_type_84 qi_0 ?_
  refine G.istore (pc := 85) (lv1 := [(5, .int (0 : Int32)), (0, .ref 0), (1, .long l1), (3, .int l3)]) dm_X11_type_85 rfl rfl ?_
  refine G.lvp [1, 2, 3, 0] rfl ?_
  exact j_X11_type_87 _ hln hr (by decide) (by decide) hres
def f_X11_type_54 (length : Int32) (text : Nat → Int32) (l1 : Int64) (l3 : Int32) (l4 : Int32) : Int32 × Int32 × Int32 × (Nat → Int32) := (if l4 = 0 then (f_X11_type_81 length text l1 l3 (1 : Int32)) else (if (length + l3) ≤ (400 : Int32) then (f_X11_type_81 length text l1 l3 (0 : Int32)) else (f_X11_type_81 length text l1 l3 (2 : Int32))))
set_option maxRecDepth 20000 in
theorem j_X11_type_54 {l1 : Int64} {l3 : Int32} {l4 : Int32} {refusal : Int32} {wheel : Int32} {now : Int32} {length : Int32} {at_ : Int32} {fault : Int32} {faultLine : Int32} {line : Int32} {words : Int32} {labels : Int32} {targets : Int32} {wrong : Int32} {unfit : Int32} {text : Nat → Int32} {code_ : Nat → Int32} {label : Nat → Int64} {labelWord : Nat → Int32} {target : Nat → Int64} {targetWord : Nat → Int32} {targetLine : Nat → Int32} {store : Nat → Int32} {common : Nat → Int32} {low : Nat → Int32} {high : Nat → Int32} {register : Nat → Int32} {address : Nat → Int32} {status : Nat → Int32} {did : Nat → Int32} {ready : Nat → Int32} {timer : Nat → Int32} {trace : Nat → Int32} {r_0 : Int32} {r_1 : Int32} {r_2 : Int32} {r_3 : (Nat → Int32)} (hres : (r_0, r_1, r_2, r_3) = (f_X11_type_54 length text l1 l3 l4)) (hln : 0 ≤ length.toInt ∧ length.toInt ≤ 400) (hg : ¬ l4 = 0 → 1 ≤ l3.toInt ∧ l3.toInt ≤ 8) : G M_X11_type 0 0 54 [(0, .ref 0), (1, .long l1), (3, .int l3), (4, .int l4)] [] (w_M refusal wheel now length at_ fault faultLine line words labels targets wrong unfit text code_ label labelWord target targetWord targetLine store common low high register address status did ready timer trace) (some (.int r_0)) (w_M r_1 wheel now r_2 at_ fault faultLine line words labels targets wrong unfit r_3 code_ label labelWord target targetWord targetLine store common low high register address status did ready timer trace) := by
  rw [f_X11_type_54] at hres
  refine G.aload_n (pc := 54) dm_X11_type_54 rfl ?_
  refine G.iload (pc := 55) dm_X11_type_55 rfl ?_
  refine G.if_ne (pc := 57) (tgt := 64) dm_X11_type_57 (by decide) (fun c57 => ?_) (fun c57 => ?_)
  · rw [if_neg c57] at hres
    refine G.aload_n (pc := 64) dm_X11_type_64 rfl ?_
    refine G.getfield (pc := 65) dm_X11_type_65 gf_X11_85 rfl rfl ?_
    refine G.iload_n (pc := 68) dm_X11_type_68 rfl ?_
    refine G.iadd (pc := 69) dm_X11_type_69 ?_
    refine G.sipush (pc := 70) (v := (400 : Int32)) dm_X11_type_70 qs_400 ?_
    refine G.icmp_le (pc := 73) (tgt := 80) dm_X11_type_73 (by decide) (fun c73 => ?_) (fun c73 => ?_)
    · rw [if_pos c73] at hres
      refine G.iconst (pc := 80) (v := (0 : Int32)) dm_X11_type_80 qi_0 ?_
      refine G.lvp [0, 1, 2] rfl ?_
      exact j_X11_type_81 hres hln (fun _ => q_ty hln (hg c57) c73)
    · rw [if_neg c73] at hres
      refine G.iconst (pc := 76) (v := (2 : Int32)) dm_X11_type_76 qi_2 ?_
      refine G.goto (pc := 77) (tgt := 81) dm_X11_type_77 (by decide) ?_
      refine G.lvp [0, 1, 2] rfl ?_
      exact j_X11_type_81 hres hln (fun h => absurd h (by decide))
  · rw [if_pos c57] at hres
    refine G.iconst (pc := 60) (v := (1 : Int32)) dm_X11_type_60 qi_1 ?_
    refine G.goto (pc := 61) (tgt := 81) dm_X11_type_61 (by decide) ?_
    refine G.lvp [0, 1, 2] rfl ?_
    exact j_X11_type_81 hres hln (fun h => absurd h (by decide))
def f_X11_type_c43 (refusal : Int32) (length : Int32) (text : Nat → Int32) (l1 : Int64) (l3 : Int32) (l5 : Int32) (kL21 : Int64 → Int32 → Int32 → Int32 → Int32 → Int32 → (Nat → Int32) → Int32 × Int32 × Int32 × (Nat → Int32)) (z1_0 : Int32) : Int32 × Int32 × Int32 × (Nat → Int32) := (kL21 l1 l3 z1_0 (l5 + (1 : Int32)) refusal length text)
def f_X11_type_21 : Nat → Int64 → Int32 → Int32 → Int32 → Int32 → Int32 → (Nat → Int32) → Int32 × Int32 × Int32 × (Nat → Int32)
  | 0, l1, l3, l4, l5, refusal, length, text => (0, refusal, length, text)
  | n + 1, l1, l3, l4, l5, refusal, length, text => (if l3 ≤ l5 then (f_X11_type_54 length text l1 l3 l4) else (if l4 = 0 then (f_X11_type_54 length text l1 l3 l4) else (f_X11_type_c43 refusal length text l1 l3 l5 (f_X11_type_21 n) (f_X11_isCharacter ((g_lshr l1 ((8 : Int32) * l5)) &&& (255 : Int64))))))
set_option maxRecDepth 20000 in
theorem j_X11_type_21 : ∀ (n : Nat) {l1 : Int64} {l3 : Int32} {l4 : Int32} {l5 : Int32} {refusal : Int32} {wheel : Int32} {now : Int32} {length : Int32} {at_ : Int32} {fault : Int32} {faultLine : Int32} {line : Int32} {words : Int32} {labels : Int32} {targets : Int32} {wrong : Int32} {unfit : Int32} {text : Nat → Int32} {code_ : Nat → Int32} {label : Nat → Int64} {labelWord : Nat → Int32} {target : Nat → Int64} {targetWord : Nat → Int32} {targetLine : Nat → Int32} {store : Nat → Int32} {common : Nat → Int32} {low : Nat → Int32} {high : Nat → Int32} {register : Nat → Int32} {address : Nat → Int32} {status : Nat → Int32} {did : Nat → Int32} {ready : Nat → Int32} {timer : Nat → Int32} {trace : Nat → Int32} {r_0 : Int32} {r_1 : Int32} {r_2 : Int32} {r_3 : (Nat → Int32)}, (hln : 0 ≤ length.toInt ∧ length.toInt ≤ 400) → (hg : ¬ l4 = 0 → 1 ≤ l3.toInt ∧ l3.toInt ≤ 8) → (h5 : 0 ≤ l5.toInt) → (8 - l5.toInt.toNat) < n → (r_0, r_1, r_2, r_3) = f_X11_type_21 n l1 l3 l4 l5 refusal length text → G M_X11_type 0 0 21 [(0, .ref 0), (1, .long l1), (3, .int l3), (4, .int l4), (5, .int l5)] [] (w_M refusal wheel now length at_ fault faultLine line words labels targets wrong unfit text code_ label labelWord target targetWord targetLine store common low high register address status did ready timer trace) (some (.int r_0)) (w_M r_1 wheel now r_2 at_ fault faultLine line words labels targets wrong unfit r_3 code_ label labelWord target targetWord targetLine store common low high register address status did ready timer trace) := by
  intro n
  induction n with
  | zero =>
    intro l1 l3 l4 l5 refusal wheel now length at_ fault faultLine line words labels targets wrong unfit text code_ label labelWord target targetWord targetLine store common low high register address status did ready timer trace r_0 r_1 r_2 r_3 hln hg h5 hm hres
    exact absurd hm (Nat.not_lt_zero _)
  | succ n ih =>
    intro l1 l3 l4 l5 refusal wheel now length at_ fault faultLine line words labels targets wrong unfit text code_ label labelWord target targetWord targetLine store common low high register address status did ready timer trace r_0 r_1 r_2 r_3 hln hg h5 hm hres
    obtain ⟨mu, hmu⟩ : ∃ z, (8 - l5.toInt.toNat) = z := ⟨_, rfl⟩
    rw [hmu] at hm
    have hk21 : ∀ {l1 : Int64} {l3 : Int32} {l4 : Int32} {l5 : Int32} {refusal : Int32} {length : Int32} {text : Nat → Int32}, (0 ≤ length.toInt ∧ length.toInt ≤ 400) → (¬ l4 = 0 → 1 ≤ l3.toInt ∧ l3.toInt ≤ 8) → (0 ≤ l5.toInt) → (8 - l5.toInt.toNat) < mu → (r_0, r_1, r_2, r_3) = (f_X11_type_21 n) l1 l3 l4 l5 refusal length text → G M_X11_type 0 0 21 [(0, .ref 0), (1, .long l1), (3, .int l3), (4, .int l4), (5, .int l5)] [] (w_M refusal wheel now length at_ fault faultLine line words labels targets wrong unfit text code_ label labelWord target targetWord targetLine store common low high register address status did ready timer trace) (some (.int r_0)) (w_M r_1 wheel now r_2 at_ fault faultLine line words labels targets wrong unfit r_3 code_ label labelWord target targetWord targetLine store common low high register address status did ready timer trace) := fun hln hg h5 hlt he => ih hln hg h5 (Nat.lt_of_lt_of_le hlt (Nat.le_of_lt_succ hm)) he
    rw [f_X11_type_21] at hres
    refine G.iload (pc := 21) dm_X11_type_21 rfl ?_
    refine G.iload_n (pc := 23) dm_X11_type_23 rfl ?_
    refine G.icmp_ge (pc := 24) (tgt := 54) dm_X11_type_24 (by decide) (fun c24 => ?_) (fun c24 => ?_)
    · rw [if_pos c24] at hres
      refine G.lvp [0, 1, 2, 3] rfl ?_
      exact j_X11_type_54 hres (by first | assumption | exact q_31 _ | exact q_7 _) (by first | assumption | exact q_31 _ | exact q_7 _)
    · rw [if_neg c24] at hres
      refine G.iload (pc := 27) dm_X11_type_27 rfl ?_
      refine G.if_eq (pc := 29) (tgt := 54) dm_X11_type_29 (by decide) (fun c29 => ?_) (fun c29 => ?_)
      · rw [if_pos c29] at hres
        refine G.lvp [0, 1, 2, 3] rfl ?_
        exact j_X11_type_54 hres (by first | assumption | exact q_31 _ | exact q_7 _) (by first | assumption | exact q_31 _ | exact q_7 _)
      · rw [if_neg c29] at hres
        refine G.lload_n (pc := 32) dm_X11_type_32 rfl ?_
        refine G.bipush (pc := 33) (v := (8 : Int32)) dm_X11_type_33 qb_8 ?_
        refine G.iload (pc := 35) dm_X11_type_35 rfl ?_
        refine G.imul (pc := 37) dm_X11_type_37 ?_
        refine G.lshr (pc := 38) dm_X11_type_38 ?_
        refine G.ldc2 (pc := 39) dm_X11_type_39 tw152 ?_
        refine G.land (pc := 42) dm_X11_type_42 ?_
        obtain ⟨z1_0, hz1⟩ := g_ex1 (f_X11_isCharacter ((g_lshr l1 ((8 : Int32) * l5)) &&& (255 : Int64)))
        refine G.callS (pc := 43) (rest := []) (st1 := [.int z1_0]) (ws1 := (w_M refusal wheel now length at_ fault faultLine line words labels targets wrong unfit text code_ label labelWord target targetWord targetLine store common low high register address status did ready timer trace)) [] dm_X11_type_43 gc_X11_type_81 (k_X11_isCharacter (c := ((g_lshr l1 ((8 : Int32) * l5)) &&& (255 : Int64))) hz1) rfl rfl rfl rfl rfl rfl rfl rfl ?_
        replace hres : (r_0, r_1, r_2, r_3) = f_X11_type_c43 refusal length text l1 l3 l5 (f_X11_type_21 n) z1_0 := hres.trans (by rw [← hz1])
        rw [f_X11_type_c43] at hres
        refine G.istore (pc := 46) (lv1 := [(4, .int z1_0), (0, .ref 0), (1, .long l1), (3, .int l3), (5, .int l5)]) dm_X11_type_46 rfl rfl ?_
        refine G.iinc (pc := 48) (v := (l5 + (1 : Int32))) (lv1 := [(5, .int (l5 + (1 : Int32))), (4, .int z1_0), (0, .ref 0), (1, .long l1), (3, .int l3)]) dm_X11_type_48 rfl rfl rfl rfl ?_
        refine G.goto (pc := 51) (tgt := 21) dm_X11_type_51 (by decide) ?_
        refine G.lvp [2, 3, 4, 1, 0] rfl ?_
        exact hk21 hln (fun _ => hg c29) (by have := q_nle c24; have := hg c29; rw [q_inc (by omega)]; omega) (by have := q_nle c24; have := hg c29; rw [q_inc (by omega)]; omega) hres
def f_X11_type_16 (refusal : Int32) (length : Int32) (text : Nat → Int32) (l1 : Int64) (l3 : Int32) (s0 : Int32) : Int32 × Int32 × Int32 × (Nat → Int32) := (f_X11_type_21 (9) l1 l3 s0 (0 : Int32) refusal length text)
set_option maxRecDepth 20000 in
theorem j_X11_type_16 {l1 : Int64} {l3 : Int32} {s0 : Int32} {refusal : Int32} {wheel : Int32} {now : Int32} {length : Int32} {at_ : Int32} {fault : Int32} {faultLine : Int32} {line : Int32} {words : Int32} {labels : Int32} {targets : Int32} {wrong : Int32} {unfit : Int32} {text : Nat → Int32} {code_ : Nat → Int32} {label : Nat → Int64} {labelWord : Nat → Int32} {target : Nat → Int64} {targetWord : Nat → Int32} {targetLine : Nat → Int32} {store : Nat → Int32} {common : Nat → Int32} {low : Nat → Int32} {high : Nat → Int32} {register : Nat → Int32} {address : Nat → Int32} {status : Nat → Int32} {did : Nat → Int32} {ready : Nat → Int32} {timer : Nat → Int32} {trace : Nat → Int32} {r_0 : Int32} {r_1 : Int32} {r_2 : Int32} {r_3 : (Nat → Int32)} (hres : (r_0, r_1, r_2, r_3) = (f_X11_type_16 refusal length text l1 l3 s0)) (hln : 0 ≤ length.toInt ∧ length.toInt ≤ 400) (hg : ¬ s0 = 0 → 1 ≤ l3.toInt ∧ l3.toInt ≤ 8) : G M_X11_type 0 0 16 [(0, .ref 0), (1, .long l1), (3, .int l3)] [.int s0] (w_M refusal wheel now length at_ fault faultLine line words labels targets wrong unfit text code_ label labelWord target targetWord targetLine store common low high register address status did ready timer trace) (some (.int r_0)) (w_M r_1 wheel now r_2 at_ fault faultLine line words labels targets wrong unfit r_3 code_ label labelWord target targetWord targetLine store common low high register address status did ready timer trace) := by
  rw [f_X11_type_16] at hres
  refine G.istore (pc := 16) (lv1 := [(4, .int s0), (0, .ref 0), (1, .long l1), (3, .int l3)]) dm_X11_type_16 rfl rfl ?_
  refine G.iconst (pc := 18) (v := (0 : Int32)) dm_X11_type_18 qi_0 ?_
  refine G.istore (pc := 19) (lv1 := [(5, .int (0 : Int32)), (4, .int s0), (0, .ref 0), (1, .long l1), (3, .int l3)]) dm_X11_type_19 rfl rfl ?_
  refine G.lvp [2, 3, 4, 1, 0] rfl ?_
  exact j_X11_type_21 _ hln hg (by decide) (by decide) hres
def f_X11_type (eight : Int64) (n : Int32) (refusal : Int32) (length : Int32) (text : Nat → Int32) : Int32 × Int32 × Int32 × (Nat → Int32) := (if n < (1 : Int32) then (f_X11_type_16 refusal length text eight n (0 : Int32)) else (if (8 : Int32) < n then (f_X11_type_16 refusal length text eight n (0 : Int32)) else (f_X11_type_16 refusal length text eight n (1 : Int32))))
set_option maxRecDepth 20000 in
theorem k_X11_type {eight : Int64} {n : Int32} {refusal : Int32} {wheel : Int32} {now : Int32} {length : Int32} {at_ : Int32} {fault : Int32} {faultLine : Int32} {line : Int32} {words : Int32} {labels : Int32} {targets : Int32} {wrong : Int32} {unfit : Int32} {text : Nat → Int32} {code_ : Nat → Int32} {label : Nat → Int64} {labelWord : Nat → Int32} {target : Nat → Int64} {targetWord : Nat → Int32} {targetLine : Nat → Int32} {store : Nat → Int32} {common : Nat → Int32} {low : Nat → Int32} {high : Nat → Int32} {register : Nat → Int32} {address : Nat → Int32} {status : Nat → Int32} {did : Nat → Int32} {ready : Nat → Int32} {timer : Nat → Int32} {trace : Nat → Int32} (hln : 0 ≤ length.toInt ∧ length.toInt ≤ 400) {r_0 : Int32} {r_1 : Int32} {r_2 : Int32} {r_3 : (Nat → Int32)} (hres : (r_0, r_1, r_2, r_3) = f_X11_type eight n refusal length text) : K M_X11_type yX11_type [.ref 0, .long eight, .int n] (w_M refusal wheel now length at_ fault faultLine line words labels targets wrong unfit text code_ label labelWord target targetWord targetLine store common low high register address status did ready timer trace) (some (.int r_0)) (w_M r_1 wheel now r_2 at_ fault faultLine line words labels targets wrong unfit r_3 code_ label labelWord target targetWord targetLine store common low high register address status did ready timer trace) := by
  refine K.of (lv := [(0, .ref 0), (1, .long eight), (3, .int n)]) (by decide +kernel) rfl rfl rfl ?_
  rw [f_X11_type] at hres
  refine G.iload_n (pc := 0) dm_X11_type_0 rfl ?_
  refine G.iconst (pc := 1) (v := (1 : Int32)) dm_X11_type_1 qi_1 ?_
  refine G.icmp_lt (pc := 2) (tgt := 15) dm_X11_type_2 (by decide) (fun c2 => ?_) (fun c2 => ?_)
  · rw [if_pos c2] at hres
    refine G.iconst (pc := 15) (v := (0 : Int32)) dm_X11_type_15 qi_0 ?_
    exact j_X11_type_16 hres hln (fun h => absurd rfl h)
  · rw [if_neg c2] at hres
    refine G.iload_n (pc := 5) dm_X11_type_5 rfl ?_
    refine G.bipush (pc := 6) (v := (8 : Int32)) dm_X11_type_6 qb_8 ?_
    refine G.icmp_gt (pc := 8) (tgt := 15) dm_X11_type_8 (by decide) (fun c8 => ?_) (fun c8 => ?_)
    · rw [if_pos c8] at hres
      refine G.iconst (pc := 15) (v := (0 : Int32)) dm_X11_type_15 qi_0 ?_
      exact j_X11_type_16 hres hln (fun h => absurd rfl h)
    · rw [if_neg c8] at hres
      refine G.iconst (pc := 11) (v := (1 : Int32)) dm_X11_type_11 qi_1 ?_
      refine G.goto (pc := 12) (tgt := 16) dm_X11_type_12 (by decide) ?_
      exact j_X11_type_16 hres hln (fun _ => ⟨q_nlt c2, q_nlt c8⟩)
