abbrev M_X9_takeDigits : g_M := (cX9_takeDigits, 4, RX9, (some .long), { frames := 1, cells := 0, slots := 0, locals := 20 }, 0, 0)
theorem dm_X9_takeDigits_0 : decode M_X9_takeDigits.1 0 = .ok (.aload_n 0, 1) := by decide +kernel
theorem dm_X9_takeDigits_1 : decode M_X9_takeDigits.1 1 = .ok (.getfield 27, 3) := by decide +kernel
theorem dm_X9_takeDigits_4 : decode M_X9_takeDigits.1 4 = .ok (.istore_n 1, 1) := by decide +kernel
theorem dm_X9_takeDigits_5 : decode M_X9_takeDigits.1 5 = .ok (.lconst 0, 1) := by decide +kernel
theorem dm_X9_takeDigits_6 : decode M_X9_takeDigits.1 6 = .ok (.lstore_n 2, 1) := by decide +kernel
theorem dm_X9_takeDigits_7 : decode M_X9_takeDigits.1 7 = .ok (.aload_n 0, 1) := by decide +kernel
theorem dm_X9_takeDigits_8 : decode M_X9_takeDigits.1 8 = .ok (.getfield 27, 3) := by decide +kernel
theorem dm_X9_takeDigits_11 : decode M_X9_takeDigits.1 11 = .ok (.aload_n 0, 1) := by decide +kernel
theorem dm_X9_takeDigits_12 : decode M_X9_takeDigits.1 12 = .ok (.getfield 19, 3) := by decide +kernel
theorem dm_X9_takeDigits_15 : decode M_X9_takeDigits.1 15 = .ok (.getfield 30, 3) := by decide +kernel
theorem dm_X9_takeDigits_18 : decode M_X9_takeDigits.1 18 = .ok (.if_icmp .ge 74, 3) := by decide +kernel
theorem dm_X9_takeDigits_21 : decode M_X9_takeDigits.1 21 = .ok (.aload_n 0, 1) := by decide +kernel
theorem dm_X9_takeDigits_22 : decode M_X9_takeDigits.1 22 = .ok (.getfield 19, 3) := by decide +kernel
theorem dm_X9_takeDigits_25 : decode M_X9_takeDigits.1 25 = .ok (.getfield 35, 3) := by decide +kernel
theorem dm_X9_takeDigits_28 : decode M_X9_takeDigits.1 28 = .ok (.aload_n 0, 1) := by decide +kernel
theorem dm_X9_takeDigits_29 : decode M_X9_takeDigits.1 29 = .ok (.getfield 27, 3) := by decide +kernel
theorem dm_X9_takeDigits_32 : decode M_X9_takeDigits.1 32 = .ok (.caload, 1) := by decide +kernel
theorem dm_X9_takeDigits_33 : decode M_X9_takeDigits.1 33 = .ok (.invokestatic 45, 3) := by decide +kernel
theorem dm_X9_takeDigits_36 : decode M_X9_takeDigits.1 36 = .ok (.ifCond .eq 56, 3) := by decide +kernel
theorem dm_X9_takeDigits_39 : decode M_X9_takeDigits.1 39 = .ok (.aload_n 0, 1) := by decide +kernel
theorem dm_X9_takeDigits_40 : decode M_X9_takeDigits.1 40 = .ok (.getfield 27, 3) := by decide +kernel
theorem dm_X9_takeDigits_43 : decode M_X9_takeDigits.1 43 = .ok (.iload_n 1, 1) := by decide +kernel
theorem dm_X9_takeDigits_44 : decode M_X9_takeDigits.1 44 = .ok (.isub, 1) := by decide +kernel
theorem dm_X9_takeDigits_45 : decode M_X9_takeDigits.1 45 = .ok (.bipush 10, 2) := by decide +kernel
theorem dm_X9_takeDigits_47 : decode M_X9_takeDigits.1 47 = .ok (.if_icmp .ge 28, 3) := by decide +kernel
theorem dm_X9_takeDigits_50 : decode M_X9_takeDigits.1 50 = .ok (.lload_n 2, 1) := by decide +kernel
theorem dm_X9_takeDigits_51 : decode M_X9_takeDigits.1 51 = .ok (.ldc2_w 73, 3) := by decide +kernel
theorem dm_X9_takeDigits_54 : decode M_X9_takeDigits.1 54 = .ok (.lmul, 1) := by decide +kernel
theorem dm_X9_takeDigits_55 : decode M_X9_takeDigits.1 55 = .ok (.aload_n 0, 1) := by decide +kernel
theorem dm_X9_takeDigits_56 : decode M_X9_takeDigits.1 56 = .ok (.getfield 19, 3) := by decide +kernel
theorem dm_X9_takeDigits_59 : decode M_X9_takeDigits.1 59 = .ok (.getfield 35, 3) := by decide +kernel
theorem dm_X9_takeDigits_62 : decode M_X9_takeDigits.1 62 = .ok (.aload_n 0, 1) := by decide +kernel
theorem dm_X9_takeDigits_63 : decode M_X9_takeDigits.1 63 = .ok (.getfield 27, 3) := by decide +kernel
theorem dm_X9_takeDigits_66 : decode M_X9_takeDigits.1 66 = .ok (.caload, 1) := by decide +kernel
theorem dm_X9_takeDigits_67 : decode M_X9_takeDigits.1 67 = .ok (.bipush 48, 2) := by decide +kernel
theorem dm_X9_takeDigits_69 : decode M_X9_takeDigits.1 69 = .ok (.isub, 1) := by decide +kernel
theorem dm_X9_takeDigits_70 : decode M_X9_takeDigits.1 70 = .ok (.i2l, 1) := by decide +kernel
theorem dm_X9_takeDigits_71 : decode M_X9_takeDigits.1 71 = .ok (.ladd, 1) := by decide +kernel
theorem dm_X9_takeDigits_72 : decode M_X9_takeDigits.1 72 = .ok (.goto 6, 3) := by decide +kernel
theorem dm_X9_takeDigits_75 : decode M_X9_takeDigits.1 75 = .ok (.ldc2_w 75, 3) := by decide +kernel
theorem dm_X9_takeDigits_78 : decode M_X9_takeDigits.1 78 = .ok (.lstore_n 2, 1) := by decide +kernel
theorem dm_X9_takeDigits_79 : decode M_X9_takeDigits.1 79 = .ok (.aload_n 0, 1) := by decide +kernel
theorem dm_X9_takeDigits_80 : decode M_X9_takeDigits.1 80 = .ok (.dup, 1) := by decide +kernel
theorem dm_X9_takeDigits_81 : decode M_X9_takeDigits.1 81 = .ok (.getfield 27, 3) := by decide +kernel
theorem dm_X9_takeDigits_84 : decode M_X9_takeDigits.1 84 = .ok (.iconst 1, 1) := by decide +kernel
theorem dm_X9_takeDigits_85 : decode M_X9_takeDigits.1 85 = .ok (.iadd, 1) := by decide +kernel
theorem dm_X9_takeDigits_86 : decode M_X9_takeDigits.1 86 = .ok (.putfield 27, 3) := by decide +kernel
theorem dm_X9_takeDigits_89 : decode M_X9_takeDigits.1 89 = .ok (.goto (-82), 3) := by decide +kernel
theorem dm_X9_takeDigits_92 : decode M_X9_takeDigits.1 92 = .ok (.lload_n 2, 1) := by decide +kernel
theorem dm_X9_takeDigits_93 : decode M_X9_takeDigits.1 93 = .ok (.lreturn, 1) := by decide +kernel
theorem gc_X9_takeDigits_45 : g_cs M_X9_takeDigits 45 M_X9_isDigit yX9_isDigit 1 := ⟨tw224, tw225, tw85, tw226, ⟨rfl, rfl, rfl, rfl⟩, gd_X9_isDigit, ⟨by decide, by decide⟩⟩
def f_X9_takeDigits_78 (kat : Int32) (l1 : Int32) (kL7 : Int32 → Int64 → Int32 → Int64 × Int32) (s0 : Int64) : Int64 × Int32 := (kL7 l1 s0 (kat + (1 : Int32)))
set_option maxRecDepth 20000 in
theorem j_X9_takeDigits_78 {l1 : Int32} {s0 : Int64} {kcount : Int32} {klen : Int32} {kat : Int32} {kinds : Nat → Int32} {kvals : Nat → Int64} {tchars : Nat → Int32} {kL7 : Int32 → Int64 → Int32 → Int64 × Int32} {r_0 : Int64} {r_1 : Int32} (hres : (r_0, r_1) = (f_X9_takeDigits_78 kat l1 kL7 s0)) (hk : 0 ≤ kat.toInt ∧ kat.toInt ≤ klen.toInt ∧ klen.toInt ≤ 400) (hlt : kat.toInt < klen.toInt) {mu : Nat} (hmu : (klen.toInt.toNat - kat.toInt.toNat) = mu) (hk7 : ∀ {l1 : Int32} {l2 : Int64} {kat : Int32}, (0 ≤ kat.toInt ∧ kat.toInt ≤ klen.toInt ∧ klen.toInt ≤ 400) → (klen.toInt.toNat - kat.toInt.toNat) < mu → (r_0, r_1) = kL7 l1 l2 kat → G M_X9_takeDigits 0 0 7 [(0, .ref 0), (1, .int l1), (2, .long l2)] [] (w_K kcount klen kat kinds kvals tchars) (some (.long r_0)) (w_K kcount klen r_1 kinds kvals tchars)) : G M_X9_takeDigits 0 0 78 [(0, .ref 0), (1, .int l1)] [.long s0] (w_K kcount klen kat kinds kvals tchars) (some (.long r_0)) (w_K kcount klen r_1 kinds kvals tchars) := by
  rw [f_X9_takeDigits_78] at hres
  refine G.lstore_n (pc := 78) (lv1 := [(2, .long s0), (0, .ref 0), (1, .int l1)]) dm_X9_takeDigits_78 rfl rfl ?_
  refine G.aload_n (pc := 79) dm_X9_takeDigits_79 rfl ?_
  refine G.dup (pc := 80) dm_X9_takeDigits_80 rfl ?_
  refine G.getfield (pc := 81) dm_X9_takeDigits_81 gf_X9_27 rfl rfl ?_
  refine G.iconst (pc := 84) (v := (1 : Int32)) dm_X9_takeDigits_84 qi_1 ?_
  refine G.iadd (pc := 85) dm_X9_takeDigits_85 ?_
  refine G.putfield (pc := 86) (ws1 := (w_K kcount klen (kat + (1 : Int32)) kinds kvals tchars)) dm_X9_takeDigits_86 gw_X9_27 rfl (g_fit_i _) rfl rfl ?_
  refine G.goto (pc := 89) (tgt := 7) dm_X9_takeDigits_89 (by decide) ?_
  refine G.lvp [1, 2, 0] rfl ?_
  exact hk7 (q_kup hk hlt) (by rw [q_inc (by omega)]; omega) hres
def f_X9_takeDigits_c33 (kat : Int32) (tchars : Nat → Int32) (l1 : Int32) (l2 : Int64) (kL7 : Int32 → Int64 → Int32 → Int64 × Int32) (z1_0 : Int32) : Int64 × Int32 := (if z1_0 = 0 then (l2, kat) else (if (10 : Int32) ≤ (kat - l1) then (f_X9_takeDigits_78 kat l1 kL7 (1099511627776 : Int64)) else (f_X9_takeDigits_78 kat l1 kL7 ((l2 * (10 : Int64)) + (Int32.toInt64 ((tchars (Int32.toNatClampNeg kat)) - (48 : Int32)))))))
def f_X9_takeDigits_7 (klen : Int32) (tchars : Nat → Int32) : Nat → Int32 → Int64 → Int32 → Int64 × Int32
  | 0, l1, l2, kat => (0, kat)
  | n + 1, l1, l2, kat => (if klen ≤ kat then (l2, kat) else (f_X9_takeDigits_c33 kat tchars l1 l2 (f_X9_takeDigits_7 klen tchars n) (f_X9_isDigit (tchars (Int32.toNatClampNeg kat)))))
set_option maxRecDepth 20000 in
theorem j_X9_takeDigits_7 : ∀ (n : Nat) {l1 : Int32} {l2 : Int64} {kcount : Int32} {klen : Int32} {kat : Int32} {kinds : Nat → Int32} {kvals : Nat → Int64} {tchars : Nat → Int32} {r_0 : Int64} {r_1 : Int32}, (hk : 0 ≤ kat.toInt ∧ kat.toInt ≤ klen.toInt ∧ klen.toInt ≤ 400) → (klen.toInt.toNat - kat.toInt.toNat) < n → (r_0, r_1) = f_X9_takeDigits_7 klen tchars n l1 l2 kat → G M_X9_takeDigits 0 0 7 [(0, .ref 0), (1, .int l1), (2, .long l2)] [] (w_K kcount klen kat kinds kvals tchars) (some (.long r_0)) (w_K kcount klen r_1 kinds kvals tchars) := by
  intro n
  induction n with
  | zero =>
    intro l1 l2 kcount klen kat kinds kvals tchars r_0 r_1 hk hm hres
    exact absurd hm (Nat.not_lt_zero _)
  | succ n ih =>
    intro l1 l2 kcount klen kat kinds kvals tchars r_0 r_1 hk hm hres
    obtain ⟨mu, hmu⟩ : ∃ z, (klen.toInt.toNat - kat.toInt.toNat) = z := ⟨_, rfl⟩
    rw [hmu] at hm
    have hk7 : ∀ {l1 : Int32} {l2 : Int64} {kat : Int32}, (0 ≤ kat.toInt ∧ kat.toInt ≤ klen.toInt ∧ klen.toInt ≤ 400) → (klen.toInt.toNat - kat.toInt.toNat) < mu → (r_0, r_1) = (f_X9_takeDigits_7 klen tchars n) l1 l2 kat → G M_X9_takeDigits 0 0 7 [(0, .ref 0), (1, .int l1), (2, .long l2)] [] (w_K kcount klen kat kinds kvals tchars) (some (.long r_0)) (w_K kcount klen r_1 kinds kvals tchars) := fun hk hlt he => ih hk (Nat.lt_of_lt_of_le hlt (Nat.le_of_lt_succ hm)) he
    rw [f_X9_takeDigits_7] at hres
    refine G.aload_n (pc := 7) dm_X9_takeDigits_7 rfl ?_
    refine G.getfield (pc := 8) dm_X9_takeDigits_8 gf_X9_27 rfl rfl ?_
    refine G.aload_n (pc := 11) dm_X9_takeDigits_11 rfl ?_
    refine G.getfield (pc := 12) dm_X9_takeDigits_12 gf_X9_19 rfl rfl ?_
    refine G.getfield (pc := 15) dm_X9_takeDigits_15 gf_X9_30 rfl rfl ?_
    refine G.icmp_ge (pc := 18) (tgt := 92) dm_X9_takeDigits_18 (by decide) (fun c18 => ?_) (fun c18 => ?_)
    · rw [if_pos c18] at hres
      refine G.lload_n (pc := 92) dm_X9_takeDigits_92 rfl ?_
      cases hres
      exact G.lreturn (pc := 93) dm_X9_takeDigits_93 rfl rfl rfl
    · rw [if_neg c18] at hres
      have hlt := q_nle c18
      refine G.aload_n (pc := 21) dm_X9_takeDigits_21 rfl ?_
      refine G.getfield (pc := 22) dm_X9_takeDigits_22 gf_X9_19 rfl rfl ?_
      refine G.getfield (pc := 25) dm_X9_takeDigits_25 gf_X9_35 rfl rfl ?_
      refine G.aload_n (pc := 28) dm_X9_takeDigits_28 rfl ?_
      refine G.getfield (pc := 29) dm_X9_takeDigits_29 gf_X9_27 rfl rfl ?_
      refine G.caload (pc := 32) dm_X9_takeDigits_32 rfl (q_in hk.1 (by omega)) ?_
      obtain ⟨z1_0, hz1⟩ := g_ex1 (f_X9_isDigit (tchars (Int32.toNatClampNeg kat)))
      refine G.callS (pc := 33) (rest := []) (st1 := [.int z1_0]) (ws1 := (w_K kcount klen kat kinds kvals tchars)) [] dm_X9_takeDigits_33 gc_X9_takeDigits_45 (k_X9_isDigit (c := (tchars (Int32.toNatClampNeg kat))) hz1) rfl rfl rfl rfl rfl rfl rfl rfl ?_
      replace hres : (r_0, r_1) = f_X9_takeDigits_c33 kat tchars l1 l2 (f_X9_takeDigits_7 klen tchars n) z1_0 := hres.trans (by rw [← hz1])
      rw [f_X9_takeDigits_c33] at hres
      refine G.if_eq (pc := 36) (tgt := 92) dm_X9_takeDigits_36 (by decide) (fun c36 => ?_) (fun c36 => ?_)
      · rw [if_pos c36] at hres
        refine G.lload_n (pc := 92) dm_X9_takeDigits_92 rfl ?_
        cases hres
        exact G.lreturn (pc := 93) dm_X9_takeDigits_93 rfl rfl rfl
      · rw [if_neg c36] at hres
        refine G.aload_n (pc := 39) dm_X9_takeDigits_39 rfl ?_
        refine G.getfield (pc := 40) dm_X9_takeDigits_40 gf_X9_27 rfl rfl ?_
        refine G.iload_n (pc := 43) dm_X9_takeDigits_43 rfl ?_
        refine G.isub (pc := 44) dm_X9_takeDigits_44 ?_
        refine G.bipush (pc := 45) (v := (10 : Int32)) dm_X9_takeDigits_45 qb_10 ?_
        refine G.icmp_ge (pc := 47) (tgt := 75) dm_X9_takeDigits_47 (by decide) (fun c47 => ?_) (fun c47 => ?_)
        · rw [if_pos c47] at hres
          refine G.ldc2 (pc := 75) dm_X9_takeDigits_75 tw237 ?_
          refine G.lvp [0, 1] rfl ?_
          exact j_X9_takeDigits_78 hres (by assumption) (by assumption) hmu hk7
        · rw [if_neg c47] at hres
          refine G.lload_n (pc := 50) dm_X9_takeDigits_50 rfl ?_
          refine G.ldc2 (pc := 51) dm_X9_takeDigits_51 tw236 ?_
          refine G.lmul (pc := 54) dm_X9_takeDigits_54 ?_
          refine G.aload_n (pc := 55) dm_X9_takeDigits_55 rfl ?_
          refine G.getfield (pc := 56) dm_X9_takeDigits_56 gf_X9_19 rfl rfl ?_
          refine G.getfield (pc := 59) dm_X9_takeDigits_59 gf_X9_35 rfl rfl ?_
          refine G.aload_n (pc := 62) dm_X9_takeDigits_62 rfl ?_
          refine G.getfield (pc := 63) dm_X9_takeDigits_63 gf_X9_27 rfl rfl ?_
          refine G.caload (pc := 66) dm_X9_takeDigits_66 rfl (q_in hk.1 (by omega)) ?_
          refine G.bipush (pc := 67) (v := (48 : Int32)) dm_X9_takeDigits_67 qb_48 ?_
          refine G.isub (pc := 69) dm_X9_takeDigits_69 ?_
          refine G.i2l (pc := 70) dm_X9_takeDigits_70 ?_
          refine G.ladd (pc := 71) dm_X9_takeDigits_71 ?_
          refine G.goto (pc := 72) (tgt := 78) dm_X9_takeDigits_72 (by decide) ?_
          refine G.lvp [0, 1] rfl ?_
          exact j_X9_takeDigits_78 hres (by assumption) (by assumption) hmu hk7
def f_X9_takeDigits (klen : Int32) (kat : Int32) (tchars : Nat → Int32) : Int64 × Int32 := (f_X9_takeDigits_7 klen tchars (401) kat (0 : Int64) kat)
set_option maxRecDepth 20000 in
theorem k_X9_takeDigits {kcount : Int32} {klen : Int32} {kat : Int32} {kinds : Nat → Int32} {kvals : Nat → Int64} {tchars : Nat → Int32} (hk : 0 ≤ kat.toInt ∧ kat.toInt ≤ klen.toInt ∧ klen.toInt ≤ 400) {r_0 : Int64} {r_1 : Int32} (hres : (r_0, r_1) = f_X9_takeDigits klen kat tchars) : K M_X9_takeDigits yX9_takeDigits [.ref 0] (w_K kcount klen kat kinds kvals tchars) (some (.long r_0)) (w_K kcount klen r_1 kinds kvals tchars) := by
  refine K.of (lv := [(0, .ref 0)]) (by decide +kernel) rfl rfl rfl ?_
  rw [f_X9_takeDigits] at hres
  refine G.aload_n (pc := 0) dm_X9_takeDigits_0 rfl ?_
  refine G.getfield (pc := 1) dm_X9_takeDigits_1 gf_X9_27 rfl rfl ?_
  refine G.istore_n (pc := 4) (lv1 := [(1, .int kat), (0, .ref 0)]) dm_X9_takeDigits_4 rfl rfl ?_
  refine G.lconst (pc := 5) (v := (0 : Int64)) dm_X9_takeDigits_5 (by decide) ?_
  refine G.lstore_n (pc := 6) (lv1 := [(2, .long (0 : Int64)), (1, .int kat), (0, .ref 0)]) dm_X9_takeDigits_6 rfl rfl ?_
  refine G.lvp [2, 1, 0] rfl ?_
  exact j_X9_takeDigits_7 _ (by assumption) (by omega) hres
theorem a_X9_takeDigits_78 {l1 : Int32} {s0 : Int64} {klen : Int32} {kat : Int32} {kL7 : Int32 → Int64 → Int32 → Int64 × Int32} {r_0 : Int64} {r_1 : Int32} (hres : (r_0, r_1) = (f_X9_takeDigits_78 kat l1 kL7 s0)) (hk : 0 ≤ kat.toInt ∧ kat.toInt ≤ klen.toInt ∧ klen.toInt ≤ 400) (hlt : kat.toInt < klen.toInt) (hk7 : ∀ {l1 : Int32} {l2 : Int64} {kat : Int32}, (0 ≤ kat.toInt ∧ kat.toInt ≤ klen.toInt ∧ klen.toInt ≤ 400) → (r_0, r_1) = kL7 l1 l2 kat → 0 ≤ r_1.toInt ∧ r_1.toInt ≤ klen.toInt ∧ klen.toInt ≤ 400) : 0 ≤ r_1.toInt ∧ r_1.toInt ≤ klen.toInt ∧ klen.toInt ≤ 400 := by
  rw [f_X9_takeDigits_78] at hres
  exact hk7 (q_kup hk hlt) hres
theorem a_X9_takeDigits_7 : ∀ (n : Nat) {l1 : Int32} {l2 : Int64} {klen : Int32} {kat : Int32} {tchars : Nat → Int32} {r_0 : Int64} {r_1 : Int32}, (0 ≤ kat.toInt ∧ kat.toInt ≤ klen.toInt ∧ klen.toInt ≤ 400) → (r_0, r_1) = f_X9_takeDigits_7 klen tchars n l1 l2 kat → 0 ≤ r_1.toInt ∧ r_1.toInt ≤ klen.toInt ∧ klen.toInt ≤ 400 := by
  intro n
  induction n with
  | zero =>
    intro l1 l2 klen kat tchars r_0 r_1 hk hres
    rw [f_X9_takeDigits_7] at hres
    cases hres
    exact hk
  | succ n ih =>
    intro l1 l2 klen kat tchars r_0 r_1 hk hres
    have hk7 : ∀ {l1 : Int32} {l2 : Int64} {kat : Int32}, (0 ≤ kat.toInt ∧ kat.toInt ≤ klen.toInt ∧ klen.toInt ≤ 400) → (r_0, r_1) = (f_X9_takeDigits_7 klen tchars n) l1 l2 kat → 0 ≤ r_1.toInt ∧ r_1.toInt ≤ klen.toInt ∧ klen.toInt ≤ 400 := fun hk he => ih hk he
    rw [f_X9_takeDigits_7] at hres
    by_cases c18 : klen ≤ kat
    · rw [if_pos c18] at hres
      cases hres
      exact hk
    · rw [if_neg c18] at hres
      have hlt := q_nle c18
      obtain ⟨z1_0, hz1⟩ := g_ex1 (f_X9_isDigit (tchars (Int32.toNatClampNeg kat)))
      replace hres : (r_0, r_1) = f_X9_takeDigits_c33 kat tchars l1 l2 (f_X9_takeDigits_7 klen tchars n) z1_0 := hres.trans (by rw [← hz1])
      rw [f_X9_takeDigits_c33] at hres
      by_cases c36 : z1_0 = 0
      · rw [if_pos c36] at hres
        cases hres
        exact hk
      · rw [if_neg c36] at hres
        by_cases c47 : (10 : Int32) ≤ (kat - l1)
        · rw [if_pos c47] at hres
          exact a_X9_takeDigits_78 hres (by assumption) (by assumption) hk7
        · rw [if_neg c47] at hres
          exact a_X9_takeDigits_78 hres (by assumption) (by assumption) hk7
theorem a_X9_takeDigits {klen : Int32} {kat : Int32} {tchars : Nat → Int32} {r_0 : Int64} {r_1 : Int32} (hres : (r_0, r_1) = f_X9_takeDigits klen kat tchars) (hk : 0 ≤ kat.toInt ∧ kat.toInt ≤ klen.toInt ∧ klen.toInt ≤ 400) : 0 ≤ r_1.toInt ∧ r_1.toInt ≤ klen.toInt ∧ klen.toInt ≤ 400 := by
  rw [f_X9_takeDigits] at hres
  exact a_X9_takeDigits_7 _ (by assumption) hres
abbrev M_X9_takeRegister : g_M := (cX9_takeRegister, 4, RX9, none, { frames := 2, cells := 0, slots := 0, locals := 43 }, 0, 0)
theorem dm_X9_takeRegister_0 : decode M_X9_takeRegister.1 0 = .ok (.aload_n 0, 1) := by decide +kernel
theorem dm_X9_takeRegister_1 : decode M_X9_takeRegister.1 1 = .ok (.getfield 27, 3) := by decide +kernel
theorem dm_X9_takeRegister_4 : decode M_X9_takeRegister.1 4 = .ok (.istore_n 1, 1) := by decide +kernel
theorem dm_X9_takeRegister_5 : decode M_X9_takeRegister.1 5 = .ok (.aload_n 0, 1) := by decide +kernel
theorem dm_X9_takeRegister_6 : decode M_X9_takeRegister.1 6 = .ok (.invokevirtual 67, 3) := by decide +kernel
theorem dm_X9_takeRegister_9 : decode M_X9_takeRegister.1 9 = .ok (.lstore_n 2, 1) := by decide +kernel
theorem dm_X9_takeRegister_10 : decode M_X9_takeRegister.1 10 = .ok (.aload_n 0, 1) := by decide +kernel
theorem dm_X9_takeRegister_11 : decode M_X9_takeRegister.1 11 = .ok (.aload_n 0, 1) := by decide +kernel
theorem dm_X9_takeRegister_12 : decode M_X9_takeRegister.1 12 = .ok (.getfield 27, 3) := by decide +kernel
theorem dm_X9_takeRegister_15 : decode M_X9_takeRegister.1 15 = .ok (.iload_n 1, 1) := by decide +kernel
theorem dm_X9_takeRegister_16 : decode M_X9_takeRegister.1 16 = .ok (.isub, 1) := by decide +kernel
theorem dm_X9_takeRegister_17 : decode M_X9_takeRegister.1 17 = .ok (.iconst 2, 1) := by decide +kernel
theorem dm_X9_takeRegister_18 : decode M_X9_takeRegister.1 18 = .ok (.if_icmp .gt 11, 3) := by decide +kernel
theorem dm_X9_takeRegister_21 : decode M_X9_takeRegister.1 21 = .ok (.lload_n 2, 1) := by decide +kernel
theorem dm_X9_takeRegister_22 : decode M_X9_takeRegister.1 22 = .ok (.ldc2_w 71, 3) := by decide +kernel
theorem dm_X9_takeRegister_25 : decode M_X9_takeRegister.1 25 = .ok (.lcmp, 1) := by decide +kernel
theorem dm_X9_takeRegister_26 : decode M_X9_takeRegister.1 26 = .ok (.ifCond .lt 8, 3) := by decide +kernel
theorem dm_X9_takeRegister_29 : decode M_X9_takeRegister.1 29 = .ok (.bipush 63, 2) := by decide +kernel
theorem dm_X9_takeRegister_31 : decode M_X9_takeRegister.1 31 = .ok (.goto 5, 3) := by decide +kernel
theorem dm_X9_takeRegister_34 : decode M_X9_takeRegister.1 34 = .ok (.bipush 120, 2) := by decide +kernel
theorem dm_X9_takeRegister_36 : decode M_X9_takeRegister.1 36 = .ok (.lload_n 2, 1) := by decide +kernel
theorem dm_X9_takeRegister_37 : decode M_X9_takeRegister.1 37 = .ok (.invokevirtual 56, 3) := by decide +kernel
theorem dm_X9_takeRegister_40 : decode M_X9_takeRegister.1 40 = .ok (.return_, 1) := by decide +kernel
theorem gc_X9_takeRegister_67 : g_cv M_X9_takeRegister 67 M_X9_takeDigits yX9_takeDigits 0 := ⟨tw232, tw233, tw234, tw85, tw235, ⟨rfl, rfl, rfl, rfl⟩, gd_X9_takeDigits, ⟨by decide, by decide⟩⟩
theorem gc_X9_takeRegister_56 : g_cv M_X9_takeRegister 56 M_X9_add yX9_add 2 := ⟨tw238, tw239, tw240, tw85, tw241, ⟨rfl, rfl, rfl, rfl⟩, gd_X9_add, ⟨by decide, by decide⟩⟩
def f_X9_takeRegister_c37 (kat : Int32) (z2_0 : Int32) (z2_1 : (Nat → Int32)) (z2_2 : (Nat → Int64)) : Int32 × Int32 × (Nat → Int32) × (Nat → Int64) := (z2_0, kat, z2_1, z2_2)
def f_X9_takeRegister_36 (kcount : Int32) (kat : Int32) (kinds : Nat → Int32) (kvals : Nat → Int64) (l2 : Int64) (s1 : Int32) : Int32 × Int32 × (Nat → Int32) × (Nat → Int64) := (f_X9_takeRegister_c37 kat (f_X9_add s1 l2 kcount kinds kvals).1 (f_X9_add s1 l2 kcount kinds kvals).2.1 (f_X9_add s1 l2 kcount kinds kvals).2.2)
set_option maxRecDepth 20000 in
theorem j_X9_takeRegister_36 {l2 : Int64} {s1 : Int32} {kcount : Int32} {klen : Int32} {kat : Int32} {kinds : Nat → Int32} {kvals : Nat → Int64} {tchars : Nat → Int32} {r_0 : Int32} {r_1 : Int32} {r_2 : (Nat → Int32)} {r_3 : (Nat → Int64)} (hres : (r_0, r_1, r_2, r_3) = (f_X9_takeRegister_36 kcount kat kinds kvals l2 s1)) (hc : 0 ≤ kcount.toInt ∧ kcount.toInt ≤ 401) : G M_X9_takeRegister 0 0 36 [(2, .long l2)] [.int s1, .ref 0] (w_K kcount klen kat kinds kvals tchars) (none) (w_K r_0 klen r_1 r_2 r_3 tchars) := by
  rw [f_X9_takeRegister_36] at hres
  refine G.lload_n (pc := 36) dm_X9_takeRegister_36 rfl ?_
  obtain ⟨z2_0, z2_1, z2_2, hz2⟩ := g_ex3 (f_X9_add s1 l2 kcount kinds kvals)
  refine G.callV0 (pc := 37) (rest := []) (st1 := []) dm_X9_takeRegister_37 gc_X9_takeRegister_56 (k_X9_add (kind := s1) (value := l2) (kcount := kcount) (klen := klen) (kat := kat) (kinds := kinds) (kvals := kvals) (tchars := tchars) (by assumption) hz2) rfl rfl rfl rfl rfl rfl rfl rfl ?_
  replace hres : (r_0, r_1, r_2, r_3) = f_X9_takeRegister_c37 kat z2_0 z2_1 z2_2 := hres.trans (by rw [← hz2])
  rw [f_X9_takeRegister_c37] at hres
  cases hres
  exact G.vreturn (pc := 40) dm_X9_takeRegister_40 rfl rfl rfl
def f_X9_takeRegister_c6 (kcount : Int32) (kat : Int32) (kinds : Nat → Int32) (kvals : Nat → Int64) (z1_0 : Int64) (z1_1 : Int32) : Int32 × Int32 × (Nat → Int32) × (Nat → Int64) := (if (2 : Int32) < (z1_1 - kat) then (f_X9_takeRegister_36 kcount z1_1 kinds kvals z1_0 (63 : Int32)) else (if (lg_cmp z1_0 (16 : Int64)) < 0 then (f_X9_takeRegister_36 kcount z1_1 kinds kvals z1_0 (120 : Int32)) else (f_X9_takeRegister_36 kcount z1_1 kinds kvals z1_0 (63 : Int32))))
def f_X9_takeRegister (kcount : Int32) (klen : Int32) (kat : Int32) (kinds : Nat → Int32) (kvals : Nat → Int64) (tchars : Nat → Int32) : Int32 × Int32 × (Nat → Int32) × (Nat → Int64) := (f_X9_takeRegister_c6 kcount kat kinds kvals (f_X9_takeDigits klen kat tchars).1 (f_X9_takeDigits klen kat tchars).2)
set_option maxRecDepth 20000 in
theorem k_X9_takeRegister {kcount : Int32} {klen : Int32} {kat : Int32} {kinds : Nat → Int32} {kvals : Nat → Int64} {tchars : Nat → Int32} (hk : 0 ≤ kat.toInt ∧ kat.toInt ≤ klen.toInt ∧ klen.toInt ≤ 400) (hc : 0 ≤ kcount.toInt ∧ kcount.toInt ≤ 401) {r_0 : Int32} {r_1 : Int32} {r_2 : (Nat → Int32)} {r_3 : (Nat → Int64)} (hres : (r_0, r_1, r_2, r_3) = f_X9_takeRegister kcount klen kat kinds kvals tchars) : K M_X9_takeRegister yX9_takeRegister [.ref 0] (w_K kcount klen kat kinds kvals tchars) (none) (w_K r_0 klen r_1 r_2 r_3 tchars) := by
  refine K.of (lv := [(0, .ref 0)]) (by decide +kernel) rfl rfl rfl ?_
  rw [f_X9_takeRegister] at hres
  refine G.aload_n (pc := 0) dm_X9_takeRegister_0 rfl ?_
  refine G.getfield (pc := 1) dm_X9_takeRegister_1 gf_X9_27 rfl rfl ?_
  refine G.istore_n (pc := 4) (lv1 := [(1, .int kat), (0, .ref 0)]) dm_X9_takeRegister_4 rfl rfl ?_
  refine G.aload_n (pc := 5) dm_X9_takeRegister_5 rfl ?_
  obtain ⟨z1_0, z1_1, hz1⟩ := g_ex2 (f_X9_takeDigits klen kat tchars)
  refine G.callV0 (pc := 6) (rest := []) (st1 := [.long z1_0]) dm_X9_takeRegister_6 gc_X9_takeRegister_67 (k_X9_takeDigits (kcount := kcount) (klen := klen) (kat := kat) (kinds := kinds) (kvals := kvals) (tchars := tchars) (by assumption) hz1) rfl rfl rfl rfl rfl rfl rfl rfl ?_
  replace hres : (r_0, r_1, r_2, r_3) = f_X9_takeRegister_c6 kcount kat kinds kvals z1_0 z1_1 := hres.trans (by rw [← hz1])
  rw [f_X9_takeRegister_c6] at hres
  refine G.lstore_n (pc := 9) (lv1 := [(2, .long z1_0), (1, .int kat), (0, .ref 0)]) dm_X9_takeRegister_9 rfl rfl ?_
  refine G.aload_n (pc := 10) dm_X9_takeRegister_10 rfl ?_
  refine G.aload_n (pc := 11) dm_X9_takeRegister_11 rfl ?_
  refine G.getfield (pc := 12) dm_X9_takeRegister_12 gf_X9_27 rfl rfl ?_
  refine G.iload_n (pc := 15) dm_X9_takeRegister_15 rfl ?_
  refine G.isub (pc := 16) dm_X9_takeRegister_16 ?_
  refine G.iconst (pc := 17) (v := (2 : Int32)) dm_X9_takeRegister_17 qi_2 ?_
  refine G.icmp_gt (pc := 18) (tgt := 29) dm_X9_takeRegister_18 (by decide) (fun c18 => ?_) (fun c18 => ?_)
  · rw [if_pos c18] at hres
    refine G.bipush (pc := 29) (v := (63 : Int32)) dm_X9_takeRegister_29 qb_63 ?_
    refine G.goto (pc := 31) (tgt := 36) dm_X9_takeRegister_31 (by decide) ?_
    refine G.lvp [0] rfl ?_
    exact j_X9_takeRegister_36 hres (by assumption)
  · rw [if_neg c18] at hres
    refine G.lload_n (pc := 21) dm_X9_takeRegister_21 rfl ?_
    refine G.ldc2 (pc := 22) dm_X9_takeRegister_22 tw231 ?_
    refine G.lcmp (pc := 25) dm_X9_takeRegister_25 ?_
    refine G.if_lt (pc := 26) (tgt := 34) dm_X9_takeRegister_26 (by decide) (fun c26 => ?_) (fun c26 => ?_)
    · rw [if_pos c26] at hres
      refine G.bipush (pc := 34) (v := (120 : Int32)) dm_X9_takeRegister_34 qb_120 ?_
      refine G.lvp [0] rfl ?_
      exact j_X9_takeRegister_36 hres (by assumption)
    · rw [if_neg c26] at hres
      refine G.bipush (pc := 29) (v := (63 : Int32)) dm_X9_takeRegister_29 qb_63 ?_
      refine G.goto (pc := 31) (tgt := 36) dm_X9_takeRegister_31 (by decide) ?_
      refine G.lvp [0] rfl ?_
      exact j_X9_takeRegister_36 hres (by assumption)
theorem a_X9_takeRegister_36 {l2 : Int64} {s1 : Int32} {kcount : Int32} {klen : Int32} {kat : Int32} {kinds : Nat → Int32} {kvals : Nat → Int64} {r_0 : Int32} {r_1 : Int32} {r_2 : (Nat → Int32)} {r_3 : (Nat → Int64)} (hres : (r_0, r_1, r_2, r_3) = (f_X9_takeRegister_36 kcount kat kinds kvals l2 s1)) (hk : 0 ≤ kat.toInt ∧ kat.toInt ≤ klen.toInt ∧ klen.toInt ≤ 400) (hc : 0 ≤ kcount.toInt ∧ kcount.toInt ≤ 401) (hch : q_ch kinds) : (0 ≤ r_1.toInt ∧ r_1.toInt ≤ klen.toInt ∧ klen.toInt ≤ 400) ∧ (0 ≤ r_0.toInt ∧ r_0.toInt ≤ 401) ∧ q_ch r_2 := by
  rw [f_X9_takeRegister_36] at hres
  obtain ⟨z2_0, z2_1, z2_2, hz2⟩ := g_ex3 (f_X9_add s1 l2 kcount kinds kvals)
  have hh := a_X9_add hz2 hc hch
  have hc := hh.1
  have hch := hh.2
  replace hres : (r_0, r_1, r_2, r_3) = f_X9_takeRegister_c37 kat z2_0 z2_1 z2_2 := hres.trans (by rw [← hz2])
  rw [f_X9_takeRegister_c37] at hres
  cases hres
  exact ⟨hk, hc, hch⟩
theorem a_X9_takeRegister {kcount : Int32} {klen : Int32} {kat : Int32} {kinds : Nat → Int32} {kvals : Nat → Int64} {tchars : Nat → Int32} {r_0 : Int32} {r_1 : Int32} {r_2 : (Nat → Int32)} {r_3 : (Nat → Int64)} (hres : (r_0, r_1, r_2, r_3) = f_X9_takeRegister kcount klen kat kinds kvals tchars) (hk : 0 ≤ kat.toInt ∧ kat.toInt ≤ klen.toInt ∧ klen.toInt ≤ 400) (hc : 0 ≤ kcount.toInt ∧ kcount.toInt ≤ 401) (hch : q_ch kinds) : (0 ≤ r_1.toInt ∧ r_1.toInt ≤ klen.toInt ∧ klen.toInt ≤ 400) ∧ (0 ≤ r_0.toInt ∧ r_0.toInt ≤ 401) ∧ q_ch r_2 := by
  rw [f_X9_takeRegister] at hres
  obtain ⟨z1_0, z1_1, hz1⟩ := g_ex2 (f_X9_takeDigits klen kat tchars)
  have hk := a_X9_takeDigits hz1 hk
  replace hres : (r_0, r_1, r_2, r_3) = f_X9_takeRegister_c6 kcount kat kinds kvals z1_0 z1_1 := hres.trans (by rw [← hz1])
  rw [f_X9_takeRegister_c6] at hres
  by_cases c18 : (2 : Int32) < (z1_1 - kat)
  · rw [if_pos c18] at hres
    exact a_X9_takeRegister_36 hres (by assumption) (by assumption) (by assumption)
  · rw [if_neg c18] at hres
    by_cases c26 : (lg_cmp z1_0 (16 : Int64)) < 0
    · rw [if_pos c26] at hres
      exact a_X9_takeRegister_36 hres (by assumption) (by assumption) (by assumption)
    · rw [if_neg c26] at hres
      exact a_X9_takeRegister_36 hres (by assumption) (by assumption) (by assumption)
abbrev M_X9_takeNumber : g_M := (cX9_takeNumber, 5, RX9, none, { frames := 2, cells := 0, slots := 0, locals := 43 }, 0, 0)
theorem dm_X9_takeNumber_0 : decode M_X9_takeNumber.1 0 = .ok (.iload_n 1, 1) := by decide +kernel
theorem dm_X9_takeNumber_1 : decode M_X9_takeNumber.1 1 = .ok (.ifCond .eq 13, 3) := by decide +kernel
theorem dm_X9_takeNumber_4 : decode M_X9_takeNumber.1 4 = .ok (.aload_n 0, 1) := by decide +kernel
theorem dm_X9_takeNumber_5 : decode M_X9_takeNumber.1 5 = .ok (.dup, 1) := by decide +kernel
theorem dm_X9_takeNumber_6 : decode M_X9_takeNumber.1 6 = .ok (.getfield 27, 3) := by decide +kernel
theorem dm_X9_takeNumber_9 : decode M_X9_takeNumber.1 9 = .ok (.iconst 1, 1) := by decide +kernel
theorem dm_X9_takeNumber_10 : decode M_X9_takeNumber.1 10 = .ok (.iadd, 1) := by decide +kernel
theorem dm_X9_takeNumber_11 : decode M_X9_takeNumber.1 11 = .ok (.putfield 27, 3) := by decide +kernel
theorem dm_X9_takeNumber_14 : decode M_X9_takeNumber.1 14 = .ok (.aload_n 0, 1) := by decide +kernel
theorem dm_X9_takeNumber_15 : decode M_X9_takeNumber.1 15 = .ok (.getfield 27, 3) := by decide +kernel
theorem dm_X9_takeNumber_18 : decode M_X9_takeNumber.1 18 = .ok (.istore_n 2, 1) := by decide +kernel
theorem dm_X9_takeNumber_19 : decode M_X9_takeNumber.1 19 = .ok (.aload_n 0, 1) := by decide +kernel
theorem dm_X9_takeNumber_20 : decode M_X9_takeNumber.1 20 = .ok (.invokevirtual 67, 3) := by decide +kernel
theorem dm_X9_takeNumber_23 : decode M_X9_takeNumber.1 23 = .ok (.lstore_n 3, 1) := by decide +kernel
theorem dm_X9_takeNumber_24 : decode M_X9_takeNumber.1 24 = .ok (.aload_n 0, 1) := by decide +kernel
theorem dm_X9_takeNumber_25 : decode M_X9_takeNumber.1 25 = .ok (.aload_n 0, 1) := by decide +kernel
theorem dm_X9_takeNumber_26 : decode M_X9_takeNumber.1 26 = .ok (.getfield 27, 3) := by decide +kernel
theorem dm_X9_takeNumber_29 : decode M_X9_takeNumber.1 29 = .ok (.iload_n 2, 1) := by decide +kernel
theorem dm_X9_takeNumber_30 : decode M_X9_takeNumber.1 30 = .ok (.if_icmp .ne 8, 3) := by decide +kernel
theorem dm_X9_takeNumber_33 : decode M_X9_takeNumber.1 33 = .ok (.bipush 63, 2) := by decide +kernel
theorem dm_X9_takeNumber_35 : decode M_X9_takeNumber.1 35 = .ok (.goto 5, 3) := by decide +kernel
theorem dm_X9_takeNumber_38 : decode M_X9_takeNumber.1 38 = .ok (.bipush 48, 2) := by decide +kernel
theorem dm_X9_takeNumber_40 : decode M_X9_takeNumber.1 40 = .ok (.iload_n 1, 1) := by decide +kernel
theorem dm_X9_takeNumber_41 : decode M_X9_takeNumber.1 41 = .ok (.ifCond .eq 8, 3) := by decide +kernel
theorem dm_X9_takeNumber_44 : decode M_X9_takeNumber.1 44 = .ok (.lload_n 3, 1) := by decide +kernel
theorem dm_X9_takeNumber_45 : decode M_X9_takeNumber.1 45 = .ok (.lneg, 1) := by decide +kernel
theorem dm_X9_takeNumber_46 : decode M_X9_takeNumber.1 46 = .ok (.goto 4, 3) := by decide +kernel
theorem dm_X9_takeNumber_49 : decode M_X9_takeNumber.1 49 = .ok (.lload_n 3, 1) := by decide +kernel
theorem dm_X9_takeNumber_50 : decode M_X9_takeNumber.1 50 = .ok (.invokevirtual 56, 3) := by decide +kernel
theorem dm_X9_takeNumber_53 : decode M_X9_takeNumber.1 53 = .ok (.return_, 1) := by decide +kernel
theorem gc_X9_takeNumber_67 : g_cv M_X9_takeNumber 67 M_X9_takeDigits yX9_takeDigits 0 := ⟨tw232, tw233, tw234, tw85, tw235, ⟨rfl, rfl, rfl, rfl⟩, gd_X9_takeDigits, ⟨by decide, by decide⟩⟩
theorem gc_X9_takeNumber_56 : g_cv M_X9_takeNumber 56 M_X9_add yX9_add 2 := ⟨tw238, tw239, tw240, tw85, tw241, ⟨rfl, rfl, rfl, rfl⟩, gd_X9_add, ⟨by decide, by decide⟩⟩
def f_X9_takeNumber_c50 (kat : Int32) (z2_0 : Int32) (z2_1 : (Nat → Int32)) (z2_2 : (Nat → Int64)) : Int32 × Int32 × (Nat → Int32) × (Nat → Int64) := (z2_0, kat, z2_1, z2_2)
def f_X9_takeNumber_50 (kcount : Int32) (kat : Int32) (kinds : Nat → Int32) (kvals : Nat → Int64) (s1 : Int32) (s2 : Int64) : Int32 × Int32 × (Nat → Int32) × (Nat → Int64) := (f_X9_takeNumber_c50 kat (f_X9_add s1 s2 kcount kinds kvals).1 (f_X9_add s1 s2 kcount kinds kvals).2.1 (f_X9_add s1 s2 kcount kinds kvals).2.2)
set_option maxRecDepth 20000 in
theorem j_X9_takeNumber_50 {s1 : Int32} {s2 : Int64} {kcount : Int32} {klen : Int32} {kat : Int32} {kinds : Nat → Int32} {kvals : Nat → Int64} {tchars : Nat → Int32} {r_0 : Int32} {r_1 : Int32} {r_2 : (Nat → Int32)} {r_3 : (Nat → Int64)} (hres : (r_0, r_1, r_2, r_3) = (f_X9_takeNumber_50 kcount kat kinds kvals s1 s2)) (hc : 0 ≤ kcount.toInt ∧ kcount.toInt ≤ 401) : G M_X9_takeNumber 0 0 50 [] [.long s2, .int s1, .ref 0] (w_K kcount klen kat kinds kvals tchars) (none) (w_K r_0 klen r_1 r_2 r_3 tchars) := by
  rw [f_X9_takeNumber_50] at hres
  obtain ⟨z2_0, z2_1, z2_2, hz2⟩ := g_ex3 (f_X9_add s1 s2 kcount kinds kvals)
  refine G.callV0 (pc := 50) (rest := []) (st1 := []) dm_X9_takeNumber_50 gc_X9_takeNumber_56 (k_X9_add (kind := s1) (value := s2) (kcount := kcount) (klen := klen) (kat := kat) (kinds := kinds) (kvals := kvals) (tchars := tchars) (by assumption) hz2) rfl rfl rfl rfl rfl rfl rfl rfl ?_
  replace hres : (r_0, r_1, r_2, r_3) = f_X9_takeNumber_c50 kat z2_0 z2_1 z2_2 := hres.trans (by rw [← hz2])
  rw [f_X9_takeNumber_c50] at hres
  cases hres
  exact G.vreturn (pc := 53) dm_X9_takeNumber_53 rfl rfl rfl
def f_X9_takeNumber_40 (kcount : Int32) (kat : Int32) (kinds : Nat → Int32) (kvals : Nat → Int64) (l1 : Int32) (l3 : Int64) (s1 : Int32) : Int32 × Int32 × (Nat → Int32) × (Nat → Int64) := (if l1 = 0 then (f_X9_takeNumber_50 kcount kat kinds kvals s1 l3) else (f_X9_takeNumber_50 kcount kat kinds kvals s1 (-l3)))
set_option maxRecDepth 20000 in
theorem j_X9_takeNumber_40 {l1 : Int32} {l3 : Int64} {s1 : Int32} {kcount : Int32} {klen : Int32} {kat : Int32} {kinds : Nat → Int32} {kvals : Nat → Int64} {tchars : Nat → Int32} {r_0 : Int32} {r_1 : Int32} {r_2 : (Nat → Int32)} {r_3 : (Nat → Int64)} (hres : (r_0, r_1, r_2, r_3) = (f_X9_takeNumber_40 kcount kat kinds kvals l1 l3 s1)) (hc : 0 ≤ kcount.toInt ∧ kcount.toInt ≤ 401) : G M_X9_takeNumber 0 0 40 [(1, .int l1), (3, .long l3)] [.int s1, .ref 0] (w_K kcount klen kat kinds kvals tchars) (none) (w_K r_0 klen r_1 r_2 r_3 tchars) := by
  rw [f_X9_takeNumber_40] at hres
  refine G.iload_n (pc := 40) dm_X9_takeNumber_40 rfl ?_
  refine G.if_eq (pc := 41) (tgt := 49) dm_X9_takeNumber_41 (by decide) (fun c41 => ?_) (fun c41 => ?_)
  · rw [if_pos c41] at hres
    refine G.lload_n (pc := 49) dm_X9_takeNumber_49 rfl ?_
    refine G.lvp [] rfl ?_
    exact j_X9_takeNumber_50 hres (by assumption)
  · rw [if_neg c41] at hres
    refine G.lload_n (pc := 44) dm_X9_takeNumber_44 rfl ?_
    refine G.lneg (pc := 45) dm_X9_takeNumber_45 ?_
    refine G.goto (pc := 46) (tgt := 50) dm_X9_takeNumber_46 (by decide) ?_
    refine G.lvp [] rfl ?_
    exact j_X9_takeNumber_50 hres (by assumption)
def f_X9_takeNumber_c20 (kcount : Int32) (kat : Int32) (kinds : Nat → Int32) (kvals : Nat → Int64) (l1 : Int32) (z1_0 : Int64) (z1_1 : Int32) : Int32 × Int32 × (Nat → Int32) × (Nat → Int64) := (if z1_1 = kat then (f_X9_takeNumber_40 kcount z1_1 kinds kvals l1 z1_0 (63 : Int32)) else (f_X9_takeNumber_40 kcount z1_1 kinds kvals l1 z1_0 (48 : Int32)))
def f_X9_takeNumber_14 (kcount : Int32) (klen : Int32) (kat : Int32) (kinds : Nat → Int32) (kvals : Nat → Int64) (tchars : Nat → Int32) (l1 : Int32) : Int32 × Int32 × (Nat → Int32) × (Nat → Int64) := (f_X9_takeNumber_c20 kcount kat kinds kvals l1 (f_X9_takeDigits klen kat tchars).1 (f_X9_takeDigits klen kat tchars).2)
set_option maxRecDepth 20000 in
theorem j_X9_takeNumber_14 {l1 : Int32} {kcount : Int32} {klen : Int32} {kat : Int32} {kinds : Nat → Int32} {kvals : Nat → Int64} {tchars : Nat → Int32} {r_0 : Int32} {r_1 : Int32} {r_2 : (Nat → Int32)} {r_3 : (Nat → Int64)} (hres : (r_0, r_1, r_2, r_3) = (f_X9_takeNumber_14 kcount klen kat kinds kvals tchars l1)) (hk : 0 ≤ kat.toInt ∧ kat.toInt ≤ klen.toInt ∧ klen.toInt ≤ 400) (hc : 0 ≤ kcount.toInt ∧ kcount.toInt ≤ 401) : G M_X9_takeNumber 0 0 14 [(0, .ref 0), (1, .int l1)] [] (w_K kcount klen kat kinds kvals tchars) (none) (w_K r_0 klen r_1 r_2 r_3 tchars) := by
  rw [f_X9_takeNumber_14] at hres
  refine G.aload_n (pc := 14) dm_X9_takeNumber_14 rfl ?_
  refine G.getfield (pc := 15) dm_X9_takeNumber_15 gf_X9_27 rfl rfl ?_
  refine G.istore_n (pc := 18) (lv1 := [(2, .int kat), (0, .ref 0), (1, .int l1)]) dm_X9_takeNumber_18 rfl rfl ?_
  refine G.aload_n (pc := 19) dm_X9_takeNumber_19 rfl ?_
  obtain ⟨z1_0, z1_1, hz1⟩ := g_ex2 (f_X9_takeDigits klen kat tchars)
  refine G.callV0 (pc := 20) (rest := []) (st1 := [.long z1_0]) dm_X9_takeNumber_20 gc_X9_takeNumber_67 (k_X9_takeDigits (kcount := kcount) (klen := klen) (kat := kat) (kinds := kinds) (kvals := kvals) (tchars := tchars) (by assumption) hz1) rfl rfl rfl rfl rfl rfl rfl rfl ?_
  replace hres : (r_0, r_1, r_2, r_3) = f_X9_takeNumber_c20 kcount kat kinds kvals l1 z1_0 z1_1 := hres.trans (by rw [← hz1])
  rw [f_X9_takeNumber_c20] at hres
  refine G.lstore_n (pc := 23) (lv1 := [(3, .long z1_0), (2, .int kat), (0, .ref 0), (1, .int l1)]) dm_X9_takeNumber_23 rfl rfl ?_
  refine G.aload_n (pc := 24) dm_X9_takeNumber_24 rfl ?_
  refine G.aload_n (pc := 25) dm_X9_takeNumber_25 rfl ?_
  refine G.getfield (pc := 26) dm_X9_takeNumber_26 gf_X9_27 rfl rfl ?_
  refine G.iload_n (pc := 29) dm_X9_takeNumber_29 rfl ?_
  refine G.icmp_ne (pc := 30) (tgt := 38) dm_X9_takeNumber_30 (by decide) (fun c30 => ?_) (fun c30 => ?_)
  · rw [if_neg c30] at hres
    refine G.bipush (pc := 38) (v := (48 : Int32)) dm_X9_takeNumber_38 qb_48 ?_
    refine G.lvp [3, 0] rfl ?_
    exact j_X9_takeNumber_40 hres (by assumption)
  · rw [if_pos c30] at hres
    refine G.bipush (pc := 33) (v := (63 : Int32)) dm_X9_takeNumber_33 qb_63 ?_
    refine G.goto (pc := 35) (tgt := 40) dm_X9_takeNumber_35 (by decide) ?_
    refine G.lvp [3, 0] rfl ?_
    exact j_X9_takeNumber_40 hres (by assumption)
def f_X9_takeNumber (negative : Int32) (kcount : Int32) (klen : Int32) (kat : Int32) (kinds : Nat → Int32) (kvals : Nat → Int64) (tchars : Nat → Int32) : Int32 × Int32 × (Nat → Int32) × (Nat → Int64) := (if negative = 0 then (f_X9_takeNumber_14 kcount klen kat kinds kvals tchars negative) else (f_X9_takeNumber_14 kcount klen (kat + (1 : Int32)) kinds kvals tchars negative))
set_option maxRecDepth 20000 in
theorem k_X9_takeNumber {negative : Int32} {kcount : Int32} {klen : Int32} {kat : Int32} {kinds : Nat → Int32} {kvals : Nat → Int64} {tchars : Nat → Int32} (hk : 0 ≤ kat.toInt ∧ kat.toInt ≤ klen.toInt ∧ klen.toInt ≤ 400) (hc : 0 ≤ kcount.toInt ∧ kcount.toInt ≤ 401) (hneg : ¬ negative = 0 → kat.toInt < klen.toInt) {r_0 : Int32} {r_1 : Int32} {r_2 : (Nat → Int32)} {r_3 : (Nat → Int64)} (hres : (r_0, r_1, r_2, r_3) = f_X9_takeNumber negative kcount klen kat kinds kvals tchars) : K M_X9_takeNumber yX9_takeNumber [.ref 0, .int negative] (w_K kcount klen kat kinds kvals tchars) (none) (w_K r_0 klen r_1 r_2 r_3 tchars) := by
  refine K.of (lv := [(0, .ref 0), (1, .int negative)]) (by decide +kernel) rfl rfl rfl ?_
  rw [f_X9_takeNumber] at hres
  refine G.iload_n (pc := 0) dm_X9_takeNumber_0 rfl ?_
  refine G.if_eq (pc := 1) (tgt := 14) dm_X9_takeNumber_1 (by decide) (fun c1 => ?_) (fun c1 => ?_)
  · rw [if_pos c1] at hres
    exact j_X9_takeNumber_14 hres (by assumption) (by assumption)
  · rw [if_neg c1] at hres
    refine G.aload_n (pc := 4) dm_X9_takeNumber_4 rfl ?_
    refine G.dup (pc := 5) dm_X9_takeNumber_5 rfl ?_
    refine G.getfield (pc := 6) dm_X9_takeNumber_6 gf_X9_27 rfl rfl ?_
    refine G.iconst (pc := 9) (v := (1 : Int32)) dm_X9_takeNumber_9 qi_1 ?_
    refine G.iadd (pc := 10) dm_X9_takeNumber_10 ?_
    refine G.putfield (pc := 11) (ws1 := (w_K kcount klen (kat + (1 : Int32)) kinds kvals tchars)) dm_X9_takeNumber_11 gw_X9_27 rfl (g_fit_i _) rfl rfl ?_
    exact j_X9_takeNumber_14 hres (q_kup hk (hneg c1)) hc
theorem a_X9_takeNumber_50 {s1 : Int32} {s2 : Int64} {kcount : Int32} {klen : Int32} {kat : Int32} {kinds : Nat → Int32} {kvals : Nat → Int64} {r_0 : Int32} {r_1 : Int32} {r_2 : (Nat → Int32)} {r_3 : (Nat → Int64)} (hres : (r_0, r_1, r_2, r_3) = (f_X9_takeNumber_50 kcount kat kinds kvals s1 s2)) (hk : 0 ≤ kat.toInt ∧ kat.toInt ≤ klen.toInt ∧ klen.toInt ≤ 400) (hc : 0 ≤ kcount.toInt ∧ kcount.toInt ≤ 401) (hch : q_ch kinds) : (0 ≤ r_1.toInt ∧ r_1.toInt ≤ klen.toInt ∧ klen.toInt ≤ 400) ∧ (0 ≤ r_0.toInt ∧ r_0.toInt ≤ 401) ∧ q_ch r_2 := by
  rw [f_X9_takeNumber_50] at hres
  obtain ⟨z2_0, z2_1, z2_2, hz2⟩ := g_ex3 (f_X9_add s1 s2 kcount kinds kvals)
  have hh := a_X9_add hz2 hc hch
  have hc := hh.1
  have hch := hh.2
  replace hres : (r_0, r_1, r_2, r_3) = f_X9_takeNumber_c50 kat z2_0 z2_1 z2_2 := hres.trans (by rw [← hz2])
  rw [f_X9_takeNumber_c50] at hres
  cases hres
  exact ⟨hk, hc, hch⟩
theorem a_X9_takeNumber_40 {l1 : Int32} {l3 : Int64} {s1 : Int32} {kcount : Int32} {klen : Int32} {kat : Int32} {kinds : Nat → Int32} {kvals : Nat → Int64} {r_0 : Int32} {r_1 : Int32} {r_2 : (Nat → Int32)} {r_3 : (Nat → Int64)} (hres : (r_0, r_1, r_2, r_3) = (f_X9_takeNumber_40 kcount kat kinds kvals l1 l3 s1)) (hk : 0 ≤ kat.toInt ∧ kat.toInt ≤ klen.toInt ∧ klen.toInt ≤ 400) (hc : 0 ≤ kcount.toInt ∧ kcount.toInt ≤ 401) (hch : q_ch kinds) : (0 ≤ r_1.toInt ∧ r_1.toInt ≤ klen.toInt ∧ klen.toInt ≤ 400) ∧ (0 ≤ r_0.toInt ∧ r_0.toInt ≤ 401) ∧ q_ch r_2 := by
  rw [f_X9_takeNumber_40] at hres
  by_cases c41 : l1 = 0
  · rw [if_pos c41] at hres
    exact a_X9_takeNumber_50 hres (by assumption) (by assumption) (by assumption)
  · rw [if_neg c41] at hres
    exact a_X9_takeNumber_50 hres (by assumption) (by assumption) (by assumption)
theorem a_X9_takeNumber_14 {l1 : Int32} {kcount : Int32} {klen : Int32} {kat : Int32} {kinds : Nat → Int32} {kvals : Nat → Int64} {tchars : Nat → Int32} {r_0 : Int32} {r_1 : Int32} {r_2 : (Nat → Int32)} {r_3 : (Nat → Int64)} (hres : (r_0, r_1, r_2, r_3) = (f_X9_takeNumber_14 kcount klen kat kinds kvals tchars l1)) (hk : 0 ≤ kat.toInt ∧ kat.toInt ≤ klen.toInt ∧ klen.toInt ≤ 400) (hc : 0 ≤ kcount.toInt ∧ kcount.toInt ≤ 401) (hch : q_ch kinds) : (0 ≤ r_1.toInt ∧ r_1.toInt ≤ klen.toInt ∧ klen.toInt ≤ 400) ∧ (0 ≤ r_0.toInt ∧ r_0.toInt ≤ 401) ∧ q_ch r_2 := by
  rw [f_X9_takeNumber_14] at hres
  obtain ⟨z1_0, z1_1, hz1⟩ := g_ex2 (f_X9_takeDigits klen kat tchars)
  have hk := a_X9_takeDigits hz1 hk
  replace hres : (r_0, r_1, r_2, r_3) = f_X9_takeNumber_c20 kcount kat kinds kvals l1 z1_0 z1_1 := hres.trans (by rw [← hz1])
  rw [f_X9_takeNumber_c20] at hres
  by_cases c30 : z1_1 = kat
  · rw [if_pos c30] at hres
    exact a_X9_takeNumber_40 hres (by assumption) (by assumption) (by assumption)
  · rw [if_neg c30] at hres
    exact a_X9_takeNumber_40 hres (by assumption) (by assumption) (by assumption)
theorem a_X9_takeNumber {negative : Int32} {kcount : Int32} {klen : Int32} {kat : Int32} {kinds : Nat → Int32} {kvals : Nat → Int64} {tchars : Nat → Int32} {r_0 : Int32} {r_1 : Int32} {r_2 : (Nat → Int32)} {r_3 : (Nat → Int64)} (hres : (r_0, r_1, r_2, r_3) = f_X9_takeNumber negative kcount klen kat kinds kvals tchars) (hk : 0 ≤ kat.toInt ∧ kat.toInt ≤ klen.toInt ∧ klen.toInt ≤ 400) (hc : 0 ≤ kcount.toInt ∧ kcount.toInt ≤ 401) (hch : q_ch kinds) (hneg : ¬ negative = 0 → kat.toInt < klen.toInt) : (0 ≤ r_1.toInt ∧ r_1.toInt ≤ klen.toInt ∧ klen.toInt ≤ 400) ∧ (0 ≤ r_0.toInt ∧ r_0.toInt ≤ 401) ∧ q_ch r_2 := by
  rw [f_X9_takeNumber] at hres
  by_cases c1 : negative = 0
  · rw [if_pos c1] at hres
    exact a_X9_takeNumber_14 hres (by assumption) (by assumption) (by assumption)
  · rw [if_neg c1] at hres
    exact a_X9_takeNumber_14 hres (q_kup hk (hneg c1)) hc hch
abbrev M_X9_takeLetters : g_M := (cX9_takeLetters, 5, RX9, none, { frames := 3, cells := 0, slots := 0, locals := 66 }, 0, 0)
theorem dm_X9_takeLetters_0 : decode M_X9_takeLetters.1 0 = .ok (.aload_n 0, 1) := by decide +kernel
theorem dm_X9_takeLetters_1 : decode M_X9_takeLetters.1 1 = .ok (.getfield 27, 3) := by decide +kernel
theorem dm_X9_takeLetters_4 : decode M_X9_takeLetters.1 4 = .ok (.istore_n 1, 1) := by decide +kernel
theorem dm_X9_takeLetters_5 : decode M_X9_takeLetters.1 5 = .ok (.lconst 0, 1) := by decide +kernel
theorem dm_X9_takeLetters_6 : decode M_X9_takeLetters.1 6 = .ok (.lstore_n 2, 1) := by decide +kernel
theorem dm_X9_takeLetters_7 : decode M_X9_takeLetters.1 7 = .ok (.aload_n 0, 1) := by decide +kernel
theorem dm_X9_takeLetters_8 : decode M_X9_takeLetters.1 8 = .ok (.getfield 27, 3) := by decide +kernel
theorem dm_X9_takeLetters_11 : decode M_X9_takeLetters.1 11 = .ok (.aload_n 0, 1) := by decide +kernel
theorem dm_X9_takeLetters_12 : decode M_X9_takeLetters.1 12 = .ok (.getfield 19, 3) := by decide +kernel
theorem dm_X9_takeLetters_15 : decode M_X9_takeLetters.1 15 = .ok (.getfield 30, 3) := by decide +kernel
theorem dm_X9_takeLetters_18 : decode M_X9_takeLetters.1 18 = .ok (.if_icmp .ge 51, 3) := by decide +kernel
theorem dm_X9_takeLetters_21 : decode M_X9_takeLetters.1 21 = .ok (.aload_n 0, 1) := by decide +kernel
theorem dm_X9_takeLetters_22 : decode M_X9_takeLetters.1 22 = .ok (.getfield 19, 3) := by decide +kernel
theorem dm_X9_takeLetters_25 : decode M_X9_takeLetters.1 25 = .ok (.getfield 35, 3) := by decide +kernel
theorem dm_X9_takeLetters_28 : decode M_X9_takeLetters.1 28 = .ok (.aload_n 0, 1) := by decide +kernel
theorem dm_X9_takeLetters_29 : decode M_X9_takeLetters.1 29 = .ok (.getfield 27, 3) := by decide +kernel
theorem dm_X9_takeLetters_32 : decode M_X9_takeLetters.1 32 = .ok (.caload, 1) := by decide +kernel
theorem dm_X9_takeLetters_33 : decode M_X9_takeLetters.1 33 = .ok (.invokestatic 38, 3) := by decide +kernel
theorem dm_X9_takeLetters_36 : decode M_X9_takeLetters.1 36 = .ok (.ifCond .eq 33, 3) := by decide +kernel
theorem dm_X9_takeLetters_39 : decode M_X9_takeLetters.1 39 = .ok (.lload_n 2, 1) := by decide +kernel
theorem dm_X9_takeLetters_40 : decode M_X9_takeLetters.1 40 = .ok (.aload_n 0, 1) := by decide +kernel
theorem dm_X9_takeLetters_41 : decode M_X9_takeLetters.1 41 = .ok (.getfield 19, 3) := by decide +kernel
theorem dm_X9_takeLetters_44 : decode M_X9_takeLetters.1 44 = .ok (.getfield 35, 3) := by decide +kernel
theorem dm_X9_takeLetters_47 : decode M_X9_takeLetters.1 47 = .ok (.aload_n 0, 1) := by decide +kernel
theorem dm_X9_takeLetters_48 : decode M_X9_takeLetters.1 48 = .ok (.getfield 27, 3) := by decide +kernel
theorem dm_X9_takeLetters_51 : decode M_X9_takeLetters.1 51 = .ok (.caload, 1) := by decide +kernel
theorem dm_X9_takeLetters_52 : decode M_X9_takeLetters.1 52 = .ok (.invokestatic 60, 3) := by decide +kernel
theorem dm_X9_takeLetters_55 : decode M_X9_takeLetters.1 55 = .ok (.lstore_n 2, 1) := by decide +kernel
theorem dm_X9_takeLetters_56 : decode M_X9_takeLetters.1 56 = .ok (.aload_n 0, 1) := by decide +kernel
theorem dm_X9_takeLetters_57 : decode M_X9_takeLetters.1 57 = .ok (.dup, 1) := by decide +kernel
theorem dm_X9_takeLetters_58 : decode M_X9_takeLetters.1 58 = .ok (.getfield 27, 3) := by decide +kernel
theorem dm_X9_takeLetters_61 : decode M_X9_takeLetters.1 61 = .ok (.iconst 1, 1) := by decide +kernel
theorem dm_X9_takeLetters_62 : decode M_X9_takeLetters.1 62 = .ok (.iadd, 1) := by decide +kernel
theorem dm_X9_takeLetters_63 : decode M_X9_takeLetters.1 63 = .ok (.putfield 27, 3) := by decide +kernel
theorem dm_X9_takeLetters_66 : decode M_X9_takeLetters.1 66 = .ok (.goto (-59), 3) := by decide +kernel
theorem dm_X9_takeLetters_69 : decode M_X9_takeLetters.1 69 = .ok (.aload_n 0, 1) := by decide +kernel
theorem dm_X9_takeLetters_70 : decode M_X9_takeLetters.1 70 = .ok (.getfield 27, 3) := by decide +kernel
theorem dm_X9_takeLetters_73 : decode M_X9_takeLetters.1 73 = .ok (.iload_n 1, 1) := by decide +kernel
theorem dm_X9_takeLetters_74 : decode M_X9_takeLetters.1 74 = .ok (.isub, 1) := by decide +kernel
theorem dm_X9_takeLetters_75 : decode M_X9_takeLetters.1 75 = .ok (.iconst 1, 1) := by decide +kernel
theorem dm_X9_takeLetters_76 : decode M_X9_takeLetters.1 76 = .ok (.if_icmp .ne 21, 3) := by decide +kernel
theorem dm_X9_takeLetters_79 : decode M_X9_takeLetters.1 79 = .ok (.aload_n 0, 1) := by decide +kernel
theorem dm_X9_takeLetters_80 : decode M_X9_takeLetters.1 80 = .ok (.getfield 19, 3) := by decide +kernel
theorem dm_X9_takeLetters_83 : decode M_X9_takeLetters.1 83 = .ok (.getfield 35, 3) := by decide +kernel
theorem dm_X9_takeLetters_86 : decode M_X9_takeLetters.1 86 = .ok (.iload_n 1, 1) := by decide +kernel
theorem dm_X9_takeLetters_87 : decode M_X9_takeLetters.1 87 = .ok (.caload, 1) := by decide +kernel
theorem dm_X9_takeLetters_88 : decode M_X9_takeLetters.1 88 = .ok (.bipush 120, 2) := by decide +kernel
theorem dm_X9_takeLetters_90 : decode M_X9_takeLetters.1 90 = .ok (.if_icmp .ne 7, 3) := by decide +kernel
theorem dm_X9_takeLetters_93 : decode M_X9_takeLetters.1 93 = .ok (.iconst 1, 1) := by decide +kernel
theorem dm_X9_takeLetters_94 : decode M_X9_takeLetters.1 94 = .ok (.goto 4, 3) := by decide +kernel
theorem dm_X9_takeLetters_97 : decode M_X9_takeLetters.1 97 = .ok (.iconst 0, 1) := by decide +kernel
theorem dm_X9_takeLetters_98 : decode M_X9_takeLetters.1 98 = .ok (.istore 4, 2) := by decide +kernel
theorem dm_X9_takeLetters_100 : decode M_X9_takeLetters.1 100 = .ok (.iload 4, 2) := by decide +kernel
theorem dm_X9_takeLetters_102 : decode M_X9_takeLetters.1 102 = .ok (.ifCond .eq 42, 3) := by decide +kernel
theorem dm_X9_takeLetters_105 : decode M_X9_takeLetters.1 105 = .ok (.aload_n 0, 1) := by decide +kernel
theorem dm_X9_takeLetters_106 : decode M_X9_takeLetters.1 106 = .ok (.getfield 27, 3) := by decide +kernel
theorem dm_X9_takeLetters_109 : decode M_X9_takeLetters.1 109 = .ok (.aload_n 0, 1) := by decide +kernel
theorem dm_X9_takeLetters_110 : decode M_X9_takeLetters.1 110 = .ok (.getfield 19, 3) := by decide +kernel
theorem dm_X9_takeLetters_113 : decode M_X9_takeLetters.1 113 = .ok (.getfield 30, 3) := by decide +kernel
theorem dm_X9_takeLetters_116 : decode M_X9_takeLetters.1 116 = .ok (.if_icmp .ge 28, 3) := by decide +kernel
theorem dm_X9_takeLetters_119 : decode M_X9_takeLetters.1 119 = .ok (.aload_n 0, 1) := by decide +kernel
theorem dm_X9_takeLetters_120 : decode M_X9_takeLetters.1 120 = .ok (.getfield 19, 3) := by decide +kernel
theorem dm_X9_takeLetters_123 : decode M_X9_takeLetters.1 123 = .ok (.getfield 35, 3) := by decide +kernel
theorem dm_X9_takeLetters_126 : decode M_X9_takeLetters.1 126 = .ok (.aload_n 0, 1) := by decide +kernel
theorem dm_X9_takeLetters_127 : decode M_X9_takeLetters.1 127 = .ok (.getfield 27, 3) := by decide +kernel
theorem dm_X9_takeLetters_130 : decode M_X9_takeLetters.1 130 = .ok (.caload, 1) := by decide +kernel
theorem dm_X9_takeLetters_131 : decode M_X9_takeLetters.1 131 = .ok (.invokestatic 45, 3) := by decide +kernel
theorem dm_X9_takeLetters_134 : decode M_X9_takeLetters.1 134 = .ok (.ifCond .eq 10, 3) := by decide +kernel
theorem dm_X9_takeLetters_137 : decode M_X9_takeLetters.1 137 = .ok (.aload_n 0, 1) := by decide +kernel
theorem dm_X9_takeLetters_138 : decode M_X9_takeLetters.1 138 = .ok (.invokevirtual 64, 3) := by decide +kernel
theorem dm_X9_takeLetters_141 : decode M_X9_takeLetters.1 141 = .ok (.goto 26, 3) := by decide +kernel
theorem dm_X9_takeLetters_144 : decode M_X9_takeLetters.1 144 = .ok (.aload_n 0, 1) := by decide +kernel
theorem dm_X9_takeLetters_145 : decode M_X9_takeLetters.1 145 = .ok (.aload_n 0, 1) := by decide +kernel
theorem dm_X9_takeLetters_146 : decode M_X9_takeLetters.1 146 = .ok (.getfield 27, 3) := by decide +kernel
theorem dm_X9_takeLetters_149 : decode M_X9_takeLetters.1 149 = .ok (.iload_n 1, 1) := by decide +kernel
theorem dm_X9_takeLetters_150 : decode M_X9_takeLetters.1 150 = .ok (.isub, 1) := by decide +kernel
theorem dm_X9_takeLetters_151 : decode M_X9_takeLetters.1 151 = .ok (.bipush 8, 2) := by decide +kernel
theorem dm_X9_takeLetters_153 : decode M_X9_takeLetters.1 153 = .ok (.if_icmp .le 8, 3) := by decide +kernel
theorem dm_X9_takeLetters_156 : decode M_X9_takeLetters.1 156 = .ok (.bipush 63, 2) := by decide +kernel
theorem dm_X9_takeLetters_158 : decode M_X9_takeLetters.1 158 = .ok (.goto 5, 3) := by decide +kernel
theorem dm_X9_takeLetters_161 : decode M_X9_takeLetters.1 161 = .ok (.bipush 97, 2) := by decide +kernel
theorem dm_X9_takeLetters_163 : decode M_X9_takeLetters.1 163 = .ok (.lload_n 2, 1) := by decide +kernel
theorem dm_X9_takeLetters_164 : decode M_X9_takeLetters.1 164 = .ok (.invokevirtual 56, 3) := by decide +kernel
theorem dm_X9_takeLetters_167 : decode M_X9_takeLetters.1 167 = .ok (.return_, 1) := by decide +kernel
theorem gc_X9_takeLetters_38 : g_cs M_X9_takeLetters 38 M_X9_isLetter yX9_isLetter 1 := ⟨tw214, tw215, tw85, tw216, ⟨rfl, rfl, rfl, rfl⟩, gd_X9_isLetter, ⟨by decide, by decide⟩⟩
theorem gc_X9_takeLetters_60 : g_cs M_X9_takeLetters 60 M_X9_withLetter yX9_withLetter 2 := ⟨tw221, tw222, tw85, tw223, ⟨rfl, rfl, rfl, rfl⟩, gd_X9_withLetter, ⟨by decide, by decide⟩⟩
theorem gc_X9_takeLetters_45 : g_cs M_X9_takeLetters 45 M_X9_isDigit yX9_isDigit 1 := ⟨tw224, tw225, tw85, tw226, ⟨rfl, rfl, rfl, rfl⟩, gd_X9_isDigit, ⟨by decide, by decide⟩⟩
theorem gc_X9_takeLetters_64 : g_cv M_X9_takeLetters 64 M_X9_takeRegister yX9_takeRegister 0 := ⟨tw227, tw228, tw229, tw85, tw230, ⟨rfl, rfl, rfl, rfl⟩, gd_X9_takeRegister, ⟨by decide, by decide⟩⟩
theorem gc_X9_takeLetters_56 : g_cv M_X9_takeLetters 56 M_X9_add yX9_add 2 := ⟨tw238, tw239, tw240, tw85, tw241, ⟨rfl, rfl, rfl, rfl⟩, gd_X9_add, ⟨by decide, by decide⟩⟩
def f_X9_takeLetters_c164 (kat : Int32) (z1_0 : Int32) (z1_1 : (Nat → Int32)) (z1_2 : (Nat → Int64)) : Int32 × Int32 × (Nat → Int32) × (Nat → Int64) := (z1_0, kat, z1_1, z1_2)
def f_X9_takeLetters_163 (kcount : Int32) (kat : Int32) (kinds : Nat → Int32) (kvals : Nat → Int64) (l2 : Int64) (s1 : Int32) : Int32 × Int32 × (Nat → Int32) × (Nat → Int64) := (f_X9_takeLetters_c164 kat (f_X9_add s1 l2 kcount kinds kvals).1 (f_X9_add s1 l2 kcount kinds kvals).2.1 (f_X9_add s1 l2 kcount kinds kvals).2.2)
set_option maxRecDepth 20000 in
theorem j_X9_takeLetters_163 {l2 : Int64} {s1 : Int32} {kcount : Int32} {klen : Int32} {kat : Int32} {kinds : Nat → Int32} {kvals : Nat → Int64} {tchars : Nat → Int32} {r_0 : Int32} {r_1 : Int32} {r_2 : (Nat → Int32)} {r_3 : (Nat → Int64)} (hres : (r_0, r_1, r_2, r_3) = (f_X9_takeLetters_163 kcount kat kinds kvals l2 s1)) (hc : 0 ≤ kcount.toInt ∧ kcount.toInt ≤ 401) : G M_X9_takeLetters 0 0 163 [(2, .long l2)] [.int s1, .ref 0] (w_K kcount klen kat kinds kvals tchars) (none) (w_K r_0 klen r_1 r_2 r_3 tchars) := by
  rw [f_X9_takeLetters_163] at hres
  refine G.lload_n (pc := 163) dm_X9_takeLetters_163 rfl ?_
  obtain ⟨z1_0, z1_1, z1_2, hz1⟩ := g_ex3 (f_X9_add s1 l2 kcount kinds kvals)
  refine G.callV0 (pc := 164) (rest := []) (st1 := []) dm_X9_takeLetters_164 gc_X9_takeLetters_56 (k_X9_add (kind := s1) (value := l2) (kcount := kcount) (klen := klen) (kat := kat) (kinds := kinds) (kvals := kvals) (tchars := tchars) (by assumption) hz1) rfl rfl rfl rfl rfl rfl rfl rfl ?_
  replace hres : (r_0, r_1, r_2, r_3) = f_X9_takeLetters_c164 kat z1_0 z1_1 z1_2 := hres.trans (by rw [← hz1])
  rw [f_X9_takeLetters_c164] at hres
  cases hres
  exact G.vreturn (pc := 167) dm_X9_takeLetters_167 rfl rfl rfl
def f_X9_takeLetters_144 (kcount : Int32) (kat : Int32) (kinds : Nat → Int32) (kvals : Nat → Int64) (l1 : Int32) (l2 : Int64) : Int32 × Int32 × (Nat → Int32) × (Nat → Int64) := (if (kat - l1) ≤ (8 : Int32) then (f_X9_takeLetters_163 kcount kat kinds kvals l2 (97 : Int32)) else (f_X9_takeLetters_163 kcount kat kinds kvals l2 (63 : Int32)))
set_option maxRecDepth 20000 in
theorem j_X9_takeLetters_144 {l1 : Int32} {l2 : Int64} {kcount : Int32} {klen : Int32} {kat : Int32} {kinds : Nat → Int32} {kvals : Nat → Int64} {tchars : Nat → Int32} {r_0 : Int32} {r_1 : Int32} {r_2 : (Nat → Int32)} {r_3 : (Nat → Int64)} (hres : (r_0, r_1, r_2, r_3) = (f_X9_takeLetters_144 kcount kat kinds kvals l1 l2)) (hc : 0 ≤ kcount.toInt ∧ kcount.toInt ≤ 401) : G M_X9_takeLetters 0 0 144 [(0, .ref 0), (1, .int l1), (2, .long l2)] [] (w_K kcount klen kat kinds kvals tchars) (none) (w_K r_0 klen r_1 r_2 r_3 tchars) := by
  rw [f_X9_takeLetters_144] at hres
  refine G.aload_n (pc := 144) dm_X9_takeLetters_144 rfl ?_
  refine G.aload_n (pc := 145) dm_X9_takeLetters_145 rfl ?_
  refine G.getfield (pc := 146) dm_X9_takeLetters_146 gf_X9_27 rfl rfl ?_
  refine G.iload_n (pc := 149) dm_X9_takeLetters_149 rfl ?_
  refine G.isub (pc := 150) dm_X9_takeLetters_150 ?_
  refine G.bipush (pc := 151) (v := (8 : Int32)) dm_X9_takeLetters_151 qb_8 ?_
  refine G.icmp_le (pc := 153) (tgt := 161) dm_X9_takeLetters_153 (by decide) (fun c153 => ?_) (fun c153 => ?_)
  · rw [if_pos c153] at hres
    refine G.bipush (pc := 161) (v := (97 : Int32)) dm_X9_takeLetters_161 qb_97 ?_
    refine G.lvp [2] rfl ?_
    exact j_X9_takeLetters_163 hres (by assumption)
  · rw [if_neg c153] at hres
    refine G.bipush (pc := 156) (v := (63 : Int32)) dm_X9_takeLetters_156 qb_63 ?_
    refine G.goto (pc := 158) (tgt := 163) dm_X9_takeLetters_158 (by decide) ?_
    refine G.lvp [2] rfl ?_
    exact j_X9_takeLetters_163 hres (by assumption)
def f_X9_takeLetters_c138 (z3_0 : Int32) (z3_1 : Int32) (z3_2 : (Nat → Int32)) (z3_3 : (Nat → Int64)) : Int32 × Int32 × (Nat → Int32) × (Nat → Int64) := (z3_0, z3_1, z3_2, z3_3)
def f_X9_takeLetters_c131 (kcount : Int32) (klen : Int32) (kat : Int32) (kinds : Nat → Int32) (kvals : Nat → Int64) (tchars : Nat → Int32) (l1 : Int32) (l2 : Int64) (z2_0 : Int32) : Int32 × Int32 × (Nat → Int32) × (Nat → Int64) := (if z2_0 = 0 then (f_X9_takeLetters_144 kcount kat kinds kvals l1 l2) else (f_X9_takeLetters_c138 (f_X9_takeRegister kcount klen kat kinds kvals tchars).1 (f_X9_takeRegister kcount klen kat kinds kvals tchars).2.1 (f_X9_takeRegister kcount klen kat kinds kvals tchars).2.2.1 (f_X9_takeRegister kcount klen kat kinds kvals tchars).2.2.2))
def f_X9_takeLetters_98 (kcount : Int32) (klen : Int32) (kat : Int32) (kinds : Nat → Int32) (kvals : Nat → Int64) (tchars : Nat → Int32) (l1 : Int32) (l2 : Int64) (s0 : Int32) : Int32 × Int32 × (Nat → Int32) × (Nat → Int64) := (if s0 = 0 then (f_X9_takeLetters_144 kcount kat kinds kvals l1 l2) else (if klen ≤ kat then (f_X9_takeLetters_144 kcount kat kinds kvals l1 l2) else (f_X9_takeLetters_c131 kcount klen kat kinds kvals tchars l1 l2 (f_X9_isDigit (tchars (Int32.toNatClampNeg kat))))))
set_option maxRecDepth 20000 in
theorem j_X9_takeLetters_98 {l1 : Int32} {l2 : Int64} {s0 : Int32} {kcount : Int32} {klen : Int32} {kat : Int32} {kinds : Nat → Int32} {kvals : Nat → Int64} {tchars : Nat → Int32} {r_0 : Int32} {r_1 : Int32} {r_2 : (Nat → Int32)} {r_3 : (Nat → Int64)} (hres : (r_0, r_1, r_2, r_3) = (f_X9_takeLetters_98 kcount klen kat kinds kvals tchars l1 l2 s0)) (hk : 0 ≤ kat.toInt ∧ kat.toInt ≤ klen.toInt ∧ klen.toInt ≤ 400) (hc : 0 ≤ kcount.toInt ∧ kcount.toInt ≤ 401) : G M_X9_takeLetters 0 0 98 [(0, .ref 0), (1, .int l1), (2, .long l2)] [.int s0] (w_K kcount klen kat kinds kvals tchars) (none) (w_K r_0 klen r_1 r_2 r_3 tchars) := by
  rw [f_X9_takeLetters_98] at hres
  refine G.istore (pc := 98) (lv1 := [(4, .int s0), (0, .ref 0), (1, .int l1), (2, .long l2)]) dm_X9_takeLetters_98 rfl rfl ?_
  refine G.iload (pc := 100) dm_X9_takeLetters_100 rfl ?_
  refine G.if_eq (pc := 102) (tgt := 144) dm_X9_takeLetters_102 (by decide) (fun c102 => ?_) (fun c102 => ?_)
  · rw [if_pos c102] at hres
    refine G.lvp [1, 2, 3] rfl ?_
    exact j_X9_takeLetters_144 hres (by assumption)
  · rw [if_neg c102] at hres
    refine G.aload_n (pc := 105) dm_X9_takeLetters_105 rfl ?_
    refine G.getfield (pc := 106) dm_X9_takeLetters_106 gf_X9_27 rfl rfl ?_
    refine G.aload_n (pc := 109) dm_X9_takeLetters_109 rfl ?_
    refine G.getfield (pc := 110) dm_X9_takeLetters_110 gf_X9_19 rfl rfl ?_
    refine G.getfield (pc := 113) dm_X9_takeLetters_113 gf_X9_30 rfl rfl ?_
    refine G.icmp_ge (pc := 116) (tgt := 144) dm_X9_takeLetters_116 (by decide) (fun c116 => ?_) (fun c116 => ?_)
    · rw [if_pos c116] at hres
      refine G.lvp [1, 2, 3] rfl ?_
      exact j_X9_takeLetters_144 hres (by assumption)
    · rw [if_neg c116] at hres
      refine G.aload_n (pc := 119) dm_X9_takeLetters_119 rfl ?_
      refine G.getfield (pc := 120) dm_X9_takeLetters_120 gf_X9_19 rfl rfl ?_
      refine G.getfield (pc := 123) dm_X9_takeLetters_123 gf_X9_35 rfl rfl ?_
      refine G.aload_n (pc := 126) dm_X9_takeLetters_126 rfl ?_
      refine G.getfield (pc := 127) dm_X9_takeLetters_127 gf_X9_27 rfl rfl ?_
      refine G.caload (pc := 130) dm_X9_takeLetters_130 rfl (q_in hk.1 (by have := q_nle c116; omega)) ?_
      obtain ⟨z2_0, hz2⟩ := g_ex1 (f_X9_isDigit (tchars (Int32.toNatClampNeg kat)))
      refine G.callS (pc := 131) (rest := []) (st1 := [.int z2_0]) (ws1 := (w_K kcount klen kat kinds kvals tchars)) [] dm_X9_takeLetters_131 gc_X9_takeLetters_45 (k_X9_isDigit (c := (tchars (Int32.toNatClampNeg kat))) hz2) rfl rfl rfl rfl rfl rfl rfl rfl ?_
      replace hres : (r_0, r_1, r_2, r_3) = f_X9_takeLetters_c131 kcount klen kat kinds kvals tchars l1 l2 z2_0 := hres.trans (by rw [← hz2])
      rw [f_X9_takeLetters_c131] at hres
      refine G.if_eq (pc := 134) (tgt := 144) dm_X9_takeLetters_134 (by decide) (fun c134 => ?_) (fun c134 => ?_)
      · rw [if_pos c134] at hres
        refine G.lvp [1, 2, 3] rfl ?_
        exact j_X9_takeLetters_144 hres (by assumption)
      · rw [if_neg c134] at hres
        refine G.aload_n (pc := 137) dm_X9_takeLetters_137 rfl ?_
        obtain ⟨z3_0, z3_1, z3_2, z3_3, hz3⟩ := g_ex4 (f_X9_takeRegister kcount klen kat kinds kvals tchars)
        refine G.callV0 (pc := 138) (rest := []) (st1 := []) dm_X9_takeLetters_138 gc_X9_takeLetters_64 (k_X9_takeRegister (kcount := kcount) (klen := klen) (kat := kat) (kinds := kinds) (kvals := kvals) (tchars := tchars) (by assumption) (by assumption) hz3) rfl rfl rfl rfl rfl rfl rfl rfl ?_
        replace hres : (r_0, r_1, r_2, r_3) = f_X9_takeLetters_c138 z3_0 z3_1 z3_2 z3_3 := hres.trans (by rw [← hz3])
        rw [f_X9_takeLetters_c138] at hres
        refine G.goto (pc := 141) (tgt := 167) dm_X9_takeLetters_141 (by decide) ?_
        cases hres
        exact G.vreturn (pc := 167) dm_X9_takeLetters_167 rfl rfl rfl
def f_X9_takeLetters_69 (kcount : Int32) (klen : Int32) (kat : Int32) (kinds : Nat → Int32) (kvals : Nat → Int64) (tchars : Nat → Int32) (l1 : Int32) (l2 : Int64) : Int32 × Int32 × (Nat → Int32) × (Nat → Int64) := (if (kat - l1) = (1 : Int32) then (if (tchars (Int32.toNatClampNeg l1)) = (120 : Int32) then (f_X9_takeLetters_98 kcount klen kat kinds kvals tchars l1 l2 (1 : Int32)) else (f_X9_takeLetters_98 kcount klen kat kinds kvals tchars l1 l2 (0 : Int32))) else (f_X9_takeLetters_98 kcount klen kat kinds kvals tchars l1 l2 (0 : Int32)))
set_option maxRecDepth 20000 in
theorem j_X9_takeLetters_69 {l1 : Int32} {l2 : Int64} {kcount : Int32} {klen : Int32} {kat : Int32} {kinds : Nat → Int32} {kvals : Nat → Int64} {tchars : Nat → Int32} {r_0 : Int32} {r_1 : Int32} {r_2 : (Nat → Int32)} {r_3 : (Nat → Int64)} (hres : (r_0, r_1, r_2, r_3) = (f_X9_takeLetters_69 kcount klen kat kinds kvals tchars l1 l2)) (hk : 0 ≤ kat.toInt ∧ kat.toInt ≤ klen.toInt ∧ klen.toInt ≤ 400) (hc : 0 ≤ kcount.toInt ∧ kcount.toInt ≤ 401) (h1 : 0 ≤ l1.toInt ∧ l1.toInt ≤ kat.toInt) : G M_X9_takeLetters 0 0 69 [(0, .ref 0), (1, .int l1), (2, .long l2)] [] (w_K kcount klen kat kinds kvals tchars) (none) (w_K r_0 klen r_1 r_2 r_3 tchars) := by
  rw [f_X9_takeLetters_69] at hres
  refine G.aload_n (pc := 69) dm_X9_takeLetters_69 rfl ?_
  refine G.getfield (pc := 70) dm_X9_takeLetters_70 gf_X9_27 rfl rfl ?_
  refine G.iload_n (pc := 73) dm_X9_takeLetters_73 rfl ?_
  refine G.isub (pc := 74) dm_X9_takeLetters_74 ?_
  refine G.iconst (pc := 75) (v := (1 : Int32)) dm_X9_takeLetters_75 qi_1 ?_
  refine G.icmp_ne (pc := 76) (tgt := 97) dm_X9_takeLetters_76 (by decide) (fun c76 => ?_) (fun c76 => ?_)
  · rw [if_neg c76] at hres
    refine G.iconst (pc := 97) (v := (0 : Int32)) dm_X9_takeLetters_97 qi_0 ?_
    exact j_X9_takeLetters_98 hres (by assumption) (by assumption)
  · rw [if_pos c76] at hres
    refine G.aload_n (pc := 79) dm_X9_takeLetters_79 rfl ?_
    refine G.getfield (pc := 80) dm_X9_takeLetters_80 gf_X9_19 rfl rfl ?_
    refine G.getfield (pc := 83) dm_X9_takeLetters_83 gf_X9_35 rfl rfl ?_
    refine G.iload_n (pc := 86) dm_X9_takeLetters_86 rfl ?_
    refine G.caload (pc := 87) dm_X9_takeLetters_87 rfl (q_fx hk h1 c76) ?_
    refine G.bipush (pc := 88) (v := (120 : Int32)) dm_X9_takeLetters_88 qb_120 ?_
    refine G.icmp_ne (pc := 90) (tgt := 97) dm_X9_takeLetters_90 (by decide) (fun c90 => ?_) (fun c90 => ?_)
    · rw [if_neg c90] at hres
      refine G.iconst (pc := 97) (v := (0 : Int32)) dm_X9_takeLetters_97 qi_0 ?_
      exact j_X9_takeLetters_98 hres (by assumption) (by assumption)
    · rw [if_pos c90] at hres
      refine G.iconst (pc := 93) (v := (1 : Int32)) dm_X9_takeLetters_93 qi_1 ?_
      refine G.goto (pc := 94) (tgt := 98) dm_X9_takeLetters_94 (by decide) ?_
      exact j_X9_takeLetters_98 hres (by assumption) (by assumption)
def f_X9_takeLetters_c52 (kcount : Int32) (kat : Int32) (kinds : Nat → Int32) (kvals : Nat → Int64) (l1 : Int32) (kL7 : Int32 → Int64 → Int32 → Int32 → (Nat → Int32) → (Nat → Int64) → Int32 × Int32 × (Nat → Int32) × (Nat → Int64)) (z5_0 : Int64) : Int32 × Int32 × (Nat → Int32) × (Nat → Int64) := (kL7 l1 z5_0 kcount (kat + (1 : Int32)) kinds kvals)
def f_X9_takeLetters_c33 (kcount : Int32) (klen : Int32) (kat : Int32) (kinds : Nat → Int32) (kvals : Nat → Int64) (tchars : Nat → Int32) (l1 : Int32) (l2 : Int64) (kL7 : Int32 → Int64 → Int32 → Int32 → (Nat → Int32) → (Nat → Int64) → Int32 × Int32 × (Nat → Int32) × (Nat → Int64)) (z4_0 : Int32) : Int32 × Int32 × (Nat → Int32) × (Nat → Int64) := (if z4_0 = 0 then (f_X9_takeLetters_69 kcount klen kat kinds kvals tchars l1 l2) else (f_X9_takeLetters_c52 kcount kat kinds kvals l1 kL7 (f_X9_withLetter l2 (tchars (Int32.toNatClampNeg kat)))))
def f_X9_takeLetters_7 (klen : Int32) (tchars : Nat → Int32) : Nat → Int32 → Int64 → Int32 → Int32 → (Nat → Int32) → (Nat → Int64) → Int32 × Int32 × (Nat → Int32) × (Nat → Int64)
  | 0, l1, l2, kcount, kat, kinds, kvals => (kcount, kat, kinds, kvals)
  | n + 1, l1, l2, kcount, kat, kinds, kvals => (if klen ≤ kat then (f_X9_takeLetters_69 kcount klen kat kinds kvals tchars l1 l2) else (f_X9_takeLetters_c33 kcount klen kat kinds kvals tchars l1 l2 (f_X9_takeLetters_7 klen tchars n) (f_X9_isLetter (tchars (Int32.toNatClampNeg kat)))))
set_option maxRecDepth 20000 in
theorem j_X9_takeLetters_7 : ∀ (n : Nat) {l1 : Int32} {l2 : Int64} {kcount : Int32} {klen : Int32} {kat : Int32} {kinds : Nat → Int32} {kvals : Nat → Int64} {tchars : Nat → Int32} {r_0 : Int32} {r_1 : Int32} {r_2 : (Nat → Int32)} {r_3 : (Nat → Int64)}, (hk : 0 ≤ kat.toInt ∧ kat.toInt ≤ klen.toInt ∧ klen.toInt ≤ 400) → (hc : 0 ≤ kcount.toInt ∧ kcount.toInt ≤ 401) → (h1 : 0 ≤ l1.toInt ∧ l1.toInt ≤ kat.toInt) → (klen.toInt.toNat - kat.toInt.toNat) < n → (r_0, r_1, r_2, r_3) = f_X9_takeLetters_7 klen tchars n l1 l2 kcount kat kinds kvals → G M_X9_takeLetters 0 0 7 [(0, .ref 0), (1, .int l1), (2, .long l2)] [] (w_K kcount klen kat kinds kvals tchars) (none) (w_K r_0 klen r_1 r_2 r_3 tchars) := by
  intro n
  induction n with
  | zero =>
    intro l1 l2 kcount klen kat kinds kvals tchars r_0 r_1 r_2 r_3 hk hc h1 hm hres
    exact absurd hm (Nat.not_lt_zero _)
  | succ n ih =>
    intro l1 l2 kcount klen kat kinds kvals tchars r_0 r_1 r_2 r_3 hk hc h1 hm hres
    obtain ⟨mu, hmu⟩ : ∃ z, (klen.toInt.toNat - kat.toInt.toNat) = z := ⟨_, rfl⟩
    rw [hmu] at hm
    have hk7 : ∀ {l1 : Int32} {l2 : Int64} {kcount : Int32} {kat : Int32} {kinds : Nat → Int32} {kvals : Nat → Int64}, (0 ≤ kat.toInt ∧ kat.toInt ≤ klen.toInt ∧ klen.toInt ≤ 400) → (0 ≤ kcount.toInt ∧ kcount.toInt ≤ 401) → (0 ≤ l1.toInt ∧ l1.toInt ≤ kat.toInt) → (klen.toInt.toNat - kat.toInt.toNat) < mu → (r_0, r_1, r_2, r_3) = (f_X9_takeLetters_7 klen tchars n) l1 l2 kcount kat kinds kvals → G M_X9_takeLetters 0 0 7 [(0, .ref 0), (1, .int l1), (2, .long l2)] [] (w_K kcount klen kat kinds kvals tchars) (none) (w_K r_0 klen r_1 r_2 r_3 tchars) := fun hk hc h1 hlt he => ih hk hc h1 (Nat.lt_of_lt_of_le hlt (Nat.le_of_lt_succ hm)) he
    rw [f_X9_takeLetters_7] at hres
    refine G.aload_n (pc := 7) dm_X9_takeLetters_7 rfl ?_
    refine G.getfield (pc := 8) dm_X9_takeLetters_8 gf_X9_27 rfl rfl ?_
    refine G.aload_n (pc := 11) dm_X9_takeLetters_11 rfl ?_
    refine G.getfield (pc := 12) dm_X9_takeLetters_12 gf_X9_19 rfl rfl ?_
    refine G.getfield (pc := 15) dm_X9_takeLetters_15 gf_X9_30 rfl rfl ?_
    refine G.icmp_ge (pc := 18) (tgt := 69) dm_X9_takeLetters_18 (by decide) (fun c18 => ?_) (fun c18 => ?_)
    · rw [if_pos c18] at hres
      exact j_X9_takeLetters_69 hres (by assumption) (by assumption) (by assumption)
    · rw [if_neg c18] at hres
      have hlt := q_nle c18
      refine G.aload_n (pc := 21) dm_X9_takeLetters_21 rfl ?_
      refine G.getfield (pc := 22) dm_X9_takeLetters_22 gf_X9_19 rfl rfl ?_
      refine G.getfield (pc := 25) dm_X9_takeLetters_25 gf_X9_35 rfl rfl ?_
      refine G.aload_n (pc := 28) dm_X9_takeLetters_28 rfl ?_
      refine G.getfield (pc := 29) dm_X9_takeLetters_29 gf_X9_27 rfl rfl ?_
      refine G.caload (pc := 32) dm_X9_takeLetters_32 rfl (q_in hk.1 (by omega)) ?_
      obtain ⟨z4_0, hz4⟩ := g_ex1 (f_X9_isLetter (tchars (Int32.toNatClampNeg kat)))
      refine G.callS (pc := 33) (rest := []) (st1 := [.int z4_0]) (ws1 := (w_K kcount klen kat kinds kvals tchars)) [] dm_X9_takeLetters_33 gc_X9_takeLetters_38 (k_X9_isLetter (c := (tchars (Int32.toNatClampNeg kat))) hz4) rfl rfl rfl rfl rfl rfl rfl rfl ?_
      replace hres : (r_0, r_1, r_2, r_3) = f_X9_takeLetters_c33 kcount klen kat kinds kvals tchars l1 l2 (f_X9_takeLetters_7 klen tchars n) z4_0 := hres.trans (by rw [← hz4])
      rw [f_X9_takeLetters_c33] at hres
      refine G.if_eq (pc := 36) (tgt := 69) dm_X9_takeLetters_36 (by decide) (fun c36 => ?_) (fun c36 => ?_)
      · rw [if_pos c36] at hres
        exact j_X9_takeLetters_69 hres (by assumption) (by assumption) (by assumption)
      · rw [if_neg c36] at hres
        refine G.lload_n (pc := 39) dm_X9_takeLetters_39 rfl ?_
        refine G.aload_n (pc := 40) dm_X9_takeLetters_40 rfl ?_
        refine G.getfield (pc := 41) dm_X9_takeLetters_41 gf_X9_19 rfl rfl ?_
        refine G.getfield (pc := 44) dm_X9_takeLetters_44 gf_X9_35 rfl rfl ?_
        refine G.aload_n (pc := 47) dm_X9_takeLetters_47 rfl ?_
        refine G.getfield (pc := 48) dm_X9_takeLetters_48 gf_X9_27 rfl rfl ?_
        refine G.caload (pc := 51) dm_X9_takeLetters_51 rfl (q_in hk.1 (by omega)) ?_
        obtain ⟨z5_0, hz5⟩ := g_ex1 (f_X9_withLetter l2 (tchars (Int32.toNatClampNeg kat)))
        refine G.callS (pc := 52) (rest := []) (st1 := [.long z5_0]) (ws1 := (w_K kcount klen kat kinds kvals tchars)) [] dm_X9_takeLetters_52 gc_X9_takeLetters_60 (k_X9_withLetter (key := l2) (letter := (tchars (Int32.toNatClampNeg kat))) hz5) rfl rfl rfl rfl rfl rfl rfl rfl ?_
        replace hres : (r_0, r_1, r_2, r_3) = f_X9_takeLetters_c52 kcount kat kinds kvals l1 (f_X9_takeLetters_7 klen tchars n) z5_0 := hres.trans (by rw [← hz5])
        rw [f_X9_takeLetters_c52] at hres
        refine G.lstore_n (pc := 55) (lv1 := [(2, .long z5_0), (0, .ref 0), (1, .int l1)]) dm_X9_takeLetters_55 rfl rfl ?_
        refine G.aload_n (pc := 56) dm_X9_takeLetters_56 rfl ?_
        refine G.dup (pc := 57) dm_X9_takeLetters_57 rfl ?_
        refine G.getfield (pc := 58) dm_X9_takeLetters_58 gf_X9_27 rfl rfl ?_
        refine G.iconst (pc := 61) (v := (1 : Int32)) dm_X9_takeLetters_61 qi_1 ?_
        refine G.iadd (pc := 62) dm_X9_takeLetters_62 ?_
        refine G.putfield (pc := 63) (ws1 := (w_K kcount klen (kat + (1 : Int32)) kinds kvals tchars)) dm_X9_takeLetters_63 gw_X9_27 rfl (g_fit_i _) rfl rfl ?_
        refine G.goto (pc := 66) (tgt := 7) dm_X9_takeLetters_66 (by decide) ?_
        refine G.lvp [1, 2, 0] rfl ?_
        exact hk7 (q_kup hk hlt) hc ⟨h1.1, by rw [q_inc (by omega)]; omega⟩ (by rw [q_inc (by omega)]; omega) hres
def f_X9_takeLetters (kcount : Int32) (klen : Int32) (kat : Int32) (kinds : Nat → Int32) (kvals : Nat → Int64) (tchars : Nat → Int32) : Int32 × Int32 × (Nat → Int32) × (Nat → Int64) := (f_X9_takeLetters_7 klen tchars (401) kat (0 : Int64) kcount kat kinds kvals)
set_option maxRecDepth 20000 in
theorem k_X9_takeLetters {kcount : Int32} {klen : Int32} {kat : Int32} {kinds : Nat → Int32} {kvals : Nat → Int64} {tchars : Nat → Int32} (hk : 0 ≤ kat.toInt ∧ kat.toInt ≤ klen.toInt ∧ klen.toInt ≤ 400) (hc : 0 ≤ kcount.toInt ∧ kcount.toInt ≤ 401) {r_0 : Int32} {r_1 : Int32} {r_2 : (Nat → Int32)} {r_3 : (Nat → Int64)} (hres : (r_0, r_1, r_2, r_3) = f_X9_takeLetters kcount klen kat kinds kvals tchars) : K M_X9_takeLetters yX9_takeLetters [.ref 0] (w_K kcount klen kat kinds kvals tchars) (none) (w_K r_0 klen r_1 r_2 r_3 tchars) := by
  refine K.of (lv := [(0, .ref 0)]) (by decide +kernel) rfl rfl rfl ?_
  rw [f_X9_takeLetters] at hres
  refine G.aload_n (pc := 0) dm_X9_takeLetters_0 rfl ?_
  refine G.getfield (pc := 1) dm_X9_takeLetters_1 gf_X9_27 rfl rfl ?_
  refine G.istore_n (pc := 4) (lv1 := [(1, .int kat), (0, .ref 0)]) dm_X9_takeLetters_4 rfl rfl ?_
  refine G.lconst (pc := 5) (v := (0 : Int64)) dm_X9_takeLetters_5 (by decide) ?_
  refine G.lstore_n (pc := 6) (lv1 := [(2, .long (0 : Int64)), (1, .int kat), (0, .ref 0)]) dm_X9_takeLetters_6 rfl rfl ?_
  refine G.lvp [2, 1, 0] rfl ?_
  exact j_X9_takeLetters_7 _ hk hc ⟨hk.1, Int.le_refl _⟩ (by omega) hres
theorem a_X9_takeLetters_163 {l2 : Int64} {s1 : Int32} {kcount : Int32} {klen : Int32} {kat : Int32} {kinds : Nat → Int32} {kvals : Nat → Int64} {r_0 : Int32} {r_1 : Int32} {r_2 : (Nat → Int32)} {r_3 : (Nat → Int64)} (hres : (r_0, r_1, r_2, r_3) = (f_X9_takeLetters_163 kcount kat kinds kvals l2 s1)) (hk : 0 ≤ kat.toInt ∧ kat.toInt ≤ klen.toInt ∧ klen.toInt ≤ 400) (hc : 0 ≤ kcount.toInt ∧ kcount.toInt ≤ 401) (hch : q_ch kinds) : (0 ≤ r_1.toInt ∧ r_1.toInt ≤ klen.toInt ∧ klen.toInt ≤ 400) ∧ (0 ≤ r_0.toInt ∧ r_0.toInt ≤ 401) ∧ q_ch r_2 := by
  rw [f_X9_takeLetters_163] at hres
  obtain ⟨z1_0, z1_1, z1_2, hz1⟩ := g_ex3 (f_X9_add s1 l2 kcount kinds kvals)
  have hh := a_X9_add hz1 hc hch
  have hc := hh.1
  have hch := hh.2
  replace hres : (r_0, r_1, r_2, r_3) = f_X9_takeLetters_c164 kat z1_0 z1_1 z1_2 := hres.trans (by rw [← hz1])
  rw [f_X9_takeLetters_c164] at hres
  cases hres
  exact ⟨hk, hc, hch⟩
theorem a_X9_takeLetters_144 {l1 : Int32} {l2 : Int64} {kcount : Int32} {klen : Int32} {kat : Int32} {kinds : Nat → Int32} {kvals : Nat → Int64} {r_0 : Int32} {r_1 : Int32} {r_2 : (Nat → Int32)} {r_3 : (Nat → Int64)} (hres : (r_0, r_1, r_2, r_3) = (f_X9_takeLetters_144 kcount kat kinds kvals l1 l2)) (hk : 0 ≤ kat.toInt ∧ kat.toInt ≤ klen.toInt ∧ klen.toInt ≤ 400) (hc : 0 ≤ kcount.toInt ∧ kcount.toInt ≤ 401) (hch : q_ch kinds) : (0 ≤ r_1.toInt ∧ r_1.toInt ≤ klen.toInt ∧ klen.toInt ≤ 400) ∧ (0 ≤ r_0.toInt ∧ r_0.toInt ≤ 401) ∧ q_ch r_2 := by
  rw [f_X9_takeLetters_144] at hres
  by_cases c153 : (kat - l1) ≤ (8 : Int32)
  · rw [if_pos c153] at hres
    exact a_X9_takeLetters_163 hres (by assumption) (by assumption) (by assumption)
  · rw [if_neg c153] at hres
    exact a_X9_takeLetters_163 hres (by assumption) (by assumption) (by assumption)
theorem a_X9_takeLetters_98 {l1 : Int32} {l2 : Int64} {s0 : Int32} {kcount : Int32} {klen : Int32} {kat : Int32} {kinds : Nat → Int32} {kvals : Nat → Int64} {tchars : Nat → Int32} {r_0 : Int32} {r_1 : Int32} {r_2 : (Nat → Int32)} {r_3 : (Nat → Int64)} (hres : (r_0, r_1, r_2, r_3) = (f_X9_takeLetters_98 kcount klen kat kinds kvals tchars l1 l2 s0)) (hk : 0 ≤ kat.toInt ∧ kat.toInt ≤ klen.toInt ∧ klen.toInt ≤ 400) (hc : 0 ≤ kcount.toInt ∧ kcount.toInt ≤ 401) (hch : q_ch kinds) : (0 ≤ r_1.toInt ∧ r_1.toInt ≤ klen.toInt ∧ klen.toInt ≤ 400) ∧ (0 ≤ r_0.toInt ∧ r_0.toInt ≤ 401) ∧ q_ch r_2 := by
  rw [f_X9_takeLetters_98] at hres
  by_cases c102 : s0 = 0
  · rw [if_pos c102] at hres
    exact a_X9_takeLetters_144 hres (by assumption) (by assumption) (by assumption)
  · rw [if_neg c102] at hres
    by_cases c116 : klen ≤ kat
    · rw [if_pos c116] at hres
      exact a_X9_takeLetters_144 hres (by assumption) (by assumption) (by assumption)
    · rw [if_neg c116] at hres
      obtain ⟨z2_0, hz2⟩ := g_ex1 (f_X9_isDigit (tchars (Int32.toNatClampNeg kat)))
      replace hres : (r_0, r_1, r_2, r_3) = f_X9_takeLetters_c131 kcount klen kat kinds kvals tchars l1 l2 z2_0 := hres.trans (by rw [← hz2])
      rw [f_X9_takeLetters_c131] at hres
      by_cases c134 : z2_0 = 0
      · rw [if_pos c134] at hres
        exact a_X9_takeLetters_144 hres (by assumption) (by assumption) (by assumption)
      · rw [if_neg c134] at hres
        obtain ⟨z3_0, z3_1, z3_2, z3_3, hz3⟩ := g_ex4 (f_X9_takeRegister kcount klen kat kinds kvals tchars)
        have hh := a_X9_takeRegister hz3 hk hc hch
        have hk := hh.1
        have hc := hh.2.1
        have hch := hh.2.2
        replace hres : (r_0, r_1, r_2, r_3) = f_X9_takeLetters_c138 z3_0 z3_1 z3_2 z3_3 := hres.trans (by rw [← hz3])
        rw [f_X9_takeLetters_c138] at hres
        cases hres
        exact ⟨hk, hc, hch⟩
theorem a_X9_takeLetters_69 {l1 : Int32} {l2 : Int64} {kcount : Int32} {klen : Int32} {kat : Int32} {kinds : Nat → Int32} {kvals : Nat → Int64} {tchars : Nat → Int32} {r_0 : Int32} {r_1 : Int32} {r_2 : (Nat → Int32)} {r_3 : (Nat → Int64)} (hres : (r_0, r_1, r_2, r_3) = (f_X9_takeLetters_69 kcount klen kat kinds kvals tchars l1 l2)) (hk : 0 ≤ kat.toInt ∧ kat.toInt ≤ klen.toInt ∧ klen.toInt ≤ 400) (hc : 0 ≤ kcount.toInt ∧ kcount.toInt ≤ 401) (hch : q_ch kinds) : (0 ≤ r_1.toInt ∧ r_1.toInt ≤ klen.toInt ∧ klen.toInt ≤ 400) ∧ (0 ≤ r_0.toInt ∧ r_0.toInt ≤ 401) ∧ q_ch r_2 := by
  rw [f_X9_takeLetters_69] at hres
  by_cases c76 : (kat - l1) = (1 : Int32)
  · rw [if_pos c76] at hres
    by_cases c90 : (tchars (Int32.toNatClampNeg l1)) = (120 : Int32)
    · rw [if_pos c90] at hres
      exact a_X9_takeLetters_98 hres (by assumption) (by assumption) (by assumption)
    · rw [if_neg c90] at hres
      exact a_X9_takeLetters_98 hres (by assumption) (by assumption) (by assumption)
  · rw [if_neg c76] at hres
    exact a_X9_takeLetters_98 hres (by assumption) (by assumption) (by assumption)
theorem a_X9_takeLetters_7 : ∀ (n : Nat) {l1 : Int32} {l2 : Int64} {kcount : Int32} {klen : Int32} {kat : Int32} {kinds : Nat → Int32} {kvals : Nat → Int64} {tchars : Nat → Int32} {r_0 : Int32} {r_1 : Int32} {r_2 : (Nat → Int32)} {r_3 : (Nat → Int64)}, (0 ≤ kat.toInt ∧ kat.toInt ≤ klen.toInt ∧ klen.toInt ≤ 400) → (0 ≤ kcount.toInt ∧ kcount.toInt ≤ 401) → (q_ch kinds) → (r_0, r_1, r_2, r_3) = f_X9_takeLetters_7 klen tchars n l1 l2 kcount kat kinds kvals → (0 ≤ r_1.toInt ∧ r_1.toInt ≤ klen.toInt ∧ klen.toInt ≤ 400) ∧ (0 ≤ r_0.toInt ∧ r_0.toInt ≤ 401) ∧ q_ch r_2 := by
  intro n
  induction n with
  | zero =>
    intro l1 l2 kcount klen kat kinds kvals tchars r_0 r_1 r_2 r_3 hk hc hch hres
    rw [f_X9_takeLetters_7] at hres
    cases hres
    exact ⟨hk, hc, hch⟩
  | succ n ih =>
    intro l1 l2 kcount klen kat kinds kvals tchars r_0 r_1 r_2 r_3 hk hc hch hres
    have hk7 : ∀ {l1 : Int32} {l2 : Int64} {kcount : Int32} {kat : Int32} {kinds : Nat → Int32} {kvals : Nat → Int64}, (0 ≤ kat.toInt ∧ kat.toInt ≤ klen.toInt ∧ klen.toInt ≤ 400) → (0 ≤ kcount.toInt ∧ kcount.toInt ≤ 401) → (q_ch kinds) → (r_0, r_1, r_2, r_3) = (f_X9_takeLetters_7 klen tchars n) l1 l2 kcount kat kinds kvals → (0 ≤ r_1.toInt ∧ r_1.toInt ≤ klen.toInt ∧ klen.toInt ≤ 400) ∧ (0 ≤ r_0.toInt ∧ r_0.toInt ≤ 401) ∧ q_ch r_2 := fun hk hc hch he => ih hk hc hch he
    rw [f_X9_takeLetters_7] at hres
    by_cases c18 : klen ≤ kat
    · rw [if_pos c18] at hres
      exact a_X9_takeLetters_69 hres (by assumption) (by assumption) (by assumption)
    · rw [if_neg c18] at hres
      have hlt := q_nle c18
      obtain ⟨z4_0, hz4⟩ := g_ex1 (f_X9_isLetter (tchars (Int32.toNatClampNeg kat)))
      replace hres : (r_0, r_1, r_2, r_3) = f_X9_takeLetters_c33 kcount klen kat kinds kvals tchars l1 l2 (f_X9_takeLetters_7 klen tchars n) z4_0 := hres.trans (by rw [← hz4])
      rw [f_X9_takeLetters_c33] at hres
      by_cases c36 : z4_0 = 0
      · rw [if_pos c36] at hres
        exact a_X9_takeLetters_69 hres (by assumption) (by assumption) (by assumption)
      · rw [if_neg c36] at hres
        obtain ⟨z5_0, hz5⟩ := g_ex1 (f_X9_withLetter l2 (tchars (Int32.toNatClampNeg kat)))
        replace hres : (r_0, r_1, r_2, r_3) = f_X9_takeLetters_c52 kcount kat kinds kvals l1 (f_X9_takeLetters_7 klen tchars n) z5_0 := hres.trans (by rw [← hz5])
        rw [f_X9_takeLetters_c52] at hres
        exact hk7 (q_kup hk hlt) hc hch hres
theorem a_X9_takeLetters {kcount : Int32} {klen : Int32} {kat : Int32} {kinds : Nat → Int32} {kvals : Nat → Int64} {tchars : Nat → Int32} {r_0 : Int32} {r_1 : Int32} {r_2 : (Nat → Int32)} {r_3 : (Nat → Int64)} (hres : (r_0, r_1, r_2, r_3) = f_X9_takeLetters kcount klen kat kinds kvals tchars) (hk : 0 ≤ kat.toInt ∧ kat.toInt ≤ klen.toInt ∧ klen.toInt ≤ 400) (hc : 0 ≤ kcount.toInt ∧ kcount.toInt ≤ 401) (hch : q_ch kinds) : (0 ≤ r_1.toInt ∧ r_1.toInt ≤ klen.toInt ∧ klen.toInt ≤ 400) ∧ (0 ≤ r_0.toInt ∧ r_0.toInt ≤ 401) ∧ q_ch r_2 := by
  rw [f_X9_takeLetters] at hres
  exact a_X9_takeLetters_7 _ (by assumption) (by assumption) (by assumption) hres
abbrev M_X9_split : g_M := (cX9_split, 3, RX9, none, { frames := 4, cells := 0, slots := 0, locals := 90 }, 0, 0)
theorem dm_X9_split_0 : decode M_X9_split.1 0 = .ok (.aload_n 0, 1) := by decide +kernel
theorem dm_X9_split_1 : decode M_X9_split.1 1 = .ok (.iconst 0, 1) := by decide +kernel
theorem dm_X9_split_2 : decode M_X9_split.1 2 = .ok (.putfield 23, 3) := by decide +kernel
theorem dm_X9_split_5 : decode M_X9_split.1 5 = .ok (.aload_n 0, 1) := by decide +kernel
theorem dm_X9_split_6 : decode M_X9_split.1 6 = .ok (.iconst 0, 1) := by decide +kernel
theorem dm_X9_split_7 : decode M_X9_split.1 7 = .ok (.putfield 27, 3) := by decide +kernel
theorem dm_X9_split_10 : decode M_X9_split.1 10 = .ok (.iconst 0, 1) := by decide +kernel
theorem dm_X9_split_11 : decode M_X9_split.1 11 = .ok (.istore_n 1, 1) := by decide +kernel
theorem dm_X9_split_12 : decode M_X9_split.1 12 = .ok (.iload_n 1, 1) := by decide +kernel
theorem dm_X9_split_13 : decode M_X9_split.1 13 = .ok (.sipush 400, 3) := by decide +kernel
theorem dm_X9_split_16 : decode M_X9_split.1 16 = .ok (.if_icmp .ge 86, 3) := by decide +kernel
theorem dm_X9_split_19 : decode M_X9_split.1 19 = .ok (.aload_n 0, 1) := by decide +kernel
theorem dm_X9_split_20 : decode M_X9_split.1 20 = .ok (.getfield 27, 3) := by decide +kernel
theorem dm_X9_split_23 : decode M_X9_split.1 23 = .ok (.aload_n 0, 1) := by decide +kernel
theorem dm_X9_split_24 : decode M_X9_split.1 24 = .ok (.getfield 19, 3) := by decide +kernel
theorem dm_X9_split_27 : decode M_X9_split.1 27 = .ok (.getfield 30, 3) := by decide +kernel
theorem dm_X9_split_30 : decode M_X9_split.1 30 = .ok (.if_icmp .ge 72, 3) := by decide +kernel
theorem dm_X9_split_33 : decode M_X9_split.1 33 = .ok (.aload_n 0, 1) := by decide +kernel
theorem dm_X9_split_34 : decode M_X9_split.1 34 = .ok (.getfield 19, 3) := by decide +kernel
theorem dm_X9_split_37 : decode M_X9_split.1 37 = .ok (.getfield 35, 3) := by decide +kernel
theorem dm_X9_split_40 : decode M_X9_split.1 40 = .ok (.aload_n 0, 1) := by decide +kernel
theorem dm_X9_split_41 : decode M_X9_split.1 41 = .ok (.getfield 27, 3) := by decide +kernel
theorem dm_X9_split_44 : decode M_X9_split.1 44 = .ok (.caload, 1) := by decide +kernel
theorem dm_X9_split_45 : decode M_X9_split.1 45 = .ok (.istore_n 2, 1) := by decide +kernel
theorem dm_X9_split_46 : decode M_X9_split.1 46 = .ok (.iload_n 2, 1) := by decide +kernel
theorem dm_X9_split_47 : decode M_X9_split.1 47 = .ok (.invokestatic 38, 3) := by decide +kernel
theorem dm_X9_split_50 : decode M_X9_split.1 50 = .ok (.ifCond .eq 10, 3) := by decide +kernel
theorem dm_X9_split_53 : decode M_X9_split.1 53 = .ok (.aload_n 0, 1) := by decide +kernel
theorem dm_X9_split_54 : decode M_X9_split.1 54 = .ok (.invokevirtual 42, 3) := by decide +kernel
theorem dm_X9_split_57 : decode M_X9_split.1 57 = .ok (.goto 39, 3) := by decide +kernel
theorem dm_X9_split_60 : decode M_X9_split.1 60 = .ok (.iload_n 2, 1) := by decide +kernel
theorem dm_X9_split_61 : decode M_X9_split.1 61 = .ok (.invokestatic 45, 3) := by decide +kernel
theorem dm_X9_split_64 : decode M_X9_split.1 64 = .ok (.ifCond .ne 9, 3) := by decide +kernel
theorem dm_X9_split_67 : decode M_X9_split.1 67 = .ok (.iload_n 2, 1) := by decide +kernel
theorem dm_X9_split_68 : decode M_X9_split.1 68 = .ok (.bipush 45, 2) := by decide +kernel
theorem dm_X9_split_70 : decode M_X9_split.1 70 = .ok (.if_icmp .ne 21, 3) := by decide +kernel
theorem dm_X9_split_73 : decode M_X9_split.1 73 = .ok (.aload_n 0, 1) := by decide +kernel
theorem dm_X9_split_74 : decode M_X9_split.1 74 = .ok (.iload_n 2, 1) := by decide +kernel
theorem dm_X9_split_75 : decode M_X9_split.1 75 = .ok (.bipush 45, 2) := by decide +kernel
theorem dm_X9_split_77 : decode M_X9_split.1 77 = .ok (.if_icmp .ne 7, 3) := by decide +kernel
theorem dm_X9_split_80 : decode M_X9_split.1 80 = .ok (.iconst 1, 1) := by decide +kernel
theorem dm_X9_split_81 : decode M_X9_split.1 81 = .ok (.goto 4, 3) := by decide +kernel
theorem dm_X9_split_84 : decode M_X9_split.1 84 = .ok (.iconst 0, 1) := by decide +kernel
theorem dm_X9_split_85 : decode M_X9_split.1 85 = .ok (.invokevirtual 48, 3) := by decide +kernel
theorem dm_X9_split_88 : decode M_X9_split.1 88 = .ok (.goto 8, 3) := by decide +kernel
theorem dm_X9_split_91 : decode M_X9_split.1 91 = .ok (.aload_n 0, 1) := by decide +kernel
theorem dm_X9_split_92 : decode M_X9_split.1 92 = .ok (.iload_n 2, 1) := by decide +kernel
theorem dm_X9_split_93 : decode M_X9_split.1 93 = .ok (.invokevirtual 52, 3) := by decide +kernel
theorem dm_X9_split_96 : decode M_X9_split.1 96 = .ok (.iinc 1 1, 3) := by decide +kernel
theorem dm_X9_split_99 : decode M_X9_split.1 99 = .ok (.goto (-87), 3) := by decide +kernel
theorem dm_X9_split_102 : decode M_X9_split.1 102 = .ok (.aload_n 0, 1) := by decide +kernel
theorem dm_X9_split_103 : decode M_X9_split.1 103 = .ok (.bipush 10, 2) := by decide +kernel
theorem dm_X9_split_105 : decode M_X9_split.1 105 = .ok (.lconst 0, 1) := by decide +kernel
theorem dm_X9_split_106 : decode M_X9_split.1 106 = .ok (.invokevirtual 56, 3) := by decide +kernel
theorem dm_X9_split_109 : decode M_X9_split.1 109 = .ok (.return_, 1) := by decide +kernel
theorem gc_X9_split_38 : g_cs M_X9_split 38 M_X9_isLetter yX9_isLetter 1 := ⟨tw214, tw215, tw85, tw216, ⟨rfl, rfl, rfl, rfl⟩, gd_X9_isLetter, ⟨by decide, by decide⟩⟩
theorem gc_X9_split_42 : g_cv M_X9_split 42 M_X9_takeLetters yX9_takeLetters 0 := ⟨tw217, tw218, tw219, tw85, tw220, ⟨rfl, rfl, rfl, rfl⟩, gd_X9_takeLetters, ⟨by decide, by decide⟩⟩
theorem gc_X9_split_45 : g_cs M_X9_split 45 M_X9_isDigit yX9_isDigit 1 := ⟨tw224, tw225, tw85, tw226, ⟨rfl, rfl, rfl, rfl⟩, gd_X9_isDigit, ⟨by decide, by decide⟩⟩
theorem gc_X9_split_48 : g_cv M_X9_split 48 M_X9_takeNumber yX9_takeNumber 1 := ⟨tw242, tw243, tw244, tw85, tw245, ⟨rfl, rfl, rfl, rfl⟩, gd_X9_takeNumber, ⟨by decide, by decide⟩⟩
theorem gc_X9_split_52 : g_cv M_X9_split 52 M_X9_takeMark yX9_takeMark 1 := ⟨tw246, tw247, tw248, tw85, tw249, ⟨rfl, rfl, rfl, rfl⟩, gd_X9_takeMark, ⟨by decide, by decide⟩⟩
theorem gc_X9_split_56 : g_cv M_X9_split 56 M_X9_add yX9_add 2 := ⟨tw238, tw239, tw240, tw85, tw241, ⟨rfl, rfl, rfl, rfl⟩, gd_X9_add, ⟨by decide, by decide⟩⟩
def f_X9_split_c106 (kat : Int32) (z1_0 : Int32) (z1_1 : (Nat → Int32)) (z1_2 : (Nat → Int64)) : Int32 × Int32 × (Nat → Int32) × (Nat → Int64) := (z1_0, kat, z1_1, z1_2)
def f_X9_split_102 (kcount : Int32) (kat : Int32) (kinds : Nat → Int32) (kvals : Nat → Int64) : Int32 × Int32 × (Nat → Int32) × (Nat → Int64) := (f_X9_split_c106 kat (f_X9_add (10 : Int32) (0 : Int64) kcount kinds kvals).1 (f_X9_add (10 : Int32) (0 : Int64) kcount kinds kvals).2.1 (f_X9_add (10 : Int32) (0 : Int64) kcount kinds kvals).2.2)
set_option maxRecDepth 20000 in
theorem j_X9_split_102 {kcount : Int32} {klen : Int32} {kat : Int32} {kinds : Nat → Int32} {kvals : Nat → Int64} {tchars : Nat → Int32} {r_0 : Int32} {r_1 : Int32} {r_2 : (Nat → Int32)} {r_3 : (Nat → Int64)} (hres : (r_0, r_1, r_2, r_3) = (f_X9_split_102 kcount kat kinds kvals)) (hc : 0 ≤ kcount.toInt ∧ kcount.toInt ≤ 401) : G M_X9_split 0 0 102 [(0, .ref 0)] [] (w_K kcount klen kat kinds kvals tchars) (none) (w_K r_0 klen r_1 r_2 r_3 tchars) := by
  rw [f_X9_split_102] at hres
  refine G.aload_n (pc := 102) dm_X9_split_102 rfl ?_
  refine G.bipush (pc := 103) (v := (10 : Int32)) dm_X9_split_103 qb_10 ?_
  refine G.lconst (pc := 105) (v := (0 : Int64)) dm_X9_split_105 (by decide) ?_
  obtain ⟨z1_0, z1_1, z1_2, hz1⟩ := g_ex3 (f_X9_add (10 : Int32) (0 : Int64) kcount kinds kvals)
  refine G.callV0 (pc := 106) (rest := []) (st1 := []) dm_X9_split_106 gc_X9_split_56 (k_X9_add (kind := (10 : Int32)) (value := (0 : Int64)) (kcount := kcount) (klen := klen) (kat := kat) (kinds := kinds) (kvals := kvals) (tchars := tchars) (by assumption) hz1) rfl rfl rfl rfl rfl rfl rfl rfl ?_
  replace hres : (r_0, r_1, r_2, r_3) = f_X9_split_c106 kat z1_0 z1_1 z1_2 := hres.trans (by rw [← hz1])
  rw [f_X9_split_c106] at hres
  cases hres
  exact G.vreturn (pc := 109) dm_X9_split_109 rfl rfl rfl
def f_X9_split_96 (kcount : Int32) (kat : Int32) (kinds : Nat → Int32) (kvals : Nat → Int64) (l1 : Int32) (kL12 : Int32 → Int32 → Int32 → (Nat → Int32) → (Nat → Int64) → Int32 × Int32 × (Nat → Int32) × (Nat → Int64)) : Int32 × Int32 × (Nat → Int32) × (Nat → Int64) := (kL12 (l1 + (1 : Int32)) kcount kat kinds kvals)
set_option maxRecDepth 20000 in
theorem j_X9_split_96 {l1 : Int32} {kcount : Int32} {klen : Int32} {kat : Int32} {kinds : Nat → Int32} {kvals : Nat → Int64} {tchars : Nat → Int32} {kL12 : Int32 → Int32 → Int32 → (Nat → Int32) → (Nat → Int64) → Int32 × Int32 × (Nat → Int32) × (Nat → Int64)} {r_0 : Int32} {r_1 : Int32} {r_2 : (Nat → Int32)} {r_3 : (Nat → Int64)} (hres : (r_0, r_1, r_2, r_3) = (f_X9_split_96 kcount kat kinds kvals l1 kL12)) (hk : 0 ≤ kat.toInt ∧ kat.toInt ≤ klen.toInt ∧ klen.toInt ≤ 400) (hc : 0 ≤ kcount.toInt ∧ kcount.toInt ≤ 401) (hch : q_ch kinds) (h2 : 0 ≤ l1.toInt) (hl2 : l1.toInt < 400) {mu : Nat} (hmu : (400 - l1.toInt.toNat) = mu) (hk12 : ∀ {l1 : Int32} {kcount : Int32} {kat : Int32} {kinds : Nat → Int32} {kvals : Nat → Int64}, (0 ≤ kat.toInt ∧ kat.toInt ≤ klen.toInt ∧ klen.toInt ≤ 400) → (0 ≤ kcount.toInt ∧ kcount.toInt ≤ 401) → (q_ch kinds) → (0 ≤ l1.toInt) → (400 - l1.toInt.toNat) < mu → (r_0, r_1, r_2, r_3) = kL12 l1 kcount kat kinds kvals → G M_X9_split 0 0 12 [(0, .ref 0), (1, .int l1)] [] (w_K kcount klen kat kinds kvals tchars) (none) (w_K r_0 klen r_1 r_2 r_3 tchars)) : G M_X9_split 0 0 96 [(0, .ref 0), (1, .int l1)] [] (w_K kcount klen kat kinds kvals tchars) (none) (w_K r_0 klen r_1 r_2 r_3 tchars) := by
  rw [f_X9_split_96] at hres
  refine G.iinc (pc := 96) (v := (l1 + (1 : Int32))) (lv1 := [(1, .int (l1 + (1 : Int32))), (0, .ref 0)]) dm_X9_split_96 rfl rfl rfl rfl ?_
  refine G.goto (pc := 99) (tgt := 12) dm_X9_split_99 (by decide) ?_
  refine G.lvp [1, 0] rfl ?_
  exact hk12 hk hc hch (by rw [q_inc (by omega)]; omega) (by rw [q_inc (by omega)]; omega) hres
def f_X9_split_c85 (l1 : Int32) (kL12 : Int32 → Int32 → Int32 → (Nat → Int32) → (Nat → Int64) → Int32 × Int32 × (Nat → Int32) × (Nat → Int64)) (z4_0 : Int32) (z4_1 : Int32) (z4_2 : (Nat → Int32)) (z4_3 : (Nat → Int64)) : Int32 × Int32 × (Nat → Int32) × (Nat → Int64) := (f_X9_split_96 z4_0 z4_1 z4_2 z4_3 l1 kL12)
def f_X9_split_85 (kcount : Int32) (klen : Int32) (kat : Int32) (kinds : Nat → Int32) (kvals : Nat → Int64) (tchars : Nat → Int32) (l1 : Int32) (kL12 : Int32 → Int32 → Int32 → (Nat → Int32) → (Nat → Int64) → Int32 × Int32 × (Nat → Int32) × (Nat → Int64)) (s1 : Int32) : Int32 × Int32 × (Nat → Int32) × (Nat → Int64) := (f_X9_split_c85 l1 kL12 (f_X9_takeNumber s1 kcount klen kat kinds kvals tchars).1 (f_X9_takeNumber s1 kcount klen kat kinds kvals tchars).2.1 (f_X9_takeNumber s1 kcount klen kat kinds kvals tchars).2.2.1 (f_X9_takeNumber s1 kcount klen kat kinds kvals tchars).2.2.2)
set_option maxRecDepth 20000 in
theorem j_X9_split_85 {l1 : Int32} {s1 : Int32} {kcount : Int32} {klen : Int32} {kat : Int32} {kinds : Nat → Int32} {kvals : Nat → Int64} {tchars : Nat → Int32} {kL12 : Int32 → Int32 → Int32 → (Nat → Int32) → (Nat → Int64) → Int32 × Int32 × (Nat → Int32) × (Nat → Int64)} {r_0 : Int32} {r_1 : Int32} {r_2 : (Nat → Int32)} {r_3 : (Nat → Int64)} (hres : (r_0, r_1, r_2, r_3) = (f_X9_split_85 kcount klen kat kinds kvals tchars l1 kL12 s1)) (hk : 0 ≤ kat.toInt ∧ kat.toInt ≤ klen.toInt ∧ klen.toInt ≤ 400) (hc : 0 ≤ kcount.toInt ∧ kcount.toInt ≤ 401) (hch : q_ch kinds) (h2 : 0 ≤ l1.toInt) (hlt : kat.toInt < klen.toInt) (hl2 : l1.toInt < 400) {mu : Nat} (hmu : (400 - l1.toInt.toNat) = mu) (hk12 : ∀ {l1 : Int32} {kcount : Int32} {kat : Int32} {kinds : Nat → Int32} {kvals : Nat → Int64}, (0 ≤ kat.toInt ∧ kat.toInt ≤ klen.toInt ∧ klen.toInt ≤ 400) → (0 ≤ kcount.toInt ∧ kcount.toInt ≤ 401) → (q_ch kinds) → (0 ≤ l1.toInt) → (400 - l1.toInt.toNat) < mu → (r_0, r_1, r_2, r_3) = kL12 l1 kcount kat kinds kvals → G M_X9_split 0 0 12 [(0, .ref 0), (1, .int l1)] [] (w_K kcount klen kat kinds kvals tchars) (none) (w_K r_0 klen r_1 r_2 r_3 tchars)) : G M_X9_split 0 0 85 [(0, .ref 0), (1, .int l1)] [.int s1, .ref 0] (w_K kcount klen kat kinds kvals tchars) (none) (w_K r_0 klen r_1 r_2 r_3 tchars) := by
  rw [f_X9_split_85] at hres
  obtain ⟨z4_0, z4_1, z4_2, z4_3, hz4⟩ := g_ex4 (f_X9_takeNumber s1 kcount klen kat kinds kvals tchars)
  refine G.callV0 (pc := 85) (rest := []) (st1 := []) dm_X9_split_85 gc_X9_split_48 (k_X9_takeNumber (negative := s1) (kcount := kcount) (klen := klen) (kat := kat) (kinds := kinds) (kvals := kvals) (tchars := tchars) hk hc (fun _ => hlt) hz4) rfl rfl rfl rfl rfl rfl rfl rfl ?_
  have hh := a_X9_takeNumber hz4 hk hc hch (fun _ => hlt)
  have hk := hh.1
  have hc := hh.2.1
  have hch := hh.2.2
  replace hres : (r_0, r_1, r_2, r_3) = f_X9_split_c85 l1 kL12 z4_0 z4_1 z4_2 z4_3 := hres.trans (by rw [← hz4])
  rw [f_X9_split_c85] at hres
  refine G.goto (pc := 88) (tgt := 96) dm_X9_split_88 (by decide) ?_
  exact j_X9_split_96 hres (by assumption) (by assumption) (by assumption) (by assumption) (by assumption) hmu hk12
def f_X9_split_73 (kcount : Int32) (klen : Int32) (kat : Int32) (kinds : Nat → Int32) (kvals : Nat → Int64) (tchars : Nat → Int32) (l1 : Int32) (kL12 : Int32 → Int32 → Int32 → (Nat → Int32) → (Nat → Int64) → Int32 × Int32 × (Nat → Int32) × (Nat → Int64)) (l2 : Int32) : Int32 × Int32 × (Nat → Int32) × (Nat → Int64) := (if l2 = (45 : Int32) then (f_X9_split_85 kcount klen kat kinds kvals tchars l1 kL12 (1 : Int32)) else (f_X9_split_85 kcount klen kat kinds kvals tchars l1 kL12 (0 : Int32)))
set_option maxRecDepth 20000 in
theorem j_X9_split_73 {l1 : Int32} {l2 : Int32} {kcount : Int32} {klen : Int32} {kat : Int32} {kinds : Nat → Int32} {kvals : Nat → Int64} {tchars : Nat → Int32} {kL12 : Int32 → Int32 → Int32 → (Nat → Int32) → (Nat → Int64) → Int32 × Int32 × (Nat → Int32) × (Nat → Int64)} {r_0 : Int32} {r_1 : Int32} {r_2 : (Nat → Int32)} {r_3 : (Nat → Int64)} (hres : (r_0, r_1, r_2, r_3) = (f_X9_split_73 kcount klen kat kinds kvals tchars l1 kL12 l2)) (hk : 0 ≤ kat.toInt ∧ kat.toInt ≤ klen.toInt ∧ klen.toInt ≤ 400) (hc : 0 ≤ kcount.toInt ∧ kcount.toInt ≤ 401) (hch : q_ch kinds) (h2 : 0 ≤ l1.toInt) (hlt : kat.toInt < klen.toInt) (hl2 : l1.toInt < 400) {mu : Nat} (hmu : (400 - l1.toInt.toNat) = mu) (hk12 : ∀ {l1 : Int32} {kcount : Int32} {kat : Int32} {kinds : Nat → Int32} {kvals : Nat → Int64}, (0 ≤ kat.toInt ∧ kat.toInt ≤ klen.toInt ∧ klen.toInt ≤ 400) → (0 ≤ kcount.toInt ∧ kcount.toInt ≤ 401) → (q_ch kinds) → (0 ≤ l1.toInt) → (400 - l1.toInt.toNat) < mu → (r_0, r_1, r_2, r_3) = kL12 l1 kcount kat kinds kvals → G M_X9_split 0 0 12 [(0, .ref 0), (1, .int l1)] [] (w_K kcount klen kat kinds kvals tchars) (none) (w_K r_0 klen r_1 r_2 r_3 tchars)) : G M_X9_split 0 0 73 [(0, .ref 0), (1, .int l1), (2, .int l2)] [] (w_K kcount klen kat kinds kvals tchars) (none) (w_K r_0 klen r_1 r_2 r_3 tchars) := by
  rw [f_X9_split_73] at hres
  refine G.aload_n (pc := 73) dm_X9_split_73 rfl ?_
  refine G.iload_n (pc := 74) dm_X9_split_74 rfl ?_
  refine G.bipush (pc := 75) (v := (45 : Int32)) dm_X9_split_75 qb_45 ?_
  refine G.icmp_ne (pc := 77) (tgt := 84) dm_X9_split_77 (by decide) (fun c77 => ?_) (fun c77 => ?_)
  · rw [if_neg c77] at hres
    refine G.iconst (pc := 84) (v := (0 : Int32)) dm_X9_split_84 qi_0 ?_
    refine G.lvp [0, 1] rfl ?_
    exact j_X9_split_85 hres (by assumption) (by assumption) (by assumption) (by assumption) (by assumption) (by assumption) hmu hk12
  · rw [if_pos c77] at hres
    refine G.iconst (pc := 80) (v := (1 : Int32)) dm_X9_split_80 qi_1 ?_
    refine G.goto (pc := 81) (tgt := 85) dm_X9_split_81 (by decide) ?_
    refine G.lvp [0, 1] rfl ?_
    exact j_X9_split_85 hres (by assumption) (by assumption) (by assumption) (by assumption) (by assumption) (by assumption) hmu hk12
def f_X9_split_c93 (l1 : Int32) (kL12 : Int32 → Int32 → Int32 → (Nat → Int32) → (Nat → Int64) → Int32 × Int32 × (Nat → Int32) × (Nat → Int64)) (z5_0 : Int32) (z5_1 : Int32) (z5_2 : (Nat → Int32)) (z5_3 : (Nat → Int64)) : Int32 × Int32 × (Nat → Int32) × (Nat → Int64) := (f_X9_split_96 z5_0 z5_1 z5_2 z5_3 l1 kL12)
def f_X9_split_c61 (kcount : Int32) (klen : Int32) (kat : Int32) (kinds : Nat → Int32) (kvals : Nat → Int64) (tchars : Nat → Int32) (l1 : Int32) (kL12 : Int32 → Int32 → Int32 → (Nat → Int32) → (Nat → Int64) → Int32 × Int32 × (Nat → Int32) × (Nat → Int64)) (z3_0 : Int32) : Int32 × Int32 × (Nat → Int32) × (Nat → Int64) := (if z3_0 = 0 then (if (tchars (Int32.toNatClampNeg kat)) = (45 : Int32) then (f_X9_split_73 kcount klen kat kinds kvals tchars l1 kL12 (tchars (Int32.toNatClampNeg kat))) else (f_X9_split_c93 l1 kL12 (f_X9_takeMark (tchars (Int32.toNatClampNeg kat)) kcount kat kinds kvals).1 (f_X9_takeMark (tchars (Int32.toNatClampNeg kat)) kcount kat kinds kvals).2.1 (f_X9_takeMark (tchars (Int32.toNatClampNeg kat)) kcount kat kinds kvals).2.2.1 (f_X9_takeMark (tchars (Int32.toNatClampNeg kat)) kcount kat kinds kvals).2.2.2)) else (f_X9_split_73 kcount klen kat kinds kvals tchars l1 kL12 (tchars (Int32.toNatClampNeg kat))))
def f_X9_split_c54 (l1 : Int32) (kL12 : Int32 → Int32 → Int32 → (Nat → Int32) → (Nat → Int64) → Int32 × Int32 × (Nat → Int32) × (Nat → Int64)) (z6_0 : Int32) (z6_1 : Int32) (z6_2 : (Nat → Int32)) (z6_3 : (Nat → Int64)) : Int32 × Int32 × (Nat → Int32) × (Nat → Int64) := (f_X9_split_96 z6_0 z6_1 z6_2 z6_3 l1 kL12)
def f_X9_split_c47 (kcount : Int32) (klen : Int32) (kat : Int32) (kinds : Nat → Int32) (kvals : Nat → Int64) (tchars : Nat → Int32) (l1 : Int32) (kL12 : Int32 → Int32 → Int32 → (Nat → Int32) → (Nat → Int64) → Int32 × Int32 × (Nat → Int32) × (Nat → Int64)) (z2_0 : Int32) : Int32 × Int32 × (Nat → Int32) × (Nat → Int64) := (if z2_0 = 0 then (f_X9_split_c61 kcount klen kat kinds kvals tchars l1 kL12 (f_X9_isDigit (tchars (Int32.toNatClampNeg kat)))) else (f_X9_split_c54 l1 kL12 (f_X9_takeLetters kcount klen kat kinds kvals tchars).1 (f_X9_takeLetters kcount klen kat kinds kvals tchars).2.1 (f_X9_takeLetters kcount klen kat kinds kvals tchars).2.2.1 (f_X9_takeLetters kcount klen kat kinds kvals tchars).2.2.2))
def f_X9_split_12 (klen : Int32) (tchars : Nat → Int32) : Nat → Int32 → Int32 → Int32 → (Nat → Int32) → (Nat → Int64) → Int32 × Int32 × (Nat → Int32) × (Nat → Int64)
  | 0, l1, kcount, kat, kinds, kvals => (kcount, kat, kinds, kvals)
  | n + 1, l1, kcount, kat, kinds, kvals => (if (400 : Int32) ≤ l1 then (f_X9_split_102 kcount kat kinds kvals) else (if klen ≤ kat then (f_X9_split_102 kcount kat kinds kvals) else (f_X9_split_c47 kcount klen kat kinds kvals tchars l1 (f_X9_split_12 klen tchars n) (f_X9_isLetter (tchars (Int32.toNatClampNeg kat))))))
set_option maxRecDepth 20000 in
theorem j_X9_split_12 : ∀ (n : Nat) {l1 : Int32} {kcount : Int32} {klen : Int32} {kat : Int32} {kinds : Nat → Int32} {kvals : Nat → Int64} {tchars : Nat → Int32} {r_0 : Int32} {r_1 : Int32} {r_2 : (Nat → Int32)} {r_3 : (Nat → Int64)}, (hk : 0 ≤ kat.toInt ∧ kat.toInt ≤ klen.toInt ∧ klen.toInt ≤ 400) → (hc : 0 ≤ kcount.toInt ∧ kcount.toInt ≤ 401) → (hch : q_ch kinds) → (h2 : 0 ≤ l1.toInt) → (400 - l1.toInt.toNat) < n → (r_0, r_1, r_2, r_3) = f_X9_split_12 klen tchars n l1 kcount kat kinds kvals → G M_X9_split 0 0 12 [(0, .ref 0), (1, .int l1)] [] (w_K kcount klen kat kinds kvals tchars) (none) (w_K r_0 klen r_1 r_2 r_3 tchars) := by
  intro n
  induction n with
  | zero =>
    intro l1 kcount klen kat kinds kvals tchars r_0 r_1 r_2 r_3 hk hc hch h2 hm hres
    exact absurd hm (Nat.not_lt_zero _)
  | succ n ih =>
    intro l1 kcount klen kat kinds kvals tchars r_0 r_1 r_2 r_3 hk hc hch h2 hm hres
    obtain ⟨mu, hmu⟩ : ∃ z, (400 - l1.toInt.toNat) = z := ⟨_, rfl⟩
    rw [hmu] at hm
    have hk12 : ∀ {l1 : Int32} {kcount : Int32} {kat : Int32} {kinds : Nat → Int32} {kvals : Nat → Int64}, (0 ≤ kat.toInt ∧ kat.toInt ≤ klen.toInt ∧ klen.toInt ≤ 400) → (0 ≤ kcount.toInt ∧ kcount.toInt ≤ 401) → (q_ch kinds) → (0 ≤ l1.toInt) → (400 - l1.toInt.toNat) < mu → (r_0, r_1, r_2, r_3) = (f_X9_split_12 klen tchars n) l1 kcount kat kinds kvals → G M_X9_split 0 0 12 [(0, .ref 0), (1, .int l1)] [] (w_K kcount klen kat kinds kvals tchars) (none) (w_K r_0 klen r_1 r_2 r_3 tchars) := fun hk hc hch h2 hlt he => ih hk hc hch h2 (Nat.lt_of_lt_of_le hlt (Nat.le_of_lt_succ hm)) he
    rw [f_X9_split_12] at hres
    refine G.iload_n (pc := 12) dm_X9_split_12 rfl ?_
    refine G.sipush (pc := 13) (v := (400 : Int32)) dm_X9_split_13 qs_400 ?_
    refine G.icmp_ge (pc := 16) (tgt := 102) dm_X9_split_16 (by decide) (fun c16 => ?_) (fun c16 => ?_)
    · rw [if_pos c16] at hres
      refine G.lvp [0] rfl ?_
      exact j_X9_split_102 hres (by assumption)
    · rw [if_neg c16] at hres
      have hl2 := q_400 c16
      refine G.aload_n (pc := 19) dm_X9_split_19 rfl ?_
      refine G.getfield (pc := 20) dm_X9_split_20 gf_X9_27 rfl rfl ?_
      refine G.aload_n (pc := 23) dm_X9_split_23 rfl ?_
      refine G.getfield (pc := 24) dm_X9_split_24 gf_X9_19 rfl rfl ?_
      refine G.getfield (pc := 27) dm_X9_split_27 gf_X9_30 rfl rfl ?_
      refine G.icmp_ge (pc := 30) (tgt := 102) dm_X9_split_30 (by decide) (fun c30 => ?_) (fun c30 => ?_)
      · rw [if_pos c30] at hres
        refine G.lvp [0] rfl ?_
        exact j_X9_split_102 hres (by assumption)
      · rw [if_neg c30] at hres
        have hlt := q_nle c30
        refine G.aload_n (pc := 33) dm_X9_split_33 rfl ?_
        refine G.getfield (pc := 34) dm_X9_split_34 gf_X9_19 rfl rfl ?_
        refine G.getfield (pc := 37) dm_X9_split_37 gf_X9_35 rfl rfl ?_
        refine G.aload_n (pc := 40) dm_X9_split_40 rfl ?_
        refine G.getfield (pc := 41) dm_X9_split_41 gf_X9_27 rfl rfl ?_
        refine G.caload (pc := 44) dm_X9_split_44 rfl (q_in hk.1 (by omega)) ?_
        refine G.istore_n (pc := 45) (lv1 := [(2, .int (tchars (Int32.toNatClampNeg kat))), (0, .ref 0), (1, .int l1)]) dm_X9_split_45 rfl rfl ?_
        refine G.iload_n (pc := 46) dm_X9_split_46 rfl ?_
        obtain ⟨z2_0, hz2⟩ := g_ex1 (f_X9_isLetter (tchars (Int32.toNatClampNeg kat)))
        refine G.callS (pc := 47) (rest := []) (st1 := [.int z2_0]) (ws1 := (w_K kcount klen kat kinds kvals tchars)) [] dm_X9_split_47 gc_X9_split_38 (k_X9_isLetter (c := (tchars (Int32.toNatClampNeg kat))) hz2) rfl rfl rfl rfl rfl rfl rfl rfl ?_
        replace hres : (r_0, r_1, r_2, r_3) = f_X9_split_c47 kcount klen kat kinds kvals tchars l1 (f_X9_split_12 klen tchars n) z2_0 := hres.trans (by rw [← hz2])
        rw [f_X9_split_c47] at hres
        refine G.if_eq (pc := 50) (tgt := 60) dm_X9_split_50 (by decide) (fun c50 => ?_) (fun c50 => ?_)
        · rw [if_pos c50] at hres
          refine G.iload_n (pc := 60) dm_X9_split_60 rfl ?_
          obtain ⟨z3_0, hz3⟩ := g_ex1 (f_X9_isDigit (tchars (Int32.toNatClampNeg kat)))
          refine G.callS (pc := 61) (rest := []) (st1 := [.int z3_0]) (ws1 := (w_K kcount klen kat kinds kvals tchars)) [] dm_X9_split_61 gc_X9_split_45 (k_X9_isDigit (c := (tchars (Int32.toNatClampNeg kat))) hz3) rfl rfl rfl rfl rfl rfl rfl rfl ?_
          replace hres : (r_0, r_1, r_2, r_3) = f_X9_split_c61 kcount klen kat kinds kvals tchars l1 (f_X9_split_12 klen tchars n) z3_0 := hres.trans (by rw [← hz3])
          rw [f_X9_split_c61] at hres
          refine G.if_ne (pc := 64) (tgt := 73) dm_X9_split_64 (by decide) (fun c64 => ?_) (fun c64 => ?_)
          · rw [if_neg c64] at hres
            refine G.lvp [1, 2, 0] rfl ?_
            exact j_X9_split_73 hres (by assumption) (by assumption) (by assumption) (by assumption) (by assumption) (by assumption) hmu hk12
          · rw [if_pos c64] at hres
            refine G.iload_n (pc := 67) dm_X9_split_67 rfl ?_
            refine G.bipush (pc := 68) (v := (45 : Int32)) dm_X9_split_68 qb_45 ?_
            refine G.icmp_ne (pc := 70) (tgt := 91) dm_X9_split_70 (by decide) (fun c70 => ?_) (fun c70 => ?_)
            · rw [if_neg c70] at hres
              refine G.aload_n (pc := 91) dm_X9_split_91 rfl ?_
              refine G.iload_n (pc := 92) dm_X9_split_92 rfl ?_
              obtain ⟨z5_0, z5_1, z5_2, z5_3, hz5⟩ := g_ex4 (f_X9_takeMark (tchars (Int32.toNatClampNeg kat)) kcount kat kinds kvals)
              refine G.callV0 (pc := 93) (rest := []) (st1 := []) dm_X9_split_93 gc_X9_split_52 (k_X9_takeMark (c := (tchars (Int32.toNatClampNeg kat))) (kcount := kcount) (klen := klen) (kat := kat) (kinds := kinds) (kvals := kvals) (tchars := tchars) (by assumption) hz5) rfl rfl rfl rfl rfl rfl rfl rfl ?_
              have hh := a_X9_takeMark hz5 hk hc hch hlt
              have hk := hh.1
              have hc := hh.2.1
              have hch := hh.2.2
              replace hres : (r_0, r_1, r_2, r_3) = f_X9_split_c93 l1 (f_X9_split_12 klen tchars n) z5_0 z5_1 z5_2 z5_3 := hres.trans (by rw [← hz5])
              rw [f_X9_split_c93] at hres
              refine G.lvp [1, 2] rfl ?_
              exact j_X9_split_96 hres (by assumption) (by assumption) (by assumption) (by assumption) (by assumption) hmu hk12
            · rw [if_pos c70] at hres
              refine G.lvp [1, 2, 0] rfl ?_
              exact j_X9_split_73 hres (by assumption) (by assumption) (by assumption) (by assumption) (by assumption) (by assumption) hmu hk12
        · rw [if_neg c50] at hres
          refine G.aload_n (pc := 53) dm_X9_split_53 rfl ?_
          obtain ⟨z6_0, z6_1, z6_2, z6_3, hz6⟩ := g_ex4 (f_X9_takeLetters kcount klen kat kinds kvals tchars)
          refine G.callV0 (pc := 54) (rest := []) (st1 := []) dm_X9_split_54 gc_X9_split_42 (k_X9_takeLetters (kcount := kcount) (klen := klen) (kat := kat) (kinds := kinds) (kvals := kvals) (tchars := tchars) (by assumption) (by assumption) hz6) rfl rfl rfl rfl rfl rfl rfl rfl ?_
          have hh := a_X9_takeLetters hz6 hk hc hch
          have hk := hh.1
          have hc := hh.2.1
          have hch := hh.2.2
          replace hres : (r_0, r_1, r_2, r_3) = f_X9_split_c54 l1 (f_X9_split_12 klen tchars n) z6_0 z6_1 z6_2 z6_3 := hres.trans (by rw [← hz6])
          rw [f_X9_split_c54] at hres
          refine G.goto (pc := 57) (tgt := 96) dm_X9_split_57 (by decide) ?_
          refine G.lvp [1, 2] rfl ?_
          exact j_X9_split_96 hres (by assumption) (by assumption) (by assumption) (by assumption) (by assumption) hmu hk12
def f_X9_split (klen : Int32) (kinds : Nat → Int32) (kvals : Nat → Int64) (tchars : Nat → Int32) : Int32 × Int32 × (Nat → Int32) × (Nat → Int64) := (f_X9_split_12 klen tchars (401) (0 : Int32) (0 : Int32) (0 : Int32) kinds kvals)
set_option maxRecDepth 20000 in
theorem k_X9_split {kcount : Int32} {klen : Int32} {kat : Int32} {kinds : Nat → Int32} {kvals : Nat → Int64} {tchars : Nat → Int32} (htl : 0 ≤ klen.toInt ∧ klen.toInt ≤ 400) (hch : q_ch kinds) {r_0 : Int32} {r_1 : Int32} {r_2 : (Nat → Int32)} {r_3 : (Nat → Int64)} (hres : (r_0, r_1, r_2, r_3) = f_X9_split klen kinds kvals tchars) : K M_X9_split yX9_split [.ref 0] (w_K kcount klen kat kinds kvals tchars) (none) (w_K r_0 klen r_1 r_2 r_3 tchars) := by
  refine K.of (lv := [(0, .ref 0)]) (by decide +kernel) rfl rfl rfl ?_
  rw [f_X9_split] at hres
  refine G.aload_n (pc := 0) dm_X9_split_0 rfl ?_
  refine G.iconst (pc := 1) (v := (0 : Int32)) dm_X9_split_1 qi_0 ?_
  refine G.putfield (pc := 2) (ws1 := (w_K (0 : Int32) klen kat kinds kvals tchars)) dm_X9_split_2 gw_X9_23 rfl (g_fit_i _) rfl rfl ?_
  refine G.aload_n (pc := 5) dm_X9_split_5 rfl ?_
  refine G.iconst (pc := 6) (v := (0 : Int32)) dm_X9_split_6 qi_0 ?_
  refine G.putfield (pc := 7) (ws1 := (w_K (0 : Int32) klen (0 : Int32) kinds kvals tchars)) dm_X9_split_7 gw_X9_27 rfl (g_fit_i _) rfl rfl ?_
  refine G.iconst (pc := 10) (v := (0 : Int32)) dm_X9_split_10 qi_0 ?_
  refine G.istore_n (pc := 11) (lv1 := [(1, .int (0 : Int32)), (0, .ref 0)]) dm_X9_split_11 rfl rfl ?_
  refine G.lvp [1, 0] rfl ?_
  exact j_X9_split_12 _ (by exact ⟨by decide, htl.1, htl.2⟩) (by decide) hch (by decide) (by decide) hres
theorem a_X9_split_102 {kcount : Int32} {kat : Int32} {kinds : Nat → Int32} {kvals : Nat → Int64} {r_0 : Int32} {r_1 : Int32} {r_2 : (Nat → Int32)} {r_3 : (Nat → Int64)} (hres : (r_0, r_1, r_2, r_3) = (f_X9_split_102 kcount kat kinds kvals)) (hc : 0 ≤ kcount.toInt ∧ kcount.toInt ≤ 401) (hch : q_ch kinds) : (0 ≤ r_0.toInt ∧ r_0.toInt ≤ 401) ∧ q_ch r_2 := by
  rw [f_X9_split_102] at hres
  obtain ⟨z1_0, z1_1, z1_2, hz1⟩ := g_ex3 (f_X9_add (10 : Int32) (0 : Int64) kcount kinds kvals)
  have hh := a_X9_add hz1 hc hch
  have hc := hh.1
  have hch := hh.2
  replace hres : (r_0, r_1, r_2, r_3) = f_X9_split_c106 kat z1_0 z1_1 z1_2 := hres.trans (by rw [← hz1])
  rw [f_X9_split_c106] at hres
  cases hres
  exact ⟨hc, hch⟩
theorem a_X9_split_96 {l1 : Int32} {kcount : Int32} {klen : Int32} {kat : Int32} {kinds : Nat → Int32} {kvals : Nat → Int64} {kL12 : Int32 → Int32 → Int32 → (Nat → Int32) → (Nat → Int64) → Int32 × Int32 × (Nat → Int32) × (Nat → Int64)} {r_0 : Int32} {r_1 : Int32} {r_2 : (Nat → Int32)} {r_3 : (Nat → Int64)} (hres : (r_0, r_1, r_2, r_3) = (f_X9_split_96 kcount kat kinds kvals l1 kL12)) (hk : 0 ≤ kat.toInt ∧ kat.toInt ≤ klen.toInt ∧ klen.toInt ≤ 400) (hc : 0 ≤ kcount.toInt ∧ kcount.toInt ≤ 401) (hch : q_ch kinds) (hk12 : ∀ {l1 : Int32} {kcount : Int32} {kat : Int32} {kinds : Nat → Int32} {kvals : Nat → Int64}, (0 ≤ kat.toInt ∧ kat.toInt ≤ klen.toInt ∧ klen.toInt ≤ 400) → (0 ≤ kcount.toInt ∧ kcount.toInt ≤ 401) → (q_ch kinds) → (r_0, r_1, r_2, r_3) = kL12 l1 kcount kat kinds kvals → (0 ≤ r_0.toInt ∧ r_0.toInt ≤ 401) ∧ q_ch r_2) : (0 ≤ r_0.toInt ∧ r_0.toInt ≤ 401) ∧ q_ch r_2 := by
  rw [f_X9_split_96] at hres
  exact hk12 (by assumption) (by assumption) (by assumption) hres
theorem a_X9_split_85 {l1 : Int32} {s1 : Int32} {kcount : Int32} {klen : Int32} {kat : Int32} {kinds : Nat → Int32} {kvals : Nat → Int64} {tchars : Nat → Int32} {kL12 : Int32 → Int32 → Int32 → (Nat → Int32) → (Nat → Int64) → Int32 × Int32 × (Nat → Int32) × (Nat → Int64)} {r_0 : Int32} {r_1 : Int32} {r_2 : (Nat → Int32)} {r_3 : (Nat → Int64)} (hres : (r_0, r_1, r_2, r_3) = (f_X9_split_85 kcount klen kat kinds kvals tchars l1 kL12 s1)) (hk : 0 ≤ kat.toInt ∧ kat.toInt ≤ klen.toInt ∧ klen.toInt ≤ 400) (hc : 0 ≤ kcount.toInt ∧ kcount.toInt ≤ 401) (hch : q_ch kinds) (hlt : kat.toInt < klen.toInt) (hk12 : ∀ {l1 : Int32} {kcount : Int32} {kat : Int32} {kinds : Nat → Int32} {kvals : Nat → Int64}, (0 ≤ kat.toInt ∧ kat.toInt ≤ klen.toInt ∧ klen.toInt ≤ 400) → (0 ≤ kcount.toInt ∧ kcount.toInt ≤ 401) → (q_ch kinds) → (r_0, r_1, r_2, r_3) = kL12 l1 kcount kat kinds kvals → (0 ≤ r_0.toInt ∧ r_0.toInt ≤ 401) ∧ q_ch r_2) : (0 ≤ r_0.toInt ∧ r_0.toInt ≤ 401) ∧ q_ch r_2 := by
  rw [f_X9_split_85] at hres
  obtain ⟨z4_0, z4_1, z4_2, z4_3, hz4⟩ := g_ex4 (f_X9_takeNumber s1 kcount klen kat kinds kvals tchars)
  have hh := a_X9_takeNumber hz4 hk hc hch (fun _ => hlt)
  have hk := hh.1
  have hc := hh.2.1
  have hch := hh.2.2
  replace hres : (r_0, r_1, r_2, r_3) = f_X9_split_c85 l1 kL12 z4_0 z4_1 z4_2 z4_3 := hres.trans (by rw [← hz4])
  rw [f_X9_split_c85] at hres
  exact a_X9_split_96 hres (by assumption) (by assumption) (by assumption) hk12
theorem a_X9_split_73 {l1 : Int32} {l2 : Int32} {kcount : Int32} {klen : Int32} {kat : Int32} {kinds : Nat → Int32} {kvals : Nat → Int64} {tchars : Nat → Int32} {kL12 : Int32 → Int32 → Int32 → (Nat → Int32) → (Nat → Int64) → Int32 × Int32 × (Nat → Int32) × (Nat → Int64)} {r_0 : Int32} {r_1 : Int32} {r_2 : (Nat → Int32)} {r_3 : (Nat → Int64)} (hres : (r_0, r_1, r_2, r_3) = (f_X9_split_73 kcount klen kat kinds kvals tchars l1 kL12 l2)) (hk : 0 ≤ kat.toInt ∧ kat.toInt ≤ klen.toInt ∧ klen.toInt ≤ 400) (hc : 0 ≤ kcount.toInt ∧ kcount.toInt ≤ 401) (hch : q_ch kinds) (hlt : kat.toInt < klen.toInt) (hk12 : ∀ {l1 : Int32} {kcount : Int32} {kat : Int32} {kinds : Nat → Int32} {kvals : Nat → Int64}, (0 ≤ kat.toInt ∧ kat.toInt ≤ klen.toInt ∧ klen.toInt ≤ 400) → (0 ≤ kcount.toInt ∧ kcount.toInt ≤ 401) → (q_ch kinds) → (r_0, r_1, r_2, r_3) = kL12 l1 kcount kat kinds kvals → (0 ≤ r_0.toInt ∧ r_0.toInt ≤ 401) ∧ q_ch r_2) : (0 ≤ r_0.toInt ∧ r_0.toInt ≤ 401) ∧ q_ch r_2 := by
  rw [f_X9_split_73] at hres
  by_cases c77 : l2 = (45 : Int32)
  · rw [if_pos c77] at hres
    exact a_X9_split_85 hres (by assumption) (by assumption) (by assumption) (by assumption) hk12
  · rw [if_neg c77] at hres
    exact a_X9_split_85 hres (by assumption) (by assumption) (by assumption) (by assumption) hk12
theorem a_X9_split_12 : ∀ (n : Nat) {l1 : Int32} {kcount : Int32} {klen : Int32} {kat : Int32} {kinds : Nat → Int32} {kvals : Nat → Int64} {tchars : Nat → Int32} {r_0 : Int32} {r_1 : Int32} {r_2 : (Nat → Int32)} {r_3 : (Nat → Int64)}, (0 ≤ kat.toInt ∧ kat.toInt ≤ klen.toInt ∧ klen.toInt ≤ 400) → (0 ≤ kcount.toInt ∧ kcount.toInt ≤ 401) → (q_ch kinds) → (r_0, r_1, r_2, r_3) = f_X9_split_12 klen tchars n l1 kcount kat kinds kvals → (0 ≤ r_0.toInt ∧ r_0.toInt ≤ 401) ∧ q_ch r_2 := by
  intro n
  induction n with
  | zero =>
    intro l1 kcount klen kat kinds kvals tchars r_0 r_1 r_2 r_3 hk hc hch hres
    rw [f_X9_split_12] at hres
    cases hres
    exact ⟨hc, hch⟩
  | succ n ih =>
    intro l1 kcount klen kat kinds kvals tchars r_0 r_1 r_2 r_3 hk hc hch hres
    have hk12 : ∀ {l1 : Int32} {kcount : Int32} {kat : Int32} {kinds : Nat → Int32} {kvals : Nat → Int64}, (0 ≤ kat.toInt ∧ kat.toInt ≤ klen.toInt ∧ klen.toInt ≤ 400) → (0 ≤ kcount.toInt ∧ kcount.toInt ≤ 401) → (q_ch kinds) → (r_0, r_1, r_2, r_3) = (f_X9_split_12 klen tchars n) l1 kcount kat kinds kvals → (0 ≤ r_0.toInt ∧ r_0.toInt ≤ 401) ∧ q_ch r_2 := fun hk hc hch he => ih hk hc hch he
    rw [f_X9_split_12] at hres
    by_cases c16 : (400 : Int32) ≤ l1
    · rw [if_pos c16] at hres
      exact a_X9_split_102 hres (by assumption) (by assumption)
    · rw [if_neg c16] at hres
      by_cases c30 : klen ≤ kat
      · rw [if_pos c30] at hres
        exact a_X9_split_102 hres (by assumption) (by assumption)
      · rw [if_neg c30] at hres
        have hlt := q_nle c30
        obtain ⟨z2_0, hz2⟩ := g_ex1 (f_X9_isLetter (tchars (Int32.toNatClampNeg kat)))
        replace hres : (r_0, r_1, r_2, r_3) = f_X9_split_c47 kcount klen kat kinds kvals tchars l1 (f_X9_split_12 klen tchars n) z2_0 := hres.trans (by rw [← hz2])
        rw [f_X9_split_c47] at hres
        by_cases c50 : z2_0 = 0
        · rw [if_pos c50] at hres
          obtain ⟨z3_0, hz3⟩ := g_ex1 (f_X9_isDigit (tchars (Int32.toNatClampNeg kat)))
          replace hres : (r_0, r_1, r_2, r_3) = f_X9_split_c61 kcount klen kat kinds kvals tchars l1 (f_X9_split_12 klen tchars n) z3_0 := hres.trans (by rw [← hz3])
          rw [f_X9_split_c61] at hres
          by_cases c64 : z3_0 = 0
          · rw [if_pos c64] at hres
            by_cases c70 : (tchars (Int32.toNatClampNeg kat)) = (45 : Int32)
            · rw [if_pos c70] at hres
              exact a_X9_split_73 hres (by assumption) (by assumption) (by assumption) (by assumption) hk12
            · rw [if_neg c70] at hres
              obtain ⟨z5_0, z5_1, z5_2, z5_3, hz5⟩ := g_ex4 (f_X9_takeMark (tchars (Int32.toNatClampNeg kat)) kcount kat kinds kvals)
              have hh := a_X9_takeMark hz5 hk hc hch hlt
              have hk := hh.1
              have hc := hh.2.1
              have hch := hh.2.2
              replace hres : (r_0, r_1, r_2, r_3) = f_X9_split_c93 l1 (f_X9_split_12 klen tchars n) z5_0 z5_1 z5_2 z5_3 := hres.trans (by rw [← hz5])
              rw [f_X9_split_c93] at hres
              exact a_X9_split_96 hres (by assumption) (by assumption) (by assumption) hk12
          · rw [if_neg c64] at hres
            exact a_X9_split_73 hres (by assumption) (by assumption) (by assumption) (by assumption) hk12
        · rw [if_neg c50] at hres
          obtain ⟨z6_0, z6_1, z6_2, z6_3, hz6⟩ := g_ex4 (f_X9_takeLetters kcount klen kat kinds kvals tchars)
          have hh := a_X9_takeLetters hz6 hk hc hch
          have hk := hh.1
          have hc := hh.2.1
          have hch := hh.2.2
          replace hres : (r_0, r_1, r_2, r_3) = f_X9_split_c54 l1 (f_X9_split_12 klen tchars n) z6_0 z6_1 z6_2 z6_3 := hres.trans (by rw [← hz6])
          rw [f_X9_split_c54] at hres
          exact a_X9_split_96 hres (by assumption) (by assumption) (by assumption) hk12
theorem a_X9_split {klen : Int32} {kinds : Nat → Int32} {kvals : Nat → Int64} {tchars : Nat → Int32} {r_0 : Int32} {r_1 : Int32} {r_2 : (Nat → Int32)} {r_3 : (Nat → Int64)} (hres : (r_0, r_1, r_2, r_3) = f_X9_split klen kinds kvals tchars) (htl : 0 ≤ klen.toInt ∧ klen.toInt ≤ 400) (hch : q_ch kinds) : (0 ≤ r_0.toInt ∧ r_0.toInt ≤ 401) ∧ q_ch r_2 := by
  rw [f_X9_split] at hres
  exact a_X9_split_12 _ (by exact ⟨by decide, htl.1, htl.2⟩) (by decide) hch hres
