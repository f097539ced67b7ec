abbrev M_X9_takeDigits : g_M := (cX9_takeDigits, 4, RX9, (some .long), { frames := 1, cells := 0, slots := 0, locals := 20 }, 0, 0)
theorem dm_X9_takeDigits_0 : decode M_X9_takeDigits.1 0 = .ok (.aload_n 0, 1) := by decide +kernel
theorem dm_X9_takeDigits_1 : decode M_X9_takeDigits.1 1 = .ok (.getfield 33, 3) := by decide +kernel
theorem dm_X9_takeDigits_4 : decode M_X9_takeDigits.1 4 = .ok (.istore_n 1, 1) := by decide +kernel
theorem dm_X9_takeDigits_5 : decode M_X9_takeDigits.1 5 = .ok (.lconst 0, 1) := by decide +kernel
theorem dm_X9_takeDigits_6 : decode M_X9_takeDigits.1 6 = .ok (.lstore_n 2, 1) := by decide +kernel
theorem dm_X9_takeDigits_7 : decode M_X9_takeDigits.1 7 = .ok (.aload_n 0, 1) := by decide +kernel
theorem dm_X9_takeDigits_8 : decode M_X9_takeDigits.1 8 = .ok (.getfield 33, 3) := by decide +kernel
theorem dm_X9_takeDigits_11 : decode M_X9_takeDigits.1 11 = .ok (.aload_n 0, 1) := by decide +kernel
theorem dm_X9_takeDigits_12 : decode M_X9_takeDigits.1 12 = .ok (.getfield 29, 3) := by decide +kernel
theorem dm_X9_takeDigits_15 : decode M_X9_takeDigits.1 15 = .ok (.if_icmp .ge 68, 3) := by decide +kernel
theorem dm_X9_takeDigits_18 : decode M_X9_takeDigits.1 18 = .ok (.aload_n 0, 1) := by decide +kernel
theorem dm_X9_takeDigits_19 : decode M_X9_takeDigits.1 19 = .ok (.getfield 24, 3) := by decide +kernel
theorem dm_X9_takeDigits_22 : decode M_X9_takeDigits.1 22 = .ok (.aload_n 0, 1) := by decide +kernel
theorem dm_X9_takeDigits_23 : decode M_X9_takeDigits.1 23 = .ok (.getfield 33, 3) := by decide +kernel
theorem dm_X9_takeDigits_26 : decode M_X9_takeDigits.1 26 = .ok (.caload, 1) := by decide +kernel
theorem dm_X9_takeDigits_27 : decode M_X9_takeDigits.1 27 = .ok (.invokestatic 43, 3) := by decide +kernel
theorem dm_X9_takeDigits_30 : decode M_X9_takeDigits.1 30 = .ok (.ifCond .eq 53, 3) := by decide +kernel
theorem dm_X9_takeDigits_33 : decode M_X9_takeDigits.1 33 = .ok (.aload_n 0, 1) := by decide +kernel
theorem dm_X9_takeDigits_34 : decode M_X9_takeDigits.1 34 = .ok (.getfield 33, 3) := by decide +kernel
theorem dm_X9_takeDigits_37 : decode M_X9_takeDigits.1 37 = .ok (.iload_n 1, 1) := by decide +kernel
theorem dm_X9_takeDigits_38 : decode M_X9_takeDigits.1 38 = .ok (.isub, 1) := by decide +kernel
theorem dm_X9_takeDigits_39 : decode M_X9_takeDigits.1 39 = .ok (.bipush 10, 2) := by decide +kernel
theorem dm_X9_takeDigits_41 : decode M_X9_takeDigits.1 41 = .ok (.if_icmp .ge 25, 3) := by decide +kernel
theorem dm_X9_takeDigits_44 : decode M_X9_takeDigits.1 44 = .ok (.lload_n 2, 1) := by decide +kernel
theorem dm_X9_takeDigits_45 : decode M_X9_takeDigits.1 45 = .ok (.ldc2_w 71, 3) := by decide +kernel
theorem dm_X9_takeDigits_48 : decode M_X9_takeDigits.1 48 = .ok (.lmul, 1) := by decide +kernel
theorem dm_X9_takeDigits_49 : decode M_X9_takeDigits.1 49 = .ok (.aload_n 0, 1) := by decide +kernel
theorem dm_X9_takeDigits_50 : decode M_X9_takeDigits.1 50 = .ok (.getfield 24, 3) := by decide +kernel
theorem dm_X9_takeDigits_53 : decode M_X9_takeDigits.1 53 = .ok (.aload_n 0, 1) := by decide +kernel
theorem dm_X9_takeDigits_54 : decode M_X9_takeDigits.1 54 = .ok (.getfield 33, 3) := by decide +kernel
theorem dm_X9_takeDigits_57 : decode M_X9_takeDigits.1 57 = .ok (.caload, 1) := by decide +kernel
theorem dm_X9_takeDigits_58 : decode M_X9_takeDigits.1 58 = .ok (.bipush 48, 2) := by decide +kernel
theorem dm_X9_takeDigits_60 : decode M_X9_takeDigits.1 60 = .ok (.isub, 1) := by decide +kernel
theorem dm_X9_takeDigits_61 : decode M_X9_takeDigits.1 61 = .ok (.i2l, 1) := by decide +kernel
theorem dm_X9_takeDigits_62 : decode M_X9_takeDigits.1 62 = .ok (.ladd, 1) := by decide +kernel
theorem dm_X9_takeDigits_63 : decode M_X9_takeDigits.1 63 = .ok (.goto 6, 3) := by decide +kernel
theorem dm_X9_takeDigits_66 : decode M_X9_takeDigits.1 66 = .ok (.ldc2_w 73, 3) := by decide +kernel
theorem dm_X9_takeDigits_69 : decode M_X9_takeDigits.1 69 = .ok (.lstore_n 2, 1) := by decide +kernel
theorem dm_X9_takeDigits_70 : decode M_X9_takeDigits.1 70 = .ok (.aload_n 0, 1) := by decide +kernel
theorem dm_X9_takeDigits_71 : decode M_X9_takeDigits.1 71 = .ok (.dup, 1) := by decide +kernel
theorem dm_X9_takeDigits_72 : decode M_X9_takeDigits.1 72 = .ok (.getfield 33, 3) := by decide +kernel
theorem dm_X9_takeDigits_75 : decode M_X9_takeDigits.1 75 = .ok (.iconst 1, 1) := by decide +kernel
theorem dm_X9_takeDigits_76 : decode M_X9_takeDigits.1 76 = .ok (.iadd, 1) := by decide +kernel
theorem dm_X9_takeDigits_77 : decode M_X9_takeDigits.1 77 = .ok (.putfield 33, 3) := by decide +kernel
theorem dm_X9_takeDigits_80 : decode M_X9_takeDigits.1 80 = .ok (.goto (-73), 3) := by decide +kernel
theorem dm_X9_takeDigits_83 : decode M_X9_takeDigits.1 83 = .ok (.lload_n 2, 1) := by decide +kernel
theorem dm_X9_takeDigits_84 : decode M_X9_takeDigits.1 84 = .ok (.lreturn, 1) := by decide +kernel
theorem gc_X9_takeDigits_43 : g_cs M_X9_takeDigits 43 M_X9_isDigit yX9_isDigit 1 := ⟨tw223, tw224, tw84, tw225, ⟨rfl, rfl, rfl, rfl⟩, gd_X9_isDigit, ⟨by decide, by decide⟩⟩
def f_X9_takeDigits_69 (kat : Int32) (l1 : Int32) (kL7 : Int32 → Int64 → Int32 → Int64 × Int32) (s0 : Int64) : Int64 × Int32 := (kL7 l1 s0 (kat + (1 : Int32)))
set_option maxRecDepth 20000 in
theorem j_X9_takeDigits_69 {l1 : Int32} {s0 : Int64} {kcount : Int32} {klen : Int32} {kat : Int32} {kinds : Nat → Int32} {kvals : Nat → Int64} {tchars : Nat → Int32} {kL7 : Int32 → Int64 → Int32 → Int64 × Int32} {r_0 : Int64} {r_1 : Int32} (hres : (r_0, r_1) = (f_X9_takeDigits_69 kat l1 kL7 s0)) (hk : 0 ≤ kat.toInt ∧ kat.toInt ≤ klen.toInt ∧ klen.toInt ≤ 400) (hlt : kat.toInt < klen.toInt) {mu : Nat} (hmu : (klen.toInt.toNat - kat.toInt.toNat) = mu) (hk7 : ∀ {l1 : Int32} {l2 : Int64} {kat : Int32}, (0 ≤ kat.toInt ∧ kat.toInt ≤ klen.toInt ∧ klen.toInt ≤ 400) → (klen.toInt.toNat - kat.toInt.toNat) < mu → (r_0, r_1) = kL7 l1 l2 kat → G M_X9_takeDigits 0 0 7 [(0, .ref 0), (1, .int l1), (2, .long l2)] [] (w_K kcount klen kat kinds kvals tchars) (some (.long r_0)) (w_K kcount klen r_1 kinds kvals tchars)) : G M_X9_takeDigits 0 0 69 [(0, .ref 0), (1, .int l1)] [.long s0] (w_K kcount klen kat kinds kvals tchars) (some (.long r_0)) (w_K kcount klen r_1 kinds kvals tchars) := by
  rw [f_X9_takeDigits_69] at hres
  refine G.lstore_n (pc := 69) (lv1 := [(2, .long s0), (0, .ref 0), (1, .int l1)]) dm_X9_takeDigits_69 rfl rfl ?_
  refine G.aload_n (pc := 70) dm_X9_takeDigits_70 rfl ?_
  refine G.dup (pc := 71) dm_X9_takeDigits_71 rfl ?_
  refine G.getfield (pc := 72) dm_X9_takeDigits_72 gf_X9_33 rfl rfl ?_
  refine G.iconst (pc := 75) (v := (1 : Int32)) dm_X9_takeDigits_75 qi_1 ?_
  refine G.iadd (pc := 76) dm_X9_takeDigits_76 ?_
  refine G.putfield (pc := 77) (ws1 := (w_K kcount klen (kat + (1 : Int32)) kinds kvals tchars)) dm_X9_takeDigits_77 gw_X9_33 rfl (g_fit_i _) rfl rfl ?_
  refine G.goto (pc := 80) (tgt := 7) dm_X9_takeDigits_80 (by decide) ?_
  refine G.lvp [1, 2, 0] rfl ?_
  exact hk7 (q_kup hk hlt) (by rw [q_inc (by omega)]; omega) hres
def f_X9_takeDigits_c27 (kat : Int32) (tchars : Nat → Int32) (l1 : Int32) (l2 : Int64) (kL7 : Int32 → Int64 → Int32 → Int64 × Int32) (z1_0 : Int32) : Int64 × Int32 := (if z1_0 = 0 then (l2, kat) else (if (10 : Int32) ≤ (kat - l1) then (f_X9_takeDigits_69 kat l1 kL7 (1099511627776 : Int64)) else (f_X9_takeDigits_69 kat l1 kL7 ((l2 * (10 : Int64)) + (Int32.toInt64 ((tchars (Int32.toNatClampNeg kat)) - (48 : Int32)))))))
def f_X9_takeDigits_7 (klen : Int32) (tchars : Nat → Int32) : Nat → Int32 → Int64 → Int32 → Int64 × Int32
  | 0, l1, l2, kat => (0, kat)
  | n + 1, l1, l2, kat => (if klen ≤ kat then (l2, kat) else (f_X9_takeDigits_c27 kat tchars l1 l2 (f_X9_takeDigits_7 klen tchars n) (f_X9_isDigit (tchars (Int32.toNatClampNeg kat)))))
set_option maxRecDepth 20000 in
theorem j_X9_takeDigits_7 : ∀ (n : Nat) {l1 : Int32} {l2 : Int64} {kcount : Int32} {klen : Int32} {kat : Int32} {kinds : Nat → Int32} {kvals : Nat → Int64} {tchars : Nat → Int32} {r_0 : Int64} {r_1 : Int32}, (hk : 0 ≤ kat.toInt ∧ kat.toInt ≤ klen.toInt ∧ klen.toInt ≤ 400) → (klen.toInt.toNat - kat.toInt.toNat) < n → (r_0, r_1) = f_X9_takeDigits_7 klen tchars n l1 l2 kat → G M_X9_takeDigits 0 0 7 [(0, .ref 0), (1, .int l1), (2, .long l2)] [] (w_K kcount klen kat kinds kvals tchars) (some (.long r_0)) (w_K kcount klen r_1 kinds kvals tchars) := by
  intro n
  induction n with
  | zero =>
    intro l1 l2 kcount klen kat kinds kvals tchars r_0 r_1 hk hm hres
    exact absurd hm (Nat.not_lt_zero _)
  | succ n ih =>
    intro l1 l2 kcount klen kat kinds kvals tchars r_0 r_1 hk hm hres
    obtain ⟨mu, hmu⟩ : ∃ z, (klen.toInt.toNat - kat.toInt.toNat) = z := ⟨_, rfl⟩
    rw [hmu] at hm
    have hk7 : ∀ {l1 : Int32} {l2 : Int64} {kat : Int32}, (0 ≤ kat.toInt ∧ kat.toInt ≤ klen.toInt ∧ klen.toInt ≤ 400) → (klen.toInt.toNat - kat.toInt.toNat) < mu → (r_0, r_1) = (f_X9_takeDigits_7 klen tchars n) l1 l2 kat → G M_X9_takeDigits 0 0 7 [(0, .ref 0), (1, .int l1), (2, .long l2)] [] (w_K kcount klen kat kinds kvals tchars) (some (.long r_0)) (w_K kcount klen r_1 kinds kvals tchars) := fun hk hlt he => ih hk (Nat.lt_of_lt_of_le hlt (Nat.le_of_lt_succ hm)) he
    rw [f_X9_takeDigits_7] at hres
    refine G.aload_n (pc := 7) dm_X9_takeDigits_7 rfl ?_
    refine G.getfield (pc := 8) dm_X9_takeDigits_8 gf_X9_33 rfl rfl ?_
    refine G.aload_n (pc := 11) dm_X9_takeDigits_11 rfl ?_
    refine G.getfield (pc := 12) dm_X9_takeDigits_12 gf_X9_29 rfl rfl ?_
    refine G.icmp_ge (pc := 15) (tgt := 83) dm_X9_takeDigits_15 (by decide) (fun c15 => ?_) (fun c15 => ?_)
    · rw [if_pos c15] at hres
      refine G.lload_n (pc := 83) dm_X9_takeDigits_83 rfl ?_
      cases hres
      exact G.lreturn (pc := 84) dm_X9_takeDigits_84 rfl rfl rfl
    · rw [if_neg c15] at hres
      have hlt := q_nle c15
      refine G.aload_n (pc := 18) dm_X9_takeDigits_18 rfl ?_
      refine G.getfield (pc := 19) dm_X9_takeDigits_19 gf_X9_24 rfl rfl ?_
      refine G.aload_n (pc := 22) dm_X9_takeDigits_22 rfl ?_
      refine G.getfield (pc := 23) dm_X9_takeDigits_23 gf_X9_33 rfl rfl ?_
      refine G.caload (pc := 26) dm_X9_takeDigits_26 rfl (q_in hk.1 (by omega)) ?_
      obtain ⟨z1_0, hz1⟩ := g_ex1 (f_X9_isDigit (tchars (Int32.toNatClampNeg kat)))
      refine G.callS (pc := 27) (rest := []) (st1 := [.int z1_0]) (ws1 := (w_K kcount klen kat kinds kvals tchars)) [] dm_X9_takeDigits_27 gc_X9_takeDigits_43 (k_X9_isDigit (c := (tchars (Int32.toNatClampNeg kat))) hz1) rfl rfl rfl rfl rfl rfl rfl rfl ?_
      replace hres : (r_0, r_1) = f_X9_takeDigits_c27 kat tchars l1 l2 (f_X9_takeDigits_7 klen tchars n) z1_0 := hres.trans (by rw [← hz1])
      rw [f_X9_takeDigits_c27] at hres
      refine G.if_eq (pc := 30) (tgt := 83) dm_X9_takeDigits_30 (by decide) (fun c30 => ?_) (fun c30 => ?_)
      · rw [if_pos c30] at hres
        refine G.lload_n (pc := 83) dm_X9_takeDigits_83 rfl ?_
        cases hres
        exact G.lreturn (pc := 84) dm_X9_takeDigits_84 rfl rfl rfl
      · rw [if_neg c30] at hres
        refine G.aload_n (pc := 33) dm_X9_takeDigits_33 rfl ?_
        refine G.getfield (pc := 34) dm_X9_takeDigits_34 gf_X9_33 rfl rfl ?_
        refine G.iload_n (pc := 37) dm_X9_takeDigits_37 rfl ?_
        refine G.isub (pc := 38) dm_X9_takeDigits_38 ?_
        refine G.bipush (pc := 39) (v := (10 : Int32)) dm_X9_takeDigits_39 qb_10 ?_
        refine G.icmp_ge (pc := 41) (tgt := 66) dm_X9_takeDigits_41 (by decide) (fun c41 => ?_) (fun c41 => ?_)
        · rw [if_pos c41] at hres
          refine G.ldc2 (pc := 66) dm_X9_takeDigits_66 tw236 ?_
          refine G.lvp [0, 1] rfl ?_
          exact j_X9_takeDigits_69 hres (by assumption) (by assumption) hmu hk7
        · rw [if_neg c41] at hres
          refine G.lload_n (pc := 44) dm_X9_takeDigits_44 rfl ?_
          refine G.ldc2 (pc := 45) dm_X9_takeDigits_45 tw235 ?_
          refine G.lmul (pc := 48) dm_X9_takeDigits_48 ?_
          refine G.aload_n (pc := 49) dm_X9_takeDigits_49 rfl ?_
          refine G.getfield (pc := 50) dm_X9_takeDigits_50 gf_X9_24 rfl rfl ?_
          refine G.aload_n (pc := 53) dm_X9_takeDigits_53 rfl ?_
          refine G.getfield (pc := 54) dm_X9_takeDigits_54 gf_X9_33 rfl rfl ?_
          refine G.caload (pc := 57) dm_X9_takeDigits_57 rfl (q_in hk.1 (by omega)) ?_
          refine G.bipush (pc := 58) (v := (48 : Int32)) dm_X9_takeDigits_58 qb_48 ?_
          refine G.isub (pc := 60) dm_X9_takeDigits_60 ?_
          refine G.i2l (pc := 61) dm_X9_takeDigits_61 ?_
          refine G.ladd (pc := 62) dm_X9_takeDigits_62 ?_
          refine G.goto (pc := 63) (tgt := 69) dm_X9_takeDigits_63 (by decide) ?_
          refine G.lvp [0, 1] rfl ?_
          exact j_X9_takeDigits_69 hres (by assumption) (by assumption) hmu hk7
def f_X9_takeDigits (klen : Int32) (kat : Int32) (tchars : Nat → Int32) : Int64 × Int32 := (f_X9_takeDigits_7 klen tchars (401) kat (0 : Int64) kat)
set_option maxRecDepth 20000 in
theorem k_X9_takeDigits {kcount : Int32} {klen : Int32} {kat : Int32} {kinds : Nat → Int32} {kvals : Nat → Int64} {tchars : Nat → Int32} (hk : 0 ≤ kat.toInt ∧ kat.toInt ≤ klen.toInt ∧ klen.toInt ≤ 400) {r_0 : Int64} {r_1 : Int32} (hres : (r_0, r_1) = f_X9_takeDigits klen kat tchars) : K M_X9_takeDigits yX9_takeDigits [.ref 0] (w_K kcount klen kat kinds kvals tchars) (some (.long r_0)) (w_K kcount klen r_1 kinds kvals tchars) := by
  refine K.of (lv := [(0, .ref 0)]) (by decide +kernel) rfl rfl rfl ?_
  rw [f_X9_takeDigits] at hres
  refine G.aload_n (pc := 0) dm_X9_takeDigits_0 rfl ?_
  refine G.getfield (pc := 1) dm_X9_takeDigits_1 gf_X9_33 rfl rfl ?_
  refine G.istore_n (pc := 4) (lv1 := [(1, .int kat), (0, .ref 0)]) dm_X9_takeDigits_4 rfl rfl ?_
  refine G.lconst (pc := 5) (v := (0 : Int64)) dm_X9_takeDigits_5 (by decide) ?_
  refine G.lstore_n (pc := 6) (lv1 := [(2, .long (0 : Int64)), (1, .int kat), (0, .ref 0)]) dm_X9_takeDigits_6 rfl rfl ?_
  refine G.lvp [2, 1, 0] rfl ?_
  exact j_X9_takeDigits_7 _ (by assumption) (by omega) hres
theorem a_X9_takeDigits_69 {l1 : Int32} {s0 : Int64} {klen : Int32} {kat : Int32} {kL7 : Int32 → Int64 → Int32 → Int64 × Int32} {r_0 : Int64} {r_1 : Int32} (hres : (r_0, r_1) = (f_X9_takeDigits_69 kat l1 kL7 s0)) (hk : 0 ≤ kat.toInt ∧ kat.toInt ≤ klen.toInt ∧ klen.toInt ≤ 400) (hlt : kat.toInt < klen.toInt) (hk7 : ∀ {l1 : Int32} {l2 : Int64} {kat : Int32}, (0 ≤ kat.toInt ∧ kat.toInt ≤ klen.toInt ∧ klen.toInt ≤ 400) → (r_0, r_1) = kL7 l1 l2 kat → 0 ≤ r_1.toInt ∧ r_1.toInt ≤ klen.toInt ∧ klen.toInt ≤ 400) : 0 ≤ r_1.toInt ∧ r_1.toInt ≤ klen.toInt ∧ klen.toInt ≤ 400 := by
  rw [f_X9_takeDigits_69] at hres
  exact hk7 (q_kup hk hlt) hres
theorem a_X9_takeDigits_7 : ∀ (n : Nat) {l1 : Int32} {l2 : Int64} {klen : Int32} {kat : Int32} {tchars : Nat → Int32} {r_0 : Int64} {r_1 : Int32}, (0 ≤ kat.toInt ∧ kat.toInt ≤ klen.toInt ∧ klen.toInt ≤ 400) → (r_0, r_1) = f_X9_takeDigits_7 klen tchars n l1 l2 kat → 0 ≤ r_1.toInt ∧ r_1.toInt ≤ klen.toInt ∧ klen.toInt ≤ 400 := by
  intro n
  induction n with
  | zero =>
    intro l1 l2 klen kat tchars r_0 r_1 hk hres
    rw [f_X9_takeDigits_7] at hres
    cases hres
    exact hk
  | succ n ih =>
    intro l1 l2 klen kat tchars r_0 r_1 hk hres
    have hk7 : ∀ {l1 : Int32} {l2 : Int64} {kat : Int32}, (0 ≤ kat.toInt ∧ kat.toInt ≤ klen.toInt ∧ klen.toInt ≤ 400) → (r_0, r_1) = (f_X9_takeDigits_7 klen tchars n) l1 l2 kat → 0 ≤ r_1.toInt ∧ r_1.toInt ≤ klen.toInt ∧ klen.toInt ≤ 400 := fun hk he => ih hk he
    rw [f_X9_takeDigits_7] at hres
    by_cases c15 : klen ≤ kat
    · rw [if_pos c15] at hres
      cases hres
      exact hk
    · rw [if_neg c15] at hres
      have hlt := q_nle c15
      obtain ⟨z1_0, hz1⟩ := g_ex1 (f_X9_isDigit (tchars (Int32.toNatClampNeg kat)))
      replace hres : (r_0, r_1) = f_X9_takeDigits_c27 kat tchars l1 l2 (f_X9_takeDigits_7 klen tchars n) z1_0 := hres.trans (by rw [← hz1])
      rw [f_X9_takeDigits_c27] at hres
      by_cases c30 : z1_0 = 0
      · rw [if_pos c30] at hres
        cases hres
        exact hk
      · rw [if_neg c30] at hres
        by_cases c41 : (10 : Int32) ≤ (kat - l1)
        · rw [if_pos c41] at hres
          exact a_X9_takeDigits_69 hres (by assumption) (by assumption) hk7
        · rw [if_neg c41] at hres
          exact a_X9_takeDigits_69 hres (by assumption) (by assumption) hk7
theorem a_X9_takeDigits {klen : Int32} {kat : Int32} {tchars : Nat → Int32} {r_0 : Int64} {r_1 : Int32} (hres : (r_0, r_1) = f_X9_takeDigits klen kat tchars) (hk : 0 ≤ kat.toInt ∧ kat.toInt ≤ klen.toInt ∧ klen.toInt ≤ 400) : 0 ≤ r_1.toInt ∧ r_1.toInt ≤ klen.toInt ∧ klen.toInt ≤ 400 := by
  rw [f_X9_takeDigits] at hres
  exact a_X9_takeDigits_7 _ (by assumption) hres
abbrev M_X9_takeRegister : g_M := (cX9_takeRegister, 4, RX9, none, { frames := 2, cells := 0, slots := 0, locals := 43 }, 0, 0)
theorem dm_X9_takeRegister_0 : decode M_X9_takeRegister.1 0 = .ok (.aload_n 0, 1) := by decide +kernel
theorem dm_X9_takeRegister_1 : decode M_X9_takeRegister.1 1 = .ok (.getfield 33, 3) := by decide +kernel
theorem dm_X9_takeRegister_4 : decode M_X9_takeRegister.1 4 = .ok (.istore_n 1, 1) := by decide +kernel
theorem dm_X9_takeRegister_5 : decode M_X9_takeRegister.1 5 = .ok (.aload_n 0, 1) := by decide +kernel
theorem dm_X9_takeRegister_6 : decode M_X9_takeRegister.1 6 = .ok (.invokevirtual 65, 3) := by decide +kernel
theorem dm_X9_takeRegister_9 : decode M_X9_takeRegister.1 9 = .ok (.lstore_n 2, 1) := by decide +kernel
theorem dm_X9_takeRegister_10 : decode M_X9_takeRegister.1 10 = .ok (.aload_n 0, 1) := by decide +kernel
theorem dm_X9_takeRegister_11 : decode M_X9_takeRegister.1 11 = .ok (.aload_n 0, 1) := by decide +kernel
theorem dm_X9_takeRegister_12 : decode M_X9_takeRegister.1 12 = .ok (.getfield 33, 3) := by decide +kernel
theorem dm_X9_takeRegister_15 : decode M_X9_takeRegister.1 15 = .ok (.iload_n 1, 1) := by decide +kernel
theorem dm_X9_takeRegister_16 : decode M_X9_takeRegister.1 16 = .ok (.isub, 1) := by decide +kernel
theorem dm_X9_takeRegister_17 : decode M_X9_takeRegister.1 17 = .ok (.iconst 2, 1) := by decide +kernel
theorem dm_X9_takeRegister_18 : decode M_X9_takeRegister.1 18 = .ok (.if_icmp .gt 11, 3) := by decide +kernel
theorem dm_X9_takeRegister_21 : decode M_X9_takeRegister.1 21 = .ok (.lload_n 2, 1) := by decide +kernel
theorem dm_X9_takeRegister_22 : decode M_X9_takeRegister.1 22 = .ok (.ldc2_w 69, 3) := by decide +kernel
theorem dm_X9_takeRegister_25 : decode M_X9_takeRegister.1 25 = .ok (.lcmp, 1) := by decide +kernel
theorem dm_X9_takeRegister_26 : decode M_X9_takeRegister.1 26 = .ok (.ifCond .lt 8, 3) := by decide +kernel
theorem dm_X9_takeRegister_29 : decode M_X9_takeRegister.1 29 = .ok (.bipush 63, 2) := by decide +kernel
theorem dm_X9_takeRegister_31 : decode M_X9_takeRegister.1 31 = .ok (.goto 5, 3) := by decide +kernel
theorem dm_X9_takeRegister_34 : decode M_X9_takeRegister.1 34 = .ok (.bipush 120, 2) := by decide +kernel
theorem dm_X9_takeRegister_36 : decode M_X9_takeRegister.1 36 = .ok (.lload_n 2, 1) := by decide +kernel
theorem dm_X9_takeRegister_37 : decode M_X9_takeRegister.1 37 = .ok (.invokevirtual 54, 3) := by decide +kernel
theorem dm_X9_takeRegister_40 : decode M_X9_takeRegister.1 40 = .ok (.return_, 1) := by decide +kernel
theorem gc_X9_takeRegister_65 : g_cv M_X9_takeRegister 65 M_X9_takeDigits yX9_takeDigits 0 := ⟨tw231, tw232, tw233, tw84, tw234, ⟨rfl, rfl, rfl, rfl⟩, gd_X9_takeDigits, ⟨by decide, by decide⟩⟩
theorem gc_X9_takeRegister_54 : g_cv M_X9_takeRegister 54 M_X9_add yX9_add 2 := ⟨tw237, tw238, tw239, tw84, tw240, ⟨rfl, rfl, rfl, rfl⟩, gd_X9_add, ⟨by decide, by decide⟩⟩
def f_X9_takeRegister_c37 (kat : Int32) (z2_0 : Int32) (z2_1 : (Nat → Int32)) (z2_2 : (Nat → Int64)) : Int32 × Int32 × (Nat → Int32) × (Nat → Int64) := (z2_0, kat, z2_1, z2_2)
def f_X9_takeRegister_36 (kcount : Int32) (kat : Int32) (kinds : Nat → Int32) (kvals : Nat → Int64) (l2 : Int64) (s1 : Int32) : Int32 × Int32 × (Nat → Int32) × (Nat → Int64) := (f_X9_takeRegister_c37 kat (f_X9_add s1 l2 kcount kinds kvals).1 (f_X9_add s1 l2 kcount kinds kvals).2.1 (f_X9_add s1 l2 kcount kinds kvals).2.2)
set_option maxRecDepth 20000 in
theorem j_X9_takeRegister_36 {l2 : Int64} {s1 : Int32} {kcount : Int32} {klen : Int32} {kat : Int32} {kinds : Nat → Int32} {kvals : Nat → Int64} {tchars : Nat → Int32} {r_0 : Int32} {r_1 : Int32} {r_2 : (Nat → Int32)} {r_3 : (Nat → Int64)} (hres : (r_0, r_1, r_2, r_3) = (f_X9_takeRegister_36 kcount kat kinds kvals l2 s1)) (hc : 0 ≤ kcount.toInt ∧ kcount.toInt ≤ 401) : G M_X9_takeRegister 0 0 36 [(2, .long l2)] [.int s1, .ref 0] (w_K kcount klen kat kinds kvals tchars) (none) (w_K r_0 klen r_1 r_2 r_3 tchars) := by
  rw [f_X9_takeRegister_36] at hres
  refine G.lload_n (pc := 36) dm_X9_takeRegister_36 rfl ?_
  obtain ⟨z2_0, z2_1, z2_2, hz2⟩ := g_ex3 (f_X9_add s1 l2 kcount kinds kvals)
  refine G.callV0 (pc := 37) (rest := []) (st1 := []) dm_X9_takeRegister_37 gc_X9_takeRegister_54 (k_X9_add (kind := s1) (value := l2) (kcount := kcount) (klen := klen) (kat := kat) (kinds := kinds) (kvals := kvals) (tchars := tchars) (by assumption) hz2) rfl rfl rfl rfl rfl rfl rfl rfl ?_
  replace hres : (r_0, r_1, r_2, r_3) = f_X9_takeRegister_c37 kat z2_0 z2_1 z2_2 := hres.trans (by rw [← hz2])
  rw [f_X9_takeRegister_c37] at hres
  cases hres
  exact G.vreturn (pc := 40) dm_X9_takeRegister_40 rfl rfl rfl
def f_X9_takeRegister_c6 (kcount : Int32) (kat : Int32) (kinds : Nat → Int32) (kvals : Nat → Int64) (z1_0 : Int64) (z1_1 : Int32) : Int32 × Int32 × (Nat → Int32) × (Nat → Int64) := (if (2 : Int32) < (z1_1 - kat) then (f_X9_takeRegister_36 kcount z1_1 kinds kvals z1_0 (63 : Int32)) else (if (lg_cmp z1_0 (16 : Int64)) < 0 then (f_X9_takeRegister_36 kcount z1_1 kinds kvals z1_0 (120 : Int32)) else (f_X9_takeRegister_36 kcount z1_1 kinds kvals z1_0 (63 : Int32))))
def f_X9_takeRegister (kcount : Int32) (klen : Int32) (kat : Int32) (kinds : Nat → Int32) (kvals : Nat → Int64) (tchars : Nat → Int32) : Int32 × Int32 × (Nat → Int32) × (Nat → Int64) := (f_X9_takeRegister_c6 kcount kat kinds kvals (f_X9_takeDigits klen kat tchars).1 (f_X9_takeDigits klen kat tchars).2)
set_option maxRecDepth 20000 in
theorem k_X9_takeRegister {kcount : Int32} {klen : Int32} {kat : Int32} {kinds : Nat → Int32} {kvals : Nat → Int64} {tchars : Nat → Int32} (hk : 0 ≤ kat.toInt ∧ kat.toInt ≤ klen.toInt ∧ klen.toInt ≤ 400) (hc : 0 ≤ kcount.toInt ∧ kcount.toInt ≤ 401) {r_0 : Int32} {r_1 : Int32} {r_2 : (Nat → Int32)} {r_3 : (Nat → Int64)} (hres : (r_0, r_1, r_2, r_3) = f_X9_takeRegister kcount klen kat kinds kvals tchars) : K M_X9_takeRegister yX9_takeRegister [.ref 0] (w_K kcount klen kat kinds kvals tchars) (none) (w_K r_0 klen r_1 r_2 r_3 tchars) := by
  refine K.of (lv := [(0, .ref 0)]) (by decide +kernel) rfl rfl rfl ?_
  rw [f_X9_takeRegister] at hres
  refine G.aload_n (pc := 0) dm_X9_takeRegister_0 rfl ?_
  refine G.getfield (pc := 1) dm_X9_takeRegister_1 gf_X9_33 rfl rfl ?_
  refine G.istore_n (pc := 4) (lv1 := [(1, .int kat), (0, .ref 0)]) dm_X9_takeRegister_4 rfl rfl ?_
  refine G.aload_n (pc := 5) dm_X9_takeRegister_5 rfl ?_
  obtain ⟨z1_0, z1_1, hz1⟩ := g_ex2 (f_X9_takeDigits klen kat tchars)
  refine G.callV0 (pc := 6) (rest := []) (st1 := [.long z1_0]) dm_X9_takeRegister_6 gc_X9_takeRegister_65 (k_X9_takeDigits (kcount := kcount) (klen := klen) (kat := kat) (kinds := kinds) (kvals := kvals) (tchars := tchars) (by assumption) hz1) rfl rfl rfl rfl rfl rfl rfl rfl ?_
  replace hres : (r_0, r_1, r_2, r_3) = f_X9_takeRegister_c6 kcount kat kinds kvals z1_0 z1_1 := hres.trans (by rw [← hz1])
  rw [f_X9_takeRegister_c6] at hres
  refine G.lstore_n (pc := 9) (lv1 := [(2, .long z1_0), (1, .int kat), (0, .ref 0)]) dm_X9_takeRegister_9 rfl rfl ?_
  refine G.aload_n (pc := 10) dm_X9_takeRegister_10 rfl ?_
  refine G.aload_n (pc := 11) dm_X9_takeRegister_11 rfl ?_
  refine G.getfield (pc := 12) dm_X9_takeRegister_12 gf_X9_33 rfl rfl ?_
  refine G.iload_n (pc := 15) dm_X9_takeRegister_15 rfl ?_
  refine G.isub (pc := 16) dm_X9_takeRegister_16 ?_
  refine G.iconst (pc := 17) (v := (2 : Int32)) dm_X9_takeRegister_17 qi_2 ?_
  refine G.icmp_gt (pc := 18) (tgt := 29) dm_X9_takeRegister_18 (by decide) (fun c18 => ?_) (fun c18 => ?_)
  · rw [if_pos c18] at hres
    refine G.bipush (pc := 29) (v := (63 : Int32)) dm_X9_takeRegister_29 qb_63 ?_
    refine G.goto (pc := 31) (tgt := 36) dm_X9_takeRegister_31 (by decide) ?_
    refine G.lvp [0] rfl ?_
    exact j_X9_takeRegister_36 hres (by assumption)
  · rw [if_neg c18] at hres
    refine G.lload_n (pc := 21) dm_X9_takeRegister_21 rfl ?_
    refine G.ldc2 (pc := 22) dm_X9_takeRegister_22 tw230 ?_
    refine G.lcmp (pc := 25) dm_X9_takeRegister_25 ?_
    refine G.if_lt (pc := 26) (tgt := 34) dm_X9_takeRegister_26 (by decide) (fun c26 => ?_) (fun c26 => ?_)
    · rw [if_pos c26] at hres
      refine G.bipush (pc := 34) (v := (120 : Int32)) dm_X9_takeRegister_34 qb_120 ?_
      refine G.lvp [0] rfl ?_
      exact j_X9_takeRegister_36 hres (by assumption)
    · rw [if_neg c26] at hres
      refine G.bipush (pc := 29) (v := (63 : Int32)) dm_X9_takeRegister_29 qb_63 ?_
      refine G.goto (pc := 31) (tgt := 36) dm_X9_takeRegister_31 (by decide) ?_
      refine G.lvp [0] rfl ?_
      exact j_X9_takeRegister_36 hres (by assumption)
theorem a_X9_takeRegister_36 {l2 : Int64} {s1 : Int32} {kcount : Int32} {klen : Int32} {kat : Int32} {kinds : Nat → Int32} {kvals : Nat → Int64} {r_0 : Int32} {r_1 : Int32} {r_2 : (Nat → Int32)} {r_3 : (Nat → Int64)} (hres : (r_0, r_1, r_2, r_3) = (f_X9_takeRegister_36 kcount kat kinds kvals l2 s1)) (hk : 0 ≤ kat.toInt ∧ kat.toInt ≤ klen.toInt ∧ klen.toInt ≤ 400) (hc : 0 ≤ kcount.toInt ∧ kcount.toInt ≤ 401) (hch : q_ch kinds) : (0 ≤ r_1.toInt ∧ r_1.toInt ≤ klen.toInt ∧ klen.toInt ≤ 400) ∧ (0 ≤ r_0.toInt ∧ r_0.toInt ≤ 401) ∧ q_ch r_2 := by
  rw [f_X9_takeRegister_36] at hres
  obtain ⟨z2_0, z2_1, z2_2, hz2⟩ := g_ex3 (f_X9_add s1 l2 kcount kinds kvals)
  have hh := a_X9_add hz2 hc hch
  have hc := hh.1
  have hch := hh.2
  replace hres : (r_0, r_1, r_2, r_3) = f_X9_takeRegister_c37 kat z2_0 z2_1 z2_2 := hres.trans (by rw [← hz2])
  rw [f_X9_takeRegister_c37] at hres
  cases hres
  exact ⟨hk, hc, hch⟩
theorem a_X9_takeRegister {kcount : Int32} {klen : Int32} {kat : Int32} {kinds : Nat → Int32} {kvals : Nat → Int64} {tchars : Nat → Int32} {r_0 : Int32} {r_1 : Int32} {r_2 : (Nat → Int32)} {r_3 : (Nat → Int64)} (hres : (r_0, r_1, r_2, r_3) = f_X9_takeRegister kcount klen kat kinds kvals tchars) (hk : 0 ≤ kat.toInt ∧ kat.toInt ≤ klen.toInt ∧ klen.toInt ≤ 400) (hc : 0 ≤ kcount.toInt ∧ kcount.toInt ≤ 401) (hch : q_ch kinds) : (0 ≤ r_1.toInt ∧ r_1.toInt ≤ klen.toInt ∧ klen.toInt ≤ 400) ∧ (0 ≤ r_0.toInt ∧ r_0.toInt ≤ 401) ∧ q_ch r_2 := by
  rw [f_X9_takeRegister] at hres
  obtain ⟨z1_0, z1_1, hz1⟩ := g_ex2 (f_X9_takeDigits klen kat tchars)
  have hk := a_X9_takeDigits hz1 hk
  replace hres : (r_0, r_1, r_2, r_3) = f_X9_takeRegister_c6 kcount kat kinds kvals z1_0 z1_1 := hres.trans (by rw [← hz1])
  rw [f_X9_takeRegister_c6] at hres
  by_cases c18 : (2 : Int32) < (z1_1 - kat)
  · rw [if_pos c18] at hres
    exact a_X9_takeRegister_36 hres (by assumption) (by assumption) (by assumption)
  · rw [if_neg c18] at hres
    by_cases c26 : (lg_cmp z1_0 (16 : Int64)) < 0
    · rw [if_pos c26] at hres
      exact a_X9_takeRegister_36 hres (by assumption) (by assumption) (by assumption)
    · rw [if_neg c26] at hres
      exact a_X9_takeRegister_36 hres (by assumption) (by assumption) (by assumption)
abbrev M_X9_takeNumber : g_M := (cX9_takeNumber, 5, RX9, none, { frames := 2, cells := 0, slots := 0, locals := 43 }, 0, 0)
theorem dm_X9_takeNumber_0 : decode M_X9_takeNumber.1 0 = .ok (.iload_n 1, 1) := by decide +kernel
theorem dm_X9_takeNumber_1 : decode M_X9_takeNumber.1 1 = .ok (.ifCond .eq 13, 3) := by decide +kernel
theorem dm_X9_takeNumber_4 : decode M_X9_takeNumber.1 4 = .ok (.aload_n 0, 1) := by decide +kernel
theorem dm_X9_takeNumber_5 : decode M_X9_takeNumber.1 5 = .ok (.dup, 1) := by decide +kernel
theorem dm_X9_takeNumber_6 : decode M_X9_takeNumber.1 6 = .ok (.getfield 33, 3) := by decide +kernel
theorem dm_X9_takeNumber_9 : decode M_X9_takeNumber.1 9 = .ok (.iconst 1, 1) := by decide +kernel
theorem dm_X9_takeNumber_10 : decode M_X9_takeNumber.1 10 = .ok (.iadd, 1) := by decide +kernel
theorem dm_X9_takeNumber_11 : decode M_X9_takeNumber.1 11 = .ok (.putfield 33, 3) := by decide +kernel
theorem dm_X9_takeNumber_14 : decode M_X9_takeNumber.1 14 = .ok (.aload_n 0, 1) := by decide +kernel
theorem dm_X9_takeNumber_15 : decode M_X9_takeNumber.1 15 = .ok (.getfield 33, 3) := by decide +kernel
theorem dm_X9_takeNumber_18 : decode M_X9_takeNumber.1 18 = .ok (.istore_n 2, 1) := by decide +kernel
theorem dm_X9_takeNumber_19 : decode M_X9_takeNumber.1 19 = .ok (.aload_n 0, 1) := by decide +kernel
theorem dm_X9_takeNumber_20 : decode M_X9_takeNumber.1 20 = .ok (.invokevirtual 65, 3) := by decide +kernel
theorem dm_X9_takeNumber_23 : decode M_X9_takeNumber.1 23 = .ok (.lstore_n 3, 1) := by decide +kernel
theorem dm_X9_takeNumber_24 : decode M_X9_takeNumber.1 24 = .ok (.aload_n 0, 1) := by decide +kernel
theorem dm_X9_takeNumber_25 : decode M_X9_takeNumber.1 25 = .ok (.aload_n 0, 1) := by decide +kernel
theorem dm_X9_takeNumber_26 : decode M_X9_takeNumber.1 26 = .ok (.getfield 33, 3) := by decide +kernel
theorem dm_X9_takeNumber_29 : decode M_X9_takeNumber.1 29 = .ok (.iload_n 2, 1) := by decide +kernel
theorem dm_X9_takeNumber_30 : decode M_X9_takeNumber.1 30 = .ok (.if_icmp .ne 8, 3) := by decide +kernel
theorem dm_X9_takeNumber_33 : decode M_X9_takeNumber.1 33 = .ok (.bipush 63, 2) := by decide +kernel
theorem dm_X9_takeNumber_35 : decode M_X9_takeNumber.1 35 = .ok (.goto 5, 3) := by decide +kernel
theorem dm_X9_takeNumber_38 : decode M_X9_takeNumber.1 38 = .ok (.bipush 48, 2) := by decide +kernel
theorem dm_X9_takeNumber_40 : decode M_X9_takeNumber.1 40 = .ok (.iload_n 1, 1) := by decide +kernel
theorem dm_X9_takeNumber_41 : decode M_X9_takeNumber.1 41 = .ok (.ifCond .eq 8, 3) := by decide +kernel
theorem dm_X9_takeNumber_44 : decode M_X9_takeNumber.1 44 = .ok (.lload_n 3, 1) := by decide +kernel
theorem dm_X9_takeNumber_45 : decode M_X9_takeNumber.1 45 = .ok (.lneg, 1) := by decide +kernel
theorem dm_X9_takeNumber_46 : decode M_X9_takeNumber.1 46 = .ok (.goto 4, 3) := by decide +kernel
theorem dm_X9_takeNumber_49 : decode M_X9_takeNumber.1 49 = .ok (.lload_n 3, 1) := by decide +kernel
theorem dm_X9_takeNumber_50 : decode M_X9_takeNumber.1 50 = .ok (.invokevirtual 54, 3) := by decide +kernel
theorem dm_X9_takeNumber_53 : decode M_X9_takeNumber.1 53 = .ok (.return_, 1) := by decide +kernel
theorem gc_X9_takeNumber_65 : g_cv M_X9_takeNumber 65 M_X9_takeDigits yX9_takeDigits 0 := ⟨tw231, tw232, tw233, tw84, tw234, ⟨rfl, rfl, rfl, rfl⟩, gd_X9_takeDigits, ⟨by decide, by decide⟩⟩
theorem gc_X9_takeNumber_54 : g_cv M_X9_takeNumber 54 M_X9_add yX9_add 2 := ⟨tw237, tw238, tw239, tw84, tw240, ⟨rfl, rfl, rfl, rfl⟩, gd_X9_add, ⟨by decide, by decide⟩⟩
def f_X9_takeNumber_c50 (kat : Int32) (z2_0 : Int32) (z2_1 : (Nat → Int32)) (z2_2 : (Nat → Int64)) : Int32 × Int32 × (Nat → Int32) × (Nat → Int64) := (z2_0, kat, z2_1, z2_2)
def f_X9_takeNumber_50 (kcount : Int32) (kat : Int32) (kinds : Nat → Int32) (kvals : Nat → Int64) (s1 : Int32) (s2 : Int64) : Int32 × Int32 × (Nat → Int32) × (Nat → Int64) := (f_X9_takeNumber_c50 kat (f_X9_add s1 s2 kcount kinds kvals).1 (f_X9_add s1 s2 kcount kinds kvals).2.1 (f_X9_add s1 s2 kcount kinds kvals).2.2)
set_option maxRecDepth 20000 in
theorem j_X9_takeNumber_50 {s1 : Int32} {s2 : Int64} {kcount : Int32} {klen : Int32} {kat : Int32} {kinds : Nat → Int32} {kvals : Nat → Int64} {tchars : Nat → Int32} {r_0 : Int32} {r_1 : Int32} {r_2 : (Nat → Int32)} {r_3 : (Nat → Int64)} (hres : (r_0, r_1, r_2, r_3) = (f_X9_takeNumber_50 kcount kat kinds kvals s1 s2)) (hc : 0 ≤ kcount.toInt ∧ kcount.toInt ≤ 401) : G M_X9_takeNumber 0 0 50 [] [.long s2, .int s1, .ref 0] (w_K kcount klen kat kinds kvals tchars) (none) (w_K r_0 klen r_1 r_2 r_3 tchars) := by
  rw [f_X9_takeNumber_50] at hres
  obtain ⟨z2_0, z2_1, z2_2, hz2⟩ := g_ex3 (f_X9_add s1 s2 kcount kinds kvals)
  refine G.callV0 (pc := 50) (rest := []) (st1 := []) dm_X9_takeNumber_50 gc_X9_takeNumber_54 (k_X9_add (kind := s1) (value := s2) (kcount := kcount) (klen := klen) (kat := kat) (kinds := kinds) (kvals := kvals) (tchars := tchars) (by assumption) hz2) rfl rfl rfl rfl rfl rfl rfl rfl ?_
  replace hres : (r_0, r_1, r_2, r_3) = f_X9_takeNumber_c50 kat z2_0 z2_1 z2_2 := hres.trans (by rw [← hz2])
  rw [f_X9_takeNumber_c50] at hres
  cases hres
  exact G.vreturn (pc := 53) dm_X9_takeNumber_53 rfl rfl rfl
def f_X9_takeNumber_40 (kcount : Int32) (kat : Int32) (kinds : Nat → Int32) (kvals : Nat → Int64) (l1 : Int32) (l3 : Int64) (s1 : Int32) : Int32 × Int32 × (Nat → Int32) × (Nat → Int64) := (if l1 = 0 then (f_X9_takeNumber_50 kcount kat kinds kvals s1 l3) else (f_X9_takeNumber_50 kcount kat kinds kvals s1 (-l3)))
set_option maxRecDepth 20000 in
theorem j_X9_takeNumber_40 {l1 : Int32} {l3 : Int64} {s1 : Int32} {kcount : Int32} {klen : Int32} {kat : Int32} {kinds : Nat → Int32} {kvals : Nat → Int64} {tchars : Nat → Int32} {r_0 : Int32} {r_1 : Int32} {r_2 : (Nat → Int32)} {r_3 : (Nat → Int64)} (hres : (r_0, r_1, r_2, r_3) = (f_X9_takeNumber_40 kcount kat kinds kvals l1 l3 s1)) (hc : 0 ≤ kcount.toInt ∧ kcount.toInt ≤ 401) : G M_X9_takeNumber 0 0 40 [(1, .int l1), (3, .long l3)] [.int s1, .ref 0] (w_K kcount klen kat kinds kvals tchars) (none) (w_K r_0 klen r_1 r_2 r_3 tchars) := by
  rw [f_X9_takeNumber_40] at hres
  refine G.iload_n (pc := 40) dm_X9_takeNumber_40 rfl ?_
  refine G.if_eq (pc := 41) (tgt := 49) dm_X9_takeNumber_41 (by decide) (fun c41 => ?_) (fun c41 => ?_)
  · rw [if_pos c41] at hres
    refine G.lload_n (pc := 49) dm_X9_takeNumber_49 rfl ?_
    refine G.lvp [] rfl ?_
    exact j_X9_takeNumber_50 hres (by assumption)
  · rw [if_neg c41] at hres
    refine G.lload_n (pc := 44) dm_X9_takeNumber_44 rfl ?_
    refine G.lneg (pc := 45) dm_X9_takeNumber_45 ?_
    refine G.goto (pc := 46) (tgt := 50) dm_X9_takeNumber_46 (by decide) ?_
    refine G.lvp [] rfl ?_
    exact j_X9_takeNumber_50 hres (by assumption)
def f_X9_takeNumber_c20 (kcount : Int32) (kat : Int32) (kinds : Nat → Int32) (kvals : Nat → Int64) (l1 : Int32) (z1_0 : Int64) (z1_1 : Int32) : Int32 × Int32 × (Nat → Int32) × (Nat → Int64) := (if z1_1 = kat then (f_X9_takeNumber_40 kcount z1_1 kinds kvals l1 z1_0 (63 : Int32)) else (f_X9_takeNumber_40 kcount z1_1 kinds kvals l1 z1_0 (48 : Int32)))
def f_X9_takeNumber_14 (kcount : Int32) (klen : Int32) (kat : Int32) (kinds : Nat → Int32) (kvals : Nat → Int64) (tchars : Nat → Int32) (l1 : Int32) : Int32 × Int32 × (Nat → Int32) × (Nat → Int64) := (f_X9_takeNumber_c20 kcount kat kinds kvals l1 (f_X9_takeDigits klen kat tchars).1 (f_X9_takeDigits klen kat tchars).2)
set_option maxRecDepth 20000 in
theorem j_X9_takeNumber_14 {l1 : Int32} {kcount : Int32} {klen : Int32} {kat : Int32} {kinds : Nat → Int32} {kvals : Nat → Int64} {tchars : Nat → Int32} {r_0 : Int32} {r_1 : Int32} {r_2 : (Nat → Int32)} {r_3 : (Nat → Int64)} (hres : (r_0, r_1, r_2, r_3) = (f_X9_takeNumber_14 kcount klen kat kinds kvals tchars l1)) (hk : 0 ≤ kat.toInt ∧ kat.toInt ≤ klen.toInt ∧ klen.toInt ≤ 400) (hc : 0 ≤ kcount.toInt ∧ kcount.toInt ≤ 401) : G M_X9_takeNumber 0 0 14 [(0, .ref 0), (1, .int l1)] [] (w_K kcount klen kat kinds kvals tchars) (none) (w_K r_0 klen r_1 r_2 r_3 tchars) := by
  rw [f_X9_takeNumber_14] at hres
  refine G.aload_n (pc := 14) dm_X9_takeNumber_14 rfl ?_
  refine G.getfield (pc := 15) dm_X9_takeNumber_15 gf_X9_33 rfl rfl ?_
  refine G.istore_n (pc := 18) (lv1 := [(2, .int kat), (0, .ref 0), (1, .int l1)]) dm_X9_takeNumber_18 rfl rfl ?_
  refine G.aload_n (pc := 19) dm_X9_takeNumber_19 rfl ?_
  obtain ⟨z1_0, z1_1, hz1⟩ := g_ex2 (f_X9_takeDigits klen kat tchars)
  refine G.callV0 (pc := 20) (rest := []) (st1 := [.long z1_0]) dm_X9_takeNumber_20 gc_X9_takeNumber_65 (k_X9_takeDigits (kcount := kcount) (klen := klen) (kat := kat) (kinds := kinds) (kvals := kvals) (tchars := tchars) (by assumption) hz1) rfl rfl rfl rfl rfl rfl rfl rfl ?_
  replace hres : (r_0, r_1, r_2, r_3) = f_X9_takeNumber_c20 kcount kat kinds kvals l1 z1_0 z1_1 := hres.trans (by rw [← hz1])
  rw [f_X9_takeNumber_c20] at hres
  refine G.lstore_n (pc := 23) (lv1 := [(3, .long z1_0), (2, .int kat), (0, .ref 0), (1, .int l1)]) dm_X9_takeNumber_23 rfl rfl ?_
  refine G.aload_n (pc := 24) dm_X9_takeNumber_24 rfl ?_
  refine G.aload_n (pc := 25) dm_X9_takeNumber_25 rfl ?_
  refine G.getfield (pc := 26) dm_X9_takeNumber_26 gf_X9_33 rfl rfl ?_
  refine G.iload_n (pc := 29) dm_X9_takeNumber_29 rfl ?_
  refine G.icmp_ne (pc := 30) (tgt := 38) dm_X9_takeNumber_30 (by decide) (fun c30 => ?_) (fun c30 => ?_)
  · rw [if_neg c30] at hres
    refine G.bipush (pc := 38) (v := (48 : Int32)) dm_X9_takeNumber_38 qb_48 ?_
    refine G.lvp [3, 0] rfl ?_
    exact j_X9_takeNumber_40 hres (by assumption)
  · rw [if_pos c30] at hres
    refine G.bipush (pc := 33) (v := (63 : Int32)) dm_X9_takeNumber_33 qb_63 ?_
    refine G.goto (pc := 35) (tgt := 40) dm_X9_takeNumber_35 (by decide) ?_
    refine G.lvp [3, 0] rfl ?_
    exact j_X9_takeNumber_40 hres (by assumption)
def f_X9_takeNumber (negative : Int32) (kcount : Int32) (klen : Int32) (kat : Int32) (kinds : Nat → Int32) (kvals : Nat → Int64) (tchars : Nat → Int32) : Int32 × Int32 × (Nat → Int32) × (Nat → Int64) := (if negative = 0 then (f_X9_takeNumber_14 kcount klen kat kinds kvals tchars negative) else (f_X9_takeNumber_14 kcount klen (kat + (1 : Int32)) kinds kvals tchars negative))
set_option maxRecDepth 20000 in
theorem k_X9_takeNumber {negative : Int32} {kcount : Int32} {klen : Int32} {kat : Int32} {kinds : Nat → Int32} {kvals : Nat → Int64} {tchars : Nat → Int32} (hk : 0 ≤ kat.toInt ∧ kat.toInt ≤ klen.toInt ∧ klen.toInt ≤ 400) (hc : 0 ≤ kcount.toInt ∧ kcount.toInt ≤ 401) (hneg : ¬ negative = 0 → kat.toInt < klen.toInt) {r_0 : Int32} {r_1 : Int32} {r_2 : (Nat → Int32)} {r_3 : (Nat → Int64)} (hres : (r_0, r_1, r_2, r_3) = f_X9_takeNumber negative kcount klen kat kinds kvals tchars) : K M_X9_takeNumber yX9_takeNumber [.ref 0, .int negative] (w_K kcount klen kat kinds kvals tchars) (none) (w_K r_0 klen r_1 r_2 r_3 tchars) := by
  refine K.of (lv := [(0, .ref 0), (1, .int negative)]) (by decide +kernel) rfl rfl rfl ?_
  rw [f_X9_takeNumber] at hres
  refine G.iload_n (pc := 0) dm_X9_takeNumber_0 rfl ?_
  refine G.if_eq (pc := 1) (tgt := 14) dm_X9_takeNumber_1 (by decide) (fun c1 => ?_) (fun c1 => ?_)
  · rw [if_pos c1] at hres
    exact j_X9_takeNumber_14 hres (by assumption) (by assumption)
  · rw [if_neg c1] at hres
    refine G.aload_n (pc := 4) dm_X9_takeNumber_4 rfl ?_
    refine G.dup (pc := 5) dm_X9_takeNumber_5 rfl ?_
    refine G.getfield (pc := 6) dm_X9_takeNumber_6 gf_X9_33 rfl rfl ?_
    refine G.iconst (pc := 9) (v := (1 : Int32)) dm_X9_takeNumber_9 qi_1 ?_
    refine G.iadd (pc := 10) dm_X9_takeNumber_10 ?_
    refine G.putfield (pc := 11) (ws1 := (w_K kcount klen (kat + (1 : Int32)) kinds kvals tchars)) dm_X9_takeNumber_11 gw_X9_33 rfl (g_fit_i _) rfl rfl ?_
    exact j_X9_takeNumber_14 hres (q_kup hk (hneg c1)) hc
theorem a_X9_takeNumber_50 {s1 : Int32} {s2 : Int64} {kcount : Int32} {klen : Int32} {kat : Int32} {kinds : Nat → Int32} {kvals : Nat → Int64} {r_0 : Int32} {r_1 : Int32} {r_2 : (Nat → Int32)} {r_3 : (Nat → Int64)} (hres : (r_0, r_1, r_2, r_3) = (f_X9_takeNumber_50 kcount kat kinds kvals s1 s2)) (hk : 0 ≤ kat.toInt ∧ kat.toInt ≤ klen.toInt ∧ klen.toInt ≤ 400) (hc : 0 ≤ kcount.toInt ∧ kcount.toInt ≤ 401) (hch : q_ch kinds) : (0 ≤ r_1.toInt ∧ r_1.toInt ≤ klen.toInt ∧ klen.toInt ≤ 400) ∧ (0 ≤ r_0.toInt ∧ r_0.toInt ≤ 401) ∧ q_ch r_2 := by
  rw [f_X9_takeNumber_50] at hres
  obtain ⟨z2_0, z2_1, z2_2, hz2⟩ := g_ex3 (f_X9_add s1 s2 kcount kinds kvals)
  have hh := a_X9_add hz2 hc hch
  have hc := hh.1
  have hch := hh.2
  replace hres : (r_0, r_1, r_2, r_3) = f_X9_takeNumber_c50 kat z2_0 z2_1 z2_2 := hres.trans (by rw [← hz2])
  rw [f_X9_takeNumber_c50] at hres
  cases hres
  exact ⟨hk, hc, hch⟩
theorem a_X9_takeNumber_40 {l1 : Int32} {l3 : Int64} {s1 : Int32} {kcount : Int32} {klen : Int32} {kat : Int32} {kinds : Nat → Int32} {kvals : Nat → Int64} {r_0 : Int32} {r_1 : Int32} {r_2 : (Nat → Int32)} {r_3 : (Nat → Int64)} (hres : (r_0, r_1, r_2, r_3) = (f_X9_takeNumber_40 kcount kat kinds kvals l1 l3 s1)) (hk : 0 ≤ kat.toInt ∧ kat.toInt ≤ klen.toInt ∧ klen.toInt ≤ 400) (hc : 0 ≤ kcount.toInt ∧ kcount.toInt ≤ 401) (hch : q_ch kinds) : (0 ≤ r_1.toInt ∧ r_1.toInt ≤ klen.toInt ∧ klen.toInt ≤ 400) ∧ (0 ≤ r_0.toInt ∧ r_0.toInt ≤ 401) ∧ q_ch r_2 := by
  rw [f_X9_takeNumber_40] at hres
  by_cases c41 : l1 = 0
  · rw [if_pos c41] at hres
    exact a_X9_takeNumber_50 hres (by assumption) (by assumption) (by assumption)
  · rw [if_neg c41] at hres
    exact a_X9_takeNumber_50 hres (by assumption) (by assumption) (by assumption)
theorem a_X9_takeNumber_14 {l1 : Int32} {kcount : Int32} {klen : Int32} {kat : Int32} {kinds : Nat → Int32} {kvals : Nat → Int64} {tchars : Nat → Int32} {r_0 : Int32} {r_1 : Int32} {r_2 : (Nat → Int32)} {r_3 : (Nat → Int64)} (hres : (r_0, r_1, r_2, r_3) = (f_X9_takeNumber_14 kcount klen kat kinds kvals tchars l1)) (hk : 0 ≤ kat.toInt ∧ kat.toInt ≤ klen.toInt ∧ klen.toInt ≤ 400) (hc : 0 ≤ kcount.toInt ∧ kcount.toInt ≤ 401) (hch : q_ch kinds) : (0 ≤ r_1.toInt ∧ r_1.toInt ≤ klen.toInt ∧ klen.toInt ≤ 400) ∧ (0 ≤ r_0.toInt ∧ r_0.toInt ≤ 401) ∧ q_ch r_2 := by
  rw [f_X9_takeNumber_14] at hres
  obtain ⟨z1_0, z1_1, hz1⟩ := g_ex2 (f_X9_takeDigits klen kat tchars)
  have hk := a_X9_takeDigits hz1 hk
  replace hres : (r_0, r_1, r_2, r_3) = f_X9_takeNumber_c20 kcount kat kinds kvals l1 z1_0 z1_1 := hres.trans (by rw [← hz1])
  rw [f_X9_takeNumber_c20] at hres
  by_cases c30 : z1_1 = kat
  · rw [if_pos c30] at hres
    exact a_X9_takeNumber_40 hres (by assumption) (by assumption) (by assumption)
  · rw [if_neg c30] at hres
    exact a_X9_takeNumber_40 hres (by assumption) (by assumption) (by assumption)
theorem a_X9_takeNumber {negative : Int32} {kcount : Int32} {klen : Int32} {kat : Int32} {kinds : Nat → Int32} {kvals : Nat → Int64} {tchars : Nat → Int32} {r_0 : Int32} {r_1 : Int32} {r_2 : (Nat → Int32)} {r_3 : (Nat → Int64)} (hres : (r_0, r_1, r_2, r_3) = f_X9_takeNumber negative kcount klen kat kinds kvals tchars) (hk : 0 ≤ kat.toInt ∧ kat.toInt ≤ klen.toInt ∧ klen.toInt ≤ 400) (hc : 0 ≤ kcount.toInt ∧ kcount.toInt ≤ 401) (hch : q_ch kinds) (hneg : ¬ negative = 0 → kat.toInt < klen.toInt) : (0 ≤ r_1.toInt ∧ r_1.toInt ≤ klen.toInt ∧ klen.toInt ≤ 400) ∧ (0 ≤ r_0.toInt ∧ r_0.toInt ≤ 401) ∧ q_ch r_2 := by
  rw [f_X9_takeNumber] at hres
  by_cases c1 : negative = 0
  · rw [if_pos c1] at hres
    exact a_X9_takeNumber_14 hres (by assumption) (by assumption) (by assumption)
  · rw [if_neg c1] at hres
    exact a_X9_takeNumber_14 hres (q_kup hk (hneg c1)) hc hch
abbrev M_X9_takeLetters : g_M := (cX9_takeLetters, 5, RX9, none, { frames := 3, cells := 0, slots := 0, locals := 66 }, 0, 0)
theorem dm_X9_takeLetters_0 : decode M_X9_takeLetters.1 0 = .ok (.aload_n 0, 1) := by decide +kernel
theorem dm_X9_takeLetters_1 : decode M_X9_takeLetters.1 1 = .ok (.getfield 33, 3) := by decide +kernel
theorem dm_X9_takeLetters_4 : decode M_X9_takeLetters.1 4 = .ok (.istore_n 1, 1) := by decide +kernel
theorem dm_X9_takeLetters_5 : decode M_X9_takeLetters.1 5 = .ok (.lconst 0, 1) := by decide +kernel
theorem dm_X9_takeLetters_6 : decode M_X9_takeLetters.1 6 = .ok (.lstore_n 2, 1) := by decide +kernel
theorem dm_X9_takeLetters_7 : decode M_X9_takeLetters.1 7 = .ok (.aload_n 0, 1) := by decide +kernel
theorem dm_X9_takeLetters_8 : decode M_X9_takeLetters.1 8 = .ok (.getfield 33, 3) := by decide +kernel
theorem dm_X9_takeLetters_11 : decode M_X9_takeLetters.1 11 = .ok (.aload_n 0, 1) := by decide +kernel
theorem dm_X9_takeLetters_12 : decode M_X9_takeLetters.1 12 = .ok (.getfield 29, 3) := by decide +kernel
theorem dm_X9_takeLetters_15 : decode M_X9_takeLetters.1 15 = .ok (.if_icmp .ge 45, 3) := by decide +kernel
theorem dm_X9_takeLetters_18 : decode M_X9_takeLetters.1 18 = .ok (.aload_n 0, 1) := by decide +kernel
theorem dm_X9_takeLetters_19 : decode M_X9_takeLetters.1 19 = .ok (.getfield 24, 3) := by decide +kernel
theorem dm_X9_takeLetters_22 : decode M_X9_takeLetters.1 22 = .ok (.aload_n 0, 1) := by decide +kernel
theorem dm_X9_takeLetters_23 : decode M_X9_takeLetters.1 23 = .ok (.getfield 33, 3) := by decide +kernel
theorem dm_X9_takeLetters_26 : decode M_X9_takeLetters.1 26 = .ok (.caload, 1) := by decide +kernel
theorem dm_X9_takeLetters_27 : decode M_X9_takeLetters.1 27 = .ok (.invokestatic 36, 3) := by decide +kernel
theorem dm_X9_takeLetters_30 : decode M_X9_takeLetters.1 30 = .ok (.ifCond .eq 30, 3) := by decide +kernel
theorem dm_X9_takeLetters_33 : decode M_X9_takeLetters.1 33 = .ok (.lload_n 2, 1) := by decide +kernel
theorem dm_X9_takeLetters_34 : decode M_X9_takeLetters.1 34 = .ok (.aload_n 0, 1) := by decide +kernel
theorem dm_X9_takeLetters_35 : decode M_X9_takeLetters.1 35 = .ok (.getfield 24, 3) := by decide +kernel
theorem dm_X9_takeLetters_38 : decode M_X9_takeLetters.1 38 = .ok (.aload_n 0, 1) := by decide +kernel
theorem dm_X9_takeLetters_39 : decode M_X9_takeLetters.1 39 = .ok (.getfield 33, 3) := by decide +kernel
theorem dm_X9_takeLetters_42 : decode M_X9_takeLetters.1 42 = .ok (.caload, 1) := by decide +kernel
theorem dm_X9_takeLetters_43 : decode M_X9_takeLetters.1 43 = .ok (.invokestatic 58, 3) := by decide +kernel
theorem dm_X9_takeLetters_46 : decode M_X9_takeLetters.1 46 = .ok (.lstore_n 2, 1) := by decide +kernel
theorem dm_X9_takeLetters_47 : decode M_X9_takeLetters.1 47 = .ok (.aload_n 0, 1) := by decide +kernel
theorem dm_X9_takeLetters_48 : decode M_X9_takeLetters.1 48 = .ok (.dup, 1) := by decide +kernel
theorem dm_X9_takeLetters_49 : decode M_X9_takeLetters.1 49 = .ok (.getfield 33, 3) := by decide +kernel
theorem dm_X9_takeLetters_52 : decode M_X9_takeLetters.1 52 = .ok (.iconst 1, 1) := by decide +kernel
theorem dm_X9_takeLetters_53 : decode M_X9_takeLetters.1 53 = .ok (.iadd, 1) := by decide +kernel
theorem dm_X9_takeLetters_54 : decode M_X9_takeLetters.1 54 = .ok (.putfield 33, 3) := by decide +kernel
theorem dm_X9_takeLetters_57 : decode M_X9_takeLetters.1 57 = .ok (.goto (-50), 3) := by decide +kernel
theorem dm_X9_takeLetters_60 : decode M_X9_takeLetters.1 60 = .ok (.aload_n 0, 1) := by decide +kernel
theorem dm_X9_takeLetters_61 : decode M_X9_takeLetters.1 61 = .ok (.getfield 33, 3) := by decide +kernel
theorem dm_X9_takeLetters_64 : decode M_X9_takeLetters.1 64 = .ok (.iload_n 1, 1) := by decide +kernel
theorem dm_X9_takeLetters_65 : decode M_X9_takeLetters.1 65 = .ok (.isub, 1) := by decide +kernel
theorem dm_X9_takeLetters_66 : decode M_X9_takeLetters.1 66 = .ok (.iconst 1, 1) := by decide +kernel
theorem dm_X9_takeLetters_67 : decode M_X9_takeLetters.1 67 = .ok (.if_icmp .ne 18, 3) := by decide +kernel
theorem dm_X9_takeLetters_70 : decode M_X9_takeLetters.1 70 = .ok (.aload_n 0, 1) := by decide +kernel
theorem dm_X9_takeLetters_71 : decode M_X9_takeLetters.1 71 = .ok (.getfield 24, 3) := by decide +kernel
theorem dm_X9_takeLetters_74 : decode M_X9_takeLetters.1 74 = .ok (.iload_n 1, 1) := by decide +kernel
theorem dm_X9_takeLetters_75 : decode M_X9_takeLetters.1 75 = .ok (.caload, 1) := by decide +kernel
theorem dm_X9_takeLetters_76 : decode M_X9_takeLetters.1 76 = .ok (.bipush 120, 2) := by decide +kernel
theorem dm_X9_takeLetters_78 : decode M_X9_takeLetters.1 78 = .ok (.if_icmp .ne 7, 3) := by decide +kernel
theorem dm_X9_takeLetters_81 : decode M_X9_takeLetters.1 81 = .ok (.iconst 1, 1) := by decide +kernel
theorem dm_X9_takeLetters_82 : decode M_X9_takeLetters.1 82 = .ok (.goto 4, 3) := by decide +kernel
theorem dm_X9_takeLetters_85 : decode M_X9_takeLetters.1 85 = .ok (.iconst 0, 1) := by decide +kernel
theorem dm_X9_takeLetters_86 : decode M_X9_takeLetters.1 86 = .ok (.istore 4, 2) := by decide +kernel
theorem dm_X9_takeLetters_88 : decode M_X9_takeLetters.1 88 = .ok (.iload 4, 2) := by decide +kernel
theorem dm_X9_takeLetters_90 : decode M_X9_takeLetters.1 90 = .ok (.ifCond .eq 36, 3) := by decide +kernel
theorem dm_X9_takeLetters_93 : decode M_X9_takeLetters.1 93 = .ok (.aload_n 0, 1) := by decide +kernel
theorem dm_X9_takeLetters_94 : decode M_X9_takeLetters.1 94 = .ok (.getfield 33, 3) := by decide +kernel
theorem dm_X9_takeLetters_97 : decode M_X9_takeLetters.1 97 = .ok (.aload_n 0, 1) := by decide +kernel
theorem dm_X9_takeLetters_98 : decode M_X9_takeLetters.1 98 = .ok (.getfield 29, 3) := by decide +kernel
theorem dm_X9_takeLetters_101 : decode M_X9_takeLetters.1 101 = .ok (.if_icmp .ge 25, 3) := by decide +kernel
theorem dm_X9_takeLetters_104 : decode M_X9_takeLetters.1 104 = .ok (.aload_n 0, 1) := by decide +kernel
theorem dm_X9_takeLetters_105 : decode M_X9_takeLetters.1 105 = .ok (.getfield 24, 3) := by decide +kernel
theorem dm_X9_takeLetters_108 : decode M_X9_takeLetters.1 108 = .ok (.aload_n 0, 1) := by decide +kernel
theorem dm_X9_takeLetters_109 : decode M_X9_takeLetters.1 109 = .ok (.getfield 33, 3) := by decide +kernel
theorem dm_X9_takeLetters_112 : decode M_X9_takeLetters.1 112 = .ok (.caload, 1) := by decide +kernel
theorem dm_X9_takeLetters_113 : decode M_X9_takeLetters.1 113 = .ok (.invokestatic 43, 3) := by decide +kernel
theorem dm_X9_takeLetters_116 : decode M_X9_takeLetters.1 116 = .ok (.ifCond .eq 10, 3) := by decide +kernel
theorem dm_X9_takeLetters_119 : decode M_X9_takeLetters.1 119 = .ok (.aload_n 0, 1) := by decide +kernel
theorem dm_X9_takeLetters_120 : decode M_X9_takeLetters.1 120 = .ok (.invokevirtual 62, 3) := by decide +kernel
theorem dm_X9_takeLetters_123 : decode M_X9_takeLetters.1 123 = .ok (.goto 26, 3) := by decide +kernel
theorem dm_X9_takeLetters_126 : decode M_X9_takeLetters.1 126 = .ok (.aload_n 0, 1) := by decide +kernel
theorem dm_X9_takeLetters_127 : decode M_X9_takeLetters.1 127 = .ok (.aload_n 0, 1) := by decide +kernel
theorem dm_X9_takeLetters_128 : decode M_X9_takeLetters.1 128 = .ok (.getfield 33, 3) := by decide +kernel
theorem dm_X9_takeLetters_131 : decode M_X9_takeLetters.1 131 = .ok (.iload_n 1, 1) := by decide +kernel
theorem dm_X9_takeLetters_132 : decode M_X9_takeLetters.1 132 = .ok (.isub, 1) := by decide +kernel
theorem dm_X9_takeLetters_133 : decode M_X9_takeLetters.1 133 = .ok (.bipush 8, 2) := by decide +kernel
theorem dm_X9_takeLetters_135 : decode M_X9_takeLetters.1 135 = .ok (.if_icmp .le 8, 3) := by decide +kernel
theorem dm_X9_takeLetters_138 : decode M_X9_takeLetters.1 138 = .ok (.bipush 63, 2) := by decide +kernel
theorem dm_X9_takeLetters_140 : decode M_X9_takeLetters.1 140 = .ok (.goto 5, 3) := by decide +kernel
theorem dm_X9_takeLetters_143 : decode M_X9_takeLetters.1 143 = .ok (.bipush 97, 2) := by decide +kernel
theorem dm_X9_takeLetters_145 : decode M_X9_takeLetters.1 145 = .ok (.lload_n 2, 1) := by decide +kernel
theorem dm_X9_takeLetters_146 : decode M_X9_takeLetters.1 146 = .ok (.invokevirtual 54, 3) := by decide +kernel
theorem dm_X9_takeLetters_149 : decode M_X9_takeLetters.1 149 = .ok (.return_, 1) := by decide +kernel
theorem gc_X9_takeLetters_36 : g_cs M_X9_takeLetters 36 M_X9_isLetter yX9_isLetter 1 := ⟨tw213, tw214, tw84, tw215, ⟨rfl, rfl, rfl, rfl⟩, gd_X9_isLetter, ⟨by decide, by decide⟩⟩
theorem gc_X9_takeLetters_58 : g_cs M_X9_takeLetters 58 M_X9_withLetter yX9_withLetter 2 := ⟨tw220, tw221, tw84, tw222, ⟨rfl, rfl, rfl, rfl⟩, gd_X9_withLetter, ⟨by decide, by decide⟩⟩
theorem gc_X9_takeLetters_43 : g_cs M_X9_takeLetters 43 M_X9_isDigit yX9_isDigit 1 := ⟨tw223, tw224, tw84, tw225, ⟨rfl, rfl, rfl, rfl⟩, gd_X9_isDigit, ⟨by decide, by decide⟩⟩
theorem gc_X9_takeLetters_62 : g_cv M_X9_takeLetters 62 M_X9_takeRegister yX9_takeRegister 0 := ⟨tw226, tw227, tw228, tw84, tw229, ⟨rfl, rfl, rfl, rfl⟩, gd_X9_takeRegister, ⟨by decide, by decide⟩⟩
theorem gc_X9_takeLetters_54 : g_cv M_X9_takeLetters 54 M_X9_add yX9_add 2 := ⟨tw237, tw238, tw239, tw84, tw240, ⟨rfl, rfl, rfl, rfl⟩, gd_X9_add, ⟨by decide, by decide⟩⟩
def f_X9_takeLetters_c146 (kat : Int32) (z1_0 : Int32) (z1_1 : (Nat → Int32)) (z1_2 : (Nat → Int64)) : Int32 × Int32 × (Nat → Int32) × (Nat → Int64) := (z1_0, kat, z1_1, z1_2)
def f_X9_takeLetters_145 (kcount : Int32) (kat : Int32) (kinds : Nat → Int32) (kvals : Nat → Int64) (l2 : Int64) (s1 : Int32) : Int32 × Int32 × (Nat → Int32) × (Nat → Int64) := (f_X9_takeLetters_c146 kat (f_X9_add s1 l2 kcount kinds kvals).1 (f_X9_add s1 l2 kcount kinds kvals).2.1 (f_X9_add s1 l2 kcount kinds kvals).2.2)
set_option maxRecDepth 20000 in
theorem j_X9_takeLetters_145 {l2 : Int64} {s1 : Int32} {kcount : Int32} {klen : Int32} {kat : Int32} {kinds : Nat → Int32} {kvals : Nat → Int64} {tchars : Nat → Int32} {r_0 : Int32} {r_1 : Int32} {r_2 : (Nat → Int32)} {r_3 : (Nat → Int64)} (hres : (r_0, r_1, r_2, r_3) = (f_X9_takeLetters_145 kcount kat kinds kvals l2 s1)) (hc : 0 ≤ kcount.toInt ∧ kcount.toInt ≤ 401) : G M_X9_takeLetters 0 0 145 [(2, .long l2)] [.int s1, .ref 0] (w_K kcount klen kat kinds kvals tchars) (none) (w_K r_0 klen r_1 r_2 r_3 tchars) := by
  rw [f_X9_takeLetters_145] at hres
  refine G.lload_n (pc := 145) dm_X9_takeLetters_145 rfl ?_
  obtain ⟨z1_0, z1_1, z1_2, hz1⟩ := g_ex3 (f_X9_add s1 l2 kcount kinds kvals)
  refine G.callV0 (pc := 146) (rest := []) (st1 := []) dm_X9_takeLetters_146 gc_X9_takeLetters_54 (k_X9_add (kind := s1) (value := l2) (kcount := kcount) (klen := klen) (kat := kat) (kinds := kinds) (kvals := kvals) (tchars := tchars) (by assumption) hz1) rfl rfl rfl rfl rfl rfl rfl rfl ?_
  replace hres : (r_0, r_1, r_2, r_3) = f_X9_takeLetters_c146 kat z1_0 z1_1 z1_2 := hres.trans (by rw [← hz1])
  rw [f_X9_takeLetters_c146] at hres
  cases hres
  exact G.vreturn (pc := 149) dm_X9_takeLetters_149 rfl rfl rfl
def f_X9_takeLetters_126 (kcount : Int32) (kat : Int32) (kinds : Nat → Int32) (kvals : Nat → Int64) (l1 : Int32) (l2 : Int64) : Int32 × Int32 × (Nat → Int32) × (Nat → Int64) := (if (kat - l1) ≤ (8 : Int32) then (f_X9_takeLetters_145 kcount kat kinds kvals l2 (97 : Int32)) else (f_X9_takeLetters_145 kcount kat kinds kvals l2 (63 : Int32)))
set_option maxRecDepth 20000 in
theorem j_X9_takeLetters_126 {l1 : Int32} {l2 : Int64} {kcount : Int32} {klen : Int32} {kat : Int32} {kinds : Nat → Int32} {kvals : Nat → Int64} {tchars : Nat → Int32} {r_0 : Int32} {r_1 : Int32} {r_2 : (Nat → Int32)} {r_3 : (Nat → Int64)} (hres : (r_0, r_1, r_2, r_3) = (f_X9_takeLetters_126 kcount kat kinds kvals l1 l2)) (hc : 0 ≤ kcount.toInt ∧ kcount.toInt ≤ 401) : G M_X9_takeLetters 0 0 126 [(0, .ref 0), (1, .int l1), (2, .long l2)] [] (w_K kcount klen kat kinds kvals tchars) (none) (w_K r_0 klen r_1 r_2 r_3 tchars) := by
  rw [f_X9_takeLetters_126] at hres
  refine G.aload_n (pc := 126) dm_X9_takeLetters_126 rfl ?_
  refine G.aload_n (pc := 127) dm_X9_takeLetters_127 rfl ?_
  refine G.getfield (pc := 128) dm_X9_takeLetters_128 gf_X9_33 rfl rfl ?_
  refine G.iload_n (pc := 131) dm_X9_takeLetters_131 rfl ?_
  refine G.isub (pc := 132) dm_X9_takeLetters_132 ?_
  refine G.bipush (pc := 133) (v := (8 : Int32)) dm_X9_takeLetters_133 qb_8 ?_
  refine G.icmp_le (pc := 135) (tgt := 143) dm_X9_takeLetters_135 (by decide) (fun c135 => ?_) (fun c135 => ?_)
  · rw [if_pos c135] at hres
    refine G.bipush (pc := 143) (v := (97 : Int32)) dm_X9_takeLetters_143 qb_97 ?_
    refine G.lvp [2] rfl ?_
    exact j_X9_takeLetters_145 hres (by assumption)
  · rw [if_neg c135] at hres
    refine G.bipush (pc := 138) (v := (63 : Int32)) dm_X9_takeLetters_138 qb_63 ?_
    refine G.goto (pc := 140) (tgt := 145) dm_X9_takeLetters_140 (by decide) ?_
    refine G.lvp [2] rfl ?_
    exact j_X9_takeLetters_145 hres (by assumption)
def f_X9_takeLetters_c120 (z3_0 : Int32) (z3_1 : Int32) (z3_2 : (Nat → Int32)) (z3_3 : (Nat → Int64)) : Int32 × Int32 × (Nat → Int32) × (Nat → Int64) := (z3_0, z3_1, z3_2, z3_3)
def f_X9_takeLetters_c113 (kcount : Int32) (klen : Int32) (kat : Int32) (kinds : Nat → Int32) (kvals : Nat → Int64) (tchars : Nat → Int32) (l1 : Int32) (l2 : Int64) (z2_0 : Int32) : Int32 × Int32 × (Nat → Int32) × (Nat → Int64) := (if z2_0 = 0 then (f_X9_takeLetters_126 kcount kat kinds kvals l1 l2) else (f_X9_takeLetters_c120 (f_X9_takeRegister kcount klen kat kinds kvals tchars).1 (f_X9_takeRegister kcount klen kat kinds kvals tchars).2.1 (f_X9_takeRegister kcount klen kat kinds kvals tchars).2.2.1 (f_X9_takeRegister kcount klen kat kinds kvals tchars).2.2.2))
def f_X9_takeLetters_86 (kcount : Int32) (klen : Int32) (kat : Int32) (kinds : Nat → Int32) (kvals : Nat → Int64) (tchars : Nat → Int32) (l1 : Int32) (l2 : Int64) (s0 : Int32) : Int32 × Int32 × (Nat → Int32) × (Nat → Int64) := (if s0 = 0 then (f_X9_takeLetters_126 kcount kat kinds kvals l1 l2) else (if klen ≤ kat then (f_X9_takeLetters_126 kcount kat kinds kvals l1 l2) else (f_X9_takeLetters_c113 kcount klen kat kinds kvals tchars l1 l2 (f_X9_isDigit (tchars (Int32.toNatClampNeg kat))))))
set_option maxRecDepth 20000 in
theorem j_X9_takeLetters_86 {l1 : Int32} {l2 : Int64} {s0 : Int32} {kcount : Int32} {klen : Int32} {kat : Int32} {kinds : Nat → Int32} {kvals : Nat → Int64} {tchars : Nat → Int32} {r_0 : Int32} {r_1 : Int32} {r_2 : (Nat → Int32)} {r_3 : (Nat → Int64)} (hres : (r_0, r_1, r_2, r_3) = (f_X9_takeLetters_86 kcount klen kat kinds kvals tchars l1 l2 s0)) (hk : 0 ≤ kat.toInt ∧ kat.toInt ≤ klen.toInt ∧ klen.toInt ≤ 400) (hc : 0 ≤ kcount.toInt ∧ kcount.toInt ≤ 401) : G M_X9_takeLetters 0 0 86 [(0, .ref 0), (1, .int l1), (2, .long l2)] [.int s0] (w_K kcount klen kat kinds kvals tchars) (none) (w_K r_0 klen r_1 r_2 r_3 tchars) := by
  rw [f_X9_takeLetters_86] at hres
  refine G.istore (pc := 86) (lv1 := [(4, .int s0), (0, .ref 0), (1, .int l1), (2, .long l2)]) dm_X9_takeLetters_86 rfl rfl ?_
  refine G.iload (pc := 88) dm_X9_takeLetters_88 rfl ?_
  refine G.if_eq (pc := 90) (tgt := 126) dm_X9_takeLetters_90 (by decide) (fun c90 => ?_) (fun c90 => ?_)
  · rw [if_pos c90] at hres
    refine G.lvp [1, 2, 3] rfl ?_
    exact j_X9_takeLetters_126 hres (by assumption)
  · rw [if_neg c90] at hres
    refine G.aload_n (pc := 93) dm_X9_takeLetters_93 rfl ?_
    refine G.getfield (pc := 94) dm_X9_takeLetters_94 gf_X9_33 rfl rfl ?_
    refine G.aload_n (pc := 97) dm_X9_takeLetters_97 rfl ?_
    refine G.getfield (pc := 98) dm_X9_takeLetters_98 gf_X9_29 rfl rfl ?_
    refine G.icmp_ge (pc := 101) (tgt := 126) dm_X9_takeLetters_101 (by decide) (fun c101 => ?_) (fun c101 => ?_)
    · rw [if_pos c101] at hres
      refine G.lvp [1, 2, 3] rfl ?_
      exact j_X9_takeLetters_126 hres (by assumption)
    · rw [if_neg c101] at hres
      refine G.aload_n (pc := 104) dm_X9_takeLetters_104 rfl ?_
      refine G.getfield (pc := 105) dm_X9_takeLetters_105 gf_X9_24 rfl rfl ?_
      refine G.aload_n (pc := 108) dm_X9_takeLetters_108 rfl ?_
      refine G.getfield (pc := 109) dm_X9_takeLetters_109 gf_X9_33 rfl rfl ?_
      refine G.caload (pc := 112) dm_X9_takeLetters_112 rfl (q_in hk.1 (by have := q_nle c101; omega)) ?_
      obtain ⟨z2_0, hz2⟩ := g_ex1 (f_X9_isDigit (tchars (Int32.toNatClampNeg kat)))
      refine G.callS (pc := 113) (rest := []) (st1 := [.int z2_0]) (ws1 := (w_K kcount klen kat kinds kvals tchars)) [] dm_X9_takeLetters_113 gc_X9_takeLetters_43 (k_X9_isDigit (c := (tchars (Int32.toNatClampNeg kat))) hz2) rfl rfl rfl rfl rfl rfl rfl rfl ?_
      replace hres : (r_0, r_1, r_2, r_3) = f_X9_takeLetters_c113 kcount klen kat kinds kvals tchars l1 l2 z2_0 := hres.trans (by rw [← hz2])
      rw [f_X9_takeLetters_c113] at hres
      refine G.if_eq (pc := 116) (tgt := 126) dm_X9_takeLetters_116 (by decide) (fun c116 => ?_) (fun c116 => ?_)
      · rw [if_pos c116] at hres
        refine G.lvp [1, 2, 3] rfl ?_
        exact j_X9_takeLetters_126 hres (by assumption)
      · rw [if_neg c116] at hres
        refine G.aload_n (pc := 119) dm_X9_takeLetters_119 rfl ?_
        obtain ⟨z3_0, z3_1, z3_2, z3_3, hz3⟩ := g_ex4 (f_X9_takeRegister kcount klen kat kinds kvals tchars)
        refine G.callV0 (pc := 120) (rest := []) (st1 := []) dm_X9_takeLetters_120 gc_X9_takeLetters_62 (k_X9_takeRegister (kcount := kcount) (klen := klen) (kat := kat) (kinds := kinds) (kvals := kvals) (tchars := tchars) (by assumption) (by assumption) hz3) rfl rfl rfl rfl rfl rfl rfl rfl ?_
        replace hres : (r_0, r_1, r_2, r_3) = f_X9_takeLetters_c120 z3_0 z3_1 z3_2 z3_3 := hres.trans (by rw [← hz3])
        rw [f_X9_takeLetters_c120] at hres
        refine G.goto (pc := 123) (tgt := 149) dm_X9_takeLetters_123 (by decide) ?_
        cases hres
        exact G.vreturn (pc := 149) dm_X9_takeLetters_149 rfl rfl rfl
def f_X9_takeLetters_60 (kcount : Int32) (klen : Int32) (kat : Int32) (kinds : Nat → Int32) (kvals : Nat → Int64) (tchars : Nat → Int32) (l1 : Int32) (l2 : Int64) : Int32 × Int32 × (Nat → Int32) × (Nat → Int64) := (if (kat - l1) = (1 : Int32) then (if (tchars (Int32.toNatClampNeg l1)) = (120 : Int32) then (f_X9_takeLetters_86 kcount klen kat kinds kvals tchars l1 l2 (1 : Int32)) else (f_X9_takeLetters_86 kcount klen kat kinds kvals tchars l1 l2 (0 : Int32))) else (f_X9_takeLetters_86 kcount klen kat kinds kvals tchars l1 l2 (0 : Int32)))
set_option maxRecDepth 20000 in
theorem j_X9_takeLetters_60 {l1 : Int32} {l2 : Int64} {kcount : Int32} {klen : Int32} {kat : Int32} {kinds : Nat → Int32} {kvals : Nat → Int64} {tchars : Nat → Int32} {r_0 : Int32} {r_1 : Int32} {r_2 : (Nat → Int32)} {r_3 : (Nat → Int64)} (hres : (r_0, r_1, r_2, r_3) = (f_X9_takeLetters_60 kcount klen kat kinds kvals tchars l1 l2)) (hk : 0 ≤ kat.toInt ∧ kat.toInt ≤ klen.toInt ∧ klen.toInt ≤ 400) (hc : 0 ≤ kcount.toInt ∧ kcount.toInt ≤ 401) (h1 : 0 ≤ l1.toInt ∧ l1.toInt ≤ kat.toInt) : G M_X9_takeLetters 0 0 60 [(0, .ref 0), (1, .int l1), (2, .long l2)] [] (w_K kcount klen kat kinds kvals tchars) (none) (w_K r_0 klen r_1 r_2 r_3 tchars) := by
  rw [f_X9_takeLetters_60] at hres
  refine G.aload_n (pc := 60) dm_X9_takeLetters_60 rfl ?_
  refine G.getfield (pc := 61) dm_X9_takeLetters_61 gf_X9_33 rfl rfl ?_
  refine G.iload_n (pc := 64) dm_X9_takeLetters_64 rfl ?_
  refine G.isub (pc := 65) dm_X9_takeLetters_65 ?_
  refine G.iconst (pc := 66) (v := (1 : Int32)) dm_X9_takeLetters_66 qi_1 ?_
  refine G.icmp_ne (pc := 67) (tgt := 85) dm_X9_takeLetters_67 (by decide) (fun c67 => ?_) (fun c67 => ?_)
  · rw [if_neg c67] at hres
    refine G.iconst (pc := 85) (v := (0 : Int32)) dm_X9_takeLetters_85 qi_0 ?_
    exact j_X9_takeLetters_86 hres (by assumption) (by assumption)
  · rw [if_pos c67] at hres
    refine G.aload_n (pc := 70) dm_X9_takeLetters_70 rfl ?_
    refine G.getfield (pc := 71) dm_X9_takeLetters_71 gf_X9_24 rfl rfl ?_
    refine G.iload_n (pc := 74) dm_X9_takeLetters_74 rfl ?_
    refine G.caload (pc := 75) dm_X9_takeLetters_75 rfl (q_fx hk h1 c67) ?_
    refine G.bipush (pc := 76) (v := (120 : Int32)) dm_X9_takeLetters_76 qb_120 ?_
    refine G.icmp_ne (pc := 78) (tgt := 85) dm_X9_takeLetters_78 (by decide) (fun c78 => ?_) (fun c78 => ?_)
    · rw [if_neg c78] at hres
      refine G.iconst (pc := 85) (v := (0 : Int32)) dm_X9_takeLetters_85 qi_0 ?_
      exact j_X9_takeLetters_86 hres (by assumption) (by assumption)
    · rw [if_pos c78] at hres
      refine G.iconst (pc := 81) (v := (1 : Int32)) dm_X9_takeLetters_81 qi_1 ?_
      refine G.goto (pc := 82) (tgt := 86) dm_X9_takeLetters_82 (by decide) ?_
      exact j_X9_takeLetters_86 hres (by assumption) (by assumption)
def f_X9_takeLetters_c43 (kcount : Int32) (kat : Int32) (kinds : Nat → Int32) (kvals : Nat → Int64) (l1 : Int32) (kL7 : Int32 → Int64 → Int32 → Int32 → (Nat → Int32) → (Nat → Int64) → Int32 × Int32 × (Nat → Int32) × (Nat → Int64)) (z5_0 : Int64) : Int32 × Int32 × (Nat → Int32) × (Nat → Int64) := (kL7 l1 z5_0 kcount (kat + (1 : Int32)) kinds kvals)
def f_X9_takeLetters_c27 (kcount : Int32) (klen : Int32) (kat : Int32) (kinds : Nat → Int32) (kvals : Nat → Int64) (tchars : Nat → Int32) (l1 : Int32) (l2 : Int64) (kL7 : Int32 → Int64 → Int32 → Int32 → (Nat → Int32) → (Nat → Int64) → Int32 × Int32 × (Nat → Int32) × (Nat → Int64)) (z4_0 : Int32) : Int32 × Int32 × (Nat → Int32) × (Nat → Int64) := (if z4_0 = 0 then (f_X9_takeLetters_60 kcount klen kat kinds kvals tchars l1 l2) else (f_X9_takeLetters_c43 kcount kat kinds kvals l1 kL7 (f_X9_withLetter l2 (tchars (Int32.toNatClampNeg kat)))))
def f_X9_takeLetters_7 (klen : Int32) (tchars : Nat → Int32) : Nat → Int32 → Int64 → Int32 → Int32 → (Nat → Int32) → (Nat → Int64) → Int32 × Int32 × (Nat → Int32) × (Nat → Int64)
  | 0, l1, l2, kcount, kat, kinds, kvals => (kcount, kat, kinds, kvals)
  | n + 1, l1, l2, kcount, kat, kinds, kvals => (if klen ≤ kat then (f_X9_takeLetters_60 kcount klen kat kinds kvals tchars l1 l2) else (f_X9_takeLetters_c27 kcount klen kat kinds kvals tchars l1 l2 (f_X9_takeLetters_7 klen tchars n) (f_X9_isLetter (tchars (Int32.toNatClampNeg kat)))))
set_option maxRecDepth 20000 in
theorem j_X9_takeLetters_7 : ∀ (n : Nat) {l1 : Int32} {l2 : Int64} {kcount : Int32} {klen : Int32} {kat : Int32} {kinds : Nat → Int32} {kvals : Nat → Int64} {tchars : Nat → Int32} {r_0 : Int32} {r_1 : Int32} {r_2 : (Nat → Int32)} {r_3 : (Nat → Int64)}, (hk : 0 ≤ kat.toInt ∧ kat.toInt ≤ klen.toInt ∧ klen.toInt ≤ 400) → (hc : 0 ≤ kcount.toInt ∧ kcount.toInt ≤ 401) → (h1 : 0 ≤ l1.toInt ∧ l1.toInt ≤ kat.toInt) → (klen.toInt.toNat - kat.toInt.toNat) < n → (r_0, r_1, r_2, r_3) = f_X9_takeLetters_7 klen tchars n l1 l2 kcount kat kinds kvals → G M_X9_takeLetters 0 0 7 [(0, .ref 0), (1, .int l1), (2, .long l2)] [] (w_K kcount klen kat kinds kvals tchars) (none) (w_K r_0 klen r_1 r_2 r_3 tchars) := by
  intro n
  induction n with
  | zero =>
    intro l1 l2 kcount klen kat kinds kvals tchars r_0 r_1 r_2 r_3 hk hc h1 hm hres
    exact absurd hm (Nat.not_lt_zero _)
  | succ n ih =>
    intro l1 l2 kcount klen kat kinds kvals tchars r_0 r_1 r_2 r_3 hk hc h1 hm hres
    obtain ⟨mu, hmu⟩ : ∃ z, (klen.toInt.toNat - kat.toInt.toNat) = z := ⟨_, rfl⟩
    rw [hmu] at hm
    have hk7 : ∀ {l1 : Int32} {l2 : Int64} {kcount : Int32} {kat : Int32} {kinds : Nat → Int32} {kvals : Nat → Int64}, (0 ≤ kat.toInt ∧ kat.toInt ≤ klen.toInt ∧ klen.toInt ≤ 400) → (0 ≤ kcount.toInt ∧ kcount.toInt ≤ 401) → (0 ≤ l1.toInt ∧ l1.toInt ≤ kat.toInt) → (klen.toInt.toNat - kat.toInt.toNat) < mu → (r_0, r_1, r_2, r_3) = (f_X9_takeLetters_7 klen tchars n) l1 l2 kcount kat kinds kvals → G M_X9_takeLetters 0 0 7 [(0, .ref 0), (1, .int l1), (2, .long l2)] [] (w_K kcount klen kat kinds kvals tchars) (none) (w_K r_0 klen r_1 r_2 r_3 tchars) := fun hk hc h1 hlt he => ih hk hc h1 (Nat.lt_of_lt_of_le hlt (Nat.le_of_lt_succ hm)) he
    rw [f_X9_takeLetters_7] at hres
    refine G.aload_n (pc := 7) dm_X9_takeLetters_7 rfl ?_
    refine G.getfield (pc := 8) dm_X9_takeLetters_8 gf_X9_33 rfl rfl ?_
    refine G.aload_n (pc := 11) dm_X9_takeLetters_11 rfl ?_
    refine G.getfield (pc := 12) dm_X9_takeLetters_12 gf_X9_29 rfl rfl ?_
    refine G.icmp_ge (pc := 15) (tgt := 60) dm_X9_takeLetters_15 (by decide) (fun c15 => ?_) (fun c15 => ?_)
    · rw [if_pos c15] at hres
      exact j_X9_takeLetters_60 hres (by assumption) (by assumption) (by assumption)
    · rw [if_neg c15] at hres
      have hlt := q_nle c15
      refine G.aload_n (pc := 18) dm_X9_takeLetters_18 rfl ?_
      refine G.getfield (pc := 19) dm_X9_takeLetters_19 gf_X9_24 rfl rfl ?_
      refine G.aload_n (pc := 22) dm_X9_takeLetters_22 rfl ?_
      refine G.getfield (pc := 23) dm_X9_takeLetters_23 gf_X9_33 rfl rfl ?_
      refine G.caload (pc := 26) dm_X9_takeLetters_26 rfl (q_in hk.1 (by omega)) ?_
      obtain ⟨z4_0, hz4⟩ := g_ex1 (f_X9_isLetter (tchars (Int32.toNatClampNeg kat)))
      refine G.callS (pc := 27) (rest := []) (st1 := [.int z4_0]) (ws1 := (w_K kcount klen kat kinds kvals tchars)) [] dm_X9_takeLetters_27 gc_X9_takeLetters_36 (k_X9_isLetter (c := (tchars (Int32.toNatClampNeg kat))) hz4) rfl rfl rfl rfl rfl rfl rfl rfl ?_
      replace hres : (r_0, r_1, r_2, r_3) = f_X9_takeLetters_c27 kcount klen kat kinds kvals tchars l1 l2 (f_X9_takeLetters_7 klen tchars n) z4_0 := hres.trans (by rw [← hz4])
      rw [f_X9_takeLetters_c27] at hres
      refine G.if_eq (pc := 30) (tgt := 60) dm_X9_takeLetters_30 (by decide) (fun c30 => ?_) (fun c30 => ?_)
      · rw [if_pos c30] at hres
        exact j_X9_takeLetters_60 hres (by assumption) (by assumption) (by assumption)
      · rw [if_neg c30] at hres
        refine G.lload_n (pc := 33) dm_X9_takeLetters_33 rfl ?_
        refine G.aload_n (pc := 34) dm_X9_takeLetters_34 rfl ?_
        refine G.getfield (pc := 35) dm_X9_takeLetters_35 gf_X9_24 rfl rfl ?_
        refine G.aload_n (pc := 38) dm_X9_takeLetters_38 rfl ?_
        refine G.getfield (pc := 39) dm_X9_takeLetters_39 gf_X9_33 rfl rfl ?_
        refine G.caload (pc := 42) dm_X9_takeLetters_42 rfl (q_in hk.1 (by omega)) ?_
        obtain ⟨z5_0, hz5⟩ := g_ex1 (f_X9_withLetter l2 (tchars (Int32.toNatClampNeg kat)))
        refine G.callS (pc := 43) (rest := []) (st1 := [.long z5_0]) (ws1 := (w_K kcount klen kat kinds kvals tchars)) [] dm_X9_takeLetters_43 gc_X9_takeLetters_58 (k_X9_withLetter (key := l2) (letter := (tchars (Int32.toNatClampNeg kat))) hz5) rfl rfl rfl rfl rfl rfl rfl rfl ?_
        replace hres : (r_0, r_1, r_2, r_3) = f_X9_takeLetters_c43 kcount kat kinds kvals l1 (f_X9_takeLetters_7 klen tchars n) z5_0 := hres.trans (by rw [← hz5])
        rw [f_X9_takeLetters_c43] at hres
        refine G.lstore_n (pc := 46) (lv1 := [(2, .long z5_0), (0, .ref 0), (1, .int l1)]) dm_X9_takeLetters_46 rfl rfl ?_
        refine G.aload_n (pc := 47) dm_X9_takeLetters_47 rfl ?_
        refine G.dup (pc := 48) dm_X9_takeLetters_48 rfl ?_
        refine G.getfield (pc := 49) dm_X9_takeLetters_49 gf_X9_33 rfl rfl ?_
        refine G.iconst (pc := 52) (v := (1 : Int32)) dm_X9_takeLetters_52 qi_1 ?_
        refine G.iadd (pc := 53) dm_X9_takeLetters_53 ?_
        refine G.putfield (pc := 54) (ws1 := (w_K kcount klen (kat + (1 : Int32)) kinds kvals tchars)) dm_X9_takeLetters_54 gw_X9_33 rfl (g_fit_i _) rfl rfl ?_
        refine G.goto (pc := 57) (tgt := 7) dm_X9_takeLetters_57 (by decide) ?_
        refine G.lvp [1, 2, 0] rfl ?_
        exact hk7 (q_kup hk hlt) hc ⟨h1.1, by rw [q_inc (by omega)]; omega⟩ (by rw [q_inc (by omega)]; omega) hres
def f_X9_takeLetters (kcount : Int32) (klen : Int32) (kat : Int32) (kinds : Nat → Int32) (kvals : Nat → Int64) (tchars : Nat → Int32) : Int32 × Int32 × (Nat → Int32) × (Nat → Int64) := (f_X9_takeLetters_7 klen tchars (401) kat (0 : Int64) kcount kat kinds kvals)
set_option maxRecDepth 20000 in
theorem k_X9_takeLetters {kcount : Int32} {klen : Int32} {kat : Int32} {kinds : Nat → Int32} {kvals : Nat → Int64} {tchars : Nat → Int32} (hk : 0 ≤ kat.toInt ∧ kat.toInt ≤ klen.toInt ∧ klen.toInt ≤ 400) (hc : 0 ≤ kcount.toInt ∧ kcount.toInt ≤ 401) {r_0 : Int32} {r_1 : Int32} {r_2 : (Nat → Int32)} {r_3 : (Nat → Int64)} (hres : (r_0, r_1, r_2, r_3) = f_X9_takeLetters kcount klen kat kinds kvals tchars) : K M_X9_takeLetters yX9_takeLetters [.ref 0] (w_K kcount klen kat kinds kvals tchars) (none) (w_K r_0 klen r_1 r_2 r_3 tchars) := by
  refine K.of (lv := [(0, .ref 0)]) (by decide +kernel) rfl rfl rfl ?_
  rw [f_X9_takeLetters] at hres
  refine G.aload_n (pc := 0) dm_X9_takeLetters_0 rfl ?_
  refine G.getfield (pc := 1) dm_X9_takeLetters_1 gf_X9_33 rfl rfl ?_
  refine G.istore_n (pc := 4) (lv1 := [(1, .int kat), (0, .ref 0)]) dm_X9_takeLetters_4 rfl rfl ?_
  refine G.lconst (pc := 5) (v := (0 : Int64)) dm_X9_takeLetters_5 (by decide) ?_
  refine G.lstore_n (pc := 6) (lv1 := [(2, .long (0 : Int64)), (1, .int kat), (0, .ref 0)]) dm_X9_takeLetters_6 rfl rfl ?_
  refine G.lvp [2, 1, 0] rfl ?_
  exact j_X9_takeLetters_7 _ hk hc ⟨hk.1, Int.le_refl _⟩ (by omega) hres
theorem a_X9_takeLetters_145 {l2 : Int64} {s1 : Int32} {kcount : Int32} {klen : Int32} {kat : Int32} {kinds : Nat → Int32} {kvals : Nat → Int64} {r_0 : Int32} {r_1 : Int32} {r_2 : (Nat → Int32)} {r_3 : (Nat → Int64)} (hres : (r_0, r_1, r_2, r_3) = (f_X9_takeLetters_145 kcount kat kinds kvals l2 s1)) (hk : 0 ≤ kat.toInt ∧ kat.toInt ≤ klen.toInt ∧ klen.toInt ≤ 400) (hc : 0 ≤ kcount.toInt ∧ kcount.toInt ≤ 401) (hch : q_ch kinds) : (0 ≤ r_1.toInt ∧ r_1.toInt ≤ klen.toInt ∧ klen.toInt ≤ 400) ∧ (0 ≤ r_0.toInt ∧ r_0.toInt ≤ 401) ∧ q_ch r_2 := by
  rw [f_X9_takeLetters_145] at hres
  obtain ⟨z1_0, z1_1, z1_2, hz1⟩ := g_ex3 (f_X9_add s1 l2 kcount kinds kvals)
  have hh := a_X9_add hz1 hc hch
  have hc := hh.1
  have hch := hh.2
  replace hres : (r_0, r_1, r_2, r_3) = f_X9_takeLetters_c146 kat z1_0 z1_1 z1_2 := hres.trans (by rw [← hz1])
  rw [f_X9_takeLetters_c146] at hres
  cases hres
  exact ⟨hk, hc, hch⟩
theorem a_X9_takeLetters_126 {l1 : Int32} {l2 : Int64} {kcount : Int32} {klen : Int32} {kat : Int32} {kinds : Nat → Int32} {kvals : Nat → Int64} {r_0 : Int32} {r_1 : Int32} {r_2 : (Nat → Int32)} {r_3 : (Nat → Int64)} (hres : (r_0, r_1, r_2, r_3) = (f_X9_takeLetters_126 kcount kat kinds kvals l1 l2)) (hk : 0 ≤ kat.toInt ∧ kat.toInt ≤ klen.toInt ∧ klen.toInt ≤ 400) (hc : 0 ≤ kcount.toInt ∧ kcount.toInt ≤ 401) (hch : q_ch kinds) : (0 ≤ r_1.toInt ∧ r_1.toInt ≤ klen.toInt ∧ klen.toInt ≤ 400) ∧ (0 ≤ r_0.toInt ∧ r_0.toInt ≤ 401) ∧ q_ch r_2 := by
  rw [f_X9_takeLetters_126] at hres
  by_cases c135 : (kat - l1) ≤ (8 : Int32)
  · rw [if_pos c135] at hres
    exact a_X9_takeLetters_145 hres (by assumption) (by assumption) (by assumption)
  · rw [if_neg c135] at hres
    exact a_X9_takeLetters_145 hres (by assumption) (by assumption) (by assumption)
theorem a_X9_takeLetters_86 {l1 : Int32} {l2 : Int64} {s0 : Int32} {kcount : Int32} {klen : Int32} {kat : Int32} {kinds : Nat → Int32} {kvals : Nat → Int64} {tchars : Nat → Int32} {r_0 : Int32} {r_1 : Int32} {r_2 : (Nat → Int32)} {r_3 : (Nat → Int64)} (hres : (r_0, r_1, r_2, r_3) = (f_X9_takeLetters_86 kcount klen kat kinds kvals tchars l1 l2 s0)) (hk : 0 ≤ kat.toInt ∧ kat.toInt ≤ klen.toInt ∧ klen.toInt ≤ 400) (hc : 0 ≤ kcount.toInt ∧ kcount.toInt ≤ 401) (hch : q_ch kinds) : (0 ≤ r_1.toInt ∧ r_1.toInt ≤ klen.toInt ∧ klen.toInt ≤ 400) ∧ (0 ≤ r_0.toInt ∧ r_0.toInt ≤ 401) ∧ q_ch r_2 := by
  rw [f_X9_takeLetters_86] at hres
  by_cases c90 : s0 = 0
  · rw [if_pos c90] at hres
    exact a_X9_takeLetters_126 hres (by assumption) (by assumption) (by assumption)
  · rw [if_neg c90] at hres
    by_cases c101 : klen ≤ kat
    · rw [if_pos c101] at hres
      exact a_X9_takeLetters_126 hres (by assumption) (by assumption) (by assumption)
    · rw [if_neg c101] at hres
      obtain ⟨z2_0, hz2⟩ := g_ex1 (f_X9_isDigit (tchars (Int32.toNatClampNeg kat)))
      replace hres : (r_0, r_1, r_2, r_3) = f_X9_takeLetters_c113 kcount klen kat kinds kvals tchars l1 l2 z2_0 := hres.trans (by rw [← hz2])
      rw [f_X9_takeLetters_c113] at hres
      by_cases c116 : z2_0 = 0
      · rw [if_pos c116] at hres
        exact a_X9_takeLetters_126 hres (by assumption) (by assumption) (by assumption)
      · rw [if_neg c116] at hres
        obtain ⟨z3_0, z3_1, z3_2, z3_3, hz3⟩ := g_ex4 (f_X9_takeRegister kcount klen kat kinds kvals tchars)
        have hh := a_X9_takeRegister hz3 hk hc hch
        have hk := hh.1
        have hc := hh.2.1
        have hch := hh.2.2
        replace hres : (r_0, r_1, r_2, r_3) = f_X9_takeLetters_c120 z3_0 z3_1 z3_2 z3_3 := hres.trans (by rw [← hz3])
        rw [f_X9_takeLetters_c120] at hres
        cases hres
        exact ⟨hk, hc, hch⟩
theorem a_X9_takeLetters_60 {l1 : Int32} {l2 : Int64} {kcount : Int32} {klen : Int32} {kat : Int32} {kinds : Nat → Int32} {kvals : Nat → Int64} {tchars : Nat → Int32} {r_0 : Int32} {r_1 : Int32} {r_2 : (Nat → Int32)} {r_3 : (Nat → Int64)} (hres : (r_0, r_1, r_2, r_3) = (f_X9_takeLetters_60 kcount klen kat kinds kvals tchars l1 l2)) (hk : 0 ≤ kat.toInt ∧ kat.toInt ≤ klen.toInt ∧ klen.toInt ≤ 400) (hc : 0 ≤ kcount.toInt ∧ kcount.toInt ≤ 401) (hch : q_ch kinds) : (0 ≤ r_1.toInt ∧ r_1.toInt ≤ klen.toInt ∧ klen.toInt ≤ 400) ∧ (0 ≤ r_0.toInt ∧ r_0.toInt ≤ 401) ∧ q_ch r_2 := by
  rw [f_X9_takeLetters_60] at hres
  by_cases c67 : (kat - l1) = (1 : Int32)
  · rw [if_pos c67] at hres
    by_cases c78 : (tchars (Int32.toNatClampNeg l1)) = (120 : Int32)
    · rw [if_pos c78] at hres
      exact a_X9_takeLetters_86 hres (by assumption) (by assumption) (by assumption)
    · rw [if_neg c78] at hres
      exact a_X9_takeLetters_86 hres (by assumption) (by assumption) (by assumption)
  · rw [if_neg c67] at hres
    exact a_X9_takeLetters_86 hres (by assumption) (by assumption) (by assumption)
theorem a_X9_takeLetters_7 : ∀ (n : Nat) {l1 : Int32} {l2 : Int64} {kcount : Int32} {klen : Int32} {kat : Int32} {kinds : Nat → Int32} {kvals : Nat → Int64} {tchars : Nat → Int32} {r_0 : Int32} {r_1 : Int32} {r_2 : (Nat → Int32)} {r_3 : (Nat → Int64)}, (0 ≤ kat.toInt ∧ kat.toInt ≤ klen.toInt ∧ klen.toInt ≤ 400) → (0 ≤ kcount.toInt ∧ kcount.toInt ≤ 401) → (q_ch kinds) → (r_0, r_1, r_2, r_3) = f_X9_takeLetters_7 klen tchars n l1 l2 kcount kat kinds kvals → (0 ≤ r_1.toInt ∧ r_1.toInt ≤ klen.toInt ∧ klen.toInt ≤ 400) ∧ (0 ≤ r_0.toInt ∧ r_0.toInt ≤ 401) ∧ q_ch r_2 := by
  intro n
  induction n with
  | zero =>
    intro l1 l2 kcount klen kat kinds kvals tchars r_0 r_1 r_2 r_3 hk hc hch hres
    rw [f_X9_takeLetters_7] at hres
    cases hres
    exact ⟨hk, hc, hch⟩
  | succ n ih =>
    intro l1 l2 kcount klen kat kinds kvals tchars r_0 r_1 r_2 r_3 hk hc hch hres
    have hk7 : ∀ {l1 : Int32} {l2 : Int64} {kcount : Int32} {kat : Int32} {kinds : Nat → Int32} {kvals : Nat → Int64}, (0 ≤ kat.toInt ∧ kat.toInt ≤ klen.toInt ∧ klen.toInt ≤ 400) → (0 ≤ kcount.toInt ∧ kcount.toInt ≤ 401) → (q_ch kinds) → (r_0, r_1, r_2, r_3) = (f_X9_takeLetters_7 klen tchars n) l1 l2 kcount kat kinds kvals → (0 ≤ r_1.toInt ∧ r_1.toInt ≤ klen.toInt ∧ klen.toInt ≤ 400) ∧ (0 ≤ r_0.toInt ∧ r_0.toInt ≤ 401) ∧ q_ch r_2 := fun hk hc hch he => ih hk hc hch he
    rw [f_X9_takeLetters_7] at hres
    by_cases c15 : klen ≤ kat
    · rw [if_pos c15] at hres
      exact a_X9_takeLetters_60 hres (by assumption) (by assumption) (by assumption)
    · rw [if_neg c15] at hres
      have hlt := q_nle c15
      obtain ⟨z4_0, hz4⟩ := g_ex1 (f_X9_isLetter (tchars (Int32.toNatClampNeg kat)))
      replace hres : (r_0, r_1, r_2, r_3) = f_X9_takeLetters_c27 kcount klen kat kinds kvals tchars l1 l2 (f_X9_takeLetters_7 klen tchars n) z4_0 := hres.trans (by rw [← hz4])
      rw [f_X9_takeLetters_c27] at hres
      by_cases c30 : z4_0 = 0
      · rw [if_pos c30] at hres
        exact a_X9_takeLetters_60 hres (by assumption) (by assumption) (by assumption)
      · rw [if_neg c30] at hres
        obtain ⟨z5_0, hz5⟩ := g_ex1 (f_X9_withLetter l2 (tchars (Int32.toNatClampNeg kat)))
        replace hres : (r_0, r_1, r_2, r_3) = f_X9_takeLetters_c43 kcount kat kinds kvals l1 (f_X9_takeLetters_7 klen tchars n) z5_0 := hres.trans (by rw [← hz5])
        rw [f_X9_takeLetters_c43] at hres
        exact hk7 (q_kup hk hlt) hc hch hres
theorem a_X9_takeLetters {kcount : Int32} {klen : Int32} {kat : Int32} {kinds : Nat → Int32} {kvals : Nat → Int64} {tchars : Nat → Int32} {r_0 : Int32} {r_1 : Int32} {r_2 : (Nat → Int32)} {r_3 : (Nat → Int64)} (hres : (r_0, r_1, r_2, r_3) = f_X9_takeLetters kcount klen kat kinds kvals tchars) (hk : 0 ≤ kat.toInt ∧ kat.toInt ≤ klen.toInt ∧ klen.toInt ≤ 400) (hc : 0 ≤ kcount.toInt ∧ kcount.toInt ≤ 401) (hch : q_ch kinds) : (0 ≤ r_1.toInt ∧ r_1.toInt ≤ klen.toInt ∧ klen.toInt ≤ 400) ∧ (0 ≤ r_0.toInt ∧ r_0.toInt ≤ 401) ∧ q_ch r_2 := by
  rw [f_X9_takeLetters] at hres
  exact a_X9_takeLetters_7 _ (by assumption) (by assumption) (by assumption) hres
abbrev M_X9_split : g_M := (cX9_split, 4, RX9, none, { frames := 4, cells := 0, slots := 0, locals := 90 }, 0, 0)
theorem dm_X9_split_0 : decode M_X9_split.1 0 = .ok (.aload_n 0, 1) := by decide +kernel
theorem dm_X9_split_1 : decode M_X9_split.1 1 = .ok (.aload_n 1, 1) := by decide +kernel
theorem dm_X9_split_2 : decode M_X9_split.1 2 = .ok (.getfield 19, 3) := by decide +kernel
theorem dm_X9_split_5 : decode M_X9_split.1 5 = .ok (.putfield 24, 3) := by decide +kernel
theorem dm_X9_split_8 : decode M_X9_split.1 8 = .ok (.aload_n 0, 1) := by decide +kernel
theorem dm_X9_split_9 : decode M_X9_split.1 9 = .ok (.aload_n 1, 1) := by decide +kernel
theorem dm_X9_split_10 : decode M_X9_split.1 10 = .ok (.getfield 25, 3) := by decide +kernel
theorem dm_X9_split_13 : decode M_X9_split.1 13 = .ok (.putfield 29, 3) := by decide +kernel
theorem dm_X9_split_16 : decode M_X9_split.1 16 = .ok (.aload_n 0, 1) := by decide +kernel
theorem dm_X9_split_17 : decode M_X9_split.1 17 = .ok (.iconst 0, 1) := by decide +kernel
theorem dm_X9_split_18 : decode M_X9_split.1 18 = .ok (.putfield 30, 3) := by decide +kernel
theorem dm_X9_split_21 : decode M_X9_split.1 21 = .ok (.aload_n 0, 1) := by decide +kernel
theorem dm_X9_split_22 : decode M_X9_split.1 22 = .ok (.iconst 0, 1) := by decide +kernel
theorem dm_X9_split_23 : decode M_X9_split.1 23 = .ok (.putfield 33, 3) := by decide +kernel
theorem dm_X9_split_26 : decode M_X9_split.1 26 = .ok (.iconst 0, 1) := by decide +kernel
theorem dm_X9_split_27 : decode M_X9_split.1 27 = .ok (.istore_n 2, 1) := by decide +kernel
theorem dm_X9_split_28 : decode M_X9_split.1 28 = .ok (.iload_n 2, 1) := by decide +kernel
theorem dm_X9_split_29 : decode M_X9_split.1 29 = .ok (.sipush 400, 3) := by decide +kernel
theorem dm_X9_split_32 : decode M_X9_split.1 32 = .ok (.if_icmp .ge 80, 3) := by decide +kernel
theorem dm_X9_split_35 : decode M_X9_split.1 35 = .ok (.aload_n 0, 1) := by decide +kernel
theorem dm_X9_split_36 : decode M_X9_split.1 36 = .ok (.getfield 33, 3) := by decide +kernel
theorem dm_X9_split_39 : decode M_X9_split.1 39 = .ok (.aload_n 0, 1) := by decide +kernel
theorem dm_X9_split_40 : decode M_X9_split.1 40 = .ok (.getfield 29, 3) := by decide +kernel
theorem dm_X9_split_43 : decode M_X9_split.1 43 = .ok (.if_icmp .ge 69, 3) := by decide +kernel
theorem dm_X9_split_46 : decode M_X9_split.1 46 = .ok (.aload_n 0, 1) := by decide +kernel
theorem dm_X9_split_47 : decode M_X9_split.1 47 = .ok (.getfield 24, 3) := by decide +kernel
theorem dm_X9_split_50 : decode M_X9_split.1 50 = .ok (.aload_n 0, 1) := by decide +kernel
theorem dm_X9_split_51 : decode M_X9_split.1 51 = .ok (.getfield 33, 3) := by decide +kernel
theorem dm_X9_split_54 : decode M_X9_split.1 54 = .ok (.caload, 1) := by decide +kernel
theorem dm_X9_split_55 : decode M_X9_split.1 55 = .ok (.istore_n 3, 1) := by decide +kernel
theorem dm_X9_split_56 : decode M_X9_split.1 56 = .ok (.iload_n 3, 1) := by decide +kernel
theorem dm_X9_split_57 : decode M_X9_split.1 57 = .ok (.invokestatic 36, 3) := by decide +kernel
theorem dm_X9_split_60 : decode M_X9_split.1 60 = .ok (.ifCond .eq 10, 3) := by decide +kernel
theorem dm_X9_split_63 : decode M_X9_split.1 63 = .ok (.aload_n 0, 1) := by decide +kernel
theorem dm_X9_split_64 : decode M_X9_split.1 64 = .ok (.invokevirtual 40, 3) := by decide +kernel
theorem dm_X9_split_67 : decode M_X9_split.1 67 = .ok (.goto 39, 3) := by decide +kernel
theorem dm_X9_split_70 : decode M_X9_split.1 70 = .ok (.iload_n 3, 1) := by decide +kernel
theorem dm_X9_split_71 : decode M_X9_split.1 71 = .ok (.invokestatic 43, 3) := by decide +kernel
theorem dm_X9_split_74 : decode M_X9_split.1 74 = .ok (.ifCond .ne 9, 3) := by decide +kernel
theorem dm_X9_split_77 : decode M_X9_split.1 77 = .ok (.iload_n 3, 1) := by decide +kernel
theorem dm_X9_split_78 : decode M_X9_split.1 78 = .ok (.bipush 45, 2) := by decide +kernel
theorem dm_X9_split_80 : decode M_X9_split.1 80 = .ok (.if_icmp .ne 21, 3) := by decide +kernel
theorem dm_X9_split_83 : decode M_X9_split.1 83 = .ok (.aload_n 0, 1) := by decide +kernel
theorem dm_X9_split_84 : decode M_X9_split.1 84 = .ok (.iload_n 3, 1) := by decide +kernel
theorem dm_X9_split_85 : decode M_X9_split.1 85 = .ok (.bipush 45, 2) := by decide +kernel
theorem dm_X9_split_87 : decode M_X9_split.1 87 = .ok (.if_icmp .ne 7, 3) := by decide +kernel
theorem dm_X9_split_90 : decode M_X9_split.1 90 = .ok (.iconst 1, 1) := by decide +kernel
theorem dm_X9_split_91 : decode M_X9_split.1 91 = .ok (.goto 4, 3) := by decide +kernel
theorem dm_X9_split_94 : decode M_X9_split.1 94 = .ok (.iconst 0, 1) := by decide +kernel
theorem dm_X9_split_95 : decode M_X9_split.1 95 = .ok (.invokevirtual 46, 3) := by decide +kernel
theorem dm_X9_split_98 : decode M_X9_split.1 98 = .ok (.goto 8, 3) := by decide +kernel
theorem dm_X9_split_101 : decode M_X9_split.1 101 = .ok (.aload_n 0, 1) := by decide +kernel
theorem dm_X9_split_102 : decode M_X9_split.1 102 = .ok (.iload_n 3, 1) := by decide +kernel
theorem dm_X9_split_103 : decode M_X9_split.1 103 = .ok (.invokevirtual 50, 3) := by decide +kernel
theorem dm_X9_split_106 : decode M_X9_split.1 106 = .ok (.iinc 2 1, 3) := by decide +kernel
theorem dm_X9_split_109 : decode M_X9_split.1 109 = .ok (.goto (-81), 3) := by decide +kernel
theorem dm_X9_split_112 : decode M_X9_split.1 112 = .ok (.aload_n 0, 1) := by decide +kernel
theorem dm_X9_split_113 : decode M_X9_split.1 113 = .ok (.bipush 10, 2) := by decide +kernel
theorem dm_X9_split_115 : decode M_X9_split.1 115 = .ok (.lconst 0, 1) := by decide +kernel
theorem dm_X9_split_116 : decode M_X9_split.1 116 = .ok (.invokevirtual 54, 3) := by decide +kernel
theorem dm_X9_split_119 : decode M_X9_split.1 119 = .ok (.return_, 1) := by decide +kernel
theorem gc_X9_split_36 : g_cs M_X9_split 36 M_X9_isLetter yX9_isLetter 1 := ⟨tw213, tw214, tw84, tw215, ⟨rfl, rfl, rfl, rfl⟩, gd_X9_isLetter, ⟨by decide, by decide⟩⟩
theorem gc_X9_split_40 : g_cv M_X9_split 40 M_X9_takeLetters yX9_takeLetters 0 := ⟨tw216, tw217, tw218, tw84, tw219, ⟨rfl, rfl, rfl, rfl⟩, gd_X9_takeLetters, ⟨by decide, by decide⟩⟩
theorem gc_X9_split_43 : g_cs M_X9_split 43 M_X9_isDigit yX9_isDigit 1 := ⟨tw223, tw224, tw84, tw225, ⟨rfl, rfl, rfl, rfl⟩, gd_X9_isDigit, ⟨by decide, by decide⟩⟩
theorem gc_X9_split_46 : g_cv M_X9_split 46 M_X9_takeNumber yX9_takeNumber 1 := ⟨tw241, tw242, tw243, tw84, tw244, ⟨rfl, rfl, rfl, rfl⟩, gd_X9_takeNumber, ⟨by decide, by decide⟩⟩
theorem gc_X9_split_50 : g_cv M_X9_split 50 M_X9_takeMark yX9_takeMark 1 := ⟨tw245, tw246, tw247, tw84, tw248, ⟨rfl, rfl, rfl, rfl⟩, gd_X9_takeMark, ⟨by decide, by decide⟩⟩
theorem gc_X9_split_54 : g_cv M_X9_split 54 M_X9_add yX9_add 2 := ⟨tw237, tw238, tw239, tw84, tw240, ⟨rfl, rfl, rfl, rfl⟩, gd_X9_add, ⟨by decide, by decide⟩⟩
def f_X9_split_c116 (klen : Int32) (kat : Int32) (z1_0 : Int32) (z1_1 : (Nat → Int32)) (z1_2 : (Nat → Int64)) : Int32 × Int32 × Int32 × (Nat → Int32) × (Nat → Int64) := (z1_0, klen, kat, z1_1, z1_2)
def f_X9_split_112 (kcount : Int32) (klen : Int32) (kat : Int32) (kinds : Nat → Int32) (kvals : Nat → Int64) : Int32 × Int32 × Int32 × (Nat → Int32) × (Nat → Int64) := (f_X9_split_c116 klen kat (f_X9_add (10 : Int32) (0 : Int64) kcount kinds kvals).1 (f_X9_add (10 : Int32) (0 : Int64) kcount kinds kvals).2.1 (f_X9_add (10 : Int32) (0 : Int64) kcount kinds kvals).2.2)
set_option maxRecDepth 20000 in
theorem j_X9_split_112 {kcount : Int32} {klen : Int32} {kat : Int32} {kinds : Nat → Int32} {kvals : Nat → Int64} {tchars : Nat → Int32} {tlen : Int32} {r_0 : Int32} {r_1 : Int32} {r_2 : Int32} {r_3 : (Nat → Int32)} {r_4 : (Nat → Int64)} (hres : (r_0, r_1, r_2, r_3, r_4) = (f_X9_split_112 kcount klen kat kinds kvals)) (hc : 0 ≤ kcount.toInt ∧ kcount.toInt ≤ 401) : G M_X9_split 0 0 112 [(0, .ref 0)] [] (w_KT kcount klen kat kinds kvals tchars tlen) (none) (w_KT r_0 r_1 r_2 r_3 r_4 tchars tlen) := by
  rw [f_X9_split_112] at hres
  refine G.aload_n (pc := 112) dm_X9_split_112 rfl ?_
  refine G.bipush (pc := 113) (v := (10 : Int32)) dm_X9_split_113 qb_10 ?_
  refine G.lconst (pc := 115) (v := (0 : Int64)) dm_X9_split_115 (by decide) ?_
  obtain ⟨z1_0, z1_1, z1_2, hz1⟩ := g_ex3 (f_X9_add (10 : Int32) (0 : Int64) kcount kinds kvals)
  refine G.callV (pc := 116) (rest := []) (st1 := []) (ws1 := (w_KT z1_0 klen kat z1_1 z1_2 tchars tlen)) [0, 1, 2, 3] dm_X9_split_116 gc_X9_split_54 (k_X9_add (kind := (10 : Int32)) (value := (0 : Int64)) (kcount := kcount) (klen := klen) (kat := kat) (kinds := kinds) (kvals := kvals) (tchars := tchars) (by assumption) hz1) rfl rfl rfl rfl rfl rfl rfl rfl rfl rfl ?_
  replace hres : (r_0, r_1, r_2, r_3, r_4) = f_X9_split_c116 klen kat z1_0 z1_1 z1_2 := hres.trans (by rw [← hz1])
  rw [f_X9_split_c116] at hres
  cases hres
  exact G.vreturn (pc := 119) dm_X9_split_119 rfl rfl rfl
def f_X9_split_106 (kcount : Int32) (klen : Int32) (kat : Int32) (kinds : Nat → Int32) (kvals : Nat → Int64) (l2 : Int32) (kL28 : Int32 → Int32 → Int32 → Int32 → (Nat → Int32) → (Nat → Int64) → Int32 × Int32 × Int32 × (Nat → Int32) × (Nat → Int64)) : Int32 × Int32 × Int32 × (Nat → Int32) × (Nat → Int64) := (kL28 (l2 + (1 : Int32)) kcount klen kat kinds kvals)
set_option maxRecDepth 20000 in
theorem j_X9_split_106 {l2 : Int32} {kcount : Int32} {klen : Int32} {kat : Int32} {kinds : Nat → Int32} {kvals : Nat → Int64} {tchars : Nat → Int32} {tlen : Int32} {kL28 : Int32 → Int32 → Int32 → Int32 → (Nat → Int32) → (Nat → Int64) → Int32 × Int32 × Int32 × (Nat → Int32) × (Nat → Int64)} {r_0 : Int32} {r_1 : Int32} {r_2 : Int32} {r_3 : (Nat → Int32)} {r_4 : (Nat → Int64)} (hres : (r_0, r_1, r_2, r_3, r_4) = (f_X9_split_106 kcount klen kat kinds kvals l2 kL28)) (hk : 0 ≤ kat.toInt ∧ kat.toInt ≤ klen.toInt ∧ klen.toInt ≤ 400) (hc : 0 ≤ kcount.toInt ∧ kcount.toInt ≤ 401) (hch : q_ch kinds) (h2 : 0 ≤ l2.toInt) (hl2 : l2.toInt < 400) {mu : Nat} (hmu : (400 - l2.toInt.toNat) = mu) (hk28 : ∀ {l2 : Int32} {kcount : Int32} {klen : Int32} {kat : Int32} {kinds : Nat → Int32} {kvals : Nat → Int64}, (0 ≤ kat.toInt ∧ kat.toInt ≤ klen.toInt ∧ klen.toInt ≤ 400) → (0 ≤ kcount.toInt ∧ kcount.toInt ≤ 401) → (q_ch kinds) → (0 ≤ l2.toInt) → (400 - l2.toInt.toNat) < mu → (r_0, r_1, r_2, r_3, r_4) = kL28 l2 kcount klen kat kinds kvals → G M_X9_split 0 0 28 [(0, .ref 0), (2, .int l2)] [] (w_KT kcount klen kat kinds kvals tchars tlen) (none) (w_KT r_0 r_1 r_2 r_3 r_4 tchars tlen)) : G M_X9_split 0 0 106 [(0, .ref 0), (2, .int l2)] [] (w_KT kcount klen kat kinds kvals tchars tlen) (none) (w_KT r_0 r_1 r_2 r_3 r_4 tchars tlen) := by
  rw [f_X9_split_106] at hres
  refine G.iinc (pc := 106) (v := (l2 + (1 : Int32))) (lv1 := [(2, .int (l2 + (1 : Int32))), (0, .ref 0)]) dm_X9_split_106 rfl rfl rfl rfl ?_
  refine G.goto (pc := 109) (tgt := 28) dm_X9_split_109 (by decide) ?_
  refine G.lvp [1, 0] rfl ?_
  exact hk28 hk hc hch (by rw [q_inc (by omega)]; omega) (by rw [q_inc (by omega)]; omega) hres
def f_X9_split_c95 (klen : Int32) (l2 : Int32) (kL28 : Int32 → Int32 → Int32 → Int32 → (Nat → Int32) → (Nat → Int64) → Int32 × Int32 × Int32 × (Nat → Int32) × (Nat → Int64)) (z4_0 : Int32) (z4_1 : Int32) (z4_2 : (Nat → Int32)) (z4_3 : (Nat → Int64)) : Int32 × Int32 × Int32 × (Nat → Int32) × (Nat → Int64) := (f_X9_split_106 z4_0 klen z4_1 z4_2 z4_3 l2 kL28)
def f_X9_split_95 (kcount : Int32) (klen : Int32) (kat : Int32) (kinds : Nat → Int32) (kvals : Nat → Int64) (tchars : Nat → Int32) (l2 : Int32) (kL28 : Int32 → Int32 → Int32 → Int32 → (Nat → Int32) → (Nat → Int64) → Int32 × Int32 × Int32 × (Nat → Int32) × (Nat → Int64)) (s1 : Int32) : Int32 × Int32 × Int32 × (Nat → Int32) × (Nat → Int64) := (f_X9_split_c95 klen l2 kL28 (f_X9_takeNumber s1 kcount klen kat kinds kvals tchars).1 (f_X9_takeNumber s1 kcount klen kat kinds kvals tchars).2.1 (f_X9_takeNumber s1 kcount klen kat kinds kvals tchars).2.2.1 (f_X9_takeNumber s1 kcount klen kat kinds kvals tchars).2.2.2)
set_option maxRecDepth 20000 in
theorem j_X9_split_95 {l2 : Int32} {s1 : Int32} {kcount : Int32} {klen : Int32} {kat : Int32} {kinds : Nat → Int32} {kvals : Nat → Int64} {tchars : Nat → Int32} {tlen : Int32} {kL28 : Int32 → Int32 → Int32 → Int32 → (Nat → Int32) → (Nat → Int64) → Int32 × Int32 × Int32 × (Nat → Int32) × (Nat → Int64)} {r_0 : Int32} {r_1 : Int32} {r_2 : Int32} {r_3 : (Nat → Int32)} {r_4 : (Nat → Int64)} (hres : (r_0, r_1, r_2, r_3, r_4) = (f_X9_split_95 kcount klen kat kinds kvals tchars l2 kL28 s1)) (hk : 0 ≤ kat.toInt ∧ kat.toInt ≤ klen.toInt ∧ klen.toInt ≤ 400) (hc : 0 ≤ kcount.toInt ∧ kcount.toInt ≤ 401) (hch : q_ch kinds) (h2 : 0 ≤ l2.toInt) (hlt : kat.toInt < klen.toInt) (hl2 : l2.toInt < 400) {mu : Nat} (hmu : (400 - l2.toInt.toNat) = mu) (hk28 : ∀ {l2 : Int32} {kcount : Int32} {klen : Int32} {kat : Int32} {kinds : Nat → Int32} {kvals : Nat → Int64}, (0 ≤ kat.toInt ∧ kat.toInt ≤ klen.toInt ∧ klen.toInt ≤ 400) → (0 ≤ kcount.toInt ∧ kcount.toInt ≤ 401) → (q_ch kinds) → (0 ≤ l2.toInt) → (400 - l2.toInt.toNat) < mu → (r_0, r_1, r_2, r_3, r_4) = kL28 l2 kcount klen kat kinds kvals → G M_X9_split 0 0 28 [(0, .ref 0), (2, .int l2)] [] (w_KT kcount klen kat kinds kvals tchars tlen) (none) (w_KT r_0 r_1 r_2 r_3 r_4 tchars tlen)) : G M_X9_split 0 0 95 [(0, .ref 0), (2, .int l2)] [.int s1, .ref 0] (w_KT kcount klen kat kinds kvals tchars tlen) (none) (w_KT r_0 r_1 r_2 r_3 r_4 tchars tlen) := by
  rw [f_X9_split_95] at hres
  obtain ⟨z4_0, z4_1, z4_2, z4_3, hz4⟩ := g_ex4 (f_X9_takeNumber s1 kcount klen kat kinds kvals tchars)
  refine G.callV (pc := 95) (rest := []) (st1 := []) (ws1 := (w_KT z4_0 klen z4_1 z4_2 z4_3 tchars tlen)) [0, 1, 2, 3] dm_X9_split_95 gc_X9_split_46 (k_X9_takeNumber (negative := s1) (kcount := kcount) (klen := klen) (kat := kat) (kinds := kinds) (kvals := kvals) (tchars := tchars) hk hc (fun _ => hlt) hz4) rfl rfl rfl rfl rfl rfl rfl rfl rfl rfl ?_
  have hh := a_X9_takeNumber hz4 hk hc hch (fun _ => hlt)
  have hk := hh.1
  have hc := hh.2.1
  have hch := hh.2.2
  replace hres : (r_0, r_1, r_2, r_3, r_4) = f_X9_split_c95 klen l2 kL28 z4_0 z4_1 z4_2 z4_3 := hres.trans (by rw [← hz4])
  rw [f_X9_split_c95] at hres
  refine G.goto (pc := 98) (tgt := 106) dm_X9_split_98 (by decide) ?_
  exact j_X9_split_106 hres (by assumption) (by assumption) (by assumption) (by assumption) (by assumption) hmu hk28
def f_X9_split_83 (kcount : Int32) (klen : Int32) (kat : Int32) (kinds : Nat → Int32) (kvals : Nat → Int64) (tchars : Nat → Int32) (l2 : Int32) (kL28 : Int32 → Int32 → Int32 → Int32 → (Nat → Int32) → (Nat → Int64) → Int32 × Int32 × Int32 × (Nat → Int32) × (Nat → Int64)) (l3 : Int32) : Int32 × Int32 × Int32 × (Nat → Int32) × (Nat → Int64) := (if l3 = (45 : Int32) then (f_X9_split_95 kcount klen kat kinds kvals tchars l2 kL28 (1 : Int32)) else (f_X9_split_95 kcount klen kat kinds kvals tchars l2 kL28 (0 : Int32)))
set_option maxRecDepth 20000 in
theorem j_X9_split_83 {l2 : Int32} {l3 : Int32} {kcount : Int32} {klen : Int32} {kat : Int32} {kinds : Nat → Int32} {kvals : Nat → Int64} {tchars : Nat → Int32} {tlen : Int32} {kL28 : Int32 → Int32 → Int32 → Int32 → (Nat → Int32) → (Nat → Int64) → Int32 × Int32 × Int32 × (Nat → Int32) × (Nat → Int64)} {r_0 : Int32} {r_1 : Int32} {r_2 : Int32} {r_3 : (Nat → Int32)} {r_4 : (Nat → Int64)} (hres : (r_0, r_1, r_2, r_3, r_4) = (f_X9_split_83 kcount klen kat kinds kvals tchars l2 kL28 l3)) (hk : 0 ≤ kat.toInt ∧ kat.toInt ≤ klen.toInt ∧ klen.toInt ≤ 400) (hc : 0 ≤ kcount.toInt ∧ kcount.toInt ≤ 401) (hch : q_ch kinds) (h2 : 0 ≤ l2.toInt) (hlt : kat.toInt < klen.toInt) (hl2 : l2.toInt < 400) {mu : Nat} (hmu : (400 - l2.toInt.toNat) = mu) (hk28 : ∀ {l2 : Int32} {kcount : Int32} {klen : Int32} {kat : Int32} {kinds : Nat → Int32} {kvals : Nat → Int64}, (0 ≤ kat.toInt ∧ kat.toInt ≤ klen.toInt ∧ klen.toInt ≤ 400) → (0 ≤ kcount.toInt ∧ kcount.toInt ≤ 401) → (q_ch kinds) → (0 ≤ l2.toInt) → (400 - l2.toInt.toNat) < mu → (r_0, r_1, r_2, r_3, r_4) = kL28 l2 kcount klen kat kinds kvals → G M_X9_split 0 0 28 [(0, .ref 0), (2, .int l2)] [] (w_KT kcount klen kat kinds kvals tchars tlen) (none) (w_KT r_0 r_1 r_2 r_3 r_4 tchars tlen)) : G M_X9_split 0 0 83 [(0, .ref 0), (2, .int l2), (3, .int l3)] [] (w_KT kcount klen kat kinds kvals tchars tlen) (none) (w_KT r_0 r_1 r_2 r_3 r_4 tchars tlen) := by
  rw [f_X9_split_83] at hres
  refine G.aload_n (pc := 83) dm_X9_split_83 rfl ?_
  refine G.iload_n (pc := 84) dm_X9_split_84 rfl ?_
  refine G.bipush (pc := 85) (v := (45 : Int32)) dm_X9_split_85 qb_45 ?_
  refine G.icmp_ne (pc := 87) (tgt := 94) dm_X9_split_87 (by decide) (fun c87 => ?_) (fun c87 => ?_)
  · rw [if_neg c87] at hres
    refine G.iconst (pc := 94) (v := (0 : Int32)) dm_X9_split_94 qi_0 ?_
    refine G.lvp [0, 1] rfl ?_
    exact j_X9_split_95 hres (by assumption) (by assumption) (by assumption) (by assumption) (by assumption) (by assumption) hmu hk28
  · rw [if_pos c87] at hres
    refine G.iconst (pc := 90) (v := (1 : Int32)) dm_X9_split_90 qi_1 ?_
    refine G.goto (pc := 91) (tgt := 95) dm_X9_split_91 (by decide) ?_
    refine G.lvp [0, 1] rfl ?_
    exact j_X9_split_95 hres (by assumption) (by assumption) (by assumption) (by assumption) (by assumption) (by assumption) hmu hk28
def f_X9_split_c103 (klen : Int32) (l2 : Int32) (kL28 : Int32 → Int32 → Int32 → Int32 → (Nat → Int32) → (Nat → Int64) → Int32 × Int32 × Int32 × (Nat → Int32) × (Nat → Int64)) (z5_0 : Int32) (z5_1 : Int32) (z5_2 : (Nat → Int32)) (z5_3 : (Nat → Int64)) : Int32 × Int32 × Int32 × (Nat → Int32) × (Nat → Int64) := (f_X9_split_106 z5_0 klen z5_1 z5_2 z5_3 l2 kL28)
def f_X9_split_c71 (kcount : Int32) (klen : Int32) (kat : Int32) (kinds : Nat → Int32) (kvals : Nat → Int64) (tchars : Nat → Int32) (l2 : Int32) (kL28 : Int32 → Int32 → Int32 → Int32 → (Nat → Int32) → (Nat → Int64) → Int32 × Int32 × Int32 × (Nat → Int32) × (Nat → Int64)) (z3_0 : Int32) : Int32 × Int32 × Int32 × (Nat → Int32) × (Nat → Int64) := (if z3_0 = 0 then (if (tchars (Int32.toNatClampNeg kat)) = (45 : Int32) then (f_X9_split_83 kcount klen kat kinds kvals tchars l2 kL28 (tchars (Int32.toNatClampNeg kat))) else (f_X9_split_c103 klen l2 kL28 (f_X9_takeMark (tchars (Int32.toNatClampNeg kat)) kcount kat kinds kvals).1 (f_X9_takeMark (tchars (Int32.toNatClampNeg kat)) kcount kat kinds kvals).2.1 (f_X9_takeMark (tchars (Int32.toNatClampNeg kat)) kcount kat kinds kvals).2.2.1 (f_X9_takeMark (tchars (Int32.toNatClampNeg kat)) kcount kat kinds kvals).2.2.2)) else (f_X9_split_83 kcount klen kat kinds kvals tchars l2 kL28 (tchars (Int32.toNatClampNeg kat))))
def f_X9_split_c64 (klen : Int32) (l2 : Int32) (kL28 : Int32 → Int32 → Int32 → Int32 → (Nat → Int32) → (Nat → Int64) → Int32 × Int32 × Int32 × (Nat → Int32) × (Nat → Int64)) (z6_0 : Int32) (z6_1 : Int32) (z6_2 : (Nat → Int32)) (z6_3 : (Nat → Int64)) : Int32 × Int32 × Int32 × (Nat → Int32) × (Nat → Int64) := (f_X9_split_106 z6_0 klen z6_1 z6_2 z6_3 l2 kL28)
def f_X9_split_c57 (kcount : Int32) (klen : Int32) (kat : Int32) (kinds : Nat → Int32) (kvals : Nat → Int64) (tchars : Nat → Int32) (l2 : Int32) (kL28 : Int32 → Int32 → Int32 → Int32 → (Nat → Int32) → (Nat → Int64) → Int32 × Int32 × Int32 × (Nat → Int32) × (Nat → Int64)) (z2_0 : Int32) : Int32 × Int32 × Int32 × (Nat → Int32) × (Nat → Int64) := (if z2_0 = 0 then (f_X9_split_c71 kcount klen kat kinds kvals tchars l2 kL28 (f_X9_isDigit (tchars (Int32.toNatClampNeg kat)))) else (f_X9_split_c64 klen l2 kL28 (f_X9_takeLetters kcount klen kat kinds kvals tchars).1 (f_X9_takeLetters kcount klen kat kinds kvals tchars).2.1 (f_X9_takeLetters kcount klen kat kinds kvals tchars).2.2.1 (f_X9_takeLetters kcount klen kat kinds kvals tchars).2.2.2))
def f_X9_split_28 (tchars : Nat → Int32) : Nat → Int32 → Int32 → Int32 → Int32 → (Nat → Int32) → (Nat → Int64) → Int32 × Int32 × Int32 × (Nat → Int32) × (Nat → Int64)
  | 0, l2, kcount, klen, kat, kinds, kvals => (kcount, klen, kat, kinds, kvals)
  | n + 1, l2, kcount, klen, kat, kinds, kvals => (if (400 : Int32) ≤ l2 then (f_X9_split_112 kcount klen kat kinds kvals) else (if klen ≤ kat then (f_X9_split_112 kcount klen kat kinds kvals) else (f_X9_split_c57 kcount klen kat kinds kvals tchars l2 (f_X9_split_28 tchars n) (f_X9_isLetter (tchars (Int32.toNatClampNeg kat))))))
set_option maxRecDepth 20000 in
theorem j_X9_split_28 : ∀ (n : Nat) {l2 : Int32} {kcount : Int32} {klen : Int32} {kat : Int32} {kinds : Nat → Int32} {kvals : Nat → Int64} {tchars : Nat → Int32} {tlen : Int32} {r_0 : Int32} {r_1 : Int32} {r_2 : Int32} {r_3 : (Nat → Int32)} {r_4 : (Nat → Int64)}, (hk : 0 ≤ kat.toInt ∧ kat.toInt ≤ klen.toInt ∧ klen.toInt ≤ 400) → (hc : 0 ≤ kcount.toInt ∧ kcount.toInt ≤ 401) → (hch : q_ch kinds) → (h2 : 0 ≤ l2.toInt) → (400 - l2.toInt.toNat) < n → (r_0, r_1, r_2, r_3, r_4) = f_X9_split_28 tchars n l2 kcount klen kat kinds kvals → G M_X9_split 0 0 28 [(0, .ref 0), (2, .int l2)] [] (w_KT kcount klen kat kinds kvals tchars tlen) (none) (w_KT r_0 r_1 r_2 r_3 r_4 tchars tlen) := by
  intro n
  induction n with
  | zero =>
    intro l2 kcount klen kat kinds kvals tchars tlen r_0 r_1 r_2 r_3 r_4 hk hc hch h2 hm hres
    exact absurd hm (Nat.not_lt_zero _)
  | succ n ih =>
    intro l2 kcount klen kat kinds kvals tchars tlen r_0 r_1 r_2 r_3 r_4 hk hc hch h2 hm hres
    obtain ⟨mu, hmu⟩ : ∃ z, (400 - l2.toInt.toNat) = z := ⟨_, rfl⟩
    rw [hmu] at hm
    have hk28 : ∀ {l2 : Int32} {kcount : Int32} {klen : Int32} {kat : Int32} {kinds : Nat → Int32} {kvals : Nat → Int64}, (0 ≤ kat.toInt ∧ kat.toInt ≤ klen.toInt ∧ klen.toInt ≤ 400) → (0 ≤ kcount.toInt ∧ kcount.toInt ≤ 401) → (q_ch kinds) → (0 ≤ l2.toInt) → (400 - l2.toInt.toNat) < mu → (r_0, r_1, r_2, r_3, r_4) = (f_X9_split_28 tchars n) l2 kcount klen kat kinds kvals → G M_X9_split 0 0 28 [(0, .ref 0), (2, .int l2)] [] (w_KT kcount klen kat kinds kvals tchars tlen) (none) (w_KT r_0 r_1 r_2 r_3 r_4 tchars tlen) := fun hk hc hch h2 hlt he => ih hk hc hch h2 (Nat.lt_of_lt_of_le hlt (Nat.le_of_lt_succ hm)) he
    rw [f_X9_split_28] at hres
    refine G.iload_n (pc := 28) dm_X9_split_28 rfl ?_
    refine G.sipush (pc := 29) (v := (400 : Int32)) dm_X9_split_29 qs_400 ?_
    refine G.icmp_ge (pc := 32) (tgt := 112) dm_X9_split_32 (by decide) (fun c32 => ?_) (fun c32 => ?_)
    · rw [if_pos c32] at hres
      refine G.lvp [0] rfl ?_
      exact j_X9_split_112 hres (by assumption)
    · rw [if_neg c32] at hres
      have hl2 := q_400 c32
      refine G.aload_n (pc := 35) dm_X9_split_35 rfl ?_
      refine G.getfield (pc := 36) dm_X9_split_36 gf_X9_33 rfl rfl ?_
      refine G.aload_n (pc := 39) dm_X9_split_39 rfl ?_
      refine G.getfield (pc := 40) dm_X9_split_40 gf_X9_29 rfl rfl ?_
      refine G.icmp_ge (pc := 43) (tgt := 112) dm_X9_split_43 (by decide) (fun c43 => ?_) (fun c43 => ?_)
      · rw [if_pos c43] at hres
        refine G.lvp [0] rfl ?_
        exact j_X9_split_112 hres (by assumption)
      · rw [if_neg c43] at hres
        have hlt := q_nle c43
        refine G.aload_n (pc := 46) dm_X9_split_46 rfl ?_
        refine G.getfield (pc := 47) dm_X9_split_47 gf_X9_24 rfl rfl ?_
        refine G.aload_n (pc := 50) dm_X9_split_50 rfl ?_
        refine G.getfield (pc := 51) dm_X9_split_51 gf_X9_33 rfl rfl ?_
        refine G.caload (pc := 54) dm_X9_split_54 rfl (q_in hk.1 (by omega)) ?_
        refine G.istore_n (pc := 55) (lv1 := [(3, .int (tchars (Int32.toNatClampNeg kat))), (0, .ref 0), (2, .int l2)]) dm_X9_split_55 rfl rfl ?_
        refine G.iload_n (pc := 56) dm_X9_split_56 rfl ?_
        obtain ⟨z2_0, hz2⟩ := g_ex1 (f_X9_isLetter (tchars (Int32.toNatClampNeg kat)))
        refine G.callS (pc := 57) (rest := []) (st1 := [.int z2_0]) (ws1 := (w_KT kcount klen kat kinds kvals tchars tlen)) [] dm_X9_split_57 gc_X9_split_36 (k_X9_isLetter (c := (tchars (Int32.toNatClampNeg kat))) hz2) rfl rfl rfl rfl rfl rfl rfl rfl ?_
        replace hres : (r_0, r_1, r_2, r_3, r_4) = f_X9_split_c57 kcount klen kat kinds kvals tchars l2 (f_X9_split_28 tchars n) z2_0 := hres.trans (by rw [← hz2])
        rw [f_X9_split_c57] at hres
        refine G.if_eq (pc := 60) (tgt := 70) dm_X9_split_60 (by decide) (fun c60 => ?_) (fun c60 => ?_)
        · rw [if_pos c60] at hres
          refine G.iload_n (pc := 70) dm_X9_split_70 rfl ?_
          obtain ⟨z3_0, hz3⟩ := g_ex1 (f_X9_isDigit (tchars (Int32.toNatClampNeg kat)))
          refine G.callS (pc := 71) (rest := []) (st1 := [.int z3_0]) (ws1 := (w_KT kcount klen kat kinds kvals tchars tlen)) [] dm_X9_split_71 gc_X9_split_43 (k_X9_isDigit (c := (tchars (Int32.toNatClampNeg kat))) hz3) rfl rfl rfl rfl rfl rfl rfl rfl ?_
          replace hres : (r_0, r_1, r_2, r_3, r_4) = f_X9_split_c71 kcount klen kat kinds kvals tchars l2 (f_X9_split_28 tchars n) z3_0 := hres.trans (by rw [← hz3])
          rw [f_X9_split_c71] at hres
          refine G.if_ne (pc := 74) (tgt := 83) dm_X9_split_74 (by decide) (fun c74 => ?_) (fun c74 => ?_)
          · rw [if_neg c74] at hres
            refine G.lvp [1, 2, 0] rfl ?_
            exact j_X9_split_83 hres (by assumption) (by assumption) (by assumption) (by assumption) (by assumption) (by assumption) hmu hk28
          · rw [if_pos c74] at hres
            refine G.iload_n (pc := 77) dm_X9_split_77 rfl ?_
            refine G.bipush (pc := 78) (v := (45 : Int32)) dm_X9_split_78 qb_45 ?_
            refine G.icmp_ne (pc := 80) (tgt := 101) dm_X9_split_80 (by decide) (fun c80 => ?_) (fun c80 => ?_)
            · rw [if_neg c80] at hres
              refine G.aload_n (pc := 101) dm_X9_split_101 rfl ?_
              refine G.iload_n (pc := 102) dm_X9_split_102 rfl ?_
              obtain ⟨z5_0, z5_1, z5_2, z5_3, hz5⟩ := g_ex4 (f_X9_takeMark (tchars (Int32.toNatClampNeg kat)) kcount kat kinds kvals)
              refine G.callV (pc := 103) (rest := []) (st1 := []) (ws1 := (w_KT z5_0 klen z5_1 z5_2 z5_3 tchars tlen)) [0, 1, 2, 3] dm_X9_split_103 gc_X9_split_50 (k_X9_takeMark (c := (tchars (Int32.toNatClampNeg kat))) (kcount := kcount) (klen := klen) (kat := kat) (kinds := kinds) (kvals := kvals) (tchars := tchars) (by assumption) hz5) rfl rfl rfl rfl rfl rfl rfl rfl rfl rfl ?_
              have hh := a_X9_takeMark hz5 hk hc hch hlt
              have hk := hh.1
              have hc := hh.2.1
              have hch := hh.2.2
              replace hres : (r_0, r_1, r_2, r_3, r_4) = f_X9_split_c103 klen l2 (f_X9_split_28 tchars n) z5_0 z5_1 z5_2 z5_3 := hres.trans (by rw [← hz5])
              rw [f_X9_split_c103] at hres
              refine G.lvp [1, 2] rfl ?_
              exact j_X9_split_106 hres (by assumption) (by assumption) (by assumption) (by assumption) (by assumption) hmu hk28
            · rw [if_pos c80] at hres
              refine G.lvp [1, 2, 0] rfl ?_
              exact j_X9_split_83 hres (by assumption) (by assumption) (by assumption) (by assumption) (by assumption) (by assumption) hmu hk28
        · rw [if_neg c60] at hres
          refine G.aload_n (pc := 63) dm_X9_split_63 rfl ?_
          obtain ⟨z6_0, z6_1, z6_2, z6_3, hz6⟩ := g_ex4 (f_X9_takeLetters kcount klen kat kinds kvals tchars)
          refine G.callV (pc := 64) (rest := []) (st1 := []) (ws1 := (w_KT z6_0 klen z6_1 z6_2 z6_3 tchars tlen)) [0, 1, 2, 3] dm_X9_split_64 gc_X9_split_40 (k_X9_takeLetters (kcount := kcount) (klen := klen) (kat := kat) (kinds := kinds) (kvals := kvals) (tchars := tchars) (by assumption) (by assumption) hz6) rfl rfl rfl rfl rfl rfl rfl rfl rfl rfl ?_
          have hh := a_X9_takeLetters hz6 hk hc hch
          have hk := hh.1
          have hc := hh.2.1
          have hch := hh.2.2
          replace hres : (r_0, r_1, r_2, r_3, r_4) = f_X9_split_c64 klen l2 (f_X9_split_28 tchars n) z6_0 z6_1 z6_2 z6_3 := hres.trans (by rw [← hz6])
          rw [f_X9_split_c64] at hres
          refine G.goto (pc := 67) (tgt := 106) dm_X9_split_67 (by decide) ?_
          refine G.lvp [1, 2] rfl ?_
          exact j_X9_split_106 hres (by assumption) (by assumption) (by assumption) (by assumption) (by assumption) hmu hk28
def f_X9_split_8 (kinds : Nat → Int32) (kvals : Nat → Int64) (tchars : Nat → Int32) (tlen : Int32) : Int32 × Int32 × Int32 × (Nat → Int32) × (Nat → Int64) := (f_X9_split_28 tchars (401) (0 : Int32) (0 : Int32) tlen (0 : Int32) kinds kvals)
set_option maxRecDepth 20000 in
theorem j_X9_split_8 {kcount : Int32} {klen : Int32} {kat : Int32} {kinds : Nat → Int32} {kvals : Nat → Int64} {tchars : Nat → Int32} {tlen : Int32} {r_0 : Int32} {r_1 : Int32} {r_2 : Int32} {r_3 : (Nat → Int32)} {r_4 : (Nat → Int64)} (hres : (r_0, r_1, r_2, r_3, r_4) = (f_X9_split_8 kinds kvals tchars tlen)) (htl : 0 ≤ tlen.toInt ∧ tlen.toInt ≤ 400) (hch : q_ch kinds) : G M_X9_split 0 0 8 [(0, .ref 0), (1, .ref 4)] [] (w_KT kcount klen kat kinds kvals tchars tlen) (none) (w_KT r_0 r_1 r_2 r_3 r_4 tchars tlen) := by
  rw [f_X9_split_8] at hres
  refine G.aload_n (pc := 8) dm_X9_split_8 rfl ?_
  refine G.aload_n (pc := 9) dm_X9_split_9 rfl ?_
  refine G.getfield (pc := 10) dm_X9_split_10 gf_X9_25 rfl rfl ?_
  refine G.putfield (pc := 13) (ws1 := (w_KT kcount tlen kat kinds kvals tchars tlen)) dm_X9_split_13 gw_X9_29 rfl (g_fit_i _) rfl rfl ?_
  refine G.aload_n (pc := 16) dm_X9_split_16 rfl ?_
  refine G.iconst (pc := 17) (v := (0 : Int32)) dm_X9_split_17 qi_0 ?_
  refine G.putfield (pc := 18) (ws1 := (w_KT (0 : Int32) tlen kat kinds kvals tchars tlen)) dm_X9_split_18 gw_X9_30 rfl (g_fit_i _) rfl rfl ?_
  refine G.aload_n (pc := 21) dm_X9_split_21 rfl ?_
  refine G.iconst (pc := 22) (v := (0 : Int32)) dm_X9_split_22 qi_0 ?_
  refine G.putfield (pc := 23) (ws1 := (w_KT (0 : Int32) tlen (0 : Int32) kinds kvals tchars tlen)) dm_X9_split_23 gw_X9_33 rfl (g_fit_i _) rfl rfl ?_
  refine G.iconst (pc := 26) (v := (0 : Int32)) dm_X9_split_26 qi_0 ?_
  refine G.istore_n (pc := 27) (lv1 := [(2, .int (0 : Int32)), (0, .ref 0), (1, .ref 4)]) dm_X9_split_27 rfl rfl ?_
  refine G.lvp [1, 0] rfl ?_
  exact j_X9_split_28 _ (by exact ⟨by decide, htl.1, htl.2⟩) (by decide) hch (by decide) (by decide) hres
def f_X9_split (kinds : Nat → Int32) (kvals : Nat → Int64) (tchars : Nat → Int32) (tlen : Int32) : Int32 × Int32 × Int32 × (Nat → Int32) × (Nat → Int64) := (f_X9_split_8 kinds kvals tchars tlen)
set_option maxRecDepth 20000 in
theorem k_X9_split {kcount : Int32} {klen : Int32} {kat : Int32} {kinds : Nat → Int32} {kvals : Nat → Int64} {tchars : Nat → Int32} {tlen : Int32} (htl : 0 ≤ tlen.toInt ∧ tlen.toInt ≤ 400) (hch : q_ch kinds) {r_0 : Int32} {r_1 : Int32} {r_2 : Int32} {r_3 : (Nat → Int32)} {r_4 : (Nat → Int64)} (hres : (r_0, r_1, r_2, r_3, r_4) = f_X9_split kinds kvals tchars tlen) : K M_X9_split yX9_split [.ref 0, .ref 4] (w_KT kcount klen kat kinds kvals tchars tlen) (none) (w_KT r_0 r_1 r_2 r_3 r_4 tchars tlen) := by
  refine K.of (lv := [(0, .ref 0), (1, .ref 4)]) (by decide +kernel) rfl rfl rfl ?_
  rw [f_X9_split] at hres
  refine G.aload_n (pc := 0) dm_X9_split_0 rfl ?_
  refine G.aload_n (pc := 1) dm_X9_split_1 rfl ?_
  refine G.getfield (pc := 2) dm_X9_split_2 gf_X9_19 rfl rfl ?_
  refine G.putfield (pc := 5) (ws1 := (w_KT kcount klen kat kinds kvals tchars tlen)) dm_X9_split_5 gw_X9_24 rfl (g_fit_a _ _) rfl rfl ?_
  exact j_X9_split_8 hres (by assumption) (by assumption)
theorem a_X9_split_112 {kcount : Int32} {klen : Int32} {kat : Int32} {kinds : Nat → Int32} {kvals : Nat → Int64} {r_0 : Int32} {r_1 : Int32} {r_2 : Int32} {r_3 : (Nat → Int32)} {r_4 : (Nat → Int64)} (hres : (r_0, r_1, r_2, r_3, r_4) = (f_X9_split_112 kcount klen kat kinds kvals)) (hc : 0 ≤ kcount.toInt ∧ kcount.toInt ≤ 401) (hch : q_ch kinds) : (0 ≤ r_0.toInt ∧ r_0.toInt ≤ 401) ∧ q_ch r_3 := by
  rw [f_X9_split_112] at hres
  obtain ⟨z1_0, z1_1, z1_2, hz1⟩ := g_ex3 (f_X9_add (10 : Int32) (0 : Int64) kcount kinds kvals)
  have hh := a_X9_add hz1 hc hch
  have hc := hh.1
  have hch := hh.2
  replace hres : (r_0, r_1, r_2, r_3, r_4) = f_X9_split_c116 klen kat z1_0 z1_1 z1_2 := hres.trans (by rw [← hz1])
  rw [f_X9_split_c116] at hres
  cases hres
  exact ⟨hc, hch⟩
theorem a_X9_split_106 {l2 : Int32} {kcount : Int32} {klen : Int32} {kat : Int32} {kinds : Nat → Int32} {kvals : Nat → Int64} {kL28 : Int32 → Int32 → Int32 → Int32 → (Nat → Int32) → (Nat → Int64) → Int32 × Int32 × Int32 × (Nat → Int32) × (Nat → Int64)} {r_0 : Int32} {r_1 : Int32} {r_2 : Int32} {r_3 : (Nat → Int32)} {r_4 : (Nat → Int64)} (hres : (r_0, r_1, r_2, r_3, r_4) = (f_X9_split_106 kcount klen kat kinds kvals l2 kL28)) (hk : 0 ≤ kat.toInt ∧ kat.toInt ≤ klen.toInt ∧ klen.toInt ≤ 400) (hc : 0 ≤ kcount.toInt ∧ kcount.toInt ≤ 401) (hch : q_ch kinds) (hk28 : ∀ {l2 : Int32} {kcount : Int32} {klen : Int32} {kat : Int32} {kinds : Nat → Int32} {kvals : Nat → Int64}, (0 ≤ kat.toInt ∧ kat.toInt ≤ klen.toInt ∧ klen.toInt ≤ 400) → (0 ≤ kcount.toInt ∧ kcount.toInt ≤ 401) → (q_ch kinds) → (r_0, r_1, r_2, r_3, r_4) = kL28 l2 kcount klen kat kinds kvals → (0 ≤ r_0.toInt ∧ r_0.toInt ≤ 401) ∧ q_ch r_3) : (0 ≤ r_0.toInt ∧ r_0.toInt ≤ 401) ∧ q_ch r_3 := by
  rw [f_X9_split_106] at hres
  exact hk28 (by assumption) (by assumption) (by assumption) hres
theorem a_X9_split_95 {l2 : Int32} {s1 : Int32} {kcount : Int32} {klen : Int32} {kat : Int32} {kinds : Nat → Int32} {kvals : Nat → Int64} {tchars : Nat → Int32} {kL28 : Int32 → Int32 → Int32 → Int32 → (Nat → Int32) → (Nat → Int64) → Int32 × Int32 × Int32 × (Nat → Int32) × (Nat → Int64)} {r_0 : Int32} {r_1 : Int32} {r_2 : Int32} {r_3 : (Nat → Int32)} {r_4 : (Nat → Int64)} (hres : (r_0, r_1, r_2, r_3, r_4) = (f_X9_split_95 kcount klen kat kinds kvals tchars l2 kL28 s1)) (hk : 0 ≤ kat.toInt ∧ kat.toInt ≤ klen.toInt ∧ klen.toInt ≤ 400) (hc : 0 ≤ kcount.toInt ∧ kcount.toInt ≤ 401) (hch : q_ch kinds) (hlt : kat.toInt < klen.toInt) (hk28 : ∀ {l2 : Int32} {kcount : Int32} {klen : Int32} {kat : Int32} {kinds : Nat → Int32} {kvals : Nat → Int64}, (0 ≤ kat.toInt ∧ kat.toInt ≤ klen.toInt ∧ klen.toInt ≤ 400) → (0 ≤ kcount.toInt ∧ kcount.toInt ≤ 401) → (q_ch kinds) → (r_0, r_1, r_2, r_3, r_4) = kL28 l2 kcount klen kat kinds kvals → (0 ≤ r_0.toInt ∧ r_0.toInt ≤ 401) ∧ q_ch r_3) : (0 ≤ r_0.toInt ∧ r_0.toInt ≤ 401) ∧ q_ch r_3 := by
  rw [f_X9_split_95] at hres
  obtain ⟨z4_0, z4_1, z4_2, z4_3, hz4⟩ := g_ex4 (f_X9_takeNumber s1 kcount klen kat kinds kvals tchars)
  have hh := a_X9_takeNumber hz4 hk hc hch (fun _ => hlt)
  have hk := hh.1
  have hc := hh.2.1
  have hch := hh.2.2
  replace hres : (r_0, r_1, r_2, r_3, r_4) = f_X9_split_c95 klen l2 kL28 z4_0 z4_1 z4_2 z4_3 := hres.trans (by rw [← hz4])
  rw [f_X9_split_c95] at hres
  exact a_X9_split_106 hres (by assumption) (by assumption) (by assumption) hk28
theorem a_X9_split_83 {l2 : Int32} {l3 : Int32} {kcount : Int32} {klen : Int32} {kat : Int32} {kinds : Nat → Int32} {kvals : Nat → Int64} {tchars : Nat → Int32} {kL28 : Int32 → Int32 → Int32 → Int32 → (Nat → Int32) → (Nat → Int64) → Int32 × Int32 × Int32 × (Nat → Int32) × (Nat → Int64)} {r_0 : Int32} {r_1 : Int32} {r_2 : Int32} {r_3 : (Nat → Int32)} {r_4 : (Nat → Int64)} (hres : (r_0, r_1, r_2, r_3, r_4) = (f_X9_split_83 kcount klen kat kinds kvals tchars l2 kL28 l3)) (hk : 0 ≤ kat.toInt ∧ kat.toInt ≤ klen.toInt ∧ klen.toInt ≤ 400) (hc : 0 ≤ kcount.toInt ∧ kcount.toInt ≤ 401) (hch : q_ch kinds) (hlt : kat.toInt < klen.toInt) (hk28 : ∀ {l2 : Int32} {kcount : Int32} {klen : Int32} {kat : Int32} {kinds : Nat → Int32} {kvals : Nat → Int64}, (0 ≤ kat.toInt ∧ kat.toInt ≤ klen.toInt ∧ klen.toInt ≤ 400) → (0 ≤ kcount.toInt ∧ kcount.toInt ≤ 401) → (q_ch kinds) → (r_0, r_1, r_2, r_3, r_4) = kL28 l2 kcount klen kat kinds kvals → (0 ≤ r_0.toInt ∧ r_0.toInt ≤ 401) ∧ q_ch r_3) : (0 ≤ r_0.toInt ∧ r_0.toInt ≤ 401) ∧ q_ch r_3 := by
  rw [f_X9_split_83] at hres
  by_cases c87 : l3 = (45 : Int32)
  · rw [if_pos c87] at hres
    exact a_X9_split_95 hres (by assumption) (by assumption) (by assumption) (by assumption) hk28
  · rw [if_neg c87] at hres
    exact a_X9_split_95 hres (by assumption) (by assumption) (by assumption) (by assumption) hk28
theorem a_X9_split_28 : ∀ (n : Nat) {l2 : Int32} {kcount : Int32} {klen : Int32} {kat : Int32} {kinds : Nat → Int32} {kvals : Nat → Int64} {tchars : Nat → Int32} {r_0 : Int32} {r_1 : Int32} {r_2 : Int32} {r_3 : (Nat → Int32)} {r_4 : (Nat → Int64)}, (0 ≤ kat.toInt ∧ kat.toInt ≤ klen.toInt ∧ klen.toInt ≤ 400) → (0 ≤ kcount.toInt ∧ kcount.toInt ≤ 401) → (q_ch kinds) → (r_0, r_1, r_2, r_3, r_4) = f_X9_split_28 tchars n l2 kcount klen kat kinds kvals → (0 ≤ r_0.toInt ∧ r_0.toInt ≤ 401) ∧ q_ch r_3 := by
  intro n
  induction n with
  | zero =>
    intro l2 kcount klen kat kinds kvals tchars r_0 r_1 r_2 r_3 r_4 hk hc hch hres
    rw [f_X9_split_28] at hres
    cases hres
    exact ⟨hc, hch⟩
  | succ n ih =>
    intro l2 kcount klen kat kinds kvals tchars r_0 r_1 r_2 r_3 r_4 hk hc hch hres
    have hk28 : ∀ {l2 : Int32} {kcount : Int32} {klen : Int32} {kat : Int32} {kinds : Nat → Int32} {kvals : Nat → Int64}, (0 ≤ kat.toInt ∧ kat.toInt ≤ klen.toInt ∧ klen.toInt ≤ 400) → (0 ≤ kcount.toInt ∧ kcount.toInt ≤ 401) → (q_ch kinds) → (r_0, r_1, r_2, r_3, r_4) = (f_X9_split_28 tchars n) l2 kcount klen kat kinds kvals → (0 ≤ r_0.toInt ∧ r_0.toInt ≤ 401) ∧ q_ch r_3 := fun hk hc hch he => ih hk hc hch he
    rw [f_X9_split_28] at hres
    by_cases c32 : (400 : Int32) ≤ l2
    · rw [if_pos c32] at hres
      exact a_X9_split_112 hres (by assumption) (by assumption)
    · rw [if_neg c32] at hres
      by_cases c43 : klen ≤ kat
      · rw [if_pos c43] at hres
        exact a_X9_split_112 hres (by assumption) (by assumption)
      · rw [if_neg c43] at hres
        have hlt := q_nle c43
        obtain ⟨z2_0, hz2⟩ := g_ex1 (f_X9_isLetter (tchars (Int32.toNatClampNeg kat)))
        replace hres : (r_0, r_1, r_2, r_3, r_4) = f_X9_split_c57 kcount klen kat kinds kvals tchars l2 (f_X9_split_28 tchars n) z2_0 := hres.trans (by rw [← hz2])
        rw [f_X9_split_c57] at hres
        by_cases c60 : z2_0 = 0
        · rw [if_pos c60] at hres
          obtain ⟨z3_0, hz3⟩ := g_ex1 (f_X9_isDigit (tchars (Int32.toNatClampNeg kat)))
          replace hres : (r_0, r_1, r_2, r_3, r_4) = f_X9_split_c71 kcount klen kat kinds kvals tchars l2 (f_X9_split_28 tchars n) z3_0 := hres.trans (by rw [← hz3])
          rw [f_X9_split_c71] at hres
          by_cases c74 : z3_0 = 0
          · rw [if_pos c74] at hres
            by_cases c80 : (tchars (Int32.toNatClampNeg kat)) = (45 : Int32)
            · rw [if_pos c80] at hres
              exact a_X9_split_83 hres (by assumption) (by assumption) (by assumption) (by assumption) hk28
            · rw [if_neg c80] at hres
              obtain ⟨z5_0, z5_1, z5_2, z5_3, hz5⟩ := g_ex4 (f_X9_takeMark (tchars (Int32.toNatClampNeg kat)) kcount kat kinds kvals)
              have hh := a_X9_takeMark hz5 hk hc hch hlt
              have hk := hh.1
              have hc := hh.2.1
              have hch := hh.2.2
              replace hres : (r_0, r_1, r_2, r_3, r_4) = f_X9_split_c103 klen l2 (f_X9_split_28 tchars n) z5_0 z5_1 z5_2 z5_3 := hres.trans (by rw [← hz5])
              rw [f_X9_split_c103] at hres
              exact a_X9_split_106 hres (by assumption) (by assumption) (by assumption) hk28
          · rw [if_neg c74] at hres
            exact a_X9_split_83 hres (by assumption) (by assumption) (by assumption) (by assumption) hk28
        · rw [if_neg c60] at hres
          obtain ⟨z6_0, z6_1, z6_2, z6_3, hz6⟩ := g_ex4 (f_X9_takeLetters kcount klen kat kinds kvals tchars)
          have hh := a_X9_takeLetters hz6 hk hc hch
          have hk := hh.1
          have hc := hh.2.1
          have hch := hh.2.2
          replace hres : (r_0, r_1, r_2, r_3, r_4) = f_X9_split_c64 klen l2 (f_X9_split_28 tchars n) z6_0 z6_1 z6_2 z6_3 := hres.trans (by rw [← hz6])
          rw [f_X9_split_c64] at hres
          exact a_X9_split_106 hres (by assumption) (by assumption) (by assumption) hk28
theorem a_X9_split_8 {kinds : Nat → Int32} {kvals : Nat → Int64} {tchars : Nat → Int32} {tlen : Int32} {r_0 : Int32} {r_1 : Int32} {r_2 : Int32} {r_3 : (Nat → Int32)} {r_4 : (Nat → Int64)} (hres : (r_0, r_1, r_2, r_3, r_4) = (f_X9_split_8 kinds kvals tchars tlen)) (htl : 0 ≤ tlen.toInt ∧ tlen.toInt ≤ 400) (hch : q_ch kinds) : (0 ≤ r_0.toInt ∧ r_0.toInt ≤ 401) ∧ q_ch r_3 := by
  rw [f_X9_split_8] at hres
  exact a_X9_split_28 _ (by exact ⟨by decide, htl.1, htl.2⟩) (by decide) hch hres
theorem a_X9_split {kinds : Nat → Int32} {kvals : Nat → Int64} {tchars : Nat → Int32} {tlen : Int32} {r_0 : Int32} {r_1 : Int32} {r_2 : Int32} {r_3 : (Nat → Int32)} {r_4 : (Nat → Int64)} (hres : (r_0, r_1, r_2, r_3, r_4) = f_X9_split kinds kvals tchars tlen) (htl : 0 ≤ tlen.toInt ∧ tlen.toInt ≤ 400) (hch : q_ch kinds) : (0 ≤ r_0.toInt ∧ r_0.toInt ≤ 401) ∧ q_ch r_3 := by
  rw [f_X9_split] at hres
  exact a_X9_split_8 hres (by assumption) (by assumption)
theorem k_X9_split_0 {kcount : Int32} {klen : Int32} {kat : Int32} {kinds : Nat → Int32} {kvals : Nat → Int64} {tchars : Nat → Int32} {tlen : Int32} (htl : 0 ≤ tlen.toInt ∧ tlen.toInt ≤ 400) (hch : q_ch kinds) {r_0 : Int32} {r_1 : Int32} {r_2 : Int32} {r_3 : (Nat → Int32)} {r_4 : (Nat → Int64)} (hres : (r_0, r_1, r_2, r_3, r_4) = f_X9_split kinds kvals tchars tlen) : K M_X9_split yX9_split [.ref 0, .ref 4] (w_KT0 kcount klen kat kinds kvals tchars tlen) none (w_KT r_0 r_1 r_2 r_3 r_4 tchars tlen) := by
  refine K.of (lv := [(0, .ref 0), (1, .ref 4)]) (by decide +kernel) rfl rfl rfl ?_
  rw [f_X9_split] at hres
  refine G.aload_n (pc := 0) dm_X9_split_0 rfl ?_
  refine G.aload_n (pc := 1) dm_X9_split_1 rfl ?_
  refine G.getfield (pc := 2) dm_X9_split_2 gf_X9_19 rfl rfl ?_
  refine G.putfield (pc := 5) (ws1 := (w_KT kcount klen kat kinds kvals tchars tlen)) dm_X9_split_5 gw_X9_24 rfl (g_fit_a _ _) rfl rfl ?_
  exact j_X9_split_8 hres htl hch
