abbrev M_X0_readInstruction : g_M := (cX0_readInstruction, 4, RX0, none, { frames := 4, cells := 0, slots := 0, locals := 85 }, 0, 0)
theorem dm_X0_readInstruction_0 : decode M_X0_readInstruction.1 0 = .ok (.iload_n 1, 1) := by decide +kernel
theorem dm_X0_readInstruction_1 : decode M_X0_readInstruction.1 1 = .ok (.ifCond .ge 9, 3) := by decide +kernel
theorem dm_X0_readInstruction_4 : decode M_X0_readInstruction.1 4 = .ok (.aload_n 0, 1) := by decide +kernel
theorem dm_X0_readInstruction_5 : decode M_X0_readInstruction.1 5 = .ok (.iconst 1, 1) := by decide +kernel
theorem dm_X0_readInstruction_6 : decode M_X0_readInstruction.1 6 = .ok (.putfield 91, 3) := by decide +kernel
theorem dm_X0_readInstruction_9 : decode M_X0_readInstruction.1 9 = .ok (.return_, 1) := by decide +kernel
theorem dm_X0_readInstruction_10 : decode M_X0_readInstruction.1 10 = .ok (.aload_n 0, 1) := by decide +kernel
theorem dm_X0_readInstruction_11 : decode M_X0_readInstruction.1 11 = .ok (.dup, 1) := by decide +kernel
theorem dm_X0_readInstruction_12 : decode M_X0_readInstruction.1 12 = .ok (.getfield 41, 3) := by decide +kernel
theorem dm_X0_readInstruction_15 : decode M_X0_readInstruction.1 15 = .ok (.iconst 1, 1) := by decide +kernel
theorem dm_X0_readInstruction_16 : decode M_X0_readInstruction.1 16 = .ok (.iadd, 1) := by decide +kernel
theorem dm_X0_readInstruction_17 : decode M_X0_readInstruction.1 17 = .ok (.putfield 41, 3) := by decide +kernel
theorem dm_X0_readInstruction_20 : decode M_X0_readInstruction.1 20 = .ok (.aload_n 0, 1) := by decide +kernel
theorem dm_X0_readInstruction_21 : decode M_X0_readInstruction.1 21 = .ok (.iconst 1, 1) := by decide +kernel
theorem dm_X0_readInstruction_22 : decode M_X0_readInstruction.1 22 = .ok (.putfield 81, 3) := by decide +kernel
theorem dm_X0_readInstruction_25 : decode M_X0_readInstruction.1 25 = .ok (.aload_n 0, 1) := by decide +kernel
theorem dm_X0_readInstruction_26 : decode M_X0_readInstruction.1 26 = .ok (.getstatic 119, 3) := by decide +kernel
theorem dm_X0_readInstruction_29 : decode M_X0_readInstruction.1 29 = .ok (.iload_n 1, 1) := by decide +kernel
theorem dm_X0_readInstruction_30 : decode M_X0_readInstruction.1 30 = .ok (.aaload, 1) := by decide +kernel
theorem dm_X0_readInstruction_31 : decode M_X0_readInstruction.1 31 = .ok (.getfield 128, 3) := by decide +kernel
theorem dm_X0_readInstruction_34 : decode M_X0_readInstruction.1 34 = .ok (.putfield 85, 3) := by decide +kernel
theorem dm_X0_readInstruction_37 : decode M_X0_readInstruction.1 37 = .ok (.getstatic 119, 3) := by decide +kernel
theorem dm_X0_readInstruction_40 : decode M_X0_readInstruction.1 40 = .ok (.iload_n 1, 1) := by decide +kernel
theorem dm_X0_readInstruction_41 : decode M_X0_readInstruction.1 41 = .ok (.aaload, 1) := by decide +kernel
theorem dm_X0_readInstruction_42 : decode M_X0_readInstruction.1 42 = .ok (.getfield 131, 3) := by decide +kernel
theorem dm_X0_readInstruction_45 : decode M_X0_readInstruction.1 45 = .ok (.astore_n 2, 1) := by decide +kernel
theorem dm_X0_readInstruction_46 : decode M_X0_readInstruction.1 46 = .ok (.iconst 0, 1) := by decide +kernel
theorem dm_X0_readInstruction_47 : decode M_X0_readInstruction.1 47 = .ok (.istore_n 3, 1) := by decide +kernel
theorem dm_X0_readInstruction_48 : decode M_X0_readInstruction.1 48 = .ok (.iload_n 3, 1) := by decide +kernel
theorem dm_X0_readInstruction_49 : decode M_X0_readInstruction.1 49 = .ok (.aload_n 2, 1) := by decide +kernel
theorem dm_X0_readInstruction_50 : decode M_X0_readInstruction.1 50 = .ok (.invokevirtual 135, 3) := by decide +kernel
theorem dm_X0_readInstruction_53 : decode M_X0_readInstruction.1 53 = .ok (.if_icmp .ge 25, 3) := by decide +kernel
theorem dm_X0_readInstruction_56 : decode M_X0_readInstruction.1 56 = .ok (.aload_n 0, 1) := by decide +kernel
theorem dm_X0_readInstruction_57 : decode M_X0_readInstruction.1 57 = .ok (.getfield 91, 3) := by decide +kernel
theorem dm_X0_readInstruction_60 : decode M_X0_readInstruction.1 60 = .ok (.ifCond .ne 18, 3) := by decide +kernel
theorem dm_X0_readInstruction_63 : decode M_X0_readInstruction.1 63 = .ok (.aload_n 0, 1) := by decide +kernel
theorem dm_X0_readInstruction_64 : decode M_X0_readInstruction.1 64 = .ok (.aload_n 2, 1) := by decide +kernel
theorem dm_X0_readInstruction_65 : decode M_X0_readInstruction.1 65 = .ok (.iload_n 3, 1) := by decide +kernel
theorem dm_X0_readInstruction_66 : decode M_X0_readInstruction.1 66 = .ok (.invokevirtual 140, 3) := by decide +kernel
theorem dm_X0_readInstruction_69 : decode M_X0_readInstruction.1 69 = .ok (.invokevirtual 143, 3) := by decide +kernel
theorem dm_X0_readInstruction_72 : decode M_X0_readInstruction.1 72 = .ok (.iinc 3 1, 3) := by decide +kernel
theorem dm_X0_readInstruction_75 : decode M_X0_readInstruction.1 75 = .ok (.goto (-27), 3) := by decide +kernel
theorem dm_X0_readInstruction_78 : decode M_X0_readInstruction.1 78 = .ok (.return_, 1) := by decide +kernel
theorem gc_X0_readInstruction_135 : g_cv M_X0_readInstruction 135 M_J0_length_8abf5 yJ0_length_8abf5 0 := ⟨tw282, tw283, tw284, tw285, tw286, ⟨rfl, rfl, rfl, rfl⟩, gd_J0_length_8abf5, ⟨by decide, by decide⟩⟩
theorem gc_X0_readInstruction_140 : g_cv M_X0_readInstruction 140 M_J0_charAt_5068e yJ0_charAt_5068e 1 := ⟨tw294, tw295, tw296, tw285, tw297, ⟨rfl, rfl, rfl, rfl⟩, gd_J0_charAt_5068e, ⟨by decide, by decide⟩⟩
theorem gc_X0_readInstruction_143 : g_cv M_X0_readInstruction 143 M_X0_readPiece yX0_readPiece 1 := ⟨tw331, tw332, tw333, tw39, tw334, ⟨rfl, rfl, rfl, rfl⟩, gd_X0_readPiece, ⟨by decide, by decide⟩⟩
def f_X0_readInstruction_c69 (ahas : Int32) (l2 : Nat) (l3 : Int32) (kL48 : Nat → Int32 → Int32 → Int32 → Int32 → Int64 → Int32 → Int32 → Int32 × Int32 × Int32 × Int64 × Int32 × Int32) (z3_0 : Int32) (z3_1 : Int32) (z3_2 : Int64) (z3_3 : Int32) (z3_4 : Int32) : Int32 × Int32 × Int32 × Int64 × Int32 × Int32 := (kL48 l2 (l3 + (1 : Int32)) z3_0 ahas z3_1 z3_2 z3_3 z3_4)
def f_X0_readInstruction_c66 (aat : Int32) (ahas : Int32) (aword : Int32) (atarget : Int64) (amal : Int32) (amis : Int32) (kcount : Int32) (kinds : Nat → Int32) (kvals : Nat → Int64) (l2 : Nat) (l3 : Int32) (kL48 : Nat → Int32 → Int32 → Int32 → Int32 → Int64 → Int32 → Int32 → Int32 × Int32 × Int32 × Int64 × Int32 × Int32) (z2_0 : Int32) : Int32 × Int32 × Int32 × Int64 × Int32 × Int32 := (f_X0_readInstruction_c69 ahas l2 l3 kL48 (f_X0_readPiece z2_0 aat aword atarget amal amis kcount kinds kvals).1 (f_X0_readPiece z2_0 aat aword atarget amal amis kcount kinds kvals).2.1 (f_X0_readPiece z2_0 aat aword atarget amal amis kcount kinds kvals).2.2.1 (f_X0_readPiece z2_0 aat aword atarget amal amis kcount kinds kvals).2.2.2.1 (f_X0_readPiece z2_0 aat aword atarget amal amis kcount kinds kvals).2.2.2.2)
def f_X0_readInstruction_c50 (aat : Int32) (ahas : Int32) (aword : Int32) (atarget : Int64) (amal : Int32) (amis : Int32) (kcount : Int32) (kinds : Nat → Int32) (kvals : Nat → Int64) (l2 : Nat) (l3 : Int32) (kL48 : Nat → Int32 → Int32 → Int32 → Int32 → Int64 → Int32 → Int32 → Int32 × Int32 × Int32 × Int64 × Int32 × Int32) (z1_0 : Int32) : Int32 × Int32 × Int32 × Int64 × Int32 × Int32 := (if z1_0 ≤ l3 then (aat, ahas, aword, atarget, amal, amis) else (if amal = 0 then (f_X0_readInstruction_c66 aat ahas aword atarget amal amis kcount kinds kvals l2 l3 kL48 (f_J0_charAt_5068e l2 l3)) else (aat, ahas, aword, atarget, amal, amis)))
def f_X0_readInstruction_48 (kcount : Int32) (kinds : Nat → Int32) (kvals : Nat → Int64) : Nat → Nat → Int32 → Int32 → Int32 → Int32 → Int64 → Int32 → Int32 → Int32 × Int32 × Int32 × Int64 × Int32 × Int32
  | 0, l2, l3, aat, ahas, aword, atarget, amal, amis => (aat, ahas, aword, atarget, amal, amis)
  | n + 1, l2, l3, aat, ahas, aword, atarget, amal, amis => (f_X0_readInstruction_c50 aat ahas aword atarget amal amis kcount kinds kvals l2 l3 (f_X0_readInstruction_48 kcount kinds kvals n) (f_J0_length_8abf5 l2))
set_option maxRecDepth 20000 in
theorem j_X0_readInstruction_48 : ∀ (n : Nat) {l2 : Nat} {l3 : Int32} {acount : Int32} {afk : Int32} {afl : Int32} {aat : Int32} {alabel : Int64} {ahas : Int32} {aword : Int32} {atarget : Int64} {amal : Int32} {amis : Int32} {awords : Nat → Int32} {atargets : Nat → Int64} {alines : Nat → Int32} {lcount : Int32} {lkeys : Nat → Int64} {lplaces : Nat → Int32} {kcount : Int32} {klen : Int32} {kat : Int32} {kinds : Nat → Int32} {kvals : Nat → Int64} {tchars : Nat → Int32} {r_0 : Int32} {r_1 : Int32} {r_2 : Int32} {r_3 : Int64} {r_4 : Int32} {r_5 : Int32}, (hc : 0 ≤ kcount.toInt ∧ kcount.toInt ≤ 401) → (hch : q_ch kinds) → (h2 : 1200 ≤ l2 ∧ l2 < 1212) → (h3 : 0 ≤ l3.toInt) → (7 - l3.toInt.toNat) < n → (r_0, r_1, r_2, r_3, r_4, r_5) = f_X0_readInstruction_48 kcount kinds kvals n l2 l3 aat ahas aword atarget amal amis → G M_X0_readInstruction 0 0 48 [(0, .ref 0), (2, .ref l2), (3, .int l3)] [] (w_A acount afk afl aat alabel ahas aword atarget amal amis awords atargets alines lcount lkeys lplaces kcount klen kat kinds kvals tchars) (none) (w_A acount afk afl r_0 alabel r_1 r_2 r_3 r_4 r_5 awords atargets alines lcount lkeys lplaces kcount klen kat kinds kvals tchars) := by
  intro n
  induction n with
  | zero =>
    intro l2 l3 acount afk afl aat alabel ahas aword atarget amal amis awords atargets alines lcount lkeys lplaces kcount klen kat kinds kvals tchars r_0 r_1 r_2 r_3 r_4 r_5 hc hch h2 h3 hm hres
    exact absurd hm (Nat.not_lt_zero _)
  | succ n ih =>
    intro l2 l3 acount afk afl aat alabel ahas aword atarget amal amis awords atargets alines lcount lkeys lplaces kcount klen kat kinds kvals tchars r_0 r_1 r_2 r_3 r_4 r_5 hc hch h2 h3 hm hres
    obtain ⟨mu, hmu⟩ : ∃ z, (7 - l3.toInt.toNat) = z := ⟨_, rfl⟩
    rw [hmu] at hm
    have hk48 : ∀ {l2 : Nat} {l3 : Int32} {aat : Int32} {ahas : Int32} {aword : Int32} {atarget : Int64} {amal : Int32} {amis : Int32}, (0 ≤ kcount.toInt ∧ kcount.toInt ≤ 401) → (q_ch kinds) → (1200 ≤ l2 ∧ l2 < 1212) → (0 ≤ l3.toInt) → (7 - l3.toInt.toNat) < mu → (r_0, r_1, r_2, r_3, r_4, r_5) = (f_X0_readInstruction_48 kcount kinds kvals n) l2 l3 aat ahas aword atarget amal amis → G M_X0_readInstruction 0 0 48 [(0, .ref 0), (2, .ref l2), (3, .int l3)] [] (w_A acount afk afl aat alabel ahas aword atarget amal amis awords atargets alines lcount lkeys lplaces kcount klen kat kinds kvals tchars) (none) (w_A acount afk afl r_0 alabel r_1 r_2 r_3 r_4 r_5 awords atargets alines lcount lkeys lplaces kcount klen kat kinds kvals tchars) := fun hc hch h2 h3 hlt he => ih hc hch h2 h3 (Nat.lt_of_lt_of_le hlt (Nat.le_of_lt_succ hm)) he
    rw [f_X0_readInstruction_48] at hres
    refine G.iload_n (pc := 48) dm_X0_readInstruction_48 rfl ?_
    refine G.aload_n (pc := 49) dm_X0_readInstruction_49 rfl ?_
    obtain ⟨z1_0, hz1⟩ := g_ex1 (f_J0_length_8abf5 l2)
    refine G.callVC (pc := 50) (rest := [.int l3]) (st1 := [.int z1_0, .int l3]) dm_X0_readInstruction_50 gc_X0_readInstruction_135 (k_J0_length_8abf5 (s := l2) h2 hz1) (g_Oof h2) rfl rfl rfl rfl rfl ?_
    have hz := hz1
    replace hres : (r_0, r_1, r_2, r_3, r_4, r_5) = f_X0_readInstruction_c50 aat ahas aword atarget amal amis kcount kinds kvals l2 l3 (f_X0_readInstruction_48 kcount kinds kvals n) z1_0 := hres.trans (by rw [← hz1])
    rw [f_X0_readInstruction_c50] at hres
    refine G.icmp_ge (pc := 53) (tgt := 78) dm_X0_readInstruction_53 (by decide) (fun c53 => ?_) (fun c53 => ?_)
    · rw [if_pos c53] at hres
      cases hres
      exact G.vreturn (pc := 78) dm_X0_readInstruction_78 rfl rfl rfl
    · rw [if_neg c53] at hres
      refine G.aload_n (pc := 56) dm_X0_readInstruction_56 rfl ?_
      refine G.getfield (pc := 57) dm_X0_readInstruction_57 gf_X0_91 rfl rfl ?_
      refine G.if_ne (pc := 60) (tgt := 78) dm_X0_readInstruction_60 (by decide) (fun c60 => ?_) (fun c60 => ?_)
      · rw [if_neg c60] at hres
        cases hres
        exact G.vreturn (pc := 78) dm_X0_readInstruction_78 rfl rfl rfl
      · rw [if_pos c60] at hres
        refine G.aload_n (pc := 63) dm_X0_readInstruction_63 rfl ?_
        refine G.aload_n (pc := 64) dm_X0_readInstruction_64 rfl ?_
        refine G.iload_n (pc := 65) dm_X0_readInstruction_65 rfl ?_
        obtain ⟨z2_0, hz2⟩ := g_ex1 (f_J0_charAt_5068e l2 l3)
        refine G.callVC (pc := 66) (rest := [.ref 0]) (st1 := [.int z2_0, .ref 0]) dm_X0_readInstruction_66 gc_X0_readInstruction_140 (k_J0_charAt_5068e (s := l2) (i := l3) h2 (q_si h2 h3 hz c53) hz2) (g_Oof h2) rfl rfl rfl rfl rfl ?_
        replace hres : (r_0, r_1, r_2, r_3, r_4, r_5) = f_X0_readInstruction_c66 aat ahas aword atarget amal amis kcount kinds kvals l2 l3 (f_X0_readInstruction_48 kcount kinds kvals n) z2_0 := hres.trans (by rw [← hz2])
        rw [f_X0_readInstruction_c66] at hres
        obtain ⟨z3_0, z3_1, z3_2, z3_3, z3_4, hz3⟩ := g_ex5 (f_X0_readPiece z2_0 aat aword atarget amal amis kcount kinds kvals)
        refine G.callV0 (pc := 69) (rest := []) (st1 := []) dm_X0_readInstruction_69 gc_X0_readInstruction_143 (k_X0_readPiece (piece := z2_0) (acount := acount) (afk := afk) (afl := afl) (aat := aat) (alabel := alabel) (ahas := ahas) (aword := aword) (atarget := atarget) (amal := amal) (amis := amis) (awords := awords) (atargets := atargets) (alines := alines) (lcount := lcount) (lkeys := lkeys) (lplaces := lplaces) (kcount := kcount) (klen := klen) (kat := kat) (kinds := kinds) (kvals := kvals) (tchars := tchars) hc hch hz3) rfl rfl rfl rfl rfl rfl rfl rfl ?_
        replace hres : (r_0, r_1, r_2, r_3, r_4, r_5) = f_X0_readInstruction_c69 ahas l2 l3 (f_X0_readInstruction_48 kcount kinds kvals n) z3_0 z3_1 z3_2 z3_3 z3_4 := hres.trans (by rw [← hz3])
        rw [f_X0_readInstruction_c69] at hres
        refine G.iinc (pc := 72) (v := (l3 + (1 : Int32))) (lv1 := [(3, .int (l3 + (1 : Int32))), (0, .ref 0), (2, .ref l2)]) dm_X0_readInstruction_72 rfl rfl rfl rfl ?_
        refine G.goto (pc := 75) (tgt := 48) dm_X0_readInstruction_75 (by decide) ?_
        refine G.lvp [1, 2, 0] rfl ?_
        exact hk48 hc hch h2 (by have := q_sl h2 hz c53; rw [q_inc (by omega)]; omega) (by have := q_sl h2 hz c53; rw [q_inc (by omega)]; omega) hres
def f_X0_readInstruction (mnemonic : Int32) (aat : Int32) (ahas : Int32) (aword : Int32) (atarget : Int64) (amal : Int32) (amis : Int32) (kcount : Int32) (kinds : Nat → Int32) (kvals : Nat → Int64) : Int32 × Int32 × Int32 × Int64 × Int32 × Int32 := (if 0 ≤ mnemonic then (f_X0_readInstruction_48 kcount kinds kvals (8) (1200 + m_str.getD (Int32.toNatClampNeg mnemonic) 0) (0 : Int32) (aat + (1 : Int32)) (1 : Int32) (m_bits.getD (Int32.toNatClampNeg mnemonic) 0) atarget amal amis) else (aat, ahas, aword, atarget, (1 : Int32), amis))
set_option maxRecDepth 20000 in
theorem k_X0_readInstruction {mnemonic : Int32} {acount : Int32} {afk : Int32} {afl : Int32} {aat : Int32} {alabel : Int64} {ahas : Int32} {aword : Int32} {atarget : Int64} {amal : Int32} {amis : Int32} {awords : Nat → Int32} {atargets : Nat → Int64} {alines : Nat → Int32} {lcount : Int32} {lkeys : Nat → Int64} {lplaces : Nat → Int32} {kcount : Int32} {klen : Int32} {kat : Int32} {kinds : Nat → Int32} {kvals : Nat → Int64} {tchars : Nat → Int32} (hc : 0 ≤ kcount.toInt ∧ kcount.toInt ≤ 401) (hch : q_ch kinds) (hmn : mnemonic.toInt < 37) {r_0 : Int32} {r_1 : Int32} {r_2 : Int32} {r_3 : Int64} {r_4 : Int32} {r_5 : Int32} (hres : (r_0, r_1, r_2, r_3, r_4, r_5) = f_X0_readInstruction mnemonic aat ahas aword atarget amal amis kcount kinds kvals) : K M_X0_readInstruction yX0_readInstruction [.ref 0, .int mnemonic] (w_A acount afk afl aat alabel ahas aword atarget amal amis awords atargets alines lcount lkeys lplaces kcount klen kat kinds kvals tchars) (none) (w_A acount afk afl r_0 alabel r_1 r_2 r_3 r_4 r_5 awords atargets alines lcount lkeys lplaces kcount klen kat kinds kvals tchars) := by
  refine K.of (lv := [(0, .ref 0), (1, .int mnemonic)]) (by decide +kernel) rfl rfl rfl ?_
  rw [f_X0_readInstruction] at hres
  refine G.iload_n (pc := 0) dm_X0_readInstruction_0 rfl ?_
  refine G.if_ge (pc := 1) (tgt := 10) dm_X0_readInstruction_1 (by decide) (fun c1 => ?_) (fun c1 => ?_)
  · rw [if_pos c1] at hres
    have hm0 : 0 ≤ mnemonic.toInt := q_le c1
    have h37 := q_cln hm0 hmn
    refine G.aload_n (pc := 10) dm_X0_readInstruction_10 rfl ?_
    refine G.dup (pc := 11) dm_X0_readInstruction_11 rfl ?_
    refine G.getfield (pc := 12) dm_X0_readInstruction_12 gf_X0_41 rfl rfl ?_
    refine G.iconst (pc := 15) (v := (1 : Int32)) dm_X0_readInstruction_15 qi_1 ?_
    refine G.iadd (pc := 16) dm_X0_readInstruction_16 ?_
    refine G.putfield (pc := 17) (ws1 := (w_A acount afk afl (aat + (1 : Int32)) alabel ahas aword atarget amal amis awords atargets alines lcount lkeys lplaces kcount klen kat kinds kvals tchars)) dm_X0_readInstruction_17 gw_X0_41 rfl (g_fit_i _) rfl rfl ?_
    refine G.aload_n (pc := 20) dm_X0_readInstruction_20 rfl ?_
    refine G.iconst (pc := 21) (v := (1 : Int32)) dm_X0_readInstruction_21 qi_1 ?_
    refine G.putfield (pc := 22) (ws1 := (w_A acount afk afl (aat + (1 : Int32)) alabel (1 : Int32) aword atarget amal amis awords atargets alines lcount lkeys lplaces kcount klen kat kinds kvals tchars)) dm_X0_readInstruction_22 gw_X0_81 rfl (g_fit_z (Or.inr rfl)) rfl rfl ?_
    refine G.aload_n (pc := 25) dm_X0_readInstruction_25 rfl ?_
    refine G.getstaticN (pc := 26) rfl dm_X0_readInstruction_26 ?_
    refine G.iload_n (pc := 29) dm_X0_readInstruction_29 rfl ?_
    refine G.aaloadC (pc := 30) dm_X0_readInstruction_30 (Or.inl rfl) (q_in hm0 hmn) rfl ?_
    refine G.getfieldC (pc := 31) dm_X0_readInstruction_31 (Or.inl ⟨Int32.toNatClampNeg mnemonic, h37, Or.inr (Or.inl rfl)⟩) tw280 ?_
    refine G.putfield (pc := 34) (ws1 := (w_A acount afk afl (aat + (1 : Int32)) alabel (1 : Int32) (m_bits.getD (Int32.toNatClampNeg mnemonic) 0) atarget amal amis awords atargets alines lcount lkeys lplaces kcount klen kat kinds kvals tchars)) dm_X0_readInstruction_34 gw_X0_85 rfl (g_fit_i _) rfl rfl ?_
    refine G.getstaticN (pc := 37) rfl dm_X0_readInstruction_37 ?_
    refine G.iload_n (pc := 40) dm_X0_readInstruction_40 rfl ?_
    refine G.aaloadC (pc := 41) dm_X0_readInstruction_41 (Or.inl rfl) (q_in hm0 hmn) rfl ?_
    refine G.getfieldC (pc := 42) dm_X0_readInstruction_42 (Or.inl ⟨Int32.toNatClampNeg mnemonic, h37, Or.inr (Or.inr rfl)⟩) tw281 ?_
    refine G.astore_n (pc := 45) (lv1 := [(2, .ref (1200 + m_str.getD (Int32.toNatClampNeg mnemonic) 0)), (0, .ref 0), (1, .int mnemonic)]) dm_X0_readInstruction_45 rfl rfl ?_
    refine G.iconst (pc := 46) (v := (0 : Int32)) dm_X0_readInstruction_46 qi_0 ?_
    refine G.istore_n (pc := 47) (lv1 := [(3, .int (0 : Int32)), (2, .ref (1200 + m_str.getD (Int32.toNatClampNeg mnemonic) 0)), (0, .ref 0), (1, .int mnemonic)]) dm_X0_readInstruction_47 rfl rfl ?_
    refine G.lvp [2, 1, 0] rfl ?_
    exact j_X0_readInstruction_48 _ hc hch (q_ms h37) (by decide) (by decide) hres
  · rw [if_neg c1] at hres
    refine G.aload_n (pc := 4) dm_X0_readInstruction_4 rfl ?_
    refine G.iconst (pc := 5) (v := (1 : Int32)) dm_X0_readInstruction_5 qi_1 ?_
    refine G.putfield (pc := 6) (ws1 := (w_A acount afk afl aat alabel ahas aword atarget (1 : Int32) amis awords atargets alines lcount lkeys lplaces kcount klen kat kinds kvals tchars)) dm_X0_readInstruction_6 gw_X0_91 rfl (g_fit_z (Or.inr rfl)) rfl rfl ?_
    cases hres
    exact G.vreturn (pc := 9) dm_X0_readInstruction_9 rfl rfl rfl
abbrev M_X0_readLine : g_M := (cX0_readLine, 1, RX0, none, { frames := 5, cells := 0, slots := 0, locals := 108 }, 0, 0)
theorem dm_X0_readLine_0 : decode M_X0_readLine.1 0 = .ok (.aload_n 0, 1) := by decide +kernel
theorem dm_X0_readLine_1 : decode M_X0_readLine.1 1 = .ok (.lconst 0, 1) := by decide +kernel
theorem dm_X0_readLine_2 : decode M_X0_readLine.1 2 = .ok (.putfield 77, 3) := by decide +kernel
theorem dm_X0_readLine_5 : decode M_X0_readLine.1 5 = .ok (.aload_n 0, 1) := by decide +kernel
theorem dm_X0_readLine_6 : decode M_X0_readLine.1 6 = .ok (.iconst 0, 1) := by decide +kernel
theorem dm_X0_readLine_7 : decode M_X0_readLine.1 7 = .ok (.putfield 81, 3) := by decide +kernel
theorem dm_X0_readLine_10 : decode M_X0_readLine.1 10 = .ok (.aload_n 0, 1) := by decide +kernel
theorem dm_X0_readLine_11 : decode M_X0_readLine.1 11 = .ok (.iconst 0, 1) := by decide +kernel
theorem dm_X0_readLine_12 : decode M_X0_readLine.1 12 = .ok (.putfield 85, 3) := by decide +kernel
theorem dm_X0_readLine_15 : decode M_X0_readLine.1 15 = .ok (.aload_n 0, 1) := by decide +kernel
theorem dm_X0_readLine_16 : decode M_X0_readLine.1 16 = .ok (.lconst 0, 1) := by decide +kernel
theorem dm_X0_readLine_17 : decode M_X0_readLine.1 17 = .ok (.putfield 88, 3) := by decide +kernel
theorem dm_X0_readLine_20 : decode M_X0_readLine.1 20 = .ok (.aload_n 0, 1) := by decide +kernel
theorem dm_X0_readLine_21 : decode M_X0_readLine.1 21 = .ok (.iconst 0, 1) := by decide +kernel
theorem dm_X0_readLine_22 : decode M_X0_readLine.1 22 = .ok (.putfield 91, 3) := by decide +kernel
theorem dm_X0_readLine_25 : decode M_X0_readLine.1 25 = .ok (.aload_n 0, 1) := by decide +kernel
theorem dm_X0_readLine_26 : decode M_X0_readLine.1 26 = .ok (.iconst 0, 1) := by decide +kernel
theorem dm_X0_readLine_27 : decode M_X0_readLine.1 27 = .ok (.putfield 94, 3) := by decide +kernel
theorem dm_X0_readLine_30 : decode M_X0_readLine.1 30 = .ok (.aload_n 0, 1) := by decide +kernel
theorem dm_X0_readLine_31 : decode M_X0_readLine.1 31 = .ok (.getfield 34, 3) := by decide +kernel
theorem dm_X0_readLine_34 : decode M_X0_readLine.1 34 = .ok (.aload_n 0, 1) := by decide +kernel
theorem dm_X0_readLine_35 : decode M_X0_readLine.1 35 = .ok (.getfield 41, 3) := by decide +kernel
theorem dm_X0_readLine_38 : decode M_X0_readLine.1 38 = .ok (.invokevirtual 97, 3) := by decide +kernel
theorem dm_X0_readLine_41 : decode M_X0_readLine.1 41 = .ok (.bipush 97, 2) := by decide +kernel
theorem dm_X0_readLine_43 : decode M_X0_readLine.1 43 = .ok (.if_icmp .ne 46, 3) := by decide +kernel
theorem dm_X0_readLine_46 : decode M_X0_readLine.1 46 = .ok (.aload_n 0, 1) := by decide +kernel
theorem dm_X0_readLine_47 : decode M_X0_readLine.1 47 = .ok (.getfield 34, 3) := by decide +kernel
theorem dm_X0_readLine_50 : decode M_X0_readLine.1 50 = .ok (.aload_n 0, 1) := by decide +kernel
theorem dm_X0_readLine_51 : decode M_X0_readLine.1 51 = .ok (.getfield 41, 3) := by decide +kernel
theorem dm_X0_readLine_54 : decode M_X0_readLine.1 54 = .ok (.iconst 1, 1) := by decide +kernel
theorem dm_X0_readLine_55 : decode M_X0_readLine.1 55 = .ok (.iadd, 1) := by decide +kernel
theorem dm_X0_readLine_56 : decode M_X0_readLine.1 56 = .ok (.invokevirtual 97, 3) := by decide +kernel
theorem dm_X0_readLine_59 : decode M_X0_readLine.1 59 = .ok (.bipush 58, 2) := by decide +kernel
theorem dm_X0_readLine_61 : decode M_X0_readLine.1 61 = .ok (.if_icmp .ne 28, 3) := by decide +kernel
theorem dm_X0_readLine_64 : decode M_X0_readLine.1 64 = .ok (.aload_n 0, 1) := by decide +kernel
theorem dm_X0_readLine_65 : decode M_X0_readLine.1 65 = .ok (.aload_n 0, 1) := by decide +kernel
theorem dm_X0_readLine_66 : decode M_X0_readLine.1 66 = .ok (.getfield 34, 3) := by decide +kernel
theorem dm_X0_readLine_69 : decode M_X0_readLine.1 69 = .ok (.aload_n 0, 1) := by decide +kernel
theorem dm_X0_readLine_70 : decode M_X0_readLine.1 70 = .ok (.getfield 41, 3) := by decide +kernel
theorem dm_X0_readLine_73 : decode M_X0_readLine.1 73 = .ok (.invokevirtual 101, 3) := by decide +kernel
theorem dm_X0_readLine_76 : decode M_X0_readLine.1 76 = .ok (.putfield 77, 3) := by decide +kernel
theorem dm_X0_readLine_79 : decode M_X0_readLine.1 79 = .ok (.aload_n 0, 1) := by decide +kernel
theorem dm_X0_readLine_80 : decode M_X0_readLine.1 80 = .ok (.dup, 1) := by decide +kernel
theorem dm_X0_readLine_81 : decode M_X0_readLine.1 81 = .ok (.getfield 41, 3) := by decide +kernel
theorem dm_X0_readLine_84 : decode M_X0_readLine.1 84 = .ok (.iconst 2, 1) := by decide +kernel
theorem dm_X0_readLine_85 : decode M_X0_readLine.1 85 = .ok (.iadd, 1) := by decide +kernel
theorem dm_X0_readLine_86 : decode M_X0_readLine.1 86 = .ok (.putfield 41, 3) := by decide +kernel
theorem dm_X0_readLine_89 : decode M_X0_readLine.1 89 = .ok (.aload_n 0, 1) := by decide +kernel
theorem dm_X0_readLine_90 : decode M_X0_readLine.1 90 = .ok (.getfield 34, 3) := by decide +kernel
theorem dm_X0_readLine_93 : decode M_X0_readLine.1 93 = .ok (.aload_n 0, 1) := by decide +kernel
theorem dm_X0_readLine_94 : decode M_X0_readLine.1 94 = .ok (.getfield 41, 3) := by decide +kernel
theorem dm_X0_readLine_97 : decode M_X0_readLine.1 97 = .ok (.invokevirtual 97, 3) := by decide +kernel
theorem dm_X0_readLine_100 : decode M_X0_readLine.1 100 = .ok (.bipush 97, 2) := by decide +kernel
theorem dm_X0_readLine_102 : decode M_X0_readLine.1 102 = .ok (.if_icmp .ne 21, 3) := by decide +kernel
theorem dm_X0_readLine_105 : decode M_X0_readLine.1 105 = .ok (.aload_n 0, 1) := by decide +kernel
theorem dm_X0_readLine_106 : decode M_X0_readLine.1 106 = .ok (.aload_n 0, 1) := by decide +kernel
theorem dm_X0_readLine_107 : decode M_X0_readLine.1 107 = .ok (.getfield 34, 3) := by decide +kernel
theorem dm_X0_readLine_110 : decode M_X0_readLine.1 110 = .ok (.aload_n 0, 1) := by decide +kernel
theorem dm_X0_readLine_111 : decode M_X0_readLine.1 111 = .ok (.getfield 41, 3) := by decide +kernel
theorem dm_X0_readLine_114 : decode M_X0_readLine.1 114 = .ok (.invokevirtual 101, 3) := by decide +kernel
theorem dm_X0_readLine_117 : decode M_X0_readLine.1 117 = .ok (.invokestatic 105, 3) := by decide +kernel
theorem dm_X0_readLine_120 : decode M_X0_readLine.1 120 = .ok (.invokevirtual 109, 3) := by decide +kernel
theorem dm_X0_readLine_123 : decode M_X0_readLine.1 123 = .ok (.aload_n 0, 1) := by decide +kernel
theorem dm_X0_readLine_124 : decode M_X0_readLine.1 124 = .ok (.getfield 34, 3) := by decide +kernel
theorem dm_X0_readLine_127 : decode M_X0_readLine.1 127 = .ok (.aload_n 0, 1) := by decide +kernel
theorem dm_X0_readLine_128 : decode M_X0_readLine.1 128 = .ok (.getfield 41, 3) := by decide +kernel
theorem dm_X0_readLine_131 : decode M_X0_readLine.1 131 = .ok (.invokevirtual 97, 3) := by decide +kernel
theorem dm_X0_readLine_134 : decode M_X0_readLine.1 134 = .ok (.bipush 10, 2) := by decide +kernel
theorem dm_X0_readLine_136 : decode M_X0_readLine.1 136 = .ok (.if_icmp .eq 8, 3) := by decide +kernel
theorem dm_X0_readLine_139 : decode M_X0_readLine.1 139 = .ok (.aload_n 0, 1) := by decide +kernel
theorem dm_X0_readLine_140 : decode M_X0_readLine.1 140 = .ok (.iconst 1, 1) := by decide +kernel
theorem dm_X0_readLine_141 : decode M_X0_readLine.1 141 = .ok (.putfield 91, 3) := by decide +kernel
theorem dm_X0_readLine_144 : decode M_X0_readLine.1 144 = .ok (.aload_n 0, 1) := by decide +kernel
theorem dm_X0_readLine_145 : decode M_X0_readLine.1 145 = .ok (.dup, 1) := by decide +kernel
theorem dm_X0_readLine_146 : decode M_X0_readLine.1 146 = .ok (.getfield 41, 3) := by decide +kernel
theorem dm_X0_readLine_149 : decode M_X0_readLine.1 149 = .ok (.iconst 1, 1) := by decide +kernel
theorem dm_X0_readLine_150 : decode M_X0_readLine.1 150 = .ok (.iadd, 1) := by decide +kernel
theorem dm_X0_readLine_151 : decode M_X0_readLine.1 151 = .ok (.putfield 41, 3) := by decide +kernel
theorem dm_X0_readLine_154 : decode M_X0_readLine.1 154 = .ok (.return_, 1) := by decide +kernel
theorem gc_X0_readLine_97 : g_cv M_X0_readLine 97 M_X9_kindAt yX9_kindAt 1 := ⟨tw264, tw265, tw266, tw85, tw267, ⟨rfl, rfl, rfl, rfl⟩, gd_X9_kindAt, ⟨by decide, by decide⟩⟩
theorem gc_X0_readLine_101 : g_cv M_X0_readLine 101 M_X9_valueAt yX9_valueAt 1 := ⟨tw268, tw269, tw270, tw85, tw271, ⟨rfl, rfl, rfl, rfl⟩, gd_X9_valueAt, ⟨by decide, by decide⟩⟩
theorem gc_X0_readLine_105 : g_cs M_X0_readLine 105 M_X0_mnemonicOf yX0_mnemonicOf 1 := ⟨tw272, tw273, tw39, tw274, ⟨rfl, rfl, rfl, rfl⟩, gd_X0_mnemonicOf, ⟨by decide, by decide⟩⟩
theorem gc_X0_readLine_109 : g_cv M_X0_readLine 109 M_X0_readInstruction yX0_readInstruction 1 := ⟨tw276, tw277, tw278, tw39, tw279, ⟨rfl, rfl, rfl, rfl⟩, gd_X0_readInstruction, ⟨by decide, by decide⟩⟩
def f_X0_readLine_c131 (aat : Int32) (alabel : Int64) (ahas : Int32) (aword : Int32) (atarget : Int64) (amal : Int32) (amis : Int32) (z3_0 : Int32) : Int32 × Int64 × Int32 × Int32 × Int64 × Int32 × Int32 := (if z3_0 = (10 : Int32) then ((aat + (1 : Int32)), alabel, ahas, aword, atarget, amal, amis) else ((aat + (1 : Int32)), alabel, ahas, aword, atarget, (1 : Int32), amis))
def f_X0_readLine_123 (aat : Int32) (alabel : Int64) (ahas : Int32) (aword : Int32) (atarget : Int64) (amal : Int32) (amis : Int32) (kcount : Int32) (kinds : Nat → Int32) : Int32 × Int64 × Int32 × Int32 × Int64 × Int32 × Int32 := (f_X0_readLine_c131 aat alabel ahas aword atarget amal amis (f_X9_kindAt aat kcount kinds))
set_option maxRecDepth 20000 in
theorem j_X0_readLine_123 {acount : Int32} {afk : Int32} {afl : Int32} {aat : Int32} {alabel : Int64} {ahas : Int32} {aword : Int32} {atarget : Int64} {amal : Int32} {amis : Int32} {awords : Nat → Int32} {atargets : Nat → Int64} {alines : Nat → Int32} {lcount : Int32} {lkeys : Nat → Int64} {lplaces : Nat → Int32} {kcount : Int32} {klen : Int32} {kat : Int32} {kinds : Nat → Int32} {kvals : Nat → Int64} {tchars : Nat → Int32} {r_0 : Int32} {r_1 : Int64} {r_2 : Int32} {r_3 : Int32} {r_4 : Int64} {r_5 : Int32} {r_6 : Int32} (hres : (r_0, r_1, r_2, r_3, r_4, r_5, r_6) = (f_X0_readLine_123 aat alabel ahas aword atarget amal amis kcount kinds)) (hc : 0 ≤ kcount.toInt ∧ kcount.toInt ≤ 401) (hch : q_ch kinds) : G M_X0_readLine 0 0 123 [(0, .ref 0)] [] (w_A acount afk afl aat alabel ahas aword atarget amal amis awords atargets alines lcount lkeys lplaces kcount klen kat kinds kvals tchars) (none) (w_A acount afk afl r_0 r_1 r_2 r_3 r_4 r_5 r_6 awords atargets alines lcount lkeys lplaces kcount klen kat kinds kvals tchars) := by
  rw [f_X0_readLine_123] at hres
  refine G.aload_n (pc := 123) dm_X0_readLine_123 rfl ?_
  refine G.getfield (pc := 124) dm_X0_readLine_124 gf_X0_34 rfl rfl ?_
  refine G.aload_n (pc := 127) dm_X0_readLine_127 rfl ?_
  refine G.getfield (pc := 128) dm_X0_readLine_128 gf_X0_41 rfl rfl ?_
  obtain ⟨z3_0, hz3⟩ := g_ex1 (f_X9_kindAt aat kcount kinds)
  refine G.callV (pc := 131) (rest := []) (st1 := [.int z3_0]) (ws1 := (w_A acount afk afl aat alabel ahas aword atarget amal amis awords atargets alines lcount lkeys lplaces kcount klen kat kinds kvals tchars)) [7, 8, 9, 10, 11] dm_X0_readLine_131 gc_X0_readLine_97 (k_X9_kindAt (k := aat) (kcount := kcount) (klen := klen) (kat := kat) (kinds := kinds) (kvals := kvals) (tchars := tchars) (by assumption) (by assumption) hz3) rfl rfl rfl rfl rfl rfl rfl rfl rfl rfl ?_
  replace hres : (r_0, r_1, r_2, r_3, r_4, r_5, r_6) = f_X0_readLine_c131 aat alabel ahas aword atarget amal amis z3_0 := hres.trans (by rw [← hz3])
  rw [f_X0_readLine_c131] at hres
  refine G.bipush (pc := 134) (v := (10 : Int32)) dm_X0_readLine_134 qb_10 ?_
  refine G.icmp_eq (pc := 136) (tgt := 144) dm_X0_readLine_136 (by decide) (fun c136 => ?_) (fun c136 => ?_)
  · rw [if_pos c136] at hres
    refine G.aload_n (pc := 144) dm_X0_readLine_144 rfl ?_
    refine G.dup (pc := 145) dm_X0_readLine_145 rfl ?_
    refine G.getfield (pc := 146) dm_X0_readLine_146 gf_X0_41 rfl rfl ?_
    refine G.iconst (pc := 149) (v := (1 : Int32)) dm_X0_readLine_149 qi_1 ?_
    refine G.iadd (pc := 150) dm_X0_readLine_150 ?_
    refine G.putfield (pc := 151) (ws1 := (w_A acount afk afl (aat + (1 : Int32)) alabel ahas aword atarget amal amis awords atargets alines lcount lkeys lplaces kcount klen kat kinds kvals tchars)) dm_X0_readLine_151 gw_X0_41 rfl (g_fit_i _) rfl rfl ?_
    cases hres
    exact G.vreturn (pc := 154) dm_X0_readLine_154 rfl rfl rfl
  · rw [if_neg c136] at hres
    refine G.aload_n (pc := 139) dm_X0_readLine_139 rfl ?_
    refine G.iconst (pc := 140) (v := (1 : Int32)) dm_X0_readLine_140 qi_1 ?_
    refine G.putfield (pc := 141) (ws1 := (w_A acount afk afl aat alabel ahas aword atarget (1 : Int32) amis awords atargets alines lcount lkeys lplaces kcount klen kat kinds kvals tchars)) dm_X0_readLine_141 gw_X0_91 rfl (g_fit_z (Or.inr rfl)) rfl rfl ?_
    refine G.aload_n (pc := 144) dm_X0_readLine_144 rfl ?_
    refine G.dup (pc := 145) dm_X0_readLine_145 rfl ?_
    refine G.getfield (pc := 146) dm_X0_readLine_146 gf_X0_41 rfl rfl ?_
    refine G.iconst (pc := 149) (v := (1 : Int32)) dm_X0_readLine_149 qi_1 ?_
    refine G.iadd (pc := 150) dm_X0_readLine_150 ?_
    refine G.putfield (pc := 151) (ws1 := (w_A acount afk afl (aat + (1 : Int32)) alabel ahas aword atarget (1 : Int32) amis awords atargets alines lcount lkeys lplaces kcount klen kat kinds kvals tchars)) dm_X0_readLine_151 gw_X0_41 rfl (g_fit_i _) rfl rfl ?_
    cases hres
    exact G.vreturn (pc := 154) dm_X0_readLine_154 rfl rfl rfl
def f_X0_readLine_c120 (alabel : Int64) (kcount : Int32) (kinds : Nat → Int32) (z6_0 : Int32) (z6_1 : Int32) (z6_2 : Int32) (z6_3 : Int64) (z6_4 : Int32) (z6_5 : Int32) : Int32 × Int64 × Int32 × Int32 × Int64 × Int32 × Int32 := (f_X0_readLine_123 z6_0 alabel z6_1 z6_2 z6_3 z6_4 z6_5 kcount kinds)
def f_X0_readLine_c117 (aat : Int32) (alabel : Int64) (ahas : Int32) (aword : Int32) (atarget : Int64) (amal : Int32) (amis : Int32) (kcount : Int32) (kinds : Nat → Int32) (kvals : Nat → Int64) (z5_0 : Int32) : Int32 × Int64 × Int32 × Int32 × Int64 × Int32 × Int32 := (f_X0_readLine_c120 alabel kcount kinds (f_X0_readInstruction z5_0 aat ahas aword atarget amal amis kcount kinds kvals).1 (f_X0_readInstruction z5_0 aat ahas aword atarget amal amis kcount kinds kvals).2.1 (f_X0_readInstruction z5_0 aat ahas aword atarget amal amis kcount kinds kvals).2.2.1 (f_X0_readInstruction z5_0 aat ahas aword atarget amal amis kcount kinds kvals).2.2.2.1 (f_X0_readInstruction z5_0 aat ahas aword atarget amal amis kcount kinds kvals).2.2.2.2.1 (f_X0_readInstruction z5_0 aat ahas aword atarget amal amis kcount kinds kvals).2.2.2.2.2)
def f_X0_readLine_c114 (aat : Int32) (alabel : Int64) (ahas : Int32) (aword : Int32) (atarget : Int64) (amal : Int32) (amis : Int32) (kcount : Int32) (kinds : Nat → Int32) (kvals : Nat → Int64) (z4_0 : Int64) : Int32 × Int64 × Int32 × Int32 × Int64 × Int32 × Int32 := (f_X0_readLine_c117 aat alabel ahas aword atarget amal amis kcount kinds kvals (f_X0_mnemonicOf z4_0))
def f_X0_readLine_c97 (aat : Int32) (alabel : Int64) (ahas : Int32) (aword : Int32) (atarget : Int64) (amal : Int32) (amis : Int32) (kcount : Int32) (kinds : Nat → Int32) (kvals : Nat → Int64) (z2_0 : Int32) : Int32 × Int64 × Int32 × Int32 × Int64 × Int32 × Int32 := (if z2_0 = (97 : Int32) then (f_X0_readLine_c114 aat alabel ahas aword atarget amal amis kcount kinds kvals (f_X9_valueAt aat kcount kvals)) else (f_X0_readLine_123 aat alabel ahas aword atarget amal amis kcount kinds))
def f_X0_readLine_89 (aat : Int32) (alabel : Int64) (ahas : Int32) (aword : Int32) (atarget : Int64) (amal : Int32) (amis : Int32) (kcount : Int32) (kinds : Nat → Int32) (kvals : Nat → Int64) : Int32 × Int64 × Int32 × Int32 × Int64 × Int32 × Int32 := (f_X0_readLine_c97 aat alabel ahas aword atarget amal amis kcount kinds kvals (f_X9_kindAt aat kcount kinds))
set_option maxRecDepth 20000 in
theorem j_X0_readLine_89 {acount : Int32} {afk : Int32} {afl : Int32} {aat : Int32} {alabel : Int64} {ahas : Int32} {aword : Int32} {atarget : Int64} {amal : Int32} {amis : Int32} {awords : Nat → Int32} {atargets : Nat → Int64} {alines : Nat → Int32} {lcount : Int32} {lkeys : Nat → Int64} {lplaces : Nat → Int32} {kcount : Int32} {klen : Int32} {kat : Int32} {kinds : Nat → Int32} {kvals : Nat → Int64} {tchars : Nat → Int32} {r_0 : Int32} {r_1 : Int64} {r_2 : Int32} {r_3 : Int32} {r_4 : Int64} {r_5 : Int32} {r_6 : Int32} (hres : (r_0, r_1, r_2, r_3, r_4, r_5, r_6) = (f_X0_readLine_89 aat alabel ahas aword atarget amal amis kcount kinds kvals)) (hc : 0 ≤ kcount.toInt ∧ kcount.toInt ≤ 401) (hch : q_ch kinds) : G M_X0_readLine 0 0 89 [(0, .ref 0)] [] (w_A acount afk afl aat alabel ahas aword atarget amal amis awords atargets alines lcount lkeys lplaces kcount klen kat kinds kvals tchars) (none) (w_A acount afk afl r_0 r_1 r_2 r_3 r_4 r_5 r_6 awords atargets alines lcount lkeys lplaces kcount klen kat kinds kvals tchars) := by
  rw [f_X0_readLine_89] at hres
  refine G.aload_n (pc := 89) dm_X0_readLine_89 rfl ?_
  refine G.getfield (pc := 90) dm_X0_readLine_90 gf_X0_34 rfl rfl ?_
  refine G.aload_n (pc := 93) dm_X0_readLine_93 rfl ?_
  refine G.getfield (pc := 94) dm_X0_readLine_94 gf_X0_41 rfl rfl ?_
  obtain ⟨z2_0, hz2⟩ := g_ex1 (f_X9_kindAt aat kcount kinds)
  refine G.callV (pc := 97) (rest := []) (st1 := [.int z2_0]) (ws1 := (w_A acount afk afl aat alabel ahas aword atarget amal amis awords atargets alines lcount lkeys lplaces kcount klen kat kinds kvals tchars)) [7, 8, 9, 10, 11] dm_X0_readLine_97 gc_X0_readLine_97 (k_X9_kindAt (k := aat) (kcount := kcount) (klen := klen) (kat := kat) (kinds := kinds) (kvals := kvals) (tchars := tchars) (by assumption) (by assumption) hz2) rfl rfl rfl rfl rfl rfl rfl rfl rfl rfl ?_
  replace hres : (r_0, r_1, r_2, r_3, r_4, r_5, r_6) = f_X0_readLine_c97 aat alabel ahas aword atarget amal amis kcount kinds kvals z2_0 := hres.trans (by rw [← hz2])
  rw [f_X0_readLine_c97] at hres
  refine G.bipush (pc := 100) (v := (97 : Int32)) dm_X0_readLine_100 qb_97 ?_
  refine G.icmp_ne (pc := 102) (tgt := 123) dm_X0_readLine_102 (by decide) (fun c102 => ?_) (fun c102 => ?_)
  · rw [if_neg c102] at hres
    exact j_X0_readLine_123 hres (by assumption) (by assumption)
  · rw [if_pos c102] at hres
    refine G.aload_n (pc := 105) dm_X0_readLine_105 rfl ?_
    refine G.aload_n (pc := 106) dm_X0_readLine_106 rfl ?_
    refine G.getfield (pc := 107) dm_X0_readLine_107 gf_X0_34 rfl rfl ?_
    refine G.aload_n (pc := 110) dm_X0_readLine_110 rfl ?_
    refine G.getfield (pc := 111) dm_X0_readLine_111 gf_X0_41 rfl rfl ?_
    obtain ⟨z4_0, hz4⟩ := g_ex1 (f_X9_valueAt aat kcount kvals)
    refine G.callV (pc := 114) (rest := [.ref 0]) (st1 := [.long z4_0, .ref 0]) (ws1 := (w_A acount afk afl aat alabel ahas aword atarget amal amis awords atargets alines lcount lkeys lplaces kcount klen kat kinds kvals tchars)) [7, 8, 9, 10, 11] dm_X0_readLine_114 gc_X0_readLine_101 (k_X9_valueAt (k := aat) (kcount := kcount) (klen := klen) (kat := kat) (kinds := kinds) (kvals := kvals) (tchars := tchars) (by assumption) hz4) rfl rfl rfl rfl rfl rfl rfl rfl rfl rfl ?_
    replace hres : (r_0, r_1, r_2, r_3, r_4, r_5, r_6) = f_X0_readLine_c114 aat alabel ahas aword atarget amal amis kcount kinds kvals z4_0 := hres.trans (by rw [← hz4])
    rw [f_X0_readLine_c114] at hres
    obtain ⟨z5_0, hz5⟩ := g_ex1 (f_X0_mnemonicOf z4_0)
    refine G.callS (pc := 117) (rest := [.ref 0]) (st1 := [.int z5_0, .ref 0]) (ws1 := (w_A acount afk afl aat alabel ahas aword atarget amal amis awords atargets alines lcount lkeys lplaces kcount klen kat kinds kvals tchars)) [] dm_X0_readLine_117 gc_X0_readLine_105 (k_X0_mnemonicOf (key := z4_0) hz5) rfl rfl rfl rfl rfl rfl rfl rfl ?_
    have hmn := b_X0_mnemonicOf hz5
    replace hres : (r_0, r_1, r_2, r_3, r_4, r_5, r_6) = f_X0_readLine_c117 aat alabel ahas aword atarget amal amis kcount kinds kvals z5_0 := hres.trans (by rw [← hz5])
    rw [f_X0_readLine_c117] at hres
    obtain ⟨z6_0, z6_1, z6_2, z6_3, z6_4, z6_5, hz6⟩ := g_ex6 (f_X0_readInstruction z5_0 aat ahas aword atarget amal amis kcount kinds kvals)
    refine G.callV0 (pc := 120) (rest := []) (st1 := []) dm_X0_readLine_120 gc_X0_readLine_109 (k_X0_readInstruction (mnemonic := z5_0) (acount := acount) (afk := afk) (afl := afl) (aat := aat) (alabel := alabel) (ahas := ahas) (aword := aword) (atarget := atarget) (amal := amal) (amis := amis) (awords := awords) (atargets := atargets) (alines := alines) (lcount := lcount) (lkeys := lkeys) (lplaces := lplaces) (kcount := kcount) (klen := klen) (kat := kat) (kinds := kinds) (kvals := kvals) (tchars := tchars) (by assumption) (by assumption) (by assumption) hz6) rfl rfl rfl rfl rfl rfl rfl rfl ?_
    replace hres : (r_0, r_1, r_2, r_3, r_4, r_5, r_6) = f_X0_readLine_c120 alabel kcount kinds z6_0 z6_1 z6_2 z6_3 z6_4 z6_5 := hres.trans (by rw [← hz6])
    rw [f_X0_readLine_c120] at hres
    exact j_X0_readLine_123 hres (by assumption) (by assumption)
def f_X0_readLine_c73 (aat : Int32) (kcount : Int32) (kinds : Nat → Int32) (kvals : Nat → Int64) (z8_0 : Int64) : Int32 × Int64 × Int32 × Int32 × Int64 × Int32 × Int32 := (f_X0_readLine_89 (aat + (2 : Int32)) z8_0 (0 : Int32) (0 : Int32) (0 : Int64) (0 : Int32) (0 : Int32) kcount kinds kvals)
def f_X0_readLine_c56 (aat : Int32) (kcount : Int32) (kinds : Nat → Int32) (kvals : Nat → Int64) (z7_0 : Int32) : Int32 × Int64 × Int32 × Int32 × Int64 × Int32 × Int32 := (if z7_0 = (58 : Int32) then (f_X0_readLine_c73 aat kcount kinds kvals (f_X9_valueAt aat kcount kvals)) else (f_X0_readLine_89 aat (0 : Int64) (0 : Int32) (0 : Int32) (0 : Int64) (0 : Int32) (0 : Int32) kcount kinds kvals))
def f_X0_readLine_c38 (aat : Int32) (kcount : Int32) (kinds : Nat → Int32) (kvals : Nat → Int64) (z1_0 : Int32) : Int32 × Int64 × Int32 × Int32 × Int64 × Int32 × Int32 := (if z1_0 = (97 : Int32) then (f_X0_readLine_c56 aat kcount kinds kvals (f_X9_kindAt (aat + (1 : Int32)) kcount kinds)) else (f_X0_readLine_89 aat (0 : Int64) (0 : Int32) (0 : Int32) (0 : Int64) (0 : Int32) (0 : Int32) kcount kinds kvals))
def f_X0_readLine (aat : Int32) (kcount : Int32) (kinds : Nat → Int32) (kvals : Nat → Int64) : Int32 × Int64 × Int32 × Int32 × Int64 × Int32 × Int32 := (f_X0_readLine_c38 aat kcount kinds kvals (f_X9_kindAt aat kcount kinds))
set_option maxRecDepth 20000 in
theorem k_X0_readLine {acount : Int32} {afk : Int32} {afl : Int32} {aat : Int32} {alabel : Int64} {ahas : Int32} {aword : Int32} {atarget : Int64} {amal : Int32} {amis : Int32} {awords : Nat → Int32} {atargets : Nat → Int64} {alines : Nat → Int32} {lcount : Int32} {lkeys : Nat → Int64} {lplaces : Nat → Int32} {kcount : Int32} {klen : Int32} {kat : Int32} {kinds : Nat → Int32} {kvals : Nat → Int64} {tchars : Nat → Int32} (hc : 0 ≤ kcount.toInt ∧ kcount.toInt ≤ 401) (hch : q_ch kinds) {r_0 : Int32} {r_1 : Int64} {r_2 : Int32} {r_3 : Int32} {r_4 : Int64} {r_5 : Int32} {r_6 : Int32} (hres : (r_0, r_1, r_2, r_3, r_4, r_5, r_6) = f_X0_readLine aat kcount kinds kvals) : K M_X0_readLine yX0_readLine [.ref 0] (w_A acount afk afl aat alabel ahas aword atarget amal amis awords atargets alines lcount lkeys lplaces kcount klen kat kinds kvals tchars) (none) (w_A acount afk afl r_0 r_1 r_2 r_3 r_4 r_5 r_6 awords atargets alines lcount lkeys lplaces kcount klen kat kinds kvals tchars) := by
  refine K.of (lv := [(0, .ref 0)]) (by decide +kernel) rfl rfl rfl ?_
  rw [f_X0_readLine] at hres
  refine G.aload_n (pc := 0) dm_X0_readLine_0 rfl ?_
  refine G.lconst (pc := 1) (v := (0 : Int64)) dm_X0_readLine_1 (by decide) ?_
  refine G.putfield (pc := 2) (ws1 := (w_A acount afk afl aat (0 : Int64) ahas aword atarget amal amis awords atargets alines lcount lkeys lplaces kcount klen kat kinds kvals tchars)) dm_X0_readLine_2 gw_X0_77 rfl (g_fit_l _) rfl rfl ?_
  refine G.aload_n (pc := 5) dm_X0_readLine_5 rfl ?_
  refine G.iconst (pc := 6) (v := (0 : Int32)) dm_X0_readLine_6 qi_0 ?_
  refine G.putfield (pc := 7) (ws1 := (w_A acount afk afl aat (0 : Int64) (0 : Int32) aword atarget amal amis awords atargets alines lcount lkeys lplaces kcount klen kat kinds kvals tchars)) dm_X0_readLine_7 gw_X0_81 rfl (g_fit_z (Or.inl rfl)) rfl rfl ?_
  refine G.aload_n (pc := 10) dm_X0_readLine_10 rfl ?_
  refine G.iconst (pc := 11) (v := (0 : Int32)) dm_X0_readLine_11 qi_0 ?_
  refine G.putfield (pc := 12) (ws1 := (w_A acount afk afl aat (0 : Int64) (0 : Int32) (0 : Int32) atarget amal amis awords atargets alines lcount lkeys lplaces kcount klen kat kinds kvals tchars)) dm_X0_readLine_12 gw_X0_85 rfl (g_fit_i _) rfl rfl ?_
  refine G.aload_n (pc := 15) dm_X0_readLine_15 rfl ?_
  refine G.lconst (pc := 16) (v := (0 : Int64)) dm_X0_readLine_16 (by decide) ?_
  refine G.putfield (pc := 17) (ws1 := (w_A acount afk afl aat (0 : Int64) (0 : Int32) (0 : Int32) (0 : Int64) amal amis awords atargets alines lcount lkeys lplaces kcount klen kat kinds kvals tchars)) dm_X0_readLine_17 gw_X0_88 rfl (g_fit_l _) rfl rfl ?_
  refine G.aload_n (pc := 20) dm_X0_readLine_20 rfl ?_
  refine G.iconst (pc := 21) (v := (0 : Int32)) dm_X0_readLine_21 qi_0 ?_
  refine G.putfield (pc := 22) (ws1 := (w_A acount afk afl aat (0 : Int64) (0 : Int32) (0 : Int32) (0 : Int64) (0 : Int32) amis awords atargets alines lcount lkeys lplaces kcount klen kat kinds kvals tchars)) dm_X0_readLine_22 gw_X0_91 rfl (g_fit_z (Or.inl rfl)) rfl rfl ?_
  refine G.aload_n (pc := 25) dm_X0_readLine_25 rfl ?_
  refine G.iconst (pc := 26) (v := (0 : Int32)) dm_X0_readLine_26 qi_0 ?_
  refine G.putfield (pc := 27) (ws1 := (w_A acount afk afl aat (0 : Int64) (0 : Int32) (0 : Int32) (0 : Int64) (0 : Int32) (0 : Int32) awords atargets alines lcount lkeys lplaces kcount klen kat kinds kvals tchars)) dm_X0_readLine_27 gw_X0_94 rfl (g_fit_z (Or.inl rfl)) rfl rfl ?_
  refine G.aload_n (pc := 30) dm_X0_readLine_30 rfl ?_
  refine G.getfield (pc := 31) dm_X0_readLine_31 gf_X0_34 rfl rfl ?_
  refine G.aload_n (pc := 34) dm_X0_readLine_34 rfl ?_
  refine G.getfield (pc := 35) dm_X0_readLine_35 gf_X0_41 rfl rfl ?_
  obtain ⟨z1_0, hz1⟩ := g_ex1 (f_X9_kindAt aat kcount kinds)
  refine G.callV (pc := 38) (rest := []) (st1 := [.int z1_0]) (ws1 := (w_A acount afk afl aat (0 : Int64) (0 : Int32) (0 : Int32) (0 : Int64) (0 : Int32) (0 : Int32) awords atargets alines lcount lkeys lplaces kcount klen kat kinds kvals tchars)) [7, 8, 9, 10, 11] dm_X0_readLine_38 gc_X0_readLine_97 (k_X9_kindAt (k := aat) (kcount := kcount) (klen := klen) (kat := kat) (kinds := kinds) (kvals := kvals) (tchars := tchars) (by assumption) (by assumption) hz1) rfl rfl rfl rfl rfl rfl rfl rfl rfl rfl ?_
  replace hres : (r_0, r_1, r_2, r_3, r_4, r_5, r_6) = f_X0_readLine_c38 aat kcount kinds kvals z1_0 := hres.trans (by rw [← hz1])
  rw [f_X0_readLine_c38] at hres
  refine G.bipush (pc := 41) (v := (97 : Int32)) dm_X0_readLine_41 qb_97 ?_
  refine G.icmp_ne (pc := 43) (tgt := 89) dm_X0_readLine_43 (by decide) (fun c43 => ?_) (fun c43 => ?_)
  · rw [if_neg c43] at hres
    exact j_X0_readLine_89 hres (by assumption) (by assumption)
  · rw [if_pos c43] at hres
    refine G.aload_n (pc := 46) dm_X0_readLine_46 rfl ?_
    refine G.getfield (pc := 47) dm_X0_readLine_47 gf_X0_34 rfl rfl ?_
    refine G.aload_n (pc := 50) dm_X0_readLine_50 rfl ?_
    refine G.getfield (pc := 51) dm_X0_readLine_51 gf_X0_41 rfl rfl ?_
    refine G.iconst (pc := 54) (v := (1 : Int32)) dm_X0_readLine_54 qi_1 ?_
    refine G.iadd (pc := 55) dm_X0_readLine_55 ?_
    obtain ⟨z7_0, hz7⟩ := g_ex1 (f_X9_kindAt (aat + (1 : Int32)) kcount kinds)
    refine G.callV (pc := 56) (rest := []) (st1 := [.int z7_0]) (ws1 := (w_A acount afk afl aat (0 : Int64) (0 : Int32) (0 : Int32) (0 : Int64) (0 : Int32) (0 : Int32) awords atargets alines lcount lkeys lplaces kcount klen kat kinds kvals tchars)) [7, 8, 9, 10, 11] dm_X0_readLine_56 gc_X0_readLine_97 (k_X9_kindAt (k := (aat + (1 : Int32))) (kcount := kcount) (klen := klen) (kat := kat) (kinds := kinds) (kvals := kvals) (tchars := tchars) (by assumption) (by assumption) hz7) rfl rfl rfl rfl rfl rfl rfl rfl rfl rfl ?_
    replace hres : (r_0, r_1, r_2, r_3, r_4, r_5, r_6) = f_X0_readLine_c56 aat kcount kinds kvals z7_0 := hres.trans (by rw [← hz7])
    rw [f_X0_readLine_c56] at hres
    refine G.bipush (pc := 59) (v := (58 : Int32)) dm_X0_readLine_59 qb_58 ?_
    refine G.icmp_ne (pc := 61) (tgt := 89) dm_X0_readLine_61 (by decide) (fun c61 => ?_) (fun c61 => ?_)
    · rw [if_neg c61] at hres
      exact j_X0_readLine_89 hres (by assumption) (by assumption)
    · rw [if_pos c61] at hres
      refine G.aload_n (pc := 64) dm_X0_readLine_64 rfl ?_
      refine G.aload_n (pc := 65) dm_X0_readLine_65 rfl ?_
      refine G.getfield (pc := 66) dm_X0_readLine_66 gf_X0_34 rfl rfl ?_
      refine G.aload_n (pc := 69) dm_X0_readLine_69 rfl ?_
      refine G.getfield (pc := 70) dm_X0_readLine_70 gf_X0_41 rfl rfl ?_
      obtain ⟨z8_0, hz8⟩ := g_ex1 (f_X9_valueAt aat kcount kvals)
      refine G.callV (pc := 73) (rest := [.ref 0]) (st1 := [.long z8_0, .ref 0]) (ws1 := (w_A acount afk afl aat (0 : Int64) (0 : Int32) (0 : Int32) (0 : Int64) (0 : Int32) (0 : Int32) awords atargets alines lcount lkeys lplaces kcount klen kat kinds kvals tchars)) [7, 8, 9, 10, 11] dm_X0_readLine_73 gc_X0_readLine_101 (k_X9_valueAt (k := aat) (kcount := kcount) (klen := klen) (kat := kat) (kinds := kinds) (kvals := kvals) (tchars := tchars) (by assumption) hz8) rfl rfl rfl rfl rfl rfl rfl rfl rfl rfl ?_
      replace hres : (r_0, r_1, r_2, r_3, r_4, r_5, r_6) = f_X0_readLine_c73 aat kcount kinds kvals z8_0 := hres.trans (by rw [← hz8])
      rw [f_X0_readLine_c73] at hres
      refine G.putfield (pc := 76) (ws1 := (w_A acount afk afl aat z8_0 (0 : Int32) (0 : Int32) (0 : Int64) (0 : Int32) (0 : Int32) awords atargets alines lcount lkeys lplaces kcount klen kat kinds kvals tchars)) dm_X0_readLine_76 gw_X0_77 rfl (g_fit_l _) rfl rfl ?_
      refine G.aload_n (pc := 79) dm_X0_readLine_79 rfl ?_
      refine G.dup (pc := 80) dm_X0_readLine_80 rfl ?_
      refine G.getfield (pc := 81) dm_X0_readLine_81 gf_X0_41 rfl rfl ?_
      refine G.iconst (pc := 84) (v := (2 : Int32)) dm_X0_readLine_84 qi_2 ?_
      refine G.iadd (pc := 85) dm_X0_readLine_85 ?_
      refine G.putfield (pc := 86) (ws1 := (w_A acount afk afl (aat + (2 : Int32)) z8_0 (0 : Int32) (0 : Int32) (0 : Int64) (0 : Int32) (0 : Int32) awords atargets alines lcount lkeys lplaces kcount klen kat kinds kvals tchars)) dm_X0_readLine_86 gw_X0_41 rfl (g_fit_i _) rfl rfl ?_
      exact j_X0_readLine_89 hres (by assumption) (by assumption)
abbrev M_X0_faultOfLine : g_M := (cX0_faultOfLine, 2, RX0, (some .int), { frames := 1, cells := 0, slots := 0, locals := 23 }, 0, 0)
theorem dm_X0_faultOfLine_0 : decode M_X0_faultOfLine.1 0 = .ok (.aload_n 0, 1) := by decide +kernel
theorem dm_X0_faultOfLine_1 : decode M_X0_faultOfLine.1 1 = .ok (.getfield 91, 3) := by decide +kernel
theorem dm_X0_faultOfLine_4 : decode M_X0_faultOfLine.1 4 = .ok (.ifCond .eq 5, 3) := by decide +kernel
theorem dm_X0_faultOfLine_7 : decode M_X0_faultOfLine.1 7 = .ok (.iconst 1, 1) := by decide +kernel
theorem dm_X0_faultOfLine_8 : decode M_X0_faultOfLine.1 8 = .ok (.ireturn, 1) := by decide +kernel
theorem dm_X0_faultOfLine_9 : decode M_X0_faultOfLine.1 9 = .ok (.aload_n 0, 1) := by decide +kernel
theorem dm_X0_faultOfLine_10 : decode M_X0_faultOfLine.1 10 = .ok (.getfield 94, 3) := by decide +kernel
theorem dm_X0_faultOfLine_13 : decode M_X0_faultOfLine.1 13 = .ok (.ifCond .eq 5, 3) := by decide +kernel
theorem dm_X0_faultOfLine_16 : decode M_X0_faultOfLine.1 16 = .ok (.iconst 2, 1) := by decide +kernel
theorem dm_X0_faultOfLine_17 : decode M_X0_faultOfLine.1 17 = .ok (.ireturn, 1) := by decide +kernel
theorem dm_X0_faultOfLine_18 : decode M_X0_faultOfLine.1 18 = .ok (.aload_n 0, 1) := by decide +kernel
theorem dm_X0_faultOfLine_19 : decode M_X0_faultOfLine.1 19 = .ok (.getfield 77, 3) := by decide +kernel
theorem dm_X0_faultOfLine_22 : decode M_X0_faultOfLine.1 22 = .ok (.lconst 0, 1) := by decide +kernel
theorem dm_X0_faultOfLine_23 : decode M_X0_faultOfLine.1 23 = .ok (.lcmp, 1) := by decide +kernel
theorem dm_X0_faultOfLine_24 : decode M_X0_faultOfLine.1 24 = .ok (.ifCond .eq 15, 3) := by decide +kernel
theorem dm_X0_faultOfLine_27 : decode M_X0_faultOfLine.1 27 = .ok (.aload_n 0, 1) := by decide +kernel
theorem dm_X0_faultOfLine_28 : decode M_X0_faultOfLine.1 28 = .ok (.getfield 25, 3) := by decide +kernel
theorem dm_X0_faultOfLine_31 : decode M_X0_faultOfLine.1 31 = .ok (.getfield 48, 3) := by decide +kernel
theorem dm_X0_faultOfLine_34 : decode M_X0_faultOfLine.1 34 = .ok (.bipush 16, 2) := by decide +kernel
theorem dm_X0_faultOfLine_36 : decode M_X0_faultOfLine.1 36 = .ok (.if_icmp .ge 18, 3) := by decide +kernel
theorem dm_X0_faultOfLine_39 : decode M_X0_faultOfLine.1 39 = .ok (.aload_n 0, 1) := by decide +kernel
theorem dm_X0_faultOfLine_40 : decode M_X0_faultOfLine.1 40 = .ok (.getfield 81, 3) := by decide +kernel
theorem dm_X0_faultOfLine_43 : decode M_X0_faultOfLine.1 43 = .ok (.ifCond .eq 13, 3) := by decide +kernel
theorem dm_X0_faultOfLine_46 : decode M_X0_faultOfLine.1 46 = .ok (.aload_n 0, 1) := by decide +kernel
theorem dm_X0_faultOfLine_47 : decode M_X0_faultOfLine.1 47 = .ok (.getfield 45, 3) := by decide +kernel
theorem dm_X0_faultOfLine_50 : decode M_X0_faultOfLine.1 50 = .ok (.iload_n 1, 1) := by decide +kernel
theorem dm_X0_faultOfLine_51 : decode M_X0_faultOfLine.1 51 = .ok (.if_icmp .lt 5, 3) := by decide +kernel
theorem dm_X0_faultOfLine_54 : decode M_X0_faultOfLine.1 54 = .ok (.iconst 4, 1) := by decide +kernel
theorem dm_X0_faultOfLine_55 : decode M_X0_faultOfLine.1 55 = .ok (.ireturn, 1) := by decide +kernel
theorem dm_X0_faultOfLine_56 : decode M_X0_faultOfLine.1 56 = .ok (.aload_n 0, 1) := by decide +kernel
theorem dm_X0_faultOfLine_57 : decode M_X0_faultOfLine.1 57 = .ok (.getfield 77, 3) := by decide +kernel
theorem dm_X0_faultOfLine_60 : decode M_X0_faultOfLine.1 60 = .ok (.lconst 0, 1) := by decide +kernel
theorem dm_X0_faultOfLine_61 : decode M_X0_faultOfLine.1 61 = .ok (.lcmp, 1) := by decide +kernel
theorem dm_X0_faultOfLine_62 : decode M_X0_faultOfLine.1 62 = .ok (.ifCond .eq 21, 3) := by decide +kernel
theorem dm_X0_faultOfLine_65 : decode M_X0_faultOfLine.1 65 = .ok (.aload_n 0, 1) := by decide +kernel
theorem dm_X0_faultOfLine_66 : decode M_X0_faultOfLine.1 66 = .ok (.getfield 25, 3) := by decide +kernel
theorem dm_X0_faultOfLine_69 : decode M_X0_faultOfLine.1 69 = .ok (.aload_n 0, 1) := by decide +kernel
theorem dm_X0_faultOfLine_70 : decode M_X0_faultOfLine.1 70 = .ok (.getfield 77, 3) := by decide +kernel
theorem dm_X0_faultOfLine_73 : decode M_X0_faultOfLine.1 73 = .ok (.invokevirtual 112, 3) := by decide +kernel
theorem dm_X0_faultOfLine_76 : decode M_X0_faultOfLine.1 76 = .ok (.ifCond .lt 7, 3) := by decide +kernel
theorem dm_X0_faultOfLine_79 : decode M_X0_faultOfLine.1 79 = .ok (.iconst 3, 1) := by decide +kernel
theorem dm_X0_faultOfLine_80 : decode M_X0_faultOfLine.1 80 = .ok (.goto 4, 3) := by decide +kernel
theorem dm_X0_faultOfLine_83 : decode M_X0_faultOfLine.1 83 = .ok (.iconst 0, 1) := by decide +kernel
theorem dm_X0_faultOfLine_84 : decode M_X0_faultOfLine.1 84 = .ok (.ireturn, 1) := by decide +kernel
theorem gc_X0_faultOfLine_112 : g_cv M_X0_faultOfLine 112 M_X3_find yX3_find 1 := ⟨tw376, tw377, tw378, tw81, tw379, ⟨rfl, rfl, rfl, rfl⟩, gd_X3_find, ⟨by decide, by decide⟩⟩
def f_X0_faultOfLine_c73 (z1_0 : Int32) : Int32 := (if z1_0 < 0 then (0 : Int32) else (3 : Int32))
def f_X0_faultOfLine_56 (alabel : Int64) (lcount : Int32) (lkeys : Nat → Int64) (lplaces : Nat → Int32) : Int32 := (if (lg_cmp alabel (0 : Int64)) = 0 then (0 : Int32) else (f_X0_faultOfLine_c73 (f_X3_find alabel lcount lkeys lplaces)))
set_option maxRecDepth 20000 in
theorem j_X0_faultOfLine_56 {acount : Int32} {afk : Int32} {afl : Int32} {aat : Int32} {alabel : Int64} {ahas : Int32} {aword : Int32} {atarget : Int64} {amal : Int32} {amis : Int32} {awords : Nat → Int32} {atargets : Nat → Int64} {alines : Nat → Int32} {lcount : Int32} {lkeys : Nat → Int64} {lplaces : Nat → Int32} {kcount : Int32} {klen : Int32} {kat : Int32} {kinds : Nat → Int32} {kvals : Nat → Int64} {tchars : Nat → Int32} {r_0 : Int32} (hres : r_0 = (f_X0_faultOfLine_56 alabel lcount lkeys lplaces)) (hlc : 0 ≤ lcount.toInt ∧ lcount.toInt ≤ 16) : G M_X0_faultOfLine 0 0 56 [(0, .ref 0)] [] (w_A acount afk afl aat alabel ahas aword atarget amal amis awords atargets alines lcount lkeys lplaces kcount klen kat kinds kvals tchars) (some (.int r_0)) (w_A acount afk afl aat alabel ahas aword atarget amal amis awords atargets alines lcount lkeys lplaces kcount klen kat kinds kvals tchars) := by
  rw [f_X0_faultOfLine_56] at hres
  refine G.aload_n (pc := 56) dm_X0_faultOfLine_56 rfl ?_
  refine G.getfield (pc := 57) dm_X0_faultOfLine_57 gf_X0_77 rfl rfl ?_
  refine G.lconst (pc := 60) (v := (0 : Int64)) dm_X0_faultOfLine_60 (by decide) ?_
  refine G.lcmp (pc := 61) dm_X0_faultOfLine_61 ?_
  refine G.if_eq (pc := 62) (tgt := 83) dm_X0_faultOfLine_62 (by decide) (fun c62 => ?_) (fun c62 => ?_)
  · rw [if_pos c62] at hres
    refine G.iconst (pc := 83) (v := (0 : Int32)) dm_X0_faultOfLine_83 qi_0 ?_
    subst hres
    exact G.ireturn (pc := 84) dm_X0_faultOfLine_84 rfl rfl rfl
  · rw [if_neg c62] at hres
    refine G.aload_n (pc := 65) dm_X0_faultOfLine_65 rfl ?_
    refine G.getfield (pc := 66) dm_X0_faultOfLine_66 gf_X0_25 rfl rfl ?_
    refine G.aload_n (pc := 69) dm_X0_faultOfLine_69 rfl ?_
    refine G.getfield (pc := 70) dm_X0_faultOfLine_70 gf_X0_77 rfl rfl ?_
    obtain ⟨z1_0, hz1⟩ := g_ex1 (f_X3_find alabel lcount lkeys lplaces)
    refine G.callV (pc := 73) (rest := []) (st1 := [.int z1_0]) (ws1 := (w_A acount afk afl aat alabel ahas aword atarget amal amis awords atargets alines lcount lkeys lplaces kcount klen kat kinds kvals tchars)) [4, 5, 6] dm_X0_faultOfLine_73 gc_X0_faultOfLine_112 (k_X3_find (key := alabel) (lcount := lcount) (lkeys := lkeys) (lplaces := lplaces) hlc.2 hz1) rfl rfl rfl rfl rfl rfl rfl rfl rfl rfl ?_
    replace hres : r_0 = f_X0_faultOfLine_c73 z1_0 := hres.trans (by rw [← hz1])
    rw [f_X0_faultOfLine_c73] at hres
    refine G.if_lt (pc := 76) (tgt := 83) dm_X0_faultOfLine_76 (by decide) (fun c76 => ?_) (fun c76 => ?_)
    · rw [if_pos c76] at hres
      refine G.iconst (pc := 83) (v := (0 : Int32)) dm_X0_faultOfLine_83 qi_0 ?_
      subst hres
      exact G.ireturn (pc := 84) dm_X0_faultOfLine_84 rfl rfl rfl
    · rw [if_neg c76] at hres
      refine G.iconst (pc := 79) (v := (3 : Int32)) dm_X0_faultOfLine_79 qi_3 ?_
      refine G.goto (pc := 80) (tgt := 84) dm_X0_faultOfLine_80 (by decide) ?_
      subst hres
      exact G.ireturn (pc := 84) dm_X0_faultOfLine_84 rfl rfl rfl
def f_X0_faultOfLine_39 (acount : Int32) (alabel : Int64) (ahas : Int32) (lcount : Int32) (lkeys : Nat → Int64) (lplaces : Nat → Int32) (l1 : Int32) : Int32 := (if ahas = 0 then (f_X0_faultOfLine_56 alabel lcount lkeys lplaces) else (if acount < l1 then (f_X0_faultOfLine_56 alabel lcount lkeys lplaces) else (4 : Int32)))
set_option maxRecDepth 20000 in
theorem j_X0_faultOfLine_39 {l1 : Int32} {acount : Int32} {afk : Int32} {afl : Int32} {aat : Int32} {alabel : Int64} {ahas : Int32} {aword : Int32} {atarget : Int64} {amal : Int32} {amis : Int32} {awords : Nat → Int32} {atargets : Nat → Int64} {alines : Nat → Int32} {lcount : Int32} {lkeys : Nat → Int64} {lplaces : Nat → Int32} {kcount : Int32} {klen : Int32} {kat : Int32} {kinds : Nat → Int32} {kvals : Nat → Int64} {tchars : Nat → Int32} {r_0 : Int32} (hres : r_0 = (f_X0_faultOfLine_39 acount alabel ahas lcount lkeys lplaces l1)) (hlc : 0 ≤ lcount.toInt ∧ lcount.toInt ≤ 16) : G M_X0_faultOfLine 0 0 39 [(0, .ref 0), (1, .int l1)] [] (w_A acount afk afl aat alabel ahas aword atarget amal amis awords atargets alines lcount lkeys lplaces kcount klen kat kinds kvals tchars) (some (.int r_0)) (w_A acount afk afl aat alabel ahas aword atarget amal amis awords atargets alines lcount lkeys lplaces kcount klen kat kinds kvals tchars) := by
  rw [f_X0_faultOfLine_39] at hres
  refine G.aload_n (pc := 39) dm_X0_faultOfLine_39 rfl ?_
  refine G.getfield (pc := 40) dm_X0_faultOfLine_40 gf_X0_81 rfl rfl ?_
  refine G.if_eq (pc := 43) (tgt := 56) dm_X0_faultOfLine_43 (by decide) (fun c43 => ?_) (fun c43 => ?_)
  · rw [if_pos c43] at hres
    refine G.lvp [0] rfl ?_
    exact j_X0_faultOfLine_56 hres (by assumption)
  · rw [if_neg c43] at hres
    refine G.aload_n (pc := 46) dm_X0_faultOfLine_46 rfl ?_
    refine G.getfield (pc := 47) dm_X0_faultOfLine_47 gf_X0_45 rfl rfl ?_
    refine G.iload_n (pc := 50) dm_X0_faultOfLine_50 rfl ?_
    refine G.icmp_lt (pc := 51) (tgt := 56) dm_X0_faultOfLine_51 (by decide) (fun c51 => ?_) (fun c51 => ?_)
    · rw [if_pos c51] at hres
      refine G.lvp [0] rfl ?_
      exact j_X0_faultOfLine_56 hres (by assumption)
    · rw [if_neg c51] at hres
      refine G.iconst (pc := 54) (v := (4 : Int32)) dm_X0_faultOfLine_54 qi_4 ?_
      subst hres
      exact G.ireturn (pc := 55) dm_X0_faultOfLine_55 rfl rfl rfl
def f_X0_faultOfLine (room : Int32) (acount : Int32) (alabel : Int64) (ahas : Int32) (amal : Int32) (amis : Int32) (lcount : Int32) (lkeys : Nat → Int64) (lplaces : Nat → Int32) : Int32 := (if amal = 0 then (if amis = 0 then (if (lg_cmp alabel (0 : Int64)) = 0 then (f_X0_faultOfLine_39 acount alabel ahas lcount lkeys lplaces room) else (if (16 : Int32) ≤ lcount then (4 : Int32) else (f_X0_faultOfLine_39 acount alabel ahas lcount lkeys lplaces room))) else (2 : Int32)) else (1 : Int32))
set_option maxRecDepth 20000 in
theorem k_X0_faultOfLine {room : Int32} {acount : Int32} {afk : Int32} {afl : Int32} {aat : Int32} {alabel : Int64} {ahas : Int32} {aword : Int32} {atarget : Int64} {amal : Int32} {amis : Int32} {awords : Nat → Int32} {atargets : Nat → Int64} {alines : Nat → Int32} {lcount : Int32} {lkeys : Nat → Int64} {lplaces : Nat → Int32} {kcount : Int32} {klen : Int32} {kat : Int32} {kinds : Nat → Int32} {kvals : Nat → Int64} {tchars : Nat → Int32} (hlc : 0 ≤ lcount.toInt ∧ lcount.toInt ≤ 16) {r_0 : Int32} (hres : r_0 = f_X0_faultOfLine room acount alabel ahas amal amis lcount lkeys lplaces) : K M_X0_faultOfLine yX0_faultOfLine [.ref 0, .int room] (w_A acount afk afl aat alabel ahas aword atarget amal amis awords atargets alines lcount lkeys lplaces kcount klen kat kinds kvals tchars) (some (.int r_0)) (w_A acount afk afl aat alabel ahas aword atarget amal amis awords atargets alines lcount lkeys lplaces kcount klen kat kinds kvals tchars) := by
  refine K.of (lv := [(0, .ref 0), (1, .int room)]) (by decide +kernel) rfl rfl rfl ?_
  rw [f_X0_faultOfLine] at hres
  refine G.aload_n (pc := 0) dm_X0_faultOfLine_0 rfl ?_
  refine G.getfield (pc := 1) dm_X0_faultOfLine_1 gf_X0_91 rfl rfl ?_
  refine G.if_eq (pc := 4) (tgt := 9) dm_X0_faultOfLine_4 (by decide) (fun c4 => ?_) (fun c4 => ?_)
  · rw [if_pos c4] at hres
    refine G.aload_n (pc := 9) dm_X0_faultOfLine_9 rfl ?_
    refine G.getfield (pc := 10) dm_X0_faultOfLine_10 gf_X0_94 rfl rfl ?_
    refine G.if_eq (pc := 13) (tgt := 18) dm_X0_faultOfLine_13 (by decide) (fun c13 => ?_) (fun c13 => ?_)
    · rw [if_pos c13] at hres
      refine G.aload_n (pc := 18) dm_X0_faultOfLine_18 rfl ?_
      refine G.getfield (pc := 19) dm_X0_faultOfLine_19 gf_X0_77 rfl rfl ?_
      refine G.lconst (pc := 22) (v := (0 : Int64)) dm_X0_faultOfLine_22 (by decide) ?_
      refine G.lcmp (pc := 23) dm_X0_faultOfLine_23 ?_
      refine G.if_eq (pc := 24) (tgt := 39) dm_X0_faultOfLine_24 (by decide) (fun c24 => ?_) (fun c24 => ?_)
      · rw [if_pos c24] at hres
        exact j_X0_faultOfLine_39 hres (by assumption)
      · rw [if_neg c24] at hres
        refine G.aload_n (pc := 27) dm_X0_faultOfLine_27 rfl ?_
        refine G.getfield (pc := 28) dm_X0_faultOfLine_28 gf_X0_25 rfl rfl ?_
        refine G.getfield (pc := 31) dm_X0_faultOfLine_31 gf_X0_48 rfl rfl ?_
        refine G.bipush (pc := 34) (v := (16 : Int32)) dm_X0_faultOfLine_34 qb_16 ?_
        refine G.icmp_ge (pc := 36) (tgt := 54) dm_X0_faultOfLine_36 (by decide) (fun c36 => ?_) (fun c36 => ?_)
        · rw [if_pos c36] at hres
          refine G.iconst (pc := 54) (v := (4 : Int32)) dm_X0_faultOfLine_54 qi_4 ?_
          subst hres
          exact G.ireturn (pc := 55) dm_X0_faultOfLine_55 rfl rfl rfl
        · rw [if_neg c36] at hres
          exact j_X0_faultOfLine_39 hres (by assumption)
    · rw [if_neg c13] at hres
      refine G.iconst (pc := 16) (v := (2 : Int32)) dm_X0_faultOfLine_16 qi_2 ?_
      subst hres
      exact G.ireturn (pc := 17) dm_X0_faultOfLine_17 rfl rfl rfl
  · rw [if_neg c4] at hres
    refine G.iconst (pc := 7) (v := (1 : Int32)) dm_X0_faultOfLine_7 qi_1 ?_
    subst hres
    exact G.ireturn (pc := 8) dm_X0_faultOfLine_8 rfl rfl rfl
abbrev M_X0_keepLine : g_M := (cX0_keepLine, 2, RX0, none, { frames := 1, cells := 0, slots := 0, locals := 23 }, 0, 0)
theorem dm_X0_keepLine_0 : decode M_X0_keepLine.1 0 = .ok (.aload_n 0, 1) := by decide +kernel
theorem dm_X0_keepLine_1 : decode M_X0_keepLine.1 1 = .ok (.getfield 77, 3) := by decide +kernel
theorem dm_X0_keepLine_4 : decode M_X0_keepLine.1 4 = .ok (.lconst 0, 1) := by decide +kernel
theorem dm_X0_keepLine_5 : decode M_X0_keepLine.1 5 = .ok (.lcmp, 1) := by decide +kernel
theorem dm_X0_keepLine_6 : decode M_X0_keepLine.1 6 = .ok (.ifCond .eq 18, 3) := by decide +kernel
theorem dm_X0_keepLine_9 : decode M_X0_keepLine.1 9 = .ok (.aload_n 0, 1) := by decide +kernel
theorem dm_X0_keepLine_10 : decode M_X0_keepLine.1 10 = .ok (.getfield 25, 3) := by decide +kernel
theorem dm_X0_keepLine_13 : decode M_X0_keepLine.1 13 = .ok (.aload_n 0, 1) := by decide +kernel
theorem dm_X0_keepLine_14 : decode M_X0_keepLine.1 14 = .ok (.getfield 77, 3) := by decide +kernel
theorem dm_X0_keepLine_17 : decode M_X0_keepLine.1 17 = .ok (.aload_n 0, 1) := by decide +kernel
theorem dm_X0_keepLine_18 : decode M_X0_keepLine.1 18 = .ok (.getfield 45, 3) := by decide +kernel
theorem dm_X0_keepLine_21 : decode M_X0_keepLine.1 21 = .ok (.invokevirtual 115, 3) := by decide +kernel
theorem dm_X0_keepLine_24 : decode M_X0_keepLine.1 24 = .ok (.aload_n 0, 1) := by decide +kernel
theorem dm_X0_keepLine_25 : decode M_X0_keepLine.1 25 = .ok (.getfield 81, 3) := by decide +kernel
theorem dm_X0_keepLine_28 : decode M_X0_keepLine.1 28 = .ok (.ifCond .eq 59, 3) := by decide +kernel
theorem dm_X0_keepLine_31 : decode M_X0_keepLine.1 31 = .ok (.aload_n 0, 1) := by decide +kernel
theorem dm_X0_keepLine_32 : decode M_X0_keepLine.1 32 = .ok (.getfield 45, 3) := by decide +kernel
theorem dm_X0_keepLine_35 : decode M_X0_keepLine.1 35 = .ok (.sipush 128, 3) := by decide +kernel
theorem dm_X0_keepLine_38 : decode M_X0_keepLine.1 38 = .ok (.if_icmp .ge 49, 3) := by decide +kernel
theorem dm_X0_keepLine_41 : decode M_X0_keepLine.1 41 = .ok (.aload_n 0, 1) := by decide +kernel
theorem dm_X0_keepLine_42 : decode M_X0_keepLine.1 42 = .ok (.getfield 9, 3) := by decide +kernel
theorem dm_X0_keepLine_45 : decode M_X0_keepLine.1 45 = .ok (.aload_n 0, 1) := by decide +kernel
theorem dm_X0_keepLine_46 : decode M_X0_keepLine.1 46 = .ok (.getfield 45, 3) := by decide +kernel
theorem dm_X0_keepLine_49 : decode M_X0_keepLine.1 49 = .ok (.aload_n 0, 1) := by decide +kernel
theorem dm_X0_keepLine_50 : decode M_X0_keepLine.1 50 = .ok (.getfield 85, 3) := by decide +kernel
theorem dm_X0_keepLine_53 : decode M_X0_keepLine.1 53 = .ok (.iastore, 1) := by decide +kernel
theorem dm_X0_keepLine_54 : decode M_X0_keepLine.1 54 = .ok (.aload_n 0, 1) := by decide +kernel
theorem dm_X0_keepLine_55 : decode M_X0_keepLine.1 55 = .ok (.getfield 15, 3) := by decide +kernel
theorem dm_X0_keepLine_58 : decode M_X0_keepLine.1 58 = .ok (.aload_n 0, 1) := by decide +kernel
theorem dm_X0_keepLine_59 : decode M_X0_keepLine.1 59 = .ok (.getfield 45, 3) := by decide +kernel
theorem dm_X0_keepLine_62 : decode M_X0_keepLine.1 62 = .ok (.aload_n 0, 1) := by decide +kernel
theorem dm_X0_keepLine_63 : decode M_X0_keepLine.1 63 = .ok (.getfield 88, 3) := by decide +kernel
theorem dm_X0_keepLine_66 : decode M_X0_keepLine.1 66 = .ok (.lastore, 1) := by decide +kernel
theorem dm_X0_keepLine_67 : decode M_X0_keepLine.1 67 = .ok (.aload_n 0, 1) := by decide +kernel
theorem dm_X0_keepLine_68 : decode M_X0_keepLine.1 68 = .ok (.getfield 19, 3) := by decide +kernel
theorem dm_X0_keepLine_71 : decode M_X0_keepLine.1 71 = .ok (.aload_n 0, 1) := by decide +kernel
theorem dm_X0_keepLine_72 : decode M_X0_keepLine.1 72 = .ok (.getfield 45, 3) := by decide +kernel
theorem dm_X0_keepLine_75 : decode M_X0_keepLine.1 75 = .ok (.iload_n 1, 1) := by decide +kernel
theorem dm_X0_keepLine_76 : decode M_X0_keepLine.1 76 = .ok (.iastore, 1) := by decide +kernel
theorem dm_X0_keepLine_77 : decode M_X0_keepLine.1 77 = .ok (.aload_n 0, 1) := by decide +kernel
theorem dm_X0_keepLine_78 : decode M_X0_keepLine.1 78 = .ok (.dup, 1) := by decide +kernel
theorem dm_X0_keepLine_79 : decode M_X0_keepLine.1 79 = .ok (.getfield 45, 3) := by decide +kernel
theorem dm_X0_keepLine_82 : decode M_X0_keepLine.1 82 = .ok (.iconst 1, 1) := by decide +kernel
theorem dm_X0_keepLine_83 : decode M_X0_keepLine.1 83 = .ok (.iadd, 1) := by decide +kernel
theorem dm_X0_keepLine_84 : decode M_X0_keepLine.1 84 = .ok (.putfield 45, 3) := by decide +kernel
theorem dm_X0_keepLine_87 : decode M_X0_keepLine.1 87 = .ok (.return_, 1) := by decide +kernel
theorem gc_X0_keepLine_115 : g_cv M_X0_keepLine 115 M_X3_add yX3_add 2 := ⟨tw389, tw390, tw391, tw81, tw392, ⟨rfl, rfl, rfl, rfl⟩, gd_X3_add, ⟨by decide, by decide⟩⟩
def f_X0_keepLine_24 (acount : Int32) (ahas : Int32) (aword : Int32) (atarget : Int64) (awords : Nat → Int32) (atargets : Nat → Int64) (alines : Nat → Int32) (lcount : Int32) (lkeys : Nat → Int64) (lplaces : Nat → Int32) (l1 : Int32) : Int32 × (Nat → Int32) × (Nat → Int64) × (Nat → Int32) × Int32 × (Nat → Int64) × (Nat → Int32) := (if ahas = 0 then (acount, awords, atargets, alines, lcount, lkeys, lplaces) else (if (128 : Int32) ≤ acount then (acount, awords, atargets, alines, lcount, lkeys, lplaces) else ((acount + (1 : Int32)), (upd awords (Int32.toNatClampNeg acount) aword), (vp_updL atargets (Int32.toNatClampNeg acount) atarget), (upd alines (Int32.toNatClampNeg acount) l1), lcount, lkeys, lplaces)))
set_option maxRecDepth 20000 in
theorem j_X0_keepLine_24 {l1 : Int32} {acount : Int32} {afk : Int32} {afl : Int32} {aat : Int32} {alabel : Int64} {ahas : Int32} {aword : Int32} {atarget : Int64} {amal : Int32} {amis : Int32} {awords : Nat → Int32} {atargets : Nat → Int64} {alines : Nat → Int32} {lcount : Int32} {lkeys : Nat → Int64} {lplaces : Nat → Int32} {kcount : Int32} {klen : Int32} {kat : Int32} {kinds : Nat → Int32} {kvals : Nat → Int64} {tchars : Nat → Int32} {r_0 : Int32} {r_1 : (Nat → Int32)} {r_2 : (Nat → Int64)} {r_3 : (Nat → Int32)} {r_4 : Int32} {r_5 : (Nat → Int64)} {r_6 : (Nat → Int32)} (hres : (r_0, r_1, r_2, r_3, r_4, r_5, r_6) = (f_X0_keepLine_24 acount ahas aword atarget awords atargets alines lcount lkeys lplaces l1)) (hac : 0 ≤ acount.toInt ∧ acount.toInt ≤ 128) : G M_X0_keepLine 0 0 24 [(0, .ref 0), (1, .int l1)] [] (w_A acount afk afl aat alabel ahas aword atarget amal amis awords atargets alines lcount lkeys lplaces kcount klen kat kinds kvals tchars) (none) (w_A r_0 afk afl aat alabel ahas aword atarget amal amis r_1 r_2 r_3 r_4 r_5 r_6 kcount klen kat kinds kvals tchars) := by
  rw [f_X0_keepLine_24] at hres
  refine G.aload_n (pc := 24) dm_X0_keepLine_24 rfl ?_
  refine G.getfield (pc := 25) dm_X0_keepLine_25 gf_X0_81 rfl rfl ?_
  refine G.if_eq (pc := 28) (tgt := 87) dm_X0_keepLine_28 (by decide) (fun c28 => ?_) (fun c28 => ?_)
  · rw [if_pos c28] at hres
    cases hres
    exact G.vreturn (pc := 87) dm_X0_keepLine_87 rfl rfl rfl
  · rw [if_neg c28] at hres
    refine G.aload_n (pc := 31) dm_X0_keepLine_31 rfl ?_
    refine G.getfield (pc := 32) dm_X0_keepLine_32 gf_X0_45 rfl rfl ?_
    refine G.sipush (pc := 35) (v := (128 : Int32)) dm_X0_keepLine_35 qs_128 ?_
    refine G.icmp_ge (pc := 38) (tgt := 87) dm_X0_keepLine_38 (by decide) (fun c38 => ?_) (fun c38 => ?_)
    · rw [if_pos c38] at hres
      cases hres
      exact G.vreturn (pc := 87) dm_X0_keepLine_87 rfl rfl rfl
    · rw [if_neg c38] at hres
      refine G.aload_n (pc := 41) dm_X0_keepLine_41 rfl ?_
      refine G.getfield (pc := 42) dm_X0_keepLine_42 gf_X0_9 rfl rfl ?_
      refine G.aload_n (pc := 45) dm_X0_keepLine_45 rfl ?_
      refine G.getfield (pc := 46) dm_X0_keepLine_46 gf_X0_45 rfl rfl ?_
      refine G.aload_n (pc := 49) dm_X0_keepLine_49 rfl ?_
      refine G.getfield (pc := 50) dm_X0_keepLine_50 gf_X0_85 rfl rfl ?_
      refine G.iastore (pc := 53) (ws1 := (w_A acount afk afl aat alabel ahas aword atarget amal amis (upd awords (Int32.toNatClampNeg acount) aword) atargets alines lcount lkeys lplaces kcount klen kat kinds kvals tchars)) dm_X0_keepLine_53 rfl (q_in hac.1 (q_128 c38)) rfl ?_
      refine G.aload_n (pc := 54) dm_X0_keepLine_54 rfl ?_
      refine G.getfield (pc := 55) dm_X0_keepLine_55 gf_X0_15 rfl rfl ?_
      refine G.aload_n (pc := 58) dm_X0_keepLine_58 rfl ?_
      refine G.getfield (pc := 59) dm_X0_keepLine_59 gf_X0_45 rfl rfl ?_
      refine G.aload_n (pc := 62) dm_X0_keepLine_62 rfl ?_
      refine G.getfield (pc := 63) dm_X0_keepLine_63 gf_X0_88 rfl rfl ?_
      refine G.lastore (pc := 66) (ws1 := (w_A acount afk afl aat alabel ahas aword atarget amal amis (upd awords (Int32.toNatClampNeg acount) aword) (vp_updL atargets (Int32.toNatClampNeg acount) atarget) alines lcount lkeys lplaces kcount klen kat kinds kvals tchars)) dm_X0_keepLine_66 rfl (q_in hac.1 (q_128 c38)) rfl ?_
      refine G.aload_n (pc := 67) dm_X0_keepLine_67 rfl ?_
      refine G.getfield (pc := 68) dm_X0_keepLine_68 gf_X0_19 rfl rfl ?_
      refine G.aload_n (pc := 71) dm_X0_keepLine_71 rfl ?_
      refine G.getfield (pc := 72) dm_X0_keepLine_72 gf_X0_45 rfl rfl ?_
      refine G.iload_n (pc := 75) dm_X0_keepLine_75 rfl ?_
      refine G.iastore (pc := 76) (ws1 := (w_A acount afk afl aat alabel ahas aword atarget amal amis (upd awords (Int32.toNatClampNeg acount) aword) (vp_updL atargets (Int32.toNatClampNeg acount) atarget) (upd alines (Int32.toNatClampNeg acount) l1) lcount lkeys lplaces kcount klen kat kinds kvals tchars)) dm_X0_keepLine_76 rfl (q_in hac.1 (q_128 c38)) rfl ?_
      refine G.aload_n (pc := 77) dm_X0_keepLine_77 rfl ?_
      refine G.dup (pc := 78) dm_X0_keepLine_78 rfl ?_
      refine G.getfield (pc := 79) dm_X0_keepLine_79 gf_X0_45 rfl rfl ?_
      refine G.iconst (pc := 82) (v := (1 : Int32)) dm_X0_keepLine_82 qi_1 ?_
      refine G.iadd (pc := 83) dm_X0_keepLine_83 ?_
      refine G.putfield (pc := 84) (ws1 := (w_A (acount + (1 : Int32)) afk afl aat alabel ahas aword atarget amal amis (upd awords (Int32.toNatClampNeg acount) aword) (vp_updL atargets (Int32.toNatClampNeg acount) atarget) (upd alines (Int32.toNatClampNeg acount) l1) lcount lkeys lplaces kcount klen kat kinds kvals tchars)) dm_X0_keepLine_84 gw_X0_45 rfl (g_fit_i _) rfl rfl ?_
      cases hres
      exact G.vreturn (pc := 87) dm_X0_keepLine_87 rfl rfl rfl
def f_X0_keepLine_c21 (line : Int32) (acount : Int32) (ahas : Int32) (aword : Int32) (atarget : Int64) (awords : Nat → Int32) (atargets : Nat → Int64) (alines : Nat → Int32) (z1_0 : Int32) (z1_1 : (Nat → Int64)) (z1_2 : (Nat → Int32)) : Int32 × (Nat → Int32) × (Nat → Int64) × (Nat → Int32) × Int32 × (Nat → Int64) × (Nat → Int32) := (f_X0_keepLine_24 acount ahas aword atarget awords atargets alines z1_0 z1_1 z1_2 line)
def f_X0_keepLine (line : Int32) (acount : Int32) (alabel : Int64) (ahas : Int32) (aword : Int32) (atarget : Int64) (awords : Nat → Int32) (atargets : Nat → Int64) (alines : Nat → Int32) (lcount : Int32) (lkeys : Nat → Int64) (lplaces : Nat → Int32) : Int32 × (Nat → Int32) × (Nat → Int64) × (Nat → Int32) × Int32 × (Nat → Int64) × (Nat → Int32) := (if (lg_cmp alabel (0 : Int64)) = 0 then (f_X0_keepLine_24 acount ahas aword atarget awords atargets alines lcount lkeys lplaces line) else (f_X0_keepLine_c21 line acount ahas aword atarget awords atargets alines (f_X3_add alabel acount lcount lkeys lplaces).1 (f_X3_add alabel acount lcount lkeys lplaces).2.1 (f_X3_add alabel acount lcount lkeys lplaces).2.2))
set_option maxRecDepth 20000 in
theorem k_X0_keepLine {line : Int32} {acount : Int32} {afk : Int32} {afl : Int32} {aat : Int32} {alabel : Int64} {ahas : Int32} {aword : Int32} {atarget : Int64} {amal : Int32} {amis : Int32} {awords : Nat → Int32} {atargets : Nat → Int64} {alines : Nat → Int32} {lcount : Int32} {lkeys : Nat → Int64} {lplaces : Nat → Int32} {kcount : Int32} {klen : Int32} {kat : Int32} {kinds : Nat → Int32} {kvals : Nat → Int64} {tchars : Nat → Int32} (hac : 0 ≤ acount.toInt ∧ acount.toInt ≤ 128) (hlc : 0 ≤ lcount.toInt ∧ lcount.toInt ≤ 16) {r_0 : Int32} {r_1 : (Nat → Int32)} {r_2 : (Nat → Int64)} {r_3 : (Nat → Int32)} {r_4 : Int32} {r_5 : (Nat → Int64)} {r_6 : (Nat → Int32)} (hres : (r_0, r_1, r_2, r_3, r_4, r_5, r_6) = f_X0_keepLine line acount alabel ahas aword atarget awords atargets alines lcount lkeys lplaces) : K M_X0_keepLine yX0_keepLine [.ref 0, .int line] (w_A acount afk afl aat alabel ahas aword atarget amal amis awords atargets alines lcount lkeys lplaces kcount klen kat kinds kvals tchars) (none) (w_A r_0 afk afl aat alabel ahas aword atarget amal amis r_1 r_2 r_3 r_4 r_5 r_6 kcount klen kat kinds kvals tchars) := by
  refine K.of (lv := [(0, .ref 0), (1, .int line)]) (by decide +kernel) rfl rfl rfl ?_
  rw [f_X0_keepLine] at hres
  refine G.aload_n (pc := 0) dm_X0_keepLine_0 rfl ?_
  refine G.getfield (pc := 1) dm_X0_keepLine_1 gf_X0_77 rfl rfl ?_
  refine G.lconst (pc := 4) (v := (0 : Int64)) dm_X0_keepLine_4 (by decide) ?_
  refine G.lcmp (pc := 5) dm_X0_keepLine_5 ?_
  refine G.if_eq (pc := 6) (tgt := 24) dm_X0_keepLine_6 (by decide) (fun c6 => ?_) (fun c6 => ?_)
  · rw [if_pos c6] at hres
    exact j_X0_keepLine_24 hres (by assumption)
  · rw [if_neg c6] at hres
    refine G.aload_n (pc := 9) dm_X0_keepLine_9 rfl ?_
    refine G.getfield (pc := 10) dm_X0_keepLine_10 gf_X0_25 rfl rfl ?_
    refine G.aload_n (pc := 13) dm_X0_keepLine_13 rfl ?_
    refine G.getfield (pc := 14) dm_X0_keepLine_14 gf_X0_77 rfl rfl ?_
    refine G.aload_n (pc := 17) dm_X0_keepLine_17 rfl ?_
    refine G.getfield (pc := 18) dm_X0_keepLine_18 gf_X0_45 rfl rfl ?_
    obtain ⟨z1_0, z1_1, z1_2, hz1⟩ := g_ex3 (f_X3_add alabel acount lcount lkeys lplaces)
    refine G.callV (pc := 21) (rest := []) (st1 := []) (ws1 := (w_A acount afk afl aat alabel ahas aword atarget amal amis awords atargets alines z1_0 z1_1 z1_2 kcount klen kat kinds kvals tchars)) [4, 5, 6] dm_X0_keepLine_21 gc_X0_keepLine_115 (k_X3_add (key := alabel) (place := acount) (lcount := lcount) (lkeys := lkeys) (lplaces := lplaces) (by assumption) hz1) rfl rfl rfl rfl rfl rfl rfl rfl rfl rfl ?_
    replace hres : (r_0, r_1, r_2, r_3, r_4, r_5, r_6) = f_X0_keepLine_c21 line acount ahas aword atarget awords atargets alines z1_0 z1_1 z1_2 := hres.trans (by rw [← hz1])
    rw [f_X0_keepLine_c21] at hres
    exact j_X0_keepLine_24 hres (by assumption)
theorem a_X0_keepLine_24 {l1 : Int32} {acount : Int32} {ahas : Int32} {aword : Int32} {atarget : Int64} {awords : Nat → Int32} {atargets : Nat → Int64} {alines : Nat → Int32} {lcount : Int32} {lkeys : Nat → Int64} {lplaces : Nat → Int32} {r_0 : Int32} {r_1 : (Nat → Int32)} {r_2 : (Nat → Int64)} {r_3 : (Nat → Int32)} {r_4 : Int32} {r_5 : (Nat → Int64)} {r_6 : (Nat → Int32)} (hres : (r_0, r_1, r_2, r_3, r_4, r_5, r_6) = (f_X0_keepLine_24 acount ahas aword atarget awords atargets alines lcount lkeys lplaces l1)) (hac : 0 ≤ acount.toInt ∧ acount.toInt ≤ 128) (hlc : 0 ≤ lcount.toInt ∧ lcount.toInt ≤ 16) : (0 ≤ r_0.toInt ∧ r_0.toInt ≤ 128) ∧ (0 ≤ r_4.toInt ∧ r_4.toInt ≤ 16) := by
  rw [f_X0_keepLine_24] at hres
  by_cases c28 : ahas = 0
  · rw [if_pos c28] at hres
    cases hres
    exact (by first | exact ⟨hac, hlc⟩ | exact ⟨q_up128 hac c38, hlc⟩)
  · rw [if_neg c28] at hres
    by_cases c38 : (128 : Int32) ≤ acount
    · rw [if_pos c38] at hres
      cases hres
      exact (by first | exact ⟨hac, hlc⟩ | exact ⟨q_up128 hac c38, hlc⟩)
    · rw [if_neg c38] at hres
      cases hres
      exact (by first | exact ⟨hac, hlc⟩ | exact ⟨q_up128 hac c38, hlc⟩)
theorem a_X0_keepLine {line : Int32} {acount : Int32} {alabel : Int64} {ahas : Int32} {aword : Int32} {atarget : Int64} {awords : Nat → Int32} {atargets : Nat → Int64} {alines : Nat → Int32} {lcount : Int32} {lkeys : Nat → Int64} {lplaces : Nat → Int32} {r_0 : Int32} {r_1 : (Nat → Int32)} {r_2 : (Nat → Int64)} {r_3 : (Nat → Int32)} {r_4 : Int32} {r_5 : (Nat → Int64)} {r_6 : (Nat → Int32)} (hres : (r_0, r_1, r_2, r_3, r_4, r_5, r_6) = f_X0_keepLine line acount alabel ahas aword atarget awords atargets alines lcount lkeys lplaces) (hac : 0 ≤ acount.toInt ∧ acount.toInt ≤ 128) (hlc : 0 ≤ lcount.toInt ∧ lcount.toInt ≤ 16) : (0 ≤ r_0.toInt ∧ r_0.toInt ≤ 128) ∧ (0 ≤ r_4.toInt ∧ r_4.toInt ≤ 16) := by
  rw [f_X0_keepLine] at hres
  by_cases c6 : (lg_cmp alabel (0 : Int64)) = 0
  · rw [if_pos c6] at hres
    exact a_X0_keepLine_24 hres (by assumption) (by assumption)
  · rw [if_neg c6] at hres
    obtain ⟨z1_0, z1_1, z1_2, hz1⟩ := g_ex3 (f_X3_add alabel acount lcount lkeys lplaces)
    have hlc := a_X3_add hz1 hlc
    replace hres : (r_0, r_1, r_2, r_3, r_4, r_5, r_6) = f_X0_keepLine_c21 line acount ahas aword atarget awords atargets alines z1_0 z1_1 z1_2 := hres.trans (by rw [← hz1])
    rw [f_X0_keepLine_c21] at hres
    exact a_X0_keepLine_24 hres (by assumption) (by assumption)
abbrev M_X0_resolveTargets : g_M := (cX0_resolveTargets, 5, RX0, none, { frames := 1, cells := 0, slots := 0, locals := 23 }, 0, 0)
theorem dm_X0_resolveTargets_0 : decode M_X0_resolveTargets.1 0 = .ok (.iconst 0, 1) := by decide +kernel
theorem dm_X0_resolveTargets_1 : decode M_X0_resolveTargets.1 1 = .ok (.istore_n 1, 1) := by decide +kernel
theorem dm_X0_resolveTargets_2 : decode M_X0_resolveTargets.1 2 = .ok (.iload_n 1, 1) := by decide +kernel
theorem dm_X0_resolveTargets_3 : decode M_X0_resolveTargets.1 3 = .ok (.aload_n 0, 1) := by decide +kernel
theorem dm_X0_resolveTargets_4 : decode M_X0_resolveTargets.1 4 = .ok (.getfield 45, 3) := by decide +kernel
theorem dm_X0_resolveTargets_7 : decode M_X0_resolveTargets.1 7 = .ok (.if_icmp .ge 105, 3) := by decide +kernel
theorem dm_X0_resolveTargets_10 : decode M_X0_resolveTargets.1 10 = .ok (.aload_n 0, 1) := by decide +kernel
theorem dm_X0_resolveTargets_11 : decode M_X0_resolveTargets.1 11 = .ok (.getfield 15, 3) := by decide +kernel
theorem dm_X0_resolveTargets_14 : decode M_X0_resolveTargets.1 14 = .ok (.iload_n 1, 1) := by decide +kernel
theorem dm_X0_resolveTargets_15 : decode M_X0_resolveTargets.1 15 = .ok (.laload, 1) := by decide +kernel
theorem dm_X0_resolveTargets_16 : decode M_X0_resolveTargets.1 16 = .ok (.lconst 0, 1) := by decide +kernel
theorem dm_X0_resolveTargets_17 : decode M_X0_resolveTargets.1 17 = .ok (.lcmp, 1) := by decide +kernel
theorem dm_X0_resolveTargets_18 : decode M_X0_resolveTargets.1 18 = .ok (.ifCond .ne 6, 3) := by decide +kernel
theorem dm_X0_resolveTargets_21 : decode M_X0_resolveTargets.1 21 = .ok (.goto 85, 3) := by decide +kernel
theorem dm_X0_resolveTargets_24 : decode M_X0_resolveTargets.1 24 = .ok (.aload_n 0, 1) := by decide +kernel
theorem dm_X0_resolveTargets_25 : decode M_X0_resolveTargets.1 25 = .ok (.getfield 25, 3) := by decide +kernel
theorem dm_X0_resolveTargets_28 : decode M_X0_resolveTargets.1 28 = .ok (.aload_n 0, 1) := by decide +kernel
theorem dm_X0_resolveTargets_29 : decode M_X0_resolveTargets.1 29 = .ok (.getfield 15, 3) := by decide +kernel
theorem dm_X0_resolveTargets_32 : decode M_X0_resolveTargets.1 32 = .ok (.iload_n 1, 1) := by decide +kernel
theorem dm_X0_resolveTargets_33 : decode M_X0_resolveTargets.1 33 = .ok (.laload, 1) := by decide +kernel
theorem dm_X0_resolveTargets_34 : decode M_X0_resolveTargets.1 34 = .ok (.invokevirtual 112, 3) := by decide +kernel
theorem dm_X0_resolveTargets_37 : decode M_X0_resolveTargets.1 37 = .ok (.istore_n 2, 1) := by decide +kernel
theorem dm_X0_resolveTargets_38 : decode M_X0_resolveTargets.1 38 = .ok (.iload_n 2, 1) := by decide +kernel
theorem dm_X0_resolveTargets_39 : decode M_X0_resolveTargets.1 39 = .ok (.ifCond .ge 15, 3) := by decide +kernel
theorem dm_X0_resolveTargets_42 : decode M_X0_resolveTargets.1 42 = .ok (.aload_n 0, 1) := by decide +kernel
theorem dm_X0_resolveTargets_43 : decode M_X0_resolveTargets.1 43 = .ok (.iconst 3, 1) := by decide +kernel
theorem dm_X0_resolveTargets_44 : decode M_X0_resolveTargets.1 44 = .ok (.aload_n 0, 1) := by decide +kernel
theorem dm_X0_resolveTargets_45 : decode M_X0_resolveTargets.1 45 = .ok (.getfield 19, 3) := by decide +kernel
theorem dm_X0_resolveTargets_48 : decode M_X0_resolveTargets.1 48 = .ok (.iload_n 1, 1) := by decide +kernel
theorem dm_X0_resolveTargets_49 : decode M_X0_resolveTargets.1 49 = .ok (.iaload, 1) := by decide +kernel
theorem dm_X0_resolveTargets_50 : decode M_X0_resolveTargets.1 50 = .ok (.invokevirtual 66, 3) := by decide +kernel
theorem dm_X0_resolveTargets_53 : decode M_X0_resolveTargets.1 53 = .ok (.return_, 1) := by decide +kernel
theorem dm_X0_resolveTargets_54 : decode M_X0_resolveTargets.1 54 = .ok (.iconst 4, 1) := by decide +kernel
theorem dm_X0_resolveTargets_55 : decode M_X0_resolveTargets.1 55 = .ok (.iload_n 2, 1) := by decide +kernel
theorem dm_X0_resolveTargets_56 : decode M_X0_resolveTargets.1 56 = .ok (.iload_n 1, 1) := by decide +kernel
theorem dm_X0_resolveTargets_57 : decode M_X0_resolveTargets.1 57 = .ok (.isub, 1) := by decide +kernel
theorem dm_X0_resolveTargets_58 : decode M_X0_resolveTargets.1 58 = .ok (.imul, 1) := by decide +kernel
theorem dm_X0_resolveTargets_59 : decode M_X0_resolveTargets.1 59 = .ok (.istore_n 3, 1) := by decide +kernel
theorem dm_X0_resolveTargets_60 : decode M_X0_resolveTargets.1 60 = .ok (.aload_n 0, 1) := by decide +kernel
theorem dm_X0_resolveTargets_61 : decode M_X0_resolveTargets.1 61 = .ok (.getfield 9, 3) := by decide +kernel
theorem dm_X0_resolveTargets_64 : decode M_X0_resolveTargets.1 64 = .ok (.iload_n 1, 1) := by decide +kernel
theorem dm_X0_resolveTargets_65 : decode M_X0_resolveTargets.1 65 = .ok (.iaload, 1) := by decide +kernel
theorem dm_X0_resolveTargets_66 : decode M_X0_resolveTargets.1 66 = .ok (.invokestatic 196, 3) := by decide +kernel
theorem dm_X0_resolveTargets_69 : decode M_X0_resolveTargets.1 69 = .ok (.bipush 111, 2) := by decide +kernel
theorem dm_X0_resolveTargets_71 : decode M_X0_resolveTargets.1 71 = .ok (.if_icmp .ne 7, 3) := by decide +kernel
theorem dm_X0_resolveTargets_74 : decode M_X0_resolveTargets.1 74 = .ok (.iconst 1, 1) := by decide +kernel
theorem dm_X0_resolveTargets_75 : decode M_X0_resolveTargets.1 75 = .ok (.goto 4, 3) := by decide +kernel
theorem dm_X0_resolveTargets_78 : decode M_X0_resolveTargets.1 78 = .ok (.iconst 0, 1) := by decide +kernel
theorem dm_X0_resolveTargets_79 : decode M_X0_resolveTargets.1 79 = .ok (.istore 4, 2) := by decide +kernel
theorem dm_X0_resolveTargets_81 : decode M_X0_resolveTargets.1 81 = .ok (.aload_n 0, 1) := by decide +kernel
theorem dm_X0_resolveTargets_82 : decode M_X0_resolveTargets.1 82 = .ok (.getfield 9, 3) := by decide +kernel
theorem dm_X0_resolveTargets_85 : decode M_X0_resolveTargets.1 85 = .ok (.iload_n 1, 1) := by decide +kernel
theorem dm_X0_resolveTargets_86 : decode M_X0_resolveTargets.1 86 = .ok (.dup2, 1) := by decide +kernel
theorem dm_X0_resolveTargets_87 : decode M_X0_resolveTargets.1 87 = .ok (.iaload, 1) := by decide +kernel
theorem dm_X0_resolveTargets_88 : decode M_X0_resolveTargets.1 88 = .ok (.iload 4, 2) := by decide +kernel
theorem dm_X0_resolveTargets_90 : decode M_X0_resolveTargets.1 90 = .ok (.ifCond .eq 10, 3) := by decide +kernel
theorem dm_X0_resolveTargets_93 : decode M_X0_resolveTargets.1 93 = .ok (.iload_n 3, 1) := by decide +kernel
theorem dm_X0_resolveTargets_94 : decode M_X0_resolveTargets.1 94 = .ok (.invokestatic 193, 3) := by decide +kernel
theorem dm_X0_resolveTargets_97 : decode M_X0_resolveTargets.1 97 = .ok (.goto 7, 3) := by decide +kernel
theorem dm_X0_resolveTargets_100 : decode M_X0_resolveTargets.1 100 = .ok (.iload_n 3, 1) := by decide +kernel
theorem dm_X0_resolveTargets_101 : decode M_X0_resolveTargets.1 101 = .ok (.invokestatic 186, 3) := by decide +kernel
theorem dm_X0_resolveTargets_104 : decode M_X0_resolveTargets.1 104 = .ok (.ior, 1) := by decide +kernel
theorem dm_X0_resolveTargets_105 : decode M_X0_resolveTargets.1 105 = .ok (.iastore, 1) := by decide +kernel
theorem dm_X0_resolveTargets_106 : decode M_X0_resolveTargets.1 106 = .ok (.iinc 1 1, 3) := by decide +kernel
theorem dm_X0_resolveTargets_109 : decode M_X0_resolveTargets.1 109 = .ok (.goto (-107), 3) := by decide +kernel
theorem dm_X0_resolveTargets_112 : decode M_X0_resolveTargets.1 112 = .ok (.return_, 1) := by decide +kernel
theorem gc_X0_resolveTargets_112 : g_cv M_X0_resolveTargets 112 M_X3_find yX3_find 1 := ⟨tw376, tw377, tw378, tw81, tw379, ⟨rfl, rfl, rfl, rfl⟩, gd_X3_find, ⟨by decide, by decide⟩⟩
theorem gc_X0_resolveTargets_66 : g_cv M_X0_resolveTargets 66 M_X0_setFault yX0_setFault 2 := ⟨tw381, tw382, tw383, tw39, tw384, ⟨rfl, rfl, rfl, rfl⟩, gd_X0_setFault, ⟨by decide, by decide⟩⟩
theorem gc_X0_resolveTargets_196 : g_cs M_X0_resolveTargets 196 M_X1_op yX1_op 1 := ⟨tw397, tw398, tw359, tw399, ⟨rfl, rfl, rfl, rfl⟩, gd_X1_op, ⟨by decide, by decide⟩⟩
theorem gc_X0_resolveTargets_193 : g_cs M_X0_resolveTargets 193 M_X1_bitsOfJ yX1_bitsOfJ 1 := ⟨tw368, tw369, tw359, tw370, ⟨rfl, rfl, rfl, rfl⟩, gd_X1_bitsOfJ, ⟨by decide, by decide⟩⟩
theorem gc_X0_resolveTargets_186 : g_cs M_X0_resolveTargets 186 M_X1_bitsOfB yX1_bitsOfB 1 := ⟨tw365, tw366, tw359, tw367, ⟨rfl, rfl, rfl, rfl⟩, gd_X1_bitsOfB, ⟨by decide, by decide⟩⟩
def f_X0_resolveTargets_106 (afk : Int32) (afl : Int32) (awords : Nat → Int32) (l1 : Int32) (kL2 : Int32 → Int32 → Int32 → (Nat → Int32) → Int32 × Int32 × (Nat → Int32)) : Int32 × Int32 × (Nat → Int32) := (kL2 (l1 + (1 : Int32)) afk afl awords)
set_option maxRecDepth 20000 in
theorem j_X0_resolveTargets_106 {l1 : Int32} {acount : Int32} {afk : Int32} {afl : Int32} {aat : Int32} {alabel : Int64} {ahas : Int32} {aword : Int32} {atarget : Int64} {amal : Int32} {amis : Int32} {awords : Nat → Int32} {atargets : Nat → Int64} {alines : Nat → Int32} {lcount : Int32} {lkeys : Nat → Int64} {lplaces : Nat → Int32} {kcount : Int32} {klen : Int32} {kat : Int32} {kinds : Nat → Int32} {kvals : Nat → Int64} {tchars : Nat → Int32} {kL2 : Int32 → Int32 → Int32 → (Nat → Int32) → Int32 × Int32 × (Nat → Int32)} {r_0 : Int32} {r_1 : Int32} {r_2 : (Nat → Int32)} (hres : (r_0, r_1, r_2) = (f_X0_resolveTargets_106 afk afl awords l1 kL2)) (hac : 0 ≤ acount.toInt ∧ acount.toInt ≤ 128) (hlc : 0 ≤ lcount.toInt ∧ lcount.toInt ≤ 16) (h1 : 0 ≤ l1.toInt) (hlt : l1.toInt < acount.toInt) {mu : Nat} (hmu : (128 - l1.toInt.toNat) = mu) (hk2 : ∀ {l1 : Int32} {afk : Int32} {afl : Int32} {awords : Nat → Int32}, (0 ≤ acount.toInt ∧ acount.toInt ≤ 128) → (0 ≤ lcount.toInt ∧ lcount.toInt ≤ 16) → (0 ≤ l1.toInt) → (128 - l1.toInt.toNat) < mu → (r_0, r_1, r_2) = kL2 l1 afk afl awords → G M_X0_resolveTargets 0 0 2 [(0, .ref 0), (1, .int l1)] [] (w_A acount afk afl aat alabel ahas aword atarget amal amis awords atargets alines lcount lkeys lplaces kcount klen kat kinds kvals tchars) (none) (w_A acount r_0 r_1 aat alabel ahas aword atarget amal amis r_2 atargets alines lcount lkeys lplaces kcount klen kat kinds kvals tchars)) : G M_X0_resolveTargets 0 0 106 [(0, .ref 0), (1, .int l1)] [] (w_A acount afk afl aat alabel ahas aword atarget amal amis awords atargets alines lcount lkeys lplaces kcount klen kat kinds kvals tchars) (none) (w_A acount r_0 r_1 aat alabel ahas aword atarget amal amis r_2 atargets alines lcount lkeys lplaces kcount klen kat kinds kvals tchars) := by
  rw [f_X0_resolveTargets_106] at hres
  refine G.iinc (pc := 106) (v := (l1 + (1 : Int32))) (lv1 := [(1, .int (l1 + (1 : Int32))), (0, .ref 0)]) dm_X0_resolveTargets_106 rfl rfl rfl rfl ?_
  refine G.goto (pc := 109) (tgt := 2) dm_X0_resolveTargets_109 (by decide) ?_
  refine G.lvp [1, 0] rfl ?_
  exact hk2 hac hlc (by rw [q_inc (by omega)]; omega) (by rw [q_inc (by omega)]; omega) hres
def f_X0_resolveTargets_104 (afk : Int32) (afl : Int32) (awords : Nat → Int32) (l1 : Int32) (kL2 : Int32 → Int32 → Int32 → (Nat → Int32) → Int32 × Int32 × (Nat → Int32)) (s1 : Int32) (s2 : Int32) (s3 : Int32) : Int32 × Int32 × (Nat → Int32) := (f_X0_resolveTargets_106 afk afl (upd awords (Int32.toNatClampNeg s1) (s2 ||| s3)) l1 kL2)
set_option maxRecDepth 20000 in
theorem j_X0_resolveTargets_104 {l1 : Int32} {s1 : Int32} {s2 : Int32} {s3 : Int32} {acount : Int32} {afk : Int32} {afl : Int32} {aat : Int32} {alabel : Int64} {ahas : Int32} {aword : Int32} {atarget : Int64} {amal : Int32} {amis : Int32} {awords : Nat → Int32} {atargets : Nat → Int64} {alines : Nat → Int32} {lcount : Int32} {lkeys : Nat → Int64} {lplaces : Nat → Int32} {kcount : Int32} {klen : Int32} {kat : Int32} {kinds : Nat → Int32} {kvals : Nat → Int64} {tchars : Nat → Int32} {kL2 : Int32 → Int32 → Int32 → (Nat → Int32) → Int32 × Int32 × (Nat → Int32)} {r_0 : Int32} {r_1 : Int32} {r_2 : (Nat → Int32)} (hres : (r_0, r_1, r_2) = (f_X0_resolveTargets_104 afk afl awords l1 kL2 s1 s2 s3)) (hac : 0 ≤ acount.toInt ∧ acount.toInt ≤ 128) (hlc : 0 ≤ lcount.toInt ∧ lcount.toInt ≤ 16) (h1 : 0 ≤ l1.toInt) (hlt : l1.toInt < acount.toInt) (hs1 : vp_in s1 128) {mu : Nat} (hmu : (128 - l1.toInt.toNat) = mu) (hk2 : ∀ {l1 : Int32} {afk : Int32} {afl : Int32} {awords : Nat → Int32}, (0 ≤ acount.toInt ∧ acount.toInt ≤ 128) → (0 ≤ lcount.toInt ∧ lcount.toInt ≤ 16) → (0 ≤ l1.toInt) → (128 - l1.toInt.toNat) < mu → (r_0, r_1, r_2) = kL2 l1 afk afl awords → G M_X0_resolveTargets 0 0 2 [(0, .ref 0), (1, .int l1)] [] (w_A acount afk afl aat alabel ahas aword atarget amal amis awords atargets alines lcount lkeys lplaces kcount klen kat kinds kvals tchars) (none) (w_A acount r_0 r_1 aat alabel ahas aword atarget amal amis r_2 atargets alines lcount lkeys lplaces kcount klen kat kinds kvals tchars)) : G M_X0_resolveTargets 0 0 104 [(0, .ref 0), (1, .int l1)] [.int s3, .int s2, .int s1, .ref 1] (w_A acount afk afl aat alabel ahas aword atarget amal amis awords atargets alines lcount lkeys lplaces kcount klen kat kinds kvals tchars) (none) (w_A acount r_0 r_1 aat alabel ahas aword atarget amal amis r_2 atargets alines lcount lkeys lplaces kcount klen kat kinds kvals tchars) := by
  rw [f_X0_resolveTargets_104] at hres
  refine G.ior (pc := 104) dm_X0_resolveTargets_104 ?_
  refine G.iastore (pc := 105) (ws1 := (w_A acount afk afl aat alabel ahas aword atarget amal amis (upd awords (Int32.toNatClampNeg s1) (s2 ||| s3)) atargets alines lcount lkeys lplaces kcount klen kat kinds kvals tchars)) dm_X0_resolveTargets_105 rfl hs1 rfl ?_
  exact j_X0_resolveTargets_106 hres (by assumption) (by assumption) (by assumption) (by assumption) hmu hk2
def f_X0_resolveTargets_c101 (afk : Int32) (afl : Int32) (awords : Nat → Int32) (l1 : Int32) (kL2 : Int32 → Int32 → Int32 → (Nat → Int32) → Int32 × Int32 × (Nat → Int32)) (z3_0 : Int32) : Int32 × Int32 × (Nat → Int32) := (f_X0_resolveTargets_104 afk afl awords l1 kL2 l1 (awords (Int32.toNatClampNeg l1)) z3_0)
def f_X0_resolveTargets_c94 (afk : Int32) (afl : Int32) (awords : Nat → Int32) (l1 : Int32) (kL2 : Int32 → Int32 → Int32 → (Nat → Int32) → Int32 × Int32 × (Nat → Int32)) (z4_0 : Int32) : Int32 × Int32 × (Nat → Int32) := (f_X0_resolveTargets_104 afk afl awords l1 kL2 l1 (awords (Int32.toNatClampNeg l1)) z4_0)
def f_X0_resolveTargets_79 (afk : Int32) (afl : Int32) (awords : Nat → Int32) (l1 : Int32) (kL2 : Int32 → Int32 → Int32 → (Nat → Int32) → Int32 × Int32 × (Nat → Int32)) (l3 : Int32) (s0 : Int32) : Int32 × Int32 × (Nat → Int32) := (if s0 = 0 then (f_X0_resolveTargets_c101 afk afl awords l1 kL2 (f_X1_bitsOfB l3)) else (f_X0_resolveTargets_c94 afk afl awords l1 kL2 (f_X1_bitsOfJ l3)))
set_option maxRecDepth 20000 in
theorem j_X0_resolveTargets_79 {l1 : Int32} {l3 : Int32} {s0 : Int32} {acount : Int32} {afk : Int32} {afl : Int32} {aat : Int32} {alabel : Int64} {ahas : Int32} {aword : Int32} {atarget : Int64} {amal : Int32} {amis : Int32} {awords : Nat → Int32} {atargets : Nat → Int64} {alines : Nat → Int32} {lcount : Int32} {lkeys : Nat → Int64} {lplaces : Nat → Int32} {kcount : Int32} {klen : Int32} {kat : Int32} {kinds : Nat → Int32} {kvals : Nat → Int64} {tchars : Nat → Int32} {kL2 : Int32 → Int32 → Int32 → (Nat → Int32) → Int32 × Int32 × (Nat → Int32)} {r_0 : Int32} {r_1 : Int32} {r_2 : (Nat → Int32)} (hres : (r_0, r_1, r_2) = (f_X0_resolveTargets_79 afk afl awords l1 kL2 l3 s0)) (hac : 0 ≤ acount.toInt ∧ acount.toInt ≤ 128) (hlc : 0 ≤ lcount.toInt ∧ lcount.toInt ≤ 16) (h1 : 0 ≤ l1.toInt) (hlt : l1.toInt < acount.toInt) {mu : Nat} (hmu : (128 - l1.toInt.toNat) = mu) (hk2 : ∀ {l1 : Int32} {afk : Int32} {afl : Int32} {awords : Nat → Int32}, (0 ≤ acount.toInt ∧ acount.toInt ≤ 128) → (0 ≤ lcount.toInt ∧ lcount.toInt ≤ 16) → (0 ≤ l1.toInt) → (128 - l1.toInt.toNat) < mu → (r_0, r_1, r_2) = kL2 l1 afk afl awords → G M_X0_resolveTargets 0 0 2 [(0, .ref 0), (1, .int l1)] [] (w_A acount afk afl aat alabel ahas aword atarget amal amis awords atargets alines lcount lkeys lplaces kcount klen kat kinds kvals tchars) (none) (w_A acount r_0 r_1 aat alabel ahas aword atarget amal amis r_2 atargets alines lcount lkeys lplaces kcount klen kat kinds kvals tchars)) : G M_X0_resolveTargets 0 0 79 [(0, .ref 0), (1, .int l1), (3, .int l3)] [.int s0] (w_A acount afk afl aat alabel ahas aword atarget amal amis awords atargets alines lcount lkeys lplaces kcount klen kat kinds kvals tchars) (none) (w_A acount r_0 r_1 aat alabel ahas aword atarget amal amis r_2 atargets alines lcount lkeys lplaces kcount klen kat kinds kvals tchars) := by
  rw [f_X0_resolveTargets_79] at hres
  refine G.istore (pc := 79) (lv1 := [(4, .int s0), (0, .ref 0), (1, .int l1), (3, .int l3)]) dm_X0_resolveTargets_79 rfl rfl ?_
  refine G.aload_n (pc := 81) dm_X0_resolveTargets_81 rfl ?_
  refine G.getfield (pc := 82) dm_X0_resolveTargets_82 gf_X0_9 rfl rfl ?_
  refine G.iload_n (pc := 85) dm_X0_resolveTargets_85 rfl ?_
  refine G.dup2 (pc := 86) dm_X0_resolveTargets_86 rfl rfl ?_
  refine G.iaload (pc := 87) dm_X0_resolveTargets_87 rfl (q_in h1 (by omega)) ?_
  refine G.iload (pc := 88) dm_X0_resolveTargets_88 rfl ?_
  refine G.if_eq (pc := 90) (tgt := 100) dm_X0_resolveTargets_90 (by decide) (fun c90 => ?_) (fun c90 => ?_)
  · rw [if_pos c90] at hres
    refine G.iload_n (pc := 100) dm_X0_resolveTargets_100 rfl ?_
    obtain ⟨z3_0, hz3⟩ := g_ex1 (f_X1_bitsOfB l3)
    refine G.callS (pc := 101) (rest := [.int (awords (Int32.toNatClampNeg l1)), .int l1, .ref 1]) (st1 := [.int z3_0, .int (awords (Int32.toNatClampNeg l1)), .int l1, .ref 1]) (ws1 := (w_A acount afk afl aat alabel ahas aword atarget amal amis awords atargets alines lcount lkeys lplaces kcount klen kat kinds kvals tchars)) [] dm_X0_resolveTargets_101 gc_X0_resolveTargets_186 (k_X1_bitsOfB (x := l3) hz3) rfl rfl rfl rfl rfl rfl rfl rfl ?_
    replace hres : (r_0, r_1, r_2) = f_X0_resolveTargets_c101 afk afl awords l1 kL2 z3_0 := hres.trans (by rw [← hz3])
    rw [f_X0_resolveTargets_c101] at hres
    refine G.lvp [1, 2] rfl ?_
    exact j_X0_resolveTargets_104 hres hac hlc h1 hlt (q_in h1 (by omega)) hmu hk2
  · rw [if_neg c90] at hres
    refine G.iload_n (pc := 93) dm_X0_resolveTargets_93 rfl ?_
    obtain ⟨z4_0, hz4⟩ := g_ex1 (f_X1_bitsOfJ l3)
    refine G.callS (pc := 94) (rest := [.int (awords (Int32.toNatClampNeg l1)), .int l1, .ref 1]) (st1 := [.int z4_0, .int (awords (Int32.toNatClampNeg l1)), .int l1, .ref 1]) (ws1 := (w_A acount afk afl aat alabel ahas aword atarget amal amis awords atargets alines lcount lkeys lplaces kcount klen kat kinds kvals tchars)) [] dm_X0_resolveTargets_94 gc_X0_resolveTargets_193 (k_X1_bitsOfJ (x := l3) hz4) rfl rfl rfl rfl rfl rfl rfl rfl ?_
    replace hres : (r_0, r_1, r_2) = f_X0_resolveTargets_c94 afk afl awords l1 kL2 z4_0 := hres.trans (by rw [← hz4])
    rw [f_X0_resolveTargets_c94] at hres
    refine G.goto (pc := 97) (tgt := 104) dm_X0_resolveTargets_97 (by decide) ?_
    refine G.lvp [1, 2] rfl ?_
    exact j_X0_resolveTargets_104 hres hac hlc h1 hlt (q_in h1 (by omega)) hmu hk2
def f_X0_resolveTargets_c66 (afk : Int32) (afl : Int32) (awords : Nat → Int32) (l1 : Int32) (kL2 : Int32 → Int32 → Int32 → (Nat → Int32) → Int32 × Int32 × (Nat → Int32)) (z1_0 : Int32) (z2_0 : Int32) : Int32 × Int32 × (Nat → Int32) := (if z2_0 = (111 : Int32) then (f_X0_resolveTargets_79 afk afl awords l1 kL2 ((4 : Int32) * (z1_0 - l1)) (1 : Int32)) else (f_X0_resolveTargets_79 afk afl awords l1 kL2 ((4 : Int32) * (z1_0 - l1)) (0 : Int32)))
def f_X0_resolveTargets_c50 (awords : Nat → Int32) (z5_0 : Int32) (z5_1 : Int32) : Int32 × Int32 × (Nat → Int32) := (z5_0, z5_1, awords)
def f_X0_resolveTargets_c34 (afk : Int32) (afl : Int32) (awords : Nat → Int32) (alines : Nat → Int32) (l1 : Int32) (kL2 : Int32 → Int32 → Int32 → (Nat → Int32) → Int32 × Int32 × (Nat → Int32)) (z1_0 : Int32) : Int32 × Int32 × (Nat → Int32) := (if 0 ≤ z1_0 then (f_X0_resolveTargets_c66 afk afl awords l1 kL2 z1_0 (f_X1_op (awords (Int32.toNatClampNeg l1)))) else (f_X0_resolveTargets_c50 awords (f_X0_setFault (3 : Int32) (alines (Int32.toNatClampNeg l1))).1 (f_X0_setFault (3 : Int32) (alines (Int32.toNatClampNeg l1))).2))
def f_X0_resolveTargets_2 (acount : Int32) (atargets : Nat → Int64) (alines : Nat → Int32) (lcount : Int32) (lkeys : Nat → Int64) (lplaces : Nat → Int32) : Nat → Int32 → Int32 → Int32 → (Nat → Int32) → Int32 × Int32 × (Nat → Int32)
  | 0, l1, afk, afl, awords => (afk, afl, awords)
  | n + 1, l1, afk, afl, awords => (if acount ≤ l1 then (afk, afl, awords) else (if (lg_cmp (atargets (Int32.toNatClampNeg l1)) (0 : Int64)) = 0 then (f_X0_resolveTargets_106 afk afl awords l1 (f_X0_resolveTargets_2 acount atargets alines lcount lkeys lplaces n)) else (f_X0_resolveTargets_c34 afk afl awords alines l1 (f_X0_resolveTargets_2 acount atargets alines lcount lkeys lplaces n) (f_X3_find (atargets (Int32.toNatClampNeg l1)) lcount lkeys lplaces))))
set_option maxRecDepth 20000 in
theorem j_X0_resolveTargets_2 : ∀ (n : Nat) {l1 : Int32} {acount : Int32} {afk : Int32} {afl : Int32} {aat : Int32} {alabel : Int64} {ahas : Int32} {aword : Int32} {atarget : Int64} {amal : Int32} {amis : Int32} {awords : Nat → Int32} {atargets : Nat → Int64} {alines : Nat → Int32} {lcount : Int32} {lkeys : Nat → Int64} {lplaces : Nat → Int32} {kcount : Int32} {klen : Int32} {kat : Int32} {kinds : Nat → Int32} {kvals : Nat → Int64} {tchars : Nat → Int32} {r_0 : Int32} {r_1 : Int32} {r_2 : (Nat → Int32)}, (hac : 0 ≤ acount.toInt ∧ acount.toInt ≤ 128) → (hlc : 0 ≤ lcount.toInt ∧ lcount.toInt ≤ 16) → (h1 : 0 ≤ l1.toInt) → (128 - l1.toInt.toNat) < n → (r_0, r_1, r_2) = f_X0_resolveTargets_2 acount atargets alines lcount lkeys lplaces n l1 afk afl awords → G M_X0_resolveTargets 0 0 2 [(0, .ref 0), (1, .int l1)] [] (w_A acount afk afl aat alabel ahas aword atarget amal amis awords atargets alines lcount lkeys lplaces kcount klen kat kinds kvals tchars) (none) (w_A acount r_0 r_1 aat alabel ahas aword atarget amal amis r_2 atargets alines lcount lkeys lplaces kcount klen kat kinds kvals tchars) := by
  intro n
  induction n with
  | zero =>
    intro l1 acount afk afl aat alabel ahas aword atarget amal amis awords atargets alines lcount lkeys lplaces kcount klen kat kinds kvals tchars r_0 r_1 r_2 hac hlc h1 hm hres
    exact absurd hm (Nat.not_lt_zero _)
  | succ n ih =>
    intro l1 acount afk afl aat alabel ahas aword atarget amal amis awords atargets alines lcount lkeys lplaces kcount klen kat kinds kvals tchars r_0 r_1 r_2 hac hlc h1 hm hres
    obtain ⟨mu, hmu⟩ : ∃ z, (128 - l1.toInt.toNat) = z := ⟨_, rfl⟩
    rw [hmu] at hm
    have hk2 : ∀ {l1 : Int32} {afk : Int32} {afl : Int32} {awords : Nat → Int32}, (0 ≤ acount.toInt ∧ acount.toInt ≤ 128) → (0 ≤ lcount.toInt ∧ lcount.toInt ≤ 16) → (0 ≤ l1.toInt) → (128 - l1.toInt.toNat) < mu → (r_0, r_1, r_2) = (f_X0_resolveTargets_2 acount atargets alines lcount lkeys lplaces n) l1 afk afl awords → G M_X0_resolveTargets 0 0 2 [(0, .ref 0), (1, .int l1)] [] (w_A acount afk afl aat alabel ahas aword atarget amal amis awords atargets alines lcount lkeys lplaces kcount klen kat kinds kvals tchars) (none) (w_A acount r_0 r_1 aat alabel ahas aword atarget amal amis r_2 atargets alines lcount lkeys lplaces kcount klen kat kinds kvals tchars) := fun hac hlc h1 hlt he => ih hac hlc h1 (Nat.lt_of_lt_of_le hlt (Nat.le_of_lt_succ hm)) he
    rw [f_X0_resolveTargets_2] at hres
    refine G.iload_n (pc := 2) dm_X0_resolveTargets_2 rfl ?_
    refine G.aload_n (pc := 3) dm_X0_resolveTargets_3 rfl ?_
    refine G.getfield (pc := 4) dm_X0_resolveTargets_4 gf_X0_45 rfl rfl ?_
    refine G.icmp_ge (pc := 7) (tgt := 112) dm_X0_resolveTargets_7 (by decide) (fun c7 => ?_) (fun c7 => ?_)
    · rw [if_pos c7] at hres
      cases hres
      exact G.vreturn (pc := 112) dm_X0_resolveTargets_112 rfl rfl rfl
    · rw [if_neg c7] at hres
      have hlt := q_nle c7
      have hin : vp_in l1 128 := q_in h1 (by omega)
      refine G.aload_n (pc := 10) dm_X0_resolveTargets_10 rfl ?_
      refine G.getfield (pc := 11) dm_X0_resolveTargets_11 gf_X0_15 rfl rfl ?_
      refine G.iload_n (pc := 14) dm_X0_resolveTargets_14 rfl ?_
      refine G.laload (pc := 15) dm_X0_resolveTargets_15 rfl hin ?_
      refine G.lconst (pc := 16) (v := (0 : Int64)) dm_X0_resolveTargets_16 (by decide) ?_
      refine G.lcmp (pc := 17) dm_X0_resolveTargets_17 ?_
      refine G.if_ne (pc := 18) (tgt := 24) dm_X0_resolveTargets_18 (by decide) (fun c18 => ?_) (fun c18 => ?_)
      · rw [if_neg c18] at hres
        refine G.aload_n (pc := 24) dm_X0_resolveTargets_24 rfl ?_
        refine G.getfield (pc := 25) dm_X0_resolveTargets_25 gf_X0_25 rfl rfl ?_
        refine G.aload_n (pc := 28) dm_X0_resolveTargets_28 rfl ?_
        refine G.getfield (pc := 29) dm_X0_resolveTargets_29 gf_X0_15 rfl rfl ?_
        refine G.iload_n (pc := 32) dm_X0_resolveTargets_32 rfl ?_
        refine G.laload (pc := 33) dm_X0_resolveTargets_33 rfl hin ?_
        obtain ⟨z1_0, hz1⟩ := g_ex1 (f_X3_find (atargets (Int32.toNatClampNeg l1)) lcount lkeys lplaces)
        refine G.callV (pc := 34) (rest := []) (st1 := [.int z1_0]) (ws1 := (w_A acount afk afl aat alabel ahas aword atarget amal amis awords atargets alines lcount lkeys lplaces kcount klen kat kinds kvals tchars)) [4, 5, 6] dm_X0_resolveTargets_34 gc_X0_resolveTargets_112 (k_X3_find (key := (atargets (Int32.toNatClampNeg l1))) (lcount := lcount) (lkeys := lkeys) (lplaces := lplaces) hlc.2 hz1) rfl rfl rfl rfl rfl rfl rfl rfl rfl rfl ?_
        replace hres : (r_0, r_1, r_2) = f_X0_resolveTargets_c34 afk afl awords alines l1 (f_X0_resolveTargets_2 acount atargets alines lcount lkeys lplaces n) z1_0 := hres.trans (by rw [← hz1])
        rw [f_X0_resolveTargets_c34] at hres
        refine G.istore_n (pc := 37) (lv1 := [(2, .int z1_0), (0, .ref 0), (1, .int l1)]) dm_X0_resolveTargets_37 rfl rfl ?_
        refine G.iload_n (pc := 38) dm_X0_resolveTargets_38 rfl ?_
        refine G.if_ge (pc := 39) (tgt := 54) dm_X0_resolveTargets_39 (by decide) (fun c39 => ?_) (fun c39 => ?_)
        · rw [if_pos c39] at hres
          refine G.iconst (pc := 54) (v := (4 : Int32)) dm_X0_resolveTargets_54 qi_4 ?_
          refine G.iload_n (pc := 55) dm_X0_resolveTargets_55 rfl ?_
          refine G.iload_n (pc := 56) dm_X0_resolveTargets_56 rfl ?_
          refine G.isub (pc := 57) dm_X0_resolveTargets_57 ?_
          refine G.imul (pc := 58) dm_X0_resolveTargets_58 ?_
          refine G.istore_n (pc := 59) (lv1 := [(3, .int ((4 : Int32) * (z1_0 - l1))), (2, .int z1_0), (0, .ref 0), (1, .int l1)]) dm_X0_resolveTargets_59 rfl rfl ?_
          refine G.aload_n (pc := 60) dm_X0_resolveTargets_60 rfl ?_
          refine G.getfield (pc := 61) dm_X0_resolveTargets_61 gf_X0_9 rfl rfl ?_
          refine G.iload_n (pc := 64) dm_X0_resolveTargets_64 rfl ?_
          refine G.iaload (pc := 65) dm_X0_resolveTargets_65 rfl hin ?_
          obtain ⟨z2_0, hz2⟩ := g_ex1 (f_X1_op (awords (Int32.toNatClampNeg l1)))
          refine G.callS (pc := 66) (rest := []) (st1 := [.int z2_0]) (ws1 := (w_A acount afk afl aat alabel ahas aword atarget amal amis awords atargets alines lcount lkeys lplaces kcount klen kat kinds kvals tchars)) [] dm_X0_resolveTargets_66 gc_X0_resolveTargets_196 (k_X1_op (x := (awords (Int32.toNatClampNeg l1))) hz2) rfl rfl rfl rfl rfl rfl rfl rfl ?_
          replace hres : (r_0, r_1, r_2) = f_X0_resolveTargets_c66 afk afl awords l1 (f_X0_resolveTargets_2 acount atargets alines lcount lkeys lplaces n) z1_0 z2_0 := hres.trans (by rw [← hz2])
          rw [f_X0_resolveTargets_c66] at hres
          refine G.bipush (pc := 69) (v := (111 : Int32)) dm_X0_resolveTargets_69 qb_111 ?_
          refine G.icmp_ne (pc := 71) (tgt := 78) dm_X0_resolveTargets_71 (by decide) (fun c71 => ?_) (fun c71 => ?_)
          · rw [if_neg c71] at hres
            refine G.iconst (pc := 78) (v := (0 : Int32)) dm_X0_resolveTargets_78 qi_0 ?_
            refine G.lvp [2, 3, 0] rfl ?_
            exact j_X0_resolveTargets_79 hres (by assumption) (by assumption) (by assumption) (by assumption) hmu hk2
          · rw [if_pos c71] at hres
            refine G.iconst (pc := 74) (v := (1 : Int32)) dm_X0_resolveTargets_74 qi_1 ?_
            refine G.goto (pc := 75) (tgt := 79) dm_X0_resolveTargets_75 (by decide) ?_
            refine G.lvp [2, 3, 0] rfl ?_
            exact j_X0_resolveTargets_79 hres (by assumption) (by assumption) (by assumption) (by assumption) hmu hk2
        · rw [if_neg c39] at hres
          refine G.aload_n (pc := 42) dm_X0_resolveTargets_42 rfl ?_
          refine G.iconst (pc := 43) (v := (3 : Int32)) dm_X0_resolveTargets_43 qi_3 ?_
          refine G.aload_n (pc := 44) dm_X0_resolveTargets_44 rfl ?_
          refine G.getfield (pc := 45) dm_X0_resolveTargets_45 gf_X0_19 rfl rfl ?_
          refine G.iload_n (pc := 48) dm_X0_resolveTargets_48 rfl ?_
          refine G.iaload (pc := 49) dm_X0_resolveTargets_49 rfl hin ?_
          obtain ⟨z5_0, z5_1, hz5⟩ := g_ex2 (f_X0_setFault (3 : Int32) (alines (Int32.toNatClampNeg l1)))
          refine G.callV0 (pc := 50) (rest := []) (st1 := []) dm_X0_resolveTargets_50 gc_X0_resolveTargets_66 (k_X0_setFault (kind := (3 : Int32)) (line := (alines (Int32.toNatClampNeg l1))) (acount := acount) (afk := afk) (afl := afl) (aat := aat) (alabel := alabel) (ahas := ahas) (aword := aword) (atarget := atarget) (amal := amal) (amis := amis) (awords := awords) (atargets := atargets) (alines := alines) (lcount := lcount) (lkeys := lkeys) (lplaces := lplaces) (kcount := kcount) (klen := klen) (kat := kat) (kinds := kinds) (kvals := kvals) (tchars := tchars) hz5) rfl rfl rfl rfl rfl rfl rfl rfl ?_
          replace hres : (r_0, r_1, r_2) = f_X0_resolveTargets_c50 awords z5_0 z5_1 := hres.trans (by rw [← hz5])
          rw [f_X0_resolveTargets_c50] at hres
          cases hres
          exact G.vreturn (pc := 53) dm_X0_resolveTargets_53 rfl rfl rfl
      · rw [if_pos c18] at hres
        refine G.goto (pc := 21) (tgt := 106) dm_X0_resolveTargets_21 (by decide) ?_
        exact j_X0_resolveTargets_106 hres (by assumption) (by assumption) (by assumption) (by assumption) hmu hk2
def f_X0_resolveTargets (acount : Int32) (afk : Int32) (afl : Int32) (awords : Nat → Int32) (atargets : Nat → Int64) (alines : Nat → Int32) (lcount : Int32) (lkeys : Nat → Int64) (lplaces : Nat → Int32) : Int32 × Int32 × (Nat → Int32) := (f_X0_resolveTargets_2 acount atargets alines lcount lkeys lplaces (129) (0 : Int32) afk afl awords)
set_option maxRecDepth 20000 in
theorem k_X0_resolveTargets {acount : Int32} {afk : Int32} {afl : Int32} {aat : Int32} {alabel : Int64} {ahas : Int32} {aword : Int32} {atarget : Int64} {amal : Int32} {amis : Int32} {awords : Nat → Int32} {atargets : Nat → Int64} {alines : Nat → Int32} {lcount : Int32} {lkeys : Nat → Int64} {lplaces : Nat → Int32} {kcount : Int32} {klen : Int32} {kat : Int32} {kinds : Nat → Int32} {kvals : Nat → Int64} {tchars : Nat → Int32} (hac : 0 ≤ acount.toInt ∧ acount.toInt ≤ 128) (hlc : 0 ≤ lcount.toInt ∧ lcount.toInt ≤ 16) {r_0 : Int32} {r_1 : Int32} {r_2 : (Nat → Int32)} (hres : (r_0, r_1, r_2) = f_X0_resolveTargets acount afk afl awords atargets alines lcount lkeys lplaces) : K M_X0_resolveTargets yX0_resolveTargets [.ref 0] (w_A acount afk afl aat alabel ahas aword atarget amal amis awords atargets alines lcount lkeys lplaces kcount klen kat kinds kvals tchars) (none) (w_A acount r_0 r_1 aat alabel ahas aword atarget amal amis r_2 atargets alines lcount lkeys lplaces kcount klen kat kinds kvals tchars) := by
  refine K.of (lv := [(0, .ref 0)]) (by decide +kernel) rfl rfl rfl ?_
  rw [f_X0_resolveTargets] at hres
  refine G.iconst (pc := 0) (v := (0 : Int32)) dm_X0_resolveTargets_0 qi_0 ?_
  refine G.istore_n (pc := 1) (lv1 := [(1, .int (0 : Int32)), (0, .ref 0)]) dm_X0_resolveTargets_1 rfl rfl ?_
  refine G.lvp [1, 0] rfl ?_
  exact j_X0_resolveTargets_2 _ hac hlc (by decide) (by decide) hres
abbrev M_X0_read : g_M := (cX0_read, 4, RX0, none, { frames := 6, cells := 0, slots := 0, locals := 128 }, 0, 0)
theorem dm_X0_read_0 : decode M_X0_read.1 0 = .ok (.aload_n 0, 1) := by decide +kernel
theorem dm_X0_read_1 : decode M_X0_read.1 1 = .ok (.getfield 34, 3) := by decide +kernel
theorem dm_X0_read_4 : decode M_X0_read.1 4 = .ok (.invokevirtual 38, 3) := by decide +kernel
theorem dm_X0_read_7 : decode M_X0_read.1 7 = .ok (.aload_n 0, 1) := by decide +kernel
theorem dm_X0_read_8 : decode M_X0_read.1 8 = .ok (.iconst 0, 1) := by decide +kernel
theorem dm_X0_read_9 : decode M_X0_read.1 9 = .ok (.putfield 41, 3) := by decide +kernel
theorem dm_X0_read_12 : decode M_X0_read.1 12 = .ok (.aload_n 0, 1) := by decide +kernel
theorem dm_X0_read_13 : decode M_X0_read.1 13 = .ok (.iconst 0, 1) := by decide +kernel
theorem dm_X0_read_14 : decode M_X0_read.1 14 = .ok (.putfield 45, 3) := by decide +kernel
theorem dm_X0_read_17 : decode M_X0_read.1 17 = .ok (.aload_n 0, 1) := by decide +kernel
theorem dm_X0_read_18 : decode M_X0_read.1 18 = .ok (.getfield 25, 3) := by decide +kernel
theorem dm_X0_read_21 : decode M_X0_read.1 21 = .ok (.iconst 0, 1) := by decide +kernel
theorem dm_X0_read_22 : decode M_X0_read.1 22 = .ok (.putfield 48, 3) := by decide +kernel
theorem dm_X0_read_25 : decode M_X0_read.1 25 = .ok (.aload_n 0, 1) := by decide +kernel
theorem dm_X0_read_26 : decode M_X0_read.1 26 = .ok (.iconst 0, 1) := by decide +kernel
theorem dm_X0_read_27 : decode M_X0_read.1 27 = .ok (.putfield 49, 3) := by decide +kernel
theorem dm_X0_read_30 : decode M_X0_read.1 30 = .ok (.aload_n 0, 1) := by decide +kernel
theorem dm_X0_read_31 : decode M_X0_read.1 31 = .ok (.iconst 0, 1) := by decide +kernel
theorem dm_X0_read_32 : decode M_X0_read.1 32 = .ok (.putfield 52, 3) := by decide +kernel
theorem dm_X0_read_35 : decode M_X0_read.1 35 = .ok (.iconst 0, 1) := by decide +kernel
theorem dm_X0_read_36 : decode M_X0_read.1 36 = .ok (.istore_n 2, 1) := by decide +kernel
theorem dm_X0_read_37 : decode M_X0_read.1 37 = .ok (.aload_n 0, 1) := by decide +kernel
theorem dm_X0_read_38 : decode M_X0_read.1 38 = .ok (.getfield 41, 3) := by decide +kernel
theorem dm_X0_read_41 : decode M_X0_read.1 41 = .ok (.aload_n 0, 1) := by decide +kernel
theorem dm_X0_read_42 : decode M_X0_read.1 42 = .ok (.getfield 34, 3) := by decide +kernel
theorem dm_X0_read_45 : decode M_X0_read.1 45 = .ok (.invokevirtual 55, 3) := by decide +kernel
theorem dm_X0_read_48 : decode M_X0_read.1 48 = .ok (.if_icmp .ge 46, 3) := by decide +kernel
theorem dm_X0_read_51 : decode M_X0_read.1 51 = .ok (.iload_n 2, 1) := by decide +kernel
theorem dm_X0_read_52 : decode M_X0_read.1 52 = .ok (.sipush 400, 3) := by decide +kernel
theorem dm_X0_read_55 : decode M_X0_read.1 55 = .ok (.if_icmp .gt 39, 3) := by decide +kernel
theorem dm_X0_read_58 : decode M_X0_read.1 58 = .ok (.aload_n 0, 1) := by decide +kernel
theorem dm_X0_read_59 : decode M_X0_read.1 59 = .ok (.invokevirtual 59, 3) := by decide +kernel
theorem dm_X0_read_62 : decode M_X0_read.1 62 = .ok (.aload_n 0, 1) := by decide +kernel
theorem dm_X0_read_63 : decode M_X0_read.1 63 = .ok (.sipush 128, 3) := by decide +kernel
theorem dm_X0_read_66 : decode M_X0_read.1 66 = .ok (.iload_n 1, 1) := by decide +kernel
theorem dm_X0_read_67 : decode M_X0_read.1 67 = .ok (.isub, 1) := by decide +kernel
theorem dm_X0_read_68 : decode M_X0_read.1 68 = .ok (.invokevirtual 62, 3) := by decide +kernel
theorem dm_X0_read_71 : decode M_X0_read.1 71 = .ok (.istore_n 3, 1) := by decide +kernel
theorem dm_X0_read_72 : decode M_X0_read.1 72 = .ok (.iload_n 3, 1) := by decide +kernel
theorem dm_X0_read_73 : decode M_X0_read.1 73 = .ok (.ifCond .eq 10, 3) := by decide +kernel
theorem dm_X0_read_76 : decode M_X0_read.1 76 = .ok (.aload_n 0, 1) := by decide +kernel
theorem dm_X0_read_77 : decode M_X0_read.1 77 = .ok (.iload_n 3, 1) := by decide +kernel
theorem dm_X0_read_78 : decode M_X0_read.1 78 = .ok (.iload_n 2, 1) := by decide +kernel
theorem dm_X0_read_79 : decode M_X0_read.1 79 = .ok (.invokevirtual 66, 3) := by decide +kernel
theorem dm_X0_read_82 : decode M_X0_read.1 82 = .ok (.return_, 1) := by decide +kernel
theorem dm_X0_read_83 : decode M_X0_read.1 83 = .ok (.aload_n 0, 1) := by decide +kernel
theorem dm_X0_read_84 : decode M_X0_read.1 84 = .ok (.iload_n 2, 1) := by decide +kernel
theorem dm_X0_read_85 : decode M_X0_read.1 85 = .ok (.invokevirtual 70, 3) := by decide +kernel
theorem dm_X0_read_88 : decode M_X0_read.1 88 = .ok (.iinc 2 1, 3) := by decide +kernel
theorem dm_X0_read_91 : decode M_X0_read.1 91 = .ok (.goto (-54), 3) := by decide +kernel
theorem dm_X0_read_94 : decode M_X0_read.1 94 = .ok (.aload_n 0, 1) := by decide +kernel
theorem dm_X0_read_95 : decode M_X0_read.1 95 = .ok (.invokevirtual 74, 3) := by decide +kernel
theorem dm_X0_read_98 : decode M_X0_read.1 98 = .ok (.return_, 1) := by decide +kernel
theorem gc_X0_read_38 : g_cv M_X0_read 38 M_X9_split yX9_split 0 := ⟨tw206, tw207, tw208, tw85, tw209, ⟨rfl, rfl, rfl, rfl⟩, gd_X9_split, ⟨by decide, by decide⟩⟩
theorem gc_X0_read_55 : g_cv M_X0_read 55 M_X9_size yX9_size 0 := ⟨tw250, tw251, tw252, tw85, tw253, ⟨rfl, rfl, rfl, rfl⟩, gd_X9_size, ⟨by decide, by decide⟩⟩
theorem gc_X0_read_59 : g_cv M_X0_read 59 M_X0_readLine yX0_readLine 0 := ⟨tw254, tw255, tw256, tw39, tw257, ⟨rfl, rfl, rfl, rfl⟩, gd_X0_readLine, ⟨by decide, by decide⟩⟩
theorem gc_X0_read_62 : g_cv M_X0_read 62 M_X0_faultOfLine yX0_faultOfLine 1 := ⟨tw372, tw373, tw374, tw39, tw375, ⟨rfl, rfl, rfl, rfl⟩, gd_X0_faultOfLine, ⟨by decide, by decide⟩⟩
theorem gc_X0_read_66 : g_cv M_X0_read 66 M_X0_setFault yX0_setFault 2 := ⟨tw381, tw382, tw383, tw39, tw384, ⟨rfl, rfl, rfl, rfl⟩, gd_X0_setFault, ⟨by decide, by decide⟩⟩
theorem gc_X0_read_70 : g_cv M_X0_read 70 M_X0_keepLine yX0_keepLine 1 := ⟨tw385, tw386, tw387, tw39, tw388, ⟨rfl, rfl, rfl, rfl⟩, gd_X0_keepLine, ⟨by decide, by decide⟩⟩
theorem gc_X0_read_74 : g_cv M_X0_read 74 M_X0_resolveTargets yX0_resolveTargets 0 := ⟨tw393, tw394, tw395, tw39, tw396, ⟨rfl, rfl, rfl, rfl⟩, gd_X0_resolveTargets, ⟨by decide, by decide⟩⟩
def f_X0_read_c95 (acount : Int32) (aat : Int32) (alabel : Int64) (ahas : Int32) (aword : Int32) (atarget : Int64) (amal : Int32) (amis : Int32) (atargets : Nat → Int64) (alines : Nat → Int32) (lcount : Int32) (lkeys : Nat → Int64) (lplaces : Nat → Int32) (kcount : Int32) (kat : Int32) (kinds : Nat → Int32) (kvals : Nat → Int64) (z3_0 : Int32) (z3_1 : Int32) (z3_2 : (Nat → Int32)) : Int32 × Int32 × Int32 × Int32 × Int64 × Int32 × Int32 × Int64 × Int32 × Int32 × (Nat → Int32) × (Nat → Int64) × (Nat → Int32) × Int32 × (Nat → Int64) × (Nat → Int32) × Int32 × Int32 × (Nat → Int32) × (Nat → Int64) := (acount, z3_0, z3_1, aat, alabel, ahas, aword, atarget, amal, amis, z3_2, atargets, alines, lcount, lkeys, lplaces, kcount, kat, kinds, kvals)
def f_X0_read_94 (acount : Int32) (afk : Int32) (afl : Int32) (aat : Int32) (alabel : Int64) (ahas : Int32) (aword : Int32) (atarget : Int64) (amal : Int32) (amis : Int32) (awords : Nat → Int32) (atargets : Nat → Int64) (alines : Nat → Int32) (lcount : Int32) (lkeys : Nat → Int64) (lplaces : Nat → Int32) (kcount : Int32) (kat : Int32) (kinds : Nat → Int32) (kvals : Nat → Int64) : Int32 × Int32 × Int32 × Int32 × Int64 × Int32 × Int32 × Int64 × Int32 × Int32 × (Nat → Int32) × (Nat → Int64) × (Nat → Int32) × Int32 × (Nat → Int64) × (Nat → Int32) × Int32 × Int32 × (Nat → Int32) × (Nat → Int64) := (f_X0_read_c95 acount aat alabel ahas aword atarget amal amis atargets alines lcount lkeys lplaces kcount kat kinds kvals (f_X0_resolveTargets acount afk afl awords atargets alines lcount lkeys lplaces).1 (f_X0_resolveTargets acount afk afl awords atargets alines lcount lkeys lplaces).2.1 (f_X0_resolveTargets acount afk afl awords atargets alines lcount lkeys lplaces).2.2)
set_option maxRecDepth 20000 in
theorem j_X0_read_94 {acount : Int32} {afk : Int32} {afl : Int32} {aat : Int32} {alabel : Int64} {ahas : Int32} {aword : Int32} {atarget : Int64} {amal : Int32} {amis : Int32} {awords : Nat → Int32} {atargets : Nat → Int64} {alines : Nat → Int32} {lcount : Int32} {lkeys : Nat → Int64} {lplaces : Nat → Int32} {kcount : Int32} {klen : Int32} {kat : Int32} {kinds : Nat → Int32} {kvals : Nat → Int64} {tchars : Nat → Int32} {r_0 : Int32} {r_1 : Int32} {r_2 : Int32} {r_3 : Int32} {r_4 : Int64} {r_5 : Int32} {r_6 : Int32} {r_7 : Int64} {r_8 : Int32} {r_9 : Int32} {r_10 : (Nat → Int32)} {r_11 : (Nat → Int64)} {r_12 : (Nat → Int32)} {r_13 : Int32} {r_14 : (Nat → Int64)} {r_15 : (Nat → Int32)} {r_16 : Int32} {r_17 : Int32} {r_18 : (Nat → Int32)} {r_19 : (Nat → Int64)} (hres : (r_0, r_1, r_2, r_3, r_4, r_5, r_6, r_7, r_8, r_9, r_10, r_11, r_12, r_13, r_14, r_15, r_16, r_17, r_18, r_19) = (f_X0_read_94 acount afk afl aat alabel ahas aword atarget amal amis awords atargets alines lcount lkeys lplaces kcount kat kinds kvals)) (hac : 0 ≤ acount.toInt ∧ acount.toInt ≤ 128) (hlc : 0 ≤ lcount.toInt ∧ lcount.toInt ≤ 16) : G M_X0_read 0 0 94 [(0, .ref 0)] [] (w_A acount afk afl aat alabel ahas aword atarget amal amis awords atargets alines lcount lkeys lplaces kcount klen kat kinds kvals tchars) (none) (w_A r_0 r_1 r_2 r_3 r_4 r_5 r_6 r_7 r_8 r_9 r_10 r_11 r_12 r_13 r_14 r_15 r_16 klen r_17 r_18 r_19 tchars) := by
  rw [f_X0_read_94] at hres
  refine G.aload_n (pc := 94) dm_X0_read_94 rfl ?_
  obtain ⟨z3_0, z3_1, z3_2, hz3⟩ := g_ex3 (f_X0_resolveTargets acount afk afl awords atargets alines lcount lkeys lplaces)
  refine G.callV0 (pc := 95) (rest := []) (st1 := []) dm_X0_read_95 gc_X0_read_74 (k_X0_resolveTargets (acount := acount) (afk := afk) (afl := afl) (aat := aat) (alabel := alabel) (ahas := ahas) (aword := aword) (atarget := atarget) (amal := amal) (amis := amis) (awords := awords) (atargets := atargets) (alines := alines) (lcount := lcount) (lkeys := lkeys) (lplaces := lplaces) (kcount := kcount) (klen := klen) (kat := kat) (kinds := kinds) (kvals := kvals) (tchars := tchars) (by assumption) (by assumption) hz3) rfl rfl rfl rfl rfl rfl rfl rfl ?_
  replace hres : (r_0, r_1, r_2, r_3, r_4, r_5, r_6, r_7, r_8, r_9, r_10, r_11, r_12, r_13, r_14, r_15, r_16, r_17, r_18, r_19) = f_X0_read_c95 acount aat alabel ahas aword atarget amal amis atargets alines lcount lkeys lplaces kcount kat kinds kvals z3_0 z3_1 z3_2 := hres.trans (by rw [← hz3])
  rw [f_X0_read_c95] at hres
  cases hres
  exact G.vreturn (pc := 98) dm_X0_read_98 rfl rfl rfl
def f_X0_read_c85 (afk : Int32) (afl : Int32) (kcount : Int32) (kat : Int32) (kinds : Nat → Int32) (kvals : Nat → Int64) (l1 : Int32) (l2 : Int32) (kL37 : Int32 → Int32 → Int32 → Int32 → Int32 → Int32 → Int64 → Int32 → Int32 → Int64 → Int32 → Int32 → (Nat → Int32) → (Nat → Int64) → (Nat → Int32) → Int32 → (Nat → Int64) → (Nat → Int32) → Int32 → Int32 → (Nat → Int32) → (Nat → Int64) → Int32 × Int32 × Int32 × Int32 × Int64 × Int32 × Int32 × Int64 × Int32 × Int32 × (Nat → Int32) × (Nat → Int64) × (Nat → Int32) × Int32 × (Nat → Int64) × (Nat → Int32) × Int32 × Int32 × (Nat → Int32) × (Nat → Int64)) (z4_0 : Int32) (z4_1 : Int64) (z4_2 : Int32) (z4_3 : Int32) (z4_4 : Int64) (z4_5 : Int32) (z4_6 : Int32) (z6_0 : Int32) (z6_1 : (Nat → Int32)) (z6_2 : (Nat → Int64)) (z6_3 : (Nat → Int32)) (z6_4 : Int32) (z6_5 : (Nat → Int64)) (z6_6 : (Nat → Int32)) : Int32 × Int32 × Int32 × Int32 × Int64 × Int32 × Int32 × Int64 × Int32 × Int32 × (Nat → Int32) × (Nat → Int64) × (Nat → Int32) × Int32 × (Nat → Int64) × (Nat → Int32) × Int32 × Int32 × (Nat → Int32) × (Nat → Int64) := (kL37 l1 (l2 + (1 : Int32)) z6_0 afk afl z4_0 z4_1 z4_2 z4_3 z4_4 z4_5 z4_6 z6_1 z6_2 z6_3 z6_4 z6_5 z6_6 kcount kat kinds kvals)
def f_X0_read_c79 (acount : Int32) (awords : Nat → Int32) (atargets : Nat → Int64) (alines : Nat → Int32) (lcount : Int32) (lkeys : Nat → Int64) (lplaces : Nat → Int32) (kcount : Int32) (kat : Int32) (kinds : Nat → Int32) (kvals : Nat → Int64) (z4_0 : Int32) (z4_1 : Int64) (z4_2 : Int32) (z4_3 : Int32) (z4_4 : Int64) (z4_5 : Int32) (z4_6 : Int32) (z7_0 : Int32) (z7_1 : Int32) : Int32 × Int32 × Int32 × Int32 × Int64 × Int32 × Int32 × Int64 × Int32 × Int32 × (Nat → Int32) × (Nat → Int64) × (Nat → Int32) × Int32 × (Nat → Int64) × (Nat → Int32) × Int32 × Int32 × (Nat → Int32) × (Nat → Int64) := (acount, z7_0, z7_1, z4_0, z4_1, z4_2, z4_3, z4_4, z4_5, z4_6, awords, atargets, alines, lcount, lkeys, lplaces, kcount, kat, kinds, kvals)
def f_X0_read_c68 (acount : Int32) (afk : Int32) (afl : Int32) (awords : Nat → Int32) (atargets : Nat → Int64) (alines : Nat → Int32) (lcount : Int32) (lkeys : Nat → Int64) (lplaces : Nat → Int32) (kcount : Int32) (kat : Int32) (kinds : Nat → Int32) (kvals : Nat → Int64) (l1 : Int32) (l2 : Int32) (kL37 : Int32 → Int32 → Int32 → Int32 → Int32 → Int32 → Int64 → Int32 → Int32 → Int64 → Int32 → Int32 → (Nat → Int32) → (Nat → Int64) → (Nat → Int32) → Int32 → (Nat → Int64) → (Nat → Int32) → Int32 → Int32 → (Nat → Int32) → (Nat → Int64) → Int32 × Int32 × Int32 × Int32 × Int64 × Int32 × Int32 × Int64 × Int32 × Int32 × (Nat → Int32) × (Nat → Int64) × (Nat → Int32) × Int32 × (Nat → Int64) × (Nat → Int32) × Int32 × Int32 × (Nat → Int32) × (Nat → Int64)) (z4_0 : Int32) (z4_1 : Int64) (z4_2 : Int32) (z4_3 : Int32) (z4_4 : Int64) (z4_5 : Int32) (z4_6 : Int32) (z5_0 : Int32) : Int32 × Int32 × Int32 × Int32 × Int64 × Int32 × Int32 × Int64 × Int32 × Int32 × (Nat → Int32) × (Nat → Int64) × (Nat → Int32) × Int32 × (Nat → Int64) × (Nat → Int32) × Int32 × Int32 × (Nat → Int32) × (Nat → Int64) := (if z5_0 = 0 then (f_X0_read_c85 afk afl kcount kat kinds kvals l1 l2 kL37 z4_0 z4_1 z4_2 z4_3 z4_4 z4_5 z4_6 (f_X0_keepLine l2 acount z4_1 z4_2 z4_3 z4_4 awords atargets alines lcount lkeys lplaces).1 (f_X0_keepLine l2 acount z4_1 z4_2 z4_3 z4_4 awords atargets alines lcount lkeys lplaces).2.1 (f_X0_keepLine l2 acount z4_1 z4_2 z4_3 z4_4 awords atargets alines lcount lkeys lplaces).2.2.1 (f_X0_keepLine l2 acount z4_1 z4_2 z4_3 z4_4 awords atargets alines lcount lkeys lplaces).2.2.2.1 (f_X0_keepLine l2 acount z4_1 z4_2 z4_3 z4_4 awords atargets alines lcount lkeys lplaces).2.2.2.2.1 (f_X0_keepLine l2 acount z4_1 z4_2 z4_3 z4_4 awords atargets alines lcount lkeys lplaces).2.2.2.2.2.1 (f_X0_keepLine l2 acount z4_1 z4_2 z4_3 z4_4 awords atargets alines lcount lkeys lplaces).2.2.2.2.2.2) else (f_X0_read_c79 acount awords atargets alines lcount lkeys lplaces kcount kat kinds kvals z4_0 z4_1 z4_2 z4_3 z4_4 z4_5 z4_6 (f_X0_setFault z5_0 l2).1 (f_X0_setFault z5_0 l2).2))
def f_X0_read_c59 (acount : Int32) (afk : Int32) (afl : Int32) (awords : Nat → Int32) (atargets : Nat → Int64) (alines : Nat → Int32) (lcount : Int32) (lkeys : Nat → Int64) (lplaces : Nat → Int32) (kcount : Int32) (kat : Int32) (kinds : Nat → Int32) (kvals : Nat → Int64) (l1 : Int32) (l2 : Int32) (kL37 : Int32 → Int32 → Int32 → Int32 → Int32 → Int32 → Int64 → Int32 → Int32 → Int64 → Int32 → Int32 → (Nat → Int32) → (Nat → Int64) → (Nat → Int32) → Int32 → (Nat → Int64) → (Nat → Int32) → Int32 → Int32 → (Nat → Int32) → (Nat → Int64) → Int32 × Int32 × Int32 × Int32 × Int64 × Int32 × Int32 × Int64 × Int32 × Int32 × (Nat → Int32) × (Nat → Int64) × (Nat → Int32) × Int32 × (Nat → Int64) × (Nat → Int32) × Int32 × Int32 × (Nat → Int32) × (Nat → Int64)) (z4_0 : Int32) (z4_1 : Int64) (z4_2 : Int32) (z4_3 : Int32) (z4_4 : Int64) (z4_5 : Int32) (z4_6 : Int32) : Int32 × Int32 × Int32 × Int32 × Int64 × Int32 × Int32 × Int64 × Int32 × Int32 × (Nat → Int32) × (Nat → Int64) × (Nat → Int32) × Int32 × (Nat → Int64) × (Nat → Int32) × Int32 × Int32 × (Nat → Int32) × (Nat → Int64) := (f_X0_read_c68 acount afk afl awords atargets alines lcount lkeys lplaces kcount kat kinds kvals l1 l2 kL37 z4_0 z4_1 z4_2 z4_3 z4_4 z4_5 z4_6 (f_X0_faultOfLine ((128 : Int32) - l1) acount z4_1 z4_2 z4_5 z4_6 lcount lkeys lplaces))
def f_X0_read_c45 (acount : Int32) (afk : Int32) (afl : Int32) (aat : Int32) (alabel : Int64) (ahas : Int32) (aword : Int32) (atarget : Int64) (amal : Int32) (amis : Int32) (awords : Nat → Int32) (atargets : Nat → Int64) (alines : Nat → Int32) (lcount : Int32) (lkeys : Nat → Int64) (lplaces : Nat → Int32) (kcount : Int32) (kat : Int32) (kinds : Nat → Int32) (kvals : Nat → Int64) (l1 : Int32) (l2 : Int32) (kL37 : Int32 → Int32 → Int32 → Int32 → Int32 → Int32 → Int64 → Int32 → Int32 → Int64 → Int32 → Int32 → (Nat → Int32) → (Nat → Int64) → (Nat → Int32) → Int32 → (Nat → Int64) → (Nat → Int32) → Int32 → Int32 → (Nat → Int32) → (Nat → Int64) → Int32 × Int32 × Int32 × Int32 × Int64 × Int32 × Int32 × Int64 × Int32 × Int32 × (Nat → Int32) × (Nat → Int64) × (Nat → Int32) × Int32 × (Nat → Int64) × (Nat → Int32) × Int32 × Int32 × (Nat → Int32) × (Nat → Int64)) (z2_0 : Int32) : Int32 × Int32 × Int32 × Int32 × Int64 × Int32 × Int32 × Int64 × Int32 × Int32 × (Nat → Int32) × (Nat → Int64) × (Nat → Int32) × Int32 × (Nat → Int64) × (Nat → Int32) × Int32 × Int32 × (Nat → Int32) × (Nat → Int64) := (if z2_0 ≤ aat then (f_X0_read_94 acount afk afl aat alabel ahas aword atarget amal amis awords atargets alines lcount lkeys lplaces kcount kat kinds kvals) else (if (400 : Int32) < l2 then (f_X0_read_94 acount afk afl aat alabel ahas aword atarget amal amis awords atargets alines lcount lkeys lplaces kcount kat kinds kvals) else (f_X0_read_c59 acount afk afl awords atargets alines lcount lkeys lplaces kcount kat kinds kvals l1 l2 kL37 (f_X0_readLine aat kcount kinds kvals).1 (f_X0_readLine aat kcount kinds kvals).2.1 (f_X0_readLine aat kcount kinds kvals).2.2.1 (f_X0_readLine aat kcount kinds kvals).2.2.2.1 (f_X0_readLine aat kcount kinds kvals).2.2.2.2.1 (f_X0_readLine aat kcount kinds kvals).2.2.2.2.2.1 (f_X0_readLine aat kcount kinds kvals).2.2.2.2.2.2)))
def f_X0_read_37 : Nat → Int32 → Int32 → Int32 → Int32 → Int32 → Int32 → Int64 → Int32 → Int32 → Int64 → Int32 → Int32 → (Nat → Int32) → (Nat → Int64) → (Nat → Int32) → Int32 → (Nat → Int64) → (Nat → Int32) → Int32 → Int32 → (Nat → Int32) → (Nat → Int64) → Int32 × Int32 × Int32 × Int32 × Int64 × Int32 × Int32 × Int64 × Int32 × Int32 × (Nat → Int32) × (Nat → Int64) × (Nat → Int32) × Int32 × (Nat → Int64) × (Nat → Int32) × Int32 × Int32 × (Nat → Int32) × (Nat → Int64)
  | 0, l1, l2, acount, afk, afl, aat, alabel, ahas, aword, atarget, amal, amis, awords, atargets, alines, lcount, lkeys, lplaces, kcount, kat, kinds, kvals => (acount, afk, afl, aat, alabel, ahas, aword, atarget, amal, amis, awords, atargets, alines, lcount, lkeys, lplaces, kcount, kat, kinds, kvals)
  | n + 1, l1, l2, acount, afk, afl, aat, alabel, ahas, aword, atarget, amal, amis, awords, atargets, alines, lcount, lkeys, lplaces, kcount, kat, kinds, kvals => (f_X0_read_c45 acount afk afl aat alabel ahas aword atarget amal amis awords atargets alines lcount lkeys lplaces kcount kat kinds kvals l1 l2 (f_X0_read_37 n) (f_X9_size kcount))
set_option maxRecDepth 20000 in
theorem j_X0_read_37 : ∀ (n : Nat) {l1 : Int32} {l2 : Int32} {acount : Int32} {afk : Int32} {afl : Int32} {aat : Int32} {alabel : Int64} {ahas : Int32} {aword : Int32} {atarget : Int64} {amal : Int32} {amis : Int32} {awords : Nat → Int32} {atargets : Nat → Int64} {alines : Nat → Int32} {lcount : Int32} {lkeys : Nat → Int64} {lplaces : Nat → Int32} {kcount : Int32} {klen : Int32} {kat : Int32} {kinds : Nat → Int32} {kvals : Nat → Int64} {tchars : Nat → Int32} {r_0 : Int32} {r_1 : Int32} {r_2 : Int32} {r_3 : Int32} {r_4 : Int64} {r_5 : Int32} {r_6 : Int32} {r_7 : Int64} {r_8 : Int32} {r_9 : Int32} {r_10 : (Nat → Int32)} {r_11 : (Nat → Int64)} {r_12 : (Nat → Int32)} {r_13 : Int32} {r_14 : (Nat → Int64)} {r_15 : (Nat → Int32)} {r_16 : Int32} {r_17 : Int32} {r_18 : (Nat → Int32)} {r_19 : (Nat → Int64)}, (hc : 0 ≤ kcount.toInt ∧ kcount.toInt ≤ 401) → (hch : q_ch kinds) → (hac : 0 ≤ acount.toInt ∧ acount.toInt ≤ 128) → (hlc : 0 ≤ lcount.toInt ∧ lcount.toInt ≤ 16) → (h3 : 0 ≤ l2.toInt) → (401 - l2.toInt.toNat) < n → (r_0, r_1, r_2, r_3, r_4, r_5, r_6, r_7, r_8, r_9, r_10, r_11, r_12, r_13, r_14, r_15, r_16, r_17, r_18, r_19) = f_X0_read_37 n l1 l2 acount afk afl aat alabel ahas aword atarget amal amis awords atargets alines lcount lkeys lplaces kcount kat kinds kvals → G M_X0_read 0 0 37 [(0, .ref 0), (1, .int l1), (2, .int l2)] [] (w_A acount afk afl aat alabel ahas aword atarget amal amis awords atargets alines lcount lkeys lplaces kcount klen kat kinds kvals tchars) (none) (w_A r_0 r_1 r_2 r_3 r_4 r_5 r_6 r_7 r_8 r_9 r_10 r_11 r_12 r_13 r_14 r_15 r_16 klen r_17 r_18 r_19 tchars) := by
  intro n
  induction n with
  | zero =>
    intro l1 l2 acount afk afl aat alabel ahas aword atarget amal amis awords atargets alines lcount lkeys lplaces kcount klen kat kinds kvals tchars r_0 r_1 r_2 r_3 r_4 r_5 r_6 r_7 r_8 r_9 r_10 r_11 r_12 r_13 r_14 r_15 r_16 r_17 r_18 r_19 hc hch hac hlc h3 hm hres
    exact absurd hm (Nat.not_lt_zero _)
  | succ n ih =>
    intro l1 l2 acount afk afl aat alabel ahas aword atarget amal amis awords atargets alines lcount lkeys lplaces kcount klen kat kinds kvals tchars r_0 r_1 r_2 r_3 r_4 r_5 r_6 r_7 r_8 r_9 r_10 r_11 r_12 r_13 r_14 r_15 r_16 r_17 r_18 r_19 hc hch hac hlc h3 hm hres
    obtain ⟨mu, hmu⟩ : ∃ z, (401 - l2.toInt.toNat) = z := ⟨_, rfl⟩
    rw [hmu] at hm
    have hk37 : ∀ {l1 : Int32} {l2 : Int32} {acount : Int32} {afk : Int32} {afl : Int32} {aat : Int32} {alabel : Int64} {ahas : Int32} {aword : Int32} {atarget : Int64} {amal : Int32} {amis : Int32} {awords : Nat → Int32} {atargets : Nat → Int64} {alines : Nat → Int32} {lcount : Int32} {lkeys : Nat → Int64} {lplaces : Nat → Int32} {kcount : Int32} {kat : Int32} {kinds : Nat → Int32} {kvals : Nat → Int64}, (0 ≤ kcount.toInt ∧ kcount.toInt ≤ 401) → (q_ch kinds) → (0 ≤ acount.toInt ∧ acount.toInt ≤ 128) → (0 ≤ lcount.toInt ∧ lcount.toInt ≤ 16) → (0 ≤ l2.toInt) → (401 - l2.toInt.toNat) < mu → (r_0, r_1, r_2, r_3, r_4, r_5, r_6, r_7, r_8, r_9, r_10, r_11, r_12, r_13, r_14, r_15, r_16, r_17, r_18, r_19) = (f_X0_read_37 n) l1 l2 acount afk afl aat alabel ahas aword atarget amal amis awords atargets alines lcount lkeys lplaces kcount kat kinds kvals → G M_X0_read 0 0 37 [(0, .ref 0), (1, .int l1), (2, .int l2)] [] (w_A acount afk afl aat alabel ahas aword atarget amal amis awords atargets alines lcount lkeys lplaces kcount klen kat kinds kvals tchars) (none) (w_A r_0 r_1 r_2 r_3 r_4 r_5 r_6 r_7 r_8 r_9 r_10 r_11 r_12 r_13 r_14 r_15 r_16 klen r_17 r_18 r_19 tchars) := fun hc hch hac hlc h3 hlt he => ih hc hch hac hlc h3 (Nat.lt_of_lt_of_le hlt (Nat.le_of_lt_succ hm)) he
    rw [f_X0_read_37] at hres
    refine G.aload_n (pc := 37) dm_X0_read_37 rfl ?_
    refine G.getfield (pc := 38) dm_X0_read_38 gf_X0_41 rfl rfl ?_
    refine G.aload_n (pc := 41) dm_X0_read_41 rfl ?_
    refine G.getfield (pc := 42) dm_X0_read_42 gf_X0_34 rfl rfl ?_
    obtain ⟨z2_0, hz2⟩ := g_ex1 (f_X9_size kcount)
    refine G.callV (pc := 45) (rest := [.int aat]) (st1 := [.int z2_0, .int aat]) (ws1 := (w_A acount afk afl aat alabel ahas aword atarget amal amis awords atargets alines lcount lkeys lplaces kcount klen kat kinds kvals tchars)) [7, 8, 9, 10, 11] dm_X0_read_45 gc_X0_read_55 (k_X9_size (kcount := kcount) (klen := klen) (kat := kat) (kinds := kinds) (kvals := kvals) (tchars := tchars) hz2) rfl rfl rfl rfl rfl rfl rfl rfl rfl rfl ?_
    replace hres : (r_0, r_1, r_2, r_3, r_4, r_5, r_6, r_7, r_8, r_9, r_10, r_11, r_12, r_13, r_14, r_15, r_16, r_17, r_18, r_19) = f_X0_read_c45 acount afk afl aat alabel ahas aword atarget amal amis awords atargets alines lcount lkeys lplaces kcount kat kinds kvals l1 l2 (f_X0_read_37 n) z2_0 := hres.trans (by rw [← hz2])
    rw [f_X0_read_c45] at hres
    refine G.icmp_ge (pc := 48) (tgt := 94) dm_X0_read_48 (by decide) (fun c48 => ?_) (fun c48 => ?_)
    · rw [if_pos c48] at hres
      refine G.lvp [0] rfl ?_
      exact j_X0_read_94 hres (by assumption) (by assumption)
    · rw [if_neg c48] at hres
      refine G.iload_n (pc := 51) dm_X0_read_51 rfl ?_
      refine G.sipush (pc := 52) (v := (400 : Int32)) dm_X0_read_52 qs_400 ?_
      refine G.icmp_gt (pc := 55) (tgt := 94) dm_X0_read_55 (by decide) (fun c55 => ?_) (fun c55 => ?_)
      · rw [if_pos c55] at hres
        refine G.lvp [0] rfl ?_
        exact j_X0_read_94 hres (by assumption) (by assumption)
      · rw [if_neg c55] at hres
        refine G.aload_n (pc := 58) dm_X0_read_58 rfl ?_
        obtain ⟨z4_0, z4_1, z4_2, z4_3, z4_4, z4_5, z4_6, hz4⟩ := g_ex7 (f_X0_readLine aat kcount kinds kvals)
        refine G.callV0 (pc := 59) (rest := []) (st1 := []) dm_X0_read_59 gc_X0_read_59 (k_X0_readLine (acount := acount) (afk := afk) (afl := afl) (aat := aat) (alabel := alabel) (ahas := ahas) (aword := aword) (atarget := atarget) (amal := amal) (amis := amis) (awords := awords) (atargets := atargets) (alines := alines) (lcount := lcount) (lkeys := lkeys) (lplaces := lplaces) (kcount := kcount) (klen := klen) (kat := kat) (kinds := kinds) (kvals := kvals) (tchars := tchars) (by assumption) (by assumption) hz4) rfl rfl rfl rfl rfl rfl rfl rfl ?_
        replace hres : (r_0, r_1, r_2, r_3, r_4, r_5, r_6, r_7, r_8, r_9, r_10, r_11, r_12, r_13, r_14, r_15, r_16, r_17, r_18, r_19) = f_X0_read_c59 acount afk afl awords atargets alines lcount lkeys lplaces kcount kat kinds kvals l1 l2 (f_X0_read_37 n) z4_0 z4_1 z4_2 z4_3 z4_4 z4_5 z4_6 := hres.trans (by rw [← hz4])
        rw [f_X0_read_c59] at hres
        refine G.aload_n (pc := 62) dm_X0_read_62 rfl ?_
        refine G.sipush (pc := 63) (v := (128 : Int32)) dm_X0_read_63 qs_128 ?_
        refine G.iload_n (pc := 66) dm_X0_read_66 rfl ?_
        refine G.isub (pc := 67) dm_X0_read_67 ?_
        obtain ⟨z5_0, hz5⟩ := g_ex1 (f_X0_faultOfLine ((128 : Int32) - l1) acount z4_1 z4_2 z4_5 z4_6 lcount lkeys lplaces)
        refine G.callV0 (pc := 68) (rest := []) (st1 := [.int z5_0]) dm_X0_read_68 gc_X0_read_62 (k_X0_faultOfLine (room := ((128 : Int32) - l1)) (acount := acount) (afk := afk) (afl := afl) (aat := z4_0) (alabel := z4_1) (ahas := z4_2) (aword := z4_3) (atarget := z4_4) (amal := z4_5) (amis := z4_6) (awords := awords) (atargets := atargets) (alines := alines) (lcount := lcount) (lkeys := lkeys) (lplaces := lplaces) (kcount := kcount) (klen := klen) (kat := kat) (kinds := kinds) (kvals := kvals) (tchars := tchars) (by assumption) hz5) rfl rfl rfl rfl rfl rfl rfl rfl ?_
        replace hres : (r_0, r_1, r_2, r_3, r_4, r_5, r_6, r_7, r_8, r_9, r_10, r_11, r_12, r_13, r_14, r_15, r_16, r_17, r_18, r_19) = f_X0_read_c68 acount afk afl awords atargets alines lcount lkeys lplaces kcount kat kinds kvals l1 l2 (f_X0_read_37 n) z4_0 z4_1 z4_2 z4_3 z4_4 z4_5 z4_6 z5_0 := hres.trans (by rw [← hz5])
        rw [f_X0_read_c68] at hres
        refine G.istore_n (pc := 71) (lv1 := [(3, .int z5_0), (0, .ref 0), (1, .int l1), (2, .int l2)]) dm_X0_read_71 rfl rfl ?_
        refine G.iload_n (pc := 72) dm_X0_read_72 rfl ?_
        refine G.if_eq (pc := 73) (tgt := 83) dm_X0_read_73 (by decide) (fun c73 => ?_) (fun c73 => ?_)
        · rw [if_pos c73] at hres
          refine G.aload_n (pc := 83) dm_X0_read_83 rfl ?_
          refine G.iload_n (pc := 84) dm_X0_read_84 rfl ?_
          obtain ⟨z6_0, z6_1, z6_2, z6_3, z6_4, z6_5, z6_6, hz6⟩ := g_ex7 (f_X0_keepLine l2 acount z4_1 z4_2 z4_3 z4_4 awords atargets alines lcount lkeys lplaces)
          refine G.callV0 (pc := 85) (rest := []) (st1 := []) dm_X0_read_85 gc_X0_read_70 (k_X0_keepLine (line := l2) (acount := acount) (afk := afk) (afl := afl) (aat := z4_0) (alabel := z4_1) (ahas := z4_2) (aword := z4_3) (atarget := z4_4) (amal := z4_5) (amis := z4_6) (awords := awords) (atargets := atargets) (alines := alines) (lcount := lcount) (lkeys := lkeys) (lplaces := lplaces) (kcount := kcount) (klen := klen) (kat := kat) (kinds := kinds) (kvals := kvals) (tchars := tchars) (by assumption) (by assumption) hz6) rfl rfl rfl rfl rfl rfl rfl rfl ?_
          have hh := a_X0_keepLine hz6 hac hlc
          have hac := hh.1
          have hlc := hh.2
          replace hres : (r_0, r_1, r_2, r_3, r_4, r_5, r_6, r_7, r_8, r_9, r_10, r_11, r_12, r_13, r_14, r_15, r_16, r_17, r_18, r_19) = f_X0_read_c85 afk afl kcount kat kinds kvals l1 l2 (f_X0_read_37 n) z4_0 z4_1 z4_2 z4_3 z4_4 z4_5 z4_6 z6_0 z6_1 z6_2 z6_3 z6_4 z6_5 z6_6 := hres.trans (by rw [← hz6])
          rw [f_X0_read_c85] at hres
          refine G.iinc (pc := 88) (v := (l2 + (1 : Int32))) (lv1 := [(2, .int (l2 + (1 : Int32))), (3, .int z5_0), (0, .ref 0), (1, .int l1)]) dm_X0_read_88 rfl rfl rfl rfl ?_
          refine G.goto (pc := 91) (tgt := 37) dm_X0_read_91 (by decide) ?_
          refine G.lvp [2, 3, 0] rfl ?_
          exact hk37 hc hch hac hlc (by have := q_l400 c55; rw [q_inc (by omega)]; omega) (by have := q_l400 c55; rw [q_inc (by omega)]; omega) hres
        · rw [if_neg c73] at hres
          refine G.aload_n (pc := 76) dm_X0_read_76 rfl ?_
          refine G.iload_n (pc := 77) dm_X0_read_77 rfl ?_
          refine G.iload_n (pc := 78) dm_X0_read_78 rfl ?_
          obtain ⟨z7_0, z7_1, hz7⟩ := g_ex2 (f_X0_setFault z5_0 l2)
          refine G.callV0 (pc := 79) (rest := []) (st1 := []) dm_X0_read_79 gc_X0_read_66 (k_X0_setFault (kind := z5_0) (line := l2) (acount := acount) (afk := afk) (afl := afl) (aat := z4_0) (alabel := z4_1) (ahas := z4_2) (aword := z4_3) (atarget := z4_4) (amal := z4_5) (amis := z4_6) (awords := awords) (atargets := atargets) (alines := alines) (lcount := lcount) (lkeys := lkeys) (lplaces := lplaces) (kcount := kcount) (klen := klen) (kat := kat) (kinds := kinds) (kvals := kvals) (tchars := tchars) hz7) rfl rfl rfl rfl rfl rfl rfl rfl ?_
          replace hres : (r_0, r_1, r_2, r_3, r_4, r_5, r_6, r_7, r_8, r_9, r_10, r_11, r_12, r_13, r_14, r_15, r_16, r_17, r_18, r_19) = f_X0_read_c79 acount awords atargets alines lcount lkeys lplaces kcount kat kinds kvals z4_0 z4_1 z4_2 z4_3 z4_4 z4_5 z4_6 z7_0 z7_1 := hres.trans (by rw [← hz7])
          rw [f_X0_read_c79] at hres
          cases hres
          exact G.vreturn (pc := 82) dm_X0_read_82 rfl rfl rfl
def f_X0_read_c4 (firstWord : Int32) (alabel : Int64) (ahas : Int32) (aword : Int32) (atarget : Int64) (amal : Int32) (amis : Int32) (awords : Nat → Int32) (atargets : Nat → Int64) (alines : Nat → Int32) (lkeys : Nat → Int64) (lplaces : Nat → Int32) (z1_0 : Int32) (z1_1 : Int32) (z1_2 : (Nat → Int32)) (z1_3 : (Nat → Int64)) : Int32 × Int32 × Int32 × Int32 × Int64 × Int32 × Int32 × Int64 × Int32 × Int32 × (Nat → Int32) × (Nat → Int64) × (Nat → Int32) × Int32 × (Nat → Int64) × (Nat → Int32) × Int32 × Int32 × (Nat → Int32) × (Nat → Int64) := (f_X0_read_37 (402) firstWord (0 : Int32) (0 : Int32) (0 : Int32) (0 : Int32) (0 : Int32) alabel ahas aword atarget amal amis awords atargets alines (0 : Int32) lkeys lplaces z1_0 z1_1 z1_2 z1_3)
def f_X0_read (firstWord : Int32) (alabel : Int64) (ahas : Int32) (aword : Int32) (atarget : Int64) (amal : Int32) (amis : Int32) (awords : Nat → Int32) (atargets : Nat → Int64) (alines : Nat → Int32) (lkeys : Nat → Int64) (lplaces : Nat → Int32) (klen : Int32) (kinds : Nat → Int32) (kvals : Nat → Int64) (tchars : Nat → Int32) : Int32 × Int32 × Int32 × Int32 × Int64 × Int32 × Int32 × Int64 × Int32 × Int32 × (Nat → Int32) × (Nat → Int64) × (Nat → Int32) × Int32 × (Nat → Int64) × (Nat → Int32) × Int32 × Int32 × (Nat → Int32) × (Nat → Int64) := (f_X0_read_c4 firstWord alabel ahas aword atarget amal amis awords atargets alines lkeys lplaces (f_X9_split klen kinds kvals tchars).1 (f_X9_split klen kinds kvals tchars).2.1 (f_X9_split klen kinds kvals tchars).2.2.1 (f_X9_split klen kinds kvals tchars).2.2.2)
set_option maxRecDepth 20000 in
theorem k_X0_read {firstWord : Int32} {acount : Int32} {afk : Int32} {afl : Int32} {aat : Int32} {alabel : Int64} {ahas : Int32} {aword : Int32} {atarget : Int64} {amal : Int32} {amis : Int32} {awords : Nat → Int32} {atargets : Nat → Int64} {alines : Nat → Int32} {lcount : Int32} {lkeys : Nat → Int64} {lplaces : Nat → Int32} {kcount : Int32} {klen : Int32} {kat : Int32} {kinds : Nat → Int32} {kvals : Nat → Int64} {tchars : Nat → Int32} (htl : 0 ≤ klen.toInt ∧ klen.toInt ≤ 400) (hch : q_ch kinds) {r_0 : Int32} {r_1 : Int32} {r_2 : Int32} {r_3 : Int32} {r_4 : Int64} {r_5 : Int32} {r_6 : Int32} {r_7 : Int64} {r_8 : Int32} {r_9 : Int32} {r_10 : (Nat → Int32)} {r_11 : (Nat → Int64)} {r_12 : (Nat → Int32)} {r_13 : Int32} {r_14 : (Nat → Int64)} {r_15 : (Nat → Int32)} {r_16 : Int32} {r_17 : Int32} {r_18 : (Nat → Int32)} {r_19 : (Nat → Int64)} (hres : (r_0, r_1, r_2, r_3, r_4, r_5, r_6, r_7, r_8, r_9, r_10, r_11, r_12, r_13, r_14, r_15, r_16, r_17, r_18, r_19) = f_X0_read firstWord alabel ahas aword atarget amal amis awords atargets alines lkeys lplaces klen kinds kvals tchars) : K M_X0_read yX0_read [.ref 0, .int firstWord] (w_A acount afk afl aat alabel ahas aword atarget amal amis awords atargets alines lcount lkeys lplaces kcount klen kat kinds kvals tchars) (none) (w_A r_0 r_1 r_2 r_3 r_4 r_5 r_6 r_7 r_8 r_9 r_10 r_11 r_12 r_13 r_14 r_15 r_16 klen r_17 r_18 r_19 tchars) := by
  refine K.of (lv := [(0, .ref 0), (1, .int firstWord)]) (by decide +kernel) rfl rfl rfl ?_
  rw [f_X0_read] at hres
  refine G.aload_n (pc := 0) dm_X0_read_0 rfl ?_
  refine G.getfield (pc := 1) dm_X0_read_1 gf_X0_34 rfl rfl ?_
  obtain ⟨z1_0, z1_1, z1_2, z1_3, hz1⟩ := g_ex4 (f_X9_split klen kinds kvals tchars)
  refine G.callV (pc := 4) (rest := []) (st1 := []) (ws1 := (w_A acount afk afl aat alabel ahas aword atarget amal amis awords atargets alines lcount lkeys lplaces z1_0 klen z1_1 z1_2 z1_3 tchars)) [7, 8, 9, 10, 11] dm_X0_read_4 gc_X0_read_38 (k_X9_split (kcount := kcount) (klen := klen) (kat := kat) (kinds := kinds) (kvals := kvals) (tchars := tchars) (by assumption) (by assumption) hz1) rfl rfl rfl rfl rfl rfl rfl rfl rfl rfl ?_
  have hh := a_X9_split hz1 htl hch
  have hc := hh.1
  have hch := hh.2
  replace hres : (r_0, r_1, r_2, r_3, r_4, r_5, r_6, r_7, r_8, r_9, r_10, r_11, r_12, r_13, r_14, r_15, r_16, r_17, r_18, r_19) = f_X0_read_c4 firstWord alabel ahas aword atarget amal amis awords atargets alines lkeys lplaces z1_0 z1_1 z1_2 z1_3 := hres.trans (by rw [← hz1])
  rw [f_X0_read_c4] at hres
  refine G.aload_n (pc := 7) dm_X0_read_7 rfl ?_
  refine G.iconst (pc := 8) (v := (0 : Int32)) dm_X0_read_8 qi_0 ?_
  refine G.putfield (pc := 9) (ws1 := (w_A acount afk afl (0 : Int32) alabel ahas aword atarget amal amis awords atargets alines lcount lkeys lplaces z1_0 klen z1_1 z1_2 z1_3 tchars)) dm_X0_read_9 gw_X0_41 rfl (g_fit_i _) rfl rfl ?_
  refine G.aload_n (pc := 12) dm_X0_read_12 rfl ?_
  refine G.iconst (pc := 13) (v := (0 : Int32)) dm_X0_read_13 qi_0 ?_
  refine G.putfield (pc := 14) (ws1 := (w_A (0 : Int32) afk afl (0 : Int32) alabel ahas aword atarget amal amis awords atargets alines lcount lkeys lplaces z1_0 klen z1_1 z1_2 z1_3 tchars)) dm_X0_read_14 gw_X0_45 rfl (g_fit_i _) rfl rfl ?_
  refine G.aload_n (pc := 17) dm_X0_read_17 rfl ?_
  refine G.getfield (pc := 18) dm_X0_read_18 gf_X0_25 rfl rfl ?_
  refine G.iconst (pc := 21) (v := (0 : Int32)) dm_X0_read_21 qi_0 ?_
  refine G.putfield (pc := 22) (ws1 := (w_A (0 : Int32) afk afl (0 : Int32) alabel ahas aword atarget amal amis awords atargets alines (0 : Int32) lkeys lplaces z1_0 klen z1_1 z1_2 z1_3 tchars)) dm_X0_read_22 gw_X0_48 rfl (g_fit_i _) rfl rfl ?_
  refine G.aload_n (pc := 25) dm_X0_read_25 rfl ?_
  refine G.iconst (pc := 26) (v := (0 : Int32)) dm_X0_read_26 qi_0 ?_
  refine G.putfield (pc := 27) (ws1 := (w_A (0 : Int32) (0 : Int32) afl (0 : Int32) alabel ahas aword atarget amal amis awords atargets alines (0 : Int32) lkeys lplaces z1_0 klen z1_1 z1_2 z1_3 tchars)) dm_X0_read_27 gw_X0_49 rfl (g_fit_i _) rfl rfl ?_
  refine G.aload_n (pc := 30) dm_X0_read_30 rfl ?_
  refine G.iconst (pc := 31) (v := (0 : Int32)) dm_X0_read_31 qi_0 ?_
  refine G.putfield (pc := 32) (ws1 := (w_A (0 : Int32) (0 : Int32) (0 : Int32) (0 : Int32) alabel ahas aword atarget amal amis awords atargets alines (0 : Int32) lkeys lplaces z1_0 klen z1_1 z1_2 z1_3 tchars)) dm_X0_read_32 gw_X0_52 rfl (g_fit_i _) rfl rfl ?_
  refine G.iconst (pc := 35) (v := (0 : Int32)) dm_X0_read_35 qi_0 ?_
  refine G.istore_n (pc := 36) (lv1 := [(2, .int (0 : Int32)), (0, .ref 0), (1, .int firstWord)]) dm_X0_read_36 rfl rfl ?_
  refine G.lvp [1, 2, 0] rfl ?_
  exact j_X0_read_37 _ hc hch (by decide) (by decide) (by decide) (by decide) hres
