theorem y9_sw {t first : Int32} (hb : ¬ f_X10_isStoreWord t first = 0) : ¬ t < 0 ∧ ¬ (4 : Int32) ≤ t ∧ ¬ first < 0 ∧ ¬ (128 : Int32) ≤ first := by
  unfold f_X10_isStoreWord f_X10_isStoreWord_c1 f_X10_isThread at hb
  by_cases h1 : t < 0
  · rw [if_pos h1, if_pos rfl] at hb; exact absurd rfl hb
  rw [if_neg h1] at hb
  by_cases h2 : (4 : Int32) ≤ t
  · rw [if_pos h2, if_pos rfl] at hb; exact absurd rfl hb
  rw [if_neg h2, if_neg (show ¬ (1 : Int32) = 0 by decide)] at hb
  by_cases h3 : first < 0
  · rw [if_pos h3] at hb; exact absurd rfl hb
  rw [if_neg h3] at hb
  by_cases h4 : (128 : Int32) ≤ first
  · rw [if_pos h4] at hb; exact absurd rfl hb
  exact ⟨h1, h2, h3, h4⟩
theorem y9_sw0 {t first : Int32} (h1 : ¬ t < 0) (h2 : ¬ (4 : Int32) ≤ t) (h3 : ¬ first < 0) (h4 : ¬ (128 : Int32) ≤ first) : ¬ f_X10_isStoreWord t first = 0 := by
  unfold f_X10_isStoreWord f_X10_isStoreWord_c1 f_X10_isThread
  rw [if_neg h1, if_neg h2, if_neg (show ¬ (1 : Int32) = 0 by decide), if_neg h3, if_neg h4]
  decide
theorem y9_34 {t : Int32} : (3 : Int32) < t ↔ (4 : Int32) ≤ t := by
  rw [Int32.lt_iff_toInt_lt, Int32.le_iff_toInt_le, show (3 : Int32).toInt = 3 by decide, show (4 : Int32).toInt = 4 by decide]
  omega
theorem y9_128 {t : Int32} : t < (128 : Int32) ↔ ¬ (128 : Int32) ≤ t := by
  rw [Int32.lt_iff_toInt_lt, Int32.le_iff_toInt_le]
  omega
theorem y9_neg {t : Int32} (h : ¬ t < 0) : 0 ≤ t.toInt := by
  rw [Int32.lt_iff_toInt_lt, show (0 : Int32).toInt = 0 by decide] at h
  omega
theorem y9_nle {t : Int32} {k : Nat} (hk : k < 2147483648) (h : ¬ Int32.ofNat k ≤ t) : t.toInt < k := by
  rw [Int32.le_iff_toInt_le, e_c k hk] at h
  omega
theorem e_asm_a {t first length at_ fault faultLine line words labels targets wrong unfit : Int32} {text code_ : Nat → Int32} {label : Nat → Int64} {labelWord : Nat → Int32} {target : Nat → Int64} {targetWord targetLine store : Nat → Int32} (hb : f_X10_isStoreWord t first = 0) : f_X11_assemble t first length at_ fault faultLine line words labels targets wrong unfit text code_ label labelWord target targetWord targetLine store = (0, 1, at_, fault, faultLine, line, words, labels, targets, wrong, unfit, code_, label, labelWord, target, targetWord, targetLine, store) := by
  by_cases h1 : t < 0
  · unfold f_X11_assemble
    rw [if_pos h1]
    rfl
  by_cases h2 : (4 : Int32) ≤ t
  · unfold f_X11_assemble
    rw [if_neg h1, if_pos (y9_34.mpr h2)]
    rfl
  by_cases h3 : first < 0
  · unfold f_X11_assemble
    rw [if_neg h1, if_neg (fun e => h2 (y9_34.mp e)), if_pos h3]
    rfl
  by_cases h4 : (128 : Int32) ≤ first
  · unfold f_X11_assemble
    rw [if_neg h1, if_neg (fun e => h2 (y9_34.mp e)), if_neg h3, if_neg (fun e => y9_128.mp e h4)]
    rfl
  exact absurd hb (y9_sw0 h1 h2 h3 h4)
theorem e_asm {t first length at_ fault faultLine line words labels targets wrong unfit : Int32} {text code_ : Nat → Int32} {label : Nat → Int64} {labelWord : Nat → Int32} {target : Nat → Int64} {targetWord targetLine store : Nat → Int32} (hb : ¬ f_X10_isStoreWord t first = 0) (hln : 0 ≤ length.toInt ∧ length.toInt ≤ 400)
    {alabel : Int64} {ahas aword : Int32} {atarget : Int64} {amal amis : Int32} {awords : Nat → Int32} {atargets : Nat → Int64} {alines : Nat → Int32} {lkeys : Nat → Int64} {lplaces kinds : Nat → Int32} {kvals : Nat → Int64} (hch : q_ch kinds)
    {r_0 r_1 r_2 r_3 : Int32} {r_4 : Int64} {r_5 r_6 : Int32} {r_7 : Int64} {r_8 r_9 : Int32} {r_10 : Nat → Int32} {r_11 : Nat → Int64} {r_12 : Nat → Int32} {r_13 : Int32} {r_14 : Nat → Int64} {r_15 : Nat → Int32} {r_16 r_17 : Int32} {r_18 : Nat → Int32} {r_19 : Nat → Int64}
    (hres : (r_0, r_1, r_2, r_3, r_4, r_5, r_6, r_7, r_8, r_9, r_10, r_11, r_12, r_13, r_14, r_15, r_16, r_17, r_18, r_19) = f_X0_read first alabel ahas aword atarget amal amis awords atargets alines lkeys lplaces length kinds kvals text)
    {z0 z1 z2 z3 z4 z5 z6 z7 z8 z9 z10 : Int32} {z11 : Nat → Int32} {z12 : Nat → Int64} {z13 : Nat → Int32} {z14 : Nat → Int64} {z15 z16 z17 : Nat → Int32}
    (hz : (z0, z1, z2, z3, z4, z5, z6, z7, z8, z9, z10, z11, z12, z13, z14, z15, z16, z17) = f_X11_assemble t first length at_ fault faultLine line words labels targets wrong unfit text code_ label labelWord target targetWord targetLine store) :
    z3 = r_1 ∧ z4 = r_2 ∧ q_ch r_18 ∧ ((¬ r_1 = 0 ∧ z1 = 2 ∧ z17 = store) ∨ (r_1 = 0 ∧ z0 = r_0 ∧ z1 = 0 ∧ (0 ≤ r_0.toInt ∧ r_0.toInt ≤ 128 - first.toInt) ∧ V2 128 z17 = g_up (V2 128 store) (Int32.toNatClampNeg t) (va_cpy r_10 (V2 128 store (Int32.toNatClampNeg t)) 0 (Int32.toNatClampNeg first) (Int32.toNatClampNeg r_0)))) := by
  obtain ⟨h1, h2, h3, h4⟩ := y9_sw hb
  have h2' : ¬ (3 : Int32) < t := fun e => h2 (y9_34.mp e)
  have h4' : first < (128 : Int32) := y9_128.mpr h4
  unfold f_X11_assemble at hz
  rw [if_neg h1, if_neg h2', if_neg h3, if_pos h4'] at hz
  have t0 := y9_neg h1
  have t4 := y9_nle (k := 4) (by omega) h2
  have f0 := y9_neg h3
  have f1 := y9_nle (k := 128) (by omega) h4
  clear hb h1 h2 h3 h4 h2' h4'
  obtain ⟨T, hT, rfl⟩ : ∃ T : Nat, T < 4 ∧ t = Int32.ofNat T := ⟨t.toInt.toNat, by omega, i_n t0⟩
  obtain ⟨F, hF, rfl⟩ : ∃ F : Nat, F < 128 ∧ first = Int32.ofNat F := ⟨first.toInt.toNat, by omega, i_n f0⟩
  obtain ⟨L, hL, hLe⟩ : ∃ L : Nat, L ≤ 400 ∧ length = Int32.ofNat L := ⟨length.toInt.toNat, by omega, i_n hln.1⟩
  subst hLe
  obtain ⟨n, a, K, V, hs, hn, hsy⟩ := y_split (text := text) (kinds := kinds) (kvals := kvals) hL
  have hqK := (a_X9_split hs.symm hln hch).2
  unfold f_X0_read at hres
  rw [hs] at hres
  dsimp only at hres
  unfold f_X0_read_c4 at hres
  have hi : y_inv F 0 0 0 awords atargets alines lkeys lplaces code_ label labelWord target targetWord targetLine :=
    ⟨by omega, by omega, rfl, fun i h => absurd h (Nat.not_lt_zero i), ⟨fun i h => absurd h (Nat.not_lt_zero i), fun i j _ h => absurd h (Nat.not_lt_zero j)⟩, fun i h => absurd h (Nat.not_lt_zero i), fun i h => absurd h (Nat.not_lt_zero i)⟩
  have R := y_loop (text := text) (K := K) (store := store) (V := V) (kat := a) (N := n + 1) hL (by omega) hT hF 402 (fR := 403) (n := n) (c := 0) (p := 0) (j := 0) (m := 0) (b := 0) (d := 0) (alabel := alabel) (atarget := atarget) (ahas := ahas) (aword := aword) (amal := amal) (amis := amis) (wrong := wrong) (unfit := unfit) hsy (by omega) (by omega) (by omega) (by omega) hi
  rw [show Int32.ofNat 0 = 0 from rfl] at R
  rw [← hres, ← hz] at R
  unfold y_R at R
  dsimp only at R
  obtain ⟨rK, R1, R2, R3⟩ := R
  refine ⟨R1, R2, (by rw [rK]; exact hqK), ?_⟩
  rw [i_cl (show T < 2147483648 by omega), i_cl (show F < 2147483648 by omega), e_c F (by omega)]
  exact R3
