theorem y_d1 {g : Nat → Int32} {q : Nat} (h : y_dig (g q)) : (y_d g q 1).toInt = (g q).toInt - 48 := by
  have h1 := (y_dig_iff _).mp h
  have e : g q - 48 = Int32.ofNat ((g q).toInt.toNat - 48) := by
    have := i_sub (a := (g q).toInt.toNat) (b := 48) (by omega)
    rw [← i_n (by omega)] at this
    exact this
  simp only [y_d, Nat.add_zero]
  rw [e, i_long (by omega), show (0 : Int64) * 10 = 0 by decide, Int64.zero_add, Int64.toInt_ofNat_of_lt (by omega)]
  omega
theorem y_dz {c : Int32} (h : y_dig c) : (Int32.toInt64 (c - 48)).toInt = c.toInt - 48 ∧ (c - 48).toInt = c.toInt - 48 := by
  have h1 := (y_dig_iff _).mp h
  have e : c - 48 = Int32.ofNat (c.toInt.toNat - 48) := by
    have := i_sub (a := c.toInt.toNat) (b := 48) (by omega)
    rw [← i_n (by omega)] at this
    exact this
  rw [e, i_long (by omega), Int64.toInt_ofNat_of_lt (by omega), e_c _ (by omega)]
  omega
theorem y_d2 {g : Nat → Int32} {q : Nat} (h : y_dig (g q)) (h' : y_dig (g (q + 1))) : (y_d g q 2).toInt = ((g q).toInt - 48) * 10 + ((g (q + 1)).toInt - 48) := by
  have h1 := (y_dig_iff _).mp h
  have h2 := (y_dig_iff _).mp h'
  have e1 := y_d1 h
  have e2 := (y_dz h').1
  show (y_d g q 1 * 10 + Int32.toInt64 (g (q + 1) - 48)).toInt = _
  rw [Int64.toInt_add, Int64.toInt_mul, e1, e2, show (10 : Int64).toInt = 10 by decide, Int.bmod_add_bmod, Int.bmod_eq_of_le (by omega) (by omega)]
theorem y_i32 {x : Int64} {y : Int32} (h : x.toInt = y.toInt) : x.toInt32 = y := by
  apply Int32.toInt_inj.mp
  have h1 := y.toInt_lt
  have h2 := y.le_toInt
  rw [Int64.toInt_toInt32, h, Int.bmod_eq_of_le (by omega) (by omega)]
theorem y_regY {L q r : Nat} {text : Nat → Int32} (hL : L ≤ 400) (hrL : r ≤ L) (hx : y_ch L text q = 120) (hd : y_dig (y_ch L text (q + 1))) (hrun : y_run y_dig (y_ch L text) (q + 1) r) {D : Int64} (hD : D = if r - (q + 1) ≤ 10 then y_d (y_ch L text) (q + 1) (r - (q + 1)) else 1099511627776) : (¬ (2 < r - (q + 1)) ∧ D.toInt < 16 → f_X11_takeRegister_c1 (Int32.ofNat L) 0 text (Int32.ofNat q) = (D.toInt32, Int32.ofNat r, 0)) ∧ (¬ (¬ (2 < r - (q + 1)) ∧ D.toInt < 16) → ∃ a b, f_X11_takeRegister_c1 (Int32.ofNat L) 0 text (Int32.ofNat q) = (a, b, 1)) := by
  have d1 := (y_dig_iff _).mp hd
  have hqr : q + 1 < r := by
    rcases y_run_step hrun with ⟨a, b, c⟩ | ⟨a, b⟩
    · exact b
    · exact absurd hd a
  have hstart : f_X11_takeRegister_c1 (Int32.ofNat L) 0 text (Int32.ofNat q) = f_X11_takeRegister_c65 (Int32.ofNat L) text (Int32.ofNat q) (y_ch L text (q + 1)) := by
    unfold f_X11_takeRegister_c1 f_X11_takeRegister_c17
    rw [if_pos rfl, i_chr hL (by omega), if_pos hx]
    unfold f_X11_takeRegister_c32 f_X11_takeRegister_c35
    rw [i_s, i_chr hL (by omega), if_neg (show ¬ f_X11_isDigit (y_ch L text (q + 1)) = 0 from hd)]
  rw [hstart]
  unfold f_X11_takeRegister_c65 f_X11_takeRegister_c87 f_X11_takeRegister_c90
  rw [i_s2, i_chr hL (by omega)]
  obtain ⟨z1, z2⟩ := y_dz hd
  by_cases hd2 : y_dig (y_ch L text (q + 2))
  · rw [if_neg (show ¬ f_X11_isDigit (y_ch L text (q + 2)) = 0 from hd2)]
    have d2 := (y_dig_iff _).mp hd2
    unfold f_X11_takeRegister_c105 f_X11_takeRegister_123 f_X11_takeRegister_c129 f_X11_takeRegister_c132
    rw [i_s2, i_s, i_chr hL (by omega)]
    have hqr2 : q + 2 < r := by
      rcases Nat.lt_or_ge (q + 2) r with h | h
      · exact h
      · have : r = q + 2 := by omega
        rw [this] at hrun
        exact absurd hd2 hrun.2.2
    have hv : ((10 : Int32) * (y_ch L text (q + 1) - 48) + y_ch L text (q + 2) - 48).toInt = ((y_ch L text (q + 1)).toInt - 48) * 10 + ((y_ch L text (q + 2)).toInt - 48) := by
      rw [Int32.toInt_sub, Int32.toInt_add, Int32.toInt_mul, z2, show (10 : Int32).toInt = 10 by decide, show (48 : Int32).toInt = 48 by decide, Int.bmod_add_bmod, Int.bmod_sub_bmod, Int.bmod_eq_of_le (by omega) (by omega)]
      omega
    have hle : ((10 : Int32) * (y_ch L text (q + 1) - 48) + y_ch L text (q + 2) - 48 ≤ 15) ↔ ((y_ch L text (q + 1)).toInt - 48) * 10 + ((y_ch L text (q + 2)).toInt - 48) ≤ 15 := by
      rw [Int32.le_iff_toInt_le, hv]; rfl
    by_cases hd3 : y_dig (y_ch L text (q + 2 + 1))
    · rw [if_neg (show ¬ f_X11_isDigit (y_ch L text (q + 2 + 1)) = 0 from hd3)]
      refine ⟨fun h => ?_, fun _ => ⟨_, _, rfl⟩⟩
      exfalso
      have : r = q + 2 + 1 := by omega
      rw [this] at hrun
      exact hrun.2.2 hd3
    · rw [if_pos (show f_X11_isDigit (y_ch L text (q + 2 + 1)) = 0 from Classical.byContradiction hd3)]
      have hr3 : r = q + 3 := by
        rcases Nat.lt_or_ge (q + 3) r with h | h
        · exact absurd (hrun.2.1 (q + 3) (by omega) h) hd3
        · omega
      have hDv : D.toInt = ((y_ch L text (q + 1)).toInt - 48) * 10 + ((y_ch L text (q + 2)).toInt - 48) := by
        rw [hD, if_pos (by omega), show r - (q + 1) = 2 by omega, y_d2 hd hd2]
      by_cases h15 : ((y_ch L text (q + 1)).toInt - 48) * 10 + ((y_ch L text (q + 2)).toInt - 48) ≤ 15
      · rw [if_pos (hle.mpr h15)]
        refine ⟨fun _ => ?_, fun h => absurd ⟨by omega, by omega⟩ h⟩
        rw [y_i32 (hDv.trans hv.symm), hr3]
      · rw [if_neg (fun h => h15 (hle.mp h))]
        exact ⟨fun h => by omega, fun _ => ⟨_, _, rfl⟩⟩
  · rw [if_pos (show f_X11_isDigit (y_ch L text (q + 2)) = 0 from Classical.byContradiction hd2)]
    unfold f_X11_takeRegister_123 f_X11_takeRegister_c129 f_X11_takeRegister_c132
    rw [i_chr hL (by omega), if_pos (show f_X11_isDigit (y_ch L text (q + 2)) = 0 from Classical.byContradiction hd2)]
    have hr2 : r = q + 2 := by
      rcases Nat.lt_or_ge (q + 2) r with h | h
      · exact absurd (hrun.2.1 (q + 2) (by omega) h) hd2
      · omega
    have hDv : D.toInt = (y_ch L text (q + 1)).toInt - 48 := by
      rw [hD, if_pos (by omega), show r - (q + 1) = 1 by omega, y_d1 hd]
    have hle : (y_ch L text (q + 1) - 48 ≤ 15) := by
      rw [Int32.le_iff_toInt_le, z2, show (15 : Int32).toInt = 15 by decide]; omega
    rw [if_pos hle]
    refine ⟨fun _ => ?_, fun h => absurd ⟨by omega, by omega⟩ h⟩
    rw [y_i32 (hDv.trans z2.symm), hr2]
theorem y_let1 {L q r : Nat} {text : Nat → Int32} (hL : L ≤ 400) (hrL : r ≤ L) (hrun : y_run y_let (y_ch L text) q r) : f_X11_letters_c1 (Int32.ofNat L) text (Int32.ofNat q) = (if r - q ≤ 8 then Int64.ofNat (y_w (y_lt (y_ch L text) q (r - q))) else 0, Int32.ofNat r) := by
  have h1 := hrun.1
  unfold f_X11_letters_c1
  exact y_letR hL hrun.2.1 hrL 401 hrun (by omega) (Nat.le_refl q) (fun _ => by rw [Nat.sub_self]; rfl)
/-- facts of a token that begins with a letter, other than its register, letters and end -/
theorem y_tvL {L q r : Nat} {text : Nat → Int32} {k : Int32} {v : Int64} (hL : L ≤ 400) (hqL : q < L) (hrL : r ≤ L) (hqr : q < r) (hc : y_let (y_ch L text q)) (hk : k = 97 ∨ k = 120 ∨ k = 63) (h1 : k = 120 → f_X11_takeRegister_c1 (Int32.ofNat L) 0 text (Int32.ofNat q) = (v.toInt32, Int32.ofNat r, 0)) (h2 : k ≠ 120 → ∃ a b, f_X11_takeRegister_c1 (Int32.ofNat L) 0 text (Int32.ofNat q) = (a, b, 1)) (h3 : k = 97 → y_let (y_ch L text q) ∧ ∃ w, f_X11_letters_c1 (Int32.ofNat L) text (Int32.ofNat q) = (w, Int32.ofNat r) ∧ y_key v w) (h4 : k ≠ 97 → y_let (y_ch L text q) → ∃ w s, f_X11_letters_c1 (Int32.ofNat L) text (Int32.ofNat q) = (w, Int32.ofNat s) ∧ q < s ∧ s ≤ L ∧ (w = 0 ∨ (w = 120 ∧ y_dig (y_ch L text s)))) : y_tv L text q k v r := by
  have hne : ∀ C : Int32, ¬ y_let C → y_ch L text q ≠ C := fun C h e => h (by rw [← e]; exact hc)
  have hnd : ¬ y_dig (y_ch L text q) := fun h => by
    have := (y_let_iff _).mp hc; have := (y_dig_iff _).mp h; omega
  have hk2 : k ≠ 48 ∧ k ≠ 10 ∧ k ≠ 44 ∧ k ≠ 40 ∧ k ≠ 41 ∧ k ≠ 58 := by
    rcases hk with h | h | h <;> rw [h] <;> decide
  refine ⟨hne 32 (by decide), hqr, fun _ => hrL, ?_, ⟨⟨fun e => absurd e hk2.2.1, ?_⟩, fun e => absurd e hk2.2.1⟩, h1, h2, fun a b u hg hu => ⟨fun e => absurd e hk2.1, fun _ => y_numN hL (by omega) (Or.inl ⟨hne 45 (by decide), hnd⟩)⟩, h3, h4⟩
  · intro C hC
    rcases hC with e | e | e | e <;> subst e
    · exact ⟨⟨fun e => absurd e hk2.2.2.1, fun e => absurd e (hne 44 (by decide))⟩, fun e => absurd e hk2.2.2.1⟩
    · exact ⟨⟨fun e => absurd e hk2.2.2.2.1, fun e => absurd e (hne 40 (by decide))⟩, fun e => absurd e hk2.2.2.2.1⟩
    · exact ⟨⟨fun e => absurd e hk2.2.2.2.2.1, fun e => absurd e (hne 41 (by decide))⟩, fun e => absurd e hk2.2.2.2.2.1⟩
    · exact ⟨⟨fun e => absurd e hk2.2.2.2.2.2, fun e => absurd e (hne 58 (by decide))⟩, fun e => absurd e hk2.2.2.2.2.2⟩
  · intro e
    rcases e with e | e
    · exact absurd e (hne 10 (by decide))
    · exact absurd e (hne 59 (by decide))
theorem y_digS {L p r : Nat} {text : Nat → Int32} (hL : L ≤ 400) (hrL : r ≤ L) (hrun : y_run y_dig (y_ch L text) p r) : f_X9_takeDigits (Int32.ofNat L) (Int32.ofNat p) text = (if r - p ≤ 10 then y_d (y_ch L text) p (r - p) else 1099511627776, Int32.ofNat r) := by
  have := hrun.1
  unfold f_X9_takeDigits
  exact y_digC hL hrL 401 hrun (by omega) (Nat.le_refl p) (by rw [if_pos (by omega), Nat.sub_self]; rfl)
theorem y_takeN {L q cc : Nat} {text : Nat → Int32} {neg : Int32} {kinds : Nat → Int32} {kvals : Nat → Int64} (hL : L ≤ 400) (hq : q < L) (hcc : cc < 401) (hc : y_dig (y_ch L text q) ∨ y_ch L text q = 45) (hneg : (neg = 0) ↔ y_ch L text q ≠ 45) : ∃ k v r, f_X9_takeNumber neg (Int32.ofNat cc) (Int32.ofNat L) (Int32.ofNat q) kinds kvals text = (Int32.ofNat (cc + 1), Int32.ofNat r, upd kinds cc k, vp_updL kvals cc v) ∧ y_tv L text q k v r ∧ r ≤ L := by
  have key : ∀ s, s ≤ L → ((y_ch L text q ≠ 45 ∧ s = q) ∨ (y_ch L text q = 45 ∧ s = q + 1)) → ∃ k v r, f_X9_takeNumber_14 (Int32.ofNat cc) (Int32.ofNat L) (Int32.ofNat s) kinds kvals text neg = (Int32.ofNat (cc + 1), Int32.ofNat r, upd kinds cc k, vp_updL kvals cc v) ∧ y_tv L text q k v r ∧ r ≤ L := by
    intro s hsL hs
    obtain ⟨r, hrL, hrun⟩ := y_run_ex (P := y_dig) (by decide) (text := text) (L - s) hsL rfl
    have hsr := hrun.1
    unfold f_X9_takeNumber_14
    rw [y_digS hL hrL hrun]
    unfold f_X9_takeNumber_c20
    have hrs : (Int32.ofNat r = Int32.ofNat s) ↔ r = s := i_eq (by omega) (by omega)
    by_cases hz : r = s
    · simp only [if_pos (hrs.mpr hz)]
      unfold f_X9_takeNumber_40 f_X9_takeNumber_50 f_X9_takeNumber_c50
      rw [y_addE hcc (by decide), y_addE hcc (by decide)]
      refine ⟨63, if neg = 0 then _ else _, r, ?_, y_tvN hL hrL hq hc hs hrun hneg rfl rfl (Or.inl ⟨hz, rfl⟩), hrL⟩
      by_cases hn : neg = 0
      · rw [if_pos hn, if_pos hn]
      · rw [if_neg hn, if_neg hn]
    · simp only [if_neg (fun h => hz (hrs.mp h))]
      unfold f_X9_takeNumber_40 f_X9_takeNumber_50 f_X9_takeNumber_c50
      rw [y_addE hcc (by decide), y_addE hcc (by decide)]
      refine ⟨48, if neg = 0 then _ else _, r, ?_, y_tvN hL hrL hq hc hs hrun hneg rfl rfl (Or.inr ⟨by omega, rfl⟩), hrL⟩
      by_cases hn : neg = 0
      · rw [if_pos hn, if_pos hn]
      · rw [if_neg hn, if_neg hn]
  unfold f_X9_takeNumber
  by_cases hn : neg = 0
  · rw [if_pos hn]
    exact key q (by omega) (Or.inl ⟨hneg.mp hn, rfl⟩)
  · rw [if_neg hn, i_s]
    exact key (q + 1) (by omega) (Or.inr ⟨Classical.byContradiction (fun h => hn (hneg.mpr h)), rfl⟩)
theorem y_takeM {L q cc : Nat} {text : Nat → Int32} {kinds : Nat → Int32} {kvals : Nat → Int64} (hL : L ≤ 400) (hq : q < L) (hcc : cc < 401) (h45 : y_ch L text q ≠ 45) (hl : ¬ y_let (y_ch L text q)) (hd : ¬ y_dig (y_ch L text q)) : (y_ch L text q = 32 ∧ f_X9_takeMark (y_ch L text q) (Int32.ofNat cc) (Int32.ofNat q) kinds kvals = (Int32.ofNat cc, Int32.ofNat (q + 1), kinds, kvals)) ∨ ∃ k, f_X9_takeMark (y_ch L text q) (Int32.ofNat cc) (Int32.ofNat q) kinds kvals = (Int32.ofNat (cc + 1), Int32.ofNat (q + 1), upd kinds cc k, vp_updL kvals cc 0) ∧ y_tv L text q k 0 (q + 1) := by
  generalize hc : y_ch L text q = c at *
  unfold f_X9_takeMark f_X9_takeMark_22 f_X9_takeMark_c26 f_X9_takeMark_56 f_X9_takeMark_c59 f_X9_takeMark_c75
  rw [i_s, y_addE (kind := 10) hcc (by decide), y_addE (kind := 63) hcc (by decide)]
  have h0 := fun k => y_tvM (text := text) (k := k) hL (Nat.le_of_lt hq)
  rw [hc] at h0
  by_cases c1 : c = 10
  · rw [if_pos c1]
    exact Or.inr ⟨10, rfl, h0 10 (by rw [c1]; decide) h45 hl hd (Or.inl ⟨Or.inl c1, rfl⟩)⟩
  rw [if_neg c1]
  by_cases c2 : c = 59
  · rw [if_pos c2]
    exact Or.inr ⟨10, rfl, h0 10 (by rw [c2]; decide) h45 hl hd (Or.inl ⟨Or.inr c2, rfl⟩)⟩
  rw [if_neg c2]
  by_cases c3 : c = 44
  · rw [if_pos c3]
    refine Or.inr ⟨c, ?_, h0 c (by rw [c3]; decide) h45 hl hd (Or.inr (Or.inl ⟨Or.inl c3, rfl⟩))⟩
    rw [y_addE hcc (by rw [c3]; decide)]
  rw [if_neg c3]
  by_cases c4 : c = 40
  · rw [if_pos c4]
    refine Or.inr ⟨c, ?_, h0 c (by rw [c4]; decide) h45 hl hd (Or.inr (Or.inl ⟨Or.inr (Or.inl c4), rfl⟩))⟩
    rw [y_addE hcc (by rw [c4]; decide)]
  rw [if_neg c4]
  by_cases c5 : c = 41
  · rw [if_pos c5]
    refine Or.inr ⟨c, ?_, h0 c (by rw [c5]; decide) h45 hl hd (Or.inr (Or.inl ⟨Or.inr (Or.inr (Or.inl c5)), rfl⟩))⟩
    rw [y_addE hcc (by rw [c5]; decide)]
  rw [if_neg c5]
  by_cases c6 : c = 58
  · rw [if_pos c6]
    refine Or.inr ⟨c, ?_, h0 c (by rw [c6]; decide) h45 hl hd (Or.inr (Or.inl ⟨Or.inr (Or.inr (Or.inr c6)), rfl⟩))⟩
    rw [y_addE hcc (by rw [c6]; decide)]
  rw [if_neg c6]
  by_cases c7 : c = 32
  · rw [if_pos c7]
    exact Or.inl ⟨c7, rfl⟩
  rw [if_neg c7]
  exact Or.inr ⟨63, rfl, h0 63 c7 h45 hl hd (Or.inr (Or.inr ⟨c1, c2, c3, c4, c5, c6, rfl⟩))⟩
