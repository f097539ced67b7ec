def y_in (v a b : Int64) : Prop := a.toInt ≤ v.toInt ∧ v.toInt ≤ b.toInt
def y_rg (a b : Int64) : Prop := -1099511627776 < a.toInt ∧ b.toInt < 1099511627776
def y_tv (L : Nat) (text : Nat → Int32) (q : Nat) (k : Int32) (v : Int64) (r : Nat) : Prop :=
  y_ch L text q ≠ 32 ∧ q < r ∧ (q < L → r ≤ L) ∧
  (∀ C : Int32, (C = 44 ∨ C = 40 ∨ C = 41 ∨ C = 58) → ((k = C ↔ y_ch L text q = C) ∧ (k = C → r = q + 1))) ∧
  ((k = 10 ↔ y_ch L text q = 10 ∨ y_ch L text q = 59) ∧ (k = 10 → r = q + 1)) ∧
  (k = 120 → f_X11_takeRegister_c1 (Int32.ofNat L) 0 text (Int32.ofNat q) = (v.toInt32, Int32.ofNat r, 0)) ∧
  (k ≠ 120 → ∃ a b, f_X11_takeRegister_c1 (Int32.ofNat L) 0 text (Int32.ofNat q) = (a, b, 1)) ∧
  (∀ (a b : Int64) (u : Int32), y_rg a b → (u = 0 ∨ u = 1) → (k = 48 → ∃ x u', f_X11_number_c1 a b (Int32.ofNat L) 0 u text (Int32.ofNat q) = (x, Int32.ofNat r, 0, u') ∧ ((u = 0 ∧ y_in v a b ∧ u' = 0 ∧ x = v) ∨ (¬ (u = 0 ∧ y_in v a b) ∧ u' = 1))) ∧ (k ≠ 48 → ∃ x y, f_X11_number_c1 a b (Int32.ofNat L) 0 u text (Int32.ofNat q) = (x, y, 1, u))) ∧
  (k = 97 → y_let (y_ch L text q) ∧ ∃ w, f_X11_letters_c1 (Int32.ofNat L) text (Int32.ofNat q) = (w, Int32.ofNat r) ∧ y_key v w) ∧
  (k ≠ 97 → y_let (y_ch L text q) → ∃ w s, f_X11_letters_c1 (Int32.ofNat L) text (Int32.ofNat q) = (w, Int32.ofNat s) ∧ q < s ∧ s ≤ L ∧ (w = 0 ∨ (w = 120 ∧ y_dig (y_ch L text s))))
theorem y_regN {L q : Nat} {text : Nat → Int32} (hL : L ≤ 400) (hq : q ≤ L) (h : y_ch L text q ≠ 120 ∨ ¬ y_dig (y_ch L text (q + 1))) : ∃ a b, f_X11_takeRegister_c1 (Int32.ofNat L) 0 text (Int32.ofNat q) = (a, b, 1) := by
  unfold f_X11_takeRegister_c1 f_X11_takeRegister_c17
  rw [if_pos rfl, i_chr hL (by omega)]
  by_cases h1 : y_ch L text q = 120
  · rw [if_pos h1]
    unfold f_X11_takeRegister_c32 f_X11_takeRegister_c35
    rw [i_s, i_chr hL (by omega)]
    rcases h with h | h
    · exact absurd h1 h
    · rw [if_pos (show f_X11_isDigit (y_ch L text (q + 1)) = 0 from Classical.byContradiction h)]
      exact ⟨_, _, rfl⟩
  · rw [if_neg h1]
    exact ⟨_, _, rfl⟩
theorem y_numN {L q : Nat} {text : Nat → Int32} {a b : Int64} {u : Int32} (hL : L ≤ 400) (hq : q ≤ L) (h : (y_ch L text q ≠ 45 ∧ ¬ y_dig (y_ch L text q)) ∨ (y_ch L text q = 45 ∧ ¬ y_dig (y_ch L text (q + 1)))) : ∃ x y, f_X11_number_c1 a b (Int32.ofNat L) 0 u text (Int32.ofNat q) = (x, y, 1, u) := by
  unfold f_X11_number_c1 f_X11_number_c9
  rw [i_chr hL (by omega)]
  rcases h with ⟨h1, h2⟩ | ⟨h1, h2⟩
  · rw [if_neg h1]
    unfold f_X11_number_22 f_X11_number_42 f_X11_number_c55 f_X11_number_c58
    rw [if_pos rfl, if_pos rfl, i_chr hL (by omega), if_pos (show f_X11_isDigit (y_ch L text q) = 0 from Classical.byContradiction h2)]
    exact ⟨_, _, rfl⟩
  · rw [if_pos h1]
    unfold f_X11_number_22 f_X11_number_42 f_X11_number_c55 f_X11_number_c58
    rw [if_neg (by decide), if_pos rfl, i_s, i_chr hL (by omega), if_pos (show f_X11_isDigit (y_ch L text (q + 1)) = 0 from Classical.byContradiction h2)]
    exact ⟨_, _, rfl⟩
theorem y_numY {L q s r : Nat} {text : Nat → Int32} {a b : Int64} {u : Int32} (hL : L ≤ 400) (hrL : r ≤ L) (hg : y_rg a b) (hu : u = 0 ∨ u = 1) (hs : (y_ch L text q ≠ 45 ∧ s = q) ∨ (y_ch L text q = 45 ∧ s = q + 1)) (hsr : s < r) (hrun : y_run y_dig (y_ch L text) s r) {neg : Int32} (hneg : (neg = 0) ↔ y_ch L text q ≠ 45) {D : Int64} (hD : D = if r - s ≤ 10 then y_d (y_ch L text) s (r - s) else 1099511627776) {v : Int64} (hv : v = if neg = 0 then D else -D) : ∃ x u', f_X11_number_c1 a b (Int32.ofNat L) 0 u text (Int32.ofNat q) = (x, Int32.ofNat r, 0, u') ∧ ((u = 0 ∧ y_in v a b ∧ u' = 0 ∧ x = v) ∨ (¬ (u = 0 ∧ y_in v a b) ∧ u' = 1)) := by
  have hd : y_dig (y_ch L text s) := hrun.2.1 s (Nat.le_refl s) hsr
  have hE : ∀ l5 : Int32, (l5 = 0 ↔ neg = 0) → ∃ x u', f_X11_number_160 (Int32.ofNat r) 0 u a b (if l5 = 0 then y_d (y_ch L text) s (min (r - s) 10) else -(y_d (y_ch L text) s (min (r - s) 10))) (Int32.ofNat r) (Int32.ofNat s) = (x, Int32.ofNat r, 0, u') ∧ ((u = 0 ∧ y_in v a b ∧ u' = 0 ∧ x = v) ∨ (¬ (u = 0 ∧ y_in v a b) ∧ u' = 1)) := by
    intro l5 h5
    have e10 : (10 < Int32.ofNat (r - s)) ↔ 10 < r - s := i_lt (by decide) (by omega)
    unfold f_X11_number_160
    rw [i_sub (by omega)]
    by_cases hu0 : u = 0
    · rw [if_pos hu0]
      by_cases h10 : 10 < r - s
      · rw [if_pos (e10.mpr h10)]
        refine ⟨_, _, rfl, Or.inr ⟨fun h => ?_, rfl⟩⟩
        have hh := h.2
        rw [if_neg (by omega)] at hD
        rw [hv, hD] at hh
        obtain ⟨g1, g2⟩ := hg
        obtain ⟨h1, h2⟩ := hh
        by_cases hn : neg = 0
        · rw [if_pos hn, show (1099511627776 : Int64).toInt = 1099511627776 by decide] at h2; omega
        · rw [if_neg hn, show (-1099511627776 : Int64).toInt = -1099511627776 by decide] at h1; omega
      · rw [if_neg (fun h => h10 (e10.mp h))]
        have hx : (if l5 = 0 then y_d (y_ch L text) s (min (r - s) 10) else -(y_d (y_ch L text) s (min (r - s) 10))) = v := by
          rw [hv, hD, if_pos (show r - s ≤ 10 by omega), Nat.min_eq_left (by omega)]
          by_cases hn : neg = 0
          · rw [if_pos hn, if_pos (h5.mpr hn)]
          · rw [if_neg hn, if_neg (fun h => hn (h5.mp h))]
        rw [hx]
        have c1 := e_lcmp_lt v a
        have c2 := e_lcmp_le v b
        by_cases k1 : lg_cmp v a < 0
        · rw [if_pos k1]
          exact ⟨_, _, rfl, Or.inr ⟨fun h => by have := c1.mp k1; have := h.2.1; omega, rfl⟩⟩
        · rw [if_neg k1]
          by_cases k2 : lg_cmp v b ≤ 0
          · rw [if_pos k2]
            exact ⟨_, _, rfl, Or.inl ⟨hu0, ⟨Int.not_lt.mp (fun h => k1 (c1.mpr h)), c2.mp k2⟩, rfl, rfl⟩⟩
          · rw [if_neg k2]
            exact ⟨_, _, rfl, Or.inr ⟨fun h => k2 (c2.mpr h.2.2), rfl⟩⟩
    · rw [if_neg hu0]
      exact ⟨_, _, rfl, Or.inr ⟨fun h => hu0 h.1, rfl⟩⟩
  unfold f_X11_number_c1 f_X11_number_c9
  rw [i_chr hL (by omega)]
  rcases hs with ⟨h1, h2⟩ | ⟨h1, h2⟩
  · subst h2
    rw [if_neg h1]
    unfold f_X11_number_22 f_X11_number_42 f_X11_number_c55 f_X11_number_c58
    rw [if_pos rfl, if_pos rfl, i_chr hL (by omega), if_neg (show ¬ f_X11_isDigit (y_ch L text s) = 0 from hd), y_digR hL hrL 401 hrun (by omega) (Nat.le_refl s) (by simp [y_d])]
    exact hE 0 ⟨fun _ => hneg.mpr h1, fun _ => rfl⟩
  · subst h2
    rw [if_pos h1]
    unfold f_X11_number_22 f_X11_number_42 f_X11_number_c55 f_X11_number_c58
    rw [if_neg (by decide), if_pos rfl, i_s, i_chr hL (by omega), if_neg (show ¬ f_X11_isDigit (y_ch L text (q + 1)) = 0 from hd), y_digR hL hrL 401 hrun (by omega) (Nat.le_refl (q + 1)) (by simp [y_d])]
    exact hE 1 ⟨fun h => absurd h (by decide), fun h => absurd h1 (hneg.mp h)⟩
theorem y_addE {kind : Int32} {value : Int64} {cc : Nat} {kinds : Nat → Int32} {kvals : Nat → Int64} (h : cc < 401) (hk : vp_nar .char kind = kind) : f_X9_add kind value (Int32.ofNat cc) kinds kvals = (Int32.ofNat (cc + 1), upd kinds cc kind, vp_updL kvals cc value) := by
  unfold f_X9_add
  rw [if_neg (fun h2 => by have := (i_le (a := 401) (by decide) (by omega)).mp h2; omega), i_cl (by omega), i_s, hk]
theorem y_tvM {L q : Nat} {text : Nat → Int32} {k : Int32} (hL : L ≤ 400) (hq : q ≤ L) (h32 : y_ch L text q ≠ 32) (h45 : y_ch L text q ≠ 45) (hl : ¬ y_let (y_ch L text q)) (hd : ¬ y_dig (y_ch L text q)) (hk : ((y_ch L text q = 10 ∨ y_ch L text q = 59) ∧ k = 10) ∨ ((y_ch L text q = 44 ∨ y_ch L text q = 40 ∨ y_ch L text q = 41 ∨ y_ch L text q = 58) ∧ k = y_ch L text q) ∨ (y_ch L text q ≠ 10 ∧ y_ch L text q ≠ 59 ∧ y_ch L text q ≠ 44 ∧ y_ch L text q ≠ 40 ∧ y_ch L text q ≠ 41 ∧ y_ch L text q ≠ 58 ∧ k = 63)) : y_tv L text q k 0 (q + 1) := by
  have h120 : y_ch L text q ≠ 120 := fun e => hl (by rw [e]; decide)
  have hk3 : k ≠ 120 ∧ k ≠ 48 ∧ k ≠ 97 := by
    rcases hk with ⟨_, h⟩ | ⟨h1, h⟩ | ⟨_, _, _, _, _, _, h⟩
    · rw [h]; decide
    · rw [h]; rcases h1 with e | e | e | e <;> rw [e] <;> decide
    · rw [h]; decide
  refine ⟨h32, by omega, fun h => by omega, ?_, ⟨?_, fun _ => rfl⟩, fun e => absurd e hk3.1, fun _ => y_regN hL hq (Or.inl h120), fun a b u _ _ => ⟨fun e => absurd e hk3.2.1, fun _ => y_numN hL hq (Or.inl ⟨h45, hd⟩)⟩, fun e => absurd e hk3.2.2, fun _ h => absurd h hl⟩
  · intro C hC
    refine ⟨?_, fun _ => rfl⟩
    rcases hk with ⟨h0, h⟩ | ⟨h1, h⟩ | ⟨_, _, g1, g2, g3, g4, h⟩
    · rw [h]
      constructor
      · intro e; rw [← e] at hC; exact absurd hC (by decide)
      · intro e; rw [← e] at hC; rcases h0 with e0 | e0 <;> (rw [e0] at hC; exact absurd hC (by decide))
    · rw [h]
    · rw [h]
      constructor
      · intro e; rw [← e] at hC; exact absurd hC (by decide)
      · intro e; rw [← e] at hC; rcases hC with e0 | e0 | e0 | e0
        · exact absurd e0 g1
        · exact absurd e0 g2
        · exact absurd e0 g3
        · exact absurd e0 g4
  · rcases hk with ⟨h0, h⟩ | ⟨h1, h⟩ | ⟨g1, g2, _, _, _, _, h⟩
    · exact ⟨fun _ => h0, fun _ => h⟩
    · rw [h]
      constructor
      · intro e; exact Or.inl e
      · intro e
        rcases h1 with e1 | e1 | e1 | e1 <;> (rw [e1] at e; exact absurd e (by decide))
    · rw [h]
      constructor
      · intro e; exact absurd e (by decide)
      · intro e; rcases e with e | e
        · exact absurd e g1
        · exact absurd e g2
theorem y_tvN {L q s r : Nat} {text : Nat → Int32} {k neg : Int32} {v D : Int64} (hL : L ≤ 400) (hrL : r ≤ L) (hqL : q < L) (hc : y_dig (y_ch L text q) ∨ y_ch L text q = 45) (hs : (y_ch L text q ≠ 45 ∧ s = q) ∨ (y_ch L text q = 45 ∧ s = q + 1)) (hrun : y_run y_dig (y_ch L text) s r) (hneg : (neg = 0) ↔ y_ch L text q ≠ 45) (hD : D = if r - s ≤ 10 then y_d (y_ch L text) s (r - s) else 1099511627776) (hv : v = if neg = 0 then D else -D) (hk : (r = s ∧ k = 63) ∨ (s < r ∧ k = 48)) : y_tv L text q k v r := by
  have hsq : q ≤ s := by rcases hs with h | h <;> omega
  have hr1 := hrun.1
  have hqr : q < r := by
    rcases hs with ⟨h1, h2⟩ | ⟨h1, h2⟩
    · rcases y_run_step hrun with ⟨a, b, c⟩ | ⟨a, b⟩
      · omega
      · rw [h2] at a; rcases hc with h | h
        · exact absurd h a
        · exact absurd h h1
    · omega
  have hne : ∀ C : Int32, ¬ y_dig C → C ≠ 45 → y_ch L text q ≠ C := by
    intro C h1 h2 e
    rw [e] at hc
    rcases hc with h | h
    · exact h1 h
    · exact h2 h
  have hnl : ¬ y_let (y_ch L text q) := by
    intro h
    rcases hc with h1 | h1
    · have := (y_let_iff _).mp h; have := (y_dig_iff _).mp h1; omega
    · rw [h1] at h; exact h (by decide)
  have hk2 : k ≠ 120 ∧ k ≠ 97 ∧ k ≠ 10 ∧ k ≠ 44 ∧ k ≠ 40 ∧ k ≠ 41 ∧ k ≠ 58 := by
    rcases hk with ⟨_, h⟩ | ⟨_, h⟩ <;> rw [h] <;> decide
  refine ⟨hne 32 (by decide) (by decide), hqr, fun _ => hrL, ?_, ⟨⟨fun e => absurd e hk2.2.2.1, ?_⟩, fun e => absurd e hk2.2.2.1⟩, fun e => absurd e hk2.1, fun _ => y_regN hL (by omega) (Or.inl (hne 120 (by decide) (by decide))), fun a b u hg hu => ⟨?_, ?_⟩, fun e => absurd e hk2.2.1, fun _ h => absurd h hnl⟩
  · intro C hC
    rcases hC with e | e | e | e <;> subst e
    · exact ⟨⟨fun e => absurd e hk2.2.2.2.1, fun e => absurd e (hne 44 (by decide) (by decide))⟩, fun e => absurd e hk2.2.2.2.1⟩
    · exact ⟨⟨fun e => absurd e hk2.2.2.2.2.1, fun e => absurd e (hne 40 (by decide) (by decide))⟩, fun e => absurd e hk2.2.2.2.2.1⟩
    · exact ⟨⟨fun e => absurd e hk2.2.2.2.2.2.1, fun e => absurd e (hne 41 (by decide) (by decide))⟩, fun e => absurd e hk2.2.2.2.2.2.1⟩
    · exact ⟨⟨fun e => absurd e hk2.2.2.2.2.2.2, fun e => absurd e (hne 58 (by decide) (by decide))⟩, fun e => absurd e hk2.2.2.2.2.2.2⟩
  · intro e
    rcases e with e | e
    · exact absurd e (hne 10 (by decide) (by decide))
    · exact absurd e (hne 59 (by decide) (by decide))
  · intro e
    rcases hk with ⟨h1, h2⟩ | ⟨h1, h2⟩
    · rw [h2] at e; exact absurd e (by decide)
    · exact y_numY hL hrL hg hu hs h1 hrun hneg hD hv
  · intro e
    rcases hk with ⟨h1, h2⟩ | ⟨h1, h2⟩
    · have hnd : ¬ y_dig (y_ch L text s) := by rw [← h1]; exact hrun.2.2
      rcases hs with ⟨g1, g2⟩ | ⟨g1, g2⟩
      · exact y_numN hL (by omega) (Or.inl ⟨g1, by rw [← g2]; exact hnd⟩)
      · exact y_numN hL (by omega) (Or.inr ⟨g1, by rw [← g2]; exact hnd⟩)
    · exact absurd h2 e
