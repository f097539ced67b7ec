theorem y_takeL {L q cc : Nat} {text : Nat → Int32} {kinds : Nat → Int32} {kvals : Nat → Int64} (hL : L ≤ 400) (hq : q < L) (hcc : cc < 401) (hc : y_let (y_ch L text q)) : ∃ k v r, f_X9_takeLetters (Int32.ofNat cc) (Int32.ofNat L) (Int32.ofNat q) kinds kvals text = (Int32.ofNat (cc + 1), Int32.ofNat r, upd kinds cc k, vp_updL kvals cc v) ∧ y_tv L text q k v r ∧ r ≤ L := by
  obtain ⟨r, hrL, hrun⟩ := y_run_ex (P := y_let) (by decide) (text := text) (L - q) (Nat.le_of_lt hq) rfl
  have hqr : q < r := by
    rcases y_run_step hrun with ⟨a, b, c⟩ | ⟨a, b⟩
    · exact b
    · exact absurd hc a
  unfold f_X9_takeLetters
  obtain ⟨key, hkey, heq⟩ := y_letC (c := Int32.ofNat cc) (kinds := kinds) (kvals := kvals) hL hrun.2.1 hrL 401 hrun (by omega) (Nat.le_refl q) (key := 0) (fun _ => by rw [Nat.sub_self]; rfl)
  rw [heq]
  have hlet := y_let1 hL hrL hrun
  have htq : text q = y_ch L text q := (y_chk (by omega)).symm
  -- plain letters
  have plain : (y_ch L text q ≠ 120 ∨ ¬ y_dig (y_ch L text (q + 1))) → ∃ k v r', f_X9_takeLetters_144 (Int32.ofNat cc) (Int32.ofNat r) kinds kvals (Int32.ofNat q) key = (Int32.ofNat (cc + 1), Int32.ofNat r', upd kinds cc k, vp_updL kvals cc v) ∧ y_tv L text q k v r' ∧ r' ≤ L := by
    intro hx
    unfold f_X9_takeLetters_144 f_X9_takeLetters_163 f_X9_takeLetters_c164
    rw [i_sub (by omega), y_addE (kind := 97) hcc (by decide), y_addE (kind := 63) hcc (by decide)]
    have e8 : (Int32.ofNat (r - q) ≤ 8) ↔ r - q ≤ 8 := i_le (by omega) (by decide)
    by_cases h8 : r - q ≤ 8
    · rw [if_pos (e8.mpr h8)]
      rw [if_pos h8] at hlet
      refine ⟨97, key, r, rfl, y_tvL hL hq hrL hqr hc (Or.inl rfl) (fun e => absurd e (by decide)) (fun _ => y_regN hL (by omega) hx) (fun _ => ⟨hc, _, hlet, y_lt (y_ch L text) q (r - q), ?_, ?_, ?_, hkey h8, rfl⟩) (fun e => absurd rfl e), hrL⟩
      · intro e
        have := y_lt_len (y_ch L text) q (r - q)
        rw [e] at this
        simp at this
        omega
      · rw [y_lt_len]; exact h8
      · exact y_lt_ok (r - q) (fun i a b => hrun.2.1 i a (by omega))
    · rw [if_neg (fun h => h8 (e8.mp h))]
      rw [if_neg h8] at hlet
      exact ⟨63, key, r, rfl, y_tvL hL hq hrL hqr hc (Or.inr (Or.inr rfl)) (fun e => absurd e (by decide)) (fun _ => y_regN hL (by omega) hx) (fun e => absurd e (by decide)) (fun _ _ => ⟨_, _, hlet, hqr, hrL, Or.inl rfl⟩), hrL⟩
  unfold f_X9_takeLetters_69
  rw [i_sub (by omega), i_cl (by omega), htq]
  have e1 : (Int32.ofNat (r - q) = 1) ↔ r - q = 1 := i_eq (by omega) (by decide)
  by_cases h1 : r - q = 1
  · rw [if_pos (e1.mpr h1)]
    have hr1 : r = q + 1 := by omega
    by_cases hx : y_ch L text q = 120
    · rw [if_pos hx]
      unfold f_X9_takeLetters_98
      rw [if_neg (by decide)]
      by_cases hLr : L ≤ r
      · rw [if_pos ((i_le (by omega) (by omega)).mpr hLr)]
        refine plain (Or.inr (fun h => ?_))
        rw [← hr1, y_che hLr] at h
        exact h (by decide)
      · rw [if_neg (fun h => hLr ((i_le (by omega) (by omega)).mp h)), i_cl (by omega)]
        unfold f_X9_takeLetters_c131
        by_cases hd : y_dig (y_ch L text r)
        · have hd' := hd
          rw [y_chk hLr] at hd'
          rw [if_neg hd']
          subst hr1
          obtain ⟨r2, hr2L, hrun2⟩ := y_run_ex (P := y_dig) (by decide) (text := text) (L - (q + 1)) hrL rfl
          have hr2 := hrun2.1
          have hreg : ∃ k, f_X9_takeRegister (Int32.ofNat cc) (Int32.ofNat L) (Int32.ofNat (q + 1)) kinds kvals text = (Int32.ofNat (cc + 1), Int32.ofNat r2, upd kinds cc k, vp_updL kvals cc (if r2 - (q + 1) ≤ 10 then y_d (y_ch L text) (q + 1) (r2 - (q + 1)) else 1099511627776)) ∧ y_tv L text q k (if r2 - (q + 1) ≤ 10 then y_d (y_ch L text) (q + 1) (r2 - (q + 1)) else 1099511627776) r2 := by
            unfold f_X9_takeRegister
            rw [y_digS hL hr2L hrun2]
            generalize hD : (if r2 - (q + 1) ≤ 10 then y_d (y_ch L text) (q + 1) (r2 - (q + 1)) else 1099511627776) = D
            obtain ⟨g1, g2⟩ := y_regY hL hr2L hx hd hrun2 hD.symm
            unfold f_X9_takeRegister_c6 f_X9_takeRegister_36 f_X9_takeRegister_c37
            rw [y_addE (kind := 120) hcc (by decide), y_addE (kind := 63) hcc (by decide)]
            show ∃ k, (if (2 : Int32) < Int32.ofNat r2 - Int32.ofNat (q + 1) then _ else _) = _ ∧ _
            have e2 : ((2 : Int32) < Int32.ofNat (r2 - (q + 1))) ↔ 2 < r2 - (q + 1) := i_lt (by decide) (by omega)
            have e16 : lg_cmp D 16 < 0 ↔ D.toInt < 16 := e_lcmp_lt D 16
            have hlet2 : ∀ k : Int32, k ≠ 97 → y_let (y_ch L text q) → ∃ w s, f_X11_letters_c1 (Int32.ofNat L) text (Int32.ofNat q) = (w, Int32.ofNat s) ∧ q < s ∧ s ≤ L ∧ (w = 0 ∨ (w = 120 ∧ y_dig (y_ch L text s))) := by
              intro k _ _
              refine ⟨_, _, hlet, hqr, hrL, Or.inr ⟨?_, hd⟩⟩
              rw [if_pos (by omega), show q + 1 - q = 1 by omega]
              simp only [y_lt, y_w, Nat.add_zero, List.length_nil]
              rw [hx]; decide
            have hq2 : q < r2 := by omega
            rw [i_sub hr2]
            by_cases h2 : 2 < r2 - (q + 1)
            · rw [if_pos (e2.mpr h2)]
              exact ⟨63, rfl, y_tvL hL hq hr2L hq2 hc (Or.inr (Or.inr rfl)) (fun e => absurd e (by decide)) (fun _ => g2 (fun h => h.1 h2)) (fun e => absurd e (by decide)) (hlet2 63)⟩
            · rw [if_neg (fun h => h2 (e2.mp h))]
              by_cases h16 : D.toInt < 16
              · rw [if_pos (e16.mpr h16)]
                exact ⟨120, rfl, y_tvL hL hq hr2L hq2 hc (Or.inr (Or.inl rfl)) (fun _ => g1 ⟨h2, h16⟩) (fun e => absurd rfl e) (fun e => absurd e (by decide)) (hlet2 120)⟩
              · rw [if_neg (fun h => h16 (e16.mp h))]
                exact ⟨63, rfl, y_tvL hL hq hr2L hq2 hc (Or.inr (Or.inr rfl)) (fun e => absurd e (by decide)) (fun _ => g2 (fun h => h16 h.2)) (fun e => absurd e (by decide)) (hlet2 63)⟩
          obtain ⟨k, g1, g2⟩ := hreg
          rw [g1]
          exact ⟨k, _, r2, rfl, g2, hr2L⟩
        · have hd' := hd
          rw [y_chk hLr] at hd'
          rw [if_pos (Classical.byContradiction hd')]
          exact plain (Or.inr (by rw [← hr1]; exact hd))
    · rw [if_neg hx]
      unfold f_X9_takeLetters_98
      rw [if_pos rfl]
      exact plain (Or.inl hx)
  · rw [if_neg (fun h => h1 (e1.mp h))]
    unfold f_X9_takeLetters_98
    rw [if_pos rfl]
    refine plain (Or.inr (fun h => ?_))
    have h3 := hrun.2.1 (q + 1) (by omega) (by omega)
    have := (y_let_iff _).mp h3; have := (y_dig_iff _).mp h; omega
def y_sy (L : Nat) (text K : Nat → Int32) (V : Nat → Int64) : Nat → Nat → Nat → Prop
  | 0, _, p => p = L + 1
  | n + 1, c, p => p ≤ L ∧ ∃ q r, p ≤ q ∧ q ≤ L ∧ (∀ i, p ≤ i → i < q → y_ch L text i = 32) ∧ y_tv L text q (K c) (V c) r ∧ y_sy L text K V n (c + 1) r
theorem y_updk {f : Nat → Int32} {c : Nat} {x : Int32} : upd f c x c = x := by simp [upd]
theorem y_updn {f : Nat → Int32} {c i : Nat} {x : Int32} (h : i ≠ c) : upd f c x i = f i := by simp [upd, h]
theorem y_updLk {f : Nat → Int64} {c : Nat} {x : Int64} : vp_updL f c x c = x := by simp [vp_updL]
theorem y_updLn {f : Nat → Int64} {c i : Nat} {x : Int64} (h : i ≠ c) : vp_updL f c x i = f i := by simp [vp_updL, h]
def y_spl (L : Nat) (text : Nat → Int32) (cc p : Nat) (kinds : Nat → Int32) (kvals : Nat → Int64) (R : Int32 × Int32 × (Nat → Int32) × (Nat → Int64)) : Prop := ∃ (n : Nat) (a : Int32) (K : Nat → Int32) (V : Nat → Int64), R = (Int32.ofNat (cc + n + 1), a, K, V) ∧ cc + n ≤ L ∧ (∀ i, i < cc → K i = kinds i ∧ V i = kvals i) ∧ y_sy L text K V (n + 1) cc p
theorem y_spl_tok {L : Nat} {text : Nat → Int32} {cc q r : Nat} {kinds : Nat → Int32} {kvals : Nat → Int64} {k : Int32} {v : Int64} {R : Int32 × Int32 × (Nat → Int32) × (Nat → Int64)} (hq : q ≤ L) (ht : y_tv L text q k v r) (h : y_spl L text (cc + 1) r (upd kinds cc k) (vp_updL kvals cc v) R) : y_spl L text cc q kinds kvals R := by
  obtain ⟨n, a, K, V, h1, h2, h3, h4⟩ := h
  refine ⟨n + 1, a, K, V, by rw [h1]; congr 2; omega, by omega, fun i hi => ?_, hq, q, r, Nat.le_refl q, hq, fun i a b => by omega, ?_, h4⟩
  · obtain ⟨g1, g2⟩ := h3 i (by omega)
    rw [y_updn (by omega)] at g1
    rw [y_updLn (by omega)] at g2
    exact ⟨g1, g2⟩
  · obtain ⟨g1, g2⟩ := h3 cc (by omega)
    rw [y_updk] at g1
    rw [y_updLk] at g2
    rw [g1, g2]; exact ht
theorem y_spl_sp {L : Nat} {text : Nat → Int32} {cc q : Nat} {kinds : Nat → Int32} {kvals : Nat → Int64} {R : Int32 × Int32 × (Nat → Int32) × (Nat → Int64)} (hq : q < L) (hc : y_ch L text q = 32) (h : y_spl L text cc (q + 1) kinds kvals R) : y_spl L text cc q kinds kvals R := by
  obtain ⟨n, a, K, V, h1, h2, h3, h4, q1, r1, g1, g2, g3, g4, g5⟩ := h
  refine ⟨n, a, K, V, h1, h2, h3, by omega, q1, r1, by omega, g2, fun i a b => ?_, g4, g5⟩
  by_cases e : i = q
  · rw [e]; exact hc
  · exact g3 i (by omega) b
theorem y_split0 {L : Nat} {text : Nat → Int32} (hL : L ≤ 400) : ∀ (n : Nat) {g cc p : Nat} {kinds : Nat → Int32} {kvals : Nat → Int64}, p ≤ L → L - p < n → g + (L - p) ≤ 400 → cc ≤ p → y_spl L text cc p kinds kvals (f_X9_split_12 (Int32.ofNat L) text n (Int32.ofNat g) (Int32.ofNat cc) (Int32.ofNat p) kinds kvals) := by
  intro n
  induction n with
  | zero => intro g cc p kinds kvals _ h; omega
  | succ n ih =>
    intro g cc p kinds kvals hp hn hg hcc
    unfold f_X9_split_12
    by_cases hlt : p < L
    · have hg4 : ¬ (400 : Int32) ≤ Int32.ofNat g := by
        intro h2
        have := (i_le (a := 400) (by decide) (by omega)).mp h2
        omega
      have htp : text p = y_ch L text p := (y_chk (by omega)).symm
      rw [if_neg hg4, if_neg (fun h => by have := (i_le (by omega) (by omega)).mp h; omega), i_cl (by omega)]
      unfold f_X9_split_c47 f_X9_split_c54 f_X9_split_96
      rw [i_cl (by omega), i_s, htp]
      by_cases hc : y_let (y_ch L text p)
      · rw [if_neg hc]
        obtain ⟨k, v, r, h1, h2, h3⟩ := y_takeL (kinds := kinds) (kvals := kvals) hL hlt (show cc < 401 by omega) hc
        have hqr := h2.2.1
        rw [h1]
        exact y_spl_tok hp h2 (ih h3 (by omega) (by omega) (by omega))
      · rw [if_pos (Classical.byContradiction hc)]
        unfold f_X9_split_c61 f_X9_split_73 f_X9_split_85 f_X9_split_c85 f_X9_split_c93 f_X9_split_96
        rw [i_cl (by omega), i_s, htp]
        by_cases hd : y_dig (y_ch L text p)
        · have h45 : y_ch L text p ≠ 45 := fun e => by rw [e] at hd; exact hd (by decide)
          rw [if_neg hd, if_neg h45]
          obtain ⟨k, v, r, h1, h2, h3⟩ := y_takeN (neg := 0) (kinds := kinds) (kvals := kvals) hL hlt (show cc < 401 by omega) (Or.inl hd) ⟨fun _ => h45, fun _ => rfl⟩
          have hqr := h2.2.1
          rw [h1]
          exact y_spl_tok hp h2 (ih h3 (by omega) (by omega) (by omega))
        · rw [if_pos (Classical.byContradiction hd)]
          by_cases h45 : y_ch L text p = 45
          · rw [if_pos h45, if_pos h45]
            obtain ⟨k, v, r, h1, h2, h3⟩ := y_takeN (neg := 1) (kinds := kinds) (kvals := kvals) hL hlt (show cc < 401 by omega) (Or.inr h45) ⟨fun h => absurd h (by decide), fun h => absurd h45 h⟩
            have hqr := h2.2.1
            rw [h1]
            exact y_spl_tok hp h2 (ih h3 (by omega) (by omega) (by omega))
          · rw [if_neg h45]
            rcases y_takeM (kinds := kinds) (kvals := kvals) hL hlt (show cc < 401 by omega) h45 hc hd with ⟨h32, h1⟩ | ⟨k, h1, h2⟩
            · rw [h1]
              exact y_spl_sp hlt h32 (ih (by omega) (by omega) (by omega) (by omega))
            · rw [h1]
              exact y_spl_tok hp h2 (ih (by omega) (by omega) (by omega) (by omega))
    · have hpL : p = L := by omega
      have he : y_spl L text cc p kinds kvals (f_X9_split_102 (Int32.ofNat cc) (Int32.ofNat p) kinds kvals) := by
        unfold f_X9_split_102 f_X9_split_c106
        rw [y_addE (kind := 10) (by omega) (by decide)]
        refine ⟨0, _, _, _, rfl, by omega, fun i hi => ⟨y_updn (by omega), y_updLn (by omega)⟩, hp, p, p + 1, Nat.le_refl p, hp, fun i a b => by omega, ?_, by subst hpL; rfl⟩
        show y_tv L text p (upd kinds cc 10 cc) (vp_updL kvals cc 0 cc) (p + 1)
        rw [y_updk, y_updLk]
        have h10 : y_ch L text p = 10 := y_che (by omega)
        exact y_tvM hL hp (by rw [h10]; decide) (by rw [h10]; decide) (by rw [h10]; decide) (by rw [h10]; decide) (Or.inl ⟨Or.inl h10, rfl⟩)
      by_cases h4 : (400 : Int32) ≤ Int32.ofNat g
      · rw [if_pos h4]; exact he
      · rw [if_neg h4, if_pos ((i_le (by omega) (by omega)).mpr (by omega))]; exact he
theorem y_split {L : Nat} {text : Nat → Int32} {kinds : Nat → Int32} {kvals : Nat → Int64} (hL : L ≤ 400) : ∃ (n : Nat) (a : Int32) (K : Nat → Int32) (V : Nat → Int64), f_X9_split (Int32.ofNat L) kinds kvals text = (Int32.ofNat (n + 1), a, K, V) ∧ n ≤ L ∧ y_sy L text K V (n + 1) 0 0 := by
  obtain ⟨n, a, K, V, h1, h2, h3, h4⟩ := y_split0 (text := text) hL 401 (g := 0) (cc := 0) (p := 0) (kinds := kinds) (kvals := kvals) (by omega) (by omega) (by omega) (by omega)
  refine ⟨n, a, K, V, ?_, by omega, h4⟩
  rw [Nat.zero_add] at h1
  exact h1
