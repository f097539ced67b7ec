theorem y_last {L n c p : Nat} {text K : Nat → Int32} {V : Nat → Int64} (h : y_sy L text K V (n + 1) c p) (hk : K c ≠ 10) : ∃ m, n = m + 1 := by
  obtain ⟨h1, q, r, h2, h3, h4, h5, h6⟩ := h
  cases n with
  | zero =>
    exfalso
    have h7 : r = L + 1 := h6
    have h8 := h5.2.2.1
    have hq : q = L := by
      by_cases e : q < L
      · have := h8 e; omega
      · omega
    have h9 : y_ch L text q = 10 := y_che (by omega)
    exact hk (h5.2.2.2.2.1.1.mpr (Or.inl h9))
  | succ m => exact ⟨m, rfl⟩
theorem y_sk {L n c p : Nat} {text K : Nat → Int32} {V : Nat → Int64} (hL : L ≤ 400) (h : y_sy L text K V (n + 1) c p) : ∃ q r, f_X11_skip (Int32.ofNat L) (Int32.ofNat p) text = Int32.ofNat q ∧ q ≤ L ∧ y_tv L text q (K c) (V c) r ∧ y_sy L text K V n (c + 1) r ∧ y_sy L text K V (n + 1) c q := by
  obtain ⟨h1, q, r, h2, h3, h4, h5, h6⟩ := h
  refine ⟨q, r, y_skip hL ⟨h2, h4, h5.1⟩ h3, h3, h5, h6, h3, q, r, Nat.le_refl q, h3, fun i a b => by omega, h5, h6⟩
theorem y_need {L n c p : Nat} {text K : Nat → Int32} {V : Nat → Int64} {C : Int32} (hL : L ≤ 400) (hC : C = 44 ∨ C = 40 ∨ C = 41 ∨ C = 58) (h : y_sy L text K V (n + 1) c p) : (K c = C → ∃ m r, n = m + 1 ∧ f_X11_need C (Int32.ofNat L) (Int32.ofNat p) 0 text = (Int32.ofNat r, 0) ∧ y_sy L text K V (m + 1) (c + 1) r) ∧ (K c ≠ C → ∃ a, f_X11_need C (Int32.ofNat L) (Int32.ofNat p) 0 text = (a, 1)) := by
  obtain ⟨q, r, g1, g2, g3, g4, g5⟩ := y_sk hL h
  obtain ⟨t1, t2⟩ := g3.2.2.2.1 C hC
  unfold f_X11_need f_X11_need_c1 f_X11_need_c17
  rw [g1, if_pos rfl, i_chr hL (by omega), i_s]
  constructor
  · intro e
    obtain ⟨m, hm⟩ := y_last h (by rw [e]; rcases hC with e | e | e | e <;> rw [e] <;> decide)
    subst hm
    rw [if_pos (t1.mp e)]
    refine ⟨m, r, rfl, ?_, g4⟩
    rw [t2 e]
  · intro e
    rw [if_neg (fun h => e (t1.mpr h))]
    exact ⟨_, rfl⟩
theorem y_reg {L n c p : Nat} {text K : Nat → Int32} {V : Nat → Int64} (hL : L ≤ 400) (h : y_sy L text K V (n + 1) c p) : (K c = 120 → ∃ m r, n = m + 1 ∧ f_X11_takeRegister (Int32.ofNat L) (Int32.ofNat p) 0 text = ((V c).toInt32, Int32.ofNat r, 0) ∧ y_sy L text K V (m + 1) (c + 1) r) ∧ (K c ≠ 120 → ∃ a b, f_X11_takeRegister (Int32.ofNat L) (Int32.ofNat p) 0 text = (a, b, 1)) := by
  obtain ⟨q, r, g1, g2, g3, g4, g5⟩ := y_sk hL h
  unfold f_X11_takeRegister
  rw [g1]
  constructor
  · intro e
    obtain ⟨m, hm⟩ := y_last h (by rw [e]; decide)
    subst hm
    exact ⟨m, r, rfl, g3.2.2.2.2.2.1 e, g4⟩
  · intro e
    exact g3.2.2.2.2.2.2.1 e
theorem y_num {L n c p : Nat} {text K : Nat → Int32} {V : Nat → Int64} (a b : Int64) {u : Int32} (hg : y_rg a b) (hu : u = 0 ∨ u = 1) (hL : L ≤ 400) (h : y_sy L text K V (n + 1) c p) : (K c = 48 → ∃ m r x u', n = m + 1 ∧ f_X11_number a b (Int32.ofNat L) (Int32.ofNat p) 0 u text = (x, Int32.ofNat r, 0, u') ∧ (u' = 0 ∨ u' = 1) ∧ (u' = 0 → u = 0 ∧ x = V c) ∧ f_X0_fitted (V c) a b u = ((V c).toInt32, u') ∧ y_sy L text K V (m + 1) (c + 1) r) ∧ (K c ≠ 48 → ∃ x y, f_X11_number a b (Int32.ofNat L) (Int32.ofNat p) 0 u text = (x, y, 1, u)) := by
  obtain ⟨q, r, g1, g2, g3, g4, g5⟩ := y_sk hL h
  obtain ⟨t1, t2⟩ := g3.2.2.2.2.2.2.2.1 a b u hg hu
  unfold f_X11_number
  rw [g1]
  constructor
  · intro e
    obtain ⟨m, hm⟩ := y_last h (by rw [e]; decide)
    subst hm
    obtain ⟨x, u', w1, w2⟩ := t1 e
    have c1 := e_lcmp_lt (V c) a
    have c2 := e_lcmp_le (V c) b
    refine ⟨m, r, x, u', rfl, w1, ?_, ?_, ?_, g4⟩
    · rcases w2 with ⟨_, _, e, _⟩ | ⟨_, e⟩
      · exact Or.inl e
      · exact Or.inr e
    · intro e0
      rcases w2 with ⟨e1, _, _, e2⟩ | ⟨_, e1⟩
      · exact ⟨e1, e2⟩
      · rw [e0] at e1; exact absurd e1 (by decide)
    · unfold f_X0_fitted
      rcases w2 with ⟨e1, e2, e3, _⟩ | ⟨e1, e2⟩
      · rw [if_neg (fun h => by have h0 := c1.mp h; have h9 := e2.1; omega), if_pos (c2.mpr e2.2), e1, e3]
      · by_cases k1 : lg_cmp (V c) a < 0
        · rw [if_pos k1, e2]
        · rw [if_neg k1]
          by_cases k2 : lg_cmp (V c) b ≤ 0
          · rw [if_pos k2]
            rcases hu with hu | hu
            · exact absurd ⟨hu, Int.not_lt.mp (fun h => k1 (c1.mpr h)), c2.mp k2⟩ e1
            · rw [hu, e2]
          · rw [if_neg k2, e2]
  · intro e
    exact t2 e
theorem y_needW (C len p : Int32) (text : Nat → Int32) : f_X11_need C len p 1 text = (f_X11_skip len p text, 1) := by
  unfold f_X11_need f_X11_need_c1
  rw [if_neg (by decide)]
theorem y_regW (len p : Int32) (text : Nat → Int32) : f_X11_takeRegister len p 1 text = (0, f_X11_skip len p text, 1) := by
  unfold f_X11_takeRegister f_X11_takeRegister_c1
  rw [if_neg (by decide)]
theorem y_numW (a b : Int64) (len p u : Int32) (text : Nat → Int32) : f_X11_number a b len p 1 u text = (0, f_X11_skip len p text, 1, u) := by
  unfold f_X11_number f_X11_number_c1 f_X11_number_c9 f_X11_number_22 f_X11_number_42
  by_cases h : f_X11_character (f_X11_skip len p text) len text = 45
  · rw [if_pos h, if_neg (by decide), if_neg (by decide)]
  · rw [if_neg h, if_pos rfl, if_neg (by decide)]
theorem y_distW (j len p line words targets u : Int32) (text : Nat → Int32) (target : Nat → Int64) (tw tl : Nat → Int32) : (f_X11_distance j len p line words targets 1 u text target tw tl).2.2.2.1 = 1 := by
  have key : ∀ (s0 : Int64) (z : Int32), (f_X11_distance_17 len z line words targets 1 u text target tw tl j s0).2.2.2.1 = 1 := by
    intro s0 z
    unfold f_X11_distance_17 f_X11_distance_c23 f_X11_distance_c26
    by_cases h : f_X11_isLetter (f_X11_character z len text) = 0
    · rw [if_pos h, y_numW]
      unfold f_X11_distance_c156
      by_cases h1 : u = 0
      · rw [if_pos h1]
        by_cases h2 : lg_cmp ((0 : Int64) &&& 1) 0 = 0
        · rw [if_pos h2]
          by_cases h3 : j = 0
          · rw [if_pos h3]; rfl
          · rw [if_neg h3]; rfl
        · rw [if_neg h2]
          by_cases h3 : j = 0
          · rw [if_pos h3]; rfl
          · rw [if_neg h3]; rfl
      · rw [if_neg h1]
        by_cases h3 : j = 0
        · rw [if_pos h3]; rfl
        · rw [if_neg h3]; rfl
    · rw [if_neg h]
      unfold f_X11_distance_c33
      rw [if_neg (by decide)]
  unfold f_X11_distance f_X11_distance_c1
  by_cases h : j = 0
  · rw [if_pos h]; exact key _ _
  · rw [if_neg h]; exact key _ _
theorem y_letS {L n c p : Nat} {text K : Nat → Int32} {V : Nat → Int64} (hL : L ≤ 400) (h : y_sy L text K V (n + 1) c p) : f_X11_letters (Int32.ofNat L) (Int32.ofNat p) text = f_X11_letters_c1 (Int32.ofNat L) text (f_X11_skip (Int32.ofNat L) (Int32.ofNat p) text) := rfl
theorem y_c156 (D : Int32) (target : Nat → Int64) (tw tl : Nat → Int32) (jj : Int32) (x : Int64) (a w u : Int32) : f_X11_distance_c156 D target tw tl jj x a w u = (if jj = 0 then f_X11_branching x.toInt32 else f_X11_jumping x.toInt32, a, D, w, (if u = 0 then (if lg_cmp (x &&& 1) 0 = 0 then 0 else 1) else 1), target, tw, tl) := by
  unfold f_X11_distance_c156
  by_cases h1 : u = 0
  · rw [if_pos h1, if_pos h1]
    by_cases h2 : lg_cmp (x &&& 1) 0 = 0
    · rw [if_pos h2, if_pos h2]
      by_cases h3 : jj = 0
      · rw [if_pos h3, if_pos h3]; rfl
      · rw [if_neg h3, if_neg h3]; rfl
    · rw [if_neg h2, if_neg h2]
      by_cases h3 : jj = 0
      · rw [if_pos h3, if_pos h3]; rfl
      · rw [if_neg h3, if_neg h3]; rfl
  · rw [if_neg h1, if_neg h1]
    by_cases h3 : jj = 0
    · rw [if_pos h3, if_pos h3]; rfl
    · rw [if_neg h3, if_neg h3]; rfl
theorem y_fit1 (v a b : Int64) : f_X0_fitted v a b 1 = (v.toInt32, 1) := by
  unfold f_X0_fitted
  by_cases h1 : lg_cmp v a < 0
  · rw [if_pos h1]
  · rw [if_neg h1]
    by_cases h2 : lg_cmp v b ≤ 0
    · rw [if_pos h2]
    · rw [if_neg h2]
theorem y_distE (j s0 : Int64) (jj : Int32) (hj : (jj = 0 ∧ s0 = 4094) ∨ (jj = 1 ∧ s0 = 1048574)) (len p line words targets w u : Int32) (text : Nat → Int32) (target : Nat → Int64) (tw tl : Nat → Int32) : f_X11_distance jj len p line words targets w u text target tw tl = f_X11_distance_17 len (f_X11_skip len p text) line words targets w u text target tw tl jj s0 := by
  unfold f_X11_distance f_X11_distance_c1
  rcases hj with ⟨e1, e2⟩ | ⟨e1, e2⟩
  · rw [if_pos e1, e2]
  · rw [if_neg (by rw [e1]; decide), e2]
theorem y_dist {L n c p d : Nat} {text K : Nat → Int32} {V : Nat → Int64} {jj : Int32} {s0 : Int64} {line words u : Int32} {target : Nat → Int64} {tw tl : Nat → Int32} (hj : (jj = 0 ∧ s0 = 4094) ∨ (jj = 1 ∧ s0 = 1048574)) (hu : u = 0 ∨ u = 1) (hd : d ≤ 128) (hL : L ≤ 400) (h : y_sy L text K V (n + 1) c p) :
    (K c = 97 → ∃ m r w D t1 t2 t3, n = m + 1 ∧ y_key (V c) w ∧ f_X11_distance jj (Int32.ofNat L) (Int32.ofNat p) line words (Int32.ofNat d) 0 u text target tw tl = (0, Int32.ofNat r, D, 0, u, t1, t2, t3) ∧ (d < 128 → D = Int32.ofNat (d + 1) ∧ t1 = vp_updL target d w ∧ t2 = upd tw d words ∧ t3 = upd tl d line) ∧ y_sy L text K V (m + 1) (c + 1) r) ∧
    (K c = 48 → ∃ m r u', n = m + 1 ∧ (u' = 0 ∨ u' = 1) ∧ f_X0_fitted (V c) (-s0 - 2) s0 (f_X0_noteOdd (V c) u) = ((V c).toInt32, u') ∧ (∃ x, (u' = 0 → x = V c) ∧ f_X11_distance jj (Int32.ofNat L) (Int32.ofNat p) line words (Int32.ofNat d) 0 u text target tw tl = (if jj = 0 then f_X11_branching x.toInt32 else f_X11_jumping x.toInt32, Int32.ofNat r, Int32.ofNat d, 0, u', target, tw, tl)) ∧ y_sy L text K V (m + 1) (c + 1) r) ∧
    (K c ≠ 97 → K c ≠ 48 → (f_X11_distance jj (Int32.ofNat L) (Int32.ofNat p) line words (Int32.ofNat d) 0 u text target tw tl).2.2.2.1 = 1 ∨ ((f_X11_distance jj (Int32.ofNat L) (Int32.ofNat p) line words (Int32.ofNat d) 0 u text target tw tl).2.2.2.1 = 0 ∧ ∃ s, s ≤ L ∧ (f_X11_distance jj (Int32.ofNat L) (Int32.ofNat p) line words (Int32.ofNat d) 0 u text target tw tl).2.1 = Int32.ofNat s ∧ y_dig (y_ch L text s))) := by
  obtain ⟨q, r, g1, g2, g3, g4, g5⟩ := y_sk hL h
  have hg : y_rg (-s0 - 2) s0 := by
    rcases hj with ⟨_, e⟩ | ⟨_, e⟩ <;> rw [e] <;> exact ⟨by decide, by decide⟩
  have hs2 : f_X11_skip (Int32.ofNat L) (Int32.ofNat q) text = Int32.ofNat q := y_skip hL ⟨Nat.le_refl q, fun i a b => by omega, g3.1⟩ g2
  have hd1 : d < 128 → ¬ (128 : Int32) ≤ Int32.ofNat d := fun hd h => by
    have := (i_le (a := 128) (by decide) (by omega)).mp h; omega
  have hd2 : d < 128 → ¬ Int32.ofNat d = 128 := fun hd h => by
    have := (i_eq (b := 128) (by omega) (by decide)).mp h; omega
  have hd3 : ¬ d < 128 → (128 : Int32) ≤ Int32.ofNat d ∧ Int32.ofNat d = 128 := fun hd => by
    have : d = 128 := by omega
    rw [this]; exact ⟨by decide, by decide⟩
  rw [y_distE 0 s0 jj hj, g1]
  unfold f_X11_distance_17 f_X11_distance_c23 f_X11_distance_c26
  rw [i_chr hL (by omega)]
  have hlt := g3.2.2.2.2.2.2.2.2
  refine ⟨fun e => ?_, fun e => ?_, fun e1 e2 => ?_⟩
  · obtain ⟨m, hm⟩ := y_last h (by rw [e]; decide)
    subst hm
    obtain ⟨l1, w, l2, l3⟩ := hlt.1 e
    rw [if_neg (show ¬ f_X11_isLetter (y_ch L text q) = 0 from l1)]
    unfold f_X11_letters
    rw [hs2, l2]
    unfold f_X11_distance_c33
    have hw : ¬ lg_cmp w 0 = 0 := fun h => by
      have h1 := (e_lcmp_eq w 0).mp h
      exact (y_key_ne l3).2 (Int64.toInt_inj.mp h1)
    rw [if_pos rfl, if_neg hw]
    by_cases hd' : d < 128
    · rw [if_neg (hd1 hd'), if_neg (hd2 hd'), i_s, i_cl (by omega)]
      exact ⟨m, r, w, _, _, _, _, rfl, l3, rfl, fun _ => ⟨rfl, rfl, rfl, rfl⟩, g4⟩
    · rw [if_pos (hd3 hd').1, if_pos (hd3 hd').2]
      exact ⟨m, r, w, _, _, _, _, rfl, l3, rfl, fun h => absurd h hd', g4⟩
  · have hnl : ¬ y_let (y_ch L text q) := by
      intro hl
      obtain ⟨x, u', w1, w2⟩ := (g3.2.2.2.2.2.2.2.1 (-s0 - 2) s0 u hg hu).1 e
      have hx : y_ch L text q ≠ 45 := fun e => by rw [e] at hl; exact hl (by decide)
      have hdg : ¬ y_dig (y_ch L text q) := fun h => by
        have := (y_let_iff _).mp hl; have := (y_dig_iff _).mp h; omega
      obtain ⟨a, b, h5⟩ := y_numN (a := -s0 - 2) (b := s0) (u := u) hL g2 (Or.inl ⟨hx, hdg⟩)
      rw [h5] at w1
      injection w1 with _ w1; injection w1 with _ w1; injection w1 with w1 _
      exact absurd w1 (by decide)
    rw [if_pos (show f_X11_isLetter (y_ch L text q) = 0 from Classical.byContradiction hnl)]
    obtain ⟨m, r', x, u', hm, w1, w2, w3, w4, w5⟩ := (y_num (-s0 - 2) s0 hg hu hL g5).1 e
    subst hm
    rw [w1]
    rw [y_c156]
    refine ⟨m, r', (if u' = 0 then (if lg_cmp (x &&& 1) 0 = 0 then 0 else 1) else 1), rfl, ?_, ?_, ⟨x, ?_, rfl⟩, w5⟩
    · by_cases h1 : u' = 0
      · rw [if_pos h1]
        by_cases h2 : lg_cmp (x &&& 1) 0 = 0
        · rw [if_pos h2]; exact Or.inl rfl
        · rw [if_neg h2]; exact Or.inr rfl
      · rw [if_neg h1]; exact Or.inr rfl
    · unfold f_X0_noteOdd
      by_cases h1 : u' = 0
      · rw [if_pos h1]
        obtain ⟨hu0, hx⟩ := w3 h1
        rw [hx]
        by_cases h2 : lg_cmp (V c &&& 1) 0 = 0
        · rw [if_pos h2, if_pos h2, w4, h1]
        · rw [if_neg h2, if_neg h2, y_fit1]
      · rw [if_neg h1]
        by_cases h2 : lg_cmp (V c &&& 1) 0 = 0
        · rw [if_pos h2, w4]
          rcases w2 with h | h
          · exact absurd h h1
          · rw [h]
        · rw [if_neg h2, y_fit1]
    · intro h
      by_cases h1 : u' = 0
      · exact (w3 h1).2
      · rw [if_neg h1] at h; exact absurd h (by decide)
  · by_cases hl : y_let (y_ch L text q)
    · obtain ⟨w, s, l1, l2, l3, l4⟩ := hlt.2 e1 hl
      rw [if_neg (show ¬ f_X11_isLetter (y_ch L text q) = 0 from hl)]
      unfold f_X11_letters
      rw [hs2, l1]
      unfold f_X11_distance_c33
      rcases l4 with l4 | ⟨l4, l5⟩
      · left
        rw [if_pos rfl, l4, if_pos (show lg_cmp (0 : Int64) 0 = 0 by decide)]
      · right
        rw [if_pos rfl, l4, if_neg (show ¬ lg_cmp (120 : Int64) 0 = 0 by decide)]
        by_cases hd' : d < 128
        · rw [if_neg (hd1 hd'), if_neg (hd2 hd')]
          exact ⟨rfl, s, l3, rfl, l5⟩
        · rw [if_pos (hd3 hd').1, if_pos (hd3 hd').2]
          exact ⟨rfl, s, l3, rfl, l5⟩
    · rw [if_pos (show f_X11_isLetter (y_ch L text q) = 0 from Classical.byContradiction hl)]
      obtain ⟨x, y, w1⟩ := (y_num (-s0 - 2) s0 hg hu hL g5).2 e2
      left
      rw [w1, y_c156]
