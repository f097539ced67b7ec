def y_lb (b : Nat) (lkeys label : Nat → Int64) : Prop := (∀ i, i < b → y_key (lkeys i) (label i)) ∧ (∀ i j, i < j → j < b → lkeys i ≠ lkeys j)
theorem y_find0 {b : Nat} {k : Int64} {lkeys : Nat → Int64} {lplaces : Nat → Int32} (hb : b ≤ 16) (hn : ∀ i, i < b → lkeys i ≠ k) : ∀ (n : Nat) {j : Nat}, j ≤ b → b - j < n → f_X3_find_2 (Int32.ofNat b) lkeys lplaces n k (Int32.ofNat j) = -1 := by
  intro n
  induction n with
  | zero => intro j _ h; omega
  | succ n ih =>
    intro j hj hn2
    rw [f_X3_find_2]
    by_cases h : b ≤ j
    · rw [if_pos ((i_le (by omega) (by omega)).mpr h)]
    · rw [if_neg (fun h2 => h ((i_le (by omega) (by omega)).mp h2)), i_cl (by omega), if_neg (fun e => hn j (by omega) (y_cmp0 e)), i_s]
      exact ih (by omega) (by omega)
theorem y_cmpE {a b : Int64} (h : a = b) : lg_cmp a b = 0 := (e_lcmp_eq a b).mpr (by rw [h])
theorem y_find1 {b i : Nat} {k : Int64} {lkeys : Nat → Int64} {lplaces : Nat → Int32} (hb : b ≤ 16) (hi : i < b) (hk : lkeys i = k) (hn : ∀ j, j < i → lkeys j ≠ k) : ∀ (n : Nat) {j : Nat}, j ≤ i → b - j < n → f_X3_find_2 (Int32.ofNat b) lkeys lplaces n k (Int32.ofNat j) = lplaces i := by
  intro n
  induction n with
  | zero => intro j _ h; omega
  | succ n ih =>
    intro j hj hn2
    rw [f_X3_find_2, if_neg (fun h2 => by have := (i_le (by omega) (by omega)).mp h2; omega), i_cl (by omega)]
    by_cases e : j = i
    · subst e
      rw [if_pos (y_cmpE hk)]
    · rw [if_neg (fun e2 => hn j (by omega) (y_cmp0 e2)), i_s]
      exact ih (by omega) (by omega)
theorem y_lof0 {b : Nat} {w : Int64} {label : Nat → Int64} (hb : b ≤ 16) : ∀ (n : Nat) {j : Nat} {l3 : Int32}, j ≤ b → b - j < n → (∀ i, j ≤ i → i < b → label i ≠ w) → f_X11_labelOf_5 (Int32.ofNat b) label n w l3 (Int32.ofNat j) = l3 := by
  intro n
  induction n with
  | zero => intro j l3 _ h; omega
  | succ n ih =>
    intro j l3 hj hn2 hn
    rw [f_X11_labelOf_5]
    by_cases h : b ≤ j
    · rw [if_pos ((i_le (by omega) (by omega)).mpr h)]
    · rw [if_neg (fun h2 => h ((i_le (by omega) (by omega)).mp h2)), i_cl (by omega), if_neg (fun e => hn j (Nat.le_refl j) (by omega) (y_cmp0 e))]
      unfold f_X11_labelOf_32
      rw [i_s]
      exact ih (by omega) (by omega) (fun i a c => hn i (by omega) c)
theorem y_lof1 {b i : Nat} {w : Int64} {label : Nat → Int64} (hb : b ≤ 16) (hi : i < b) (hk : label i = w) (hn : ∀ j, j < b → j ≠ i → label j ≠ w) : ∀ (n : Nat) {j : Nat} {l3 : Int32}, j ≤ i → b - j < n → f_X11_labelOf_5 (Int32.ofNat b) label n w l3 (Int32.ofNat j) = Int32.ofNat i := by
  intro n
  induction n with
  | zero => intro j l3 _ h; omega
  | succ n ih =>
    intro j l3 hj hn2
    rw [f_X11_labelOf_5, if_neg (fun h2 => by have := (i_le (by omega) (by omega)).mp h2; omega), i_cl (by omega)]
    unfold f_X11_labelOf_32
    rw [i_s]
    by_cases e : j = i
    · subst e
      rw [if_pos (y_cmpE hk)]
      exact y_lof0 hb n (by omega) (by omega) (fun i a c => hn i c (by omega))
    · rw [if_neg (fun e2 => hn j (by omega) e (y_cmp0 e2))]
      exact ih (by omega) (by omega)
theorem y_find {b : Nat} {k w : Int64} {lkeys label : Nat → Int64} {lplaces : Nat → Int32} (hb : b ≤ 16) (hl : y_lb b lkeys label) (hk : y_key k w) : (∃ i, i < b ∧ lkeys i = k ∧ f_X3_find k (Int32.ofNat b) lkeys lplaces = lplaces i ∧ f_X11_labelOf w (Int32.ofNat b) label = Int32.ofNat i) ∨ ((∀ i, i < b → lkeys i ≠ k) ∧ f_X3_find k (Int32.ofNat b) lkeys lplaces = -1 ∧ f_X11_labelOf w (Int32.ofNat b) label = -1) := by
  have hiff : ∀ i, i < b → (lkeys i = k ↔ label i = w) := fun i hi => y_key_inj (hl.1 i hi) hk
  unfold f_X3_find f_X11_labelOf
  by_cases h : ∃ i, i < b ∧ lkeys i = k
  · obtain ⟨i, hi, hki⟩ := h
    have hu : ∀ j, j < b → j ≠ i → lkeys j ≠ k := by
      intro j hj hne e
      rcases Nat.lt_or_gt_of_ne hne with h | h
      · exact hl.2 j i h hi (by rw [e, hki])
      · exact hl.2 i j h hj (by rw [e, hki])
    left
    exact ⟨i, hi, hki, y_find1 hb hi hki (fun j hj => hu j (by omega) (by omega)) 17 (j := 0) (by omega) (by omega), y_lof1 hb hi ((hiff i hi).mp hki) (fun j hj hne e => hu j hj hne ((hiff j hj).mpr e)) 17 (j := 0) (by omega) (by omega)⟩
  · have hn : ∀ i, i < b → lkeys i ≠ k := fun i hi e => h ⟨i, hi, e⟩
    right
    exact ⟨hn, y_find0 hb hn 17 (j := 0) (by omega) (by omega), y_lof0 hb 17 (j := 0) (by omega) (by omega) (fun i _ hi e => hn i hi ((hiff i hi).mpr e))⟩
theorem y_171W (len p line words labels D u : Int32) (text code : Nat → Int32) (label : Nat → Int64) (lw : Nat → Int32) (t1 : Nat → Int64) (t2 t3 : Nat → Int32) (l1 l2 l3 : Int32) : (f_X11_takeLine_171 len p line words labels D 1 u text code label lw t1 t2 t3 l1 l2 l3).2.1 = 1 := by
  unfold f_X11_takeLine_171 f_X11_takeLine_c172 f_X11_takeLine_c182 f_X11_takeLine_201
  by_cases h : (f_X11_letters len (f_X11_skip len p text) text).2 ≤ f_X11_skip len p text
  · rw [if_pos h]; exact y_203W _ _ _ _ _ _ _ _ _ _ _ _ _ _ _ _ _ _ _
  · rw [if_neg h]; exact y_203W _ _ _ _ _ _ _ _ _ _ _ _ _ _ _ _ _ _ _
theorem y_108W (len p line words labels D u : Int32) (text code : Nat → Int32) (label : Nat → Int64) (lw : Nat → Int32) (t1 : Nat → Int64) (t2 t3 : Nat → Int32) (l1 : Int32) (l5 : Int64) (s0 : Int32) : (f_X11_takeLine_108 len p line words labels D 1 u text code label lw t1 t2 t3 l1 l5 s0).2.1 = 1 := by
  unfold f_X11_takeLine_108 f_X11_takeLine_c112 f_X11_takeLine_123
  by_cases h : f_X11_labelOf l5 labels label < 0
  · rw [if_pos h, if_neg (by decide)]; exact y_171W _ _ _ _ _ _ _ _ _ _ _ _ _ _ _ _ _
  · rw [if_neg h, if_neg (by decide)]; exact y_171W _ _ _ _ _ _ _ _ _ _ _ _ _ _ _ _ _
def y_Z (b F m : Nat) (label : Nat → Int64) (labelWord : Nat → Int32) (lab : Int64) (l2 l3 labels' : Int32) (label' : Nat → Int64) (labelWord' : Nat → Int32) : Prop :=
  (lab = 0 ∧ l2 = 0 ∧ l3 = 0 ∧ labels' = Int32.ofNat b ∧ label' = label ∧ labelWord' = labelWord) ∨
  (∃ w, y_key lab w ∧ l2 = (if b = 16 then 1 else 0) ∧ l3 = (if f_X11_labelOf w (Int32.ofNat b) label < 0 then 0 else 1) ∧ (b ≠ 16 → labels' = Int32.ofNat (b + 1) ∧ label' = vp_updL label b w ∧ labelWord' = upd labelWord b (Int32.ofNat (F + m))))
theorem y_line {L N F m d b n c p : Nat} {text K : Nat → Int32} {V : Nat → Int64} {line : Int32} {code : Nat → Int32} {label : Nat → Int64} {labelWord : Nat → Int32} {target : Nat → Int64} {tw tl : Nat → Int32} (hL : L ≤ 400) (hN : N = c + (n + 1)) (hN4 : N ≤ 401) (hF : F < 128) (hm : m ≤ 128) (hd : d ≤ 128) (hb : b ≤ 16) (h : y_sy L text K V (n + 1) c p) : ∃ (lab : Int64) (l2 l3 labels' : Int32) (label' : Nat → Int64) (labelWord' : Nat → Int32), y_Z b F m label labelWord lab l2 l3 labels' label' labelWord' ∧ y_Y L N F m d c text K V lab l2 l3 labels' line code label' labelWord' target tw tl (f_X0_readLine (Int32.ofNat c) (Int32.ofNat N) K V) (f_X11_takeLine (Int32.ofNat F) (Int32.ofNat L) (Int32.ofNat p) line (Int32.ofNat m) (Int32.ofNat b) (Int32.ofNat d) text code label labelWord target tw tl) := by
  obtain ⟨q, r, g1, g2, g3, g4, g5⟩ := y_sk hL h
  have hlt := g3.2.2.2.2.2.2.2.2
  have hZ0 : y_Z b F m label labelWord 0 0 0 (Int32.ofNat b) label labelWord := Or.inl ⟨rfl, rfl, rfl, rfl, rfl, rfl⟩
  unfold f_X0_readLine f_X0_readLine_c38
  rw [y_kind (by omega) hN4]
  unfold f_X11_takeLine f_X11_takeLine_c15 f_X11_takeLine_c25
  rw [g1]
  unfold f_X11_letters
  rw [y_skq hL g2 g3.1]
  by_cases hk : K c = 97
  · obtain ⟨l1, w, w1, w2⟩ := hlt.1 hk
    obtain ⟨m0, hm0⟩ := y_last h (by rw [hk]; decide)
    subst hm0
    have hqr := g3.2.1
    have hrL : r ≤ L := g4.1
    rw [if_pos hk, w1]
    have hno : ¬ Int32.ofNat r ≤ Int32.ofNat q := fun h => by
      have := (i_le (by omega) (by omega)).mp h; omega
    have hno' : ¬ (w, Int32.ofNat r).2 ≤ Int32.ofNat q := hno
    rw [if_neg hno']
    obtain ⟨q2, r2, k1, k2, k3, k4, k5⟩ := y_sk hL g4
    unfold f_X11_takeLine_44
    have k1' : f_X11_skip (Int32.ofNat L) (w, Int32.ofNat r).2 text = Int32.ofNat q2 := k1
    rw [k1']
    unfold f_X11_takeLine_c47
    rw [if_neg (by decide), i_chr hL (by omega)]
    unfold f_X11_takeLine_c60 f_X0_readLine_c56
    obtain ⟨c58, c58'⟩ := k3.2.2.2.1 58 (Or.inr (Or.inr (Or.inr rfl)))
    rw [i_s c, y_kind (by omega) hN4]
    by_cases hc : K (c + 1) = 58
    · rw [if_pos hc, if_pos (c58.mp hc)]
      obtain ⟨m1, hm1⟩ := y_last g4 (by rw [hc]; decide)
      subst hm1
      have hw : ¬ lg_cmp w 0 = 0 := fun e => (y_key_ne w2).2 (y_cmp0 e)
      have hw' : ¬ lg_cmp (w, Int32.ofNat r).1 0 = 0 := hw
      rw [if_neg hw', y_val (by omega) hN4]
      unfold f_X0_readLine_c73
      rw [i_s2]
      have k4' : y_sy L text K V (m1 + 1) (c + 2) (q2 + 1) := by
        rw [c58' hc] at k4; exact k4
      have e16 : (Int32.ofNat b = 16) ↔ b = 16 := i_eq (by omega) (by decide)
      -- the labels' row
      have key : ∀ s0 : Int32, (s0 = if b = 16 then 1 else 0) → ∃ (l2 l3 labels' : Int32) (label' : Nat → Int64) (labelWord' : Nat → Int32), y_Z b F m label labelWord (V c) l2 l3 labels' label' labelWord' ∧ y_Y L N F m d c text K V (V c) l2 l3 labels' line code label' labelWord' target tw tl (f_X0_readLine_89 (Int32.ofNat (c + 2)) (V c) 0 0 0 0 0 (Int32.ofNat N) K V) (f_X11_takeLine_108 (Int32.ofNat L) (Int32.ofNat (q2 + 1)) line (Int32.ofNat m) (Int32.ofNat b) (Int32.ofNat d) 0 0 text code label labelWord target tw tl (Int32.ofNat F) w s0) := by
        intro s0 hs0
        unfold f_X11_takeLine_108 f_X11_takeLine_c112 f_X11_takeLine_123
        have key2 : ∀ x3 : Int32, x3 = (if f_X11_labelOf w (Int32.ofNat b) label < 0 then 0 else 1) → ∃ (l2 l3 labels' : Int32) (label' : Nat → Int64) (labelWord' : Nat → Int32), y_Z b F m label labelWord (V c) l2 l3 labels' label' labelWord' ∧ y_Y L N F m d c text K V (V c) l2 l3 labels' line code label' labelWord' target tw tl (f_X0_readLine_89 (Int32.ofNat (c + 2)) (V c) 0 0 0 0 0 (Int32.ofNat N) K V) (if s0 = 0 then (f_X11_takeLine_171 (Int32.ofNat L) (Int32.ofNat (q2 + 1)) line (Int32.ofNat m) (Int32.ofNat b + 1) (Int32.ofNat d) 0 0 text code (vp_updL label (Int32.toNatClampNeg (Int32.ofNat b)) w) (upd labelWord (Int32.toNatClampNeg (Int32.ofNat b)) (Int32.ofNat F + Int32.ofNat m)) target tw tl (Int32.ofNat F) s0 x3) else (f_X11_takeLine_171 (Int32.ofNat L) (Int32.ofNat (q2 + 1)) line (Int32.ofNat m) (Int32.ofNat b) (Int32.ofNat d) 0 0 text code label labelWord target tw tl (Int32.ofNat F) s0 x3)) := by
          intro x3 hl3
          by_cases hs : b = 16
          · rw [if_pos hs] at hs0
            rw [if_neg (by rw [hs0]; decide)]
            exact ⟨s0, x3, _, _, _, Or.inr ⟨w, w2, by rw [if_pos hs]; exact hs0, hl3, fun e => absurd hs e⟩, y_IE2 (by omega) hL (by omega) hN4 hF hm hd k4'⟩
          · rw [if_neg hs] at hs0
            rw [if_pos hs0, i_s b, i_cl (by omega), ← Int32.ofNat_add]
            exact ⟨s0, x3, _, _, _, Or.inr ⟨w, w2, by rw [if_neg hs]; exact hs0, hl3, fun e => ⟨rfl, rfl, rfl⟩⟩, y_IE2 (by omega) hL (by omega) hN4 hF hm hd k4'⟩
        by_cases hlo : f_X11_labelOf w (Int32.ofNat b) label < 0
        · rw [if_pos hlo, if_pos rfl]
          exact key2 0 (by rw [if_pos hlo])
        · rw [if_neg hlo, if_pos rfl]
          exact key2 1 (by rw [if_neg hlo])
      rw [i_s q2]
      by_cases hb16 : b = 16
      · rw [if_pos (e16.mpr hb16)]
        exact ⟨V c, key 1 (by rw [if_pos hb16])⟩
      · rw [if_neg (fun e => hb16 (e16.mp e))]
        exact ⟨V c, key 0 (by rw [if_neg hb16])⟩
    · rw [if_neg hc, if_neg (fun e => hc (c58.mpr e))]
      exact ⟨0, 0, 0, _, _, _, hZ0, y_IE97 (Nat.le_refl c) hL (by omega) hN4 hF hm hd hk w2 k5⟩
  · rw [if_neg hk]
    refine ⟨0, 0, 0, _, _, _, hZ0, ?_⟩
    by_cases hl : y_let (y_ch L text q)
    · obtain ⟨w, s, w1, w2, w3, w4⟩ := hlt.2 hk hl
      left
      refine ⟨y_89X (by omega) hN4 0 hk (fun e => ?_), ?_⟩
      · rcases g3.2.2.2.2.1.1.mp e with e | e <;> (rw [e] at hl; exact hl (by decide))
      · rw [w1]
        have hno : ¬ (w, Int32.ofNat s).2 ≤ Int32.ofNat q := fun h => by
          have := (i_le (by omega) (by omega)).mp h; omega
        rw [if_neg hno]
        unfold f_X11_takeLine_44 f_X11_takeLine_c47
        rw [if_neg (by decide)]
        unfold f_X11_takeLine_c60
        rcases w4 with w4 | ⟨w4, w5⟩
        · by_cases h58 : f_X11_character (f_X11_skip (Int32.ofNat L) (w, Int32.ofNat s).2 text) (Int32.ofNat L) text = 58
          · have hz : lg_cmp (w, Int32.ofNat s).1 0 = 0 := y_cmpE w4
            rw [if_pos h58, if_pos hz]
            by_cases h16 : Int32.ofNat b = 16
            · rw [if_pos h16]; exact y_108W _ _ _ _ _ _ _ _ _ _ _ _ _ _ _ _ _
            · rw [if_neg h16]; exact y_108W _ _ _ _ _ _ _ _ _ _ _ _ _ _ _ _ _
          · rw [if_neg h58]
            exact y_IElet hF hm _ _ _ _ _ _ _ _ _ _ _ _ _ _ _ (Or.inl w4)
        · have hn : ∀ C : Int32, ¬ y_dig C → y_ch L text s ≠ C := fun C h e => h (by rw [← e]; exact w5)
          have hsk : f_X11_skip (Int32.ofNat L) (w, Int32.ofNat s).2 text = Int32.ofNat s := y_skq hL w3 (hn 32 (by decide))
          rw [hsk, i_chr hL (by omega), if_neg (hn 58 (by decide))]
          exact y_IElet hF hm _ _ _ _ _ _ _ _ _ _ _ _ _ _ _ (Or.inr w4)
    · rw [y_let0 hL g2 hl]
      have hyes : (0, Int32.ofNat q).2 ≤ Int32.ofNat q := (i_le (by omega) (by omega)).mpr (Nat.le_refl q)
      have hyes' : ((0 : Int64), Int32.ofNat q).2 ≤ Int32.ofNat q := (i_le (by omega) (by omega)).mpr (Nat.le_refl q)
      rw [if_pos hyes']
      unfold f_X11_takeLine_44
      have hsk : f_X11_skip (Int32.ofNat L) ((0 : Int64), Int32.ofNat q).2 text = Int32.ofNat q := y_skq hL g2 g3.1
      rw [hsk]
      unfold f_X11_takeLine_c47
      rw [if_pos rfl]
      exact y_IE0 (Nat.le_refl c) hL hN hN4 hk g5
