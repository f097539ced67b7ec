def V2 (w : Nat) (f : Nat → Int32) (t r : Nat) : Int32 := if t < 4 ∧ r < w then f (w * t + r) else 0
def V3 (o : Nat) (f : Nat → Int32) (t r : Nat) : Int32 := if t < 4 ∧ r < 16 then f (48 * t + 3 * r + o) else 0
theorem V2_at (w : Nat) (f : Nat → Int32) {t r : Nat} (ht : t < 4) (hr : r < w) : V2 w f t r = f (w * t + r) := if_pos ⟨ht, hr⟩
theorem V3_at (o : Nat) (f : Nat → Int32) {t r : Nat} (ht : t < 4) (hr : r < 16) : V3 o f t r = f (48 * t + 3 * r + o) := if_pos ⟨ht, hr⟩
theorem e_cl {x : Int32} (h : 0 ≤ x.toInt) : (Int32.toNatClampNeg x : Int) = x.toInt := by
  have hx := x.toInt_lt
  rw [pk_cl x.toInt.toNat (q_nI h)]
  omega
theorem e_clt {x : Int32} {m : Nat} (h : 0 ≤ x.toInt) (h1 : x.toInt < m) : Int32.toNatClampNeg x < m := by
  have := e_cl h
  omega
theorem e_lt0 (t : Int32) : (t < 0) ↔ t.toInt < 0 := by rw [Int32.lt_iff_toInt_lt]; rfl
theorem e_le0 (t : Int32) : (t ≤ 0) ↔ t.toInt ≤ 0 := by rw [Int32.le_iff_toInt_le]; rfl
theorem upd_at (f : Nat → Int32) (k : Nat) (x : Int32) (j : Nat) : upd f k x j = if j = k then x else f j := rfl
theorem e_up (f : Nat → Int32) (k : Nat) (v : Int32) : g_up f k v = upd f k v := by
  funext j
  unfold g_up upd
  by_cases h : j = k
  · subst h
    rw [if_pos rfl, g_beq]
  · rw [if_neg h]
    cases hb : Nat.beq j k with
    | true => exact absurd (Nat.eq_of_beq_eq_true hb) h
    | false => rfl
theorem g_up_at {α : Type} (f : Nat → α) (k : Nat) (v : α) (j : Nat) : g_up f k v j = if j = k then v else f j := by
  unfold g_up
  by_cases h : j = k
  · subst h
    rw [if_pos rfl, g_beq]
  · rw [if_neg h]
    cases hb : Nat.beq j k with
    | true => exact absurd (Nat.eq_of_beq_eq_true hb) h
    | false => rfl
/-- a write into a thread's row -/
theorem V2_upd {w : Nat} (f : Nat → Int32) {t r : Nat} (v : Int32) (ht : t < 4) (hr : r < w) : g_up (V2 w f) t (upd (V2 w f t) r v) = V2 w (upd f (w * t + r) v) := by
  funext a b
  rw [g_up_at]
  by_cases h : a = t
  · subst h
    rw [if_pos rfl]
    simp only [upd_at, V2]
    by_cases hb : b = r
    · subst hb
      rw [if_pos rfl, if_pos ⟨ht, hr⟩, if_pos rfl]
    · rw [if_neg hb]
      by_cases hb2 : b < w
      · rw [if_pos ⟨ht, hb2⟩, if_pos ⟨ht, hb2⟩, if_neg (by omega)]
      · rw [if_neg (fun h => hb2 h.2), if_neg (fun h => hb2 h.2)]
  · rw [if_neg h]
    simp only [upd_at, V2]
    by_cases hb2 : a < 4 ∧ b < w
    · rw [if_pos hb2, if_pos hb2, if_neg]
      intro e
      have h1 : w * a + b = w * t + r := e
      rcases Nat.lt_or_gt_of_ne h with h2 | h2
      · have : w * (a + 1) ≤ w * t := Nat.mul_le_mul_left w h2
        rw [Nat.mul_add, Nat.mul_one] at this
        omega
      · have : w * (t + 1) ≤ w * a := Nat.mul_le_mul_left w h2
        rw [Nat.mul_add, Nat.mul_one] at this
        omega
    · rw [if_neg hb2, if_neg hb2]
theorem V3_upd (o : Nat) (ho : o < 3) (f : Nat → Int32) {t r : Nat} (v : Int32) (ht : t < 4) (hr : r < 16) : g_up (V3 o f) t (upd (V3 o f t) r v) = V3 o (upd f (48 * t + 3 * r + o) v) := by
  funext a b
  rw [g_up_at]
  by_cases h : a = t
  · subst h
    rw [if_pos rfl]
    simp only [upd_at, V3]
    by_cases hb : b = r
    · subst hb
      rw [if_pos rfl, if_pos ⟨ht, hr⟩, if_pos rfl]
    · rw [if_neg hb]
      by_cases hb2 : b < 16
      · rw [if_pos ⟨ht, hb2⟩, if_pos ⟨ht, hb2⟩, if_neg (by omega)]
      · rw [if_neg (fun h => hb2 h.2), if_neg (fun h => hb2 h.2)]
  · rw [if_neg h]
    simp only [upd_at, V3]
    by_cases hb2 : a < 4 ∧ b < 16
    · rw [if_pos hb2, if_pos hb2, if_neg (by omega)]
    · rw [if_neg hb2, if_neg hb2]
theorem V3_other (o : Nat) (ho : o < 3) (f : Nat → Int32) {t r p : Nat} (v : Int32) (hp : p < 3) (hpo : ¬ p = o) : V3 o (upd f (48 * t + 3 * r + p) v) = V3 o f := by
  funext a b
  simp only [upd_at, V3]
  by_cases hb2 : a < 4 ∧ b < 16
  · rw [if_pos hb2, if_pos hb2, if_neg (by omega)]
  · rw [if_neg hb2, if_neg hb2]
theorem e_ix {c t k : Int32} {w : Nat} (hc : c.toInt = w) (hw : w ≤ 1000) (ht : 0 ≤ t.toInt ∧ t.toInt < 4) (hk : 0 ≤ k.toInt ∧ k.toInt < 100000) : Int32.toNatClampNeg (c * t + k) = w * Int32.toNatClampNeg t + Int32.toNatClampNeg k := by
  have h1 : (c * t).toInt = c.toInt * t.toInt := by
    apply q_mul
    · rw [hc]
      have : 0 ≤ (w : Int) * t.toInt := Int.mul_nonneg (by omega) ht.1
      omega
    · rw [hc]
      have : (w : Int) * t.toInt ≤ 1000 * 4 := Int.mul_le_mul (by omega) (by omega) ht.1 (by omega)
      omega
  have hb : 0 ≤ (w : Int) * t.toInt ∧ (w : Int) * t.toInt ≤ 4000 := ⟨Int.mul_nonneg (by omega) ht.1, Int.mul_le_mul (show (w : Int) ≤ 1000 by omega) (show t.toInt ≤ 4 by omega) ht.1 (by omega)⟩
  rw [hc] at h1
  have h2 : (c * t + k).toInt = w * t.toInt + k.toInt := by rw [q_add (by omega) (by omega), h1]
  have h3 := e_cl (x := c * t + k) (by omega)
  have h4 := e_cl ht.1
  have h5 := e_cl hk.1
  rw [← h4] at h2
  have h6 : ((w * Int32.toNatClampNeg t + Int32.toNatClampNeg k : Nat) : Int) = w * (Int32.toNatClampNeg t : Int) + Int32.toNatClampNeg k := by
    rw [Int.natCast_add, Int.natCast_mul]
  omega
theorem e_c (n : Nat) (h : n < 2147483648) : (Int32.ofNat n).toInt = n := by
  rw [Int32.toInt_ofNat']
  exact q_bm (by omega) (by omega)
theorem e_4 : (4 : Int32).toInt = 4 := by decide
theorem e_3 : (3 : Int32).toInt = 3 := by decide
theorem e_128 : (128 : Int32).toInt = 128 := by decide
theorem e_16 : (16 : Int32).toInt = 16 := by decide
theorem e_15 : (15 : Int32).toInt = 15 := by decide
theorem e_64 : (64 : Int32).toInt = 64 := by decide
theorem e_63 : (63 : Int32).toInt = 63 := by decide
theorem e_8 : (8 : Int32).toInt = 8 := by decide
theorem e_7 : (7 : Int32).toInt = 7 := by decide
theorem e_1 : (1 : Int32).toInt = 1 := by decide
theorem e_2 : (2 : Int32).toInt = 2 := by decide
theorem e_48 : (48 : Int32).toInt = 48 := by decide
theorem e_0 : (0 : Int32).toInt = 0 := by decide
theorem e_t3 (t : Int32) : ((4 : Int32) ≤ t) ↔ ((3 : Int32) < t) := by
  rw [Int32.le_iff_toInt_le, Int32.lt_iff_toInt_lt, e_4, e_3]
  omega
theorem e_nle (a b : Int32) : (a ≤ b) ↔ ¬ (b < a) := by
  rw [Int32.le_iff_toInt_le, Int32.lt_iff_toInt_lt]
  omega
theorem e_le15 (k : Int32) : (k ≤ 15) ↔ (k < 16) := by
  rw [Int32.le_iff_toInt_le, Int32.lt_iff_toInt_lt, e_15, e_16]
  omega
theorem e_le63 (k : Int32) : (k ≤ 63) ↔ (k < 64) := by
  rw [Int32.le_iff_toInt_le, Int32.lt_iff_toInt_lt, e_63, e_64]
  omega
theorem e_le3 (k : Int32) : (k ≤ 3) ↔ ¬ (3 : Int32) < k := e_nle k 3
theorem e_tr {t : Int32} (h0 : ¬ t < 0) (h1 : ¬ (3 : Int32) < t) : 0 ≤ t.toInt ∧ t.toInt < 4 := by
  rw [e_lt0] at h0
  rw [Int32.lt_iff_toInt_lt, e_3] at h1
  omega
theorem e_kr {w k : Int32} {m : Nat} (hm : w.toInt = m) (h0 : ¬ k < 0) (h1 : k < w) : 0 ≤ k.toInt ∧ k.toInt < m := by
  rw [e_lt0] at h0
  rw [Int32.lt_iff_toInt_lt, hm] at h1
  omega
theorem e_thr (t : Int32) : f_X10_isThread t = if t < 0 then 0 else if (3 : Int32) < t then 0 else 1 := by
  unfold f_X10_isThread
  simp only [e_t3]
theorem e_peek (t w : Int32) (store : Nat → Int32) : f_X10_peek t w (V2 128 store) = (f_X11_peek t w store).1 := by
  unfold f_X10_peek f_X10_peek_c2 f_X10_isStoreWord f_X10_isStoreWord_c1 f_X11_peek
  rw [e_thr]
  by_cases h1 : t < 0
  · simp [h1]
  · by_cases h2 : (3 : Int32) < t
    · simp [h1, h2]
    · by_cases h3 : w < 0
      · simp [h1, h2, h3]
      · by_cases h4 : w < 128
        · have ht := e_tr h1 h2
          have hw := e_kr (m := 128) e_128 h3 h4
          simp only [h1, h2, h3, h4, e_nle, if_false, if_true, not_true, not_false_eq_true, show ¬ (1 : Int32) = 0 by decide]
          rw [V2_at 128 store (e_clt ht.1 ht.2) (e_clt hw.1 hw.2), e_ix (w := 128) e_128 (by omega) ht ⟨hw.1, by omega⟩]
        · simp [h1, h2, h3, h4, e_nle]
theorem e_poke (t w v : Int32) (store : Nat → Int32) : f_X10_poke t w v (V2 128 store) = ((f_X11_poke t w v store).1, V2 128 (f_X11_poke t w v store).2.2) := by
  unfold f_X10_poke f_X10_poke_c2 f_X10_isStoreWord f_X10_isStoreWord_c1 f_X11_poke
  rw [e_thr]
  by_cases h1 : t < 0
  · simp [h1]
  · by_cases h2 : (3 : Int32) < t
    · simp [h1, h2]
    · by_cases h3 : w < 0
      · simp [h1, h2, h3]
      · by_cases h4 : w < 128
        · have ht := e_tr h1 h2
          have hw := e_kr (m := 128) e_128 h3 h4
          simp only [h1, h2, h3, h4, e_nle, if_false, if_true, not_true, not_false_eq_true, show ¬ (1 : Int32) = 0 by decide]
          rw [V2_upd store v (e_clt ht.1 ht.2) (e_clt hw.1 hw.2), e_ix (w := 128) e_128 (by omega) ht ⟨hw.1, by omega⟩]
        · simp [h1, h2, h3, h4, e_nle]
theorem e_shared (w : Int32) (common : Nat → Int32) : f_X10_shared w common = (f_X11_shared w common).1 := by
  unfold f_X10_shared f_X11_shared
  simp only [e_le63, e_nle 64 w]
  by_cases h1 : w < 0
  · simp [h1]
  · by_cases h2 : w < 64 <;> simp [h1, h2]
theorem e_part (t a b : Int32) (low high : Nat → Int32) : f_X10_part t a b low high = ((f_X11_part t a b low high).1, (f_X11_part t a b low high).2.2.1, (f_X11_part t a b low high).2.2.2) := by
  unfold f_X10_part f_X10_part_c1 f_X11_part
  rw [e_thr]
  simp only [e_up]
  by_cases h1 : t < 0
  · simp [h1]
  · by_cases h2 : (3 : Int32) < t
    · simp [h1, h2]
    · by_cases h3 : a < 0
      · simp [h1, h2, h3]
      · by_cases h4 : b < a
        · simp [h1, h2, h3, h4]
        · by_cases h5 : b ≤ 64 <;> simp [h1, h2, h3, h4, h5]
theorem e_start (t a now : Int32) (status address ready : Nat → Int32) : f_X10_start t a now status address ready = ((f_X11_start t a now address status ready).1, (f_X11_start t a now address status ready).2.2.2.1, (f_X11_start t a now address status ready).2.2.1, (f_X11_start t a now address status ready).2.2.2.2) := by
  unfold f_X10_start f_X10_start_c1 f_X10_start_c20 f_X8_begin f_X11_start
  rw [e_thr]
  simp only [e_up, e_le3]
  by_cases h1 : t < 0
  · simp [h1]
  · by_cases h2 : (3 : Int32) < t <;> simp [h1, h2]
theorem e_register (t k : Int32) (register : Nat → Int32) : f_X10_register t k (V2 16 register) = (f_X11_register t k register).1 := by
  unfold f_X10_register f_X10_register_c1 f_X10_register_c8 f_X10_isRegister f_X11_register
  rw [e_thr]
  simp only [e_le15]
  by_cases h1 : t < 0
  · simp [h1]
  · by_cases h2 : (3 : Int32) < t
    · simp [h1, h2]
    · by_cases h3 : k < 0
      · simp [h1, h2, h3]
      · by_cases h4 : k < 16
        · have ht := e_tr h1 h2
          have hw := e_kr (m := 16) e_16 h3 h4
          simp only [h1, h2, h3, h4, e_nle, if_false, if_true, not_true, not_false_eq_true, show ¬ (1 : Int32) = 0 by decide]
          rw [V2_at 16 register (e_clt ht.1 ht.2) (e_clt hw.1 hw.2), e_ix (w := 16) e_16 (by omega) ht ⟨hw.1, by omega⟩]
        · simp [h1, h2, h3, h4, e_nle]
theorem e_now (now : Int32) : f_X10_now now = (f_X11_now now).1 := rfl
theorem e_clear (n : Int32) : f_X10_clear n = ((f_X11_clear n).1, (f_X11_clear n).2.2) := rfl
theorem e_fault (w a b : Int32) : f_X10_fault w a b = (f_X11_fault w a b).1 := by
  unfold f_X10_fault f_X11_fault
  by_cases h1 : w = 0
  · simp [h1]
  · by_cases h2 : w = 1 <;> simp [h1, h2]
