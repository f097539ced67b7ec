theorem i_n {c : Int32} (h : 0 ≤ c.toInt) : c = Int32.ofNat c.toInt.toNat := by
  have := c.toInt_lt
  apply Int32.toInt_inj.mp
  rw [e_c _ (by omega)]; omega
theorem i_long {m : Nat} (h : m < 2147483648) : Int32.toInt64 (Int32.ofNat m) = Int64.ofNat m := by
  apply Int64.toInt_inj.mp
  rw [Int32.toInt_toInt64, e_c m h, Int64.toInt_ofNat_of_lt (by omega)]
theorem i_or {a x k : Nat} (hx : x < 2 ^ k) (ha : 2 ^ k * a + x < 2 ^ 64) : (Int64.ofNat (2 ^ k * a)) ||| Int64.ofNat x = Int64.ofNat (2 ^ k * a + x) := by
  apply Int64.toBitVec_inj.mp
  apply BitVec.eq_of_toNat_eq
  rw [Int64.toBitVec_or, BitVec.toNat_or, Int64.toBitVec_ofNat', Int64.toBitVec_ofNat', Int64.toBitVec_ofNat', BitVec.toNat_ofNat, BitVec.toNat_ofNat, BitVec.toNat_ofNat, Nat.mod_eq_of_lt (by omega), Nat.mod_eq_of_lt (by omega), Nat.mod_eq_of_lt ha, Nat.two_pow_add_eq_or_of_lt hx]
theorem i_sh1 : ∀ k : Nat, k < 64 → ((Int32.ofNat k).toInt64 &&& 63).toBitVec.smod 64 = BitVec.ofNat 64 k := by decide
theorem i_shl {a k : Nat} (hk : k < 64) (ha : 2 ^ k * a < 2 ^ 64) : g_lshl (Int64.ofNat a) (Int32.ofNat k) = Int64.ofNat (2 ^ k * a) := by
  unfold g_lshl
  apply Int64.toBitVec_inj.mp
  apply BitVec.eq_of_toNat_eq
  have h1 : a ≤ 2 ^ k * a := Nat.le_mul_of_pos_left a (Nat.pow_pos (by decide))
  rw [Int64.toBitVec_shiftLeft, i_sh1 k hk, BitVec.shiftLeft_eq', BitVec.toNat_shiftLeft, Int64.toBitVec_ofNat', Int64.toBitVec_ofNat', BitVec.toNat_ofNat, BitVec.toNat_ofNat, BitVec.toNat_ofNat, Nat.mod_eq_of_lt (show k < 2 ^ 64 by omega), Nat.mod_eq_of_lt (show a < 2 ^ 64 by omega), Nat.shiftLeft_eq, Nat.mul_comm a]
theorem y_wl {K : Nat} {c : Int32} (h : y_let c) (hK : K < 2 ^ 50) : f_X9_withLetter (Int64.ofNat K) c = Int64.ofNat (K * 32 + (c.toInt.toNat - 96)) := by
  have h1 := (y_let_iff c).mp h
  unfold f_X9_withLetter
  have h2 : c - 97 + 1 = Int32.ofNat (c.toInt.toNat - 96) := by
    have e : c - 97 = Int32.ofNat (c.toInt.toNat - 97) := by
      have := i_sub (a := c.toInt.toNat) (b := 97) (by omega)
      rw [← i_n (by omega)] at this
      exact this
    rw [e, i_s]; congr 1; omega
  have h3 := i_shl (a := K) (k := 5) (by decide) (by omega)
  have h4 : g_lshl (Int64.ofNat K) 5 = Int64.ofNat (2 ^ 5 * K) := h3
  rw [h2, i_long (by omega), h4, i_or (by omega) (by omega)]
  congr 1; omega
theorem y_k_50 {g : Nat → Int32} {q m : Nat} (hm : m ≤ 8) (h : ∀ i, q ≤ i → i < q + m → y_let (g i)) : y_k (y_lt g q m) < 2 ^ 50 := by
  have h1 := y_k_lt _ (y_lt_ok m h)
  rw [y_lt_len] at h1
  have h2 : 32 ^ m ≤ 32 ^ 8 := Nat.pow_le_pow_right (by decide) hm
  have h3 : 32 ^ 8 < 2 ^ 50 := by decide
  omega
theorem y_chk {L p : Nat} {text : Nat → Int32} (h : ¬ L ≤ p) : y_ch L text p = text p := if_neg h
theorem y_che {L p : Nat} {text : Nat → Int32} (h : L ≤ p) : y_ch L text p = 10 := if_pos h
theorem y_letC {L : Nat} {text : Nat → Int32} (hL : L ≤ 400) {l1 r : Nat} {c : Int32} {kinds : Nat → Int32} {kvals : Nat → Int64} (hall : ∀ i, l1 ≤ i → i < r → y_let (y_ch L text i)) (hrL : r ≤ L) : ∀ (n : Nat) {p : Nat} {key : Int64}, y_run y_let (y_ch L text) p r → r - p < n → l1 ≤ p → (p - l1 ≤ 8 → key = Int64.ofNat (y_k (y_lt (y_ch L text) l1 (p - l1)))) → ∃ key' : Int64, (r - l1 ≤ 8 → key' = Int64.ofNat (y_k (y_lt (y_ch L text) l1 (r - l1)))) ∧ f_X9_takeLetters_7 (Int32.ofNat L) text n (Int32.ofNat l1) key c (Int32.ofNat p) kinds kvals = f_X9_takeLetters_69 c (Int32.ofNat L) (Int32.ofNat r) kinds kvals text (Int32.ofNat l1) key' := by
  intro n
  induction n with
  | zero => intro p key _ h; omega
  | succ n ih =>
    intro p key hr hn hp hk
    have hpr := hr.1
    unfold f_X9_takeLetters_7
    rcases y_run_step hr with ⟨h1, h2, h3⟩ | ⟨h1, h2⟩
    · have hLp : ¬ L ≤ p := by omega
      have h1' := h1
      rw [y_chk hLp] at h1'
      rw [if_neg (fun h => hLp ((i_le (by omega) (by omega)).mp h)), i_cl (by omega)]
      unfold f_X9_takeLetters_c33 f_X9_takeLetters_c52
      rw [if_neg h1', i_cl (by omega), i_s]
      refine ih h3 (by omega) (by omega) (fun h => ?_)
      rw [hk (by omega), y_wl h1' (y_k_50 (by omega) (fun i a b => hall i a (by omega))), show p + 1 - l1 = (p - l1) + 1 by omega, y_lt, y_k, show l1 + (p - l1) = p by omega, y_chk hLp]
    · subst h2
      refine ⟨key, hk, ?_⟩
      by_cases hLp : L ≤ r
      · rw [if_pos ((i_le (by omega) (by omega)).mpr hLp)]
      · rw [if_neg (fun h => hLp ((i_le (by omega) (by omega)).mp h)), i_cl (by omega)]
        unfold f_X9_takeLetters_c33
        rw [y_chk hLp] at h1
        rw [if_pos (Classical.byContradiction h1)]
theorem y_letR {L : Nat} {text : Nat → Int32} (hL : L ≤ 400) {l1 r : Nat} (hall : ∀ i, l1 ≤ i → i < r → y_let (y_ch L text i)) (hrL : r ≤ L) : ∀ (n : Nat) {p : Nat} {w : Int64}, y_run y_let (y_ch L text) p r → r - p < n → l1 ≤ p → (p - l1 ≤ 8 → w = Int64.ofNat (y_w (y_lt (y_ch L text) l1 (p - l1)))) → f_X11_letters_11 (Int32.ofNat L) text n (Int32.ofNat l1) w (Int32.ofNat p) = (if r - l1 ≤ 8 then Int64.ofNat (y_w (y_lt (y_ch L text) l1 (r - l1))) else 0, Int32.ofNat r) := by
  intro n
  induction n with
  | zero => intro p key _ h; omega
  | succ n ih =>
    intro p w hr hn hp hk
    have hpr := hr.1
    have e8 : (Int32.ofNat (p - l1) ≤ 8) ↔ p - l1 ≤ 8 := i_le (by omega) (by decide)
    have e8' : (8 ≤ Int32.ofNat (p - l1)) ↔ 8 ≤ p - l1 := i_le (by decide) (by omega)
    unfold f_X11_letters_11 f_X11_letters_c16 f_X11_letters_c19
    rw [i_chr hL (by omega), i_sub hp]
    rcases y_run_step hr with ⟨h1, h2, h3⟩ | ⟨h1, h2⟩
    · rw [if_neg (show ¬ f_X11_isLetter (y_ch L text p) = 0 from h1)]
      unfold f_X11_letters_61 f_X11_letters_c42 f_X11_letters_61
      rw [i_sub hp, i_s]
      by_cases h8 : 8 ≤ p - l1
      · rw [if_pos (e8'.mpr h8)]
        exact ih h3 (by omega) (by omega) (fun h => by omega)
      · rw [if_neg (fun h => h8 (e8'.mp h))]
        refine ih h3 (by omega) (by omega) (fun h => ?_)
        have hlet := (y_let_iff _).mp h1
        have hwl := y_w_lt _ (y_lt_ok (g := y_ch L text) (q := l1) (p - l1) (fun i a b => hall i a (by omega)))
        rw [y_lt_len] at hwl
        have hpow : 256 ^ (p - l1) = 2 ^ (8 * (p - l1)) := by rw [Nat.pow_mul]
        have hm : (8 : Int32) * Int32.ofNat (p - l1) = Int32.ofNat (8 * (p - l1)) := by rw [Int32.ofNat_mul]; rfl
        have hb : 2 ^ (8 * (p - l1)) * (y_ch L text p).toInt.toNat + y_w (y_lt (y_ch L text) l1 (p - l1)) < 2 ^ 64 := by
          have q1 : 2 ^ (8 * (p - l1)) * (y_ch L text p).toInt.toNat ≤ 2 ^ (8 * (p - l1)) * 122 := Nat.mul_le_mul_left _ (by omega)
          have q2 : 2 ^ (8 * (p - l1)) ≤ 2 ^ 56 := Nat.pow_le_pow_right (by decide) (by omega)
          rw [hpow] at hwl
          omega
        rw [hk (by omega), hm]
        have hc : Int32.toInt64 (y_ch L text p) = Int64.ofNat (y_ch L text p).toInt.toNat := by
          have := i_long (m := (y_ch L text p).toInt.toNat) (by omega)
          rw [← i_n (by omega)] at this
          exact this
        rw [hc, i_shl (by omega) (by omega), Int64.or_comm, i_or (by rw [← hpow]; exact hwl) hb, show p + 1 - l1 = (p - l1) + 1 by omega, y_lt, y_w, y_lt_len, show l1 + (p - l1) = p by omega, hpow]
        congr 1
        rw [show (y_ch L text p).toInt.toNat - 96 + 96 = (y_ch L text p).toInt.toNat by omega, Nat.mul_comm, Nat.add_comm]
    · subst h2
      rw [if_pos (show f_X11_isLetter (y_ch L text r) = 0 from Classical.byContradiction h1)]
      by_cases h8 : r - l1 ≤ 8
      · rw [if_pos (e8.mpr h8), if_pos h8, hk h8]
      · rw [if_neg (fun h => h8 (e8.mp h)), if_neg h8]
def y_d (g : Nat → Int32) (q : Nat) : Nat → Int64
  | 0 => 0
  | m + 1 => y_d g q m * 10 + Int32.toInt64 (g (q + m) - 48)
theorem y_digC {L : Nat} {text : Nat → Int32} (hL : L ≤ 400) {l1 r : Nat} (hrL : r ≤ L) : ∀ (n : Nat) {p : Nat} {v : Int64}, y_run y_dig (y_ch L text) p r → r - p < n → l1 ≤ p → v = (if p - l1 ≤ 10 then y_d (y_ch L text) l1 (p - l1) else 1099511627776) → f_X9_takeDigits_7 (Int32.ofNat L) text n (Int32.ofNat l1) v (Int32.ofNat p) = (if r - l1 ≤ 10 then y_d (y_ch L text) l1 (r - l1) else 1099511627776, Int32.ofNat r) := by
  intro n
  induction n with
  | zero => intro p key _ h; omega
  | succ n ih =>
    intro p v hr hn hp hk
    have hpr := hr.1
    have e10 : (10 ≤ Int32.ofNat (p - l1)) ↔ 10 ≤ p - l1 := i_le (by decide) (by omega)
    unfold f_X9_takeDigits_7
    rcases y_run_step hr with ⟨h1, h2, h3⟩ | ⟨h1, h2⟩
    · have hLp : ¬ L ≤ p := by omega
      have h1' := h1
      rw [y_chk hLp] at h1'
      rw [if_neg (fun h => hLp ((i_le (by omega) (by omega)).mp h)), i_cl (by omega)]
      unfold f_X9_takeDigits_c33 f_X9_takeDigits_78
      rw [if_neg h1', i_sub hp, i_cl (by omega), i_s]
      by_cases h8 : 10 ≤ p - l1
      · rw [if_pos (e10.mpr h8)]
        exact ih h3 (by omega) (by omega) (by rw [if_neg (by omega)])
      · rw [if_neg (fun h => h8 (e10.mp h))]
        refine ih h3 (by omega) (by omega) ?_
        rw [if_pos (by omega), hk, if_pos (by omega), show p + 1 - l1 = (p - l1) + 1 by omega, y_d, show l1 + (p - l1) = p by omega, y_chk hLp]
    · subst h2
      rw [hk]
      by_cases hLp : L ≤ r
      · rw [if_pos ((i_le (by omega) (by omega)).mpr hLp)]
      · rw [if_neg (fun h => hLp ((i_le (by omega) (by omega)).mp h)), i_cl (by omega)]
        unfold f_X9_takeDigits_c33
        rw [y_chk hLp] at h1
        rw [if_pos (Classical.byContradiction h1)]
theorem y_d48 {c : Int32} (h : y_dig c) (v : Int64) : 10 * v + Int32.toInt64 c - 48 = v * 10 + Int32.toInt64 (c - 48) := by
  have h1 := (y_dig_iff c).mp h
  have e : c - 48 = Int32.ofNat (c.toInt.toNat - 48) := by
    have := i_sub (a := c.toInt.toNat) (b := 48) (by omega)
    rw [← i_n (by omega)] at this
    exact this
  have e2 : Int32.toInt64 c = Int64.ofNat c.toInt.toNat := by
    have := i_long (m := c.toInt.toNat) (by omega)
    rw [← i_n (by omega)] at this
    exact this
  have e3 : Int64.ofNat c.toInt.toNat = Int64.ofNat (c.toInt.toNat - 48) + 48 := by
    have : c.toInt.toNat = (c.toInt.toNat - 48) + 48 := by omega
    have q : Int64.ofNat (c.toInt.toNat - 48 + 48) = Int64.ofNat (c.toInt.toNat - 48) + Int64.ofNat 48 := Int64.ofNat_add _ _
    rw [← this] at q
    exact q
  rw [e, i_long (by omega), e2, e3, Int64.mul_comm, ← Int64.add_assoc, Int64.add_sub_cancel]
theorem y_digR {L : Nat} {text : Nat → Int32} (hL : L ≤ 400) {l1 r : Nat} {a b : Int64} {l5 at_ wrong unfit : Int32} (hrL : r ≤ L) : ∀ (n : Nat) {p : Nat} {v : Int64}, y_run y_dig (y_ch L text) p r → r - p < n → l1 ≤ p → v = y_d (y_ch L text) l1 (min (p - l1) 10) → f_X11_number_88 (Int32.ofNat L) text n a b l5 (Int32.ofNat p) (Int32.ofNat l1) v at_ wrong unfit = f_X11_number_160 (Int32.ofNat r) wrong unfit a b (if l5 = 0 then y_d (y_ch L text) l1 (min (r - l1) 10) else -(y_d (y_ch L text) l1 (min (r - l1) 10))) (Int32.ofNat r) (Int32.ofNat l1) := by
  intro n
  induction n with
  | zero => intro p key _ h; omega
  | succ n ih =>
    intro p v hr hn hp hk
    have hpr := hr.1
    have e10 : (10 ≤ Int32.ofNat (p - l1)) ↔ 10 ≤ p - l1 := i_le (by decide) (by omega)
    unfold f_X11_number_88 f_X11_number_c91 f_X11_number_c94
    rw [i_chr hL (by omega), i_sub hp]
    rcases y_run_step hr with ⟨h1, h2, h3⟩ | ⟨h1, h2⟩
    · rw [if_neg (show ¬ f_X11_isDigit (y_ch L text p) = 0 from h1)]
      unfold f_X11_number_133 f_X11_number_c119 f_X11_number_133
      rw [i_s]
      by_cases h8 : 10 ≤ p - l1
      · rw [if_pos (e10.mpr h8)]
        refine ih h3 (by omega) (by omega) ?_
        rw [hk, Nat.min_eq_right (by omega), Nat.min_eq_right (by omega)]
      · rw [if_neg (fun h => h8 (e10.mp h))]
        refine ih h3 (by omega) (by omega) ?_
        rw [hk, Nat.min_eq_left (by omega), Nat.min_eq_left (by omega), y_d48 h1, show p + 1 - l1 = (p - l1) + 1 by omega, y_d, show l1 + (p - l1) = p by omega]
    · subst h2
      rw [if_pos (show f_X11_isDigit (y_ch L text r) = 0 from Classical.byContradiction h1), hk]
      by_cases h5 : l5 = 0
      · rw [if_pos h5, if_pos h5]
      · rw [if_neg h5, if_neg h5]
