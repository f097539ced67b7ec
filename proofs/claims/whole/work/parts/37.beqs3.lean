theorem e_k8 {k : Int32} (h : 0 ≤ k.toInt ∧ k.toInt ≤ 7) : k = 0 ∨ k = 1 ∨ k = 2 ∨ k = 3 ∨ k = 4 ∨ k = 5 ∨ k = 6 ∨ k = 7 := by
  have h1 : k.toInt = 0 ∨ k.toInt = 1 ∨ k.toInt = 2 ∨ k.toInt = 3 ∨ k.toInt = 4 ∨ k.toInt = 5 ∨ k.toInt = 6 ∨ k.toInt = 7 := by omega
  simp only [← Int32.toInt_inj]
  exact h1
theorem e_bits (x : BitVec 64) (c : Nat) (hc : c ≤ 56) : (x >>> c) &&& 255#64 = (x.sshiftRight c) &&& 255#64 := by
  apply BitVec.eq_of_getLsbD_eq
  intro i hi
  simp only [BitVec.getLsbD_and, BitVec.getLsbD_ushiftRight, BitVec.getLsbD_sshiftRight]
  by_cases h8 : i < 8
  · have h1 : c + i < 64 := by omega
    simp [h1, hi, show ¬ 64 ≤ i by omega]
  · have h2 : (255#64).getLsbD i = false := by
      rw [BitVec.getLsbD_ofNat]
      have h3 : Nat.testBit 255 i = false := Nat.testBit_lt_two_pow (show 255 < 2 ^ i from Nat.lt_of_lt_of_le (by decide : 255 < 2 ^ 8) (Nat.pow_le_pow_right (by omega) (by omega)))
      simp [h3]
    simp [h2]
theorem e_byte (x : Int64) {k : Int32} (h : 0 ≤ k.toInt ∧ k.toInt ≤ 7) : g_lushr x (8 * k) &&& 255 = g_lshr x (8 * k) &&& 255 := by
  rcases e_k8 h with rfl | rfl | rfl | rfl | rfl | rfl | rfl | rfl
  · exact Int64.toBitVec_inj.mp (e_bits x.toBitVec 0 (by omega))
  · exact Int64.toBitVec_inj.mp (e_bits x.toBitVec 8 (by omega))
  · exact Int64.toBitVec_inj.mp (e_bits x.toBitVec 16 (by omega))
  · exact Int64.toBitVec_inj.mp (e_bits x.toBitVec 24 (by omega))
  · exact Int64.toBitVec_inj.mp (e_bits x.toBitVec 32 (by omega))
  · exact Int64.toBitVec_inj.mp (e_bits x.toBitVec 40 (by omega))
  · exact Int64.toBitVec_inj.mp (e_bits x.toBitVec 48 (by omega))
  · exact Int64.toBitVec_inj.mp (e_bits x.toBitVec 56 (by omega))

theorem e_lcmp_eq (x y : Int64) : (lg_cmp x y = 0) ↔ x.toInt = y.toInt := by
  unfold lg_cmp
  by_cases h1 : x > y
  · rw [if_pos h1]
    have h2 : y.toInt < x.toInt := Int64.lt_iff_toInt_lt.mp h1
    exact ⟨fun h => absurd h (by decide), fun h => by omega⟩
  · rw [if_neg h1]
    by_cases h2 : x = y
    · rw [if_pos h2]
      exact ⟨fun _ => by rw [h2], fun _ => rfl⟩
    · rw [if_neg h2]
      exact ⟨fun h => absurd h (by decide), fun h => absurd (Int64.toInt_inj.mp h) h2⟩
theorem e_lcmp_lt (x y : Int64) : (lg_cmp x y < 0) ↔ x.toInt < y.toInt := by
  unfold lg_cmp
  by_cases h1 : x > y
  · rw [if_pos h1]
    have h2 : y.toInt < x.toInt := Int64.lt_iff_toInt_lt.mp h1
    exact ⟨fun h => absurd h (by decide), fun h => by omega⟩
  · rw [if_neg h1]
    have h3 : ¬ y.toInt < x.toInt := fun h => h1 (Int64.lt_iff_toInt_lt.mpr h)
    by_cases h2 : x = y
    · rw [if_pos h2]
      exact ⟨fun h => absurd h (by decide), fun h => by rw [h2] at h; omega⟩
    · rw [if_neg h2]
      have h4 : ¬ x.toInt = y.toInt := fun h => h2 (Int64.toInt_inj.mp h)
      exact ⟨fun _ => by omega, fun _ => by decide⟩
theorem e_lcmp_gt (x y : Int64) : (0 < lg_cmp x y) ↔ y.toInt < x.toInt := by
  unfold lg_cmp
  by_cases h1 : x > y
  · rw [if_pos h1]
    exact ⟨fun _ => Int64.lt_iff_toInt_lt.mp h1, fun _ => by decide⟩
  · rw [if_neg h1]
    have h3 : ¬ y.toInt < x.toInt := fun h => h1 (Int64.lt_iff_toInt_lt.mpr h)
    by_cases h2 : x = y
    · rw [if_pos h2]
      exact ⟨fun h => absurd h (by decide), fun h => absurd h h3⟩
    · rw [if_neg h2]
      exact ⟨fun h => absurd h (by decide), fun h => absurd h h3⟩
theorem e_255 (x : Int64) : 0 ≤ (x &&& 255).toInt ∧ (x &&& 255).toInt ≤ 255 := by
  have h1 : (x &&& 255).toBitVec.toNat ≤ 255 := by
    show (x.toBitVec &&& 255#64).toNat ≤ 255
    rw [BitVec.toNat_and]
    exact Nat.and_le_right
  have h2 : (x &&& 255).toInt = ((x &&& 255).toBitVec.toNat : Int) := by
    show (x &&& 255).toBitVec.toInt = _
    rw [BitVec.toInt_eq_toNat_of_lt (by omega)]
  omega
theorem e_i2c {c : Int64} (h : 0 ≤ c.toInt ∧ c.toInt ≤ 255) : (g_i2c (Int64.toInt32 c)).toInt = c.toInt := by
  have h1 : (Int64.toInt32 c).toInt = c.toInt := by
    rw [Int64.toInt_toInt32]
    exact q_bm (by omega) (by omega)
  have h2 : (Int64.toInt32 c).toBitVec.toNat = c.toInt.toNat := by
    have h3 : (Int64.toInt32 c).toBitVec.toInt = c.toInt := h1
    rw [BitVec.toInt_eq_toNat_cond] at h3
    split at h3 <;> omega
  have h4 : (g_i2c (Int64.toInt32 c)).toBitVec.toNat = c.toInt.toNat := by
    show ((Int64.toInt32 c).toBitVec % 65536#32).toNat = _
    rw [BitVec.toNat_umod, h2]
    show c.toInt.toNat % 65536 = _
    exact Nat.mod_eq_of_lt (by omega)
  show (g_i2c (Int64.toInt32 c)).toBitVec.toInt = c.toInt
  rw [BitVec.toInt_eq_toNat_of_lt (by omega), h4]
  omega
theorem e_b10 : (10 : Int32).toInt = 10 := by decide
theorem e_b32 : (32 : Int32).toInt = 32 := by decide
theorem e_b126 : (126 : Int32).toInt = 126 := by decide
theorem e_l10 : (10 : Int64).toInt = 10 := by decide
theorem e_l32 : (32 : Int64).toInt = 32 := by decide
theorem e_l126 : (126 : Int64).toInt = 126 := by decide
def e_good (c : Int) : Bool := c == 10 || (decide (32 ≤ c) && decide (c ≤ 126))
theorem e_isChar (c : Int64) : f_X11_isCharacter c = if e_good c.toInt = true then 1 else 0 := by
  unfold f_X11_isCharacter
  simp only [e_lcmp_eq, e_lcmp_lt, e_lcmp_gt, e_l10, e_l32, e_l126]
  by_cases h1 : c.toInt = 10
  · simp [h1, e_good]
  · by_cases h2 : c.toInt < 32
    · rw [if_neg h1, if_pos h2, if_neg]
      simp [e_good, h1]
      omega
    · by_cases h3 : 126 < c.toInt
      · rw [if_neg h1, if_neg h2, if_pos h3, if_neg]
        simp [e_good, h1]
        omega
      · rw [if_neg h1, if_neg h2, if_neg h3, if_pos]
        simp [e_good, h1]
        omega
theorem e_char (l0 : Int64) (l2 l3 : Int32) (kL : Int64 → Int32 → Int32 → Int32) (z : Int32) : f_X7_canBeTyped_c22 l0 l2 l3 kL z = if e_good z.toInt = true then kL l0 l2 (l3 + 1) else 0 := by
  unfold f_X7_canBeTyped_c22 f_X7_canBeTyped_50
  by_cases h1 : z = 10
  · subst h1
    simp [e_good, e_b10]
  · have g1 : ¬ z.toInt = 10 := fun h => h1 (Int32.toInt_inj.mp (by rw [h, e_b10]))
    by_cases h2 : z < 32
    · rw [if_neg h1, if_pos h2, if_neg]
      have := q_lt h2
      have := e_b32
      simp [e_good, g1]
      omega
    · have g2 := q_nlt h2
      have e2 := e_b32
      have e3 := e_b126
      by_cases h3 : z ≤ 126
      · have g3 := q_le h3
        rw [if_neg h1, if_neg h2, if_pos h3, if_pos]
        simp [e_good, g1]
        omega
      · have g3 := q_nle h3
        rw [if_neg h1, if_neg h2, if_neg h3, if_neg]
        simp [e_good, g1]
        omega
theorem e_byteOf (x : Int64) {k : Int32} (h : 0 ≤ k.toInt ∧ k.toInt ≤ 7) : f_X7_byteOf x k = g_i2c (Int64.toInt32 (g_lshr x (8 * k) &&& 255)) := by
  unfold f_X7_byteOf
  rw [e_byte x h]
theorem e_t54 {refusal length : Int32} {text : Nat → Int32} {l1 : Int64} {l3 : Int32} : ∀ (f : Nat) (l5 : Int32), 0 ≤ l5.toInt → l5.toInt ≤ l3.toInt → l3.toInt ≤ 8 → l3.toInt - l5.toInt < f → f_X11_type_21 f l1 l3 1 l5 refusal length text = f_X11_type_54 length text l1 l3 (f_X7_canBeTyped_15 f l1 l3 l5)
  | 0, l5, h0, h8, h3, hf => by
    exfalso
    omega
  | f + 1, l5, h0, h8, h3, hf => by
    unfold f_X11_type_21 f_X7_canBeTyped_15
    by_cases hle : l3 ≤ l5
    · rw [if_pos hle, if_pos hle]
    · have g := q_nle hle
      have e1 := e_1
      have hi : (l5 + 1).toInt = l5.toInt + 1 := by rw [q_add (by omega) (by omega), e1]
      rw [if_neg hle, if_neg hle, if_neg (by decide), e_char, e_byteOf l1 ⟨h0, by omega⟩]
      unfold f_X11_type_c43
      rw [e_isChar, e_i2c (e_255 _)]
      by_cases hg : e_good (g_lshr l1 (8 * l5) &&& 255).toInt = true
      · rw [if_pos hg, if_pos hg]
        exact e_t54 f (l5 + 1) (by omega) (by omega) h3 (by omega)
      · rw [if_neg hg, if_neg hg]
        obtain ⟨f9, rfl⟩ : ∃ f9, f = f9 + 1 := ⟨f - 1, by omega⟩
        unfold f_X11_type_21
        by_cases h9 : l3 ≤ l5 + 1
        · rw [if_pos h9]
        · rw [if_neg h9, if_pos rfl]
theorem e_t81 {length : Int32} {text : Nat → Int32} {l1 : Int64} {l3 r : Int32} (hr : ¬ r = 0) : f_X11_type_81 length text l1 l3 r = (0, r, length, text) := by
  unfold f_X11_type_81 f_X11_type_87 f_X11_type_131 f_X11_type_148
  by_cases h : l3 ≤ 0
  · rw [if_pos h, if_neg hr, if_neg hr, Int32.add_zero]
  · rw [if_neg h, if_neg hr, if_neg hr, if_neg hr, Int32.add_zero]
theorem e_t0 {refusal length : Int32} {text : Nat → Int32} {l1 : Int64} {l3 : Int32} : f_X11_type_16 refusal length text l1 l3 0 = (0, 1, length, text) := by
  unfold f_X11_type_16 f_X11_type_21
  have h9 : f_X11_type_54 length text l1 l3 0 = (0, 1, length, text) := by
    unfold f_X11_type_54
    rw [if_pos rfl]
    exact e_t81 (by decide)
  by_cases h : l3 ≤ 0
  · rw [if_pos h]
    exact h9
  · rw [if_neg h, if_pos rfl]
    exact h9
theorem e_type_n {typed : Int64} {n : Int32} (hb : ¬ f_X7_canBeTyped typed n = 0) : 1 ≤ n.toInt ∧ n.toInt ≤ 8 := by
  unfold f_X7_canBeTyped at hb
  by_cases h1 : n < 1
  · rw [if_pos h1] at hb
    exact absurd rfl hb
  · rw [if_neg h1] at hb
    by_cases h2 : n ≤ 8
    · have := q_nlt h1
      have := q_le h2
      have := e_1
      have := e_8
      omega
    · rw [if_neg h2] at hb
      exact absurd rfl hb
theorem e_typeS {typed : Int64} {n refusal length : Int32} {text : Nat → Int32} : f_X11_type typed n refusal length text = f_X11_type_54 length text typed n (f_X7_canBeTyped typed n) ∨ (f_X7_canBeTyped typed n = 0 ∧ f_X11_type typed n refusal length text = (0, 1, length, text)) := by
  unfold f_X11_type f_X7_canBeTyped
  by_cases h1 : n < 1
  · rw [if_pos h1, if_pos h1]
    exact Or.inr ⟨rfl, e_t0⟩
  · rw [if_neg h1, if_neg h1]
    have g1 := q_nlt h1
    have e1 := e_1
    have e8 := e_8
    by_cases h2 : n ≤ 8
    · have g2 := q_le h2
      have h3 : ¬ (8 : Int32) < n := fun h => by
        have := q_lt h
        omega
      rw [if_pos h2, if_neg h3]
      exact Or.inl (e_t54 9 0 (by decide) (by have := e_0; omega) (by omega) (by have := e_0; omega))
    · have h3 : (8 : Int32) < n := Int32.lt_iff_toInt_lt.mpr (q_nle h2)
      rw [if_neg h2, if_pos h3]
      exact Or.inr ⟨rfl, e_t0⟩
theorem e_type_a {typed : Int64} {n refusal length : Int32} {text : Nat → Int32} (hb : f_X7_canBeTyped typed n = 0) : f_X11_type typed n refusal length text = (0, 1, length, text) := by
  rcases e_typeS (typed := typed) (n := n) (refusal := refusal) (length := length) (text := text) with h | h
  · rw [h, hb]
    unfold f_X11_type_54
    rw [if_pos rfl]
    exact e_t81 (by decide)
  · exact h.2
theorem e_type_b {typed : Int64} {n refusal length : Int32} {text : Nat → Int32} (hb : ¬ f_X7_canBeTyped typed n = 0) (hl : ¬ length + n ≤ 400) : f_X11_type typed n refusal length text = (0, 2, length, text) := by
  rcases e_typeS (typed := typed) (n := n) (refusal := refusal) (length := length) (text := text) with h | h
  · rw [h]
    unfold f_X11_type_54
    rw [if_neg hb, if_neg hl]
    exact e_t81 (by decide)
  · exact absurd h.1 hb
theorem e_add {typed : Int64} {n length : Int32} (h0 : 0 ≤ length.toInt) (hl : length.toInt + n.toInt ≤ 400) (hn : 1 ≤ n.toInt ∧ n.toInt ≤ 8) : ∀ (f : Nat) (l5 : Int32) (text : Nat → Int32), 0 ≤ l5.toInt → l5.toInt ≤ n.toInt → n.toInt - l5.toInt < f → ∃ text1 : Nat → Int32, f_X11_type_87 f typed n l5 0 length text = (length + n, 0, length + n, text1) ∧ f_X7_add_3 f typed n l5 (length + l5) text = (length + n, text1)
  | 0, l5, text, h1, h2, hf => by
    exfalso
    omega
  | f + 1, l5, text, h1, h2, hf => by
    unfold f_X11_type_87 f_X7_add_3
    by_cases hle : n ≤ l5
    · have g := q_le hle
      have e9 : l5 = n := Int32.toInt_inj.mp (by omega)
      rw [if_pos hle, if_pos hle]
      refine ⟨text, ?_, by rw [e9]⟩
      unfold f_X11_type_131 f_X11_type_148
      rw [if_pos rfl, if_pos rfl]
    · have g := q_nle hle
      have e1 := e_1
      have e400 : (400 : Int32).toInt = 400 := by decide
      have hi : (l5 + 1).toInt = l5.toInt + 1 := by rw [q_add (by omega) (by omega), e1]
      have hs : (length + l5).toInt = length.toInt + l5.toInt := q_add (by omega) (by omega)
      have h4 : ¬ (400 : Int32) ≤ length + l5 := fun h => by
        have := q_le h
        omega
      rw [if_neg hle, if_neg hle, if_pos rfl, if_neg h4]
      unfold f_X7_add_c30
      rw [e_byteOf typed ⟨h1, by omega⟩, show length + l5 + 1 = length + (l5 + 1) from Int32.add_assoc _ _ _]
      exact e_add h0 hl hn f (l5 + 1) _ (by omega) (by omega) (by omega)
theorem e_type_c {typed : Int64} {n refusal length : Int32} {text : Nat → Int32} (hb : ¬ f_X7_canBeTyped typed n = 0) (hl : length + n ≤ 400) (h0 : 0 ≤ length.toInt ∧ length.toInt ≤ 400) : ∃ text1 : Nat → Int32, f_X11_type typed n refusal length text = (length + n, 0, length + n, text1) ∧ f_X7_add typed n length text = (length + n, text1) := by
  have hn := e_type_n hb
  have e400 : (400 : Int32).toInt = 400 := by decide
  have hs : (length + n).toInt = length.toInt + n.toInt := q_add (by omega) (by omega)
  have g := q_le hl
  have e0 := e_0
  rcases e_typeS (typed := typed) (n := n) (refusal := refusal) (length := length) (text := text) with h | h
  · obtain ⟨text1, h1, h2⟩ := e_add (typed := typed) h0.1 (by omega) hn 9 0 text (by decide) (by omega) (by omega)
    refine ⟨text1, ?_, ?_⟩
    · rw [h]
      unfold f_X11_type_54 f_X11_type_81
      rw [if_neg hb, if_pos hl]
      exact h1
    · rw [Int32.add_zero] at h2
      exact h2
  · exact absurd h.1 hb
