theorem bv_sx (x : BitVec 32) : (x.signExtend 64) &&& 4294967295#64 = x.setWidth 64 := by
  apply BitVec.eq_of_getLsbD_eq
  intro i hi
  simp only [BitVec.getLsbD_and, BitVec.getLsbD_signExtend, BitVec.getLsbD_setWidth]
  by_cases h : i < 32
  · have h2 : (4294967295#64).getLsbD i = true := by
      have h3 : ∀ j : Fin 32, (4294967295#64).getLsbD j.val = true := by decide
      exact h3 ⟨i, h⟩
    simp [h, hi, h2]
  · have h2 : (4294967295#64).getLsbD i = false := by
      rw [BitVec.getLsbD_ofNat]
      have h3 : Nat.testBit 4294967295 i = false := Nat.testBit_lt_two_pow (show 4294967295 < 2 ^ i from Nat.lt_of_lt_of_le (by decide : 4294967295 < 2 ^ 32) (Nat.pow_le_pow_right (by omega) (by omega)))
      simp [h3]
    have h4 : x.getLsbD i = false := BitVec.getLsbD_of_ge x i (by omega)
    simp [h2, h4]
theorem e_u64 (a : Int32) : (Int32.toInt64 a &&& 4294967295).toInt = (a.toBitVec.toNat : Int) := by
  have h1 : (Int32.toInt64 a &&& 4294967295).toBitVec = a.toBitVec.setWidth 64 := bv_sx a.toBitVec
  have h2 : (Int32.toInt64 a &&& 4294967295).toInt = (Int32.toInt64 a &&& 4294967295).toBitVec.toInt := rfl
  have h3 := a.toBitVec.isLt
  rw [h2, h1, BitVec.toInt_eq_toNat_of_lt, BitVec.toNat_setWidth, Nat.mod_eq_of_lt (by omega)]
  rw [BitVec.toNat_setWidth, Nat.mod_eq_of_lt (by omega)]
  omega
theorem e_xorN (n : Nat) (h : n < 4294967296) : n ^^^ 2147483648 = if n < 2147483648 then n + 2147483648 else n - 2147483648 := by
  have h1 : (n ^^^ 2147483648) % 2 ^ 31 = n % 2 ^ 31 := by
    rw [Nat.xor_mod_two_pow]
    show n % 2 ^ 31 ^^^ 0 = _
    rw [Nat.xor_zero]
  have h2 : (n ^^^ 2147483648) >>> 31 = (n >>> 31) ^^^ 1 := by
    rw [Nat.shiftRight_xor_distrib]
    rfl
  rw [Nat.shiftRight_eq_div_pow, Nat.shiftRight_eq_div_pow] at h2
  have h3 : n / 2 ^ 31 = 0 ∨ n / 2 ^ 31 = 1 := by omega
  rcases h3 with h3 | h3
  · rw [h3] at h2
    have h4 : (0 : Nat) ^^^ 1 = 1 := rfl
    rw [h4] at h2
    rw [if_pos (by omega)]
    omega
  · rw [h3] at h2
    have h4 : (1 : Nat) ^^^ 1 = 0 := rfl
    rw [h4] at h2
    rw [if_neg (by omega)]
    omega
theorem e_xorI (a : Int32) : (a ^^^ (-2147483648 : Int32)).toInt = (a.toBitVec.toNat : Int) - 2147483648 := by
  have h3 := a.toBitVec.isLt
  have h1 : (a ^^^ (-2147483648 : Int32)).toBitVec.toNat = a.toBitVec.toNat ^^^ 2147483648 := by
    show (a.toBitVec ^^^ 2147483648#32).toNat = _
    rw [BitVec.toNat_xor]
    rfl
  rw [e_xorN _ h3] at h1
  have h2 : (a ^^^ (-2147483648 : Int32)).toInt = (a ^^^ (-2147483648 : Int32)).toBitVec.toInt := rfl
  rw [h2, BitVec.toInt_eq_toNat_cond, h1]
  by_cases h : a.toBitVec.toNat < 2147483648
  · rw [if_pos h, if_neg (by omega)]
    omega
  · rw [if_neg h, if_pos (by omega)]
    omega
theorem e_less (a b : Int32) : f_X8_isBelowUnsigned a b = f_X11_isLess a b := by
  unfold f_X8_isBelowUnsigned f_X11_isLess
  have h1 : (0 ≤ lg_cmp (Int32.toInt64 a &&& 4294967295) (Int32.toInt64 b &&& 4294967295)) ↔ (b ^^^ (-2147483648 : Int32)) ≤ (a ^^^ (-2147483648 : Int32)) := by
    rw [lg_cmp_ge, Int64.le_iff_toInt_le, Int32.le_iff_toInt_le, e_u64, e_u64, e_xorI, e_xorI]
    omega
  by_cases h : (b ^^^ (-2147483648 : Int32)) ≤ (a ^^^ (-2147483648 : Int32))
  · rw [if_pos h, if_pos (h1.mpr h)]
  · rw [if_neg h, if_neg (fun h9 => h (h1.mp h9))]
theorem e_isLess01 (a b : Int32) : f_X11_isLess a b = 0 ∨ f_X11_isLess a b = 1 := by
  unfold f_X11_isLess
  by_cases h : (b ^^^ (-2147483648 : Int32)) ≤ (a ^^^ (-2147483648 : Int32))
  · rw [if_pos h]; exact Or.inl rfl
  · rw [if_neg h]; exact Or.inr rfl
theorem e_seven {f : Int32} (h : 0 ≤ f.toInt ∧ f.toInt < 8) : f = 0 ∨ f = 1 ∨ f = 2 ∨ f = 3 ∨ f = 4 ∨ f = 5 ∨ f = 6 ∨ f = 7 := e_k8 ⟨h.1, by omega⟩
theorem e_so {f a b : Int32} (h : 0 ≤ f.toInt ∧ f.toInt < 8) (h2 : ¬ f = 2) (h3 : ¬ f = 3) : f_X8_isSo f a b = f_X11_goes f a b := by
  unfold f_X8_isSo f_X8_isSo_c90 f_X8_isSo_c96 f_X11_goes f_X11_goes_c39 f_X11_goes_42 f_X11_goes_55
  rw [e_less]
  rcases e_seven h with rfl | rfl | rfl | rfl | rfl | rfl | rfl | rfl
  · by_cases hab : a = b <;> simp (decide := true) [hab]
  · by_cases hab : a = b <;> simp (decide := true) [hab]
  · exact absurd rfl h2
  · exact absurd rfl h3
  · by_cases hab : b ≤ a <;> simp (decide := true) [hab]
  · by_cases hab : b ≤ a
    · have h9 : ¬ a < b := fun h => by
        have := q_lt h
        have := q_le hab
        omega
      simp (decide := true) [hab, h9]
    · have h9 : a < b := Int32.lt_iff_toInt_lt.mpr (q_nle hab)
      simp (decide := true) [hab, h9]
  · rcases e_isLess01 a b with hl | hl <;> rw [hl] <;> simp (decide := true)
  · rcases e_isLess01 a b with hl | hl <;> rw [hl] <;> simp (decide := true)
section RunEq2
variable {t wheel now w : Int32} {store common low high register address status did ready timer trace : Nat → Int32}
theorem rd_branch (ht : 0 ≤ t.toInt ∧ t.toInt < 4) (hd : 0 ≤ (did (Int32.toNatClampNeg t)).toInt) {R : Int32 × (Nat → Int32) × (Nat → Int32) × (Nat → Int32) × (Nat → Int32) × (Nat → Int32)} (hR : R = f_X11_branch t w now register address status did ready trace) : RD t now store common register address status did ready timer trace (f_X8_attempt_c168 now (status (Int32.toNatClampNeg t)) (V2 16 register (Int32.toNatClampNeg t)) (V2 128 store (Int32.toNatClampNeg t)) (V2 4 timer (Int32.toNatClampNeg t)) common (f_X8_branch w (address (Int32.toNatClampNeg t)) (address (Int32.toNatClampNeg t) + 4) (V2 16 register (Int32.toNatClampNeg t))).1 (f_X8_branch w (address (Int32.toNatClampNeg t)) (address (Int32.toNatClampNeg t) + 4) (V2 16 register (Int32.toNatClampNeg t))).2)
    (R.1, store, common, register, R.2.1, R.2.2.1, R.2.2.2.1, R.2.2.2.2.1, timer, R.2.2.2.2.2) := by
  subst hR
  unfold f_X8_branch f_X8_branch_c1 f_X8_branch_c6 f_X8_branch_c11 f_X8_branch_c27 f_X8_branch_c35 f_X8_branch_c59 f_X8_branch_c71 f_X8_attempt_c168 f_X11_branch f_X11_branch_50 f_X11_branch_c52 f_X11_branch_c120 f_X11_branch_144 f_X11_branch_c151 f_X11_stop
  rw [e_rs, e_rt, e_f, e_nB]
  have hf := q_7 (w >>> ((12 : Int32) &&& 31))
  have hs := q_31 (w >>> ((15 : Int32) &&& 31))
  have hr := q_31 (w >>> ((20 : Int32) &&& 31))
  rw [e_isReg hs.1, e_isReg hr.1]
  by_cases h2 : ((w >>> ((12 : Int32) &&& 31)) &&& (7 : Int32)) = 2
  · simp only [if_pos h2]
    exact RD.fault _ _ _
  · simp only [if_neg h2]
    by_cases h3 : ((w >>> ((12 : Int32) &&& 31)) &&& (7 : Int32)) = 3
    · simp only [if_pos h3]
      exact RD.fault _ _ _
    · simp only [if_neg h3]
      by_cases h4 : (15 : Int32) < ((w >>> ((15 : Int32) &&& 31)) &&& (31 : Int32))
      · simp only [if_pos h4, if_true]
        exact RD.fault _ _ _
      · simp only [if_neg h4, if_neg (show ¬ (1 : Int32) = 0 by decide)]
        by_cases h5 : (15 : Int32) < ((w >>> ((20 : Int32) &&& 31)) &&& (31 : Int32))
        · have h6 : ¬ ((w >>> ((20 : Int32) &&& 31)) &&& (31 : Int32)) ≤ 15 := fun h => (e_nle _ _).mp h h5
          simp only [if_pos h5, if_neg h6, if_true]
          exact RD.fault _ _ _
        · have h6 : ((w >>> ((20 : Int32) &&& 31)) &&& (31 : Int32)) ≤ 15 := (e_nle _ _).mpr h5
          simp only [if_neg h5, if_pos h6, if_neg (show ¬ (1 : Int32) = 0 by decide)]
          rw [e_reg ht (e_r16 hs.1 h4), e_reg ht (e_r16 hr.1 h5), e_so hf h2 h3]
          by_cases h7 : f_X11_goes ((w >>> ((12 : Int32) &&& 31)) &&& (7 : Int32)) (register (Int32.toNatClampNeg (16 * t + ((w >>> ((15 : Int32) &&& 31)) &&& (31 : Int32))))) (register (Int32.toNatClampNeg (16 * t + ((w >>> ((20 : Int32) &&& 31)) &&& (31 : Int32))))) = 0
          · rw [if_pos h7, if_pos h7, e_done ht hd]
            exact RD.go _ _
          · rw [if_neg h7, if_neg h7, e_done ht hd]
            exact RD.go _ _
theorem e_and31 (x : Int32) : (x &&& 31) &&& 31 = x &&& 31 := by rw [Int32.and_assoc]; rfl
theorem e_worked {f o a b : Int32} : f_X8_compute f o a b = f_X11_worked f o a b := by
  unfold f_X8_compute f_X8_compute_c75 f_X11_worked f_X11_worked_c78
  rw [e_less, e_and31]
  have h1 : g_ushr a b = g_ushr a (b &&& 31) := by
    have h2 : b.toUInt32 &&& Int32.toUInt32 31 = (b &&& 31).toUInt32 &&& Int32.toUInt32 31 := congrArg Int32.toUInt32 (e_and31 b).symm
    unfold g_ushr
    rw [h2]
  rw [h1]
theorem e_worked31 {f o a b : Int32} (hf : f = 1 ∨ f = 5) : f_X11_worked f o a b = f_X11_worked f o a (b &&& 31) := by
  rcases hf with rfl | rfl
  · unfold f_X11_worked
    simp (decide := true) [e_and31]
  · unfold f_X11_worked
    simp (decide := true) [e_and31]
theorem rd_num (ht : 0 ≤ t.toInt ∧ t.toInt < 4) (hd : 0 ≤ (did (Int32.toNatClampNeg t)).toInt) {R : Int32 × (Nat → Int32) × (Nat → Int32) × (Nat → Int32) × (Nat → Int32) × (Nat → Int32) × (Nat → Int32)} (hR : R = f_X11_calculate t w 0 now register address status did ready trace) : RD t now store common register address status did ready timer trace (f_X8_attempt_c190 now (status (Int32.toNatClampNeg t)) (address (Int32.toNatClampNeg t)) (V2 128 store (Int32.toNatClampNeg t)) (V2 4 timer (Int32.toNatClampNeg t)) common (f_X8_computeWithNumber w (V2 16 register (Int32.toNatClampNeg t))).1 (f_X8_computeWithNumber w (V2 16 register (Int32.toNatClampNeg t))).2)
    (R.1, store, common, R.2.1, R.2.2.1, R.2.2.2.1, R.2.2.2.2.1, R.2.2.2.2.2.1, timer, R.2.2.2.2.2.2) := by
  subst hR
  unfold f_X8_computeWithNumber f_X8_computeWithNumber_c1 f_X8_computeWithNumber_c6 f_X8_computeWithNumber_c11 f_X8_computeWithNumber_c17 f_X8_computeWithNumber_31 f_X8_computeWithNumber_50 f_X8_computeWithNumber_51 f_X8_computeWithNumber_c60 f_X8_computeWithNumber_c68 f_X8_computeWithNumber_94 f_X8_computeWithNumber_c110 f_X8_computeWithNumber_c113 f_X8_computeWithNumber_c116 f_X8_attempt_c190 f_X11_calculate f_X11_calculate_59 f_X11_calculate_87 f_X11_calculate_88 f_X11_calculate_99 f_X11_calculate_114 f_X11_calculate_152 f_X11_calculate_185 f_X11_calculate_c209 f_X11_calculate_c212 f_X11_calculate_c231 f_X11_calculate_146 f_X11_calculate_c148 f_X11_stop f_X1_numberI f_X1_g
  rw [e_rd, e_rs, e_f]
  have hf := q_7 (w >>> ((12 : Int32) &&& 31))
  have hr := q_31 (w >>> ((7 : Int32) &&& 31))
  have hs := q_31 (w >>> ((15 : Int32) &&& 31))
  rw [e_isReg hr.1, e_isReg hs.1]
  simp only [if_true, if_neg (show ¬ (1 : Int32) = 0 by decide)]
  have key : ∀ o : Int32, ¬ (15 : Int32) < ((w >>> ((7 : Int32) &&& 31)) &&& (31 : Int32)) → ¬ (15 : Int32) < ((w >>> ((15 : Int32) &&& 31)) &&& (31 : Int32)) → ∀ b : Int32, f_X11_worked ((w >>> ((12 : Int32) &&& 31)) &&& (7 : Int32)) o (register (Int32.toNatClampNeg (16 * t + ((w >>> ((15 : Int32) &&& 31)) &&& (31 : Int32))))) (w >>> ((20 : Int32) &&& 31)) = f_X11_worked ((w >>> ((12 : Int32) &&& 31)) &&& (7 : Int32)) o (register (Int32.toNatClampNeg (16 * t + ((w >>> ((15 : Int32) &&& 31)) &&& (31 : Int32))))) b →
      RD t now store common register address status did ready timer trace (1000, status (Int32.toNatClampNeg t), address (Int32.toNatClampNeg t) + 4, now + 4, f_X8_setRegister ((w >>> ((7 : Int32) &&& 31)) &&& (31 : Int32)) (f_X8_compute ((w >>> ((12 : Int32) &&& 31)) &&& (7 : Int32)) o (V2 16 register (Int32.toNatClampNeg t) (Int32.toNatClampNeg ((w >>> ((15 : Int32) &&& 31)) &&& (31 : Int32)))) (w >>> ((20 : Int32) &&& 31))) (V2 16 register (Int32.toNatClampNeg t)), V2 128 store (Int32.toNatClampNeg t), V2 4 timer (Int32.toNatClampNeg t), common)
        ((f_X11_done t (address (Int32.toNatClampNeg t) + 4) (now + 4) now address did ready trace).1, store, common, f_X11_set t ((w >>> ((7 : Int32) &&& 31)) &&& (31 : Int32)) (f_X11_worked ((w >>> ((12 : Int32) &&& 31)) &&& (7 : Int32)) o (register (Int32.toNatClampNeg (16 * t + ((w >>> ((15 : Int32) &&& 31)) &&& (31 : Int32))))) b) register, (f_X11_done t (address (Int32.toNatClampNeg t) + 4) (now + 4) now address did ready trace).2.1, status, (f_X11_done t (address (Int32.toNatClampNeg t) + 4) (now + 4) now address did ready trace).2.2.1, (f_X11_done t (address (Int32.toNatClampNeg t) + 4) (now + 4) now address did ready trace).2.2.2.1, timer, (f_X11_done t (address (Int32.toNatClampNeg t) + 4) (now + 4) now address did ready trace).2.2.2.2) := by
    intro o h1 h2 b hb
    rw [e_reg ht (e_r16 hs.1 h2), e_worked, hb, e_done ht hd]
    exact RD.set _ _ ht (e_r16 hr.1 h1)
  generalize g_ushr w 25 = g at *
  by_cases c1 : ((w >>> ((12 : Int32) &&& 31)) &&& (7 : Int32)) = 1
  · have c5 : ¬ ((w >>> ((12 : Int32) &&& 31)) &&& (7 : Int32)) = 5 := by rw [c1]; decide
    by_cases g0 : g = 0
    · subst g0
      by_cases h1 : (15 : Int32) < ((w >>> ((7 : Int32) &&& 31)) &&& (31 : Int32))
      · simp (decide := true) only [if_pos c1, if_neg c5, if_pos h1, if_true, if_false, reduceIte]
        exact RD.fault _ _ _
      · by_cases h2 : (15 : Int32) < ((w >>> ((15 : Int32) &&& 31)) &&& (31 : Int32))
        · simp (decide := true) only [if_pos c1, if_neg c5, if_neg h1, if_pos h2, if_true, if_false, reduceIte]
          exact RD.fault _ _ _
        · simp (decide := true) only [if_pos c1, if_neg c5, if_neg h1, if_neg h2, if_true, if_false, reduceIte]
          exact key 0 h1 h2 _ (e_worked31 (Or.inl c1))
    · by_cases g2 : g = 32 <;> simp (decide := true) only [if_pos c1, if_neg c5, if_neg g0, g2, if_true, if_false, reduceIte] <;> exact RD.fault _ _ _
  · by_cases c5 : ((w >>> ((12 : Int32) &&& 31)) &&& (7 : Int32)) = 5
    · by_cases g0 : g = 0
      · subst g0
        by_cases h1 : (15 : Int32) < ((w >>> ((7 : Int32) &&& 31)) &&& (31 : Int32))
        · simp (decide := true) only [if_neg c1, if_pos c5, if_pos h1, if_true, if_false, reduceIte]
          exact RD.fault _ _ _
        · by_cases h2 : (15 : Int32) < ((w >>> ((15 : Int32) &&& 31)) &&& (31 : Int32))
          · simp (decide := true) only [if_neg c1, if_pos c5, if_neg h1, if_pos h2, if_true, if_false, reduceIte]
            exact RD.fault _ _ _
          · simp (decide := true) only [if_neg c1, if_pos c5, if_neg h1, if_neg h2, if_true, if_false, reduceIte]
            exact key 0 h1 h2 _ (e_worked31 (Or.inr c5))
      · by_cases g2 : g = 32
        · subst g2
          by_cases h1 : (15 : Int32) < ((w >>> ((7 : Int32) &&& 31)) &&& (31 : Int32))
          · simp (decide := true) only [if_neg c1, if_pos c5, if_pos h1, if_true, if_false, reduceIte]
            exact RD.fault _ _ _
          · by_cases h2 : (15 : Int32) < ((w >>> ((15 : Int32) &&& 31)) &&& (31 : Int32))
            · simp (decide := true) only [if_neg c1, if_pos c5, if_neg h1, if_pos h2, if_true, if_false, reduceIte]
              exact RD.fault _ _ _
            · simp (decide := true) only [if_neg c1, if_pos c5, if_neg h1, if_neg h2, if_true, if_false, reduceIte]
              exact key 1 h1 h2 _ (e_worked31 (Or.inr c5))
        · simp (decide := true) only [if_neg c1, if_pos c5, if_neg g0, if_neg g2, if_true, if_false, reduceIte]
          exact RD.fault _ _ _
    · by_cases h1 : (15 : Int32) < ((w >>> ((7 : Int32) &&& 31)) &&& (31 : Int32))
      · by_cases g2 : g = 32 <;> simp (decide := true) only [if_neg c1, if_neg c5, if_pos h1, g2, if_true, if_false, reduceIte] <;> exact RD.fault _ _ _
      · by_cases h2 : (15 : Int32) < ((w >>> ((15 : Int32) &&& 31)) &&& (31 : Int32))
        · by_cases g2 : g = 32 <;> simp (decide := true) only [if_neg c1, if_neg c5, if_neg h1, if_pos h2, g2, if_true, if_false, reduceIte] <;> exact RD.fault _ _ _
        · by_cases g2 : g = 32
          · subst g2
            simp (decide := true) only [if_neg c1, if_neg c5, if_neg h1, if_neg h2, if_true, if_false, reduceIte]
            exact key 0 h1 h2 _ rfl
          · simp (decide := true) only [if_neg g2, if_neg c1, if_neg c5, if_neg h1, if_neg h2, if_true, if_false, reduceIte]
            exact key 0 h1 h2 _ rfl
theorem rd_regs (ht : 0 ≤ t.toInt ∧ t.toInt < 4) (hd : 0 ≤ (did (Int32.toNatClampNeg t)).toInt) {R : Int32 × (Nat → Int32) × (Nat → Int32) × (Nat → Int32) × (Nat → Int32) × (Nat → Int32) × (Nat → Int32)} (hR : R = f_X11_calculate t w 1 now register address status did ready trace) : RD t now store common register address status did ready timer trace (f_X8_attempt_c196 now (status (Int32.toNatClampNeg t)) (address (Int32.toNatClampNeg t)) (V2 128 store (Int32.toNatClampNeg t)) (V2 4 timer (Int32.toNatClampNeg t)) common (f_X8_computeWithRegister w (V2 16 register (Int32.toNatClampNeg t))).1 (f_X8_computeWithRegister w (V2 16 register (Int32.toNatClampNeg t))).2)
    (R.1, store, common, R.2.1, R.2.2.1, R.2.2.2.1, R.2.2.2.2.1, R.2.2.2.2.2.1, timer, R.2.2.2.2.2.2) := by
  subst hR
  unfold f_X8_computeWithRegister f_X8_computeWithRegister_c1 f_X8_computeWithRegister_c6 f_X8_computeWithRegister_c11 f_X8_computeWithRegister_c17 f_X8_computeWithRegister_c23 f_X8_computeWithRegister_51 f_X8_computeWithRegister_52 f_X8_computeWithRegister_c61 f_X8_computeWithRegister_c69 f_X8_computeWithRegister_c77 f_X8_computeWithRegister_102 f_X8_computeWithRegister_c116 f_X8_computeWithRegister_c119 f_X8_attempt_c196 f_X11_calculate f_X11_calculate_59 f_X11_calculate_87 f_X11_calculate_88 f_X11_calculate_99 f_X11_calculate_114 f_X11_calculate_152 f_X11_calculate_185 f_X11_calculate_c209 f_X11_calculate_c212 f_X11_calculate_c231 f_X11_calculate_146 f_X11_calculate_c148 f_X11_stop f_X1_g
  rw [e_rd, e_rs, e_rt, e_f]
  have hr := q_31 (w >>> ((7 : Int32) &&& 31))
  have hs := q_31 (w >>> ((15 : Int32) &&& 31))
  have hq := q_31 (w >>> ((20 : Int32) &&& 31))
  rw [e_isReg hr.1, e_isReg hs.1, e_isReg hq.1]
  simp only [e_nle _ (15 : Int32), if_true, if_neg (show ¬ (1 : Int32) = 0 by decide)]
  have key : ∀ o : Int32, ¬ (15 : Int32) < ((w >>> ((7 : Int32) &&& 31)) &&& (31 : Int32)) → ¬ (15 : Int32) < ((w >>> ((15 : Int32) &&& 31)) &&& (31 : Int32)) → ¬ (15 : Int32) < ((w >>> ((20 : Int32) &&& 31)) &&& (31 : Int32)) →
      RD t now store common register address status did ready timer trace (1000, status (Int32.toNatClampNeg t), address (Int32.toNatClampNeg t) + 4, now + 4, f_X8_setRegister ((w >>> ((7 : Int32) &&& 31)) &&& (31 : Int32)) (f_X8_compute ((w >>> ((12 : Int32) &&& 31)) &&& (7 : Int32)) o (V2 16 register (Int32.toNatClampNeg t) (Int32.toNatClampNeg ((w >>> ((15 : Int32) &&& 31)) &&& (31 : Int32)))) (V2 16 register (Int32.toNatClampNeg t) (Int32.toNatClampNeg ((w >>> ((20 : Int32) &&& 31)) &&& (31 : Int32))))) (V2 16 register (Int32.toNatClampNeg t)), V2 128 store (Int32.toNatClampNeg t), V2 4 timer (Int32.toNatClampNeg t), common)
        ((f_X11_done t (address (Int32.toNatClampNeg t) + 4) (now + 4) now address did ready trace).1, store, common, f_X11_set t ((w >>> ((7 : Int32) &&& 31)) &&& (31 : Int32)) (f_X11_worked ((w >>> ((12 : Int32) &&& 31)) &&& (7 : Int32)) o (register (Int32.toNatClampNeg (16 * t + ((w >>> ((15 : Int32) &&& 31)) &&& (31 : Int32))))) (register (Int32.toNatClampNeg (16 * t + ((w >>> ((20 : Int32) &&& 31)) &&& (31 : Int32)))))) register, (f_X11_done t (address (Int32.toNatClampNeg t) + 4) (now + 4) now address did ready trace).2.1, status, (f_X11_done t (address (Int32.toNatClampNeg t) + 4) (now + 4) now address did ready trace).2.2.1, (f_X11_done t (address (Int32.toNatClampNeg t) + 4) (now + 4) now address did ready trace).2.2.2.1, timer, (f_X11_done t (address (Int32.toNatClampNeg t) + 4) (now + 4) now address did ready trace).2.2.2.2) := by
    intro o h1 h2 h3
    rw [e_reg ht (e_r16 hs.1 h2), e_reg ht (e_r16 hq.1 h3), e_worked, e_done ht hd]
    exact RD.set _ _ ht (e_r16 hr.1 h1)
  generalize g_ushr w 25 = g at *
  generalize ((w >>> ((12 : Int32) &&& 31)) &&& (7 : Int32)) = f at *
  by_cases g0 : g = 0
  · subst g0
    have gx : ¬ (0 : Int32) = 32 := by decide
    by_cases h1 : (15 : Int32) < ((w >>> ((7 : Int32) &&& 31)) &&& (31 : Int32))
    · by_cases c1 : f = 1 <;> by_cases c5 : f = 5 <;> simp (decide := true) only [c1, c5, if_pos h1, if_neg gx, if_true, if_false, reduceIte] <;> exact RD.fault _ _ _
    · by_cases h2 : (15 : Int32) < ((w >>> ((15 : Int32) &&& 31)) &&& (31 : Int32))
      · by_cases c1 : f = 1 <;> by_cases c5 : f = 5 <;> simp (decide := true) only [c1, c5, if_neg h1, if_pos h2, if_neg gx, if_true, if_false, reduceIte] <;> exact RD.fault _ _ _
      · by_cases h3 : (15 : Int32) < ((w >>> ((20 : Int32) &&& 31)) &&& (31 : Int32))
        · have h4 : ¬ ¬ (15 : Int32) < ((w >>> ((20 : Int32) &&& 31)) &&& (31 : Int32)) := fun h => h h3
          by_cases c1 : f = 1 <;> by_cases c5 : f = 5 <;> simp (decide := true) only [c1, c5, if_neg h1, if_neg h2, if_pos h3, if_neg h4, if_neg gx, if_true, if_false, reduceIte] <;> exact RD.fault _ _ _
        · by_cases c1 : f = 1
          · subst c1
            simp (decide := true) only [if_neg h1, if_neg h2, if_neg h3, if_pos h3, if_neg gx, if_true, if_false, reduceIte]
            exact key 0 h1 h2 h3
          · by_cases c5 : f = 5
            · subst c5
              simp (decide := true) only [if_neg h1, if_neg h2, if_neg h3, if_pos h3, if_neg gx, if_true, if_false, reduceIte]
              exact key 0 h1 h2 h3
            · simp (decide := true) only [if_neg c1, if_neg c5, if_neg h1, if_neg h2, if_neg h3, if_pos h3, if_neg gx, if_true, if_false, reduceIte]
              exact key 0 h1 h2 h3
  · by_cases g2 : g = 32
    · subst g2
      by_cases c05 : f = 0 ∨ f = 5
      · by_cases h1 : (15 : Int32) < ((w >>> ((7 : Int32) &&& 31)) &&& (31 : Int32))
        · rcases c05 with rfl | rfl <;> simp (decide := true) only [if_pos h1, if_true, if_false, reduceIte] <;> exact RD.fault _ _ _
        · by_cases h2 : (15 : Int32) < ((w >>> ((15 : Int32) &&& 31)) &&& (31 : Int32))
          · rcases c05 with rfl | rfl <;> simp (decide := true) only [if_neg h1, if_pos h2, if_true, if_false, reduceIte] <;> exact RD.fault _ _ _
          · by_cases h3 : (15 : Int32) < ((w >>> ((20 : Int32) &&& 31)) &&& (31 : Int32))
            · have h4 : ¬ ¬ (15 : Int32) < ((w >>> ((20 : Int32) &&& 31)) &&& (31 : Int32)) := fun h => h h3
              rcases c05 with rfl | rfl <;> simp (decide := true) only [if_neg h1, if_neg h2, if_pos h3, if_neg h4, if_true, if_false, reduceIte] <;> exact RD.fault _ _ _
            · rcases c05 with rfl | rfl <;> simp (decide := true) only [if_neg h1, if_neg h2, if_neg h3, if_pos h3, if_true, if_false, reduceIte] <;> exact key 1 h1 h2 h3
      · have c0 : ¬ f = 0 := fun h => c05 (Or.inl h)
        have c5 : ¬ f = 5 := fun h => c05 (Or.inr h)
        by_cases c1 : f = 1 <;> simp (decide := true) only [c1, if_neg c0, if_neg c5, if_true, if_false, reduceIte] <;> exact RD.fault _ _ _
    · by_cases c1 : f = 1 <;> by_cases c5 : f = 5 <;> simp (decide := true) only [c1, c5, if_neg g0, if_neg g2, if_true, if_false, reduceIte] <;> exact RD.fault _ _ _
end RunEq2
