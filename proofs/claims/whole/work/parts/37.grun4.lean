theorem e_own (a : Int32) : f_X8_isInStore a = f_X11_isOwn a := rfl
theorem e_own01 (a : Int32) : f_X11_isOwn a = 0 ∨ f_X11_isOwn a = 1 := by
  unfold f_X11_isOwn
  by_cases h1 : a < 0
  · rw [if_pos h1]; exact Or.inl rfl
  · rw [if_neg h1]
    by_cases h2 : (512 : Int32) ≤ a
    · rw [if_pos h2]; exact Or.inl rfl
    · rw [if_neg h2]; exact Or.inr rfl
theorem e_and0 (a : Int32) : a &&& ((1 : Int32) - 1) = 0 := by
  have h : (1 : Int32) - 1 = 0 := by decide
  rw [h, Int32.and_zero]
theorem e_reach {t a f : Int32} {low high : Nat → Int32} : f_X8_canReach a f (low (Int32.toNatClampNeg t)) (high (Int32.toNatClampNeg t)) = f_X11_isThere t a (if f = 2 then 4 else 1) low high := by
  unfold f_X8_canReach f_X8_canReach_32 f_X8_canReach_33 f_X8_canReach_c35 f_X8_canReach_45 f_X8_canReach_c51 f_X8_isAligned f_X11_isThere f_X11_isThere_c11
  rw [e_own]
  have e3 : (4 : Int32) - 1 = 3 := by decide
  by_cases hf : f = 2
  · subst hf
    simp only [if_true]
    rw [e3]
    by_cases ha : a &&& 3 = 0
    · rcases e_own01 a with ho | ho
      · by_cases h1 : a < 4096 + 4 * low (Int32.toNatClampNeg t)
        · simp (decide := true) [ha, ho, h1]
        · by_cases h2 : 4096 + 4 * high (Int32.toNatClampNeg t) ≤ a
          · simp (decide := true) [ha, ho, h1, h2]
          · simp (decide := true) [ha, ho, h1, h2]
      · by_cases h1 : a < 4096 + 4 * low (Int32.toNatClampNeg t)
        · simp (decide := true) [ha, ho, h1]
        · by_cases h2 : 4096 + 4 * high (Int32.toNatClampNeg t) ≤ a
          · simp (decide := true) [ha, ho, h1, h2]
          · simp (decide := true) [ha, ho, h1, h2]
    · rcases e_own01 a with ho | ho
      · by_cases h1 : a < 4096 + 4 * low (Int32.toNatClampNeg t)
        · simp (decide := true) [ha, ho, h1]
        · by_cases h2 : 4096 + 4 * high (Int32.toNatClampNeg t) ≤ a
          · simp (decide := true) [ha, ho, h1, h2]
          · simp (decide := true) [ha, ho, h1, h2]
      · by_cases h1 : a < 4096 + 4 * low (Int32.toNatClampNeg t)
        · simp (decide := true) [ha, ho, h1]
        · by_cases h2 : 4096 + 4 * high (Int32.toNatClampNeg t) ≤ a
          · simp (decide := true) [ha, ho, h1, h2]
          · simp (decide := true) [ha, ho, h1, h2]
  · simp only [if_neg hf]
    rw [e_and0, if_pos rfl]
    rcases e_own01 a with ho | ho
    · by_cases h1 : a < 4096 + 4 * low (Int32.toNatClampNeg t)
      · simp (decide := true) [ho, h1]
      · by_cases h2 : 4096 + 4 * high (Int32.toNatClampNeg t) ≤ a
        · simp (decide := true) [ho, h1, h2]
        · simp (decide := true) [ho, h1, h2]
    · by_cases h1 : a < 4096 + 4 * low (Int32.toNatClampNeg t)
      · simp (decide := true) [ho, h1]
      · by_cases h2 : 4096 + 4 * high (Int32.toNatClampNeg t) ≤ a
        · simp (decide := true) [ho, h1, h2]
        · simp (decide := true) [ho, h1, h2]
theorem e_there {t a s : Int32} {low high : Nat → Int32} (hlh : 0 ≤ (low (Int32.toNatClampNeg t)).toInt ∧ (low (Int32.toNatClampNeg t)).toInt ≤ (high (Int32.toNatClampNeg t)).toInt ∧ (high (Int32.toNatClampNeg t)).toInt ≤ 64) (h : ¬ f_X11_isThere t a s low high = 0) (ho : f_X11_isOwn a = 0) : 4096 ≤ a.toInt ∧ a.toInt < 4352 := by
  unfold f_X11_isThere f_X11_isThere_c11 at h
  have e4 := e_4
  have e5 : (4096 : Int32).toInt = 4096 := by decide
  have l1 : (4 * low (Int32.toNatClampNeg t)).toInt = 4 * (low (Int32.toNatClampNeg t)).toInt := by rw [q_mul (by rw [e4]; omega) (by rw [e4]; omega), e4]
  have l2 : (4 * high (Int32.toNatClampNeg t)).toInt = 4 * (high (Int32.toNatClampNeg t)).toInt := by rw [q_mul (by rw [e4]; omega) (by rw [e4]; omega), e4]
  have l3 : (4096 + 4 * low (Int32.toNatClampNeg t)).toInt = 4096 + 4 * (low (Int32.toNatClampNeg t)).toInt := by rw [q_add (by omega) (by omega), l1, e5]
  have l4 : (4096 + 4 * high (Int32.toNatClampNeg t)).toInt = 4096 + 4 * (high (Int32.toNatClampNeg t)).toInt := by rw [q_add (by omega) (by omega), l2, e5]
  by_cases ha : a &&& (s - 1) = 0
  · rw [if_pos ha, if_pos ho] at h
    by_cases h1 : a < 4096 + 4 * low (Int32.toNatClampNeg t)
    · rw [if_pos h1] at h
      exact absurd rfl h
    · rw [if_neg h1] at h
      by_cases h2 : 4096 + 4 * high (Int32.toNatClampNeg t) ≤ a
      · rw [if_pos h2] at h
        exact absurd rfl h
      · have g1 := q_nlt h1
        have g2 := q_nle h2
        omega
  · rw [if_neg ha] at h
    exact absurd rfl h
theorem e_shr4 {x : Int32} (h : 0 ≤ x.toInt) : x >>> ((2 : Int32) &&& 31) = x / 4 := Int32.toInt_inj.mp (by rw [q_shr, q_div h (by decide), e_4])
theorem e_plM {a : Int32} (ho : f_X11_isOwn a = 0) (h : 4096 ≤ a.toInt ∧ a.toInt < 4352) : f_X8_placeOf a = (a - 4096) / 4 := by
  unfold f_X8_placeOf f_X8_placeOf_c1
  have e5 : (4096 : Int32).toInt = 4096 := by decide
  rw [e_own, if_pos ho, e_shr4]
  rw [q_sub (by omega) (by omega)]
  omega
theorem e_ownR {a : Int32} (ho : ¬ f_X11_isOwn a = 0) : 0 ≤ a.toInt ∧ a.toInt < 512 := (a_isInStore (a := a) rfl).1 ho
theorem e_plO {a : Int32} (ho : ¬ f_X11_isOwn a = 0) : f_X8_placeOf a = a / 4 := by
  unfold f_X8_placeOf f_X8_placeOf_c1
  rw [e_own, if_neg ho, e_shr4 (e_ownR ho).1]
theorem e_d4 {a : Int32} (ho : ¬ f_X11_isOwn a = 0) : 0 ≤ (a / 4).toInt ∧ (a / 4).toInt < 128 := by
  have h := e_ownR ho
  rw [q_div h.1 (by decide), e_4]
  omega
theorem e_stO {t a : Int32} {store : Nat → Int32} (ht : 0 ≤ t.toInt ∧ t.toInt < 4) (ho : ¬ f_X11_isOwn a = 0) : V2 128 store (Int32.toNatClampNeg t) (Int32.toNatClampNeg (f_X8_placeOf a)) = store (Int32.toNatClampNeg (128 * t + a / 4)) := by
  have hd := e_d4 ho
  rw [e_plO ho, V2_at 128 store (e_clt ht.1 ht.2) (e_clt hd.1 hd.2), e_ix (w := 128) e_128 (by omega) ht ⟨hd.1, by omega⟩]
theorem e_stW {t a v : Int32} {store : Nat → Int32} (ht : 0 ≤ t.toInt ∧ t.toInt < 4) (ho : ¬ f_X11_isOwn a = 0) : g_up (V2 128 store) (Int32.toNatClampNeg t) (upd (V2 128 store (Int32.toNatClampNeg t)) (Int32.toNatClampNeg (f_X8_placeOf a)) v) = V2 128 (upd store (Int32.toNatClampNeg (128 * t + a / 4)) v) := by
  have hd := e_d4 ho
  rw [e_plO ho, V2_upd store v (e_clt ht.1 ht.2) (e_clt hd.1 hd.2), e_ix (w := 128) e_128 (by omega) ht ⟨hd.1, by omega⟩]
theorem e_three {x : Int32} (h : 0 ≤ x.toInt ∧ x.toInt < 4) : x = 0 ∨ x = 1 ∨ x = 2 ∨ x = 3 := by
  have h1 : x.toInt = 0 ∨ x.toInt = 1 ∨ x.toInt = 2 ∨ x.toInt = 3 := by omega
  simp only [← Int32.toInt_inj]
  exact h1
theorem e_bit (a : Int32) : f_X8_bitOf a = 8 * (a &&& 3) := by
  unfold f_X8_bitOf
  rcases e_three (q_3 a) with h | h | h | h <;> rw [h] <;> decide
theorem bv_u0 (x : BitVec 32) : (x >>> 0) &&& 255#32 = (x.sshiftRight 0) &&& 255#32 := by
  apply BitVec.eq_of_getLsbD_eq
  intro i hi
  simp only [BitVec.getLsbD_or, BitVec.getLsbD_and, BitVec.getLsbD_xor, BitVec.getLsbD_shiftLeft, BitVec.getLsbD_ushiftRight, BitVec.getLsbD_sshiftRight]
  rcases (by omega : i = 0 ∨ i = 1 ∨ i = 2 ∨ i = 3 ∨ i = 4 ∨ i = 5 ∨ i = 6 ∨ i = 7 ∨ i = 8 ∨ i = 9 ∨ i = 10 ∨ i = 11 ∨ i = 12 ∨ i = 13 ∨ i = 14 ∨ i = 15 ∨ i = 16 ∨ i = 17 ∨ i = 18 ∨ i = 19 ∨ i = 20 ∨ i = 21 ∨ i = 22 ∨ i = 23 ∨ i = 24 ∨ i = 25 ∨ i = 26 ∨ i = 27 ∨ i = 28 ∨ i = 29 ∨ i = 30 ∨ i = 31) with rfl | rfl | rfl | rfl | rfl | rfl | rfl | rfl | rfl | rfl | rfl | rfl | rfl | rfl | rfl | rfl | rfl | rfl | rfl | rfl | rfl | rfl | rfl | rfl | rfl | rfl | rfl | rfl | rfl | rfl | rfl | rfl
  all_goals simp (decide := true) [BitVec.getLsbD_ofNat, BitVec.msb_eq_getLsbD_last]
theorem bv_s0 (x : BitVec 32) : (((x >>> 0) &&& 255#32).signExtend 8).signExtend 32 = (x <<< 24).sshiftRight 24 := by
  apply BitVec.eq_of_getLsbD_eq
  intro i hi
  simp only [BitVec.getLsbD_or, BitVec.getLsbD_and, BitVec.getLsbD_xor, BitVec.getLsbD_shiftLeft, BitVec.getLsbD_ushiftRight, BitVec.getLsbD_sshiftRight, BitVec.getLsbD_signExtend, BitVec.getLsbD_setWidth]
  rcases (by omega : i = 0 ∨ i = 1 ∨ i = 2 ∨ i = 3 ∨ i = 4 ∨ i = 5 ∨ i = 6 ∨ i = 7 ∨ i = 8 ∨ i = 9 ∨ i = 10 ∨ i = 11 ∨ i = 12 ∨ i = 13 ∨ i = 14 ∨ i = 15 ∨ i = 16 ∨ i = 17 ∨ i = 18 ∨ i = 19 ∨ i = 20 ∨ i = 21 ∨ i = 22 ∨ i = 23 ∨ i = 24 ∨ i = 25 ∨ i = 26 ∨ i = 27 ∨ i = 28 ∨ i = 29 ∨ i = 30 ∨ i = 31) with rfl | rfl | rfl | rfl | rfl | rfl | rfl | rfl | rfl | rfl | rfl | rfl | rfl | rfl | rfl | rfl | rfl | rfl | rfl | rfl | rfl | rfl | rfl | rfl | rfl | rfl | rfl | rfl | rfl | rfl | rfl | rfl
  all_goals simp (decide := true) [BitVec.getLsbD_ofNat, BitVec.msb_eq_getLsbD_last, BitVec.getElem_signExtend]
theorem bv_m0 (x : BitVec 32) : (x <<< 0) &&& (255#32 <<< 0) = (x &&& 255#32) <<< 0 := by
  apply BitVec.eq_of_getLsbD_eq
  intro i hi
  simp only [BitVec.getLsbD_or, BitVec.getLsbD_and, BitVec.getLsbD_xor, BitVec.getLsbD_shiftLeft, BitVec.getLsbD_ushiftRight, BitVec.getLsbD_sshiftRight]
  rcases (by omega : i = 0 ∨ i = 1 ∨ i = 2 ∨ i = 3 ∨ i = 4 ∨ i = 5 ∨ i = 6 ∨ i = 7 ∨ i = 8 ∨ i = 9 ∨ i = 10 ∨ i = 11 ∨ i = 12 ∨ i = 13 ∨ i = 14 ∨ i = 15 ∨ i = 16 ∨ i = 17 ∨ i = 18 ∨ i = 19 ∨ i = 20 ∨ i = 21 ∨ i = 22 ∨ i = 23 ∨ i = 24 ∨ i = 25 ∨ i = 26 ∨ i = 27 ∨ i = 28 ∨ i = 29 ∨ i = 30 ∨ i = 31) with rfl | rfl | rfl | rfl | rfl | rfl | rfl | rfl | rfl | rfl | rfl | rfl | rfl | rfl | rfl | rfl | rfl | rfl | rfl | rfl | rfl | rfl | rfl | rfl | rfl | rfl | rfl | rfl | rfl | rfl | rfl | rfl
  all_goals simp (decide := true) [BitVec.getLsbD_ofNat, BitVec.msb_eq_getLsbD_last]
theorem bv_u8 (x : BitVec 32) : (x >>> 8) &&& 255#32 = (x.sshiftRight 8) &&& 255#32 := by
  apply BitVec.eq_of_getLsbD_eq
  intro i hi
  simp only [BitVec.getLsbD_or, BitVec.getLsbD_and, BitVec.getLsbD_xor, BitVec.getLsbD_shiftLeft, BitVec.getLsbD_ushiftRight, BitVec.getLsbD_sshiftRight]
  rcases (by omega : i = 0 ∨ i = 1 ∨ i = 2 ∨ i = 3 ∨ i = 4 ∨ i = 5 ∨ i = 6 ∨ i = 7 ∨ i = 8 ∨ i = 9 ∨ i = 10 ∨ i = 11 ∨ i = 12 ∨ i = 13 ∨ i = 14 ∨ i = 15 ∨ i = 16 ∨ i = 17 ∨ i = 18 ∨ i = 19 ∨ i = 20 ∨ i = 21 ∨ i = 22 ∨ i = 23 ∨ i = 24 ∨ i = 25 ∨ i = 26 ∨ i = 27 ∨ i = 28 ∨ i = 29 ∨ i = 30 ∨ i = 31) with rfl | rfl | rfl | rfl | rfl | rfl | rfl | rfl | rfl | rfl | rfl | rfl | rfl | rfl | rfl | rfl | rfl | rfl | rfl | rfl | rfl | rfl | rfl | rfl | rfl | rfl | rfl | rfl | rfl | rfl | rfl | rfl
  all_goals simp (decide := true) [BitVec.getLsbD_ofNat, BitVec.msb_eq_getLsbD_last]
theorem bv_s8 (x : BitVec 32) : (((x >>> 8) &&& 255#32).signExtend 8).signExtend 32 = (x <<< 16).sshiftRight 24 := by
  apply BitVec.eq_of_getLsbD_eq
  intro i hi
  simp only [BitVec.getLsbD_or, BitVec.getLsbD_and, BitVec.getLsbD_xor, BitVec.getLsbD_shiftLeft, BitVec.getLsbD_ushiftRight, BitVec.getLsbD_sshiftRight, BitVec.getLsbD_signExtend, BitVec.getLsbD_setWidth]
  rcases (by omega : i = 0 ∨ i = 1 ∨ i = 2 ∨ i = 3 ∨ i = 4 ∨ i = 5 ∨ i = 6 ∨ i = 7 ∨ i = 8 ∨ i = 9 ∨ i = 10 ∨ i = 11 ∨ i = 12 ∨ i = 13 ∨ i = 14 ∨ i = 15 ∨ i = 16 ∨ i = 17 ∨ i = 18 ∨ i = 19 ∨ i = 20 ∨ i = 21 ∨ i = 22 ∨ i = 23 ∨ i = 24 ∨ i = 25 ∨ i = 26 ∨ i = 27 ∨ i = 28 ∨ i = 29 ∨ i = 30 ∨ i = 31) with rfl | rfl | rfl | rfl | rfl | rfl | rfl | rfl | rfl | rfl | rfl | rfl | rfl | rfl | rfl | rfl | rfl | rfl | rfl | rfl | rfl | rfl | rfl | rfl | rfl | rfl | rfl | rfl | rfl | rfl | rfl | rfl
  all_goals simp (decide := true) [BitVec.getLsbD_ofNat, BitVec.msb_eq_getLsbD_last, BitVec.getElem_signExtend]
theorem bv_m8 (x : BitVec 32) : (x <<< 8) &&& (255#32 <<< 8) = (x &&& 255#32) <<< 8 := by
  apply BitVec.eq_of_getLsbD_eq
  intro i hi
  simp only [BitVec.getLsbD_or, BitVec.getLsbD_and, BitVec.getLsbD_xor, BitVec.getLsbD_shiftLeft, BitVec.getLsbD_ushiftRight, BitVec.getLsbD_sshiftRight]
  rcases (by omega : i = 0 ∨ i = 1 ∨ i = 2 ∨ i = 3 ∨ i = 4 ∨ i = 5 ∨ i = 6 ∨ i = 7 ∨ i = 8 ∨ i = 9 ∨ i = 10 ∨ i = 11 ∨ i = 12 ∨ i = 13 ∨ i = 14 ∨ i = 15 ∨ i = 16 ∨ i = 17 ∨ i = 18 ∨ i = 19 ∨ i = 20 ∨ i = 21 ∨ i = 22 ∨ i = 23 ∨ i = 24 ∨ i = 25 ∨ i = 26 ∨ i = 27 ∨ i = 28 ∨ i = 29 ∨ i = 30 ∨ i = 31) with rfl | rfl | rfl | rfl | rfl | rfl | rfl | rfl | rfl | rfl | rfl | rfl | rfl | rfl | rfl | rfl | rfl | rfl | rfl | rfl | rfl | rfl | rfl | rfl | rfl | rfl | rfl | rfl | rfl | rfl | rfl | rfl
  all_goals simp (decide := true) [BitVec.getLsbD_ofNat, BitVec.msb_eq_getLsbD_last]
theorem bv_u16 (x : BitVec 32) : (x >>> 16) &&& 255#32 = (x.sshiftRight 16) &&& 255#32 := by
  apply BitVec.eq_of_getLsbD_eq
  intro i hi
  simp only [BitVec.getLsbD_or, BitVec.getLsbD_and, BitVec.getLsbD_xor, BitVec.getLsbD_shiftLeft, BitVec.getLsbD_ushiftRight, BitVec.getLsbD_sshiftRight]
  rcases (by omega : i = 0 ∨ i = 1 ∨ i = 2 ∨ i = 3 ∨ i = 4 ∨ i = 5 ∨ i = 6 ∨ i = 7 ∨ i = 8 ∨ i = 9 ∨ i = 10 ∨ i = 11 ∨ i = 12 ∨ i = 13 ∨ i = 14 ∨ i = 15 ∨ i = 16 ∨ i = 17 ∨ i = 18 ∨ i = 19 ∨ i = 20 ∨ i = 21 ∨ i = 22 ∨ i = 23 ∨ i = 24 ∨ i = 25 ∨ i = 26 ∨ i = 27 ∨ i = 28 ∨ i = 29 ∨ i = 30 ∨ i = 31) with rfl | rfl | rfl | rfl | rfl | rfl | rfl | rfl | rfl | rfl | rfl | rfl | rfl | rfl | rfl | rfl | rfl | rfl | rfl | rfl | rfl | rfl | rfl | rfl | rfl | rfl | rfl | rfl | rfl | rfl | rfl | rfl
  all_goals simp (decide := true) [BitVec.getLsbD_ofNat, BitVec.msb_eq_getLsbD_last]
theorem bv_s16 (x : BitVec 32) : (((x >>> 16) &&& 255#32).signExtend 8).signExtend 32 = (x <<< 8).sshiftRight 24 := by
  apply BitVec.eq_of_getLsbD_eq
  intro i hi
  simp only [BitVec.getLsbD_or, BitVec.getLsbD_and, BitVec.getLsbD_xor, BitVec.getLsbD_shiftLeft, BitVec.getLsbD_ushiftRight, BitVec.getLsbD_sshiftRight, BitVec.getLsbD_signExtend, BitVec.getLsbD_setWidth]
  rcases (by omega : i = 0 ∨ i = 1 ∨ i = 2 ∨ i = 3 ∨ i = 4 ∨ i = 5 ∨ i = 6 ∨ i = 7 ∨ i = 8 ∨ i = 9 ∨ i = 10 ∨ i = 11 ∨ i = 12 ∨ i = 13 ∨ i = 14 ∨ i = 15 ∨ i = 16 ∨ i = 17 ∨ i = 18 ∨ i = 19 ∨ i = 20 ∨ i = 21 ∨ i = 22 ∨ i = 23 ∨ i = 24 ∨ i = 25 ∨ i = 26 ∨ i = 27 ∨ i = 28 ∨ i = 29 ∨ i = 30 ∨ i = 31) with rfl | rfl | rfl | rfl | rfl | rfl | rfl | rfl | rfl | rfl | rfl | rfl | rfl | rfl | rfl | rfl | rfl | rfl | rfl | rfl | rfl | rfl | rfl | rfl | rfl | rfl | rfl | rfl | rfl | rfl | rfl | rfl
  all_goals simp (decide := true) [BitVec.getLsbD_ofNat, BitVec.msb_eq_getLsbD_last, BitVec.getElem_signExtend]
theorem bv_m16 (x : BitVec 32) : (x <<< 16) &&& (255#32 <<< 16) = (x &&& 255#32) <<< 16 := by
  apply BitVec.eq_of_getLsbD_eq
  intro i hi
  simp only [BitVec.getLsbD_or, BitVec.getLsbD_and, BitVec.getLsbD_xor, BitVec.getLsbD_shiftLeft, BitVec.getLsbD_ushiftRight, BitVec.getLsbD_sshiftRight]
  rcases (by omega : i = 0 ∨ i = 1 ∨ i = 2 ∨ i = 3 ∨ i = 4 ∨ i = 5 ∨ i = 6 ∨ i = 7 ∨ i = 8 ∨ i = 9 ∨ i = 10 ∨ i = 11 ∨ i = 12 ∨ i = 13 ∨ i = 14 ∨ i = 15 ∨ i = 16 ∨ i = 17 ∨ i = 18 ∨ i = 19 ∨ i = 20 ∨ i = 21 ∨ i = 22 ∨ i = 23 ∨ i = 24 ∨ i = 25 ∨ i = 26 ∨ i = 27 ∨ i = 28 ∨ i = 29 ∨ i = 30 ∨ i = 31) with rfl | rfl | rfl | rfl | rfl | rfl | rfl | rfl | rfl | rfl | rfl | rfl | rfl | rfl | rfl | rfl | rfl | rfl | rfl | rfl | rfl | rfl | rfl | rfl | rfl | rfl | rfl | rfl | rfl | rfl | rfl | rfl
  all_goals simp (decide := true) [BitVec.getLsbD_ofNat, BitVec.msb_eq_getLsbD_last]
theorem bv_u24 (x : BitVec 32) : (x >>> 24) &&& 255#32 = (x.sshiftRight 24) &&& 255#32 := by
  apply BitVec.eq_of_getLsbD_eq
  intro i hi
  simp only [BitVec.getLsbD_or, BitVec.getLsbD_and, BitVec.getLsbD_xor, BitVec.getLsbD_shiftLeft, BitVec.getLsbD_ushiftRight, BitVec.getLsbD_sshiftRight]
  rcases (by omega : i = 0 ∨ i = 1 ∨ i = 2 ∨ i = 3 ∨ i = 4 ∨ i = 5 ∨ i = 6 ∨ i = 7 ∨ i = 8 ∨ i = 9 ∨ i = 10 ∨ i = 11 ∨ i = 12 ∨ i = 13 ∨ i = 14 ∨ i = 15 ∨ i = 16 ∨ i = 17 ∨ i = 18 ∨ i = 19 ∨ i = 20 ∨ i = 21 ∨ i = 22 ∨ i = 23 ∨ i = 24 ∨ i = 25 ∨ i = 26 ∨ i = 27 ∨ i = 28 ∨ i = 29 ∨ i = 30 ∨ i = 31) with rfl | rfl | rfl | rfl | rfl | rfl | rfl | rfl | rfl | rfl | rfl | rfl | rfl | rfl | rfl | rfl | rfl | rfl | rfl | rfl | rfl | rfl | rfl | rfl | rfl | rfl | rfl | rfl | rfl | rfl | rfl | rfl
  all_goals simp (decide := true) [BitVec.getLsbD_ofNat, BitVec.msb_eq_getLsbD_last]
theorem bv_s24 (x : BitVec 32) : (((x >>> 24) &&& 255#32).signExtend 8).signExtend 32 = (x <<< 0).sshiftRight 24 := by
  apply BitVec.eq_of_getLsbD_eq
  intro i hi
  simp only [BitVec.getLsbD_or, BitVec.getLsbD_and, BitVec.getLsbD_xor, BitVec.getLsbD_shiftLeft, BitVec.getLsbD_ushiftRight, BitVec.getLsbD_sshiftRight, BitVec.getLsbD_signExtend, BitVec.getLsbD_setWidth]
  rcases (by omega : i = 0 ∨ i = 1 ∨ i = 2 ∨ i = 3 ∨ i = 4 ∨ i = 5 ∨ i = 6 ∨ i = 7 ∨ i = 8 ∨ i = 9 ∨ i = 10 ∨ i = 11 ∨ i = 12 ∨ i = 13 ∨ i = 14 ∨ i = 15 ∨ i = 16 ∨ i = 17 ∨ i = 18 ∨ i = 19 ∨ i = 20 ∨ i = 21 ∨ i = 22 ∨ i = 23 ∨ i = 24 ∨ i = 25 ∨ i = 26 ∨ i = 27 ∨ i = 28 ∨ i = 29 ∨ i = 30 ∨ i = 31) with rfl | rfl | rfl | rfl | rfl | rfl | rfl | rfl | rfl | rfl | rfl | rfl | rfl | rfl | rfl | rfl | rfl | rfl | rfl | rfl | rfl | rfl | rfl | rfl | rfl | rfl | rfl | rfl | rfl | rfl | rfl | rfl
  all_goals simp (decide := true) [BitVec.getLsbD_ofNat, BitVec.msb_eq_getLsbD_last, BitVec.getElem_signExtend]
theorem bv_m24 (x : BitVec 32) : (x <<< 24) &&& (255#32 <<< 24) = (x &&& 255#32) <<< 24 := by
  apply BitVec.eq_of_getLsbD_eq
  intro i hi
  simp only [BitVec.getLsbD_or, BitVec.getLsbD_and, BitVec.getLsbD_xor, BitVec.getLsbD_shiftLeft, BitVec.getLsbD_ushiftRight, BitVec.getLsbD_sshiftRight]
  rcases (by omega : i = 0 ∨ i = 1 ∨ i = 2 ∨ i = 3 ∨ i = 4 ∨ i = 5 ∨ i = 6 ∨ i = 7 ∨ i = 8 ∨ i = 9 ∨ i = 10 ∨ i = 11 ∨ i = 12 ∨ i = 13 ∨ i = 14 ∨ i = 15 ∨ i = 16 ∨ i = 17 ∨ i = 18 ∨ i = 19 ∨ i = 20 ∨ i = 21 ∨ i = 22 ∨ i = 23 ∨ i = 24 ∨ i = 25 ∨ i = 26 ∨ i = 27 ∨ i = 28 ∨ i = 29 ∨ i = 30 ∨ i = 31) with rfl | rfl | rfl | rfl | rfl | rfl | rfl | rfl | rfl | rfl | rfl | rfl | rfl | rfl | rfl | rfl | rfl | rfl | rfl | rfl | rfl | rfl | rfl | rfl | rfl | rfl | rfl | rfl | rfl | rfl | rfl | rfl
  all_goals simp (decide := true) [BitVec.getLsbD_ofNat, BitVec.msb_eq_getLsbD_last]
theorem e_lbu (v a : Int32) : g_ushr v (8 * (a &&& 3)) &&& 255 = (v >>> ((8 * (a &&& 3)) &&& 31)) &&& 255 := by
  rcases e_three (q_3 a) with h | h | h | h <;> rw [h]
  · exact Int32.toBitVec_inj.mp (bv_u0 v.toBitVec)
  · exact Int32.toBitVec_inj.mp (bv_u8 v.toBitVec)
  · exact Int32.toBitVec_inj.mp (bv_u16 v.toBitVec)
  · exact Int32.toBitVec_inj.mp (bv_u24 v.toBitVec)
theorem e_lb (v a : Int32) : g_i2b (g_ushr v (8 * (a &&& 3)) &&& 255) = (v <<< ((24 - 8 * (a &&& 3)) &&& 31)) >>> ((24 : Int32) &&& 31) := by
  rcases e_three (q_3 a) with h | h | h | h <;> rw [h]
  · exact Int32.toBitVec_inj.mp (bv_s0 v.toBitVec)
  · exact Int32.toBitVec_inj.mp (bv_s8 v.toBitVec)
  · exact Int32.toBitVec_inj.mp (bv_s16 v.toBitVec)
  · exact Int32.toBitVec_inj.mp (bv_s24 v.toBitVec)
theorem e_sb (m a : Int32) : (m <<< ((8 * (a &&& 3)) &&& 31)) &&& ((255 : Int32) <<< ((8 * (a &&& 3)) &&& 31)) = (m &&& 255) <<< ((8 * (a &&& 3)) &&& 31) := by
  rcases e_three (q_3 a) with h | h | h | h <;> rw [h]
  · exact Int32.toBitVec_inj.mp (bv_m0 m.toBitVec)
  · exact Int32.toBitVec_inj.mp (bv_m8 m.toBitVec)
  · exact Int32.toBitVec_inj.mp (bv_m16 m.toBitVec)
  · exact Int32.toBitVec_inj.mp (bv_m24 m.toBitVec)
theorem e_sw (v m : Int32) : (v &&& ((-1 : Int32) ^^^ (-1 : Int32))) ||| (m &&& (-1 : Int32)) = m := by
  have h1 : (-1 : Int32) ^^^ (-1 : Int32) = 0 := by decide
  rw [h1, Int32.and_zero, Int32.zero_or, Int32.and_neg_one]
section RunEq4
variable {t wheel now w : Int32} {store common low high register address status did ready timer trace : Nat → Int32}
theorem e_ret {a : Int32} (hw : 1 ≤ wheel.toInt ∧ wheel.toInt ≤ 8) (ht : 0 ≤ t.toInt ∧ t.toInt < 4) (hnow : 0 ≤ now.toInt ∧ now.toInt ≤ 2000000) : f_X8_setRetirement a now t (now + 4) wheel = if f_X11_isOwn a = 0 then f_X11_first t wheel now + wheel else now + 4 := by
  unfold f_X8_setRetirement f_X8_setRetirement_c1 f_X8_setRetirement_c14
  rw [e_own, e_first hw ht hnow]
theorem e_309 {a : Int32} {st2 cm2 reg2 : Nat → Int32} (ht : 0 ≤ t.toInt ∧ t.toInt < 4) (hd : 0 ≤ (did (Int32.toNatClampNeg t)).toInt) : f_X11_moveWord_309 wheel now st2 cm2 reg2 address status did ready trace t a = (1, st2, cm2, reg2, upd address (Int32.toNatClampNeg t) (address (Int32.toNatClampNeg t) + 4), status, upd did (Int32.toNatClampNeg t) (did (Int32.toNatClampNeg t) + 1), upd ready (Int32.toNatClampNeg t) (if f_X11_isOwn a = 0 then f_X11_first t wheel now + wheel else now + 4), eTR trace (Int32.toNatClampNeg t) (Int32.toNatClampNeg (did (Int32.toNatClampNeg t) - did (Int32.toNatClampNeg t) / 16 * 16)) (address (Int32.toNatClampNeg t)) now (if f_X11_isOwn a = 0 then f_X11_first t wheel now + wheel else now + 4)) := by
  unfold f_X11_moveWord_309 f_X11_moveWord_c321 f_X11_moveWord_c338 f_X11_moveWord_346 f_X11_moveWord_c346
  by_cases h : f_X11_isOwn a = 0
  · rw [if_pos h, if_pos h, e_done ht hd]
  · rw [if_neg h, if_neg h, e_done ht hd]
theorem e_stop9 : f_X11_moveWord_107 store common register address status did ready trace t = (0, store, common, register, address, upd status (Int32.toNatClampNeg t) 3, did, ready, trace) := rfl
theorem rd_load (ht : 0 ≤ t.toInt ∧ t.toInt < 4) (hd : 0 ≤ (did (Int32.toNatClampNeg t)).toInt) (hlh : 0 ≤ (low (Int32.toNatClampNeg t)).toInt ∧ (low (Int32.toNatClampNeg t)).toInt ≤ (high (Int32.toNatClampNeg t)).toInt ∧ (high (Int32.toNatClampNeg t)).toInt ≤ 64) (hw : 1 ≤ wheel.toInt ∧ wheel.toInt ≤ 8) (hnow : 0 ≤ now.toInt ∧ now.toInt ≤ 2000000) {R : Int32 × (Nat → Int32) × (Nat → Int32) × (Nat → Int32) × (Nat → Int32) × (Nat → Int32) × (Nat → Int32) × (Nat → Int32) × (Nat → Int32)} (hR : R = f_X11_moveWord t w 0 wheel now store common low high register address status did ready trace) {L : Nat × Int32 × (Nat → Int32)} (hLd : L = f_X8_load w now (low (Int32.toNatClampNeg t)) (high (Int32.toNatClampNeg t)) t (now + 4) (V2 16 register (Int32.toNatClampNeg t)) (V2 128 store (Int32.toNatClampNeg t)) wheel common) :
    RD t now store common register address status did ready timer trace (f_X8_attempt_c176 (status (Int32.toNatClampNeg t)) (address (Int32.toNatClampNeg t)) (V2 128 store (Int32.toNatClampNeg t)) (V2 4 timer (Int32.toNatClampNeg t)) common L.1 L.2.1 L.2.2) (R.1, R.2.1, R.2.2.1, R.2.2.2.1, R.2.2.2.2.1, R.2.2.2.2.2.1, R.2.2.2.2.2.2.1, R.2.2.2.2.2.2.2.1, timer, R.2.2.2.2.2.2.2.2) := by
  unfold f_X8_load f_X8_load_c1 f_X8_load_c7 f_X8_load_c13 f_X8_load_40 f_X8_load_c49 f_X8_load_c57 f_X8_load_c75 f_X8_load_c86 f_X1_numberI at hLd
  unfold f_X11_moveWord f_X11_moveWord_39 f_X11_moveWord_86 f_X11_moveWord_138 f_X11_moveWord_172 f_X11_moveWord_c172 at hR
  rw [e_rd, e_rs, e_f] at hLd
  have hr := q_31 (w >>> ((7 : Int32) &&& 31))
  have hs := q_31 (w >>> ((15 : Int32) &&& 31))
  rw [e_isReg hr.1, e_isReg hs.1] at hLd
  simp only [if_true, if_neg (show ¬ (1 : Int32) = 0 by decide), e_nle _ (15 : Int32), e_stop9] at hLd hR
  generalize hF : ((w >>> ((12 : Int32) &&& 31)) &&& (7 : Int32)) = f at *
  generalize ((w >>> ((7 : Int32) &&& 31)) &&& (31 : Int32)) = rd at *
  generalize ((w >>> ((15 : Int32) &&& 31)) &&& (31 : Int32)) = rs at *
  by_cases hk : f = 2 ∨ f = 0 ∨ f = 4
  · have hL2 : L = if (if (15 : Int32) < rd then (0 : Int32) else 1) = 0 then (1002, now + 4, V2 16 register (Int32.toNatClampNeg t)) else if (if (15 : Int32) < rs then (0 : Int32) else 1) = 0 then (1002, now + 4, V2 16 register (Int32.toNatClampNeg t)) else if f_X8_canReach (V2 16 register (Int32.toNatClampNeg t) (Int32.toNatClampNeg rs) + w >>> ((20 : Int32) &&& 31)) f (low (Int32.toNatClampNeg t)) (high (Int32.toNatClampNeg t)) = 0 then (1002, now + 4, V2 16 register (Int32.toNatClampNeg t)) else if f_X8_isInStore (V2 16 register (Int32.toNatClampNeg t) (Int32.toNatClampNeg rs) + w >>> ((20 : Int32) &&& 31)) = 0 then f_X8_load_c105 t (now + 4) (V2 16 register (Int32.toNatClampNeg t)) wheel common now f rd rs (w >>> ((20 : Int32) &&& 31)) (f_X8_placeOf (V2 16 register (Int32.toNatClampNeg t) (Int32.toNatClampNeg rs) + w >>> ((20 : Int32) &&& 31))) else f_X8_load_c105_12 t (now + 4) (V2 16 register (Int32.toNatClampNeg t)) (V2 128 store (Int32.toNatClampNeg t)) wheel now f rd rs (w >>> ((20 : Int32) &&& 31)) (f_X8_placeOf (V2 16 register (Int32.toNatClampNeg t) (Int32.toNatClampNeg rs) + w >>> ((20 : Int32) &&& 31))) := by
      rw [hLd]
      rcases hk with h | h | h <;> simp (decide := true) only [h, if_true, if_false, reduceIte]
    have hR2 : R = if (15 : Int32) < rs then (0, store, common, register, address, upd status (Int32.toNatClampNeg t) 3, did, ready, trace) else if ¬ (15 : Int32) < rd then (if f_X11_isThere t (register (Int32.toNatClampNeg (16 * t + rs)) + w >>> ((20 : Int32) &&& 31)) (if f = 2 then 4 else 1) low high = 0 then (0, store, common, register, address, upd status (Int32.toNatClampNeg t) 3, did, ready, trace) else f_X11_moveWord_c197 wheel now store common register address status did ready trace t 0 f rd (register (Int32.toNatClampNeg (16 * t + rs)) + w >>> ((20 : Int32) &&& 31)) (f_X11_wordAt t (register (Int32.toNatClampNeg (16 * t + rs)) + w >>> ((20 : Int32) &&& 31)) store common)) else (0, store, common, register, address, upd status (Int32.toNatClampNeg t) 3, did, ready, trace) := by
      rw [hR]
      rcases hk with h | h | h <;> simp (decide := true) only [h, if_true, if_false, reduceIte] <;> rfl
    clear hLd hR
    by_cases h1 : (15 : Int32) < rd
    · rw [if_pos h1, if_pos rfl] at hL2
      rw [if_neg (fun h : ¬ (15 : Int32) < rd => h h1)] at hR2
      by_cases h2 : (15 : Int32) < rs
      · rw [if_pos h2] at hR2
        subst hL2 hR2
        exact RD.fault _ _ _
      · rw [if_neg h2] at hR2
        subst hL2 hR2
        exact RD.fault _ _ _
    · rw [if_neg h1, if_neg (by decide)] at hL2
      by_cases h2 : (15 : Int32) < rs
      · rw [if_pos h2, if_pos rfl] at hL2
        rw [if_pos h2] at hR2
        subst hL2 hR2
        exact RD.fault _ _ _
      · rw [if_neg h2, if_neg (by decide), e_reg ht (e_r16 hs.1 h2), e_reach, e_own] at hL2
        rw [if_neg h2, if_pos h1] at hR2
        generalize hA : register (Int32.toNatClampNeg (16 * t + rs)) + w >>> ((20 : Int32) &&& 31) = a at *
        by_cases h3 : f_X11_isThere t a (if f = 2 then 4 else 1) low high = 0
        · rw [if_pos h3] at hL2 hR2
          subst hL2 hR2
          exact RD.fault _ _ _
        · rw [if_neg h3] at hL2 hR2
          have fin : ∀ v : Int32, L = (1000, f_X8_setRetirement a now t (now + 4) wheel, f_X8_setRegister rd v (V2 16 register (Int32.toNatClampNeg t))) → R = f_X11_moveWord_309 wheel now store common (f_X11_set t rd v register) address status did ready trace t a → RD t now store common register address status did ready timer trace (f_X8_attempt_c176 (status (Int32.toNatClampNeg t)) (address (Int32.toNatClampNeg t)) (V2 128 store (Int32.toNatClampNeg t)) (V2 4 timer (Int32.toNatClampNeg t)) common L.1 L.2.1 L.2.2) (R.1, R.2.1, R.2.2.1, R.2.2.2.1, R.2.2.2.2.1, R.2.2.2.2.2.1, R.2.2.2.2.2.2.1, R.2.2.2.2.2.2.2.1, timer, R.2.2.2.2.2.2.2.2) := by
            intro v e1 e2
            rw [e1, e2, e_309 ht hd, e_ret hw ht hnow]
            exact RD.set _ _ ht (e_r16 hr.1 h1)
          by_cases ho : f_X11_isOwn a = 0
          · have hm := e_there hlh h3 ho
            rw [if_pos ho] at hL2
            unfold f_X8_load_c105 f_X8_load_c115 f_X8_load_148 f_X8_load_c153 f_X8_load_c161 at hL2
            unfold f_X11_wordAt f_X11_wordAt_c1 f_X11_moveWord_c197 f_X11_moveWord_306 f_X11_moveWord_c306 at hR2
            rw [e_reg ht (e_r16 hs.1 h2), hA, e_plM ho hm, e_bit, e_lb, e_lbu] at hL2
            rw [if_pos ho] at hR2
            rcases hk with h | h | h
            · rw [h] at hL2 hR2
              simp (decide := true) only [if_true, if_false, reduceIte] at hL2 hR2
              exact fin _ hL2 hR2
            · rw [h] at hL2 hR2
              simp (decide := true) only [if_true, if_false, reduceIte] at hL2 hR2
              exact fin _ hL2 hR2
            · rw [h] at hL2 hR2
              simp (decide := true) only [if_true, if_false, reduceIte] at hL2 hR2
              exact fin _ hL2 hR2
          · rw [if_neg ho] at hL2
            unfold f_X8_load_c105_12 f_X8_load_c115_13 f_X8_load_148 f_X8_load_c153 f_X8_load_c161 at hL2
            unfold f_X11_wordAt f_X11_wordAt_c1 f_X11_moveWord_c197 f_X11_moveWord_306 f_X11_moveWord_c306 at hR2
            rw [e_reg ht (e_r16 hs.1 h2), hA, e_stO ht ho, e_bit, e_lb, e_lbu] at hL2
            rw [if_neg ho] at hR2
            rcases hk with h | h | h
            · rw [h] at hL2 hR2
              simp (decide := true) only [if_true, if_false, reduceIte] at hL2 hR2
              exact fin _ hL2 hR2
            · rw [h] at hL2 hR2
              simp (decide := true) only [if_true, if_false, reduceIte] at hL2 hR2
              exact fin _ hL2 hR2
            · rw [h] at hL2 hR2
              simp (decide := true) only [if_true, if_false, reduceIte] at hL2 hR2
              exact fin _ hL2 hR2
  · have k2 : ¬ f = 2 := fun h => hk (Or.inl h)
    have k0 : ¬ f = 0 := fun h => hk (Or.inr (Or.inl h))
    have k4 : ¬ f = 4 := fun h => hk (Or.inr (Or.inr h))
    simp only [if_neg k2, if_neg k0, if_neg k4] at hLd hR
    subst hLd hR
    exact RD.fault _ _ _
end RunEq4
