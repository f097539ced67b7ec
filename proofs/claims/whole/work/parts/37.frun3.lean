theorem e_64i (x : Int32) : (Int32.toInt64 x).toInt = x.toInt := Int32.toInt_toInt64 x
theorem e_max64 : (2147483647 : Int64).toInt = 2147483647 := by decide
theorem e_max32 : (2147483647 : Int32).toInt = 2147483647 := by decide
theorem e_lcmp_le (x y : Int64) : (lg_cmp x y ≤ 0) ↔ x.toInt ≤ y.toInt := by
  have h := e_lcmp_gt x y
  have h0 := e_0
  rw [Int32.lt_iff_toInt_lt] at h
  rw [Int32.le_iff_toInt_le]
  omega
theorem e_timer {now : Int32} {S : Int64} (hnow : now.toInt ≤ 2000000000) : Int64.toInt32 (if (if S < Int32.toInt64 now then Int32.toInt64 now else S) < (2147483647 : Int64) then (if S < Int32.toInt64 now then Int32.toInt64 now else S) else (2147483647 : Int64)) = (if 0 ≤ lg_cmp S (Int32.toInt64 now) then (if lg_cmp S (2147483647 : Int64) ≤ 0 then Int64.toInt32 S else (2147483647 : Int32)) else now) := by
  have hm := e_max64
  have hn := e_64i now
  have hl := Int32.le_toInt now
  by_cases h1 : S < Int32.toInt64 now
  · have g1 := Int64.lt_iff_toInt_lt.mp h1
    have h2 : ¬ 0 ≤ lg_cmp S (Int32.toInt64 now) := fun h => by
      rw [lg_cmp_ge, Int64.le_iff_toInt_le] at h
      omega
    have h3 : Int32.toInt64 now < (2147483647 : Int64) := Int64.lt_iff_toInt_lt.mpr (by omega)
    simp only [if_pos h1, if_neg h2, if_pos h3]
    refine Int32.toInt_inj.mp ?_
    rw [Int64.toInt_toInt32, hn]
    exact q_bm (by omega) (by omega)
  · have g1 : ¬ S.toInt < (Int32.toInt64 now).toInt := fun h => h1 (Int64.lt_iff_toInt_lt.mpr h)
    have h2 : 0 ≤ lg_cmp S (Int32.toInt64 now) := by
      rw [lg_cmp_ge, Int64.le_iff_toInt_le]
      omega
    simp only [if_neg h1, if_pos h2]
    by_cases h3 : S < (2147483647 : Int64)
    · have g3 := Int64.lt_iff_toInt_lt.mp h3
      rw [if_pos h3, if_pos ((e_lcmp_le _ _).mpr (by omega))]
    · have g3 : ¬ S.toInt < (2147483647 : Int64).toInt := fun h => h3 (Int64.lt_iff_toInt_lt.mpr h)
      rw [if_neg h3]
      by_cases h4 : lg_cmp S (2147483647 : Int64) ≤ 0
      · have g4 := (e_lcmp_le _ _).mp h4
        have e9 : S = (2147483647 : Int64) := Int64.toInt_inj.mp (by omega)
        rw [if_pos h4, e9]
      · rw [if_neg h4]
        decide
section RunEq3
variable {t wheel now w : Int32} {store common low high register address status did ready timer trace : Nat → Int32}
theorem rd_timed (ht : 0 ≤ t.toInt ∧ t.toInt < 4) (hd : 0 ≤ (did (Int32.toNatClampNeg t)).toInt) (hnow : now.toInt ≤ 2000000000) {R : Int32 × (Nat → Int32) × (Nat → Int32) × (Nat → Int32) × (Nat → Int32) × (Nat → Int32) × (Nat → Int32) × (Nat → Int32)} (hR : R = f_X11_clock t w now register address status did ready timer trace) : RD t now store common register address status did ready timer trace (f_X8_attempt_c203 now (status (Int32.toNatClampNeg t)) (address (Int32.toNatClampNeg t)) (V2 128 store (Int32.toNatClampNeg t)) common (f_X8_timed w now (V2 16 register (Int32.toNatClampNeg t)) (V2 4 timer (Int32.toNatClampNeg t))).1 (f_X8_timed w now (V2 16 register (Int32.toNatClampNeg t)) (V2 4 timer (Int32.toNatClampNeg t))).2.1 (f_X8_timed w now (V2 16 register (Int32.toNatClampNeg t)) (V2 4 timer (Int32.toNatClampNeg t))).2.2)
    (R.1, store, common, R.2.1, R.2.2.1, R.2.2.2.1, R.2.2.2.2.1, R.2.2.2.2.2.1, R.2.2.2.2.2.2.1, R.2.2.2.2.2.2.2) := by
  subst hR
  unfold f_X8_timed f_X8_timed_c1 f_X8_timed_c6 f_X8_timed_c20 f_X8_timed_c31 f_X8_timed_c45 f_X8_setTimer f_X8_setTimer_c1 f_X8_setTimer_c13 f_X8_setTimer_c49 f_X8_attempt_c203 f_X11_clock f_X11_clock_48 f_X11_clock_55 f_X11_clock_c57 f_X11_clock_c74 f_X11_clock_c93 f_X11_clock_190 f_X11_clock_c207 f_X11_stop f_X1_numberI
  rw [e_rd, e_rs, e_f]
  have hf := q_7 (w >>> ((12 : Int32) &&& 31))
  have hr := q_31 (w >>> ((7 : Int32) &&& 31))
  have hs := q_31 (w >>> ((15 : Int32) &&& 31))
  rw [e_isReg hr.1, e_isReg hs.1]
  generalize ((w >>> ((12 : Int32) &&& 31)) &&& (7 : Int32)) = f at *
  generalize ((w >>> ((7 : Int32) &&& 31)) &&& (31 : Int32)) = rd at *
  generalize ((w >>> ((15 : Int32) &&& 31)) &&& (31 : Int32)) = rs at *
  have e1 := e_1
  have e0 := e_0
  by_cases f0 : f = 0
  · subst f0
    have g1 : ¬ (1 : Int32) < 0 := by decide
    rw [if_pos rfl, if_neg g1, if_pos rfl]
    by_cases h3 : (3 : Int32) < rd
    · rw [if_pos ((e_t3 rd).mpr h3), if_pos h3]
      exact RD.fault _ _ _
    · rw [if_neg (fun h => h3 ((e_t3 rd).mp h)), if_neg h3]
      have hr4 : 0 ≤ rd.toInt ∧ rd.toInt < 4 := by
        have := q_nlt h3
        have := e_3
        omega
      have hle : rd ≤ 15 := Int32.le_iff_toInt_le.mpr (by have := e_15; omega)
      by_cases h5 : (15 : Int32) < rs
      · simp only [if_pos h5, if_true]
        exact RD.fault _ _ _
      · simp only [if_neg h5, if_pos hle, if_neg (show ¬ (1 : Int32) = 0 by decide), if_neg (show ¬ (0 : Int32) = 1 by decide)]
        rw [e_reg ht (e_r16 hs.1 h5), V2_at 4 timer (e_clt ht.1 ht.2) (e_clt hr4.1 hr4.2), e_ix (w := 4) e_4 (by omega) ht ⟨hr4.1, by omega⟩]
        by_cases h6 : timer (4 * (Int32.toNatClampNeg t) + Int32.toNatClampNeg rd) ≤ now
        · simp only [if_pos h6]
          rw [e_timer hnow]
          have fin : ∀ v : Int32, RD t now store common register address status did ready timer trace (1000, status (Int32.toNatClampNeg t), address (Int32.toNatClampNeg t) + 4, now + 4, V2 16 register (Int32.toNatClampNeg t), V2 128 store (Int32.toNatClampNeg t), upd (V2 4 timer (Int32.toNatClampNeg t)) (Int32.toNatClampNeg rd) v, common) ((f_X11_done t (address (Int32.toNatClampNeg t) + 4) (now + 4) now address did ready trace).1, store, common, register, (f_X11_done t (address (Int32.toNatClampNeg t) + 4) (now + 4) now address did ready trace).2.1, status, (f_X11_done t (address (Int32.toNatClampNeg t) + 4) (now + 4) now address did ready trace).2.2.1, (f_X11_done t (address (Int32.toNatClampNeg t) + 4) (now + 4) now address did ready trace).2.2.2.1, upd timer (4 * (Int32.toNatClampNeg t) + Int32.toNatClampNeg rd) v, (f_X11_done t (address (Int32.toNatClampNeg t) + 4) (now + 4) now address did ready trace).2.2.2.2) := by
            intro v
            rw [e_done ht hd]
            exact Or.inr (Or.inr ⟨_, _, _, _, _, _, _, _, _, _, _, rfl, rfl, g_up_same _ _, g_up_same _ _, V2_upd timer v (e_clt ht.1 ht.2) (e_clt hr4.1 hr4.2), g_up_same _ _⟩)
          by_cases h7 : 0 ≤ lg_cmp (Int32.toInt64 now + Int32.toInt64 (register (Int32.toNatClampNeg (16 * t + rs))) + Int32.toInt64 (w >>> ((20 : Int32) &&& 31))) (Int32.toInt64 now)
          · simp only [if_pos h7]
            by_cases h8 : lg_cmp (Int32.toInt64 now + Int32.toInt64 (register (Int32.toNatClampNeg (16 * t + rs))) + Int32.toInt64 (w >>> ((20 : Int32) &&& 31))) (2147483647 : Int64) ≤ 0
            · simp only [if_pos h8]
              exact fin _
            · simp only [if_neg h8]
              exact fin _
          · simp only [if_neg h7]
            exact fin _
        · simp only [if_neg h6]
          exact Or.inr (Or.inl ⟨_, _, rfl, rfl⟩)
  · by_cases f1 : f = 1
    · subst f1
      rw [if_neg f0, if_pos rfl, if_neg (show ¬ (1 : Int32) < 1 by decide), if_neg f0, if_pos rfl]
      by_cases h5 : (15 : Int32) < rd
      · have h6 : ¬ rd ≤ 15 := fun h => (e_nle _ _).mp h h5
        simp only [if_pos h5, if_neg h6, if_true]
        exact RD.fault _ _ _
      · have h6 : rd ≤ 15 := (e_nle _ _).mpr h5
        simp only [if_neg h5, if_pos h6, if_neg f0]
        rw [e_done ht hd]
        exact RD.set _ _ ht (e_r16 hr.1 h5)
    · have g1 : (1 : Int32) < f := by
        rw [Int32.lt_iff_toInt_lt, e1]
        have n0 : ¬ f.toInt = 0 := fun h => f0 (Int32.toInt_inj.mp (by omega))
        have n1 : ¬ f.toInt = 1 := fun h => f1 (Int32.toInt_inj.mp (by omega))
        omega
      rw [if_neg f0, if_neg f1, if_pos g1]
      exact RD.fault _ _ _
end RunEq3
theorem e_first5 {wheel t : Int32} (hw : 1 ≤ wheel.toInt ∧ wheel.toInt ≤ 8) (ht : 0 ≤ t.toInt ∧ t.toInt < 4) : ∀ (f : Nat) (b : Int32), 0 ≤ b.toInt → b.toInt + (wheel.toInt * t.toInt - b.toInt) % (4 * wheel.toInt) ≤ 3000000 → (wheel.toInt * t.toInt - b.toInt) % (4 * wheel.toInt) < f → (f_X11_first_5 wheel f t b).toInt = b.toInt + (wheel.toInt * t.toInt - b.toInt) % (4 * wheel.toInt)
  | 0, b, h0, h1, h2 => by
    exfalso
    have := Int.emod_nonneg (wheel.toInt * t.toInt - b.toInt) (show 4 * wheel.toInt ≠ 0 by omega)
    omega
  | f + 1, b, h0, h1, h2 => by
    have e4 := e_4
    have hm : 0 ≤ wheel.toInt * t.toInt ∧ wheel.toInt * t.toInt ≤ 24 := by
      have hT : t.toInt = 0 ∨ t.toInt = 1 ∨ t.toInt = 2 ∨ t.toInt = 3 := by omega
      rcases hT with h | h | h | h <;> rw [h] <;> omega
    have hwt : (wheel * t).toInt = wheel.toInt * t.toInt := q_mul (by omega) (by omega)
    have h4w : (4 * wheel).toInt = 4 * wheel.toInt := by rw [q_mul (by rw [e4]; omega) (by rw [e4]; omega), e4]
    have hrem : (b - b / (4 * wheel) * (4 * wheel)).toInt = b.toInt % (4 * wheel.toInt) := by rw [q_rem h0 (by omega), h4w]
    have hnn := Int.emod_nonneg (wheel.toInt * t.toInt - b.toInt) (show 4 * wheel.toInt ≠ 0 by omega)
    unfold f_X11_first_5
    have key : ((b.toInt % (4 * wheel.toInt) = wheel.toInt * t.toInt) ↔ (wheel.toInt * t.toInt - b.toInt) % (4 * wheel.toInt) = 0) ∧ (¬ (wheel.toInt * t.toInt - b.toInt) % (4 * wheel.toInt) = 0 → (wheel.toInt * t.toInt - (b.toInt + 1)) % (4 * wheel.toInt) = (wheel.toInt * t.toInt - b.toInt) % (4 * wheel.toInt) - 1) := by
      have hT : t.toInt = 0 ∨ t.toInt = 1 ∨ t.toInt = 2 ∨ t.toInt = 3 := by omega
      have hW : wheel.toInt = 1 ∨ wheel.toInt = 2 ∨ wheel.toInt = 3 ∨ wheel.toInt = 4 ∨ wheel.toInt = 5 ∨ wheel.toInt = 6 ∨ wheel.toInt = 7 ∨ wheel.toInt = 8 := by omega
      rcases hW with h | h | h | h | h | h | h | h <;> rcases hT with g | g | g | g <;> rw [h, g] <;> omega
    by_cases hc : (b - b / (4 * wheel) * (4 * wheel)) = wheel * t
    · rw [if_pos hc]
      have h9 : b.toInt % (4 * wheel.toInt) = wheel.toInt * t.toInt := by rw [← hrem, hc, hwt]
      rw [key.1.mp h9]
      omega
    · rw [if_neg hc]
      have h9 : ¬ (wheel.toInt * t.toInt - b.toInt) % (4 * wheel.toInt) = 0 := fun h => hc (Int32.toInt_inj.mp (by rw [hrem, hwt]; exact key.1.mpr h))
      have h8 := key.2 h9
      have hb : (b + 1).toInt = b.toInt + 1 := q_inc (by omega)
      rw [e_first5 hw ht f (b + 1) (by omega) (by rw [hb, h8]; omega) (by rw [hb, h8]; omega), hb, h8]
      omega
theorem e_first {wheel t now : Int32} (hw : 1 ≤ wheel.toInt ∧ wheel.toInt ≤ 8) (ht : 0 ≤ t.toInt ∧ t.toInt < 4) (hnow : 0 ≤ now.toInt ∧ now.toInt ≤ 2000000) : f_X11_first t wheel now + wheel = f_X6_retirement t now wheel := by
  unfold f_X11_first f_X6_retirement f_X6_retirement_c14
  have e4 := e_4
  have hm : 0 ≤ wheel.toInt * t.toInt ∧ wheel.toInt * t.toInt ≤ 24 := by
    have hT : t.toInt = 0 ∨ t.toInt = 1 ∨ t.toInt = 2 ∨ t.toInt = 3 := by omega
    rcases hT with h | h | h | h <;> rw [h] <;> omega
  have hwt : (wheel * t).toInt = wheel.toInt * t.toInt := q_mul (by omega) (by omega)
  have h4w : (4 * wheel).toInt = 4 * wheel.toInt := by rw [q_mul (by rw [e4]; omega) (by rw [e4]; omega), e4]
  have hs : (wheel * t - now).toInt = wheel.toInt * t.toInt - now.toInt := by rw [q_sub (by omega) (by omega), hwt]
  have hfm := a_fm (x := wheel * t - now) (y := 4 * wheel) (by omega)
  rw [hs, h4w] at hfm
  have hlt := Int.emod_lt_of_pos (wheel.toInt * t.toInt - now.toInt) (show 0 < 4 * wheel.toInt by omega)
  have hnn := Int.emod_nonneg (wheel.toInt * t.toInt - now.toInt) (show 4 * wheel.toInt ≠ 0 by omega)
  have hx := e_first5 hw ht 33 now hnow.1 (by omega) (by omega)
  congr 1
  refine Int32.toInt_inj.mp ?_
  rw [hx, q_add (by omega) (by omega), hfm]
