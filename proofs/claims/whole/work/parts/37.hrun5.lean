section RunEq5
variable {t wheel now w : Int32} {store common low high register address status did ready timer trace : Nat → Int32}
theorem rd_save (ht : 0 ≤ t.toInt ∧ t.toInt < 4) (hd : 0 ≤ (did (Int32.toNatClampNeg t)).toInt) (hlh : 0 ≤ (low (Int32.toNatClampNeg t)).toInt ∧ (low (Int32.toNatClampNeg t)).toInt ≤ (high (Int32.toNatClampNeg t)).toInt ∧ (high (Int32.toNatClampNeg t)).toInt ≤ 64) (hw : 1 ≤ wheel.toInt ∧ wheel.toInt ≤ 8) (hnow : 0 ≤ now.toInt ∧ now.toInt ≤ 2000000) {R : Int32 × (Nat → Int32) × (Nat → Int32) × (Nat → Int32) × (Nat → Int32) × (Nat → Int32) × (Nat → Int32) × (Nat → Int32) × (Nat → Int32)} (hR : R = f_X11_moveWord t w 1 wheel now store common low high register address status did ready trace) {L : Nat × Int32 × (Nat → Int32) × (Nat → Int32)} (hLd : L = f_X8_save w now (low (Int32.toNatClampNeg t)) (high (Int32.toNatClampNeg t)) t (now + 4) (V2 16 register (Int32.toNatClampNeg t)) (V2 128 store (Int32.toNatClampNeg t)) wheel common) :
    RD t now store common register address status did ready timer trace (f_X8_attempt_c184 (status (Int32.toNatClampNeg t)) (address (Int32.toNatClampNeg t)) (V2 16 register (Int32.toNatClampNeg t)) (V2 4 timer (Int32.toNatClampNeg t)) L.1 L.2.1 L.2.2.1 L.2.2.2) (R.1, R.2.1, R.2.2.1, R.2.2.2.1, R.2.2.2.2.1, R.2.2.2.2.2.1, R.2.2.2.2.2.2.1, R.2.2.2.2.2.2.2.1, timer, R.2.2.2.2.2.2.2.2) := by
  unfold f_X8_save f_X8_save_c1 f_X8_save_c7 f_X8_save_c13 f_X8_save_34 f_X8_save_c43 f_X8_save_c51 f_X8_save_c69 f_X8_save_c80 f_X1_numberS f_X1_numberS_c7 at hLd
  unfold f_X11_moveWord f_X11_moveWord_39 f_X11_moveWord_86 f_X11_moveWord_138 f_X11_moveWord_172 f_X11_moveWord_c172 at hR
  rw [e_rt, e_rs, e_f, e_rd] at hLd
  have hr := q_31 (w >>> ((20 : Int32) &&& 31))
  have hs := q_31 (w >>> ((15 : Int32) &&& 31))
  rw [e_isReg hr.1, e_isReg hs.1] at hLd
  simp only [if_true, if_neg (show ¬ (1 : Int32) = 0 by decide), e_nle _ (15 : Int32), e_stop9] at hLd hR
  generalize hF : ((w >>> ((12 : Int32) &&& 31)) &&& (7 : Int32)) = f at *
  generalize ((w >>> ((20 : Int32) &&& 31)) &&& (31 : Int32)) = rd at *
  generalize ((w >>> ((15 : Int32) &&& 31)) &&& (31 : Int32)) = rs at *
  generalize (((w >>> ((25 : Int32) &&& 31)) <<< ((5 : Int32) &&& 31)) ||| ((w >>> ((7 : Int32) &&& 31)) &&& (31 : Int32))) = num at *
  by_cases hk : f = 2 ∨ f = 0
  · have hL2 : L = if (if (15 : Int32) < rs then (0 : Int32) else 1) = 0 then (1002, now + 4, V2 128 store (Int32.toNatClampNeg t), common) else if (if (15 : Int32) < rd then (0 : Int32) else 1) = 0 then (1002, now + 4, V2 128 store (Int32.toNatClampNeg t), common) else if f_X8_canReach (V2 16 register (Int32.toNatClampNeg t) (Int32.toNatClampNeg rs) + num) f (low (Int32.toNatClampNeg t)) (high (Int32.toNatClampNeg t)) = 0 then (1002, now + 4, V2 128 store (Int32.toNatClampNeg t), common) else if f = 2 then f_X8_save_109 t (now + 4) (V2 16 register (Int32.toNatClampNeg t)) (V2 128 store (Int32.toNatClampNeg t)) wheel common now f rd (-1) (V2 16 register (Int32.toNatClampNeg t) (Int32.toNatClampNeg rs) + num) else f_X8_save_c105 t (now + 4) (V2 16 register (Int32.toNatClampNeg t)) (V2 128 store (Int32.toNatClampNeg t)) wheel common now f rs rd num (f_X8_bitOf (V2 16 register (Int32.toNatClampNeg t) (Int32.toNatClampNeg rs) + num)) := by
      rw [hLd]
      rcases hk with h | h <;> simp (decide := true) only [h, if_true, if_false, reduceIte]
    have hR2 : R = if (15 : Int32) < rs then (0, store, common, register, address, upd status (Int32.toNatClampNeg t) 3, did, ready, trace) else if ¬ (15 : Int32) < rd then (if f_X11_isThere t (register (Int32.toNatClampNeg (16 * t + rs)) + num) (if f = 2 then 4 else 1) low high = 0 then (0, store, common, register, address, upd status (Int32.toNatClampNeg t) 3, did, ready, trace) else f_X11_moveWord_c197 wheel now store common register address status did ready trace t 1 f rd (register (Int32.toNatClampNeg (16 * t + rs)) + num) (f_X11_wordAt t (register (Int32.toNatClampNeg (16 * t + rs)) + num) store common)) else (0, store, common, register, address, upd status (Int32.toNatClampNeg t) 3, did, ready, trace) := by
      rw [hR]
      rcases hk with h | h <;> simp (decide := true) only [h, if_true, if_false, reduceIte] <;> rfl
    clear hLd hR
    by_cases h2 : (15 : Int32) < rs
    · rw [if_pos h2, if_pos rfl] at hL2
      rw [if_pos h2] at hR2
      subst hL2 hR2
      exact RD.fault _ _ _
    · rw [if_neg h2, if_neg (by decide)] at hL2
      rw [if_neg h2] at hR2
      by_cases h1 : (15 : Int32) < rd
      · rw [if_pos h1, if_pos rfl] at hL2
        rw [if_neg (fun h : ¬ (15 : Int32) < rd => h h1)] at hR2
        subst hL2 hR2
        exact RD.fault _ _ _
      · rw [if_neg h1, if_neg (by decide), e_reg ht (e_r16 hs.1 h2), e_reach] at hL2
        rw [if_pos h1] at hR2
        unfold f_X8_save_c105 at hL2
        rw [e_reg ht (e_r16 hs.1 h2)] at hL2
        generalize hA : register (Int32.toNatClampNeg (16 * t + rs)) + num = a at *
        by_cases h3 : f_X11_isThere t a (if f = 2 then 4 else 1) low high = 0
        · rw [if_pos h3] at hL2 hR2
          subst hL2 hR2
          exact RD.fault _ _ _
        · rw [if_neg h3] at hL2 hR2
          unfold f_X8_save_109 f_X8_save_c136 f_X8_save_140 f_X8_save_c153 f_X8_save_c153_12 f_X8_save_c184 f_X8_save_c184_13 at hL2
          unfold f_X11_wordAt f_X11_wordAt_c1 f_X11_moveWord_c197 f_X11_moveWord_256 f_X11_moveWord_c256 f_X11_put f_X11_put_c1 at hR2
          rw [e_own, e_reg ht (e_r16 hr.1 h1), e_bit, e_ret hw ht hnow] at hL2
          by_cases ho : f_X11_isOwn a = 0
          · have hm := e_there hlh h3 ho
            rw [e_plM ho hm] at hL2
            simp only [if_pos ho] at hL2 hR2
            have fin : ∀ v : Int32, L = (1000, f_X11_first t wheel now + wheel, V2 128 store (Int32.toNatClampNeg t), upd common (Int32.toNatClampNeg ((a - 4096) / 4)) v) → R = f_X11_moveWord_309 wheel now store (upd common (Int32.toNatClampNeg ((a - 4096) / 4)) v) register address status did ready trace t a → RD t now store common register address status did ready timer trace (f_X8_attempt_c184 (status (Int32.toNatClampNeg t)) (address (Int32.toNatClampNeg t)) (V2 16 register (Int32.toNatClampNeg t)) (V2 4 timer (Int32.toNatClampNeg t)) L.1 L.2.1 L.2.2.1 L.2.2.2) (R.1, R.2.1, R.2.2.1, R.2.2.2.1, R.2.2.2.2.1, R.2.2.2.2.2.1, R.2.2.2.2.2.2.1, R.2.2.2.2.2.2.2.1, timer, R.2.2.2.2.2.2.2.2) := by
              intro v e1 e2
              rw [e_309 ht hd, if_pos ho] at e2
              rw [e1, e2]
              exact Or.inr (Or.inr ⟨_, _, _, _, _, _, _, _, _, _, _, rfl, rfl, g_up_same _ _, g_up_same _ _, g_up_same _ _, g_up_same _ _⟩)
            rcases hk with h | h
            · rw [h] at hL2 hR2
              simp (decide := true) only [if_true, if_false, reduceIte, e_sw] at hL2 hR2
              exact fin _ hL2 hR2
            · rw [h] at hL2 hR2
              simp (decide := true) only [if_true, if_false, reduceIte, e_sb] at hL2 hR2
              exact fin _ hL2 hR2
          · rw [e_stO ht ho] at hL2
            simp only [if_neg ho] at hL2 hR2
            have fin : ∀ v : Int32, L = (1000, now + 4, upd (V2 128 store (Int32.toNatClampNeg t)) (Int32.toNatClampNeg (f_X8_placeOf a)) v, common) → R = f_X11_moveWord_309 wheel now (upd store (Int32.toNatClampNeg (128 * t + a / 4)) v) common register address status did ready trace t a → RD t now store common register address status did ready timer trace (f_X8_attempt_c184 (status (Int32.toNatClampNeg t)) (address (Int32.toNatClampNeg t)) (V2 16 register (Int32.toNatClampNeg t)) (V2 4 timer (Int32.toNatClampNeg t)) L.1 L.2.1 L.2.2.1 L.2.2.2) (R.1, R.2.1, R.2.2.1, R.2.2.2.1, R.2.2.2.2.1, R.2.2.2.2.2.1, R.2.2.2.2.2.2.1, R.2.2.2.2.2.2.2.1, timer, R.2.2.2.2.2.2.2.2) := by
              intro v e1 e2
              rw [e_309 ht hd, if_neg ho] at e2
              rw [e1, e2]
              exact Or.inr (Or.inr ⟨_, _, _, _, _, _, _, _, _, _, _, rfl, rfl, g_up_same _ _, e_stW ht ho, g_up_same _ _, g_up_same _ _⟩)
            rcases hk with h | h
            · rw [h] at hL2 hR2
              simp (decide := true) only [if_true, if_false, reduceIte, e_sw] at hL2 hR2
              exact fin _ hL2 hR2
            · rw [h] at hL2 hR2
              simp (decide := true) only [if_true, if_false, reduceIte, e_sb] at hL2 hR2
              exact fin _ hL2 hR2
  · have k2 : ¬ f = 2 := fun h => hk (Or.inl h)
    have k0 : ¬ f = 0 := fun h => hk (Or.inr h)
    simp only [if_neg k2, if_neg k0] at hLd hR
    subst hLd hR
    exact RD.fault _ _ _
/-- one attempt of a thread, where it stands -/
theorem rd_turn (ht : 0 ≤ t.toInt ∧ t.toInt < 4) (hd : 0 ≤ (did (Int32.toNatClampNeg t)).toInt) (hlh : 0 ≤ (low (Int32.toNatClampNeg t)).toInt ∧ (low (Int32.toNatClampNeg t)).toInt ≤ (high (Int32.toNatClampNeg t)).toInt ∧ (high (Int32.toNatClampNeg t)).toInt ≤ 64) (hw : 1 ≤ wheel.toInt ∧ wheel.toInt ≤ 8) (hnow : 0 ≤ now.toInt ∧ now.toInt ≤ 2000000) (nx rt : Int32) :
    RD t now store common register address status did ready timer trace (f_X8_attempt now (low (Int32.toNatClampNeg t)) (high (Int32.toNatClampNeg t)) t (status (Int32.toNatClampNeg t)) (address (Int32.toNatClampNeg t)) nx rt (V2 16 register (Int32.toNatClampNeg t)) (V2 128 store (Int32.toNatClampNeg t)) (V2 4 timer (Int32.toNatClampNeg t)) wheel common)
      (if (address (Int32.toNatClampNeg t) &&& 3) = 0 then f_X11_turn_c39 t wheel now store common low high register address status did ready timer trace (f_X11_isOwn (address (Int32.toNatClampNeg t))) else f_X11_turn_45 store common register address status did ready timer trace t) := by
  unfold f_X8_attempt f_X8_attempt_c4 f_X8_attempt_c14 f_X8_isAligned
  rw [e_own]
  by_cases ho : f_X11_isOwn (address (Int32.toNatClampNeg t)) = 0
  · rw [if_pos ho]
    by_cases ha : (address (Int32.toNatClampNeg t) &&& 3) = 0
    · rw [if_pos ha]
      unfold f_X11_turn_c39
      rw [if_pos ho]
      exact RD.fault _ _ _
    · rw [if_neg ha]
      exact RD.fault _ _ _
  · rw [if_neg ho]
    by_cases ha : (address (Int32.toNatClampNeg t) &&& 3) = 0
    · rw [if_pos ha, if_pos ha, if_neg (by decide)]
      unfold f_X11_turn_c39
      rw [if_neg ho]
      have hword : V2 128 store (Int32.toNatClampNeg t) (Int32.toNatClampNeg ((address (Int32.toNatClampNeg t)) >>> ((2 : Int32) &&& 31))) = store (Int32.toNatClampNeg (128 * t + (address (Int32.toNatClampNeg t)) / 4)) := by
        have h9 := e_stO (store := store) ht ho
        rw [e_plO ho] at h9
        rw [e_shr4 (e_ownR ho).1]
        exact h9
      unfold f_X8_attempt_c54 f_X1_op
      rw [hword]
      generalize store (Int32.toNatClampNeg (128 * t + (address (Int32.toNatClampNeg t)) / 4)) = w
      by_cases o3 : w &&& 127 = 3
      · rw [if_pos o3, if_pos o3]
        exact rd_load ht hd hlh hw hnow rfl rfl
      · rw [if_neg o3, if_neg o3]
        by_cases o11 : w &&& 127 = 11
        · rw [if_pos o11, if_pos o11]
          exact rd_timed ht hd (by omega) rfl
        · rw [if_neg o11, if_neg o11]
          by_cases o19 : w &&& 127 = 19
          · rw [if_pos o19, if_pos o19]
            exact rd_num ht hd rfl
          · rw [if_neg o19, if_neg o19]
            by_cases o35 : w &&& 127 = 35
            · rw [if_pos o35, if_pos o35]
              exact rd_save ht hd hlh hw hnow rfl rfl
            · rw [if_neg o35, if_neg o35]
              by_cases o51 : w &&& 127 = 51
              · rw [if_pos o51, if_pos o51]
                exact rd_regs ht hd rfl
              · rw [if_neg o51, if_neg o51]
                by_cases o55 : w &&& 127 = 55
                · rw [if_pos o55, if_pos o55]
                  have h9 := rd_lui (t := t) (now := now) (w := w) (store := store) (common := common) (register := register) (address := address) (status := status) (did := did) (ready := ready) (timer := timer) (trace := trace) ht hd
                  by_cases hh : (15 : Int32) < ((w >>> ((7 : Int32) &&& 31)) &&& (31 : Int32))
                  · rw [if_pos hh] at h9
                    rw [if_neg (fun h => (e_nle _ _).mp h hh)]
                    exact h9
                  · rw [if_neg hh] at h9
                    rw [if_pos ((e_nle _ _).mpr hh)]
                    exact h9
                · rw [if_neg o55, if_neg o55]
                  by_cases o99 : w &&& 127 = 99
                  · rw [if_pos o99, if_pos o99]
                    exact rd_branch ht hd rfl
                  · rw [if_neg o99, if_neg o99]
                    by_cases o103 : w &&& 127 = 103
                    · rw [if_pos o103, if_pos o103]
                      exact rd_jalr ht hd rfl
                    · rw [if_neg o103, if_neg o103]
                      by_cases o111 : w &&& 127 = 111
                      · rw [if_pos o111, if_pos o111]
                        exact rd_jal ht hd rfl
                      · rw [if_neg o111, if_neg o111]
                        by_cases o115 : w &&& 127 = 115
                        · rw [if_pos o115]
                          exact rd_halt ht hd
                        · rw [if_neg o115]
                          have hne : ¬ w = 115 := fun h => o115 (by rw [h]; decide)
                          rw [if_neg hne]
                          exact RD.fault _ _ _
    · rw [if_neg ha, if_neg ha, if_pos rfl]
      exact RD.fault _ _ _
end RunEq5
