theorem e_state (t what : Int32) (address status did ready timer : Nat → Int32) : f_X10_state t what status address ready did (V2 4 timer) = (f_X11_state t what address status did ready timer).1 := by
  unfold f_X10_state f_X10_state_c1 f_X10_state_c14 f_X8_condition f_X11_state f_X11_state_40
  rw [e_thr]
  simp only [e_le3]
  by_cases h1 : t < 0
  · simp [h1]
  · by_cases h2 : (3 : Int32) < t
    · simp [h1, h2]
    · have ht := e_tr h1 h2
      simp only [if_neg h1, if_neg h2, if_pos h2, if_neg (show ¬ (1 : Int32) = 0 by decide), not_false_eq_true, if_true]
      by_cases g0 : what = 0
      · subst g0
        simp
      · by_cases g1 : what = 1
        · subst g1
          simp
        · by_cases g2 : what = 2
          · subst g2
            simp
          · by_cases g3 : what = 3
            · subst g3
              simp
            · simp only [if_neg g0, if_neg g1, if_neg g2, if_neg g3]
              by_cases g4 : what < 4
              · simp [g4]
              · rw [if_neg g4, if_neg g4]
                have h4 := q_nlt g4
                have e4 := e_4
                by_cases g8 : (8 : Int32) ≤ what
                · have h7 : (7 : Int32) < what := Int32.lt_iff_toInt_lt.mpr (by have := q_le g8; have := e_7; have := e_8; omega)
                  simp [g8, h7]
                · have h8 := q_nle g8
                  have e8 := e_8
                  have h7 : ¬ (7 : Int32) < what := fun h => by
                    have := q_lt h
                    have := e_7
                    omega
                  rw [if_neg g8, if_neg h7]
                  have hs : (what - 4).toInt = what.toInt - 4 := by rw [q_sub (by omega) (by omega), e4]
                  have e9 : (4 : Int32) * t + what - 4 = 4 * t + (what - 4) := by
                    rw [Int32.sub_eq_add_neg, Int32.sub_eq_add_neg, Int32.add_assoc]
                  rw [e9, e_ix (w := 4) e_4 (by omega) ht ⟨by omega, by omega⟩]
                  exact V2_at 4 timer (e_clt ht.1 ht.2) (e_clt (m := 4) (by omega) (by omega))
theorem e_fmod {x c : Int32} (h0 : 0 ≤ x.toInt) (hc : 0 < c.toInt) : f_J9_floorMod_7cf53 x c = x - x / c * c := Int32.toInt_inj.mp (by rw [a_fm hc, q_rem h0 hc])
theorem e_place {x : Int32} (h0 : 0 ≤ x.toInt) : f_X2_placeOf x = x - x / 16 * 16 := e_fmod h0 (by decide)
theorem e_place_r {x : Int32} (h0 : 0 ≤ x.toInt) : 0 ≤ (x - x / 16 * 16).toInt ∧ (x - x / 16 * 16).toInt < 16 := by
  rw [q_rem h0 (by decide), e_16]
  omega
/-- a place of the reference's trace -/
theorem e_tix {t p o : Int32} {on : Nat} (ht : 0 ≤ t.toInt ∧ t.toInt < 4) (hp : 0 ≤ p.toInt ∧ p.toInt < 16) (ho : o.toInt = on) (hon : on < 3) : Int32.toNatClampNeg (48 * t + 3 * p + o) = 48 * Int32.toNatClampNeg t + 3 * Int32.toNatClampNeg p + on := by
  have e3 := e_3
  have h3 : (3 * p).toInt = 3 * p.toInt := by rw [q_mul (by rw [e3]; omega) (by rw [e3]; omega), e3]
  have h4 : (3 * p + o).toInt = 3 * p.toInt + on := by rw [q_add (by omega) (by omega), h3, ho]
  have e9 : 48 * t + 3 * p + o = 48 * t + (3 * p + o) := Int32.add_assoc _ _ _
  rw [e9, e_ix (w := 48) e_48 (by omega) ht ⟨by omega, by omega⟩]
  have g1 := e_cl (x := 3 * p + o) (by omega)
  have g2 := e_cl hp.1
  omega
theorem e_trace (t k what : Int32) (did trace : Nat → Int32) (hd : ∀ j, j < 4 → 0 ≤ (did j).toInt ∧ (did j).toInt ≤ 2000000) : f_X10_trace t k what did (V3 0 trace) (V3 1 trace) (V3 2 trace) = (f_X11_trace t k what did trace).1 := by
  unfold f_X10_trace f_X10_trace_c1 f_X10_trace_c18 f_X2_entry f_X2_entry_c28 f_X11_trace
  rw [e_thr]
  by_cases h1 : t < 0
  · simp [h1]
  · by_cases h2 : (3 : Int32) < t
    · simp [h1, h2]
    · have ht := e_tr h1 h2
      have htn := e_clt (m := 4) ht.1 ht.2
      have hdt := hd _ htn
      simp only [if_neg h1, if_neg h2, if_neg (show ¬ (1 : Int32) = 0 by decide)]
      by_cases h3 : k < 0
      · simp [h3]
      · rw [if_neg h3, if_neg h3]
        have g3 := q_nlt h3
        have e0 := e_0
        by_cases h4 : (15 : Int32) < k
        · have h5 : (16 : Int32) ≤ k := Int32.le_iff_toInt_le.mpr (by have := q_lt h4; have := e_15; have := e_16; omega)
          simp [h4, h5]
        · have g4 := q_nlt h4
          have e15 := e_15
          have h5 : ¬ (16 : Int32) ≤ k := fun h => by
            have := q_le h
            have := e_16
            omega
          rw [if_neg h5, if_neg h4]
          by_cases h6 : k < did (Int32.toNatClampNeg t)
          · have h7 : ¬ did (Int32.toNatClampNeg t) ≤ k := fun h => by
              have := q_le h
              have := q_lt h6
              omega
            rw [if_pos h6, if_neg h7]
            have g6 := q_lt h6
            have e1 := e_1
            have hx : (did (Int32.toNatClampNeg t) - 1 - k).toInt = (did (Int32.toNatClampNeg t)).toInt - 1 - k.toInt := by
              have h8 : (did (Int32.toNatClampNeg t) - 1).toInt = (did (Int32.toNatClampNeg t)).toInt - 1 := by rw [q_sub (by omega) (by omega), e1]
              rw [q_sub (by omega) (by omega), h8]
            have hx0 : 0 ≤ (did (Int32.toNatClampNeg t) - 1 - k).toInt := by omega
            rw [e_place hx0]
            have hp := e_place_r hx0
            have hpn := e_clt (m := 16) hp.1 hp.2
            generalize did (Int32.toNatClampNeg t) - 1 - k - (did (Int32.toNatClampNeg t) - 1 - k) / 16 * 16 = pl at hp hpn ⊢
            by_cases w0 : what = 0
            · subst w0
              rw [if_pos rfl, if_neg (by decide), if_pos (by decide), V3_at 0 trace htn hpn, e_tix (on := 0) ht hp (by decide) (by omega)]
            · rw [if_neg w0]
              by_cases w1 : what = 1
              · subst w1
                rw [if_pos rfl, if_neg (by decide), if_pos (by decide), V3_at 1 trace htn hpn, e_tix (on := 1) ht hp (by decide) (by omega)]
              · rw [if_neg w1]
                by_cases w2 : what = 2
                · subst w2
                  rw [if_pos rfl, if_neg (by decide), if_pos (by decide), V3_at 2 trace htn hpn, e_tix (on := 2) ht hp (by decide) (by omega)]
                · rw [if_neg w2]
                  by_cases w3 : what < 0
                  · rw [if_pos w3]
                  · rw [if_neg w3, if_neg]
                    intro h
                    have g7 := q_nlt w3
                    have g8 := q_le h
                    have e2 := e_2
                    have g9 : what.toInt = 0 ∨ what.toInt = 1 ∨ what.toInt = 2 := by omega
                    rcases g9 with g9 | g9 | g9
                    · exact w0 (Int32.toInt_inj.mp (by omega))
                    · exact w1 (Int32.toInt_inj.mp (by omega))
                    · exact w2 (Int32.toInt_inj.mp (by omega))
          · have h7 : did (Int32.toNatClampNeg t) ≤ k := Int32.le_iff_toInt_le.mpr (q_nlt h6)
            rw [if_neg h6, if_pos h7]
