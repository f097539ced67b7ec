theorem g_up_same {α : Type} (f : Nat → α) (k : Nat) : g_up f k (f k) = f := by
  funext j
  rw [g_up_at]
  by_cases h : j = k
  · rw [if_pos h, h]
  · rw [if_neg h]
def eTR (trace : Nat → Int32) (tn p : Nat) (a now w : Int32) : Nat → Int32 := upd (upd (upd trace (48 * tn + 3 * p) a) (48 * tn + 3 * p + 1) now) (48 * tn + 3 * p + 2) w
section RunEq
variable {t wheel now w : Int32} {store common low high register address status did ready timer trace : Nat → Int32}
theorem e_done {a when : Int32} (ht : 0 ≤ t.toInt ∧ t.toInt < 4) (hd : 0 ≤ (did (Int32.toNatClampNeg t)).toInt) : f_X11_done t a when now address did ready trace = (1, upd address (Int32.toNatClampNeg t) a, upd did (Int32.toNatClampNeg t) (did (Int32.toNatClampNeg t) + 1), upd ready (Int32.toNatClampNeg t) when, eTR trace (Int32.toNatClampNeg t) (Int32.toNatClampNeg (did (Int32.toNatClampNeg t) - did (Int32.toNatClampNeg t) / 16 * 16)) (address (Int32.toNatClampNeg t)) now when) := by
  unfold f_X11_done eTR
  have hp := e_place_r hd
  have e0 := e_tix (o := 0) (on := 0) ht hp (by decide) (by omega)
  rw [Int32.add_zero, Nat.add_zero] at e0
  rw [e0, e_tix (o := 1) (on := 1) ht hp (by decide) (by omega), e_tix (o := 2) (on := 2) ht hp (by decide) (by omega)]
theorem e_reg {r : Int32} (ht : 0 ≤ t.toInt ∧ t.toInt < 4) (hr : 0 ≤ r.toInt ∧ r.toInt < 16) : V2 16 register (Int32.toNatClampNeg t) (Int32.toNatClampNeg r) = register (Int32.toNatClampNeg (16 * t + r)) := by
  rw [V2_at 16 register (e_clt ht.1 ht.2) (e_clt hr.1 hr.2), e_ix (w := 16) e_16 (by omega) ht ⟨hr.1, by omega⟩]
theorem e_isReg {r : Int32} (h0 : 0 ≤ r.toInt) : f_X10_isRegister r = if (15 : Int32) < r then 0 else 1 := by
  unfold f_X10_isRegister
  have h1 : ¬ r < 0 := fun h => by
    have := q_lt h
    have := e_0
    omega
  rw [if_neg h1]
  have e15 := e_15
  have e16 := e_16
  by_cases h : (15 : Int32) < r
  · rw [if_pos h, if_pos (Int32.le_iff_toInt_le.mpr (by have := q_lt h; omega))]
  · rw [if_neg h, if_neg (fun h9 => h (Int32.lt_iff_toInt_lt.mpr (by have := q_le h9; omega)))]
theorem e_r16 {r : Int32} (h0 : 0 ≤ r.toInt) (h : ¬ (15 : Int32) < r) : 0 ≤ r.toInt ∧ r.toInt < 16 := by
  have := q_nlt h
  have := e_15
  omega
theorem e_set {r v : Int32} (ht : 0 ≤ t.toInt ∧ t.toInt < 4) (hr : 0 ≤ r.toInt ∧ r.toInt < 16) : g_up (V2 16 register) (Int32.toNatClampNeg t) (f_X8_setRegister r v (V2 16 register (Int32.toNatClampNeg t))) = V2 16 (f_X11_set t r v register) := by
  unfold f_X8_setRegister f_X11_set
  by_cases h : r = 0
  · subst h
    rw [if_pos rfl, if_pos (by decide), g_up_same]
  · rw [if_neg h, if_neg, V2_upd register v (e_clt ht.1 ht.2) (e_clt hr.1 hr.2), e_ix (w := 16) e_16 (by omega) ht ⟨hr.1, by omega⟩]
    intro h9
    have := q_le h9
    have := e_0
    exact h (Int32.toInt_inj.mp (by omega))
def RD (t now : Int32) (store common register address status did ready timer trace : Nat → Int32) (A : Nat × Int32 × Int32 × Int32 × (Nat → Int32) × (Nat → Int32) × (Nat → Int32) × (Nat → Int32)) (R : Int32 × (Nat → Int32) × (Nat → Int32) × (Nat → Int32) × (Nat → Int32) × (Nat → Int32) × (Nat → Int32) × (Nat → Int32) × (Nat → Int32) × (Nat → Int32)) : Prop :=
  (∃ st nx rt, A = (1002, st, nx, rt, V2 16 register (Int32.toNatClampNeg t), V2 128 store (Int32.toNatClampNeg t), V2 4 timer (Int32.toNatClampNeg t), common) ∧ R = (0, store, common, register, address, upd status (Int32.toNatClampNeg t) 3, did, ready, timer, trace)) ∨
  (∃ nx rt, A = (1001, status (Int32.toNatClampNeg t), nx, rt, V2 16 register (Int32.toNatClampNeg t), V2 128 store (Int32.toNatClampNeg t), V2 4 timer (Int32.toNatClampNeg t), common) ∧ R = (0, store, common, register, address, status, did, ready, timer, trace)) ∨
  (∃ st nx rt regs tst tims mw store2 register2 status2 timer2, A = (1000, st, nx, rt, regs, tst, tims, mw) ∧ R = (1, store2, mw, register2, upd address (Int32.toNatClampNeg t) nx, status2, upd did (Int32.toNatClampNeg t) (did (Int32.toNatClampNeg t) + 1), upd ready (Int32.toNatClampNeg t) rt, timer2, eTR trace (Int32.toNatClampNeg t) (Int32.toNatClampNeg (did (Int32.toNatClampNeg t) - did (Int32.toNatClampNeg t) / 16 * 16)) (address (Int32.toNatClampNeg t)) now rt) ∧
    g_up (V2 16 register) (Int32.toNatClampNeg t) regs = V2 16 register2 ∧ g_up (V2 128 store) (Int32.toNatClampNeg t) tst = V2 128 store2 ∧ g_up (V2 4 timer) (Int32.toNatClampNeg t) tims = V2 4 timer2 ∧ g_up status (Int32.toNatClampNeg t) st = status2)
theorem RD.fault (st nx rt : Int32) : RD t now store common register address status did ready timer trace (1002, st, nx, rt, V2 16 register (Int32.toNatClampNeg t), V2 128 store (Int32.toNatClampNeg t), V2 4 timer (Int32.toNatClampNeg t), common) (0, store, common, register, address, upd status (Int32.toNatClampNeg t) 3, did, ready, timer, trace) := Or.inl ⟨st, nx, rt, rfl, rfl⟩
theorem RD.set {r v : Int32} (nx rt : Int32) (ht : 0 ≤ t.toInt ∧ t.toInt < 4) (hr : 0 ≤ r.toInt ∧ r.toInt < 16) : RD t now store common register address status did ready timer trace (1000, status (Int32.toNatClampNeg t), nx, rt, f_X8_setRegister r v (V2 16 register (Int32.toNatClampNeg t)), V2 128 store (Int32.toNatClampNeg t), V2 4 timer (Int32.toNatClampNeg t), common) (1, store, common, f_X11_set t r v register, upd address (Int32.toNatClampNeg t) nx, status, upd did (Int32.toNatClampNeg t) (did (Int32.toNatClampNeg t) + 1), upd ready (Int32.toNatClampNeg t) rt, timer, eTR trace (Int32.toNatClampNeg t) (Int32.toNatClampNeg (did (Int32.toNatClampNeg t) - did (Int32.toNatClampNeg t) / 16 * 16)) (address (Int32.toNatClampNeg t)) now rt) :=
  Or.inr (Or.inr ⟨_, _, _, _, _, _, _, _, _, _, _, rfl, rfl, e_set ht hr, g_up_same _ _, g_up_same _ _, g_up_same _ _⟩)
theorem RD.go (nx rt : Int32) : RD t now store common register address status did ready timer trace (1000, status (Int32.toNatClampNeg t), nx, rt, V2 16 register (Int32.toNatClampNeg t), V2 128 store (Int32.toNatClampNeg t), V2 4 timer (Int32.toNatClampNeg t), common) (1, store, common, register, upd address (Int32.toNatClampNeg t) nx, status, upd did (Int32.toNatClampNeg t) (did (Int32.toNatClampNeg t) + 1), upd ready (Int32.toNatClampNeg t) rt, timer, eTR trace (Int32.toNatClampNeg t) (Int32.toNatClampNeg (did (Int32.toNatClampNeg t) - did (Int32.toNatClampNeg t) / 16 * 16)) (address (Int32.toNatClampNeg t)) now rt) :=
  Or.inr (Or.inr ⟨_, _, _, _, _, _, _, _, _, _, _, rfl, rfl, g_up_same _ _, g_up_same _ _, g_up_same _ _, g_up_same _ _⟩)
theorem rd_lui (ht : 0 ≤ t.toInt ∧ t.toInt < 4) (hd : 0 ≤ (did (Int32.toNatClampNeg t)).toInt) : RD t now store common register address status did ready timer trace (f_X8_attempt_c150 now (status (Int32.toNatClampNeg t)) (address (Int32.toNatClampNeg t)) (V2 128 store (Int32.toNatClampNeg t)) (V2 4 timer (Int32.toNatClampNeg t)) common (f_X8_loadUpper w (V2 16 register (Int32.toNatClampNeg t))).1 (f_X8_loadUpper w (V2 16 register (Int32.toNatClampNeg t))).2)
    (if (15 : Int32) < ((w >>> ((7 : Int32) &&& 31)) &&& (31 : Int32)) then f_X11_turn_c166 store common register address did ready timer trace (f_X11_stop t status).1 (f_X11_stop t status).2 else f_X11_turn_c186 t now store common address status did ready timer trace (f_X11_set t ((w >>> ((7 : Int32) &&& 31)) &&& (31 : Int32)) ((w >>> ((12 : Int32) &&& 31)) <<< ((12 : Int32) &&& 31)) register)) := by
  unfold f_X8_loadUpper f_X8_loadUpper_c1 f_X8_loadUpper_c6 f_X8_loadUpper_c19 f_X8_loadUpper_c22 f_X8_attempt_c150 f_X11_turn_c166 f_X11_turn_c186 f_X11_turn_c200 f_X11_stop
  rw [e_rd, e_nU]
  have hr := q_31 (w >>> ((7 : Int32) &&& 31))
  rw [e_isReg hr.1]
  by_cases h : (15 : Int32) < ((w >>> ((7 : Int32) &&& 31)) &&& (31 : Int32))
  · rw [if_pos h, if_pos rfl, if_pos h]
    exact RD.fault _ _ _
  · rw [if_neg h, if_neg (by decide), if_neg h, e_done ht hd]
    exact RD.set _ _ ht (e_r16 hr.1 h)
theorem rd_jal (ht : 0 ≤ t.toInt ∧ t.toInt < 4) (hd : 0 ≤ (did (Int32.toNatClampNeg t)).toInt) {R : Int32 × (Nat → Int32) × (Nat → Int32) × (Nat → Int32) × (Nat → Int32) × (Nat → Int32) × (Nat → Int32)} (hR : R = f_X11_jump t w 0 now register address status did ready trace) : RD t now store common register address status did ready timer trace (f_X8_attempt_c156 now (status (Int32.toNatClampNeg t)) (V2 128 store (Int32.toNatClampNeg t)) (V2 4 timer (Int32.toNatClampNeg t)) common (f_X8_jump w (address (Int32.toNatClampNeg t)) (address (Int32.toNatClampNeg t) + 4) (V2 16 register (Int32.toNatClampNeg t))).1 (f_X8_jump w (address (Int32.toNatClampNeg t)) (address (Int32.toNatClampNeg t) + 4) (V2 16 register (Int32.toNatClampNeg t))).2.1 (f_X8_jump w (address (Int32.toNatClampNeg t)) (address (Int32.toNatClampNeg t) + 4) (V2 16 register (Int32.toNatClampNeg t))).2.2)
    (R.1, store, common, R.2.1, R.2.2.1, R.2.2.2.1, R.2.2.2.2.1, R.2.2.2.2.2.1, timer, R.2.2.2.2.2.2) := by
  subst hR
  unfold f_X8_jump f_X8_jump_c1 f_X8_jump_c6 f_X8_jump_c22 f_X8_jump_c31 f_X8_attempt_c156 f_X11_jump f_X11_jump_46 f_X11_jump_c48 f_X11_jump_52 f_X11_jump_130 f_X11_jump_c144 f_X11_jump_c157 f_X11_stop
  rw [e_rd, e_nJ]
  have hr := q_31 (w >>> ((7 : Int32) &&& 31))
  rw [e_isReg hr.1]
  by_cases h : (15 : Int32) < ((w >>> ((7 : Int32) &&& 31)) &&& (31 : Int32))
  · rw [if_pos h, if_pos rfl, if_pos h]
    exact RD.fault _ _ _
  · rw [if_neg h, if_neg (by decide), if_neg h, if_pos rfl, if_pos rfl, e_done ht hd]
    exact RD.set _ _ ht (e_r16 hr.1 h)
theorem rd_jalr (ht : 0 ≤ t.toInt ∧ t.toInt < 4) (hd : 0 ≤ (did (Int32.toNatClampNeg t)).toInt) {R : Int32 × (Nat → Int32) × (Nat → Int32) × (Nat → Int32) × (Nat → Int32) × (Nat → Int32) × (Nat → Int32)} (hR : R = f_X11_jump t w 1 now register address status did ready trace) : RD t now store common register address status did ready timer trace (f_X8_attempt_c162 now (status (Int32.toNatClampNeg t)) (V2 128 store (Int32.toNatClampNeg t)) (V2 4 timer (Int32.toNatClampNeg t)) common (f_X8_jumpToRegister w (address (Int32.toNatClampNeg t) + 4) (V2 16 register (Int32.toNatClampNeg t))).1 (f_X8_jumpToRegister w (address (Int32.toNatClampNeg t) + 4) (V2 16 register (Int32.toNatClampNeg t))).2.1 (f_X8_jumpToRegister w (address (Int32.toNatClampNeg t) + 4) (V2 16 register (Int32.toNatClampNeg t))).2.2)
    (R.1, store, common, R.2.1, R.2.2.1, R.2.2.2.1, R.2.2.2.2.1, R.2.2.2.2.2.1, timer, R.2.2.2.2.2.2) := by
  subst hR
  unfold f_X8_jumpToRegister f_X8_jumpToRegister_c1 f_X8_jumpToRegister_c6 f_X8_jumpToRegister_c11 f_X8_jumpToRegister_c18 f_X8_jumpToRegister_c25 f_X8_jumpToRegister_c42 f_X8_jumpToRegister_c57 f_X8_attempt_c162 f_X11_jump f_X11_jump_46 f_X11_jump_c48 f_X11_jump_52 f_X11_jump_130 f_X11_jump_c144 f_X11_jump_c157 f_X11_stop f_X1_numberI
  rw [e_rd, e_rs, e_f]
  have hr := q_31 (w >>> ((7 : Int32) &&& 31))
  have hs := q_31 (w >>> ((15 : Int32) &&& 31))
  rw [e_isReg hr.1, e_isReg hs.1]
  by_cases h : (15 : Int32) < ((w >>> ((7 : Int32) &&& 31)) &&& (31 : Int32))
  · simp only [if_pos h]
    by_cases h0 : ((w >>> ((12 : Int32) &&& 31)) &&& (7 : Int32)) = 0
    · simp only [if_pos h0, if_true]
      exact RD.fault _ _ _
    · simp only [if_neg h0]
      exact RD.fault _ _ _
  · simp only [if_neg h, if_neg (show ¬ (1 : Int32) = 0 by decide)]
    by_cases h0 : ((w >>> ((12 : Int32) &&& 31)) &&& (7 : Int32)) = 0
    · simp only [if_pos h0]
      by_cases h1 : (15 : Int32) < ((w >>> ((15 : Int32) &&& 31)) &&& (31 : Int32))
      · simp only [if_pos h1, if_true]
        exact RD.fault _ _ _
      · simp only [if_neg h1, if_neg (show ¬ (1 : Int32) = 0 by decide)]
        rw [e_done ht hd, e_reg ht (e_r16 hs.1 h1)]
        exact RD.set _ _ ht (e_r16 hr.1 h)
    · simp only [if_neg h0]
      by_cases h1 : (15 : Int32) < ((w >>> ((15 : Int32) &&& 31)) &&& (31 : Int32))
      · simp only [if_pos h1]
        exact RD.fault _ _ _
      · simp only [if_neg h1]
        exact RD.fault _ _ _
theorem rd_halt (ht : 0 ≤ t.toInt ∧ t.toInt < 4) (hd : 0 ≤ (did (Int32.toNatClampNeg t)).toInt) : RD t now store common register address status did ready timer trace (f_X8_attempt_c209 now (address (Int32.toNatClampNeg t)) (V2 16 register (Int32.toNatClampNeg t)) (V2 128 store (Int32.toNatClampNeg t)) (V2 4 timer (Int32.toNatClampNeg t)) common (f_X8_halt w (status (Int32.toNatClampNeg t))).1 (f_X8_halt w (status (Int32.toNatClampNeg t))).2)
    (if w = (115 : Int32) then f_X11_turn_c296 t store common register status timer (f_X11_done t ((address (Int32.toNatClampNeg t)) + (4 : Int32)) (now + (4 : Int32)) now address did ready trace).1 (f_X11_done t ((address (Int32.toNatClampNeg t)) + (4 : Int32)) (now + (4 : Int32)) now address did ready trace).2.1 (f_X11_done t ((address (Int32.toNatClampNeg t)) + (4 : Int32)) (now + (4 : Int32)) now address did ready trace).2.2.1 (f_X11_done t ((address (Int32.toNatClampNeg t)) + (4 : Int32)) (now + (4 : Int32)) now address did ready trace).2.2.2.1 (f_X11_done t ((address (Int32.toNatClampNeg t)) + (4 : Int32)) (now + (4 : Int32)) now address did ready trace).2.2.2.2 else f_X11_turn_c274 store common register address did ready timer trace (f_X11_stop t status).1 (f_X11_stop t status).2) := by
  unfold f_X8_halt f_X8_attempt_c209 f_X11_turn_c296 f_X11_turn_c274 f_X11_stop
  by_cases h : w = 115
  · rw [if_pos h, if_pos h, e_done ht hd]
    exact Or.inr (Or.inr ⟨_, _, _, _, _, _, _, _, _, _, _, rfl, rfl, g_up_same _ _, g_up_same _ _, g_up_same _ _, e_up _ _ _⟩)
  · rw [if_neg h, if_neg h]
    exact RD.fault _ _ _
end RunEq
