theorem e_tr0 {trace : Nat → Int32} {tn p : Nat} {a now w : Int32} (ht : tn < 4) (hp : p < 16) : g_up (V3 0 trace) tn (upd (V3 0 trace tn) p a) = V3 0 (eTR trace tn p a now w) := by
  unfold eTR
  rw [V3_other 0 (by omega) _ (p := 2) w (by omega) (by omega), V3_other 0 (by omega) _ (p := 1) now (by omega) (by omega)]
  exact V3_upd 0 (by omega) trace a ht hp
theorem e_tr1 {trace : Nat → Int32} {tn p : Nat} {a now w : Int32} (ht : tn < 4) (hp : p < 16) : g_up (V3 1 trace) tn (upd (V3 1 trace tn) p now) = V3 1 (eTR trace tn p a now w) := by
  unfold eTR
  have h0 : V3 1 (upd trace (48 * tn + 3 * p) a) = V3 1 trace := V3_other 1 (by omega) trace (p := 0) a (by omega) (by omega)
  rw [V3_other 1 (by omega) _ (p := 2) w (by omega) (by omega), ← V3_upd 1 (by omega) _ now ht hp, h0]
theorem e_tr2 {trace : Nat → Int32} {tn p : Nat} {a now w : Int32} (ht : tn < 4) (hp : p < 16) : g_up (V3 2 trace) tn (upd (V3 2 trace tn) p w) = V3 2 (eTR trace tn p a now w) := by
  unfold eTR
  have h0 : V3 2 (upd trace (48 * tn + 3 * p) a) = V3 2 trace := V3_other 2 (by omega) trace (p := 0) a (by omega) (by omega)
  rw [← V3_upd 2 (by omega) _ w ht hp, V3_other 2 (by omega) _ (p := 1) now (by omega) (by omega), h0]
theorem e_didup {did : Nat → Int32} {tn : Nat} {N : Int} (hN : N ≤ 2000000) (hd : ∀ j, j < 4 → 0 ≤ (did j).toInt ∧ (did j).toInt ≤ N) (ht : tn < 4) : ∀ j, j < 4 → 0 ≤ (upd did tn (did tn + 1) j).toInt ∧ (upd did tn (did tn + 1) j).toInt ≤ N + 1 := by
  intro j hj
  rw [upd_at]
  by_cases h : j = tn
  · rw [if_pos h]
    have h1 := hd tn ht
    rw [q_inc (by omega)]
    omega
  · rw [if_neg h]
    have h1 := hd j hj
    omega
section RunEq6
variable {t wheel now w : Int32} {store common low high register address status did ready timer trace : Nat → Int32}
theorem e_take (ht : 0 ≤ t.toInt ∧ t.toInt < 4) (hdd : ∀ j, j < 4 → 0 ≤ (did j).toInt ∧ (did j).toInt ≤ now.toInt) (hlh : ∀ j, j < 4 → 0 ≤ (low j).toInt ∧ (low j).toInt ≤ (high j).toInt ∧ (high j).toInt ≤ 64) (hw : 1 ≤ wheel.toInt ∧ wheel.toInt ≤ 8) (hnow : 0 ≤ now.toInt ∧ now.toInt ≤ 2000000) (nx rt : Int32) {z : Int32} {store2 common2 register2 address2 status2 did2 ready2 timer2 trace2 : Nat → Int32} (hR : f_X11_turn t wheel now store common low high register address status did ready timer trace = (z, store2, common2, register2, address2, status2, did2, ready2, timer2, trace2)) :
    ∃ (s' a' r' nx' rt' : Int32) (rg st : Nat → Int32) (hc : Int32) (ha hcy hr tm : Nat → Int32), f_X8_takeTurn now (low (Int32.toNatClampNeg t)) (high (Int32.toNatClampNeg t)) t (status (Int32.toNatClampNeg t)) (address (Int32.toNatClampNeg t)) (ready (Int32.toNatClampNeg t)) nx rt (V2 16 register (Int32.toNatClampNeg t)) (V2 128 store (Int32.toNatClampNeg t)) (did (Int32.toNatClampNeg t)) (V3 0 trace (Int32.toNatClampNeg t)) (V3 1 trace (Int32.toNatClampNeg t)) (V3 2 trace (Int32.toNatClampNeg t)) (V2 4 timer (Int32.toNatClampNeg t)) wheel common = (z, s', a', r', nx', rt', rg, st, hc, ha, hcy, hr, tm, common2) ∧
      g_up status (Int32.toNatClampNeg t) s' = status2 ∧ g_up address (Int32.toNatClampNeg t) a' = address2 ∧ g_up ready (Int32.toNatClampNeg t) r' = ready2 ∧ g_up (V2 16 register) (Int32.toNatClampNeg t) rg = V2 16 register2 ∧ g_up (V2 128 store) (Int32.toNatClampNeg t) st = V2 128 store2 ∧ g_up did (Int32.toNatClampNeg t) hc = did2 ∧ g_up (V3 0 trace) (Int32.toNatClampNeg t) ha = V3 0 trace2 ∧ g_up (V3 1 trace) (Int32.toNatClampNeg t) hcy = V3 1 trace2 ∧ g_up (V3 2 trace) (Int32.toNatClampNeg t) hr = V3 2 trace2 ∧ g_up (V2 4 timer) (Int32.toNatClampNeg t) tm = V2 4 timer2 ∧ (z = 0 ∨ z = 1) ∧ (∀ j, j < 4 → 0 ≤ (did2 j).toInt ∧ (did2 j).toInt ≤ now.toInt + 1) := by
  have htn := e_clt (m := 4) ht.1 ht.2
  have hd0 := (hdd _ htn).1
  have same : (0, store, common, register, address, status, did, ready, timer, trace) = (z, store2, common2, register2, address2, status2, did2, ready2, timer2, trace2) → ∃ (s' a' r' nx' rt' : Int32) (rg st : Nat → Int32) (hc : Int32) (ha hcy hr tm : Nat → Int32), ((0 : Int32), status (Int32.toNatClampNeg t), address (Int32.toNatClampNeg t), ready (Int32.toNatClampNeg t), nx, rt, V2 16 register (Int32.toNatClampNeg t), V2 128 store (Int32.toNatClampNeg t), did (Int32.toNatClampNeg t), V3 0 trace (Int32.toNatClampNeg t), V3 1 trace (Int32.toNatClampNeg t), V3 2 trace (Int32.toNatClampNeg t), V2 4 timer (Int32.toNatClampNeg t), common) = (z, s', a', r', nx', rt', rg, st, hc, ha, hcy, hr, tm, common2) ∧
      g_up status (Int32.toNatClampNeg t) s' = status2 ∧ g_up address (Int32.toNatClampNeg t) a' = address2 ∧ g_up ready (Int32.toNatClampNeg t) r' = ready2 ∧ g_up (V2 16 register) (Int32.toNatClampNeg t) rg = V2 16 register2 ∧ g_up (V2 128 store) (Int32.toNatClampNeg t) st = V2 128 store2 ∧ g_up did (Int32.toNatClampNeg t) hc = did2 ∧ g_up (V3 0 trace) (Int32.toNatClampNeg t) ha = V3 0 trace2 ∧ g_up (V3 1 trace) (Int32.toNatClampNeg t) hcy = V3 1 trace2 ∧ g_up (V3 2 trace) (Int32.toNatClampNeg t) hr = V3 2 trace2 ∧ g_up (V2 4 timer) (Int32.toNatClampNeg t) tm = V2 4 timer2 ∧ (z = 0 ∨ z = 1) ∧ (∀ j, j < 4 → 0 ≤ (did2 j).toInt ∧ (did2 j).toInt ≤ now.toInt + 1) := by
    intro h
    cases h
    exact ⟨_, _, _, _, _, _, _, _, _, _, _, _, rfl, g_up_same _ _, g_up_same _ _, g_up_same _ _, g_up_same _ _, g_up_same _ _, g_up_same _ _, g_up_same _ _, g_up_same _ _, g_up_same _ _, g_up_same _ _, Or.inl rfl, fun j hj => ⟨(hdd j hj).1, by have := (hdd j hj).2; omega⟩⟩
  unfold f_X8_takeTurn
  unfold f_X11_turn at hR
  by_cases h1 : status (Int32.toNatClampNeg t) = 1
  · rw [if_pos h1] at hR ⊢
    by_cases h2 : ready (Int32.toNatClampNeg t) ≤ now
    · rw [if_pos h2] at hR ⊢
      have hRD := rd_turn (t := t) (now := now) (store := store) (common := common) (register := register) (address := address) (status := status) (did := did) (ready := ready) (timer := timer) (trace := trace) ht hd0 (hlh _ htn) hw hnow nx rt
      rw [hR] at hRD
      rcases hRD with ⟨st, nx1, rt1, e1, e2⟩ | ⟨nx1, rt1, e1, e2⟩ | ⟨st, nx1, rt1, rg, ts, tm, mw, s2, r2, st2, t2, e1, e2, q1, q2, q3, q4⟩
      · rw [e1]
        cases e2
        exact ⟨_, _, _, _, _, _, _, _, _, _, _, _, rfl, e_up _ _ _, g_up_same _ _, g_up_same _ _, g_up_same _ _, g_up_same _ _, g_up_same _ _, g_up_same _ _, g_up_same _ _, g_up_same _ _, g_up_same _ _, Or.inl rfl, fun j hj => ⟨(hdd j hj).1, by have := (hdd j hj).2; omega⟩⟩
      · rw [e1]
        cases e2
        exact ⟨_, _, _, _, _, _, _, _, _, _, _, _, rfl, g_up_same _ _, g_up_same _ _, g_up_same _ _, g_up_same _ _, g_up_same _ _, g_up_same _ _, g_up_same _ _, g_up_same _ _, g_up_same _ _, g_up_same _ _, Or.inl rfl, fun j hj => ⟨(hdd j hj).1, by have := (hdd j hj).2; omega⟩⟩
      · rw [e1]
        cases e2
        have hp := e_place_r hd0
        have hpn := e_clt (m := 16) hp.1 hp.2
        unfold f_X8_takeTurn_c21 f_X8_takeTurn_37 f_X8_takeTurn_c59 f_X2_add f_X2_add_c4
        rw [e_place hd0]
        refine ⟨_, _, _, _, _, _, _, _, _, _, _, _, rfl, q4, e_up _ _ _, e_up _ _ _, q1, q2, e_up _ _ _, e_tr0 htn hpn, e_tr1 htn hpn, e_tr2 htn hpn, q3, Or.inr rfl, e_didup (by omega) hdd htn⟩
    · rw [if_neg h2] at hR ⊢
      exact same hR
  · rw [if_neg h1] at hR ⊢
    exact same hR
end RunEq6
theorem e_num {t : Int32} (h : 0 ≤ t.toInt) : Int32.ofNat (Int32.toNatClampNeg t) = t := by
  have h1 := e_cl h
  have h2 := t.toInt_lt
  refine Int32.toInt_inj.mp ?_
  rw [e_c _ (by omega)]
  exact h1
theorem e_loop {wheel n refusal : Int32} {low high : Nat → Int32} (hlh : ∀ j, j < 4 → 0 ≤ (low j).toInt ∧ (low j).toInt ≤ (high j).toInt ∧ (high j).toInt ≤ 64) (hw : 1 ≤ wheel.toInt ∧ wheel.toInt ≤ 8) : ∀ (f : Nat) (many k now : Int32) (store common register address status did ready timer trace xnext xret : Nat → Int32), 0 ≤ k.toInt → k.toInt ≤ n.toInt → n.toInt - k.toInt < f → 0 ≤ now.toInt → now.toInt + (n.toInt - k.toInt) ≤ 1900000 → (∀ j, j < 4 → 0 ≤ (did j).toInt ∧ (did j).toInt ≤ now.toInt) →
    ∀ {z0 z1 z2 : Int32} {z3 z4 z5 z6 z7 z8 z9 z10 z11 : Nat → Int32}, f_X11_run_22 wheel low high f n many k refusal now store common register address status did ready timer trace = (z0, z1, z2, z3, z4, z5, z6, z7, z8, z9, z10, z11) →
    (∃ a b : Nat → Int32, f_X10_run_17 wheel low high (fun j => Int32.ofNat j) f n many k now common status address ready xnext xret (V2 16 register) (V2 128 store) did (V3 0 trace) (V3 1 trace) (V3 2 trace) (V2 4 timer) = (z0, z2, z4, z7, z6, z9, a, b, V2 16 z5, V2 128 z3, z8, V3 0 z11, V3 1 z11, V3 2 z11, V2 4 z10)) ∧ z2.toInt = now.toInt + (n.toInt - k.toInt) ∧ (∀ j, j < 4 → 0 ≤ (z8 j).toInt ∧ (z8 j).toInt ≤ z2.toInt)
  | 0, many, k, now, store, common, register, address, status, did, ready, timer, trace, xnext, xret, h0, h1, h2, h3, h4, h5, z0, z1, z2, z3, z4, z5, z6, z7, z8, z9, z10, z11, hz => by
    exfalso
    omega
  | f + 1, many, k, now, store, common, register, address, status, did, ready, timer, trace, xnext, xret, h0, h1, h2, h3, h4, h5, z0, z1, z2, z3, z4, z5, z6, z7, z8, z9, z10, z11, hz => by
    unfold f_X11_run_22 at hz
    unfold f_X10_run_17
    by_cases hk : n ≤ k
    · rw [if_pos hk] at hz ⊢
      have g := q_le hk
      cases hz
      exact ⟨⟨_, _, rfl⟩, by omega, h5⟩
    · rw [if_neg hk] at hz ⊢
      have g := q_nle hk
      have ht : 0 ≤ (now - now / 4 * 4).toInt ∧ (now - now / 4 * 4).toInt < 4 := by
        rw [q_rem h3 (by decide), e_4]
        omega
      rw [e_fmod h3 (by decide)]
      unfold f_X11_run_c35 at hz
      unfold f_X10_run_c31
      generalize now - now / 4 * 4 = t at *
      rcases hR : f_X11_turn t wheel now store common low high register address status did ready timer trace with ⟨z, y1, y2, y3, y4, y5, y6, y7, y8, y9⟩
      rw [hR] at hz
      obtain ⟨s', a', r', nx', rt', rg, st, hc, ha, hcy, hr, tm, hT, g1, g2, g3, g4, g5, g6, g7, g8, g9, g10, hz01, hdid⟩ := e_take ht h5 hlh hw ⟨h3, by omega⟩ (xnext (Int32.toNatClampNeg t)) (xret (Int32.toNatClampNeg t)) hR
      rw [show (fun j => Int32.ofNat j) (Int32.toNatClampNeg t) = t from e_num ht.1, hT]
      dsimp only at hz ⊢
      unfold f_X10_run_c43 f_X10_run_52
      have hn9 := n.toInt_lt
      have hi : (k + 1).toInt = k.toInt + 1 := q_inc (by omega)
      have hin : (now + 1).toInt = now.toInt + 1 := q_inc (by omega)
      rw [g1, g2, g3, g4, g5, g6, g7, g8, g9, g10]
      have ih := e_loop hlh hw f (many + z) (k + 1) (now + 1) y1 y2 y3 y4 y5 y6 y7 y8 y9 (g_up xnext (Int32.toNatClampNeg t) nx') (g_up xret (Int32.toNatClampNeg t) rt') (by omega) (by omega) (by omega) (by omega) (by omega) (by rw [hin]; exact hdid) hz
      rw [hi, hin] at ih
      refine ⟨?_, by omega, ih.2.2⟩
      rcases hz01 with rfl | rfl
      · rw [if_pos rfl]
        rw [Int32.add_zero] at ih
        exact ih.1
      · rw [if_neg (by decide)]
        exact ih.1
theorem e_run {n wheel now : Int32} {store common low high register address status did ready timer trace : Nat → Int32} (xnext xret : Nat → Int32) (hlh : ∀ j, j < 4 → 0 ≤ (low j).toInt ∧ (low j).toInt ≤ (high j).toInt ∧ (high j).toInt ≤ 64) (hwh : 1 ≤ wheel.toInt ∧ wheel.toInt ≤ 8) (hnow : 0 ≤ now.toInt ∧ now.toInt ≤ 1098000) (hd : ∀ j, j < 4 → 0 ≤ (did j).toInt ∧ (did j).toInt ≤ now.toInt)
    {z0 z1 z2 : Int32} {z3 z4 z5 z6 z7 z8 z9 z10 z11 : Nat → Int32} (hz : (z0, z1, z2, z3, z4, z5, z6, z7, z8, z9, z10, z11) = f_X11_run n wheel now store common low high register address status did ready timer trace) :
    (∃ a b : Nat → Int32, (z0, z2, z4, z7, z6, z9, a, b, V2 16 z5, V2 128 z3, z8, V3 0 z11, V3 1 z11, V3 2 z11, V2 4 z10) = f_X10_run n now wheel common low high (fun j => Int32.ofNat j) status address ready xnext xret (V2 16 register) (V2 128 store) did (V3 0 trace) (V3 1 trace) (V3 2 trace) (V2 4 timer)) ∧ (0 ≤ z2.toInt ∧ z2.toInt ≤ now.toInt + 2000) ∧ (∀ j, j < 4 → 0 ≤ (z8 j).toInt ∧ (z8 j).toInt ≤ z2.toInt) := by
  unfold f_X11_run at hz
  unfold f_X10_run
  have e0 := e_0
  have e2 : (2000 : Int32).toInt = 2000 := by decide
  by_cases h1 : n < 0
  · rw [if_pos h1] at hz ⊢
    cases hz
    exact ⟨⟨_, _, rfl⟩, ⟨hnow.1, by omega⟩, hd⟩
  · rw [if_neg h1] at hz ⊢
    have g1 := q_nlt h1
    by_cases h2 : n ≤ 2000
    · rw [if_pos h2] at hz ⊢
      have g2 := q_le h2
      obtain ⟨⟨a, b, h⟩, h3, h4⟩ := e_loop hlh hwh 2001 0 0 now store common register address status did ready timer trace xnext xret (by decide) (by omega) (by omega) hnow.1 (by omega) hd hz.symm
      exact ⟨⟨a, b, h.symm⟩, ⟨by omega, by omega⟩, h4⟩
    · rw [if_neg h2] at hz ⊢
      cases hz
      exact ⟨⟨_, _, rfl⟩, ⟨hnow.1, by omega⟩, hd⟩
