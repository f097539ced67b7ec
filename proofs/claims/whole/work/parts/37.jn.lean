theorem y_fo1 (room m : Int32) (lab : Int64) (has mis lc : Int32) (lk : Nat → Int64) (lp : Nat → Int32) : f_X0_faultOfLine room m lab has 1 mis lc lk lp = 1 := by
  unfold f_X0_faultOfLine
  rw [if_neg (by decide)]
theorem y_loop {L N T F : Nat} {text K store : Nat → Int32} {V : Nat → Int64} {kat : Int32} (hL : L ≤ 400) (hN4 : N ≤ 401) (hT : T < 4) (hF : F < 128) : ∀ (fC : Nat) {fR n c p j m b d : Nat} {alabel atarget : Int64} {ahas aword amal amis wrong unfit : Int32} {aw : Nat → Int32} {A : Nat → Int64} {lines : Nat → Int32} {lkeys : Nat → Int64} {lplaces : Nat → Int32} {code : Nat → Int32} {label : Nat → Int64} {labelWord : Nat → Int32} {target : Nat → Int64} {tw tl : Nat → Int32}, y_sy L text K V (n + 1) c p → N = c + (n + 1) → j ≤ c → n + 1 < fC → n + 1 < fR → y_inv F m b d aw A lines lkeys lplaces code label labelWord target tw tl → y_R K T F store (f_X0_read_37 fC (Int32.ofNat F) (Int32.ofNat j) (Int32.ofNat m) 0 0 (Int32.ofNat c) alabel ahas aword atarget amal amis aw A lines (Int32.ofNat b) lkeys lplaces (Int32.ofNat N) kat K V) (f_X11_assemble_68 (Int32.ofNat L) text fR (Int32.ofNat T) (Int32.ofNat F) 1 0 (Int32.ofNat p) 0 0 (Int32.ofNat j) (Int32.ofNat m) (Int32.ofNat b) (Int32.ofNat d) wrong unfit code label labelWord target tw tl store) := by
  intro fC
  induction fC with
  | zero => intro fR n c p j m b d _ _ _ _ _ _ _ _ _ _ _ _ _ _ _ _ _ _ _ _ _ _ h; omega
  | succ fC ih =>
    intro fR n c p j m b d alabel atarget ahas aword amal amis wrong unfit aw A lines lkeys lplaces code label labelWord target tw tl h hN hj hfC hfR hi
    obtain ⟨i1, i2, i3, i4, i5, i6, i7⟩ := id hi
    have hcm := y_cnt_le A m
    obtain ⟨fR', rfl⟩ : ∃ x, fR = (x + 1) + 1 := ⟨fR - 2, by omega⟩
    obtain ⟨lab, l2, l3, labels', label', labelWord', hZ, hY⟩ := y_line (line := Int32.ofNat j) (code := code) (label := label) (labelWord := labelWord) (target := target) (tw := tw) (tl := tl) hL hN hN4 hF (show m ≤ 128 by omega) (show d ≤ 128 by omega) i2 h
    have hn1 : ¬ Int32.ofNat N ≤ Int32.ofNat c := fun e => by
      have := (i_le (by omega) (by omega)).mp e; omega
    have hn2 : ¬ (400 : Int32) < Int32.ofNat j := fun e => by
      have := (i_lt (a := 400) (by decide) (by omega)).mp e; omega
    rw [f_X0_read_37]
    unfold f_X0_read_c45 f_X9_size
    rw [if_neg hn1, if_neg hn2]
    unfold f_X0_read_c59 f_X0_read_c68
    rw [f_X11_assemble_68, if_neg (show ¬ (1 : Int32) = 0 by decide)]
    unfold f_X11_assemble_c74
    rcases hY with ⟨x1, x2⟩ | ⟨n', cc, q, has, wd, mis, fault, words', D, tgt, code', t1, t2, t3, hRc, hRr, hq, hsy, ⟨hNc, hcc⟩, hcase⟩
    · rw [x1, y_fo1, if_neg (show ¬ (1 : Int32) = 0 by decide), x2, if_neg (show ¬ (1 : Int32) ≤ 0 by decide)]
      unfold f_X11_assemble_93 f_X11_assemble_119
      rw [if_neg (show ¬ (1 : Int32) = 0 by decide)]
      exact y_bad (fault := 1) (by decide) (by decide) rfl rfl rfl
    · rw [hRc, hRr]
      dsimp only
      obtain ⟨F0, F1⟩ := y_fault hF (show m ≤ 128 by omega) i2 hZ i5 i6
      have hfo : f_X0_faultOfLine ((128 : Int32) - Int32.ofNat F) (Int32.ofNat m) lab has 0 mis (Int32.ofNat b) lkeys lplaces = fault := by
        rcases hcase with ⟨c1, c2, _, c4, _⟩ | ⟨c1, c2, c3, _⟩
        · rw [c1, c2, F0, c4]
        · rw [c1, F1, c3]
      have hfp : ¬ fault = 0 → ¬ fault ≤ 0 := by
        rcases hcase with ⟨_, _, _, c4, _⟩ | ⟨_, _, c3, _⟩
        · rw [c4]; exact y_flp
        · rw [c3]; exact y_flp
      rw [hfo]
      by_cases h0 : fault = 0
      · have hle : fault ≤ 0 := by rw [h0]; decide
        rw [if_pos h0, if_pos hle]
        unfold f_X11_assemble_93 f_X11_assemble_119 f_X0_read_c85
        rw [if_pos h0, i_s j, i_s q]
        -- the next line, or the end
        have cont : ∀ (m' b' d' : Nat) (aw' : Nat → Int32) (A' : Nat → Int64) (lines' : Nat → Int32) (lkeys' : Nat → Int64) (lplaces' : Nat → Int32) (code' : Nat → Int32) (label' : Nat → Int64) (labelWord' : Nat → Int32) (target' : Nat → Int64) (tw' tl' : Nat → Int32), y_inv F m' b' d' aw' A' lines' lkeys' lplaces' code' label' labelWord' target' tw' tl' → y_R K T F store (f_X0_read_37 fC (Int32.ofNat F) (Int32.ofNat (j + 1)) (Int32.ofNat m') 0 0 (Int32.ofNat (cc + 1)) lab has wd tgt 0 mis aw' A' lines' (Int32.ofNat b') lkeys' lplaces' (Int32.ofNat N) kat K V) (if Int32.ofNat L ≤ Int32.ofNat q then (f_X11_assemble_68 (Int32.ofNat L) text (fR' + 1) (Int32.ofNat T) (Int32.ofNat F) 0 0 (Int32.ofNat (q + 1)) fault 0 (Int32.ofNat (j + 1)) (Int32.ofNat m') (Int32.ofNat b') (Int32.ofNat d') 0 mis code' label' labelWord' target' tw' tl' store) else (f_X11_assemble_68 (Int32.ofNat L) text (fR' + 1) (Int32.ofNat T) (Int32.ofNat F) 1 0 (Int32.ofNat (q + 1)) fault 0 (Int32.ofNat (j + 1)) (Int32.ofNat m') (Int32.ofNat b') (Int32.ofNat d') 0 mis code' label' labelWord' target' tw' tl' store)) := by
          intro m' b' d' aw' A' lines' lkeys' lplaces' code' label' labelWord' target' tw' tl' hi'
          rw [h0]
          cases n' with
          | zero =>
            have hqL : q + 1 = L + 1 := hsy
            rw [if_pos ((i_le (by omega) (by omega)).mpr (by omega))]
            obtain ⟨fC', rfl⟩ : ∃ x, fC = x + 1 := ⟨fC - 1, by omega⟩
            rw [f_X0_read_37]
            unfold f_X0_read_c45 f_X9_size
            rw [if_pos ((i_le (by omega) (by omega)).mpr (by omega))]
            exact y_fin (L := L) (N := N) (d := d') hT hF hi'
          | succ n'' =>
            have hqL : q + 1 ≤ L := hsy.1
            rw [if_neg (fun e => by have := (i_le (by omega) (by omega)).mp e; omega)]
            exact ih hsy (by omega) (by omega) (by omega) (by omega) hi'
        -- the label kept
        have hlab : (∃ b' lkeys' lplaces', labels' = Int32.ofNat b' ∧ (∀ line : Int32, f_X0_keepLine line (Int32.ofNat m) lab has wd tgt aw A lines (Int32.ofNat b) lkeys lplaces = f_X0_keepLine_24 (Int32.ofNat m) has wd tgt aw A lines (Int32.ofNat b') lkeys' lplaces' line) ∧ y_inv F m b' d aw A lines lkeys' lplaces' code label' labelWord' target tw tl) := by
          have hl23 : l2 = 0 ∧ l3 = 0 := by
            rcases hcase with ⟨_, _, _, c4, _⟩ | ⟨_, _, c3, _⟩
            · rw [c4] at h0
              exact (y_fl0 h0).2
            · rw [c3] at h0
              obtain ⟨_, z2, z3⟩ := y_fl0 h0
              refine ⟨?_, z3⟩
              by_cases e : l2 = 0 ∧ F + m < 128
              · exact e.1
              · rw [if_neg e] at z2; exact absurd z2 (by decide)
          rcases hZ with ⟨z1, _, _, z4, z5, z6⟩ | ⟨w, z1, z2, z3, z4⟩
          · subst z5; subst z6; subst z1
            exact ⟨b, lkeys, lplaces, z4, fun line => y_keep0, hi⟩
          · have hb16 : b ≠ 16 := by
              intro e
              rw [if_pos e] at z2
              rw [hl23.1] at z2
              exact absurd z2 (by decide)
            obtain ⟨q1, q2, q3⟩ := z4 hb16
            have hno : ∀ i, i < b → lkeys i ≠ lab := by
              rcases y_find (lplaces := lplaces) i2 i5 z1 with ⟨i, hi2, hki, f1, f2⟩ | ⟨hno, f1, f2⟩
              · rw [f2, if_neg (y_nn i (by omega)), hl23.2] at z3
                exact absurd z3 (by decide)
              · exact hno
            subst q2; subst q3
            exact ⟨b + 1, _, _, q1, fun line => y_keepA (by omega) z1, y_inv_lab hi (by omega) z1 hno⟩
        obtain ⟨b', lkeys', lplaces', hb', hkeep, hi'⟩ := hlab
        subst hb'
        rcases hcase with ⟨c1, c2, c3, c4, c5, c6, c7, c8, c9, c10⟩ | ⟨c1, c2, c3, c4, c5, c6⟩
        · rw [hkeep, y_keep24 (Or.inr c1), if_pos c1]
          subst c5; subst c6; subst c7; subst c8; subst c9; subst c10
          exact cont _ _ _ _ _ _ _ _ _ _ _ _ _ _ hi'
        · rw [c3] at h0
          obtain ⟨z1, z2, z3⟩ := y_fl0 h0
          have hlt : F + m < 128 := by
            by_cases e : l2 = 0 ∧ F + m < 128
            · exact e.2
            · rw [if_neg e] at z2; exact absurd z2 (by decide)
          have hcode := c5 hlt z1
          rw [hkeep, y_keep24 (Or.inl (by omega)), if_neg (by rw [c1]; decide)]
          subst c4; subst hcode
          rcases c6 (by omega) with ⟨w1, w2, w3, w4, w5⟩ | ⟨w, w1, w2, w3, w4, w5⟩
          · subst w1; subst w2; subst w3; subst w4; subst w5
            exact cont _ _ _ _ _ _ _ _ _ _ _ _ _ _ (y_inv_w0 hi' hlt)
          · subst w2; subst w3; subst w4; subst w5
            exact cont _ _ _ _ _ _ _ _ _ _ _ _ _ _ (y_inv_w1 hi' hlt w1)
      · rw [if_neg h0, if_neg (hfp h0)]
        unfold f_X11_assemble_93 f_X11_assemble_119
        rw [if_neg h0]
        exact y_bad (hfp h0) h0 rfl rfl rfl
