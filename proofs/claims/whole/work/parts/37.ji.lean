def m_ref : List Int32 := [887, 1782, 1651, 1589, 3637, 9781, 11829, 13877, 15925, 4147, 51, 8243, 4660, 564, 306, 4402, 6450, 8498, 12594, 14642, 2360, 10552, 534840, 817, 2865, 4913, 6961, 9009, 11057, 13105, 15153, 525105, 535345, 185, 2234, 1851, 12]
theorem y_cmp0 {a b : Int64} (h : lg_cmp a b = 0) : a = b := Int64.toInt_inj.mp ((e_lcmp_eq a b).mp h)
theorem y_m0 : y_key 12969 6911340 := ⟨[9, 21, 12], by decide, by decide, by decide, by decide +kernel, by decide +kernel⟩
theorem y_m1 : y_key 10284 7102826 := ⟨[12, 1, 10], by decide, by decide, by decide, by decide +kernel, by decide +kernel⟩
theorem y_m2 : y_key 329106 1919705450 := ⟨[18, 12, 1, 10], by decide, by decide, by decide, by decide +kernel, by decide +kernel⟩
theorem y_m3 : y_key 2225 7431522 := ⟨[17, 5, 2], by decide, by decide, by decide, by decide +kernel, by decide +kernel⟩
theorem y_m4 : y_key 2501 6647394 := ⟨[5, 14, 2], by decide, by decide, by decide, by decide +kernel, by decide +kernel⟩
theorem y_m5 : y_key 2452 7629922 := ⟨[20, 12, 2], by decide, by decide, by decide, by decide +kernel, by decide +kernel⟩
theorem y_m6 : y_key 2277 6645602 := ⟨[5, 7, 2], by decide, by decide, by decide, by decide +kernel, by decide +kernel⟩
theorem y_m7 : y_key 78485 1970564194 := ⟨[21, 20, 12, 2], by decide, by decide, by decide, by decide +kernel, by decide +kernel⟩
theorem y_m8 : y_key 72885 1969579874 := ⟨[21, 5, 7, 2], by decide, by decide, by decide, by decide +kernel, by decide +kernel⟩
theorem y_m9 : y_key 407 30572 := ⟨[23, 12], by decide, by decide, by decide, by decide +kernel, by decide +kernel⟩
theorem y_m10 : y_key 386 25196 := ⟨[2, 12], by decide, by decide, by decide, by decide +kernel, by decide +kernel⟩
theorem y_m11 : y_key 12373 7692908 := ⟨[21, 2, 12], by decide, by decide, by decide, by decide +kernel, by decide +kernel⟩
theorem y_m12 : y_key 631 30579 := ⟨[23, 19], by decide, by decide, by decide, by decide +kernel, by decide +kernel⟩
theorem y_m13 : y_key 610 25203 := ⟨[2, 19], by decide, by decide, by decide, by decide +kernel, by decide +kernel⟩
theorem y_m14 : y_key 37001 1768186977 := ⟨[9, 4, 4, 1], by decide, by decide, by decide, by decide +kernel, by decide +kernel⟩
theorem y_m15 : y_key 635529 1769237619 := ⟨[9, 20, 12, 19], by decide, by decide, by decide, by decide +kernel, by decide +kernel⟩
theorem y_m16 : y_key 20336949 504280411251 := ⟨[21, 9, 20, 12, 19], by decide, by decide, by decide, by decide +kernel, by decide +kernel⟩
theorem y_m17 : y_key 802377 1769107320 := ⟨[9, 18, 15, 24], by decide, by decide, by decide, by decide +kernel, by decide +kernel⟩
theorem y_m18 : y_key 15945 6910575 := ⟨[9, 18, 15], by decide, by decide, by decide, by decide +kernel, by decide +kernel⟩
theorem y_m19 : y_key 47241 1768189537 := ⟨[9, 4, 14, 1], by decide, by decide, by decide, by decide +kernel, by decide +kernel⟩
theorem y_m20 : y_key 635273 1768713331 := ⟨[9, 12, 12, 19], by decide, by decide, by decide, by decide +kernel, by decide +kernel⟩
theorem y_m21 : y_key 641417 1768714867 := ⟨[9, 12, 18, 19], by decide, by decide, by decide, by decide +kernel, by decide +kernel⟩
theorem y_m22 : y_key 641065 1767993971 := ⟨[9, 1, 18, 19], by decide, by decide, by decide, by decide +kernel, by decide +kernel⟩
theorem y_m23 : y_key 1156 6579297 := ⟨[4, 4, 1], by decide, by decide, by decide, by decide +kernel, by decide +kernel⟩
theorem y_m24 : y_key 19852 7105651 := ⟨[12, 12, 19], by decide, by decide, by decide, by decide +kernel, by decide +kernel⟩
theorem y_m25 : y_key 19860 7629939 := ⟨[20, 12, 19], by decide, by decide, by decide, by decide +kernel, by decide +kernel⟩
theorem y_m26 : y_key 635541 1970564211 := ⟨[21, 20, 12, 19], by decide, by decide, by decide, by decide +kernel, by decide +kernel⟩
theorem y_m27 : y_key 25074 7499640 := ⟨[18, 15, 24], by decide, by decide, by decide, by decide +kernel, by decide +kernel⟩
theorem y_m28 : y_key 20044 7107187 := ⟨[12, 18, 19], by decide, by decide, by decide, by decide +kernel, by decide +kernel⟩
theorem y_m29 : y_key 498 29295 := ⟨[18, 15], by decide, by decide, by decide, by decide +kernel, by decide +kernel⟩
theorem y_m30 : y_key 1476 6581857 := ⟨[4, 14, 1], by decide, by decide, by decide, by decide +kernel, by decide +kernel⟩
theorem y_m31 : y_key 20130 6452595 := ⟨[2, 21, 19], by decide, by decide, by decide, by decide +kernel, by decide +kernel⟩
theorem y_m32 : y_key 20033 6386291 := ⟨[1, 18, 19], by decide, by decide, by decide, by decide +kernel, by decide +kernel⟩
theorem y_m33 : y_key 136228 1684104548 := ⟨[4, 1, 5, 4], by decide, by decide, by decide, by decide +kernel, by decide +kernel⟩
theorem y_m34 : y_key 3968389 435610155363 := ⟨[5, 12, 3, 25, 3], by decide, by decide, by decide, by decide +kernel, by decide +kernel⟩
theorem y_m35 : y_key 263572 1953259880 := ⟨[20, 12, 1, 8], by decide, by decide, by decide, by decide +kernel, by decide +kernel⟩
theorem y_m36 : y_key 769604 1685221239 := ⟨[4, 18, 15, 23], by decide, by decide, by decide, by decide +kernel, by decide +kernel⟩
theorem y_mn0 {k : Int64} : ∀ (n : Nat) {i : Nat}, i ≤ 37 → 37 - i < n → (∀ j, i ≤ j → j < 37 → m_key.getD j 0 ≠ k) → f_X0_mnemonicOf_2 n k (Int32.ofNat i) = -1 := by
  intro n
  induction n with
  | zero => intro i _ h; omega
  | succ n ih =>
    intro i hi hn hk
    rw [f_X0_mnemonicOf_2]
    have e37 : ((37 : Int32) ≤ Int32.ofNat i) ↔ 37 ≤ i := i_le (by decide) (by omega)
    by_cases h : 37 ≤ i
    · rw [if_pos (e37.mpr h)]
    · rw [if_neg (fun h2 => h (e37.mp h2)), i_cl (by omega), if_neg (fun h2 => hk i (Nat.le_refl i) (by omega) (y_cmp0 h2)), i_s]
      exact ih (by omega) (by omega) (fun j a b => hk j (by omega) b)
theorem y_look {k w : Int64} (h : y_key k w) : (f_X0_mnemonicOf k = -1 ∧ f_X11_lookup w = 0) ∨ ∃ i, i < 37 ∧ f_X0_mnemonicOf k = Int32.ofNat i ∧ f_X11_lookup w = m_ref.getD i 0 := by
  by_cases h0 : k = 12969
  · right
    refine ⟨0, by decide, by rw [h0]; decide +kernel, ?_⟩
    rw [(y_key_inj h y_m0).mp h0]; decide +kernel
  by_cases h1 : k = 10284
  · right
    refine ⟨1, by decide, by rw [h1]; decide +kernel, ?_⟩
    rw [(y_key_inj h y_m1).mp h1]; decide +kernel
  by_cases h2 : k = 329106
  · right
    refine ⟨2, by decide, by rw [h2]; decide +kernel, ?_⟩
    rw [(y_key_inj h y_m2).mp h2]; decide +kernel
  by_cases h3 : k = 2225
  · right
    refine ⟨3, by decide, by rw [h3]; decide +kernel, ?_⟩
    rw [(y_key_inj h y_m3).mp h3]; decide +kernel
  by_cases h4 : k = 2501
  · right
    refine ⟨4, by decide, by rw [h4]; decide +kernel, ?_⟩
    rw [(y_key_inj h y_m4).mp h4]; decide +kernel
  by_cases h5 : k = 2452
  · right
    refine ⟨5, by decide, by rw [h5]; decide +kernel, ?_⟩
    rw [(y_key_inj h y_m5).mp h5]; decide +kernel
  by_cases h6 : k = 2277
  · right
    refine ⟨6, by decide, by rw [h6]; decide +kernel, ?_⟩
    rw [(y_key_inj h y_m6).mp h6]; decide +kernel
  by_cases h7 : k = 78485
  · right
    refine ⟨7, by decide, by rw [h7]; decide +kernel, ?_⟩
    rw [(y_key_inj h y_m7).mp h7]; decide +kernel
  by_cases h8 : k = 72885
  · right
    refine ⟨8, by decide, by rw [h8]; decide +kernel, ?_⟩
    rw [(y_key_inj h y_m8).mp h8]; decide +kernel
  by_cases h9 : k = 407
  · right
    refine ⟨9, by decide, by rw [h9]; decide +kernel, ?_⟩
    rw [(y_key_inj h y_m9).mp h9]; decide +kernel
  by_cases h10 : k = 386
  · right
    refine ⟨10, by decide, by rw [h10]; decide +kernel, ?_⟩
    rw [(y_key_inj h y_m10).mp h10]; decide +kernel
  by_cases h11 : k = 12373
  · right
    refine ⟨11, by decide, by rw [h11]; decide +kernel, ?_⟩
    rw [(y_key_inj h y_m11).mp h11]; decide +kernel
  by_cases h12 : k = 631
  · right
    refine ⟨12, by decide, by rw [h12]; decide +kernel, ?_⟩
    rw [(y_key_inj h y_m12).mp h12]; decide +kernel
  by_cases h13 : k = 610
  · right
    refine ⟨13, by decide, by rw [h13]; decide +kernel, ?_⟩
    rw [(y_key_inj h y_m13).mp h13]; decide +kernel
  by_cases h14 : k = 37001
  · right
    refine ⟨14, by decide, by rw [h14]; decide +kernel, ?_⟩
    rw [(y_key_inj h y_m14).mp h14]; decide +kernel
  by_cases h15 : k = 635529
  · right
    refine ⟨15, by decide, by rw [h15]; decide +kernel, ?_⟩
    rw [(y_key_inj h y_m15).mp h15]; decide +kernel
  by_cases h16 : k = 20336949
  · right
    refine ⟨16, by decide, by rw [h16]; decide +kernel, ?_⟩
    rw [(y_key_inj h y_m16).mp h16]; decide +kernel
  by_cases h17 : k = 802377
  · right
    refine ⟨17, by decide, by rw [h17]; decide +kernel, ?_⟩
    rw [(y_key_inj h y_m17).mp h17]; decide +kernel
  by_cases h18 : k = 15945
  · right
    refine ⟨18, by decide, by rw [h18]; decide +kernel, ?_⟩
    rw [(y_key_inj h y_m18).mp h18]; decide +kernel
  by_cases h19 : k = 47241
  · right
    refine ⟨19, by decide, by rw [h19]; decide +kernel, ?_⟩
    rw [(y_key_inj h y_m19).mp h19]; decide +kernel
  by_cases h20 : k = 635273
  · right
    refine ⟨20, by decide, by rw [h20]; decide +kernel, ?_⟩
    rw [(y_key_inj h y_m20).mp h20]; decide +kernel
  by_cases h21 : k = 641417
  · right
    refine ⟨21, by decide, by rw [h21]; decide +kernel, ?_⟩
    rw [(y_key_inj h y_m21).mp h21]; decide +kernel
  by_cases h22 : k = 641065
  · right
    refine ⟨22, by decide, by rw [h22]; decide +kernel, ?_⟩
    rw [(y_key_inj h y_m22).mp h22]; decide +kernel
  by_cases h23 : k = 1156
  · right
    refine ⟨23, by decide, by rw [h23]; decide +kernel, ?_⟩
    rw [(y_key_inj h y_m23).mp h23]; decide +kernel
  by_cases h24 : k = 19852
  · right
    refine ⟨24, by decide, by rw [h24]; decide +kernel, ?_⟩
    rw [(y_key_inj h y_m24).mp h24]; decide +kernel
  by_cases h25 : k = 19860
  · right
    refine ⟨25, by decide, by rw [h25]; decide +kernel, ?_⟩
    rw [(y_key_inj h y_m25).mp h25]; decide +kernel
  by_cases h26 : k = 635541
  · right
    refine ⟨26, by decide, by rw [h26]; decide +kernel, ?_⟩
    rw [(y_key_inj h y_m26).mp h26]; decide +kernel
  by_cases h27 : k = 25074
  · right
    refine ⟨27, by decide, by rw [h27]; decide +kernel, ?_⟩
    rw [(y_key_inj h y_m27).mp h27]; decide +kernel
  by_cases h28 : k = 20044
  · right
    refine ⟨28, by decide, by rw [h28]; decide +kernel, ?_⟩
    rw [(y_key_inj h y_m28).mp h28]; decide +kernel
  by_cases h29 : k = 498
  · right
    refine ⟨29, by decide, by rw [h29]; decide +kernel, ?_⟩
    rw [(y_key_inj h y_m29).mp h29]; decide +kernel
  by_cases h30 : k = 1476
  · right
    refine ⟨30, by decide, by rw [h30]; decide +kernel, ?_⟩
    rw [(y_key_inj h y_m30).mp h30]; decide +kernel
  by_cases h31 : k = 20130
  · right
    refine ⟨31, by decide, by rw [h31]; decide +kernel, ?_⟩
    rw [(y_key_inj h y_m31).mp h31]; decide +kernel
  by_cases h32 : k = 20033
  · right
    refine ⟨32, by decide, by rw [h32]; decide +kernel, ?_⟩
    rw [(y_key_inj h y_m32).mp h32]; decide +kernel
  by_cases h33 : k = 136228
  · right
    refine ⟨33, by decide, by rw [h33]; decide +kernel, ?_⟩
    rw [(y_key_inj h y_m33).mp h33]; decide +kernel
  by_cases h34 : k = 3968389
  · right
    refine ⟨34, by decide, by rw [h34]; decide +kernel, ?_⟩
    rw [(y_key_inj h y_m34).mp h34]; decide +kernel
  by_cases h35 : k = 263572
  · right
    refine ⟨35, by decide, by rw [h35]; decide +kernel, ?_⟩
    rw [(y_key_inj h y_m35).mp h35]; decide +kernel
  by_cases h36 : k = 769604
  · right
    refine ⟨36, by decide, by rw [h36]; decide +kernel, ?_⟩
    rw [(y_key_inj h y_m36).mp h36]; decide +kernel
  left
  refine ⟨?_, ?_⟩
  · refine y_mn0 38 (i := 0) (by omega) (by omega) (fun j _ hj => ?_)
    match j, hj with
    | 0, _ => exact fun e => h0 e.symm
    | 1, _ => exact fun e => h1 e.symm
    | 2, _ => exact fun e => h2 e.symm
    | 3, _ => exact fun e => h3 e.symm
    | 4, _ => exact fun e => h4 e.symm
    | 5, _ => exact fun e => h5 e.symm
    | 6, _ => exact fun e => h6 e.symm
    | 7, _ => exact fun e => h7 e.symm
    | 8, _ => exact fun e => h8 e.symm
    | 9, _ => exact fun e => h9 e.symm
    | 10, _ => exact fun e => h10 e.symm
    | 11, _ => exact fun e => h11 e.symm
    | 12, _ => exact fun e => h12 e.symm
    | 13, _ => exact fun e => h13 e.symm
    | 14, _ => exact fun e => h14 e.symm
    | 15, _ => exact fun e => h15 e.symm
    | 16, _ => exact fun e => h16 e.symm
    | 17, _ => exact fun e => h17 e.symm
    | 18, _ => exact fun e => h18 e.symm
    | 19, _ => exact fun e => h19 e.symm
    | 20, _ => exact fun e => h20 e.symm
    | 21, _ => exact fun e => h21 e.symm
    | 22, _ => exact fun e => h22 e.symm
    | 23, _ => exact fun e => h23 e.symm
    | 24, _ => exact fun e => h24 e.symm
    | 25, _ => exact fun e => h25 e.symm
    | 26, _ => exact fun e => h26 e.symm
    | 27, _ => exact fun e => h27 e.symm
    | 28, _ => exact fun e => h28 e.symm
    | 29, _ => exact fun e => h29 e.symm
    | 30, _ => exact fun e => h30 e.symm
    | 31, _ => exact fun e => h31 e.symm
    | 32, _ => exact fun e => h32 e.symm
    | 33, _ => exact fun e => h33 e.symm
    | 34, _ => exact fun e => h34 e.symm
    | 35, _ => exact fun e => h35 e.symm
    | 36, _ => exact fun e => h36 e.symm
    | j + 37, hj => omega
  · unfold f_X11_lookup
    rw [if_neg (fun e => h0 ((y_key_inj h y_m0).mpr (y_cmp0 e))), if_neg (fun e => h1 ((y_key_inj h y_m1).mpr (y_cmp0 e))), if_neg (fun e => h2 ((y_key_inj h y_m2).mpr (y_cmp0 e))), if_neg (fun e => h3 ((y_key_inj h y_m3).mpr (y_cmp0 e))), if_neg (fun e => h4 ((y_key_inj h y_m4).mpr (y_cmp0 e))), if_neg (fun e => h5 ((y_key_inj h y_m5).mpr (y_cmp0 e))), if_neg (fun e => h6 ((y_key_inj h y_m6).mpr (y_cmp0 e))), if_neg (fun e => h7 ((y_key_inj h y_m7).mpr (y_cmp0 e))), if_neg (fun e => h8 ((y_key_inj h y_m8).mpr (y_cmp0 e))), if_neg (fun e => h9 ((y_key_inj h y_m9).mpr (y_cmp0 e))), if_neg (fun e => h10 ((y_key_inj h y_m10).mpr (y_cmp0 e))), if_neg (fun e => h11 ((y_key_inj h y_m11).mpr (y_cmp0 e))), if_neg (fun e => h12 ((y_key_inj h y_m12).mpr (y_cmp0 e))), if_neg (fun e => h13 ((y_key_inj h y_m13).mpr (y_cmp0 e))), if_neg (fun e => h14 ((y_key_inj h y_m14).mpr (y_cmp0 e))), if_neg (fun e => h15 ((y_key_inj h y_m15).mpr (y_cmp0 e))), if_neg (fun e => h16 ((y_key_inj h y_m16).mpr (y_cmp0 e))), if_neg (fun e => h17 ((y_key_inj h y_m17).mpr (y_cmp0 e))), if_neg (fun e => h18 ((y_key_inj h y_m18).mpr (y_cmp0 e))), if_neg (fun e => h19 ((y_key_inj h y_m19).mpr (y_cmp0 e))), if_neg (fun e => h20 ((y_key_inj h y_m20).mpr (y_cmp0 e))), if_neg (fun e => h21 ((y_key_inj h y_m21).mpr (y_cmp0 e))), if_neg (fun e => h22 ((y_key_inj h y_m22).mpr (y_cmp0 e))), if_neg (fun e => h23 ((y_key_inj h y_m23).mpr (y_cmp0 e))), if_neg (fun e => h24 ((y_key_inj h y_m24).mpr (y_cmp0 e))), if_neg (fun e => h25 ((y_key_inj h y_m25).mpr (y_cmp0 e))), if_neg (fun e => h26 ((y_key_inj h y_m26).mpr (y_cmp0 e))), if_neg (fun e => h27 ((y_key_inj h y_m27).mpr (y_cmp0 e))), if_neg (fun e => h28 ((y_key_inj h y_m28).mpr (y_cmp0 e))), if_neg (fun e => h29 ((y_key_inj h y_m29).mpr (y_cmp0 e))), if_neg (fun e => h30 ((y_key_inj h y_m30).mpr (y_cmp0 e))), if_neg (fun e => h31 ((y_key_inj h y_m31).mpr (y_cmp0 e))), if_neg (fun e => h32 ((y_key_inj h y_m32).mpr (y_cmp0 e))), if_neg (fun e => h33 ((y_key_inj h y_m33).mpr (y_cmp0 e))), if_neg (fun e => h34 ((y_key_inj h y_m34).mpr (y_cmp0 e))), if_neg (fun e => h35 ((y_key_inj h y_m35).mpr (y_cmp0 e))), if_neg (fun e => h36 ((y_key_inj h y_m36).mpr (y_cmp0 e)))]
theorem y_bw (v a b c : Int32) {z : Int32} (h : (a ||| b) ||| c = z) : ((v ||| a) ||| b) ||| c = z ||| v := by
  rw [← h, Int32.or_assoc v, Int32.or_assoc v, Int32.or_comm v]
theorem y_I {L n c p d N : Nat} {text K : Nat → Int32} {V : Nat → Int64} {line words : Int32} {target : Nat → Int64} {tw tl : Nat → Int32} (hL : L ≤ 400) (hN : N = c + (n + 1)) (hN4 : N ≤ 401) (hd : d ≤ 128) (h0 : y_sy L text K V (n + 1) c p) : ∀ i, i < 37 → y_O L text K V n c d (m_bits.getD i 0) line words target tw tl (f_X0_readInstruction_48 (Int32.ofNat N) K V 8 (1200 + m_str.getD i 0) 0 (Int32.ofNat c) 1 (m_bits.getD i 0) 0 0 0) (f_X11_operands (m_ref.getD i 0 &&& 15) (Int32.ofNat L) (Int32.ofNat p) line words (Int32.ofNat d) 0 0 text target tw tl) ∧ ¬ m_ref.getD i 0 = 0 ∧ ∀ v : Int32, ((v ||| ((m_ref.getD i 0 >>> ((4 : Int32) &&& 31)) &&& (127 : Int32))) ||| (((m_ref.getD i 0 >>> ((11 : Int32) &&& 31)) &&& (7 : Int32)) <<< ((12 : Int32) &&& 31))) ||| ((m_ref.getD i 0 >>> ((14 : Int32) &&& 31)) <<< ((25 : Int32) &&& 31)) = m_bits.getD i 0 ||| v
  | 0, _ => by
    rw [show m_ref.getD 0 0 &&& 15 = 7 by decide +kernel, show 1200 + m_str.getD 0 0 = 1200 by decide +kernel]
    exact ⟨y_F0 hL hN hN4 hd h0, by decide +kernel, fun v => y_bw v _ _ _ (by decide +kernel)⟩
  | 1, _ => by
    rw [show m_ref.getD 1 0 &&& 15 = 6 by decide +kernel, show 1200 + m_str.getD 1 0 = 1201 by decide +kernel]
    exact ⟨y_F1 hL hN hN4 hd h0, by decide +kernel, fun v => y_bw v _ _ _ (by decide +kernel)⟩
  | 2, _ => by
    rw [show m_ref.getD 2 0 &&& 15 = 3 by decide +kernel, show 1200 + m_str.getD 2 0 = 1202 by decide +kernel]
    exact ⟨y_F2 hL hN hN4 hd h0, by decide +kernel, fun v => y_bw v _ _ _ (by decide +kernel)⟩
  | 3, _ => by
    rw [show m_ref.getD 3 0 &&& 15 = 5 by decide +kernel, show 1200 + m_str.getD 3 0 = 1203 by decide +kernel]
    exact ⟨y_F3 hL hN hN4 hd h0, by decide +kernel, fun v => y_bw v _ _ _ (by decide +kernel)⟩
  | 4, _ => by
    rw [show m_ref.getD 4 0 &&& 15 = 5 by decide +kernel, show 1200 + m_str.getD 4 0 = 1203 by decide +kernel]
    exact ⟨y_F3 hL hN hN4 hd h0, by decide +kernel, fun v => y_bw v _ _ _ (by decide +kernel)⟩
  | 5, _ => by
    rw [show m_ref.getD 5 0 &&& 15 = 5 by decide +kernel, show 1200 + m_str.getD 5 0 = 1203 by decide +kernel]
    exact ⟨y_F3 hL hN hN4 hd h0, by decide +kernel, fun v => y_bw v _ _ _ (by decide +kernel)⟩
  | 6, _ => by
    rw [show m_ref.getD 6 0 &&& 15 = 5 by decide +kernel, show 1200 + m_str.getD 6 0 = 1203 by decide +kernel]
    exact ⟨y_F3 hL hN hN4 hd h0, by decide +kernel, fun v => y_bw v _ _ _ (by decide +kernel)⟩
  | 7, _ => by
    rw [show m_ref.getD 7 0 &&& 15 = 5 by decide +kernel, show 1200 + m_str.getD 7 0 = 1203 by decide +kernel]
    exact ⟨y_F3 hL hN hN4 hd h0, by decide +kernel, fun v => y_bw v _ _ _ (by decide +kernel)⟩
  | 8, _ => by
    rw [show m_ref.getD 8 0 &&& 15 = 5 by decide +kernel, show 1200 + m_str.getD 8 0 = 1203 by decide +kernel]
    exact ⟨y_F3 hL hN hN4 hd h0, by decide +kernel, fun v => y_bw v _ _ _ (by decide +kernel)⟩
  | 9, _ => by
    rw [show m_ref.getD 9 0 &&& 15 = 3 by decide +kernel, show 1200 + m_str.getD 9 0 = 1202 by decide +kernel]
    exact ⟨y_F2 hL hN hN4 hd h0, by decide +kernel, fun v => y_bw v _ _ _ (by decide +kernel)⟩
  | 10, _ => by
    rw [show m_ref.getD 10 0 &&& 15 = 3 by decide +kernel, show 1200 + m_str.getD 10 0 = 1202 by decide +kernel]
    exact ⟨y_F2 hL hN hN4 hd h0, by decide +kernel, fun v => y_bw v _ _ _ (by decide +kernel)⟩
  | 11, _ => by
    rw [show m_ref.getD 11 0 &&& 15 = 3 by decide +kernel, show 1200 + m_str.getD 11 0 = 1202 by decide +kernel]
    exact ⟨y_F2 hL hN hN4 hd h0, by decide +kernel, fun v => y_bw v _ _ _ (by decide +kernel)⟩
  | 12, _ => by
    rw [show m_ref.getD 12 0 &&& 15 = 4 by decide +kernel, show 1200 + m_str.getD 12 0 = 1204 by decide +kernel]
    exact ⟨y_F4 hL hN hN4 hd h0, by decide +kernel, fun v => y_bw v _ _ _ (by decide +kernel)⟩
  | 13, _ => by
    rw [show m_ref.getD 13 0 &&& 15 = 4 by decide +kernel, show 1200 + m_str.getD 13 0 = 1204 by decide +kernel]
    exact ⟨y_F4 hL hN hN4 hd h0, by decide +kernel, fun v => y_bw v _ _ _ (by decide +kernel)⟩
  | 14, _ => by
    rw [show m_ref.getD 14 0 &&& 15 = 2 by decide +kernel, show 1200 + m_str.getD 14 0 = 1205 by decide +kernel]
    exact ⟨y_F5 hL hN hN4 hd h0, by decide +kernel, fun v => y_bw v _ _ _ (by decide +kernel)⟩
  | 15, _ => by
    rw [show m_ref.getD 15 0 &&& 15 = 2 by decide +kernel, show 1200 + m_str.getD 15 0 = 1205 by decide +kernel]
    exact ⟨y_F5 hL hN hN4 hd h0, by decide +kernel, fun v => y_bw v _ _ _ (by decide +kernel)⟩
  | 16, _ => by
    rw [show m_ref.getD 16 0 &&& 15 = 2 by decide +kernel, show 1200 + m_str.getD 16 0 = 1205 by decide +kernel]
    exact ⟨y_F5 hL hN hN4 hd h0, by decide +kernel, fun v => y_bw v _ _ _ (by decide +kernel)⟩
  | 17, _ => by
    rw [show m_ref.getD 17 0 &&& 15 = 2 by decide +kernel, show 1200 + m_str.getD 17 0 = 1205 by decide +kernel]
    exact ⟨y_F5 hL hN hN4 hd h0, by decide +kernel, fun v => y_bw v _ _ _ (by decide +kernel)⟩
  | 18, _ => by
    rw [show m_ref.getD 18 0 &&& 15 = 2 by decide +kernel, show 1200 + m_str.getD 18 0 = 1205 by decide +kernel]
    exact ⟨y_F5 hL hN hN4 hd h0, by decide +kernel, fun v => y_bw v _ _ _ (by decide +kernel)⟩
  | 19, _ => by
    rw [show m_ref.getD 19 0 &&& 15 = 2 by decide +kernel, show 1200 + m_str.getD 19 0 = 1205 by decide +kernel]
    exact ⟨y_F5 hL hN hN4 hd h0, by decide +kernel, fun v => y_bw v _ _ _ (by decide +kernel)⟩
  | 20, _ => by
    rw [show m_ref.getD 20 0 &&& 15 = 8 by decide +kernel, show 1200 + m_str.getD 20 0 = 1206 by decide +kernel]
    exact ⟨y_F6 hL hN hN4 hd h0, by decide +kernel, fun v => y_bw v _ _ _ (by decide +kernel)⟩
  | 21, _ => by
    rw [show m_ref.getD 21 0 &&& 15 = 8 by decide +kernel, show 1200 + m_str.getD 21 0 = 1206 by decide +kernel]
    exact ⟨y_F6 hL hN hN4 hd h0, by decide +kernel, fun v => y_bw v _ _ _ (by decide +kernel)⟩
  | 22, _ => by
    rw [show m_ref.getD 22 0 &&& 15 = 8 by decide +kernel, show 1200 + m_str.getD 22 0 = 1206 by decide +kernel]
    exact ⟨y_F6 hL hN hN4 hd h0, by decide +kernel, fun v => y_bw v _ _ _ (by decide +kernel)⟩
  | 23, _ => by
    rw [show m_ref.getD 23 0 &&& 15 = 1 by decide +kernel, show 1200 + m_str.getD 23 0 = 1207 by decide +kernel]
    exact ⟨y_F7 hL hN hN4 hd h0, by decide +kernel, fun v => y_bw v _ _ _ (by decide +kernel)⟩
  | 24, _ => by
    rw [show m_ref.getD 24 0 &&& 15 = 1 by decide +kernel, show 1200 + m_str.getD 24 0 = 1207 by decide +kernel]
    exact ⟨y_F7 hL hN hN4 hd h0, by decide +kernel, fun v => y_bw v _ _ _ (by decide +kernel)⟩
  | 25, _ => by
    rw [show m_ref.getD 25 0 &&& 15 = 1 by decide +kernel, show 1200 + m_str.getD 25 0 = 1207 by decide +kernel]
    exact ⟨y_F7 hL hN hN4 hd h0, by decide +kernel, fun v => y_bw v _ _ _ (by decide +kernel)⟩
  | 26, _ => by
    rw [show m_ref.getD 26 0 &&& 15 = 1 by decide +kernel, show 1200 + m_str.getD 26 0 = 1207 by decide +kernel]
    exact ⟨y_F7 hL hN hN4 hd h0, by decide +kernel, fun v => y_bw v _ _ _ (by decide +kernel)⟩
  | 27, _ => by
    rw [show m_ref.getD 27 0 &&& 15 = 1 by decide +kernel, show 1200 + m_str.getD 27 0 = 1207 by decide +kernel]
    exact ⟨y_F7 hL hN hN4 hd h0, by decide +kernel, fun v => y_bw v _ _ _ (by decide +kernel)⟩
  | 28, _ => by
    rw [show m_ref.getD 28 0 &&& 15 = 1 by decide +kernel, show 1200 + m_str.getD 28 0 = 1207 by decide +kernel]
    exact ⟨y_F7 hL hN hN4 hd h0, by decide +kernel, fun v => y_bw v _ _ _ (by decide +kernel)⟩
  | 29, _ => by
    rw [show m_ref.getD 29 0 &&& 15 = 1 by decide +kernel, show 1200 + m_str.getD 29 0 = 1207 by decide +kernel]
    exact ⟨y_F7 hL hN hN4 hd h0, by decide +kernel, fun v => y_bw v _ _ _ (by decide +kernel)⟩
  | 30, _ => by
    rw [show m_ref.getD 30 0 &&& 15 = 1 by decide +kernel, show 1200 + m_str.getD 30 0 = 1207 by decide +kernel]
    exact ⟨y_F7 hL hN hN4 hd h0, by decide +kernel, fun v => y_bw v _ _ _ (by decide +kernel)⟩
  | 31, _ => by
    rw [show m_ref.getD 31 0 &&& 15 = 1 by decide +kernel, show 1200 + m_str.getD 31 0 = 1207 by decide +kernel]
    exact ⟨y_F7 hL hN hN4 hd h0, by decide +kernel, fun v => y_bw v _ _ _ (by decide +kernel)⟩
  | 32, _ => by
    rw [show m_ref.getD 32 0 &&& 15 = 1 by decide +kernel, show 1200 + m_str.getD 32 0 = 1207 by decide +kernel]
    exact ⟨y_F7 hL hN hN4 hd h0, by decide +kernel, fun v => y_bw v _ _ _ (by decide +kernel)⟩
  | 33, _ => by
    rw [show m_ref.getD 33 0 &&& 15 = 9 by decide +kernel, show 1200 + m_str.getD 33 0 = 1208 by decide +kernel]
    exact ⟨y_F8 hL hN hN4 hd h0, by decide +kernel, fun v => y_bw v _ _ _ (by decide +kernel)⟩
  | 34, _ => by
    rw [show m_ref.getD 34 0 &&& 15 = 10 by decide +kernel, show 1200 + m_str.getD 34 0 = 1209 by decide +kernel]
    exact ⟨y_F9 hL hN hN4 hd h0, by decide +kernel, fun v => y_bw v _ _ _ (by decide +kernel)⟩
  | 35, _ => by
    rw [show m_ref.getD 35 0 &&& 15 = 11 by decide +kernel, show 1200 + m_str.getD 35 0 = 1210 by decide +kernel]
    exact ⟨y_F10 hL hN hN4 hd h0, by decide +kernel, fun v => y_bw v _ _ _ (by decide +kernel)⟩
  | 36, _ => by
    rw [show m_ref.getD 36 0 &&& 15 = 12 by decide +kernel, show 1200 + m_str.getD 36 0 = 1211 by decide +kernel]
    exact ⟨y_F11 hL hN hN4 hd h0, by decide +kernel, fun v => y_bw v _ _ _ (by decide +kernel)⟩
  | i + 37, h => by omega
