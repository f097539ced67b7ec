theorem bv_rd (x : BitVec 32) : (x >>> 7) &&& 31#32 = (x.sshiftRight 7) &&& 31#32 := by
  apply BitVec.eq_of_getLsbD_eq
  intro i hi
  simp only [BitVec.getLsbD_or, BitVec.getLsbD_and, BitVec.getLsbD_xor, BitVec.getLsbD_shiftLeft, BitVec.getLsbD_ushiftRight, BitVec.getLsbD_sshiftRight]
  rcases (by omega : i = 0 ∨ i = 1 ∨ i = 2 ∨ i = 3 ∨ i = 4 ∨ i = 5 ∨ i = 6 ∨ i = 7 ∨ i = 8 ∨ i = 9 ∨ i = 10 ∨ i = 11 ∨ i = 12 ∨ i = 13 ∨ i = 14 ∨ i = 15 ∨ i = 16 ∨ i = 17 ∨ i = 18 ∨ i = 19 ∨ i = 20 ∨ i = 21 ∨ i = 22 ∨ i = 23 ∨ i = 24 ∨ i = 25 ∨ i = 26 ∨ i = 27 ∨ i = 28 ∨ i = 29 ∨ i = 30 ∨ i = 31) with rfl | rfl | rfl | rfl | rfl | rfl | rfl | rfl | rfl | rfl | rfl | rfl | rfl | rfl | rfl | rfl | rfl | rfl | rfl | rfl | rfl | rfl | rfl | rfl | rfl | rfl | rfl | rfl | rfl | rfl | rfl | rfl
  all_goals simp (decide := true) [BitVec.getLsbD_ofNat, BitVec.msb_eq_getLsbD_last]
theorem bv_f (x : BitVec 32) : (x >>> 12) &&& 7#32 = (x.sshiftRight 12) &&& 7#32 := by
  apply BitVec.eq_of_getLsbD_eq
  intro i hi
  simp only [BitVec.getLsbD_or, BitVec.getLsbD_and, BitVec.getLsbD_xor, BitVec.getLsbD_shiftLeft, BitVec.getLsbD_ushiftRight, BitVec.getLsbD_sshiftRight]
  rcases (by omega : i = 0 ∨ i = 1 ∨ i = 2 ∨ i = 3 ∨ i = 4 ∨ i = 5 ∨ i = 6 ∨ i = 7 ∨ i = 8 ∨ i = 9 ∨ i = 10 ∨ i = 11 ∨ i = 12 ∨ i = 13 ∨ i = 14 ∨ i = 15 ∨ i = 16 ∨ i = 17 ∨ i = 18 ∨ i = 19 ∨ i = 20 ∨ i = 21 ∨ i = 22 ∨ i = 23 ∨ i = 24 ∨ i = 25 ∨ i = 26 ∨ i = 27 ∨ i = 28 ∨ i = 29 ∨ i = 30 ∨ i = 31) with rfl | rfl | rfl | rfl | rfl | rfl | rfl | rfl | rfl | rfl | rfl | rfl | rfl | rfl | rfl | rfl | rfl | rfl | rfl | rfl | rfl | rfl | rfl | rfl | rfl | rfl | rfl | rfl | rfl | rfl | rfl | rfl
  all_goals simp (decide := true) [BitVec.getLsbD_ofNat, BitVec.msb_eq_getLsbD_last]
theorem bv_rs (x : BitVec 32) : (x >>> 15) &&& 31#32 = (x.sshiftRight 15) &&& 31#32 := by
  apply BitVec.eq_of_getLsbD_eq
  intro i hi
  simp only [BitVec.getLsbD_or, BitVec.getLsbD_and, BitVec.getLsbD_xor, BitVec.getLsbD_shiftLeft, BitVec.getLsbD_ushiftRight, BitVec.getLsbD_sshiftRight]
  rcases (by omega : i = 0 ∨ i = 1 ∨ i = 2 ∨ i = 3 ∨ i = 4 ∨ i = 5 ∨ i = 6 ∨ i = 7 ∨ i = 8 ∨ i = 9 ∨ i = 10 ∨ i = 11 ∨ i = 12 ∨ i = 13 ∨ i = 14 ∨ i = 15 ∨ i = 16 ∨ i = 17 ∨ i = 18 ∨ i = 19 ∨ i = 20 ∨ i = 21 ∨ i = 22 ∨ i = 23 ∨ i = 24 ∨ i = 25 ∨ i = 26 ∨ i = 27 ∨ i = 28 ∨ i = 29 ∨ i = 30 ∨ i = 31) with rfl | rfl | rfl | rfl | rfl | rfl | rfl | rfl | rfl | rfl | rfl | rfl | rfl | rfl | rfl | rfl | rfl | rfl | rfl | rfl | rfl | rfl | rfl | rfl | rfl | rfl | rfl | rfl | rfl | rfl | rfl | rfl
  all_goals simp (decide := true) [BitVec.getLsbD_ofNat, BitVec.msb_eq_getLsbD_last]
theorem bv_rt (x : BitVec 32) : (x >>> 20) &&& 31#32 = (x.sshiftRight 20) &&& 31#32 := by
  apply BitVec.eq_of_getLsbD_eq
  intro i hi
  simp only [BitVec.getLsbD_or, BitVec.getLsbD_and, BitVec.getLsbD_xor, BitVec.getLsbD_shiftLeft, BitVec.getLsbD_ushiftRight, BitVec.getLsbD_sshiftRight]
  rcases (by omega : i = 0 ∨ i = 1 ∨ i = 2 ∨ i = 3 ∨ i = 4 ∨ i = 5 ∨ i = 6 ∨ i = 7 ∨ i = 8 ∨ i = 9 ∨ i = 10 ∨ i = 11 ∨ i = 12 ∨ i = 13 ∨ i = 14 ∨ i = 15 ∨ i = 16 ∨ i = 17 ∨ i = 18 ∨ i = 19 ∨ i = 20 ∨ i = 21 ∨ i = 22 ∨ i = 23 ∨ i = 24 ∨ i = 25 ∨ i = 26 ∨ i = 27 ∨ i = 28 ∨ i = 29 ∨ i = 30 ∨ i = 31) with rfl | rfl | rfl | rfl | rfl | rfl | rfl | rfl | rfl | rfl | rfl | rfl | rfl | rfl | rfl | rfl | rfl | rfl | rfl | rfl | rfl | rfl | rfl | rfl | rfl | rfl | rfl | rfl | rfl | rfl | rfl | rfl
  all_goals simp (decide := true) [BitVec.getLsbD_ofNat, BitVec.msb_eq_getLsbD_last]
theorem bv_U (x : BitVec 32) : x &&& 4294963200#32 = (x.sshiftRight 12) <<< 12 := by
  apply BitVec.eq_of_getLsbD_eq
  intro i hi
  simp only [BitVec.getLsbD_or, BitVec.getLsbD_and, BitVec.getLsbD_xor, BitVec.getLsbD_shiftLeft, BitVec.getLsbD_ushiftRight, BitVec.getLsbD_sshiftRight]
  rcases (by omega : i = 0 ∨ i = 1 ∨ i = 2 ∨ i = 3 ∨ i = 4 ∨ i = 5 ∨ i = 6 ∨ i = 7 ∨ i = 8 ∨ i = 9 ∨ i = 10 ∨ i = 11 ∨ i = 12 ∨ i = 13 ∨ i = 14 ∨ i = 15 ∨ i = 16 ∨ i = 17 ∨ i = 18 ∨ i = 19 ∨ i = 20 ∨ i = 21 ∨ i = 22 ∨ i = 23 ∨ i = 24 ∨ i = 25 ∨ i = 26 ∨ i = 27 ∨ i = 28 ∨ i = 29 ∨ i = 30 ∨ i = 31) with rfl | rfl | rfl | rfl | rfl | rfl | rfl | rfl | rfl | rfl | rfl | rfl | rfl | rfl | rfl | rfl | rfl | rfl | rfl | rfl | rfl | rfl | rfl | rfl | rfl | rfl | rfl | rfl | rfl | rfl | rfl | rfl
  all_goals simp (decide := true) [BitVec.getLsbD_ofNat, BitVec.msb_eq_getLsbD_last]
theorem bv_J (x : BitVec 32) : ((((x.sshiftRight 31) <<< 20 ||| (x &&& 1044480#32)) ||| ((x >>> 9) &&& 2048#32)) ||| ((x >>> 20) &&& 2046#32)) = (((((x.sshiftRight 21) &&& 1023#32) <<< 1 ||| ((x.sshiftRight 20) &&& 1#32) <<< 11) ||| ((x.sshiftRight 12) &&& 255#32) <<< 12) ||| (x.sshiftRight 31) <<< 20) := by
  apply BitVec.eq_of_getLsbD_eq
  intro i hi
  simp only [BitVec.getLsbD_or, BitVec.getLsbD_and, BitVec.getLsbD_xor, BitVec.getLsbD_shiftLeft, BitVec.getLsbD_ushiftRight, BitVec.getLsbD_sshiftRight]
  rcases (by omega : i = 0 ∨ i = 1 ∨ i = 2 ∨ i = 3 ∨ i = 4 ∨ i = 5 ∨ i = 6 ∨ i = 7 ∨ i = 8 ∨ i = 9 ∨ i = 10 ∨ i = 11 ∨ i = 12 ∨ i = 13 ∨ i = 14 ∨ i = 15 ∨ i = 16 ∨ i = 17 ∨ i = 18 ∨ i = 19 ∨ i = 20 ∨ i = 21 ∨ i = 22 ∨ i = 23 ∨ i = 24 ∨ i = 25 ∨ i = 26 ∨ i = 27 ∨ i = 28 ∨ i = 29 ∨ i = 30 ∨ i = 31) with rfl | rfl | rfl | rfl | rfl | rfl | rfl | rfl | rfl | rfl | rfl | rfl | rfl | rfl | rfl | rfl | rfl | rfl | rfl | rfl | rfl | rfl | rfl | rfl | rfl | rfl | rfl | rfl | rfl | rfl | rfl | rfl
  all_goals simp (decide := true) [BitVec.getLsbD_ofNat, BitVec.msb_eq_getLsbD_last]
theorem bv_B (x : BitVec 32) : ((((x.sshiftRight 31) <<< 12 ||| ((x <<< 4) &&& 2048#32)) ||| ((x >>> 20) &&& 2016#32)) ||| ((x >>> 7) &&& 30#32)) = (((((x.sshiftRight 8) &&& 15#32) <<< 1 ||| ((x.sshiftRight 25) &&& 63#32) <<< 5) ||| ((x.sshiftRight 7) &&& 1#32) <<< 11) ||| (x.sshiftRight 31) <<< 12) := by
  apply BitVec.eq_of_getLsbD_eq
  intro i hi
  simp only [BitVec.getLsbD_or, BitVec.getLsbD_and, BitVec.getLsbD_xor, BitVec.getLsbD_shiftLeft, BitVec.getLsbD_ushiftRight, BitVec.getLsbD_sshiftRight]
  rcases (by omega : i = 0 ∨ i = 1 ∨ i = 2 ∨ i = 3 ∨ i = 4 ∨ i = 5 ∨ i = 6 ∨ i = 7 ∨ i = 8 ∨ i = 9 ∨ i = 10 ∨ i = 11 ∨ i = 12 ∨ i = 13 ∨ i = 14 ∨ i = 15 ∨ i = 16 ∨ i = 17 ∨ i = 18 ∨ i = 19 ∨ i = 20 ∨ i = 21 ∨ i = 22 ∨ i = 23 ∨ i = 24 ∨ i = 25 ∨ i = 26 ∨ i = 27 ∨ i = 28 ∨ i = 29 ∨ i = 30 ∨ i = 31) with rfl | rfl | rfl | rfl | rfl | rfl | rfl | rfl | rfl | rfl | rfl | rfl | rfl | rfl | rfl | rfl | rfl | rfl | rfl | rfl | rfl | rfl | rfl | rfl | rfl | rfl | rfl | rfl | rfl | rfl | rfl | rfl
  all_goals simp (decide := true) [BitVec.getLsbD_ofNat, BitVec.msb_eq_getLsbD_last]
theorem bv_bB (x : BitVec 32) : ((((x.sshiftRight 12) <<< 31 ||| (x &&& 2016#32) <<< 20) ||| (x &&& 30#32) <<< 7) ||| (x &&& 2048#32).sshiftRight 4) = (((((x.sshiftRight 1) &&& 15#32) <<< 8 ||| ((x.sshiftRight 5) &&& 63#32) <<< 25) ||| ((x.sshiftRight 11) &&& 1#32) <<< 7) ||| (x.sshiftRight 12) <<< 31) := by
  apply BitVec.eq_of_getLsbD_eq
  intro i hi
  simp only [BitVec.getLsbD_or, BitVec.getLsbD_and, BitVec.getLsbD_xor, BitVec.getLsbD_shiftLeft, BitVec.getLsbD_ushiftRight, BitVec.getLsbD_sshiftRight]
  rcases (by omega : i = 0 ∨ i = 1 ∨ i = 2 ∨ i = 3 ∨ i = 4 ∨ i = 5 ∨ i = 6 ∨ i = 7 ∨ i = 8 ∨ i = 9 ∨ i = 10 ∨ i = 11 ∨ i = 12 ∨ i = 13 ∨ i = 14 ∨ i = 15 ∨ i = 16 ∨ i = 17 ∨ i = 18 ∨ i = 19 ∨ i = 20 ∨ i = 21 ∨ i = 22 ∨ i = 23 ∨ i = 24 ∨ i = 25 ∨ i = 26 ∨ i = 27 ∨ i = 28 ∨ i = 29 ∨ i = 30 ∨ i = 31) with rfl | rfl | rfl | rfl | rfl | rfl | rfl | rfl | rfl | rfl | rfl | rfl | rfl | rfl | rfl | rfl | rfl | rfl | rfl | rfl | rfl | rfl | rfl | rfl | rfl | rfl | rfl | rfl | rfl | rfl | rfl | rfl
  all_goals simp (decide := true) [BitVec.getLsbD_ofNat, BitVec.msb_eq_getLsbD_last]
theorem bv_bJ (x : BitVec 32) : ((((x.sshiftRight 20) <<< 31 ||| (x &&& 2046#32) <<< 20) ||| (x &&& 2048#32) <<< 9) ||| (x &&& 1044480#32)) = (((((x.sshiftRight 1) &&& 1023#32) <<< 21 ||| ((x.sshiftRight 11) &&& 1#32) <<< 20) ||| ((x.sshiftRight 12) &&& 255#32) <<< 12) ||| (x.sshiftRight 20) <<< 31) := by
  apply BitVec.eq_of_getLsbD_eq
  intro i hi
  simp only [BitVec.getLsbD_or, BitVec.getLsbD_and, BitVec.getLsbD_xor, BitVec.getLsbD_shiftLeft, BitVec.getLsbD_ushiftRight, BitVec.getLsbD_sshiftRight]
  rcases (by omega : i = 0 ∨ i = 1 ∨ i = 2 ∨ i = 3 ∨ i = 4 ∨ i = 5 ∨ i = 6 ∨ i = 7 ∨ i = 8 ∨ i = 9 ∨ i = 10 ∨ i = 11 ∨ i = 12 ∨ i = 13 ∨ i = 14 ∨ i = 15 ∨ i = 16 ∨ i = 17 ∨ i = 18 ∨ i = 19 ∨ i = 20 ∨ i = 21 ∨ i = 22 ∨ i = 23 ∨ i = 24 ∨ i = 25 ∨ i = 26 ∨ i = 27 ∨ i = 28 ∨ i = 29 ∨ i = 30 ∨ i = 31) with rfl | rfl | rfl | rfl | rfl | rfl | rfl | rfl | rfl | rfl | rfl | rfl | rfl | rfl | rfl | rfl | rfl | rfl | rfl | rfl | rfl | rfl | rfl | rfl | rfl | rfl | rfl | rfl | rfl | rfl | rfl | rfl
  all_goals simp (decide := true) [BitVec.getLsbD_ofNat, BitVec.msb_eq_getLsbD_last]
theorem e_rd (w : Int32) : f_X1_rd w = (w >>> ((7 : Int32) &&& 31)) &&& 31 := Int32.toBitVec_inj.mp (bv_rd w.toBitVec)
theorem e_f (w : Int32) : f_X1_f w = (w >>> ((12 : Int32) &&& 31)) &&& 7 := Int32.toBitVec_inj.mp (bv_f w.toBitVec)
theorem e_rs (w : Int32) : f_X1_rs w = (w >>> ((15 : Int32) &&& 31)) &&& 31 := Int32.toBitVec_inj.mp (bv_rs w.toBitVec)
theorem e_rt (w : Int32) : f_X1_rt w = (w >>> ((20 : Int32) &&& 31)) &&& 31 := Int32.toBitVec_inj.mp (bv_rt w.toBitVec)
theorem e_nU (w : Int32) : f_X1_numberU w = (w >>> ((12 : Int32) &&& 31)) <<< ((12 : Int32) &&& 31) := Int32.toBitVec_inj.mp (bv_U w.toBitVec)
theorem e_nJ (w : Int32) : f_X1_numberJ w = ((((((w >>> ((21 : Int32) &&& 31)) &&& (1023 : Int32)) <<< ((1 : Int32) &&& 31)) ||| (((w >>> ((20 : Int32) &&& 31)) &&& (1 : Int32)) <<< ((11 : Int32) &&& 31))) ||| (((w >>> ((12 : Int32) &&& 31)) &&& (255 : Int32)) <<< ((12 : Int32) &&& 31))) ||| ((w >>> ((31 : Int32) &&& 31)) <<< ((20 : Int32) &&& 31))) := Int32.toBitVec_inj.mp (bv_J w.toBitVec)
theorem e_nB (w : Int32) : f_X1_numberB w = ((((((w >>> ((8 : Int32) &&& 31)) &&& (15 : Int32)) <<< ((1 : Int32) &&& 31)) ||| (((w >>> ((25 : Int32) &&& 31)) &&& (63 : Int32)) <<< ((5 : Int32) &&& 31))) ||| (((w >>> ((7 : Int32) &&& 31)) &&& (1 : Int32)) <<< ((11 : Int32) &&& 31))) ||| ((w >>> ((31 : Int32) &&& 31)) <<< ((12 : Int32) &&& 31))) := Int32.toBitVec_inj.mp (bv_B w.toBitVec)
theorem e_bB (w : Int32) : f_X1_bitsOfB w = f_X11_branching w := Int32.toBitVec_inj.mp (bv_bB w.toBitVec)
theorem e_bJ (w : Int32) : f_X1_bitsOfJ w = f_X11_jumping w := Int32.toBitVec_inj.mp (bv_bJ w.toBitVec)
theorem e_bS (w : Int32) : f_X1_bitsOfS w = f_X11_storing w := by
  unfold f_X1_bitsOfS f_X11_storing
  rw [Int32.or_comm]
