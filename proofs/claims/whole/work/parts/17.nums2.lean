theorem q_xs (x y : Int32) (hy : 0 ≤ y.toInt) : (0 ≤ (x ^^^ y)) ↔ 0 ≤ x.toInt := by
  rw [Int32.le_iff_toInt_le]
  have h0 : (0 : Int32).toInt = 0 := by decide
  rw [h0]
  have h1 : ∀ z : Int32, 0 ≤ z.toInt ↔ z.toBitVec.msb = false := by
    intro z
    rw [← Int32.toInt_toBitVec, BitVec.toInt_eq_msb_cond]
    cases z.toBitVec.msb <;> simp
    have := z.toBitVec.isLt
    omega
  rw [h1, h1, Int32.toBitVec_xor, BitVec.msb_xor, (h1 y).mp hy]
  simp
theorem q_td (x y : Int32) : (x - x / y * y).toInt = x.toInt.tmod y.toInt := by
  have h1 := Int32.toInt_mod x y
  have h2 := Int32.le_toInt (x % y)
  have h3 := Int32.toInt_lt (x % y)
  rw [h1] at h2 h3
  rw [Int32.toInt_sub, Int32.toInt_mul, Int32.toInt_div, Int.bmod_mul_bmod, Int.sub_bmod_bmod]
  have h4 := Int.tmod_add_mul_tdiv x.toInt y.toInt
  rw [show x.toInt - x.toInt.tdiv y.toInt * y.toInt = x.toInt.tmod y.toInt by rw [Int.mul_comm]; omega]
  rw [Int.bmod_eq_of_le] <;> omega
theorem q_shr (x : Int32) : (x >>> (2 &&& 31)).toInt = x.toInt / 4 := by
  rw [← Int32.toInt_toBitVec, Int32.toBitVec_shiftRight, show ((2 &&& 31 : Int32).toBitVec.smod 32) = 2#32 by decide, BitVec.sshiftRight', BitVec.toInt_sshiftRight, Int32.toInt_toBitVec, Int.shiftRight_eq_div_pow]
  rfl
theorem a_fm {x y : Int32} (hy : 0 < y.toInt) : (f_J9_floorMod_7cf53 x y).toInt = x.toInt % y.toInt := by
  unfold f_J9_floorMod_7cf53
  have ht := q_td x y
  have he := Int.tmod_eq_emod (a := x.toInt) (b := y.toInt)
  have h0 : (0 : Int32).toInt = 0 := by decide
  have hm := Int.emod_nonneg x.toInt (show y.toInt ≠ 0 by omega)
  have hm2 := Int.emod_lt_of_pos x.toInt hy
  have hyr := Int32.toInt_lt y
  split
  · rename_i c
    rw [ht, he, if_pos (Or.inl ((q_xs x y (by omega)).mp c))]
    omega
  · rename_i c
    have hx : x.toInt < 0 := Int.not_le.mp (fun h => c ((q_xs x y (by omega)).mpr h))
    split
    · rename_i c2
      have h3 : (x - x / y * y).toInt = 0 := by rw [c2, h0]
      rw [h3]
      rw [ht, he] at h3
      by_cases hdv : y.toInt ∣ x.toInt
      · rw [Int.emod_eq_zero_of_dvd hdv]
      · rw [if_neg (by omega)] at h3
        omega
    · rename_i c2
      have h3 : ¬ (x - x / y * y).toInt = 0 := fun h => c2 (Int32.toInt_inj.mp (by rw [h, h0]))
      by_cases hdv : y.toInt ∣ x.toInt
      · rw [ht, he, if_pos (Or.inr hdv), Int.emod_eq_zero_of_dvd hdv] at h3
        omega
      · rw [if_neg (by omega)] at he
        have hna : (y.toInt.natAbs : Int) = y.toInt := Int.natAbs_of_nonneg (by omega)
        rw [q_add (by rw [ht, he, hna]; omega) (by rw [ht, he, hna]; omega), ht, he, hna]
        omega
theorem a_fmr {x y z : Int32} (h : z = f_J9_floorMod_7cf53 x y) (hy : 0 < y.toInt) : 0 ≤ z.toInt ∧ z.toInt < y.toInt := by
  rw [h, a_fm hy]
  exact ⟨Int.emod_nonneg _ (by omega), Int.emod_lt_of_pos _ hy⟩
theorem q_st7 {a : Int32} (h : 0 ≤ a.toInt ∧ a.toInt < 512) : vp_in (a >>> (2 &&& 31)) 128 := by
  have h9 := q_shr a
  exact q_in (by omega) (by omega)
theorem a_pl {x z : Int32} (h : z = f_X2_placeOf x) : vp_in z 16 := by
  have h9 := a_fmr (y := 16) h (by decide)
  have h8 : (16 : Int32).toInt = 16 := by decide
  exact q_in h9.1 (by omega)
