theorem q_le {a b : Int32} (h : a ≤ b) : a.toInt ≤ b.toInt := Int32.le_iff_toInt_le.mp h
theorem q_lt {a b : Int32} (h : a < b) : a.toInt < b.toInt := Int32.lt_iff_toInt_lt.mp h
theorem q_nle {a b : Int32} (h : ¬ a ≤ b) : b.toInt < a.toInt := Int.not_le.mp fun q => h (Int32.le_iff_toInt_le.mpr q)
theorem q_nlt {a b : Int32} (h : ¬ a < b) : b.toInt ≤ a.toInt := Int.not_lt.mp fun q => h (Int32.lt_iff_toInt_lt.mpr q)
theorem q_in {x : Int32} {n : Nat} (h0 : 0 ≤ x.toInt) (h1 : x.toInt < n) : vp_in x n := vp_in_iff.mpr ⟨h0, h1⟩
theorem q_rng (x : Int32) : -2147483648 ≤ x.toInt ∧ x.toInt < 2147483648 := ⟨Int32.le_toInt x, Int32.toInt_lt x⟩
theorem q_bm {z : Int} (h1 : -2147483648 ≤ z) (h2 : z < 2147483648) : z.bmod 4294967296 = z := by
  rw [Int.bmod_def]
  have h3 : z % ((4294967296 : Nat) : Int) = z ∨ z % ((4294967296 : Nat) : Int) = z + 4294967296 := by omega
  rcases h3 with h3 | h3 <;> rw [h3] <;> simp <;> omega
theorem q_add {x y : Int32} (h1 : -2147483648 ≤ x.toInt + y.toInt) (h2 : x.toInt + y.toInt < 2147483648) : (x + y).toInt = x.toInt + y.toInt := by
  rw [Int32.toInt_add]; exact q_bm h1 h2
theorem q_sub {x y : Int32} (h1 : -2147483648 ≤ x.toInt - y.toInt) (h2 : x.toInt - y.toInt < 2147483648) : (x - y).toInt = x.toInt - y.toInt := by
  rw [Int32.toInt_sub]; exact q_bm h1 h2
theorem q_mul {x y : Int32} (h1 : -2147483648 ≤ x.toInt * y.toInt) (h2 : x.toInt * y.toInt < 2147483648) : (x * y).toInt = x.toInt * y.toInt := by
  rw [Int32.toInt_mul]; exact q_bm h1 h2
theorem q_inc {x : Int32} (h : x.toInt < 2147483647) : (x + 1).toInt = x.toInt + 1 := by
  have := q_rng x
  have h1 : (1 : Int32).toInt = 1 := by decide
  rw [q_add] <;> rw [h1] <;> omega
theorem q_and (x : Int32) {m : Int32} (k : Nat) (hk : k ≤ 31) (hm : m.toBitVec.toNat = 2 ^ k - 1) : 0 ≤ (x &&& m).toInt ∧ (x &&& m).toInt < 2 ^ k := by
  obtain ⟨j, hj, e⟩ := pk_andE x k hm
  have hp : 2 ^ k ≤ 2 ^ 31 := Nat.pow_le_pow_right (by omega) hk
  rw [e, nI_toInt (by omega)]
  exact ⟨by omega, by exact_mod_cast hj⟩
theorem q_31 (x : Int32) : 0 ≤ (x &&& 31).toInt ∧ (x &&& 31).toInt < 32 := q_and x 5 (by omega) (by decide)
theorem q_7 (x : Int32) : 0 ≤ (x &&& 7).toInt ∧ (x &&& 7).toInt < 8 := q_and x 3 (by omega) (by decide)
theorem q_3 (x : Int32) : 0 ≤ (x &&& 3).toInt ∧ (x &&& 3).toInt < 4 := q_and x 2 (by omega) (by decide)
theorem q_z {v : Value} : v = v := rfl
