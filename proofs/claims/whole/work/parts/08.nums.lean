theorem q_le {a b : Int32} (h : a ≤ b) : a.toInt ≤ b.toInt := Int32.le_iff_toInt_le.mp h
theorem q_lt {a b : Int32} (h : a < b) : a.toInt < b.toInt := Int32.lt_iff_toInt_lt.mp h
theorem q_nle {a b : Int32} (h : ¬ a ≤ b) : b.toInt < a.toInt := Int.not_le.mp fun q => h (Int32.le_iff_toInt_le.mpr q)
theorem q_nlt {a b : Int32} (h : ¬ a < b) : b.toInt ≤ a.toInt := Int.not_lt.mp fun q => h (Int32.lt_iff_toInt_lt.mpr q)
theorem q_in {x : Int32} {n : Nat} (h0 : 0 ≤ x.toInt) (h1 : x.toInt < n) : vp_in x n := vp_in_iff.mpr ⟨h0, h1⟩
theorem q_rng (x : Int32) : -2147483648 ≤ x.toInt ∧ x.toInt < 2147483648 := ⟨Int32.le_toInt x, Int32.toInt_lt x⟩
theorem q_bm {z : Int} (h1 : -2147483648 ≤ z) (h2 : z < 2147483648) : z.bmod 4294967296 = z := by
  rw [Int.bmod_def]
  have h3 : z % ((4294967296 : Nat) : Int) = z ∨ z % ((4294967296 : Nat) : Int) = z + 4294967296 := by omega
  rcases h3 with h3 | h3 <;> rw [h3] <;> simp <;> omega
theorem q_add {x y : Int32} (h1 : -2147483648 ≤ x.toInt + y.toInt) (h2 : x.toInt + y.toInt < 2147483648) : (x + y).toInt = x.toInt + y.toInt := by
  rw [Int32.toInt_add]; exact q_bm h1 h2
theorem q_sub {x y : Int32} (h1 : -2147483648 ≤ x.toInt - y.toInt) (h2 : x.toInt - y.toInt < 2147483648) : (x - y).toInt = x.toInt - y.toInt := by
  rw [Int32.toInt_sub]; exact q_bm h1 h2
theorem q_mul {x y : Int32} (h1 : -2147483648 ≤ x.toInt * y.toInt) (h2 : x.toInt * y.toInt < 2147483648) : (x * y).toInt = x.toInt * y.toInt := by
  rw [Int32.toInt_mul]; exact q_bm h1 h2
theorem q_inc {x : Int32} (h : x.toInt < 2147483647) : (x + 1).toInt = x.toInt + 1 := by
  have := q_rng x
  have h1 : (1 : Int32).toInt = 1 := by decide
  rw [q_add] <;> rw [h1] <;> omega
theorem q_and (x : Int32) {m : Int32} (k : Nat) (hk : k ≤ 31) (hm : m.toBitVec.toNat = 2 ^ k - 1) : 0 ≤ (x &&& m).toInt ∧ (x &&& m).toInt < 2 ^ k := by
  obtain ⟨j, hj, e⟩ := pk_andE x k hm
  have hp : 2 ^ k ≤ 2 ^ 31 := Nat.pow_le_pow_right (by omega) hk
  rw [e, nI_toInt (by omega)]
  exact ⟨by omega, by exact_mod_cast hj⟩
theorem q_31 (x : Int32) : 0 ≤ (x &&& 31).toInt ∧ (x &&& 31).toInt < 32 := q_and x 5 (by omega) (by decide)
theorem q_7 (x : Int32) : 0 ≤ (x &&& 7).toInt ∧ (x &&& 7).toInt < 8 := q_and x 3 (by omega) (by decide)
theorem q_3 (x : Int32) : 0 ≤ (x &&& 3).toInt ∧ (x &&& 3).toInt < 4 := q_and x 2 (by omega) (by decide)
theorem g_ex1 {α : Type} (p : α) : ∃ a : α, a = p := ⟨p, rfl⟩
theorem g_ex2 {A0 A1 : Type} (p : A0 × A1) : ∃ (a0 : A0) (a1 : A1), (a0, a1) = p := ⟨p.1, p.2, rfl⟩
theorem g_ex3 {A0 A1 A2 : Type} (p : A0 × A1 × A2) : ∃ (a0 : A0) (a1 : A1) (a2 : A2), (a0, a1, a2) = p := ⟨p.1, p.2.1, p.2.2, rfl⟩
theorem g_ex4 {A0 A1 A2 A3 : Type} (p : A0 × A1 × A2 × A3) : ∃ (a0 : A0) (a1 : A1) (a2 : A2) (a3 : A3), (a0, a1, a2, a3) = p := ⟨p.1, p.2.1, p.2.2.1, p.2.2.2, rfl⟩
theorem g_ex5 {A0 A1 A2 A3 A4 : Type} (p : A0 × A1 × A2 × A3 × A4) : ∃ (a0 : A0) (a1 : A1) (a2 : A2) (a3 : A3) (a4 : A4), (a0, a1, a2, a3, a4) = p := ⟨p.1, p.2.1, p.2.2.1, p.2.2.2.1, p.2.2.2.2, rfl⟩
theorem g_ex6 {A0 A1 A2 A3 A4 A5 : Type} (p : A0 × A1 × A2 × A3 × A4 × A5) : ∃ (a0 : A0) (a1 : A1) (a2 : A2) (a3 : A3) (a4 : A4) (a5 : A5), (a0, a1, a2, a3, a4, a5) = p := ⟨p.1, p.2.1, p.2.2.1, p.2.2.2.1, p.2.2.2.2.1, p.2.2.2.2.2, rfl⟩
theorem g_ex7 {A0 A1 A2 A3 A4 A5 A6 : Type} (p : A0 × A1 × A2 × A3 × A4 × A5 × A6) : ∃ (a0 : A0) (a1 : A1) (a2 : A2) (a3 : A3) (a4 : A4) (a5 : A5) (a6 : A6), (a0, a1, a2, a3, a4, a5, a6) = p := ⟨p.1, p.2.1, p.2.2.1, p.2.2.2.1, p.2.2.2.2.1, p.2.2.2.2.2.1, p.2.2.2.2.2.2, rfl⟩
theorem g_ex8 {A0 A1 A2 A3 A4 A5 A6 A7 : Type} (p : A0 × A1 × A2 × A3 × A4 × A5 × A6 × A7) : ∃ (a0 : A0) (a1 : A1) (a2 : A2) (a3 : A3) (a4 : A4) (a5 : A5) (a6 : A6) (a7 : A7), (a0, a1, a2, a3, a4, a5, a6, a7) = p := ⟨p.1, p.2.1, p.2.2.1, p.2.2.2.1, p.2.2.2.2.1, p.2.2.2.2.2.1, p.2.2.2.2.2.2.1, p.2.2.2.2.2.2.2, rfl⟩
theorem g_ex9 {A0 A1 A2 A3 A4 A5 A6 A7 A8 : Type} (p : A0 × A1 × A2 × A3 × A4 × A5 × A6 × A7 × A8) : ∃ (a0 : A0) (a1 : A1) (a2 : A2) (a3 : A3) (a4 : A4) (a5 : A5) (a6 : A6) (a7 : A7) (a8 : A8), (a0, a1, a2, a3, a4, a5, a6, a7, a8) = p := ⟨p.1, p.2.1, p.2.2.1, p.2.2.2.1, p.2.2.2.2.1, p.2.2.2.2.2.1, p.2.2.2.2.2.2.1, p.2.2.2.2.2.2.2.1, p.2.2.2.2.2.2.2.2, rfl⟩
theorem g_ex10 {A0 A1 A2 A3 A4 A5 A6 A7 A8 A9 : Type} (p : A0 × A1 × A2 × A3 × A4 × A5 × A6 × A7 × A8 × A9) : ∃ (a0 : A0) (a1 : A1) (a2 : A2) (a3 : A3) (a4 : A4) (a5 : A5) (a6 : A6) (a7 : A7) (a8 : A8) (a9 : A9), (a0, a1, a2, a3, a4, a5, a6, a7, a8, a9) = p := ⟨p.1, p.2.1, p.2.2.1, p.2.2.2.1, p.2.2.2.2.1, p.2.2.2.2.2.1, p.2.2.2.2.2.2.1, p.2.2.2.2.2.2.2.1, p.2.2.2.2.2.2.2.2.1, p.2.2.2.2.2.2.2.2.2, rfl⟩
theorem g_ex11 {A0 A1 A2 A3 A4 A5 A6 A7 A8 A9 A10 : Type} (p : A0 × A1 × A2 × A3 × A4 × A5 × A6 × A7 × A8 × A9 × A10) : ∃ (a0 : A0) (a1 : A1) (a2 : A2) (a3 : A3) (a4 : A4) (a5 : A5) (a6 : A6) (a7 : A7) (a8 : A8) (a9 : A9) (a10 : A10), (a0, a1, a2, a3, a4, a5, a6, a7, a8, a9, a10) = p := ⟨p.1, p.2.1, p.2.2.1, p.2.2.2.1, p.2.2.2.2.1, p.2.2.2.2.2.1, p.2.2.2.2.2.2.1, p.2.2.2.2.2.2.2.1, p.2.2.2.2.2.2.2.2.1, p.2.2.2.2.2.2.2.2.2.1, p.2.2.2.2.2.2.2.2.2.2, rfl⟩
theorem g_ex12 {A0 A1 A2 A3 A4 A5 A6 A7 A8 A9 A10 A11 : Type} (p : A0 × A1 × A2 × A3 × A4 × A5 × A6 × A7 × A8 × A9 × A10 × A11) : ∃ (a0 : A0) (a1 : A1) (a2 : A2) (a3 : A3) (a4 : A4) (a5 : A5) (a6 : A6) (a7 : A7) (a8 : A8) (a9 : A9) (a10 : A10) (a11 : A11), (a0, a1, a2, a3, a4, a5, a6, a7, a8, a9, a10, a11) = p := ⟨p.1, p.2.1, p.2.2.1, p.2.2.2.1, p.2.2.2.2.1, p.2.2.2.2.2.1, p.2.2.2.2.2.2.1, p.2.2.2.2.2.2.2.1, p.2.2.2.2.2.2.2.2.1, p.2.2.2.2.2.2.2.2.2.1, p.2.2.2.2.2.2.2.2.2.2.1, p.2.2.2.2.2.2.2.2.2.2.2, rfl⟩
theorem g_ex13 {A0 A1 A2 A3 A4 A5 A6 A7 A8 A9 A10 A11 A12 : Type} (p : A0 × A1 × A2 × A3 × A4 × A5 × A6 × A7 × A8 × A9 × A10 × A11 × A12) : ∃ (a0 : A0) (a1 : A1) (a2 : A2) (a3 : A3) (a4 : A4) (a5 : A5) (a6 : A6) (a7 : A7) (a8 : A8) (a9 : A9) (a10 : A10) (a11 : A11) (a12 : A12), (a0, a1, a2, a3, a4, a5, a6, a7, a8, a9, a10, a11, a12) = p := ⟨p.1, p.2.1, p.2.2.1, p.2.2.2.1, p.2.2.2.2.1, p.2.2.2.2.2.1, p.2.2.2.2.2.2.1, p.2.2.2.2.2.2.2.1, p.2.2.2.2.2.2.2.2.1, p.2.2.2.2.2.2.2.2.2.1, p.2.2.2.2.2.2.2.2.2.2.1, p.2.2.2.2.2.2.2.2.2.2.2.1, p.2.2.2.2.2.2.2.2.2.2.2.2, rfl⟩
theorem g_ex14 {A0 A1 A2 A3 A4 A5 A6 A7 A8 A9 A10 A11 A12 A13 : Type} (p : A0 × A1 × A2 × A3 × A4 × A5 × A6 × A7 × A8 × A9 × A10 × A11 × A12 × A13) : ∃ (a0 : A0) (a1 : A1) (a2 : A2) (a3 : A3) (a4 : A4) (a5 : A5) (a6 : A6) (a7 : A7) (a8 : A8) (a9 : A9) (a10 : A10) (a11 : A11) (a12 : A12) (a13 : A13), (a0, a1, a2, a3, a4, a5, a6, a7, a8, a9, a10, a11, a12, a13) = p := ⟨p.1, p.2.1, p.2.2.1, p.2.2.2.1, p.2.2.2.2.1, p.2.2.2.2.2.1, p.2.2.2.2.2.2.1, p.2.2.2.2.2.2.2.1, p.2.2.2.2.2.2.2.2.1, p.2.2.2.2.2.2.2.2.2.1, p.2.2.2.2.2.2.2.2.2.2.1, p.2.2.2.2.2.2.2.2.2.2.2.1, p.2.2.2.2.2.2.2.2.2.2.2.2.1, p.2.2.2.2.2.2.2.2.2.2.2.2.2, rfl⟩
theorem g_ex15 {A0 A1 A2 A3 A4 A5 A6 A7 A8 A9 A10 A11 A12 A13 A14 : Type} (p : A0 × A1 × A2 × A3 × A4 × A5 × A6 × A7 × A8 × A9 × A10 × A11 × A12 × A13 × A14) : ∃ (a0 : A0) (a1 : A1) (a2 : A2) (a3 : A3) (a4 : A4) (a5 : A5) (a6 : A6) (a7 : A7) (a8 : A8) (a9 : A9) (a10 : A10) (a11 : A11) (a12 : A12) (a13 : A13) (a14 : A14), (a0, a1, a2, a3, a4, a5, a6, a7, a8, a9, a10, a11, a12, a13, a14) = p := ⟨p.1, p.2.1, p.2.2.1, p.2.2.2.1, p.2.2.2.2.1, p.2.2.2.2.2.1, p.2.2.2.2.2.2.1, p.2.2.2.2.2.2.2.1, p.2.2.2.2.2.2.2.2.1, p.2.2.2.2.2.2.2.2.2.1, p.2.2.2.2.2.2.2.2.2.2.1, p.2.2.2.2.2.2.2.2.2.2.2.1, p.2.2.2.2.2.2.2.2.2.2.2.2.1, p.2.2.2.2.2.2.2.2.2.2.2.2.2.1, p.2.2.2.2.2.2.2.2.2.2.2.2.2.2, rfl⟩
theorem g_ex16 {A0 A1 A2 A3 A4 A5 A6 A7 A8 A9 A10 A11 A12 A13 A14 A15 : Type} (p : A0 × A1 × A2 × A3 × A4 × A5 × A6 × A7 × A8 × A9 × A10 × A11 × A12 × A13 × A14 × A15) : ∃ (a0 : A0) (a1 : A1) (a2 : A2) (a3 : A3) (a4 : A4) (a5 : A5) (a6 : A6) (a7 : A7) (a8 : A8) (a9 : A9) (a10 : A10) (a11 : A11) (a12 : A12) (a13 : A13) (a14 : A14) (a15 : A15), (a0, a1, a2, a3, a4, a5, a6, a7, a8, a9, a10, a11, a12, a13, a14, a15) = p := ⟨p.1, p.2.1, p.2.2.1, p.2.2.2.1, p.2.2.2.2.1, p.2.2.2.2.2.1, p.2.2.2.2.2.2.1, p.2.2.2.2.2.2.2.1, p.2.2.2.2.2.2.2.2.1, p.2.2.2.2.2.2.2.2.2.1, p.2.2.2.2.2.2.2.2.2.2.1, p.2.2.2.2.2.2.2.2.2.2.2.1, p.2.2.2.2.2.2.2.2.2.2.2.2.1, p.2.2.2.2.2.2.2.2.2.2.2.2.2.1, p.2.2.2.2.2.2.2.2.2.2.2.2.2.2.1, p.2.2.2.2.2.2.2.2.2.2.2.2.2.2.2, rfl⟩
theorem g_ex17 {A0 A1 A2 A3 A4 A5 A6 A7 A8 A9 A10 A11 A12 A13 A14 A15 A16 : Type} (p : A0 × A1 × A2 × A3 × A4 × A5 × A6 × A7 × A8 × A9 × A10 × A11 × A12 × A13 × A14 × A15 × A16) : ∃ (a0 : A0) (a1 : A1) (a2 : A2) (a3 : A3) (a4 : A4) (a5 : A5) (a6 : A6) (a7 : A7) (a8 : A8) (a9 : A9) (a10 : A10) (a11 : A11) (a12 : A12) (a13 : A13) (a14 : A14) (a15 : A15) (a16 : A16), (a0, a1, a2, a3, a4, a5, a6, a7, a8, a9, a10, a11, a12, a13, a14, a15, a16) = p := ⟨p.1, p.2.1, p.2.2.1, p.2.2.2.1, p.2.2.2.2.1, p.2.2.2.2.2.1, p.2.2.2.2.2.2.1, p.2.2.2.2.2.2.2.1, p.2.2.2.2.2.2.2.2.1, p.2.2.2.2.2.2.2.2.2.1, p.2.2.2.2.2.2.2.2.2.2.1, p.2.2.2.2.2.2.2.2.2.2.2.1, p.2.2.2.2.2.2.2.2.2.2.2.2.1, p.2.2.2.2.2.2.2.2.2.2.2.2.2.1, p.2.2.2.2.2.2.2.2.2.2.2.2.2.2.1, p.2.2.2.2.2.2.2.2.2.2.2.2.2.2.2.1, p.2.2.2.2.2.2.2.2.2.2.2.2.2.2.2.2, rfl⟩
theorem g_ex18 {A0 A1 A2 A3 A4 A5 A6 A7 A8 A9 A10 A11 A12 A13 A14 A15 A16 A17 : Type} (p : A0 × A1 × A2 × A3 × A4 × A5 × A6 × A7 × A8 × A9 × A10 × A11 × A12 × A13 × A14 × A15 × A16 × A17) : ∃ (a0 : A0) (a1 : A1) (a2 : A2) (a3 : A3) (a4 : A4) (a5 : A5) (a6 : A6) (a7 : A7) (a8 : A8) (a9 : A9) (a10 : A10) (a11 : A11) (a12 : A12) (a13 : A13) (a14 : A14) (a15 : A15) (a16 : A16) (a17 : A17), (a0, a1, a2, a3, a4, a5, a6, a7, a8, a9, a10, a11, a12, a13, a14, a15, a16, a17) = p := ⟨p.1, p.2.1, p.2.2.1, p.2.2.2.1, p.2.2.2.2.1, p.2.2.2.2.2.1, p.2.2.2.2.2.2.1, p.2.2.2.2.2.2.2.1, p.2.2.2.2.2.2.2.2.1, p.2.2.2.2.2.2.2.2.2.1, p.2.2.2.2.2.2.2.2.2.2.1, p.2.2.2.2.2.2.2.2.2.2.2.1, p.2.2.2.2.2.2.2.2.2.2.2.2.1, p.2.2.2.2.2.2.2.2.2.2.2.2.2.1, p.2.2.2.2.2.2.2.2.2.2.2.2.2.2.1, p.2.2.2.2.2.2.2.2.2.2.2.2.2.2.2.1, p.2.2.2.2.2.2.2.2.2.2.2.2.2.2.2.2.1, p.2.2.2.2.2.2.2.2.2.2.2.2.2.2.2.2.2, rfl⟩
theorem g_ex19 {A0 A1 A2 A3 A4 A5 A6 A7 A8 A9 A10 A11 A12 A13 A14 A15 A16 A17 A18 : Type} (p : A0 × A1 × A2 × A3 × A4 × A5 × A6 × A7 × A8 × A9 × A10 × A11 × A12 × A13 × A14 × A15 × A16 × A17 × A18) : ∃ (a0 : A0) (a1 : A1) (a2 : A2) (a3 : A3) (a4 : A4) (a5 : A5) (a6 : A6) (a7 : A7) (a8 : A8) (a9 : A9) (a10 : A10) (a11 : A11) (a12 : A12) (a13 : A13) (a14 : A14) (a15 : A15) (a16 : A16) (a17 : A17) (a18 : A18), (a0, a1, a2, a3, a4, a5, a6, a7, a8, a9, a10, a11, a12, a13, a14, a15, a16, a17, a18) = p := ⟨p.1, p.2.1, p.2.2.1, p.2.2.2.1, p.2.2.2.2.1, p.2.2.2.2.2.1, p.2.2.2.2.2.2.1, p.2.2.2.2.2.2.2.1, p.2.2.2.2.2.2.2.2.1, p.2.2.2.2.2.2.2.2.2.1, p.2.2.2.2.2.2.2.2.2.2.1, p.2.2.2.2.2.2.2.2.2.2.2.1, p.2.2.2.2.2.2.2.2.2.2.2.2.1, p.2.2.2.2.2.2.2.2.2.2.2.2.2.1, p.2.2.2.2.2.2.2.2.2.2.2.2.2.2.1, p.2.2.2.2.2.2.2.2.2.2.2.2.2.2.2.1, p.2.2.2.2.2.2.2.2.2.2.2.2.2.2.2.2.1, p.2.2.2.2.2.2.2.2.2.2.2.2.2.2.2.2.2.1, p.2.2.2.2.2.2.2.2.2.2.2.2.2.2.2.2.2.2, rfl⟩
theorem q_t {t : Int32} (h : 0 ≤ t.toInt ∧ t.toInt < 4) : vp_in t 4 := q_in h.1 (by omega)
theorem q_c {c : Int32} {z : Int} (h : c.toInt = z) : c.toInt = z := h
theorem q_mad {c t r : Int32} {C : Int} (hc : c.toInt = C) (hC : 0 ≤ C ∧ C ≤ 1000) (ht : 0 ≤ t.toInt ∧ t.toInt < 4) (hr : 0 ≤ r.toInt ∧ r.toInt < 2000) : (c * t + r).toInt = C * t.toInt + r.toInt := by
  have h1 : 0 ≤ C * t.toInt := Int.mul_nonneg hC.1 ht.1
  have h2 : C * t.toInt ≤ 1000 * 3 := Int.mul_le_mul hC.2 (by omega) ht.1 (by omega)
  have h3 : (c * t).toInt = C * t.toInt := by rw [q_mul (by rw [hc]; omega) (by rw [hc]; omega), hc]
  rw [q_add (by rw [h3]; omega) (by rw [h3]; omega), h3]
theorem q_i16 {t r : Int32} (ht : 0 ≤ t.toInt ∧ t.toInt < 4) (hr : 0 ≤ r.toInt ∧ r.toInt < 16) : vp_in (16 * t + r) 64 := by
  have h := q_mad (c := 16) (C := 16) (by decide) (by omega) ht (r := r) (by omega)
  exact q_in (by rw [h]; omega) (by rw [h]; omega)
theorem q_i4 {t r : Int32} (ht : 0 ≤ t.toInt ∧ t.toInt < 4) (hr : 0 ≤ r.toInt ∧ r.toInt < 4) : vp_in (4 * t + r) 16 := by
  have h := q_mad (c := 4) (C := 4) (by decide) (by omega) ht (r := r) (by omega)
  exact q_in (by rw [h]; omega) (by rw [h]; omega)
theorem q_i128 {t r : Int32} (ht : 0 ≤ t.toInt ∧ t.toInt < 4) (hr : 0 ≤ r.toInt ∧ r.toInt < 128) : vp_in (128 * t + r) 512 := by
  have h := q_mad (c := 128) (C := 128) (by decide) (by omega) ht (r := r) (by omega)
  exact q_in (by rw [h]; omega) (by rw [h]; omega)
theorem q_nI {x : Int32} (h : 0 ≤ x.toInt) : x = nI x.toInt.toNat := by
  apply Int32.toInt_inj.mp
  have := q_rng x
  rw [nI_toInt (by omega)]
  omega
theorem q_rem {x c : Int32} (h0 : 0 ≤ x.toInt) (hc : 0 < c.toInt) : (x - x / c * c).toInt = x.toInt % c.toInt := by
  have h1 := q_rng x
  have h2 := q_rng c
  have e := pk_rem (a := x.toInt.toNat) (d := c.toInt.toNat) (by omega) (by omega) (by omega)
  rw [← q_nI h0, ← q_nI (by omega)] at e
  have h3 : x.toInt.toNat % c.toInt.toNat < c.toInt.toNat := Nat.mod_lt _ (by omega)
  rw [e, nI_toInt (by omega)]
  rw [Int.natCast_emod, Int.toNat_of_nonneg h0, Int.toNat_of_nonneg (by omega)]
theorem q_div {x c : Int32} (h0 : 0 ≤ x.toInt) (hc : 0 < c.toInt) : (x / c).toInt = x.toInt / c.toInt := by
  have h1 := q_rng x
  have h2 := q_rng c
  have e := pk_div (a := x.toInt.toNat) (d := c.toInt.toNat) (by omega) (by omega) (by omega)
  rw [← q_nI h0, ← q_nI (by omega)] at e
  have h3 : x.toInt.toNat / c.toInt.toNat ≤ x.toInt.toNat := Nat.div_le_self _ _
  rw [e, nI_toInt (by omega)]
  rw [Int.natCast_ediv, Int.toNat_of_nonneg h0, Int.toNat_of_nonneg (by omega)]
theorem q_16 {x : Int32} (h : 0 ≤ x.toInt ∧ x.toInt < 32) (c : ¬ 15 < x) : 0 ≤ x.toInt ∧ x.toInt < 16 := by
  have h1 : x.toInt ≤ (15 : Int32).toInt := q_nlt c
  have h2 : (15 : Int32).toInt = 15 := by decide
  omega
theorem q_16' {x : Int32} (h : 0 ≤ x.toInt ∧ x.toInt < 32) (c : x ≤ 15) : 0 ≤ x.toInt ∧ x.toInt < 16 := by
  have h1 : x.toInt ≤ (15 : Int32).toInt := q_le c
  have h2 : (15 : Int32).toInt = 15 := by decide
  omega
theorem q_w4 {t a : Int32} (ht : 0 ≤ t.toInt ∧ t.toInt < 4) (ha : 0 ≤ a.toInt ∧ a.toInt < 512) : vp_in (128 * t + a / 4) 512 := by
  have h2 : (4 : Int32).toInt = 4 := by decide
  have h := q_div (x := a) (c := 4) ha.1 (by rw [h2]; omega)
  rw [h2] at h
  exact q_i128 ht (by rw [h]; omega)
theorem q_sh {a : Int32} (ha : 4096 ≤ a.toInt ∧ a.toInt < 4352) : vp_in ((a - 4096) / 4) 64 := by
  have h2 : (4 : Int32).toInt = 4 := by decide
  have h3 : (4096 : Int32).toInt = 4096 := by decide
  have h4 : (a - 4096).toInt = a.toInt - 4096 := by rw [q_sub (by rw [h3]; omega) (by rw [h3]; omega), h3]
  have h := q_div (x := a - 4096) (c := 4) (by rw [h4]; omega) (by rw [h2]; omega)
  rw [h2, h4] at h
  exact q_in (by rw [h]; omega) (by rw [h]; omega)
theorem q_tr {t d e : Int32} (ht : 0 ≤ t.toInt ∧ t.toInt < 4) (hd : 0 ≤ d.toInt) (he : 0 ≤ e.toInt ∧ e.toInt < 3) : vp_in (48 * t + 3 * (d - d / 16 * 16)) 192 ∧ vp_in (48 * t + 3 * (d - d / 16 * 16) + e) 192 := by
  have h16 : (16 : Int32).toInt = 16 := by decide
  have h3 : (3 : Int32).toInt = 3 := by decide
  have h1 := q_rem (x := d) (c := 16) hd (by rw [h16]; omega)
  rw [h16] at h1
  have h2 : (3 * (d - d / 16 * 16)).toInt = 3 * (d.toInt % 16) := by rw [q_mul (by rw [h3, h1]; omega) (by rw [h3, h1]; omega), h3, h1]
  have h4 := q_mad (c := 48) (C := 48) (by decide) (by omega) ht (r := 3 * (d - d / 16 * 16)) (by rw [h2]; omega)
  rw [h2] at h4
  have h5 : (48 * t + 3 * (d - d / 16 * 16) + e).toInt = 48 * t.toInt + 3 * (d.toInt % 16) + e.toInt := by rw [q_add (by rw [h4]; omega) (by rw [h4]; omega), h4]
  exact ⟨q_in (by rw [h4]; omega) (by rw [h4]; omega), q_in (by rw [h5]; omega) (by rw [h5]; omega)⟩
theorem q_g1 {x b : Int32} {n : Int} (c0 : ¬ x < 0) (c1 : ¬ b < x) (hb : b.toInt + 1 = n) : 0 ≤ x.toInt ∧ x.toInt < n := by
  have h2 : (0 : Int32).toInt = 0 := by decide
  have := q_nlt c0
  have := q_nlt c1
  omega
theorem q_g2 {x b : Int32} {n : Int} (c0 : ¬ x < 0) (c1 : x ≤ b) (hb : b.toInt + 1 = n) : 0 ≤ x.toInt ∧ x.toInt < n := by
  have h2 : (0 : Int32).toInt = 0 := by decide
  have := q_nlt c0
  have := q_le c1
  omega
theorem q_g3 {x b : Int32} {n : Int} (c0 : ¬ x < 0) (c1 : x < b) (hb : b.toInt = n) : 0 ≤ x.toInt ∧ x.toInt < n := by
  have h2 : (0 : Int32).toInt = 0 := by decide
  have := q_nlt c0
  have := q_lt c1
  omega
theorem q_i4m {t r : Int32} (ht : 0 ≤ t.toInt ∧ t.toInt < 4) (hr : ¬ r < 4) (hr2 : ¬ 7 < r) : vp_in (4 * t + r - 4) 16 := by
  have h4 : (4 : Int32).toInt = 4 := by decide
  have h7 : (7 : Int32).toInt = 7 := by decide
  have h1 := q_nlt hr
  have h2 := q_nlt hr2
  have h := q_mad (c := 4) (C := 4) (by decide) (by omega) ht (r := r) (by omega)
  have h3 : (4 * t + r - 4).toInt = 4 * t.toInt + r.toInt - 4 := by rw [q_sub (by rw [h, h4]; omega) (by rw [h, h4]; omega), h, h4]
  exact q_in (by rw [h3]; omega) (by rw [h3]; omega)
theorem q_trk {t d k w : Int32} (ht : 0 ≤ t.toInt ∧ t.toInt < 4) (hd : ¬ d ≤ k) (hk : 0 ≤ k.toInt) (hw : 0 ≤ w.toInt ∧ w.toInt < 3) : vp_in (48 * t + 3 * ((d - 1 - k) - (d - 1 - k) / 16 * 16) + w) 192 := by
  have h1 : (1 : Int32).toInt = 1 := by decide
  have h2 := q_nle hd
  have h3 := q_rng d
  have h4 : (d - 1).toInt = d.toInt - 1 := by rw [q_sub (by rw [h1]; omega) (by rw [h1]; omega), h1]
  have h5 : (d - 1 - k).toInt = d.toInt - 1 - k.toInt := by rw [q_sub (by rw [h4]; omega) (by rw [h4]; omega), h4]
  exact (q_tr ht (by rw [h5]; omega) hw).2
theorem q_fst (w t b : Int) (hw : 1 ≤ w ∧ w ≤ 8) (ht : 0 ≤ t ∧ t < 4) (hb : 0 ≤ b) (c : ¬ b % (4 * w) = w * t) : (w * t - (b + 1)) % (4 * w) = (w * t - b) % (4 * w) - 1 ∧ 0 < (w * t - b) % (4 * w) := by
  rcases (show w = 1 ∨ w = 2 ∨ w = 3 ∨ w = 4 ∨ w = 5 ∨ w = 6 ∨ w = 7 ∨ w = 8 by omega) with rfl | rfl | rfl | rfl | rfl | rfl | rfl | rfl <;> rcases (show t = 0 ∨ t = 1 ∨ t = 2 ∨ t = 3 by omega) with rfl | rfl | rfl | rfl <;> omega
theorem q_4w {w : Int32} (hw : 1 ≤ w.toInt ∧ w.toInt ≤ 8) : (4 * w).toInt = 4 * w.toInt := by
  have h4 : (4 : Int32).toInt = 4 := by decide
  rw [q_mul (by rw [h4]; omega) (by rw [h4]; omega), h4]
theorem q_wt {w t : Int32} (hw : 1 ≤ w.toInt ∧ w.toInt ≤ 8) (ht : 0 ≤ t.toInt ∧ t.toInt < 4) : (w * t).toInt = w.toInt * t.toInt := by
  have h1 : 0 ≤ w.toInt * t.toInt := Int.mul_nonneg (by omega) ht.1
  have h2 : w.toInt * t.toInt ≤ 8 * 3 := Int.mul_le_mul hw.2 (by omega) ht.1 (by omega)
  rw [q_mul (by omega) (by omega)]
theorem q_w40 {w : Int32} (hw : 1 ≤ w.toInt ∧ w.toInt ≤ 8) : ¬ 4 * w = 0 := fun h => by
  have h1 := q_4w hw
  have h2 : (0 : Int32).toInt = 0 := by decide
  rw [h, h2] at h1
  omega
theorem q_fst2 {w t b : Int32} (hw : 1 ≤ w.toInt ∧ w.toInt ≤ 8) (ht : 0 ≤ t.toInt ∧ t.toInt < 4) (hb : 0 ≤ b.toInt) (hb2 : b.toInt + (w.toInt * t.toInt - b.toInt) % (4 * w.toInt) ≤ 1100040) (c : ¬ b - b / (4 * w) * (4 * w) = w * t) : (b + 1).toInt = b.toInt + 1 ∧ (w.toInt * t.toInt - (b.toInt + 1)) % (4 * w.toInt) = (w.toInt * t.toInt - b.toInt) % (4 * w.toInt) - 1 ∧ 0 < (w.toInt * t.toInt - b.toInt) % (4 * w.toInt) := by
  have h1 := q_4w hw
  have h2 := q_rem (x := b) (c := 4 * w) hb (by omega)
  have h3 : ¬ b.toInt % (4 * w.toInt) = w.toInt * t.toInt := fun h => c (Int32.toInt_inj.mp (by rw [h2, h1, h, q_wt hw ht]))
  have h4 := q_fst _ _ _ hw ht hb h3
  exact ⟨q_inc (by omega), h4⟩
theorem q_fst3 {w t b : Int} (hw : 1 ≤ w ∧ w ≤ 8) : ((w * t - b) % (4 * w)).toNat < 33 := by
  have h1 := Int.emod_nonneg (w * t - b) (show 4 * w ≠ 0 by omega)
  have h2 := Int.emod_lt_of_pos (w * t - b) (show 0 < 4 * w by omega)
  omega
theorem q_fst4 {w t b : Int} (hw : 1 ≤ w ∧ w ≤ 8) (hb : 0 ≤ b ∧ b ≤ 1100000) : 0 ≤ b ∧ b + (w * t - b) % (4 * w) ≤ 1100040 := by
  have h2 := Int.emod_lt_of_pos (w * t - b) (show 0 < 4 * w by omega)
  omega
theorem q_4096 {x : Int32} (h : 0 ≤ x.toInt ∧ x.toInt ≤ 64) : (4096 + 4 * x).toInt = 4096 + 4 * x.toInt := by
  have h4 : (4 : Int32).toInt = 4 := by decide
  have h5 : (4096 : Int32).toInt = 4096 := by decide
  have h1 : (4 * x).toInt = 4 * x.toInt := by rw [q_mul (by rw [h4]; omega) (by rw [h4]; omega), h4]
  rw [q_add (by rw [h5, h1]; omega) (by rw [h5, h1]; omega), h5, h1]
theorem q_m4 {x : Int32} (h : 0 ≤ x.toInt) : 0 ≤ (x - x / 4 * 4).toInt ∧ (x - x / 4 * 4).toInt < 4 := by
  have h4 : (4 : Int32).toInt = 4 := by decide
  have h1 := q_rem (x := x) (c := 4) h (by rw [h4]; omega)
  rw [h4] at h1
  rw [h1]
  omega
