theorem y_or3a (b x y z : Int32) : ((b ||| x) ||| y) ||| z = b ||| ((x ||| y) ||| z) := by rw [Int32.or_assoc, Int32.or_assoc, Int32.or_assoc]
theorem y_or3b (b x y z : Int32) : ((b ||| x) ||| z) ||| y = b ||| ((x ||| y) ||| z) := by rw [Int32.or_assoc, Int32.or_assoc, Int32.or_assoc, Int32.or_comm z y]
theorem y_riS {N : Int32} {K : Nat → Int32} {V : Nat → Int64} {m l2 : Nat} {l3 l4 LEN C at1 has w mis at2 w2 mal2 mis2 : Int32} {t t2 : Int64} (hlen : f_J0_length_8abf5 l2 = LEN) (hch : f_J0_charAt_5068e l2 l3 = C) (hlt : ¬ LEN ≤ l3) (hl : l3 + 1 = l4) (hrp : f_X0_readPiece C at1 w t 0 mis N K V = (at2, w2, t2, mal2, mis2)) : f_X0_readInstruction_48 N K V (m + 1) l2 l3 at1 has w t 0 mis = f_X0_readInstruction_48 N K V m l2 l4 at2 has w2 t2 mal2 mis2 := by
  rw [y_ri hlen hch hlt hrp, hl]
theorem y_S0_0 {N : Int32} {K : Nat → Int32} {V : Nat → Int64} {m : Nat} {at1 has w mis at2 w2 mal2 mis2 : Int32} {t t2 : Int64} (hrp : f_X0_readPiece 100 at1 w t 0 mis N K V = (at2, w2, t2, mal2, mis2)) : f_X0_readInstruction_48 N K V (m + 1) 1200 0 at1 has w t 0 mis = f_X0_readInstruction_48 N K V m 1200 1 at2 has w2 t2 mal2 mis2 := y_riS (LEN := 3) (by decide +kernel) (by decide +kernel) (by decide +kernel) (by decide +kernel) hrp
theorem y_S0_1 {N : Int32} {K : Nat → Int32} {V : Nat → Int64} {m : Nat} {at1 has w mis at2 w2 mal2 mis2 : Int32} {t t2 : Int64} (hrp : f_X0_readPiece 44 at1 w t 0 mis N K V = (at2, w2, t2, mal2, mis2)) : f_X0_readInstruction_48 N K V (m + 1) 1200 1 at1 has w t 0 mis = f_X0_readInstruction_48 N K V m 1200 2 at2 has w2 t2 mal2 mis2 := y_riS (LEN := 3) (by decide +kernel) (by decide +kernel) (by decide +kernel) (by decide +kernel) hrp
theorem y_S0_2 {N : Int32} {K : Nat → Int32} {V : Nat → Int64} {m : Nat} {at1 has w mis at2 w2 mal2 mis2 : Int32} {t t2 : Int64} (hrp : f_X0_readPiece 117 at1 w t 0 mis N K V = (at2, w2, t2, mal2, mis2)) : f_X0_readInstruction_48 N K V (m + 1) 1200 2 at1 has w t 0 mis = f_X0_readInstruction_48 N K V m 1200 3 at2 has w2 t2 mal2 mis2 := y_riS (LEN := 3) (by decide +kernel) (by decide +kernel) (by decide +kernel) (by decide +kernel) hrp
theorem y_E0 {N : Int32} {K : Nat → Int32} {V : Nat → Int64} {m : Nat} {at1 has w mal mis : Int32} {t : Int64} : f_X0_readInstruction_48 N K V (m + 1) 1200 3 at1 has w t mal mis = (at1, has, w, t, mal, mis) := y_riE (LEN := 3) (by decide +kernel) (by decide +kernel)
theorem y_S1_0 {N : Int32} {K : Nat → Int32} {V : Nat → Int64} {m : Nat} {at1 has w mis at2 w2 mal2 mis2 : Int32} {t t2 : Int64} (hrp : f_X0_readPiece 100 at1 w t 0 mis N K V = (at2, w2, t2, mal2, mis2)) : f_X0_readInstruction_48 N K V (m + 1) 1201 0 at1 has w t 0 mis = f_X0_readInstruction_48 N K V m 1201 1 at2 has w2 t2 mal2 mis2 := y_riS (LEN := 3) (by decide +kernel) (by decide +kernel) (by decide +kernel) (by decide +kernel) hrp
theorem y_S1_1 {N : Int32} {K : Nat → Int32} {V : Nat → Int64} {m : Nat} {at1 has w mis at2 w2 mal2 mis2 : Int32} {t t2 : Int64} (hrp : f_X0_readPiece 44 at1 w t 0 mis N K V = (at2, w2, t2, mal2, mis2)) : f_X0_readInstruction_48 N K V (m + 1) 1201 1 at1 has w t 0 mis = f_X0_readInstruction_48 N K V m 1201 2 at2 has w2 t2 mal2 mis2 := y_riS (LEN := 3) (by decide +kernel) (by decide +kernel) (by decide +kernel) (by decide +kernel) hrp
theorem y_S1_2 {N : Int32} {K : Nat → Int32} {V : Nat → Int64} {m : Nat} {at1 has w mis at2 w2 mal2 mis2 : Int32} {t t2 : Int64} (hrp : f_X0_readPiece 106 at1 w t 0 mis N K V = (at2, w2, t2, mal2, mis2)) : f_X0_readInstruction_48 N K V (m + 1) 1201 2 at1 has w t 0 mis = f_X0_readInstruction_48 N K V m 1201 3 at2 has w2 t2 mal2 mis2 := y_riS (LEN := 3) (by decide +kernel) (by decide +kernel) (by decide +kernel) (by decide +kernel) hrp
theorem y_E1 {N : Int32} {K : Nat → Int32} {V : Nat → Int64} {m : Nat} {at1 has w mal mis : Int32} {t : Int64} : f_X0_readInstruction_48 N K V (m + 1) 1201 3 at1 has w t mal mis = (at1, has, w, t, mal, mis) := y_riE (LEN := 3) (by decide +kernel) (by decide +kernel)
theorem y_S2_0 {N : Int32} {K : Nat → Int32} {V : Nat → Int64} {m : Nat} {at1 has w mis at2 w2 mal2 mis2 : Int32} {t t2 : Int64} (hrp : f_X0_readPiece 100 at1 w t 0 mis N K V = (at2, w2, t2, mal2, mis2)) : f_X0_readInstruction_48 N K V (m + 1) 1202 0 at1 has w t 0 mis = f_X0_readInstruction_48 N K V m 1202 1 at2 has w2 t2 mal2 mis2 := y_riS (LEN := 6) (by decide +kernel) (by decide +kernel) (by decide +kernel) (by decide +kernel) hrp
theorem y_S2_1 {N : Int32} {K : Nat → Int32} {V : Nat → Int64} {m : Nat} {at1 has w mis at2 w2 mal2 mis2 : Int32} {t t2 : Int64} (hrp : f_X0_readPiece 44 at1 w t 0 mis N K V = (at2, w2, t2, mal2, mis2)) : f_X0_readInstruction_48 N K V (m + 1) 1202 1 at1 has w t 0 mis = f_X0_readInstruction_48 N K V m 1202 2 at2 has w2 t2 mal2 mis2 := y_riS (LEN := 6) (by decide +kernel) (by decide +kernel) (by decide +kernel) (by decide +kernel) hrp
theorem y_S2_2 {N : Int32} {K : Nat → Int32} {V : Nat → Int64} {m : Nat} {at1 has w mis at2 w2 mal2 mis2 : Int32} {t t2 : Int64} (hrp : f_X0_readPiece 105 at1 w t 0 mis N K V = (at2, w2, t2, mal2, mis2)) : f_X0_readInstruction_48 N K V (m + 1) 1202 2 at1 has w t 0 mis = f_X0_readInstruction_48 N K V m 1202 3 at2 has w2 t2 mal2 mis2 := y_riS (LEN := 6) (by decide +kernel) (by decide +kernel) (by decide +kernel) (by decide +kernel) hrp
theorem y_S2_3 {N : Int32} {K : Nat → Int32} {V : Nat → Int64} {m : Nat} {at1 has w mis at2 w2 mal2 mis2 : Int32} {t t2 : Int64} (hrp : f_X0_readPiece 40 at1 w t 0 mis N K V = (at2, w2, t2, mal2, mis2)) : f_X0_readInstruction_48 N K V (m + 1) 1202 3 at1 has w t 0 mis = f_X0_readInstruction_48 N K V m 1202 4 at2 has w2 t2 mal2 mis2 := y_riS (LEN := 6) (by decide +kernel) (by decide +kernel) (by decide +kernel) (by decide +kernel) hrp
theorem y_S2_4 {N : Int32} {K : Nat → Int32} {V : Nat → Int64} {m : Nat} {at1 has w mis at2 w2 mal2 mis2 : Int32} {t t2 : Int64} (hrp : f_X0_readPiece 115 at1 w t 0 mis N K V = (at2, w2, t2, mal2, mis2)) : f_X0_readInstruction_48 N K V (m + 1) 1202 4 at1 has w t 0 mis = f_X0_readInstruction_48 N K V m 1202 5 at2 has w2 t2 mal2 mis2 := y_riS (LEN := 6) (by decide +kernel) (by decide +kernel) (by decide +kernel) (by decide +kernel) hrp
theorem y_S2_5 {N : Int32} {K : Nat → Int32} {V : Nat → Int64} {m : Nat} {at1 has w mis at2 w2 mal2 mis2 : Int32} {t t2 : Int64} (hrp : f_X0_readPiece 41 at1 w t 0 mis N K V = (at2, w2, t2, mal2, mis2)) : f_X0_readInstruction_48 N K V (m + 1) 1202 5 at1 has w t 0 mis = f_X0_readInstruction_48 N K V m 1202 6 at2 has w2 t2 mal2 mis2 := y_riS (LEN := 6) (by decide +kernel) (by decide +kernel) (by decide +kernel) (by decide +kernel) hrp
theorem y_E2 {N : Int32} {K : Nat → Int32} {V : Nat → Int64} {m : Nat} {at1 has w mal mis : Int32} {t : Int64} : f_X0_readInstruction_48 N K V (m + 1) 1202 6 at1 has w t mal mis = (at1, has, w, t, mal, mis) := y_riE (LEN := 6) (by decide +kernel) (by decide +kernel)
theorem y_S3_0 {N : Int32} {K : Nat → Int32} {V : Nat → Int64} {m : Nat} {at1 has w mis at2 w2 mal2 mis2 : Int32} {t t2 : Int64} (hrp : f_X0_readPiece 115 at1 w t 0 mis N K V = (at2, w2, t2, mal2, mis2)) : f_X0_readInstruction_48 N K V (m + 1) 1203 0 at1 has w t 0 mis = f_X0_readInstruction_48 N K V m 1203 1 at2 has w2 t2 mal2 mis2 := y_riS (LEN := 5) (by decide +kernel) (by decide +kernel) (by decide +kernel) (by decide +kernel) hrp
theorem y_S3_1 {N : Int32} {K : Nat → Int32} {V : Nat → Int64} {m : Nat} {at1 has w mis at2 w2 mal2 mis2 : Int32} {t t2 : Int64} (hrp : f_X0_readPiece 44 at1 w t 0 mis N K V = (at2, w2, t2, mal2, mis2)) : f_X0_readInstruction_48 N K V (m + 1) 1203 1 at1 has w t 0 mis = f_X0_readInstruction_48 N K V m 1203 2 at2 has w2 t2 mal2 mis2 := y_riS (LEN := 5) (by decide +kernel) (by decide +kernel) (by decide +kernel) (by decide +kernel) hrp
theorem y_S3_2 {N : Int32} {K : Nat → Int32} {V : Nat → Int64} {m : Nat} {at1 has w mis at2 w2 mal2 mis2 : Int32} {t t2 : Int64} (hrp : f_X0_readPiece 116 at1 w t 0 mis N K V = (at2, w2, t2, mal2, mis2)) : f_X0_readInstruction_48 N K V (m + 1) 1203 2 at1 has w t 0 mis = f_X0_readInstruction_48 N K V m 1203 3 at2 has w2 t2 mal2 mis2 := y_riS (LEN := 5) (by decide +kernel) (by decide +kernel) (by decide +kernel) (by decide +kernel) hrp
theorem y_S3_3 {N : Int32} {K : Nat → Int32} {V : Nat → Int64} {m : Nat} {at1 has w mis at2 w2 mal2 mis2 : Int32} {t t2 : Int64} (hrp : f_X0_readPiece 44 at1 w t 0 mis N K V = (at2, w2, t2, mal2, mis2)) : f_X0_readInstruction_48 N K V (m + 1) 1203 3 at1 has w t 0 mis = f_X0_readInstruction_48 N K V m 1203 4 at2 has w2 t2 mal2 mis2 := y_riS (LEN := 5) (by decide +kernel) (by decide +kernel) (by decide +kernel) (by decide +kernel) hrp
theorem y_S3_4 {N : Int32} {K : Nat → Int32} {V : Nat → Int64} {m : Nat} {at1 has w mis at2 w2 mal2 mis2 : Int32} {t t2 : Int64} (hrp : f_X0_readPiece 98 at1 w t 0 mis N K V = (at2, w2, t2, mal2, mis2)) : f_X0_readInstruction_48 N K V (m + 1) 1203 4 at1 has w t 0 mis = f_X0_readInstruction_48 N K V m 1203 5 at2 has w2 t2 mal2 mis2 := y_riS (LEN := 5) (by decide +kernel) (by decide +kernel) (by decide +kernel) (by decide +kernel) hrp
theorem y_E3 {N : Int32} {K : Nat → Int32} {V : Nat → Int64} {m : Nat} {at1 has w mal mis : Int32} {t : Int64} : f_X0_readInstruction_48 N K V (m + 1) 1203 5 at1 has w t mal mis = (at1, has, w, t, mal, mis) := y_riE (LEN := 5) (by decide +kernel) (by decide +kernel)
theorem y_S4_0 {N : Int32} {K : Nat → Int32} {V : Nat → Int64} {m : Nat} {at1 has w mis at2 w2 mal2 mis2 : Int32} {t t2 : Int64} (hrp : f_X0_readPiece 116 at1 w t 0 mis N K V = (at2, w2, t2, mal2, mis2)) : f_X0_readInstruction_48 N K V (m + 1) 1204 0 at1 has w t 0 mis = f_X0_readInstruction_48 N K V m 1204 1 at2 has w2 t2 mal2 mis2 := y_riS (LEN := 6) (by decide +kernel) (by decide +kernel) (by decide +kernel) (by decide +kernel) hrp
theorem y_S4_1 {N : Int32} {K : Nat → Int32} {V : Nat → Int64} {m : Nat} {at1 has w mis at2 w2 mal2 mis2 : Int32} {t t2 : Int64} (hrp : f_X0_readPiece 44 at1 w t 0 mis N K V = (at2, w2, t2, mal2, mis2)) : f_X0_readInstruction_48 N K V (m + 1) 1204 1 at1 has w t 0 mis = f_X0_readInstruction_48 N K V m 1204 2 at2 has w2 t2 mal2 mis2 := y_riS (LEN := 6) (by decide +kernel) (by decide +kernel) (by decide +kernel) (by decide +kernel) hrp
theorem y_S4_2 {N : Int32} {K : Nat → Int32} {V : Nat → Int64} {m : Nat} {at1 has w mis at2 w2 mal2 mis2 : Int32} {t t2 : Int64} (hrp : f_X0_readPiece 109 at1 w t 0 mis N K V = (at2, w2, t2, mal2, mis2)) : f_X0_readInstruction_48 N K V (m + 1) 1204 2 at1 has w t 0 mis = f_X0_readInstruction_48 N K V m 1204 3 at2 has w2 t2 mal2 mis2 := y_riS (LEN := 6) (by decide +kernel) (by decide +kernel) (by decide +kernel) (by decide +kernel) hrp
theorem y_S4_3 {N : Int32} {K : Nat → Int32} {V : Nat → Int64} {m : Nat} {at1 has w mis at2 w2 mal2 mis2 : Int32} {t t2 : Int64} (hrp : f_X0_readPiece 40 at1 w t 0 mis N K V = (at2, w2, t2, mal2, mis2)) : f_X0_readInstruction_48 N K V (m + 1) 1204 3 at1 has w t 0 mis = f_X0_readInstruction_48 N K V m 1204 4 at2 has w2 t2 mal2 mis2 := y_riS (LEN := 6) (by decide +kernel) (by decide +kernel) (by decide +kernel) (by decide +kernel) hrp
theorem y_S4_4 {N : Int32} {K : Nat → Int32} {V : Nat → Int64} {m : Nat} {at1 has w mis at2 w2 mal2 mis2 : Int32} {t t2 : Int64} (hrp : f_X0_readPiece 115 at1 w t 0 mis N K V = (at2, w2, t2, mal2, mis2)) : f_X0_readInstruction_48 N K V (m + 1) 1204 4 at1 has w t 0 mis = f_X0_readInstruction_48 N K V m 1204 5 at2 has w2 t2 mal2 mis2 := y_riS (LEN := 6) (by decide +kernel) (by decide +kernel) (by decide +kernel) (by decide +kernel) hrp
theorem y_S4_5 {N : Int32} {K : Nat → Int32} {V : Nat → Int64} {m : Nat} {at1 has w mis at2 w2 mal2 mis2 : Int32} {t t2 : Int64} (hrp : f_X0_readPiece 41 at1 w t 0 mis N K V = (at2, w2, t2, mal2, mis2)) : f_X0_readInstruction_48 N K V (m + 1) 1204 5 at1 has w t 0 mis = f_X0_readInstruction_48 N K V m 1204 6 at2 has w2 t2 mal2 mis2 := y_riS (LEN := 6) (by decide +kernel) (by decide +kernel) (by decide +kernel) (by decide +kernel) hrp
theorem y_E4 {N : Int32} {K : Nat → Int32} {V : Nat → Int64} {m : Nat} {at1 has w mal mis : Int32} {t : Int64} : f_X0_readInstruction_48 N K V (m + 1) 1204 6 at1 has w t mal mis = (at1, has, w, t, mal, mis) := y_riE (LEN := 6) (by decide +kernel) (by decide +kernel)
theorem y_S5_0 {N : Int32} {K : Nat → Int32} {V : Nat → Int64} {m : Nat} {at1 has w mis at2 w2 mal2 mis2 : Int32} {t t2 : Int64} (hrp : f_X0_readPiece 100 at1 w t 0 mis N K V = (at2, w2, t2, mal2, mis2)) : f_X0_readInstruction_48 N K V (m + 1) 1205 0 at1 has w t 0 mis = f_X0_readInstruction_48 N K V m 1205 1 at2 has w2 t2 mal2 mis2 := y_riS (LEN := 5) (by decide +kernel) (by decide +kernel) (by decide +kernel) (by decide +kernel) hrp
theorem y_S5_1 {N : Int32} {K : Nat → Int32} {V : Nat → Int64} {m : Nat} {at1 has w mis at2 w2 mal2 mis2 : Int32} {t t2 : Int64} (hrp : f_X0_readPiece 44 at1 w t 0 mis N K V = (at2, w2, t2, mal2, mis2)) : f_X0_readInstruction_48 N K V (m + 1) 1205 1 at1 has w t 0 mis = f_X0_readInstruction_48 N K V m 1205 2 at2 has w2 t2 mal2 mis2 := y_riS (LEN := 5) (by decide +kernel) (by decide +kernel) (by decide +kernel) (by decide +kernel) hrp
theorem y_S5_2 {N : Int32} {K : Nat → Int32} {V : Nat → Int64} {m : Nat} {at1 has w mis at2 w2 mal2 mis2 : Int32} {t t2 : Int64} (hrp : f_X0_readPiece 115 at1 w t 0 mis N K V = (at2, w2, t2, mal2, mis2)) : f_X0_readInstruction_48 N K V (m + 1) 1205 2 at1 has w t 0 mis = f_X0_readInstruction_48 N K V m 1205 3 at2 has w2 t2 mal2 mis2 := y_riS (LEN := 5) (by decide +kernel) (by decide +kernel) (by decide +kernel) (by decide +kernel) hrp
theorem y_S5_3 {N : Int32} {K : Nat → Int32} {V : Nat → Int64} {m : Nat} {at1 has w mis at2 w2 mal2 mis2 : Int32} {t t2 : Int64} (hrp : f_X0_readPiece 44 at1 w t 0 mis N K V = (at2, w2, t2, mal2, mis2)) : f_X0_readInstruction_48 N K V (m + 1) 1205 3 at1 has w t 0 mis = f_X0_readInstruction_48 N K V m 1205 4 at2 has w2 t2 mal2 mis2 := y_riS (LEN := 5) (by decide +kernel) (by decide +kernel) (by decide +kernel) (by decide +kernel) hrp
theorem y_S5_4 {N : Int32} {K : Nat → Int32} {V : Nat → Int64} {m : Nat} {at1 has w mis at2 w2 mal2 mis2 : Int32} {t t2 : Int64} (hrp : f_X0_readPiece 105 at1 w t 0 mis N K V = (at2, w2, t2, mal2, mis2)) : f_X0_readInstruction_48 N K V (m + 1) 1205 4 at1 has w t 0 mis = f_X0_readInstruction_48 N K V m 1205 5 at2 has w2 t2 mal2 mis2 := y_riS (LEN := 5) (by decide +kernel) (by decide +kernel) (by decide +kernel) (by decide +kernel) hrp
theorem y_E5 {N : Int32} {K : Nat → Int32} {V : Nat → Int64} {m : Nat} {at1 has w mal mis : Int32} {t : Int64} : f_X0_readInstruction_48 N K V (m + 1) 1205 5 at1 has w t mal mis = (at1, has, w, t, mal, mis) := y_riE (LEN := 5) (by decide +kernel) (by decide +kernel)
theorem y_S6_0 {N : Int32} {K : Nat → Int32} {V : Nat → Int64} {m : Nat} {at1 has w mis at2 w2 mal2 mis2 : Int32} {t t2 : Int64} (hrp : f_X0_readPiece 100 at1 w t 0 mis N K V = (at2, w2, t2, mal2, mis2)) : f_X0_readInstruction_48 N K V (m + 1) 1206 0 at1 has w t 0 mis = f_X0_readInstruction_48 N K V m 1206 1 at2 has w2 t2 mal2 mis2 := y_riS (LEN := 5) (by decide +kernel) (by decide +kernel) (by decide +kernel) (by decide +kernel) hrp
theorem y_S6_1 {N : Int32} {K : Nat → Int32} {V : Nat → Int64} {m : Nat} {at1 has w mis at2 w2 mal2 mis2 : Int32} {t t2 : Int64} (hrp : f_X0_readPiece 44 at1 w t 0 mis N K V = (at2, w2, t2, mal2, mis2)) : f_X0_readInstruction_48 N K V (m + 1) 1206 1 at1 has w t 0 mis = f_X0_readInstruction_48 N K V m 1206 2 at2 has w2 t2 mal2 mis2 := y_riS (LEN := 5) (by decide +kernel) (by decide +kernel) (by decide +kernel) (by decide +kernel) hrp
theorem y_S6_2 {N : Int32} {K : Nat → Int32} {V : Nat → Int64} {m : Nat} {at1 has w mis at2 w2 mal2 mis2 : Int32} {t t2 : Int64} (hrp : f_X0_readPiece 115 at1 w t 0 mis N K V = (at2, w2, t2, mal2, mis2)) : f_X0_readInstruction_48 N K V (m + 1) 1206 2 at1 has w t 0 mis = f_X0_readInstruction_48 N K V m 1206 3 at2 has w2 t2 mal2 mis2 := y_riS (LEN := 5) (by decide +kernel) (by decide +kernel) (by decide +kernel) (by decide +kernel) hrp
theorem y_S6_3 {N : Int32} {K : Nat → Int32} {V : Nat → Int64} {m : Nat} {at1 has w mis at2 w2 mal2 mis2 : Int32} {t t2 : Int64} (hrp : f_X0_readPiece 44 at1 w t 0 mis N K V = (at2, w2, t2, mal2, mis2)) : f_X0_readInstruction_48 N K V (m + 1) 1206 3 at1 has w t 0 mis = f_X0_readInstruction_48 N K V m 1206 4 at2 has w2 t2 mal2 mis2 := y_riS (LEN := 5) (by decide +kernel) (by decide +kernel) (by decide +kernel) (by decide +kernel) hrp
theorem y_S6_4 {N : Int32} {K : Nat → Int32} {V : Nat → Int64} {m : Nat} {at1 has w mis at2 w2 mal2 mis2 : Int32} {t t2 : Int64} (hrp : f_X0_readPiece 104 at1 w t 0 mis N K V = (at2, w2, t2, mal2, mis2)) : f_X0_readInstruction_48 N K V (m + 1) 1206 4 at1 has w t 0 mis = f_X0_readInstruction_48 N K V m 1206 5 at2 has w2 t2 mal2 mis2 := y_riS (LEN := 5) (by decide +kernel) (by decide +kernel) (by decide +kernel) (by decide +kernel) hrp
theorem y_E6 {N : Int32} {K : Nat → Int32} {V : Nat → Int64} {m : Nat} {at1 has w mal mis : Int32} {t : Int64} : f_X0_readInstruction_48 N K V (m + 1) 1206 5 at1 has w t mal mis = (at1, has, w, t, mal, mis) := y_riE (LEN := 5) (by decide +kernel) (by decide +kernel)
theorem y_S7_0 {N : Int32} {K : Nat → Int32} {V : Nat → Int64} {m : Nat} {at1 has w mis at2 w2 mal2 mis2 : Int32} {t t2 : Int64} (hrp : f_X0_readPiece 100 at1 w t 0 mis N K V = (at2, w2, t2, mal2, mis2)) : f_X0_readInstruction_48 N K V (m + 1) 1207 0 at1 has w t 0 mis = f_X0_readInstruction_48 N K V m 1207 1 at2 has w2 t2 mal2 mis2 := y_riS (LEN := 5) (by decide +kernel) (by decide +kernel) (by decide +kernel) (by decide +kernel) hrp
theorem y_S7_1 {N : Int32} {K : Nat → Int32} {V : Nat → Int64} {m : Nat} {at1 has w mis at2 w2 mal2 mis2 : Int32} {t t2 : Int64} (hrp : f_X0_readPiece 44 at1 w t 0 mis N K V = (at2, w2, t2, mal2, mis2)) : f_X0_readInstruction_48 N K V (m + 1) 1207 1 at1 has w t 0 mis = f_X0_readInstruction_48 N K V m 1207 2 at2 has w2 t2 mal2 mis2 := y_riS (LEN := 5) (by decide +kernel) (by decide +kernel) (by decide +kernel) (by decide +kernel) hrp
theorem y_S7_2 {N : Int32} {K : Nat → Int32} {V : Nat → Int64} {m : Nat} {at1 has w mis at2 w2 mal2 mis2 : Int32} {t t2 : Int64} (hrp : f_X0_readPiece 115 at1 w t 0 mis N K V = (at2, w2, t2, mal2, mis2)) : f_X0_readInstruction_48 N K V (m + 1) 1207 2 at1 has w t 0 mis = f_X0_readInstruction_48 N K V m 1207 3 at2 has w2 t2 mal2 mis2 := y_riS (LEN := 5) (by decide +kernel) (by decide +kernel) (by decide +kernel) (by decide +kernel) hrp
theorem y_S7_3 {N : Int32} {K : Nat → Int32} {V : Nat → Int64} {m : Nat} {at1 has w mis at2 w2 mal2 mis2 : Int32} {t t2 : Int64} (hrp : f_X0_readPiece 44 at1 w t 0 mis N K V = (at2, w2, t2, mal2, mis2)) : f_X0_readInstruction_48 N K V (m + 1) 1207 3 at1 has w t 0 mis = f_X0_readInstruction_48 N K V m 1207 4 at2 has w2 t2 mal2 mis2 := y_riS (LEN := 5) (by decide +kernel) (by decide +kernel) (by decide +kernel) (by decide +kernel) hrp
theorem y_S7_4 {N : Int32} {K : Nat → Int32} {V : Nat → Int64} {m : Nat} {at1 has w mis at2 w2 mal2 mis2 : Int32} {t t2 : Int64} (hrp : f_X0_readPiece 116 at1 w t 0 mis N K V = (at2, w2, t2, mal2, mis2)) : f_X0_readInstruction_48 N K V (m + 1) 1207 4 at1 has w t 0 mis = f_X0_readInstruction_48 N K V m 1207 5 at2 has w2 t2 mal2 mis2 := y_riS (LEN := 5) (by decide +kernel) (by decide +kernel) (by decide +kernel) (by decide +kernel) hrp
theorem y_E7 {N : Int32} {K : Nat → Int32} {V : Nat → Int64} {m : Nat} {at1 has w mal mis : Int32} {t : Int64} : f_X0_readInstruction_48 N K V (m + 1) 1207 5 at1 has w t mal mis = (at1, has, w, t, mal, mis) := y_riE (LEN := 5) (by decide +kernel) (by decide +kernel)
theorem y_S8_0 {N : Int32} {K : Nat → Int32} {V : Nat → Int64} {m : Nat} {at1 has w mis at2 w2 mal2 mis2 : Int32} {t t2 : Int64} (hrp : f_X0_readPiece 107 at1 w t 0 mis N K V = (at2, w2, t2, mal2, mis2)) : f_X0_readInstruction_48 N K V (m + 1) 1208 0 at1 has w t 0 mis = f_X0_readInstruction_48 N K V m 1208 1 at2 has w2 t2 mal2 mis2 := y_riS (LEN := 5) (by decide +kernel) (by decide +kernel) (by decide +kernel) (by decide +kernel) hrp
theorem y_S8_1 {N : Int32} {K : Nat → Int32} {V : Nat → Int64} {m : Nat} {at1 has w mis at2 w2 mal2 mis2 : Int32} {t t2 : Int64} (hrp : f_X0_readPiece 44 at1 w t 0 mis N K V = (at2, w2, t2, mal2, mis2)) : f_X0_readInstruction_48 N K V (m + 1) 1208 1 at1 has w t 0 mis = f_X0_readInstruction_48 N K V m 1208 2 at2 has w2 t2 mal2 mis2 := y_riS (LEN := 5) (by decide +kernel) (by decide +kernel) (by decide +kernel) (by decide +kernel) hrp
theorem y_S8_2 {N : Int32} {K : Nat → Int32} {V : Nat → Int64} {m : Nat} {at1 has w mis at2 w2 mal2 mis2 : Int32} {t t2 : Int64} (hrp : f_X0_readPiece 115 at1 w t 0 mis N K V = (at2, w2, t2, mal2, mis2)) : f_X0_readInstruction_48 N K V (m + 1) 1208 2 at1 has w t 0 mis = f_X0_readInstruction_48 N K V m 1208 3 at2 has w2 t2 mal2 mis2 := y_riS (LEN := 5) (by decide +kernel) (by decide +kernel) (by decide +kernel) (by decide +kernel) hrp
theorem y_S8_3 {N : Int32} {K : Nat → Int32} {V : Nat → Int64} {m : Nat} {at1 has w mis at2 w2 mal2 mis2 : Int32} {t t2 : Int64} (hrp : f_X0_readPiece 44 at1 w t 0 mis N K V = (at2, w2, t2, mal2, mis2)) : f_X0_readInstruction_48 N K V (m + 1) 1208 3 at1 has w t 0 mis = f_X0_readInstruction_48 N K V m 1208 4 at2 has w2 t2 mal2 mis2 := y_riS (LEN := 5) (by decide +kernel) (by decide +kernel) (by decide +kernel) (by decide +kernel) hrp
theorem y_S8_4 {N : Int32} {K : Nat → Int32} {V : Nat → Int64} {m : Nat} {at1 has w mis at2 w2 mal2 mis2 : Int32} {t t2 : Int64} (hrp : f_X0_readPiece 105 at1 w t 0 mis N K V = (at2, w2, t2, mal2, mis2)) : f_X0_readInstruction_48 N K V (m + 1) 1208 4 at1 has w t 0 mis = f_X0_readInstruction_48 N K V m 1208 5 at2 has w2 t2 mal2 mis2 := y_riS (LEN := 5) (by decide +kernel) (by decide +kernel) (by decide +kernel) (by decide +kernel) hrp
theorem y_E8 {N : Int32} {K : Nat → Int32} {V : Nat → Int64} {m : Nat} {at1 has w mal mis : Int32} {t : Int64} : f_X0_readInstruction_48 N K V (m + 1) 1208 5 at1 has w t mal mis = (at1, has, w, t, mal, mis) := y_riE (LEN := 5) (by decide +kernel) (by decide +kernel)
theorem y_S9_0 {N : Int32} {K : Nat → Int32} {V : Nat → Int64} {m : Nat} {at1 has w mis at2 w2 mal2 mis2 : Int32} {t t2 : Int64} (hrp : f_X0_readPiece 100 at1 w t 0 mis N K V = (at2, w2, t2, mal2, mis2)) : f_X0_readInstruction_48 N K V (m + 1) 1209 0 at1 has w t 0 mis = f_X0_readInstruction_48 N K V m 1209 1 at2 has w2 t2 mal2 mis2 := y_riS (LEN := 1) (by decide +kernel) (by decide +kernel) (by decide +kernel) (by decide +kernel) hrp
theorem y_E9 {N : Int32} {K : Nat → Int32} {V : Nat → Int64} {m : Nat} {at1 has w mal mis : Int32} {t : Int64} : f_X0_readInstruction_48 N K V (m + 1) 1209 1 at1 has w t mal mis = (at1, has, w, t, mal, mis) := y_riE (LEN := 1) (by decide +kernel) (by decide +kernel)
theorem y_E10 {N : Int32} {K : Nat → Int32} {V : Nat → Int64} {m : Nat} {at1 has w mal mis : Int32} {t : Int64} : f_X0_readInstruction_48 N K V (m + 1) 1210 0 at1 has w t mal mis = (at1, has, w, t, mal, mis) := y_riE (LEN := 0) (by decide +kernel) (by decide +kernel)
theorem y_S11_0 {N : Int32} {K : Nat → Int32} {V : Nat → Int64} {m : Nat} {at1 has w mis at2 w2 mal2 mis2 : Int32} {t t2 : Int64} (hrp : f_X0_readPiece 119 at1 w t 0 mis N K V = (at2, w2, t2, mal2, mis2)) : f_X0_readInstruction_48 N K V (m + 1) 1211 0 at1 has w t 0 mis = f_X0_readInstruction_48 N K V m 1211 1 at2 has w2 t2 mal2 mis2 := y_riS (LEN := 1) (by decide +kernel) (by decide +kernel) (by decide +kernel) (by decide +kernel) hrp
theorem y_E11 {N : Int32} {K : Nat → Int32} {V : Nat → Int64} {m : Nat} {at1 has w mal mis : Int32} {t : Int64} : f_X0_readInstruction_48 N K V (m + 1) 1211 1 at1 has w t mal mis = (at1, has, w, t, mal, mis) := y_riE (LEN := 1) (by decide +kernel) (by decide +kernel)
theorem y_F0 {L n c p d N : Nat} {text K : Nat → Int32} {V : Nat → Int64} {bits line words : Int32} {target : Nat → Int64} {tw tl : Nat → Int32} (hL : L ≤ 400) (hN : N = c + (n + 1)) (hN4 : N ≤ 401) (hd : d ≤ 128) (h0 : y_sy L text K V (n + 1) c p) : y_O L text K V n c d bits line words target tw tl (f_X0_readInstruction_48 (Int32.ofNat N) K V 8 1200 0 (Int32.ofNat c) 1 bits 0 0 0) (f_X11_operands 7 (Int32.ofNat L) (Int32.ofNat p) line words (Int32.ofNat d) 0 0 text target tw tl) := by
  unfold f_X11_operands
  rw [if_neg (by decide), if_neg (by decide), if_neg (by decide), if_neg (by decide), if_neg (by decide), if_neg (by decide), if_pos rfl]
  by_cases k0 : K c = 120
  · obtain ⟨m0, r0, hm0, e0, h1⟩ := (y_reg hL h0).1 k0
    subst hm0
    by_cases k1 : K (c + 1) = 44
    · obtain ⟨m1, r1, hm1, e1, h2⟩ := (y_need (C := 44) hL (Or.inl rfl) h1).1 k1
      subst hm1
      by_cases k2 : K (c + 1 + 1) = 48
      · obtain ⟨m2, r2, x2, u2, hm2, e2, huu2, hwu2, hf2, h3⟩ := (y_num (0 : Int64) (1048575 : Int64) (u := 0) ⟨by decide, by decide⟩ (Or.inl rfl) hL h2).1 k2
        subst hm2
        right
        refine ⟨m2, c + 1 + 1 + 1, r2, 0, u2, ((bits ||| ((V c).toInt32 <<< ((7 : Int32) &&& 31))) ||| ((V (c + 1 + 1)).toInt32 <<< ((12 : Int32) &&& 31))), ((V c).toInt32 <<< ((7 : Int32) &&& 31)) ||| (x2.toInt32 <<< ((12 : Int32) &&& 31)), Int32.ofNat d, target, tw, tl, ?_, ?_, huu2, fun hu => ?_, by omega, h3, fun _ => Or.inl ⟨rfl, rfl, rfl, rfl, rfl⟩⟩
        · rw [y_S0_0 (y_cP (by omega) hN4 (by decide) (by decide) k0 (y_put_d _ _ _)), y_S0_1 (y_cP (by omega) hN4 (by decide) (by decide) k1 (y_put_mc _ _ _)), y_S0_2 (y_cP (by omega) hN4 (by decide) (by decide) k2 (y_put_u hf2)), y_E0]
        · rw [e0]
          unfold f_X11_operands_c271
          rw [e1]
          unfold f_X11_operands_c281
          rw [e2]
          unfold f_X11_operands_c290
          rfl
        · skip
          obtain ⟨hzu2, hxu2⟩ := hwu2 hu
          rw [hxu2]
          exact Int32.or_assoc _ _ _
      · obtain ⟨a, b, e2⟩ := (y_num (0 : Int64) (1048575 : Int64) (u := 0) ⟨by decide, by decide⟩ (Or.inl rfl) hL h2).2 k2
        refine Or.inl ⟨?_, Or.inl ?_⟩
        · rw [y_S0_0 (y_cP (by omega) hN4 (by decide) (by decide) k0 (y_put_d _ _ _)), y_S0_1 (y_cP (by omega) hN4 (by decide) (by decide) k1 (y_put_mc _ _ _)), y_S0_2 (y_cX (by omega) hN4 (by decide) (by decide) k2), y_riM]
        · rw [e0]
          unfold f_X11_operands_c271
          rw [e1]
          unfold f_X11_operands_c281
          rw [e2]
          unfold f_X11_operands_c290
          rfl
    · obtain ⟨a, e1⟩ := (y_need (C := 44) hL (Or.inl rfl) h1).2 k1
      refine Or.inl ⟨?_, Or.inl ?_⟩
      · rw [y_S0_0 (y_cP (by omega) hN4 (by decide) (by decide) k0 (y_put_d _ _ _)), y_S0_1 (y_cX (by omega) hN4 (by decide) (by decide) k1), y_riM]
      · rw [e0]
        unfold f_X11_operands_c271
        rw [e1]
        unfold f_X11_operands_c281
        rw [y_numW]
        unfold f_X11_operands_c290
        rfl
  · obtain ⟨a, b, e0⟩ := (y_reg hL h0).2 k0
    refine Or.inl ⟨?_, Or.inl ?_⟩
    · rw [y_S0_0 (y_cX (by omega) hN4 (by decide) (by decide) k0), y_riM]
    · rw [e0]
      unfold f_X11_operands_c271
      rw [y_needW]
      unfold f_X11_operands_c281
      rw [y_numW]
      unfold f_X11_operands_c290
      rfl
theorem y_F1 {L n c p d N : Nat} {text K : Nat → Int32} {V : Nat → Int64} {bits line words : Int32} {target : Nat → Int64} {tw tl : Nat → Int32} (hL : L ≤ 400) (hN : N = c + (n + 1)) (hN4 : N ≤ 401) (hd : d ≤ 128) (h0 : y_sy L text K V (n + 1) c p) : y_O L text K V n c d bits line words target tw tl (f_X0_readInstruction_48 (Int32.ofNat N) K V 8 1201 0 (Int32.ofNat c) 1 bits 0 0 0) (f_X11_operands 6 (Int32.ofNat L) (Int32.ofNat p) line words (Int32.ofNat d) 0 0 text target tw tl) := by
  unfold f_X11_operands
  rw [if_neg (by decide), if_neg (by decide), if_neg (by decide), if_neg (by decide), if_neg (by decide), if_pos rfl]
  by_cases k0 : K c = 120
  · obtain ⟨m0, r0, hm0, e0, h1⟩ := (y_reg hL h0).1 k0
    subst hm0
    by_cases k1 : K (c + 1) = 44
    · obtain ⟨m1, r1, hm1, e1, h2⟩ := (y_need (C := 44) hL (Or.inl rfl) h1).1 k1
      subst hm1
      obtain ⟨dA, dB, dC⟩ := y_dist (d := d) (jj := 1) (s0 := 1048574) (line := line) (words := words) (u := 0) (target := target) (tw := tw) (tl := tl) (Or.inr ⟨rfl, rfl⟩) (Or.inl rfl) hd hL h2
      by_cases k2 : K (c + 1 + 1) = 97
      · obtain ⟨m2, r2, ww, DD, T1, T2, T3, hm2, hkey, e2, hDD, h3⟩ := dA k2
        subst hm2
        right
        refine ⟨m2, c + 1 + 1 + 1, r2, V (c + 1 + 1), 0, (bits ||| ((V c).toInt32 <<< ((7 : Int32) &&& 31))), ((V c).toInt32 <<< ((7 : Int32) &&& 31)) ||| 0, DD, T1, T2, T3, ?_, ?_, Or.inl rfl, fun hu => ?_, by omega, h3, fun h => Or.inr ⟨ww, hkey, hDD h⟩⟩
        · rw [y_S1_0 (y_cP (by omega) hN4 (by decide) (by decide) k0 (y_put_d _ _ _)), y_S1_1 (y_cP (by omega) hN4 (by decide) (by decide) k1 (y_put_mc _ _ _)), y_S1_2 (y_cT (by omega) hN4 (Or.inr rfl) k2), y_E1]
        · rw [e0]
          unfold f_X11_operands_c249
          rw [e1]
          unfold f_X11_operands_c259
          rw [e2]
          unfold f_X11_operands_c265
          rfl
        · rw [Int32.or_zero]
      · by_cases kk2 : K (c + 1 + 1) = 48
        · obtain ⟨m2, r2, u1, hm2, hu1, hfit, ⟨x1, hx1, e2⟩, h3⟩ := dB kk2
          subst hm2
          right
          have e2' := e2
          rw [if_neg (by decide)] at e2'
          refine ⟨m2, c + 1 + 1 + 1, r2, 0, u1, (bits ||| ((V c).toInt32 <<< ((7 : Int32) &&& 31))) ||| (f_X1_bitsOfJ (V (c + 1 + 1)).toInt32), ((V c).toInt32 <<< ((7 : Int32) &&& 31)) ||| f_X11_jumping x1.toInt32, Int32.ofNat d, _, _, _, ?_, ?_, hu1, fun hu => ?_, by omega, h3, fun _ => Or.inl ⟨rfl, rfl, rfl, rfl, rfl⟩⟩
          · rw [y_S1_0 (y_cP (by omega) hN4 (by decide) (by decide) k0 (y_put_d _ _ _)), y_S1_1 (y_cP (by omega) hN4 (by decide) (by decide) k1 (y_put_mc _ _ _)), y_S1_2 (y_cD (by omega) hN4 (Or.inr rfl) kk2 (y_put_j hfit)), y_E1]
          · rw [e0]
            unfold f_X11_operands_c249
            rw [e1]
            unfold f_X11_operands_c259
            rw [e2']
            unfold f_X11_operands_c265
            rfl
          · rw [hx1 hu, ← e_bJ]; exact Int32.or_assoc _ _ _
        · left
          have hz := dC k2 kk2
          refine ⟨?_, ?_⟩
          · rw [y_S1_0 (y_cP (by omega) hN4 (by decide) (by decide) k0 (y_put_d _ _ _)), y_S1_1 (y_cP (by omega) hN4 (by decide) (by decide) k1 (y_put_mc _ _ _)), y_S1_2 (y_cZ (by omega) hN4 (Or.inr rfl) k2 kk2), y_riM]
          · rw [e0]
            unfold f_X11_operands_c249
            rw [e1]
            unfold f_X11_operands_c259
            unfold f_X11_operands_c265
            dsimp only
            exact hz
    · obtain ⟨a, e1⟩ := (y_need (C := 44) hL (Or.inl rfl) h1).2 k1
      refine Or.inl ⟨?_, Or.inl ?_⟩
      · rw [y_S1_0 (y_cP (by omega) hN4 (by decide) (by decide) k0 (y_put_d _ _ _)), y_S1_1 (y_cX (by omega) hN4 (by decide) (by decide) k1), y_riM]
      · rw [e0]
        unfold f_X11_operands_c249
        rw [e1]
        unfold f_X11_operands_c259
        unfold f_X11_operands_c265
        dsimp only
        exact y_distW _ _ _ _ _ _ _ _ _ _ _
  · obtain ⟨a, b, e0⟩ := (y_reg hL h0).2 k0
    refine Or.inl ⟨?_, Or.inl ?_⟩
    · rw [y_S1_0 (y_cX (by omega) hN4 (by decide) (by decide) k0), y_riM]
    · rw [e0]
      unfold f_X11_operands_c249
      rw [y_needW]
      unfold f_X11_operands_c259
      unfold f_X11_operands_c265
      dsimp only
      exact y_distW _ _ _ _ _ _ _ _ _ _ _
theorem y_F2 {L n c p d N : Nat} {text K : Nat → Int32} {V : Nat → Int64} {bits line words : Int32} {target : Nat → Int64} {tw tl : Nat → Int32} (hL : L ≤ 400) (hN : N = c + (n + 1)) (hN4 : N ≤ 401) (hd : d ≤ 128) (h0 : y_sy L text K V (n + 1) c p) : y_O L text K V n c d bits line words target tw tl (f_X0_readInstruction_48 (Int32.ofNat N) K V 8 1202 0 (Int32.ofNat c) 1 bits 0 0 0) (f_X11_operands 3 (Int32.ofNat L) (Int32.ofNat p) line words (Int32.ofNat d) 0 0 text target tw tl) := by
  unfold f_X11_operands
  rw [if_neg (by decide), if_neg (by decide), if_pos rfl]
  by_cases k0 : K c = 120
  · obtain ⟨m0, r0, hm0, e0, h1⟩ := (y_reg hL h0).1 k0
    subst hm0
    by_cases k1 : K (c + 1) = 44
    · obtain ⟨m1, r1, hm1, e1, h2⟩ := (y_need (C := 44) hL (Or.inl rfl) h1).1 k1
      subst hm1
      by_cases k2 : K (c + 1 + 1) = 48
      · obtain ⟨m2, r2, x2, u2, hm2, e2, huu2, hwu2, hf2, h3⟩ := (y_num (-2048 : Int64) (2047 : Int64) (u := 0) ⟨by decide, by decide⟩ (Or.inl rfl) hL h2).1 k2
        subst hm2
        by_cases k3 : K (c + 1 + 1 + 1) = 40
        · obtain ⟨m3, r3, hm3, e3, h4⟩ := (y_need (C := 40) hL (Or.inr (Or.inl rfl)) h3).1 k3
          subst hm3
          by_cases k4 : K (c + 1 + 1 + 1 + 1) = 120
          · obtain ⟨m4, r4, hm4, e4, h5⟩ := (y_reg hL h4).1 k4
            subst hm4
            by_cases k5 : K (c + 1 + 1 + 1 + 1 + 1) = 41
            · obtain ⟨m5, r5, hm5, e5, h6⟩ := (y_need (C := 41) hL (Or.inr (Or.inr (Or.inl rfl))) h5).1 k5
              subst hm5
              right
              refine ⟨m5, c + 1 + 1 + 1 + 1 + 1 + 1, r5, 0, u2, (((bits ||| ((V c).toInt32 <<< ((7 : Int32) &&& 31))) ||| ((V (c + 1 + 1)).toInt32 <<< ((20 : Int32) &&& 31))) ||| ((V (c + 1 + 1 + 1 + 1)).toInt32 <<< ((15 : Int32) &&& 31))), (((V c).toInt32 <<< ((7 : Int32) &&& 31)) ||| ((V (c + 1 + 1 + 1 + 1)).toInt32 <<< ((15 : Int32) &&& 31))) ||| (x2.toInt32 <<< ((20 : Int32) &&& 31)), Int32.ofNat d, target, tw, tl, ?_, ?_, huu2, fun hu => ?_, by omega, h6, fun _ => Or.inl ⟨rfl, rfl, rfl, rfl, rfl⟩⟩
              · rw [y_S2_0 (y_cP (by omega) hN4 (by decide) (by decide) k0 (y_put_d _ _ _)), y_S2_1 (y_cP (by omega) hN4 (by decide) (by decide) k1 (y_put_mc _ _ _)), y_S2_2 (y_cP (by omega) hN4 (by decide) (by decide) k2 (y_put_i hf2)), y_S2_3 (y_cP (by omega) hN4 (by decide) (by decide) k3 (y_put_mo _ _ _)), y_S2_4 (y_cP (by omega) hN4 (by decide) (by decide) k4 (y_put_s _ _ _)), y_S2_5 (y_cP (by omega) hN4 (by decide) (by decide) k5 (y_put_me _ _ _)), y_E2]
              · rw [e0]
                unfold f_X11_operands_c145
                rw [e1]
                unfold f_X11_operands_c152
                rw [e2]
                unfold f_X11_operands_c162
                rw [e3]
                unfold f_X11_operands_c169
                rw [e4]
                unfold f_X11_operands_c173
                rw [e5]
                unfold f_X11_operands_c181
                rw [if_pos rfl]
                unfold f_X11_operands_c201 f_X11_immediate
                rfl
              · skip
                obtain ⟨hzu2, hxu2⟩ := hwu2 hu
                rw [hxu2]
                exact y_or3b _ _ _ _
            · obtain ⟨a, e5⟩ := (y_need (C := 41) hL (Or.inr (Or.inr (Or.inl rfl))) h5).2 k5
              refine Or.inl ⟨?_, Or.inl ?_⟩
              · rw [y_S2_0 (y_cP (by omega) hN4 (by decide) (by decide) k0 (y_put_d _ _ _)), y_S2_1 (y_cP (by omega) hN4 (by decide) (by decide) k1 (y_put_mc _ _ _)), y_S2_2 (y_cP (by omega) hN4 (by decide) (by decide) k2 (y_put_i hf2)), y_S2_3 (y_cP (by omega) hN4 (by decide) (by decide) k3 (y_put_mo _ _ _)), y_S2_4 (y_cP (by omega) hN4 (by decide) (by decide) k4 (y_put_s _ _ _)), y_S2_5 (y_cX (by omega) hN4 (by decide) (by decide) k5), y_riM]
              · rw [e0]
                unfold f_X11_operands_c145
                rw [e1]
                unfold f_X11_operands_c152
                rw [e2]
                unfold f_X11_operands_c162
                rw [e3]
                unfold f_X11_operands_c169
                rw [e4]
                unfold f_X11_operands_c173
                rw [e5]
                unfold f_X11_operands_c181
                rw [if_pos rfl]
                unfold f_X11_operands_c201 f_X11_immediate
                rfl
          · obtain ⟨a, b, e4⟩ := (y_reg hL h4).2 k4
            refine Or.inl ⟨?_, Or.inl ?_⟩
            · rw [y_S2_0 (y_cP (by omega) hN4 (by decide) (by decide) k0 (y_put_d _ _ _)), y_S2_1 (y_cP (by omega) hN4 (by decide) (by decide) k1 (y_put_mc _ _ _)), y_S2_2 (y_cP (by omega) hN4 (by decide) (by decide) k2 (y_put_i hf2)), y_S2_3 (y_cP (by omega) hN4 (by decide) (by decide) k3 (y_put_mo _ _ _)), y_S2_4 (y_cX (by omega) hN4 (by decide) (by decide) k4), y_riM]
            · rw [e0]
              unfold f_X11_operands_c145
              rw [e1]
              unfold f_X11_operands_c152
              rw [e2]
              unfold f_X11_operands_c162
              rw [e3]
              unfold f_X11_operands_c169
              rw [e4]
              unfold f_X11_operands_c173
              rw [y_needW]
              unfold f_X11_operands_c181
              rw [if_pos rfl]
              unfold f_X11_operands_c201 f_X11_immediate
              rfl
        · obtain ⟨a, e3⟩ := (y_need (C := 40) hL (Or.inr (Or.inl rfl)) h3).2 k3
          refine Or.inl ⟨?_, Or.inl ?_⟩
          · rw [y_S2_0 (y_cP (by omega) hN4 (by decide) (by decide) k0 (y_put_d _ _ _)), y_S2_1 (y_cP (by omega) hN4 (by decide) (by decide) k1 (y_put_mc _ _ _)), y_S2_2 (y_cP (by omega) hN4 (by decide) (by decide) k2 (y_put_i hf2)), y_S2_3 (y_cX (by omega) hN4 (by decide) (by decide) k3), y_riM]
          · rw [e0]
            unfold f_X11_operands_c145
            rw [e1]
            unfold f_X11_operands_c152
            rw [e2]
            unfold f_X11_operands_c162
            rw [e3]
            unfold f_X11_operands_c169
            rw [y_regW]
            unfold f_X11_operands_c173
            rw [y_needW]
            unfold f_X11_operands_c181
            rw [if_pos rfl]
            unfold f_X11_operands_c201 f_X11_immediate
            rfl
      · obtain ⟨a, b, e2⟩ := (y_num (-2048 : Int64) (2047 : Int64) (u := 0) ⟨by decide, by decide⟩ (Or.inl rfl) hL h2).2 k2
        refine Or.inl ⟨?_, Or.inl ?_⟩
        · rw [y_S2_0 (y_cP (by omega) hN4 (by decide) (by decide) k0 (y_put_d _ _ _)), y_S2_1 (y_cP (by omega) hN4 (by decide) (by decide) k1 (y_put_mc _ _ _)), y_S2_2 (y_cX (by omega) hN4 (by decide) (by decide) k2), y_riM]
        · rw [e0]
          unfold f_X11_operands_c145
          rw [e1]
          unfold f_X11_operands_c152
          rw [e2]
          unfold f_X11_operands_c162
          rw [y_needW]
          unfold f_X11_operands_c169
          rw [y_regW]
          unfold f_X11_operands_c173
          rw [y_needW]
          unfold f_X11_operands_c181
          rw [if_pos rfl]
          unfold f_X11_operands_c201 f_X11_immediate
          rfl
    · obtain ⟨a, e1⟩ := (y_need (C := 44) hL (Or.inl rfl) h1).2 k1
      refine Or.inl ⟨?_, Or.inl ?_⟩
      · rw [y_S2_0 (y_cP (by omega) hN4 (by decide) (by decide) k0 (y_put_d _ _ _)), y_S2_1 (y_cX (by omega) hN4 (by decide) (by decide) k1), y_riM]
      · rw [e0]
        unfold f_X11_operands_c145
        rw [e1]
        unfold f_X11_operands_c152
        rw [y_numW]
        unfold f_X11_operands_c162
        rw [y_needW]
        unfold f_X11_operands_c169
        rw [y_regW]
        unfold f_X11_operands_c173
        rw [y_needW]
        unfold f_X11_operands_c181
        rw [if_pos rfl]
        unfold f_X11_operands_c201 f_X11_immediate
        rfl
  · obtain ⟨a, b, e0⟩ := (y_reg hL h0).2 k0
    refine Or.inl ⟨?_, Or.inl ?_⟩
    · rw [y_S2_0 (y_cX (by omega) hN4 (by decide) (by decide) k0), y_riM]
    · rw [e0]
      unfold f_X11_operands_c145
      rw [y_needW]
      unfold f_X11_operands_c152
      rw [y_numW]
      unfold f_X11_operands_c162
      rw [y_needW]
      unfold f_X11_operands_c169
      rw [y_regW]
      unfold f_X11_operands_c173
      rw [y_needW]
      unfold f_X11_operands_c181
      rw [if_pos rfl]
      unfold f_X11_operands_c201 f_X11_immediate
      rfl
theorem y_F3 {L n c p d N : Nat} {text K : Nat → Int32} {V : Nat → Int64} {bits line words : Int32} {target : Nat → Int64} {tw tl : Nat → Int32} (hL : L ≤ 400) (hN : N = c + (n + 1)) (hN4 : N ≤ 401) (hd : d ≤ 128) (h0 : y_sy L text K V (n + 1) c p) : y_O L text K V n c d bits line words target tw tl (f_X0_readInstruction_48 (Int32.ofNat N) K V 8 1203 0 (Int32.ofNat c) 1 bits 0 0 0) (f_X11_operands 5 (Int32.ofNat L) (Int32.ofNat p) line words (Int32.ofNat d) 0 0 text target tw tl) := by
  unfold f_X11_operands
  rw [if_neg (by decide), if_neg (by decide), if_neg (by decide), if_neg (by decide), if_pos rfl]
  by_cases k0 : K c = 120
  · obtain ⟨m0, r0, hm0, e0, h1⟩ := (y_reg hL h0).1 k0
    subst hm0
    by_cases k1 : K (c + 1) = 44
    · obtain ⟨m1, r1, hm1, e1, h2⟩ := (y_need (C := 44) hL (Or.inl rfl) h1).1 k1
      subst hm1
      by_cases k2 : K (c + 1 + 1) = 120
      · obtain ⟨m2, r2, hm2, e2, h3⟩ := (y_reg hL h2).1 k2
        subst hm2
        by_cases k3 : K (c + 1 + 1 + 1) = 44
        · obtain ⟨m3, r3, hm3, e3, h4⟩ := (y_need (C := 44) hL (Or.inl rfl) h3).1 k3
          subst hm3
          obtain ⟨dA, dB, dC⟩ := y_dist (d := d) (jj := 0) (s0 := 4094) (line := line) (words := words) (u := 0) (target := target) (tw := tw) (tl := tl) (Or.inl ⟨rfl, rfl⟩) (Or.inl rfl) hd hL h4
          by_cases k4 : K (c + 1 + 1 + 1 + 1) = 97
          · obtain ⟨m4, r4, ww, DD, T1, T2, T3, hm4, hkey, e4, hDD, h5⟩ := dA k4
            subst hm4
            right
            refine ⟨m4, c + 1 + 1 + 1 + 1 + 1, r4, V (c + 1 + 1 + 1 + 1), 0, ((bits ||| ((V c).toInt32 <<< ((15 : Int32) &&& 31))) ||| ((V (c + 1 + 1)).toInt32 <<< ((20 : Int32) &&& 31))), (((V c).toInt32 <<< ((15 : Int32) &&& 31)) ||| ((V (c + 1 + 1)).toInt32 <<< ((20 : Int32) &&& 31))) ||| 0, DD, T1, T2, T3, ?_, ?_, Or.inl rfl, fun hu => ?_, by omega, h5, fun h => Or.inr ⟨ww, hkey, hDD h⟩⟩
            · rw [y_S3_0 (y_cP (by omega) hN4 (by decide) (by decide) k0 (y_put_s _ _ _)), y_S3_1 (y_cP (by omega) hN4 (by decide) (by decide) k1 (y_put_mc _ _ _)), y_S3_2 (y_cP (by omega) hN4 (by decide) (by decide) k2 (y_put_t _ _ _)), y_S3_3 (y_cP (by omega) hN4 (by decide) (by decide) k3 (y_put_mc _ _ _)), y_S3_4 (y_cT (by omega) hN4 (Or.inl rfl) k4), y_E3]
            · unfold f_X11_pair
              rw [e0]
              unfold f_X11_pair_c1
              rw [e1]
              unfold f_X11_pair_c8
              rw [e2]
              unfold f_X11_pair_c12
              unfold f_X11_operands_c230
              rw [e3]
              unfold f_X11_operands_c237
              rw [e4]
              unfold f_X11_operands_c243
              rfl
            · rw [Int32.or_zero]; exact Int32.or_assoc _ _ _
          · by_cases kk4 : K (c + 1 + 1 + 1 + 1) = 48
            · obtain ⟨m4, r4, u1, hm4, hu1, hfit, ⟨x1, hx1, e4⟩, h5⟩ := dB kk4
              subst hm4
              right
              have e4' := e4
              rw [if_pos rfl] at e4'
              refine ⟨m4, c + 1 + 1 + 1 + 1 + 1, r4, 0, u1, ((bits ||| ((V c).toInt32 <<< ((15 : Int32) &&& 31))) ||| ((V (c + 1 + 1)).toInt32 <<< ((20 : Int32) &&& 31))) ||| (f_X1_bitsOfB (V (c + 1 + 1 + 1 + 1)).toInt32), (((V c).toInt32 <<< ((15 : Int32) &&& 31)) ||| ((V (c + 1 + 1)).toInt32 <<< ((20 : Int32) &&& 31))) ||| f_X11_branching x1.toInt32, Int32.ofNat d, _, _, _, ?_, ?_, hu1, fun hu => ?_, by omega, h5, fun _ => Or.inl ⟨rfl, rfl, rfl, rfl, rfl⟩⟩
              · rw [y_S3_0 (y_cP (by omega) hN4 (by decide) (by decide) k0 (y_put_s _ _ _)), y_S3_1 (y_cP (by omega) hN4 (by decide) (by decide) k1 (y_put_mc _ _ _)), y_S3_2 (y_cP (by omega) hN4 (by decide) (by decide) k2 (y_put_t _ _ _)), y_S3_3 (y_cP (by omega) hN4 (by decide) (by decide) k3 (y_put_mc _ _ _)), y_S3_4 (y_cD (by omega) hN4 (Or.inl rfl) kk4 (y_put_b hfit)), y_E3]
              · unfold f_X11_pair
                rw [e0]
                unfold f_X11_pair_c1
                rw [e1]
                unfold f_X11_pair_c8
                rw [e2]
                unfold f_X11_pair_c12
                unfold f_X11_operands_c230
                rw [e3]
                unfold f_X11_operands_c237
                rw [e4']
                unfold f_X11_operands_c243
                rfl
              · rw [hx1 hu, ← e_bB]; exact y_or3a _ _ _ _
            · left
              have hz := dC k4 kk4
              refine ⟨?_, ?_⟩
              · rw [y_S3_0 (y_cP (by omega) hN4 (by decide) (by decide) k0 (y_put_s _ _ _)), y_S3_1 (y_cP (by omega) hN4 (by decide) (by decide) k1 (y_put_mc _ _ _)), y_S3_2 (y_cP (by omega) hN4 (by decide) (by decide) k2 (y_put_t _ _ _)), y_S3_3 (y_cP (by omega) hN4 (by decide) (by decide) k3 (y_put_mc _ _ _)), y_S3_4 (y_cZ (by omega) hN4 (Or.inl rfl) k4 kk4), y_riM]
              · unfold f_X11_pair
                rw [e0]
                unfold f_X11_pair_c1
                rw [e1]
                unfold f_X11_pair_c8
                rw [e2]
                unfold f_X11_pair_c12
                unfold f_X11_operands_c230
                rw [e3]
                unfold f_X11_operands_c237
                unfold f_X11_operands_c243
                dsimp only
                exact hz
        · obtain ⟨a, e3⟩ := (y_need (C := 44) hL (Or.inl rfl) h3).2 k3
          refine Or.inl ⟨?_, Or.inl ?_⟩
          · rw [y_S3_0 (y_cP (by omega) hN4 (by decide) (by decide) k0 (y_put_s _ _ _)), y_S3_1 (y_cP (by omega) hN4 (by decide) (by decide) k1 (y_put_mc _ _ _)), y_S3_2 (y_cP (by omega) hN4 (by decide) (by decide) k2 (y_put_t _ _ _)), y_S3_3 (y_cX (by omega) hN4 (by decide) (by decide) k3), y_riM]
          · unfold f_X11_pair
            rw [e0]
            unfold f_X11_pair_c1
            rw [e1]
            unfold f_X11_pair_c8
            rw [e2]
            unfold f_X11_pair_c12
            unfold f_X11_operands_c230
            rw [e3]
            unfold f_X11_operands_c237
            unfold f_X11_operands_c243
            dsimp only
            exact y_distW _ _ _ _ _ _ _ _ _ _ _
      · obtain ⟨a, b, e2⟩ := (y_reg hL h2).2 k2
        refine Or.inl ⟨?_, Or.inl ?_⟩
        · rw [y_S3_0 (y_cP (by omega) hN4 (by decide) (by decide) k0 (y_put_s _ _ _)), y_S3_1 (y_cP (by omega) hN4 (by decide) (by decide) k1 (y_put_mc _ _ _)), y_S3_2 (y_cX (by omega) hN4 (by decide) (by decide) k2), y_riM]
        · unfold f_X11_pair
          rw [e0]
          unfold f_X11_pair_c1
          rw [e1]
          unfold f_X11_pair_c8
          rw [e2]
          unfold f_X11_pair_c12
          unfold f_X11_operands_c230
          rw [y_needW]
          unfold f_X11_operands_c237
          unfold f_X11_operands_c243
          dsimp only
          exact y_distW _ _ _ _ _ _ _ _ _ _ _
    · obtain ⟨a, e1⟩ := (y_need (C := 44) hL (Or.inl rfl) h1).2 k1
      refine Or.inl ⟨?_, Or.inl ?_⟩
      · rw [y_S3_0 (y_cP (by omega) hN4 (by decide) (by decide) k0 (y_put_s _ _ _)), y_S3_1 (y_cX (by omega) hN4 (by decide) (by decide) k1), y_riM]
      · unfold f_X11_pair
        rw [e0]
        unfold f_X11_pair_c1
        rw [e1]
        unfold f_X11_pair_c8
        rw [y_regW]
        unfold f_X11_pair_c12
        unfold f_X11_operands_c230
        rw [y_needW]
        unfold f_X11_operands_c237
        unfold f_X11_operands_c243
        dsimp only
        exact y_distW _ _ _ _ _ _ _ _ _ _ _
  · obtain ⟨a, b, e0⟩ := (y_reg hL h0).2 k0
    refine Or.inl ⟨?_, Or.inl ?_⟩
    · rw [y_S3_0 (y_cX (by omega) hN4 (by decide) (by decide) k0), y_riM]
    · unfold f_X11_pair
      rw [e0]
      unfold f_X11_pair_c1
      rw [y_needW]
      unfold f_X11_pair_c8
      rw [y_regW]
      unfold f_X11_pair_c12
      unfold f_X11_operands_c230
      rw [y_needW]
      unfold f_X11_operands_c237
      unfold f_X11_operands_c243
      dsimp only
      exact y_distW _ _ _ _ _ _ _ _ _ _ _
theorem y_F4 {L n c p d N : Nat} {text K : Nat → Int32} {V : Nat → Int64} {bits line words : Int32} {target : Nat → Int64} {tw tl : Nat → Int32} (hL : L ≤ 400) (hN : N = c + (n + 1)) (hN4 : N ≤ 401) (hd : d ≤ 128) (h0 : y_sy L text K V (n + 1) c p) : y_O L text K V n c d bits line words target tw tl (f_X0_readInstruction_48 (Int32.ofNat N) K V 8 1204 0 (Int32.ofNat c) 1 bits 0 0 0) (f_X11_operands 4 (Int32.ofNat L) (Int32.ofNat p) line words (Int32.ofNat d) 0 0 text target tw tl) := by
  unfold f_X11_operands
  rw [if_neg (by decide), if_neg (by decide), if_neg (by decide), if_pos rfl]
  by_cases k0 : K c = 120
  · obtain ⟨m0, r0, hm0, e0, h1⟩ := (y_reg hL h0).1 k0
    subst hm0
    by_cases k1 : K (c + 1) = 44
    · obtain ⟨m1, r1, hm1, e1, h2⟩ := (y_need (C := 44) hL (Or.inl rfl) h1).1 k1
      subst hm1
      by_cases k2 : K (c + 1 + 1) = 48
      · obtain ⟨m2, r2, x2, u2, hm2, e2, huu2, hwu2, hf2, h3⟩ := (y_num (-2048 : Int64) (2047 : Int64) (u := 0) ⟨by decide, by decide⟩ (Or.inl rfl) hL h2).1 k2
        subst hm2
        by_cases k3 : K (c + 1 + 1 + 1) = 40
        · obtain ⟨m3, r3, hm3, e3, h4⟩ := (y_need (C := 40) hL (Or.inr (Or.inl rfl)) h3).1 k3
          subst hm3
          by_cases k4 : K (c + 1 + 1 + 1 + 1) = 120
          · obtain ⟨m4, r4, hm4, e4, h5⟩ := (y_reg hL h4).1 k4
            subst hm4
            by_cases k5 : K (c + 1 + 1 + 1 + 1 + 1) = 41
            · obtain ⟨m5, r5, hm5, e5, h6⟩ := (y_need (C := 41) hL (Or.inr (Or.inr (Or.inl rfl))) h5).1 k5
              subst hm5
              right
              refine ⟨m5, c + 1 + 1 + 1 + 1 + 1 + 1, r5, 0, u2, (((bits ||| ((V c).toInt32 <<< ((20 : Int32) &&& 31))) ||| (f_X1_bitsOfS (V (c + 1 + 1)).toInt32)) ||| ((V (c + 1 + 1 + 1 + 1)).toInt32 <<< ((15 : Int32) &&& 31))), (((V c).toInt32 <<< ((20 : Int32) &&& 31)) ||| ((V (c + 1 + 1 + 1 + 1)).toInt32 <<< ((15 : Int32) &&& 31))) ||| f_X11_storing x2.toInt32, Int32.ofNat d, target, tw, tl, ?_, ?_, huu2, fun hu => ?_, by omega, h6, fun _ => Or.inl ⟨rfl, rfl, rfl, rfl, rfl⟩⟩
              · rw [y_S4_0 (y_cP (by omega) hN4 (by decide) (by decide) k0 (y_put_t _ _ _)), y_S4_1 (y_cP (by omega) hN4 (by decide) (by decide) k1 (y_put_mc _ _ _)), y_S4_2 (y_cP (by omega) hN4 (by decide) (by decide) k2 (y_put_m hf2)), y_S4_3 (y_cP (by omega) hN4 (by decide) (by decide) k3 (y_put_mo _ _ _)), y_S4_4 (y_cP (by omega) hN4 (by decide) (by decide) k4 (y_put_s _ _ _)), y_S4_5 (y_cP (by omega) hN4 (by decide) (by decide) k5 (y_put_me _ _ _)), y_E4]
              · rw [e0]
                unfold f_X11_operands_c145_17
                rw [e1]
                unfold f_X11_operands_c152_18
                rw [e2]
                unfold f_X11_operands_c162_19
                rw [e3]
                unfold f_X11_operands_c169_20
                rw [e4]
                unfold f_X11_operands_c173_21
                rw [e5]
                unfold f_X11_operands_c181_22
                rw [if_neg (by decide)]
                unfold f_X11_operands_c220_23
                rfl
              · skip
                obtain ⟨hzu2, hxu2⟩ := hwu2 hu
                rw [hxu2]
                rw [← e_bS]
                exact y_or3b _ _ _ _
            · obtain ⟨a, e5⟩ := (y_need (C := 41) hL (Or.inr (Or.inr (Or.inl rfl))) h5).2 k5
              refine Or.inl ⟨?_, Or.inl ?_⟩
              · rw [y_S4_0 (y_cP (by omega) hN4 (by decide) (by decide) k0 (y_put_t _ _ _)), y_S4_1 (y_cP (by omega) hN4 (by decide) (by decide) k1 (y_put_mc _ _ _)), y_S4_2 (y_cP (by omega) hN4 (by decide) (by decide) k2 (y_put_m hf2)), y_S4_3 (y_cP (by omega) hN4 (by decide) (by decide) k3 (y_put_mo _ _ _)), y_S4_4 (y_cP (by omega) hN4 (by decide) (by decide) k4 (y_put_s _ _ _)), y_S4_5 (y_cX (by omega) hN4 (by decide) (by decide) k5), y_riM]
              · rw [e0]
                unfold f_X11_operands_c145_17
                rw [e1]
                unfold f_X11_operands_c152_18
                rw [e2]
                unfold f_X11_operands_c162_19
                rw [e3]
                unfold f_X11_operands_c169_20
                rw [e4]
                unfold f_X11_operands_c173_21
                rw [e5]
                unfold f_X11_operands_c181_22
                rw [if_neg (by decide)]
                unfold f_X11_operands_c220_23
                rfl
          · obtain ⟨a, b, e4⟩ := (y_reg hL h4).2 k4
            refine Or.inl ⟨?_, Or.inl ?_⟩
            · rw [y_S4_0 (y_cP (by omega) hN4 (by decide) (by decide) k0 (y_put_t _ _ _)), y_S4_1 (y_cP (by omega) hN4 (by decide) (by decide) k1 (y_put_mc _ _ _)), y_S4_2 (y_cP (by omega) hN4 (by decide) (by decide) k2 (y_put_m hf2)), y_S4_3 (y_cP (by omega) hN4 (by decide) (by decide) k3 (y_put_mo _ _ _)), y_S4_4 (y_cX (by omega) hN4 (by decide) (by decide) k4), y_riM]
            · rw [e0]
              unfold f_X11_operands_c145_17
              rw [e1]
              unfold f_X11_operands_c152_18
              rw [e2]
              unfold f_X11_operands_c162_19
              rw [e3]
              unfold f_X11_operands_c169_20
              rw [e4]
              unfold f_X11_operands_c173_21
              rw [y_needW]
              unfold f_X11_operands_c181_22
              rw [if_neg (by decide)]
              unfold f_X11_operands_c220_23
              rfl
        · obtain ⟨a, e3⟩ := (y_need (C := 40) hL (Or.inr (Or.inl rfl)) h3).2 k3
          refine Or.inl ⟨?_, Or.inl ?_⟩
          · rw [y_S4_0 (y_cP (by omega) hN4 (by decide) (by decide) k0 (y_put_t _ _ _)), y_S4_1 (y_cP (by omega) hN4 (by decide) (by decide) k1 (y_put_mc _ _ _)), y_S4_2 (y_cP (by omega) hN4 (by decide) (by decide) k2 (y_put_m hf2)), y_S4_3 (y_cX (by omega) hN4 (by decide) (by decide) k3), y_riM]
          · rw [e0]
            unfold f_X11_operands_c145_17
            rw [e1]
            unfold f_X11_operands_c152_18
            rw [e2]
            unfold f_X11_operands_c162_19
            rw [e3]
            unfold f_X11_operands_c169_20
            rw [y_regW]
            unfold f_X11_operands_c173_21
            rw [y_needW]
            unfold f_X11_operands_c181_22
            rw [if_neg (by decide)]
            unfold f_X11_operands_c220_23
            rfl
      · obtain ⟨a, b, e2⟩ := (y_num (-2048 : Int64) (2047 : Int64) (u := 0) ⟨by decide, by decide⟩ (Or.inl rfl) hL h2).2 k2
        refine Or.inl ⟨?_, Or.inl ?_⟩
        · rw [y_S4_0 (y_cP (by omega) hN4 (by decide) (by decide) k0 (y_put_t _ _ _)), y_S4_1 (y_cP (by omega) hN4 (by decide) (by decide) k1 (y_put_mc _ _ _)), y_S4_2 (y_cX (by omega) hN4 (by decide) (by decide) k2), y_riM]
        · rw [e0]
          unfold f_X11_operands_c145_17
          rw [e1]
          unfold f_X11_operands_c152_18
          rw [e2]
          unfold f_X11_operands_c162_19
          rw [y_needW]
          unfold f_X11_operands_c169_20
          rw [y_regW]
          unfold f_X11_operands_c173_21
          rw [y_needW]
          unfold f_X11_operands_c181_22
          rw [if_neg (by decide)]
          unfold f_X11_operands_c220_23
          rfl
    · obtain ⟨a, e1⟩ := (y_need (C := 44) hL (Or.inl rfl) h1).2 k1
      refine Or.inl ⟨?_, Or.inl ?_⟩
      · rw [y_S4_0 (y_cP (by omega) hN4 (by decide) (by decide) k0 (y_put_t _ _ _)), y_S4_1 (y_cX (by omega) hN4 (by decide) (by decide) k1), y_riM]
      · rw [e0]
        unfold f_X11_operands_c145_17
        rw [e1]
        unfold f_X11_operands_c152_18
        rw [y_numW]
        unfold f_X11_operands_c162_19
        rw [y_needW]
        unfold f_X11_operands_c169_20
        rw [y_regW]
        unfold f_X11_operands_c173_21
        rw [y_needW]
        unfold f_X11_operands_c181_22
        rw [if_neg (by decide)]
        unfold f_X11_operands_c220_23
        rfl
  · obtain ⟨a, b, e0⟩ := (y_reg hL h0).2 k0
    refine Or.inl ⟨?_, Or.inl ?_⟩
    · rw [y_S4_0 (y_cX (by omega) hN4 (by decide) (by decide) k0), y_riM]
    · rw [e0]
      unfold f_X11_operands_c145_17
      rw [y_needW]
      unfold f_X11_operands_c152_18
      rw [y_numW]
      unfold f_X11_operands_c162_19
      rw [y_needW]
      unfold f_X11_operands_c169_20
      rw [y_regW]
      unfold f_X11_operands_c173_21
      rw [y_needW]
      unfold f_X11_operands_c181_22
      rw [if_neg (by decide)]
      unfold f_X11_operands_c220_23
      rfl
theorem y_F5 {L n c p d N : Nat} {text K : Nat → Int32} {V : Nat → Int64} {bits line words : Int32} {target : Nat → Int64} {tw tl : Nat → Int32} (hL : L ≤ 400) (hN : N = c + (n + 1)) (hN4 : N ≤ 401) (hd : d ≤ 128) (h0 : y_sy L text K V (n + 1) c p) : y_O L text K V n c d bits line words target tw tl (f_X0_readInstruction_48 (Int32.ofNat N) K V 8 1205 0 (Int32.ofNat c) 1 bits 0 0 0) (f_X11_operands 2 (Int32.ofNat L) (Int32.ofNat p) line words (Int32.ofNat d) 0 0 text target tw tl) := by
  unfold f_X11_operands
  rw [if_neg (by decide), if_pos rfl]
  by_cases k0 : K c = 120
  · obtain ⟨m0, r0, hm0, e0, h1⟩ := (y_reg hL h0).1 k0
    subst hm0
    by_cases k1 : K (c + 1) = 44
    · obtain ⟨m1, r1, hm1, e1, h2⟩ := (y_need (C := 44) hL (Or.inl rfl) h1).1 k1
      subst hm1
      by_cases k2 : K (c + 1 + 1) = 120
      · obtain ⟨m2, r2, hm2, e2, h3⟩ := (y_reg hL h2).1 k2
        subst hm2
        by_cases k3 : K (c + 1 + 1 + 1) = 44
        · obtain ⟨m3, r3, hm3, e3, h4⟩ := (y_need (C := 44) hL (Or.inl rfl) h3).1 k3
          subst hm3
          by_cases k4 : K (c + 1 + 1 + 1 + 1) = 48
          · obtain ⟨m4, r4, x4, u4, hm4, e4, huu4, hwu4, hf4, h5⟩ := (y_num (-2048 : Int64) (2047 : Int64) (u := 0) ⟨by decide, by decide⟩ (Or.inl rfl) hL h4).1 k4
            subst hm4
            right
            refine ⟨m4, c + 1 + 1 + 1 + 1 + 1, r4, 0, u4, (((bits ||| ((V c).toInt32 <<< ((7 : Int32) &&& 31))) ||| ((V (c + 1 + 1)).toInt32 <<< ((15 : Int32) &&& 31))) ||| ((V (c + 1 + 1 + 1 + 1)).toInt32 <<< ((20 : Int32) &&& 31))), (((V c).toInt32 <<< ((7 : Int32) &&& 31)) ||| ((V (c + 1 + 1)).toInt32 <<< ((15 : Int32) &&& 31))) ||| (x4.toInt32 <<< ((20 : Int32) &&& 31)), Int32.ofNat d, target, tw, tl, ?_, ?_, huu4, fun hu => ?_, by omega, h5, fun _ => Or.inl ⟨rfl, rfl, rfl, rfl, rfl⟩⟩
            · rw [y_S5_0 (y_cP (by omega) hN4 (by decide) (by decide) k0 (y_put_d _ _ _)), y_S5_1 (y_cP (by omega) hN4 (by decide) (by decide) k1 (y_put_mc _ _ _)), y_S5_2 (y_cP (by omega) hN4 (by decide) (by decide) k2 (y_put_s _ _ _)), y_S5_3 (y_cP (by omega) hN4 (by decide) (by decide) k3 (y_put_mc _ _ _)), y_S5_4 (y_cP (by omega) hN4 (by decide) (by decide) k4 (y_put_i hf4)), y_E5]
            · unfold f_X11_pair
              rw [e0]
              unfold f_X11_pair_c1
              rw [e1]
              unfold f_X11_pair_c8
              rw [e2]
              unfold f_X11_pair_c12
              unfold f_X11_operands_c98
              rw [e3]
              unfold f_X11_operands_c105
              rw [if_neg (by decide)]
              rw [e4]
              unfold f_X11_operands_c132 f_X11_operands_135 f_X11_operands_c139 f_X11_immediate
              rfl
            · skip
              obtain ⟨hzu4, hxu4⟩ := hwu4 hu
              rw [hxu4]
              exact y_or3a _ _ _ _
          · obtain ⟨a, b, e4⟩ := (y_num (-2048 : Int64) (2047 : Int64) (u := 0) ⟨by decide, by decide⟩ (Or.inl rfl) hL h4).2 k4
            refine Or.inl ⟨?_, Or.inl ?_⟩
            · rw [y_S5_0 (y_cP (by omega) hN4 (by decide) (by decide) k0 (y_put_d _ _ _)), y_S5_1 (y_cP (by omega) hN4 (by decide) (by decide) k1 (y_put_mc _ _ _)), y_S5_2 (y_cP (by omega) hN4 (by decide) (by decide) k2 (y_put_s _ _ _)), y_S5_3 (y_cP (by omega) hN4 (by decide) (by decide) k3 (y_put_mc _ _ _)), y_S5_4 (y_cX (by omega) hN4 (by decide) (by decide) k4), y_riM]
            · unfold f_X11_pair
              rw [e0]
              unfold f_X11_pair_c1
              rw [e1]
              unfold f_X11_pair_c8
              rw [e2]
              unfold f_X11_pair_c12
              unfold f_X11_operands_c98
              rw [e3]
              unfold f_X11_operands_c105
              rw [if_neg (by decide)]
              rw [e4]
              unfold f_X11_operands_c132 f_X11_operands_135 f_X11_operands_c139 f_X11_immediate
              rfl
        · obtain ⟨a, e3⟩ := (y_need (C := 44) hL (Or.inl rfl) h3).2 k3
          refine Or.inl ⟨?_, Or.inl ?_⟩
          · rw [y_S5_0 (y_cP (by omega) hN4 (by decide) (by decide) k0 (y_put_d _ _ _)), y_S5_1 (y_cP (by omega) hN4 (by decide) (by decide) k1 (y_put_mc _ _ _)), y_S5_2 (y_cP (by omega) hN4 (by decide) (by decide) k2 (y_put_s _ _ _)), y_S5_3 (y_cX (by omega) hN4 (by decide) (by decide) k3), y_riM]
          · unfold f_X11_pair
            rw [e0]
            unfold f_X11_pair_c1
            rw [e1]
            unfold f_X11_pair_c8
            rw [e2]
            unfold f_X11_pair_c12
            unfold f_X11_operands_c98
            rw [e3]
            unfold f_X11_operands_c105
            rw [if_neg (by decide)]
            rw [y_numW]
            unfold f_X11_operands_c132 f_X11_operands_135 f_X11_operands_c139 f_X11_immediate
            rfl
      · obtain ⟨a, b, e2⟩ := (y_reg hL h2).2 k2
        refine Or.inl ⟨?_, Or.inl ?_⟩
        · rw [y_S5_0 (y_cP (by omega) hN4 (by decide) (by decide) k0 (y_put_d _ _ _)), y_S5_1 (y_cP (by omega) hN4 (by decide) (by decide) k1 (y_put_mc _ _ _)), y_S5_2 (y_cX (by omega) hN4 (by decide) (by decide) k2), y_riM]
        · unfold f_X11_pair
          rw [e0]
          unfold f_X11_pair_c1
          rw [e1]
          unfold f_X11_pair_c8
          rw [e2]
          unfold f_X11_pair_c12
          unfold f_X11_operands_c98
          rw [y_needW]
          unfold f_X11_operands_c105
          rw [if_neg (by decide)]
          rw [y_numW]
          unfold f_X11_operands_c132 f_X11_operands_135 f_X11_operands_c139 f_X11_immediate
          rfl
    · obtain ⟨a, e1⟩ := (y_need (C := 44) hL (Or.inl rfl) h1).2 k1
      refine Or.inl ⟨?_, Or.inl ?_⟩
      · rw [y_S5_0 (y_cP (by omega) hN4 (by decide) (by decide) k0 (y_put_d _ _ _)), y_S5_1 (y_cX (by omega) hN4 (by decide) (by decide) k1), y_riM]
      · unfold f_X11_pair
        rw [e0]
        unfold f_X11_pair_c1
        rw [e1]
        unfold f_X11_pair_c8
        rw [y_regW]
        unfold f_X11_pair_c12
        unfold f_X11_operands_c98
        rw [y_needW]
        unfold f_X11_operands_c105
        rw [if_neg (by decide)]
        rw [y_numW]
        unfold f_X11_operands_c132 f_X11_operands_135 f_X11_operands_c139 f_X11_immediate
        rfl
  · obtain ⟨a, b, e0⟩ := (y_reg hL h0).2 k0
    refine Or.inl ⟨?_, Or.inl ?_⟩
    · rw [y_S5_0 (y_cX (by omega) hN4 (by decide) (by decide) k0), y_riM]
    · unfold f_X11_pair
      rw [e0]
      unfold f_X11_pair_c1
      rw [y_needW]
      unfold f_X11_pair_c8
      rw [y_regW]
      unfold f_X11_pair_c12
      unfold f_X11_operands_c98
      rw [y_needW]
      unfold f_X11_operands_c105
      rw [if_neg (by decide)]
      rw [y_numW]
      unfold f_X11_operands_c132 f_X11_operands_135 f_X11_operands_c139 f_X11_immediate
      rfl
theorem y_F6 {L n c p d N : Nat} {text K : Nat → Int32} {V : Nat → Int64} {bits line words : Int32} {target : Nat → Int64} {tw tl : Nat → Int32} (hL : L ≤ 400) (hN : N = c + (n + 1)) (hN4 : N ≤ 401) (hd : d ≤ 128) (h0 : y_sy L text K V (n + 1) c p) : y_O L text K V n c d bits line words target tw tl (f_X0_readInstruction_48 (Int32.ofNat N) K V 8 1206 0 (Int32.ofNat c) 1 bits 0 0 0) (f_X11_operands 8 (Int32.ofNat L) (Int32.ofNat p) line words (Int32.ofNat d) 0 0 text target tw tl) := by
  unfold f_X11_operands
  rw [if_neg (by decide), if_neg (by decide), if_neg (by decide), if_neg (by decide), if_neg (by decide), if_neg (by decide), if_neg (by decide), if_pos rfl]
  by_cases k0 : K c = 120
  · obtain ⟨m0, r0, hm0, e0, h1⟩ := (y_reg hL h0).1 k0
    subst hm0
    by_cases k1 : K (c + 1) = 44
    · obtain ⟨m1, r1, hm1, e1, h2⟩ := (y_need (C := 44) hL (Or.inl rfl) h1).1 k1
      subst hm1
      by_cases k2 : K (c + 1 + 1) = 120
      · obtain ⟨m2, r2, hm2, e2, h3⟩ := (y_reg hL h2).1 k2
        subst hm2
        by_cases k3 : K (c + 1 + 1 + 1) = 44
        · obtain ⟨m3, r3, hm3, e3, h4⟩ := (y_need (C := 44) hL (Or.inl rfl) h3).1 k3
          subst hm3
          by_cases k4 : K (c + 1 + 1 + 1 + 1) = 48
          · obtain ⟨m4, r4, x4, u4, hm4, e4, huu4, hwu4, hf4, h5⟩ := (y_num (0 : Int64) (31 : Int64) (u := 0) ⟨by decide, by decide⟩ (Or.inl rfl) hL h4).1 k4
            subst hm4
            right
            refine ⟨m4, c + 1 + 1 + 1 + 1 + 1, r4, 0, u4, (((bits ||| ((V c).toInt32 <<< ((7 : Int32) &&& 31))) ||| ((V (c + 1 + 1)).toInt32 <<< ((15 : Int32) &&& 31))) ||| ((V (c + 1 + 1 + 1 + 1)).toInt32 <<< ((20 : Int32) &&& 31))), (((V c).toInt32 <<< ((7 : Int32) &&& 31)) ||| ((V (c + 1 + 1)).toInt32 <<< ((15 : Int32) &&& 31))) ||| (x4.toInt32 <<< ((20 : Int32) &&& 31)), Int32.ofNat d, target, tw, tl, ?_, ?_, huu4, fun hu => ?_, by omega, h5, fun _ => Or.inl ⟨rfl, rfl, rfl, rfl, rfl⟩⟩
            · rw [y_S6_0 (y_cP (by omega) hN4 (by decide) (by decide) k0 (y_put_d _ _ _)), y_S6_1 (y_cP (by omega) hN4 (by decide) (by decide) k1 (y_put_mc _ _ _)), y_S6_2 (y_cP (by omega) hN4 (by decide) (by decide) k2 (y_put_s _ _ _)), y_S6_3 (y_cP (by omega) hN4 (by decide) (by decide) k3 (y_put_mc _ _ _)), y_S6_4 (y_cP (by omega) hN4 (by decide) (by decide) k4 (y_put_h hf4)), y_E6]
            · unfold f_X11_pair
              rw [e0]
              unfold f_X11_pair_c1
              rw [e1]
              unfold f_X11_pair_c8
              rw [e2]
              unfold f_X11_pair_c12
              unfold f_X11_operands_c98_34
              rw [e3]
              unfold f_X11_operands_c105_35
              rw [if_pos rfl]
              rw [e4]
              unfold f_X11_operands_c119_37 f_X11_operands_135 f_X11_operands_c139 f_X11_immediate
              rfl
            · skip
              obtain ⟨hzu4, hxu4⟩ := hwu4 hu
              rw [hxu4]
              exact y_or3a _ _ _ _
          · obtain ⟨a, b, e4⟩ := (y_num (0 : Int64) (31 : Int64) (u := 0) ⟨by decide, by decide⟩ (Or.inl rfl) hL h4).2 k4
            refine Or.inl ⟨?_, Or.inl ?_⟩
            · rw [y_S6_0 (y_cP (by omega) hN4 (by decide) (by decide) k0 (y_put_d _ _ _)), y_S6_1 (y_cP (by omega) hN4 (by decide) (by decide) k1 (y_put_mc _ _ _)), y_S6_2 (y_cP (by omega) hN4 (by decide) (by decide) k2 (y_put_s _ _ _)), y_S6_3 (y_cP (by omega) hN4 (by decide) (by decide) k3 (y_put_mc _ _ _)), y_S6_4 (y_cX (by omega) hN4 (by decide) (by decide) k4), y_riM]
            · unfold f_X11_pair
              rw [e0]
              unfold f_X11_pair_c1
              rw [e1]
              unfold f_X11_pair_c8
              rw [e2]
              unfold f_X11_pair_c12
              unfold f_X11_operands_c98_34
              rw [e3]
              unfold f_X11_operands_c105_35
              rw [if_pos rfl]
              rw [e4]
              unfold f_X11_operands_c119_37 f_X11_operands_135 f_X11_operands_c139 f_X11_immediate
              rfl
        · obtain ⟨a, e3⟩ := (y_need (C := 44) hL (Or.inl rfl) h3).2 k3
          refine Or.inl ⟨?_, Or.inl ?_⟩
          · rw [y_S6_0 (y_cP (by omega) hN4 (by decide) (by decide) k0 (y_put_d _ _ _)), y_S6_1 (y_cP (by omega) hN4 (by decide) (by decide) k1 (y_put_mc _ _ _)), y_S6_2 (y_cP (by omega) hN4 (by decide) (by decide) k2 (y_put_s _ _ _)), y_S6_3 (y_cX (by omega) hN4 (by decide) (by decide) k3), y_riM]
          · unfold f_X11_pair
            rw [e0]
            unfold f_X11_pair_c1
            rw [e1]
            unfold f_X11_pair_c8
            rw [e2]
            unfold f_X11_pair_c12
            unfold f_X11_operands_c98_34
            rw [e3]
            unfold f_X11_operands_c105_35
            rw [if_pos rfl]
            rw [y_numW]
            unfold f_X11_operands_c119_37 f_X11_operands_135 f_X11_operands_c139 f_X11_immediate
            rfl
      · obtain ⟨a, b, e2⟩ := (y_reg hL h2).2 k2
        refine Or.inl ⟨?_, Or.inl ?_⟩
        · rw [y_S6_0 (y_cP (by omega) hN4 (by decide) (by decide) k0 (y_put_d _ _ _)), y_S6_1 (y_cP (by omega) hN4 (by decide) (by decide) k1 (y_put_mc _ _ _)), y_S6_2 (y_cX (by omega) hN4 (by decide) (by decide) k2), y_riM]
        · unfold f_X11_pair
          rw [e0]
          unfold f_X11_pair_c1
          rw [e1]
          unfold f_X11_pair_c8
          rw [e2]
          unfold f_X11_pair_c12
          unfold f_X11_operands_c98_34
          rw [y_needW]
          unfold f_X11_operands_c105_35
          rw [if_pos rfl]
          rw [y_numW]
          unfold f_X11_operands_c119_37 f_X11_operands_135 f_X11_operands_c139 f_X11_immediate
          rfl
    · obtain ⟨a, e1⟩ := (y_need (C := 44) hL (Or.inl rfl) h1).2 k1
      refine Or.inl ⟨?_, Or.inl ?_⟩
      · rw [y_S6_0 (y_cP (by omega) hN4 (by decide) (by decide) k0 (y_put_d _ _ _)), y_S6_1 (y_cX (by omega) hN4 (by decide) (by decide) k1), y_riM]
      · unfold f_X11_pair
        rw [e0]
        unfold f_X11_pair_c1
        rw [e1]
        unfold f_X11_pair_c8
        rw [y_regW]
        unfold f_X11_pair_c12
        unfold f_X11_operands_c98_34
        rw [y_needW]
        unfold f_X11_operands_c105_35
        rw [if_pos rfl]
        rw [y_numW]
        unfold f_X11_operands_c119_37 f_X11_operands_135 f_X11_operands_c139 f_X11_immediate
        rfl
  · obtain ⟨a, b, e0⟩ := (y_reg hL h0).2 k0
    refine Or.inl ⟨?_, Or.inl ?_⟩
    · rw [y_S6_0 (y_cX (by omega) hN4 (by decide) (by decide) k0), y_riM]
    · unfold f_X11_pair
      rw [e0]
      unfold f_X11_pair_c1
      rw [y_needW]
      unfold f_X11_pair_c8
      rw [y_regW]
      unfold f_X11_pair_c12
      unfold f_X11_operands_c98_34
      rw [y_needW]
      unfold f_X11_operands_c105_35
      rw [if_pos rfl]
      rw [y_numW]
      unfold f_X11_operands_c119_37 f_X11_operands_135 f_X11_operands_c139 f_X11_immediate
      rfl
theorem y_F7 {L n c p d N : Nat} {text K : Nat → Int32} {V : Nat → Int64} {bits line words : Int32} {target : Nat → Int64} {tw tl : Nat → Int32} (hL : L ≤ 400) (hN : N = c + (n + 1)) (hN4 : N ≤ 401) (hd : d ≤ 128) (h0 : y_sy L text K V (n + 1) c p) : y_O L text K V n c d bits line words target tw tl (f_X0_readInstruction_48 (Int32.ofNat N) K V 8 1207 0 (Int32.ofNat c) 1 bits 0 0 0) (f_X11_operands 1 (Int32.ofNat L) (Int32.ofNat p) line words (Int32.ofNat d) 0 0 text target tw tl) := by
  unfold f_X11_operands
  rw [if_pos rfl]
  by_cases k0 : K c = 120
  · obtain ⟨m0, r0, hm0, e0, h1⟩ := (y_reg hL h0).1 k0
    subst hm0
    by_cases k1 : K (c + 1) = 44
    · obtain ⟨m1, r1, hm1, e1, h2⟩ := (y_need (C := 44) hL (Or.inl rfl) h1).1 k1
      subst hm1
      by_cases k2 : K (c + 1 + 1) = 120
      · obtain ⟨m2, r2, hm2, e2, h3⟩ := (y_reg hL h2).1 k2
        subst hm2
        by_cases k3 : K (c + 1 + 1 + 1) = 44
        · obtain ⟨m3, r3, hm3, e3, h4⟩ := (y_need (C := 44) hL (Or.inl rfl) h3).1 k3
          subst hm3
          by_cases k4 : K (c + 1 + 1 + 1 + 1) = 120
          · obtain ⟨m4, r4, hm4, e4, h5⟩ := (y_reg hL h4).1 k4
            subst hm4
            right
            refine ⟨m4, c + 1 + 1 + 1 + 1 + 1, r4, 0, 0, (((bits ||| ((V c).toInt32 <<< ((7 : Int32) &&& 31))) ||| ((V (c + 1 + 1)).toInt32 <<< ((15 : Int32) &&& 31))) ||| ((V (c + 1 + 1 + 1 + 1)).toInt32 <<< ((20 : Int32) &&& 31))), (((V c).toInt32 <<< ((7 : Int32) &&& 31)) ||| ((V (c + 1 + 1)).toInt32 <<< ((15 : Int32) &&& 31))) ||| ((V (c + 1 + 1 + 1 + 1)).toInt32 <<< ((20 : Int32) &&& 31)), Int32.ofNat d, target, tw, tl, ?_, ?_, Or.inl rfl, fun hu => ?_, by omega, h5, fun _ => Or.inl ⟨rfl, rfl, rfl, rfl, rfl⟩⟩
            · rw [y_S7_0 (y_cP (by omega) hN4 (by decide) (by decide) k0 (y_put_d _ _ _)), y_S7_1 (y_cP (by omega) hN4 (by decide) (by decide) k1 (y_put_mc _ _ _)), y_S7_2 (y_cP (by omega) hN4 (by decide) (by decide) k2 (y_put_s _ _ _)), y_S7_3 (y_cP (by omega) hN4 (by decide) (by decide) k3 (y_put_mc _ _ _)), y_S7_4 (y_cP (by omega) hN4 (by decide) (by decide) k4 (y_put_t _ _ _)), y_E7]
            · unfold f_X11_pair
              rw [e0]
              unfold f_X11_pair_c1
              rw [e1]
              unfold f_X11_pair_c8
              rw [e2]
              unfold f_X11_pair_c12
              unfold f_X11_operands_c73
              rw [e3]
              unfold f_X11_operands_c80
              rw [e4]
              unfold f_X11_operands_c85
              rfl
            · skip
              exact y_or3a _ _ _ _
          · obtain ⟨a, b, e4⟩ := (y_reg hL h4).2 k4
            refine Or.inl ⟨?_, Or.inl ?_⟩
            · rw [y_S7_0 (y_cP (by omega) hN4 (by decide) (by decide) k0 (y_put_d _ _ _)), y_S7_1 (y_cP (by omega) hN4 (by decide) (by decide) k1 (y_put_mc _ _ _)), y_S7_2 (y_cP (by omega) hN4 (by decide) (by decide) k2 (y_put_s _ _ _)), y_S7_3 (y_cP (by omega) hN4 (by decide) (by decide) k3 (y_put_mc _ _ _)), y_S7_4 (y_cX (by omega) hN4 (by decide) (by decide) k4), y_riM]
            · unfold f_X11_pair
              rw [e0]
              unfold f_X11_pair_c1
              rw [e1]
              unfold f_X11_pair_c8
              rw [e2]
              unfold f_X11_pair_c12
              unfold f_X11_operands_c73
              rw [e3]
              unfold f_X11_operands_c80
              rw [e4]
              unfold f_X11_operands_c85
              rfl
        · obtain ⟨a, e3⟩ := (y_need (C := 44) hL (Or.inl rfl) h3).2 k3
          refine Or.inl ⟨?_, Or.inl ?_⟩
          · rw [y_S7_0 (y_cP (by omega) hN4 (by decide) (by decide) k0 (y_put_d _ _ _)), y_S7_1 (y_cP (by omega) hN4 (by decide) (by decide) k1 (y_put_mc _ _ _)), y_S7_2 (y_cP (by omega) hN4 (by decide) (by decide) k2 (y_put_s _ _ _)), y_S7_3 (y_cX (by omega) hN4 (by decide) (by decide) k3), y_riM]
          · unfold f_X11_pair
            rw [e0]
            unfold f_X11_pair_c1
            rw [e1]
            unfold f_X11_pair_c8
            rw [e2]
            unfold f_X11_pair_c12
            unfold f_X11_operands_c73
            rw [e3]
            unfold f_X11_operands_c80
            rw [y_regW]
            unfold f_X11_operands_c85
            rfl
      · obtain ⟨a, b, e2⟩ := (y_reg hL h2).2 k2
        refine Or.inl ⟨?_, Or.inl ?_⟩
        · rw [y_S7_0 (y_cP (by omega) hN4 (by decide) (by decide) k0 (y_put_d _ _ _)), y_S7_1 (y_cP (by omega) hN4 (by decide) (by decide) k1 (y_put_mc _ _ _)), y_S7_2 (y_cX (by omega) hN4 (by decide) (by decide) k2), y_riM]
        · unfold f_X11_pair
          rw [e0]
          unfold f_X11_pair_c1
          rw [e1]
          unfold f_X11_pair_c8
          rw [e2]
          unfold f_X11_pair_c12
          unfold f_X11_operands_c73
          rw [y_needW]
          unfold f_X11_operands_c80
          rw [y_regW]
          unfold f_X11_operands_c85
          rfl
    · obtain ⟨a, e1⟩ := (y_need (C := 44) hL (Or.inl rfl) h1).2 k1
      refine Or.inl ⟨?_, Or.inl ?_⟩
      · rw [y_S7_0 (y_cP (by omega) hN4 (by decide) (by decide) k0 (y_put_d _ _ _)), y_S7_1 (y_cX (by omega) hN4 (by decide) (by decide) k1), y_riM]
      · unfold f_X11_pair
        rw [e0]
        unfold f_X11_pair_c1
        rw [e1]
        unfold f_X11_pair_c8
        rw [y_regW]
        unfold f_X11_pair_c12
        unfold f_X11_operands_c73
        rw [y_needW]
        unfold f_X11_operands_c80
        rw [y_regW]
        unfold f_X11_operands_c85
        rfl
  · obtain ⟨a, b, e0⟩ := (y_reg hL h0).2 k0
    refine Or.inl ⟨?_, Or.inl ?_⟩
    · rw [y_S7_0 (y_cX (by omega) hN4 (by decide) (by decide) k0), y_riM]
    · unfold f_X11_pair
      rw [e0]
      unfold f_X11_pair_c1
      rw [y_needW]
      unfold f_X11_pair_c8
      rw [y_regW]
      unfold f_X11_pair_c12
      unfold f_X11_operands_c73
      rw [y_needW]
      unfold f_X11_operands_c80
      rw [y_regW]
      unfold f_X11_operands_c85
      rfl
theorem y_F8 {L n c p d N : Nat} {text K : Nat → Int32} {V : Nat → Int64} {bits line words : Int32} {target : Nat → Int64} {tw tl : Nat → Int32} (hL : L ≤ 400) (hN : N = c + (n + 1)) (hN4 : N ≤ 401) (hd : d ≤ 128) (h0 : y_sy L text K V (n + 1) c p) : y_O L text K V n c d bits line words target tw tl (f_X0_readInstruction_48 (Int32.ofNat N) K V 8 1208 0 (Int32.ofNat c) 1 bits 0 0 0) (f_X11_operands 9 (Int32.ofNat L) (Int32.ofNat p) line words (Int32.ofNat d) 0 0 text target tw tl) := by
  unfold f_X11_operands
  rw [if_neg (by decide), if_neg (by decide), if_neg (by decide), if_neg (by decide), if_neg (by decide), if_neg (by decide), if_neg (by decide), if_neg (by decide), if_pos rfl]
  by_cases k0 : K c = 48
  · obtain ⟨m0, r0, x0, u0, hm0, e0, huu0, hwu0, hf0, h1⟩ := (y_num (0 : Int64) (3 : Int64) (u := 0) ⟨by decide, by decide⟩ (Or.inl rfl) hL h0).1 k0
    subst hm0
    by_cases k1 : K (c + 1) = 44
    · obtain ⟨m1, r1, hm1, e1, h2⟩ := (y_need (C := 44) hL (Or.inl rfl) h1).1 k1
      subst hm1
      by_cases k2 : K (c + 1 + 1) = 120
      · obtain ⟨m2, r2, hm2, e2, h3⟩ := (y_reg hL h2).1 k2
        subst hm2
        by_cases k3 : K (c + 1 + 1 + 1) = 44
        · obtain ⟨m3, r3, hm3, e3, h4⟩ := (y_need (C := 44) hL (Or.inl rfl) h3).1 k3
          subst hm3
          by_cases k4 : K (c + 1 + 1 + 1 + 1) = 48
          · obtain ⟨m4, r4, x4, u4, hm4, e4, huu4, hwu4, hf4, h5⟩ := (y_num (-2048 : Int64) (2047 : Int64) (u := u0) ⟨by decide, by decide⟩ huu0 hL h4).1 k4
            subst hm4
            right
            refine ⟨m4, c + 1 + 1 + 1 + 1 + 1, r4, 0, u4, (((bits ||| ((V c).toInt32 <<< ((7 : Int32) &&& 31))) ||| ((V (c + 1 + 1)).toInt32 <<< ((15 : Int32) &&& 31))) ||| ((V (c + 1 + 1 + 1 + 1)).toInt32 <<< ((20 : Int32) &&& 31))), ((x0.toInt32 <<< ((7 : Int32) &&& 31)) ||| ((V (c + 1 + 1)).toInt32 <<< ((15 : Int32) &&& 31))) ||| (x4.toInt32 <<< ((20 : Int32) &&& 31)), Int32.ofNat d, target, tw, tl, ?_, ?_, huu4, fun hu => ?_, by omega, h5, fun _ => Or.inl ⟨rfl, rfl, rfl, rfl, rfl⟩⟩
            · rw [y_S8_0 (y_cP (by omega) hN4 (by decide) (by decide) k0 (y_put_k hf0)), y_S8_1 (y_cP (by omega) hN4 (by decide) (by decide) k1 (y_put_mc _ _ _)), y_S8_2 (y_cP (by omega) hN4 (by decide) (by decide) k2 (y_put_s _ _ _)), y_S8_3 (y_cP (by omega) hN4 (by decide) (by decide) k3 (y_put_mc _ _ _)), y_S8_4 (y_cP (by omega) hN4 (by decide) (by decide) k4 (y_put_i hf4)), y_E8]
            · rw [e0]
              unfold f_X11_operands_c304
              rw [e1]
              unfold f_X11_operands_c311
              rw [e2]
              unfold f_X11_operands_c320
              rw [e3]
              unfold f_X11_operands_c331
              rw [e4]
              unfold f_X11_operands_c342 f_X11_operands_c346 f_X11_immediate
              rfl
            · skip
              obtain ⟨hzu4, hxu4⟩ := hwu4 hu
              obtain ⟨hzu0, hxu0⟩ := hwu0 hzu4
              rw [hxu0, hxu4]
              exact y_or3a _ _ _ _
          · obtain ⟨a, b, e4⟩ := (y_num (-2048 : Int64) (2047 : Int64) (u := u0) ⟨by decide, by decide⟩ huu0 hL h4).2 k4
            refine Or.inl ⟨?_, Or.inl ?_⟩
            · rw [y_S8_0 (y_cP (by omega) hN4 (by decide) (by decide) k0 (y_put_k hf0)), y_S8_1 (y_cP (by omega) hN4 (by decide) (by decide) k1 (y_put_mc _ _ _)), y_S8_2 (y_cP (by omega) hN4 (by decide) (by decide) k2 (y_put_s _ _ _)), y_S8_3 (y_cP (by omega) hN4 (by decide) (by decide) k3 (y_put_mc _ _ _)), y_S8_4 (y_cX (by omega) hN4 (by decide) (by decide) k4), y_riM]
            · rw [e0]
              unfold f_X11_operands_c304
              rw [e1]
              unfold f_X11_operands_c311
              rw [e2]
              unfold f_X11_operands_c320
              rw [e3]
              unfold f_X11_operands_c331
              rw [e4]
              unfold f_X11_operands_c342 f_X11_operands_c346 f_X11_immediate
              rfl
        · obtain ⟨a, e3⟩ := (y_need (C := 44) hL (Or.inl rfl) h3).2 k3
          refine Or.inl ⟨?_, Or.inl ?_⟩
          · rw [y_S8_0 (y_cP (by omega) hN4 (by decide) (by decide) k0 (y_put_k hf0)), y_S8_1 (y_cP (by omega) hN4 (by decide) (by decide) k1 (y_put_mc _ _ _)), y_S8_2 (y_cP (by omega) hN4 (by decide) (by decide) k2 (y_put_s _ _ _)), y_S8_3 (y_cX (by omega) hN4 (by decide) (by decide) k3), y_riM]
          · rw [e0]
            unfold f_X11_operands_c304
            rw [e1]
            unfold f_X11_operands_c311
            rw [e2]
            unfold f_X11_operands_c320
            rw [e3]
            unfold f_X11_operands_c331
            rw [y_numW]
            unfold f_X11_operands_c342 f_X11_operands_c346 f_X11_immediate
            rfl
      · obtain ⟨a, b, e2⟩ := (y_reg hL h2).2 k2
        refine Or.inl ⟨?_, Or.inl ?_⟩
        · rw [y_S8_0 (y_cP (by omega) hN4 (by decide) (by decide) k0 (y_put_k hf0)), y_S8_1 (y_cP (by omega) hN4 (by decide) (by decide) k1 (y_put_mc _ _ _)), y_S8_2 (y_cX (by omega) hN4 (by decide) (by decide) k2), y_riM]
        · rw [e0]
          unfold f_X11_operands_c304
          rw [e1]
          unfold f_X11_operands_c311
          rw [e2]
          unfold f_X11_operands_c320
          rw [y_needW]
          unfold f_X11_operands_c331
          rw [y_numW]
          unfold f_X11_operands_c342 f_X11_operands_c346 f_X11_immediate
          rfl
    · obtain ⟨a, e1⟩ := (y_need (C := 44) hL (Or.inl rfl) h1).2 k1
      refine Or.inl ⟨?_, Or.inl ?_⟩
      · rw [y_S8_0 (y_cP (by omega) hN4 (by decide) (by decide) k0 (y_put_k hf0)), y_S8_1 (y_cX (by omega) hN4 (by decide) (by decide) k1), y_riM]
      · rw [e0]
        unfold f_X11_operands_c304
        rw [e1]
        unfold f_X11_operands_c311
        rw [y_regW]
        unfold f_X11_operands_c320
        rw [y_needW]
        unfold f_X11_operands_c331
        rw [y_numW]
        unfold f_X11_operands_c342 f_X11_operands_c346 f_X11_immediate
        rfl
  · obtain ⟨a, b, e0⟩ := (y_num (0 : Int64) (3 : Int64) (u := 0) ⟨by decide, by decide⟩ (Or.inl rfl) hL h0).2 k0
    refine Or.inl ⟨?_, Or.inl ?_⟩
    · rw [y_S8_0 (y_cX (by omega) hN4 (by decide) (by decide) k0), y_riM]
    · rw [e0]
      unfold f_X11_operands_c304
      rw [y_needW]
      unfold f_X11_operands_c311
      rw [y_regW]
      unfold f_X11_operands_c320
      rw [y_needW]
      unfold f_X11_operands_c331
      rw [y_numW]
      unfold f_X11_operands_c342 f_X11_operands_c346 f_X11_immediate
      rfl
theorem y_F9 {L n c p d N : Nat} {text K : Nat → Int32} {V : Nat → Int64} {bits line words : Int32} {target : Nat → Int64} {tw tl : Nat → Int32} (hL : L ≤ 400) (hN : N = c + (n + 1)) (hN4 : N ≤ 401) (hd : d ≤ 128) (h0 : y_sy L text K V (n + 1) c p) : y_O L text K V n c d bits line words target tw tl (f_X0_readInstruction_48 (Int32.ofNat N) K V 8 1209 0 (Int32.ofNat c) 1 bits 0 0 0) (f_X11_operands 10 (Int32.ofNat L) (Int32.ofNat p) line words (Int32.ofNat d) 0 0 text target tw tl) := by
  unfold f_X11_operands
  rw [if_neg (by decide), if_neg (by decide), if_neg (by decide), if_neg (by decide), if_neg (by decide), if_neg (by decide), if_neg (by decide), if_neg (by decide), if_neg (by decide), if_pos rfl]
  by_cases k0 : K c = 120
  · obtain ⟨m0, r0, hm0, e0, h1⟩ := (y_reg hL h0).1 k0
    subst hm0
    right
    refine ⟨m0, c + 1, r0, 0, 0, (bits ||| ((V c).toInt32 <<< ((7 : Int32) &&& 31))), ((V c).toInt32 <<< ((7 : Int32) &&& 31)), Int32.ofNat d, target, tw, tl, ?_, ?_, Or.inl rfl, fun hu => ?_, by omega, h1, fun _ => Or.inl ⟨rfl, rfl, rfl, rfl, rfl⟩⟩
    · rw [y_S9_0 (y_cP (by omega) hN4 (by decide) (by decide) k0 (y_put_d _ _ _)), y_E9]
    · rw [e0]
      unfold f_X11_operands_c352
      rfl
    · skip
      rfl
  · obtain ⟨a, b, e0⟩ := (y_reg hL h0).2 k0
    refine Or.inl ⟨?_, Or.inl ?_⟩
    · rw [y_S9_0 (y_cX (by omega) hN4 (by decide) (by decide) k0), y_riM]
    · rw [e0]
      unfold f_X11_operands_c352
      rfl
theorem y_F10 {L n c p d N : Nat} {text K : Nat → Int32} {V : Nat → Int64} {bits line words : Int32} {target : Nat → Int64} {tw tl : Nat → Int32} (hL : L ≤ 400) (hN : N = c + (n + 1)) (hN4 : N ≤ 401) (hd : d ≤ 128) (h0 : y_sy L text K V (n + 1) c p) : y_O L text K V n c d bits line words target tw tl (f_X0_readInstruction_48 (Int32.ofNat N) K V 8 1210 0 (Int32.ofNat c) 1 bits 0 0 0) (f_X11_operands 11 (Int32.ofNat L) (Int32.ofNat p) line words (Int32.ofNat d) 0 0 text target tw tl) := by
  unfold f_X11_operands
  rw [if_neg (by decide), if_neg (by decide), if_neg (by decide), if_neg (by decide), if_neg (by decide), if_neg (by decide), if_neg (by decide), if_neg (by decide), if_neg (by decide), if_neg (by decide), if_neg (by decide)]
  right
  refine ⟨n, c, p, 0, 0, bits, 0, Int32.ofNat d, target, tw, tl, ?_, ?_, Or.inl rfl, fun hu => ?_, by omega, h0, fun _ => Or.inl ⟨rfl, rfl, rfl, rfl, rfl⟩⟩
  · rw [y_E10]
  · rfl
  · skip
    rw [Int32.or_zero]
theorem y_F11 {L n c p d N : Nat} {text K : Nat → Int32} {V : Nat → Int64} {bits line words : Int32} {target : Nat → Int64} {tw tl : Nat → Int32} (hL : L ≤ 400) (hN : N = c + (n + 1)) (hN4 : N ≤ 401) (hd : d ≤ 128) (h0 : y_sy L text K V (n + 1) c p) : y_O L text K V n c d bits line words target tw tl (f_X0_readInstruction_48 (Int32.ofNat N) K V 8 1211 0 (Int32.ofNat c) 1 bits 0 0 0) (f_X11_operands 12 (Int32.ofNat L) (Int32.ofNat p) line words (Int32.ofNat d) 0 0 text target tw tl) := by
  unfold f_X11_operands
  rw [if_neg (by decide), if_neg (by decide), if_neg (by decide), if_neg (by decide), if_neg (by decide), if_neg (by decide), if_neg (by decide), if_neg (by decide), if_neg (by decide), if_neg (by decide), if_pos rfl]
  by_cases k0 : K c = 48
  · obtain ⟨m0, r0, x0, u0, hm0, e0, huu0, hwu0, hf0, h1⟩ := (y_num (-2147483648 : Int64) (4294967295 : Int64) (u := 0) ⟨by decide, by decide⟩ (Or.inl rfl) hL h0).1 k0
    subst hm0
    right
    refine ⟨m0, c + 1, r0, 0, u0, (bits ||| ((V c).toInt32)), x0.toInt32, Int32.ofNat d, target, tw, tl, ?_, ?_, huu0, fun hu => ?_, by omega, h1, fun _ => Or.inl ⟨rfl, rfl, rfl, rfl, rfl⟩⟩
    · rw [y_S11_0 (y_cP (by omega) hN4 (by decide) (by decide) k0 (y_put_w hf0)), y_E11]
    · rw [e0]
      unfold f_X11_operands_c366
      rfl
    · skip
      obtain ⟨hzu0, hxu0⟩ := hwu0 hu
      rw [hxu0]
  · obtain ⟨a, b, e0⟩ := (y_num (-2147483648 : Int64) (4294967295 : Int64) (u := 0) ⟨by decide, by decide⟩ (Or.inl rfl) hL h0).2 k0
    refine Or.inl ⟨?_, Or.inl ?_⟩
    · rw [y_S11_0 (y_cX (by omega) hN4 (by decide) (by decide) k0), y_riM]
    · rw [e0]
      unfold f_X11_operands_c366
      rfl
