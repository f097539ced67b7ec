theorem y_kind {c N : Nat} {K : Nat → Int32} (hc : c < N) (hN : N ≤ 401) : f_X9_kindAt (Int32.ofNat c) (Int32.ofNat N) K = K c := by
  unfold f_X9_kindAt
  rw [if_neg (fun h => by have h1 := (e_lt0 _).mp h; rw [e_c c (by omega)] at h1; omega), if_neg (fun h => by have := (i_le (by omega) (by omega)).mp h; omega), i_cl (by omega)]
theorem y_val {c N : Nat} {V : Nat → Int64} (hc : c < N) (hN : N ≤ 401) : f_X9_valueAt (Int32.ofNat c) (Int32.ofNat N) V = V c := by
  unfold f_X9_valueAt
  rw [if_neg (fun h => by have h1 := (e_lt0 _).mp h; rw [e_c c (by omega)] at h1; omega), if_neg (fun h => by have := (i_le (by omega) (by omega)).mp h; omega), i_cl (by omega)]
theorem y_rp {c N : Nat} {K : Nat → Int32} {V : Nat → Int64} {pc w m mal : Int32} {t : Int64} (hc : c < N) (hN : N ≤ 401) : f_X0_readPiece pc (Int32.ofNat c) w t mal m (Int32.ofNat N) K V = f_X0_readPiece_c20 pc (Int32.ofNat c) w t mal m (K c) (V c) := by
  unfold f_X0_readPiece f_X0_readPiece_c8
  rw [y_kind hc hN, y_val hc hN]
theorem y_cX {c N : Nat} {K : Nat → Int32} {V : Nat → Int64} {pc w m : Int32} {t : Int64} (hc : c < N) (hN : N ≤ 401) (h1 : pc ≠ 98) (h2 : pc ≠ 106) (h : K c ≠ f_X0_kindOf pc) : f_X0_readPiece pc (Int32.ofNat c) w t 0 m (Int32.ofNat N) K V = (Int32.ofNat c, w, t, 1, m) := by
  rw [y_rp hc hN]
  unfold f_X0_readPiece_c20
  rw [if_neg h1, if_neg h2]
  unfold f_X0_readPiece_50 f_X0_readPiece_c52
  rw [if_neg h]
theorem y_cP {c N : Nat} {K : Nat → Int32} {V : Nat → Int64} {pc w m w' m' : Int32} {t : Int64} (hc : c < N) (hN : N ≤ 401) (h1 : pc ≠ 98) (h2 : pc ≠ 106) (h : K c = f_X0_kindOf pc) (hp : f_X0_putPiece pc (V c) w m = (w', m')) : f_X0_readPiece pc (Int32.ofNat c) w t 0 m (Int32.ofNat N) K V = (Int32.ofNat (c + 1), w', t, 0, m') := by
  rw [y_rp hc hN]
  unfold f_X0_readPiece_c20
  rw [if_neg h1, if_neg h2]
  unfold f_X0_readPiece_50 f_X0_readPiece_c52 f_X0_readPiece_c61
  rw [if_pos h, hp, i_s]
theorem y_cT {c N : Nat} {K : Nat → Int32} {V : Nat → Int64} {pc w m : Int32} {t : Int64} (hc : c < N) (hN : N ≤ 401) (hpc : pc = 98 ∨ pc = 106) (h : K c = 97) : f_X0_readPiece pc (Int32.ofNat c) w t 0 m (Int32.ofNat N) K V = (Int32.ofNat (c + 1), w, V c, 0, m) := by
  rw [y_rp hc hN]
  unfold f_X0_readPiece_c20 f_X0_readPiece_36
  rw [if_pos h, i_s]
  rcases hpc with e | e
  · rw [if_pos e]
  · rw [if_neg (by rw [e]; decide), if_pos e]
theorem y_cD {c N : Nat} {K : Nat → Int32} {V : Nat → Int64} {pc w m w' m' : Int32} {t : Int64} (hc : c < N) (hN : N ≤ 401) (hpc : pc = 98 ∨ pc = 106) (h : K c = 48) (hp : f_X0_putPiece pc (V c) w m = (w', m')) : f_X0_readPiece pc (Int32.ofNat c) w t 0 m (Int32.ofNat N) K V = (Int32.ofNat (c + 1), w', t, 0, m') := by
  rw [y_rp hc hN]
  unfold f_X0_readPiece_c20 f_X0_readPiece_36 f_X0_readPiece_50 f_X0_readPiece_c52 f_X0_readPiece_c61
  have hk : K c = f_X0_kindOf pc := by rcases hpc with e | e <;> rw [e, h] <;> decide
  rw [if_neg (show ¬ K c = 97 by rw [h]; decide), if_pos hk, hp, i_s]
  rcases hpc with e | e
  · rw [if_pos e]
  · rw [if_neg (by rw [e]; decide), if_pos e]
theorem y_cZ {c N : Nat} {K : Nat → Int32} {V : Nat → Int64} {pc w m : Int32} {t : Int64} (hc : c < N) (hN : N ≤ 401) (hpc : pc = 98 ∨ pc = 106) (h : K c ≠ 97) (h' : K c ≠ 48) : f_X0_readPiece pc (Int32.ofNat c) w t 0 m (Int32.ofNat N) K V = (Int32.ofNat c, w, t, 1, m) := by
  rw [y_rp hc hN]
  unfold f_X0_readPiece_c20 f_X0_readPiece_36 f_X0_readPiece_50 f_X0_readPiece_c52
  have hk : K c ≠ f_X0_kindOf pc := by rcases hpc with e | e <;> rw [e] <;> exact h'
  rw [if_neg h, if_neg hk]
  rcases hpc with e | e
  · rw [if_pos e]
  · rw [if_neg (by rw [e]; decide), if_pos e]
theorem y_put_d (v : Int64) (w m : Int32) : f_X0_putPiece 100 v w m = (w ||| ((v).toInt32 <<< ((7 : Int32) &&& 31)), m) := by
  unfold f_X0_putPiece
  rw [if_neg (by decide), if_pos rfl]
theorem y_put_s (v : Int64) (w m : Int32) : f_X0_putPiece 115 v w m = (w ||| ((v).toInt32 <<< ((15 : Int32) &&& 31)), m) := by
  unfold f_X0_putPiece
  rw [if_neg (by decide), if_neg (by decide), if_neg (by decide), if_neg (by decide), if_neg (by decide), if_neg (by decide), if_neg (by decide), if_pos rfl]
theorem y_put_t (v : Int64) (w m : Int32) : f_X0_putPiece 116 v w m = (w ||| ((v).toInt32 <<< ((20 : Int32) &&& 31)), m) := by
  unfold f_X0_putPiece
  rw [if_neg (by decide), if_neg (by decide), if_neg (by decide), if_neg (by decide), if_neg (by decide), if_neg (by decide), if_neg (by decide), if_neg (by decide), if_pos rfl]
theorem y_put_i {v : Int64} {w m m' : Int32} (h : f_X0_fitted v (-2048 : Int64) (2047 : Int64) m = (v.toInt32, m')) : f_X0_putPiece 105 v w m = (w ||| ((v).toInt32 <<< ((20 : Int32) &&& 31)), m') := by
  unfold f_X0_putPiece
  rw [if_neg (by decide), if_neg (by decide), if_neg (by decide), if_pos rfl]
  unfold f_X0_putPiece_c168
  rw [h]
theorem y_put_h {v : Int64} {w m m' : Int32} (h : f_X0_fitted v (0 : Int64) (31 : Int64) m = (v.toInt32, m')) : f_X0_putPiece 104 v w m = (w ||| ((v).toInt32 <<< ((20 : Int32) &&& 31)), m') := by
  unfold f_X0_putPiece
  rw [if_neg (by decide), if_neg (by decide), if_pos rfl]
  unfold f_X0_putPiece_c218
  rw [h]
theorem y_put_u {v : Int64} {w m m' : Int32} (h : f_X0_fitted v (0 : Int64) (1048575 : Int64) m = (v.toInt32, m')) : f_X0_putPiece 117 v w m = (w ||| ((v).toInt32 <<< ((12 : Int32) &&& 31)), m') := by
  unfold f_X0_putPiece
  rw [if_neg (by decide), if_neg (by decide), if_neg (by decide), if_neg (by decide), if_neg (by decide), if_neg (by decide), if_neg (by decide), if_neg (by decide), if_neg (by decide), if_pos rfl]
  unfold f_X0_putPiece_c242
  rw [h]
theorem y_put_k {v : Int64} {w m m' : Int32} (h : f_X0_fitted v (0 : Int64) (3 : Int64) m = (v.toInt32, m')) : f_X0_putPiece 107 v w m = (w ||| ((v).toInt32 <<< ((7 : Int32) &&& 31)), m') := by
  unfold f_X0_putPiece
  rw [if_neg (by decide), if_neg (by decide), if_neg (by decide), if_neg (by decide), if_neg (by decide), if_pos rfl]
  unfold f_X0_putPiece_c266
  rw [h]
theorem y_put_w {v : Int64} {w m m' : Int32} (h : f_X0_fitted v (-2147483648 : Int64) (4294967295 : Int64) m = (v.toInt32, m')) : f_X0_putPiece 119 v w m = (w ||| ((v).toInt32), m') := by
  unfold f_X0_putPiece
  rw [if_neg (by decide), if_neg (by decide), if_neg (by decide), if_neg (by decide), if_neg (by decide), if_neg (by decide), if_neg (by decide), if_neg (by decide), if_neg (by decide), if_neg (by decide), if_pos rfl]
  unfold f_X0_putPiece_c292
  rw [h]
theorem y_put_m {v : Int64} {w m m' : Int32} (h : f_X0_fitted v (-2048 : Int64) (2047 : Int64) m = (v.toInt32, m')) : f_X0_putPiece 109 v w m = (w ||| (f_X1_bitsOfS (v).toInt32), m') := by
  unfold f_X0_putPiece
  rw [if_neg (by decide), if_neg (by decide), if_neg (by decide), if_neg (by decide), if_neg (by decide), if_neg (by decide), if_pos rfl]
  unfold f_X0_putPiece_c194 f_X0_putPiece_c197
  rw [h]
theorem y_put_b {v : Int64} {w m m' : Int32} (h : f_X0_fitted v (-4096 : Int64) (4094 : Int64) (f_X0_noteOdd v m) = (v.toInt32, m')) : f_X0_putPiece 98 v w m = (w ||| (f_X1_bitsOfB (v).toInt32), m') := by
  unfold f_X0_putPiece
  rw [if_pos rfl]
  unfold f_X0_putPiece_c304 f_X0_putPiece_c320 f_X0_putPiece_c323
  rw [h]
theorem y_put_j {v : Int64} {w m m' : Int32} (h : f_X0_fitted v (-1048576 : Int64) (1048574 : Int64) (f_X0_noteOdd v m) = (v.toInt32, m')) : f_X0_putPiece 106 v w m = (w ||| (f_X1_bitsOfJ (v).toInt32), m') := by
  unfold f_X0_putPiece
  rw [if_neg (by decide), if_neg (by decide), if_neg (by decide), if_neg (by decide), if_pos rfl]
  unfold f_X0_putPiece_c335 f_X0_putPiece_c351 f_X0_putPiece_c354
  rw [h]
theorem y_put_mc (v : Int64) (w m : Int32) : f_X0_putPiece 44 v w m = (w, m) := by
  unfold f_X0_putPiece
  rw [if_neg (by decide), if_neg (by decide), if_neg (by decide), if_neg (by decide), if_neg (by decide), if_neg (by decide), if_neg (by decide), if_neg (by decide), if_neg (by decide), if_neg (by decide), if_neg (by decide)]
theorem y_put_mo (v : Int64) (w m : Int32) : f_X0_putPiece 40 v w m = (w, m) := by
  unfold f_X0_putPiece
  rw [if_neg (by decide), if_neg (by decide), if_neg (by decide), if_neg (by decide), if_neg (by decide), if_neg (by decide), if_neg (by decide), if_neg (by decide), if_neg (by decide), if_neg (by decide), if_neg (by decide)]
theorem y_put_me (v : Int64) (w m : Int32) : f_X0_putPiece 41 v w m = (w, m) := by
  unfold f_X0_putPiece
  rw [if_neg (by decide), if_neg (by decide), if_neg (by decide), if_neg (by decide), if_neg (by decide), if_neg (by decide), if_neg (by decide), if_neg (by decide), if_neg (by decide), if_neg (by decide), if_neg (by decide)]
theorem y_ri {N : Int32} {K : Nat → Int32} {V : Nat → Int64} {m l2 : Nat} {l3 LEN C at1 has w mis at2 w2 mal2 mis2 : Int32} {t t2 : Int64} (hlen : f_J0_length_8abf5 l2 = LEN) (hch : f_J0_charAt_5068e l2 l3 = C) (hlt : ¬ LEN ≤ l3) (hrp : f_X0_readPiece C at1 w t 0 mis N K V = (at2, w2, t2, mal2, mis2)) : f_X0_readInstruction_48 N K V (m + 1) l2 l3 at1 has w t 0 mis = f_X0_readInstruction_48 N K V m l2 (l3 + 1) at2 has w2 t2 mal2 mis2 := by
  rw [f_X0_readInstruction_48]
  unfold f_X0_readInstruction_c50 f_X0_readInstruction_c66 f_X0_readInstruction_c69
  rw [hlen, if_neg hlt, if_pos rfl, hch, hrp]
theorem y_riE {N : Int32} {K : Nat → Int32} {V : Nat → Int64} {m l2 : Nat} {l3 LEN at1 has w mal mis : Int32} {t : Int64} (hlen : f_J0_length_8abf5 l2 = LEN) (hlt : LEN ≤ l3) : f_X0_readInstruction_48 N K V (m + 1) l2 l3 at1 has w t mal mis = (at1, has, w, t, mal, mis) := by
  rw [f_X0_readInstruction_48]
  unfold f_X0_readInstruction_c50
  rw [hlen, if_pos hlt]
theorem y_riM {N : Int32} {K : Nat → Int32} {V : Nat → Int64} {m l2 : Nat} {l3 at1 has w mis : Int32} {t : Int64} : f_X0_readInstruction_48 N K V (m + 1) l2 l3 at1 has w t 1 mis = (at1, has, w, t, 1, mis) := by
  rw [f_X0_readInstruction_48]
  unfold f_X0_readInstruction_c50
  by_cases h : f_J0_length_8abf5 l2 ≤ l3
  · rw [if_pos h]
  · rw [if_neg h, if_neg (by decide)]
def y_O (L : Nat) (text K : Nat → Int32) (V : Nat → Int64) (n c d : Nat) (bits line words : Int32) (target : Nat → Int64) (tw tl : Nat → Int32) (Rc : Int32 × Int32 × Int32 × Int64 × Int32 × Int32) (Rr : Int32 × Int32 × Int32 × Int32 × Int32 × (Nat → Int64) × (Nat → Int32) × (Nat → Int32)) : Prop :=
  (Rc.2.2.2.2.1 = 1 ∧ (Rr.2.2.2.1 = 1 ∨ (Rr.2.2.2.1 = 0 ∧ ∃ s, s ≤ L ∧ Rr.2.1 = Int32.ofNat s ∧ y_dig (y_ch L text s)))) ∨
  (∃ (n' c' p' : Nat) (tg : Int64) (u w' v D : Int32) (t1 : Nat → Int64) (t2 t3 : Nat → Int32), Rc = (Int32.ofNat c', 1, w', tg, 0, u) ∧ Rr = (v, Int32.ofNat p', D, 0, u, t1, t2, t3) ∧ (u = 0 ∨ u = 1) ∧ (u = 0 → w' = bits ||| v) ∧ (n' + c' = n + c ∧ c ≤ c') ∧ y_sy L text K V (n' + 1) c' p' ∧ (d < 128 → ((tg = 0 ∧ D = Int32.ofNat d ∧ t1 = target ∧ t2 = tw ∧ t3 = tl) ∨ (∃ w, y_key tg w ∧ D = Int32.ofNat (d + 1) ∧ t1 = vp_updL target d w ∧ t2 = upd tw d words ∧ t3 = upd tl d line))))
