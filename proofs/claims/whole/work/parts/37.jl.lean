def y_cnt (A : Nat → Int64) : Nat → Nat
  | 0 => 0
  | k + 1 => y_cnt A k + (if A k = 0 then 0 else 1)
theorem y_cnt_mono {A : Nat → Int64} {k : Nat} : ∀ (n : Nat), y_cnt A k ≤ y_cnt A (k + n)
  | 0 => Nat.le_refl _
  | n + 1 => by
    have := y_cnt_mono (A := A) (k := k) n
    rw [show k + (n + 1) = (k + n) + 1 by omega, y_cnt]
    omega
theorem y_cnt_le (A : Nat → Int64) : ∀ k, y_cnt A k ≤ k
  | 0 => Nat.le_refl _
  | k + 1 => by
    have := y_cnt_le A k
    rw [y_cnt]
    by_cases h : A k = 0
    · rw [if_pos h]; omega
    · rw [if_neg h]; omega
theorem y_cnt_lt {A : Nat → Int64} {k m : Nat} (hk : k < m) (h : A k ≠ 0) : y_cnt A k < y_cnt A m := by
  have h1 := y_cnt_mono (A := A) (k := k + 1) (m - (k + 1))
  rw [show k + 1 + (m - (k + 1)) = m by omega, y_cnt, if_neg h] at h1
  omega
theorem y_cnt_upd {A : Nat → Int64} {m : Nat} {x : Int64} : ∀ k, k ≤ m → y_cnt (vp_updL A m x) k = y_cnt A k
  | 0, _ => rfl
  | k + 1, h => by
    rw [y_cnt, y_cnt, y_cnt_upd k (by omega), y_updLn (by omega)]
def y_tg (m : Nat) (A : Nat → Int64) (lines : Nat → Int32) (target : Nat → Int64) (tw tl : Nat → Int32) : Prop := ∀ k, k < m → A k ≠ 0 → tw (y_cnt A k) = Int32.ofNat k ∧ y_key (A k) (target (y_cnt A k)) ∧ tl (y_cnt A k) = lines k
def y_pl (F b : Nat) (lplaces labelWord : Nat → Int32) : Prop := ∀ i, i < b → ∃ x, x ≤ 128 ∧ lplaces i = Int32.ofNat x ∧ labelWord i = Int32.ofNat (F + x)
theorem y_dst {x k : Nat} (hx : x ≤ 128) (hk : k ≤ 128) : ((4 : Int32) * (Int32.ofNat x - Int32.ofNat k)).toInt = 4 * ((x : Int) - k) := by
  rw [Int32.toInt_mul, Int32.toInt_sub, e_c x (by omega), e_c k (by omega), show (4 : Int32).toInt = 4 by decide, Int.mul_bmod_bmod, Int.bmod_eq_of_le (by omega) (by omega)]
theorem y_link {F b m : Nat} {A lkeys label target : Nat → Int64} {lines lplaces labelWord tw tl : Nat → Int32} (hF : F < 128) (hb : b ≤ 16) (hm : m ≤ 128) (hlb : y_lb b lkeys label) (hpl : y_pl F b lplaces labelWord) (htg : y_tg m A lines target tw tl) : ∀ (fC : Nat) {fR k : Nat} {aw code : Nat → Int32}, k ≤ m → m - k < fC → y_cnt A m - y_cnt A k < fR → (∀ i, i < m → aw i = code i) →
    ∃ (fk fl : Int32) (aw' code' : Nat → Int32), f_X0_resolveTargets_2 (Int32.ofNat m) A lines (Int32.ofNat b) lkeys lplaces fC (Int32.ofNat k) 0 0 aw = (fk, fl, aw') ∧ f_X11_link_2 (Int32.ofNat b) (Int32.ofNat (y_cnt A m)) label labelWord target tw tl fR (Int32.ofNat F) (Int32.ofNat (y_cnt A k)) 0 0 code = (fk, fl, code') ∧ ((fk = 0 ∧ ∀ i, i < m → aw' i = code' i) ∨ fk = 3) := by
  intro fC
  induction fC with
  | zero => intro fR k aw code _ h; omega
  | succ fC ih =>
    intro fR k aw code hk hfC hfR hac
    have hcm := y_cnt_le A m
    have hck := y_cnt_le A k
    rw [f_X0_resolveTargets_2]
    by_cases hend : m ≤ k
    · have hkm : k = m := by omega
      subst hkm
      rw [if_pos ((i_le (by omega) (by omega)).mpr (Nat.le_refl k))]
      obtain ⟨fR', rfl⟩ : ∃ x, fR = x + 1 := ⟨fR - 1, by omega⟩
      rw [f_X11_link_2, if_pos ((i_le (by omega) (by omega)).mpr (Nat.le_refl _))]
      exact ⟨0, 0, aw, code, rfl, rfl, Or.inl ⟨rfl, hac⟩⟩
    · rw [if_neg (fun h => hend ((i_le (by omega) (by omega)).mp h)), i_cl (by omega)]
      by_cases hA : A k = 0
      · rw [if_pos (y_cmpE hA)]
        unfold f_X0_resolveTargets_106
        rw [i_s]
        have hc : y_cnt A (k + 1) = y_cnt A k := by rw [y_cnt, if_pos hA]; rfl
        have := ih (k := k + 1) (fR := fR) (by omega) (by omega) (by rw [hc]; exact hfR) hac
        rw [hc] at this
        exact this
      · rw [if_neg (fun e => hA (y_cmp0 e))]
        obtain ⟨g1, g2, g3⟩ := htg k (by omega) hA
        have hlt := y_cnt_lt (A := A) (show k < m by omega) hA
        obtain ⟨fR', rfl⟩ : ∃ x, fR = x + 1 := ⟨fR - 1, by omega⟩
        rw [f_X11_link_2, if_neg (fun h => by have := (i_le (by omega) (by omega)).mp h; omega), if_pos rfl, i_cl (by omega)]
        unfold f_X11_link_c24
        rw [i_cl (by omega), g1, i_cl (by omega)]
        have hc : y_cnt A (k + 1) = y_cnt A k + 1 := by rw [y_cnt, if_neg hA]
        rcases y_find (lplaces := lplaces) hb hlb g2 with ⟨i, hi, hki, f1, f2⟩ | ⟨hno, f1, f2⟩
        · obtain ⟨x, x1, x2, x3⟩ := hpl i hi
          rw [f1, f2, x2]
          unfold f_X0_resolveTargets_c34
          have h0x : (0 : Int32) ≤ Int32.ofNat x := by rw [Int32.le_iff_toInt_le, e_c x (by omega)]; exact Int.natCast_nonneg x
          have h0i : (0 : Int32) ≤ Int32.ofNat i := by rw [Int32.le_iff_toInt_le, e_c i (by omega)]; exact Int.natCast_nonneg i
          rw [if_pos h0x, i_cl (by omega)]
          have hfin : ∀ (z : Int32) , ∃ (fk fl : Int32) (aw' code' : Nat → Int32), f_X0_resolveTargets_2 (Int32.ofNat m) A lines (Int32.ofNat b) lkeys lplaces fC (Int32.ofNat (k + 1)) 0 0 (upd aw k (aw k ||| z)) = (fk, fl, aw') ∧ f_X11_link_2 (Int32.ofNat b) (Int32.ofNat (y_cnt A m)) label labelWord target tw tl fR' (Int32.ofNat F) (Int32.ofNat (y_cnt A k + 1)) 0 0 (upd code k (code k ||| z)) = (fk, fl, code') ∧ ((fk = 0 ∧ ∀ i, i < m → aw' i = code' i) ∨ fk = 3) := by
            intro z
            have := ih (k := k + 1) (fR := fR') (aw := upd aw k (aw k ||| z)) (code := upd code k (code k ||| z)) (by omega) (by omega) (by rw [hc]; omega) (fun i hi => by
              by_cases e : i = k
              · subst e; rw [y_updk, y_updk, hac i hi]
              · rw [y_updn e, y_updn e, hac i hi])
            rw [hc] at this
            exact this
          unfold f_X0_resolveTargets_c66 f_X0_resolveTargets_79 f_X0_resolveTargets_c101 f_X0_resolveTargets_c94 f_X0_resolveTargets_104 f_X0_resolveTargets_106
          unfold f_X11_link_56 f_X11_link_79
          have hn : (4 : Int32) * (labelWord i - Int32.ofNat F - Int32.ofNat k) = 4 * (Int32.ofNat x - Int32.ofNat k) := by
            rw [x3, i_sub (by omega), show F + x - F = x by omega]
          have hv := y_dst x1 (show k ≤ 128 by omega)
          have hlo : ¬ ((4 : Int32) * (Int32.ofNat x - Int32.ofNat k) < -4096) := by
            rw [Int32.lt_iff_toInt_lt, hv, show (-4096 : Int32).toInt = -4096 by decide]; omega
          have hhi : (4 : Int32) * (Int32.ofNat x - Int32.ofNat k) ≤ 4094 := by
            rw [Int32.le_iff_toInt_le, hv, show (4094 : Int32).toInt = 4094 by decide]; omega
          rw [if_pos h0i, if_pos h0i, i_cl (by omega), i_cl (by omega), i_s, hn, hac k (by omega)]
          have hop : f_X1_op (code k) = code k &&& 127 := rfl
          rw [hop]
          by_cases hj : code k &&& 127 = 111
          · rw [if_pos hj, if_pos hj, if_neg (by decide), if_neg (by decide)]
            unfold f_X11_link_116
            rw [if_pos rfl]
            unfold f_X11_link_140 f_X11_link_c158 f_X11_link_169
            rw [if_neg (by decide), i_cl (by omega), i_s, ← hac k (by omega), e_bJ]
            have := hfin (f_X11_jumping (4 * (Int32.ofNat x - Int32.ofNat k)))
            rw [hac k (by omega)] at this ⊢
            exact this
          · rw [if_neg hj, if_neg hj, if_pos h0i, if_pos h0i, if_pos rfl, if_pos rfl, if_neg hlo, if_pos hhi]
            unfold f_X11_link_116
            rw [if_pos rfl]
            unfold f_X11_link_140 f_X11_link_c166 f_X11_link_169
            rw [if_pos rfl, i_cl (by omega), i_s, e_bB]
            have := hfin (f_X11_branching (4 * (Int32.ofNat x - Int32.ofNat k)))
            rw [hac k (by omega)] at this
            exact this
        · rw [f1, f2]
          unfold f_X0_resolveTargets_c34 f_X0_resolveTargets_c50 f_X0_setFault
          rw [if_neg (by decide), i_cl (by omega)]
          obtain ⟨fR'', rfl⟩ : ∃ x, fR' = x + 1 := ⟨fR' - 1, by omega⟩
          have hstop : ∀ (e : Int32) (fl : Int32) (cd : Nat → Int32), f_X11_link_2 (Int32.ofNat b) (Int32.ofNat (y_cnt A m)) label labelWord target tw tl (fR'' + 1) (Int32.ofNat F) e 3 fl cd = (3, fl, cd) := by
            intro e fl cd
            rw [f_X11_link_2]
            by_cases h : Int32.ofNat (y_cnt A m) ≤ e
            · rw [if_pos h]
            · rw [if_neg h, if_neg (by decide)]
          have hl : ∀ l5 : Int32, ∃ cd, f_X11_link_56 0 code labelWord tl (Int32.ofNat F) (Int32.ofNat (y_cnt A k)) (f_X11_link_2 (Int32.ofNat b) (Int32.ofNat (y_cnt A m)) label labelWord target tw tl (fR'' + 1)) (-1) (Int32.ofNat k) l5 = (3, lines k, cd) := by
            intro l5
            unfold f_X11_link_56 f_X11_link_79
            rw [if_neg (by decide), if_neg (by decide)]
            unfold f_X11_link_116
            rw [if_neg (by decide), i_cl (by omega), g3]
            unfold f_X11_link_140 f_X11_link_c166 f_X11_link_c158 f_X11_link_169
            by_cases h : l5 = 0
            · rw [if_pos h]; exact ⟨_, hstop _ _ _⟩
            · rw [if_neg h]; exact ⟨_, hstop _ _ _⟩
          by_cases hj : code k &&& 127 = 111
          · rw [if_pos hj]
            obtain ⟨cd, hcd⟩ := hl 1
            exact ⟨3, lines k, aw, cd, rfl, hcd, Or.inr rfl⟩
          · rw [if_neg hj]
            obtain ⟨cd, hcd⟩ := hl 0
            exact ⟨3, lines k, aw, cd, rfl, hcd, Or.inr rfl⟩
def y_cp (store code : Nat → Int32) (o k : Nat) (x : Nat) : Int32 := if o ≤ x ∧ x < o + k then code (x - o) else store x
theorem y_cps {store code : Nat → Int32} {o k : Nat} : upd (y_cp store code o k) (o + k) (code k) = y_cp store code o (k + 1) := by
  funext x
  unfold upd y_cp
  by_cases e : x = o + k
  · rw [if_pos e, if_pos (by omega), e, Nat.add_sub_cancel_left]
  · rw [if_neg e]
    by_cases h : o ≤ x ∧ x < o + k
    · rw [if_pos h, if_pos (by omega)]
    · rw [if_neg h, if_neg (by omega)]
theorem y_copy {T F m : Nat} {fault faultLine at1 line labels targets wrong unfit : Int32} {code store : Nat → Int32} {label : Nat → Int64} {labelWord : Nat → Int32} {target : Nat → Int64} {tw tl : Nat → Int32} (hT : T < 4) (hF : F < 128) (hm : m ≤ 128) : ∀ (n : Nat) {k : Nat}, k ≤ m → m - k < n → f_X11_assemble_171 n (Int32.ofNat T) (Int32.ofNat F) (Int32.ofNat k) 0 at1 fault faultLine line (Int32.ofNat m) labels targets wrong unfit code label labelWord target tw tl (y_cp store code (128 * T + F) k) = (Int32.ofNat m, 0, at1, fault, faultLine, line, Int32.ofNat m, labels, targets, wrong, unfit, code, label, labelWord, target, tw, tl, y_cp store code (128 * T + F) m) := by
  intro n
  induction n with
  | zero => intro k _ h; omega
  | succ n ih =>
    intro k hk hn
    rw [f_X11_assemble_171]
    by_cases h : m ≤ k
    · have : k = m := by omega
      subst this
      rw [if_pos ((i_le (by omega) (by omega)).mpr (Nat.le_refl k))]
    · have hidx : ((128 : Int32) * Int32.ofNat T + Int32.ofNat F) + Int32.ofNat k = Int32.ofNat (128 * T + F + k) := by
        rw [Int32.ofNat_add, Int32.ofNat_add, Int32.ofNat_mul]; rfl
      rw [if_neg (fun h2 => h ((i_le (by omega) (by omega)).mp h2)), hidx, i_cl (by omega), i_cl (by omega), i_s, y_cps]
      exact ih (by omega) (by omega)
theorem y_V2 {T F m : Nat} {code aw store : Nat → Int32} (hT : T < 4) (hFm : F + m ≤ 128) (hac : ∀ i, i < m → aw i = code i) : V2 128 (y_cp store code (128 * T + F) m) = g_up (V2 128 store) T (va_cpy aw (V2 128 store T) 0 F m) := by
  funext a r
  rw [g_up_at]
  by_cases ha : a = T
  · subst ha
    rw [if_pos rfl]
    unfold va_cpy V2 y_cp
    by_cases h : F ≤ r ∧ r < F + m
    · rw [if_pos h, if_pos ⟨hT, by omega⟩, if_pos (by omega), Nat.zero_add, hac _ (by omega), show 128 * a + r - (128 * a + F) = r - F by omega]
    · rw [if_neg h]
      by_cases h2 : a < 4 ∧ r < 128
      · rw [if_pos h2, if_pos h2, if_neg (by omega)]
      · rw [if_neg h2, if_neg h2]
  · rw [if_neg ha]
    unfold V2 y_cp
    by_cases h2 : a < 4 ∧ r < 128
    · rw [if_pos h2, if_pos h2, if_neg (by omega)]
    · rw [if_neg h2, if_neg h2]
