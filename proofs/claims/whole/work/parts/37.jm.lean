theorem y_neg1 : ((-1 : Int32) < 0) := by decide
theorem y_nn (i : Nat) (h : i < 2147483648) : ¬ (Int32.ofNat i < 0) := fun h2 => by
  have h1 := (e_lt0 _).mp h2
  rw [e_c i h] at h1
  omega
theorem y_56 {F m b : Nat} {label : Nat → Int64} {labelWord : Nat → Int32} {lab : Int64} {l2 l3 labels' : Int32} {label' : Nat → Int64} {labelWord' : Nat → Int32} {lkeys : Nat → Int64} {lplaces : Nat → Int32} (hb : b ≤ 16) (hZ : y_Z b F m label labelWord lab l2 l3 labels' label' labelWord') (hlb : y_lb b lkeys label) (hpl : y_pl F b lplaces labelWord) : f_X0_faultOfLine_56 lab (Int32.ofNat b) lkeys lplaces = if l3 = 0 then 0 else 3 := by
  unfold f_X0_faultOfLine_56 f_X0_faultOfLine_c73
  rcases hZ with ⟨h1, _, h3, _⟩ | ⟨w, h1, _, h3, _⟩
  · rw [if_pos (y_cmpE h1), if_pos h3]
  · rw [if_neg (fun e => (y_key_ne h1).1 (y_cmp0 e))]
    rcases y_find (lplaces := lplaces) hb hlb h1 with ⟨i, hi, hki, f1, f2⟩ | ⟨hno, f1, f2⟩
    · obtain ⟨x, x1, x2, x3⟩ := hpl i hi
      rw [f2, if_neg (y_nn i (by omega))] at h3
      rw [f1, x2, if_neg (y_nn x (by omega)), if_neg (by rw [h3]; decide)]
    · rw [f2, if_pos y_neg1] at h3
      rw [f1, if_pos y_neg1, if_pos h3]
theorem y_fault {F m b : Nat} {label : Nat → Int64} {labelWord : Nat → Int32} {lab : Int64} {l2 l3 labels' : Int32} {label' : Nat → Int64} {labelWord' : Nat → Int32} {lkeys : Nat → Int64} {lplaces : Nat → Int32} (hF : F < 128) (hm : m ≤ 128) (hb : b ≤ 16) (hZ : y_Z b F m label labelWord lab l2 l3 labels' label' labelWord') (hlb : y_lb b lkeys label) (hpl : y_pl F b lplaces labelWord) :
    (f_X0_faultOfLine ((128 : Int32) - Int32.ofNat F) (Int32.ofNat m) lab 0 0 0 (Int32.ofNat b) lkeys lplaces = y_fl 0 l2 l3) ∧ (∀ mis : Int32, f_X0_faultOfLine ((128 : Int32) - Int32.ofNat F) (Int32.ofNat m) lab 1 0 mis (Int32.ofNat b) lkeys lplaces = y_fl mis (if l2 = 0 ∧ F + m < 128 then 0 else 1) l3) := by
  have h56 := y_56 hb hZ hlb hpl
  have hroom : (128 : Int32) - Int32.ofNat F = Int32.ofNat (128 - F) := i_sub (a := 128) (by omega)
  have hlt : (Int32.ofNat m < Int32.ofNat (128 - F)) ↔ F + m < 128 := by
    rw [i_lt (by omega) (by omega)]; omega
  have hl2 : (lab = 0 ∧ l2 = 0) ∨ (lab ≠ 0 ∧ l2 = if b = 16 then 1 else 0) := by
    rcases hZ with ⟨h1, h2, _⟩ | ⟨w, h1, h2, _⟩
    · exact Or.inl ⟨h1, h2⟩
    · exact Or.inr ⟨(y_key_ne h1).1, h2⟩
  have e16 : ((16 : Int32) ≤ Int32.ofNat b) ↔ b = 16 := by
    rw [show ((16 : Int32) ≤ Int32.ofNat b) ↔ 16 ≤ b from i_le (by decide) (by omega)]; omega
  rw [hroom]
  constructor
  · unfold f_X0_faultOfLine f_X0_faultOfLine_39 y_fl
    rw [if_pos rfl, if_pos rfl, if_pos rfl, if_pos rfl, h56]
    rcases hl2 with ⟨h1, h2⟩ | ⟨h1, h2⟩
    · rw [if_pos (y_cmpE h1), if_pos h2]
    · rw [if_neg (fun e => h1 (y_cmp0 e))]
      by_cases hb16 : b = 16
      · rw [if_pos (e16.mpr hb16), if_neg (show ¬ l2 = 0 by rw [h2, if_pos hb16]; decide)]
      · rw [if_neg (fun e => hb16 (e16.mp e)), if_pos (show l2 = 0 by rw [h2, if_neg hb16])]
  · intro mis
    unfold f_X0_faultOfLine f_X0_faultOfLine_39 y_fl
    rw [if_pos rfl, h56, if_neg (show ¬ (1 : Int32) = 0 by decide)]
    by_cases hmis : mis = 0
    · rw [if_pos hmis, if_pos hmis]
      have h39 : (if Int32.ofNat m < Int32.ofNat (128 - F) then (if l3 = 0 then (0 : Int32) else 3) else 4) = (if F + m < 128 then (if l3 = 0 then (0 : Int32) else 3) else 4) := by
        by_cases h : F + m < 128
        · rw [if_pos h, if_pos (hlt.mpr h)]
        · rw [if_neg h, if_neg (fun e => h (hlt.mp e))]
      rw [h39]
      rcases hl2 with ⟨h1, h2⟩ | ⟨h1, h2⟩
      · rw [if_pos (y_cmpE h1)]
        by_cases h : F + m < 128
        · rw [if_pos h, if_pos (show l2 = 0 ∧ F + m < 128 from ⟨h2, h⟩), if_pos rfl]
        · rw [if_neg h, if_neg (show ¬ (l2 = 0 ∧ F + m < 128) from fun e => h e.2), if_neg (by decide)]
      · rw [if_neg (fun e => h1 (y_cmp0 e))]
        by_cases hb16 : b = 16
        · have h21 : ¬ l2 = 0 := by rw [h2, if_pos hb16]; decide
          rw [if_pos (e16.mpr hb16), if_neg (show ¬ (l2 = 0 ∧ F + m < 128) from fun e => h21 e.1), if_neg (by decide)]
        · have h20 : l2 = 0 := by rw [h2, if_neg hb16]
          rw [if_neg (fun e => hb16 (e16.mp e))]
          by_cases h : F + m < 128
          · rw [if_pos h, if_pos (show l2 = 0 ∧ F + m < 128 from ⟨h20, h⟩), if_pos rfl]
          · rw [if_neg h, if_neg (show ¬ (l2 = 0 ∧ F + m < 128) from fun e => h e.2), if_neg (by decide)]
    · rw [if_neg hmis, if_neg hmis]
theorem y_fl0 {u l2 l3 : Int32} (h : y_fl u l2 l3 = 0) : u = 0 ∧ l2 = 0 ∧ l3 = 0 := by
  unfold y_fl at h
  by_cases h1 : u = 0
  · rw [if_pos h1] at h
    by_cases h2 : l2 = 0
    · rw [if_pos h2] at h
      by_cases h3 : l3 = 0
      · exact ⟨h1, h2, h3⟩
      · rw [if_neg h3] at h; exact absurd h (by decide)
    · rw [if_neg h2] at h; exact absurd h (by decide)
  · rw [if_neg h1] at h; exact absurd h (by decide)
theorem y_flp {u l2 l3 : Int32} (h : ¬ y_fl u l2 l3 = 0) : ¬ y_fl u l2 l3 ≤ 0 := by
  unfold y_fl at h ⊢
  by_cases h1 : u = 0
  · rw [if_pos h1] at h ⊢
    by_cases h2 : l2 = 0
    · rw [if_pos h2] at h ⊢
      by_cases h3 : l3 = 0
      · rw [if_pos h3] at h; exact absurd rfl h
      · rw [if_neg h3]; decide
    · rw [if_neg h2]; decide
  · rw [if_neg h1]; decide
def y_inv (F m b d : Nat) (aw : Nat → Int32) (A : Nat → Int64) (lines : Nat → Int32) (lkeys : Nat → Int64) (lplaces : Nat → Int32) (code : Nat → Int32) (label : Nat → Int64) (labelWord : Nat → Int32) (target : Nat → Int64) (tw tl : Nat → Int32) : Prop := F + m ≤ 128 ∧ b ≤ 16 ∧ d = y_cnt A m ∧ (∀ i, i < m → aw i = code i) ∧ y_lb b lkeys label ∧ y_pl F b lplaces labelWord ∧ y_tg m A lines target tw tl
section
variable {F m b d : Nat} {aw : Nat → Int32} {A : Nat → Int64} {lines : Nat → Int32} {lkeys : Nat → Int64} {lplaces : Nat → Int32} {code : Nat → Int32} {label : Nat → Int64} {labelWord : Nat → Int32} {target : Nat → Int64} {tw tl : Nat → Int32}
theorem y_inv_lab (h : y_inv F m b d aw A lines lkeys lplaces code label labelWord target tw tl) {lab w : Int64} (hb : b < 16) (hk : y_key lab w) (hno : ∀ i, i < b → lkeys i ≠ lab) : y_inv F m (b + 1) d aw A lines (vp_updL lkeys b lab) (upd lplaces b (Int32.ofNat m)) code (vp_updL label b w) (upd labelWord b (Int32.ofNat (F + m))) target tw tl := by
  obtain ⟨h1, h2, h3, h4, ⟨h5, h5'⟩, h6, h7⟩ := h
  refine ⟨h1, by omega, h3, h4, ⟨fun i hi => ?_, fun i j hij hj => ?_⟩, fun i hi => ?_, h7⟩
  · by_cases e : i = b
    · subst e; rw [y_updLk, y_updLk]; exact hk
    · rw [y_updLn e, y_updLn e]; exact h5 i (by omega)
  · rw [y_updLn (by omega : i ≠ b)]
    by_cases e : j = b
    · subst e; rw [y_updLk]; exact hno i hij
    · rw [y_updLn e]; exact h5' i j hij (by omega)
  · by_cases e : i = b
    · subst e; rw [y_updk, y_updk]; exact ⟨m, by omega, rfl, rfl⟩
    · rw [y_updn e, y_updn e]; exact h6 i (by omega)
theorem y_inv_w0 (h : y_inv F m b d aw A lines lkeys lplaces code label labelWord target tw tl) {wd line : Int32} (hlt : F + m < 128) : y_inv F (m + 1) b d (upd aw m wd) (vp_updL A m 0) (upd lines m line) lkeys lplaces (upd code m wd) label labelWord target tw tl := by
  obtain ⟨h1, h2, h3, h4, h5, h6, h7⟩ := h
  refine ⟨by omega, h2, ?_, fun i hi => ?_, h5, h6, fun k hk hA => ?_⟩
  · rw [y_cnt, y_cnt_upd m (Nat.le_refl m), y_updLk, if_pos rfl, h3]; rfl
  · by_cases e : i = m
    · subst e; rw [y_updk, y_updk]
    · rw [y_updn e, y_updn e]; exact h4 i (by omega)
  · by_cases e : k = m
    · subst e; rw [y_updLk] at hA; exact absurd rfl hA
    · rw [y_updLn e] at hA ⊢
      rw [y_cnt_upd k (by omega), y_updn e]
      exact h7 k (by omega) hA
theorem y_inv_w1 (h : y_inv F m b d aw A lines lkeys lplaces code label labelWord target tw tl) {wd line : Int32} {tgt w : Int64} (hlt : F + m < 128) (hk : y_key tgt w) : y_inv F (m + 1) b (d + 1) (upd aw m wd) (vp_updL A m tgt) (upd lines m line) lkeys lplaces (upd code m wd) label labelWord (vp_updL target d w) (upd tw d (Int32.ofNat m)) (upd tl d line) := by
  obtain ⟨h1, h2, h3, h4, h5, h6, h7⟩ := h
  have ht := (y_key_ne hk).1
  refine ⟨by omega, h2, ?_, fun i hi => ?_, h5, h6, fun k hk2 hA => ?_⟩
  · rw [y_cnt, y_cnt_upd m (Nat.le_refl m), y_updLk, if_neg ht, h3]
  · by_cases e : i = m
    · subst e; rw [y_updk, y_updk]
    · rw [y_updn e, y_updn e]; exact h4 i (by omega)
  · by_cases e : k = m
    · subst e
      rw [y_cnt_upd k (Nat.le_refl k), ← h3, y_updLk, y_updk, y_updk, y_updLk, y_updk]
      exact ⟨rfl, hk, rfl⟩
    · rw [y_updLn e] at hA ⊢
      have hc := y_cnt_lt (A := A) (show k < m by omega) hA
      rw [y_cnt_upd k (by omega), y_updn (by omega), y_updLn (by omega), y_updn (by omega), y_updn e]
      exact h7 k (by omega) hA
theorem y_keep24 {has wd line : Int32} {tgt : Int64} {lc : Int32} {lk : Nat → Int64} {lp : Nat → Int32} (hm : m < 128 ∨ has = 0) : f_X0_keepLine_24 (Int32.ofNat m) has wd tgt aw A lines lc lk lp line = if has = 0 then (Int32.ofNat m, aw, A, lines, lc, lk, lp) else (Int32.ofNat (m + 1), upd aw m wd, vp_updL A m tgt, upd lines m line, lc, lk, lp) := by
  unfold f_X0_keepLine_24
  by_cases h : has = 0
  · rw [if_pos h, if_pos h]
  · have hm' : m < 128 := by
      rcases hm with e | e
      · exact e
      · exact absurd e h
    have : ¬ (128 : Int32) ≤ Int32.ofNat m := fun e => by
      have := (i_le (a := 128) (by decide) (by omega)).mp e; omega
    rw [if_neg h, if_neg h, if_neg this, i_cl (by omega), i_s]
theorem y_keepA {has wd line : Int32} {tgt : Int64} (hb : b < 16) {lab w : Int64} (hk : y_key lab w) : f_X0_keepLine line (Int32.ofNat m) lab has wd tgt aw A lines (Int32.ofNat b) lkeys lplaces = f_X0_keepLine_24 (Int32.ofNat m) has wd tgt aw A lines (Int32.ofNat (b + 1)) (vp_updL lkeys b lab) (upd lplaces b (Int32.ofNat m)) line := by
  unfold f_X0_keepLine f_X0_keepLine_c21 f_X3_add
  have : ¬ (16 : Int32) ≤ Int32.ofNat b := fun e => by
    have := (i_le (a := 16) (by decide) (by omega)).mp e; omega
  rw [if_neg (fun e => (y_key_ne hk).1 (y_cmp0 e)), if_neg this, i_cl (by omega), i_s]
theorem y_keep0 {has wd line : Int32} {tgt : Int64} : f_X0_keepLine line (Int32.ofNat m) 0 has wd tgt aw A lines (Int32.ofNat b) lkeys lplaces = f_X0_keepLine_24 (Int32.ofNat m) has wd tgt aw A lines (Int32.ofNat b) lkeys lplaces line := by
  unfold f_X0_keepLine
  rw [if_pos (by decide)]
end
def y_R (K : Nat → Int32) (T F : Nat) (store : Nat → Int32) (RC : Int32 × Int32 × Int32 × Int32 × Int64 × Int32 × Int32 × Int64 × Int32 × Int32 × (Nat → Int32) × (Nat → Int64) × (Nat → Int32) × Int32 × (Nat → Int64) × (Nat → Int32) × Int32 × Int32 × (Nat → Int32) × (Nat → Int64)) (RR : Int32 × Int32 × Int32 × Int32 × Int32 × Int32 × Int32 × Int32 × Int32 × Int32 × Int32 × (Nat → Int32) × (Nat → Int64) × (Nat → Int32) × (Nat → Int64) × (Nat → Int32) × (Nat → Int32) × (Nat → Int32)) : Prop :=
  RC.2.2.2.2.2.2.2.2.2.2.2.2.2.2.2.2.2.2.1 = K ∧ RR.2.2.2.1 = RC.2.1 ∧ RR.2.2.2.2.1 = RC.2.2.1 ∧ ((¬ RC.2.1 = 0 ∧ RR.2.1 = 2 ∧ RR.2.2.2.2.2.2.2.2.2.2.2.2.2.2.2.2.2 = store) ∨ (RC.2.1 = 0 ∧ RR.1 = RC.1 ∧ RR.2.1 = 0 ∧ (0 ≤ RC.1.toInt ∧ RC.1.toInt ≤ 128 - (F : Int)) ∧ V2 128 RR.2.2.2.2.2.2.2.2.2.2.2.2.2.2.2.2.2 = g_up (V2 128 store) T (va_cpy RC.2.2.2.2.2.2.2.2.2.2.1 (V2 128 store T) 0 F (Int32.toNatClampNeg RC.1))))
theorem y_bad {L T F : Nat} {text K store : Nat → Int32} {fR : Nat} {fault : Int32} (hf : ¬ fault ≤ 0) (hf0 : ¬ fault = 0) {RC : Int32 × Int32 × Int32 × Int32 × Int64 × Int32 × Int32 × Int64 × Int32 × Int32 × (Nat → Int32) × (Nat → Int64) × (Nat → Int32) × Int32 × (Nat → Int64) × (Nat → Int32) × Int32 × Int32 × (Nat → Int32) × (Nat → Int64)} {line at1 words labels targets wrong unfit : Int32} {code : Nat → Int32} {label : Nat → Int64} {labelWord : Nat → Int32} {target : Nat → Int64} {tw tl : Nat → Int32} (hK : RC.2.2.2.2.2.2.2.2.2.2.2.2.2.2.2.2.2.2.1 = K) (h1 : RC.2.1 = fault) (h2 : RC.2.2.1 = line) {l1 l2 : Int32} : y_R K T F store RC (f_X11_assemble_68 (Int32.ofNat L) text (fR + 1) l1 l2 0 0 at1 fault line (line + 1) words labels targets wrong unfit code label labelWord target tw tl store) := by
  rw [f_X11_assemble_68, if_pos rfl, if_neg hf0]
  unfold f_X11_assemble_155
  rw [if_neg hf]
  unfold f_X11_assemble_c164 f_X11_refuse
  exact ⟨hK, h1.symm, h2.symm, Or.inl ⟨by rw [h1]; exact hf0, rfl, rfl⟩⟩
theorem y_fin {L N T F m b d : Nat} {text K store : Nat → Int32} {V : Nat → Int64} {fR : Nat} {aw : Nat → Int32} {A : Nat → Int64} {lines : Nat → Int32} {lkeys : Nat → Int64} {lplaces : Nat → Int32} {code : Nat → Int32} {label : Nat → Int64} {labelWord : Nat → Int32} {target : Nat → Int64} {tw tl : Nat → Int32} (hT : T < 4) (hF : F < 128) (hi : y_inv F m b d aw A lines lkeys lplaces code label labelWord target tw tl) {aat ahas aword amal amis kcount kat line at1 wrong unfit : Int32} {alabel atarget : Int64} : y_R K T F store (f_X0_read_94 (Int32.ofNat m) 0 0 aat alabel ahas aword atarget amal amis aw A lines (Int32.ofNat b) lkeys lplaces kcount kat K V) (f_X11_assemble_68 (Int32.ofNat L) text (fR + 1) (Int32.ofNat T) (Int32.ofNat F) 0 0 at1 0 0 line (Int32.ofNat m) (Int32.ofNat b) (Int32.ofNat d) wrong unfit code label labelWord target tw tl store) := by
  obtain ⟨i1, i2, i3, i4, i5, i6, i7⟩ := hi
  subst i3
  have hcm := y_cnt_le A m
  obtain ⟨fk, fl, aw', code', e1, e2, e3⟩ := y_link hF i2 (show m ≤ 128 by omega) i5 i6 i7 129 (fR := 129) (k := 0) (by omega) (by omega) (by rw [y_cnt]; omega) i4
  have e1' : f_X0_resolveTargets (Int32.ofNat m) 0 0 aw A lines (Int32.ofNat b) lkeys lplaces = (fk, fl, aw') := e1
  have e2' : f_X11_link (Int32.ofNat F) 0 0 (Int32.ofNat b) (Int32.ofNat (y_cnt A m)) code label labelWord target tw tl = (fk, fl, code') := e2
  unfold f_X0_read_94 f_X0_read_c95
  rw [e1', f_X11_assemble_68, if_pos rfl, if_pos rfl, e2']
  unfold f_X11_assemble_c152 f_X11_assemble_155
  rcases e3 with ⟨h0, hac⟩ | h3
  · have h0' : (fk, fl, code').1 ≤ 0 := (by rw [h0]; decide : fk ≤ 0)
    rw [if_pos h0']
    have hcp : store = y_cp store code' (128 * T + F) 0 := by
      funext x
      unfold y_cp
      rw [if_neg (by omega)]
    have hc := y_copy (fault := fk) (faultLine := fl) (at1 := at1) (line := line) (labels := Int32.ofNat b) (targets := Int32.ofNat (y_cnt A m)) (wrong := wrong) (unfit := unfit) (code := code') (store := store) (label := label) (labelWord := labelWord) (target := target) (tw := tw) (tl := tl) hT hF (show m ≤ 128 by omega) 129 (k := 0) (by omega) (by omega)
    rw [← hcp] at hc
    have hc' : f_X11_assemble_171 129 (Int32.ofNat T) (Int32.ofNat F) 0 0 at1 (fk, fl, code').1 (fk, fl, code').2.1 line (Int32.ofNat m) (Int32.ofNat b) (Int32.ofNat (y_cnt A m)) wrong unfit (fk, fl, code').2.2 label labelWord target tw tl store = _ := hc
    rw [hc']
    refine ⟨rfl, rfl, rfl, Or.inr ⟨h0, rfl, rfl, ?_, ?_⟩⟩
    · show 0 ≤ (Int32.ofNat m).toInt ∧ (Int32.ofNat m).toInt ≤ 128 - (F : Int)
      rw [e_c m (by omega)]
      omega
    · show V2 128 (y_cp store code' (128 * T + F) m) = g_up (V2 128 store) T (va_cpy aw' (V2 128 store T) 0 F (Int32.toNatClampNeg (Int32.ofNat m)))
      rw [i_cl (by omega)]
      exact y_V2 hT i1 hac
  · have h0' : ¬ (fk, fl, code').1 ≤ 0 := (by rw [h3]; decide : ¬ fk ≤ 0)
    rw [if_neg h0']
    unfold f_X11_assemble_c164 f_X11_refuse
    exact ⟨rfl, rfl, rfl, Or.inl ⟨(by rw [h3]; decide : ¬ fk = 0), rfl, rfl⟩⟩
