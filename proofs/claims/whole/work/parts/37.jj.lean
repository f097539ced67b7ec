def y_fl (u l2 l3 : Int32) : Int32 := if u = 0 then (if l2 = 0 then (if l3 = 0 then 0 else 3) else 4) else 2
theorem y_isEnd {L q : Nat} {text : Nat → Int32} (hL : L ≤ 400) (hq : q ≤ L) : f_X11_isEnd (Int32.ofNat L) (Int32.ofNat q) text = if y_ch L text q = 10 ∨ y_ch L text q = 59 then 1 else 0 := by
  unfold f_X11_isEnd f_X11_isEnd_c5 f_X11_isEnd_c18
  rw [i_chr hL (by omega)]
  by_cases h : y_ch L text q = 10
  · rw [if_pos h, if_pos (Or.inl h)]
  · rw [if_neg h]
    by_cases h2 : y_ch L text q = 59
    · rw [if_pos h2, if_pos (Or.inr h2)]
    · rw [if_neg h2, if_neg (fun e => by rcases e with e | e; exact h e; exact h2 e)]
theorem y_c355 (words labels D u : Int32) (code : Nat → Int32) (label : Nat → Int64) (lw : Nat → Int32) (t1 : Nat → Int64) (t2 t3 : Nat → Int32) (l2 l3 z : Int32) : f_X11_takeLine_c355 words labels D u code label lw t1 t2 t3 l2 l3 z 1 = (z, y_fl u l2 l3, words, labels, D, 0, u, code, label, lw, t1, t2, t3) := by
  unfold f_X11_takeLine_c355 y_fl
  rw [if_neg (by decide)]
  by_cases h1 : u = 0
  · rw [if_pos h1, if_pos h1]
    by_cases h2 : l2 = 0
    · rw [if_pos h2, if_pos h2]
      by_cases h3 : l3 = 0
      · rw [if_pos h3, if_pos h3]
      · rw [if_neg h3, if_neg h3]
    · rw [if_neg h2, if_neg h2]
  · rw [if_neg h1, if_neg h1]
theorem y_endW (len p words labels D u : Int32) (text code : Nat → Int32) (label : Nat → Int64) (lw : Nat → Int32) (t1 : Nat → Int64) (t2 t3 : Nat → Int32) (l2 l3 : Int32) : (f_X11_takeLine_342 len p words labels D 1 u text code label lw t1 t2 t3 l2 l3).2.1 = 1 := by
  unfold f_X11_takeLine_342 f_X11_takeLine_c343
  rw [if_neg (by decide)]
theorem y_endD {L s : Nat} {text : Nat → Int32} (hL : L ≤ 400) (hs : s ≤ L) (hd : y_dig (y_ch L text s)) (words labels D u : Int32) (code : Nat → Int32) (label : Nat → Int64) (lw : Nat → Int32) (t1 : Nat → Int64) (t2 t3 : Nat → Int32) (l2 l3 : Int32) : (f_X11_takeLine_342 (Int32.ofNat L) (Int32.ofNat s) words labels D 0 u text code label lw t1 t2 t3 l2 l3).2.1 = 1 := by
  have hn : ∀ C : Int32, ¬ y_dig C → y_ch L text s ≠ C := fun C h e => h (by rw [← e]; exact hd)
  have hsk : f_X11_skip (Int32.ofNat L) (Int32.ofNat s) text = Int32.ofNat s := y_skip hL ⟨Nat.le_refl s, fun i a b => by omega, hn 32 (by decide)⟩ hs
  unfold f_X11_takeLine_342 f_X11_takeLine_c343
  rw [hsk, if_pos rfl, y_isEnd hL hs, if_neg (fun e => by rcases e with e | e; exact hn 10 (by decide) e; exact hn 59 (by decide) e)]
  unfold f_X11_takeLine_c355
  rw [if_pos rfl]
theorem y_123M (at1 : Int32) (lab : Int64) (has wd : Int32) (tgt : Int64) (mis N : Int32) (K : Nat → Int32) : (f_X0_readLine_123 at1 lab has wd tgt 1 mis N K).2.2.2.2.2.1 = 1 := by
  unfold f_X0_readLine_123 f_X0_readLine_c131
  by_cases h : f_X9_kindAt at1 N K = 10
  · rw [if_pos h]
  · rw [if_neg h]
theorem y_end {L n c p N : Nat} {text K : Nat → Int32} {V : Nat → Int64} (hL : L ≤ 400) (hN : N = c + (n + 1)) (hN4 : N ≤ 401) (h : y_sy L text K V (n + 1) c p) :
    (K c = 10 → ∃ q, q ≤ L ∧ y_sy L text K V n (c + 1) (q + 1) ∧ (∀ (lab tgt : Int64) (has wd mis : Int32), f_X0_readLine_123 (Int32.ofNat c) lab has wd tgt 0 mis (Int32.ofNat N) K = (Int32.ofNat (c + 1), lab, has, wd, tgt, 0, mis)) ∧ ∀ (words labels D u : Int32) (code : Nat → Int32) (label : Nat → Int64) (lw : Nat → Int32) (t1 : Nat → Int64) (t2 t3 : Nat → Int32) (l2 l3 : Int32), f_X11_takeLine_342 (Int32.ofNat L) (Int32.ofNat p) words labels D 0 u text code label lw t1 t2 t3 l2 l3 = (Int32.ofNat q, y_fl u l2 l3, words, labels, D, 0, u, code, label, lw, t1, t2, t3)) ∧
    (K c ≠ 10 → (∀ (lab tgt : Int64) (has wd mis : Int32), (f_X0_readLine_123 (Int32.ofNat c) lab has wd tgt 0 mis (Int32.ofNat N) K).2.2.2.2.2.1 = 1) ∧ ∀ (words labels D u : Int32) (code : Nat → Int32) (label : Nat → Int64) (lw : Nat → Int32) (t1 : Nat → Int64) (t2 t3 : Nat → Int32) (l2 l3 : Int32), (f_X11_takeLine_342 (Int32.ofNat L) (Int32.ofNat p) words labels D 0 u text code label lw t1 t2 t3 l2 l3).2.1 = 1) := by
  obtain ⟨q, r, g1, g2, g3, g4, g5⟩ := y_sk hL h
  obtain ⟨t1, t2⟩ := g3.2.2.2.2.1
  constructor
  · intro e
    refine ⟨q, g2, ?_, ?_, ?_⟩
    · rw [t2 e] at g4; exact g4
    · intro lab tgt has wd mis
      unfold f_X0_readLine_123 f_X0_readLine_c131
      rw [y_kind (by omega) hN4, if_pos e, i_s]
    · intro words labels D u code label lw a b cc l2 l3
      unfold f_X11_takeLine_342 f_X11_takeLine_c343
      rw [g1, if_pos rfl, y_isEnd hL g2, if_pos (t1.mp e), y_c355]
  · intro e
    refine ⟨?_, ?_⟩
    · intro lab tgt has wd mis
      unfold f_X0_readLine_123 f_X0_readLine_c131
      rw [y_kind (by omega) hN4, if_neg e]
    · intro words labels D u code label lw a b cc l2 l3
      unfold f_X11_takeLine_342 f_X11_takeLine_c343
      rw [g1, if_pos rfl, y_isEnd hL g2, if_neg (fun h => e (t1.mpr h))]
      unfold f_X11_takeLine_c355
      rw [if_pos rfl]
theorem y_256 {F m : Nat} (hF : F < 128) (hm : m ≤ 128) (len p labels D wr u : Int32) (text code : Nat → Int32) (label : Nat → Int64) (lw : Nat → Int32) (t1 : Nat → Int64) (t2 t3 : Nat → Int32) (l2 l3 v z : Int32) : f_X11_takeLine_256 len p (Int32.ofNat m) labels D wr u text code label lw t1 t2 t3 (Int32.ofNat F) l2 l3 v z = f_X11_takeLine_342 len p (Int32.ofNat (m + 1)) labels D wr u text (if F + m < 128 then upd code m (((v ||| ((z >>> ((4 : Int32) &&& 31)) &&& (127 : Int32))) ||| (((z >>> ((11 : Int32) &&& 31)) &&& (7 : Int32)) <<< ((12 : Int32) &&& 31))) ||| ((z >>> ((14 : Int32) &&& 31)) <<< ((25 : Int32) &&& 31))) else code) label lw t1 t2 t3 (if l2 = 0 ∧ F + m < 128 then 0 else 1) l3 := by
  have hs : Int32.ofNat F + Int32.ofNat m = Int32.ofNat (F + m) := (Int32.ofNat_add F m).symm
  have e1 : (Int32.ofNat (F + m) < 128) ↔ F + m < 128 := i_lt (by omega) (by decide)
  have e2 : ((128 : Int32) ≤ Int32.ofNat (F + m)) ↔ 128 ≤ F + m := i_le (by decide) (by omega)
  unfold f_X11_takeLine_256 f_X11_takeLine_279 f_X11_takeLine_332
  rw [hs, i_s, i_cl (by omega)]
  by_cases hlt : F + m < 128
  · have n2 : ¬ (128 : Int32) ≤ Int32.ofNat (F + m) := fun h => by
      have := e2.mp h; omega
    rw [if_pos hlt, if_pos (e1.mpr hlt), if_neg n2, if_neg n2]
    by_cases h2 : l2 = 0
    · rw [if_pos h2, if_pos ⟨h2, hlt⟩]
    · rw [if_neg h2, if_neg (fun h => h2 h.1)]
  · rw [if_neg hlt, if_neg (fun h => hlt (e1.mp h)), if_pos (e2.mpr (by omega)), if_neg (show ¬ (l2 = 0 ∧ F + m < 128) from fun h => hlt h.2)]
    by_cases h2 : l2 = 0
    · rw [if_pos h2]
    · rw [if_neg h2]
def y_Y (L N F m d c0 : Nat) (text K : Nat → Int32) (V : Nat → Int64) (lab : Int64) (l2 l3 labels line : Int32) (code : Nat → Int32) (label : Nat → Int64) (labelWord : Nat → Int32) (target : Nat → Int64) (tw tl : Nat → Int32) (Rc : Int32 × Int64 × Int32 × Int32 × Int64 × Int32 × Int32) (Rr : Int32 × Int32 × Int32 × Int32 × Int32 × Int32 × Int32 × (Nat → Int32) × (Nat → Int64) × (Nat → Int32) × (Nat → Int64) × (Nat → Int32) × (Nat → Int32)) : Prop :=
  (Rc.2.2.2.2.2.1 = 1 ∧ Rr.2.1 = 1) ∨
  (∃ (n' cc q : Nat) (has wd mis fault words' D : Int32) (tgt : Int64) (code' : Nat → Int32) (t1 : Nat → Int64) (t2 t3 : Nat → Int32), Rc = (Int32.ofNat (cc + 1), lab, has, wd, tgt, 0, mis) ∧ Rr = (Int32.ofNat q, fault, words', labels, D, 0, mis, code', label, labelWord, t1, t2, t3) ∧ q ≤ L ∧ y_sy L text K V n' (cc + 1) (q + 1) ∧ (N = cc + 1 + n' ∧ c0 ≤ cc) ∧
    ((has = 0 ∧ mis = 0 ∧ tgt = 0 ∧ fault = y_fl 0 l2 l3 ∧ words' = Int32.ofNat m ∧ D = Int32.ofNat d ∧ code' = code ∧ t1 = target ∧ t2 = tw ∧ t3 = tl) ∨
     (has = 1 ∧ (mis = 0 ∨ mis = 1) ∧ fault = y_fl mis (if l2 = 0 ∧ F + m < 128 then 0 else 1) l3 ∧ words' = Int32.ofNat (m + 1) ∧ (F + m < 128 → mis = 0 → code' = upd code m wd) ∧ (d < 128 → ((tgt = 0 ∧ D = Int32.ofNat d ∧ t1 = target ∧ t2 = tw ∧ t3 = tl) ∨ (∃ w, y_key tgt w ∧ D = Int32.ofNat (d + 1) ∧ t1 = vp_updL target d w ∧ t2 = upd tw d (Int32.ofNat m) ∧ t3 = upd tl d line))))))
/-- a line's instruction, from letters that both read -/
theorem y_IE97 {L N F m d n c p c0 : Nat} {text K : Nat → Int32} {V : Nat → Int64} {lab w : Int64} {l2 l3 labels line : Int32} {code : Nat → Int32} {label : Nat → Int64} {labelWord : Nat → Int32} {target : Nat → Int64} {tw tl : Nat → Int32} (hc0 : c0 ≤ c) (hL : L ≤ 400) (hN : N = c + 1 + (n + 1)) (hN4 : N ≤ 401) (hF : F < 128) (hm : m ≤ 128) (hd : d ≤ 128) (hk : K c = 97) (hkey : y_key (V c) w) (h : y_sy L text K V (n + 1) (c + 1) p) : y_Y L N F m d c0 text K V lab l2 l3 labels line code label labelWord target tw tl (f_X0_readLine_89 (Int32.ofNat c) lab 0 0 0 0 0 (Int32.ofNat N) K V) (f_X11_takeLine_203 (Int32.ofNat L) (Int32.ofNat p) line (Int32.ofNat m) labels (Int32.ofNat d) 0 0 text code label labelWord target tw tl (Int32.ofNat F) l2 l3 w 1) := by
  unfold f_X0_readLine_89 f_X0_readLine_c97
  rw [y_kind (by omega) hN4, if_pos hk]
  unfold f_X0_readLine_c114 f_X0_readLine_c117 f_X0_readLine_c120
  rw [y_val (by omega) hN4]
  unfold f_X11_takeLine_203
  rw [if_neg (by decide), if_pos rfl]
  unfold f_X11_takeLine_c217
  rcases y_look hkey with ⟨a1, a2⟩ | ⟨i, hi, a1, a2⟩
  · rw [a1, a2, if_pos rfl, y_256 hF hm]
    left
    refine ⟨?_, y_endW _ _ _ _ _ _ _ _ _ _ _ _ _ _ _⟩
    unfold f_X0_readInstruction
    rw [if_neg (by decide)]
    exact y_123M _ _ _ _ _ _ _ _
  · obtain ⟨hO, hz, hw⟩ := y_I (line := line) (words := Int32.ofNat m) (target := target) (tw := tw) (tl := tl) hL hN hN4 hd h i hi
    have hri : f_X0_readInstruction (Int32.ofNat i) (Int32.ofNat c) 0 0 0 0 0 (Int32.ofNat N) K V = f_X0_readInstruction_48 (Int32.ofNat N) K V 8 (1200 + m_str.getD i 0) 0 (Int32.ofNat (c + 1)) 1 (m_bits.getD i 0) 0 0 0 := by
      unfold f_X0_readInstruction
      rw [if_pos (by rw [Int32.le_iff_toInt_le, e_c i (by omega)]; exact Int.natCast_nonneg i), i_cl (by omega), i_s]
    rw [a1, a2, if_neg hz, hri]
    unfold f_X11_takeLine_c253
    rw [y_256 hF hm]
    rcases hO with ⟨o1, o2⟩ | ⟨n', c', p', tg, u, w', v, D, t1, t2, t3, o1, o2, o3, o4, o5, o6, o7⟩
    · left
      refine ⟨?_, ?_⟩
      · rw [o1]; exact y_123M _ _ _ _ _ _ _ _
      · rcases o2 with o2 | ⟨o2, s, s1, s2, s3⟩
        · rw [o2]; exact y_endW _ _ _ _ _ _ _ _ _ _ _ _ _ _ _
        · rw [o2, s2]; exact y_endD hL s1 s3 _ _ _ _ _ _ _ _ _ _ _ _
    · rw [o1, o2]
      obtain ⟨E1, E2⟩ := y_end (N := N) hL (by omega) hN4 o6
      by_cases hk2 : K c' = 10
      · obtain ⟨q, q1, q2, q3, q4⟩ := E1 hk2
        right
        refine ⟨n', c', q, 1, w', u, _, _, D, tg, _, t1, t2, t3, q3 _ _ _ _ _, q4 _ _ _ _ _ _ _ _ _ _ _ _, q1, q2, by omega, Or.inr ⟨rfl, o3, rfl, rfl, fun hlt hu => ?_, o7⟩⟩
        rw [if_pos hlt, hw, o4 hu]
      · obtain ⟨q3, q4⟩ := E2 hk2
        left
        exact ⟨q3 _ _ _ _ _, q4 _ _ _ _ _ _ _ _ _ _ _ _⟩
/-- letters that are no word of the class -/
theorem y_IElet {F m : Nat} (hF : F < 128) (hm : m ≤ 128) (len p line labels D u : Int32) (text code : Nat → Int32) (label : Nat → Int64) (lw : Nat → Int32) (t1 : Nat → Int64) (t2 t3 : Nat → Int32) (l2 l3 : Int32) {w : Int64} (hw : w = 0 ∨ w = 120) : (f_X11_takeLine_203 len p line (Int32.ofNat m) labels D 0 u text code label lw t1 t2 t3 (Int32.ofNat F) l2 l3 w 1).2.1 = 1 := by
  unfold f_X11_takeLine_203
  rw [if_neg (by decide), if_pos rfl]
  unfold f_X11_takeLine_c217
  have h0 : f_X11_lookup w = 0 := by rcases hw with e | e <;> rw [e] <;> decide +kernel
  rw [h0, if_pos rfl, y_256 hF hm]
  exact y_endW _ _ _ _ _ _ _ _ _ _ _ _ _ _ _
theorem y_203W (len p line words labels D u : Int32) (text code : Nat → Int32) (label : Nat → Int64) (lw : Nat → Int32) (t1 : Nat → Int64) (t2 t3 : Nat → Int32) (l1 l2 l3 : Int32) (w : Int64) (any : Int32) : (f_X11_takeLine_203 len p line words labels D 1 u text code label lw t1 t2 t3 l1 l2 l3 w any).2.1 = 1 := by
  unfold f_X11_takeLine_203
  by_cases h : any = 0
  · rw [if_pos h]; exact y_endW _ _ _ _ _ _ _ _ _ _ _ _ _ _ _
  · rw [if_neg h, if_neg (by decide)]; exact y_endW _ _ _ _ _ _ _ _ _ _ _ _ _ _ _
theorem y_89X {N c : Nat} {K : Nat → Int32} {V : Nat → Int64} (hc : c < N) (hN4 : N ≤ 401) (lab : Int64) (h1 : K c ≠ 97) (h2 : K c ≠ 10) : (f_X0_readLine_89 (Int32.ofNat c) lab 0 0 0 0 0 (Int32.ofNat N) K V).2.2.2.2.2.1 = 1 := by
  unfold f_X0_readLine_89 f_X0_readLine_c97
  rw [y_kind hc hN4, if_neg h1]
  unfold f_X0_readLine_123 f_X0_readLine_c131
  rw [y_kind hc hN4, if_neg h2]
/-- no letters: the line ends or is wrong -/
theorem y_IE0 {L N F m d n c p c0 : Nat} {text K : Nat → Int32} {V : Nat → Int64} {lab w : Int64} {l2 l3 labels line : Int32} {code : Nat → Int32} {label : Nat → Int64} {labelWord : Nat → Int32} {target : Nat → Int64} {tw tl : Nat → Int32} (hc0 : c0 ≤ c) (hL : L ≤ 400) (hN : N = c + (n + 1)) (hN4 : N ≤ 401) (hk : K c ≠ 97) (h : y_sy L text K V (n + 1) c p) : y_Y L N F m d c0 text K V lab l2 l3 labels line code label labelWord target tw tl (f_X0_readLine_89 (Int32.ofNat c) lab 0 0 0 0 0 (Int32.ofNat N) K V) (f_X11_takeLine_203 (Int32.ofNat L) (Int32.ofNat p) line (Int32.ofNat m) labels (Int32.ofNat d) 0 0 text code label labelWord target tw tl (Int32.ofNat F) l2 l3 w 0) := by
  unfold f_X0_readLine_89 f_X0_readLine_c97
  rw [y_kind (by omega) hN4, if_neg hk]
  unfold f_X11_takeLine_203
  rw [if_pos rfl]
  obtain ⟨E1, E2⟩ := y_end (N := N) hL hN hN4 h
  by_cases hk2 : K c = 10
  · obtain ⟨q, q1, q2, q3, q4⟩ := E1 hk2
    right
    exact ⟨n, c, q, 0, 0, 0, _, _, _, 0, _, _, _, _, q3 _ _ _ _ _, q4 _ _ _ _ _ _ _ _ _ _ _ _, q1, q2, by omega, Or.inl ⟨rfl, rfl, rfl, rfl, rfl, rfl, rfl, rfl, rfl, rfl⟩⟩
  · obtain ⟨q3, q4⟩ := E2 hk2
    left
    exact ⟨q3 _ _ _ _ _, q4 _ _ _ _ _ _ _ _ _ _ _ _⟩
theorem y_let0 {L q : Nat} {text : Nat → Int32} (hL : L ≤ 400) (hq : q ≤ L) (h : ¬ y_let (y_ch L text q)) : f_X11_letters_c1 (Int32.ofNat L) text (Int32.ofNat q) = (0, Int32.ofNat q) := by
  rw [y_let1 hL hq ⟨Nat.le_refl q, fun i a b => by omega, h⟩, Nat.sub_self]
  rfl
theorem y_skq {L q : Nat} {text : Nat → Int32} (hL : L ≤ 400) (hq : q ≤ L) (h : y_ch L text q ≠ 32) : f_X11_skip (Int32.ofNat L) (Int32.ofNat q) text = Int32.ofNat q := y_skip hL ⟨Nat.le_refl q, fun i a b => by omega, h⟩ hq
/-- the instruction behind a label -/
theorem y_IE2 {L N F m d n c p c0 : Nat} {text K : Nat → Int32} {V : Nat → Int64} {lab : Int64} {l2 l3 labels line : Int32} {code : Nat → Int32} {label : Nat → Int64} {labelWord : Nat → Int32} {target : Nat → Int64} {tw tl : Nat → Int32} (hc0 : c0 ≤ c) (hL : L ≤ 400) (hN : N = c + (n + 1)) (hN4 : N ≤ 401) (hF : F < 128) (hm : m ≤ 128) (hd : d ≤ 128) (h : y_sy L text K V (n + 1) c p) : y_Y L N F m d c0 text K V lab l2 l3 labels line code label labelWord target tw tl (f_X0_readLine_89 (Int32.ofNat c) lab 0 0 0 0 0 (Int32.ofNat N) K V) (f_X11_takeLine_171 (Int32.ofNat L) (Int32.ofNat p) line (Int32.ofNat m) labels (Int32.ofNat d) 0 0 text code label labelWord target tw tl (Int32.ofNat F) l2 l3) := by
  obtain ⟨q, r, g1, g2, g3, g4, g5⟩ := y_sk hL h
  have hlt := g3.2.2.2.2.2.2.2.2
  unfold f_X11_takeLine_171 f_X11_takeLine_c172 f_X11_takeLine_c182 f_X11_takeLine_201
  rw [g1]
  unfold f_X11_letters
  rw [y_skq hL g2 g3.1]
  by_cases hk : K c = 97
  · obtain ⟨l1, w, w1, w2⟩ := hlt.1 hk
    obtain ⟨m0, hm0⟩ := y_last h (by rw [hk]; decide)
    subst hm0
    have hqr := g3.2.1
    have hrL : r ≤ L := g4.1
    rw [w1]
    have hno : ¬ Int32.ofNat r ≤ Int32.ofNat q := fun h => by
      have := (i_le (by omega) (by omega)).mp h; omega
    show y_Y _ _ _ _ _ _ _ _ _ _ _ _ _ _ _ _ _ _ _ _ _ (if Int32.ofNat r ≤ Int32.ofNat q then _ else _)
    rw [if_neg hno]
    exact y_IE97 hc0 hL (by omega) hN4 hF hm hd hk w2 g4
  · by_cases hl : y_let (y_ch L text q)
    · obtain ⟨w, s, w1, w2, w3, w4⟩ := hlt.2 hk hl
      rw [w1]
      have hno : ¬ Int32.ofNat s ≤ Int32.ofNat q := fun h => by
        have := (i_le (by omega) (by omega)).mp h; omega
      show y_Y _ _ _ _ _ _ _ _ _ _ _ _ _ _ _ _ _ _ _ _ _ (if Int32.ofNat s ≤ Int32.ofNat q then _ else _)
      rw [if_neg hno]
      left
      refine ⟨y_89X (by omega) hN4 lab hk (fun e => ?_), y_IElet hF hm _ _ _ _ _ _ _ _ _ _ _ _ _ _ _ ?_⟩
      · rcases g3.2.2.2.2.1.1.mp e with e | e <;> (rw [e] at hl; exact hl (by decide))
      · rcases w4 with e | ⟨e, _⟩
        · exact Or.inl e
        · exact Or.inr e
    · rw [y_let0 hL g2 hl]
      show y_Y _ _ _ _ _ _ _ _ _ _ _ _ _ _ _ _ _ _ _ _ _ (if Int32.ofNat q ≤ Int32.ofNat q then _ else _)
      rw [if_pos ((i_le (by omega) (by omega)).mpr (Nat.le_refl q))]
      exact y_IE0 hc0 hL hN hN4 hk g5
