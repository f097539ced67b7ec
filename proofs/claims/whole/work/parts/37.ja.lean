theorem i_s (p : Nat) : Int32.ofNat p + 1 = Int32.ofNat (p + 1) := by rw [Int32.ofNat_add]; rfl
theorem i_s2 (p : Nat) : Int32.ofNat p + 2 = Int32.ofNat (p + 2) := by rw [Int32.ofNat_add]; rfl
theorem i_cl {p : Nat} (h : p < 2147483648) : Int32.toNatClampNeg (Int32.ofNat p) = p := by
  have h1 := e_c p h
  have h2 := e_cl (x := Int32.ofNat p) (by omega)
  omega
theorem i_le {a b : Nat} (ha : a < 2147483648) (hb : b < 2147483648) : (Int32.ofNat a ≤ Int32.ofNat b) ↔ a ≤ b := by
  rw [Int32.le_iff_toInt_le, e_c a ha, e_c b hb]; omega
theorem i_lt {a b : Nat} (ha : a < 2147483648) (hb : b < 2147483648) : (Int32.ofNat a < Int32.ofNat b) ↔ a < b := by
  rw [Int32.lt_iff_toInt_lt, e_c a ha, e_c b hb]; omega
theorem i_eq {a b : Nat} (ha : a < 2147483648) (hb : b < 2147483648) : (Int32.ofNat a = Int32.ofNat b) ↔ a = b := by
  constructor
  · intro h
    have h1 := congrArg Int32.toInt h
    rw [e_c a ha, e_c b hb] at h1
    omega
  · intro h; rw [h]
theorem i_sub {a b : Nat} (h : b ≤ a) : Int32.ofNat a - Int32.ofNat b = Int32.ofNat (a - b) := by
  have h1 : Int32.ofNat a = Int32.ofNat (a - b) + Int32.ofNat b := by rw [← Int32.ofNat_add]; congr 1; omega
  rw [h1, Int32.add_sub_cancel]
def y_ch (L : Nat) (text : Nat → Int32) (p : Nat) : Int32 := if L ≤ p then 10 else text p
theorem i_chr {L p : Nat} {text : Nat → Int32} (hL : L ≤ 400) (hp : p < 1000) : f_X11_character (Int32.ofNat p) (Int32.ofNat L) text = y_ch L text p := by
  unfold f_X11_character y_ch
  rw [i_cl (by omega)]
  by_cases h : L ≤ p
  · rw [if_pos h, if_pos ((i_le (by omega) (by omega)).mpr h)]
  · rw [if_neg h, if_neg (fun h2 => h ((i_le (by omega) (by omega)).mp h2))]
abbrev y_sp (c : Int32) : Prop := c = 32
abbrev y_let (c : Int32) : Prop := ¬ f_X9_isLetter c = 0
abbrev y_dig (c : Int32) : Prop := ¬ f_X9_isDigit c = 0
theorem y_let_iff (c : Int32) : y_let c ↔ 97 ≤ c.toInt ∧ c.toInt ≤ 122 := by
  unfold y_let f_X9_isLetter
  have h1 : (c < 97) ↔ c.toInt < 97 := by rw [Int32.lt_iff_toInt_lt]; rfl
  have h2 : (122 < c) ↔ 122 < c.toInt := by rw [Int32.lt_iff_toInt_lt]; rfl
  by_cases a : c < 97
  · rw [if_pos a]; have := h1.mp a; constructor
    · intro h; exact absurd rfl h
    · intro h; omega
  · rw [if_neg a]
    have ha : ¬ c.toInt < 97 := fun h => a (h1.mpr h)
    by_cases b : 122 < c
    · rw [if_pos b]; have := h2.mp b; constructor
      · intro h; exact absurd rfl h
      · intro h; omega
    · rw [if_neg b]
      have hb : ¬ 122 < c.toInt := fun h => b (h2.mpr h)
      constructor
      · intro _; omega
      · intro _ h; exact absurd h (by decide)
theorem y_dig_iff (c : Int32) : y_dig c ↔ 48 ≤ c.toInt ∧ c.toInt ≤ 57 := by
  unfold y_dig f_X9_isDigit
  have h1 : (c < 48) ↔ c.toInt < 48 := by rw [Int32.lt_iff_toInt_lt]; rfl
  have h2 : (57 < c) ↔ 57 < c.toInt := by rw [Int32.lt_iff_toInt_lt]; rfl
  by_cases a : c < 48
  · rw [if_pos a]; have := h1.mp a; constructor
    · intro h; exact absurd rfl h
    · intro h; omega
  · rw [if_neg a]
    have ha : ¬ c.toInt < 48 := fun h => a (h1.mpr h)
    by_cases b : 57 < c
    · rw [if_pos b]; have := h2.mp b; constructor
      · intro h; exact absurd rfl h
      · intro h; omega
    · rw [if_neg b]
      have hb : ¬ 57 < c.toInt := fun h => b (h2.mpr h)
      constructor
      · intro _; omega
      · intro _ h; exact absurd h (by decide)
def y_run (P : Int32 → Prop) (g : Nat → Int32) (p r : Nat) : Prop := p ≤ r ∧ (∀ i, p ≤ i → i < r → P (g i)) ∧ ¬ P (g r)
theorem y_run_step {P : Int32 → Prop} {g : Nat → Int32} {p r : Nat} (h : y_run P g p r) : (P (g p) ∧ p < r ∧ y_run P g (p + 1) r) ∨ (¬ P (g p) ∧ r = p) := by
  obtain ⟨h1, h2, h3⟩ := h
  by_cases e : p = r
  · subst e; exact Or.inr ⟨h3, rfl⟩
  · exact Or.inl ⟨h2 p (Nat.le_refl p) (by omega), by omega, by omega, fun i a b => h2 i (by omega) b, h3⟩
theorem y_run_ex {P : Int32 → Prop} (hP : ¬ P 10) {L : Nat} {text : Nat → Int32} : ∀ (n : Nat) {p : Nat}, p ≤ L → L - p = n → ∃ r, r ≤ L ∧ y_run P (y_ch L text) p r := by
  intro n
  induction n with
  | zero =>
    intro p hp hn
    have : p = L := by omega
    subst this
    refine ⟨p, Nat.le_refl p, Nat.le_refl p, fun i a b => by omega, ?_⟩
    unfold y_ch; rw [if_pos (Nat.le_refl p)]; exact hP
  | succ n ih =>
    intro p hp hn
    by_cases h : P (y_ch L text p)
    · obtain ⟨r, h1, h2, h3, h4⟩ := ih (p := p + 1) (by omega) (by omega)
      refine ⟨r, h1, by omega, fun i a b => ?_, h4⟩
      by_cases e : i = p
      · subst e; exact h
      · exact h3 i (by omega) b
    · exact ⟨p, hp, Nat.le_refl p, fun i a b => by omega, h⟩
theorem y_skip0 {L : Nat} {text : Nat → Int32} (hL : L ≤ 400) : ∀ (n : Nat) {p q : Nat}, y_run y_sp (y_ch L text) p q → q < 900 → q - p < n → f_X11_skip_0 (Int32.ofNat L) text n (Int32.ofNat p) = Int32.ofNat q := by
  intro n
  induction n with
  | zero => intro p q _ _ h; omega
  | succ n ih =>
    intro p q hr hq hn
    have hpq := hr.1
    unfold f_X11_skip_0 f_X11_skip_c5
    rw [i_chr hL (by omega)]
    rcases y_run_step hr with ⟨h1, h2, h3⟩ | ⟨h1, h2⟩
    · rw [if_pos h1, i_s]; exact ih h3 hq (by omega)
    · rw [if_neg h1, h2]
theorem y_skip {L : Nat} {text : Nat → Int32} (hL : L ≤ 400) {p q : Nat} (h : y_run y_sp (y_ch L text) p q) (hq : q ≤ L) : f_X11_skip (Int32.ofNat L) (Int32.ofNat p) text = Int32.ofNat q := y_skip0 hL 401 h (by omega) (by omega)
def y_lt (g : Nat → Int32) (q : Nat) : Nat → List Nat
  | 0 => []
  | m + 1 => ((g (q + m)).toInt.toNat - 96) :: y_lt g q m
def y_k : List Nat → Nat
  | [] => 0
  | x :: l => y_k l * 32 + x
def y_w : List Nat → Nat
  | [] => 0
  | x :: l => y_w l + (x + 96) * 256 ^ l.length
theorem y_lt_len (g : Nat → Int32) (q : Nat) : ∀ m, (y_lt g q m).length = m
  | 0 => rfl
  | m + 1 => by rw [y_lt, List.length_cons, y_lt_len g q m]
theorem y_lt_ok {g : Nat → Int32} {q : Nat} : ∀ m, (∀ i, q ≤ i → i < q + m → y_let (g i)) → ∀ x ∈ y_lt g q m, 1 ≤ x ∧ x ≤ 26
  | 0, _, x, hx => by cases hx
  | m + 1, h, x, hx => by
    rw [y_lt] at hx
    rcases List.mem_cons.mp hx with e | e
    · have := (y_let_iff _).mp (h (q + m) (by omega) (by omega))
      omega
    · exact y_lt_ok m (fun i a b => h i a (by omega)) x e
theorem y_k_lt : ∀ (l : List Nat), (∀ x ∈ l, 1 ≤ x ∧ x ≤ 26) → y_k l < 32 ^ l.length
  | [], _ => by decide
  | x :: l, h => by
    have h1 := y_k_lt l (fun y hy => h y (List.mem_cons_of_mem x hy))
    have h2 := h x List.mem_cons_self
    rw [y_k, List.length_cons, Nat.pow_succ]
    have : (y_k l + 1) * 32 ≤ 32 ^ l.length * 32 := Nat.mul_le_mul_right 32 h1
    omega
theorem y_w_lt : ∀ (l : List Nat), (∀ x ∈ l, 1 ≤ x ∧ x ≤ 26) → y_w l < 256 ^ l.length
  | [], _ => by decide
  | x :: l, h => by
    have h1 := y_w_lt l (fun y hy => h y (List.mem_cons_of_mem x hy))
    have h2 := h x List.mem_cons_self
    rw [y_w, List.length_cons, Nat.pow_succ]
    have : (x + 96) * 256 ^ l.length ≤ 122 * 256 ^ l.length := Nat.mul_le_mul_right _ (by omega)
    omega
theorem y_k_inj : ∀ (a b : List Nat), (∀ x ∈ a, 1 ≤ x ∧ x ≤ 26) → (∀ x ∈ b, 1 ≤ x ∧ x ≤ 26) → y_k a = y_k b → a = b
  | [], [], _, _, _ => rfl
  | [], y :: b, _, hb, h => by have := hb y List.mem_cons_self; simp only [y_k] at h; omega
  | x :: a, [], ha, _, h => by have := ha x List.mem_cons_self; simp only [y_k] at h; omega
  | x :: a, y :: b, ha, hb, h => by
    have h1 := ha x List.mem_cons_self
    have h2 := hb y List.mem_cons_self
    simp only [y_k] at h
    have h3 : x = y := by omega
    have h4 : y_k a = y_k b := by omega
    rw [h3, y_k_inj a b (fun z hz => ha z (List.mem_cons_of_mem x hz)) (fun z hz => hb z (List.mem_cons_of_mem y hz)) h4]
theorem y_w_ge : ∀ (l : List Nat), l ≠ [] → 256 ^ (l.length - 1) ≤ y_w l
  | [], h => absurd rfl h
  | x :: l, _ => by
    rw [y_w, List.length_cons, Nat.add_sub_cancel]
    have : 1 * 256 ^ l.length ≤ (x + 96) * 256 ^ l.length := Nat.mul_le_mul_right _ (by omega)
    omega
theorem y_w_len {a b : List Nat} (ha : ∀ x ∈ a, 1 ≤ x ∧ x ≤ 26) (h : y_w a = y_w b) (hl : a.length < b.length) : False := by
  have h1 := y_w_lt a ha
  have h2 := y_w_ge b (by intro e; rw [e] at hl; simp at hl)
  have h3 : 256 ^ a.length ≤ 256 ^ (b.length - 1) := Nat.pow_le_pow_right (by decide) (by omega)
  omega
theorem y_w_inj : ∀ (a b : List Nat), (∀ x ∈ a, 1 ≤ x ∧ x ≤ 26) → (∀ x ∈ b, 1 ≤ x ∧ x ≤ 26) → a.length = b.length → y_w a = y_w b → a = b
  | [], [], _, _, _, _ => rfl
  | [], y :: b, _, _, hl, _ => by simp at hl
  | x :: a, [], _, _, hl, _ => by simp at hl
  | x :: a, y :: b, ha, hb, hl, h => by
    have ha' := fun z hz => ha z (List.mem_cons_of_mem x hz)
    have hb' := fun z hz => hb z (List.mem_cons_of_mem y hz)
    have h1 := y_w_lt a ha'
    have h2 := y_w_lt b hb'
    have h3 : a.length = b.length := by simpa using hl
    simp only [y_w] at h
    rw [h3] at h1 h
    have h5 : x + 96 = y + 96 := by
      have e1 : (y_w a + (x + 96) * 256 ^ b.length) / 256 ^ b.length = x + 96 := by
        rw [Nat.add_mul_div_right _ _ (Nat.pow_pos (by decide)), Nat.div_eq_of_lt h1, Nat.zero_add]
      have e2 : (y_w b + (y + 96) * 256 ^ b.length) / 256 ^ b.length = y + 96 := by
        rw [Nat.add_mul_div_right _ _ (Nat.pow_pos (by decide)), Nat.div_eq_of_lt h2, Nat.zero_add]
      rw [← e1, ← e2, h]
    have h6 : x = y := by omega
    subst h6
    rw [y_w_inj a b ha' hb' h3 (by omega)]
def y_key (k w : Int64) : Prop := ∃ l : List Nat, l ≠ [] ∧ l.length ≤ 8 ∧ (∀ x ∈ l, 1 ≤ x ∧ x ≤ 26) ∧ k = Int64.ofNat (y_k l) ∧ w = Int64.ofNat (y_w l)
theorem i_64 {a b : Nat} (ha : a < 2 ^ 64) (hb : b < 2 ^ 64) (h : Int64.ofNat a = Int64.ofNat b) : a = b := by
  have h1 := congrArg (fun z => z.toBitVec.toNat) h
  simp only [Int64.toBitVec_ofNat', BitVec.toNat_ofNat] at h1
  rw [Nat.mod_eq_of_lt ha, Nat.mod_eq_of_lt hb] at h1
  exact h1
theorem y_k_64 {l : List Nat} (hl : l.length ≤ 8) (h : ∀ x ∈ l, 1 ≤ x ∧ x ≤ 26) : y_k l < 2 ^ 64 := by
  have h1 := y_k_lt l h
  have h2 : 32 ^ l.length ≤ 32 ^ 8 := Nat.pow_le_pow_right (by decide) hl
  have h3 : 32 ^ 8 < 2 ^ 64 := by decide
  omega
theorem y_w_64 {l : List Nat} (hl : l.length ≤ 8) (h : ∀ x ∈ l, 1 ≤ x ∧ x ≤ 26) : y_w l < 2 ^ 64 := by
  have h1 := y_w_lt l h
  have h2 : 256 ^ l.length ≤ 256 ^ 8 := Nat.pow_le_pow_right (by decide) hl
  have h3 : 256 ^ 8 = 2 ^ 64 := by decide
  omega
theorem y_key_inj {k w k' w' : Int64} (h : y_key k w) (h' : y_key k' w') : k = k' ↔ w = w' := by
  obtain ⟨l, a1, a2, a3, a4, a5⟩ := h
  obtain ⟨m, b1, b2, b3, b4, b5⟩ := h'
  constructor
  · intro e
    have e1 := i_64 (y_k_64 a2 a3) (y_k_64 b2 b3) (by rw [← a4, ← b4, e])
    rw [a5, b5, y_k_inj l m a3 b3 e1]
  · intro e
    have e1 := i_64 (y_w_64 a2 a3) (y_w_64 b2 b3) (by rw [← a5, ← b5, e])
    have hl : l.length = m.length := by
      rcases Nat.lt_trichotomy l.length m.length with h | h | h
      · exact (y_w_len a3 e1 h).elim
      · exact h
      · exact (y_w_len b3 e1.symm h).elim
    rw [a4, b4, y_w_inj l m a3 b3 hl e1]
theorem y_key_ne {k w : Int64} (h : y_key k w) : k ≠ 0 ∧ w ≠ 0 := by
  obtain ⟨l, a1, a2, a3, a4, a5⟩ := h
  constructor
  · intro e
    have e1 := i_64 (a := y_k l) (b := y_k []) (y_k_64 a2 a3) (by decide) (by rw [← a4, e]; rfl)
    exact a1 (y_k_inj l [] a3 (by simp) e1)
  · intro e
    have e1 := i_64 (a := y_w l) (b := 0) (y_w_64 a2 a3) (by decide) (by rw [← a5, e]; rfl)
    have := y_w_ge l a1
    have h2 : 0 < 256 ^ (l.length - 1) := Nat.pow_pos (by decide)
    omega
