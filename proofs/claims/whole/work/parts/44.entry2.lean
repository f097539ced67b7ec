def n_M : List String := ["LUI", "JAL", "JALR", "BEQ", "BNE", "BLT", "BGE", "BLTU", "BGEU", "LW", "LB", "LBU", "SW", "SB", "ADDI", "SLTI", "SLTIU", "XORI", "ORI", "ANDI", "SLLI", "SRLI", "SRAI", "ADD", "SLL", "SLT", "SLTU", "XOR", "SRL", "OR", "AND", "SUB", "SRA", "DEAD", "CYCLE", "HALTS", "WORD"]
def n_O : List String := ["DONE", "TRY_AGAIN", "FAULT"]
def n_S : List Nat := [167, 175, 180, 185, 214, 222, 242, 253, 285, 290, 295, 300]
abbrev t_M (i : Nat) : Term := .static "TimedThreads$Mnemonic" (n_M.getD i "") "LTimedThreads$Mnemonic;"
abbrev t_O (i : Nat) : Term := .static "TimedThreads$Outcome" (n_O.getD i "") "LTimedThreads$Outcome;"
abbrev t_S (i : Nat) : Term := .string "TimedThreads$Mnemonic" (n_S.getD i 0)
abbrev t_A : Term := .static "TimedThreads" "MNEMONICS" "[LTimedThreads$Mnemonic;"
abbrev n_F : List Cond := flatC (Jvm.Cond.and given_1 narrow_1)
set_option maxRecDepth 20000 in
theorem m_Oex : ∀ i, i < 3 → Cond.exactly (t_O i) "TimedThreads$Outcome" ∈ n_F := by decide +kernel
set_option maxRecDepth 20000 in
theorem m_Oor : ∀ i, i < 3 → Cond.eq (.field (t_O i) "java/lang/Enum" "ordinal" "I") (.int (Int32.ofNat i)) ∈ n_F := by decide +kernel
set_option maxRecDepth 20000 in
theorem m_Ola : ∀ i, i < 3 → Cond.laysStatic "TimedThreads$Outcome" (n_O.getD i "") "LTimedThreads$Outcome;" ∈ lw_tbl := by decide +kernel
set_option maxRecDepth 20000 in
theorem m_Mex : ∀ i, i < 37 → Cond.exactly (t_M i) "TimedThreads$Mnemonic" ∈ n_F := by decide +kernel
set_option maxRecDepth 20000 in
theorem m_Mke : ∀ i, i < 37 → Cond.eq (.field (t_M i) "TimedThreads$Mnemonic" "key" "J") (.long (m_key.getD i 0)) ∈ n_F := by decide +kernel
set_option maxRecDepth 20000 in
theorem m_Mbi : ∀ i, i < 37 → Cond.eq (.field (t_M i) "TimedThreads$Mnemonic" "bits" "I") (.int (m_bits.getD i 0)) ∈ n_F := by decide +kernel
set_option maxRecDepth 20000 in
theorem m_Mpi : ∀ i, i < 37 → Cond.eq (.field (t_M i) "TimedThreads$Mnemonic" "pieces" "Ljava/lang/String;") (t_S (m_str.getD i 0)) ∈ n_F := by decide +kernel
set_option maxRecDepth 20000 in
theorem m_Ael : ∀ i, i < 37 → Cond.eq (.elem t_A (.int (Int32.ofNat i))) (t_M i) ∈ n_F := by decide +kernel
set_option maxRecDepth 20000 in
theorem m_Sex : ∀ i, i < 12 → Cond.exactly (t_S i) "java/lang/String" ∈ n_F := by decide +kernel
set_option maxRecDepth 20000 in
theorem m_Sco : ∀ i, i < 12 → Cond.eq (.field (t_S i) "java/lang/String" "coder" "B") (.int 0) ∈ n_F := by decide +kernel
set_option maxRecDepth 20000 in
theorem m_Sar : ∀ i, i < 12 → Cond.arrayOf (.field (t_S i) "java/lang/String" "value" "[B") .byte ∈ n_F := by decide +kernel
set_option maxRecDepth 20000 in
theorem m_Sle : ∀ i, i < 12 → Cond.eq (.length (.field (t_S i) "java/lang/String" "value" "[B")) (.int (Int32.ofNat (m_len.getD i 0))) ∈ n_F := by decide +kernel
set_option maxRecDepth 20000 in
theorem m_Sel : ∀ i, i < 12 → ∀ j, j < m_len.getD i 0 → Cond.eq (.elem (.field (t_S i) "java/lang/String" "value" "[B") (.int (Int32.ofNat j))) (.int ((m_byt.getD i []).getD j 0)) ∈ n_F := by decide +kernel
set_option maxRecDepth 20000 in
theorem m_Aar : Cond.arrayOf t_A (.object "TimedThreads$Mnemonic") ∈ n_F ∧ Cond.eq (.length t_A) (.int (Int32.ofNat 37)) ∈ n_F ∧ Cond.eq (.static "java/lang/String" "COMPACT_STRINGS" "Z") (.int 1) ∈ n_F ∧ Cond.isRef (.static "jdk/internal/util/Preconditions" "SIOOBE_FORMATTER" "Ljava/util/function/BiFunction;") ∈ n_F := by decide +kernel
set_option maxRecDepth 20000 in
theorem m_nc : Cond.not (.castable "java/lang/IllegalStateException" "java/lang/IllegalArgumentException") ∈ n_F ∧ Cond.not (.castable "java/lang/IllegalArgumentException" "java/util/NoSuchElementException") ∈ n_F ∧ Cond.isRef (.static Bundle.tN "UNASSIGNED_STACK" Bundle.steD) ∈ n_F ∧ Cond.isRef (.static Bundle.tN "SUPPRESSED_SENTINEL" Bundle.listD) ∈ n_F := by decide +kernel
set_option maxRecDepth 20000 in
theorem m_la : Cond.laysStatic "TimedThreads" "MNEMONICS" "[LTimedThreads$Mnemonic;" ∈ lw_tbl ∧ Cond.laysStatic "java/lang/String" "COMPACT_STRINGS" "Z" ∈ lw_tbl ∧ Cond.laysStatic "jdk/internal/util/Preconditions" "SIOOBE_FORMATTER" "Ljava/util/function/BiFunction;" ∈ lw_tbl ∧ Cond.laysStatic Bundle.tN "UNASSIGNED_STACK" Bundle.steD ∈ lw_tbl ∧ Cond.laysStatic Bundle.tN "SUPPRESSED_SENTINEL" Bundle.listD ∈ lw_tbl := by decide +kernel
set_option maxRecDepth 20000 in
theorem m_in : Cond.initialized "TimedThreads$Outcome" ∈ lw_tbl ∧ Cond.initialized "TimedThreads" ∈ lw_tbl ∧ Cond.initialized "java/lang/String" ∈ lw_tbl ∧ Cond.initialized "jdk/internal/util/Preconditions" ∈ lw_tbl ∧ Cond.initialized Bundle.tN ∈ lw_tbl := by decide +kernel
set_option maxRecDepth 20000 in
theorem m_ar : Cond.arrayClass .char ∈ lw_tbl ∧ Cond.arrayClass .int ∈ lw_tbl ∧ Cond.arrayClass .long ∈ lw_tbl ∧ Cond.arrayOver (.object "TimedThreads$TimedThread") ∈ lw_tbl := by decide +kernel
theorem e_eqR {args : Array Value} {s : State} {t u : Term} {b : Nat} (h : (Cond.eq t u).before args s = true) (hu : u.eval args s none [] s = some (.ref b)) : t.eval args s none [] s = some (.ref b) := by
  cases hv : t.eval args s none [] s with
  | none => simp [Cond.before, Cond.holds, Cond.value, hv] at h
  | some w =>
    cases w <;> simp [Cond.before, Cond.holds, Cond.value, hv, hu] at h
    rw [h]
theorem e_exR {args : Array Value} {s : State} {t : Term} {nm : String} (h : (Cond.exactly t nm).before args s = true) : ∃ a : Nat, t.eval args s none [] s = some (.ref a) := by
  obtain ⟨a, c, cA, kA, q1, -⟩ := Cond.exactly_spec (args := args) (first := s) (o := none) (s := s) (idx := []) (t := t) (cls := nm) h
  exact ⟨a, q1⟩
theorem e_pick {n : Nat} {P : Nat → Nat → Prop} (h : ∀ i, i < n → ∃ a : Nat, P i a) : ∃ f : Nat → Nat, ∀ i, i < n → P i (f i) := by
  have h0 : ∀ i : Nat, ∃ a : Nat, i < n → P i a := fun i => by
    by_cases hi : i < n
    · obtain ⟨a, ha⟩ := h i hi
      exact ⟨a, fun _ => ha⟩
    · exact ⟨0, fun h => absurd h hi⟩
  exact Classical.axiomOfChoice h0
def n_ad (b mn fo : Nat) (aO aM aK aV : Nat → Nat) (i : Nat) : Nat := if i = 2000 then b else if 1300 ≤ i then aV (i - 1300) else if 1200 ≤ i then aK (i - 1200) else if 1100 ≤ i then aM (i - 1100) else if i = 1004 then fo else if i = 1003 then mn else aO (i - 1000)
theorem n_adO {b mn fo : Nat} {aO aM aK aV : Nat → Nat} {i : Nat} (h : i < 3) : n_ad b mn fo aO aM aK aV (1000 + i) = aO i := by
  unfold n_ad
  rw [if_neg (by omega), if_neg (by omega), if_neg (by omega), if_neg (by omega), if_neg (by omega), if_neg (by omega)]
  rw [Nat.add_sub_cancel_left]
theorem n_adM {b mn fo : Nat} {aO aM aK aV : Nat → Nat} {i : Nat} (h : i < 37) : n_ad b mn fo aO aM aK aV (1100 + i) = aM i := by
  unfold n_ad
  rw [if_neg (by omega), if_neg (by omega), if_neg (by omega), if_pos (by omega)]
  rw [Nat.add_sub_cancel_left]
theorem n_adK {b mn fo : Nat} {aO aM aK aV : Nat → Nat} {i : Nat} (h : i < 12) : n_ad b mn fo aO aM aK aV (1200 + i) = aK i := by
  unfold n_ad
  rw [if_neg (by omega), if_neg (by omega), if_pos (by omega)]
  rw [Nat.add_sub_cancel_left]
theorem n_adV {b mn fo : Nat} {aO aM aK aV : Nat → Nat} {i : Nat} (h : i < 12) : n_ad b mn fo aO aM aK aV (1300 + i) = aV i := by
  unfold n_ad
  rw [if_neg (by omega), if_pos (by omega)]
  rw [Nat.add_sub_cancel_left]
theorem m_strlt : ∀ i, i < 37 → m_str.getD i 0 < 12 := by decide
theorem m_lenlt : ∀ i, i < 12 → m_len.getD i 0 < 2 ^ 31 := by decide
theorem n_B {b : Nat} {s : State} {A : Nat → Prop} (hts : ∀ w ∈ lw_tbl, w.before #[Value.ref b] s = true) (hs : ∀ w ∈ n_F, w.before #[Value.ref b] s = true) (hA : ∀ a : Nat, a < s.heap.size → ¬ A a) : ∃ ad : Nat → Nat, ad 2000 = b ∧ g_B ad A s s.heap := by
  obtain ⟨aO, hO⟩ := e_pick (n := 3) (P := fun i a => (t_O i).eval #[Value.ref b] s none [] s = some (.ref a)) (fun i hi => e_exR (hs _ (m_Oex i hi)))
  obtain ⟨aM, hM⟩ := e_pick (n := 37) (P := fun i a => (t_M i).eval #[Value.ref b] s none [] s = some (.ref a)) (fun i hi => e_exR (hs _ (m_Mex i hi)))
  obtain ⟨aK, hK⟩ := e_pick (n := 12) (P := fun i a => (t_S i).eval #[Value.ref b] s none [] s = some (.ref a)) (fun i hi => e_exR (hs _ (m_Sex i hi)))
  obtain ⟨aV, hV⟩ := e_pick (n := 12) (P := fun i a => (Term.field (t_S i) "java/lang/String" "value" "[B").eval #[Value.ref b] s none [] s = some (.ref a) ∧ va_T .byte a (m_len.getD i 0) (fun j => .int ((m_byt.getD i []).getD j 0)) A s s.heap) (fun i hi => va_Tof (m_lenlt i hi) (hs _ (m_Sar i hi)) (va_eqt (hs _ (m_Sle i hi))) (fun j hj => va_eqt (hs _ (m_Sel i hi j hj))) hA)
  obtain ⟨mn, hmn, hT⟩ := va_Tof (A := A) (N := 37) (f := fun j => .ref (aM j)) (by decide) (hs _ m_Aar.1) (va_eqt (hs _ m_Aar.2.1)) (fun j hj => e_eqR (hs _ (m_Ael j hj)) (hM j hj)) hA
  have hZq := va_Zqof (A := A) (hts _ m_la.2.2.1) (hts _ m_in.2.2.2.1) (hs _ m_Aar.2.2.2) hA
  have hfo : ∃ fo : Nat, va_Z "jdk/internal/util/Preconditions" "SIOOBE_FORMATTER" "Ljava/util/function/BiFunction;" .null A s s.heap ∨ va_Z "jdk/internal/util/Preconditions" "SIOOBE_FORMATTER" "Ljava/util/function/BiFunction;" (.ref fo) A s s.heap := by
    rcases hZq with h | ⟨t, h⟩
    · exact ⟨0, Or.inl h⟩
    · exact ⟨t, Or.inr h⟩
  obtain ⟨fo, hfo⟩ := hfo
  refine ⟨n_ad b mn fo aO aM aK aV, by simp [n_ad], ?_, ?_, ?_, ?_, ?_, ?_⟩
  · intro q hq
    rcases hq with ⟨i, hi, rfl⟩ | rfl | rfl
    · simp only [g_tv, n_adO hi]
      exact va_Zref (hts _ (m_Ola i hi)) (hts _ m_in.1) (hO i hi) hA
    · simp only [g_tv]
      exact va_Zref (hts _ m_la.1) (hts _ m_in.2.1) hmn hA
    · exact va_Zof (hts _ m_la.2.1) (hts _ m_in.2.2.1) (va_eqi (hs _ m_Aar.2.2.1)) hA
  · intro q hq
    obtain ⟨i, hi, rfl⟩ := hq
    simp only [n_adK hi]
    exact va_Oof (hs _ (m_Sex i hi)) (hK i hi) hA
  · intro q hq
    rcases hq with ⟨i, hi, rfl | rfl | rfl⟩ | ⟨i, hi, rfl | rfl⟩
    · simp only [g_tv, n_adM hi]
      exact vk_OFof (hM i hi) (va_eqtl (hs _ (m_Mke i hi))) hA
    · simp only [g_tv, n_adM hi]
      exact vk_OFof (hM i hi) (va_eqt (hs _ (m_Mbi i hi))) hA
    · simp only [g_tv, n_adM hi, n_adK (m_strlt i hi)]
      exact vk_OFof (hM i hi) (e_eqR (hs _ (m_Mpi i hi)) (hK _ (m_strlt i hi))) hA
    · simp only [g_tv, n_adK hi]
      exact vk_OFof (hK i hi) (va_eqt (hs _ (m_Sco i hi))) hA
    · simp only [g_tv, n_adK hi, n_adV hi]
      exact vk_OFof (hK i hi) (hV i hi).1 hA
  · intro q hq
    rcases hq with rfl | ⟨i, hi, rfl⟩
    · show va_T _ mn 37 (fun j => g_tv (n_ad b mn fo aO aM aK aV) (.ref (1100 + j))) A s s.heap
      obtain ⟨cell, h1, h2, h3, h4, h5, h6, h7⟩ := hT
      refine ⟨cell, h1, h2, h3, h4, h5, fun j hj => ?_, h7⟩
      rw [h6 j hj]
      simp only [g_tv, n_adM hj]
    · show va_T _ (n_ad b mn fo aO aM aK aV (1300 + i)) _ _ A s s.heap
      rw [n_adV hi]
      exact (hV i hi).2
  · intro i j hi hj e
    rw [n_adO hi, n_adO hj] at e
    have h1 := va_eqt (hs _ (m_Oor i hi))
    have h2 := va_eqt (hs _ (m_Oor j hj))
    rw [va_fe (hO i hi)] at h1
    rw [va_fe (hO j hj), ← e, h1] at h2
    have h3 : Int32.ofNat i = Int32.ofNat j := by
      have := Option.some.inj h2
      exact Value.int.inj this
    have h4 := congrArg Int32.toInt h3
    rw [e_c i (by omega), e_c j (by omega)] at h4
    omega
  · exact hfo
theorem n_K {b : Nat} {s : State} (hts : ∀ w ∈ lw_tbl, w.before #[Value.ref b] s = true) : ∃ (D : va_G) (cid : Nat → ClassId), va_K D vwCl (g_tys cid) s := by
  obtain ⟨c0, i0, hn0⟩ := u_known (C := RX0) (T := TX0) (N := 15) (n := 15) hts (fun w hw => tl_TT w (tin_wsX00 w hw)) (hts _ (tl_TT _ tw38))
  obtain ⟨c1, i1, hn1⟩ := u_known (C := RX2) (T := TX2) (N := 4) (n := 4) hts (fun w hw => tl_TT w (tin_wsX20 w hw)) (hts _ (tl_TT _ tw55))
  obtain ⟨c2, i2, hn2⟩ := u_known (C := RX3) (T := TX3) (N := 3) (n := 3) hts (fun w hw => tl_TT w (tin_wsX30 w hw)) (hts _ (tl_TT _ tw80))
  obtain ⟨c3, i3, hn3⟩ := u_known (C := RX6) (T := TX6) (N := 2) (n := 2) hts (fun w hw => tl_TT w (tin_wsX60 w hw)) (hts _ (tl_TT _ tw19))
  obtain ⟨c4, i4, hn4⟩ := u_known (C := RX7) (T := TX7) (N := 2) (n := 2) hts (fun w hw => tl_TT w (tin_wsX70 w hw)) (hts _ (tl_TT _ tw34))
  obtain ⟨c5, i5, hn5⟩ := u_known (C := RX8) (T := TX8) (N := 12) (n := 12) hts (fun w hw => tl_TT w (tin_wsX80 w hw)) (hts _ (tl_TT _ tw31))
  obtain ⟨c6, i6, hn6⟩ := u_known (C := RX9) (T := TX9) (N := 5) (n := 5) hts (fun w hw => tl_TT w (tin_wsX90 w hw)) (hts _ (tl_TT _ tw84))
  obtain ⟨c7, i7, hn7⟩ := u_known (C := RX10) (T := TX10) (N := 5) (n := 5) hts (fun w hw => tl_TT w (tin_wsX100 w hw)) (hts _ (tl_TT _ tw1))
  obtain ⟨c8, i8, hn8⟩ := u_known (C := RX11) (T := TX11) (N := 31) (n := 31) hts (fun w hw => tl_TT w (tin_wsX110 w hw)) (hts _ (tl_TT _ tw4))
  obtain ⟨dC, dI, hKc⟩ : ∃ (dC : Nat → ClassId) (dI : Nat → Nat → Nat), ∀ (k : Nat) (q : vw_C), vwCl[k]? = some q → u_Kn s q.1 q.2.1 q.2.2 (dC k) (dI k) := by
    refine ⟨fun k => match k with
      | 0 => c0
      | 1 => c1
      | 2 => c2
      | 3 => c3
      | 4 => c4
      | 5 => c5
      | 6 => c6
      | 7 => c7
      | _ => c8
, fun k => match k with
      | 0 => i0
      | 1 => i1
      | 2 => i2
      | 3 => i3
      | 4 => i4
      | 5 => i5
      | 6 => i6
      | 7 => i7
      | _ => i8
, ?_⟩
    intro k q hq
    match k, hq with
    | 0, hq => cases hq; exact hn0
    | 1, hq => cases hq; exact hn1
    | 2, hq => cases hq; exact hn2
    | 3, hq => cases hq; exact hn3
    | 4, hq => cases hq; exact hn4
    | 5, hq => cases hq; exact hn5
    | 6, hq => cases hq; exact hn6
    | 7, hq => cases hq; exact hn7
    | 8, hq => cases hq; exact hn8
    | k + 9, hq => simp [vwCl] at hq
  obtain ⟨a0, k0, p0, f01, f02, f03⟩ := Cond.arrayClass_spec (hts _ m_ar.1)
  obtain ⟨a1, k1, p1, f11, f12, f13⟩ := Cond.arrayClass_spec (hts _ m_ar.2.1)
  obtain ⟨a2, k2, p2, f21, f22, f23⟩ := Cond.arrayClass_spec (hts _ m_ar.2.2.1)
  obtain ⟨p3, a3, k3, f31, f32, f33, f34, f35⟩ := Cond.arrayOver_spec (hts _ m_ar.2.2.2)
  refine ⟨(dC, dI), fun i => match i with
    | 0 => a0
    | 1 => a1
    | 2 => a2
    | _ => a3, hKc, fun k q hq => ?_⟩
  match k, hq with
  | 0, hq => cases hq; exact ⟨fun n z => ⟨fun k h => (by cases h), k0, f02, p0, f03⟩, f01⟩
  | 1, hq => cases hq; exact ⟨fun n z => ⟨fun k h => (by cases h), k1, f12, p1, f13⟩, f11⟩
  | 2, hq => cases hq; exact ⟨fun n z => ⟨fun k h => (by cases h), k2, f22, p2, f23⟩, f21⟩
  | 3, hq => cases hq; exact ⟨fun n z => ⟨fun k h => (by cases h), k3, f33, p3, f34⟩, k3, p3, f33, f34, f31, f35⟩
  | k + 4, hq => simp [g_tys] at hq
theorem n_N {b : Nat} {s : State} (hts : ∀ w ∈ lw_tbl, w.before #[Value.ref b] s = true) : g_N s := by
  refine ⟨fun w hw => ?_, va_AO.of (hts _ m_ar.2.2.2)⟩
  have h9 := hts w (tl_nn w hw)
  simp only [g_nn, List.mem_cons, List.not_mem_nil, or_false] at hw
  rcases hw with rfl | rfl | rfl | rfl | rfl <;> exact va_tabs rfl rfl h9
theorem n_XE {b : Nat} {s : State} {A : Nat → Prop} (hts : ∀ w ∈ lw_tbl, w.before #[Value.ref b] s = true) (hs : ∀ w ∈ n_F, w.before #[Value.ref b] s = true) (hA : ∀ a : Nat, a < s.heap.size → ¬ A a) : g_XE A s s.heap := by
  refine ⟨fun w hw => word_at (State.WarmedH.refl s) (good_of_word (List.all_eq_true.mp g_xg_good w hw)) (hts w (tl_xg w hw)), fun w hw => ?_, vx_Zqof (hts _ m_la.2.2.2.1) (hts _ m_in.2.2.2.2) (hs _ m_nc.2.2.1) hA, vx_Zqof (hts _ m_la.2.2.2.2) (hts _ m_in.2.2.2.2) (hs _ m_nc.2.2.2) hA, va_Nc.of (hs _ m_nc.1), va_Nc.of (hs _ m_nc.2.1)⟩
  have h9 := hts w (tl_xn w hw)
  simp only [g_xn, List.mem_cons, List.not_mem_nil, or_false] at hw
  rcases hw with rfl | rfl | rfl | rfl | rfl | rfl <;> exact va_tabs rfl rfl h9
