theorem d_upd {N : Int} {did : Nat → Int32} {k : Nat} (hN : N ≤ 2000000) (hd : ∀ j, j < 4 → 0 ≤ (did j).toInt ∧ (did j).toInt ≤ N) : ∀ j, j < 4 → 0 ≤ (upd did k (did k + 1) j).toInt ∧ (upd did k (did k + 1) j).toInt ≤ N + 1 := by
  intro j hj
  have h := hd j hj
  by_cases e : j = k
  · subst e; rw [pk_us, q_inc (by omega)]; omega
  · rw [pk_un e]; omega
theorem d_keep {N : Int} {did : Nat → Int32} (hd : ∀ j, j < 4 → 0 ≤ (did j).toInt ∧ (did j).toInt ≤ N) : ∀ j, j < 4 → 0 ≤ (did j).toInt ∧ (did j).toInt ≤ N + 1 := by
  intro j hj
  have h := hd j hj
  omega
theorem q_run1 {n : Int32} (c : n ≤ 2000) : n.toInt ≤ 2000 := by
  have h := q_le c
  have h1 : (2000 : Int32).toInt = 2000 := by decide
  omega
theorem q_run2 {w n : Int32} (h : 0 ≤ w.toInt ∧ w.toInt ≤ 1098000) (hn : n.toInt ≤ 2000) : w.toInt + (n.toInt - (0 : Int32).toInt) ≤ 1100000 := by
  have h1 : (0 : Int32).toInt = 0 := by decide
  omega
theorem gd_X11_run : yX11_run.cls ≠ "java/lang/invoke/MethodHandle" ∧ yX11_run.cls ≠ "java/lang/invoke/VarHandle" ∧ (parseMethodDescriptor yX11_run.desc).map (fun d => d.parameters.length) = some 1 := ⟨by decide, by decide, by decide +kernel⟩
theorem d_X11_done {t : Int32} {a : Int32} {when : Int32} {now : Int32} {address : Nat → Int32} {did : Nat → Int32} {ready : Nat → Int32} {trace : Nat → Int32} {r_0 : Int32} {r_1 : (Nat → Int32)} {r_2 : (Nat → Int32)} {r_3 : (Nat → Int32)} {r_4 : (Nat → Int32)} {N : Int} (hres : (r_0, r_1, r_2, r_3, r_4) = f_X11_done t a when now address did ready trace) (hN : N ≤ 2000000) (hd : ∀ j, j < 4 → 0 ≤ (did j).toInt ∧ (did j).toInt ≤ N) : ∀ j, j < 4 → 0 ≤ (r_2 j).toInt ∧ (r_2 j).toInt ≤ N + 1 := by
  rw [f_X11_done] at hres
  cases hres
  exact (d_upd hN hd)
theorem d_X11_moveWord_107 {l1 : Int32} {store : Nat → Int32} {common : Nat → Int32} {register : Nat → Int32} {address : Nat → Int32} {status : Nat → Int32} {did : Nat → Int32} {ready : Nat → Int32} {trace : Nat → Int32} {r_0 : Int32} {r_1 : (Nat → Int32)} {r_2 : (Nat → Int32)} {r_3 : (Nat → Int32)} {r_4 : (Nat → Int32)} {r_5 : (Nat → Int32)} {r_6 : (Nat → Int32)} {r_7 : (Nat → Int32)} {r_8 : (Nat → Int32)} {N : Int} (hres : (r_0, r_1, r_2, r_3, r_4, r_5, r_6, r_7, r_8) = (f_X11_moveWord_107 store common register address status did ready trace l1)) (hN : N ≤ 2000000) (hd : ∀ j, j < 4 → 0 ≤ (did j).toInt ∧ (did j).toInt ≤ N) : ∀ j, j < 4 → 0 ≤ (r_6 j).toInt ∧ (r_6 j).toInt ≤ N + 1 := by
  rw [f_X11_moveWord_107] at hres
  obtain ⟨z1_0, z1_1, hz1⟩ := g_ex2 (f_X11_stop l1 status)
  replace hres : (r_0, r_1, r_2, r_3, r_4, r_5, r_6, r_7, r_8) = f_X11_moveWord_c109 store common register address did ready trace z1_0 z1_1 := hres.trans (by rw [← hz1])
  rw [f_X11_moveWord_c109] at hres
  cases hres
  exact (by first | exact hdz | exact d_keep hd)
theorem d_X11_moveWord_346 {s1 : Int32} {s2 : Int32} {s3 : Int32} {now : Int32} {store : Nat → Int32} {common : Nat → Int32} {register : Nat → Int32} {address : Nat → Int32} {status : Nat → Int32} {did : Nat → Int32} {ready : Nat → Int32} {trace : Nat → Int32} {r_0 : Int32} {r_1 : (Nat → Int32)} {r_2 : (Nat → Int32)} {r_3 : (Nat → Int32)} {r_4 : (Nat → Int32)} {r_5 : (Nat → Int32)} {r_6 : (Nat → Int32)} {r_7 : (Nat → Int32)} {r_8 : (Nat → Int32)} {N : Int} (hres : (r_0, r_1, r_2, r_3, r_4, r_5, r_6, r_7, r_8) = (f_X11_moveWord_346 now store common register address status did ready trace s1 s2 s3)) (hN : N ≤ 2000000) (hd : ∀ j, j < 4 → 0 ≤ (did j).toInt ∧ (did j).toInt ≤ N) : ∀ j, j < 4 → 0 ≤ (r_6 j).toInt ∧ (r_6 j).toInt ≤ N + 1 := by
  rw [f_X11_moveWord_346] at hres
  obtain ⟨z7_0, z7_1, z7_2, z7_3, z7_4, hz7⟩ := g_ex5 (f_X11_done s1 s2 s3 now address did ready trace)
  have hdz := d_X11_done hz7 hN hd
  replace hres : (r_0, r_1, r_2, r_3, r_4, r_5, r_6, r_7, r_8) = f_X11_moveWord_c346 store common register status z7_0 z7_1 z7_2 z7_3 z7_4 := hres.trans (by rw [← hz7])
  rw [f_X11_moveWord_c346] at hres
  cases hres
  exact (by first | exact hdz | exact d_keep hd)
theorem d_X11_moveWord_309 {l1 : Int32} {l9 : Int32} {wheel : Int32} {now : Int32} {store : Nat → Int32} {common : Nat → Int32} {register : Nat → Int32} {address : Nat → Int32} {status : Nat → Int32} {did : Nat → Int32} {ready : Nat → Int32} {trace : Nat → Int32} {r_0 : Int32} {r_1 : (Nat → Int32)} {r_2 : (Nat → Int32)} {r_3 : (Nat → Int32)} {r_4 : (Nat → Int32)} {r_5 : (Nat → Int32)} {r_6 : (Nat → Int32)} {r_7 : (Nat → Int32)} {r_8 : (Nat → Int32)} {N : Int} (hres : (r_0, r_1, r_2, r_3, r_4, r_5, r_6, r_7, r_8) = (f_X11_moveWord_309 wheel now store common register address status did ready trace l1 l9)) (hN : N ≤ 2000000) (hd : ∀ j, j < 4 → 0 ≤ (did j).toInt ∧ (did j).toInt ≤ N) : ∀ j, j < 4 → 0 ≤ (r_6 j).toInt ∧ (r_6 j).toInt ≤ N + 1 := by
  rw [f_X11_moveWord_309] at hres
  obtain ⟨z5_0, hz5⟩ := g_ex1 (f_X11_isOwn l9)
  replace hres : (r_0, r_1, r_2, r_3, r_4, r_5, r_6, r_7, r_8) = f_X11_moveWord_c321 wheel now store common register address status did ready trace l1 z5_0 := hres.trans (by rw [← hz5])
  rw [f_X11_moveWord_c321] at hres
  by_cases c324 : z5_0 = 0
  · rw [if_pos c324] at hres
    obtain ⟨z6_0, hz6⟩ := g_ex1 (f_X11_first l1 wheel now)
    replace hres : (r_0, r_1, r_2, r_3, r_4, r_5, r_6, r_7, r_8) = f_X11_moveWord_c338 wheel now store common register address status did ready trace l1 z6_0 := hres.trans (by rw [← hz6])
    rw [f_X11_moveWord_c338] at hres
    exact d_X11_moveWord_346 hres (by assumption) (by assumption)
  · rw [if_neg c324] at hres
    exact d_X11_moveWord_346 hres (by assumption) (by assumption)
theorem d_X11_moveWord_306 {l1 : Int32} {l9 : Int32} {s1 : Int32} {s2 : Int32} {s3 : Int32} {wheel : Int32} {now : Int32} {store : Nat → Int32} {common : Nat → Int32} {register : Nat → Int32} {address : Nat → Int32} {status : Nat → Int32} {did : Nat → Int32} {ready : Nat → Int32} {trace : Nat → Int32} {r_0 : Int32} {r_1 : (Nat → Int32)} {r_2 : (Nat → Int32)} {r_3 : (Nat → Int32)} {r_4 : (Nat → Int32)} {r_5 : (Nat → Int32)} {r_6 : (Nat → Int32)} {r_7 : (Nat → Int32)} {r_8 : (Nat → Int32)} {N : Int} (hres : (r_0, r_1, r_2, r_3, r_4, r_5, r_6, r_7, r_8) = (f_X11_moveWord_306 wheel now store common register address status did ready trace l1 l9 s1 s2 s3)) (hN : N ≤ 2000000) (hd : ∀ j, j < 4 → 0 ≤ (did j).toInt ∧ (did j).toInt ≤ N) : ∀ j, j < 4 → 0 ≤ (r_6 j).toInt ∧ (r_6 j).toInt ≤ N + 1 := by
  rw [f_X11_moveWord_306] at hres
  obtain ⟨z4_0, hz4⟩ := g_ex1 (f_X11_set s1 s2 s3 register)
  replace hres : (r_0, r_1, r_2, r_3, r_4, r_5, r_6, r_7, r_8) = f_X11_moveWord_c306 wheel now store common address status did ready trace l1 l9 z4_0 := hres.trans (by rw [← hz4])
  rw [f_X11_moveWord_c306] at hres
  exact d_X11_moveWord_309 hres (by assumption) (by assumption)
theorem d_X11_moveWord_256 {l1 : Int32} {l9 : Int32} {s1 : Int32} {s2 : Int32} {s3 : Int32} {wheel : Int32} {now : Int32} {store : Nat → Int32} {common : Nat → Int32} {register : Nat → Int32} {address : Nat → Int32} {status : Nat → Int32} {did : Nat → Int32} {ready : Nat → Int32} {trace : Nat → Int32} {r_0 : Int32} {r_1 : (Nat → Int32)} {r_2 : (Nat → Int32)} {r_3 : (Nat → Int32)} {r_4 : (Nat → Int32)} {r_5 : (Nat → Int32)} {r_6 : (Nat → Int32)} {r_7 : (Nat → Int32)} {r_8 : (Nat → Int32)} {N : Int} (hres : (r_0, r_1, r_2, r_3, r_4, r_5, r_6, r_7, r_8) = (f_X11_moveWord_256 wheel now store common register address status did ready trace l1 l9 s1 s2 s3)) (hN : N ≤ 2000000) (hd : ∀ j, j < 4 → 0 ≤ (did j).toInt ∧ (did j).toInt ≤ N) : ∀ j, j < 4 → 0 ≤ (r_6 j).toInt ∧ (r_6 j).toInt ≤ N + 1 := by
  rw [f_X11_moveWord_256] at hres
  obtain ⟨z8_0, z8_1, hz8⟩ := g_ex2 (f_X11_put s1 s2 s3 store common)
  replace hres : (r_0, r_1, r_2, r_3, r_4, r_5, r_6, r_7, r_8) = f_X11_moveWord_c256 wheel now register address status did ready trace l1 l9 z8_0 z8_1 := hres.trans (by rw [← hz8])
  rw [f_X11_moveWord_c256] at hres
  exact d_X11_moveWord_309 hres (by assumption) (by assumption)
theorem d_X11_moveWord_172 {l1 : Int32} {l3 : Int32} {l4 : Int32} {l6 : Int32} {l9 : Int32} {s1 : Int32} {s2 : Int32} {s3 : Int32} {wheel : Int32} {now : Int32} {store : Nat → Int32} {common : Nat → Int32} {low : Nat → Int32} {high : Nat → Int32} {register : Nat → Int32} {address : Nat → Int32} {status : Nat → Int32} {did : Nat → Int32} {ready : Nat → Int32} {trace : Nat → Int32} {r_0 : Int32} {r_1 : (Nat → Int32)} {r_2 : (Nat → Int32)} {r_3 : (Nat → Int32)} {r_4 : (Nat → Int32)} {r_5 : (Nat → Int32)} {r_6 : (Nat → Int32)} {r_7 : (Nat → Int32)} {r_8 : (Nat → Int32)} {N : Int} (hres : (r_0, r_1, r_2, r_3, r_4, r_5, r_6, r_7, r_8) = (f_X11_moveWord_172 wheel now store common low high register address status did ready trace l1 l3 l4 l6 l9 s1 s2 s3)) (hN : N ≤ 2000000) (hd : ∀ j, j < 4 → 0 ≤ (did j).toInt ∧ (did j).toInt ≤ N) : ∀ j, j < 4 → 0 ≤ (r_6 j).toInt ∧ (r_6 j).toInt ≤ N + 1 := by
  rw [f_X11_moveWord_172] at hres
  obtain ⟨z2_0, hz2⟩ := g_ex1 (f_X11_isThere s1 s2 s3 low high)
  replace hres : (r_0, r_1, r_2, r_3, r_4, r_5, r_6, r_7, r_8) = f_X11_moveWord_c172 wheel now store common register address status did ready trace l1 l3 l4 l6 l9 z2_0 := hres.trans (by rw [← hz2])
  rw [f_X11_moveWord_c172] at hres
  by_cases c175 : z2_0 = 0
  · rw [if_pos c175] at hres
    obtain ⟨z9_0, z9_1, hz9⟩ := g_ex2 (f_X11_stop l1 status)
    replace hres : (r_0, r_1, r_2, r_3, r_4, r_5, r_6, r_7, r_8) = f_X11_moveWord_c180 store common register address did ready trace z9_0 z9_1 := hres.trans (by rw [← hz9])
    rw [f_X11_moveWord_c180] at hres
    cases hres
    exact (by first | exact hdz | exact d_keep hd)
  · rw [if_neg c175] at hres
    obtain ⟨z3_0, hz3⟩ := g_ex1 (f_X11_wordAt l1 l9 store common)
    replace hres : (r_0, r_1, r_2, r_3, r_4, r_5, r_6, r_7, r_8) = f_X11_moveWord_c197 wheel now store common register address status did ready trace l1 l3 l4 l6 l9 z3_0 := hres.trans (by rw [← hz3])
    rw [f_X11_moveWord_c197] at hres
    by_cases c217 : l3 = 0
    · rw [if_pos c217] at hres
      by_cases c269 : l4 = (2 : Int32)
      · rw [if_pos c269] at hres
        exact d_X11_moveWord_306 hres (by assumption) (by assumption)
      · rw [if_neg c269] at hres
        by_cases c280 : l4 = (4 : Int32)
        · rw [if_pos c280] at hres
          exact d_X11_moveWord_306 hres (by assumption) (by assumption)
        · rw [if_neg c280] at hres
          exact d_X11_moveWord_306 hres (by assumption) (by assumption)
    · rw [if_neg c217] at hres
      by_cases c227 : l4 = (2 : Int32)
      · rw [if_pos c227] at hres
        exact d_X11_moveWord_256 hres (by assumption) (by assumption)
      · rw [if_neg c227] at hres
        exact d_X11_moveWord_256 hres (by assumption) (by assumption)
theorem d_X11_moveWord_138 {l1 : Int32} {l3 : Int32} {l4 : Int32} {l5 : Int32} {l6 : Int32} {s0 : Int32} {wheel : Int32} {now : Int32} {store : Nat → Int32} {common : Nat → Int32} {low : Nat → Int32} {high : Nat → Int32} {register : Nat → Int32} {address : Nat → Int32} {status : Nat → Int32} {did : Nat → Int32} {ready : Nat → Int32} {trace : Nat → Int32} {r_0 : Int32} {r_1 : (Nat → Int32)} {r_2 : (Nat → Int32)} {r_3 : (Nat → Int32)} {r_4 : (Nat → Int32)} {r_5 : (Nat → Int32)} {r_6 : (Nat → Int32)} {r_7 : (Nat → Int32)} {r_8 : (Nat → Int32)} {N : Int} (hres : (r_0, r_1, r_2, r_3, r_4, r_5, r_6, r_7, r_8) = (f_X11_moveWord_138 wheel now store common low high register address status did ready trace l1 l3 l4 l5 s0 l6)) (hN : N ≤ 2000000) (hd : ∀ j, j < 4 → 0 ≤ (did j).toInt ∧ (did j).toInt ≤ N) : ∀ j, j < 4 → 0 ≤ (r_6 j).toInt ∧ (r_6 j).toInt ≤ N + 1 := by
  rw [f_X11_moveWord_138] at hres
  by_cases c164 : l4 = (2 : Int32)
  · rw [if_pos c164] at hres
    exact d_X11_moveWord_172 hres (by assumption) (by assumption)
  · rw [if_neg c164] at hres
    exact d_X11_moveWord_172 hres (by assumption) (by assumption)
theorem d_X11_moveWord_86 {l1 : Int32} {l2 : Int32} {l3 : Int32} {l4 : Int32} {l5 : Int32} {l6 : Int32} {s0 : Int32} {wheel : Int32} {now : Int32} {store : Nat → Int32} {common : Nat → Int32} {low : Nat → Int32} {high : Nat → Int32} {register : Nat → Int32} {address : Nat → Int32} {status : Nat → Int32} {did : Nat → Int32} {ready : Nat → Int32} {trace : Nat → Int32} {r_0 : Int32} {r_1 : (Nat → Int32)} {r_2 : (Nat → Int32)} {r_3 : (Nat → Int32)} {r_4 : (Nat → Int32)} {r_5 : (Nat → Int32)} {r_6 : (Nat → Int32)} {r_7 : (Nat → Int32)} {r_8 : (Nat → Int32)} {N : Int} (hres : (r_0, r_1, r_2, r_3, r_4, r_5, r_6, r_7, r_8) = (f_X11_moveWord_86 wheel now store common low high register address status did ready trace l1 l2 l3 l4 l5 s0 l6)) (hN : N ≤ 2000000) (hd : ∀ j, j < 4 → 0 ≤ (did j).toInt ∧ (did j).toInt ≤ N) : ∀ j, j < 4 → 0 ≤ (r_6 j).toInt ∧ (r_6 j).toInt ≤ N + 1 := by
  rw [f_X11_moveWord_86] at hres
  by_cases c90 : s0 = 0
  · rw [if_pos c90] at hres
    exact d_X11_moveWord_107 hres (by assumption) (by assumption)
  · rw [if_neg c90] at hres
    by_cases c97 : (15 : Int32) < l5
    · rw [if_pos c97] at hres
      exact d_X11_moveWord_107 hres (by assumption) (by assumption)
    · rw [if_neg c97] at hres
      by_cases c104 : l6 ≤ (15 : Int32)
      · rw [if_pos c104] at hres
        by_cases c114 : l3 = 0
        · rw [if_pos c114] at hres
          exact d_X11_moveWord_138 hres (by assumption) (by assumption)
        · rw [if_neg c114] at hres
          exact d_X11_moveWord_138 hres (by assumption) (by assumption)
      · rw [if_neg c104] at hres
        exact d_X11_moveWord_107 hres (by assumption) (by assumption)
theorem d_X11_moveWord_39 {l1 : Int32} {l2 : Int32} {l3 : Int32} {l4 : Int32} {l5 : Int32} {s0 : Int32} {wheel : Int32} {now : Int32} {store : Nat → Int32} {common : Nat → Int32} {low : Nat → Int32} {high : Nat → Int32} {register : Nat → Int32} {address : Nat → Int32} {status : Nat → Int32} {did : Nat → Int32} {ready : Nat → Int32} {trace : Nat → Int32} {r_0 : Int32} {r_1 : (Nat → Int32)} {r_2 : (Nat → Int32)} {r_3 : (Nat → Int32)} {r_4 : (Nat → Int32)} {r_5 : (Nat → Int32)} {r_6 : (Nat → Int32)} {r_7 : (Nat → Int32)} {r_8 : (Nat → Int32)} {N : Int} (hres : (r_0, r_1, r_2, r_3, r_4, r_5, r_6, r_7, r_8) = (f_X11_moveWord_39 wheel now store common low high register address status did ready trace l1 l2 l3 l4 l5 s0)) (hN : N ≤ 2000000) (hd : ∀ j, j < 4 → 0 ≤ (did j).toInt ∧ (did j).toInt ≤ N) : ∀ j, j < 4 → 0 ≤ (r_6 j).toInt ∧ (r_6 j).toInt ≤ N + 1 := by
  rw [f_X11_moveWord_39] at hres
  by_cases c42 : l3 = 0
  · rw [if_pos c42] at hres
    by_cases c67 : l4 = (2 : Int32)
    · rw [if_pos c67] at hres
      exact d_X11_moveWord_86 hres (by assumption) (by assumption)
    · rw [if_neg c67] at hres
      by_cases c72 : l4 = 0
      · rw [if_pos c72] at hres
        exact d_X11_moveWord_86 hres (by assumption) (by assumption)
      · rw [if_neg c72] at hres
        by_cases c78 : l4 = (4 : Int32)
        · rw [if_pos c78] at hres
          exact d_X11_moveWord_86 hres (by assumption) (by assumption)
        · rw [if_neg c78] at hres
          exact d_X11_moveWord_86 hres (by assumption) (by assumption)
  · rw [if_neg c42] at hres
    by_cases c48 : l4 = (2 : Int32)
    · rw [if_pos c48] at hres
      exact d_X11_moveWord_86 hres (by assumption) (by assumption)
    · rw [if_neg c48] at hres
      by_cases c53 : l4 = 0
      · rw [if_pos c53] at hres
        exact d_X11_moveWord_86 hres (by assumption) (by assumption)
      · rw [if_neg c53] at hres
        exact d_X11_moveWord_86 hres (by assumption) (by assumption)
theorem d_X11_moveWord {t : Int32} {w : Int32} {stores : Int32} {wheel : Int32} {now : Int32} {store : Nat → Int32} {common : Nat → Int32} {low : Nat → Int32} {high : Nat → Int32} {register : Nat → Int32} {address : Nat → Int32} {status : Nat → Int32} {did : Nat → Int32} {ready : Nat → Int32} {trace : Nat → Int32} {r_0 : Int32} {r_1 : (Nat → Int32)} {r_2 : (Nat → Int32)} {r_3 : (Nat → Int32)} {r_4 : (Nat → Int32)} {r_5 : (Nat → Int32)} {r_6 : (Nat → Int32)} {r_7 : (Nat → Int32)} {r_8 : (Nat → Int32)} {N : Int} (hres : (r_0, r_1, r_2, r_3, r_4, r_5, r_6, r_7, r_8) = f_X11_moveWord t w stores wheel now store common low high register address status did ready trace) (hN : N ≤ 2000000) (hd : ∀ j, j < 4 → 0 ≤ (did j).toInt ∧ (did j).toInt ≤ N) : ∀ j, j < 4 → 0 ≤ (r_6 j).toInt ∧ (r_6 j).toInt ≤ N + 1 := by
  rw [f_X11_moveWord] at hres
  by_cases c19 : stores = 0
  · rw [if_pos c19] at hres
    exact d_X11_moveWord_39 hres (by assumption) (by assumption)
  · rw [if_neg c19] at hres
    exact d_X11_moveWord_39 hres (by assumption) (by assumption)
theorem d_X11_calculate_146 {l1 : Int32} {register : Nat → Int32} {address : Nat → Int32} {status : Nat → Int32} {did : Nat → Int32} {ready : Nat → Int32} {trace : Nat → Int32} {r_0 : Int32} {r_1 : (Nat → Int32)} {r_2 : (Nat → Int32)} {r_3 : (Nat → Int32)} {r_4 : (Nat → Int32)} {r_5 : (Nat → Int32)} {r_6 : (Nat → Int32)} {N : Int} (hres : (r_0, r_1, r_2, r_3, r_4, r_5, r_6) = (f_X11_calculate_146 register address status did ready trace l1)) (hN : N ≤ 2000000) (hd : ∀ j, j < 4 → 0 ≤ (did j).toInt ∧ (did j).toInt ≤ N) : ∀ j, j < 4 → 0 ≤ (r_4 j).toInt ∧ (r_4 j).toInt ≤ N + 1 := by
  rw [f_X11_calculate_146] at hres
  obtain ⟨z1_0, z1_1, hz1⟩ := g_ex2 (f_X11_stop l1 status)
  replace hres : (r_0, r_1, r_2, r_3, r_4, r_5, r_6) = f_X11_calculate_c148 register address did ready trace z1_0 z1_1 := hres.trans (by rw [← hz1])
  rw [f_X11_calculate_c148] at hres
  cases hres
  exact (by first | exact hdz | exact d_keep hd)
theorem d_X11_calculate_185 {l1 : Int32} {l4 : Int32} {l5 : Int32} {l6 : Int32} {l10 : Int32} {s0 : Int32} {now : Int32} {register : Nat → Int32} {address : Nat → Int32} {status : Nat → Int32} {did : Nat → Int32} {ready : Nat → Int32} {trace : Nat → Int32} {r_0 : Int32} {r_1 : (Nat → Int32)} {r_2 : (Nat → Int32)} {r_3 : (Nat → Int32)} {r_4 : (Nat → Int32)} {r_5 : (Nat → Int32)} {r_6 : (Nat → Int32)} {N : Int} (hres : (r_0, r_1, r_2, r_3, r_4, r_5, r_6) = (f_X11_calculate_185 now register address status did ready trace l1 l4 l5 l6 s0 l10)) (hN : N ≤ 2000000) (hd : ∀ j, j < 4 → 0 ≤ (did j).toInt ∧ (did j).toInt ≤ N) : ∀ j, j < 4 → 0 ≤ (r_4 j).toInt ∧ (r_4 j).toInt ≤ N + 1 := by
  rw [f_X11_calculate_185] at hres
  obtain ⟨z2_0, hz2⟩ := g_ex1 (f_X11_worked l4 l10 (register (Int32.toNatClampNeg (((16 : Int32) * l1) + l6))) s0)
  replace hres : (r_0, r_1, r_2, r_3, r_4, r_5, r_6) = f_X11_calculate_c209 now register address status did ready trace l1 l5 z2_0 := hres.trans (by rw [← hz2])
  rw [f_X11_calculate_c209] at hres
  obtain ⟨z3_0, hz3⟩ := g_ex1 (f_X11_set l1 l5 z2_0 register)
  replace hres : (r_0, r_1, r_2, r_3, r_4, r_5, r_6) = f_X11_calculate_c212 now address status did ready trace l1 z3_0 := hres.trans (by rw [← hz3])
  rw [f_X11_calculate_c212] at hres
  obtain ⟨z4_0, z4_1, z4_2, z4_3, z4_4, hz4⟩ := g_ex5 (f_X11_done l1 ((address (Int32.toNatClampNeg l1)) + (4 : Int32)) (now + (4 : Int32)) now address did ready trace)
  have hdz := d_X11_done hz4 hN hd
  replace hres : (r_0, r_1, r_2, r_3, r_4, r_5, r_6) = f_X11_calculate_c231 status z3_0 z4_0 z4_1 z4_2 z4_3 z4_4 := hres.trans (by rw [← hz4])
  rw [f_X11_calculate_c231] at hres
  cases hres
  exact (by first | exact hdz | exact d_keep hd)
theorem d_X11_calculate_152 {l1 : Int32} {l2 : Int32} {l3 : Int32} {l4 : Int32} {l5 : Int32} {l6 : Int32} {l7 : Int32} {l9 : Int32} {l10 : Int32} {now : Int32} {register : Nat → Int32} {address : Nat → Int32} {status : Nat → Int32} {did : Nat → Int32} {ready : Nat → Int32} {trace : Nat → Int32} {r_0 : Int32} {r_1 : (Nat → Int32)} {r_2 : (Nat → Int32)} {r_3 : (Nat → Int32)} {r_4 : (Nat → Int32)} {r_5 : (Nat → Int32)} {r_6 : (Nat → Int32)} {N : Int} (hres : (r_0, r_1, r_2, r_3, r_4, r_5, r_6) = (f_X11_calculate_152 now register address status did ready trace l1 l2 l3 l4 l5 l6 l7 l9 l10)) (hN : N ≤ 2000000) (hd : ∀ j, j < 4 → 0 ≤ (did j).toInt ∧ (did j).toInt ≤ N) : ∀ j, j < 4 → 0 ≤ (r_4 j).toInt ∧ (r_4 j).toInt ≤ N + 1 := by
  rw [f_X11_calculate_152] at hres
  by_cases c153 : l3 = 0
  · rw [if_pos c153] at hres
    by_cases c173 : l9 = 0
    · rw [if_pos c173] at hres
      exact d_X11_calculate_185 hres (by assumption) (by assumption)
    · rw [if_neg c173] at hres
      exact d_X11_calculate_185 hres (by assumption) (by assumption)
  · rw [if_neg c153] at hres
    exact d_X11_calculate_185 hres (by assumption) (by assumption)
theorem d_X11_calculate_114 {l1 : Int32} {l2 : Int32} {l3 : Int32} {l4 : Int32} {l5 : Int32} {l6 : Int32} {l7 : Int32} {l9 : Int32} {l10 : Int32} {s0 : Int32} {now : Int32} {register : Nat → Int32} {address : Nat → Int32} {status : Nat → Int32} {did : Nat → Int32} {ready : Nat → Int32} {trace : Nat → Int32} {r_0 : Int32} {r_1 : (Nat → Int32)} {r_2 : (Nat → Int32)} {r_3 : (Nat → Int32)} {r_4 : (Nat → Int32)} {r_5 : (Nat → Int32)} {r_6 : (Nat → Int32)} {N : Int} (hres : (r_0, r_1, r_2, r_3, r_4, r_5, r_6) = (f_X11_calculate_114 now register address status did ready trace l1 l2 l3 l4 l5 l6 l7 s0 l9 l10)) (hN : N ≤ 2000000) (hd : ∀ j, j < 4 → 0 ≤ (did j).toInt ∧ (did j).toInt ≤ N) : ∀ j, j < 4 → 0 ≤ (r_4 j).toInt ∧ (r_4 j).toInt ≤ N + 1 := by
  rw [f_X11_calculate_114] at hres
  by_cases c118 : s0 = 0
  · rw [if_pos c118] at hres
    exact d_X11_calculate_146 hres (by assumption) (by assumption)
  · rw [if_neg c118] at hres
    by_cases c125 : (15 : Int32) < l5
    · rw [if_pos c125] at hres
      exact d_X11_calculate_146 hres (by assumption) (by assumption)
    · rw [if_neg c125] at hres
      by_cases c132 : (15 : Int32) < l6
      · rw [if_pos c132] at hres
        exact d_X11_calculate_146 hres (by assumption) (by assumption)
      · rw [if_neg c132] at hres
        by_cases c136 : l3 = 0
        · rw [if_pos c136] at hres
          exact d_X11_calculate_152 hres (by assumption) (by assumption)
        · rw [if_neg c136] at hres
          by_cases c143 : l7 ≤ (15 : Int32)
          · rw [if_pos c143] at hres
            exact d_X11_calculate_152 hres (by assumption) (by assumption)
          · rw [if_neg c143] at hres
            exact d_X11_calculate_146 hres (by assumption) (by assumption)
theorem d_X11_calculate_99 {l1 : Int32} {l2 : Int32} {l3 : Int32} {l4 : Int32} {l5 : Int32} {l6 : Int32} {l7 : Int32} {l8 : Int32} {l9 : Int32} {l10 : Int32} {now : Int32} {register : Nat → Int32} {address : Nat → Int32} {status : Nat → Int32} {did : Nat → Int32} {ready : Nat → Int32} {trace : Nat → Int32} {r_0 : Int32} {r_1 : (Nat → Int32)} {r_2 : (Nat → Int32)} {r_3 : (Nat → Int32)} {r_4 : (Nat → Int32)} {r_5 : (Nat → Int32)} {r_6 : (Nat → Int32)} {N : Int} (hres : (r_0, r_1, r_2, r_3, r_4, r_5, r_6) = (f_X11_calculate_99 now register address status did ready trace l1 l2 l3 l4 l5 l6 l7 l8 l9 l10)) (hN : N ≤ 2000000) (hd : ∀ j, j < 4 → 0 ≤ (did j).toInt ∧ (did j).toInt ≤ N) : ∀ j, j < 4 → 0 ≤ (r_4 j).toInt ∧ (r_4 j).toInt ≤ N + 1 := by
  rw [f_X11_calculate_99] at hres
  by_cases c101 : l8 = 0
  · rw [if_pos c101] at hres
    exact d_X11_calculate_114 hres (by assumption) (by assumption)
  · rw [if_neg c101] at hres
    by_cases c106 : l10 = 0
    · rw [if_pos c106] at hres
      exact d_X11_calculate_114 hres (by assumption) (by assumption)
    · rw [if_neg c106] at hres
      exact d_X11_calculate_114 hres (by assumption) (by assumption)
theorem d_X11_calculate_88 {l1 : Int32} {l2 : Int32} {l3 : Int32} {l4 : Int32} {l5 : Int32} {l6 : Int32} {l7 : Int32} {l8 : Int32} {l9 : Int32} {s0 : Int32} {now : Int32} {register : Nat → Int32} {address : Nat → Int32} {status : Nat → Int32} {did : Nat → Int32} {ready : Nat → Int32} {trace : Nat → Int32} {r_0 : Int32} {r_1 : (Nat → Int32)} {r_2 : (Nat → Int32)} {r_3 : (Nat → Int32)} {r_4 : (Nat → Int32)} {r_5 : (Nat → Int32)} {r_6 : (Nat → Int32)} {N : Int} (hres : (r_0, r_1, r_2, r_3, r_4, r_5, r_6) = (f_X11_calculate_88 now register address status did ready trace l1 l2 l3 l4 l5 l6 l7 l8 s0 l9)) (hN : N ≤ 2000000) (hd : ∀ j, j < 4 → 0 ≤ (did j).toInt ∧ (did j).toInt ≤ N) : ∀ j, j < 4 → 0 ≤ (r_4 j).toInt ∧ (r_4 j).toInt ≤ N + 1 := by
  rw [f_X11_calculate_88] at hres
  by_cases c91 : l3 = 0
  · rw [if_pos c91] at hres
    by_cases c96 : l9 = 0
    · rw [if_pos c96] at hres
      exact d_X11_calculate_114 hres (by assumption) (by assumption)
    · rw [if_neg c96] at hres
      exact d_X11_calculate_99 hres (by assumption) (by assumption)
  · rw [if_neg c91] at hres
    exact d_X11_calculate_99 hres (by assumption) (by assumption)
theorem d_X11_calculate_87 {l1 : Int32} {l2 : Int32} {l3 : Int32} {l4 : Int32} {l5 : Int32} {l6 : Int32} {l7 : Int32} {l8 : Int32} {l9 : Int32} {now : Int32} {register : Nat → Int32} {address : Nat → Int32} {status : Nat → Int32} {did : Nat → Int32} {ready : Nat → Int32} {trace : Nat → Int32} {r_0 : Int32} {r_1 : (Nat → Int32)} {r_2 : (Nat → Int32)} {r_3 : (Nat → Int32)} {r_4 : (Nat → Int32)} {r_5 : (Nat → Int32)} {r_6 : (Nat → Int32)} {N : Int} (hres : (r_0, r_1, r_2, r_3, r_4, r_5, r_6) = (f_X11_calculate_87 now register address status did ready trace l1 l2 l3 l4 l5 l6 l7 l8 l9)) (hN : N ≤ 2000000) (hd : ∀ j, j < 4 → 0 ≤ (did j).toInt ∧ (did j).toInt ≤ N) : ∀ j, j < 4 → 0 ≤ (r_4 j).toInt ∧ (r_4 j).toInt ≤ N + 1 := by
  rw [f_X11_calculate_87] at hres
  exact d_X11_calculate_88 hres (by assumption) (by assumption)
theorem d_X11_calculate_59 {l1 : Int32} {l2 : Int32} {l3 : Int32} {l4 : Int32} {l5 : Int32} {l6 : Int32} {l7 : Int32} {l8 : Int32} {s0 : Int32} {now : Int32} {register : Nat → Int32} {address : Nat → Int32} {status : Nat → Int32} {did : Nat → Int32} {ready : Nat → Int32} {trace : Nat → Int32} {r_0 : Int32} {r_1 : (Nat → Int32)} {r_2 : (Nat → Int32)} {r_3 : (Nat → Int32)} {r_4 : (Nat → Int32)} {r_5 : (Nat → Int32)} {r_6 : (Nat → Int32)} {N : Int} (hres : (r_0, r_1, r_2, r_3, r_4, r_5, r_6) = (f_X11_calculate_59 now register address status did ready trace l1 l2 l3 l4 l5 l6 l7 l8 s0)) (hN : N ≤ 2000000) (hd : ∀ j, j < 4 → 0 ≤ (did j).toInt ∧ (did j).toInt ≤ N) : ∀ j, j < 4 → 0 ≤ (r_4 j).toInt ∧ (r_4 j).toInt ≤ N + 1 := by
  rw [f_X11_calculate_59] at hres
  by_cases c65 : l8 = (32 : Int32)
  · rw [if_pos c65] at hres
    by_cases c71 : l4 = (5 : Int32)
    · rw [if_pos c71] at hres
      exact d_X11_calculate_88 hres (by assumption) (by assumption)
    · rw [if_neg c71] at hres
      by_cases c75 : l3 = 0
      · rw [if_pos c75] at hres
        exact d_X11_calculate_87 hres (by assumption) (by assumption)
      · rw [if_neg c75] at hres
        by_cases c80 : l4 = 0
        · rw [if_pos c80] at hres
          exact d_X11_calculate_88 hres (by assumption) (by assumption)
        · rw [if_neg c80] at hres
          exact d_X11_calculate_87 hres (by assumption) (by assumption)
  · rw [if_neg c65] at hres
    exact d_X11_calculate_87 hres (by assumption) (by assumption)
theorem d_X11_calculate {t : Int32} {w : Int32} {plain : Int32} {now : Int32} {register : Nat → Int32} {address : Nat → Int32} {status : Nat → Int32} {did : Nat → Int32} {ready : Nat → Int32} {trace : Nat → Int32} {r_0 : Int32} {r_1 : (Nat → Int32)} {r_2 : (Nat → Int32)} {r_3 : (Nat → Int32)} {r_4 : (Nat → Int32)} {r_5 : (Nat → Int32)} {r_6 : (Nat → Int32)} {N : Int} (hres : (r_0, r_1, r_2, r_3, r_4, r_5, r_6) = f_X11_calculate t w plain now register address status did ready trace) (hN : N ≤ 2000000) (hd : ∀ j, j < 4 → 0 ≤ (did j).toInt ∧ (did j).toInt ≤ N) : ∀ j, j < 4 → 0 ≤ (r_4 j).toInt ∧ (r_4 j).toInt ≤ N + 1 := by
  rw [f_X11_calculate] at hres
  by_cases c45 : ((w >>> ((12 : Int32) &&& 31)) &&& (7 : Int32)) = (1 : Int32)
  · rw [if_pos c45] at hres
    exact d_X11_calculate_59 hres (by assumption) (by assumption)
  · rw [if_neg c45] at hres
    by_cases c51 : ((w >>> ((12 : Int32) &&& 31)) &&& (7 : Int32)) = (5 : Int32)
    · rw [if_pos c51] at hres
      exact d_X11_calculate_59 hres (by assumption) (by assumption)
    · rw [if_neg c51] at hres
      exact d_X11_calculate_59 hres (by assumption) (by assumption)
theorem d_X11_jump_46 {l1 : Int32} {register : Nat → Int32} {address : Nat → Int32} {status : Nat → Int32} {did : Nat → Int32} {ready : Nat → Int32} {trace : Nat → Int32} {r_0 : Int32} {r_1 : (Nat → Int32)} {r_2 : (Nat → Int32)} {r_3 : (Nat → Int32)} {r_4 : (Nat → Int32)} {r_5 : (Nat → Int32)} {r_6 : (Nat → Int32)} {N : Int} (hres : (r_0, r_1, r_2, r_3, r_4, r_5, r_6) = (f_X11_jump_46 register address status did ready trace l1)) (hN : N ≤ 2000000) (hd : ∀ j, j < 4 → 0 ≤ (did j).toInt ∧ (did j).toInt ≤ N) : ∀ j, j < 4 → 0 ≤ (r_4 j).toInt ∧ (r_4 j).toInt ≤ N + 1 := by
  rw [f_X11_jump_46] at hres
  obtain ⟨z1_0, z1_1, hz1⟩ := g_ex2 (f_X11_stop l1 status)
  replace hres : (r_0, r_1, r_2, r_3, r_4, r_5, r_6) = f_X11_jump_c48 register address did ready trace z1_0 z1_1 := hres.trans (by rw [← hz1])
  rw [f_X11_jump_c48] at hres
  cases hres
  exact (by first | exact hdz | exact d_keep hd)
theorem d_X11_jump_130 {l1 : Int32} {l4 : Int32} {s0 : Int32} {now : Int32} {register : Nat → Int32} {address : Nat → Int32} {status : Nat → Int32} {did : Nat → Int32} {ready : Nat → Int32} {trace : Nat → Int32} {r_0 : Int32} {r_1 : (Nat → Int32)} {r_2 : (Nat → Int32)} {r_3 : (Nat → Int32)} {r_4 : (Nat → Int32)} {r_5 : (Nat → Int32)} {r_6 : (Nat → Int32)} {N : Int} (hres : (r_0, r_1, r_2, r_3, r_4, r_5, r_6) = (f_X11_jump_130 now register address status did ready trace l1 l4 s0)) (hN : N ≤ 2000000) (hd : ∀ j, j < 4 → 0 ≤ (did j).toInt ∧ (did j).toInt ≤ N) : ∀ j, j < 4 → 0 ≤ (r_4 j).toInt ∧ (r_4 j).toInt ≤ N + 1 := by
  rw [f_X11_jump_130] at hres
  obtain ⟨z2_0, hz2⟩ := g_ex1 (f_X11_set l1 l4 ((address (Int32.toNatClampNeg l1)) + (4 : Int32)) register)
  replace hres : (r_0, r_1, r_2, r_3, r_4, r_5, r_6) = f_X11_jump_c144 now address status did ready trace l1 s0 z2_0 := hres.trans (by rw [← hz2])
  rw [f_X11_jump_c144] at hres
  obtain ⟨z3_0, z3_1, z3_2, z3_3, z3_4, hz3⟩ := g_ex5 (f_X11_done l1 s0 (now + (4 : Int32)) now address did ready trace)
  have hdz := d_X11_done hz3 hN hd
  replace hres : (r_0, r_1, r_2, r_3, r_4, r_5, r_6) = f_X11_jump_c157 status z2_0 z3_0 z3_1 z3_2 z3_3 z3_4 := hres.trans (by rw [← hz3])
  rw [f_X11_jump_c157] at hres
  cases hres
  exact (by first | exact hdz | exact d_keep hd)
theorem d_X11_jump_52 {l1 : Int32} {l2 : Int32} {l3 : Int32} {l4 : Int32} {l5 : Int32} {now : Int32} {register : Nat → Int32} {address : Nat → Int32} {status : Nat → Int32} {did : Nat → Int32} {ready : Nat → Int32} {trace : Nat → Int32} {r_0 : Int32} {r_1 : (Nat → Int32)} {r_2 : (Nat → Int32)} {r_3 : (Nat → Int32)} {r_4 : (Nat → Int32)} {r_5 : (Nat → Int32)} {r_6 : (Nat → Int32)} {N : Int} (hres : (r_0, r_1, r_2, r_3, r_4, r_5, r_6) = (f_X11_jump_52 now register address status did ready trace l1 l2 l3 l4 l5)) (hN : N ≤ 2000000) (hd : ∀ j, j < 4 → 0 ≤ (did j).toInt ∧ (did j).toInt ≤ N) : ∀ j, j < 4 → 0 ≤ (r_4 j).toInt ∧ (r_4 j).toInt ≤ N + 1 := by
  rw [f_X11_jump_52] at hres
  by_cases c95 : l3 = 0
  · rw [if_pos c95] at hres
    exact d_X11_jump_130 hres (by assumption) (by assumption)
  · rw [if_neg c95] at hres
    exact d_X11_jump_130 hres (by assumption) (by assumption)
theorem d_X11_jump {t : Int32} {w : Int32} {far : Int32} {now : Int32} {register : Nat → Int32} {address : Nat → Int32} {status : Nat → Int32} {did : Nat → Int32} {ready : Nat → Int32} {trace : Nat → Int32} {r_0 : Int32} {r_1 : (Nat → Int32)} {r_2 : (Nat → Int32)} {r_3 : (Nat → Int32)} {r_4 : (Nat → Int32)} {r_5 : (Nat → Int32)} {r_6 : (Nat → Int32)} {N : Int} (hres : (r_0, r_1, r_2, r_3, r_4, r_5, r_6) = f_X11_jump t w far now register address status did ready trace) (hN : N ≤ 2000000) (hd : ∀ j, j < 4 → 0 ≤ (did j).toInt ∧ (did j).toInt ≤ N) : ∀ j, j < 4 → 0 ≤ (r_4 j).toInt ∧ (r_4 j).toInt ≤ N + 1 := by
  rw [f_X11_jump] at hres
  by_cases c22 : (15 : Int32) < ((w >>> ((7 : Int32) &&& 31)) &&& (31 : Int32))
  · rw [if_pos c22] at hres
    exact d_X11_jump_46 hres (by assumption) (by assumption)
  · rw [if_neg c22] at hres
    by_cases c26 : far = 0
    · rw [if_pos c26] at hres
      exact d_X11_jump_52 hres (by assumption) (by assumption)
    · rw [if_neg c26] at hres
      by_cases c33 : (15 : Int32) < ((w >>> ((15 : Int32) &&& 31)) &&& (31 : Int32))
      · rw [if_pos c33] at hres
        exact d_X11_jump_46 hres (by assumption) (by assumption)
      · rw [if_neg c33] at hres
        by_cases c43 : ((w >>> ((12 : Int32) &&& 31)) &&& (7 : Int32)) = 0
        · rw [if_pos c43] at hres
          exact d_X11_jump_52 hres (by assumption) (by assumption)
        · rw [if_neg c43] at hres
          exact d_X11_jump_46 hres (by assumption) (by assumption)
theorem d_X11_branch_50 {l1 : Int32} {address : Nat → Int32} {status : Nat → Int32} {did : Nat → Int32} {ready : Nat → Int32} {trace : Nat → Int32} {r_0 : Int32} {r_1 : (Nat → Int32)} {r_2 : (Nat → Int32)} {r_3 : (Nat → Int32)} {r_4 : (Nat → Int32)} {r_5 : (Nat → Int32)} {N : Int} (hres : (r_0, r_1, r_2, r_3, r_4, r_5) = (f_X11_branch_50 address status did ready trace l1)) (hN : N ≤ 2000000) (hd : ∀ j, j < 4 → 0 ≤ (did j).toInt ∧ (did j).toInt ≤ N) : ∀ j, j < 4 → 0 ≤ (r_3 j).toInt ∧ (r_3 j).toInt ≤ N + 1 := by
  rw [f_X11_branch_50] at hres
  obtain ⟨z1_0, z1_1, hz1⟩ := g_ex2 (f_X11_stop l1 status)
  replace hres : (r_0, r_1, r_2, r_3, r_4, r_5) = f_X11_branch_c52 address did ready trace z1_0 z1_1 := hres.trans (by rw [← hz1])
  rw [f_X11_branch_c52] at hres
  cases hres
  exact (by first | exact hdz | exact d_keep hd)
theorem d_X11_branch_144 {s1 : Int32} {s2 : Int32} {s3 : Int32} {now : Int32} {address : Nat → Int32} {status : Nat → Int32} {did : Nat → Int32} {ready : Nat → Int32} {trace : Nat → Int32} {r_0 : Int32} {r_1 : (Nat → Int32)} {r_2 : (Nat → Int32)} {r_3 : (Nat → Int32)} {r_4 : (Nat → Int32)} {r_5 : (Nat → Int32)} {N : Int} (hres : (r_0, r_1, r_2, r_3, r_4, r_5) = (f_X11_branch_144 now address status did ready trace s1 s2 s3)) (hN : N ≤ 2000000) (hd : ∀ j, j < 4 → 0 ≤ (did j).toInt ∧ (did j).toInt ≤ N) : ∀ j, j < 4 → 0 ≤ (r_3 j).toInt ∧ (r_3 j).toInt ≤ N + 1 := by
  rw [f_X11_branch_144] at hres
  obtain ⟨z3_0, z3_1, z3_2, z3_3, z3_4, hz3⟩ := g_ex5 (f_X11_done s1 (s2 + s3) (now + (4 : Int32)) now address did ready trace)
  have hdz := d_X11_done hz3 hN hd
  replace hres : (r_0, r_1, r_2, r_3, r_4, r_5) = f_X11_branch_c151 status z3_0 z3_1 z3_2 z3_3 z3_4 := hres.trans (by rw [← hz3])
  rw [f_X11_branch_c151] at hres
  cases hres
  exact (by first | exact hdz | exact d_keep hd)
theorem d_X11_branch {t : Int32} {w : Int32} {now : Int32} {register : Nat → Int32} {address : Nat → Int32} {status : Nat → Int32} {did : Nat → Int32} {ready : Nat → Int32} {trace : Nat → Int32} {r_0 : Int32} {r_1 : (Nat → Int32)} {r_2 : (Nat → Int32)} {r_3 : (Nat → Int32)} {r_4 : (Nat → Int32)} {r_5 : (Nat → Int32)} {N : Int} (hres : (r_0, r_1, r_2, r_3, r_4, r_5) = f_X11_branch t w now register address status did ready trace) (hN : N ≤ 2000000) (hd : ∀ j, j < 4 → 0 ≤ (did j).toInt ∧ (did j).toInt ≤ N) : ∀ j, j < 4 → 0 ≤ (r_3 j).toInt ∧ (r_3 j).toInt ≤ N + 1 := by
  rw [f_X11_branch] at hres
  by_cases c28 : ((w >>> ((12 : Int32) &&& 31)) &&& (7 : Int32)) = (2 : Int32)
  · rw [if_pos c28] at hres
    exact d_X11_branch_50 hres (by assumption) (by assumption)
  · rw [if_neg c28] at hres
    by_cases c33 : ((w >>> ((12 : Int32) &&& 31)) &&& (7 : Int32)) = (3 : Int32)
    · rw [if_pos c33] at hres
      exact d_X11_branch_50 hres (by assumption) (by assumption)
    · rw [if_neg c33] at hres
      by_cases c40 : (15 : Int32) < ((w >>> ((15 : Int32) &&& 31)) &&& (31 : Int32))
      · rw [if_pos c40] at hres
        exact d_X11_branch_50 hres (by assumption) (by assumption)
      · rw [if_neg c40] at hres
        by_cases c47 : ((w >>> ((20 : Int32) &&& 31)) &&& (31 : Int32)) ≤ (15 : Int32)
        · rw [if_pos c47] at hres
          obtain ⟨z2_0, hz2⟩ := g_ex1 (f_X11_goes ((w >>> ((12 : Int32) &&& 31)) &&& (7 : Int32)) (register (Int32.toNatClampNeg (((16 : Int32) * t) + ((w >>> ((15 : Int32) &&& 31)) &&& (31 : Int32))))) (register (Int32.toNatClampNeg (((16 : Int32) * t) + ((w >>> ((20 : Int32) &&& 31)) &&& (31 : Int32))))))
          replace hres : (r_0, r_1, r_2, r_3, r_4, r_5) = f_X11_branch_c120 t w now address status did ready trace z2_0 := hres.trans (by rw [← hz2])
          rw [f_X11_branch_c120] at hres
          by_cases c135 : z2_0 = 0
          · rw [if_pos c135] at hres
            exact d_X11_branch_144 hres (by assumption) (by assumption)
          · rw [if_neg c135] at hres
            exact d_X11_branch_144 hres (by assumption) (by assumption)
        · rw [if_neg c47] at hres
          exact d_X11_branch_50 hres (by assumption) (by assumption)
theorem d_X11_clock_55 {l1 : Int32} {register : Nat → Int32} {address : Nat → Int32} {status : Nat → Int32} {did : Nat → Int32} {ready : Nat → Int32} {timer : Nat → Int32} {trace : Nat → Int32} {r_0 : Int32} {r_1 : (Nat → Int32)} {r_2 : (Nat → Int32)} {r_3 : (Nat → Int32)} {r_4 : (Nat → Int32)} {r_5 : (Nat → Int32)} {r_6 : (Nat → Int32)} {r_7 : (Nat → Int32)} {N : Int} (hres : (r_0, r_1, r_2, r_3, r_4, r_5, r_6, r_7) = (f_X11_clock_55 register address status did ready timer trace l1)) (hN : N ≤ 2000000) (hd : ∀ j, j < 4 → 0 ≤ (did j).toInt ∧ (did j).toInt ≤ N) : ∀ j, j < 4 → 0 ≤ (r_4 j).toInt ∧ (r_4 j).toInt ≤ N + 1 := by
  rw [f_X11_clock_55] at hres
  obtain ⟨z1_0, z1_1, hz1⟩ := g_ex2 (f_X11_stop l1 status)
  replace hres : (r_0, r_1, r_2, r_3, r_4, r_5, r_6, r_7) = f_X11_clock_c57 register address did ready timer trace z1_0 z1_1 := hres.trans (by rw [← hz1])
  rw [f_X11_clock_c57] at hres
  cases hres
  exact (by first | exact hdz | exact d_keep hd)
theorem d_X11_clock_190 {l1 : Int32} {s1 : Int32} {s2 : Int32} {now : Int32} {register : Nat → Int32} {address : Nat → Int32} {status : Nat → Int32} {did : Nat → Int32} {ready : Nat → Int32} {timer : Nat → Int32} {trace : Nat → Int32} {r_0 : Int32} {r_1 : (Nat → Int32)} {r_2 : (Nat → Int32)} {r_3 : (Nat → Int32)} {r_4 : (Nat → Int32)} {r_5 : (Nat → Int32)} {r_6 : (Nat → Int32)} {r_7 : (Nat → Int32)} {N : Int} (hres : (r_0, r_1, r_2, r_3, r_4, r_5, r_6, r_7) = (f_X11_clock_190 now register address status did ready timer trace l1 s1 s2)) (hN : N ≤ 2000000) (hd : ∀ j, j < 4 → 0 ≤ (did j).toInt ∧ (did j).toInt ≤ N) : ∀ j, j < 4 → 0 ≤ (r_4 j).toInt ∧ (r_4 j).toInt ≤ N + 1 := by
  rw [f_X11_clock_190] at hres
  obtain ⟨z2_0, z2_1, z2_2, z2_3, z2_4, hz2⟩ := g_ex5 (f_X11_done l1 ((address (Int32.toNatClampNeg l1)) + (4 : Int32)) (now + (4 : Int32)) now address did ready trace)
  have hdz := d_X11_done hz2 hN hd
  replace hres : (r_0, r_1, r_2, r_3, r_4, r_5, r_6, r_7) = f_X11_clock_c207 register status timer s1 s2 z2_0 z2_1 z2_2 z2_3 z2_4 := hres.trans (by rw [← hz2])
  rw [f_X11_clock_c207] at hres
  cases hres
  exact (by first | exact hdz | exact d_keep hd)
theorem d_X11_clock_48 {l1 : Int32} {l2 : Int32} {l3 : Int32} {l4 : Int32} {l5 : Int32} {now : Int32} {register : Nat → Int32} {address : Nat → Int32} {status : Nat → Int32} {did : Nat → Int32} {ready : Nat → Int32} {timer : Nat → Int32} {trace : Nat → Int32} {r_0 : Int32} {r_1 : (Nat → Int32)} {r_2 : (Nat → Int32)} {r_3 : (Nat → Int32)} {r_4 : (Nat → Int32)} {r_5 : (Nat → Int32)} {r_6 : (Nat → Int32)} {r_7 : (Nat → Int32)} {N : Int} (hres : (r_0, r_1, r_2, r_3, r_4, r_5, r_6, r_7) = (f_X11_clock_48 now register address status did ready timer trace l1 l2 l3 l4 l5)) (hN : N ≤ 2000000) (hd : ∀ j, j < 4 → 0 ≤ (did j).toInt ∧ (did j).toInt ≤ N) : ∀ j, j < 4 → 0 ≤ (r_4 j).toInt ∧ (r_4 j).toInt ≤ N + 1 := by
  rw [f_X11_clock_48] at hres
  by_cases c52 : l4 ≤ (15 : Int32)
  · rw [if_pos c52] at hres
    by_cases c63 : l3 = (1 : Int32)
    · rw [if_pos c63] at hres
      obtain ⟨z3_0, hz3⟩ := g_ex1 (f_X11_set l1 l4 now register)
      replace hres : (r_0, r_1, r_2, r_3, r_4, r_5, r_6, r_7) = f_X11_clock_c74 now address status did ready timer trace l1 z3_0 := hres.trans (by rw [← hz3])
      rw [f_X11_clock_c74] at hres
      obtain ⟨z4_0, z4_1, z4_2, z4_3, z4_4, hz4⟩ := g_ex5 (f_X11_done l1 ((address (Int32.toNatClampNeg l1)) + (4 : Int32)) (now + (4 : Int32)) now address did ready trace)
      have hdz := d_X11_done hz4 hN hd
      replace hres : (r_0, r_1, r_2, r_3, r_4, r_5, r_6, r_7) = f_X11_clock_c93 status timer z3_0 z4_0 z4_1 z4_2 z4_3 z4_4 := hres.trans (by rw [← hz4])
      rw [f_X11_clock_c93] at hres
      cases hres
      exact (by first | exact hdz | exact d_keep hd)
    · rw [if_neg c63] at hres
      by_cases c112 : (timer (Int32.toNatClampNeg (((4 : Int32) * l1) + l4))) ≤ now
      · rw [if_pos c112] at hres
        by_cases c162 : 0 ≤ (lg_cmp (((Int32.toInt64 now) + (Int32.toInt64 (register (Int32.toNatClampNeg (((16 : Int32) * l1) + l5))))) + (Int32.toInt64 (l2 >>> ((20 : Int32) &&& 31)))) (Int32.toInt64 now))
        · rw [if_pos c162] at hres
          by_cases c178 : (lg_cmp (((Int32.toInt64 now) + (Int32.toInt64 (register (Int32.toNatClampNeg (((16 : Int32) * l1) + l5))))) + (Int32.toInt64 (l2 >>> ((20 : Int32) &&& 31)))) (2147483647 : Int64)) ≤ 0
          · rw [if_pos c178] at hres
            exact d_X11_clock_190 hres (by assumption) (by assumption)
          · rw [if_neg c178] at hres
            exact d_X11_clock_190 hres (by assumption) (by assumption)
        · rw [if_neg c162] at hres
          exact d_X11_clock_190 hres (by assumption) (by assumption)
      · rw [if_neg c112] at hres
        cases hres
        exact (by first | exact hdz | exact d_keep hd)
  · rw [if_neg c52] at hres
    exact d_X11_clock_55 hres (by assumption) (by assumption)
theorem d_X11_clock {t : Int32} {w : Int32} {now : Int32} {register : Nat → Int32} {address : Nat → Int32} {status : Nat → Int32} {did : Nat → Int32} {ready : Nat → Int32} {timer : Nat → Int32} {trace : Nat → Int32} {r_0 : Int32} {r_1 : (Nat → Int32)} {r_2 : (Nat → Int32)} {r_3 : (Nat → Int32)} {r_4 : (Nat → Int32)} {r_5 : (Nat → Int32)} {r_6 : (Nat → Int32)} {r_7 : (Nat → Int32)} {N : Int} (hres : (r_0, r_1, r_2, r_3, r_4, r_5, r_6, r_7) = f_X11_clock t w now register address status did ready timer trace) (hN : N ≤ 2000000) (hd : ∀ j, j < 4 → 0 ≤ (did j).toInt ∧ (did j).toInt ≤ N) : ∀ j, j < 4 → 0 ≤ (r_4 j).toInt ∧ (r_4 j).toInt ≤ N + 1 := by
  rw [f_X11_clock] at hres
  by_cases c28 : (1 : Int32) < ((w >>> ((12 : Int32) &&& 31)) &&& (7 : Int32))
  · rw [if_pos c28] at hres
    exact d_X11_clock_55 hres (by assumption) (by assumption)
  · rw [if_neg c28] at hres
    by_cases c32 : ((w >>> ((12 : Int32) &&& 31)) &&& (7 : Int32)) = 0
    · rw [if_pos c32] at hres
      by_cases c38 : (3 : Int32) < ((w >>> ((7 : Int32) &&& 31)) &&& (31 : Int32))
      · rw [if_pos c38] at hres
        exact d_X11_clock_55 hres (by assumption) (by assumption)
      · rw [if_neg c38] at hres
        by_cases c45 : (15 : Int32) < ((w >>> ((15 : Int32) &&& 31)) &&& (31 : Int32))
        · rw [if_pos c45] at hres
          exact d_X11_clock_55 hres (by assumption) (by assumption)
        · rw [if_neg c45] at hres
          exact d_X11_clock_48 hres (by assumption) (by assumption)
    · rw [if_neg c32] at hres
      exact d_X11_clock_48 hres (by assumption) (by assumption)
theorem d_X11_turn_45 {l1 : Int32} {store : Nat → Int32} {common : Nat → Int32} {register : Nat → Int32} {address : Nat → Int32} {status : Nat → Int32} {did : Nat → Int32} {ready : Nat → Int32} {timer : Nat → Int32} {trace : Nat → Int32} {r_0 : Int32} {r_1 : (Nat → Int32)} {r_2 : (Nat → Int32)} {r_3 : (Nat → Int32)} {r_4 : (Nat → Int32)} {r_5 : (Nat → Int32)} {r_6 : (Nat → Int32)} {r_7 : (Nat → Int32)} {r_8 : (Nat → Int32)} {r_9 : (Nat → Int32)} {N : Int} (hres : (r_0, r_1, r_2, r_3, r_4, r_5, r_6, r_7, r_8, r_9) = (f_X11_turn_45 store common register address status did ready timer trace l1)) (hN : N ≤ 2000000) (hd : ∀ j, j < 4 → 0 ≤ (did j).toInt ∧ (did j).toInt ≤ N) : ∀ j, j < 4 → 0 ≤ (r_6 j).toInt ∧ (r_6 j).toInt ≤ N + 1 := by
  rw [f_X11_turn_45] at hres
  obtain ⟨z1_0, z1_1, hz1⟩ := g_ex2 (f_X11_stop l1 status)
  replace hres : (r_0, r_1, r_2, r_3, r_4, r_5, r_6, r_7, r_8, r_9) = f_X11_turn_c47 store common register address did ready timer trace z1_0 z1_1 := hres.trans (by rw [← hz1])
  rw [f_X11_turn_c47] at hres
  cases hres
  exact (by first | exact hdz | exact d_keep hd)
theorem d_X11_turn {t : Int32} {wheel : Int32} {now : Int32} {store : Nat → Int32} {common : Nat → Int32} {low : Nat → Int32} {high : Nat → Int32} {register : Nat → Int32} {address : Nat → Int32} {status : Nat → Int32} {did : Nat → Int32} {ready : Nat → Int32} {timer : Nat → Int32} {trace : Nat → Int32} {r_0 : Int32} {r_1 : (Nat → Int32)} {r_2 : (Nat → Int32)} {r_3 : (Nat → Int32)} {r_4 : (Nat → Int32)} {r_5 : (Nat → Int32)} {r_6 : (Nat → Int32)} {r_7 : (Nat → Int32)} {r_8 : (Nat → Int32)} {r_9 : (Nat → Int32)} {N : Int} (hres : (r_0, r_1, r_2, r_3, r_4, r_5, r_6, r_7, r_8, r_9) = f_X11_turn t wheel now store common low high register address status did ready timer trace) (hN : N ≤ 2000000) (hd : ∀ j, j < 4 → 0 ≤ (did j).toInt ∧ (did j).toInt ≤ N) : ∀ j, j < 4 → 0 ≤ (r_6 j).toInt ∧ (r_6 j).toInt ≤ N + 1 := by
  rw [f_X11_turn] at hres
  by_cases c7 : (status (Int32.toNatClampNeg t)) = (1 : Int32)
  · rw [if_pos c7] at hres
    by_cases c20 : (ready (Int32.toNatClampNeg t)) ≤ now
    · rw [if_pos c20] at hres
      by_cases c35 : ((address (Int32.toNatClampNeg t)) &&& (3 : Int32)) = 0
      · rw [if_pos c35] at hres
        obtain ⟨z2_0, hz2⟩ := g_ex1 (f_X11_isOwn (address (Int32.toNatClampNeg t)))
        replace hres : (r_0, r_1, r_2, r_3, r_4, r_5, r_6, r_7, r_8, r_9) = f_X11_turn_c39 t wheel now store common low high register address status did ready timer trace z2_0 := hres.trans (by rw [← hz2])
        rw [f_X11_turn_c39] at hres
        by_cases c42 : z2_0 = 0
        · rw [if_pos c42] at hres
          exact d_X11_turn_45 hres (by assumption) (by assumption)
        · rw [if_neg c42] at hres
          by_cases c70_0 : ((store (Int32.toNatClampNeg (((128 : Int32) * t) + ((address (Int32.toNatClampNeg t)) / (4 : Int32))))) &&& (127 : Int32)) = (3 : Int32)
          · rw [if_pos c70_0] at hres
            obtain ⟨z3_0, z3_1, z3_2, z3_3, z3_4, z3_5, z3_6, z3_7, z3_8, hz3⟩ := g_ex9 (f_X11_moveWord t (store (Int32.toNatClampNeg (((128 : Int32) * t) + ((address (Int32.toNatClampNeg t)) / (4 : Int32))))) (0 : Int32) wheel now store common low high register address status did ready trace)
            have hdz := d_X11_moveWord hz3 hN hd
            replace hres : (r_0, r_1, r_2, r_3, r_4, r_5, r_6, r_7, r_8, r_9) = f_X11_turn_c231 timer z3_0 z3_1 z3_2 z3_3 z3_4 z3_5 z3_6 z3_7 z3_8 := hres.trans (by rw [← hz3])
            rw [f_X11_turn_c231] at hres
            cases hres
            exact (by first | exact hdz | exact d_keep hd)
          rw [if_neg c70_0] at hres
          by_cases c70_1 : ((store (Int32.toNatClampNeg (((128 : Int32) * t) + ((address (Int32.toNatClampNeg t)) / (4 : Int32))))) &&& (127 : Int32)) = (11 : Int32)
          · rw [if_pos c70_1] at hres
            obtain ⟨z4_0, z4_1, z4_2, z4_3, z4_4, z4_5, z4_6, z4_7, hz4⟩ := g_ex8 (f_X11_clock t (store (Int32.toNatClampNeg (((128 : Int32) * t) + ((address (Int32.toNatClampNeg t)) / (4 : Int32))))) now register address status did ready timer trace)
            have hdz := d_X11_clock hz4 hN hd
            replace hres : (r_0, r_1, r_2, r_3, r_4, r_5, r_6, r_7, r_8, r_9) = f_X11_turn_c262 store common z4_0 z4_1 z4_2 z4_3 z4_4 z4_5 z4_6 z4_7 := hres.trans (by rw [← hz4])
            rw [f_X11_turn_c262] at hres
            cases hres
            exact (by first | exact hdz | exact d_keep hd)
          rw [if_neg c70_1] at hres
          by_cases c70_2 : ((store (Int32.toNatClampNeg (((128 : Int32) * t) + ((address (Int32.toNatClampNeg t)) / (4 : Int32))))) &&& (127 : Int32)) = (19 : Int32)
          · rw [if_pos c70_2] at hres
            obtain ⟨z5_0, z5_1, z5_2, z5_3, z5_4, z5_5, z5_6, hz5⟩ := g_ex7 (f_X11_calculate t (store (Int32.toNatClampNeg (((128 : Int32) * t) + ((address (Int32.toNatClampNeg t)) / (4 : Int32))))) (0 : Int32) now register address status did ready trace)
            have hdz := d_X11_calculate hz5 hN hd
            replace hres : (r_0, r_1, r_2, r_3, r_4, r_5, r_6, r_7, r_8, r_9) = f_X11_turn_c247 store common timer z5_0 z5_1 z5_2 z5_3 z5_4 z5_5 z5_6 := hres.trans (by rw [← hz5])
            rw [f_X11_turn_c247] at hres
            cases hres
            exact (by first | exact hdz | exact d_keep hd)
          rw [if_neg c70_2] at hres
          by_cases c70_3 : ((store (Int32.toNatClampNeg (((128 : Int32) * t) + ((address (Int32.toNatClampNeg t)) / (4 : Int32))))) &&& (127 : Int32)) = (35 : Int32)
          · rw [if_pos c70_3] at hres
            obtain ⟨z6_0, z6_1, z6_2, z6_3, z6_4, z6_5, z6_6, z6_7, z6_8, hz6⟩ := g_ex9 (f_X11_moveWord t (store (Int32.toNatClampNeg (((128 : Int32) * t) + ((address (Int32.toNatClampNeg t)) / (4 : Int32))))) (1 : Int32) wheel now store common low high register address status did ready trace)
            have hdz := d_X11_moveWord hz6 hN hd
            replace hres : (r_0, r_1, r_2, r_3, r_4, r_5, r_6, r_7, r_8, r_9) = f_X11_turn_c239 timer z6_0 z6_1 z6_2 z6_3 z6_4 z6_5 z6_6 z6_7 z6_8 := hres.trans (by rw [← hz6])
            rw [f_X11_turn_c239] at hres
            cases hres
            exact (by first | exact hdz | exact d_keep hd)
          rw [if_neg c70_3] at hres
          by_cases c70_4 : ((store (Int32.toNatClampNeg (((128 : Int32) * t) + ((address (Int32.toNatClampNeg t)) / (4 : Int32))))) &&& (127 : Int32)) = (51 : Int32)
          · rw [if_pos c70_4] at hres
            obtain ⟨z7_0, z7_1, z7_2, z7_3, z7_4, z7_5, z7_6, hz7⟩ := g_ex7 (f_X11_calculate t (store (Int32.toNatClampNeg (((128 : Int32) * t) + ((address (Int32.toNatClampNeg t)) / (4 : Int32))))) (1 : Int32) now register address status did ready trace)
            have hdz := d_X11_calculate hz7 hN hd
            replace hres : (r_0, r_1, r_2, r_3, r_4, r_5, r_6, r_7, r_8, r_9) = f_X11_turn_c255 store common timer z7_0 z7_1 z7_2 z7_3 z7_4 z7_5 z7_6 := hres.trans (by rw [← hz7])
            rw [f_X11_turn_c255] at hres
            cases hres
            exact (by first | exact hdz | exact d_keep hd)
          rw [if_neg c70_4] at hres
          by_cases c70_5 : ((store (Int32.toNatClampNeg (((128 : Int32) * t) + ((address (Int32.toNatClampNeg t)) / (4 : Int32))))) &&& (127 : Int32)) = (55 : Int32)
          · rw [if_pos c70_5] at hres
            by_cases c161 : (((store (Int32.toNatClampNeg (((128 : Int32) * t) + ((address (Int32.toNatClampNeg t)) / (4 : Int32))))) >>> ((7 : Int32) &&& 31)) &&& (31 : Int32)) ≤ (15 : Int32)
            · rw [if_pos c161] at hres
              obtain ⟨z8_0, hz8⟩ := g_ex1 (f_X11_set t (((store (Int32.toNatClampNeg (((128 : Int32) * t) + ((address (Int32.toNatClampNeg t)) / (4 : Int32))))) >>> ((7 : Int32) &&& 31)) &&& (31 : Int32)) (((store (Int32.toNatClampNeg (((128 : Int32) * t) + ((address (Int32.toNatClampNeg t)) / (4 : Int32))))) >>> ((12 : Int32) &&& 31)) <<< ((12 : Int32) &&& 31)) register)
              replace hres : (r_0, r_1, r_2, r_3, r_4, r_5, r_6, r_7, r_8, r_9) = f_X11_turn_c186 t now store common address status did ready timer trace z8_0 := hres.trans (by rw [← hz8])
              rw [f_X11_turn_c186] at hres
              obtain ⟨z9_0, z9_1, z9_2, z9_3, z9_4, hz9⟩ := g_ex5 (f_X11_done t ((address (Int32.toNatClampNeg t)) + (4 : Int32)) (now + (4 : Int32)) now address did ready trace)
              have hdz := d_X11_done hz9 hN hd
              replace hres : (r_0, r_1, r_2, r_3, r_4, r_5, r_6, r_7, r_8, r_9) = f_X11_turn_c200 store common status timer z8_0 z9_0 z9_1 z9_2 z9_3 z9_4 := hres.trans (by rw [← hz9])
              rw [f_X11_turn_c200] at hres
              cases hres
              exact (by first | exact hdz | exact d_keep hd)
            · rw [if_neg c161] at hres
              obtain ⟨z10_0, z10_1, hz10⟩ := g_ex2 (f_X11_stop t status)
              replace hres : (r_0, r_1, r_2, r_3, r_4, r_5, r_6, r_7, r_8, r_9) = f_X11_turn_c166 store common register address did ready timer trace z10_0 z10_1 := hres.trans (by rw [← hz10])
              rw [f_X11_turn_c166] at hres
              cases hres
              exact (by first | exact hdz | exact d_keep hd)
          rw [if_neg c70_5] at hres
          by_cases c70_6 : ((store (Int32.toNatClampNeg (((128 : Int32) * t) + ((address (Int32.toNatClampNeg t)) / (4 : Int32))))) &&& (127 : Int32)) = (99 : Int32)
          · rw [if_pos c70_6] at hres
            obtain ⟨z11_0, z11_1, z11_2, z11_3, z11_4, z11_5, hz11⟩ := g_ex6 (f_X11_branch t (store (Int32.toNatClampNeg (((128 : Int32) * t) + ((address (Int32.toNatClampNeg t)) / (4 : Int32))))) now register address status did ready trace)
            have hdz := d_X11_branch hz11 hN hd
            replace hres : (r_0, r_1, r_2, r_3, r_4, r_5, r_6, r_7, r_8, r_9) = f_X11_turn_c223 store common register timer z11_0 z11_1 z11_2 z11_3 z11_4 z11_5 := hres.trans (by rw [← hz11])
            rw [f_X11_turn_c223] at hres
            cases hres
            exact (by first | exact hdz | exact d_keep hd)
          rw [if_neg c70_6] at hres
          by_cases c70_7 : ((store (Int32.toNatClampNeg (((128 : Int32) * t) + ((address (Int32.toNatClampNeg t)) / (4 : Int32))))) &&& (127 : Int32)) = (103 : Int32)
          · rw [if_pos c70_7] at hres
            obtain ⟨z12_0, z12_1, z12_2, z12_3, z12_4, z12_5, z12_6, hz12⟩ := g_ex7 (f_X11_jump t (store (Int32.toNatClampNeg (((128 : Int32) * t) + ((address (Int32.toNatClampNeg t)) / (4 : Int32))))) (1 : Int32) now register address status did ready trace)
            have hdz := d_X11_jump hz12 hN hd
            replace hres : (r_0, r_1, r_2, r_3, r_4, r_5, r_6, r_7, r_8, r_9) = f_X11_turn_c216 store common timer z12_0 z12_1 z12_2 z12_3 z12_4 z12_5 z12_6 := hres.trans (by rw [← hz12])
            rw [f_X11_turn_c216] at hres
            cases hres
            exact (by first | exact hdz | exact d_keep hd)
          rw [if_neg c70_7] at hres
          by_cases c70_8 : ((store (Int32.toNatClampNeg (((128 : Int32) * t) + ((address (Int32.toNatClampNeg t)) / (4 : Int32))))) &&& (127 : Int32)) = (111 : Int32)
          · rw [if_pos c70_8] at hres
            obtain ⟨z13_0, z13_1, z13_2, z13_3, z13_4, z13_5, z13_6, hz13⟩ := g_ex7 (f_X11_jump t (store (Int32.toNatClampNeg (((128 : Int32) * t) + ((address (Int32.toNatClampNeg t)) / (4 : Int32))))) (0 : Int32) now register address status did ready trace)
            have hdz := d_X11_jump hz13 hN hd
            replace hres : (r_0, r_1, r_2, r_3, r_4, r_5, r_6, r_7, r_8, r_9) = f_X11_turn_c208 store common timer z13_0 z13_1 z13_2 z13_3 z13_4 z13_5 z13_6 := hres.trans (by rw [← hz13])
            rw [f_X11_turn_c208] at hres
            cases hres
            exact (by first | exact hdz | exact d_keep hd)
          rw [if_neg c70_8] at hres
          by_cases c269 : (store (Int32.toNatClampNeg (((128 : Int32) * t) + ((address (Int32.toNatClampNeg t)) / (4 : Int32))))) = (115 : Int32)
          · rw [if_pos c269] at hres
            obtain ⟨z14_0, z14_1, z14_2, z14_3, z14_4, hz14⟩ := g_ex5 (f_X11_done t ((address (Int32.toNatClampNeg t)) + (4 : Int32)) (now + (4 : Int32)) now address did ready trace)
            have hdz := d_X11_done hz14 hN hd
            replace hres : (r_0, r_1, r_2, r_3, r_4, r_5, r_6, r_7, r_8, r_9) = f_X11_turn_c296 t store common register status timer z14_0 z14_1 z14_2 z14_3 z14_4 := hres.trans (by rw [← hz14])
            rw [f_X11_turn_c296] at hres
            cases hres
            exact (by first | exact hdz | exact d_keep hd)
          · rw [if_neg c269] at hres
            obtain ⟨z15_0, z15_1, hz15⟩ := g_ex2 (f_X11_stop t status)
            replace hres : (r_0, r_1, r_2, r_3, r_4, r_5, r_6, r_7, r_8, r_9) = f_X11_turn_c274 store common register address did ready timer trace z15_0 z15_1 := hres.trans (by rw [← hz15])
            rw [f_X11_turn_c274] at hres
            cases hres
            exact (by first | exact hdz | exact d_keep hd)
      · rw [if_neg c35] at hres
        exact d_X11_turn_45 hres (by assumption) (by assumption)
    · rw [if_neg c20] at hres
      cases hres
      exact (by first | exact hdz | exact d_keep hd)
  · rw [if_neg c7] at hres
    cases hres
    exact (by first | exact hdz | exact d_keep hd)
abbrev M_X11_run : g_M := (cX11_run, 4, RX11, (some .int), { frames := 4, cells := 0, slots := 0, locals := 99 }, 0, 0)
theorem dm_X11_run_0 : decode M_X11_run.1 0 = .ok (.aload_n 0, 1) := by decide +kernel
theorem dm_X11_run_1 : decode M_X11_run.1 1 = .ok (.iconst 0, 1) := by decide +kernel
theorem dm_X11_run_2 : decode M_X11_run.1 2 = .ok (.putfield 70, 3) := by decide +kernel
theorem dm_X11_run_5 : decode M_X11_run.1 5 = .ok (.iload_n 1, 1) := by decide +kernel
theorem dm_X11_run_6 : decode M_X11_run.1 6 = .ok (.ifCond .lt 10, 3) := by decide +kernel
theorem dm_X11_run_9 : decode M_X11_run.1 9 = .ok (.iload_n 1, 1) := by decide +kernel
theorem dm_X11_run_10 : decode M_X11_run.1 10 = .ok (.sipush 2000, 3) := by decide +kernel
theorem dm_X11_run_13 : decode M_X11_run.1 13 = .ok (.if_icmp .le 5, 3) := by decide +kernel
theorem dm_X11_run_16 : decode M_X11_run.1 16 = .ok (.iconst (-1), 1) := by decide +kernel
theorem dm_X11_run_17 : decode M_X11_run.1 17 = .ok (.ireturn, 1) := by decide +kernel
theorem dm_X11_run_18 : decode M_X11_run.1 18 = .ok (.iconst 0, 1) := by decide +kernel
theorem dm_X11_run_19 : decode M_X11_run.1 19 = .ok (.istore_n 2, 1) := by decide +kernel
theorem dm_X11_run_20 : decode M_X11_run.1 20 = .ok (.iconst 0, 1) := by decide +kernel
theorem dm_X11_run_21 : decode M_X11_run.1 21 = .ok (.istore_n 3, 1) := by decide +kernel
theorem dm_X11_run_22 : decode M_X11_run.1 22 = .ok (.iload_n 3, 1) := by decide +kernel
theorem dm_X11_run_23 : decode M_X11_run.1 23 = .ok (.iload_n 1, 1) := by decide +kernel
theorem dm_X11_run_24 : decode M_X11_run.1 24 = .ok (.if_icmp .ge 32, 3) := by decide +kernel
theorem dm_X11_run_27 : decode M_X11_run.1 27 = .ok (.iload_n 2, 1) := by decide +kernel
theorem dm_X11_run_28 : decode M_X11_run.1 28 = .ok (.aload_n 0, 1) := by decide +kernel
theorem dm_X11_run_29 : decode M_X11_run.1 29 = .ok (.aload_n 0, 1) := by decide +kernel
theorem dm_X11_run_30 : decode M_X11_run.1 30 = .ok (.getfield 291, 3) := by decide +kernel
theorem dm_X11_run_33 : decode M_X11_run.1 33 = .ok (.iconst 4, 1) := by decide +kernel
theorem dm_X11_run_34 : decode M_X11_run.1 34 = .ok (.irem, 1) := by decide +kernel
theorem dm_X11_run_35 : decode M_X11_run.1 35 = .ok (.invokevirtual 349, 3) := by decide +kernel
theorem dm_X11_run_38 : decode M_X11_run.1 38 = .ok (.iadd, 1) := by decide +kernel
theorem dm_X11_run_39 : decode M_X11_run.1 39 = .ok (.istore_n 2, 1) := by decide +kernel
theorem dm_X11_run_40 : decode M_X11_run.1 40 = .ok (.aload_n 0, 1) := by decide +kernel
theorem dm_X11_run_41 : decode M_X11_run.1 41 = .ok (.dup, 1) := by decide +kernel
theorem dm_X11_run_42 : decode M_X11_run.1 42 = .ok (.getfield 291, 3) := by decide +kernel
theorem dm_X11_run_45 : decode M_X11_run.1 45 = .ok (.iconst 1, 1) := by decide +kernel
theorem dm_X11_run_46 : decode M_X11_run.1 46 = .ok (.iadd, 1) := by decide +kernel
theorem dm_X11_run_47 : decode M_X11_run.1 47 = .ok (.putfield 291, 3) := by decide +kernel
theorem dm_X11_run_50 : decode M_X11_run.1 50 = .ok (.iinc 3 1, 3) := by decide +kernel
theorem dm_X11_run_53 : decode M_X11_run.1 53 = .ok (.goto (-31), 3) := by decide +kernel
theorem dm_X11_run_56 : decode M_X11_run.1 56 = .ok (.iload_n 2, 1) := by decide +kernel
theorem dm_X11_run_57 : decode M_X11_run.1 57 = .ok (.ireturn, 1) := by decide +kernel
theorem gc_X11_run_349 : g_cv M_X11_run 349 M_X11_turn yX11_turn 1 := ⟨tw766, tw767, tw768, tw5, tw769, ⟨rfl, rfl, rfl, rfl⟩, gd_X11_turn, ⟨by decide, by decide⟩⟩
def f_X11_run_c35 (refusal : Int32) (now : Int32) (l1 : Int32) (l2 : Int32) (l3 : Int32) (kL22 : Int32 → Int32 → Int32 → Int32 → Int32 → (Nat → Int32) → (Nat → Int32) → (Nat → Int32) → (Nat → Int32) → (Nat → Int32) → (Nat → Int32) → (Nat → Int32) → (Nat → Int32) → (Nat → Int32) → Int32 × Int32 × Int32 × (Nat → Int32) × (Nat → Int32) × (Nat → Int32) × (Nat → Int32) × (Nat → Int32) × (Nat → Int32) × (Nat → Int32) × (Nat → Int32) × (Nat → Int32)) (z1_0 : Int32) (z1_1 : (Nat → Int32)) (z1_2 : (Nat → Int32)) (z1_3 : (Nat → Int32)) (z1_4 : (Nat → Int32)) (z1_5 : (Nat → Int32)) (z1_6 : (Nat → Int32)) (z1_7 : (Nat → Int32)) (z1_8 : (Nat → Int32)) (z1_9 : (Nat → Int32)) : Int32 × Int32 × Int32 × (Nat → Int32) × (Nat → Int32) × (Nat → Int32) × (Nat → Int32) × (Nat → Int32) × (Nat → Int32) × (Nat → Int32) × (Nat → Int32) × (Nat → Int32) := (kL22 l1 (l2 + z1_0) (l3 + (1 : Int32)) refusal (now + (1 : Int32)) z1_1 z1_2 z1_3 z1_4 z1_5 z1_6 z1_7 z1_8 z1_9)
def f_X11_run_22 (wheel : Int32) (low : Nat → Int32) (high : Nat → Int32) : Nat → Int32 → Int32 → Int32 → Int32 → Int32 → (Nat → Int32) → (Nat → Int32) → (Nat → Int32) → (Nat → Int32) → (Nat → Int32) → (Nat → Int32) → (Nat → Int32) → (Nat → Int32) → (Nat → Int32) → Int32 × Int32 × Int32 × (Nat → Int32) × (Nat → Int32) × (Nat → Int32) × (Nat → Int32) × (Nat → Int32) × (Nat → Int32) × (Nat → Int32) × (Nat → Int32) × (Nat → Int32)
  | 0, l1, l2, l3, refusal, now, store, common, register, address, status, did, ready, timer, trace => (0, refusal, now, store, common, register, address, status, did, ready, timer, trace)
  | n + 1, l1, l2, l3, refusal, now, store, common, register, address, status, did, ready, timer, trace => (if l1 ≤ l3 then (l2, refusal, now, store, common, register, address, status, did, ready, timer, trace) else (f_X11_run_c35 refusal now l1 l2 l3 (f_X11_run_22 wheel low high n) (f_X11_turn (now - now / (4 : Int32) * (4 : Int32)) wheel now store common low high register address status did ready timer trace).1 (f_X11_turn (now - now / (4 : Int32) * (4 : Int32)) wheel now store common low high register address status did ready timer trace).2.1 (f_X11_turn (now - now / (4 : Int32) * (4 : Int32)) wheel now store common low high register address status did ready timer trace).2.2.1 (f_X11_turn (now - now / (4 : Int32) * (4 : Int32)) wheel now store common low high register address status did ready timer trace).2.2.2.1 (f_X11_turn (now - now / (4 : Int32) * (4 : Int32)) wheel now store common low high register address status did ready timer trace).2.2.2.2.1 (f_X11_turn (now - now / (4 : Int32) * (4 : Int32)) wheel now store common low high register address status did ready timer trace).2.2.2.2.2.1 (f_X11_turn (now - now / (4 : Int32) * (4 : Int32)) wheel now store common low high register address status did ready timer trace).2.2.2.2.2.2.1 (f_X11_turn (now - now / (4 : Int32) * (4 : Int32)) wheel now store common low high register address status did ready timer trace).2.2.2.2.2.2.2.1 (f_X11_turn (now - now / (4 : Int32) * (4 : Int32)) wheel now store common low high register address status did ready timer trace).2.2.2.2.2.2.2.2.1 (f_X11_turn (now - now / (4 : Int32) * (4 : Int32)) wheel now store common low high register address status did ready timer trace).2.2.2.2.2.2.2.2.2))
set_option maxRecDepth 20000 in
theorem j_X11_run_22 : ∀ (n : Nat) {l1 : Int32} {l2 : Int32} {l3 : Int32} {refusal : Int32} {wheel : Int32} {now : Int32} {length : Int32} {at_ : Int32} {fault : Int32} {faultLine : Int32} {line : Int32} {words : Int32} {labels : Int32} {targets : Int32} {wrong : Int32} {unfit : Int32} {text : Nat → Int32} {code_ : Nat → Int32} {label : Nat → Int64} {labelWord : Nat → Int32} {target : Nat → Int64} {targetWord : Nat → Int32} {targetLine : Nat → Int32} {store : Nat → Int32} {common : Nat → Int32} {low : Nat → Int32} {high : Nat → Int32} {register : Nat → Int32} {address : Nat → Int32} {status : Nat → Int32} {did : Nat → Int32} {ready : Nat → Int32} {timer : Nat → Int32} {trace : Nat → Int32} {r_0 : Int32} {r_1 : Int32} {r_2 : Int32} {r_3 : (Nat → Int32)} {r_4 : (Nat → Int32)} {r_5 : (Nat → Int32)} {r_6 : (Nat → Int32)} {r_7 : (Nat → Int32)} {r_8 : (Nat → Int32)} {r_9 : (Nat → Int32)} {r_10 : (Nat → Int32)} {r_11 : (Nat → Int32)}, (hlh : ∀ j, j < 4 → 0 ≤ (low j).toInt ∧ (low j).toInt ≤ (high j).toInt ∧ (high j).toInt ≤ 64) → (hwh : 1 ≤ wheel.toInt ∧ wheel.toInt ≤ 8) → (hn : l1.toInt ≤ 2000) → (h3 : 0 ≤ l3.toInt ∧ l3.toInt ≤ l1.toInt) → (hnow : 0 ≤ now.toInt ∧ now.toInt + (l1.toInt - l3.toInt) ≤ 1100000) → (hd : ∀ j, j < 4 → 0 ≤ (did j).toInt ∧ (did j).toInt ≤ now.toInt) → (2000 - l3.toInt.toNat) < n → (r_0, r_1, r_2, r_3, r_4, r_5, r_6, r_7, r_8, r_9, r_10, r_11) = f_X11_run_22 wheel low high n l1 l2 l3 refusal now store common register address status did ready timer trace → G M_X11_run 0 0 22 [(0, .ref 0), (1, .int l1), (2, .int l2), (3, .int l3)] [] (w_M refusal wheel now length at_ fault faultLine line words labels targets wrong unfit text code_ label labelWord target targetWord targetLine store common low high register address status did ready timer trace) (some (.int r_0)) (w_M r_1 wheel r_2 length at_ fault faultLine line words labels targets wrong unfit text code_ label labelWord target targetWord targetLine r_3 r_4 low high r_5 r_6 r_7 r_8 r_9 r_10 r_11) := by
  intro n
  induction n with
  | zero =>
    intro l1 l2 l3 refusal wheel now length at_ fault faultLine line words labels targets wrong unfit text code_ label labelWord target targetWord targetLine store common low high register address status did ready timer trace r_0 r_1 r_2 r_3 r_4 r_5 r_6 r_7 r_8 r_9 r_10 r_11 hlh hwh hn h3 hnow hd hm hres
    exact absurd hm (Nat.not_lt_zero _)
  | succ n ih =>
    intro l1 l2 l3 refusal wheel now length at_ fault faultLine line words labels targets wrong unfit text code_ label labelWord target targetWord targetLine store common low high register address status did ready timer trace r_0 r_1 r_2 r_3 r_4 r_5 r_6 r_7 r_8 r_9 r_10 r_11 hlh hwh hn h3 hnow hd hm hres
    obtain ⟨mu, hmu⟩ : ∃ z, (2000 - l3.toInt.toNat) = z := ⟨_, rfl⟩
    rw [hmu] at hm
    have hk22 : ∀ {l1 : Int32} {l2 : Int32} {l3 : Int32} {refusal : Int32} {now : Int32} {store : Nat → Int32} {common : Nat → Int32} {register : Nat → Int32} {address : Nat → Int32} {status : Nat → Int32} {did : Nat → Int32} {ready : Nat → Int32} {timer : Nat → Int32} {trace : Nat → Int32}, (∀ j, j < 4 → 0 ≤ (low j).toInt ∧ (low j).toInt ≤ (high j).toInt ∧ (high j).toInt ≤ 64) → (1 ≤ wheel.toInt ∧ wheel.toInt ≤ 8) → (l1.toInt ≤ 2000) → (0 ≤ l3.toInt ∧ l3.toInt ≤ l1.toInt) → (0 ≤ now.toInt ∧ now.toInt + (l1.toInt - l3.toInt) ≤ 1100000) → (∀ j, j < 4 → 0 ≤ (did j).toInt ∧ (did j).toInt ≤ now.toInt) → (2000 - l3.toInt.toNat) < mu → (r_0, r_1, r_2, r_3, r_4, r_5, r_6, r_7, r_8, r_9, r_10, r_11) = (f_X11_run_22 wheel low high n) l1 l2 l3 refusal now store common register address status did ready timer trace → G M_X11_run 0 0 22 [(0, .ref 0), (1, .int l1), (2, .int l2), (3, .int l3)] [] (w_M refusal wheel now length at_ fault faultLine line words labels targets wrong unfit text code_ label labelWord target targetWord targetLine store common low high register address status did ready timer trace) (some (.int r_0)) (w_M r_1 wheel r_2 length at_ fault faultLine line words labels targets wrong unfit text code_ label labelWord target targetWord targetLine r_3 r_4 low high r_5 r_6 r_7 r_8 r_9 r_10 r_11) := fun hlh hwh hn h3 hnow hd hlt he => ih hlh hwh hn h3 hnow hd (Nat.lt_of_lt_of_le hlt (Nat.le_of_lt_succ hm)) he
    rw [f_X11_run_22] at hres
    refine G.iload_n (pc := 22) dm_X11_run_22 rfl ?_
    refine G.iload_n (pc := 23) dm_X11_run_23 rfl ?_
    refine G.icmp_ge (pc := 24) (tgt := 56) dm_X11_run_24 (by decide) (fun c24 => ?_) (fun c24 => ?_)
    · rw [if_pos c24] at hres
      refine G.iload_n (pc := 56) dm_X11_run_56 rfl ?_
      cases hres
      exact G.ireturn (pc := 57) dm_X11_run_57 rfl rfl rfl
    · rw [if_neg c24] at hres
      have hlt := q_nle c24
      refine G.iload_n (pc := 27) dm_X11_run_27 rfl ?_
      refine G.aload_n (pc := 28) dm_X11_run_28 rfl ?_
      refine G.aload_n (pc := 29) dm_X11_run_29 rfl ?_
      refine G.getfield (pc := 30) dm_X11_run_30 gf_X11_291 rfl rfl ?_
      refine G.iconst (pc := 33) (v := (4 : Int32)) dm_X11_run_33 qi_4 ?_
      refine G.irem (pc := 34) dm_X11_run_34 (by decide) ?_
      obtain ⟨z1_0, z1_1, z1_2, z1_3, z1_4, z1_5, z1_6, z1_7, z1_8, z1_9, hz1⟩ := g_ex10 (f_X11_turn (now - now / (4 : Int32) * (4 : Int32)) wheel now store common low high register address status did ready timer trace)
      refine G.callV0 (pc := 35) (rest := [.int l2]) (st1 := [.int z1_0, .int l2]) dm_X11_run_35 gc_X11_run_349 (k_X11_turn (t := (now - now / (4 : Int32) * (4 : Int32))) (refusal := refusal) (wheel := wheel) (now := now) (length := length) (at_ := at_) (fault := fault) (faultLine := faultLine) (line := line) (words := words) (labels := labels) (targets := targets) (wrong := wrong) (unfit := unfit) (text := text) (code_ := code_) (label := label) (labelWord := labelWord) (target := target) (targetWord := targetWord) (targetLine := targetLine) (store := store) (common := common) (low := low) (high := high) (register := register) (address := address) (status := status) (did := did) (ready := ready) (timer := timer) (trace := trace) (q_m4 hnow.1) (fun j hj => (hd j hj).1) hlh hwh ⟨hnow.1, by omega⟩ hz1) rfl rfl rfl rfl rfl rfl rfl rfl ?_
      have hd := d_X11_turn (N := now.toInt) hz1 (by omega) hd
      replace hres : (r_0, r_1, r_2, r_3, r_4, r_5, r_6, r_7, r_8, r_9, r_10, r_11) = f_X11_run_c35 refusal now l1 l2 l3 (f_X11_run_22 wheel low high n) z1_0 z1_1 z1_2 z1_3 z1_4 z1_5 z1_6 z1_7 z1_8 z1_9 := hres.trans (by rw [← hz1])
      rw [f_X11_run_c35] at hres
      refine G.iadd (pc := 38) dm_X11_run_38 ?_
      refine G.istore_n (pc := 39) (lv1 := [(2, .int (l2 + z1_0)), (0, .ref 0), (1, .int l1), (3, .int l3)]) dm_X11_run_39 rfl rfl ?_
      refine G.aload_n (pc := 40) dm_X11_run_40 rfl ?_
      refine G.dup (pc := 41) dm_X11_run_41 rfl ?_
      refine G.getfield (pc := 42) dm_X11_run_42 gf_X11_291 rfl rfl ?_
      refine G.iconst (pc := 45) (v := (1 : Int32)) dm_X11_run_45 qi_1 ?_
      refine G.iadd (pc := 46) dm_X11_run_46 ?_
      refine G.putfield (pc := 47) (ws1 := (w_M refusal wheel (now + (1 : Int32)) length at_ fault faultLine line words labels targets wrong unfit text code_ label labelWord target targetWord targetLine z1_1 z1_2 low high z1_3 z1_4 z1_5 z1_6 z1_7 z1_8 z1_9)) dm_X11_run_47 gw_X11_291 rfl (g_fit_i _) rfl rfl ?_
      refine G.iinc (pc := 50) (v := (l3 + (1 : Int32))) (lv1 := [(3, .int (l3 + (1 : Int32))), (2, .int (l2 + z1_0)), (0, .ref 0), (1, .int l1)]) dm_X11_run_50 rfl rfl rfl rfl ?_
      refine G.goto (pc := 53) (tgt := 22) dm_X11_run_53 (by decide) ?_
      refine G.lvp [2, 3, 1, 0] rfl ?_
      exact hk22 hlh hwh hn (by rw [q_inc (by omega)]; omega) (by rw [q_inc (by omega), q_inc (by omega)]; omega) (by rw [q_inc (by omega)]; exact hd) (by rw [q_inc (by omega)]; omega) hres
def f_X11_run (n : Int32) (wheel : Int32) (now : Int32) (store : Nat → Int32) (common : Nat → Int32) (low : Nat → Int32) (high : Nat → Int32) (register : Nat → Int32) (address : Nat → Int32) (status : Nat → Int32) (did : Nat → Int32) (ready : Nat → Int32) (timer : Nat → Int32) (trace : Nat → Int32) : Int32 × Int32 × Int32 × (Nat → Int32) × (Nat → Int32) × (Nat → Int32) × (Nat → Int32) × (Nat → Int32) × (Nat → Int32) × (Nat → Int32) × (Nat → Int32) × (Nat → Int32) := (if n < 0 then ((-1 : Int32), (0 : Int32), now, store, common, register, address, status, did, ready, timer, trace) else (if n ≤ (2000 : Int32) then (f_X11_run_22 wheel low high (2001) n (0 : Int32) (0 : Int32) (0 : Int32) now store common register address status did ready timer trace) else ((-1 : Int32), (0 : Int32), now, store, common, register, address, status, did, ready, timer, trace)))
set_option maxRecDepth 20000 in
theorem k_X11_run {n : Int32} {refusal : Int32} {wheel : Int32} {now : Int32} {length : Int32} {at_ : Int32} {fault : Int32} {faultLine : Int32} {line : Int32} {words : Int32} {labels : Int32} {targets : Int32} {wrong : Int32} {unfit : Int32} {text : Nat → Int32} {code_ : Nat → Int32} {label : Nat → Int64} {labelWord : Nat → Int32} {target : Nat → Int64} {targetWord : Nat → Int32} {targetLine : Nat → Int32} {store : Nat → Int32} {common : Nat → Int32} {low : Nat → Int32} {high : Nat → Int32} {register : Nat → Int32} {address : Nat → Int32} {status : Nat → Int32} {did : Nat → Int32} {ready : Nat → Int32} {timer : Nat → Int32} {trace : Nat → Int32} (hlh : ∀ j, j < 4 → 0 ≤ (low j).toInt ∧ (low j).toInt ≤ (high j).toInt ∧ (high j).toInt ≤ 64) (hwh : 1 ≤ wheel.toInt ∧ wheel.toInt ≤ 8) (hnow : 0 ≤ now.toInt ∧ now.toInt ≤ 1098000) (hd : ∀ j, j < 4 → 0 ≤ (did j).toInt ∧ (did j).toInt ≤ now.toInt) {r_0 : Int32} {r_1 : Int32} {r_2 : Int32} {r_3 : (Nat → Int32)} {r_4 : (Nat → Int32)} {r_5 : (Nat → Int32)} {r_6 : (Nat → Int32)} {r_7 : (Nat → Int32)} {r_8 : (Nat → Int32)} {r_9 : (Nat → Int32)} {r_10 : (Nat → Int32)} {r_11 : (Nat → Int32)} (hres : (r_0, r_1, r_2, r_3, r_4, r_5, r_6, r_7, r_8, r_9, r_10, r_11) = f_X11_run n wheel now store common low high register address status did ready timer trace) : K M_X11_run yX11_run [.ref 0, .int n] (w_M refusal wheel now length at_ fault faultLine line words labels targets wrong unfit text code_ label labelWord target targetWord targetLine store common low high register address status did ready timer trace) (some (.int r_0)) (w_M r_1 wheel r_2 length at_ fault faultLine line words labels targets wrong unfit text code_ label labelWord target targetWord targetLine r_3 r_4 low high r_5 r_6 r_7 r_8 r_9 r_10 r_11) := by
  refine K.of (lv := [(0, .ref 0), (1, .int n)]) (by decide +kernel) rfl rfl rfl ?_
  rw [f_X11_run] at hres
  refine G.aload_n (pc := 0) dm_X11_run_0 rfl ?_
  refine G.iconst (pc := 1) (v := (0 : Int32)) dm_X11_run_1 qi_0 ?_
  refine G.putfield (pc := 2) (ws1 := (w_M (0 : Int32) wheel now length at_ fault faultLine line words labels targets wrong unfit text code_ label labelWord target targetWord targetLine store common low high register address status did ready timer trace)) dm_X11_run_2 gw_X11_70 rfl (g_fit_i _) rfl rfl ?_
  refine G.iload_n (pc := 5) dm_X11_run_5 rfl ?_
  refine G.if_lt (pc := 6) (tgt := 16) dm_X11_run_6 (by decide) (fun c6 => ?_) (fun c6 => ?_)
  · rw [if_pos c6] at hres
    refine G.iconst (pc := 16) (v := (-1 : Int32)) dm_X11_run_16 qi_m1 ?_
    cases hres
    exact G.ireturn (pc := 17) dm_X11_run_17 rfl rfl rfl
  · rw [if_neg c6] at hres
    refine G.iload_n (pc := 9) dm_X11_run_9 rfl ?_
    refine G.sipush (pc := 10) (v := (2000 : Int32)) dm_X11_run_10 qs_2000 ?_
    refine G.icmp_le (pc := 13) (tgt := 18) dm_X11_run_13 (by decide) (fun c13 => ?_) (fun c13 => ?_)
    · rw [if_pos c13] at hres
      refine G.iconst (pc := 18) (v := (0 : Int32)) dm_X11_run_18 qi_0 ?_
      refine G.istore_n (pc := 19) (lv1 := [(2, .int (0 : Int32)), (0, .ref 0), (1, .int n)]) dm_X11_run_19 rfl rfl ?_
      refine G.iconst (pc := 20) (v := (0 : Int32)) dm_X11_run_20 qi_0 ?_
      refine G.istore_n (pc := 21) (lv1 := [(3, .int (0 : Int32)), (2, .int (0 : Int32)), (0, .ref 0), (1, .int n)]) dm_X11_run_21 rfl rfl ?_
      refine G.lvp [2, 3, 1, 0] rfl ?_
      exact j_X11_run_22 _ hlh hwh (q_run1 c13) ⟨by decide, q_nlt c6⟩ ⟨hnow.1, q_run2 hnow (q_run1 c13)⟩ hd (by decide) hres
    · rw [if_neg c13] at hres
      refine G.iconst (pc := 16) (v := (-1 : Int32)) dm_X11_run_16 qi_m1 ?_
      cases hres
      exact G.ireturn (pc := 17) dm_X11_run_17 rfl rfl rfl
