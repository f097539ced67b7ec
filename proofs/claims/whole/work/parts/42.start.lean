theorem gn_L_8 : g_new RL 8 7 5 [.null, .null, .null, .null, .int 0] := ⟨_, _, tyX10, rfl, tin_wsX100, tyX10_ok, tw0, tw1, tw2, by decide +kernel⟩
theorem gn_L_32 : g_new RL 32 8 31 [.int 0, .int 0, .int 0, .null, .int 0, .int 0, .int 0, .int 0, .int 0, .int 0, .int 0, .int 0, .int 0, .int 0, .null, .null, .null, .null, .null, .null, .null, .null, .null, .null, .null, .null, .null, .null, .null, .null, .null] := ⟨_, _, tyX11, rfl, tin_wsX110, tyX11_ok, tw3, tw4, tw5, by decide +kernel⟩
theorem gd_X10_init : yX10_init.cls ≠ "java/lang/invoke/MethodHandle" ∧ yX10_init.cls ≠ "java/lang/invoke/VarHandle" ∧ (parseMethodDescriptor yX10_init.desc).map (fun d => d.parameters.length) = some 1 := ⟨by decide, by decide, by decide +kernel⟩
theorem gci_L_law_29 : g_cd M_L_law M_X10_init yX10_init 1 := ⟨tw13, tw2, tw14, rfl, rfl, ⟨rfl, rfl, by decide⟩, gd_X10_init, ⟨by decide, by decide⟩⟩
theorem gd_X11_init : yX11_init.cls ≠ "java/lang/invoke/MethodHandle" ∧ yX11_init.cls ≠ "java/lang/invoke/VarHandle" ∧ (parseMethodDescriptor yX11_init.desc).map (fun d => d.parameters.length) = some 1 := ⟨by decide, by decide, by decide +kernel⟩
theorem gci_L_law_34 : g_cd M_L_law M_X11_init yX11_init 1 := ⟨tw100, tw5, tw101, rfl, rfl, ⟨rfl, rfl, by decide⟩, gd_X11_init, ⟨by decide, by decide⟩⟩
theorem g_ek_mono {b b1 : Nat} (h : b ≤ b1) {e : va_E} (he : g_ek b e) : g_ek b1 e := by
  rcases e with ⟨t, n, x⟩ | ⟨ci, fs⟩
  · rcases x with x | x | x | x | f <;> try trivial
    exact fun j i hj => (he j i hj).imp (fun z => Nat.lt_of_lt_of_le z h) id
  · have he : fs.all (g_vk b) = true := he
    show fs.all (g_vk b1) = true
    rw [List.all_eq_true] at he ⊢
    intro v hv
    have h9 := he v hv
    cases v <;> try rfl
    simp only [g_vk, Bool.or_eq_true] at h9 ⊢
    exact h9.imp (fun z => Nat.ble_eq_true_of_le (Nat.le_trans (Nat.le_of_ble_eq_true z) h)) id
theorem g_eks_mono {b b1 : Nat} (h : b ≤ b1) : ∀ {ws : List va_E}, g_eks b ws → g_eks b1 ws
  | [], _ => trivial
  | _ :: _, hw => ⟨g_ek_mono h hw.1, g_eks_mono h hw.2⟩
theorem g_eks_app {b : Nat} : ∀ {u v : List va_E}, g_eks b u → g_eks b v → g_eks b (u ++ v)
  | [], _, _, h => h
  | _ :: _, _, h1, h2 => ⟨h1.1, g_eks_app h1.2 h2⟩
theorem g_sf0 : g_sf 0 = fun j => j := by
  funext j
  unfold g_sf
  by_cases h : j < 1000
  · rw [if_pos h]; omega
  · rw [if_neg h]
theorem g_sf0L (l : List va_E) : l.map (g_te (g_sf 0) (fun x => x)) = l := by
  rw [g_sf0]
  have : l.map (g_te (fun j => j) (fun x => x)) = l.map id := List.map_congr_left (fun e _ => g_te_id e)
  rw [this, List.map_id]
theorem ekC (w : Int32) : g_eks 48 (w0_X10_init w) := by
  show g_eks 48 [.inr (7, [.ref 1, .ref 3, .ref 36, .ref 38, .int 0]), .inr (3, [.ref 2, .int w]), .inl (1, 64, .inl (fun _ => 0)), .inl (3, 4, .inr (.inr (.inr (.inr (va_up (va_up (va_up (va_up (fun _ => none) 0 (some 4)) 1 (some 12)) 2 (some 20)) 3 (some 28)))))), .inr (5, [.ref 5, .ref 6, .ref 7, .int 0, .int 0, .int (0 : Int32), .ref 11, .int (0 : Int32), .int 0, .int 0, .int 0, .int 0]), .inl (1, 16, .inl (fun _ => 0)), .inl (1, 128, .inl (fun _ => 0)), .inr (1, [.int 0, .ref 8, .ref 9, .ref 10]), .inl (1, 16, .inl (fun _ => 0)), .inl (1, 16, .inl (fun _ => 0)), .inl (1, 16, .inl (fun _ => 0)), .inl (1, 4, .inl (fun _ => 0)), .inr (5, [.ref 13, .ref 14, .ref 15, .int 0, .int 0, .int (1 : Int32), .ref 19, .int (0 : Int32), .int 0, .int 0, .int 0, .int 0]), .inl (1, 16, .inl (fun _ => 0)), .inl (1, 128, .inl (fun _ => 0)), .inr (1, [.int 0, .ref 16, .ref 17, .ref 18]), .inl (1, 16, .inl (fun _ => 0)), .inl (1, 16, .inl (fun _ => 0)), .inl (1, 16, .inl (fun _ => 0)), .inl (1, 4, .inl (fun _ => 0)), .inr (5, [.ref 21, .ref 22, .ref 23, .int 0, .int 0, .int (2 : Int32), .ref 27, .int (0 : Int32), .int 0, .int 0, .int 0, .int 0]), .inl (1, 16, .inl (fun _ => 0)), .inl (1, 128, .inl (fun _ => 0)), .inr (1, [.int 0, .ref 24, .ref 25, .ref 26]), .inl (1, 16, .inl (fun _ => 0)), .inl (1, 16, .inl (fun _ => 0)), .inl (1, 16, .inl (fun _ => 0)), .inl (1, 4, .inl (fun _ => 0)), .inr (5, [.ref 29, .ref 30, .ref 31, .int 0, .int 0, .int (3 : Int32), .ref 35, .int (0 : Int32), .int 0, .int 0, .int 0, .int 0]), .inl (1, 16, .inl (fun _ => 0)), .inl (1, 128, .inl (fun _ => 0)), .inr (1, [.int 0, .ref 32, .ref 33, .ref 34]), .inl (1, 16, .inl (fun _ => 0)), .inl (1, 16, .inl (fun _ => 0)), .inl (1, 16, .inl (fun _ => 0)), .inl (1, 4, .inl (fun _ => 0)), .inr (4, [.ref 37, .int 0]), .inl (0, 400, .inl (fun _ => 0)), .inr (0, [.ref 39, .int 0, .int 0, .int 0, .ref 40, .ref 41, .ref 42, .ref 45, .int 0, .long 0, .int 0, .int 0, .long 0, .int 0, .int 0]), .inl (1, 128, .inl (fun _ => 0)), .inl (2, 128, .inr (.inl (fun _ => 0))), .inl (1, 128, .inl (fun _ => 0)), .inr (2, [.int 0, .ref 43, .ref 44]), .inl (2, 16, .inr (.inl (fun _ => 0))), .inl (1, 16, .inl (fun _ => 0)), .inr (6, [.ref 46, .ref 47, .ref 36, .int 0, .int 0]), .inl (0, 401, .inl (fun _ => 0)), .inl (2, 401, .inr (.inl (fun _ => 0)))]
  exact ⟨rfl, rfl, trivial, g_ak_up (g_ak_up (g_ak_up (g_ak_up (g_ak_none _) rfl) rfl) rfl) rfl, rfl, trivial, trivial, rfl, trivial, trivial, trivial, trivial, rfl, trivial, trivial, rfl, trivial, trivial, trivial, trivial, rfl, trivial, trivial, rfl, trivial, trivial, trivial, trivial, rfl, trivial, trivial, rfl, trivial, trivial, trivial, trivial, rfl, trivial, rfl, trivial, trivial, trivial, rfl, trivial, trivial, rfl, trivial, trivial, trivial⟩
theorem ekM (w : Int32) : g_eks 19 (w0_X11_init w) := by
  show g_eks 19 [.inr (8, [.int 0, .int w, .int 0, .ref 1, .int 0, .int 0, .int 0, .int 0, .int 0, .int 0, .int 0, .int 0, .int 0, .int 0, .ref 2, .ref 3, .ref 4, .ref 5, .ref 6, .ref 7, .ref 8, .ref 9, .ref 10, .ref 11, .ref 12, .ref 13, .ref 14, .ref 15, .ref 16, .ref 17, .ref 18]), .inl (0, 400, .inl (fun _ => 0)), .inl (1, 128, .inl (fun _ => 0)), .inl (2, 16, .inr (.inl (fun _ => 0))), .inl (1, 16, .inl (fun _ => 0)), .inl (2, 128, .inr (.inl (fun _ => 0))), .inl (1, 128, .inl (fun _ => 0)), .inl (1, 128, .inl (fun _ => 0)), .inl (1, 512, .inl (fun _ => 0)), .inl (1, 64, .inl (fun _ => 0)), .inl (1, 4, .inl (fun _ => 0)), .inl (1, 4, .inl (fun _ => 0)), .inl (1, 64, .inl (fun _ => 0)), .inl (1, 4, .inl (fun _ => 0)), .inl (1, 4, .inl (fun _ => 0)), .inl (1, 4, .inl (fun _ => 0)), .inl (1, 4, .inl (fun _ => 0)), .inl (1, 16, .inl (fun _ => 0)), .inl (1, 192, .inl (fun _ => 0))]
  exact ⟨rfl, trivial, trivial, trivial, trivial, trivial, trivial, trivial, trivial, trivial, trivial, trivial, trivial, trivial, trivial, trivial, trivial, trivial, trivial, trivial⟩
theorem ekB (w : Int32) : g_eks 67 ((w0_X11_init w).map (g_te (g_sf 48) (fun x => x))) := by
  show g_eks 67 [.inr (8, [.int 0, .int w, .int 0, .ref 49, .int 0, .int 0, .int 0, .int 0, .int 0, .int 0, .int 0, .int 0, .int 0, .int 0, .ref 50, .ref 51, .ref 52, .ref 53, .ref 54, .ref 55, .ref 56, .ref 57, .ref 58, .ref 59, .ref 60, .ref 61, .ref 62, .ref 63, .ref 64, .ref 65, .ref 66]), .inl (0, 400, .inl (fun _ => 0)), .inl (1, 128, .inl (fun _ => 0)), .inl (2, 16, .inr (.inl (fun _ => 0))), .inl (1, 16, .inl (fun _ => 0)), .inl (2, 128, .inr (.inl (fun _ => 0))), .inl (1, 128, .inl (fun _ => 0)), .inl (1, 128, .inl (fun _ => 0)), .inl (1, 512, .inl (fun _ => 0)), .inl (1, 64, .inl (fun _ => 0)), .inl (1, 4, .inl (fun _ => 0)), .inl (1, 4, .inl (fun _ => 0)), .inl (1, 64, .inl (fun _ => 0)), .inl (1, 4, .inl (fun _ => 0)), .inl (1, 4, .inl (fun _ => 0)), .inl (1, 4, .inl (fun _ => 0)), .inl (1, 4, .inl (fun _ => 0)), .inl (1, 16, .inl (fun _ => 0)), .inl (1, 192, .inl (fun _ => 0))]
  exact ⟨rfl, trivial, trivial, trivial, trivial, trivial, trivial, trivial, trivial, trivial, trivial, trivial, trivial, trivial, trivial, trivial, trivial, trivial, trivial, trivial⟩
theorem wC0 (w : Int32) (r : List va_E) : (w0_X10_init w ++ r).set 3 (.inl (3, 4, .inr (.inr (.inr (.inr (fun j => some (4 + 8 * j))))))) = (w_C 0 w (fun _ => 0) (fun _ => 0) (fun _ => 0) (fun j => Int32.ofNat j) (fun _ => 0) (fun _ => 0) (fun _ => 0) (fun _ => 0) (fun _ => 0) (fun _ _ => 0) (fun _ _ => 0) (fun _ => 0) (fun _ _ => 0) (fun _ _ => 0) (fun _ _ => 0) (fun _ _ => 0) 0 (fun _ => 0) 0 0 0 0 0 0 0 0 0 0 (fun _ => 0) (fun _ => 0) (fun _ => 0) 0 (fun _ => 0) (fun _ => 0) 0 0 (fun _ => 0) (fun _ => 0)) ++ r := by
  rw [List.set_append_left _ _ (show 3 < (w0_X10_init w).length by show 3 < 48; omega)]
  rfl
theorem wM0 (w : Int32) : (w0_X11_init w).map (g_te (g_sf 48) (fun x => x)) = (w_M 0 w 0 0 0 0 0 0 0 0 0 0 0 (fun _ => 0) (fun _ => 0) (fun _ => 0) (fun _ => 0) (fun _ => 0) (fun _ => 0) (fun _ => 0) (fun _ => 0) (fun _ => 0) (fun _ => 0) (fun _ => 0) (fun _ => 0) (fun _ => 0) (fun _ => 0) (fun _ => 0) (fun _ => 0) (fun _ => 0) (fun _ => 0)).map (g_re (g_iB 48 19)) := rfl
theorem V2z (w : Nat) : V2 w (fun _ => 0) = fun _ _ => 0 := by
  funext a b
  unfold V2
  by_cases h : a < 4 ∧ b < w
  · rw [if_pos h]
  · rw [if_neg h]
theorem V3z (o : Nat) : V3 o (fun _ => 0) = fun _ _ => 0 := by
  funext a b
  unfold V3
  by_cases h : a < 4 ∧ b < 16
  · rw [if_pos h]
  · rw [if_neg h]
theorem e_wheel {z w : Int32} (hw : w = (if (1 : Int32) ≤ z then (if z ≤ (8 : Int32) then z else (8 : Int32)) else (1 : Int32))) : w = (if (1 : Int32) < (if z < (8 : Int32) then z else (8 : Int32)) then (if z < (8 : Int32) then z else (8 : Int32)) else (1 : Int32)) ∧ 1 ≤ w.toInt ∧ w.toInt ≤ 8 := by
  have e1 := e_1
  have e8 := e_8
  by_cases h1 : (1 : Int32) ≤ z
  · rw [if_pos h1] at hw
    have g1 := q_le h1
    by_cases h2 : z ≤ 8
    · rw [if_pos h2] at hw
      have g2 := q_le h2
      by_cases h3 : z < 8
      · simp only [if_pos h3]
        have g3 := q_lt h3
        by_cases h4 : (1 : Int32) < z
        · rw [if_pos h4, hw]
          exact ⟨rfl, by omega, by omega⟩
        · rw [if_neg h4, hw]
          have g4 := q_nlt h4
          exact ⟨Int32.toInt_inj.mp (by omega), by omega, by omega⟩
      · simp only [if_neg h3]
        have g3 := q_nlt h3
        rw [if_pos (by decide), hw]
        exact ⟨Int32.toInt_inj.mp (by omega), by omega, by omega⟩
    · rw [if_neg h2] at hw
      have g2 := q_nle h2
      have h3 : ¬ z < 8 := fun h => by
        have := q_lt h
        omega
      simp only [if_neg h3]
      rw [if_pos (by decide), hw]
      exact ⟨rfl, by decide, by decide⟩
  · rw [if_neg h1] at hw
    have g1 := q_nle h1
    have h3 : z < 8 := Int32.lt_iff_toInt_lt.mpr (by omega)
    have h4 : ¬ (1 : Int32) < z := fun h => by
      have := q_lt h
      omega
    simp only [if_pos h3]
    rw [if_neg h4, hw]
    exact ⟨rfl, by decide, by decide⟩
set_option maxHeartbeats 8000000 in
set_option maxRecDepth 20000 in
theorem law_begin {L : Nat} {xs : Nat → Int32} (hL : L ≤ 2049) : GX (g_gd (g_PL L xs) g_QL) M_L_law 0 0 0 [(0, .ref 2000)] [] [] := by
  obtain ⟨z, hz⟩ := g_ex1 (if Int32.ofNat L ≤ 0 then (0 : Int32) else xs (Int32.toNatClampNeg 0))
  obtain ⟨w, hw⟩ := g_ex1 (if (1 : Int32) ≤ z then (if z ≤ (8 : Int32) then z else (8 : Int32)) else (1 : Int32))
  obtain ⟨hw1, hw2⟩ := e_wheel hw
  refine G.newL (pc := 0) (N := 5) 0 1 5 [.inr (7, [.null, .null, .null, .null, .int 0])] dm_L_law_0 gn_L_8 rfl rfl rfl rfl rfl (g_PL_n L xs 0) rfl rfl rfl trivial rfl rfl ?_
  refine G.dup (pc := 3) dm_L_law_3 rfl ?_
  refine G.aload_n (pc := 4) dm_L_law_4 rfl ?_
  refine G.iconst (pc := 5) (v := (0 : Int32)) dm_L_law_5 qi_0 ?_
  refine G.callSS (pc := 6) (rest := [.ref 0, .ref 0]) (st1 := [.int z, .ref 0, .ref 0]) (g_PL_s L xs) dm_L_law_6 gc_L_law_23 (k_L_cell (xs := xs) hL (i := 0) (by decide) hz) rfl rfl rfl rfl rfl ?_
  refine G.callIL (pc := 9) (M1 := M_X10_init) (y := yX10_init) (as := [.int z]) (rest := [.ref 0]) (ws0 := []) (wc1 := w0_X10_init w) (k1 := 48) (n1 := 2566) (ws1 := w0_X10_init w) 0 dm_L_law_9 tw12 gci_L_law_29 (k_X10_init hw1) rfl rfl rfl rfl rfl (g_PL_n L xs _) rfl rfl rfl trivial (ekC w) rfl rfl rfl rfl rfl (g_sf0L _) ?_
  refine G.astore_n (pc := 12) (lv1 := [(1, .ref 0), (0, .ref 2000)]) dm_L_law_12 rfl rfl ?_
  refine G.newL (pc := 13) (N := 31) 48 49 2597 (w0_X10_init w ++ [.inr (8, [.int 0, .int 0, .int 0, .null, .int 0, .int 0, .int 0, .int 0, .int 0, .int 0, .int 0, .int 0, .int 0, .int 0, .null, .null, .null, .null, .null, .null, .null, .null, .null, .null, .null, .null, .null, .null, .null, .null, .null])]) dm_L_law_13 gn_L_32 rfl rfl rfl rfl rfl (g_PL_n L xs _) rfl rfl rfl (ekC w) rfl rfl ?_
  refine G.dup (pc := 16) dm_L_law_16 rfl ?_
  refine G.aload_n (pc := 17) dm_L_law_17 rfl ?_
  refine G.iconst (pc := 18) (v := (0 : Int32)) dm_L_law_18 qi_0 ?_
  refine G.callSS (pc := 19) (rest := [.ref 48, .ref 48]) (st1 := [.int z, .ref 48, .ref 48]) (g_PL_s L xs) dm_L_law_19 gc_L_law_23 (k_L_cell (xs := xs) hL (i := 0) (by decide) hz) rfl rfl rfl rfl rfl ?_
  refine G.callIL (pc := 22) (M1 := M_X11_init) (y := yX11_init) (as := [.int z]) (rest := [.ref 48]) (ws0 := w0_X10_init w) (wc1 := w0_X11_init w) (k1 := 67) (n1 := 4413) (ws1 := w0_X10_init w ++ (w0_X11_init w).map (g_te (g_sf 48) (fun x => x))) 48 dm_L_law_22 tw99 gci_L_law_34 (k_X11_init hw) rfl rfl rfl rfl rfl (g_PL_n L xs _) rfl rfl rfl (g_eks_mono (by omega) (ekC w)) (ekM w) rfl rfl rfl rfl rfl rfl ?_
  refine G.astore_n (pc := 25) (lv1 := [(2, .ref 48), (1, .ref 0), (0, .ref 2000)]) dm_L_law_25 rfl rfl ?_
  refine G.iconst (pc := 26) (v := (1 : Int32)) dm_L_law_26 qi_1 ?_
  refine G.newarrayL (pc := 27) (t := 2) (N := 1) (ty := .long) (x := .inr (.inl (fun _ => 0))) 67 68 4414 (w0_X10_init w ++ ((w0_X11_init w).map (g_te (g_sf 48) (fun x => x)) ++ [.inl (2, 1, .inr (.inl (fun _ => 0)))])) dm_L_law_27 rfl tw6 rfl (List.append_assoc _ _ _) rfl rfl (fun _ => rfl) (fun _ => rfl) (fun _ => rfl) (by decide) (by decide) (by decide) trivial (g_PL_n L xs _) rfl rfl rfl (g_eks_app (g_eks_mono (by omega) (ekC w)) (ekB w)) rfl rfl ?_
  refine G.astore_n (pc := 29) (lv1 := [(3, .ref 67), (2, .ref 48), (1, .ref 0), (0, .ref 2000)]) dm_L_law_29 rfl rfl ?_
  refine G.iconst (pc := 30) (v := (1 : Int32)) dm_L_law_30 qi_1 ?_
  refine G.istore (pc := 31) (lv1 := [(4, .int (1 : Int32)), (3, .ref 67), (2, .ref 48), (1, .ref 0), (0, .ref 2000)]) dm_L_law_31 rfl rfl ?_
  refine G.lvp (lv1 := [(4, .int (1 : Int32)), (0, .ref 2000), (1, .ref 0), (2, .ref 48), (3, .ref 67)]) [0, 4, 3, 2, 1] rfl ?_
  refine G.sameArr (a := 3) (N := 4) (f1 := fun j => some (4 + 8 * j)) (ws1 := (w_C 0 w (fun _ => 0) (fun _ => 0) (fun _ => 0) (fun j => Int32.ofNat j) (fun _ => 0) (fun _ => 0) (fun _ => 0) (fun _ => 0) (fun _ => 0) (fun _ _ => 0) (fun _ _ => 0) (fun _ => 0) (fun _ _ => 0) (fun _ _ => 0) (fun _ _ => 0) (fun _ _ => 0) 0 (fun _ => 0) 0 0 0 0 0 0 0 0 0 0 (fun _ => 0) (fun _ => 0) (fun _ => 0) 0 (fun _ => 0) (fun _ => 0) 0 0 (fun _ => 0) (fun _ => 0)) ++ ((w0_X11_init w).map (g_te (g_sf 48) (fun x => x)) ++ [.inl (2, 1, .inr (.inl (fun _ => 0)))])) rfl (by decide) (wC0 w _) ?_
  rw [wM0]
  have h := law_loop (xs := xs) hL 513 0 68 4414 1 (by omega) (by decide) (by omega) (by omega) (by omega) 0 w 0 0 0 0 0 0 0 0 0 0 0 (fun _ => 0) (fun _ => 0) (fun _ => 0) (fun _ => 0) (fun _ => 0) (fun _ => 0) (fun _ => 0) (fun _ => 0) (fun _ => 0) (fun _ => 0) (fun _ => 0) (fun _ => 0) (fun _ => 0) (fun _ => 0) (fun _ => 0) (fun _ => 0) (fun _ => 0) (fun _ => 0) (fun _ => 0) (fun _ => 0) 0 0 0 0 0 0 0 0 (fun _ => 0) (fun _ => 0) (fun _ => 0) 0 (fun _ => 0) (fun _ => 0) 0 0 (fun _ => 0) (fun _ => 0) (fun _ => 0) ⟨by decide, hw2, ⟨by decide, by decide⟩, fun j _ => (by decide : 0 ≤ (0 : Int32).toInt ∧ (0 : Int32).toInt ≤ (0 : Int32).toInt ∧ (0 : Int32).toInt ≤ 64), fun j _ => (by decide : 0 ≤ (0 : Int32).toInt ∧ (0 : Int32).toInt ≤ (0 : Int32).toInt), (fun _ => (by decide : narrow .char (.int 0) = .int 0))⟩
  rw [V2z, V2z, V2z, V3z, V3z, V3z] at h
  exact h
