/-- the script lies at the place 2000 -/
def g_SX (L : Nat) (xs : Nat → Int32) (A : Nat → Prop) (ad : Nat → Nat) (U : State) (H : Heap) : Prop := va_X (ad 2000) L xs U H ∧ ad 2000 < H.size ∧ ¬ A (ad 2000)
def g_PL (L : Nat) (xs : Nat → Int32) : g_PT := fun _ l _ s _ args _ _ _ _ _ A n0 ad0 => n0 = 0 ∧ l.stackTraces = false ∧ g_XE A s s.heap ∧ (∀ q, A q → s.heap.size ≤ q) ∧ g_SX L xs A ad0 s s.heap ∧ args = #[.ref (ad0 2000)]
def g_QL : g_QT := fun _ _ _ s _ args below _ _ _ _ _ _ _ => lw_Z below args s
def g_Ps (L : Nat) (xs : Nat → Int32) (P : g_PT) : Prop := ∀ p l e s m args below meth c D cid A n0 ad0, P p l e s m args below meth c D cid A n0 ad0 → g_SX L xs A ad0 s s.heap
theorem g_PL_s (L : Nat) (xs : Nat → Int32) : g_Ps L xs (g_PL L xs) := fun _ _ _ _ _ _ _ _ _ _ _ _ _ _ q => q.2.2.2.2.1
theorem g_PL_n (L : Nat) (xs : Nat → Int32) (B : Nat) : g_Pn (g_PL L xs) B := fun _ _ _ _ _ _ _ _ _ _ _ _ _ _ q => by rw [q.1]; exact Nat.zero_le _
theorem g_PL_x (L : Nat) (xs : Nat → Int32) : g_Px (g_PL L xs) := fun _ _ _ _ _ _ _ _ _ _ _ _ _ _ q => ⟨q.2.1, q.2.2.1⟩
theorem G.sld {M : g_M} {k n pc : Nat} {lv : List (Nat × Value)} {st : List Value} {ws : List va_E} {P : g_PT} {Q : g_QT} {L : Nat} {xs : Nat → Int32} {i : Int32} (hPs : g_Ps L xs P) (hd : decode M.1 pc = .ok (.iaload, 1)) (hin : vp_in i L) (kk : GX (g_gd P Q) M k n (pc + 1) lv (.int (xs i.toNatClampNeg) :: st) ws) : GX (g_gd P Q) M k n pc lv (.int i :: .ref 2000 :: st) ws := by
  refine GX.byP (fun p l e s m args below meth c D cid A n0 ad0 hp C ad ls H locs hq hl hP hD hS => ?_)
  have hs := hPs _ _ _ _ _ _ _ _ _ _ _ _ _ _ hp
  have e1 : ad 2000 = ad0 2000 := hq 2000 (Or.inr (by omega))
  obtain ⟨h1, h2, h3⟩ := hs
  rw [← e1] at h1 h2 h3
  exact va_sld C.1 C.2.1 h1 h2 h3 hS hin hd (kk p l e s m args below meth c D cid A n0 ad0 C ad ls H locs hq hl hP hD hS)
theorem G.slen {M : g_M} {k n pc : Nat} {lv : List (Nat × Value)} {st : List Value} {ws : List va_E} {P : g_PT} {Q : g_QT} {L : Nat} {xs : Nat → Int32} (hPs : g_Ps L xs P) (hd : decode M.1 pc = .ok (.arraylength, 1)) (kk : GX (g_gd P Q) M k n (pc + 1) lv (.int (Int32.ofNat L) :: st) ws) : GX (g_gd P Q) M k n pc lv (.ref 2000 :: st) ws := by
  refine GX.byP (fun p l e s m args below meth c D cid A n0 ad0 hp C ad ls H locs hq hl hP hD hS => ?_)
  have hs := hPs _ _ _ _ _ _ _ _ _ _ _ _ _ _ hp
  have e1 : ad 2000 = ad0 2000 := hq 2000 (Or.inr (by omega))
  obtain ⟨h1, h2, h3⟩ := hs
  rw [← e1] at h1 h2 h3
  exact va_slen C.1 C.2.1 h1 h2 h3 hS hd (kk p l e s m args below meth c D cid A n0 ad0 C ad ls H locs hq hl hP hD hS)
abbrev M_L_law : g_M := (cL_law, 7, RL, ret, room_1, 601024, 7293000)
theorem G.lawret {k n pc : Nat} {lv : List (Nat × Value)} {ws : List va_E} {L : Nat} {xs : Nat → Int32} (hd : decode M_L_law.1 pc = .ok (.ireturn, 1)) (hk : k ≤ 601024) (hn : n ≤ 7293000) : GX (g_gd (g_PL L xs) g_QL) M_L_law k n pc lv [.int 1] ws := by
  refine GX.byP (fun p l e s m args below meth c D cid A n0 ad0 hp C ad ls H locs hq hl hP hD hS => ?_)
  obtain ⟨hp1, hp2, hp3, hp4, hp5, rfl⟩ := hp
  have h9 : W p l e room_1 s m #[.ref (ad0 2000)] below meth c H locs k n (lw_Z below #[.ref (ad0 2000)] s) (F0 m pc ls [.int 1]) := by
    refine W.widen (k := 601024) (n := 7293000) hk hn ?_
    refine va_forget (fun q hq9 => hp4 _ (hS.2.2 q hq9)) ?_
    exact lw_ret C.1 C.2.1 C.2.2.1 C.2.2.2.2.2.2.1 hd
  intro T hT X
  obtain ⟨t, a, b⟩ := h9 T hT X
  exact ⟨t, a, fun _ => b⟩
/-- the law's cell: of the script alone -/
def g_PS (L : Nat) (xs : Nat → Int32) : g_PT := fun _ _ _ s _ _ _ _ _ _ _ A _ ad0 => g_SX L xs A ad0 s s.heap
theorem g_PS_s (L : Nat) (xs : Nat → Int32) : g_Ps L xs (g_PS L xs) := fun _ _ _ _ _ _ _ _ _ _ _ _ _ _ q => q
def KS (L : Nat) (xs : Nat → Int32) (M : g_M) (y : MethodName) (as : List Value) (r : Option Value) : Prop :=
  ∀ (l : Launch) (D : va_G) (cid : Nat → ClassId) (ad : Nat → Nat) (sz : Nat), Met l y (Cond.code y M.1 M.2.1 M.2.2.2.1 :: TT) M.2.2.2.2.1
    (va_Pc (as.map (g_tv ad)) (fun U => (U.heap.size = sz ∧ va_P D vwCl (g_mk ad cid []) U.heap ∧ va_K D vwCl (g_tys cid) U ∧ va_D (fun _ => True) (g_mk ad cid []) ∧ g_B ad (va_A (g_mk ad cid []) sz) U U.heap ∧ g_N U) ∧ g_SX L xs (va_A (g_mk ad cid []) sz) ad U U.heap)) (g_Q D cid (va_A (g_mk ad cid []) sz) 1000 ad r []) M.2.2.2.2.2.1 M.2.2.2.2.2.2 (va_A (g_mk ad cid []) sz)
theorem KS.of {L : Nat} {xs : Nat → Int32} {M : g_M} {y : MethodName} {as : List Value} {lv : List (Nat × Value)} {r : Option Value} (hy : plainFor y = true) (ho : M.2.2.1 = y.cls) (hn : Nat.ble (lg_sl as).length M.2.1 = true) (hlv : lv_args 0 as = lv) (h : GX (g_gd (g_PS L xs) (g_QR M r [])) M 0 0 0 lv [] []) : KS L xs M y as r := by
  intro l D cid ad sz
  refine va_MetF (cc := M.1) (maxL := M.2.1) (ret := M.2.2.2.1) hy rfl ?_
  intro p e s m args below meth c s₁ B hml hv
  obtain ⟨rfl, ⟨hsz, hP, hK, hD0, hB, hN⟩, hE⟩ := hv
  have hts := atoms_spec (ws := Cond.code y M.1 M.2.1 M.2.2.2.1 :: TT) B.pre
  have hown : s.vm.findClass y.cls = some m.cls := findClass_of_methodNamed B.named
  subst hsz
  have hD := hD0.self (sz := s.heap.size)
  have hl := lv_entry (as.map (g_tv ad)) (n := M.2.1) (by rw [g_sl]; exact Nat.le_of_ble_eq_true hn)
  rw [lg_entry_eq]
  rw [g_args, hlv] at hl
  have h9 := h p l e s m _ below meth c D cid (va_A (g_mk ad cid []) s.heap.size) 1000 ad ⟨B.exec, B.bytes, B.returns, hml, ho ▸ hown, fun w hw => hts w (List.mem_cons_of_mem _ hw), B.notSynchronized, hK, fun q hq => Or.inr hq, hB, hN⟩ ad _ s.heap [] (fun _ _ => rfl) hl hP hD va_S.rf
  intro T hT X
  obtain ⟨t, a, b⟩ := h9 T hT X
  exact ⟨t, a, b hE⟩
theorem va_X.warm {b L : Nat} {xs : Nat → Int32} {s U : State} {H : Heap} (hW : s.WarmedH U.vm) (h : va_X b L xs s H) : va_X b L xs U H := va_X.moved hW.alike h
theorem G.callSS {M : g_M} {k n pc : Nat} {lv : List (Nat × Value)} {st : List Value} {ws : List va_E} {P : g_PT} {Q : g_QT} {L : Nat} {xs : Nat → Int32} {M1 : g_M} {y : MethodName} {as rest : List Value} {r1 : Option Value} {st1 : List Value} {idx : Nat} (hPs : g_Ps L xs P) (hd : decode M.1 pc = .ok (.invokestatic idx, 3)) (hc : g_cs M idx M1 y as.length) (hM : KS L xs M1 y as r1) (hst : as.reverse ++ rest = st) (hk9 : Nat.ble k M.2.2.2.2.1.cells = true) (hn9 : Nat.ble n M.2.2.2.2.1.slots = true) (hcat : Nat.ble (rest.map fun v => v.category).sum 8 = true) (hs1 : r1.toList ++ rest = st1) (kk : GX (g_gd P Q) M k n (pc + 3) lv st1 ws) : GX (g_gd P Q) M k n pc lv st ws := by
  refine GX.byP (fun p l e s m args below meth c D cid A n0 ad0 hp C ad ls H locs hq hl hP hD hS => ?_)
  obtain ⟨x1, x2, x3⟩ := hPs _ _ _ _ _ _ _ _ _ _ _ _ _ _ hp
  have e1 : ad 2000 = ad0 2000 := hq 2000 (Or.inr (by omega))
  rw [← e1] at x1 x2 x3
  have hK := hM l D cid (fun j => ad (g_rn [] j)) H.size
  obtain ⟨c1, c2, c3, c4, ⟨c5, c6, c7, c8⟩, c9, c10⟩ := hc
  rw [c7, c8] at hK
  have hcw := va_cwS (R := M.2.2.2.2.1) (s := s) (args := args) (own := M.2.2.1) (index := idx) (y := y) (bytes := M1.1) (maxL := M1.2.1) (ret := M1.2.2.2.1) (Ts := TT) (ws := Cond.code y M1.1 M1.2.1 M1.2.2.2.1 :: TT) (ws' := TT) (rm := M1.2.2.2.2.1) as.length C.2.2.2.2.2.1 (tg_in (fun w h => by
    simp only [va_wsS, List.mem_append, List.mem_cons, List.not_mem_nil, or_false] at h
    rcases h with (rfl | rfl | rfl) | rfl | h <;> first | assumption)) rfl c5 c6 c9 c10
  subst hst
  have hrv : ∀ v : Value, g_rv [] v = v := g_rv0
  have hbl : FrameBlind (va_Pc (as.map (g_tv (fun j => ad (g_rn [] j)))) (fun U => (U.heap.size = H.size ∧ va_P D vwCl (g_mk (fun j => ad (g_rn [] j)) cid []) U.heap ∧ va_K D vwCl (g_tys cid) U ∧ va_D (fun _ => True) (g_mk (fun j => ad (g_rn [] j)) cid []) ∧ g_B (fun j => ad (g_rn [] j)) (va_A (g_mk (fun j => ad (g_rn [] j)) cid []) H.size) U U.heap ∧ g_N U) ∧ g_SX L xs (va_A (g_mk (fun j => ad (g_rn [] j)) cid []) H.size) (fun j => ad (g_rn [] j)) U U.heap)) := fun a U g mk q => by
    obtain ⟨q0, ⟨q1, qP, qK, qD, qB, qN⟩, qE⟩ := q
    exact ⟨q0, ⟨q1, qP, va_K.moved (u := U) (U := U.calling g mk a) (Vm.Alike.refl U.vm) qK, qD, g_B.moved (u := U) (U := U.calling g mk a) (Vm.Alike.refl U.vm) qB, g_N.same (u := U) (U := U.calling g mk a) rfl qN⟩, va_X.moved (u := U) (U := U.calling g mk a) (Vm.Alike.refl U.vm) qE.1, qE.2⟩
  refine g_after (a := #[]) (ad := ad) (is := []) (ws := ws) (wc := []) (wc1 := []) (r1 := r1) (va_runS (As := as.map (g_tv (fun j => ad (g_rn [] j)))) (rest := rest.map (g_tv ad)) (nL := M.2.1) (Ts := TT) ⟨C.1, C.2.1, C.2.2.2.1, C.2.2.2.2.1, C.2.2.2.2.2.1⟩ hK hcw ⟨hbl, fun U hU hW => ?_⟩ rfl (by simp) hl.1 (by simp [g_rn]) (lv_room (by rw [List.map_map]; simp only [Function.comp_def, g_catv]; exact Nat.le_of_ble_eq_true hcat)) hd ⟨Nat.le_of_ble_eq_true hk9, Nat.le_of_ble_eq_true hn9⟩) (by simp) rfl C.2.2.2.2.2.2.2.2.1 hP hD hS (fun H locs hP hD hS => ?_)
  · have h1 := g_pre (as := as) (is := []) (wc := []) C hq hP hD hS (by simp) rfl (by simp) rfl U hU hW
    refine ⟨h1.1, h1.2, ?_, ?_, ?_⟩
    · rw [hU]
      exact va_X.moved hW.alike (va_X.kept x1 (hS.2.1 _ x2 x3))
    · rw [hU]
      exact Nat.lt_of_lt_of_le x2 hS.1
    · intro h9
      rcases h9 with ⟨j, e3, h6⟩ | h6
      · simp [g_mk] at h6
      · exact absurd (Nat.lt_of_lt_of_le x2 hS.1) (Nat.not_lt.mpr h6)
  · simp only [g_pt] at hP hD
    have h9 := kk p l e s m args below meth c D cid A n0 ad0 C ad ls H locs hq hl hP hD hS
    rw [← hs1, show (r1.toList ++ rest).map (g_tv ad) = (r1.map (g_tv (fun j => ad (g_rn [] j)))).toList ++ rest.map (g_tv ad) by cases r1 <;> simp [g_rn]] at h9
    exact h9
abbrev M_L_cell : g_M := (cL_cell, 2, RL, (some .int), { frames := 0, cells := 0, slots := 0, locals := 0 }, 0, 0)
theorem dm_L_cell_0 : decode M_L_cell.1 0 = .ok (.iload_n 1, 1) := by decide +kernel
theorem dm_L_cell_1 : decode M_L_cell.1 1 = .ok (.aload_n 0, 1) := by decide +kernel
theorem dm_L_cell_2 : decode M_L_cell.1 2 = .ok (.arraylength, 1) := by decide +kernel
theorem dm_L_cell_3 : decode M_L_cell.1 3 = .ok (.if_icmp .ge 9, 3) := by decide +kernel
theorem dm_L_cell_6 : decode M_L_cell.1 6 = .ok (.aload_n 0, 1) := by decide +kernel
theorem dm_L_cell_7 : decode M_L_cell.1 7 = .ok (.iload_n 1, 1) := by decide +kernel
theorem dm_L_cell_8 : decode M_L_cell.1 8 = .ok (.iaload, 1) := by decide +kernel
theorem dm_L_cell_9 : decode M_L_cell.1 9 = .ok (.goto 4, 3) := by decide +kernel
theorem dm_L_cell_12 : decode M_L_cell.1 12 = .ok (.iconst 0, 1) := by decide +kernel
theorem dm_L_cell_13 : decode M_L_cell.1 13 = .ok (.ireturn, 1) := by decide +kernel
theorem k_L_cell {L : Nat} {xs : Nat → Int32} (hL : L ≤ 2049) {i r : Int32} (h0 : 0 ≤ i.toInt) (hr : r = if Int32.ofNat L ≤ i then 0 else xs i.toNatClampNeg) : KS L xs M_L_cell yL_cell [.ref 2000, .int i] (some (.int r)) := by
  refine KS.of (lv := [(0, .ref 2000), (1, .int i)]) (by decide +kernel) rfl rfl rfl ?_
  refine G.iload_n (pc := 0) dm_L_cell_0 rfl ?_
  refine G.aload_n (pc := 1) dm_L_cell_1 rfl ?_
  refine G.slen (pc := 2) (g_PS_s L xs) dm_L_cell_2 ?_
  refine G.icmp_ge (pc := 3) (tgt := 12) dm_L_cell_3 (by decide) (fun c => ?_) (fun c => ?_)
  · rw [if_pos c] at hr
    rw [hr]
    refine G.iconst (pc := 12) (v := (0 : Int32)) dm_L_cell_12 qi_0 ?_
    exact G.gd (G.ireturn (pc := 13) dm_L_cell_13 rfl rfl rfl)
  · rw [if_neg c] at hr
    rw [hr]
    refine G.aload_n (pc := 6) dm_L_cell_6 rfl ?_
    refine G.iload_n (pc := 7) dm_L_cell_7 rfl ?_
    have hv : vp_in i L := by
      have h1 := q_nle c
      have h2 := e_c L (by omega)
      exact q_in h0 (by omega)
    refine G.sld (pc := 8) (g_PS_s L xs) dm_L_cell_8 hv ?_
    refine G.goto (pc := 9) (tgt := 13) dm_L_cell_9 (by decide) ?_
    exact G.gd (G.ireturn (pc := 13) dm_L_cell_13 rfl rfl rfl)
theorem gd_L_cell : yL_cell.cls ≠ "java/lang/invoke/MethodHandle" ∧ yL_cell.cls ≠ "java/lang/invoke/VarHandle" ∧ (parseMethodDescriptor yL_cell.desc).map (fun d => d.parameters.length) = some 2 := ⟨by decide, by decide, by decide +kernel⟩
