def g_xg : List Cond := (vx_at0 RX10 56 "java/lang/IllegalArgumentException" ["java/lang/RuntimeException", "java/lang/Exception"]).filter goodWord ++ ((vx_at0 RX10 63 "java/lang/IllegalStateException" ["java/lang/RuntimeException", "java/lang/Exception"]).filter goodWord ++ (vx_at0 RX10 74 "java/util/NoSuchElementException" ["java/lang/RuntimeException", "java/lang/Exception"]).filter goodWord)
def g_xn : List Cond := [.declares ⟨"java/lang/RuntimeException", "<init>", "()V"⟩, .declares ⟨"java/lang/Exception", "<init>", "()V"⟩, .declares ⟨"java/lang/Throwable", "<init>", "()V"⟩, .castable "java/lang/IllegalArgumentException" "java/lang/IllegalArgumentException", .castable "java/lang/IllegalStateException" "java/lang/IllegalStateException", .castable "java/util/NoSuchElementException" "java/util/NoSuchElementException"]
/-- what a throw stands on -/
def g_XE (A : Nat → Prop) (U : State) (H : Heap) : Prop := (∀ w ∈ g_xg, w.before #[] U = true) ∧ (∀ w ∈ g_xn, va_Nw w U) ∧ vx_Zq Bundle.tN "UNASSIGNED_STACK" Bundle.steD A U H ∧ vx_Zq Bundle.tN "SUPPRESSED_SENTINEL" Bundle.listD A U H ∧ va_Nc "java/lang/IllegalStateException" "java/lang/IllegalArgumentException" U ∧ va_Nc "java/lang/IllegalArgumentException" "java/util/NoSuchElementException" U
theorem g_xg_good : g_xg.all goodWord = true := by decide +kernel
theorem g_XE.warm {A : Nat → Prop} {s U : State} {H : Heap} (hW : s.WarmedH U.vm) (h : g_XE A s H) : g_XE A U H := by
  refine ⟨fun w hw => word_at hW (good_of_word (List.all_eq_true.mp g_xg_good w hw)) (h.1 w hw), fun w hw => ?_, vx_Zq.moved hW.alike h.2.2.1, vx_Zq.moved hW.alike h.2.2.2.1, h.2.2.2.2.1.moved hW.alike, h.2.2.2.2.2.moved hW.alike⟩
  have h9 := h.2.1 w hw
  simp only [g_xn, List.mem_cons, List.not_mem_nil, or_false] at hw
  rcases hw with rfl | rfl | rfl | rfl | rfl | rfl <;> first | exact va_Nw.warmD hW h9 | exact va_Nw.warmC hW h9
theorem g_XE.kept {A : Nat → Prop} {U : State} {H H1 : Heap} (h : g_XE A U H) (hq : ∀ a : Nat, a < H.size → ¬ A a → H1[a]? = H[a]?) : g_XE A U H1 := ⟨h.1, h.2.1, vx_Zq.kept h.2.2.1 hq, vx_Zq.kept h.2.2.2.1 hq, h.2.2.2.2⟩
theorem g_XE.narrow {A B : Nat → Prop} {U : State} {H : Heap} (h : g_XE A U H) (hAB : ∀ q, B q → A q) : g_XE B U H := ⟨h.1, h.2.1, vx_Zq.narrow h.2.2.1 hAB, vx_Zq.narrow h.2.2.2.1 hAB, h.2.2.2.2⟩
/-- how a method that may throw ends: with an answer, or with an exception of this class -/
def g_oQ (o : Option Value ⊕ String) (D : va_G) (cid : Nat → ClassId) (A : Nat → Prop) (n0 : Nat) (ad0 : Nat → Nat) (ws' : List va_E) : Array Value → State → Outcome → State → Prop := match o with
  | .inl r => g_Q D cid A n0 ad0 r ws'
  | .inr _ => fun _ _ _ _ => False
def g_oX (o : Option Value ⊕ String) (D : va_G) (cid : Nat → ClassId) (A : Nat → Prop) (ad0 : Nat → Nat) (ws' : List va_E) : String → State → State → Prop := match o with
  | .inl _ => fun _ _ _ => False
  | .inr E0 => fun E st t => E = E0 ∧ va_P D vwCl (g_mk ad0 cid ws') t.heap ∧ va_F A st t
def g_QX (M : g_M) (o : Option Value ⊕ String) (ws' : List va_E) : g_QT := fun _ _ _ s _ args below _ _ D cid A n0 ad0 => vx_MQ below (g_oQ o D cid A n0 ad0 ws') (g_oX o D cid A ad0 ws') args s M.2.2.2.2.2.1 M.2.2.2.2.2.2 A
def g_PX : g_PT := fun _ l _ s _ _ _ _ c _ _ A n0 _ => l.stackTraces = false ∧ (∀ x ∈ c.exceptionTable.toList, False) ∧ n0 = 1000 ∧ g_XE A s s.heap
theorem G.xret {P : g_PT} {M : g_M} {k n pc : Nat} {lv : List (Nat × Value)} {st : List Value} {ws : List va_E} {r : Option Value} {ws' : List va_E} (h : G M k n pc lv st ws r ws') : GX (g_gd P (g_QX M (.inl r) ws')) M k n pc lv st ws :=
  GX.mono (fun _ _ _ _ _ _ _ _ _ _ _ _ _ _ _ q _ => by
    obtain ⟨o, b1, b2, b3, b4⟩ := q
    exact ⟨o, b1, b2, Or.inl ⟨b3, b4⟩⟩) h
def g_thr (ik ic : Nat) (cls : String) : Prop := Cond.classLink RX10 ik cls ∈ TT ∧ Cond.initialized cls ∈ TT ∧ (∀ w ∈ vx_at0 RX10 ic cls ["java/lang/RuntimeException", "java/lang/Exception"], w ∈ g_xg ∨ w ∈ g_xn) ∧ (∀ w ∈ Cond.classLink RX10 ik cls :: Cond.initialized cls :: vx_at0 RX10 ic cls ["java/lang/RuntimeException", "java/lang/Exception"], vx_ot w = true) ∧ Bundle.fit cls = true ∧ (∀ n ∈ ["java/lang/RuntimeException", "java/lang/Exception"], Bundle.fit n = true)
theorem g_ot_at {w : Cond} {args : Array Value} {s : State} (h : vx_ot w = true) (h1 : w.before #[] s = true) : w.before args s = true := vx_ot_at (State.WarmedH.refl s) rfl h h1
theorem G.throw0 {M : g_M} {k n pc : Nat} {lv : List (Nat × Value)} {st : List Value} {ws : List va_E} {ik ic : Nat} {cls : String} (hO : M.2.2.1 = RX10) (ht : g_thr ik ic cls) (d0 : decode M.1 pc = .ok (.new ik, 3)) (d3 : decode M.1 (pc + 3) = .ok (.dup, 1)) (d4 : decode M.1 (pc + 4) = .ok (.invokespecial ic, 3)) (d7 : decode M.1 (pc + 7) = .ok (.athrow, 1)) (hR : (Nat.ble 6 M.2.2.2.2.1.frames && Nat.ble ((st.map fun v => v.category).sum + 81) M.2.2.2.2.1.locals && Nat.ble (k + 1) M.2.2.2.2.1.cells && Nat.ble (n + 6) M.2.2.2.2.1.slots) = true) (hk : Nat.ble (k + 1) M.2.2.2.2.2.1 = true) (hn : Nat.ble (n + 6) M.2.2.2.2.2.2 = true) : GX (g_gd g_PX (g_QX M (.inr cls) ws)) M k n pc lv st ws := by
  refine GX.byP (fun p l e s m args below meth c D cid A n0 ad0 hp C ad ls H locs hq hl hP hD hS => ?_)
  obtain ⟨hp1, hp2, rfl, hp4⟩ := hp
  obtain ⟨t1, t2, t3, t4, t5, t6⟩ := ht
  have e1 := g_eq_all hq
  subst e1
  simp only [Bool.and_eq_true] at hR
  obtain ⟨⟨⟨hR1, hR2⟩, hR3⟩, hR4⟩ := hR
  have hcat : ((st.map (g_tv ad)).map fun v => v.category).sum = (st.map fun v => v.category).sum := by rw [List.map_map]; simp only [Function.comp_def, g_catv]
  have h9 : W p l e M.2.2.2.2.1 s m args below meth c H locs k n (vx_MQ below (g_oQ (.inr cls) D cid A 1000 ad ws) (g_oX (.inr cls) D cid A ad ws) args s M.2.2.2.2.2.1 M.2.2.2.2.2.2 A) (F0 m pc ls (st.map (g_tv ad))) := by
    refine vx_throw0 (own := RX10) (cls := cls) (names := ["java/lang/RuntimeException", "java/lang/Exception"]) (ik := ik) (ic := ic) (A := A) C.1 C.2.1 hp1 (hO ▸ C.2.2.2.2.1) t5 t6 (C.2.2.2.2.2.1 _ t1) (C.2.2.2.2.2.1 _ t2) (fun w hw => ?_) t4 hp4.2.2.1 hp4.2.2.2.1 hS (hl.1.trans C.2.2.2.1.symm) d0 d3 d4 d7 (fun x hx => (hp2 x hx).elim) (by have := Nat.le_of_ble_eq_true hR1; simp only [List.length_cons, List.length_nil]; omega) (by have := Nat.le_of_ble_eq_true hR2; simp only [List.length_cons, List.length_nil]; omega) (Nat.le_of_ble_eq_true hR3) (Nat.le_of_ble_eq_true hR4) C.2.2.2.2.2.2.1 (fun t ha hz hk => ?_) hS.2.2 (Nat.le_of_ble_eq_true hk) (Nat.le_of_ble_eq_true hn)
    · refine g_ot_at (t4 w (List.mem_cons_of_mem _ (List.mem_cons_of_mem _ hw))) ?_
      rcases t3 w hw with h | h
      · exact hp4.1 w h
      · exact hp4.2.1 w h
    · refine ⟨rfl, hP.kept (fun i x hx => hk x.1 ((hP i x hx).lt)), Nat.le_trans hS.1 hz, fun q h1 h2 => ?_⟩
      rw [hk q (Nat.lt_of_lt_of_le h1 hS.1)]
      exact hS.2.1 q h1 h2
  intro T hT X
  obtain ⟨t, a, b⟩ := h9 T hT X
  exact ⟨t, a, fun _ => b⟩
def g_PcX (D : va_G) (cid : Nat → ClassId) (ad : Nat → Nat) (sz : Nat) (as : List Value) (ws : List va_E) : Array Value → State → Prop :=
  va_Pc (as.map (g_tv ad)) (fun U => (U.heap.size = sz ∧ va_P D vwCl (g_mk ad cid ws) U.heap ∧ va_K D vwCl (g_tys cid) U ∧ va_D (fun _ => True) (g_mk ad cid ws) ∧ g_B ad (va_A (g_mk ad cid ws) sz) U U.heap ∧ g_N U) ∧ g_XE (va_A (g_mk ad cid ws) sz) U U.heap)
/-- the method y, that returns or throws -/
def KX (M : g_M) (y : MethodName) (as : List Value) (ws : List va_E) (o : Option Value ⊕ String) (ws' : List va_E) : Prop :=
  ∀ (l : Launch) (D : va_G) (cid : Nat → ClassId) (ad : Nat → Nat) (sz : Nat), l.stackTraces = false → vx_Met l y (Cond.code y M.1 M.2.1 M.2.2.2.1 :: TT) M.2.2.2.2.1
    (g_PcX D cid ad sz as ws) (g_oQ o D cid (va_A (g_mk ad cid ws) sz) 1000 ad ws') (g_oX o D cid (va_A (g_mk ad cid ws) sz) ad ws') M.2.2.2.2.2.1 M.2.2.2.2.2.2 (va_A (g_mk ad cid ws) sz)
theorem KX.of {M : g_M} {y : MethodName} {as : List Value} {lv : List (Nat × Value)} {ws : List va_E} {o : Option Value ⊕ String} {ws' : List va_E} (hy : plainName y.cls = true) (ho : M.2.2.1 = y.cls) (hn : Nat.ble (lg_sl as).length M.2.1 = true) (hlv : lv_args 0 as = lv) (h : GX (g_gd g_PX (g_QX M o ws')) M 0 0 0 lv [] ws) : KX M y as ws o ws' := by
  intro l D cid ad sz hl9
  refine vx_ofW (cc := M.1) (maxL := M.2.1) (ret := M.2.2.2.1) hy rfl ?_
  intro p e s m args below meth c s₁ B hml htab hv
  obtain ⟨rfl, ⟨hsz, hP, hK, hD0, hB, hN⟩, hE⟩ := hv
  have hts := atoms_spec (ws := Cond.code y M.1 M.2.1 M.2.2.2.1 :: TT) B.pre
  have hown : s.vm.findClass y.cls = some m.cls := findClass_of_methodNamed B.named
  subst hsz
  have hD := hD0.self (sz := s.heap.size)
  have hl := lv_entry (as.map (g_tv ad)) (n := M.2.1) (by rw [g_sl]; exact Nat.le_of_ble_eq_true hn)
  rw [lg_entry_eq]
  rw [g_args, hlv] at hl
  have h9 := h p l e s m _ below meth c D cid (va_A (g_mk ad cid ws) s.heap.size) 1000 ad ⟨B.exec, B.bytes, B.returns, hml, ho ▸ hown, fun w hw => hts w (List.mem_cons_of_mem _ hw), B.notSynchronized, hK, fun q hq => Or.inr hq, hB, hN⟩ ad _ s.heap [] (fun _ _ => rfl) hl hP hD va_S.rf
  intro T hT X
  obtain ⟨t, a, b⟩ := h9 T hT X
  exact ⟨t, a, b ⟨hl9, htab, rfl, hE⟩⟩
/-- a method with handlers of its own, that always returns -/
def KE (M : g_M) (hh : List (Nat × Nat × Nat × Nat)) (y : MethodName) (as : List Value) (ws : List va_E) (r : Option Value) (ws' : List va_E) : Prop :=
  ∀ (l : Launch) (D : va_G) (cid : Nat → ClassId) (ad : Nat → Nat) (sz : Nat), l.stackTraces = false → Met l y (Cond.codeWith y M.1 M.2.1 M.2.2.2.1 hh :: TT) M.2.2.2.2.1
    (g_PcX D cid ad sz as ws) (g_Q D cid (va_A (g_mk ad cid ws) sz) 1000 ad r ws') M.2.2.2.2.2.1 M.2.2.2.2.2.2 (va_A (g_mk ad cid ws) sz)
def g_PW (hh : List (Nat × Nat × Nat × Nat)) : g_PT := fun _ l _ s _ _ _ _ c _ _ A n0 _ => l.stackTraces = false ∧ c.exceptionTable.toList = tableOf hh ∧ n0 = 1000 ∧ g_XE A s s.heap
theorem KE.of {M : g_M} {hh : List (Nat × Nat × Nat × Nat)} {y : MethodName} {as : List Value} {lv : List (Nat × Value)} {ws : List va_E} {r : Option Value} {ws' : List va_E} (hy : plainName y.cls = true) (ho : M.2.2.1 = y.cls) (hn : Nat.ble (lg_sl as).length M.2.1 = true) (hlv : lv_args 0 as = lv) (h : GX (g_gd (g_PW hh) (g_QR M r ws')) M 0 0 0 lv [] ws) : KE M hh y as ws r ws' := by
  intro l D cid ad sz hl9
  refine va_MetW (cc := M.1) (maxL := M.2.1) (ret := M.2.2.2.1) (hh := hh) hy rfl ?_
  intro p e s m args below meth c s₁ B hml hv
  obtain ⟨rfl, ⟨hsz, hP, hK, hD0, hB, hN⟩, hE⟩ := hv
  have hts := atoms_spec (ws := Cond.codeWith y M.1 M.2.1 M.2.2.2.1 hh :: TT) B.pre
  have htab := vx_table (x := y) B (hts _ List.mem_cons_self)
  have hown : s.vm.findClass y.cls = some m.cls := findClass_of_methodNamed B.named
  subst hsz
  have hD := hD0.self (sz := s.heap.size)
  have hl := lv_entry (as.map (g_tv ad)) (n := M.2.1) (by rw [g_sl]; exact Nat.le_of_ble_eq_true hn)
  rw [lg_entry_eq]
  rw [g_args, hlv] at hl
  have h9 := h p l e s m _ below meth c D cid (va_A (g_mk ad cid ws) s.heap.size) 1000 ad ⟨B.exec, B.bytes, B.returns, hml, ho ▸ hown, fun w hw => hts w (List.mem_cons_of_mem _ hw), B.notSynchronized, hK, fun q hq => Or.inr hq, hB, hN⟩ ad _ s.heap [] (fun _ _ => rfl) hl hP hD va_S.rf
  intro T hT X
  obtain ⟨t, a, b⟩ := h9 T hT X
  exact ⟨t, a, b ⟨hl9, htab, rfl, hE⟩⟩
theorem g_blindX (D : va_G) (cid : Nat → ClassId) (ad : Nat → Nat) (sz : Nat) (as : List Value) (ws : List va_E) : FrameBlind (g_PcX D cid ad sz as ws) := fun a U g mk q => by
  obtain ⟨q0, ⟨q1, qP, qK, qD, qB, qN⟩, qE⟩ := q
  exact ⟨q0, ⟨q1, qP, va_K.moved (u := U) (U := U.calling g mk a) (Vm.Alike.refl U.vm) qK, qD, g_B.moved (u := U) (U := U.calling g mk a) (Vm.Alike.refl U.vm) qB, g_N.same (u := U) (U := U.calling g mk a) rfl qN⟩, g_XE.warm (s := U) (U := U.calling g mk a) (State.WarmedH.refl U) qE⟩
theorem g_preX {M : g_M} {p : Program} {s : State} {m : MethodId} {args : Array Value} {meth : Method} {c : Code} {D : va_G} {cid : Nat → ClassId} {A : Nat → Prop} {n0 : Nat} {ad0 ad : Nat → Nat} {H : Heap} {locs : List Loc} {ws wc : List va_E} {is : List Nat} {as : List Value} {As : List Value}
    (C : g_Cx M p s m args meth c D cid A ad0) (hE : g_XE A s s.heap) (hq : g_eq n0 ad ad0) (hP : va_P D vwCl (g_mk ad cid ws) H) (hD : va_D A (g_mk ad cid ws)) (hS : va_S A s.heap H locs)
    (hw : is.map (fun i => ws[i]?) = (wc.map (g_re is)).map some) (hnd : va_nd is = true) (hle : is.length ≤ 1000) (hAs : As = as.map (g_tv (fun j => ad (g_rn is j)))) :
    ∀ U : State, U.heap = H → s.WarmedH U.vm → g_PcX D cid (fun j => ad (g_rn is j)) H.size as wc As.toArray U := by
  intro U hU hW
  have hF := va_free (wc := g_mk (fun j => ad (g_rn is j)) cid wc) hD hS C.2.2.2.2.2.2.2.2.1 is (g_sub hw)
  have h1 := g_pre C hq hP hD hS hw hnd hle hAs U hU hW
  refine ⟨h1.1, h1.2, ?_⟩
  rw [hU]
  exact ((hE.kept hS.2.1).narrow hF).warm hW
theorem g_joinW {D : va_G} {cid : Nat → ClassId} {A : Nat → Prop} {ad : Nat → Nat} {ws wc wc1 : List va_E} {is : List Nat} {H H1 : Heap} (hw : is.map (fun i => ws[i]?) = (wc.map (g_re is)).map some) (hlen : wc1.length = wc.length) (hP : va_P D vwCl (g_mk ad cid ws) H) (hD : va_D A (g_mk ad cid ws)) (hP1 : va_P D vwCl (g_mk (fun j => ad (g_rn is j)) cid wc1) H1) (hk : ∀ q : Nat, q < H.size → ¬ va_A (g_mk (fun j => ad (g_rn is j)) cid wc) H.size q → H1[q]? = H[q]?) : va_P D vwCl (g_mk ad cid (g_pt is (wc1.map (g_re is)) ws)) H1 := by
  have hlw : is.length = (wc1.map (g_re is)).length := by
    have := congrArg List.length hw
    simp at this
    simp [this, hlen]
  intro i q hq
  obtain ⟨e0, h1, rfl⟩ := g_get' ad cid hq
  rcases g_pt_get is _ ws i e0 h1 hlw with ⟨j, h2, h3⟩ | ⟨h2, h3⟩
  · rw [List.getElem?_map, Option.map_eq_some_iff] at h3
    obtain ⟨e3, h4, rfl⟩ := h3
    have h5 := hP1 j _ (g_get _ cid h4)
    have hr9 : g_rn is j = i := by simp [g_rn, h2]
    rw [g_re, g_te_te]
    rw [hr9] at h5
    exact h5
  · have h4 := hP i _ (g_get ad cid h3)
    have h5 := h4.lt
    refine h4.kept ?_
    refine hk _ h5 (fun hA1 => ?_)
    rcases hA1 with ⟨j, e3, h6⟩ | h6
    · obtain ⟨e4, h7, h8⟩ := g_get' _ cid h6
      have h9 : is[j]? = some (g_rn is j) := by
        have := (List.getElem?_eq_some_iff.mp h7).1
        have hj : j < is.length := by
          have h10 := congrArg List.length hw
          simp at h10
          omega
        simp [g_rn, List.getElem?_eq_getElem hj]
      have h10 := g_sub (ad := ad) (cid := cid) hw
      have h11 := congrArg (fun l => l[j]?) h10
      simp only [List.getElem?_map, h9, Option.map_some, g_get (fun j => ad (g_rn is j)) cid h7, Option.some.injEq] at h11
      have h12 := hD.1 i (g_rn is j) _ _ (g_get ad cid h3) h11 (by simpa using (congrArg Prod.fst h8))
      exact h2 (h12 ▸ List.mem_of_getElem? h9)
    · exact absurd h5 (Nat.not_lt.mpr h6)
section GCallX
variable {p : Program} {l : Launch} {e : Env} {R : Room} {s : State} {m : MethodId} {args : Array Value} {below : List Frame} {meth : Method} {c : Code} {H : Heap} {locs : List Loc} {Q : State → Prop}
theorem g_afterM {k n mc ms pc : Nat} {ls : Array Slot} {st0 rest0 : List Value} {a : Array Value} {D : va_G} {cid : Nat → ClassId} {A : Nat → Prop} {ad : Nat → Nat} {ws wc wc1 : List va_E} {is : List Nat} {r1 : Option Value}
    (hr : va_Run p l e R s m args below meth c H locs k n mc ms (F0 m pc ls st0) rest0 (g_Q D cid (va_A (g_mk (fun j => ad (g_rn is j)) cid wc) H.size) 1000 (fun j => ad (g_rn is j)) r1 wc1 a) (va_A (g_mk (fun j => ad (g_rn is j)) cid wc) H.size))
    (hw : is.map (fun i => ws[i]?) = (wc.map (g_re is)).map some) (hlen : wc1.length = wc.length) (hA : ∀ q, s.heap.size ≤ q → A q) (hP : va_P D vwCl (g_mk ad cid ws) H) (hD : va_D A (g_mk ad cid ws)) (hS : va_S A s.heap H locs)
    (kk : ∀ (H1 : Heap) (locs1 : List Loc), va_P D vwCl (g_mk ad cid (g_pt is (wc1.map (g_re is)) ws)) H1 → va_D A (g_mk ad cid (g_pt is (wc1.map (g_re is)) ws)) → va_S A s.heap H1 locs1 → W p l e R s m args below meth c H1 locs1 (k + mc) (n + ms) Q (F0 m (pc + 3) ls ((r1.map (g_tv (fun j => ad (g_rn is j)))).toList ++ rest0))) :
    W p l e R s m args below meth c H locs k n Q (F0 m pc ls st0) := by
  intro T hT X
  obtain ⟨v, st₀, t, T', L, h0, X', hL, e1, e2, ⟨⟨ad', hq', hv, hP1, hK1, hD1⟩, hz, hk⟩, st⟩ := hr T hT X
  have hF := va_free (wc := g_mk (fun j => ad (g_rn is j)) cid wc) hD hS hA is (g_sub hw)
  rw [g_eq_all hq'] at hv hP1 hD1
  cases hv
  rw [h0] at hz hk
  obtain ⟨t2, a1, b1⟩ := kk T'.heap (locs ++ L) (by rw [e1]; exact g_joinW hw hlen hP hD hP1 hk) (g_D_len (g_pt_len _ _ _) hD)
    ⟨Nat.le_trans hS.1 (by rw [e1]; exact hz), fun q h1 h2 => by rw [e1, hk q (Nat.lt_of_lt_of_le h1 hS.1) (fun z => h2 (hF q z))]; exact hS.2.1 q h1 h2, fun q hq => by
      rcases List.mem_append.mp hq with h | h
      · exact hS.2.2 q h
      · exact hF _ (hL q h)⟩ T' rfl X'
  exact ⟨t2, st t2 a1, b1⟩
theorem g_toRun {k n mc ms : Nat} {g : JFrame} {rest0 : List Value} {Qa : State → Outcome → State → Prop} {free : Addr → Prop} (hr : vx_Run p l e R s m args below meth c H locs k n mc ms g rest0 Qa (fun _ _ _ => False) free) : va_Run p l e R s m args below meth c H locs k n mc ms g rest0 Qa free := by
  intro T hT X
  rcases hr T hT X with h | ⟨q, st₀, t, T', L, E, ce, h0, X', hL, e1, e2, hF, _⟩
  · exact h
  · exact hF.elim
theorem g_afterT {k n mc ms pc : Nat} {ls : Array Slot} {st0 rest0 : List Value} {D : va_G} {cid : Nat → ClassId} {A : Nat → Prop} {ad : Nat → Nat} {ws wc wc1 : List va_E} {is : List Nat} {E0 : String}
    (hr : vx_Run p l e R s m args below meth c H locs k n mc ms (F0 m pc ls st0) rest0 (fun _ _ _ => False) (g_oX (.inr E0) D cid (va_A (g_mk (fun j => ad (g_rn is j)) cid wc) H.size) (fun j => ad (g_rn is j)) wc1) (va_A (g_mk (fun j => ad (g_rn is j)) cid wc) H.size))
    (hw : is.map (fun i => ws[i]?) = (wc.map (g_re is)).map some) (hlen : wc1.length = wc.length) (hA : ∀ q, s.heap.size ≤ q → A q) (hP : va_P D vwCl (g_mk ad cid ws) H) (hD : va_D A (g_mk ad cid ws)) (hS : va_S A s.heap H locs)
    (kk : ∀ (q9 : Addr) (ce : Cell) (H1 : Heap) (locs1 : List Loc), va_P D vwCl (g_mk ad cid (g_pt is (wc1.map (g_re is)) ws)) H1 → va_D A (g_mk ad cid (g_pt is (wc1.map (g_re is)) ws)) → va_S A s.heap H1 locs1 → H1[q9]? = some ce → ce.vm = .none → s.vm.findClass E0 = some ce.cls → vx_W p l e R s m args below meth c H1 locs1 (k + mc) (n + ms) Q (F0 m pc ls rest0) q9) :
    W p l e R s m args below meth c H locs k n Q (F0 m pc ls st0) := by
  intro T hT X
  rcases hr T hT X with ⟨v, st₀, t, T', L, h0, X', hL, e1, e2, hFa, _⟩ | ⟨q, st₀, t, T', L, E, ce, h0, X', hL, e1, e2, ⟨rfl, hP1, hz, hk⟩, hce, hcv, hcl, st⟩
  · exact hFa.elim
  · have hF := va_free (wc := g_mk (fun j => ad (g_rn is j)) cid wc) hD hS hA is (g_sub hw)
    rw [h0] at hz hk
    obtain ⟨t2, a1, b1⟩ := kk q ce T'.heap (locs ++ L) (by rw [e1]; exact g_joinW hw hlen hP hD hP1 hk) (g_D_len (g_pt_len _ _ _) hD)
      ⟨Nat.le_trans hS.1 (by rw [e1]; exact hz), fun q h1 h2 => by rw [e1, hk q (Nat.lt_of_lt_of_le h1 hS.1) (fun z => h2 (hF q z))]; exact hS.2.1 q h1 h2, fun q hq => by
        rcases List.mem_append.mp hq with h | h
        · exact hS.2.2 q h
        · exact hF _ (hL q h)⟩ (by rw [e1]; exact hce) hcv hcl T' rfl X'
    exact ⟨t2, st.trans a1, b1⟩
end GCallX
def g_cx (M : g_M) (idx : Nat) (M1 : g_M) (y : MethodName) (n : Nat) : Prop := Cond.methodLink M.2.2.1 idx y ∈ TT ∧ Cond.instanceMethod y ∈ TT ∧ Cond.selects y.cls y y ∈ TT ∧ Cond.initialized y.cls ∈ TT ∧ Cond.code y M1.1 M1.2.1 M1.2.2.2.1 ∈ TT ∧ (M1.2.2.2.2.1.cells = M1.2.2.2.2.2.1 ∧ M1.2.2.2.2.1.slots = M1.2.2.2.2.2.2) ∧ (y.cls ≠ "java/lang/invoke/MethodHandle" ∧ y.cls ≠ "java/lang/invoke/VarHandle" ∧ (parseMethodDescriptor y.desc).map (fun d => d.parameters.length) = some n) ∧ (M1.2.2.2.2.1.frames + 1 ≤ M.2.2.2.2.1.frames ∧ 8 + (M1.2.1 + 11) + M1.2.2.2.2.1.locals ≤ M.2.2.2.2.1.locals)
theorem G.callVX {M : g_M} {k n pc : Nat} {lv : List (Nat × Value)} {st : List Value} {ws : List va_E} {Q : g_QT} {hh : List (Nat × Nat × Nat × Nat)} {M1 : g_M} {y : MethodName} {as rest : List Value} {wc wc1 ws1 : List va_E} {idx j0 ci k1 n1 : Nat} {fs : List Value} {T0 : u_T} {N0 : Nat} {r1 : Option Value} {st1 : List Value} (is : List Nat) (hd : decode M.1 pc = .ok (.invokevirtual idx, 3)) (hc : g_cx M idx M1 y as.length) (hM : KX M1 y (.ref j0 :: as) wc (.inl r1) wc1) (hj : wc[j0]? = some (.inr (ci, fs))) (hcl : vwCl[ci]? = some (y.cls, T0, N0)) (hst : (as.map (g_rv is)).reverse ++ .ref (g_rn is j0) :: rest = st) (hw : is.map (fun i => ws[i]?) = (wc.map (g_re is)).map some) (hnd : (va_nd is && Nat.ble is.length 1000 && Nat.beq wc1.length wc.length) = true) (hk1 : k + M1.2.2.2.2.2.1 = k1) (hn1 : n + M1.2.2.2.2.2.2 = n1) (hk9 : Nat.ble k1 M.2.2.2.2.1.cells = true) (hn9 : Nat.ble n1 M.2.2.2.2.1.slots = true) (hcat : Nat.ble (rest.map fun v => v.category).sum 8 = true) (hs1 : (r1.map (g_rv is)).toList ++ rest = st1) (hw1 : g_pt is (wc1.map (g_re is)) ws = ws1) (kk : GX (g_gd (g_PW hh) Q) M k1 n1 (pc + 3) lv st1 ws1) : GX (g_gd (g_PW hh) Q) M k n pc lv st ws := by
  refine GX.byP (fun p l e s m args below meth c D cid A n0 ad0 hp C ad ls H locs hq hl hP hD hS => ?_)
  obtain ⟨hp1, hp2, hp3, hp4⟩ := hp
  simp only [Bool.and_eq_true] at hnd
  obtain ⟨⟨hnd1, hnd2⟩, hnd3⟩ := hnd
  have hK := hM l D cid (fun j => ad (g_rn is j)) H.size hp1
  obtain ⟨c1, c2, c2b, c3, c4, ⟨c5, c6⟩, c9, c10⟩ := hc
  have hcw := cwV (R := M.2.2.2.2.1) (s := s) (args := args) (own := M.2.2.1) (C := y.cls) (index := idx) (y := y) (bytes := M1.1) (maxL := M1.2.1) (ret := M1.2.2.2.1) (Ts := TT) (ws := Cond.code y M1.1 M1.2.1 M1.2.2.2.1 :: TT) (ws' := TT) (rm := M1.2.2.2.2.1) as.length C.2.2.2.2.2.1 (tg_in (fun w h => by
    simp only [wsV, List.mem_append, List.mem_cons, List.not_mem_nil, or_false] at h
    rcases h with (rfl | rfl | rfl | rfl) | rfl | h <;> first | assumption)) rfl c5 c6 ⟨rfl, c9⟩ c10
  subst hst hk1 hn1
  have hpre := g_preX (as := .ref j0 :: as) C hp4 hq hP hD hS hw hnd1 (Nat.le_of_ble_eq_true hnd2) rfl
  have hrecv : ∃ cellB : Cell, H[ad (g_rn is j0)]? = some cellB ∧ cellB.vm.isStatics = false ∧ s.vm.findClass y.cls = some cellB.cls := by
    have h := congrArg (fun l => l[j0]?) (g_sub (ad := ad) (cid := cid) hw)
    simp only [List.getElem?_map, g_get (fun j => ad (g_rn is j)) cid hj, Option.map_some] at h
    cases hi : is[j0]? with
    | none => rw [hi] at h; simp at h
    | some i =>
      rw [hi] at h
      simp only [Option.map_some, Option.some.injEq] at h
      exact va_recv C.2.2.2.2.2.2.2.1 hP hcl h
  have hrun := vx_runV (b := ad (g_rn is j0)) (C := y.cls) (As := as.map (g_tv (fun j => ad (g_rn is j)))) (rest := rest.map (g_tv ad)) (nL := M.2.1) (Ts := TT) (H := H) (locs := locs) (cells := k) (slots := n) (p := p) (e := e) (m := m) (below := below) (meth := meth) (c := c) (cc := M.1) (g := F0 m pc ls (((as.map (g_rv is)).reverse ++ .ref (g_rn is j0) :: rest).map (g_tv ad))) ⟨C.1, C.2.1, C.2.2.2.1, C.2.2.2.2.1, C.2.2.2.2.2.1⟩ hK hcw ⟨g_blindX _ _ _ _ _ _, hrecv, hpre⟩ rfl (by simp) hl.1 (by simp only [List.map_append, List.map_reverse, List.map_map, List.map_cons, g_rv, Function.comp_def, g_tv_tv]; rfl) (lv_room (by rw [List.map_map]; simp only [Function.comp_def, g_catv]; exact Nat.le_of_ble_eq_true hcat)) hd ⟨Nat.le_of_ble_eq_true hk9, Nat.le_of_ble_eq_true hn9⟩
  refine g_afterM (a := #[]) (ad := ad) (is := is) (ws := ws) (g_toRun hrun) hw (Nat.eq_of_beq_eq_true hnd3) C.2.2.2.2.2.2.2.2.1 hP hD hS (fun H locs hP hD hS => ?_)
  rw [hw1] at hP hD
  have h9 := kk p l e s m args below meth c D cid A n0 ad0 C ad ls H locs hq hl hP hD hS
  rw [← hs1, show ((r1.map (g_rv is)).toList ++ rest).map (g_tv ad) = (r1.map (g_tv (fun j => ad (g_rn is j)))).toList ++ rest.map (g_tv ad) by cases r1 <;> simp [g_rv, g_tv_tv]] at h9
  exact h9
def g_nc (E nm : String) : Prop := (E = "java/lang/IllegalStateException" ∧ nm = "java/lang/IllegalArgumentException") ∨ (E = "java/lang/IllegalArgumentException" ∧ nm = "java/util/NoSuchElementException")
theorem g_XE.nc {A : Nat → Prop} {U : State} {H : Heap} (h : g_XE A U H) {E nm : String} (hn : g_nc E nm) : va_Nc E nm U := by
  rcases hn with ⟨rfl, rfl⟩ | ⟨rfl, rfl⟩
  · exact h.2.2.2.2.1
  · exact h.2.2.2.2.2
theorem G.callVT {M : g_M} {k n pc : Nat} {lv : List (Nat × Value)} {st : List Value} {ws : List va_E} {Q : g_QT} {hh : List (Nat × Nat × Nat × Nat)} {M1 : g_M} {y : MethodName} {as rest : List Value} {wc wc1 ws1 : List va_E} {idx j0 ci k1 n1 : Nat} {fs : List Value} {T0 : u_T} {N0 : Nat} {E : String} {i9 : Nat} {lv1 : List (Nat × Value)} (is : List Nat) (pre : List ExceptionTableEntry) (x : ExceptionTableEntry) (suf : List ExceptionTableEntry) (hd : decode M.1 pc = .ok (.invokevirtual idx, 3)) (hc : g_cx M idx M1 y as.length) (hM : KX M1 y (.ref j0 :: as) wc (.inr E) wc1) (hj : wc[j0]? = some (.inr (ci, fs))) (hcl : vwCl[ci]? = some (y.cls, T0, N0)) (hst : (as.map (g_rv is)).reverse ++ .ref (g_rn is j0) :: rest = st) (hw : is.map (fun i => ws[i]?) = (wc.map (g_re is)).map some) (hnd : (va_nd is && Nat.ble is.length 1000 && Nat.beq wc1.length wc.length) = true) (hk1 : k + M1.2.2.2.2.2.1 = k1) (hn1 : n + M1.2.2.2.2.2.2 = n1) (hk9 : Nat.ble k1 M.2.2.2.2.1.cells = true) (hn9 : Nat.ble n1 M.2.2.2.2.1.slots = true) (hcat : Nat.ble (rest.map fun v => v.category).sum 8 = true) (hw1 : g_pt is (wc1.map (g_re is)) ws = ws1) (htab : tableOf hh = pre ++ x :: suf) (hpass : ∀ z ∈ pre, covers z pc = false ∨ (z.catchType ≠ 0 ∧ ∃ nm : String, Cond.classLink M.2.2.1 z.catchType nm ∈ TT ∧ g_nc E nm)) (hx : covers x pc = true) (h0 : x.catchType ≠ 0) (hlink : Cond.classLink M.2.2.1 x.catchType E ∈ TT) (hcast : Cond.castable E E ∈ g_xn) (hda : decode M.1 x.handlerPc = .ok (.astore i9, 2)) (hi9 : Nat.ble (i9 + 1) M.2.1 = true) (hs : lv.filter (fun q => !(q.1 == i9) && !(q.1 + 1 == i9 && q.2.category == 2)) = lv1) (kk : GX (g_gd (g_PW hh) Q) M k1 n1 (x.handlerPc + 2) lv1 [] ws1) : GX (g_gd (g_PW hh) Q) M k n pc lv st ws := by
  refine GX.byP (fun p l e s m args below meth c D cid A n0 ad0 hp C ad ls H locs hq hl hP hD hS => ?_)
  obtain ⟨hp1, hp2, hp3, hp4⟩ := hp
  simp only [Bool.and_eq_true] at hnd
  obtain ⟨⟨hnd1, hnd2⟩, hnd3⟩ := hnd
  have hK := hM l D cid (fun j => ad (g_rn is j)) H.size hp1
  obtain ⟨c1, c2, c2b, c3, c4, ⟨c5, c6⟩, c9, c10⟩ := hc
  have hcw := cwV (R := M.2.2.2.2.1) (s := s) (args := args) (own := M.2.2.1) (C := y.cls) (index := idx) (y := y) (bytes := M1.1) (maxL := M1.2.1) (ret := M1.2.2.2.1) (Ts := TT) (ws := Cond.code y M1.1 M1.2.1 M1.2.2.2.1 :: TT) (ws' := TT) (rm := M1.2.2.2.2.1) as.length C.2.2.2.2.2.1 (tg_in (fun w h => by
    simp only [wsV, List.mem_append, List.mem_cons, List.not_mem_nil, or_false] at h
    rcases h with (rfl | rfl | rfl | rfl) | rfl | h <;> first | assumption)) rfl c5 c6 ⟨rfl, c9⟩ c10
  subst hst hk1 hn1
  have hpre := g_preX (as := .ref j0 :: as) C hp4 hq hP hD hS hw hnd1 (Nat.le_of_ble_eq_true hnd2) rfl
  have hrecv : ∃ cellB : Cell, H[ad (g_rn is j0)]? = some cellB ∧ cellB.vm.isStatics = false ∧ s.vm.findClass y.cls = some cellB.cls := by
    have h := congrArg (fun l => l[j0]?) (g_sub (ad := ad) (cid := cid) hw)
    simp only [List.getElem?_map, g_get (fun j => ad (g_rn is j)) cid hj, Option.map_some] at h
    cases hi : is[j0]? with
    | none => rw [hi] at h; simp at h
    | some i =>
      rw [hi] at h
      simp only [Option.map_some, Option.some.injEq] at h
      exact va_recv C.2.2.2.2.2.2.2.1 hP hcl h
  have hrun := vx_runV (b := ad (g_rn is j0)) (C := y.cls) (As := as.map (g_tv (fun j => ad (g_rn is j)))) (rest := rest.map (g_tv ad)) (nL := M.2.1) (Ts := TT) (H := H) (locs := locs) (cells := k) (slots := n) (p := p) (e := e) (m := m) (below := below) (meth := meth) (c := c) (cc := M.1) (g := F0 m pc ls (((as.map (g_rv is)).reverse ++ .ref (g_rn is j0) :: rest).map (g_tv ad))) ⟨C.1, C.2.1, C.2.2.2.1, C.2.2.2.2.1, C.2.2.2.2.2.1⟩ hK hcw ⟨g_blindX _ _ _ _ _ _, hrecv, hpre⟩ rfl (by simp) hl.1 (by simp only [List.map_append, List.map_reverse, List.map_map, List.map_cons, g_rv, Function.comp_def, g_tv_tv]; rfl) (lv_room (by rw [List.map_map]; simp only [Function.comp_def, g_catv]; exact Nat.le_of_ble_eq_true hcat)) hd ⟨Nat.le_of_ble_eq_true hk9, Nat.le_of_ble_eq_true hn9⟩
  refine g_afterT (ad := ad) (is := is) (ws := ws) hrun hw (Nat.eq_of_beq_eq_true hnd3) C.2.2.2.2.2.2.2.2.1 hP hD hS (fun q9 ce H locs hP hD hS hce hcv hcl9 => ?_)
  rw [hw1] at hP hD
  refine vx_catch (own := M.2.2.1) (name := E) (E := E) C.2.2.2.2.1 pre x suf (hp2.trans htab) (fun z hz => ?_) hx h0 (C.2.2.2.2.2.1 _ hlink) (va_Nw.use rfl (hp4.2.1 _ hcast)) hce hcv hcl9 ?_
  · rcases hpass z hz with h | ⟨h1, nm, h2, h3⟩
    · exact Or.inl h
    · exact Or.inr ⟨h1, nm, C.2.2.2.2.2.1 _ h2, hp4.nc h3⟩
  · refine lv_astore C.1 C.2.1 hda hl (g_lt hi9) (rfl : _ = (i9, Value.ref q9) :: (lv.map (g_tl ad)).filter (fun q => !(q.1 == i9) && !(q.1 + 1 == i9 && q.2.category == 2))) (fun ls hl => ?_)
    have e9 : (lv.map (g_tl ad)).filter (fun q => !(q.1 == i9) && !(q.1 + 1 == i9 && q.2.category == 2)) = lv1.map (g_tl ad) := by
      rw [← hs]
      simp only [List.filter_map, g_tl, Function.comp_def, g_catv]
    rw [e9] at hl
    exact kk p l e s m args below meth c D cid A n0 ad0 C ad ls H locs hq ⟨hl.1, hl.2.1, fun q hq => hl.2.2 q (List.mem_cons_of_mem _ hq)⟩ hP hD hS
def g_ce (M : g_M) (idx : Nat) (M1 : g_M) (hh : List (Nat × Nat × Nat × Nat)) (y : MethodName) (n : Nat) : Prop := Cond.methodLink M.2.2.1 idx y ∈ TT ∧ Cond.static y ∈ TT ∧ Cond.initialized y.cls ∈ TT ∧ Cond.codeWith y M1.1 M1.2.1 M1.2.2.2.1 hh ∈ TT ∧ (M1.2.2.2.2.1.cells = M1.2.2.2.2.2.1 ∧ M1.2.2.2.2.1.slots = M1.2.2.2.2.2.2) ∧ (y.cls ≠ "java/lang/invoke/MethodHandle" ∧ y.cls ≠ "java/lang/invoke/VarHandle" ∧ (parseMethodDescriptor y.desc).map (fun d => d.parameters.length) = some n) ∧ (M1.2.2.2.2.1.frames + 1 ≤ M.2.2.2.2.1.frames ∧ 8 + (M1.2.1 + 11) + M1.2.2.2.2.1.locals ≤ M.2.2.2.2.1.locals)
def g_Px (P : g_PT) : Prop := ∀ p l e s m args below meth c D cid A n0 ad0, P p l e s m args below meth c D cid A n0 ad0 → l.stackTraces = false ∧ g_XE A s s.heap
theorem G.callSE {M : g_M} {k n pc : Nat} {lv : List (Nat × Value)} {st : List Value} {ws : List va_E} {P : g_PT} {Q : g_QT} {hh : List (Nat × Nat × Nat × Nat)} {M1 : g_M} {y : MethodName} {as rest : List Value} {wc wc1 ws1 : List va_E} {r1 : Option Value} {st1 : List Value} {idx k1 n1 : Nat} (is : List Nat) (hPx : g_Px P) (hd : decode M.1 pc = .ok (.invokestatic idx, 3)) (hc : g_ce M idx M1 hh y as.length) (hM : KE M1 hh y as wc r1 wc1) (hst : (as.map (g_rv is)).reverse ++ rest = st) (hw : is.map (fun i => ws[i]?) = (wc.map (g_re is)).map some) (hnd : (va_nd is && Nat.ble is.length 1000 && Nat.beq wc1.length wc.length) = true) (hk1 : k + M1.2.2.2.2.2.1 = k1) (hn1 : n + M1.2.2.2.2.2.2 = n1) (hk9 : k1 ≤ M.2.2.2.2.1.cells) (hn9 : n1 ≤ M.2.2.2.2.1.slots) (hcat : Nat.ble (rest.map fun v => v.category).sum 8 = true) (hs1 : (r1.map (g_rv is)).toList ++ rest = st1) (hw1 : g_pt is (wc1.map (g_re is)) ws = ws1) (kk : GX (g_gd P Q) M k1 n1 (pc + 3) lv st1 ws1) : GX (g_gd P Q) M k n pc lv st ws := by
  refine GX.byP (fun p l e s m args below meth c D cid A n0 ad0 hp C ad ls H locs hq hl hP hD hS => ?_)
  obtain ⟨hp1, hp4⟩ := hPx _ _ _ _ _ _ _ _ _ _ _ _ _ _ hp
  simp only [Bool.and_eq_true] at hnd
  obtain ⟨⟨hnd1, hnd2⟩, hnd3⟩ := hnd
  have hK := hM l D cid (fun j => ad (g_rn is j)) H.size hp1
  obtain ⟨c1, c2, c3, c4, ⟨c5, c6⟩, c9, c10⟩ := hc
  have hcw := vx_cwSW (R := M.2.2.2.2.1) (s := s) (args := args) (own := M.2.2.1) (index := idx) (y := y) (bytes := M1.1) (maxL := M1.2.1) (ret := M1.2.2.2.1) (hh := hh) (Ts := TT) (ws := Cond.codeWith y M1.1 M1.2.1 M1.2.2.2.1 hh :: TT) (ws' := TT) (rm := M1.2.2.2.2.1) as.length C.2.2.2.2.2.1 (tg_in (fun w h => by
    simp only [va_wsS, List.mem_append, List.mem_cons, List.not_mem_nil, or_false] at h
    rcases h with (rfl | rfl | rfl) | rfl | h <;> first | assumption)) rfl c5 c6 c9 c10
  subst hst hk1 hn1
  refine g_afterM (ad := ad) (is := is) (ws := ws) (vx_runSW (As := as.map (g_tv (fun j => ad (g_rn is j)))) (rest := rest.map (g_tv ad)) (nL := M.2.1) (Ts := TT) ⟨C.1, C.2.1, C.2.2.2.1, C.2.2.2.2.1, C.2.2.2.2.2.1⟩ hK hcw ⟨g_blindX _ _ _ _ _ _, g_preX C hp4 hq hP hD hS hw hnd1 (Nat.le_of_ble_eq_true hnd2) rfl⟩ rfl (by simp) hl.1 (by simp [g_rv, g_tv_tv, Function.comp_def]) (lv_room (by rw [List.map_map]; simp only [Function.comp_def, g_catv]; exact Nat.le_of_ble_eq_true hcat)) hd ⟨hk9, hn9⟩) hw (Nat.eq_of_beq_eq_true hnd3) C.2.2.2.2.2.2.2.2.1 hP hD hS (fun H locs hP hD hS => ?_)
  rw [hw1] at hP hD
  have h9 := kk p l e s m args below meth c D cid A n0 ad0 C ad ls H locs hq hl hP hD hS
  rw [← hs1, show ((r1.map (g_rv is)).toList ++ rest).map (g_tv ad) = (r1.map (g_tv (fun j => ad (g_rn is j)))).toList ++ rest.map (g_tv ad) by cases r1 <;> simp [g_rv, g_tv_tv]] at h9
  exact h9
theorem g_thrA : g_thr 54 56 "java/lang/IllegalArgumentException" := ⟨tw131, tw132, by decide +kernel, by decide +kernel, by decide +kernel, by decide +kernel⟩
theorem g_thrS : g_thr 61 63 "java/lang/IllegalStateException" := ⟨tw133, tw134, by decide +kernel, by decide +kernel, by decide +kernel, by decide +kernel⟩
theorem g_thrN : g_thr 72 74 "java/util/NoSuchElementException" := ⟨tw181, tw182, by decide +kernel, by decide +kernel, by decide +kernel, by decide +kernel⟩
