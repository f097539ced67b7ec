def TG (ws : List Cond) : Prop := ∀ w ∈ ws, (w.onTables && w.keeps) = true ∨ ∃ ty, w = .arrayClass ty
theorem tg1 {a : List Cond} (h : a.all goodWord = true) : TG a := fun w hw => good_of_word (List.all_eq_true.mp h w hw)
theorem tg2 {a b : List Cond} (ha : TG a) (hb : TG b) : TG (a ++ b) := fun w h => (List.mem_append.mp h).elim (ha w) (hb w)
theorem tg_TT0 : TT0.all goodWord = true := by decide +kernel
theorem tg_TT1 : TT1.all goodWord = true := by decide +kernel
theorem tg_TT2 : TT2.all goodWord = true := by decide +kernel
theorem tg_TT3 : TT3.all goodWord = true := by decide +kernel
theorem tg_TT4 : TT4.all goodWord = true := by decide +kernel
theorem tg_TT5 : TT5.all goodWord = true := by decide +kernel
theorem tg_TT6 : TT6.all goodWord = true := by decide +kernel
theorem tg_TT7 : TT7.all goodWord = true := by decide +kernel
theorem tg_TT8 : TT8.all goodWord = true := by decide +kernel
theorem tg_TT9 : TT9.all goodWord = true := by decide +kernel
theorem tg_TT10 : TT10.all goodWord = true := by decide +kernel
theorem tg_TT11 : TT11.all goodWord = true := by decide +kernel
theorem tg_TT12 : TT12.all goodWord = true := by decide +kernel
theorem tg_TT13 : TT13.all goodWord = true := by decide +kernel
theorem tg_TT14 : TT14.all goodWord = true := by decide +kernel
theorem tg_TT15 : TT15.all goodWord = true := by decide +kernel
theorem tg_TT16 : TT16.all goodWord = true := by decide +kernel
theorem tg_TT17 : TT17.all goodWord = true := by decide +kernel
theorem tg_TT18 : TT18.all goodWord = true := by decide +kernel
theorem tg_TT19 : TT19.all goodWord = true := by decide +kernel
theorem tg_TT20 : TT20.all goodWord = true := by decide +kernel
theorem tg_TT21 : TT21.all goodWord = true := by decide +kernel
theorem tg_TT22 : TT22.all goodWord = true := by decide +kernel
theorem tg_TT23 : TT23.all goodWord = true := by decide +kernel
theorem tg_TT24 : TT24.all goodWord = true := by decide +kernel
theorem tg_TT25 : TT25.all goodWord = true := by decide +kernel
theorem tg_TT26 : TT26.all goodWord = true := by decide +kernel
theorem tg_TT27 : TT27.all goodWord = true := by decide +kernel
theorem tg_TT28 : TT28.all goodWord = true := by decide +kernel
theorem tg_TT29 : TT29.all goodWord = true := by decide +kernel
theorem tg_TT30 : TT30.all goodWord = true := by decide +kernel
theorem tg_TT31 : TT31.all goodWord = true := by decide +kernel
theorem tg_TT32 : TT32.all goodWord = true := by decide +kernel
theorem tg_TT33 : TT33.all goodWord = true := by decide +kernel
theorem tg_TT34 : TT34.all goodWord = true := by decide +kernel
theorem tg_TT35 : TT35.all goodWord = true := by decide +kernel
theorem tg_TT36 : TT36.all goodWord = true := by decide +kernel
theorem tg_wsX00 : wsX00.all goodWord = true := by decide +kernel
theorem tg_wsX20 : wsX20.all goodWord = true := by decide +kernel
theorem tg_wsX30 : wsX30.all goodWord = true := by decide +kernel
theorem tg_wsX60 : wsX60.all goodWord = true := by decide +kernel
theorem tg_wsX70 : wsX70.all goodWord = true := by decide +kernel
theorem tg_wsX80 : wsX80.all goodWord = true := by decide +kernel
theorem tg_wsX90 : wsX90.all goodWord = true := by decide +kernel
theorem tg_wsX100 : wsX100.all goodWord = true := by decide +kernel
theorem tg_wsX110 : wsX110.all goodWord = true := by decide +kernel
theorem tg_TT : TG TT := by
  unfold TT
  exact tg2 (tg1 tg_TT0) (tg2 (tg1 tg_TT1) (tg2 (tg1 tg_TT2) (tg2 (tg1 tg_TT3) (tg2 (tg1 tg_TT4) (tg2 (tg1 tg_TT5) (tg2 (tg1 tg_TT6) (tg2 (tg1 tg_TT7) (tg2 (tg1 tg_TT8) (tg2 (tg1 tg_TT9) (tg2 (tg1 tg_TT10) (tg2 (tg1 tg_TT11) (tg2 (tg1 tg_TT12) (tg2 (tg1 tg_TT13) (tg2 (tg1 tg_TT14) (tg2 (tg1 tg_TT15) (tg2 (tg1 tg_TT16) (tg2 (tg1 tg_TT17) (tg2 (tg1 tg_TT18) (tg2 (tg1 tg_TT19) (tg2 (tg1 tg_TT20) (tg2 (tg1 tg_TT21) (tg2 (tg1 tg_TT22) (tg2 (tg1 tg_TT23) (tg2 (tg1 tg_TT24) (tg2 (tg1 tg_TT25) (tg2 (tg1 tg_TT26) (tg2 (tg1 tg_TT27) (tg2 (tg1 tg_TT28) (tg2 (tg1 tg_TT29) (tg2 (tg1 tg_TT30) (tg2 (tg1 tg_TT31) (tg2 (tg1 tg_TT32) (tg2 (tg1 tg_TT33) (tg2 (tg1 tg_TT34) (tg2 (tg1 tg_TT35) (tg2 (tg1 tg_TT36) (tg2 (tg1 tg_wsX00) (tg2 (tg1 tg_wsX20) (tg2 (tg1 tg_wsX30) (tg2 (tg1 tg_wsX60) (tg2 (tg1 tg_wsX70) (tg2 (tg1 tg_wsX80) (tg2 (tg1 tg_wsX90) (tg2 (tg1 tg_wsX100) (tg1 tg_wsX110)))))))))))))))))))))))))))))))))))))))))))))
theorem tg_in {ws : List Cond} (h : ∀ w ∈ ws, w ∈ TT) : GoodIn TT ws := fun w hw => ⟨h w hw, tg_TT w (h w hw)⟩
/-- a callee's cells, written with the caller's places -/
def g_rn (is : List Nat) (j : Nat) : Nat := (is[j]?).getD j
def g_re (is : List Nat) (e : va_E) : va_E := g_te (g_rn is) (fun x => x) e
def g_rv (is : List Nat) (v : Value) : Value := g_tv (g_rn is) v
def g_pt : List Nat → List va_E → List va_E → List va_E
  | i :: is, e :: es, ws => g_pt is es (ws.set i e)
  | _, _, ws => ws
theorem g_tv_tv (ad f : Nat → Nat) (v : Value) : g_tv ad (g_tv f v) = g_tv (fun j => ad (f j)) v := by cases v <;> rfl
theorem g_te_te (ad f : Nat → Nat) (cid : Nat → ClassId) (e : va_E) : g_te ad cid (g_te f (fun x => x) e) = g_te (fun j => ad (f j)) cid e := by
  rcases e with ⟨k, n, x⟩ | ⟨ci, fs⟩
  · rcases x with x | x | x | x | x <;> simp [g_te, g_ta, Function.comp_def]
  · simp [g_te, Function.comp_def, g_tv_tv]
theorem g_pt_len : ∀ (is : List Nat) (es ws : List va_E), (g_pt is es ws).length = ws.length
  | [], _, _ => by simp [g_pt]
  | _ :: _, [], _ => by simp [g_pt]
  | i :: is, e :: es, ws => by simp [g_pt, g_pt_len is es]
theorem g_pt_get : ∀ (is : List Nat) (es ws : List va_E) (i : Nat) (e : va_E), (g_pt is es ws)[i]? = some e → is.length = es.length → (∃ j : Nat, is[j]? = some i ∧ es[j]? = some e) ∨ (i ∉ is ∧ ws[i]? = some e)
  | [], es, ws, i, e, h, _ => by
    simp [g_pt] at h
    exact Or.inr ⟨by simp, h⟩
  | _ :: _, [], _, _, _, _, h => by simp at h
  | i0 :: is, e0 :: es, ws, i, e, h, hl => by
    rw [g_pt] at h
    rcases g_pt_get is es (ws.set i0 e0) i e h (by simpa using hl) with ⟨j, h1, h2⟩ | ⟨h1, h2⟩
    · exact Or.inl ⟨j + 1, by simpa using h1, by simpa using h2⟩
    · rw [List.getElem?_set] at h2
      by_cases hi : i0 = i
      · subst hi
        rw [if_pos rfl] at h2
        by_cases hl2 : i0 < ws.length
        · rw [if_pos hl2] at h2
          cases h2
          exact Or.inl ⟨0, rfl, rfl⟩
        · rw [if_neg hl2] at h2
          cases h2
      · rw [if_neg hi] at h2
        exact Or.inr ⟨by simp [Ne.symm hi, h1], h2⟩
theorem g_D_len {A : Nat → Prop} {ad : Nat → Nat} {cid : Nat → ClassId} {ws ws1 : List va_E} (hl : ws1.length = ws.length) (h : va_D A (g_mk ad cid ws)) : va_D A (g_mk ad cid ws1) := by
  have hx : ∀ (i : Nat) (q : Nat × va_E), (g_mk ad cid ws1)[i]? = some q → ∃ q0 : Nat × va_E, (g_mk ad cid ws)[i]? = some q0 ∧ q0.1 = q.1 := by
    intro i q hq
    obtain ⟨e, h1, rfl⟩ := g_get' ad cid hq
    have hi : i < ws.length := by
      have := (List.getElem?_eq_some_iff.mp h1).1
      omega
    exact ⟨_, g_get ad cid (List.getElem?_eq_getElem hi), rfl⟩
  refine ⟨fun i j p q hp hq hpq => ?_, fun i q hq => ?_⟩
  · obtain ⟨p0, h1, h2⟩ := hx i p hp
    obtain ⟨q0, h3, h4⟩ := hx j q hq
    exact h.1 i j p0 q0 h1 h3 (by rw [h2, h4, hpq])
  · obtain ⟨q0, h1, h2⟩ := hx i q hq
    rw [← h2]
    exact h.2 i q0 h1
/-- the callee's world among the caller's -/
theorem g_sub {ad : Nat → Nat} {cid : Nat → ClassId} {ws wc : List va_E} {is : List Nat} (hw : is.map (fun i => ws[i]?) = (wc.map (g_re is)).map some) : is.map (fun i => (g_mk ad cid ws)[i]?) = (g_mk (fun j => ad (g_rn is j)) cid wc).map some := by
  apply List.ext_getElem?
  intro j
  have h := congrArg (fun l => l[j]?) hw
  simp only [List.getElem?_map] at h ⊢
  cases hi : is[j]? with
  | none =>
    rw [hi] at h
    cases hc : wc[j]? with
    | none => simp [g_mk, hc]
    | some e => rw [hc] at h; simp at h
  | some i =>
    rw [hi] at h
    cases hc : wc[j]? with
    | none => rw [hc] at h; simp at h
    | some e =>
      rw [hc] at h
      simp only [Option.map_some, Option.some.injEq] at h
      have hr : g_rn is j = i := by simp [g_rn, hi]
      simp only [Option.map_some, g_get ad cid h, g_get (fun j => ad (g_rn is j)) cid hc]
      rw [g_re, g_te_te, hr]
section GCall
variable {p : Program} {l : Launch} {e : Env} {R : Room} {s : State} {m : MethodId} {args : Array Value} {below : List Frame} {meth : Method} {c : Code} {H : Heap} {locs : List Loc} {Q : State → Prop}
theorem g_after {k n pc : Nat} {ls : Array Slot} {st0 rest0 : List Value} {a : Array Value} {D : va_G} {cid : Nat → ClassId} {A : Nat → Prop} {ad : Nat → Nat} {ws wc wc1 : List va_E} {is : List Nat} {r1 : Option Value}
    (hr : va_Run p l e R s m args below meth c H locs k n 0 0 (F0 m pc ls st0) rest0 (g_Q D cid (va_A (g_mk (fun j => ad (g_rn is j)) cid wc) H.size) 1000 (fun j => ad (g_rn is j)) r1 wc1 a) (va_A (g_mk (fun j => ad (g_rn is j)) cid wc) H.size))
    (hw : is.map (fun i => ws[i]?) = (wc.map (g_re is)).map some) (hlen : wc1.length = wc.length) (hA : ∀ q, s.heap.size ≤ q → A q) (hP : va_P D vwCl (g_mk ad cid ws) H) (hD : va_D A (g_mk ad cid ws)) (hS : va_S A s.heap H locs)
    (kk : ∀ (H1 : Heap) (locs1 : List Loc), va_P D vwCl (g_mk ad cid (g_pt is (wc1.map (g_re is)) ws)) H1 → va_D A (g_mk ad cid (g_pt is (wc1.map (g_re is)) ws)) → va_S A s.heap H1 locs1 → W p l e R s m args below meth c H1 locs1 k n Q (F0 m (pc + 3) ls ((r1.map (g_tv (fun j => ad (g_rn is j)))).toList ++ rest0))) :
    W p l e R s m args below meth c H locs k n Q (F0 m pc ls st0) := by
  intro T hT X
  obtain ⟨v, st₀, t, T', L, h0, X', hL, e1, e2, ⟨⟨ad', hq', hv, hP1, hK1, hD1⟩, hz, hk⟩, st⟩ := hr T hT X
  have hF := va_free (wc := g_mk (fun j => ad (g_rn is j)) cid wc) hD hS hA is (g_sub hw)
  rw [g_eq_all hq'] at hv hP1 hD1
  cases hv
  rw [h0] at hz hk
  have hlw : is.length = (wc1.map (g_re is)).length := by
    have := congrArg List.length hw
    simp at this
    simp [this, hlen]
  have hP2 : va_P D vwCl (g_mk ad cid (g_pt is (wc1.map (g_re is)) ws)) t.heap := by
    intro i q hq
    obtain ⟨e0, h1, rfl⟩ := g_get' ad cid hq
    rcases g_pt_get is _ ws i e0 h1 hlw with ⟨j, h2, h3⟩ | ⟨h2, h3⟩
    · rw [List.getElem?_map, Option.map_eq_some_iff] at h3
      obtain ⟨e3, h4, rfl⟩ := h3
      have h5 := hP1 j _ (g_get _ cid h4)
      have hr9 : g_rn is j = i := by simp [g_rn, h2]
      rw [g_re, g_te_te]
      rw [hr9] at h5
      exact h5
    · have h4 := hP i _ (g_get ad cid h3)
      have h5 := h4.lt
      refine h4.kept ?_
      refine hk _ h5 (fun hA1 => ?_)
      rcases hA1 with ⟨j, e3, h6⟩ | h6
      · obtain ⟨e4, h7, h8⟩ := g_get' _ cid h6
        have h9 : is[j]? = some (g_rn is j) := by
          have := (List.getElem?_eq_some_iff.mp h7).1
          have hj : j < is.length := by
            have h10 := congrArg List.length hw
            simp at h10
            omega
          simp [g_rn, List.getElem?_eq_getElem hj]
        have h10 := g_sub (ad := ad) (cid := cid) hw
        have h11 := congrArg (fun l => l[j]?) h10
        simp only [List.getElem?_map, h9, Option.map_some, g_get (fun j => ad (g_rn is j)) cid h7, Option.some.injEq] at h11
        have h12 := hD.1 i (g_rn is j) _ _ (g_get ad cid h3) h11 (by simpa using (congrArg Prod.fst h8))
        exact h2 (h12 ▸ List.mem_of_getElem? h9)
      · exact absurd h5 (Nat.not_lt.mpr h6)
  obtain ⟨t2, a1, b1⟩ := kk T'.heap (locs ++ L) (by rw [e1]; exact hP2) (g_D_len (g_pt_len _ _ _) hD)
    ⟨Nat.le_trans hS.1 (by rw [e1]; exact hz), fun q h1 h2 => by rw [e1, hk q (Nat.lt_of_lt_of_le h1 hS.1) (fun z => h2 (hF q z))]; exact hS.2.1 q h1 h2, fun q hq => by
      rcases List.mem_append.mp hq with h | h
      · exact hS.2.2 q h
      · exact hF _ (hL q h)⟩ T' rfl X'
  exact ⟨t2, st t2 a1, b1⟩
end GCall
/-- what a call of y stands on, but the worlds: a static call, a call on an object, one of a private method of the nest -/
def g_cs (M : g_M) (idx : Nat) (M1 : g_M) (y : MethodName) (n : Nat) : Prop := Cond.methodLink M.2.2.1 idx y ∈ TT ∧ Cond.static y ∈ TT ∧ Cond.initialized y.cls ∈ TT ∧ Cond.code y M1.1 M1.2.1 M1.2.2.2.1 ∈ TT ∧ (M1.2.2.2.2.1.cells = 0 ∧ M1.2.2.2.2.1.slots = 0 ∧ M1.2.2.2.2.2.1 = 0 ∧ M1.2.2.2.2.2.2 = 0) ∧ (y.cls ≠ "java/lang/invoke/MethodHandle" ∧ y.cls ≠ "java/lang/invoke/VarHandle" ∧ (parseMethodDescriptor y.desc).map (fun d => d.parameters.length) = some n) ∧ (M1.2.2.2.2.1.frames + 1 ≤ M.2.2.2.2.1.frames ∧ 8 + (M1.2.1 + 11) + M1.2.2.2.2.1.locals ≤ M.2.2.2.2.1.locals)
def g_cv (M : g_M) (idx : Nat) (M1 : g_M) (y : MethodName) (n : Nat) : Prop := Cond.methodLink M.2.2.1 idx y ∈ TT ∧ Cond.instanceMethod y ∈ TT ∧ Cond.selects y.cls y y ∈ TT ∧ Cond.initialized y.cls ∈ TT ∧ Cond.code y M1.1 M1.2.1 M1.2.2.2.1 ∈ TT ∧ (M1.2.2.2.2.1.cells = 0 ∧ M1.2.2.2.2.1.slots = 0 ∧ M1.2.2.2.2.2.1 = 0 ∧ M1.2.2.2.2.2.2 = 0) ∧ (y.cls ≠ "java/lang/invoke/MethodHandle" ∧ y.cls ≠ "java/lang/invoke/VarHandle" ∧ (parseMethodDescriptor y.desc).map (fun d => d.parameters.length) = some n) ∧ (M1.2.2.2.2.1.frames + 1 ≤ M.2.2.2.2.1.frames ∧ 8 + (M1.2.1 + 11) + M1.2.2.2.2.1.locals ≤ M.2.2.2.2.1.locals)
def g_csn (M : g_M) (idx : Nat) (M1 : g_M) (y : MethodName) (n : Nat) : Prop := Cond.methodLinkNest M.2.2.1 idx y "TimedThreads" ∈ g_nn ∧ Cond.static y ∈ TT ∧ Cond.initialized y.cls ∈ TT ∧ Cond.code y M1.1 M1.2.1 M1.2.2.2.1 ∈ TT ∧ (M1.2.2.2.2.1.cells = 0 ∧ M1.2.2.2.2.1.slots = 0 ∧ M1.2.2.2.2.2.1 = 0 ∧ M1.2.2.2.2.2.2 = 0) ∧ (y.cls ≠ "java/lang/invoke/MethodHandle" ∧ y.cls ≠ "java/lang/invoke/VarHandle" ∧ (parseMethodDescriptor y.desc).map (fun d => d.parameters.length) = some n) ∧ (M1.2.2.2.2.1.frames + 1 ≤ M.2.2.2.2.1.frames ∧ 8 + (M1.2.1 + 11) + M1.2.2.2.2.1.locals ≤ M.2.2.2.2.1.locals)
theorem g_blind (D : va_G) (cid : Nat → ClassId) (ad : Nat → Nat) (sz : Nat) (as : List Value) (ws : List va_E) : FrameBlind (g_Pc D cid ad sz as ws) := fun a U g mk q => by
  obtain ⟨q0, q1, qP, qK, qD, qB, qN⟩ := q
  exact ⟨q0, q1, qP, va_K.moved (u := U) (U := U.calling g mk a) (Vm.Alike.refl U.vm) qK, qD, g_B.moved (u := U) (U := U.calling g mk a) (Vm.Alike.refl U.vm) qB, g_N.same (u := U) (U := U.calling g mk a) rfl qN⟩
theorem g_pre {M : g_M} {p : Program} {s : State} {m : MethodId} {args : Array Value} {meth : Method} {c : Code} {D : va_G} {cid : Nat → ClassId} {A : Nat → Prop} {n0 : Nat} {ad0 ad : Nat → Nat} {H : Heap} {locs : List Loc} {ws wc : List va_E} {is : List Nat} {as : List Value} {As : List Value}
    (C : g_Cx M p s m args meth c D cid A ad0) (hq : g_eq n0 ad ad0) (hP : va_P D vwCl (g_mk ad cid ws) H) (hD : va_D A (g_mk ad cid ws)) (hS : va_S A s.heap H locs)
    (hw : is.map (fun i => ws[i]?) = (wc.map (g_re is)).map some) (hnd : va_nd is = true) (hle : is.length ≤ 1000) (hAs : As = as.map (g_tv (fun j => ad (g_rn is j)))) :
    ∀ U : State, U.heap = H → s.WarmedH U.vm → g_Pc D cid (fun j => ad (g_rn is j)) H.size as wc As.toArray U := by
  intro U hU hW
  have hF := va_free (wc := g_mk (fun j => ad (g_rn is j)) cid wc) hD hS C.2.2.2.2.2.2.2.2.1 is (g_sub hw)
  subst hAs
  refine ⟨rfl, by rw [hU], ?_, va_K.moved hW.alike C.2.2.2.2.2.2.2.1, ?_, ?_, g_N.warm hW C.2.2.2.2.2.2.2.2.2.2⟩
  · rw [hU]
    intro j q hj
    have h := congrArg (fun l => l[j]?) (g_sub (ad := ad) (cid := cid) hw)
    simp only [List.getElem?_map, hj, Option.map_some] at h
    cases hi : is[j]? with
    | none => rw [hi] at h; simp at h
    | some i =>
      rw [hi] at h
      simp only [Option.map_some, Option.some.injEq] at h
      exact hP i q h
  · exact (hD.sub is hnd (g_sub hw)).weaken (fun _ _ _ _ => trivial)
  · have h1 := C.2.2.2.2.2.2.2.2.2.1.kept hS.2.1
    have h2 := (h1.narrow hF).moved hW.alike
    rw [hU]
    refine h2.at (fun i hi => ?_)
    have : g_rn is i = i := by
      have : is[i]? = none := by simp; omega
      simp [g_rn, this]
    rw [this, hq i (Or.inr hi)]
theorem G.callS {M : g_M} {k n pc : Nat} {lv : List (Nat × Value)} {st : List Value} {ws : List va_E} {Q : g_QT} {M1 : g_M} {y : MethodName} {as rest : List Value} {wc wc1 ws1 : List va_E} {r1 : Option Value} {st1 : List Value} {idx : Nat} (is : List Nat) (hd : decode M.1 pc = .ok (.invokestatic idx, 3)) (hc : g_cs M idx M1 y as.length) (hM : K M1 y as wc r1 wc1) (hst : (as.map (g_rv is)).reverse ++ rest = st) (hw : is.map (fun i => ws[i]?) = (wc.map (g_re is)).map some) (hnd : (va_nd is && Nat.ble is.length 1000 && Nat.beq wc1.length wc.length) = true) (hk9 : Nat.ble k M.2.2.2.2.1.cells = true) (hn9 : Nat.ble n M.2.2.2.2.1.slots = true) (hcat : Nat.ble (rest.map fun v => v.category).sum 8 = true) (hs1 : (r1.map (g_rv is)).toList ++ rest = st1) (hw1 : g_pt is (wc1.map (g_re is)) ws = ws1) (kk : GX Q M k n (pc + 3) lv st1 ws1) : GX Q M k n pc lv st ws := by
  intro p l e s m args below meth c D cid A n0 ad0 C ad ls H locs hq hl hP hD hS
  simp only [Bool.and_eq_true] at hnd
  obtain ⟨⟨hnd1, hnd2⟩, hnd3⟩ := hnd
  have hK := hM l D cid (fun j => ad (g_rn is j)) H.size
  obtain ⟨c1, c2, c3, c4, ⟨c5, c6, c7, c8⟩, c9, c10⟩ := hc
  rw [show g_n0 M1 wc = 1000 by simp [g_n0, c7], c7, c8] at hK
  have hcw := va_cwS (R := M.2.2.2.2.1) (s := s) (args := args) (own := M.2.2.1) (index := idx) (y := y) (bytes := M1.1) (maxL := M1.2.1) (ret := M1.2.2.2.1) (Ts := TT) (ws := Cond.code y M1.1 M1.2.1 M1.2.2.2.1 :: TT) (ws' := TT) (rm := M1.2.2.2.2.1) as.length C.2.2.2.2.2.1 (tg_in (fun w h => by
    simp only [va_wsS, List.mem_append, List.mem_cons, List.not_mem_nil, or_false] at h
    rcases h with (rfl | rfl | rfl) | rfl | h <;> first | assumption)) rfl c5 c6 c9 c10
  subst hst
  refine g_after (ad := ad) (is := is) (ws := ws) (va_runS (As := as.map (g_tv (fun j => ad (g_rn is j)))) (rest := rest.map (g_tv ad)) (nL := M.2.1) (Ts := TT) ⟨C.1, C.2.1, C.2.2.2.1, C.2.2.2.2.1, C.2.2.2.2.2.1⟩ hK hcw ⟨g_blind _ _ _ _ _ _, g_pre C hq hP hD hS hw hnd1 (Nat.le_of_ble_eq_true hnd2) rfl⟩ rfl (by simp) hl.1 (by simp [g_rv, g_tv_tv, Function.comp_def]) (lv_room (by rw [List.map_map]; simp only [Function.comp_def, g_catv]; exact Nat.le_of_ble_eq_true hcat)) hd ⟨?_, ?_⟩) hw (Nat.eq_of_beq_eq_true hnd3) C.2.2.2.2.2.2.2.2.1 hP hD hS ?_
  · exact Nat.le_of_ble_eq_true hk9
  · exact Nat.le_of_ble_eq_true hn9
  · intro H locs hP hD hS
    rw [hw1] at hP hD
    have h9 := kk p l e s m args below meth c D cid A n0 ad0 C ad ls H locs hq hl hP hD hS
    rw [← hs1, show ((r1.map (g_rv is)).toList ++ rest).map (g_tv ad) = (r1.map (g_tv (fun j => ad (g_rn is j)))).toList ++ rest.map (g_tv ad) by cases r1 <;> simp [g_rv, g_tv_tv]] at h9
    exact h9
theorem G.callV {M : g_M} {k n pc : Nat} {lv : List (Nat × Value)} {st : List Value} {ws : List va_E} {Q : g_QT} {M1 : g_M} {y : MethodName} {as rest : List Value} {wc wc1 ws1 : List va_E} {r1 : Option Value} {st1 : List Value} {idx : Nat} {j0 ci : Nat} {fs : List Value} {T0 : u_T} {N0 : Nat} (is : List Nat) (hd : decode M.1 pc = .ok (.invokevirtual idx, 3)) (hc : g_cv M idx M1 y as.length) (hM : K M1 y (.ref j0 :: as) wc r1 wc1) (hj : wc[j0]? = some (.inr (ci, fs))) (hcl : vwCl[ci]? = some (y.cls, T0, N0)) (hst : (as.map (g_rv is)).reverse ++ .ref (g_rn is j0) :: rest = st) (hw : is.map (fun i => ws[i]?) = (wc.map (g_re is)).map some) (hnd : (va_nd is && Nat.ble is.length 1000 && Nat.beq wc1.length wc.length) = true) (hk9 : Nat.ble k M.2.2.2.2.1.cells = true) (hn9 : Nat.ble n M.2.2.2.2.1.slots = true) (hcat : Nat.ble (rest.map fun v => v.category).sum 8 = true) (hs1 : (r1.map (g_rv is)).toList ++ rest = st1) (hw1 : g_pt is (wc1.map (g_re is)) ws = ws1) (kk : GX Q M k n (pc + 3) lv st1 ws1) : GX Q M k n pc lv st ws := by
  intro p l e s m args below meth c D cid A n0 ad0 C ad ls H locs hq hl hP hD hS
  simp only [Bool.and_eq_true] at hnd
  obtain ⟨⟨hnd1, hnd2⟩, hnd3⟩ := hnd
  have hK := hM l D cid (fun j => ad (g_rn is j)) H.size
  obtain ⟨c1, c2, c2b, c3, c4, ⟨c5, c6, c7, c8⟩, c9, c10⟩ := hc
  rw [show g_n0 M1 wc = 1000 by simp [g_n0, c7], c7, c8] at hK
  have hcw := cwV (R := M.2.2.2.2.1) (s := s) (args := args) (own := M.2.2.1) (C := y.cls) (index := idx) (y := y) (bytes := M1.1) (maxL := M1.2.1) (ret := M1.2.2.2.1) (Ts := TT) (ws := Cond.code y M1.1 M1.2.1 M1.2.2.2.1 :: TT) (ws' := TT) (rm := M1.2.2.2.2.1) as.length C.2.2.2.2.2.1 (tg_in (fun w h => by
    simp only [wsV, List.mem_append, List.mem_cons, List.not_mem_nil, or_false] at h
    rcases h with (rfl | rfl | rfl | rfl) | rfl | h <;> first | assumption)) rfl c5 c6 ⟨rfl, c9⟩ c10
  subst hst
  have hpre := g_pre (as := .ref j0 :: as) C hq hP hD hS hw hnd1 (Nat.le_of_ble_eq_true hnd2) rfl
  have hrecv : ∃ cellB : Cell, H[ad (g_rn is j0)]? = some cellB ∧ cellB.vm.isStatics = false ∧ s.vm.findClass y.cls = some cellB.cls := by
    have h := congrArg (fun l => l[j0]?) (g_sub (ad := ad) (cid := cid) hw)
    simp only [List.getElem?_map, g_get (fun j => ad (g_rn is j)) cid hj, Option.map_some] at h
    cases hi : is[j0]? with
    | none => rw [hi] at h; simp at h
    | some i =>
      rw [hi] at h
      simp only [Option.map_some, Option.some.injEq] at h
      exact va_recv C.2.2.2.2.2.2.2.1 hP hcl h
  refine g_after (ad := ad) (is := is) (ws := ws) (va_runV (b := ad (g_rn is j0)) (C := y.cls) (As := as.map (g_tv (fun j => ad (g_rn is j)))) (rest := rest.map (g_tv ad)) (nL := M.2.1) (Ts := TT) ⟨C.1, C.2.1, C.2.2.2.1, C.2.2.2.2.1, C.2.2.2.2.2.1⟩ hK hcw ⟨g_blind _ _ _ _ _ _, hrecv, hpre⟩ rfl (by simp) hl.1 (by simp only [List.map_append, List.map_reverse, List.map_map, List.map_cons, g_rv, Function.comp_def, g_tv_tv]; rfl) (lv_room (by rw [List.map_map]; simp only [Function.comp_def, g_catv]; exact Nat.le_of_ble_eq_true hcat)) hd ⟨?_, ?_⟩) hw (Nat.eq_of_beq_eq_true hnd3) C.2.2.2.2.2.2.2.2.1 hP hD hS ?_
  · exact Nat.le_of_ble_eq_true hk9
  · exact Nat.le_of_ble_eq_true hn9
  · intro H locs hP hD hS
    rw [hw1] at hP hD
    have h9 := kk p l e s m args below meth c D cid A n0 ad0 C ad ls H locs hq hl hP hD hS
    rw [← hs1, show ((r1.map (g_rv is)).toList ++ rest).map (g_tv ad) = (r1.map (g_tv (fun j => ad (g_rn is j)))).toList ++ rest.map (g_tv ad) by cases r1 <;> simp [g_rv, g_tv_tv]] at h9
    exact h9
theorem G.callSN {M : g_M} {k n pc : Nat} {lv : List (Nat × Value)} {st : List Value} {ws : List va_E} {Q : g_QT} {M1 : g_M} {y : MethodName} {as rest : List Value} {wc wc1 ws1 : List va_E} {r1 : Option Value} {st1 : List Value} {idx : Nat} (is : List Nat) (hd : decode M.1 pc = .ok (.invokestatic idx, 3)) (hc : g_csn M idx M1 y as.length) (hM : K M1 y as wc r1 wc1) (hst : (as.map (g_rv is)).reverse ++ rest = st) (hw : is.map (fun i => ws[i]?) = (wc.map (g_re is)).map some) (hnd : (va_nd is && Nat.ble is.length 1000 && Nat.beq wc1.length wc.length) = true) (hk9 : Nat.ble k M.2.2.2.2.1.cells = true) (hn9 : Nat.ble n M.2.2.2.2.1.slots = true) (hcat : Nat.ble (rest.map fun v => v.category).sum 8 = true) (hs1 : (r1.map (g_rv is)).toList ++ rest = st1) (hw1 : g_pt is (wc1.map (g_re is)) ws = ws1) (kk : GX Q M k n (pc + 3) lv st1 ws1) : GX Q M k n pc lv st ws := by
  intro p l e s m args below meth c D cid A n0 ad0 C ad ls H locs hq hl hP hD hS
  simp only [Bool.and_eq_true] at hnd
  obtain ⟨⟨hnd1, hnd2⟩, hnd3⟩ := hnd
  have hK := hM l D cid (fun j => ad (g_rn is j)) H.size
  obtain ⟨c1, c2, c3, c4, ⟨c5, c6, c7, c8⟩, c9, c10⟩ := hc
  rw [show g_n0 M1 wc = 1000 by simp [g_n0, c7], c7, c8] at hK
  have hcw := va_cnB (R := M.2.2.2.2.1) (s := s) (args := args) (own := M.2.2.1) (host := "TimedThreads") (index := idx) (y := y) (bytes := M1.1) (maxL := M1.2.1) (ret := M1.2.2.2.1) (Ts := TT) (ws := Cond.code y M1.1 M1.2.1 M1.2.2.2.1 :: TT) (ws' := TT) (rm := M1.2.2.2.2.1) as.length C.2.2.2.2.2.1 (tg_in (fun w h => by
    simp only [List.mem_cons] at h
    rcases h with rfl | h <;> assumption)) rfl c5 c6 (C.2.2.2.2.2.2.2.2.2.2.1 _ c1) (C.2.2.2.2.2.1 _ c3) c9 c10
  subst hst
  refine g_after (ad := ad) (is := is) (ws := ws) (va_runSN (As := as.map (g_tv (fun j => ad (g_rn is j)))) (rest := rest.map (g_tv ad)) (nL := M.2.1) (Ts := TT) ⟨C.1, C.2.1, C.2.2.2.1, C.2.2.2.2.1, C.2.2.2.2.2.1⟩ hK ⟨hcw, C.2.2.2.2.2.1 _ c2, trivial⟩ ⟨g_blind _ _ _ _ _ _, g_pre C hq hP hD hS hw hnd1 (Nat.le_of_ble_eq_true hnd2) rfl⟩ rfl (by simp) hl.1 (by simp [g_rv, g_tv_tv, Function.comp_def]) (lv_room (by rw [List.map_map]; simp only [Function.comp_def, g_catv]; exact Nat.le_of_ble_eq_true hcat)) hd ⟨?_, ?_⟩) hw (Nat.eq_of_beq_eq_true hnd3) C.2.2.2.2.2.2.2.2.1 hP hD hS ?_
  · exact Nat.le_of_ble_eq_true hk9
  · exact Nat.le_of_ble_eq_true hn9
  · intro H locs hP hD hS
    rw [hw1] at hP hD
    have h9 := kk p l e s m args below meth c D cid A n0 ad0 C ad ls H locs hq hl hP hD hS
    rw [← hs1, show ((r1.map (g_rv is)).toList ++ rest).map (g_tv ad) = (r1.map (g_tv (fun j => ad (g_rn is j)))).toList ++ rest.map (g_tv ad) by cases r1 <;> simp [g_rv, g_tv_tv]] at h9
    exact h9
section GCall0
variable {p : Program} {l : Launch} {e : Env} {R : Room} {s : State} {m : MethodId} {args : Array Value} {below : List Frame} {meth : Method} {c : Code} {H : Heap} {locs : List Loc} {Q : State → Prop}
theorem g_free0 {cid : Nat → ClassId} {A : Nat → Prop} {ad : Nat → Nat} {ws : List va_E} (hA : ∀ q, s.heap.size ≤ q → A q) (hD : va_D A (g_mk ad cid ws)) (hS : va_S A s.heap H locs) : ∀ q, va_A (g_mk ad cid ws) H.size q → A q := by
  intro q h
  rcases h with ⟨k, e, h⟩ | h
  · exact hD.2 k (q, e) h
  · exact hA q (Nat.le_trans hS.1 h)
theorem g_after0 {k n pc : Nat} {ls : Array Slot} {st0 rest0 : List Value} {a : Array Value} {D : va_G} {cid : Nat → ClassId} {A : Nat → Prop} {ad : Nat → Nat} {ws wc1 : List va_E} {r1 : Option Value}
    (hr : va_Run p l e R s m args below meth c H locs k n 0 0 (F0 m pc ls st0) rest0 (g_Q D cid (va_A (g_mk ad cid ws) H.size) 1000 ad r1 wc1 a) (va_A (g_mk ad cid ws) H.size))
    (hlen : wc1.length = ws.length) (hA : ∀ q, s.heap.size ≤ q → A q) (hD : va_D A (g_mk ad cid ws)) (hS : va_S A s.heap H locs)
    (kk : ∀ (H1 : Heap) (locs1 : List Loc), va_P D vwCl (g_mk ad cid wc1) H1 → va_D A (g_mk ad cid wc1) → va_S A s.heap H1 locs1 → W p l e R s m args below meth c H1 locs1 k n Q (F0 m (pc + 3) ls ((r1.map (g_tv ad)).toList ++ rest0))) :
    W p l e R s m args below meth c H locs k n Q (F0 m pc ls st0) := by
  intro T hT X
  obtain ⟨v, st₀, t, T', L, h0, X', hL, e1, e2, ⟨⟨ad', hq', hv, hP1, hK1, hD1⟩, hz, hk⟩, st⟩ := hr T hT X
  have hF := g_free0 (s := s) hA hD hS
  rw [g_eq_all hq'] at hv hP1 hD1
  cases hv
  rw [h0] at hz hk
  obtain ⟨t2, a1, b1⟩ := kk T'.heap (locs ++ L) (by rw [e1]; exact hP1) (g_D_len hlen hD)
    ⟨Nat.le_trans hS.1 (by rw [e1]; exact hz), fun q h1 h2 => by rw [e1, hk q (Nat.lt_of_lt_of_le h1 hS.1) (fun z => h2 (hF q z))]; exact hS.2.1 q h1 h2, fun q hq => by
      rcases List.mem_append.mp hq with h | h
      · exact hS.2.2 q h
      · exact hF _ (hL q h)⟩ T' rfl X'
  exact ⟨t2, st t2 a1, b1⟩
end GCall0
theorem g_pre0 {M : g_M} {p : Program} {s : State} {m : MethodId} {args : Array Value} {meth : Method} {c : Code} {D : va_G} {cid : Nat → ClassId} {A : Nat → Prop} {n0 : Nat} {ad0 ad : Nat → Nat} {H : Heap} {locs : List Loc} {ws : List va_E} {as : List Value}
    (C : g_Cx M p s m args meth c D cid A ad0) (hq : g_eq n0 ad ad0) (hP : va_P D vwCl (g_mk ad cid ws) H) (hD : va_D A (g_mk ad cid ws)) (hS : va_S A s.heap H locs) :
    ∀ U : State, U.heap = H → s.WarmedH U.vm → g_Pc D cid ad H.size as ws (as.map (g_tv ad)).toArray U := by
  intro U hU hW
  have hF := g_free0 (s := s) C.2.2.2.2.2.2.2.2.1 hD hS
  refine ⟨rfl, by rw [hU], by rw [hU]; exact hP, va_K.moved hW.alike C.2.2.2.2.2.2.2.1, hD.weaken (fun _ _ _ _ => trivial), ?_, g_N.warm hW C.2.2.2.2.2.2.2.2.2.2⟩
  have h1 := C.2.2.2.2.2.2.2.2.2.1.kept hS.2.1
  have h2 := (h1.narrow hF).moved hW.alike
  rw [hU]
  exact h2.at (fun i hi => hq i (Or.inr hi))
theorem G.callS0 {M : g_M} {k n pc : Nat} {lv : List (Nat × Value)} {st : List Value} {ws : List va_E} {Q : g_QT} {M1 : g_M} {y : MethodName} {as rest : List Value} {wc1 : List va_E} {r1 : Option Value} {st1 : List Value} {idx : Nat} (hd : decode M.1 pc = .ok (.invokestatic idx, 3)) (hc : g_cs M idx M1 y as.length) (hM : K M1 y as ws r1 wc1) (hst : as.reverse ++ rest = st) (hnd : Nat.beq wc1.length ws.length = true) (hk9 : Nat.ble k M.2.2.2.2.1.cells = true) (hn9 : Nat.ble n M.2.2.2.2.1.slots = true) (hcat : Nat.ble (rest.map fun v => v.category).sum 8 = true) (hs1 : r1.toList ++ rest = st1) (kk : GX Q M k n (pc + 3) lv st1 wc1) : GX Q M k n pc lv st ws := by
  intro p l e s m args below meth c D cid A n0 ad0 C ad ls H locs hq hl hP hD hS
  have hK := hM l D cid ad H.size
  obtain ⟨c1, c2, c3, c4, ⟨c5, c6, c7, c8⟩, c9, c10⟩ := hc
  rw [show g_n0 M1 ws = 1000 by simp [g_n0, c7], c7, c8] at hK
  have hcw := va_cwS (R := M.2.2.2.2.1) (s := s) (args := args) (own := M.2.2.1) (index := idx) (y := y) (bytes := M1.1) (maxL := M1.2.1) (ret := M1.2.2.2.1) (Ts := TT) (ws := Cond.code y M1.1 M1.2.1 M1.2.2.2.1 :: TT) (ws' := TT) (rm := M1.2.2.2.2.1) as.length C.2.2.2.2.2.1 (tg_in (fun w h => by
    simp only [va_wsS, List.mem_append, List.mem_cons, List.not_mem_nil, or_false] at h
    rcases h with (rfl | rfl | rfl) | rfl | h <;> first | assumption)) rfl c5 c6 c9 c10
  subst hst
  refine g_after0 (ad := ad) (ws := ws) (va_runS (As := as.map (g_tv ad)) (rest := rest.map (g_tv ad)) (nL := M.2.1) (Ts := TT) ⟨C.1, C.2.1, C.2.2.2.1, C.2.2.2.2.1, C.2.2.2.2.2.1⟩ hK hcw ⟨g_blind _ _ _ _ _ _, g_pre0 C hq hP hD hS⟩ rfl (by simp) hl.1 (by simp) (lv_room (by rw [List.map_map]; simp only [Function.comp_def, g_catv]; exact Nat.le_of_ble_eq_true hcat)) hd ⟨?_, ?_⟩) (Nat.eq_of_beq_eq_true hnd) C.2.2.2.2.2.2.2.2.1 hD hS ?_
  · exact Nat.le_of_ble_eq_true hk9
  · exact Nat.le_of_ble_eq_true hn9
  · intro H locs hP hD hS
    have h9 := kk p l e s m args below meth c D cid A n0 ad0 C ad ls H locs hq hl hP hD hS
    rw [← hs1, show (r1.toList ++ rest).map (g_tv ad) = (r1.map (g_tv ad)).toList ++ rest.map (g_tv ad) by cases r1 <;> simp] at h9
    exact h9
theorem G.callV0 {M : g_M} {k n pc : Nat} {lv : List (Nat × Value)} {st : List Value} {ws : List va_E} {Q : g_QT} {M1 : g_M} {y : MethodName} {as rest : List Value} {wc1 : List va_E} {r1 : Option Value} {st1 : List Value} {idx : Nat} {j0 ci : Nat} {fs : List Value} {T0 : u_T} {N0 : Nat} (hd : decode M.1 pc = .ok (.invokevirtual idx, 3)) (hc : g_cv M idx M1 y as.length) (hM : K M1 y (.ref j0 :: as) ws r1 wc1) (hj : ws[j0]? = some (.inr (ci, fs))) (hcl : vwCl[ci]? = some (y.cls, T0, N0)) (hst : as.reverse ++ .ref j0 :: rest = st) (hnd : Nat.beq wc1.length ws.length = true) (hk9 : Nat.ble k M.2.2.2.2.1.cells = true) (hn9 : Nat.ble n M.2.2.2.2.1.slots = true) (hcat : Nat.ble (rest.map fun v => v.category).sum 8 = true) (hs1 : r1.toList ++ rest = st1) (kk : GX Q M k n (pc + 3) lv st1 wc1) : GX Q M k n pc lv st ws := by
  intro p l e s m args below meth c D cid A n0 ad0 C ad ls H locs hq hl hP hD hS
  have hK := hM l D cid ad H.size
  obtain ⟨c1, c2, c2b, c3, c4, ⟨c5, c6, c7, c8⟩, c9, c10⟩ := hc
  rw [show g_n0 M1 ws = 1000 by simp [g_n0, c7], c7, c8] at hK
  have hcw := cwV (R := M.2.2.2.2.1) (s := s) (args := args) (own := M.2.2.1) (C := y.cls) (index := idx) (y := y) (bytes := M1.1) (maxL := M1.2.1) (ret := M1.2.2.2.1) (Ts := TT) (ws := Cond.code y M1.1 M1.2.1 M1.2.2.2.1 :: TT) (ws' := TT) (rm := M1.2.2.2.2.1) as.length C.2.2.2.2.2.1 (tg_in (fun w h => by
    simp only [wsV, List.mem_append, List.mem_cons, List.not_mem_nil, or_false] at h
    rcases h with (rfl | rfl | rfl | rfl) | rfl | h <;> first | assumption)) rfl c5 c6 ⟨rfl, c9⟩ c10
  subst hst
  refine g_after0 (ad := ad) (ws := ws) (va_runV (b := ad j0) (C := y.cls) (As := as.map (g_tv ad)) (rest := rest.map (g_tv ad)) (nL := M.2.1) (Ts := TT) ⟨C.1, C.2.1, C.2.2.2.1, C.2.2.2.2.1, C.2.2.2.2.2.1⟩ hK hcw ⟨g_blind _ _ _ _ _ _, va_recv C.2.2.2.2.2.2.2.1 hP hcl (g_get ad cid hj), g_pre0 (as := .ref j0 :: as) C hq hP hD hS⟩ rfl (by simp) hl.1 (by simp [g_tv]) (lv_room (by rw [List.map_map]; simp only [Function.comp_def, g_catv]; exact Nat.le_of_ble_eq_true hcat)) hd ⟨?_, ?_⟩) (Nat.eq_of_beq_eq_true hnd) C.2.2.2.2.2.2.2.2.1 hD hS ?_
  · exact Nat.le_of_ble_eq_true hk9
  · exact Nat.le_of_ble_eq_true hn9
  · intro H locs hP hD hS
    have h9 := kk p l e s m args below meth c D cid A n0 ad0 C ad ls H locs hq hl hP hD hS
    rw [← hs1, show (r1.toList ++ rest).map (g_tv ad) = (r1.map (g_tv ad)).toList ++ rest.map (g_tv ad) by cases r1 <;> simp] at h9
    exact h9
