theorem g_beq : ∀ n : Nat, Nat.beq n n = true
  | 0 => rfl
  | n + 1 => g_beq n
theorem g_rn_range (n j : Nat) : g_rn (List.range n) j = j := by
  unfold g_rn
  by_cases h : j < n
  · rw [List.getElem?_range h]; rfl
  · rw [List.getElem?_eq_none (by simp; omega)]; rfl
theorem g_rn_rangeF (n : Nat) : g_rn (List.range n) = fun j => j := funext (g_rn_range n)
theorem g_tv_id (v : Value) : g_tv (fun j => j) v = v := by cases v <;> rfl
theorem g_te_id (e : va_E) : g_te (fun j => j) (fun x => x) e = e := by
  rcases e with ⟨t, n, x⟩ | ⟨ci, fs⟩
  · rcases x with x | x | x | x | f <;> try rfl
    have e1 : (fun j => (f j).map (fun j => j)) = f := by
      funext j
      cases f j <;> rfl
    show Sum.inl _ = Sum.inl _
    simp only [g_ta]
    rw [e1]
  · show Sum.inr (ci, fs.map (g_tv fun j => j)) = Sum.inr (ci, fs)
    have : fs.map (g_tv fun j => j) = fs.map id := List.map_congr_left (fun v _ => g_tv_id v)
    rw [this, List.map_id]
theorem g_re_range (n : Nat) (e : va_E) : g_re (List.range n) e = e := by
  unfold g_re
  rw [g_rn_rangeF]
  exact g_te_id e
theorem g_rv_range (n : Nat) (v : Value) : g_rv (List.range n) v = v := by
  unfold g_rv
  rw [g_rn_rangeF]
  exact g_tv_id v
theorem g_re_rangeL (n : Nat) (l : List va_E) : l.map (g_re (List.range n)) = l := by
  have : l.map (g_re (List.range n)) = l.map id := List.map_congr_left (fun e _ => g_re_range n e)
  rw [this, List.map_id]
theorem g_rv_rangeL (n : Nat) (l : List Value) : l.map (g_rv (List.range n)) = l := by
  have : l.map (g_rv (List.range n)) = l.map id := List.map_congr_left (fun e _ => g_rv_range n e)
  rw [this, List.map_id]
theorem g_hwA {A r : List va_E} {n : Nat} (h : A.length = n) : (List.range n).map (fun i => (A ++ r)[i]?) = (A.map (g_re (List.range n))).map some := by
  rw [g_re_rangeL]
  apply List.ext_getElem?
  intro i
  simp only [List.getElem?_map]
  by_cases hi : i < n
  · rw [List.getElem?_range hi, Option.map_some, List.getElem?_append_left (by omega), List.getElem?_eq_getElem (by omega), Option.map_some]
  · rw [List.getElem?_eq_none (by simp; omega), List.getElem?_eq_none (by omega)]; rfl
theorem g_pt_none : ∀ (is : List Nat) (es ws : List va_E), (∀ i ∈ is, ws.length ≤ i) → g_pt is es ws = ws
  | [], _, _, _ => by simp [g_pt]
  | _ :: _, [], _, _ => by simp [g_pt]
  | i :: is, e :: es, ws, h => by
    rw [g_pt, List.set_eq_of_length_le (h i List.mem_cons_self)]
    exact g_pt_none is es ws (fun j hj => h j (List.mem_cons_of_mem _ hj))
/-- consecutive places -/
theorem g_pt_run (P : List va_E) : ∀ (es B r : List va_E), es.length = B.length → g_pt ((List.range B.length).map (P.length + ·)) es (P ++ (B ++ r)) = P ++ (es ++ r)
  | [], [], r, _ => by simp [g_pt]
  | [], b :: B, r, h => by simp at h
  | e :: es, [], r, h => by simp at h
  | e :: es, b :: B, r, h => by
    have ih := g_pt_run (P ++ [e]) es B r (by simpa using h)
    have e1 : (List.range (b :: B).length).map (P.length + ·) = P.length :: (List.range B.length).map ((P ++ [e]).length + ·) := by
      rw [List.length_cons, List.range_succ_eq_map, List.map_cons, List.map_map]
      simp only [Nat.add_zero, List.length_append, List.length_cons, List.length_nil]
      congr 1
      apply List.map_congr_left
      intro x _
      simp only [Function.comp_def]
      omega
    rw [e1, g_pt]
    have e2 : (P ++ (b :: B ++ r)).set P.length e = (P ++ [e]) ++ (B ++ r) := by
      rw [List.set_append_right _ _ (Nat.le_refl _)]
      simp
    rw [e2, ih]
    simp
theorem g_hw1A {A A1 r : List va_E} {n : Nat} (h : A.length = n) (h1 : A1.length = n) : g_pt (List.range n) (A1.map (g_re (List.range n))) (A ++ r) = A1 ++ r := by
  rw [g_re_rangeL]
  have h9 := g_pt_run [] A1 A r (by omega)
  simp only [List.nil_append, List.length_nil, Nat.zero_add, List.map_id'] at h9
  rw [← h]
  exact h9
def g_iB (n k : Nat) : List Nat := (List.range k).map (n + ·)
theorem g_hwB {A wc r : List va_E} {n k : Nat} (h : A.length = n) (h1 : wc.length = k) : (g_iB n k).map (fun i => (A ++ (wc.map (g_re (g_iB n k)) ++ r))[i]?) = (wc.map (g_re (g_iB n k))).map some := by
  apply List.ext_getElem?
  intro i
  simp only [g_iB, List.getElem?_map]
  by_cases hi : i < k
  · rw [List.getElem?_range hi, Option.map_some, Option.map_some, List.getElem?_append_right (by omega), List.getElem?_append_left (by simp; omega), show n + i - A.length = i by omega]
    simp only [List.getElem?_map]
    rw [List.getElem?_eq_getElem (by omega)]
    rfl
  · rw [List.getElem?_eq_none (by simp; omega), List.getElem?_eq_none (by omega)]; rfl
theorem g_hw1B {A wc wc1 r : List va_E} {n k : Nat} (h : A.length = n) (h1 : wc.length = k) (h2 : wc1.length = k) : g_pt (g_iB n k) (wc1.map (g_re (g_iB n k))) (A ++ (wc.map (g_re (g_iB n k)) ++ r)) = A ++ (wc1.map (g_re (g_iB n k)) ++ r) := by
  have h9 := g_pt_run A (wc1.map (g_re (g_iB n k))) (wc.map (g_re (g_iB n k))) r (by simp; omega)
  rw [List.length_map, h, h1] at h9
  exact h9
theorem g_ndR {n : Nat} {a b : Nat} (h : va_nd (List.range n) = true) (hn : Nat.ble n 1000 = true) (hab : a = b) : (va_nd (List.range n) && Nat.ble (List.range n).length 1000 && Nat.beq a b) = true := by
  rw [h, List.length_range, hn, hab, g_beq]
  rfl

theorem G.callVp {M : g_M} {k n pc : Nat} {lv : List (Nat × Value)} {st : List Value} {ws : List va_E} {Q : g_QT} {M1 : g_M} {y : MethodName} {as rest : List Value} {A A1 r : List va_E} {r1 : Option Value} {st1 : List Value} {idx j0 ci n9 : Nat} {fs : List Value} {T0 : u_T} {N0 : Nat} (hnd : va_nd (List.range n9) = true) (hn : Nat.ble n9 1000 = true) (hA : A.length = n9) (hA1 : A1.length = n9) (hd : decode M.1 pc = .ok (.invokevirtual idx, 3)) (hc : g_cv M idx M1 y as.length) (hM : K M1 y (.ref j0 :: as) A r1 A1) (hj : A[j0]? = some (.inr (ci, fs))) (hcl : vwCl[ci]? = some (y.cls, T0, N0)) (hst : as.reverse ++ .ref j0 :: rest = st) (hws : ws = A ++ r) (hk9 : Nat.ble k M.2.2.2.2.1.cells = true) (hn9 : Nat.ble n M.2.2.2.2.1.slots = true) (hcat : Nat.ble (rest.map fun v => v.category).sum 8 = true) (hs1 : r1.toList ++ rest = st1) (kk : GX Q M k n (pc + 3) lv st1 (A1 ++ r)) : GX Q M k n pc lv st ws := by
  subst hws
  exact G.callV (List.range n9) hd hc hM hj hcl (by rw [g_rv_rangeL, g_rn_range]; exact hst) (g_hwA hA) (g_ndR hnd hn (hA1.trans hA.symm)) hk9 hn9 hcat (by rw [show r1.map (g_rv (List.range n9)) = r1 by cases r1 <;> simp [g_rv_range]]; exact hs1) (g_hw1A hA hA1) kk
theorem G.callVXp {M : g_M} {k n pc : Nat} {lv : List (Nat × Value)} {st : List Value} {ws : List va_E} {Q : g_QT} {hh : List (Nat × Nat × Nat × Nat)} {M1 : g_M} {y : MethodName} {as rest : List Value} {A A1 r : List va_E} {r1 : Option Value} {st1 : List Value} {idx j0 ci n9 k1 n1 : Nat} {fs : List Value} {T0 : u_T} {N0 : Nat} (hnd : va_nd (List.range n9) = true) (hn : Nat.ble n9 1000 = true) (hA : A.length = n9) (hA1 : A1.length = n9) (hd : decode M.1 pc = .ok (.invokevirtual idx, 3)) (hc : g_cx M idx M1 y as.length) (hM : KX M1 y (.ref j0 :: as) A (.inl r1) A1) (hj : A[j0]? = some (.inr (ci, fs))) (hcl : vwCl[ci]? = some (y.cls, T0, N0)) (hst : as.reverse ++ .ref j0 :: rest = st) (hws : ws = A ++ r) (hk1 : k + M1.2.2.2.2.2.1 = k1) (hn1 : n + M1.2.2.2.2.2.2 = n1) (hk9 : Nat.ble k1 M.2.2.2.2.1.cells = true) (hn9 : Nat.ble n1 M.2.2.2.2.1.slots = true) (hcat : Nat.ble (rest.map fun v => v.category).sum 8 = true) (hs1 : r1.toList ++ rest = st1) (kk : GX (g_gd (g_PW hh) Q) M k1 n1 (pc + 3) lv st1 (A1 ++ r)) : GX (g_gd (g_PW hh) Q) M k n pc lv st ws := by
  subst hws
  exact G.callVX (List.range n9) hd hc hM hj hcl (by rw [g_rv_rangeL, g_rn_range]; exact hst) (g_hwA hA) (g_ndR hnd hn (hA1.trans hA.symm)) hk1 hn1 hk9 hn9 hcat (by rw [show r1.map (g_rv (List.range n9)) = r1 by cases r1 <;> simp [g_rv_range]]; exact hs1) (g_hw1A hA hA1) kk
theorem G.callVTp {M : g_M} {k n pc : Nat} {lv : List (Nat × Value)} {st : List Value} {ws : List va_E} {Q : g_QT} {hh : List (Nat × Nat × Nat × Nat)} {M1 : g_M} {y : MethodName} {as rest : List Value} {A A1 r : List va_E} {E : String} {i9 : Nat} {lv1 : List (Nat × Value)} {idx j0 ci n9 k1 n1 : Nat} {fs : List Value} {T0 : u_T} {N0 : Nat} (pre : List ExceptionTableEntry) (x : ExceptionTableEntry) (suf : List ExceptionTableEntry) (hnd : va_nd (List.range n9) = true) (hn : Nat.ble n9 1000 = true) (hA : A.length = n9) (hA1 : A1.length = n9) (hd : decode M.1 pc = .ok (.invokevirtual idx, 3)) (hc : g_cx M idx M1 y as.length) (hM : KX M1 y (.ref j0 :: as) A (.inr E) A1) (hj : A[j0]? = some (.inr (ci, fs))) (hcl : vwCl[ci]? = some (y.cls, T0, N0)) (hst : as.reverse ++ .ref j0 :: rest = st) (hws : ws = A ++ r) (hk1 : k + M1.2.2.2.2.2.1 = k1) (hn1 : n + M1.2.2.2.2.2.2 = n1) (hk9 : Nat.ble k1 M.2.2.2.2.1.cells = true) (hn9 : Nat.ble n1 M.2.2.2.2.1.slots = true) (hcat : Nat.ble (rest.map fun v => v.category).sum 8 = true) (htab : tableOf hh = pre ++ x :: suf) (hpass : ∀ z ∈ pre, covers z pc = false ∨ (z.catchType ≠ 0 ∧ ∃ nm : String, Cond.classLink M.2.2.1 z.catchType nm ∈ TT ∧ g_nc E nm)) (hx : covers x pc = true) (h0 : x.catchType ≠ 0) (hlink : Cond.classLink M.2.2.1 x.catchType E ∈ TT) (hcast : Cond.castable E E ∈ g_xn) (hda : decode M.1 x.handlerPc = .ok (.astore i9, 2)) (hi9 : Nat.ble (i9 + 1) M.2.1 = true) (hs : lv.filter (fun q => !(q.1 == i9) && !(q.1 + 1 == i9 && q.2.category == 2)) = lv1) (kk : GX (g_gd (g_PW hh) Q) M k1 n1 (x.handlerPc + 2) lv1 [] (A1 ++ r)) : GX (g_gd (g_PW hh) Q) M k n pc lv st ws := by
  subst hws
  exact G.callVT (List.range n9) pre x suf hd hc hM hj hcl (by rw [g_rv_rangeL, g_rn_range]; exact hst) (g_hwA hA) (g_ndR hnd hn (hA1.trans hA.symm)) hk1 hn1 hk9 hn9 hcat (g_hw1A hA hA1) htab hpass hx h0 hlink hcast hda hi9 hs kk
theorem G.callVm {M : g_M} {k n pc : Nat} {lv : List (Nat × Value)} {st : List Value} {ws : List va_E} {Q : g_QT} {M1 : g_M} {y : MethodName} {as rest : List Value} {A wc wc1 r : List va_E} {r1 : Option Value} {st1 : List Value} {idx j0 ci n9 k9 : Nat} {fs : List Value} {T0 : u_T} {N0 : Nat} (hnd : (va_nd (g_iB n9 k9) && Nat.ble (g_iB n9 k9).length 1000) = true) (hA : A.length = n9) (hwc : wc.length = k9) (hwc1 : wc1.length = k9) (hd : decode M.1 pc = .ok (.invokevirtual idx, 3)) (hc : g_cv M idx M1 y as.length) (hM : K M1 y (.ref j0 :: as) wc r1 wc1) (hj : wc[j0]? = some (.inr (ci, fs))) (hcl : vwCl[ci]? = some (y.cls, T0, N0)) (hst : (as.map (g_rv (g_iB n9 k9))).reverse ++ .ref (g_rn (g_iB n9 k9) j0) :: rest = st) (hws : ws = A ++ (wc.map (g_re (g_iB n9 k9)) ++ r)) (hk9 : Nat.ble k M.2.2.2.2.1.cells = true) (hn9 : Nat.ble n M.2.2.2.2.1.slots = true) (hcat : Nat.ble (rest.map fun v => v.category).sum 8 = true) (hs1 : (r1.map (g_rv (g_iB n9 k9))).toList ++ rest = st1) (kk : GX Q M k n (pc + 3) lv st1 (A ++ (wc1.map (g_re (g_iB n9 k9)) ++ r))) : GX Q M k n pc lv st ws := by
  subst hws
  exact G.callV (g_iB n9 k9) hd hc hM hj hcl hst (g_hwB hA hwc) (by rw [hnd, hwc, hwc1, g_beq]; rfl) hk9 hn9 hcat hs1 (g_hw1B hA hwc hwc1) kk
theorem G.callSE0 {M : g_M} {k n pc : Nat} {lv : List (Nat × Value)} {st : List Value} {ws : List va_E} {P : g_PT} {Q : g_QT} {hh : List (Nat × Nat × Nat × Nat)} {M1 : g_M} {y : MethodName} {as rest : List Value} {ws1 : List va_E} {r1 : Option Value} {st1 : List Value} {idx n9 k1 n1 : Nat} (hnd : va_nd (List.range n9) = true) (hn : Nat.ble n9 1000 = true) (hA : ws.length = n9) (hA1 : ws1.length = n9) (hPx : g_Px P) (hd : decode M.1 pc = .ok (.invokestatic idx, 3)) (hc : g_ce M idx M1 hh y as.length) (hM : KE M1 hh y as ws r1 ws1) (hst : as.reverse ++ rest = st) (hk1 : k + M1.2.2.2.2.2.1 = k1) (hn1 : n + M1.2.2.2.2.2.2 = n1) (hk9 : k1 ≤ M.2.2.2.2.1.cells) (hn9 : n1 ≤ M.2.2.2.2.1.slots) (hcat : Nat.ble (rest.map fun v => v.category).sum 8 = true) (hs1 : r1.toList ++ rest = st1) (kk : GX (g_gd P Q) M k1 n1 (pc + 3) lv st1 ws1) : GX (g_gd P Q) M k n pc lv st ws := by
  have h1 := g_hwA (r := []) hA
  have h2 := g_hw1A (r := []) hA hA1
  rw [List.append_nil] at h1 h2
  rw [List.append_nil] at h2
  exact G.callSE (List.range n9) hPx hd hc hM (by rw [g_rv_rangeL]; exact hst) h1 (g_ndR hnd hn (hA1.trans hA.symm)) hk1 hn1 hk9 hn9 hcat (by rw [show r1.map (g_rv (List.range n9)) = r1 by cases r1 <;> simp [g_rv_range]]; exact hs1) h2 kk
theorem g_at3 {A B r : List va_E} {e : va_E} {a b : Nat} (hA : A.length = a) (hB : B.length = b) : (A ++ (B ++ e :: r))[a + b]? = some e := by
  rw [List.getElem?_append_right (by omega), List.getElem?_append_right (by omega), show a + b - A.length - B.length = 0 by omega]
  rfl
theorem g_set3 {A B r : List va_E} {e e1 : va_E} {a b : Nat} (hA : A.length = a) (hB : B.length = b) : (A ++ (B ++ e :: r)).set (a + b) e1 = A ++ (B ++ e1 :: r) := by
  rw [List.set_append_right _ _ (by omega), List.set_append_right _ _ (by omega), show a + b - A.length - B.length = 0 by omega]
  rfl
