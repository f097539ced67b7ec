def g_lk : List (Nat × Value) → Nat → Option Value
  | [], _ => none
  | (i, v) :: l, k => match Nat.beq i k with
    | true => some v
    | false => g_lk l k
theorem g_lk_mem : ∀ {l : List (Nat × Value)} {k : Nat} {v : Value}, g_lk l k = some v → (k, v) ∈ l
  | [], _, _, h => by cases h
  | (i, w) :: l, k, v, h => by
    unfold g_lk at h
    cases hb : Nat.beq i k with
    | true =>
      rw [hb] at h
      have e := Nat.eq_of_beq_eq_true hb
      subst e
      cases h
      exact List.mem_cons_self
    | false =>
      rw [hb] at h
      exact List.mem_cons_of_mem _ (g_lk_mem h)
theorem g_at {ad : Nat → Nat} {ls : Array Slot} {nL : Nat} {lv : List (Nat × Value)} (hl : lv_has ls nL (lv.map (g_tl ad))) {i : Nat} {v : Value} (h : g_lk lv i = some v) : ls[i]? = some (.val (g_tv ad v)) :=
  hl.2.2 (i, g_tv ad v) (List.mem_map.mpr ⟨(i, v), g_lk_mem h, rfl⟩)
def g_s1 (lv : List (Nat × Value)) (i : Nat) (v : Value) : List (Nat × Value) := (i, v) :: lv.filter (fun q => !(q.1 == i) && !(q.1 + 1 == i && q.2.category == 2))
def g_s2 (lv : List (Nat × Value)) (i : Nat) (v : Value) : List (Nat × Value) := (i, v) :: lv.filter (fun q => !(q.1 == i) && (!(q.1 == i + 1) && !(q.1 + 1 == i && q.2.category == 2)))
theorem g_s1_map (ad : Nat → Nat) (lv : List (Nat × Value)) (i : Nat) (v : Value) : (i, g_tv ad v) :: (lv.map (g_tl ad)).filter (fun q => !(q.1 == i) && !(q.1 + 1 == i && q.2.category == 2)) = (g_s1 lv i v).map (g_tl ad) := by
  simp only [g_s1, List.map_cons, List.filter_map, g_tl, Function.comp_def, g_catv]
theorem g_s2_map (ad : Nat → Nat) (lv : List (Nat × Value)) (i : Nat) (v : Value) : (i, g_tv ad v) :: (lv.map (g_tl ad)).filter (fun q => !(q.1 == i) && (!(q.1 == i + 1) && !(q.1 + 1 == i && q.2.category == 2))) = (g_s2 lv i v).map (g_tl ad) := by
  simp only [g_s2, List.map_cons, List.filter_map, g_tl, Function.comp_def, g_catv]
theorem g_lt {i m : Nat} (h : Nat.ble (i + 1) m = true) : i < m := Nat.le_of_ble_eq_true h
theorem G.iload_n {M : g_M} {k n pc : Nat} {lv : List (Nat × Value)} {st : List Value} {ws : List va_E} {Q : g_QT} {kf : Fin 4} {x : Int32} (hd : decode M.1 pc = .ok (.iload_n kf, 1)) (hx : g_lk lv kf.val = some (.int x)) (kk : GX Q M k n (pc + 1) lv (.int x :: st) ws) : GX Q M k n pc lv st ws := by
  intro p l e s m args below meth c D cid A n0 ad0 C ad ls H locs hq hl hP hD hS
  exact lv_iload_n C.1 C.2.1 hd rfl (g_at hl hx) (kk p l e s m args below meth c D cid A n0 ad0 C ad ls H locs hq hl hP hD hS)
theorem G.lload_n {M : g_M} {k n pc : Nat} {lv : List (Nat × Value)} {st : List Value} {ws : List va_E} {Q : g_QT} {kf : Fin 4} {x : Int64} (hd : decode M.1 pc = .ok (.lload_n kf, 1)) (hx : g_lk lv kf.val = some (.long x)) (kk : GX Q M k n (pc + 1) lv (.long x :: st) ws) : GX Q M k n pc lv st ws := by
  intro p l e s m args below meth c D cid A n0 ad0 C ad ls H locs hq hl hP hD hS
  exact lv_lload_n C.1 C.2.1 hd rfl (g_at hl hx) (kk p l e s m args below meth c D cid A n0 ad0 C ad ls H locs hq hl hP hD hS)
theorem G.aload_n {M : g_M} {k n pc : Nat} {lv : List (Nat × Value)} {st : List Value} {ws : List va_E} {Q : g_QT} {kf : Fin 4} {x : Nat} (hd : decode M.1 pc = .ok (.aload_n kf, 1)) (hx : g_lk lv kf.val = some (.ref x)) (kk : GX Q M k n (pc + 1) lv (.ref x :: st) ws) : GX Q M k n pc lv st ws := by
  intro p l e s m args below meth c D cid A n0 ad0 C ad ls H locs hq hl hP hD hS
  exact lv_aload_n C.1 C.2.1 hd rfl (g_at hl hx) (kk p l e s m args below meth c D cid A n0 ad0 C ad ls H locs hq hl hP hD hS)
theorem G.iload {M : g_M} {k n pc : Nat} {lv : List (Nat × Value)} {st : List Value} {ws : List va_E} {Q : g_QT} {i : Nat} {x : Int32} (hd : decode M.1 pc = .ok (.iload i, 2)) (hx : g_lk lv i = some (.int x)) (kk : GX Q M k n (pc + 2) lv (.int x :: st) ws) : GX Q M k n pc lv st ws := by
  intro p l e s m args below meth c D cid A n0 ad0 C ad ls H locs hq hl hP hD hS
  exact lv_iload C.1 C.2.1 hd (g_at hl hx) (kk p l e s m args below meth c D cid A n0 ad0 C ad ls H locs hq hl hP hD hS)
theorem G.lload {M : g_M} {k n pc : Nat} {lv : List (Nat × Value)} {st : List Value} {ws : List va_E} {Q : g_QT} {i : Nat} {x : Int64} (hd : decode M.1 pc = .ok (.lload i, 2)) (hx : g_lk lv i = some (.long x)) (kk : GX Q M k n (pc + 2) lv (.long x :: st) ws) : GX Q M k n pc lv st ws := by
  intro p l e s m args below meth c D cid A n0 ad0 C ad ls H locs hq hl hP hD hS
  exact lv_lload C.1 C.2.1 hd (g_at hl hx) (kk p l e s m args below meth c D cid A n0 ad0 C ad ls H locs hq hl hP hD hS)
theorem G.aload {M : g_M} {k n pc : Nat} {lv : List (Nat × Value)} {st : List Value} {ws : List va_E} {Q : g_QT} {i : Nat} {x : Nat} (hd : decode M.1 pc = .ok (.aload i, 2)) (hx : g_lk lv i = some (.ref x)) (kk : GX Q M k n (pc + 2) lv (.ref x :: st) ws) : GX Q M k n pc lv st ws := by
  intro p l e s m args below meth c D cid A n0 ad0 C ad ls H locs hq hl hP hD hS
  exact lv_aload C.1 C.2.1 hd (g_at hl hx) (kk p l e s m args below meth c D cid A n0 ad0 C ad ls H locs hq hl hP hD hS)
theorem G.istore_n {M : g_M} {k n pc : Nat} {lv : List (Nat × Value)} {st : List Value} {ws : List va_E} {Q : g_QT} {kf : Fin 4} {x : Int32} {lv1 : List (Nat × Value)} (hd : decode M.1 pc = .ok (.istore_n kf, 1)) (hn : Nat.ble (kf.val + 1) M.2.1 = true) (hs : g_s1 lv kf.val (.int x) = lv1) (kk : GX Q M k n (pc + 1) lv1 st ws) : GX Q M k n pc lv (.int x :: st) ws := by
  intro p l e s m args below meth c D cid A n0 ad0 C ad ls H locs hq hl hP hD hS
  refine lv_istore_n C.1 C.2.1 hd rfl hl (g_lt hn) (g_s1_map ad lv kf.val (.int x)) (fun ls hl => ?_)
  exact (kk p l e s m args below meth c D cid A n0 ad0 C ad ls H locs hq (hs ▸ hl) hP hD hS)
theorem G.astore_n {M : g_M} {k n pc : Nat} {lv : List (Nat × Value)} {st : List Value} {ws : List va_E} {Q : g_QT} {kf : Fin 4} {x : Nat} {lv1 : List (Nat × Value)} (hd : decode M.1 pc = .ok (.astore_n kf, 1)) (hn : Nat.ble (kf.val + 1) M.2.1 = true) (hs : g_s1 lv kf.val (.ref x) = lv1) (kk : GX Q M k n (pc + 1) lv1 st ws) : GX Q M k n pc lv (.ref x :: st) ws := by
  intro p l e s m args below meth c D cid A n0 ad0 C ad ls H locs hq hl hP hD hS
  refine lv_astore_n C.1 C.2.1 hd rfl hl (g_lt hn) (g_s1_map ad lv kf.val (.ref x)) (fun ls hl => ?_)
  exact (kk p l e s m args below meth c D cid A n0 ad0 C ad ls H locs hq (hs ▸ hl) hP hD hS)
theorem G.lstore_n {M : g_M} {k n pc : Nat} {lv : List (Nat × Value)} {st : List Value} {ws : List va_E} {Q : g_QT} {kf : Fin 4} {x : Int64} {lv1 : List (Nat × Value)} (hd : decode M.1 pc = .ok (.lstore_n kf, 1)) (hn : Nat.ble (kf.val + 1 + 1) M.2.1 = true) (hs : g_s2 lv kf.val (.long x) = lv1) (kk : GX Q M k n (pc + 1) lv1 st ws) : GX Q M k n pc lv (.long x :: st) ws := by
  intro p l e s m args below meth c D cid A n0 ad0 C ad ls H locs hq hl hP hD hS
  refine lv_lstore_n C.1 C.2.1 hd rfl hl (g_lt hn) (g_s2_map ad lv kf.val (.long x)) (fun ls hl => ?_)
  exact (kk p l e s m args below meth c D cid A n0 ad0 C ad ls H locs hq (hs ▸ hl) hP hD hS)
theorem G.istore {M : g_M} {k n pc : Nat} {lv : List (Nat × Value)} {st : List Value} {ws : List va_E} {Q : g_QT} {i : Nat} {x : Int32} {lv1 : List (Nat × Value)} (hd : decode M.1 pc = .ok (.istore i, 2)) (hn : Nat.ble (i + 1) M.2.1 = true) (hs : g_s1 lv i (.int x) = lv1) (kk : GX Q M k n (pc + 2) lv1 st ws) : GX Q M k n pc lv (.int x :: st) ws := by
  intro p l e s m args below meth c D cid A n0 ad0 C ad ls H locs hq hl hP hD hS
  refine lv_istore C.1 C.2.1 hd hl (g_lt hn) (g_s1_map ad lv i (.int x)) (fun ls hl => ?_)
  exact (kk p l e s m args below meth c D cid A n0 ad0 C ad ls H locs hq (hs ▸ hl) hP hD hS)
theorem G.astore {M : g_M} {k n pc : Nat} {lv : List (Nat × Value)} {st : List Value} {ws : List va_E} {Q : g_QT} {i : Nat} {x : Nat} {lv1 : List (Nat × Value)} (hd : decode M.1 pc = .ok (.astore i, 2)) (hn : Nat.ble (i + 1) M.2.1 = true) (hs : g_s1 lv i (.ref x) = lv1) (kk : GX Q M k n (pc + 2) lv1 st ws) : GX Q M k n pc lv (.ref x :: st) ws := by
  intro p l e s m args below meth c D cid A n0 ad0 C ad ls H locs hq hl hP hD hS
  refine lv_astore C.1 C.2.1 hd hl (g_lt hn) (g_s1_map ad lv i (.ref x)) (fun ls hl => ?_)
  exact (kk p l e s m args below meth c D cid A n0 ad0 C ad ls H locs hq (hs ▸ hl) hP hD hS)
theorem G.lstore {M : g_M} {k n pc : Nat} {lv : List (Nat × Value)} {st : List Value} {ws : List va_E} {Q : g_QT} {i : Nat} {x : Int64} {lv1 : List (Nat × Value)} (hd : decode M.1 pc = .ok (.lstore i, 2)) (hn : Nat.ble (i + 1 + 1) M.2.1 = true) (hs : g_s2 lv i (.long x) = lv1) (kk : GX Q M k n (pc + 2) lv1 st ws) : GX Q M k n pc lv (.long x :: st) ws := by
  intro p l e s m args below meth c D cid A n0 ad0 C ad ls H locs hq hl hP hD hS
  refine lv_lstore C.1 C.2.1 hd hl (g_lt hn) (g_s2_map ad lv i (.long x)) (fun ls hl => ?_)
  exact (kk p l e s m args below meth c D cid A n0 ad0 C ad ls H locs hq (hs ▸ hl) hP hD hS)
theorem g_lk_ix : ∀ {l : List (Nat × Value)} {k : Nat} {v : Value}, g_lk l k = some v → ∃ j : Nat, l[j]? = some (k, v) := fun h => by
  obtain ⟨j, hj⟩ := List.getElem?_of_mem (g_lk_mem h)
  exact ⟨j, hj⟩
theorem G.iinc {M : g_M} {k n pc : Nat} {lv : List (Nat × Value)} {st : List Value} {ws : List va_E} {Q : g_QT} {i : Nat} {d : Int} {x v : Int32} {lv1 : List (Nat × Value)} (hd : decode M.1 pc = .ok (.iinc i d, 3)) (hx : g_lk lv i = some (.int x)) (hv : x + Int32.ofInt d = v) (hn : Nat.ble (i + 1) M.2.1 = true) (hs : g_s1 lv i (.int v) = lv1) (kk : GX Q M k n (pc + 3) lv1 st ws) : GX Q M k n pc lv st ws := by
  intro p l e s m args below meth c D cid A n0 ad0 C ad ls H locs hq hl hP hD hS
  obtain ⟨j, hj⟩ := g_lk_ix hx
  refine lv_iinc C.1 C.2.1 hd hl (k := j) (by rw [List.getElem?_map, hj]; rfl) hv (g_lt hn) (g_s1_map ad lv i (.int v)) (fun ls hl => ?_)
  exact (kk p l e s m args below meth c D cid A n0 ad0 C ad ls H locs hq (hs ▸ hl) hP hD hS)
theorem G.iconst {M : g_M} {k n pc : Nat} {lv : List (Nat × Value)} {st : List Value} {ws : List va_E} {Q : g_QT} {d : Int} {v : Int32} (hd : decode M.1 pc = .ok (.iconst d, 1)) (hv : Int32.ofInt d = v) (kk : GX Q M k n (pc + 1) lv (.int v :: st) ws) : GX Q M k n pc lv st ws := by
  intro p l e s m args below meth c D cid A n0 ad0 C ad ls H locs hq hl hP hD hS
  exact lv_iconst C.1 C.2.1 hd hv (kk p l e s m args below meth c D cid A n0 ad0 C ad ls H locs hq hl hP hD hS)
theorem G.bipush {M : g_M} {k n pc : Nat} {lv : List (Nat × Value)} {st : List Value} {ws : List va_E} {Q : g_QT} {d : Int} {v : Int32} (hd : decode M.1 pc = .ok (.bipush d, 2)) (hv : (Int8.ofInt d).toInt32 = v) (kk : GX Q M k n (pc + 2) lv (.int v :: st) ws) : GX Q M k n pc lv st ws := by
  intro p l e s m args below meth c D cid A n0 ad0 C ad ls H locs hq hl hP hD hS
  exact lv_bipush C.1 C.2.1 hd hv (kk p l e s m args below meth c D cid A n0 ad0 C ad ls H locs hq hl hP hD hS)
theorem G.sipush {M : g_M} {k n pc : Nat} {lv : List (Nat × Value)} {st : List Value} {ws : List va_E} {Q : g_QT} {d : Int} {v : Int32} (hd : decode M.1 pc = .ok (.sipush d, 3)) (hv : (Int16.ofInt d).toInt32 = v) (kk : GX Q M k n (pc + 3) lv (.int v :: st) ws) : GX Q M k n pc lv st ws := by
  intro p l e s m args below meth c D cid A n0 ad0 C ad ls H locs hq hl hP hD hS
  exact lv_sipush C.1 C.2.1 hd hv (kk p l e s m args below meth c D cid A n0 ad0 C ad ls H locs hq hl hP hD hS)
theorem G.lconst {M : g_M} {k n pc : Nat} {lv : List (Nat × Value)} {st : List Value} {ws : List va_E} {Q : g_QT} {d : Fin 2} {v : Int64} (hd : decode M.1 pc = .ok (.lconst d, 1)) (hv : Int64.ofNat d.val = v) (kk : GX Q M k n (pc + 1) lv (.long v :: st) ws) : GX Q M k n pc lv st ws := by
  intro p l e s m args below meth c D cid A n0 ad0 C ad ls H locs hq hl hP hD hS
  exact lv_lconst C.1 C.2.1 hd hv (kk p l e s m args below meth c D cid A n0 ad0 C ad ls H locs hq hl hP hD hS)
theorem G.ldc {M : g_M} {k n pc : Nat} {lv : List (Nat × Value)} {st : List Value} {ws : List va_E} {Q : g_QT} {i : Nat} {v : Int32} (hd : decode M.1 pc = .ok (.ldc i, 2)) (hw : Cond.constant M.2.2.1 i v ∈ TT) (kk : GX Q M k n (pc + 2) lv (.int v :: st) ws) : GX Q M k n pc lv st ws := by
  intro p l e s m args below meth c D cid A n0 ad0 C ad ls H locs hq hl hP hD hS
  exact lv_ldc C.1 C.2.1 C.2.2.2.2.1 (C.2.2.2.2.2.1 _ hw) hd (kk p l e s m args below meth c D cid A n0 ad0 C ad ls H locs hq hl hP hD hS)
theorem G.ldc_w {M : g_M} {k n pc : Nat} {lv : List (Nat × Value)} {st : List Value} {ws : List va_E} {Q : g_QT} {i : Nat} {v : Int32} (hd : decode M.1 pc = .ok (.ldc_w i, 3)) (hw : Cond.constant M.2.2.1 i v ∈ TT) (kk : GX Q M k n (pc + 3) lv (.int v :: st) ws) : GX Q M k n pc lv st ws := by
  intro p l e s m args below meth c D cid A n0 ad0 C ad ls H locs hq hl hP hD hS
  exact lv_ldcw C.1 C.2.1 C.2.2.2.2.1 (C.2.2.2.2.2.1 _ hw) hd (kk p l e s m args below meth c D cid A n0 ad0 C ad ls H locs hq hl hP hD hS)
theorem G.ldc2 {M : g_M} {k n pc : Nat} {lv : List (Nat × Value)} {st : List Value} {ws : List va_E} {Q : g_QT} {i : Nat} {v : Int64} (hd : decode M.1 pc = .ok (.ldc2_w i, 3)) (hw : Cond.constantLong M.2.2.1 i v ∈ TT) (kk : GX Q M k n (pc + 3) lv (.long v :: st) ws) : GX Q M k n pc lv st ws := by
  intro p l e s m args below meth c D cid A n0 ad0 C ad ls H locs hq hl hP hD hS
  exact lv_ldc2 C.1 C.2.1 C.2.2.2.2.1 (C.2.2.2.2.2.1 _ hw) hd (kk p l e s m args below meth c D cid A n0 ad0 C ad ls H locs hq hl hP hD hS)
theorem G.iadd {M : g_M} {k n pc : Nat} {lv : List (Nat × Value)} {st : List Value} {ws : List va_E} {Q : g_QT} {x y : Int32} (hd : decode M.1 pc = .ok (.iadd, 1)) (kk : GX Q M k n (pc + 1) lv (.int (x + y) :: st) ws) : GX Q M k n pc lv (.int y :: .int x :: st) ws := by
  intro p l e s m args below meth c D cid A n0 ad0 C ad ls H locs hq hl hP hD hS
  exact lv_iadd C.1 C.2.1 hd (kk p l e s m args below meth c D cid A n0 ad0 C ad ls H locs hq hl hP hD hS)
theorem G.isub {M : g_M} {k n pc : Nat} {lv : List (Nat × Value)} {st : List Value} {ws : List va_E} {Q : g_QT} {x y : Int32} (hd : decode M.1 pc = .ok (.isub, 1)) (kk : GX Q M k n (pc + 1) lv (.int (x - y) :: st) ws) : GX Q M k n pc lv (.int y :: .int x :: st) ws := by
  intro p l e s m args below meth c D cid A n0 ad0 C ad ls H locs hq hl hP hD hS
  exact lv_isub C.1 C.2.1 hd (kk p l e s m args below meth c D cid A n0 ad0 C ad ls H locs hq hl hP hD hS)
theorem G.imul {M : g_M} {k n pc : Nat} {lv : List (Nat × Value)} {st : List Value} {ws : List va_E} {Q : g_QT} {x y : Int32} (hd : decode M.1 pc = .ok (.imul, 1)) (kk : GX Q M k n (pc + 1) lv (.int (x * y) :: st) ws) : GX Q M k n pc lv (.int y :: .int x :: st) ws := by
  intro p l e s m args below meth c D cid A n0 ad0 C ad ls H locs hq hl hP hD hS
  exact lv_imul C.1 C.2.1 hd (kk p l e s m args below meth c D cid A n0 ad0 C ad ls H locs hq hl hP hD hS)
theorem G.iand {M : g_M} {k n pc : Nat} {lv : List (Nat × Value)} {st : List Value} {ws : List va_E} {Q : g_QT} {x y : Int32} (hd : decode M.1 pc = .ok (.iand, 1)) (kk : GX Q M k n (pc + 1) lv (.int (x &&& y) :: st) ws) : GX Q M k n pc lv (.int y :: .int x :: st) ws := by
  intro p l e s m args below meth c D cid A n0 ad0 C ad ls H locs hq hl hP hD hS
  exact lv_iand C.1 C.2.1 hd (kk p l e s m args below meth c D cid A n0 ad0 C ad ls H locs hq hl hP hD hS)
theorem G.ior {M : g_M} {k n pc : Nat} {lv : List (Nat × Value)} {st : List Value} {ws : List va_E} {Q : g_QT} {x y : Int32} (hd : decode M.1 pc = .ok (.ior, 1)) (kk : GX Q M k n (pc + 1) lv (.int (x ||| y) :: st) ws) : GX Q M k n pc lv (.int y :: .int x :: st) ws := by
  intro p l e s m args below meth c D cid A n0 ad0 C ad ls H locs hq hl hP hD hS
  exact lv_ior C.1 C.2.1 hd (kk p l e s m args below meth c D cid A n0 ad0 C ad ls H locs hq hl hP hD hS)
theorem G.ixor {M : g_M} {k n pc : Nat} {lv : List (Nat × Value)} {st : List Value} {ws : List va_E} {Q : g_QT} {x y : Int32} (hd : decode M.1 pc = .ok (.ixor, 1)) (kk : GX Q M k n (pc + 1) lv (.int (x ^^^ y) :: st) ws) : GX Q M k n pc lv (.int y :: .int x :: st) ws := by
  intro p l e s m args below meth c D cid A n0 ad0 C ad ls H locs hq hl hP hD hS
  exact lv_ixor C.1 C.2.1 hd (kk p l e s m args below meth c D cid A n0 ad0 C ad ls H locs hq hl hP hD hS)
theorem G.ishl {M : g_M} {k n pc : Nat} {lv : List (Nat × Value)} {st : List Value} {ws : List va_E} {Q : g_QT} {x y : Int32} (hd : decode M.1 pc = .ok (.ishl, 1)) (kk : GX Q M k n (pc + 1) lv (.int (x <<< (y &&& 31)) :: st) ws) : GX Q M k n pc lv (.int y :: .int x :: st) ws := by
  intro p l e s m args below meth c D cid A n0 ad0 C ad ls H locs hq hl hP hD hS
  exact lv_ishl C.1 C.2.1 hd (kk p l e s m args below meth c D cid A n0 ad0 C ad ls H locs hq hl hP hD hS)
theorem G.ishr {M : g_M} {k n pc : Nat} {lv : List (Nat × Value)} {st : List Value} {ws : List va_E} {Q : g_QT} {x y : Int32} (hd : decode M.1 pc = .ok (.ishr, 1)) (kk : GX Q M k n (pc + 1) lv (.int (x >>> (y &&& 31)) :: st) ws) : GX Q M k n pc lv (.int y :: .int x :: st) ws := by
  intro p l e s m args below meth c D cid A n0 ad0 C ad ls H locs hq hl hP hD hS
  exact lv_ishr C.1 C.2.1 hd (kk p l e s m args below meth c D cid A n0 ad0 C ad ls H locs hq hl hP hD hS)
theorem G.idiv {M : g_M} {k n pc : Nat} {lv : List (Nat × Value)} {st : List Value} {ws : List va_E} {Q : g_QT} {x y : Int32} (hd : decode M.1 pc = .ok (.idiv, 1)) (hne : ¬ y = 0) (kk : GX Q M k n (pc + 1) lv (.int (x / y) :: st) ws) : GX Q M k n pc lv (.int y :: .int x :: st) ws := by
  intro p l e s m args below meth c D cid A n0 ad0 C ad ls H locs hq hl hP hD hS
  exact lv_idiv C.1 C.2.1 hd hne (kk p l e s m args below meth c D cid A n0 ad0 C ad ls H locs hq hl hP hD hS)
theorem G.irem {M : g_M} {k n pc : Nat} {lv : List (Nat × Value)} {st : List Value} {ws : List va_E} {Q : g_QT} {x y : Int32} (hd : decode M.1 pc = .ok (.irem, 1)) (hne : ¬ y = 0) (kk : GX Q M k n (pc + 1) lv (.int (x - x / y * y) :: st) ws) : GX Q M k n pc lv (.int y :: .int x :: st) ws := by
  intro p l e s m args below meth c D cid A n0 ad0 C ad ls H locs hq hl hP hD hS
  exact lv_irem C.1 C.2.1 hd hne (kk p l e s m args below meth c D cid A n0 ad0 C ad ls H locs hq hl hP hD hS)
theorem G.ladd {M : g_M} {k n pc : Nat} {lv : List (Nat × Value)} {st : List Value} {ws : List va_E} {Q : g_QT} {x y : Int64} (hd : decode M.1 pc = .ok (.ladd, 1)) (kk : GX Q M k n (pc + 1) lv (.long (x + y) :: st) ws) : GX Q M k n pc lv (.long y :: .long x :: st) ws := by
  intro p l e s m args below meth c D cid A n0 ad0 C ad ls H locs hq hl hP hD hS
  exact lv_ladd C.1 C.2.1 hd (kk p l e s m args below meth c D cid A n0 ad0 C ad ls H locs hq hl hP hD hS)
theorem G.lsub {M : g_M} {k n pc : Nat} {lv : List (Nat × Value)} {st : List Value} {ws : List va_E} {Q : g_QT} {x y : Int64} (hd : decode M.1 pc = .ok (.lsub, 1)) (kk : GX Q M k n (pc + 1) lv (.long (x - y) :: st) ws) : GX Q M k n pc lv (.long y :: .long x :: st) ws := by
  intro p l e s m args below meth c D cid A n0 ad0 C ad ls H locs hq hl hP hD hS
  exact lv_lsub C.1 C.2.1 hd (kk p l e s m args below meth c D cid A n0 ad0 C ad ls H locs hq hl hP hD hS)
theorem G.lmul {M : g_M} {k n pc : Nat} {lv : List (Nat × Value)} {st : List Value} {ws : List va_E} {Q : g_QT} {x y : Int64} (hd : decode M.1 pc = .ok (.lmul, 1)) (kk : GX Q M k n (pc + 1) lv (.long (x * y) :: st) ws) : GX Q M k n pc lv (.long y :: .long x :: st) ws := by
  intro p l e s m args below meth c D cid A n0 ad0 C ad ls H locs hq hl hP hD hS
  exact lv_lmul C.1 C.2.1 hd (kk p l e s m args below meth c D cid A n0 ad0 C ad ls H locs hq hl hP hD hS)
theorem G.land {M : g_M} {k n pc : Nat} {lv : List (Nat × Value)} {st : List Value} {ws : List va_E} {Q : g_QT} {x y : Int64} (hd : decode M.1 pc = .ok (.land, 1)) (kk : GX Q M k n (pc + 1) lv (.long (x &&& y) :: st) ws) : GX Q M k n pc lv (.long y :: .long x :: st) ws := by
  intro p l e s m args below meth c D cid A n0 ad0 C ad ls H locs hq hl hP hD hS
  exact lv_land C.1 C.2.1 hd (kk p l e s m args below meth c D cid A n0 ad0 C ad ls H locs hq hl hP hD hS)
theorem G.lor {M : g_M} {k n pc : Nat} {lv : List (Nat × Value)} {st : List Value} {ws : List va_E} {Q : g_QT} {x y : Int64} (hd : decode M.1 pc = .ok (.lor, 1)) (kk : GX Q M k n (pc + 1) lv (.long (x ||| y) :: st) ws) : GX Q M k n pc lv (.long y :: .long x :: st) ws := by
  intro p l e s m args below meth c D cid A n0 ad0 C ad ls H locs hq hl hP hD hS
  exact lv_lor C.1 C.2.1 hd (kk p l e s m args below meth c D cid A n0 ad0 C ad ls H locs hq hl hP hD hS)
def g_ushr (x y : Int32) : Int32 := (x.toUInt32 >>> (y.toUInt32 &&& Int32.toUInt32 31)).toInt32
def g_lushr (x : Int64) (y : Int32) : Int64 := (x.toUInt64 >>> (y.toInt64.toUInt64 &&& Int64.toUInt64 63)).toInt64
def g_lshl (x : Int64) (y : Int32) : Int64 := x <<< (y.toInt64 &&& 63)
def g_lshr (x : Int64) (y : Int32) : Int64 := x >>> (y.toInt64 &&& 63)
def g_i2c (x : Int32) : Int32 := (x.toUInt32 % 65536).toInt32
def g_i2b (x : Int32) : Int32 := x.toInt8.toInt32
theorem G.iushr {M : g_M} {k n pc : Nat} {lv : List (Nat × Value)} {st : List Value} {ws : List va_E} {Q : g_QT} {x y : Int32} (hd : decode M.1 pc = .ok (.iushr, 1)) (kk : GX Q M k n (pc + 1) lv (.int (g_ushr x y) :: st) ws) : GX Q M k n pc lv (.int y :: .int x :: st) ws := by
  intro p l e s m args below meth c D cid A n0 ad0 C ad ls H locs hq hl hP hD hS
  exact lv_iushr C.1 C.2.1 hd rfl (kk p l e s m args below meth c D cid A n0 ad0 C ad ls H locs hq hl hP hD hS)
theorem G.lushr {M : g_M} {k n pc : Nat} {lv : List (Nat × Value)} {st : List Value} {ws : List va_E} {Q : g_QT} {x : Int64} {y : Int32} (hd : decode M.1 pc = .ok (.lushr, 1)) (kk : GX Q M k n (pc + 1) lv (.long (g_lushr x y) :: st) ws) : GX Q M k n pc lv (.int y :: .long x :: st) ws := by
  intro p l e s m args below meth c D cid A n0 ad0 C ad ls H locs hq hl hP hD hS
  exact lv_lushr C.1 C.2.1 hd rfl (kk p l e s m args below meth c D cid A n0 ad0 C ad ls H locs hq hl hP hD hS)
theorem G.lshl {M : g_M} {k n pc : Nat} {lv : List (Nat × Value)} {st : List Value} {ws : List va_E} {Q : g_QT} {x : Int64} {y : Int32} (hd : decode M.1 pc = .ok (.lshl, 1)) (kk : GX Q M k n (pc + 1) lv (.long (g_lshl x y) :: st) ws) : GX Q M k n pc lv (.int y :: .long x :: st) ws := by
  intro p l e s m args below meth c D cid A n0 ad0 C ad ls H locs hq hl hP hD hS
  exact lv_lshl C.1 C.2.1 hd rfl (kk p l e s m args below meth c D cid A n0 ad0 C ad ls H locs hq hl hP hD hS)
theorem G.lshr {M : g_M} {k n pc : Nat} {lv : List (Nat × Value)} {st : List Value} {ws : List va_E} {Q : g_QT} {x : Int64} {y : Int32} (hd : decode M.1 pc = .ok (.lshr, 1)) (kk : GX Q M k n (pc + 1) lv (.long (g_lshr x y) :: st) ws) : GX Q M k n pc lv (.int y :: .long x :: st) ws := by
  intro p l e s m args below meth c D cid A n0 ad0 C ad ls H locs hq hl hP hD hS
  exact lv_lshr C.1 C.2.1 hd rfl (kk p l e s m args below meth c D cid A n0 ad0 C ad ls H locs hq hl hP hD hS)
theorem G.i2l {M : g_M} {k n pc : Nat} {lv : List (Nat × Value)} {st : List Value} {ws : List va_E} {Q : g_QT} {x : Int32} (hd : decode M.1 pc = .ok (.i2l, 1)) (kk : GX Q M k n (pc + 1) lv (.long (x.toInt64) :: st) ws) : GX Q M k n pc lv (.int x :: st) ws := by
  intro p l e s m args below meth c D cid A n0 ad0 C ad ls H locs hq hl hP hD hS
  exact lv_i2l C.1 C.2.1 hd rfl (kk p l e s m args below meth c D cid A n0 ad0 C ad ls H locs hq hl hP hD hS)
theorem G.l2i {M : g_M} {k n pc : Nat} {lv : List (Nat × Value)} {st : List Value} {ws : List va_E} {Q : g_QT} {x : Int64} (hd : decode M.1 pc = .ok (.l2i, 1)) (kk : GX Q M k n (pc + 1) lv (.int (x.toInt32) :: st) ws) : GX Q M k n pc lv (.long x :: st) ws := by
  intro p l e s m args below meth c D cid A n0 ad0 C ad ls H locs hq hl hP hD hS
  exact lv_l2i C.1 C.2.1 hd rfl (kk p l e s m args below meth c D cid A n0 ad0 C ad ls H locs hq hl hP hD hS)
theorem G.i2c {M : g_M} {k n pc : Nat} {lv : List (Nat × Value)} {st : List Value} {ws : List va_E} {Q : g_QT} {x : Int32} (hd : decode M.1 pc = .ok (.i2c, 1)) (kk : GX Q M k n (pc + 1) lv (.int (g_i2c x) :: st) ws) : GX Q M k n pc lv (.int x :: st) ws := by
  intro p l e s m args below meth c D cid A n0 ad0 C ad ls H locs hq hl hP hD hS
  exact lv_i2c C.1 C.2.1 hd rfl (kk p l e s m args below meth c D cid A n0 ad0 C ad ls H locs hq hl hP hD hS)
theorem G.i2b {M : g_M} {k n pc : Nat} {lv : List (Nat × Value)} {st : List Value} {ws : List va_E} {Q : g_QT} {x : Int32} (hd : decode M.1 pc = .ok (.i2b, 1)) (kk : GX Q M k n (pc + 1) lv (.int (g_i2b x) :: st) ws) : GX Q M k n pc lv (.int x :: st) ws := by
  intro p l e s m args below meth c D cid A n0 ad0 C ad ls H locs hq hl hP hD hS
  exact lv_i2b C.1 C.2.1 hd rfl (kk p l e s m args below meth c D cid A n0 ad0 C ad ls H locs hq hl hP hD hS)
theorem G.lneg {M : g_M} {k n pc : Nat} {lv : List (Nat × Value)} {st : List Value} {ws : List va_E} {Q : g_QT} {x : Int64} (hd : decode M.1 pc = .ok (.lneg, 1)) (kk : GX Q M k n (pc + 1) lv (.long (-x) :: st) ws) : GX Q M k n pc lv (.long x :: st) ws := by
  intro p l e s m args below meth c D cid A n0 ad0 C ad ls H locs hq hl hP hD hS
  exact lv_lneg C.1 C.2.1 hd (kk p l e s m args below meth c D cid A n0 ad0 C ad ls H locs hq hl hP hD hS)
theorem G.lcmp {M : g_M} {k n pc : Nat} {lv : List (Nat × Value)} {st : List Value} {ws : List va_E} {Q : g_QT} {x y : Int64} (hd : decode M.1 pc = .ok (.lcmp, 1)) (kk : GX Q M k n (pc + 1) lv (.int (lg_cmp x y) :: st) ws) : GX Q M k n pc lv (.long y :: .long x :: st) ws := by
  intro p l e s m args below meth c D cid A n0 ad0 C ad ls H locs hq hl hP hD hS
  exact W.lcmp C.1 C.2.1 hd (kk p l e s m args below meth c D cid A n0 ad0 C ad ls H locs hq hl hP hD hS)
theorem G.dup {M : g_M} {k n pc : Nat} {lv : List (Nat × Value)} {st : List Value} {ws : List va_E} {Q : g_QT} {v : Value} (hd : decode M.1 pc = .ok (.dup, 1)) (hc : v.category = 1) (kk : GX Q M k n (pc + 1) lv (v :: v :: st) ws) : GX Q M k n pc lv (v :: st) ws := by
  intro p l e s m args below meth c D cid A n0 ad0 C ad ls H locs hq hl hP hD hS
  exact lv_dup C.1 C.2.1 hd ((g_catv ad v).trans hc) (kk p l e s m args below meth c D cid A n0 ad0 C ad ls H locs hq hl hP hD hS)
theorem G.pop {M : g_M} {k n pc : Nat} {lv : List (Nat × Value)} {st : List Value} {ws : List va_E} {Q : g_QT} {v : Value} (hd : decode M.1 pc = .ok (.pop, 1)) (hc : v.category = 1) (kk : GX Q M k n (pc + 1) lv st ws) : GX Q M k n pc lv (v :: st) ws := by
  intro p l e s m args below meth c D cid A n0 ad0 C ad ls H locs hq hl hP hD hS
  exact lv_pop C.1 C.2.1 hd ((g_catv ad v).trans hc) (kk p l e s m args below meth c D cid A n0 ad0 C ad ls H locs hq hl hP hD hS)
theorem G.dup2 {M : g_M} {k n pc : Nat} {lv : List (Nat × Value)} {st : List Value} {ws : List va_E} {Q : g_QT} {v u : Value} (hd : decode M.1 pc = .ok (.dup2, 1)) (hc : v.category = 1) (hc2 : u.category = 1) (kk : GX Q M k n (pc + 1) lv (v :: u :: v :: u :: st) ws) : GX Q M k n pc lv (v :: u :: st) ws := by
  intro p l e s m args below meth c D cid A n0 ad0 C ad ls H locs hq hl hP hD hS
  exact lv_dup2_11 C.1 C.2.1 hd ((g_catv ad v).trans hc) ((g_catv ad u).trans hc2) (kk p l e s m args below meth c D cid A n0 ad0 C ad ls H locs hq hl hP hD hS)
theorem G.if_eq {M : g_M} {k n pc : Nat} {lv : List (Nat × Value)} {st : List Value} {ws : List va_E} {Q : g_QT} {x : Int32} {off : Int} {tgt : Nat} (hd : decode M.1 pc = .ok (.ifCond .eq off, 3)) (ht : (pc : Int) + off = (tgt : Int)) (kt : x = 0 → GX Q M k n tgt lv st ws) (kf : ¬ x = 0 → GX Q M k n (pc + 3) lv st ws) : GX Q M k n pc lv (.int x :: st) ws := by
  intro p l e s m args below meth c D cid A n0 ad0 C ad ls H locs hq hl hP hD hS
  exact lv_if_eq C.1 C.2.1 hd ht (fun h => (kt h p l e s m args below meth c D cid A n0 ad0 C ad ls H locs hq hl hP hD hS)) (fun h => (kf h p l e s m args below meth c D cid A n0 ad0 C ad ls H locs hq hl hP hD hS))
theorem G.if_ne {M : g_M} {k n pc : Nat} {lv : List (Nat × Value)} {st : List Value} {ws : List va_E} {Q : g_QT} {x : Int32} {off : Int} {tgt : Nat} (hd : decode M.1 pc = .ok (.ifCond .ne off, 3)) (ht : (pc : Int) + off = (tgt : Int)) (kt : ¬ x = 0 → GX Q M k n tgt lv st ws) (kf : x = 0 → GX Q M k n (pc + 3) lv st ws) : GX Q M k n pc lv (.int x :: st) ws := by
  intro p l e s m args below meth c D cid A n0 ad0 C ad ls H locs hq hl hP hD hS
  exact lv_if_ne C.1 C.2.1 hd ht (fun h => (kt h p l e s m args below meth c D cid A n0 ad0 C ad ls H locs hq hl hP hD hS)) (fun h => (kf h p l e s m args below meth c D cid A n0 ad0 C ad ls H locs hq hl hP hD hS))
theorem G.if_lt {M : g_M} {k n pc : Nat} {lv : List (Nat × Value)} {st : List Value} {ws : List va_E} {Q : g_QT} {x : Int32} {off : Int} {tgt : Nat} (hd : decode M.1 pc = .ok (.ifCond .lt off, 3)) (ht : (pc : Int) + off = (tgt : Int)) (kt : x < 0 → GX Q M k n tgt lv st ws) (kf : ¬ x < 0 → GX Q M k n (pc + 3) lv st ws) : GX Q M k n pc lv (.int x :: st) ws := by
  intro p l e s m args below meth c D cid A n0 ad0 C ad ls H locs hq hl hP hD hS
  exact lv_if_lt C.1 C.2.1 hd ht (fun h => (kt h p l e s m args below meth c D cid A n0 ad0 C ad ls H locs hq hl hP hD hS)) (fun h => (kf h p l e s m args below meth c D cid A n0 ad0 C ad ls H locs hq hl hP hD hS))
theorem G.if_ge {M : g_M} {k n pc : Nat} {lv : List (Nat × Value)} {st : List Value} {ws : List va_E} {Q : g_QT} {x : Int32} {off : Int} {tgt : Nat} (hd : decode M.1 pc = .ok (.ifCond .ge off, 3)) (ht : (pc : Int) + off = (tgt : Int)) (kt : 0 ≤ x → GX Q M k n tgt lv st ws) (kf : ¬ 0 ≤ x → GX Q M k n (pc + 3) lv st ws) : GX Q M k n pc lv (.int x :: st) ws := by
  intro p l e s m args below meth c D cid A n0 ad0 C ad ls H locs hq hl hP hD hS
  exact lv_if_ge C.1 C.2.1 hd ht (fun h => (kt h p l e s m args below meth c D cid A n0 ad0 C ad ls H locs hq hl hP hD hS)) (fun h => (kf h p l e s m args below meth c D cid A n0 ad0 C ad ls H locs hq hl hP hD hS))
theorem G.if_gt {M : g_M} {k n pc : Nat} {lv : List (Nat × Value)} {st : List Value} {ws : List va_E} {Q : g_QT} {x : Int32} {off : Int} {tgt : Nat} (hd : decode M.1 pc = .ok (.ifCond .gt off, 3)) (ht : (pc : Int) + off = (tgt : Int)) (kt : 0 < x → GX Q M k n tgt lv st ws) (kf : ¬ 0 < x → GX Q M k n (pc + 3) lv st ws) : GX Q M k n pc lv (.int x :: st) ws := by
  intro p l e s m args below meth c D cid A n0 ad0 C ad ls H locs hq hl hP hD hS
  exact lv_if_gt C.1 C.2.1 hd ht (fun h => (kt h p l e s m args below meth c D cid A n0 ad0 C ad ls H locs hq hl hP hD hS)) (fun h => (kf h p l e s m args below meth c D cid A n0 ad0 C ad ls H locs hq hl hP hD hS))
theorem G.if_le {M : g_M} {k n pc : Nat} {lv : List (Nat × Value)} {st : List Value} {ws : List va_E} {Q : g_QT} {x : Int32} {off : Int} {tgt : Nat} (hd : decode M.1 pc = .ok (.ifCond .le off, 3)) (ht : (pc : Int) + off = (tgt : Int)) (kt : x ≤ 0 → GX Q M k n tgt lv st ws) (kf : ¬ x ≤ 0 → GX Q M k n (pc + 3) lv st ws) : GX Q M k n pc lv (.int x :: st) ws := by
  intro p l e s m args below meth c D cid A n0 ad0 C ad ls H locs hq hl hP hD hS
  exact lv_if_le C.1 C.2.1 hd ht (fun h => (kt h p l e s m args below meth c D cid A n0 ad0 C ad ls H locs hq hl hP hD hS)) (fun h => (kf h p l e s m args below meth c D cid A n0 ad0 C ad ls H locs hq hl hP hD hS))
theorem G.icmp_eq {M : g_M} {k n pc : Nat} {lv : List (Nat × Value)} {st : List Value} {ws : List va_E} {Q : g_QT} {x y : Int32} {off : Int} {tgt : Nat} (hd : decode M.1 pc = .ok (.if_icmp .eq off, 3)) (ht : (pc : Int) + off = (tgt : Int)) (kt : x = y → GX Q M k n tgt lv st ws) (kf : ¬ x = y → GX Q M k n (pc + 3) lv st ws) : GX Q M k n pc lv (.int y :: .int x :: st) ws := by
  intro p l e s m args below meth c D cid A n0 ad0 C ad ls H locs hq hl hP hD hS
  exact lv_icmp_eq C.1 C.2.1 hd ht (fun h => (kt h p l e s m args below meth c D cid A n0 ad0 C ad ls H locs hq hl hP hD hS)) (fun h => (kf h p l e s m args below meth c D cid A n0 ad0 C ad ls H locs hq hl hP hD hS))
theorem G.icmp_ne {M : g_M} {k n pc : Nat} {lv : List (Nat × Value)} {st : List Value} {ws : List va_E} {Q : g_QT} {x y : Int32} {off : Int} {tgt : Nat} (hd : decode M.1 pc = .ok (.if_icmp .ne off, 3)) (ht : (pc : Int) + off = (tgt : Int)) (kt : ¬ x = y → GX Q M k n tgt lv st ws) (kf : x = y → GX Q M k n (pc + 3) lv st ws) : GX Q M k n pc lv (.int y :: .int x :: st) ws := by
  intro p l e s m args below meth c D cid A n0 ad0 C ad ls H locs hq hl hP hD hS
  exact lv_icmp_ne C.1 C.2.1 hd ht (fun h => (kt h p l e s m args below meth c D cid A n0 ad0 C ad ls H locs hq hl hP hD hS)) (fun h => (kf h p l e s m args below meth c D cid A n0 ad0 C ad ls H locs hq hl hP hD hS))
theorem G.icmp_lt {M : g_M} {k n pc : Nat} {lv : List (Nat × Value)} {st : List Value} {ws : List va_E} {Q : g_QT} {x y : Int32} {off : Int} {tgt : Nat} (hd : decode M.1 pc = .ok (.if_icmp .lt off, 3)) (ht : (pc : Int) + off = (tgt : Int)) (kt : x < y → GX Q M k n tgt lv st ws) (kf : ¬ x < y → GX Q M k n (pc + 3) lv st ws) : GX Q M k n pc lv (.int y :: .int x :: st) ws := by
  intro p l e s m args below meth c D cid A n0 ad0 C ad ls H locs hq hl hP hD hS
  exact lv_icmp_lt C.1 C.2.1 hd ht (fun h => (kt h p l e s m args below meth c D cid A n0 ad0 C ad ls H locs hq hl hP hD hS)) (fun h => (kf h p l e s m args below meth c D cid A n0 ad0 C ad ls H locs hq hl hP hD hS))
theorem G.icmp_ge {M : g_M} {k n pc : Nat} {lv : List (Nat × Value)} {st : List Value} {ws : List va_E} {Q : g_QT} {x y : Int32} {off : Int} {tgt : Nat} (hd : decode M.1 pc = .ok (.if_icmp .ge off, 3)) (ht : (pc : Int) + off = (tgt : Int)) (kt : y ≤ x → GX Q M k n tgt lv st ws) (kf : ¬ y ≤ x → GX Q M k n (pc + 3) lv st ws) : GX Q M k n pc lv (.int y :: .int x :: st) ws := by
  intro p l e s m args below meth c D cid A n0 ad0 C ad ls H locs hq hl hP hD hS
  exact lv_icmp_ge C.1 C.2.1 hd ht (fun h => (kt h p l e s m args below meth c D cid A n0 ad0 C ad ls H locs hq hl hP hD hS)) (fun h => (kf h p l e s m args below meth c D cid A n0 ad0 C ad ls H locs hq hl hP hD hS))
theorem G.icmp_gt {M : g_M} {k n pc : Nat} {lv : List (Nat × Value)} {st : List Value} {ws : List va_E} {Q : g_QT} {x y : Int32} {off : Int} {tgt : Nat} (hd : decode M.1 pc = .ok (.if_icmp .gt off, 3)) (ht : (pc : Int) + off = (tgt : Int)) (kt : y < x → GX Q M k n tgt lv st ws) (kf : ¬ y < x → GX Q M k n (pc + 3) lv st ws) : GX Q M k n pc lv (.int y :: .int x :: st) ws := by
  intro p l e s m args below meth c D cid A n0 ad0 C ad ls H locs hq hl hP hD hS
  exact lv_icmp_gt C.1 C.2.1 hd ht (fun h => (kt h p l e s m args below meth c D cid A n0 ad0 C ad ls H locs hq hl hP hD hS)) (fun h => (kf h p l e s m args below meth c D cid A n0 ad0 C ad ls H locs hq hl hP hD hS))
theorem G.icmp_le {M : g_M} {k n pc : Nat} {lv : List (Nat × Value)} {st : List Value} {ws : List va_E} {Q : g_QT} {x y : Int32} {off : Int} {tgt : Nat} (hd : decode M.1 pc = .ok (.if_icmp .le off, 3)) (ht : (pc : Int) + off = (tgt : Int)) (kt : x ≤ y → GX Q M k n tgt lv st ws) (kf : ¬ x ≤ y → GX Q M k n (pc + 3) lv st ws) : GX Q M k n pc lv (.int y :: .int x :: st) ws := by
  intro p l e s m args below meth c D cid A n0 ad0 C ad ls H locs hq hl hP hD hS
  exact lv_icmp_le C.1 C.2.1 hd ht (fun h => (kt h p l e s m args below meth c D cid A n0 ad0 C ad ls H locs hq hl hP hD hS)) (fun h => (kf h p l e s m args below meth c D cid A n0 ad0 C ad ls H locs hq hl hP hD hS))
theorem G.goto {M : g_M} {k n pc : Nat} {lv : List (Nat × Value)} {st : List Value} {ws : List va_E} {Q : g_QT} {off : Int} {tgt : Nat} (hd : decode M.1 pc = .ok (.goto off, 3)) (ht : (pc : Int) + off = (tgt : Int)) (kk : GX Q M k n tgt lv st ws) : GX Q M k n pc lv st ws := by
  intro p l e s m args below meth c D cid A n0 ad0 C ad ls H locs hq hl hP hD hS
  exact lv_goto C.1 C.2.1 hd ht (kk p l e s m args below meth c D cid A n0 ad0 C ad ls H locs hq hl hP hD hS)
theorem G.topi {M : g_M} {k n pc : Nat} {lv : List (Nat × Value)} {st : List Value} {ws : List va_E} {Q : g_QT} {x : Int32} (kk : ∀ y : Int32, y = x → GX Q M k n pc lv (.int y :: st) ws) : GX Q M k n pc lv (.int x :: st) ws := kk x rfl
theorem G.topl {M : g_M} {k n pc : Nat} {lv : List (Nat × Value)} {st : List Value} {ws : List va_E} {Q : g_QT} {x : Int64} (kk : ∀ y : Int64, y = x → GX Q M k n pc lv (.long y :: st) ws) : GX Q M k n pc lv (.long x :: st) ws := kk x rfl
theorem g_tabOff {x v : Int32} (h : x = v) : x.toInt = v.toInt := by rw [h]
theorem G.tabIn {M : g_M} {k n pc : Nat} {lv : List (Nat × Value)} {st : List Value} {ws : List va_E} {Q : g_QT} {dflt lo hi : Int} {offs : Array Int} {len : Nat} {x v : Int32} {off : Int} {tgt : Nat} (hd : decode M.1 pc = .ok (.tableswitch dflt lo hi offs, len)) (hv : x = v) (h1 : ¬ v.toInt < lo) (h2 : ¬ hi < v.toInt) (ho : offs[(v.toInt - lo).toNat]? = some off) (ht : (pc : Int) + off = (tgt : Int)) (kk : GX Q M k n tgt lv st ws) : GX Q M k n pc lv (.int x :: st) ws := by
  intro p l e s m args below meth c D cid A n0 ad0 C ad ls H locs hq hl hP hD hS
  subst hv
  exact lv_tableIn C.1 C.2.1 hd h1 h2 ho ht (kk p l e s m args below meth c D cid A n0 ad0 C ad ls H locs hq hl hP hD hS)
theorem G.tabOut {M : g_M} {k n pc : Nat} {lv : List (Nat × Value)} {st : List Value} {ws : List va_E} {Q : g_QT} {dflt lo hi : Int} {offs : Array Int} {len : Nat} {x : Int32} {tgt : Nat} (hd : decode M.1 pc = .ok (.tableswitch dflt lo hi offs, len)) (h : x.toInt < lo ∨ hi < x.toInt) (ht : (pc : Int) + dflt = (tgt : Int)) (kk : GX Q M k n tgt lv st ws) : GX Q M k n pc lv (.int x :: st) ws := by
  intro p l e s m args below meth c D cid A n0 ad0 C ad ls H locs hq hl hP hD hS
  exact lv_tableOut C.1 C.2.1 hd h ht (kk p l e s m args below meth c D cid A n0 ad0 C ad ls H locs hq hl hP hD hS)
theorem G.lookup {M : g_M} {k n pc : Nat} {lv : List (Nat × Value)} {st : List Value} {ws : List va_E} {Q : g_QT} {dflt : Int} {ps : Array (Int × Int)} {len : Nat} {x : Int32} {off : Int} {tgt : Nat} (hd : decode M.1 pc = .ok (.lookupswitch dflt ps, len)) (hp : (ps.toList.zip (ps.toList.drop 1)).all (fun (a, next) => a.1 < next.1) = true) (ho : Op.lookupswitch.offset ps.toList dflt x.toInt = off) (ht : (pc : Int) + off = (tgt : Int)) (kk : GX Q M k n tgt lv st ws) : GX Q M k n pc lv (.int x :: st) ws := by
  intro p l e s m args below meth c D cid A n0 ad0 C ad ls H locs hq hl hP hD hS
  exact lv_lookup C.1 C.2.1 hd hp ho ht (kk p l e s m args below meth c D cid A n0 ad0 C ad ls H locs hq hl hP hD hS)
def g_F (own : String) (idx ci k : Nat) : Prop := ∃ (C : String) (T : u_T) (N : Nat), vwCl[ci]? = some (C, T, N) ∧ k < N ∧ (∀ w ∈ u_ws C T N, w ∈ TT) ∧ Cond.fieldLink own idx (T k).1 (T k).2.1 (T k).2.2.1 ∈ TT
def g_Fw (own : String) (idx ci k : Nat) (ty : FieldType) : Prop := ∃ (C : String) (T : u_T) (N : Nat) (ty0 : Nat → FieldType), vwCl[ci]? = some (C, T, N) ∧ k < N ∧ (∀ w ∈ u_ws C T N, w ∈ TT) ∧ Cond.fieldLink own idx (T k).1 (T k).2.1 (T k).2.2.1 ∈ TT ∧ (∀ k, k < N → parseFieldDescriptor (T k).2.2.1 = some (ty0 k)) ∧ (∀ a, a < N → ∀ b, b < N → a ≠ b → (T a).2.1 ≠ (T b).2.1) ∧ (T k).2.2.2 = false ∧ parseFieldDescriptor (T k).2.2.1 = some ty
theorem G.getfield {M : g_M} {k n pc : Nat} {lv : List (Nat × Value)} {st : List Value} {ws : List va_E} {Q : g_QT} {idx ci kf a : Nat} {fs : List Value} {v : Value} (hd : decode M.1 pc = .ok (.getfield idx, 3)) (hf : g_F M.2.2.1 idx ci kf) (he : ws[a]? = some (.inr (ci, fs))) (hv : fs[kf]? = some v) (kk : GX Q M k n (pc + 3) lv (v :: st) ws) : GX Q M k n pc lv (.ref a :: st) ws := by
  intro p l e s m args below meth c D cid A n0 ad0 C ad ls H locs hq hl hP hD hS
  obtain ⟨C9, T9, N9, h1, h2, h3, h4⟩ := hf
  exact va_get (D := D) (ci := ci) (v := g_tv ad v) C.1 C.2.1 C.2.2.2.2.2.1 h3 C.2.2.2.2.1 C.2.2.2.2.2.2.2.1 hP a (fs := fs.map (g_tv ad)) (g_get ad cid he) h1 kf h2 (C.2.2.2.2.2.1 _ h4) (fun _ h9 => h9) (by rw [List.getElem?_map, hv]; rfl) hd (kk p l e s m args below meth c D cid A n0 ad0 C ad ls H locs hq hl hP hD hS)
def g_fit (ty : FieldType) (v : Value) : Prop := ∀ ad : Nat → Nat, narrow ty (g_tv ad v) = g_tv ad v ∧ fits ty (g_tv ad v) = true
theorem g_fit_i (x : Int32) : g_fit .int (.int x) := fun _ => ⟨rfl, rfl⟩
theorem g_fit_l (x : Int64) : g_fit .long (.long x) := fun _ => ⟨rfl, rfl⟩
theorem g_fit_z {x : Int32} (h : x = 0 ∨ x = 1) : g_fit .boolean (.int x) := fun _ => by
  rcases h with rfl | rfl
  · show narrow .boolean (.int 0) = .int 0 ∧ fits .boolean (.int 0) = true; decide
  · show narrow .boolean (.int 1) = .int 1 ∧ fits .boolean (.int 1) = true; decide
theorem g_fit_a (t : FieldType) (i : Nat) : g_fit (.array t) (.ref i) := fun _ => ⟨rfl, rfl⟩
theorem g_fit_o (t : String) (i : Nat) : g_fit (.object t) (.ref i) := fun _ => ⟨rfl, rfl⟩
theorem G.putfield {M : g_M} {k n pc : Nat} {lv : List (Nat × Value)} {st : List Value} {ws : List va_E} {Q : g_QT} {idx ci kf a : Nat} {fs : List Value} {v : Value} {ty : FieldType} {ws1 : List va_E} (hd : decode M.1 pc = .ok (.putfield idx, 3)) (hf : g_Fw M.2.2.1 idx ci kf ty) (he : ws[a]? = some (.inr (ci, fs))) (hfit : g_fit ty v) (hl9 : Nat.ble (kf + 1) fs.length = true) (hw : ws.set a (.inr (ci, fs.set kf v)) = ws1) (kk : GX Q M k n (pc + 3) lv st ws1) : GX Q M k n pc lv (v :: .ref a :: st) ws := by
  intro p l e s m args below meth c D cid A n0 ad0 C ad ls H locs hq hl hP hD hS
  obtain ⟨C9, T9, N9, ty0, h1, h2, h3, h4, h5, h6, h7, h8⟩ := hf
  refine va_put (D := D) (ci := ci) (v := g_tv ad v) (ty := ty) C.1 C.2.1 C.2.2.2.2.2.1 h3 ty0 h5 h6 C.2.2.2.2.1 C.2.2.2.2.2.2.2.1 hP hD hS a (fs := fs.map (g_tv ad)) (g_get ad cid he) h1 kf h2 (C.2.2.2.2.2.1 _ h4) (fun _ h9 => h9) h7 h8 (hfit ad).1 (hfit ad).2 (by rw [List.length_map]; exact g_lt hl9) hd (fun H locs hP hD hS => ?_)
  have hz : (g_mk ad cid ws).set a (ad a, .inr (ci, (fs.map (g_tv ad)).set kf (g_tv ad v))) = g_mk ad cid ws1 := by
    rw [← hw, ← g_set]
    simp only [g_te, List.map_set]
  rw [hz] at hP hD
  exact (kk p l e s m args below meth c D cid A n0 ad0 C ad ls H locs hq hl hP hD hS)
theorem G.iaload {M : g_M} {k n pc : Nat} {lv : List (Nat × Value)} {st : List Value} {ws : List va_E} {Q : g_QT} {a N : Nat} {f : Nat → Int32} {i : Int32} (hd : decode M.1 pc = .ok (.iaload, 1)) (he : ws[a]? = some (.inl (1, N, .inl f))) (hin : vp_in i N) (kk : GX Q M k n (pc + 1) lv (.int (f i.toNatClampNeg) :: st) ws) : GX Q M k n pc lv (.int i :: .ref a :: st) ws := by
  intro p l e s m args below meth c D cid A n0 ad0 C ad ls H locs hq hl hP hD hS
  exact va_iald (D := D) C.1 C.2.1 C.2.2.2.2.2.2.2.1 hP a 1 (g_get ad cid he) rfl hin hd (kk p l e s m args below meth c D cid A n0 ad0 C ad ls H locs hq hl hP hD hS)
theorem G.caload {M : g_M} {k n pc : Nat} {lv : List (Nat × Value)} {st : List Value} {ws : List va_E} {Q : g_QT} {a N : Nat} {f : Nat → Int32} {i : Int32} (hd : decode M.1 pc = .ok (.caload, 1)) (he : ws[a]? = some (.inl (0, N, .inl f))) (hin : vp_in i N) (kk : GX Q M k n (pc + 1) lv (.int (f i.toNatClampNeg) :: st) ws) : GX Q M k n pc lv (.int i :: .ref a :: st) ws := by
  intro p l e s m args below meth c D cid A n0 ad0 C ad ls H locs hq hl hP hD hS
  exact va_cald (D := D) C.1 C.2.1 C.2.2.2.2.2.2.2.1 hP a 0 (g_get ad cid he) rfl hin hd (kk p l e s m args below meth c D cid A n0 ad0 C ad ls H locs hq hl hP hD hS)
theorem G.laload {M : g_M} {k n pc : Nat} {lv : List (Nat × Value)} {st : List Value} {ws : List va_E} {Q : g_QT} {a N : Nat} {f : Nat → Int64} {i : Int32} (hd : decode M.1 pc = .ok (.laload, 1)) (he : ws[a]? = some (.inl (2, N, .inr (.inl f)))) (hin : vp_in i N) (kk : GX Q M k n (pc + 1) lv (.long (f i.toNatClampNeg) :: st) ws) : GX Q M k n pc lv (.int i :: .ref a :: st) ws := by
  intro p l e s m args below meth c D cid A n0 ad0 C ad ls H locs hq hl hP hD hS
  exact va_lald (D := D) C.1 C.2.1 C.2.2.2.2.2.2.2.1 hP a 2 (g_get ad cid he) rfl hin hd (kk p l e s m args below meth c D cid A n0 ad0 C ad ls H locs hq hl hP hD hS)
theorem G.aaload {M : g_M} {k n pc : Nat} {lv : List (Nat × Value)} {st : List Value} {ws : List va_E} {Q : g_QT} {a N b : Nat} {f : Nat → Option Nat} {i : Int32} (hd : decode M.1 pc = .ok (.aaload, 1)) (he : ws[a]? = some (.inl (3, N, .inr (.inr (.inr (.inr f)))))) (hin : vp_in i N) (hb : f i.toNatClampNeg = some b) (kk : GX Q M k n (pc + 1) lv (.ref b :: st) ws) : GX Q M k n pc lv (.int i :: .ref a :: st) ws := by
  intro p l e s m args below meth c D cid A n0 ad0 C ad ls H locs hq hl hP hD hS
  refine va_aldq (D := D) C.1 C.2.1 C.2.2.2.2.2.2.2.1 hP a 3 (f := fun j => (f j).map ad) (g_get ad cid he) rfl hin hd ?_
  have hz : va_rf ((f i.toNatClampNeg).map ad) = .ref (ad b) := by rw [hb]; rfl
  rw [hz]
  exact (kk p l e s m args below meth c D cid A n0 ad0 C ad ls H locs hq hl hP hD hS)
theorem G.arraylength {M : g_M} {k n pc : Nat} {lv : List (Nat × Value)} {st : List Value} {ws : List va_E} {Q : g_QT} {a t N : Nat} {x : (Nat → Int32) ⊕ (Nat → Int64) ⊕ (Nat → UInt32) ⊕ (Nat → UInt64) ⊕ (Nat → Option Nat)} {v : Int32} (hd : decode M.1 pc = .ok (.arraylength, 1)) (he : ws[a]? = some (.inl (t, N, x))) (ht : Nat.ble (t + 1) 4 = true) (hv : Int32.ofNat N = v) (kk : GX Q M k n (pc + 1) lv (.int v :: st) ws) : GX Q M k n pc lv (.ref a :: st) ws := by
  intro p l e s m args below meth c D cid A n0 ad0 C ad ls H locs hq hl hP hD hS
  have ht := g_lt ht
  have hh : ∃ ty, (g_tys cid)[t]? = some (cid t, ty) := by
    rcases (show t = 0 ∨ t = 1 ∨ t = 2 ∨ t = 3 by omega) with rfl | rfl | rfl | rfl <;> exact ⟨_, rfl⟩
  obtain ⟨ty, hty⟩ := hh
  exact va_alen (D := D) C.1 C.2.1 C.2.2.2.2.2.2.2.1 hP a t (x := g_ta ad (N, x)) (g_get ad cid he) hty hv hd (kk p l e s m args below meth c D cid A n0 ad0 C ad ls H locs hq hl hP hD hS)
theorem G.iastore {M : g_M} {k n pc : Nat} {lv : List (Nat × Value)} {st : List Value} {ws : List va_E} {Q : g_QT} {a N : Nat} {f : Nat → Int32} {i : Int32} {x : Int32} {ws1 : List va_E} (hd : decode M.1 pc = .ok (.iastore, 1)) (he : ws[a]? = some (.inl (1, N, .inl f))) (hin : vp_in i N) (hw : ws.set a (.inl (1, N, .inl (upd f i.toNatClampNeg x))) = ws1) (kk : GX Q M k n (pc + 1) lv st ws1) : GX Q M k n pc lv (.int x :: .int i :: .ref a :: st) ws := by
  intro p l e s m args below meth c D cid A n0 ad0 C ad ls H locs hq hl hP hD hS
  refine va_iast (D := D) C.1 C.2.1 C.2.2.2.2.2.2.2.1 hP hD hS a 1 (g_get ad cid he) rfl hin hd (fun H locs hP hD hS => ?_)
  have hz := g_set ad cid ws a (.inl (1, N, .inl (upd f i.toNatClampNeg x)))
  rw [hw] at hz
  have hP : va_P D vwCl (g_mk ad cid ws1) H := hz ▸ hP
  have hD : va_D A (g_mk ad cid ws1) := hz ▸ hD
  exact (kk p l e s m args below meth c D cid A n0 ad0 C ad ls H locs hq hl hP hD hS)
theorem G.castore {M : g_M} {k n pc : Nat} {lv : List (Nat × Value)} {st : List Value} {ws : List va_E} {Q : g_QT} {a N : Nat} {f : Nat → Int32} {i : Int32} {x : Int32} {ws1 : List va_E} (hd : decode M.1 pc = .ok (.castore, 1)) (he : ws[a]? = some (.inl (0, N, .inl f))) (hin : vp_in i N) (hw : ws.set a (.inl (0, N, .inl (upd f i.toNatClampNeg (vp_nar .char x)))) = ws1) (kk : GX Q M k n (pc + 1) lv st ws1) : GX Q M k n pc lv (.int x :: .int i :: .ref a :: st) ws := by
  intro p l e s m args below meth c D cid A n0 ad0 C ad ls H locs hq hl hP hD hS
  refine va_cast (D := D) C.1 C.2.1 C.2.2.2.2.2.2.2.1 hP hD hS a 0 (g_get ad cid he) rfl hin hd (fun H locs hP hD hS => ?_)
  have hz := g_set ad cid ws a (.inl (0, N, .inl (upd f i.toNatClampNeg (vp_nar .char x))))
  rw [hw] at hz
  have hP : va_P D vwCl (g_mk ad cid ws1) H := hz ▸ hP
  have hD : va_D A (g_mk ad cid ws1) := hz ▸ hD
  exact (kk p l e s m args below meth c D cid A n0 ad0 C ad ls H locs hq hl hP hD hS)
theorem G.lastore {M : g_M} {k n pc : Nat} {lv : List (Nat × Value)} {st : List Value} {ws : List va_E} {Q : g_QT} {a N : Nat} {f : Nat → Int64} {i : Int32} {x : Int64} {ws1 : List va_E} (hd : decode M.1 pc = .ok (.lastore, 1)) (he : ws[a]? = some (.inl (2, N, .inr (.inl f)))) (hin : vp_in i N) (hw : ws.set a (.inl (2, N, .inr (.inl (vp_updL f i.toNatClampNeg x)))) = ws1) (kk : GX Q M k n (pc + 1) lv st ws1) : GX Q M k n pc lv (.long x :: .int i :: .ref a :: st) ws := by
  intro p l e s m args below meth c D cid A n0 ad0 C ad ls H locs hq hl hP hD hS
  refine va_last (D := D) C.1 C.2.1 C.2.2.2.2.2.2.2.1 hP hD hS a 2 (g_get ad cid he) rfl hin hd (fun H locs hP hD hS => ?_)
  have hz := g_set ad cid ws a (.inl (2, N, .inr (.inl (vp_updL f i.toNatClampNeg x))))
  rw [hw] at hz
  have hP : va_P D vwCl (g_mk ad cid ws1) H := hz ▸ hP
  have hD : va_D A (g_mk ad cid ws1) := hz ▸ hD
  exact (kk p l e s m args below meth c D cid A n0 ad0 C ad ls H locs hq hl hP hD hS)
theorem G.ireturn {M : g_M} {k n pc : Nat} {lv : List (Nat × Value)} {ws : List va_E} {x : Int32} (hd : decode M.1 pc = .ok (.ireturn, 1)) (hr : M.2.2.2.1 = some .int) (hk : Nat.ble k M.2.2.2.2.2.1 = true) (hn : Nat.ble n M.2.2.2.2.2.2 = true) : G M k n pc lv [.int x] ws (some (.int x)) ws := by
  intro p l e s m args below meth c D cid A n0 ad0 C ad ls H locs hq hl hP hD hS
  refine W.widen (k := M.2.2.2.2.2.1) (n := M.2.2.2.2.2.2) (Nat.le_of_ble_eq_true hk) (Nat.le_of_ble_eq_true hn) ?_
  exact W.iret (v := x) C.1 C.2.1 (C.2.2.1.trans hr) (fun t ht hW => ⟨⟨ad, hq, rfl, by rw [ht]; exact hP, va_K.moved hW.alike C.2.2.2.2.2.2.2.1, hD⟩, hS.F ht⟩) hS.2.2 hd C.2.2.2.2.2.2.1
theorem G.zreturn {M : g_M} {k n pc : Nat} {lv : List (Nat × Value)} {ws : List va_E} {x : Int32} {ty : FieldType} (hd : decode M.1 pc = .ok (.ireturn, 1)) (hr : M.2.2.2.1 = some ty) (hx : narrow ty (.int x) = .int x) (hk : Nat.ble k M.2.2.2.2.2.1 = true) (hn : Nat.ble n M.2.2.2.2.2.2 = true) : G M k n pc lv [.int x] ws (some (.int x)) ws := by
  intro p l e s m args below meth c D cid A n0 ad0 C ad ls H locs hq hl hP hD hS
  refine W.widen (k := M.2.2.2.2.2.1) (n := M.2.2.2.2.2.2) (Nat.le_of_ble_eq_true hk) (Nat.le_of_ble_eq_true hn) ?_
  exact W.zret (v := x) C.1 C.2.1 (C.2.2.1.trans hr) hx (fun t ht hW => ⟨⟨ad, hq, rfl, by rw [ht]; exact hP, va_K.moved hW.alike C.2.2.2.2.2.2.2.1, hD⟩, hS.F ht⟩) hS.2.2 hd C.2.2.2.2.2.2.1
theorem G.lreturn {M : g_M} {k n pc : Nat} {lv : List (Nat × Value)} {ws : List va_E} {x : Int64} (hd : decode M.1 pc = .ok (.lreturn, 1)) (hr : M.2.2.2.1 = some .long) (hk : Nat.ble k M.2.2.2.2.2.1 = true) (hn : Nat.ble n M.2.2.2.2.2.2 = true) : G M k n pc lv [.long x] ws (some (.long x)) ws := by
  intro p l e s m args below meth c D cid A n0 ad0 C ad ls H locs hq hl hP hD hS
  refine W.widen (k := M.2.2.2.2.2.1) (n := M.2.2.2.2.2.2) (Nat.le_of_ble_eq_true hk) (Nat.le_of_ble_eq_true hn) ?_
  exact W.lret (v := x) C.1 C.2.1 (C.2.2.1.trans hr) (fun t ht hW => ⟨⟨ad, hq, rfl, by rw [ht]; exact hP, va_K.moved hW.alike C.2.2.2.2.2.2.2.1, hD⟩, hS.F ht⟩) hS.2.2 hd C.2.2.2.2.2.2.1
theorem G.vreturn {M : g_M} {k n pc : Nat} {lv : List (Nat × Value)} {ws : List va_E} (hd : decode M.1 pc = .ok (.return_, 1)) (hr : M.2.2.2.1 = none) (hk : Nat.ble k M.2.2.2.2.2.1 = true) (hn : Nat.ble n M.2.2.2.2.2.2 = true) : G M k n pc lv [] ws none ws := by
  intro p l e s m args below meth c D cid A n0 ad0 C ad ls H locs hq hl hP hD hS
  refine W.widen (k := M.2.2.2.2.2.1) (n := M.2.2.2.2.2.2) (Nat.le_of_ble_eq_true hk) (Nat.le_of_ble_eq_true hn) ?_
  exact W.vret C.1 C.2.1 (C.2.2.1.trans hr) (fun t ht hW => ⟨⟨ad, hq, rfl, by rw [ht]; exact hP, va_K.moved hW.alike C.2.2.2.2.2.2.2.1, hD⟩, hS.F ht⟩) hS.2.2 hd C.2.2.2.2.2.2.1
theorem G.areturn {M : g_M} {k n pc : Nat} {lv : List (Nat × Value)} {ws : List va_E} {i : Nat} {rt : FieldType} (hd : decode M.1 pc = .ok (.areturn, 1)) (hr : M.2.2.2.1 = some rt) (hrt : (∃ n, rt = .object n) ∨ ∃ t, rt = .array t) (hk : Nat.ble k M.2.2.2.2.2.1 = true) (hn : Nat.ble n M.2.2.2.2.2.2 = true) : G M k n pc lv [.ref i] ws (some (.ref i)) ws := by
  intro p l e s m args below meth c D cid A n0 ad0 C ad ls H locs hq hl hP hD hS
  refine W.widen (k := M.2.2.2.2.2.1) (n := M.2.2.2.2.2.2) (Nat.le_of_ble_eq_true hk) (Nat.le_of_ble_eq_true hn) ?_
  exact W.aret (v := .ref (ad i)) C.1 C.2.1 (C.2.2.1.trans hr) hrt (Or.inr ⟨_, rfl⟩) (fun t ht hW => ⟨⟨ad, hq, rfl, by rw [ht]; exact hP, va_K.moved hW.alike C.2.2.2.2.2.2.2.1, hD⟩, hS.F ht⟩) hS.2.2 hd C.2.2.2.2.2.2.1
theorem G.lvp {M : g_M} {k n pc : Nat} {lv : List (Nat × Value)} {st : List Value} {ws : List va_E} {Q : g_QT} {lv1 : List (Nat × Value)} (ks : List Nat) (h : lv_pick lv ks = lv1) (kk : GX Q M k n pc lv1 st ws) : GX Q M k n pc lv st ws := by
  intro p l e s m args below meth c D cid A n0 ad0 C ad ls H locs hq hl hP hD hS
  have hl : lv_has ls M.2.1 (lv1.map (g_tl ad)) := lv_sub hl ks (by rw [← h]; simp [lv_pick, List.map_filterMap])
  exact (kk p l e s m args below meth c D cid A n0 ad0 C ad ls H locs hq hl hP hD hS)
theorem g_tabmiss {x : Int32} {lo hi : Int} (hlo : -2147483648 ≤ lo) (hhi : hi ≤ 2147483647) (h : ∀ v : Int, lo ≤ v → v ≤ hi → x ≠ Int32.ofInt v) : x.toInt < lo ∨ hi < x.toInt := by
  rcases Int.lt_or_le x.toInt lo with h1 | h1
  · exact Or.inl h1
  · rcases Int.lt_or_le hi x.toInt with h2 | h2
    · exact Or.inr h2
    · exact absurd (Int32.ofInt_toInt x).symm (h x.toInt h1 h2)
theorem g_toInt_ne {x v : Int32} {z : Int} (h : ¬ x = v) (hz : v.toInt = z) : ¬ x.toInt = z := fun e => h (Int32.toInt_inj.mp (e.trans hz.symm))
theorem g_lkmiss {dflt x : Int} : ∀ {ps : List (Int × Int)}, ps.all (fun q => decide (¬ x = q.1)) = true → Op.lookupswitch.offset ps dflt x = dflt
  | [], _ => rfl
  | q :: ps, h => by
    simp only [List.all_cons, Bool.and_eq_true, decide_eq_true_eq] at h
    have ih := g_lkmiss (dflt := dflt) (x := x) (ps := ps) (by simpa using h.2)
    simp only [Op.lookupswitch.offset] at ih ⊢
    simp [h.1, Ne.symm h.1, ih]
