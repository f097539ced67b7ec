theorem G.mmax {M : g_M} {k n pc : Nat} {lv : List (Nat × Value)} {st : List Value} {ws : List va_E} {Q : g_QT} {idx : Nat} {x y : Int32} (hd : decode M.1 pc = .ok (.invokestatic idx, 3)) (h1 : Cond.methodLink M.2.2.1 idx Lib.Math.max.name ∈ TT) (h2 : Cond.static Lib.Math.max.name ∈ TT) (h3 : Cond.initialized "java/lang/Math" ∈ TT) (h4 : Cond.code Lib.Math.max.name Lib.Math.max.code 2 (some .int) ∈ TT) (hR : (Nat.ble 1 M.2.2.2.2.1.frames && Nat.ble ((st.map fun v => v.category).sum + 13) M.2.2.2.2.1.locals && Nat.ble k M.2.2.2.2.1.cells && Nat.ble n M.2.2.2.2.1.slots) = true) (kk : GX Q M k n (pc + 3) lv (.int (if x < y then y else x) :: st) ws) : GX Q M k n pc lv (.int y :: .int x :: st) ws := by
  intro p l e s m args below meth c D cid A n0 ad0 C ad ls H locs hq hl hP hD hS
  simp only [Bool.and_eq_true] at hR
  obtain ⟨⟨⟨hR1, hR2⟩, hR3⟩, hR4⟩ := hR
  exact va_mmax C.1 C.2.1 (C.2.2.2.1.trans hl.1.symm) C.2.2.2.2.1 (C.2.2.2.2.2.1 _ h1) (C.2.2.2.2.2.1 _ h2) (C.2.2.2.2.2.1 _ h3) (C.2.2.2.2.2.1 _ h4) (Nat.le_of_ble_eq_true hR1) (by rw [List.map_map]; simp only [Function.comp_def, g_catv]; exact Nat.le_of_ble_eq_true hR2) (Nat.le_of_ble_eq_true hR3) (Nat.le_of_ble_eq_true hR4) hd (kk p l e s m args below meth c D cid A n0 ad0 C ad ls H locs hq hl hP hD hS)
theorem G.mmin {M : g_M} {k n pc : Nat} {lv : List (Nat × Value)} {st : List Value} {ws : List va_E} {Q : g_QT} {idx : Nat} {x y : Int32} (hd : decode M.1 pc = .ok (.invokestatic idx, 3)) (h1 : Cond.methodLink M.2.2.1 idx Lib.Math.min.name ∈ TT) (h2 : Cond.static Lib.Math.min.name ∈ TT) (h3 : Cond.initialized "java/lang/Math" ∈ TT) (h4 : Cond.code Lib.Math.min.name Lib.Math.min.code 2 (some .int) ∈ TT) (hR : (Nat.ble 1 M.2.2.2.2.1.frames && Nat.ble ((st.map fun v => v.category).sum + 13) M.2.2.2.2.1.locals && Nat.ble k M.2.2.2.2.1.cells && Nat.ble n M.2.2.2.2.1.slots) = true) (kk : GX Q M k n (pc + 3) lv (.int (if y < x then y else x) :: st) ws) : GX Q M k n pc lv (.int y :: .int x :: st) ws := by
  intro p l e s m args below meth c D cid A n0 ad0 C ad ls H locs hq hl hP hD hS
  simp only [Bool.and_eq_true] at hR
  obtain ⟨⟨⟨hR1, hR2⟩, hR3⟩, hR4⟩ := hR
  exact va_mmin C.1 C.2.1 (C.2.2.2.1.trans hl.1.symm) C.2.2.2.2.1 (C.2.2.2.2.2.1 _ h1) (C.2.2.2.2.2.1 _ h2) (C.2.2.2.2.2.1 _ h3) (C.2.2.2.2.2.1 _ h4) (Nat.le_of_ble_eq_true hR1) (by rw [List.map_map]; simp only [Function.comp_def, g_catv]; exact Nat.le_of_ble_eq_true hR2) (Nat.le_of_ble_eq_true hR3) (Nat.le_of_ble_eq_true hR4) hd (kk p l e s m args below meth c D cid A n0 ad0 C ad ls H locs hq hl hP hD hS)
theorem G.lmax {M : g_M} {k n pc : Nat} {lv : List (Nat × Value)} {st : List Value} {ws : List va_E} {Q : g_QT} {idx : Nat} {x y : Int64} (hd : decode M.1 pc = .ok (.invokestatic idx, 3)) (h1 : Cond.methodLink M.2.2.1 idx Lib.MathLoose.max_long.x ∈ TT) (h2 : Cond.static Lib.MathLoose.max_long.x ∈ TT) (h3 : Cond.initialized "java/lang/Math" ∈ TT) (h4 : Cond.code Lib.MathLoose.max_long.x Lib.MathLoose.max_long.code 4 (some .long) ∈ TT) (hR : (Nat.ble 1 M.2.2.2.2.1.frames && Nat.ble ((st.map fun v => v.category).sum + 15) M.2.2.2.2.1.locals && Nat.ble k M.2.2.2.2.1.cells && Nat.ble n M.2.2.2.2.1.slots) = true) (kk : GX Q M k n (pc + 3) lv (.long (if y < x then x else y) :: st) ws) : GX Q M k n pc lv (.long y :: .long x :: st) ws := by
  intro p l e s m args below meth c D cid A n0 ad0 C ad ls H locs hq hl hP hD hS
  simp only [Bool.and_eq_true] at hR
  obtain ⟨⟨⟨hR1, hR2⟩, hR3⟩, hR4⟩ := hR
  exact va_mmax_long C.1 C.2.1 (C.2.2.2.1.trans hl.1.symm) C.2.2.2.2.1 (C.2.2.2.2.2.1 _ h1) (C.2.2.2.2.2.1 _ h2) (C.2.2.2.2.2.1 _ h3) (C.2.2.2.2.2.1 _ h4) (Nat.le_of_ble_eq_true hR1) (by rw [List.map_map]; simp only [Function.comp_def, g_catv]; exact Nat.le_of_ble_eq_true hR2) (Nat.le_of_ble_eq_true hR3) (Nat.le_of_ble_eq_true hR4) hd (kk p l e s m args below meth c D cid A n0 ad0 C ad ls H locs hq hl hP hD hS)
theorem G.lmin {M : g_M} {k n pc : Nat} {lv : List (Nat × Value)} {st : List Value} {ws : List va_E} {Q : g_QT} {idx : Nat} {x y : Int64} (hd : decode M.1 pc = .ok (.invokestatic idx, 3)) (h1 : Cond.methodLink M.2.2.1 idx Lib.MathLoose.min_long.x ∈ TT) (h2 : Cond.static Lib.MathLoose.min_long.x ∈ TT) (h3 : Cond.initialized "java/lang/Math" ∈ TT) (h4 : Cond.code Lib.MathLoose.min_long.x Lib.MathLoose.min_long.code 4 (some .long) ∈ TT) (hR : (Nat.ble 1 M.2.2.2.2.1.frames && Nat.ble ((st.map fun v => v.category).sum + 15) M.2.2.2.2.1.locals && Nat.ble k M.2.2.2.2.1.cells && Nat.ble n M.2.2.2.2.1.slots) = true) (kk : GX Q M k n (pc + 3) lv (.long (if y < x then y else x) :: st) ws) : GX Q M k n pc lv (.long y :: .long x :: st) ws := by
  intro p l e s m args below meth c D cid A n0 ad0 C ad ls H locs hq hl hP hD hS
  simp only [Bool.and_eq_true] at hR
  obtain ⟨⟨⟨hR1, hR2⟩, hR3⟩, hR4⟩ := hR
  exact va_mmin_long C.1 C.2.1 (C.2.2.2.1.trans hl.1.symm) C.2.2.2.2.1 (C.2.2.2.2.2.1 _ h1) (C.2.2.2.2.2.1 _ h2) (C.2.2.2.2.2.1 _ h3) (C.2.2.2.2.2.1 _ h4) (Nat.le_of_ble_eq_true hR1) (by rw [List.map_map]; simp only [Function.comp_def, g_catv]; exact Nat.le_of_ble_eq_true hR2) (Nat.le_of_ble_eq_true hR3) (Nat.le_of_ble_eq_true hR4) hd (kk p l e s m args below meth c D cid A n0 ad0 C ad ls H locs hq hl hP hD hS)
theorem g_B.now {M : g_M} {p : Program} {s : State} {m : MethodId} {args : Array Value} {meth : Method} {c : Code} {D : va_G} {cid : Nat → ClassId} {A : Nat → Prop} {ad0 ad : Nat → Nat} {n0 : Nat} (C : g_Cx M p s m args meth c D cid A ad0) (hq : g_eq n0 ad ad0) : g_B ad A s s.heap := C.2.2.2.2.2.2.2.2.2.1.at (fun i hi => hq i (Or.inr hi))
theorem G.getstatic {M : g_M} {k n pc : Nat} {lv : List (Nat × Value)} {st : List Value} {ws : List va_E} {Q : g_QT} {idx : Nat} {cn fn fd : String} {v : Value} (hd : decode M.1 pc = .ok (.getstatic idx, 3)) (hz : g_Z (cn, fn, fd, v)) (hw : Cond.fieldLink M.2.2.1 idx cn fn fd ∈ TT) (kk : GX Q M k n (pc + 3) lv (v :: st) ws) : GX Q M k n pc lv st ws := by
  intro p l e s m args below meth c D cid A n0 ad0 C ad ls H locs hq hl hP hD hS
  exact va_gets C.1 C.2.1 ((g_B.now C hq).1 _ hz) hS C.2.2.2.2.1 (C.2.2.2.2.2.1 _ hw) (fun _ h => h) hd (kk p l e s m args below meth c D cid A n0 ad0 C ad ls H locs hq hl hP hD hS)
theorem G.getfieldC {M : g_M} {k n pc : Nat} {lv : List (Nat × Value)} {st : List Value} {ws : List va_E} {Q : g_QT} {idx a : Nat} {cn fn fd : String} {v : Value} (hd : decode M.1 pc = .ok (.getfield idx, 3)) (hz : g_OF (cn, fn, fd, v, a)) (hw : Cond.fieldLink M.2.2.1 idx cn fn fd ∈ TT) (kk : GX Q M k n (pc + 3) lv (v :: st) ws) : GX Q M k n pc lv (.ref a :: st) ws := by
  intro p l e s m args below meth c D cid A n0 ad0 C ad ls H locs hq hl hP hD hS
  exact vk_getf C.1 C.2.1 ((g_B.now C hq).2.2.1 _ hz) hS C.2.2.2.2.1 (C.2.2.2.2.2.1 _ hw) (fun _ h => h) hd (kk p l e s m args below meth c D cid A n0 ad0 C ad ls H locs hq hl hP hD hS)
theorem G.aaloadC {M : g_M} {k n pc : Nat} {lv : List (Nat × Value)} {st : List Value} {ws : List va_E} {Q : g_QT} {cn : String} {a N : Nat} {f : Nat → Value} {i : Int32} {v : Value} (hd : decode M.1 pc = .ok (.aaload, 1)) (hz : g_T (.object cn, a, N, f)) (hin : vp_in i N) (hv : f i.toNatClampNeg = v) (kk : GX Q M k n (pc + 1) lv (v :: st) ws) : GX Q M k n pc lv (.int i :: .ref a :: st) ws := by
  intro p l e s m args below meth c D cid A n0 ad0 C ad ls H locs hq hl hP hD hS
  exact vb_tq C.1 C.2.1 ((g_B.now C hq).2.2.2.1 _ hz) hS hin (congrArg (g_tv ad) hv) hd (kk p l e s m args below meth c D cid A n0 ad0 C ad ls H locs hq hl hP hD hS)
theorem G.baloadC {M : g_M} {k n pc : Nat} {lv : List (Nat × Value)} {st : List Value} {ws : List va_E} {Q : g_QT} {a N : Nat} {f : Nat → Value} {i : Int32} {v : Value} (hd : decode M.1 pc = .ok (.baload, 1)) (hz : g_T (.byte, a, N, f)) (hin : vp_in i N) (hv : f i.toNatClampNeg = v) (kk : GX Q M k n (pc + 1) lv (v :: st) ws) : GX Q M k n pc lv (.int i :: .ref a :: st) ws := by
  intro p l e s m args below meth c D cid A n0 ad0 C ad ls H locs hq hl hP hD hS
  exact va_tb C.1 C.2.1 ((g_B.now C hq).2.2.2.1 _ hz) hS hin (congrArg (g_tv ad) hv) hd (kk p l e s m args below meth c D cid A n0 ad0 C ad ls H locs hq hl hP hD hS)
theorem G.alenC {M : g_M} {k n pc : Nat} {lv : List (Nat × Value)} {st : List Value} {ws : List va_E} {Q : g_QT} {ty : FieldType} {a N : Nat} {f : Nat → Value} {v : Int32} (hd : decode M.1 pc = .ok (.arraylength, 1)) (hz : g_T (ty, a, N, f)) (hv : Int32.ofNat N = v) (kk : GX Q M k n (pc + 1) lv (.int v :: st) ws) : GX Q M k n pc lv (.ref a :: st) ws := by
  intro p l e s m args below meth c D cid A n0 ad0 C ad ls H locs hq hl hP hD hS
  exact va_tlen C.1 C.2.1 ((g_B.now C hq).2.2.2.1 _ hz) hS hv hd (kk p l e s m args below meth c D cid A n0 ad0 C ad ls H locs hq hl hP hD hS)
theorem G.acmp_ne {M : g_M} {k n pc : Nat} {lv : List (Nat × Value)} {st : List Value} {ws : List va_E} {Q : g_QT} {i j : Nat} {off : Int} {tgt : Nat} (hd : decode M.1 pc = .ok (.if_acmp .ne off, 3)) (hi : 1000 ≤ i ∧ i < 1003) (hj : 1000 ≤ j ∧ j < 1003) (ht : (pc : Int) + off = (tgt : Int)) (kt : ¬ i = j → GX Q M k n tgt lv st ws) (kf : i = j → GX Q M k n (pc + 3) lv st ws) : GX Q M k n pc lv (.ref j :: .ref i :: st) ws := by
  intro p l e s m args below meth c D cid A n0 ad0 C ad ls H locs hq hl hP hD hS
  have hB := (g_B.now C hq).2.2.2.2.1 (i - 1000) (j - 1000) (by omega) (by omega)
  rw [show 1000 + (i - 1000) = i by omega, show 1000 + (j - 1000) = j by omega] at hB
  exact lv_acmp_ne (rx := some (ad i)) (ry := some (ad j)) C.1 C.2.1 hd ht (fun h => (kt (fun e9 => h (by rw [e9])) p l e s m args below meth c D cid A n0 ad0 C ad ls H locs hq hl hP hD hS)) (fun h => (kf (by have := hB (Option.some.inj h); omega) p l e s m args below meth c D cid A n0 ad0 C ad ls H locs hq hl hP hD hS))
theorem G.acmp_eq {M : g_M} {k n pc : Nat} {lv : List (Nat × Value)} {st : List Value} {ws : List va_E} {Q : g_QT} {i j : Nat} {off : Int} {tgt : Nat} (hd : decode M.1 pc = .ok (.if_acmp .eq off, 3)) (hi : 1000 ≤ i ∧ i < 1003) (hj : 1000 ≤ j ∧ j < 1003) (ht : (pc : Int) + off = (tgt : Int)) (kt : i = j → GX Q M k n tgt lv st ws) (kf : ¬ i = j → GX Q M k n (pc + 3) lv st ws) : GX Q M k n pc lv (.ref j :: .ref i :: st) ws := by
  intro p l e s m args below meth c D cid A n0 ad0 C ad ls H locs hq hl hP hD hS
  have hB := (g_B.now C hq).2.2.2.2.1 (i - 1000) (j - 1000) (by omega) (by omega)
  rw [show 1000 + (i - 1000) = i by omega, show 1000 + (j - 1000) = j by omega] at hB
  exact lv_acmp_eq (rx := some (ad i)) (ry := some (ad j)) C.1 C.2.1 hd ht (fun h => (kt (by have := hB (Option.some.inj h); omega) p l e s m args below meth c D cid A n0 ad0 C ad ls H locs hq hl hP hD hS)) (fun h => (kf (fun e9 => h (by rw [e9])) p l e s m args below meth c D cid A n0 ad0 C ad ls H locs hq hl hP hD hS))
theorem G.copyi {M : g_M} {k n pc : Nat} {lv : List (Nat × Value)} {st : List Value} {ws : List va_E} {Q : g_QT} {idx a0 a1 n0' n1' : Nat} {f g : Nat → Int32} {sp dp m9 : Int32} {ws1 : List va_E} (hd : decode M.1 pc = .ok (.invokestatic idx, 3)) (h1 : Cond.methodLink M.2.2.1 idx arraycopyName ∈ TT) (h2 : Cond.native arraycopyName ∈ TT) (h3 : Cond.static arraycopyName ∈ TT) (h4 : Cond.initialized "java/lang/System" ∈ TT) (he0 : ws[a0]? = some (.inl (1, n0', .inl f))) (he1 : ws[a1]? = some (.inl (1, n1', .inl g)))
    (hs : ¬ sp < 0) (hdp : ¬ dp < 0) (hm : ¬ m9 < 0) (hb1 : sp.toNatClampNeg + m9.toNatClampNeg ≤ n0') (hb2 : dp.toNatClampNeg + m9.toNatClampNeg ≤ n1') (hR : (Nat.ble 1 M.2.2.2.2.1.frames && Nat.ble ((st.map fun v => v.category).sum + (nativeFrameWords "java/lang/System" "arraycopy" 5 + 11)) M.2.2.2.2.1.locals) = true) (hw : ws.set a1 (.inl (1, n1', .inl (va_cpy f g sp.toNatClampNeg dp.toNatClampNeg m9.toNatClampNeg))) = ws1)
    (kk : GX Q M k n (pc + 3) lv st ws1) : GX Q M k n pc lv (.int m9 :: .int dp :: .ref a1 :: .int sp :: .ref a0 :: st) ws := by
  intro p l e s m args below meth c D cid A n0 ad0 C ad ls H locs hq hl hP hD hS
  simp only [Bool.and_eq_true] at hR
  refine va_copyi C.1 C.2.1 (C.2.2.2.1.trans hl.1.symm) C.2.2.2.2.1 (C.2.2.2.2.2.1 _ h1) (C.2.2.2.2.2.1 _ h2) (C.2.2.2.2.2.1 _ h3) (C.2.2.2.2.2.1 _ h4) C.2.2.2.2.2.2.2.1 hP hD hS a0 a1 1 1 (g_get ad cid he0) (g_get ad cid he1) rfl rfl rfl hs hdp hm hb1 hb2 (fun _ _ => rfl) (Nat.le_of_ble_eq_true hR.1) (by rw [List.map_map]; simp only [Function.comp_def, g_catv]; exact Nat.le_of_ble_eq_true hR.2) hd (fun H locs hP hD hS => ?_)
  have hz := g_set ad cid ws a1 (.inl (1, n1', .inl (va_cpy f g sp.toNatClampNeg dp.toNatClampNeg m9.toNatClampNeg)))
  rw [hw] at hz
  have hP : va_P D vwCl (g_mk ad cid ws1) H := hz ▸ hP
  have hD : va_D A (g_mk ad cid ws1) := hz ▸ hD
  exact (kk p l e s m args below meth c D cid A n0 ad0 C ad ls H locs hq hl hP hD hS)
theorem G.getstaticQ {M : g_M} {k n pc : Nat} {lv : List (Nat × Value)} {st : List Value} {ws : List va_E} {Q : g_QT} {idx : Nat} (hd : decode M.1 pc = .ok (.getstatic idx, 3)) (hw : Cond.fieldLink M.2.2.1 idx "jdk/internal/util/Preconditions" "SIOOBE_FORMATTER" "Ljava/util/function/BiFunction;" ∈ TT) (kn : GX Q M k n (pc + 3) lv (.null :: st) ws) (kr : GX Q M k n (pc + 3) lv (.ref 1004 :: st) ws) : GX Q M k n pc lv st ws := by
  intro p l e s m args below meth c D cid A n0 ad0 C ad ls H locs hq hl hP hD hS
  rcases (g_B.now C hq).2.2.2.2.2 with hz | hz
  · exact va_gets C.1 C.2.1 hz hS C.2.2.2.2.1 (C.2.2.2.2.2.1 _ hw) (fun _ h => h) hd (kn p l e s m args below meth c D cid A n0 ad0 C ad ls H locs hq hl hP hD hS)
  · exact va_gets C.1 C.2.1 hz hS C.2.2.2.2.1 (C.2.2.2.2.2.1 _ hw) (fun _ h => h) hd (kr p l e s m args below meth c D cid A n0 ad0 C ad ls H locs hq hl hP hD hS)
theorem G.getstaticN {M : g_M} {k n pc : Nat} {lv : List (Nat × Value)} {st : List Value} {ws : List va_E} {Q : g_QT} (hm : M.2.2.1 = RX0) (hd : decode M.1 pc = .ok (.getstatic 119, 3)) (kk : GX Q M k n (pc + 3) lv (.ref 1003 :: st) ws) : GX Q M k n pc lv st ws := by
  intro p l e s m args below meth c D cid A n0 ad0 C ad ls H locs hq hl hP hD hS
  have hn : va_Nw (.fieldLinkNest RX0 119 "TimedThreads" "MNEMONICS" "[LTimedThreads$Mnemonic;" "TimedThreads") s := C.2.2.2.2.2.2.2.2.2.2.1 _ (by simp [g_nn])
  exact va_getsN C.1 C.2.1 ((g_B.now C hq).1 _ (Or.inr (Or.inl rfl))) hS C.2.2.2.2.1 (hm ▸ va_Nw.use rfl hn) (fun _ h => h) hd (kk p l e s m args below meth c D cid A n0 ad0 C ad ls H locs hq hl hP hD hS)
theorem g_rv0 (v : Value) : g_rv [] v = v := by cases v <;> rfl
theorem G.callVC {M : g_M} {k n pc : Nat} {lv : List (Nat × Value)} {st : List Value} {ws : List va_E} {Q : g_QT} {M1 : g_M} {y : MethodName} {as rest : List Value} {r1 : Option Value} {st1 : List Value} {idx c0 : Nat} (hd : decode M.1 pc = .ok (.invokevirtual idx, 3)) (hc : g_cv M idx M1 y as.length) (hM : K M1 y (.ref c0 :: as) [] r1 []) (hO : g_O (y.cls, c0)) (hst : as.reverse ++ .ref c0 :: rest = st) (hk9 : Nat.ble k M.2.2.2.2.1.cells = true) (hn9 : Nat.ble n M.2.2.2.2.1.slots = true) (hcat : Nat.ble (rest.map fun v => v.category).sum 8 = true) (hs1 : r1.toList ++ rest = st1) (kk : GX Q M k n (pc + 3) lv st1 ws) : GX Q M k n pc lv st ws := by
  intro p l e s m args below meth c D cid A n0 ad0 C ad ls H locs hq hl hP hD hS
  have hK := hM l D cid (fun j => ad (g_rn [] j)) H.size
  have hw : ([] : List Nat).map (fun i => ws[i]?) = (([] : List va_E).map (g_re [])).map some := rfl
  obtain ⟨c1, c2, c2b, c3, c4, ⟨c5, c6, c7, c8⟩, c9, c10⟩ := hc
  rw [show g_n0 M1 [] = 1000 by simp [g_n0, c7], c7, c8] at hK
  have hcw := cwV (R := M.2.2.2.2.1) (s := s) (args := args) (own := M.2.2.1) (C := y.cls) (index := idx) (y := y) (bytes := M1.1) (maxL := M1.2.1) (ret := M1.2.2.2.1) (Ts := TT) (ws := Cond.code y M1.1 M1.2.1 M1.2.2.2.1 :: TT) (ws' := TT) (rm := M1.2.2.2.2.1) as.length C.2.2.2.2.2.1 (tg_in (fun w h => by
    simp only [wsV, List.mem_append, List.mem_cons, List.not_mem_nil, or_false] at h
    rcases h with (rfl | rfl | rfl | rfl) | rfl | h <;> first | assumption)) rfl c5 c6 ⟨rfl, c9⟩ c10
  subst hst
  have hpre := g_pre (as := .ref c0 :: as) C hq hP hD hS hw rfl (by decide) rfl
  have hrecv : ∃ cellB : Cell, H[ad c0]? = some cellB ∧ cellB.vm.isStatics = false ∧ s.vm.findClass y.cls = some cellB.cls := by
    obtain ⟨cell, h1, h2, h3, h4⟩ := ((g_B.now C hq).2.1 _ hO).kept hS.2.1
    exact ⟨cell, h1, h2, h3⟩
  refine g_after (ad := ad) (is := []) (ws := ws) (va_runV (b := ad c0) (C := y.cls) (As := as.map (g_tv (fun j => ad (g_rn [] j)))) (rest := rest.map (g_tv ad)) (nL := M.2.1) (Ts := TT) ⟨C.1, C.2.1, C.2.2.2.1, C.2.2.2.2.1, C.2.2.2.2.2.1⟩ hK hcw ⟨g_blind _ _ _ _ _ _, hrecv, hpre⟩ rfl (by simp) hl.1 (by simp [g_rn, g_tv]) (lv_room (by rw [List.map_map]; simp only [Function.comp_def, g_catv]; exact Nat.le_of_ble_eq_true hcat)) hd ⟨?_, ?_⟩) hw rfl C.2.2.2.2.2.2.2.2.1 hP hD hS ?_
  · exact Nat.le_of_ble_eq_true hk9
  · exact Nat.le_of_ble_eq_true hn9
  · intro H locs hP hD hS
    have h9 := kk p l e s m args below meth c D cid A n0 ad0 C ad ls H locs hq hl hP hD hS
    rw [← hs1, show (r1.toList ++ rest).map (g_tv ad) = (r1.map (g_tv (fun j => ad (g_rn [] j)))).toList ++ rest.map (g_tv ad) by cases r1 <;> simp [g_rn]] at h9
    exact h9
