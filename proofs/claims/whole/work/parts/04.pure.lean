/-! A judgement over worlds whose references are places: no address, no heap, no context is seen in it.
A value or a cell is written with places (0, 1, ..) of the world's list; places from 1000 on are the constants of the program:
1000 + i the outcomes, 1003 the array of the names of instructions, 1100 + i these names, 1200 + i their texts, 1300 + i the texts' bytes. -/
def g_tv (ad : Nat → Nat) (v : Value) : Value := match v with
  | .ref i => .ref (ad i)
  | x => x
def g_ta (ad : Nat → Nat) (x : vp_A) : vp_A := (x.1, match x.2 with
  | .inr (.inr (.inr (.inr f))) => .inr (.inr (.inr (.inr (fun j => (f j).map ad))))
  | y => y)
def g_te (ad : Nat → Nat) (cid : Nat → ClassId) (e : va_E) : va_E := match e with
  | .inl q => .inl (cid q.1, g_ta ad q.2)
  | .inr o => .inr (o.1, o.2.map (g_tv ad))
def g_mk (ad : Nat → Nat) (cid : Nat → ClassId) (ws : List va_E) : va_W := ws.mapIdx (fun i e => (ad i, g_te ad cid e))
def g_tl (ad : Nat → Nat) (q : Nat × Value) : Nat × Value := (q.1, g_tv ad q.2)
def g_tys (cid : Nat → ClassId) : List (ClassId × FieldType) := [(cid 0, .char), (cid 1, .int), (cid 2, .long), (cid 3, .object "TimedThreads$TimedThread")]
def g_eq (n0 : Nat) (ad ad0 : Nat → Nat) : Prop := ∀ i, i < n0 ∨ 1000 ≤ i → ad i = ad0 i
theorem g_eq_all {ad ad0 : Nat → Nat} (h : g_eq 1000 ad ad0) : ad = ad0 := funext fun i => h i (by omega)
theorem g_get (ad : Nat → Nat) (cid : Nat → ClassId) {ws : List va_E} {i : Nat} {e : va_E} (h : ws[i]? = some e) : (g_mk ad cid ws)[i]? = some (ad i, g_te ad cid e) := by
  simp [g_mk, h]
theorem g_get' (ad : Nat → Nat) (cid : Nat → ClassId) {ws : List va_E} {i : Nat} {q : Nat × va_E} (h : (g_mk ad cid ws)[i]? = some q) : ∃ e, ws[i]? = some e ∧ q = (ad i, g_te ad cid e) := by
  simp only [g_mk, List.getElem?_mapIdx, Option.map_eq_some_iff] at h
  obtain ⟨e, h1, h2⟩ := h
  exact ⟨e, h1, h2.symm⟩
theorem g_set (ad : Nat → Nat) (cid : Nat → ClassId) (ws : List va_E) (i : Nat) (e : va_E) : (g_mk ad cid ws).set i (ad i, g_te ad cid e) = g_mk ad cid (ws.set i e) := by
  apply List.ext_getElem?
  intro j
  simp only [g_mk, List.getElem?_set, List.getElem?_mapIdx, List.length_mapIdx]
  by_cases h : i = j
  · subst h
    by_cases h2 : i < ws.length <;> simp [h2]
  · simp [h]
theorem g_len (ad : Nat → Nat) (cid : Nat → ClassId) (ws : List va_E) : (g_mk ad cid ws).length = ws.length := by simp [g_mk]
theorem g_catv (ad : Nat → Nat) (v : Value) : (g_tv ad v).category = v.category := by cases v <;> rfl
theorem g_args (ad : Nat → Nat) : ∀ (as : List Value) (i : Nat), lv_args i (as.map (g_tv ad)) = (lv_args i as).map (g_tl ad)
  | [], _ => rfl
  | v :: vs, i => by
    simp only [List.map_cons, lv_args, g_catv, g_args ad vs]
    rfl
theorem g_sl (ad : Nat → Nat) : ∀ vs : List Value, (lg_sl (vs.map (g_tv ad))).length = (lg_sl vs).length
  | [] => rfl
  | v :: vs => by
    have ih := g_sl ad vs
    cases v <;> simp_all [lg_sl, g_tv, Value.category]
/-- the constants -/
def m_key : List Int64 := [12969, 10284, 329106, 2225, 2501, 2452, 2277, 78485, 72885, 407, 386, 12373, 631, 610, 37001, 635529, 20336949, 802377, 15945, 47241, 635273, 641417, 641065, 1156, 19852, 19860, 635541, 25074, 20044, 498, 1476, 20130, 20033, 136228, 3968389, 263572, 769604]
def m_bits : List Int32 := [55, 111, 103, 99, 4195, 16483, 20579, 24675, 28771, 8195, 3, 16387, 8227, 35, 19, 8211, 12307, 16403, 24595, 28691, 4115, 20499, 1073762323, 51, 4147, 8243, 12339, 16435, 20531, 24627, 28723, 1073741875, 1073762355, 11, 4107, 115, 0]
def m_str : List Nat := [0, 1, 2, 3, 3, 3, 3, 3, 3, 2, 2, 2, 4, 4, 5, 5, 5, 5, 5, 5, 6, 6, 6, 7, 7, 7, 7, 7, 7, 7, 7, 7, 7, 8, 9, 10, 11]
def m_len : List Nat := [3, 3, 6, 5, 6, 5, 5, 5, 5, 1, 0, 1]
def m_byt : List (List Int32) := [[100, 44, 117], [100, 44, 106], [100, 44, 105, 40, 115, 41], [115, 44, 116, 44, 98], [116, 44, 109, 40, 115, 41], [100, 44, 115, 44, 105], [100, 44, 115, 44, 104], [100, 44, 115, 44, 116], [107, 44, 115, 44, 105], [100], [], [119]]
def g_Z (q : String × String × String × Value) : Prop :=
  (∃ i, i < 3 ∧ q = ("TimedThreads$Outcome", ["DONE", "TRY_AGAIN", "FAULT"].getD i "", "LTimedThreads$Outcome;", .ref (1000 + i))) ∨ q = ("TimedThreads", "MNEMONICS", "[LTimedThreads$Mnemonic;", .ref 1003) ∨ q = ("java/lang/String", "COMPACT_STRINGS", "Z", .int 1)
def g_O (q : String × Nat) : Prop := ∃ i, i < 12 ∧ q = ("java/lang/String", 1200 + i)
def g_OF (q : String × String × String × Value × Nat) : Prop :=
  (∃ i, i < 37 ∧ (q = ("TimedThreads$Mnemonic", "key", "J", .long (m_key.getD i 0), 1100 + i) ∨ q = ("TimedThreads$Mnemonic", "bits", "I", .int (m_bits.getD i 0), 1100 + i) ∨ q = ("TimedThreads$Mnemonic", "pieces", "Ljava/lang/String;", .ref (1200 + m_str.getD i 0), 1100 + i))) ∨
  (∃ i, i < 12 ∧ (q = ("java/lang/String", "coder", "B", .int 0, 1200 + i) ∨ q = ("java/lang/String", "value", "[B", .ref (1300 + i), 1200 + i)))
def g_T (q : FieldType × Nat × Nat × (Nat → Value)) : Prop :=
  q = (.object "TimedThreads$Mnemonic", 1003, 37, fun j => .ref (1100 + j)) ∨ ∃ i, i < 12 ∧ q = (.byte, 1300 + i, m_len.getD i 0, fun j => .int ((m_byt.getD i []).getD j 0))
def g_B (ad : Nat → Nat) (A : Nat → Prop) (U : State) (H : Heap) : Prop :=
  (∀ q, g_Z q → va_Z q.1 q.2.1 q.2.2.1 (g_tv ad q.2.2.2) A U H) ∧ (∀ q, g_O q → va_O q.1 (ad q.2) A U H) ∧ (∀ q, g_OF q → va_OF q.1 q.2.1 q.2.2.1 (g_tv ad q.2.2.2.1) (ad q.2.2.2.2) A U H) ∧ (∀ q, g_T q → va_T q.1 (ad q.2.1) q.2.2.1 (fun j => g_tv ad (q.2.2.2 j)) A U H) ∧
  (∀ i j, i < 3 → j < 3 → ad (1000 + i) = ad (1000 + j) → i = j) ∧ (va_Z "jdk/internal/util/Preconditions" "SIOOBE_FORMATTER" "Ljava/util/function/BiFunction;" .null A U H ∨ va_Z "jdk/internal/util/Preconditions" "SIOOBE_FORMATTER" "Ljava/util/function/BiFunction;" (.ref (ad 1004)) A U H)
theorem g_B.moved {ad : Nat → Nat} {A : Nat → Prop} {u U : State} {H : Heap} (hvm : u.vm.Alike U.vm) (h : g_B ad A u H) : g_B ad A U H :=
  ⟨fun q hq => (h.1 q hq).moved hvm, fun q hq => (h.2.1 q hq).moved hvm, fun q hq => (h.2.2.1 q hq).moved hvm, fun q hq => (h.2.2.2.1 q hq).moved hvm, h.2.2.2.2.1, h.2.2.2.2.2.imp (fun z => z.moved hvm) (fun z => z.moved hvm)⟩
theorem g_B.kept {ad : Nat → Nat} {A : Nat → Prop} {U : State} {H H1 : Heap} (h : g_B ad A U H) (hq : ∀ a : Nat, a < H.size → ¬ A a → H1[a]? = H[a]?) : g_B ad A U H1 :=
  ⟨fun q h1 => (h.1 q h1).kept hq, fun q h1 => (h.2.1 q h1).kept hq, fun q h1 => (h.2.2.1 q h1).kept hq, fun q h1 => (h.2.2.2.1 q h1).kept hq, h.2.2.2.2.1, h.2.2.2.2.2.imp (fun z => z.kept hq) (fun z => z.kept hq)⟩
theorem g_B.narrow {ad : Nat → Nat} {A B : Nat → Prop} {U : State} {H : Heap} (h : g_B ad A U H) (hAB : ∀ q, B q → A q) : g_B ad B U H :=
  ⟨fun q h1 => (h.1 q h1).narrow hAB, fun q h1 => (h.2.1 q h1).narrow hAB, fun q h1 => (h.2.2.1 q h1).narrow hAB, fun q h1 => (h.2.2.2.1 q h1).narrow hAB, h.2.2.2.2.1, h.2.2.2.2.2.imp (fun z => z.narrow hAB) (fun z => z.narrow hAB)⟩
theorem g_B.at {ad ad1 : Nat → Nat} {A : Nat → Prop} {U : State} {H : Heap} (h : g_B ad A U H) (he : ∀ i, 1000 ≤ i → ad1 i = ad i) : g_B ad1 A U H := by
  obtain ⟨h1, h2, h3, h4, h5, h6⟩ := h
  refine ⟨?_, ?_, ?_, ?_, ?_, by rw [he 1004 (by omega)]; exact h6⟩
  · intro q hq
    have h9 := h1 q hq
    rcases hq with ⟨i, hi, rfl⟩ | rfl | rfl
    · simp only [g_tv, he (1000 + i) (by omega)]; exact h9
    · simp only [g_tv, he 1003 (by omega)]; exact h9
    · exact h9
  · intro q hq
    have h9 := h2 q hq
    obtain ⟨i, hi, rfl⟩ := hq
    rw [show ad1 (1200 + i) = ad (1200 + i) from he _ (by omega)]; exact h9
  · intro q hq
    have h9 := h3 q hq
    rcases hq with ⟨i, hi, rfl | rfl | rfl⟩ | ⟨i, hi, rfl | rfl⟩
    · simp only [g_tv, he (1100 + i) (by omega)]; exact h9
    · simp only [g_tv, he (1100 + i) (by omega)]; exact h9
    · simp only [g_tv, he (1100 + i) (by omega), he (1200 + m_str.getD i 0) (by omega)]; exact h9
    · simp only [g_tv, he (1200 + i) (by omega)]; exact h9
    · simp only [g_tv, he (1200 + i) (by omega), he (1300 + i) (by omega)]; exact h9
  · intro q hq
    have h9 := h4 q hq
    rcases hq with rfl | ⟨i, hi, rfl⟩
    · have e1 : (fun j => g_tv ad1 (Value.ref (1100 + j))) = fun j => g_tv ad (Value.ref (1100 + j)) := funext fun j => by simp only [g_tv, he (1100 + j) (by omega)]
      show va_T _ (ad1 1003) _ (fun j => g_tv ad1 (Value.ref (1100 + j))) _ _ _
      rw [e1, he 1003 (by omega)]; exact h9
    · show va_T _ (ad1 (1300 + i)) _ _ _ _ _
      rw [he (1300 + i) (by omega)]; exact h9
  · intro i j hi hj
    rw [he (1000 + i) (by omega), he (1000 + j) (by omega)]
    exact h5 i j hi hj
/-- the links to private members of the nest -/
def g_nn : List Cond := [.methodLinkNest RX8 20 yX2_init "TimedThreads", .methodLinkNest RX10 36 yX7_init "TimedThreads", .methodLinkNest RX0 24 yX3_init "TimedThreads", .methodLinkNest RX8 116 yX10_isRegister "TimedThreads", .fieldLinkNest RX0 119 "TimedThreads" "MNEMONICS" "[LTimedThreads$Mnemonic;" "TimedThreads"]
def g_N (U : State) : Prop := (∀ w ∈ g_nn, va_Nw w U) ∧ va_AO "TimedThreads$TimedThread" U
theorem g_N.warm {s U : State} (hW : s.WarmedH U.vm) (h : g_N s) : g_N U := by
  refine ⟨fun w hw => ?_, h.2.moved hW.alike⟩
  have h9 := h.1 w hw
  simp only [g_nn, List.mem_cons, List.not_mem_nil, or_false] at hw
  rcases hw with rfl | rfl | rfl | rfl | rfl <;> first | exact va_Nw.warmM hW h9 | exact va_Nw.warmF hW h9
theorem g_N.same {u U : State} (hv : u.vm = U.vm) (h : g_N u) : g_N U := by
  refine ⟨fun w hw => ?_, h.2.moved (hv ▸ Vm.Alike.refl u.vm)⟩
  have h9 := h.1 w hw
  simp only [g_nn, List.mem_cons, List.not_mem_nil, or_false] at hw
  rcases hw with rfl | rfl | rfl | rfl | rfl <;> exact va_Nw.same rfl hv h9
/-- a method: its bytes, its locals, its class, what it returns, its room, the cells and slots that it makes -/
abbrev g_M : Type := ByteArray × Nat × String × Option FieldType × Room × Nat × Nat
def g_Cx (M : g_M) (p : Program) (s : State) (m : MethodId) (args : Array Value) (meth : Method) (c : Code) (D : va_G) (cid : Nat → ClassId) (A : Nat → Prop) (ad0 : Nat → Nat) : Prop :=
  p.tables.exec = Jvm.exec ∧ c.code = M.1 ∧ meth.sig.returnType = M.2.2.2.1 ∧ c.maxLocals = M.2.1 ∧ s.vm.findClass M.2.2.1 = some m.cls ∧ (∀ w ∈ TT, w.before args s = true) ∧ meth.locks = false ∧ va_K D vwCl (g_tys cid) s ∧ (∀ q, s.heap.size ≤ q → A q) ∧ g_B ad0 A s s.heap ∧ g_N s
def g_Q (D : va_G) (cid : Nat → ClassId) (A : Nat → Prop) (n0 : Nat) (ad0 : Nat → Nat) (r : Option Value) (ws' : List va_E) : Array Value → State → Outcome → State → Prop := fun _ st oc t =>
  (∃ ad : Nat → Nat, g_eq n0 ad ad0 ∧ oc = .returned (r.map (g_tv ad)) ∧ va_P D vwCl (g_mk ad cid ws') t.heap ∧ va_K D vwCl (g_tys cid) t ∧ va_D A (g_mk ad cid ws')) ∧ va_F A st t
abbrev g_QT : Type := Program → Launch → Env → State → MethodId → Array Value → List Frame → Method → Code → va_G → (Nat → ClassId) → (Nat → Prop) → Nat → (Nat → Nat) → State → Prop
/-- from this place of the method, with these locals, this stack, this world, it comes to a state with Q -/
def GX (Q : g_QT) (M : g_M) (k n pc : Nat) (lv : List (Nat × Value)) (st : List Value) (ws : List va_E) : Prop :=
  ∀ (p : Program) (l : Launch) (e : Env) (s : State) (m : MethodId) (args : Array Value) (below : List Frame) (meth : Method) (c : Code) (D : va_G) (cid : Nat → ClassId) (A : Nat → Prop) (n0 : Nat) (ad0 : Nat → Nat), g_Cx M p s m args meth c D cid A ad0 →
  ∀ (ad : Nat → Nat) (ls : Array Slot) (H : Heap) (locs : List Loc), g_eq n0 ad ad0 → lv_has ls M.2.1 (lv.map (g_tl ad)) → va_P D vwCl (g_mk ad cid ws) H → va_D A (g_mk ad cid ws) → va_S A s.heap H locs →
  W p l e M.2.2.2.2.1 s m args below meth c H locs k n (Q p l e s m args below meth c D cid A n0 ad0) (F0 m pc ls (st.map (g_tv ad)))
abbrev g_QR (M : g_M) (r : Option Value) (ws' : List va_E) : g_QT := fun _ _ _ s _ args below _ _ D cid A n0 ad0 => MQ below (g_Q D cid A n0 ad0 r ws') args s M.2.2.2.2.2.1 M.2.2.2.2.2.2 A
/-- from this place of the method, with these locals, this stack, this world, it comes to its end: the answer r, the world ws' -/
abbrev G (M : g_M) (k n pc : Nat) (lv : List (Nat × Value)) (st : List Value) (ws : List va_E) (r : Option Value) (ws' : List va_E) : Prop := GX (g_QR M r ws') M k n pc lv st ws
def g_n0 (M : g_M) (ws : List va_E) : Nat := if M.2.2.2.2.2.1 = 0 then 1000 else ws.length
def g_Pc (D : va_G) (cid : Nat → ClassId) (ad : Nat → Nat) (sz : Nat) (as : List Value) (ws : List va_E) : Array Value → State → Prop :=
  va_Pc (as.map (g_tv ad)) (fun U => U.heap.size = sz ∧ va_P D vwCl (g_mk ad cid ws) U.heap ∧ va_K D vwCl (g_tys cid) U ∧ va_D (fun _ => True) (g_mk ad cid ws) ∧ g_B ad (va_A (g_mk ad cid ws) sz) U U.heap ∧ g_N U)
/-- the method y, called with these values in this world: the answer r, the world ws' -/
def K (M : g_M) (y : MethodName) (as : List Value) (ws : List va_E) (r : Option Value) (ws' : List va_E) : Prop :=
  ∀ (l : Launch) (D : va_G) (cid : Nat → ClassId) (ad : Nat → Nat) (sz : Nat), Met l y (Cond.code y M.1 M.2.1 M.2.2.2.1 :: TT) M.2.2.2.2.1
    (g_Pc D cid ad sz as ws) (g_Q D cid (va_A (g_mk ad cid ws) sz) (g_n0 M ws) ad r ws') M.2.2.2.2.2.1 M.2.2.2.2.2.2 (va_A (g_mk ad cid ws) sz)
theorem K.of {M : g_M} {y : MethodName} {as : List Value} {lv : List (Nat × Value)} {ws : List va_E} {r : Option Value} {ws' : List va_E} (hy : plainFor y = true) (ho : M.2.2.1 = y.cls) (hn : Nat.ble (lg_sl as).length M.2.1 = true) (hlv : lv_args 0 as = lv) (h : G M 0 0 0 lv [] ws r ws') : K M y as ws r ws' := by
  intro l D cid ad sz
  refine va_MetF (cc := M.1) (maxL := M.2.1) (ret := M.2.2.2.1) hy rfl ?_
  intro p e s m args below meth c s₁ B hml hv
  obtain ⟨rfl, hsz, hP, hK, hD0, hB, hN⟩ := hv
  have hts := atoms_spec (ws := Cond.code y M.1 M.2.1 M.2.2.2.1 :: TT) B.pre
  have hown : s.vm.findClass y.cls = some m.cls := findClass_of_methodNamed B.named
  subst hsz
  have hD := hD0.self (sz := s.heap.size)
  have hl := lv_entry (as.map (g_tv ad)) (n := M.2.1) (by rw [g_sl]; exact Nat.le_of_ble_eq_true hn)
  rw [lg_entry_eq]
  rw [g_args, hlv] at hl
  exact h p l e s m _ below meth c D cid (va_A (g_mk ad cid ws) s.heap.size) (g_n0 M ws) ad ⟨B.exec, B.bytes, B.returns, hml, ho ▸ hown, fun w hw => hts w (List.mem_cons_of_mem _ hw), B.notSynchronized, hK, fun q hq => Or.inr hq, hB, hN⟩ ad _ s.heap [] (fun _ _ => rfl) hl hP hD va_S.rf
