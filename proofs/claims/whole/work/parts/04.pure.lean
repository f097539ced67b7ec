/-! A judgement over worlds whose references are places: no address, no heap, no context is seen in it.
A value or a cell is written with places (0, 1, ..) of the world's list; places from 1000 on are the constants of the program. -/
def g_tv (ad : Nat → Nat) (v : Value) : Value := match v with
  | .ref i => .ref (ad i)
  | x => x
def g_ta (ad : Nat → Nat) (x : vp_A) : vp_A := (x.1, match x.2 with
  | .inr (.inr (.inr (.inr f))) => .inr (.inr (.inr (.inr (fun j => (f j).map ad))))
  | y => y)
def g_te (ad : Nat → Nat) (cid : Nat → ClassId) (e : va_E) : va_E := match e with
  | .inl q => .inl (cid q.1, g_ta ad q.2)
  | .inr o => .inr (o.1, o.2.map (g_tv ad))
def g_mk (ad : Nat → Nat) (cid : Nat → ClassId) (ws : List va_E) : va_W := ws.mapIdx (fun i e => (ad i, g_te ad cid e))
def g_tl (ad : Nat → Nat) (q : Nat × Value) : Nat × Value := (q.1, g_tv ad q.2)
def g_tys (cid : Nat → ClassId) : List (ClassId × FieldType) := [(cid 0, .char), (cid 1, .int), (cid 2, .long), (cid 3, .object "TimedThreads$TimedThread")]
def g_eq (n0 : Nat) (ad ad0 : Nat → Nat) : Prop := ∀ i, i < n0 ∨ 1000 ≤ i → ad i = ad0 i
theorem g_get (ad : Nat → Nat) (cid : Nat → ClassId) {ws : List va_E} {i : Nat} {e : va_E} (h : ws[i]? = some e) : (g_mk ad cid ws)[i]? = some (ad i, g_te ad cid e) := by
  simp [g_mk, h]
theorem g_set (ad : Nat → Nat) (cid : Nat → ClassId) (ws : List va_E) (i : Nat) (e : va_E) : (g_mk ad cid ws).set i (ad i, g_te ad cid e) = g_mk ad cid (ws.set i e) := by
  apply List.ext_getElem?
  intro j
  simp only [g_mk, List.getElem?_set, List.getElem?_mapIdx, List.length_mapIdx]
  by_cases h : i = j
  · subst h
    by_cases h2 : i < ws.length <;> simp [h2]
  · simp [h]
theorem g_len (ad : Nat → Nat) (cid : Nat → ClassId) (ws : List va_E) : (g_mk ad cid ws).length = ws.length := by simp [g_mk]
theorem g_catv (ad : Nat → Nat) (v : Value) : (g_tv ad v).category = v.category := by cases v <;> rfl
theorem g_args (ad : Nat → Nat) : ∀ (as : List Value) (i : Nat), lv_args i (as.map (g_tv ad)) = (lv_args i as).map (g_tl ad)
  | [], _ => rfl
  | v :: vs, i => by
    simp only [List.map_cons, lv_args, g_catv, g_args ad vs]
    rfl
theorem g_sl (ad : Nat → Nat) : ∀ vs : List Value, (lg_sl (vs.map (g_tv ad))).length = (lg_sl vs).length
  | [] => rfl
  | v :: vs => by
    have ih := g_sl ad vs
    cases v <;> simp_all [lg_sl, g_tv, Value.category]
/-- a method: its bytes, its locals, its class, what it returns, its room, the cells and slots that it makes -/
abbrev g_M : Type := ByteArray × Nat × String × Option FieldType × Room × Nat × Nat
def g_Cx (M : g_M) (p : Program) (s : State) (m : MethodId) (args : Array Value) (meth : Method) (c : Code) (D : va_G) (cid : Nat → ClassId) (A : Nat → Prop) : Prop :=
  p.tables.exec = Jvm.exec ∧ c.code = M.1 ∧ meth.sig.returnType = M.2.2.2.1 ∧ c.maxLocals = M.2.1 ∧ s.vm.findClass M.2.2.1 = some m.cls ∧ (∀ w ∈ TT, w.before args s = true) ∧ meth.locks = false ∧ va_K D vwCl (g_tys cid) s ∧ ∀ q, s.heap.size ≤ q → A q
def g_Q (D : va_G) (cid : Nat → ClassId) (A : Nat → Prop) (n0 : Nat) (ad0 : Nat → Nat) (r : Option Value) (ws' : List va_E) : Array Value → State → Outcome → State → Prop := fun _ st oc t =>
  (∃ ad : Nat → Nat, g_eq n0 ad ad0 ∧ oc = .returned (r.map (g_tv ad)) ∧ va_P D vwCl (g_mk ad cid ws') t.heap ∧ va_K D vwCl (g_tys cid) t ∧ va_D A (g_mk ad cid ws')) ∧ va_F A st t
/-- from this place of the method, with these locals, this stack, this world, it comes to its end: the answer r, the world ws' -/
def G (M : g_M) (k n pc : Nat) (lv : List (Nat × Value)) (st : List Value) (ws : List va_E) (r : Option Value) (ws' : List va_E) : Prop :=
  ∀ (p : Program) (l : Launch) (e : Env) (s : State) (m : MethodId) (args : Array Value) (below : List Frame) (meth : Method) (c : Code) (D : va_G) (cid : Nat → ClassId) (A : Nat → Prop) (n0 : Nat) (ad0 : Nat → Nat), g_Cx M p s m args meth c D cid A →
  ∀ (ad : Nat → Nat) (ls : Array Slot) (H : Heap) (locs : List Loc), g_eq n0 ad ad0 → lv_has ls M.2.1 (lv.map (g_tl ad)) → va_P D vwCl (g_mk ad cid ws) H → va_D A (g_mk ad cid ws) → va_S A s.heap H locs →
  W p l e M.2.2.2.2.1 s m args below meth c H locs k n (MQ below (g_Q D cid A n0 ad0 r ws') args s M.2.2.2.2.2.1 M.2.2.2.2.2.2 A) (F0 m pc ls (st.map (g_tv ad)))
/-- the method y, called with these values in this world: the answer r, the world ws' -/
def K (M : g_M) (y : MethodName) (as : List Value) (ws : List va_E) (r : Option Value) (ws' : List va_E) : Prop :=
  ∀ (l : Launch) (D : va_G) (cid : Nat → ClassId) (ad : Nat → Nat) (sz : Nat), Met l y (Cond.code y M.1 M.2.1 M.2.2.2.1 :: TT) M.2.2.2.2.1
    (va_Pc (as.map (g_tv ad)) (fun U => U.heap.size = sz ∧ va_P D vwCl (g_mk ad cid ws) U.heap ∧ va_K D vwCl (g_tys cid) U ∧ va_D (fun _ => True) (g_mk ad cid ws)))
    (g_Q D cid (va_A (g_mk ad cid ws) sz) ws.length ad r ws') M.2.2.2.2.2.1 M.2.2.2.2.2.2 (va_A (g_mk ad cid ws) sz)
theorem K.of {M : g_M} {y : MethodName} {as : List Value} {ws : List va_E} {r : Option Value} {ws' : List va_E} (hy : plainName y.cls = true) (ho : M.2.2.1 = y.cls) (hn : (lg_sl as).length ≤ M.2.1) (h : G M 0 0 0 (lv_args 0 as) [] ws r ws') : K M y as ws r ws' := by
  intro l D cid ad sz
  refine Met.ofW (cc := M.1) (maxL := M.2.1) (ret := M.2.2.2.1) hy rfl ?_
  intro p e s m args below meth c s₁ B hml hv
  obtain ⟨rfl, hsz, hP, hK, hD0⟩ := hv
  have hts := atoms_spec (ws := Cond.code y M.1 M.2.1 M.2.2.2.1 :: TT) B.pre
  have hown : s.vm.findClass y.cls = some m.cls := findClass_of_methodNamed B.named
  subst hsz
  have hD := hD0.self (sz := s.heap.size)
  have hl := lv_entry (as.map (g_tv ad)) (n := M.2.1) (by rw [g_sl]; exact hn)
  rw [lg_entry_eq]
  rw [g_args] at hl
  exact h p l e s m _ below meth c D cid (va_A (g_mk ad cid ws) s.heap.size) ws.length ad ⟨B.exec, B.bytes, B.returns, hml, ho ▸ hown, fun w hw => hts w (List.mem_cons_of_mem _ hw), B.notSynchronized, hK, fun q hq => Or.inr hq⟩ ad _ s.heap [] (fun _ _ => rfl) hl hP hD va_S.rf
