/-- what a guarded end says: if P holds of the call, then Q -/
abbrev g_PT : Type := Program → Launch → Env → State → MethodId → Array Value → List Frame → Method → Code → va_G → (Nat → ClassId) → (Nat → Prop) → Nat → (Nat → Nat) → Prop
def g_gd (P : g_PT) (Q : g_QT) : g_QT := fun p l e s m args below meth c D cid A n0 ad0 t => P p l e s m args below meth c D cid A n0 ad0 → Q p l e s m args below meth c D cid A n0 ad0 t
def g_Pn (P : g_PT) (B : Nat) : Prop := ∀ p l e s m args below meth c D cid A n0 ad0, P p l e s m args below meth c D cid A n0 ad0 → n0 ≤ B
def g_Pi (P : g_PT) : Prop := ∀ p l e s m args below meth c D cid A n0 ad0, P p l e s m args below meth c D cid A n0 ad0 → meth.name = "<init>"
def g_PI (B : Nat) : g_PT := fun _ _ _ _ _ _ _ meth _ _ _ _ n0 _ => meth.name = "<init>" ∧ n0 ≤ B
theorem g_PI_n {B C : Nat} (h : Nat.ble B C = true) : g_Pn (g_PI B) C := fun _ _ _ _ _ _ _ _ _ _ _ _ _ _ q => Nat.le_trans q.2 (Nat.le_of_ble_eq_true h)
theorem g_PI_i (B : Nat) : g_Pi (g_PI B) := fun _ _ _ _ _ _ _ _ _ _ _ _ _ _ q => q.1
theorem GX.mono {Q Q1 : g_QT} {M : g_M} {k n pc : Nat} {lv : List (Nat × Value)} {st : List Value} {ws : List va_E} (h9 : ∀ p l e s m args below meth c D cid A n0 ad0 t, Q p l e s m args below meth c D cid A n0 ad0 t → Q1 p l e s m args below meth c D cid A n0 ad0 t) (h : GX Q M k n pc lv st ws) : GX Q1 M k n pc lv st ws := by
  intro p l e s m args below meth c D cid A n0 ad0 C ad ls H locs hq hl hP hD hS T hT X
  obtain ⟨t, a, b⟩ := h p l e s m args below meth c D cid A n0 ad0 C ad ls H locs hq hl hP hD hS T hT X
  exact ⟨t, a, h9 _ _ _ _ _ _ _ _ _ _ _ _ _ _ _ b⟩
theorem G.gd {P : g_PT} {Q : g_QT} {M : g_M} {k n pc : Nat} {lv : List (Nat × Value)} {st : List Value} {ws : List va_E} (h : GX Q M k n pc lv st ws) : GX (g_gd P Q) M k n pc lv st ws := GX.mono (fun _ _ _ _ _ _ _ _ _ _ _ _ _ _ _ q _ => q) h
/-- under the guard it may be used -/
theorem GX.byP {P : g_PT} {Q : g_QT} {M : g_M} {k n pc : Nat} {lv : List (Nat × Value)} {st : List Value} {ws : List va_E}
    (h : ∀ (p : Program) (l : Launch) (e : Env) (s : State) (m : MethodId) (args : Array Value) (below : List Frame) (meth : Method) (c : Code) (D : va_G) (cid : Nat → ClassId) (A : Nat → Prop) (n0 : Nat) (ad0 : Nat → Nat), P p l e s m args below meth c D cid A n0 ad0 → g_Cx M p s m args meth c D cid A ad0 →
      ∀ (ad : Nat → Nat) (ls : Array Slot) (H : Heap) (locs : List Loc), g_eq n0 ad ad0 → lv_has ls M.2.1 (lv.map (g_tl ad)) → va_P D vwCl (g_mk ad cid ws) H → va_D A (g_mk ad cid ws) → va_S A s.heap H locs →
      W p l e M.2.2.2.2.1 s m args below meth c H locs k n (g_gd P Q p l e s m args below meth c D cid A n0 ad0) (F0 m pc ls (st.map (g_tv ad)))) : GX (g_gd P Q) M k n pc lv st ws := by
  intro p l e s m args below meth c D cid A n0 ad0 C ad ls H locs hq hl hP hD hS
  by_cases hp : P p l e s m args below meth c D cid A n0 ad0
  · exact h p l e s m args below meth c D cid A n0 ad0 hp C ad ls H locs hq hl hP hD hS
  · exact fun T _ _ => ⟨_, Steps.refl _, fun q => absurd q hp⟩
/-- references below b, or of the constants -/
def g_vk (b : Nat) (v : Value) : Bool := match v with
  | .ref i => Nat.ble (i + 1) b || Nat.ble 1000 i
  | _ => true
def g_ak (b : Nat) (f : Nat → Option Nat) : Prop := ∀ j i, f j = some i → i < b ∨ 1000 ≤ i
def g_ek (b : Nat) (e : va_E) : Prop := match e with
  | .inl (_, _, .inr (.inr (.inr (.inr f)))) => g_ak b f
  | .inl _ => True
  | .inr o => o.2.all (g_vk b) = true
def g_eks (b : Nat) : List va_E → Prop
  | [] => True
  | e :: es => g_ek b e ∧ g_eks b es
theorem g_ak_none (b : Nat) : g_ak b (fun _ => none) := fun _ _ h => by cases h
theorem g_ak_up {b : Nat} {f : Nat → Option Nat} (h : g_ak b f) {k i : Nat} (hi : Nat.ble (i + 1) b = true) : g_ak b (va_up f k (some i)) := by
  intro j x hx
  unfold va_up at hx
  by_cases hj : j = k
  · rw [if_pos hj] at hx
    cases hx
    exact Or.inl (g_lt hi)
  · rw [if_neg hj] at hx
    exact h j x hx
theorem g_vk_tv {b : Nat} {ad ad' : Nat → Nat} (hq : ∀ i, i < b ∨ 1000 ≤ i → ad' i = ad i) {v : Value} (h : g_vk b v = true) : g_tv ad' v = g_tv ad v := by
  cases v <;> try rfl
  rename_i i
  simp only [g_vk, Bool.or_eq_true] at h
  simp only [g_tv]
  rw [hq i (h.imp (fun z => g_lt z) (fun z => Nat.le_of_ble_eq_true z))]
theorem g_vk_st {b : Nat} {ad ad' : Nat → Nat} (hq : ∀ i, i < b ∨ 1000 ≤ i → ad' i = ad i) {st : List Value} (h : st.all (g_vk b) = true) : st.map (g_tv ad') = st.map (g_tv ad) :=
  List.map_congr_left (fun v hv => g_vk_tv hq (List.all_eq_true.mp h v hv))
theorem g_vk_lv {b : Nat} {ad ad' : Nat → Nat} (hq : ∀ i, i < b ∨ 1000 ≤ i → ad' i = ad i) {lv : List (Nat × Value)} (h : lv.all (fun q => g_vk b q.2) = true) : lv.map (g_tl ad') = lv.map (g_tl ad) :=
  List.map_congr_left (fun v hv => by unfold g_tl; rw [g_vk_tv hq (List.all_eq_true.mp h v hv)])
theorem g_ek_te {b : Nat} {ad ad' : Nat → Nat} (cid : Nat → ClassId) (hq : ∀ i, i < b ∨ 1000 ≤ i → ad' i = ad i) {e : va_E} (h : g_ek b e) : g_te ad' cid e = g_te ad cid e := by
  rcases e with ⟨t, n, x⟩ | ⟨ci, fs⟩
  · rcases x with x | x | x | x | f <;> try rfl
    have e1 : (fun j => (f j).map ad') = fun j => (f j).map ad := by
      funext j
      cases hj : f j with
      | none => rfl
      | some i => rw [Option.map_some, Option.map_some, hq i (h j i hj)]
    show Sum.inl _ = Sum.inl _
    simp only [g_ta]
    rw [e1]
  · show Sum.inr _ = Sum.inr _
    simp only [g_vk_st hq h]
theorem g_eks_get {b : Nat} : ∀ {ws : List va_E} {i : Nat} {e : va_E}, g_eks b ws → ws[i]? = some e → g_ek b e
  | [], _, _, _, h => by simp at h
  | e0 :: es, 0, e, h, h1 => by
    simp at h1
    rw [← h1]; exact h.1
  | e0 :: es, i + 1, e, h, h1 => g_eks_get h.2 (by simpa using h1)
theorem g_mk_same {b : Nat} {ad ad' : Nat → Nat} (cid : Nat → ClassId) (hq : ∀ i, i < b ∨ 1000 ≤ i → ad' i = ad i) {ws : List va_E} (hb : ws.length ≤ b) (h : g_eks b ws) : g_mk ad' cid ws = g_mk ad cid ws := by
  apply List.ext_getElem?
  intro i
  simp only [g_mk, List.getElem?_mapIdx]
  cases hi : ws[i]? with
  | none => rfl
  | some e =>
    have := (List.getElem?_eq_some_iff.mp hi).1
    rw [Option.map_some, Option.map_some, g_ek_te cid hq (g_eks_get h hi), hq i (Or.inl (by omega))]
def g_nx (ad : Nat → Nat) (L q : Nat) : Nat → Nat := fun i => if i = L then q else ad i
theorem g_nx_old (ad : Nat → Nat) {L : Nat} (q : Nat) (hL : L < 1000) : ∀ i, i < L ∨ 1000 ≤ i → g_nx ad L q i = ad i := fun i h => by
  unfold g_nx
  rw [if_neg (by omega)]
theorem g_mk_app (ad : Nat → Nat) (cid : Nat → ClassId) (ws : List va_E) (e : va_E) : g_mk ad cid (ws ++ [e]) = g_mk ad cid ws ++ [(ad ws.length, g_te ad cid e)] := by
  simp [g_mk, List.mapIdx_append]
/-- the new cell's place -/
theorem g_push {ad : Nat → Nat} (cid : Nat → ClassId) {ws : List va_E} (q : Nat) {e : va_E} (hL : ws.length < 1000) (hw : g_eks ws.length ws) (he : g_ek ws.length e) : g_mk (g_nx ad ws.length q) cid (ws ++ [e]) = g_mk ad cid ws ++ [(q, g_te ad cid e)] := by
  rw [g_mk_app, g_mk_same cid (g_nx_old ad q hL) (Nat.le_refl _) hw, g_ek_te cid (g_nx_old ad q hL) he]
  simp [g_nx]
def g_new (own : String) (idx ci N : Nat) (fs : List Value) : Prop := ∃ (C : String) (T : u_T) (ty : Nat → FieldType), vwCl[ci]? = some (C, T, N) ∧ (∀ w ∈ u_ws C T N, w ∈ TT) ∧ (∀ k, k < N → parseFieldDescriptor (T k).2.2.1 = some (ty k)) ∧ Cond.classLink own idx C ∈ TT ∧ Cond.instantiable C N ∈ TT ∧ Cond.initialized C ∈ TT ∧ (∀ j, j < N → defaultValue (ty j) = vp_V fs j)
def g_blank (v : Value) : Bool := match v with
  | .ref _ => false
  | _ => true
theorem g_blank_tv (ad : Nat → Nat) {v : Value} (h : g_blank v = true) : g_tv ad v = v := by cases v <;> first | rfl | cases h
theorem g_blank_map (ad : Nat → Nat) {fs : List Value} (h : fs.all g_blank = true) : fs.map (g_tv ad) = fs := by
  have : fs.map (g_tv ad) = fs.map id := List.map_congr_left (fun v hv => g_blank_tv ad (List.all_eq_true.mp h v hv))
  rw [this, List.map_id]
theorem g_blank_vk (b : Nat) {fs : List Value} (h : fs.all g_blank = true) : fs.all (g_vk b) = true := by
  rw [List.all_eq_true] at h ⊢
  intro v hv
  have := h v hv
  cases v <;> first | rfl | cases this

theorem G.new {M : g_M} {k n pc : Nat} {lv : List (Nat × Value)} {st : List Value} {ws : List va_E} {P : g_PT} {Q : g_QT} {idx ci N : Nat} {fs : List Value} (hd : decode M.1 pc = .ok (.new idx, 3)) (hf : g_new M.2.2.1 idx ci N fs) (hbl : fs.all g_blank = true) (hPn : g_Pn P ws.length) (hL : Nat.ble (ws.length + 1) 1000 = true) (hlv : lv.all (fun q => g_vk ws.length q.2) = true) (hst : st.all (g_vk ws.length) = true) (hws : g_eks ws.length ws) (hk : Nat.ble (k + 1) M.2.2.2.2.1.cells = true) (hn : Nat.ble (n + N) M.2.2.2.2.1.slots = true) (kk : GX (g_gd P Q) M (k + 1) (n + N) (pc + 3) lv (.ref ws.length :: st) (ws ++ [.inr (ci, fs)])) : GX (g_gd P Q) M k n pc lv st ws := by
  refine GX.byP (fun p l e s m args below meth c D cid A n0 ad0 hp C ad ls H locs hq hl hP hD hS => ?_)
  have hn0 := hPn _ _ _ _ _ _ _ _ _ _ _ _ _ _ hp
  obtain ⟨C9, T9, ty, h1, h2, h3, h4, h5, h6, h7⟩ := hf
  have hL := g_lt hL
  refine va_new (D := D) (ci := ci) (fs := fs) C.1 C.2.1 C.2.2.2.2.2.1 h2 ty h3 C.2.2.2.2.1 (C.2.2.2.2.2.1 _ h4) (C.2.2.2.2.2.1 _ h5) (C.2.2.2.2.2.1 _ h6) C.2.2.2.2.2.2.2.1 hP hD hS C.2.2.2.2.2.2.2.2.1 h1 h7 (Nat.le_of_ble_eq_true hk) (Nat.le_of_ble_eq_true hn) hd (fun q H1 hP hD hS => ?_)
  have e1 : g_mk (g_nx ad ws.length q) cid (ws ++ [.inr (ci, fs)]) = g_mk ad cid ws ++ [(q, .inr (ci, fs))] := by
    rw [g_push cid q hL hws (show g_ek _ (.inr (ci, fs)) from g_blank_vk _ hbl)]
    simp only [g_te, g_blank_map ad hbl]
  have hq1 : g_eq n0 (g_nx ad ws.length q) ad0 := fun i hi => by rw [g_nx_old ad q hL i (by omega)]; exact hq i hi
  have h9 := kk p l e s m args below meth c D cid A n0 ad0 C (g_nx ad ws.length q) ls H1 locs hq1 (by rw [g_vk_lv (g_nx_old ad q hL) hlv]; exact hl) (by rw [e1]; exact hP) (by rw [e1]; exact hD) hS
  rw [List.map_cons, g_vk_st (g_nx_old ad q hL) hst, show g_tv (g_nx ad ws.length q) (.ref ws.length) = .ref q by simp [g_tv, g_nx]] at h9
  exact h9
theorem g_tyN {D : va_G} {cid : Nat → ClassId} {s : State} {t : Nat} {ty : FieldType} {cA : ClassId} (hK : va_K D vwCl (g_tys cid) s) (ht : (g_tys cid)[t]? = some (cid t, ty)) (hK1 : va_K D vwCl (g_tys cid ++ [(cA, ty)]) s) : cA = cid t := by
  have h1 := (hK.2 t _ ht).2
  have h2 := (hK1.2 4 (cA, ty) (by simp [g_tys])).2
  cases ty with
  | object C =>
    obtain ⟨_, _, _, _, _, h3⟩ := h1
    obtain ⟨_, _, _, _, _, h4⟩ := h2
    exact Option.some.inj (h4.symm.trans h3)
  | _ => exact Option.some.inj (Eq.trans (Eq.symm h2) h1)
theorem G.newarray {M : g_M} {k n pc : Nat} {lv : List (Nat × Value)} {st : List Value} {ws : List va_E} {P : g_PT} {Q : g_QT} {at9 : ArrayType} {t N : Nat} {ty : FieldType} {x : (Nat → Int32) ⊕ (Nat → Int64) ⊕ (Nat → UInt32) ⊕ (Nat → UInt64) ⊕ (Nat → Option Nat)} {v : Int32} (hd : decode M.1 pc = .ok (.newarray at9, 2)) (hty : newarray.typeOf at9 = ty) (hw : Cond.arrayClass ty ∈ TT) (ht : ∀ cid : Nat → ClassId, (g_tys cid)[t]? = some (cid t, ty)) (hx : ∀ ad : Nat → Nat, g_ta ad (N, x) = (N, x)) (ha : ∀ cA : ClassId, vp_cell cA (N, x) = arrV cA N (fun _ => defaultValue ty)) (hv : ¬ v < 0) (hN : v.toNatClampNeg = N) (hby : N * componentBytes ty ≤ 536870912) (hek : g_ek ws.length (.inl (t, N, x))) (hPn : g_Pn P ws.length) (hL : Nat.ble (ws.length + 1) 1000 = true) (hlv : lv.all (fun q => g_vk ws.length q.2) = true) (hst : st.all (g_vk ws.length) = true) (hws : g_eks ws.length ws) (hk : Nat.ble (k + 1) M.2.2.2.2.1.cells = true) (hn : Nat.ble (n + N) M.2.2.2.2.1.slots = true) (kk : GX (g_gd P Q) M (k + 1) (n + N) (pc + 2) lv (.ref ws.length :: st) (ws ++ [.inl (t, N, x)])) : GX (g_gd P Q) M k n pc lv (.int v :: st) ws := by
  refine GX.byP (fun p l e s m args below meth c D cid A n0 ad0 hp C ad ls H locs hq hl hP hD hS => ?_)
  have hn0 := hPn _ _ _ _ _ _ _ _ _ _ _ _ _ _ hp
  have hL := g_lt hL
  refine va_newa (D := D) (a0 := (N, x)) C.1 C.2.1 (by rw [hty]; exact C.2.2.2.2.2.1 _ hw) hty C.2.2.2.2.2.2.2.1 hP hD hS C.2.2.2.2.2.2.2.2.1 ha hv hN hby (Nat.le_of_ble_eq_true hk) (Nat.le_of_ble_eq_true hn) hd (fun q cA H1 hK1 hP hD hS => ?_)
  have hcA := g_tyN C.2.2.2.2.2.2.2.1 (ht cid) hK1
  subst hcA
  have e1 : g_mk (g_nx ad ws.length q) cid (ws ++ [.inl (t, N, x)]) = g_mk ad cid ws ++ [(q, .inl (cid t, N, x))] := by
    rw [g_push cid q hL hws hek]
    simp only [g_te, hx]
  have hq1 : g_eq n0 (g_nx ad ws.length q) ad0 := fun i hi => by rw [g_nx_old ad q hL i (by omega)]; exact hq i hi
  have h9 := kk p l e s m args below meth c D cid A n0 ad0 C (g_nx ad ws.length q) ls H1 locs hq1 (by rw [g_vk_lv (g_nx_old ad q hL) hlv]; exact hl) (by rw [e1]; exact hP) (by rw [e1]; exact hD) hS
  rw [List.map_cons, g_vk_st (g_nx_old ad q hL) hst, show g_tv (g_nx ad ws.length q) (.ref ws.length) = .ref q by simp [g_tv, g_nx]] at h9
  exact h9
theorem G.anewarray {M : g_M} {k n pc : Nat} {lv : List (Nat × Value)} {st : List Value} {ws : List va_E} {P : g_PT} {Q : g_QT} {idx N : Nat} {v : Int32} (hd : decode M.1 pc = .ok (.anewarray idx, 3)) (hw : Cond.classLink M.2.2.1 idx "TimedThreads$TimedThread" ∈ TT) (hv : ¬ v < 0) (hN : v.toNatClampNeg = N) (hby : N * 4 ≤ 536870912) (hPn : g_Pn P ws.length) (hL : Nat.ble (ws.length + 1) 1000 = true) (hlv : lv.all (fun q => g_vk ws.length q.2) = true) (hst : st.all (g_vk ws.length) = true) (hws : g_eks ws.length ws) (hk : Nat.ble (k + 1) M.2.2.2.2.1.cells = true) (hn : Nat.ble (n + N) M.2.2.2.2.1.slots = true) (kk : GX (g_gd P Q) M (k + 1) (n + N) (pc + 3) lv (.ref ws.length :: st) (ws ++ [.inl (3, N, .inr (.inr (.inr (.inr (fun _ => none)))))])) : GX (g_gd P Q) M k n pc lv (.int v :: st) ws := by
  refine GX.byP (fun p l e s m args below meth c D cid A n0 ad0 hp C ad ls H locs hq hl hP hD hS => ?_)
  have hn0 := hPn _ _ _ _ _ _ _ _ _ _ _ _ _ _ hp
  have hL := g_lt hL
  refine va_newq (D := D) C.1 C.2.1 C.2.2.2.2.1 (C.2.2.2.2.2.1 _ hw) C.2.2.2.2.2.2.2.2.2.2.2 C.2.2.2.2.2.2.2.1 hP hD hS C.2.2.2.2.2.2.2.2.1 hv hN hby (Nat.le_of_ble_eq_true hk) (Nat.le_of_ble_eq_true hn) hd (fun q cA H1 hK1 hP hD hS => ?_)
  have hcA := g_tyN (t := 3) C.2.2.2.2.2.2.2.1 rfl hK1
  subst hcA
  have e1 : g_mk (g_nx ad ws.length q) cid (ws ++ [.inl (3, N, .inr (.inr (.inr (.inr (fun _ => none)))))]) = g_mk ad cid ws ++ [(q, .inl (cid 3, N, .inr (.inr (.inr (.inr (fun _ => none))))))] := by
    rw [g_push cid q hL hws (show g_ek ws.length (.inl (3, N, .inr (.inr (.inr (.inr (fun _ => none)))))) from g_ak_none _)]
    rfl
  have hq1 : g_eq n0 (g_nx ad ws.length q) ad0 := fun i hi => by rw [g_nx_old ad q hL i (by omega)]; exact hq i hi
  have h9 := kk p l e s m args below meth c D cid A n0 ad0 C (g_nx ad ws.length q) ls H1 locs hq1 (by rw [g_vk_lv (g_nx_old ad q hL) hlv]; exact hl) (by rw [e1]; exact hP) (by rw [e1]; exact hD) hS
  rw [List.map_cons, g_vk_st (g_nx_old ad q hL) hst, show g_tv (g_nx ad ws.length q) (.ref ws.length) = .ref q by simp [g_tv, g_nx]] at h9
  exact h9
theorem G.aastore {M : g_M} {k n pc : Nat} {lv : List (Nat × Value)} {st : List Value} {ws : List va_E} {Q : g_QT} {a b N : Nat} {f : Nat → Option Nat} {i : Int32} {fs : List Value} {ws1 : List va_E} (hd : decode M.1 pc = .ok (.aastore, 1)) (he : ws[a]? = some (.inl (3, N, .inr (.inr (.inr (.inr f)))))) (hb : ws[b]? = some (.inr (5, fs))) (hin : vp_in i N) (hw : ws.set a (.inl (3, N, .inr (.inr (.inr (.inr (va_up f i.toNatClampNeg (some b))))))) = ws1) (kk : GX Q M k n (pc + 1) lv st ws1) : GX Q M k n pc lv (.ref b :: .int i :: .ref a :: st) ws := by
  intro p l e s m args below meth c D cid A n0 ad0 C ad ls H locs hq hl hP hD hS
  refine va_astq (D := D) C.1 C.2.1 C.2.2.2.2.2.2.2.1 hP hD hS a 3 b 5 (f := fun j => (f j).map ad) (g_get ad cid he) rfl (g_get ad cid hb) rfl hin hd (fun H locs hP hD hS => ?_)
  have hz := g_set ad cid ws a (.inl (3, N, .inr (.inr (.inr (.inr (va_up f i.toNatClampNeg (some b)))))))
  rw [hw] at hz
  have e1 : (fun j => (va_up f i.toNatClampNeg (some b) j).map ad) = va_up (fun j => (f j).map ad) i.toNatClampNeg (some (ad b)) := by
    funext j
    unfold va_up
    by_cases hj : j = i.toNatClampNeg
    · rw [if_pos hj, if_pos hj]; rfl
    · rw [if_neg hj, if_neg hj]
  simp only [g_te, g_ta] at hz
  rw [e1] at hz
  have hP : va_P D vwCl (g_mk ad cid ws1) H := hz ▸ hP
  have hD : va_D A (g_mk ad cid ws1) := hz ▸ hD
  exact (kk p l e s m args below meth c D cid A n0 ad0 C ad ls H locs hq hl hP hD hS)
def g_FF (own : String) (idx ci k : Nat) (ty : FieldType) : Prop := ∃ (C : String) (T : u_T) (N : Nat) (ty0 : Nat → FieldType), vwCl[ci]? = some (C, T, N) ∧ k < N ∧ (∀ w ∈ u_ws C T N, w ∈ TT) ∧ Cond.fieldLink own idx (T k).1 (T k).2.1 (T k).2.2.1 ∈ TT ∧ (∀ k, k < N → parseFieldDescriptor (T k).2.2.1 = some (ty0 k)) ∧ (∀ a, a < N → ∀ b, b < N → a ≠ b → (T a).2.1 ≠ (T b).2.1) ∧ (T k).2.2.2 = true ∧ (T k).1 = own ∧ parseFieldDescriptor (T k).2.2.1 = some ty
theorem G.putfieldF {M : g_M} {k n pc : Nat} {lv : List (Nat × Value)} {st : List Value} {ws : List va_E} {P : g_PT} {Q : g_QT} {idx ci kf a : Nat} {fs : List Value} {v : Value} {ty : FieldType} {ws1 : List va_E} (hd : decode M.1 pc = .ok (.putfield idx, 3)) (hf : g_FF M.2.2.1 idx ci kf ty) (he : ws[a]? = some (.inr (ci, fs))) (hfit : g_fit ty v) (hl9 : Nat.ble (kf + 1) fs.length = true) (hw : ws.set a (.inr (ci, fs.set kf v)) = ws1) (hPi : g_Pi P) (kk : GX (g_gd P Q) M k n (pc + 3) lv st ws1) : GX (g_gd P Q) M k n pc lv (v :: .ref a :: st) ws := by
  refine GX.byP (fun p l e s m args below meth c D cid A n0 ad0 hp C ad ls H locs hq hl hP hD hS => ?_)
  have hnm := hPi _ _ _ _ _ _ _ _ _ _ _ _ _ _ hp
  obtain ⟨C9, T9, N9, ty0, h1, h2, h3, h4, h5, h6, h7, h7b, h8⟩ := hf
  refine va_putF (D := D) (ci := ci) (v := g_tv ad v) (ty := ty) C.1 C.2.1 C.2.2.2.2.2.1 h3 ty0 h5 h6 C.2.2.2.2.1 C.2.2.2.2.2.2.2.1 hP hD hS a (fs := fs.map (g_tv ad)) (g_get ad cid he) h1 kf h2 (C.2.2.2.2.2.1 _ h4) (fun _ h9 => h9) h7 hnm h7b h8 (hfit ad).1 (hfit ad).2 (by rw [List.length_map]; exact g_lt hl9) hd (fun H locs hP hD hS => ?_)
  have hz : (g_mk ad cid ws).set a (ad a, .inr (ci, (fs.map (g_tv ad)).set kf (g_tv ad v))) = g_mk ad cid ws1 := by
    rw [← hw, ← g_set]
    simp only [g_te, List.map_set]
  rw [hz] at hP hD
  exact (kk p l e s m args below meth c D cid A n0 ad0 C ad ls H locs hq hl hP hD hS)
theorem G.objInit {M : g_M} {k n pc : Nat} {lv : List (Nat × Value)} {st : List Value} {ws : List va_E} {Q : g_QT} {idx a : Nat} (hd : decode M.1 pc = .ok (.invokespecial idx, 3)) (hw : Cond.methodLink M.2.2.1 idx Lib.objectInit ∈ TT) (hw1 : Cond.instanceMethod Lib.objectInit ∈ TT) (hw2 : Cond.code Lib.objectInit ⟨#[0xb1]⟩ 1 none ∈ TT) (hR : (Nat.ble 1 M.2.2.2.2.1.frames && Nat.ble ((st.map fun v => v.category).sum + 12) M.2.2.2.2.1.locals) = true) (kk : GX Q M k n (pc + 3) lv st ws) : GX Q M k n pc lv (.ref a :: st) ws := by
  intro p l e s m args below meth c D cid A n0 ad0 C ad ls H locs hq hl hP hD hS
  simp only [Bool.and_eq_true] at hR
  refine W.objInit (rest := st.map (g_tv ad)) C.1 C.2.1 C.2.2.2.2.1 (C.2.2.2.2.2.1 _ hw) (C.2.2.2.2.2.1 _ hw1) (C.2.2.2.2.2.1 _ hw2) rfl (hl.1.trans C.2.2.2.1.symm) rfl hd (Nat.le_of_ble_eq_true hR.1) ?_ (kk p l e s m args below meth c D cid A n0 ad0 C ad ls H locs hq hl hP hD hS)
  have h9 := Nat.le_of_ble_eq_true hR.2
  have e1 : ((st.map (g_tv ad)).map fun v => v.category).sum = (st.map fun v => v.category).sum := by rw [List.map_map]; simp only [Function.comp_def, g_catv]
  show 2 * 0 + ((st.map (g_tv ad)).map fun v => v.category).sum + 12 ≤ _
  rw [e1]
  omega
/-- a callee's places behind the caller's first L -/
def g_sf (L : Nat) (j : Nat) : Nat := if j < 1000 then L + j else j
def g_ax (ad ad1 : Nat → Nat) (L : Nat) : Nat → Nat := fun i => if i < L ∨ 1000 ≤ i then ad i else ad1 (i - L)
theorem g_ax_old (ad ad1 : Nat → Nat) {L : Nat} (h : ad1 0 = ad L) : ∀ i, i < L + 1 ∨ 1000 ≤ i → g_ax ad ad1 L i = ad i := fun i hi => by
  unfold g_ax
  by_cases h1 : i < L ∨ 1000 ≤ i
  · rw [if_pos h1]
  · rw [if_neg h1, show i = L by omega, Nat.sub_self, h]
theorem g_ax_sf {ad ad1 : Nat → Nat} {L b : Nat} (hb : L + b ≤ 1000) (hc : ∀ i, 1000 ≤ i → ad1 i = ad i) : ∀ j, j < b ∨ 1000 ≤ j → g_ax ad ad1 L (g_sf L j) = ad1 j := fun j hj => by
  unfold g_ax g_sf
  by_cases h1 : j < 1000
  · rw [if_pos h1]
    by_cases h2 : L + j < L ∨ 1000 ≤ L + j
    · omega
    · rw [if_neg h2]
      congr 1; omega
  · rw [if_neg h1, if_pos (by omega), hc j (by omega)]
theorem g_ek_sf {ad ad1 : Nat → Nat} {L b : Nat} (cid : Nat → ClassId) (hb : L + b ≤ 1000) (hc : ∀ i, 1000 ≤ i → ad1 i = ad i) {e : va_E} (h : g_ek b e) : g_te (g_ax ad ad1 L) cid (g_te (g_sf L) (fun x => x) e) = g_te ad1 cid e := by
  rw [g_te_te]
  exact g_ek_te cid (fun i hi => g_ax_sf hb hc i hi) h
theorem g_mk_sf {ad ad1 : Nat → Nat} {ws0 wc1 : List va_E} (cid : Nat → ClassId) (hb : ws0.length + wc1.length ≤ 1000) (h0 : ad1 0 = ad ws0.length) (hc : ∀ i, 1000 ≤ i → ad1 i = ad i) (hk0 : g_eks (ws0.length + 1) ws0) (hk1 : g_eks wc1.length wc1) : g_mk (g_ax ad ad1 ws0.length) cid (ws0 ++ wc1.map (g_te (g_sf ws0.length) (fun x => x))) = g_mk ad cid ws0 ++ g_mk ad1 cid wc1 := by
  apply List.ext_getElem?
  intro i
  by_cases hi : i < ws0.length
  · rw [List.getElem?_append_left (by rw [g_len]; exact hi)]
    simp only [g_mk, List.getElem?_mapIdx]
    rw [List.getElem?_append_left hi, List.getElem?_eq_getElem hi, Option.map_some, Option.map_some]
    rw [g_ek_te cid (g_ax_old ad ad1 h0) (g_eks_get hk0 (List.getElem?_eq_getElem hi)), g_ax_old ad ad1 h0 i (by omega)]
  · rw [List.getElem?_append_right (by rw [g_len]; omega), g_len]
    simp only [g_mk, List.getElem?_mapIdx]
    rw [List.getElem?_append_right (by omega), List.getElem?_map]
    cases h9 : wc1[i - ws0.length]? with
    | none => rfl
    | some e =>
      have h8 := (List.getElem?_eq_some_iff.mp h9).1
      simp only [Option.map_some]
      rw [g_ek_sf cid hb hc (g_eks_get hk1 h9), show g_ax ad ad1 ws0.length i = ad1 (i - ws0.length) by unfold g_ax; rw [if_neg (by omega)]]
section GCallI
variable {p : Program} {l : Launch} {e : Env} {R : Room} {s : State} {m : MethodId} {args : Array Value} {below : List Frame} {meth : Method} {c : Code} {H : Heap} {locs : List Loc} {Q : State → Prop}
theorem g_afterI {k n mc ms pc : Nat} {ls : Array Slot} {st0 rest0 : List Value} {a : Array Value} {D : va_G} {cid : Nat → ClassId} {A : Nat → Prop} {ad : Nat → Nat} {ws0 wc1 : List va_E} {e0 : va_E}
    (hr : va_Run p l e R s m args below meth c H locs k n mc ms (F0 m pc ls st0) rest0 (g_Q D cid (va_A (g_mk (fun j => ad (g_rn [ws0.length] j)) cid [e0]) H.size) 1 (fun j => ad (g_rn [ws0.length] j)) none wc1 a) (va_A (g_mk (fun j => ad (g_rn [ws0.length] j)) cid [e0]) H.size))
    (hb : ws0.length + wc1.length ≤ 1000) (hk0 : g_eks (ws0.length + 1) ws0) (hk1 : g_eks wc1.length wc1) (hA : ∀ q, s.heap.size ≤ q → A q) (hP : va_P D vwCl (g_mk ad cid (ws0 ++ [e0])) H) (hD : va_D A (g_mk ad cid (ws0 ++ [e0]))) (hS : va_S A s.heap H locs)
    (kk : ∀ (ad1 : Nat → Nat) (H1 : Heap) (locs1 : List Loc), (∀ i, i < ws0.length + 1 ∨ 1000 ≤ i → ad1 i = ad i) → va_P D vwCl (g_mk ad1 cid (ws0 ++ wc1.map (g_te (g_sf ws0.length) (fun x => x)))) H1 → va_D A (g_mk ad1 cid (ws0 ++ wc1.map (g_te (g_sf ws0.length) (fun x => x)))) → va_S A s.heap H1 locs1 → W p l e R s m args below meth c H1 locs1 (k + mc) (n + ms) Q (F0 m (pc + 3) ls rest0)) :
    W p l e R s m args below meth c H locs k n Q (F0 m pc ls st0) := by
  intro T hT X
  obtain ⟨v, st₀, t, T', L, h0, X', hL, e1, e2, ⟨⟨ad', hq', hv, hP1, hK1, hD1⟩, hz, hk⟩, st⟩ := hr T hT X
  cases hv
  rw [h0] at hz hk
  have hlast : (g_mk ad cid (ws0 ++ [e0]))[ws0.length]? = some (ad ws0.length, g_te ad cid e0) := g_get ad cid (by simp)
  have hfirst : ∀ (i : Nat) (e : va_E), ws0[i]? = some e → (g_mk ad cid (ws0 ++ [e0]))[i]? = some (ad i, g_te ad cid e) := fun i e h => g_get ad cid (by rw [List.getElem?_append_left (List.getElem?_eq_some_iff.mp h).1]; exact h)
  have hc0 : ad' 0 = ad ws0.length := by rw [hq' 0 (by omega)]; rfl
  have hcc : ∀ i, 1000 ≤ i → ad' i = ad i := fun i hi => by
    rw [hq' i (Or.inr hi)]
    show ad (g_rn [ws0.length] i) = ad i
    have : ([ws0.length] : List Nat)[i]? = none := by simp; omega
    simp [g_rn, this]
  have hfree : ∀ q, va_A (g_mk (fun j => ad (g_rn [ws0.length] j)) cid [e0]) H.size q → q = ad ws0.length ∨ H.size ≤ q := by
    intro q h
    rcases h with ⟨j, e3, h6⟩ | h6
    · obtain ⟨e4, h7, h8⟩ := g_get' _ cid h6
      have hj : j < 1 := (List.getElem?_eq_some_iff.mp h7).1
      have hj0 : j = 0 := by omega
      subst hj0
      exact Or.inl (by simpa [g_rn] using congrArg Prod.fst h8)
    · exact Or.inr h6
  have hF : ∀ q, va_A (g_mk (fun j => ad (g_rn [ws0.length] j)) cid [e0]) H.size q → A q := fun q h => by
    rcases hfree q h with rfl | h
    · exact hD.2 _ _ hlast
    · exact hA q (Nat.le_trans hS.1 h)
  have hmk := g_mk_sf (ad := ad) (ad1 := ad') cid hb hc0 hcc hk0 hk1
  have hP2 : va_P D vwCl (g_mk (g_ax ad ad' ws0.length) cid (ws0 ++ wc1.map (g_te (g_sf ws0.length) (fun x => x)))) t.heap := by
    rw [hmk]
    refine va_P.app (fun i q hq => ?_) hP1
    obtain ⟨e9, h1, rfl⟩ := g_get' ad cid hq
    have h2 := hfirst i e9 h1
    have h4 := hP i _ h2
    refine h4.kept (hk _ h4.lt (fun h5 => ?_))
    rcases hfree _ h5 with h6 | h6
    · have h7 := hD.1 i ws0.length _ _ h2 hlast h6
      have := (List.getElem?_eq_some_iff.mp h1).1
      omega
    · exact absurd h4.lt (Nat.not_lt.mpr h6)
  have hD2 : va_D A (g_mk (g_ax ad ad' ws0.length) cid (ws0 ++ wc1.map (g_te (g_sf ws0.length) (fun x => x)))) := by
    rw [hmk]
    refine va_D.app ?_ (hD1.weaken (fun k q hq h => hF _ h)) (fun i j x y hx hy hxy => ?_)
    · refine ⟨fun i j x y hx hy hxy => ?_, fun i x hx => ?_⟩
      · obtain ⟨e9, h1, rfl⟩ := g_get' ad cid hx
        obtain ⟨e8, h2, rfl⟩ := g_get' ad cid hy
        exact hD.1 i j _ _ (hfirst i e9 h1) (hfirst j e8 h2) hxy
      · obtain ⟨e9, h1, rfl⟩ := g_get' ad cid hx
        exact hD.2 i _ (hfirst i e9 h1)
    · obtain ⟨e9, h1, rfl⟩ := g_get' ad cid hx
      have h2 := hfirst i e9 h1
      rcases hfree _ (hD1.2 j y hy) with h6 | h6
      · have h7 := hD.1 i ws0.length _ _ h2 hlast (hxy.trans h6)
        have := (List.getElem?_eq_some_iff.mp h1).1
        omega
      · have h4 := (hP i _ h2).lt
        have h5 : ad i = y.1 := hxy
        exact absurd (h5 ▸ h4 : y.1 < H.size) (Nat.not_lt.mpr h6)
  obtain ⟨t2, a1, b1⟩ := kk (g_ax ad ad' ws0.length) T'.heap (locs ++ L) (g_ax_old ad ad' hc0) (by rw [e1]; exact hP2) hD2
    ⟨Nat.le_trans hS.1 (by rw [e1]; exact hz), fun q h1 h2 => by rw [e1, hk q (Nat.lt_of_lt_of_le h1 hS.1) (fun z => h2 (hF q z))]; exact hS.2.1 q h1 h2, fun q hq => by
      rcases List.mem_append.mp hq with h | h
      · exact hS.2.2 q h
      · exact hF _ (hL q h)⟩ T' rfl X'
  exact ⟨t2, st t2 a1, b1⟩
end GCallI
def g_cd (M M1 : g_M) (y : MethodName) (n : Nat) : Prop := Cond.instanceMethod y ∈ TT ∧ Cond.initialized y.cls ∈ TT ∧ Cond.code y M1.1 M1.2.1 none ∈ TT ∧ M1.2.2.2.1 = none ∧ y.name = "<init>" ∧ (M1.2.2.2.2.1.cells = M1.2.2.2.2.2.1 ∧ M1.2.2.2.2.1.slots = M1.2.2.2.2.2.2 ∧ ¬ M1.2.2.2.2.2.1 = 0) ∧ (y.cls ≠ "java/lang/invoke/MethodHandle" ∧ y.cls ≠ "java/lang/invoke/VarHandle" ∧ (parseMethodDescriptor y.desc).map (fun d => d.parameters.length) = some n) ∧ (M1.2.2.2.2.1.frames + 1 ≤ M.2.2.2.2.1.frames ∧ 8 + (M1.2.1 + 11) + M1.2.2.2.2.1.locals ≤ M.2.2.2.2.1.locals)

theorem G.callI {M : g_M} {k n pc : Nat} {lv : List (Nat × Value)} {st : List Value} {ws : List va_E} {P : g_PT} {Q : g_QT} {M1 : g_M} {y : MethodName} {as rest : List Value} {ws0 wc1 ws1 : List va_E} {idx ci : Nat} {fs : List Value} {k1 n1 : Nat} (hd : decode M.1 pc = .ok (.invokespecial idx, 3)) (hlk : Cond.methodLink M.2.2.1 idx y ∈ TT) (hc : g_cd M M1 y as.length) (hM : K M1 y (.ref 0 :: as) [.inr (ci, fs)] none wc1) (hst : as.reverse ++ .ref ws0.length :: rest = st) (hw : ws0 ++ [.inr (ci, fs)] = ws) (hfs : fs.all g_blank = true) (has : as.all g_blank = true) (hPn : g_Pn P (ws0.length + 1)) (hb : Nat.ble (ws0.length + wc1.length) 1000 = true) (hlv : lv.all (fun q => g_vk (ws0.length + 1) q.2) = true) (hrs : rest.all (g_vk (ws0.length + 1)) = true) (hk0 : g_eks (ws0.length + 1) ws0) (hk1 : g_eks wc1.length wc1) (hk9 : k + M1.2.2.2.2.2.1 = k1) (hn9 : n + M1.2.2.2.2.2.2 = n1) (hk8 : Nat.ble k1 M.2.2.2.2.1.cells = true) (hn8 : Nat.ble n1 M.2.2.2.2.1.slots = true) (hcat : Nat.ble (rest.map fun v => v.category).sum 8 = true) (hw1 : ws0 ++ wc1.map (g_te (g_sf ws0.length) (fun x => x)) = ws1) (kk : GX (g_gd P Q) M k1 n1 (pc + 3) lv rest ws1) : GX (g_gd P Q) M k n pc lv st ws := by
  refine GX.byP (fun p l e s m args below meth c D cid A n0 ad0 hp C ad ls H locs hq hl hP hD hS => ?_)
  have hn0 := hPn _ _ _ _ _ _ _ _ _ _ _ _ _ _ hp
  have hK := hM l D cid (fun j => ad (g_rn [ws0.length] j)) H.size
  obtain ⟨c1, c2, c3, c4, hini, ⟨c5, c6, c7⟩, c9, c10⟩ := hc
  rw [show g_n0 M1 [.inr (ci, fs)] = 1 by simp [g_n0, c7], c4] at hK
  have hcw := cwI (R := M.2.2.2.2.1) (s := s) (args := args) (own := M.2.2.1) (index := idx) (y := y) (bytes := M1.1) (maxL := M1.2.1) (Ts := TT) (ws := Cond.code y M1.1 M1.2.1 none :: TT) (ws' := TT) (rm := M1.2.2.2.2.1) as.length C.2.2.2.2.2.1 (tg_in (fun w h => by
    simp only [List.mem_cons] at h
    rcases h with rfl | h <;> assumption)) rfl c5 c6 (C.2.2.2.2.2.1 _ c2) (C.2.2.2.2.2.1 _ hlk) (C.2.2.2.2.2.1 _ c1) hini c9 c10
  subst hst hw hk9 hn9
  have hL0 : ws0.length ≤ 1000 := by have := Nat.le_of_ble_eq_true hb; omega
  have hpre := g_pre (as := .ref 0 :: as) (is := [ws0.length]) (wc := [.inr (ci, fs)]) C hq hP hD hS (by simp [g_re, g_te, g_blank_map _ hfs]) rfl (by simp) rfl
  have has1 : as.map (g_tv fun j => ad (g_rn [ws0.length] j)) = as := g_blank_map _ has
  have has2 : as.map (g_tv ad) = as := g_blank_map _ has
  rw [List.map_cons, has1] at hpre
  refine g_afterI (ad := ad) (ws0 := ws0) (e0 := .inr (ci, fs)) (va_runI (b := ad ws0.length) (As := as) (rest := rest.map (g_tv ad)) (nL := M.2.1) (Ts := TT) ⟨C.1, C.2.1, C.2.2.2.1, C.2.2.2.2.1, C.2.2.2.2.2.1⟩ hK hcw ⟨g_blind _ _ _ _ _ _, hpre⟩ rfl rfl hl.1 (by simp only [List.map_append, List.map_reverse, List.map_cons, has2]; rfl) (lv_room (by rw [List.map_map]; simp only [Function.comp_def, g_catv]; exact Nat.le_of_ble_eq_true hcat)) hd ⟨Nat.le_of_ble_eq_true hk8, Nat.le_of_ble_eq_true hn8⟩) (Nat.le_of_ble_eq_true hb) hk0 hk1 C.2.2.2.2.2.2.2.2.1 hP hD hS (fun ad1 H locs hq1 hP hD hS => ?_)
  rw [hw1] at hP hD
  have hq2 : g_eq n0 ad1 ad0 := fun i hi => by rw [hq1 i (by omega)]; exact hq i hi
  have h9 := kk p l e s m args below meth c D cid A n0 ad0 C ad1 ls H locs hq2 (by rw [g_vk_lv hq1 hlv]; exact hl) hP hD hS
  rw [g_vk_st hq1 hrs] at h9
  exact h9
theorem G.callIN {M : g_M} {k n pc : Nat} {lv : List (Nat × Value)} {st : List Value} {ws : List va_E} {P : g_PT} {Q : g_QT} {M1 : g_M} {y : MethodName} {as rest : List Value} {ws0 wc1 ws1 : List va_E} {idx ci : Nat} {fs : List Value} {k1 n1 : Nat} (hd : decode M.1 pc = .ok (.invokespecial idx, 3)) (hlk : Cond.methodLinkNest M.2.2.1 idx y "TimedThreads" ∈ g_nn) (hc : g_cd M M1 y as.length) (hM : K M1 y (.ref 0 :: as) [.inr (ci, fs)] none wc1) (hst : as.reverse ++ .ref ws0.length :: rest = st) (hw : ws0 ++ [.inr (ci, fs)] = ws) (hfs : fs.all g_blank = true) (has : as.all g_blank = true) (hPn : g_Pn P (ws0.length + 1)) (hb : Nat.ble (ws0.length + wc1.length) 1000 = true) (hlv : lv.all (fun q => g_vk (ws0.length + 1) q.2) = true) (hrs : rest.all (g_vk (ws0.length + 1)) = true) (hk0 : g_eks (ws0.length + 1) ws0) (hk1 : g_eks wc1.length wc1) (hk9 : k + M1.2.2.2.2.2.1 = k1) (hn9 : n + M1.2.2.2.2.2.2 = n1) (hk8 : Nat.ble k1 M.2.2.2.2.1.cells = true) (hn8 : Nat.ble n1 M.2.2.2.2.1.slots = true) (hcat : Nat.ble (rest.map fun v => v.category).sum 8 = true) (hw1 : ws0 ++ wc1.map (g_te (g_sf ws0.length) (fun x => x)) = ws1) (kk : GX (g_gd P Q) M k1 n1 (pc + 3) lv rest ws1) : GX (g_gd P Q) M k n pc lv st ws := by
  refine GX.byP (fun p l e s m args below meth c D cid A n0 ad0 hp C ad ls H locs hq hl hP hD hS => ?_)
  have hn0 := hPn _ _ _ _ _ _ _ _ _ _ _ _ _ _ hp
  have hK := hM l D cid (fun j => ad (g_rn [ws0.length] j)) H.size
  obtain ⟨c1, c2, c3, c4, hini, ⟨c5, c6, c7⟩, c9, c10⟩ := hc
  rw [show g_n0 M1 [.inr (ci, fs)] = 1 by simp [g_n0, c7], c4] at hK
  have hcw := va_cnB (R := M.2.2.2.2.1) (s := s) (args := args) (own := M.2.2.1) (host := "TimedThreads") (index := idx) (y := y) (bytes := M1.1) (maxL := M1.2.1) (ret := none) (Ts := TT) (ws := Cond.code y M1.1 M1.2.1 none :: TT) (ws' := TT) (rm := M1.2.2.2.2.1) as.length C.2.2.2.2.2.1 (tg_in (fun w h => by
    simp only [List.mem_cons] at h
    rcases h with rfl | h <;> assumption)) rfl c5 c6 (C.2.2.2.2.2.2.2.2.2.2.1 _ hlk) (C.2.2.2.2.2.1 _ c2) c9 c10
  subst hst hw hk9 hn9
  have hL0 : ws0.length ≤ 1000 := by have := Nat.le_of_ble_eq_true hb; omega
  have hpre := g_pre (as := .ref 0 :: as) (is := [ws0.length]) (wc := [.inr (ci, fs)]) C hq hP hD hS (by simp [g_re, g_te, g_blank_map _ hfs]) rfl (by simp) rfl
  have has1 : as.map (g_tv fun j => ad (g_rn [ws0.length] j)) = as := g_blank_map _ has
  have has2 : as.map (g_tv ad) = as := g_blank_map _ has
  rw [List.map_cons, has1] at hpre
  refine g_afterI (ad := ad) (ws0 := ws0) (e0 := .inr (ci, fs)) (va_runIN (b := ad ws0.length) (As := as) (rest := rest.map (g_tv ad)) (nL := M.2.1) (Ts := TT) ⟨C.1, C.2.1, C.2.2.2.1, C.2.2.2.2.1, C.2.2.2.2.2.1⟩ hK ⟨hcw, hini, C.2.2.2.2.2.1 _ c1⟩ ⟨g_blind _ _ _ _ _ _, hpre⟩ rfl rfl hl.1 (by simp only [List.map_append, List.map_reverse, List.map_cons, has2]; rfl) (lv_room (by rw [List.map_map]; simp only [Function.comp_def, g_catv]; exact Nat.le_of_ble_eq_true hcat)) hd ⟨Nat.le_of_ble_eq_true hk8, Nat.le_of_ble_eq_true hn8⟩) (Nat.le_of_ble_eq_true hb) hk0 hk1 C.2.2.2.2.2.2.2.2.1 hP hD hS (fun ad1 H locs hq1 hP hD hS => ?_)
  rw [hw1] at hP hD
  have hq2 : g_eq n0 ad1 ad0 := fun i hi => by rw [hq1 i (by omega)]; exact hq i hi
  have h9 := kk p l e s m args below meth c D cid A n0 ad0 C ad1 ls H locs hq2 (by rw [g_vk_lv hq1 hlv]; exact hl) hP hD hS
  rw [g_vk_st hq1 hrs] at h9
  exact h9
theorem K.ofI {M : g_M} {y : MethodName} {as : List Value} {lv : List (Nat × Value)} {ws : List va_E} {r : Option Value} {ws' : List va_E} {B : Nat} (hy : plainFor y = true) (hy1 : y.name = "<init>") (hm : ¬ M.2.2.2.2.2.1 = 0) (hB : ws.length = B) (ho : M.2.2.1 = y.cls) (hn : Nat.ble (lg_sl as).length M.2.1 = true) (hlv : lv_args 0 as = lv) (h : GX (g_gd (g_PI B) (g_QR M r ws')) M 0 0 0 lv [] ws) : K M y as ws r ws' := by
  intro l D cid ad sz
  refine va_MetF (cc := M.1) (maxL := M.2.1) (ret := M.2.2.2.1) hy rfl ?_
  intro p e s m args below meth c s₁ Bd hml hv
  obtain ⟨rfl, hsz, hP, hK, hD0, hB9, hN⟩ := hv
  have hts := atoms_spec (ws := Cond.code y M.1 M.2.1 M.2.2.2.1 :: TT) Bd.pre
  have hown : s.vm.findClass y.cls = some m.cls := findClass_of_methodNamed Bd.named
  have hname : meth.name = "<init>" := (name_of_methodNamed Bd.named Bd.method).1.trans hy1
  subst hsz
  have hD := hD0.self (sz := s.heap.size)
  have hl := lv_entry (as.map (g_tv ad)) (n := M.2.1) (by rw [g_sl]; exact Nat.le_of_ble_eq_true hn)
  rw [lg_entry_eq]
  rw [g_args, hlv] at hl
  have h9 := h p l e s m _ below meth c D cid (va_A (g_mk ad cid ws) s.heap.size) (g_n0 M ws) ad ⟨Bd.exec, Bd.bytes, Bd.returns, hml, ho ▸ hown, fun w hw => hts w (List.mem_cons_of_mem _ hw), Bd.notSynchronized, hK, fun q hq => Or.inr hq, hB9, hN⟩ ad _ s.heap [] (fun _ _ => rfl) hl hP hD va_S.rf
  intro T hT X
  obtain ⟨t, a, b⟩ := h9 T hT X
  exact ⟨t, a, b ⟨hname, by rw [← hB]; simp [g_n0, hm]⟩⟩

theorem G.newL {M : g_M} {k n pc : Nat} {lv : List (Nat × Value)} {st : List Value} {ws : List va_E} {P : g_PT} {Q : g_QT} {idx ci N : Nat} {fs : List Value} (L k1 n1 : Nat) (ws1 : List va_E) (hd : decode M.1 pc = .ok (.new idx, 3)) (hf : g_new M.2.2.1 idx ci N fs) (hLl : Nat.beq ws.length L = true) (hw1 : ws ++ [.inr (ci, fs)] = ws1) (hk1 : k + 1 = k1) (hn1 : n + N = n1) (hbl : fs.all g_blank = true) (hPn : g_Pn P L) (hL : Nat.ble (L + 1) 1000 = true) (hlv : lv.all (fun q => g_vk L q.2) = true) (hst : st.all (g_vk L) = true) (hws : g_eks L ws) (hk : Nat.ble k1 M.2.2.2.2.1.cells = true) (hn : Nat.ble n1 M.2.2.2.2.1.slots = true) (kk : GX (g_gd P Q) M k1 n1 (pc + 3) lv (.ref L :: st) ws1) : GX (g_gd P Q) M k n pc lv st ws := by
  have e := Nat.eq_of_beq_eq_true hLl
  subst e hw1 hk1 hn1
  exact G.new hd hf hbl hPn hL hlv hst hws hk hn kk
theorem G.newarrayL {M : g_M} {k n pc : Nat} {lv : List (Nat × Value)} {st : List Value} {ws : List va_E} {P : g_PT} {Q : g_QT} {at9 : ArrayType} {t N : Nat} {ty : FieldType} {x : (Nat → Int32) ⊕ (Nat → Int64) ⊕ (Nat → UInt32) ⊕ (Nat → UInt64) ⊕ (Nat → Option Nat)} {v : Int32} (L k1 n1 : Nat) (ws1 : List va_E) (hd : decode M.1 pc = .ok (.newarray at9, 2)) (hty : newarray.typeOf at9 = ty) (hw : Cond.arrayClass ty ∈ TT) (hLl : Nat.beq ws.length L = true) (hw1 : ws ++ [.inl (t, N, x)] = ws1) (hk1 : k + 1 = k1) (hn1 : n + N = n1) (ht : ∀ cid : Nat → ClassId, (g_tys cid)[t]? = some (cid t, ty)) (hx : ∀ ad : Nat → Nat, g_ta ad (N, x) = (N, x)) (ha : ∀ cA : ClassId, vp_cell cA (N, x) = arrV cA N (fun _ => defaultValue ty)) (hv : ¬ v < 0) (hN : v.toNatClampNeg = N) (hby : N * componentBytes ty ≤ 536870912) (hek : g_ek L (.inl (t, N, x))) (hPn : g_Pn P L) (hL : Nat.ble (L + 1) 1000 = true) (hlv : lv.all (fun q => g_vk L q.2) = true) (hst : st.all (g_vk L) = true) (hws : g_eks L ws) (hk : Nat.ble k1 M.2.2.2.2.1.cells = true) (hn : Nat.ble n1 M.2.2.2.2.1.slots = true) (kk : GX (g_gd P Q) M k1 n1 (pc + 2) lv (.ref L :: st) ws1) : GX (g_gd P Q) M k n pc lv (.int v :: st) ws := by
  have e := Nat.eq_of_beq_eq_true hLl
  subst e hw1 hk1 hn1
  exact G.newarray hd hty hw ht hx ha hv hN hby hek hPn hL hlv hst hws hk hn kk
theorem G.anewarrayL {M : g_M} {k n pc : Nat} {lv : List (Nat × Value)} {st : List Value} {ws : List va_E} {P : g_PT} {Q : g_QT} {idx N : Nat} {v : Int32} (L k1 n1 : Nat) (ws1 : List va_E) (hd : decode M.1 pc = .ok (.anewarray idx, 3)) (hw : Cond.classLink M.2.2.1 idx "TimedThreads$TimedThread" ∈ TT) (hLl : Nat.beq ws.length L = true) (hw1 : ws ++ [.inl (3, N, .inr (.inr (.inr (.inr (fun _ => none)))))] = ws1) (hk1 : k + 1 = k1) (hn1 : n + N = n1) (hv : ¬ v < 0) (hN : v.toNatClampNeg = N) (hby : N * 4 ≤ 536870912) (hPn : g_Pn P L) (hL : Nat.ble (L + 1) 1000 = true) (hlv : lv.all (fun q => g_vk L q.2) = true) (hst : st.all (g_vk L) = true) (hws : g_eks L ws) (hk : Nat.ble k1 M.2.2.2.2.1.cells = true) (hn : Nat.ble n1 M.2.2.2.2.1.slots = true) (kk : GX (g_gd P Q) M k1 n1 (pc + 3) lv (.ref L :: st) ws1) : GX (g_gd P Q) M k n pc lv (.int v :: st) ws := by
  have e := Nat.eq_of_beq_eq_true hLl
  subst e hw1 hk1 hn1
  exact G.anewarray hd hw hv hN hby hPn hL hlv hst hws hk hn kk
theorem G.callIL {M : g_M} {k n pc : Nat} {lv : List (Nat × Value)} {st : List Value} {ws : List va_E} {P : g_PT} {Q : g_QT} {M1 : g_M} {y : MethodName} {as rest : List Value} {ws0 wc1 ws1 : List va_E} {idx ci : Nat} {fs : List Value} {k1 n1 : Nat} (L : Nat) (hd : decode M.1 pc = .ok (.invokespecial idx, 3)) (hlk : Cond.methodLink M.2.2.1 idx y ∈ TT) (hc : g_cd M M1 y as.length) (hM : K M1 y (.ref 0 :: as) [.inr (ci, fs)] none wc1) (hLl : Nat.beq ws0.length L = true) (hst : as.reverse ++ .ref L :: rest = st) (hw : ws0 ++ [.inr (ci, fs)] = ws) (hfs : fs.all g_blank = true) (has : as.all g_blank = true) (hPn : g_Pn P (L + 1)) (hb : Nat.ble (L + wc1.length) 1000 = true) (hlv : lv.all (fun q => g_vk (L + 1) q.2) = true) (hrs : rest.all (g_vk (L + 1)) = true) (hk0 : g_eks (L + 1) ws0) (hk1 : g_eks wc1.length wc1) (hk9 : k + M1.2.2.2.2.2.1 = k1) (hn9 : n + M1.2.2.2.2.2.2 = n1) (hk8 : Nat.ble k1 M.2.2.2.2.1.cells = true) (hn8 : Nat.ble n1 M.2.2.2.2.1.slots = true) (hcat : Nat.ble (rest.map fun v => v.category).sum 8 = true) (hw1 : ws0 ++ wc1.map (g_te (g_sf L) (fun x => x)) = ws1) (kk : GX (g_gd P Q) M k1 n1 (pc + 3) lv rest ws1) : GX (g_gd P Q) M k n pc lv st ws := by
  have e := Nat.eq_of_beq_eq_true hLl
  subst e
  exact G.callI hd hlk hc hM hst hw hfs has hPn hb hlv hrs hk0 hk1 hk9 hn9 hk8 hn8 hcat hw1 kk
theorem G.callINL {M : g_M} {k n pc : Nat} {lv : List (Nat × Value)} {st : List Value} {ws : List va_E} {P : g_PT} {Q : g_QT} {M1 : g_M} {y : MethodName} {as rest : List Value} {ws0 wc1 ws1 : List va_E} {idx ci : Nat} {fs : List Value} {k1 n1 : Nat} (L : Nat) (hd : decode M.1 pc = .ok (.invokespecial idx, 3)) (hlk : Cond.methodLinkNest M.2.2.1 idx y "TimedThreads" ∈ g_nn) (hc : g_cd M M1 y as.length) (hM : K M1 y (.ref 0 :: as) [.inr (ci, fs)] none wc1) (hLl : Nat.beq ws0.length L = true) (hst : as.reverse ++ .ref L :: rest = st) (hw : ws0 ++ [.inr (ci, fs)] = ws) (hfs : fs.all g_blank = true) (has : as.all g_blank = true) (hPn : g_Pn P (L + 1)) (hb : Nat.ble (L + wc1.length) 1000 = true) (hlv : lv.all (fun q => g_vk (L + 1) q.2) = true) (hrs : rest.all (g_vk (L + 1)) = true) (hk0 : g_eks (L + 1) ws0) (hk1 : g_eks wc1.length wc1) (hk9 : k + M1.2.2.2.2.2.1 = k1) (hn9 : n + M1.2.2.2.2.2.2 = n1) (hk8 : Nat.ble k1 M.2.2.2.2.1.cells = true) (hn8 : Nat.ble n1 M.2.2.2.2.1.slots = true) (hcat : Nat.ble (rest.map fun v => v.category).sum 8 = true) (hw1 : ws0 ++ wc1.map (g_te (g_sf L) (fun x => x)) = ws1) (kk : GX (g_gd P Q) M k1 n1 (pc + 3) lv rest ws1) : GX (g_gd P Q) M k n pc lv st ws := by
  have e := Nat.eq_of_beq_eq_true hLl
  subst e
  exact G.callIN hd hlk hc hM hst hw hfs has hPn hb hlv hrs hk0 hk1 hk9 hn9 hk8 hn8 hcat hw1 kk
