theorem g_B.atx {ad ad1 : Nat → Nat} {A : Nat → Prop} {U : State} {H : Heap} (h : g_B ad A U H) (he : ∀ i, 1000 ≤ i → i ≠ 1050 → ad1 i = ad i) : g_B ad1 A U H := by
  obtain ⟨h1, h2, h3, h4, h5, h6⟩ := h
  refine ⟨?_, ?_, ?_, ?_, ?_, by rw [he 1004 (by omega) (by omega)]; exact h6⟩
  · intro q hq
    have h9 := h1 q hq
    rcases hq with ⟨i, hi, rfl⟩ | rfl | rfl
    · simp only [g_tv, he (1000 + i) (by omega) (by omega)]; exact h9
    · simp only [g_tv, he 1003 (by omega) (by omega)]; exact h9
    · exact h9
  · intro q hq
    have h9 := h2 q hq
    obtain ⟨i, hi, rfl⟩ := hq
    rw [show ad1 (1200 + i) = ad (1200 + i) from he _ (by omega) (by omega)]; exact h9
  · intro q hq
    have h9 := h3 q hq
    rcases hq with ⟨i, hi, rfl | rfl | rfl⟩ | ⟨i, hi, rfl | rfl⟩
    · simp only [g_tv, he (1100 + i) (by omega) (by omega)]; exact h9
    · simp only [g_tv, he (1100 + i) (by omega) (by omega)]; exact h9
    · simp only [g_tv, he (1100 + i) (by omega) (by omega), he (1200 + m_str.getD i 0) (by omega) (by omega)]; exact h9
    · simp only [g_tv, he (1200 + i) (by omega) (by omega)]; exact h9
    · simp only [g_tv, he (1200 + i) (by omega) (by omega), he (1300 + i) (by omega) (by omega)]; exact h9
  · intro q hq
    have h9 := h4 q hq
    rcases hq with rfl | ⟨i, hi, rfl⟩
    · have e1 : (fun j => g_tv ad1 (Value.ref (1100 + j))) = fun j => g_tv ad (Value.ref (1100 + j)) := funext fun j => by simp only [g_tv, he (1100 + j) (by omega) (by omega)]
      show va_T _ (ad1 1003) _ (fun j => g_tv ad1 (Value.ref (1100 + j))) _ _ _
      rw [e1, he 1003 (by omega) (by omega)]; exact h9
    · show va_T _ (ad1 (1300 + i)) _ _ _ _ _
      rw [he (1300 + i) (by omega) (by omega)]; exact h9
  · intro i j hi hj
    rw [he (1000 + i) (by omega) (by omega), he (1000 + j) (by omega) (by omega)]
    exact h5 i j hi hj
/-- cells that don't name the free place -/
def g_vq (v : Value) : Bool := match v with
  | .ref i => !(Nat.beq i 1050)
  | _ => true
def g_aq (f : Nat → Option Nat) : Prop := ∀ j i, f j = some i → i ≠ 1050
def g_cq (e : va_E) : Prop := match e with
  | .inl (_, _, .inr (.inr (.inr (.inr f)))) => g_aq f
  | .inl _ => True
  | .inr o => o.2.all g_vq = true
def g_cqs : List va_E → Prop
  | [] => True
  | e :: es => g_cq e ∧ g_cqs es
theorem g_aq_none : g_aq (fun _ => none) := fun _ _ h => by cases h
theorem g_aq_up {f : Nat → Option Nat} (h : g_aq f) {k i : Nat} (hi : Nat.beq i 1050 = false) : g_aq (va_up f k (some i)) := by
  intro j x hx
  unfold va_up at hx
  by_cases hj : j = k
  · rw [if_pos hj] at hx
    cases hx
    exact Nat.ne_of_beq_eq_false hi
  · rw [if_neg hj] at hx
    exact h j x hx
theorem g_vq_tv {ad ad' : Nat → Nat} (hq : ∀ i, i ≠ 1050 → ad' i = ad i) {v : Value} (h : g_vq v = true) : g_tv ad' v = g_tv ad v := by
  cases v <;> try rfl
  rename_i i
  simp only [g_vq, Bool.not_eq_true'] at h
  simp only [g_tv]
  rw [hq i (Nat.ne_of_beq_eq_false h)]
theorem g_cq_te {ad ad' : Nat → Nat} (cid : Nat → ClassId) (hq : ∀ i, i ≠ 1050 → ad' i = ad i) {e : va_E} (h : g_cq e) : g_te ad' cid e = g_te ad cid e := by
  rcases e with ⟨t, n, x⟩ | ⟨ci, fs⟩
  · rcases x with x | x | x | x | f <;> try rfl
    have e1 : (fun j => (f j).map ad') = fun j => (f j).map ad := by
      funext j
      cases hj : f j with
      | none => rfl
      | some i => rw [Option.map_some, Option.map_some, hq i (h j i hj)]
    show Sum.inl _ = Sum.inl _
    simp only [g_ta]
    rw [e1]
  · show Sum.inr _ = Sum.inr _
    have e1 : fs.map (g_tv ad') = fs.map (g_tv ad) := List.map_congr_left (fun v hv => g_vq_tv hq (List.all_eq_true.mp h v hv))
    simp only [e1]
theorem g_cqs_get : ∀ {ws : List va_E} {i : Nat} {e : va_E}, g_cqs ws → ws[i]? = some e → g_cq e
  | [], _, _, _, h => by simp at h
  | e0 :: es, 0, e, h, h1 => by
    simp at h1
    rw [← h1]; exact h.1
  | e0 :: es, i + 1, e, h, h1 => g_cqs_get h.2 (by simpa using h1)
theorem g_cqs_mk {ad ad' : Nat → Nat} (cid : Nat → ClassId) (hq : ∀ i, i ≠ 1050 → ad' i = ad i) {ws : List va_E} {e : va_E} (hb : ws.length ≤ 1000) (h : g_cqs ws) (he : g_cq e) : g_mk ad' cid (ws ++ [e]) = g_mk ad cid (ws ++ [e]) := by
  rw [g_mk_app, g_mk_app, g_cq_te cid hq he, hq ws.length (by omega)]
  congr 1
  apply List.ext_getElem?
  intro i
  simp only [g_mk, List.getElem?_mapIdx]
  cases hi : ws[i]? with
  | none => rfl
  | some e =>
    have := (List.getElem?_eq_some_iff.mp hi).1
    rw [Option.map_some, Option.map_some, g_cq_te cid hq (g_cqs_get h hi), hq i (by omega)]
theorem g_blank_cq {ci : Nat} {fs : List Value} (h : fs.all g_blank = true) : g_cq (.inr (ci, fs)) := by
  show fs.all g_vq = true
  rw [List.all_eq_true] at h ⊢
  intro v hv
  have := h v hv
  cases v <;> first | rfl | cases this
/-- the free place stands for t -/
def g_al (t i : Nat) : Nat := if i = 1050 then t else i
theorem g_nx_at (ad : Nat → Nat) (L q : Nat) : g_nx ad L q L = q := if_pos rfl
theorem g_nx_ne (ad : Nat → Nat) {L : Nat} (q : Nat) {i : Nat} (h : i ≠ L) : g_nx ad L q i = ad i := if_neg h
theorem G.callIA {M : g_M} {k n pc : Nat} {lv : List (Nat × Value)} {st : List Value} {ws : List va_E} {P : g_PT} {Q : g_QT} {M1 : g_M} {y : MethodName} {rest : List Value} {ws0 wc1 ws1 : List va_E} {idx ci t : Nat} {fs : List Value} {k1 n1 : Nat} (hd : decode M.1 pc = .ok (.invokespecial idx, 3)) (hlk : Cond.methodLink M.2.2.1 idx y ∈ TT) (hc : g_cd M M1 y 1) (hM : K M1 y [.ref 0, .ref 1050] [.inr (ci, fs)] none wc1) (hst : .ref t :: .ref ws0.length :: rest = st) (hw : ws0 ++ [.inr (ci, fs)] = ws) (hfs : fs.all g_blank = true) (ht : t < ws0.length ∨ t = 1050) (hPn : g_Pn P (ws0.length + 1)) (hb : Nat.ble (ws0.length + wc1.length) 1000 = true) (hlv : lv.all (fun q => g_vk (ws0.length + 1) q.2) = true) (hrs : rest.all (g_vk (ws0.length + 1)) = true) (hk0 : g_eks (ws0.length + 1) ws0) (hx0 : g_cqs ws0) (hk1 : g_eks wc1.length wc1) (hk9 : k + M1.2.2.2.2.2.1 = k1) (hn9 : n + M1.2.2.2.2.2.2 = n1) (hk8 : Nat.ble k1 M.2.2.2.2.1.cells = true) (hn8 : Nat.ble n1 M.2.2.2.2.1.slots = true) (hcat : Nat.ble (rest.map fun v => v.category).sum 8 = true) (hw1 : ws0 ++ (wc1.map (g_te (g_sf ws0.length) (fun x => x))).map (g_te (g_al t) (fun x => x)) = ws1) (kk : GX (g_gd P Q) M k1 n1 (pc + 3) lv rest ws1) : GX (g_gd P Q) M k n pc lv st ws := by
  refine GX.byP (fun p l e s m args below meth c D cid A n0 ad0 hp C ad ls H locs hq hl hP hD hS => ?_)
  have hn0 := hPn _ _ _ _ _ _ _ _ _ _ _ _ _ _ hp
  have hbb := Nat.le_of_ble_eq_true hb
  have hL0 : ws0.length ≤ 1000 := by omega
  obtain ⟨ad2, hA2⟩ : ∃ a : Nat → Nat, a = g_nx ad 1050 (ad t) := ⟨_, rfl⟩
  have e2 : ∀ i, i ≠ 1050 → ad2 i = ad i := fun i h => by rw [hA2]; exact g_nx_ne ad _ h
  have e2t : ad2 1050 = ad t := by rw [hA2]; exact g_nx_at ad _ _
  have hK := hM l D cid (fun j => ad2 (g_rn [ws0.length] j)) H.size
  obtain ⟨c1, c2, c3, c4, hini, ⟨c5, c6, c7⟩, c9, c10⟩ := hc
  rw [show g_n0 M1 [.inr (ci, fs)] = 1 by simp [g_n0, c7], c4] at hK
  have hcw := cwI (R := M.2.2.2.2.1) (s := s) (args := args) (own := M.2.2.1) (index := idx) (y := y) (bytes := M1.1) (maxL := M1.2.1) (Ts := TT) (ws := Cond.code y M1.1 M1.2.1 none :: TT) (ws' := TT) (rm := M1.2.2.2.2.1) 1 C.2.2.2.2.2.1 (tg_in (fun w h => by
    simp only [List.mem_cons] at h
    rcases h with rfl | h <;> assumption)) rfl c5 c6 (C.2.2.2.2.2.1 _ c2) (C.2.2.2.2.2.1 _ hlk) (C.2.2.2.2.2.1 _ c1) hini c9 c10
  subst hst hw hk9 hn9
  have C2 : g_Cx M p s m args meth c D cid A (g_nx ad0 1050 (ad t)) := ⟨C.1, C.2.1, C.2.2.1, C.2.2.2.1, C.2.2.2.2.1, C.2.2.2.2.2.1, C.2.2.2.2.2.2.1, C.2.2.2.2.2.2.2.1, C.2.2.2.2.2.2.2.2.1, C.2.2.2.2.2.2.2.2.2.1.atx (fun i _ h => g_nx_ne ad0 _ h), C.2.2.2.2.2.2.2.2.2.2⟩
  have hq2 : g_eq n0 ad2 (g_nx ad0 1050 (ad t)) := fun i hi => by
    by_cases h : i = 1050
    · rw [h, e2t, g_nx_at]
    · rw [e2 i h, g_nx_ne ad0 _ h]; exact hq i hi
  have emk : g_mk ad2 cid (ws0 ++ [.inr (ci, fs)]) = g_mk ad cid (ws0 ++ [.inr (ci, fs)]) := g_cqs_mk cid e2 hL0 hx0 (g_blank_cq hfs)
  have hP2 : va_P D vwCl (g_mk ad2 cid (ws0 ++ [.inr (ci, fs)])) H := by rw [emk]; exact hP
  have hD2 : va_D A (g_mk ad2 cid (ws0 ++ [.inr (ci, fs)])) := by rw [emk]; exact hD
  have hpre := g_pre (as := [.ref 0, .ref 1050]) (is := [ws0.length]) (wc := [.inr (ci, fs)]) C2 hq2 hP2 hD2 hS (by simp [g_re, g_te, g_blank_map _ hfs]) rfl (by simp) rfl
  have hbL : ad2 ws0.length = ad ws0.length := e2 _ (by omega)
  have h50 : g_rn [ws0.length] 1050 = 1050 := by simp [g_rn]
  have hAs : ([.ref 0, .ref 1050] : List Value).map (g_tv fun j => ad2 (g_rn [ws0.length] j)) = .ref (ad2 ws0.length) :: [.ref (ad t)] := by
    simp only [List.map_cons, List.map_nil, g_tv, h50, e2t]
    rfl
  rw [hAs] at hpre
  refine g_afterI (ad := ad2) (ws0 := ws0) (e0 := .inr (ci, fs)) (va_runI (b := ad2 ws0.length) (As := [.ref (ad t)]) (rest := rest.map (g_tv ad)) (nL := M.2.1) (Ts := TT) ⟨C.1, C.2.1, C.2.2.2.1, C.2.2.2.2.1, C.2.2.2.2.2.1⟩ hK hcw ⟨g_blind _ _ _ _ _ _, hpre⟩ rfl rfl hl.1 (by simp only [List.map_cons, g_tv, hbL]; rfl) (lv_room (by rw [List.map_map]; simp only [Function.comp_def, g_catv]; exact Nat.le_of_ble_eq_true hcat)) hd ⟨Nat.le_of_ble_eq_true hk8, Nat.le_of_ble_eq_true hn8⟩) hbb hk0 hk1 C.2.2.2.2.2.2.2.2.1 hP2 hD2 hS (fun ad1 H1 locs hq1 hP hD hS => ?_)
  obtain ⟨ad3, hA3⟩ : ∃ a : Nat → Nat, a = g_nx ad1 1050 (ad 1050) := ⟨_, rfl⟩
  have e3 : ∀ i, i ≠ 1050 → ad3 i = ad1 i := fun i h => by rw [hA3]; exact g_nx_ne ad1 _ h
  have e3t : ad3 1050 = ad 1050 := by rw [hA3]; exact g_nx_at ad1 _ _
  have hal : (fun i => ad3 (g_al t i)) = ad1 := funext fun i => by
    show ad3 (g_al t i) = ad1 i
    unfold g_al
    by_cases h : i = 1050
    · rw [if_pos h, h, hq1 1050 (Or.inr (by omega)), e2t]
      rcases ht with ht | ht
      · rw [e3 t (by omega), hq1 t (Or.inl (by omega)), e2 t (by omega)]
      · rw [ht, e3t]
    · rw [if_neg h]; exact e3 i h
  have emk3 : g_mk ad3 cid ws1 = g_mk ad1 cid (ws0 ++ wc1.map (g_te (g_sf ws0.length) (fun x => x))) := by
    rw [← hw1]
    apply List.ext_getElem?
    intro i
    simp only [g_mk, List.getElem?_mapIdx]
    by_cases hi : i < ws0.length
    · rw [List.getElem?_append_left hi, List.getElem?_append_left hi, List.getElem?_eq_getElem hi, Option.map_some, Option.map_some, g_cq_te cid e3 (g_cqs_get hx0 (List.getElem?_eq_getElem hi)), e3 i (by omega)]
    · rw [List.getElem?_append_right (by omega), List.getElem?_append_right (by omega), List.getElem?_map]
      cases h9 : (wc1.map (g_te (g_sf ws0.length) (fun x => x)))[i - ws0.length]? with
      | none => rfl
      | some e9 =>
        have h8 := (List.getElem?_eq_some_iff.mp h9).1
        rw [List.length_map] at h8
        simp only [Option.map_some]
        rw [g_te_te ad3 (g_al t) cid e9, hal, e3 i (by omega)]
  have hq3 : ∀ i, i < ws0.length + 1 ∨ 1000 ≤ i → ad3 i = ad i := fun i hi => by
    by_cases h : i = 1050
    · rw [h, e3t]
    · rw [e3 i h, hq1 i hi, e2 i h]
  have hq9 : g_eq n0 ad3 ad0 := fun i hi => by rw [hq3 i (by omega)]; exact hq i hi
  have h9 := kk p l e s m args below meth c D cid A n0 ad0 C ad3 ls H1 locs hq9 (by rw [g_vk_lv hq3 hlv]; exact hl) (by rw [emk3]; exact hP) (by rw [emk3]; exact hD) hS
  rw [g_vk_st hq3 hrs] at h9
  exact h9
theorem G.callIAL {M : g_M} {k n pc : Nat} {lv : List (Nat × Value)} {st : List Value} {ws : List va_E} {P : g_PT} {Q : g_QT} {M1 : g_M} {y : MethodName} {rest : List Value} {ws0 wc1 ws1 : List va_E} {idx ci t : Nat} {fs : List Value} {k1 n1 : Nat} (L : Nat) (hd : decode M.1 pc = .ok (.invokespecial idx, 3)) (hlk : Cond.methodLink M.2.2.1 idx y ∈ TT) (hc : g_cd M M1 y 1) (hM : K M1 y [.ref 0, .ref 1050] [.inr (ci, fs)] none wc1) (hLl : Nat.beq ws0.length L = true) (hst : .ref t :: .ref L :: rest = st) (hw : ws0 ++ [.inr (ci, fs)] = ws) (hfs : fs.all g_blank = true) (ht : (Nat.ble (t + 1) L || Nat.beq t 1050) = true) (hPn : g_Pn P (L + 1)) (hb : Nat.ble (L + wc1.length) 1000 = true) (hlv : lv.all (fun q => g_vk (L + 1) q.2) = true) (hrs : rest.all (g_vk (L + 1)) = true) (hk0 : g_eks (L + 1) ws0) (hx0 : g_cqs ws0) (hk1 : g_eks wc1.length wc1) (hk9 : k + M1.2.2.2.2.2.1 = k1) (hn9 : n + M1.2.2.2.2.2.2 = n1) (hk8 : Nat.ble k1 M.2.2.2.2.1.cells = true) (hn8 : Nat.ble n1 M.2.2.2.2.1.slots = true) (hcat : Nat.ble (rest.map fun v => v.category).sum 8 = true) (hw1 : ws0 ++ (wc1.map (g_te (g_sf L) (fun x => x))).map (g_te (g_al t) (fun x => x)) = ws1) (kk : GX (g_gd P Q) M k1 n1 (pc + 3) lv rest ws1) : GX (g_gd P Q) M k n pc lv st ws := by
  have e := Nat.eq_of_beq_eq_true hLl
  subst e
  rw [Bool.or_eq_true] at ht
  exact G.callIA hd hlk hc hM hst hw hfs (ht.imp (fun h => g_lt h) (fun h => Nat.eq_of_beq_eq_true h)) hPn hb hlv hrs hk0 hx0 hk1 hk9 hn9 hk8 hn8 hcat hw1 kk
