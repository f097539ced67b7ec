theorem g_ex20 {A0 A1 A2 A3 A4 A5 A6 A7 A8 A9 A10 A11 A12 A13 A14 A15 A16 A17 A18 A19 : Type} (p : A0 × A1 × A2 × A3 × A4 × A5 × A6 × A7 × A8 × A9 × A10 × A11 × A12 × A13 × A14 × A15 × A16 × A17 × A18 × A19) : ∃ (a0 : A0) (a1 : A1) (a2 : A2) (a3 : A3) (a4 : A4) (a5 : A5) (a6 : A6) (a7 : A7) (a8 : A8) (a9 : A9) (a10 : A10) (a11 : A11) (a12 : A12) (a13 : A13) (a14 : A14) (a15 : A15) (a16 : A16) (a17 : A17) (a18 : A18) (a19 : A19), (a0, a1, a2, a3, a4, a5, a6, a7, a8, a9, a10, a11, a12, a13, a14, a15, a16, a17, a18, a19) = p := ⟨p.1, p.2.1, p.2.2.1, p.2.2.2.1, p.2.2.2.2.1, p.2.2.2.2.2.1, p.2.2.2.2.2.2.1, p.2.2.2.2.2.2.2.1, p.2.2.2.2.2.2.2.2.1, p.2.2.2.2.2.2.2.2.2.1, p.2.2.2.2.2.2.2.2.2.2.1, p.2.2.2.2.2.2.2.2.2.2.2.1, p.2.2.2.2.2.2.2.2.2.2.2.2.1, p.2.2.2.2.2.2.2.2.2.2.2.2.2.1, p.2.2.2.2.2.2.2.2.2.2.2.2.2.2.1, p.2.2.2.2.2.2.2.2.2.2.2.2.2.2.2.1, p.2.2.2.2.2.2.2.2.2.2.2.2.2.2.2.2.1, p.2.2.2.2.2.2.2.2.2.2.2.2.2.2.2.2.2.1, p.2.2.2.2.2.2.2.2.2.2.2.2.2.2.2.2.2.2.1, p.2.2.2.2.2.2.2.2.2.2.2.2.2.2.2.2.2.2.2, rfl⟩
set_option maxHeartbeats 8000000 in
set_option maxRecDepth 20000 in
theorem law_assemble {L : Nat} {xs : Nat → Int32} {it k n : Nat} {i : Int32} (hL : L ≤ 2049) (hi : 1 ≤ i.toInt ∧ i.toInt + 4 ≤ L) (hk : k ≤ 600000) (hn : n ≤ 7000000) (hit : it ≤ 512) (nxt : ∀ k1 n1 : Nat, k1 ≤ k + 1 → n1 ≤ n + 6 → gLP L xs (it + 1) k1 n1 684 i) : gLP L xs it k n 233 i := by
  intro refusal wheel now length at_ fault faultLine line words labels targets wrong unfit text code_ label labelWord target targetWord targetLine store common low high register address status did ready timer trace xnext xret acount aat alabel ahas aword atarget amal amis awords atargets alines lcount lkeys lplaces kcount kat kinds kvals out hB
  refine G.aload_n (pc := 233) dm_L_law_233 rfl ?_
  refine G.aload_n (pc := 234) dm_L_law_234 rfl ?_
  refine G.iload (pc := 235) dm_L_law_235 rfl ?_
  refine G.iconst (pc := 237) (v := (1 : Int32)) dm_L_law_237 qi_1 ?_
  refine G.iadd (pc := 238) dm_L_law_238 ?_
  refine G.sld (pc := 239) (g_PL_s L xs) dm_L_law_239 (q_sc hi hL (by decide)) ?_
  refine G.aload_n (pc := 240) dm_L_law_240 rfl ?_
  refine G.iload (pc := 241) dm_L_law_241 rfl ?_
  refine G.iconst (pc := 243) (v := (2 : Int32)) dm_L_law_243 qi_2 ?_
  refine G.iadd (pc := 244) dm_L_law_244 ?_
  refine G.sld (pc := 245) (g_PL_s L xs) dm_L_law_245 (q_sc hi hL (by decide)) ?_
  refine G.aload_n (pc := 246) dm_L_law_246 rfl ?_
  by_cases hb : f_X10_isStoreWord (xs (Int32.toNatClampNeg (i + (1 : Int32)))) (xs (Int32.toNatClampNeg (i + (2 : Int32)))) = 0
  · refine G.callSE0 (pc := 247) (n9 := 68) (k1 := k + 1) (n1 := n + 6) (rest := []) (st1 := [.int (1 : Int32)]) nd68 rfl rfl rfl (g_PL_x L xs) dm_L_law_247 ge_L_law_49 (k_L_assemble_a (thread := (xs (Int32.toNatClampNeg (i + (1 : Int32))))) (word := (xs (Int32.toNatClampNeg (i + (2 : Int32))))) (B := ((w_M refusal wheel now length at_ fault faultLine line words labels targets wrong unfit text code_ label labelWord target targetWord targetLine store common low high register address status did ready timer trace).map (g_re (g_iB 48 19)))) rfl hb) rfl rfl rfl (by show k + 1 ≤ 601024; omega) (by show n + 6 ≤ 7293000; omega) rfl rfl ?_
    refine G.istore (pc := 250) (lv1 := [(5, .int (1 : Int32)), (4, .int i), (0, .ref 2000), (1, .ref 0), (2, .ref 48), (3, .ref 67)]) dm_L_law_250 rfl rfl ?_
    refine G.aload_n (pc := 252) dm_L_law_252 rfl ?_
    refine G.aload_n (pc := 253) dm_L_law_253 rfl ?_
    refine G.iload (pc := 254) dm_L_law_254 rfl ?_
    refine G.iconst (pc := 256) (v := (1 : Int32)) dm_L_law_256 qi_1 ?_
    refine G.iadd (pc := 257) dm_L_law_257 ?_
    refine G.sld (pc := 258) (g_PL_s L xs) dm_L_law_258 (q_sc hi hL (by decide)) ?_
    refine G.aload_n (pc := 259) dm_L_law_259 rfl ?_
    refine G.iload (pc := 260) dm_L_law_260 rfl ?_
    refine G.iconst (pc := 262) (v := (2 : Int32)) dm_L_law_262 qi_2 ?_
    refine G.iadd (pc := 263) dm_L_law_263 ?_
    refine G.sld (pc := 264) (g_PL_s L xs) dm_L_law_264 (q_sc hi hL (by decide)) ?_
    refine G.callVm (pc := 265) (n9 := 48) (k9 := 19) (rest := []) (st1 := [.int (0 : Int32)]) ndM rfl rfl rfl dm_L_law_265 gc_L_law_52 (k_X11_assemble (t := (xs (Int32.toNatClampNeg (i + (1 : Int32))))) (first := (xs (Int32.toNatClampNeg (i + (2 : Int32))))) hB.1 (e_asm_a hb).symm) rfl rfl rfl rfl (q_bleK (show k + 1 ≤ 601024 by omega)) (q_bleK (show n + 6 ≤ 7293000 by omega)) rfl rfl ?_
    refine G.istore (pc := 268) (lv1 := [(6, .int (0 : Int32)), (5, .int (1 : Int32)), (4, .int i), (0, .ref 2000), (1, .ref 0), (2, .ref 48), (3, .ref 67)]) dm_L_law_268 rfl rfl ?_
    refine G.aload_n (pc := 270) dm_L_law_270 rfl ?_
    refine G.callVm (pc := 271) (n9 := 48) (k9 := 19) (rest := []) (st1 := [.int (1 : Int32)]) ndM rfl rfl rfl dm_L_law_271 gc_L_law_41 (k_X11_thrown rfl) rfl rfl rfl rfl (q_bleK (show k + 1 ≤ 601024 by omega)) (q_bleK (show n + 6 ≤ 7293000 by omega)) rfl rfl ?_
    refine G.iload (pc := 274) dm_L_law_274 rfl ?_
    refine G.icmp_eq (pc := 276) (tgt := 281) dm_L_law_276 (by decide) (fun _ => ?_) (fun c => absurd rfl c)
    refine G.iload (pc := 281) dm_L_law_281 rfl ?_
    refine G.if_ne (pc := 283) (tgt := 298) dm_L_law_283 (by decide) (fun _ => ?_) (fun c => absurd c (by decide))
    refine G.goto (pc := 298) (tgt := 684) dm_L_law_298 (by decide) ?_
    refine G.lvp (lv1 := [(4, .int i), (0, .ref 2000), (1, .ref 0), (2, .ref 48), (3, .ref 67)]) [2, 3, 4, 5, 6] rfl ?_
    exact nxt (k + 1) (n + 6) (Nat.le_refl _) (Nat.le_refl _) _ _ _ _ _ _ _ _ _ _ _ _ _ _ _ _ _ _ _ _ _ _ _ _ _ _ _ _ _ _ _ _ _ _ _ _ _ _ _ _ _ _ _ _ _ _ _ _ _ _ _ _ hB.up
  · obtain ⟨r_0, r_1, r_2, r_3, r_4, r_5, r_6, r_7, r_8, r_9, r_10, r_11, r_12, r_13, r_14, r_15, r_16, r_17, r_18, r_19, hres⟩ := g_ex20 (f_X0_read (xs (Int32.toNatClampNeg (i + (2 : Int32)))) alabel ahas aword atarget amal amis awords atargets alines lkeys lplaces length kinds kvals text)
    obtain ⟨z0, z1, z2, z3, z4, z5, z6, z7, z8, z9, z10, z11, z12, z13, z14, z15, z16, z17, hz⟩ := g_ex18 (f_X11_assemble (xs (Int32.toNatClampNeg (i + (1 : Int32)))) (xs (Int32.toNatClampNeg (i + (2 : Int32)))) length at_ fault faultLine line words labels targets wrong unfit text code_ label labelWord target targetWord targetLine store)
    obtain ⟨e3, e4, hch, hx⟩ := e_asm hb hB.1 hB.2.2.2.2.2 hres hz
    subst e3 e4
    rcases hx with hx | hx
    · obtain ⟨hf, e1, e17⟩ := hx
      subst e1
      have e17s := e17.symm
      subst e17s
      refine G.callSE0 (pc := 247) (n9 := 68) (k1 := k + 1) (n1 := n + 6) (rest := []) (st1 := [.int (2 : Int32)]) nd68 rfl rfl rfl (g_PL_x L xs) dm_L_law_247 ge_L_law_49 (k_L_assemble_b (thread := (xs (Int32.toNatClampNeg (i + (1 : Int32))))) (word := (xs (Int32.toNatClampNeg (i + (2 : Int32))))) (B := ((w_M refusal wheel now length at_ fault faultLine line words labels targets wrong unfit text code_ label labelWord target targetWord targetLine store common low high register address status did ready timer trace).map (g_re (g_iB 48 19)))) rfl hb hB.1 hB.2.2.2.2.2 hres hf) rfl rfl rfl (by show k + 1 ≤ 601024; omega) (by show n + 6 ≤ 7293000; omega) rfl rfl ?_
      refine G.istore (pc := 250) (lv1 := [(5, .int (2 : Int32)), (4, .int i), (0, .ref 2000), (1, .ref 0), (2, .ref 48), (3, .ref 67)]) dm_L_law_250 rfl rfl ?_
      refine G.aload_n (pc := 252) dm_L_law_252 rfl ?_
      refine G.aload_n (pc := 253) dm_L_law_253 rfl ?_
      refine G.iload (pc := 254) dm_L_law_254 rfl ?_
      refine G.iconst (pc := 256) (v := (1 : Int32)) dm_L_law_256 qi_1 ?_
      refine G.iadd (pc := 257) dm_L_law_257 ?_
      refine G.sld (pc := 258) (g_PL_s L xs) dm_L_law_258 (q_sc hi hL (by decide)) ?_
      refine G.aload_n (pc := 259) dm_L_law_259 rfl ?_
      refine G.iload (pc := 260) dm_L_law_260 rfl ?_
      refine G.iconst (pc := 262) (v := (2 : Int32)) dm_L_law_262 qi_2 ?_
      refine G.iadd (pc := 263) dm_L_law_263 ?_
      refine G.sld (pc := 264) (g_PL_s L xs) dm_L_law_264 (q_sc hi hL (by decide)) ?_
      refine G.callVm (pc := 265) (n9 := 48) (k9 := 19) (rest := []) (st1 := [.int z0]) ndM rfl rfl rfl dm_L_law_265 gc_L_law_52 (k_X11_assemble (t := (xs (Int32.toNatClampNeg (i + (1 : Int32))))) (first := (xs (Int32.toNatClampNeg (i + (2 : Int32))))) hB.1 hz) rfl rfl rfl rfl (q_bleK (show k + 1 ≤ 601024 by omega)) (q_bleK (show n + 6 ≤ 7293000 by omega)) rfl rfl ?_
      refine G.istore (pc := 268) (lv1 := [(6, .int z0), (5, .int (2 : Int32)), (4, .int i), (0, .ref 2000), (1, .ref 0), (2, .ref 48), (3, .ref 67)]) dm_L_law_268 rfl rfl ?_
      refine G.aload_n (pc := 270) dm_L_law_270 rfl ?_
      refine G.callVm (pc := 271) (n9 := 48) (k9 := 19) (rest := []) (st1 := [.int (2 : Int32)]) ndM rfl rfl rfl dm_L_law_271 gc_L_law_41 (k_X11_thrown rfl) rfl rfl rfl rfl (q_bleK (show k + 1 ≤ 601024 by omega)) (q_bleK (show n + 6 ≤ 7293000 by omega)) rfl rfl ?_
      refine G.iload (pc := 274) dm_L_law_274 rfl ?_
      refine G.icmp_eq (pc := 276) (tgt := 281) dm_L_law_276 (by decide) (fun _ => ?_) (fun c => absurd rfl c)
      refine G.iload (pc := 281) dm_L_law_281 rfl ?_
      refine G.if_ne (pc := 283) (tgt := 298) dm_L_law_283 (by decide) (fun _ => ?_) (fun c => absurd c (by decide))
      refine G.goto (pc := 298) (tgt := 684) dm_L_law_298 (by decide) ?_
      refine G.lvp (lv1 := [(4, .int i), (0, .ref 2000), (1, .ref 0), (2, .ref 48), (3, .ref 67)]) [2, 3, 4, 5, 6] rfl ?_
      exact nxt (k + 1) (n + 6) (Nat.le_refl _) (Nat.le_refl _) _ _ _ _ _ _ _ _ _ _ _ _ _ _ _ _ _ _ _ _ _ _ _ _ _ _ _ _ _ _ _ _ _ _ _ _ _ _ _ _ _ _ _ _ _ _ _ _ _ _ _ _ ⟨hB.up.1, hB.up.2.1, hB.up.2.2.1, hB.up.2.2.2.1, hB.up.2.2.2.2.1, hch⟩
    · obtain ⟨hf, e0, e1, hr0, e17⟩ := hx
      subst e0 e1
      refine G.callSE0 (pc := 247) (n9 := 68) (k1 := k + 1) (n1 := n + 6) (rest := []) (st1 := [.int (0 : Int32)]) nd68 rfl rfl rfl (g_PL_x L xs) dm_L_law_247 ge_L_law_49 (k_L_assemble_c (thread := (xs (Int32.toNatClampNeg (i + (1 : Int32))))) (word := (xs (Int32.toNatClampNeg (i + (2 : Int32))))) (B := ((w_M refusal wheel now length at_ fault faultLine line words labels targets wrong unfit text code_ label labelWord target targetWord targetLine store common low high register address status did ready timer trace).map (g_re (g_iB 48 19)))) rfl hb hB.1 hB.2.2.2.2.2 hres hf hr0) rfl rfl rfl (by show k + 1 ≤ 601024; omega) (by show n + 6 ≤ 7293000; omega) rfl rfl ?_
      rw [← e17]
      refine G.istore (pc := 250) (lv1 := [(5, .int (0 : Int32)), (4, .int i), (0, .ref 2000), (1, .ref 0), (2, .ref 48), (3, .ref 67)]) dm_L_law_250 rfl rfl ?_
      refine G.aload_n (pc := 252) dm_L_law_252 rfl ?_
      refine G.aload_n (pc := 253) dm_L_law_253 rfl ?_
      refine G.iload (pc := 254) dm_L_law_254 rfl ?_
      refine G.iconst (pc := 256) (v := (1 : Int32)) dm_L_law_256 qi_1 ?_
      refine G.iadd (pc := 257) dm_L_law_257 ?_
      refine G.sld (pc := 258) (g_PL_s L xs) dm_L_law_258 (q_sc hi hL (by decide)) ?_
      refine G.aload_n (pc := 259) dm_L_law_259 rfl ?_
      refine G.iload (pc := 260) dm_L_law_260 rfl ?_
      refine G.iconst (pc := 262) (v := (2 : Int32)) dm_L_law_262 qi_2 ?_
      refine G.iadd (pc := 263) dm_L_law_263 ?_
      refine G.sld (pc := 264) (g_PL_s L xs) dm_L_law_264 (q_sc hi hL (by decide)) ?_
      refine G.callVm (pc := 265) (n9 := 48) (k9 := 19) (rest := []) (st1 := [.int z0]) ndM rfl rfl rfl dm_L_law_265 gc_L_law_52 (k_X11_assemble (t := (xs (Int32.toNatClampNeg (i + (1 : Int32))))) (first := (xs (Int32.toNatClampNeg (i + (2 : Int32))))) hB.1 hz) rfl rfl rfl rfl (q_bleK (show k + 1 ≤ 601024 by omega)) (q_bleK (show n + 6 ≤ 7293000 by omega)) rfl rfl ?_
      refine G.istore (pc := 268) (lv1 := [(6, .int z0), (5, .int (0 : Int32)), (4, .int i), (0, .ref 2000), (1, .ref 0), (2, .ref 48), (3, .ref 67)]) dm_L_law_268 rfl rfl ?_
      refine G.aload_n (pc := 270) dm_L_law_270 rfl ?_
      refine G.callVm (pc := 271) (n9 := 48) (k9 := 19) (rest := []) (st1 := [.int (0 : Int32)]) ndM rfl rfl rfl dm_L_law_271 gc_L_law_41 (k_X11_thrown rfl) rfl rfl rfl rfl (q_bleK (show k + 1 ≤ 601024 by omega)) (q_bleK (show n + 6 ≤ 7293000 by omega)) rfl rfl ?_
      refine G.iload (pc := 274) dm_L_law_274 rfl ?_
      refine G.icmp_eq (pc := 276) (tgt := 281) dm_L_law_276 (by decide) (fun _ => ?_) (fun c => absurd rfl c)
      refine G.iload (pc := 281) dm_L_law_281 rfl ?_
      refine G.if_ne (pc := 283) (tgt := 298) dm_L_law_283 (by decide) (fun c => absurd rfl c) (fun _ => ?_)
      refine G.aload_n (pc := 286) dm_L_law_286 rfl ?_
      refine G.iconst (pc := 287) (v := (0 : Int32)) dm_L_law_287 qi_0 ?_
      refine G.laload (pc := 288) (a := 48 + 19) dm_L_law_288 (g_at3 (a := 48) (b := 19) rfl rfl) (q_in (by decide) (by decide)) ?_
      refine G.iload (pc := 289) dm_L_law_289 rfl ?_
      refine G.i2l (pc := 291) dm_L_law_291 ?_
      refine G.lcmp (pc := 292) dm_L_law_292 ?_
      refine G.if_eq (pc := 293) (tgt := 298) dm_L_law_293 (by decide) (fun _ => ?_) (fun c => absurd (e_cmp0 _ _) c)
      refine G.goto (pc := 298) (tgt := 684) dm_L_law_298 (by decide) ?_
      refine G.lvp (lv1 := [(4, .int i), (0, .ref 2000), (1, .ref 0), (2, .ref 48), (3, .ref 67)]) [2, 3, 4, 5, 6] rfl ?_
      exact nxt (k + 1) (n + 6) (Nat.le_refl _) (Nat.le_refl _) _ _ _ _ _ _ _ _ _ _ _ _ _ _ _ _ _ _ _ _ _ _ _ _ _ _ _ _ _ _ _ _ _ _ _ _ _ _ _ _ _ _ _ _ _ _ _ _ _ _ _ _ ⟨hB.up.1, hB.up.2.1, hB.up.2.2.1, hB.up.2.2.2.1, hB.up.2.2.2.2.1, hch⟩
