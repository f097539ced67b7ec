theorem law_684 {L : Nat} {xs : Nat → Int32} {it k n : Nat} {i : Int32} (nxt : gLP L xs it k n 33 (i + 4)) : gLP L xs it k n 684 i := by
  intro refusal wheel now length at_ fault faultLine line words labels targets wrong unfit text code_ label labelWord target targetWord targetLine store common low high register address status did ready timer trace xnext xret acount aat alabel ahas aword atarget amal amis awords atargets alines lcount lkeys lplaces kcount kat kinds kvals out hB
  refine G.iinc (pc := 684) (v := i + 4) (lv1 := [(4, .int (i + 4)), (0, .ref 2000), (1, .ref 0), (2, .ref 48), (3, .ref 67)]) dm_L_law_684 rfl rfl rfl rfl ?_
  refine G.goto (pc := 687) (tgt := 33) dm_L_law_687 (by decide) ?_
  exact nxt _ _ _ _ _ _ _ _ _ _ _ _ _ _ _ _ _ _ _ _ _ _ _ _ _ _ _ _ _ _ _ _ _ _ _ _ _ _ _ _ _ _ _ _ _ _ _ _ _ _ _ _ hB
set_option maxHeartbeats 8000000 in
theorem law_loop {L : Nat} {xs : Nat → Int32} (hL : L ≤ 2049) : ∀ (f it k n : Nat) (i : Int32), 513 - it ≤ f → i.toInt = 1 + 4 * (it : Int) → it ≤ 512 → k ≤ 68 + it → n ≤ 5000 + 6 * it → gLP L xs it k n 33 i
  | 0, it, k, n, i, hf, hi0, hit, hk, hn => absurd hf (by omega)
  | f + 1, it, k, n, i, hf, hi0, hit, hk, hn => by
    intro refusal wheel now length at_ fault faultLine line words labels targets wrong unfit text code_ label labelWord target targetWord targetLine store common low high register address status did ready timer trace xnext xret acount aat alabel ahas aword atarget amal amis awords atargets alines lcount lkeys lplaces kcount kat kinds kvals out hB
    have hoL : (Int32.ofNat L).toInt = L := e_c L (by omega)
    have h4 : (Int32.ofNat L - 4).toInt = L - 4 := by
      have := e_4
      rw [q_sub (by omega) (by omega)]
      omega
    refine G.iload (pc := 33) dm_L_law_33 rfl ?_
    refine G.aload_n (pc := 35) dm_L_law_35 rfl ?_
    refine G.slen (pc := 36) (g_PL_s L xs) dm_L_law_36 ?_
    refine G.iconst (pc := 37) (v := (4 : Int32)) dm_L_law_37 qi_4 ?_
    refine G.isub (pc := 38) dm_L_law_38 ?_
    refine G.icmp_gt (pc := 39) (tgt := 690) dm_L_law_39 (by decide) (fun c => ?_) (fun c => ?_)
    · refine G.iconst (pc := 690) (v := (1 : Int32)) dm_L_law_690 qi_1 ?_
      exact G.lawret dm_L_law_691 (by omega) (by omega)
    · have hi : 1 ≤ i.toInt ∧ i.toInt + 4 ≤ L := by
        have := q_nlt c
        omega
      have nxt : ∀ k1 n1 : Nat, k1 ≤ k + 1 → n1 ≤ n + 6 → gLP L xs (it + 1) k1 n1 684 i := fun k1 n1 h1 h2 => by
        have e4 := e_4
        refine law_684 (law_loop hL f (it + 1) k1 n1 (i + 4) (by omega) ?_ (by omega) (by omega) (by omega))
        rw [q_add (by omega) (by omega)]
        omega
      refine G.aload_n (pc := 42) dm_L_law_42 rfl ?_
      refine G.iload (pc := 43) dm_L_law_43 rfl ?_
      refine G.sld (pc := 45) (g_PL_s L xs) dm_L_law_45 (q_in (by omega) (by omega)) ?_
      refine G.bipush (pc := 46) (v := (15 : Int32)) dm_L_law_46 qb_15 ?_
      refine G.iand (pc := 48) dm_L_law_48 ?_
      by_cases c0 : (xs (Int32.toNatClampNeg i) &&& (15 : Int32)) = (0 : Int32)
      · refine G.tabIn (pc := 49) (tgt := 120) dm_L_law_49 c0 (by decide) (by decide) rfl (by decide) ?_
        exact law_type hL hi (by omega) (by omega) hit nxt _ _ _ _ _ _ _ _ _ _ _ _ _ _ _ _ _ _ _ _ _ _ _ _ _ _ _ _ _ _ _ _ _ _ _ _ _ _ _ _ _ _ _ _ _ _ _ _ _ _ _ _ hB
      · skip
        by_cases c1 : (xs (Int32.toNatClampNeg i) &&& (15 : Int32)) = (1 : Int32)
        · refine G.tabIn (pc := 49) (tgt := 220) dm_L_law_49 c1 (by decide) (by decide) rfl (by decide) ?_
          exact law_clear hL hi (by omega) (by omega) hit nxt _ _ _ _ _ _ _ _ _ _ _ _ _ _ _ _ _ _ _ _ _ _ _ _ _ _ _ _ _ _ _ _ _ _ _ _ _ _ _ _ _ _ _ _ _ _ _ _ _ _ _ _ hB
        · skip
          by_cases c2 : (xs (Int32.toNatClampNeg i) &&& (15 : Int32)) = (2 : Int32)
          · refine G.tabIn (pc := 49) (tgt := 233) dm_L_law_49 c2 (by decide) (by decide) rfl (by decide) ?_
            exact law_assemble hL hi (by omega) (by omega) hit nxt _ _ _ _ _ _ _ _ _ _ _ _ _ _ _ _ _ _ _ _ _ _ _ _ _ _ _ _ _ _ _ _ _ _ _ _ _ _ _ _ _ _ _ _ _ _ _ _ _ _ _ _ hB
          · skip
            by_cases c3 : (xs (Int32.toNatClampNeg i) &&& (15 : Int32)) = (3 : Int32)
            · refine G.tabIn (pc := 49) (tgt := 301) dm_L_law_49 c3 (by decide) (by decide) rfl (by decide) ?_
              exact law_fault hL hi (by omega) (by omega) hit nxt _ _ _ _ _ _ _ _ _ _ _ _ _ _ _ _ _ _ _ _ _ _ _ _ _ _ _ _ _ _ _ _ _ _ _ _ _ _ _ _ _ _ _ _ _ _ _ _ _ _ _ _ hB
            · skip
              by_cases c4 : (xs (Int32.toNatClampNeg i) &&& (15 : Int32)) = (4 : Int32)
              · refine G.tabIn (pc := 49) (tgt := 326) dm_L_law_49 c4 (by decide) (by decide) rfl (by decide) ?_
                exact law_peek hL hi (by omega) (by omega) hit nxt _ _ _ _ _ _ _ _ _ _ _ _ _ _ _ _ _ _ _ _ _ _ _ _ _ _ _ _ _ _ _ _ _ _ _ _ _ _ _ _ _ _ _ _ _ _ _ _ _ _ _ _ hB
              · skip
                by_cases c5 : (xs (Int32.toNatClampNeg i) &&& (15 : Int32)) = (5 : Int32)
                · refine G.tabIn (pc := 49) (tgt := 363) dm_L_law_49 c5 (by decide) (by decide) rfl (by decide) ?_
                  exact law_poke hL hi (by omega) (by omega) hit nxt _ _ _ _ _ _ _ _ _ _ _ _ _ _ _ _ _ _ _ _ _ _ _ _ _ _ _ _ _ _ _ _ _ _ _ _ _ _ _ _ _ _ _ _ _ _ _ _ _ _ _ _ hB
                · skip
                  by_cases c6 : (xs (Int32.toNatClampNeg i) &&& (15 : Int32)) = (6 : Int32)
                  · refine G.tabIn (pc := 49) (tgt := 412) dm_L_law_49 c6 (by decide) (by decide) rfl (by decide) ?_
                    exact law_shared hL hi (by omega) (by omega) hit nxt _ _ _ _ _ _ _ _ _ _ _ _ _ _ _ _ _ _ _ _ _ _ _ _ _ _ _ _ _ _ _ _ _ _ _ _ _ _ _ _ _ _ _ _ _ _ _ _ _ _ _ _ hB
                  · skip
                    by_cases c7 : (xs (Int32.toNatClampNeg i) &&& (15 : Int32)) = (7 : Int32)
                    · refine G.tabIn (pc := 49) (tgt := 437) dm_L_law_49 c7 (by decide) (by decide) rfl (by decide) ?_
                      exact law_part hL hi (by omega) (by omega) hit nxt _ _ _ _ _ _ _ _ _ _ _ _ _ _ _ _ _ _ _ _ _ _ _ _ _ _ _ _ _ _ _ _ _ _ _ _ _ _ _ _ _ _ _ _ _ _ _ _ _ _ _ _ hB
                    · skip
                      by_cases c8 : (xs (Int32.toNatClampNeg i) &&& (15 : Int32)) = (8 : Int32)
                      · refine G.tabIn (pc := 49) (tgt := 486) dm_L_law_49 c8 (by decide) (by decide) rfl (by decide) ?_
                        exact law_start hL hi (by omega) (by omega) hit nxt _ _ _ _ _ _ _ _ _ _ _ _ _ _ _ _ _ _ _ _ _ _ _ _ _ _ _ _ _ _ _ _ _ _ _ _ _ _ _ _ _ _ _ _ _ _ _ _ _ _ _ _ hB
                      · skip
                        by_cases c9 : (xs (Int32.toNatClampNeg i) &&& (15 : Int32)) = (9 : Int32)
                        · refine G.tabIn (pc := 49) (tgt := 523) dm_L_law_49 c9 (by decide) (by decide) rfl (by decide) ?_
                          exact law_run hL hi (by omega) (by omega) hit nxt _ _ _ _ _ _ _ _ _ _ _ _ _ _ _ _ _ _ _ _ _ _ _ _ _ _ _ _ _ _ _ _ _ _ _ _ _ _ _ _ _ _ _ _ _ _ _ _ _ _ _ _ hB
                        · skip
                          by_cases c10 : (xs (Int32.toNatClampNeg i) &&& (15 : Int32)) = (10 : Int32)
                          · refine G.tabIn (pc := 49) (tgt := 548) dm_L_law_49 c10 (by decide) (by decide) rfl (by decide) ?_
                            exact law_now hL hi (by omega) (by omega) hit nxt _ _ _ _ _ _ _ _ _ _ _ _ _ _ _ _ _ _ _ _ _ _ _ _ _ _ _ _ _ _ _ _ _ _ _ _ _ _ _ _ _ _ _ _ _ _ _ _ _ _ _ _ hB
                          · skip
                            by_cases c11 : (xs (Int32.toNatClampNeg i) &&& (15 : Int32)) = (11 : Int32)
                            · refine G.tabIn (pc := 49) (tgt := 561) dm_L_law_49 c11 (by decide) (by decide) rfl (by decide) ?_
                              exact law_register hL hi (by omega) (by omega) hit nxt _ _ _ _ _ _ _ _ _ _ _ _ _ _ _ _ _ _ _ _ _ _ _ _ _ _ _ _ _ _ _ _ _ _ _ _ _ _ _ _ _ _ _ _ _ _ _ _ _ _ _ _ hB
                            · skip
                              by_cases c12 : (xs (Int32.toNatClampNeg i) &&& (15 : Int32)) = (12 : Int32)
                              · refine G.tabIn (pc := 49) (tgt := 598) dm_L_law_49 c12 (by decide) (by decide) rfl (by decide) ?_
                                exact law_state hL hi (by omega) (by omega) hit nxt _ _ _ _ _ _ _ _ _ _ _ _ _ _ _ _ _ _ _ _ _ _ _ _ _ _ _ _ _ _ _ _ _ _ _ _ _ _ _ _ _ _ _ _ _ _ _ _ _ _ _ _ hB
                              · skip
                                by_cases c13 : (xs (Int32.toNatClampNeg i) &&& (15 : Int32)) = (13 : Int32)
                                · refine G.tabIn (pc := 49) (tgt := 635) dm_L_law_49 c13 (by decide) (by decide) rfl (by decide) ?_
                                  exact law_trace hL hi (by omega) (by omega) hit nxt _ _ _ _ _ _ _ _ _ _ _ _ _ _ _ _ _ _ _ _ _ _ _ _ _ _ _ _ _ _ _ _ _ _ _ _ _ _ _ _ _ _ _ _ _ _ _ _ _ _ _ _ hB
                                · skip
                                  refine G.tabOut (pc := 49) (tgt := 684) dm_L_law_49 (g_tabmiss (by decide) (by decide) (fun v h1 h2 => ?_)) (by decide) ?_
                                  · have hv : v = 0 ∨ v = 1 ∨ v = 2 ∨ v = 3 ∨ v = 4 ∨ v = 5 ∨ v = 6 ∨ v = 7 ∨ v = 8 ∨ v = 9 ∨ v = 10 ∨ v = 11 ∨ v = 12 ∨ v = 13 := by omega
                                    rcases hv with rfl | rfl | rfl | rfl | rfl | rfl | rfl | rfl | rfl | rfl | rfl | rfl | rfl | rfl
                                    · exact c0
                                    · exact c1
                                    · exact c2
                                    · exact c3
                                    · exact c4
                                    · exact c5
                                    · exact c6
                                    · exact c7
                                    · exact c8
                                    · exact c9
                                    · exact c10
                                    · exact c11
                                    · exact c12
                                    · exact c13
                                  · exact nxt k n (by omega) (by omega) _ _ _ _ _ _ _ _ _ _ _ _ _ _ _ _ _ _ _ _ _ _ _ _ _ _ _ _ _ _ _ _ _ _ _ _ _ _ _ _ _ _ _ _ _ _ _ _ _ _ _ _ hB.up
