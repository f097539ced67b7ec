theorem e_cmp0 (f : Int64) (g : Nat → Int64) : lg_cmp (vp_updL g (Int32.toNatClampNeg 0) f (Int32.toNatClampNeg 0)) f = 0 := by
  have e : vp_updL g (Int32.toNatClampNeg 0) f (Int32.toNatClampNeg 0) = f := by simp [vp_updL]
  rw [e]
  simp [lg_cmp]
theorem e_len {length n : Int32} (hl : length + n ≤ 400) (h0 : 0 ≤ length.toInt ∧ length.toInt ≤ 400) (hn : 1 ≤ n.toInt ∧ n.toInt ≤ 8) : 0 ≤ (length + n).toInt ∧ (length + n).toInt ≤ 400 := by
  have h1 := q_le hl
  have h2 : (400 : Int32).toInt = 400 := by decide
  have h3 : (length + n).toInt = length.toInt + n.toInt := q_add (by omega) (by omega)
  omega
set_option maxHeartbeats 8000000 in
set_option maxRecDepth 20000 in
theorem law_type {L : Nat} {xs : Nat → Int32} {it k n : Nat} {i : Int32} (hL : L ≤ 2049) (hi : 1 ≤ i.toInt ∧ i.toInt + 4 ≤ L) (hk : k ≤ 600000) (hn : n ≤ 7000000) (hit : it ≤ 512) (nxt : ∀ k1 n1 : Nat, k1 ≤ k + 1 → n1 ≤ n + 6 → gLP L xs (it + 1) k1 n1 684 i) : gLP L xs it k n 120 i := by
  intro refusal wheel now length at_ fault faultLine line words labels targets wrong unfit text code_ label labelWord target targetWord targetLine store common low high register address status did ready timer trace xnext xret acount aat alabel ahas aword atarget amal amis awords atargets alines lcount lkeys lplaces kcount kat kinds kvals out hB
  refine G.aload_n (pc := 120) dm_L_law_120 rfl ?_
  refine G.aload_n (pc := 121) dm_L_law_121 rfl ?_
  refine G.iload (pc := 122) dm_L_law_122 rfl ?_
  refine G.iconst (pc := 124) (v := (1 : Int32)) dm_L_law_124 qi_1 ?_
  refine G.iadd (pc := 125) dm_L_law_125 ?_
  refine G.sld (pc := 126) (g_PL_s L xs) dm_L_law_126 (q_sc hi hL (by decide)) ?_
  refine G.i2l (pc := 127) dm_L_law_127 ?_
  refine G.bipush (pc := 128) (v := (32 : Int32)) dm_L_law_128 qb_32 ?_
  refine G.lshl (pc := 130) dm_L_law_130 ?_
  refine G.aload_n (pc := 131) dm_L_law_131 rfl ?_
  refine G.iload (pc := 132) dm_L_law_132 rfl ?_
  refine G.iconst (pc := 134) (v := (2 : Int32)) dm_L_law_134 qi_2 ?_
  refine G.iadd (pc := 135) dm_L_law_135 ?_
  refine G.sld (pc := 136) (g_PL_s L xs) dm_L_law_136 (q_sc hi hL (by decide)) ?_
  refine G.i2l (pc := 137) dm_L_law_137 ?_
  refine G.ldc2 (pc := 138) (v := (4294967295 : Int64)) dm_L_law_138 tw7 ?_
  refine G.land (pc := 141) dm_L_law_141 ?_
  refine G.lor (pc := 142) dm_L_law_142 ?_
  refine G.aload_n (pc := 143) dm_L_law_143 rfl ?_
  refine G.iload (pc := 144) dm_L_law_144 rfl ?_
  refine G.iconst (pc := 146) (v := (3 : Int32)) dm_L_law_146 qi_3 ?_
  refine G.iadd (pc := 147) dm_L_law_147 ?_
  refine G.sld (pc := 148) (g_PL_s L xs) dm_L_law_148 (q_sc hi hL (by decide)) ?_
  refine G.aload_n (pc := 149) dm_L_law_149 rfl ?_
  by_cases hb : f_X7_canBeTyped ((g_lshl (Int32.toInt64 (xs (Int32.toNatClampNeg (i + (1 : Int32))))) (32 : Int32)) ||| ((Int32.toInt64 (xs (Int32.toNatClampNeg (i + (2 : Int32))))) &&& (4294967295 : Int64))) (xs (Int32.toNatClampNeg (i + (3 : Int32)))) = 0
  · refine G.callSE0 (pc := 150) (n9 := 68) (k1 := k + 1) (n1 := n + 6) (rest := []) (st1 := [.int (1 : Int32)]) nd68 rfl rfl rfl (g_PL_x L xs) dm_L_law_150 ge_L_law_37 (k_L_type_a (typed := ((g_lshl (Int32.toInt64 (xs (Int32.toNatClampNeg (i + (1 : Int32))))) (32 : Int32)) ||| ((Int32.toInt64 (xs (Int32.toNatClampNeg (i + (2 : Int32))))) &&& (4294967295 : Int64)))) (n := (xs (Int32.toNatClampNeg (i + (3 : Int32))))) (B := ((w_M refusal wheel now length at_ fault faultLine line words labels targets wrong unfit text code_ label labelWord target targetWord targetLine store common low high register address status did ready timer trace).map (g_re (g_iB 48 19)))) rfl hb) rfl rfl rfl (by show k + 1 ≤ 601024; omega) (by show n + 6 ≤ 7293000; omega) rfl rfl ?_
    refine G.istore (pc := 153) (lv1 := [(5, .int (1 : Int32)), (4, .int i), (0, .ref 2000), (1, .ref 0), (2, .ref 48), (3, .ref 67)]) dm_L_law_153 rfl rfl ?_
    refine G.aload_n (pc := 155) dm_L_law_155 rfl ?_
    refine G.aload_n (pc := 156) dm_L_law_156 rfl ?_
    refine G.iload (pc := 157) dm_L_law_157 rfl ?_
    refine G.iconst (pc := 159) (v := (1 : Int32)) dm_L_law_159 qi_1 ?_
    refine G.iadd (pc := 160) dm_L_law_160 ?_
    refine G.sld (pc := 161) (g_PL_s L xs) dm_L_law_161 (q_sc hi hL (by decide)) ?_
    refine G.i2l (pc := 162) dm_L_law_162 ?_
    refine G.bipush (pc := 163) (v := (32 : Int32)) dm_L_law_163 qb_32 ?_
    refine G.lshl (pc := 165) dm_L_law_165 ?_
    refine G.aload_n (pc := 166) dm_L_law_166 rfl ?_
    refine G.iload (pc := 167) dm_L_law_167 rfl ?_
    refine G.iconst (pc := 169) (v := (2 : Int32)) dm_L_law_169 qi_2 ?_
    refine G.iadd (pc := 170) dm_L_law_170 ?_
    refine G.sld (pc := 171) (g_PL_s L xs) dm_L_law_171 (q_sc hi hL (by decide)) ?_
    refine G.i2l (pc := 172) dm_L_law_172 ?_
    refine G.ldc2 (pc := 173) (v := (4294967295 : Int64)) dm_L_law_173 tw7 ?_
    refine G.land (pc := 176) dm_L_law_176 ?_
    refine G.lor (pc := 177) dm_L_law_177 ?_
    refine G.aload_n (pc := 178) dm_L_law_178 rfl ?_
    refine G.iload (pc := 179) dm_L_law_179 rfl ?_
    refine G.iconst (pc := 181) (v := (3 : Int32)) dm_L_law_181 qi_3 ?_
    refine G.iadd (pc := 182) dm_L_law_182 ?_
    refine G.sld (pc := 183) (g_PL_s L xs) dm_L_law_183 (q_sc hi hL (by decide)) ?_
    refine G.callVm (pc := 184) (n9 := 48) (k9 := 19) (rest := []) (st1 := [.int (0 : Int32)]) ndM rfl rfl rfl dm_L_law_184 gc_L_law_40 (k_X11_type (eight := ((g_lshl (Int32.toInt64 (xs (Int32.toNatClampNeg (i + (1 : Int32))))) (32 : Int32)) ||| ((Int32.toInt64 (xs (Int32.toNatClampNeg (i + (2 : Int32))))) &&& (4294967295 : Int64)))) (n := (xs (Int32.toNatClampNeg (i + (3 : Int32))))) (r_0 := 0) (r_1 := 1) (r_2 := length) (r_3 := text) hB.1 (e_type_a hb).symm) rfl rfl rfl rfl (q_bleK (show k + 1 ≤ 601024 by omega)) (q_bleK (show n + 6 ≤ 7293000 by omega)) rfl rfl ?_
    refine G.istore (pc := 187) (lv1 := [(6, .int (0 : Int32)), (5, .int (1 : Int32)), (4, .int i), (0, .ref 2000), (1, .ref 0), (2, .ref 48), (3, .ref 67)]) dm_L_law_187 rfl rfl ?_
    refine G.aload_n (pc := 189) dm_L_law_189 rfl ?_
    refine G.callVm (pc := 190) (n9 := 48) (k9 := 19) (rest := []) (st1 := [.int (1 : Int32)]) ndM rfl rfl rfl dm_L_law_190 gc_L_law_41 (k_X11_thrown rfl) rfl rfl rfl rfl (q_bleK (show k + 1 ≤ 601024 by omega)) (q_bleK (show n + 6 ≤ 7293000 by omega)) rfl rfl ?_
    refine G.iload (pc := 193) dm_L_law_193 rfl ?_
    refine G.icmp_eq (pc := 195) (tgt := 200) dm_L_law_195 (by decide) (fun _ => ?_) (fun c => absurd rfl c)
    refine G.iload (pc := 200) dm_L_law_200 rfl ?_
    refine G.if_ne (pc := 202) (tgt := 217) dm_L_law_202 (by decide) (fun _ => ?_) (fun c => absurd c (by decide))
    refine G.goto (pc := 217) (tgt := 684) dm_L_law_217 (by decide) ?_
    refine G.lvp (lv1 := [(4, .int i), (0, .ref 2000), (1, .ref 0), (2, .ref 48), (3, .ref 67)]) [2, 3, 4, 5, 6] rfl ?_
    exact nxt (k + 1) (n + 6) (Nat.le_refl _) (Nat.le_refl _) _ _ _ _ _ _ _ _ _ _ _ _ _ _ _ _ _ _ _ _ _ _ _ _ _ _ _ _ _ _ _ _ _ _ _ _ _ _ _ _ _ _ _ _ _ _ _ _ _ _ _ _ hB.up
  · by_cases hl : length + (xs (Int32.toNatClampNeg (i + (3 : Int32)))) ≤ 400
    · obtain ⟨text1, ht1, ht2⟩ := e_type_c (refusal := refusal) (text := text) hb hl hB.1
      have hn8 := e_type_n hb
      refine G.callSE0 (pc := 150) (n9 := 68) (k1 := k + 1) (n1 := n + 6) (rest := []) (st1 := [.int (0 : Int32)]) nd68 rfl rfl rfl (g_PL_x L xs) dm_L_law_150 ge_L_law_37 (k_L_type_c (typed := ((g_lshl (Int32.toInt64 (xs (Int32.toNatClampNeg (i + (1 : Int32))))) (32 : Int32)) ||| ((Int32.toInt64 (xs (Int32.toNatClampNeg (i + (2 : Int32))))) &&& (4294967295 : Int64)))) (n := (xs (Int32.toNatClampNeg (i + (3 : Int32))))) (B := ((w_M refusal wheel now length at_ fault faultLine line words labels targets wrong unfit text code_ label labelWord target targetWord targetLine store common low high register address status did ready timer trace).map (g_re (g_iB 48 19)))) rfl hb hl hn8.2 hB.1 ht2.symm) rfl rfl rfl (by show k + 1 ≤ 601024; omega) (by show n + 6 ≤ 7293000; omega) rfl rfl ?_
      refine G.istore (pc := 153) (lv1 := [(5, .int (0 : Int32)), (4, .int i), (0, .ref 2000), (1, .ref 0), (2, .ref 48), (3, .ref 67)]) dm_L_law_153 rfl rfl ?_
      refine G.aload_n (pc := 155) dm_L_law_155 rfl ?_
      refine G.aload_n (pc := 156) dm_L_law_156 rfl ?_
      refine G.iload (pc := 157) dm_L_law_157 rfl ?_
      refine G.iconst (pc := 159) (v := (1 : Int32)) dm_L_law_159 qi_1 ?_
      refine G.iadd (pc := 160) dm_L_law_160 ?_
      refine G.sld (pc := 161) (g_PL_s L xs) dm_L_law_161 (q_sc hi hL (by decide)) ?_
      refine G.i2l (pc := 162) dm_L_law_162 ?_
      refine G.bipush (pc := 163) (v := (32 : Int32)) dm_L_law_163 qb_32 ?_
      refine G.lshl (pc := 165) dm_L_law_165 ?_
      refine G.aload_n (pc := 166) dm_L_law_166 rfl ?_
      refine G.iload (pc := 167) dm_L_law_167 rfl ?_
      refine G.iconst (pc := 169) (v := (2 : Int32)) dm_L_law_169 qi_2 ?_
      refine G.iadd (pc := 170) dm_L_law_170 ?_
      refine G.sld (pc := 171) (g_PL_s L xs) dm_L_law_171 (q_sc hi hL (by decide)) ?_
      refine G.i2l (pc := 172) dm_L_law_172 ?_
      refine G.ldc2 (pc := 173) (v := (4294967295 : Int64)) dm_L_law_173 tw7 ?_
      refine G.land (pc := 176) dm_L_law_176 ?_
      refine G.lor (pc := 177) dm_L_law_177 ?_
      refine G.aload_n (pc := 178) dm_L_law_178 rfl ?_
      refine G.iload (pc := 179) dm_L_law_179 rfl ?_
      refine G.iconst (pc := 181) (v := (3 : Int32)) dm_L_law_181 qi_3 ?_
      refine G.iadd (pc := 182) dm_L_law_182 ?_
      refine G.sld (pc := 183) (g_PL_s L xs) dm_L_law_183 (q_sc hi hL (by decide)) ?_
      refine G.callVm (pc := 184) (n9 := 48) (k9 := 19) (rest := []) (st1 := [.int (length + (xs (Int32.toNatClampNeg (i + (3 : Int32)))))]) ndM rfl rfl rfl dm_L_law_184 gc_L_law_40 (k_X11_type (eight := ((g_lshl (Int32.toInt64 (xs (Int32.toNatClampNeg (i + (1 : Int32))))) (32 : Int32)) ||| ((Int32.toInt64 (xs (Int32.toNatClampNeg (i + (2 : Int32))))) &&& (4294967295 : Int64)))) (n := (xs (Int32.toNatClampNeg (i + (3 : Int32))))) hB.1 ht1.symm) rfl rfl rfl rfl (q_bleK (show k + 1 ≤ 601024 by omega)) (q_bleK (show n + 6 ≤ 7293000 by omega)) rfl rfl ?_
      refine G.istore (pc := 187) (lv1 := [(6, .int (length + (xs (Int32.toNatClampNeg (i + (3 : Int32)))))), (5, .int (0 : Int32)), (4, .int i), (0, .ref 2000), (1, .ref 0), (2, .ref 48), (3, .ref 67)]) dm_L_law_187 rfl rfl ?_
      refine G.aload_n (pc := 189) dm_L_law_189 rfl ?_
      refine G.callVm (pc := 190) (n9 := 48) (k9 := 19) (rest := []) (st1 := [.int (0 : Int32)]) ndM rfl rfl rfl dm_L_law_190 gc_L_law_41 (k_X11_thrown rfl) rfl rfl rfl rfl (q_bleK (show k + 1 ≤ 601024 by omega)) (q_bleK (show n + 6 ≤ 7293000 by omega)) rfl rfl ?_
      refine G.iload (pc := 193) dm_L_law_193 rfl ?_
      refine G.icmp_eq (pc := 195) (tgt := 200) dm_L_law_195 (by decide) (fun _ => ?_) (fun c => absurd rfl c)
      refine G.iload (pc := 200) dm_L_law_200 rfl ?_
      refine G.if_ne (pc := 202) (tgt := 217) dm_L_law_202 (by decide) (fun c => absurd rfl c) (fun _ => ?_)
      refine G.aload_n (pc := 205) dm_L_law_205 rfl ?_
      refine G.iconst (pc := 206) (v := (0 : Int32)) dm_L_law_206 qi_0 ?_
      refine G.laload (pc := 207) (a := 48 + 19) dm_L_law_207 (g_at3 (a := 48) (b := 19) rfl rfl) (q_in (by decide) (by decide)) ?_
      refine G.iload (pc := 208) dm_L_law_208 rfl ?_
      refine G.i2l (pc := 210) dm_L_law_210 ?_
      refine G.lcmp (pc := 211) dm_L_law_211 ?_
      refine G.if_eq (pc := 212) (tgt := 217) dm_L_law_212 (by decide) (fun _ => ?_) (fun c => absurd (e_cmp0 _ _) c)
      refine G.goto (pc := 217) (tgt := 684) dm_L_law_217 (by decide) ?_
      refine G.lvp (lv1 := [(4, .int i), (0, .ref 2000), (1, .ref 0), (2, .ref 48), (3, .ref 67)]) [2, 3, 4, 5, 6] rfl ?_
      exact nxt (k + 1) (n + 6) (Nat.le_refl _) (Nat.le_refl _) _ _ _ _ _ _ _ _ _ _ _ _ _ _ _ _ _ _ _ _ _ _ _ _ _ _ _ _ _ _ _ _ _ _ _ _ _ _ _ _ _ _ _ _ _ _ _ _ _ _ _ _ ⟨e_len hl hB.1 hn8, hB.up.2⟩
    · refine G.callSE0 (pc := 150) (n9 := 68) (k1 := k + 1) (n1 := n + 6) (rest := []) (st1 := [.int (2 : Int32)]) nd68 rfl rfl rfl (g_PL_x L xs) dm_L_law_150 ge_L_law_37 (k_L_type_b (typed := ((g_lshl (Int32.toInt64 (xs (Int32.toNatClampNeg (i + (1 : Int32))))) (32 : Int32)) ||| ((Int32.toInt64 (xs (Int32.toNatClampNeg (i + (2 : Int32))))) &&& (4294967295 : Int64)))) (n := (xs (Int32.toNatClampNeg (i + (3 : Int32))))) (B := ((w_M refusal wheel now length at_ fault faultLine line words labels targets wrong unfit text code_ label labelWord target targetWord targetLine store common low high register address status did ready timer trace).map (g_re (g_iB 48 19)))) rfl hb hl) rfl rfl rfl (by show k + 1 ≤ 601024; omega) (by show n + 6 ≤ 7293000; omega) rfl rfl ?_
      refine G.istore (pc := 153) (lv1 := [(5, .int (2 : Int32)), (4, .int i), (0, .ref 2000), (1, .ref 0), (2, .ref 48), (3, .ref 67)]) dm_L_law_153 rfl rfl ?_
      refine G.aload_n (pc := 155) dm_L_law_155 rfl ?_
      refine G.aload_n (pc := 156) dm_L_law_156 rfl ?_
      refine G.iload (pc := 157) dm_L_law_157 rfl ?_
      refine G.iconst (pc := 159) (v := (1 : Int32)) dm_L_law_159 qi_1 ?_
      refine G.iadd (pc := 160) dm_L_law_160 ?_
      refine G.sld (pc := 161) (g_PL_s L xs) dm_L_law_161 (q_sc hi hL (by decide)) ?_
      refine G.i2l (pc := 162) dm_L_law_162 ?_
      refine G.bipush (pc := 163) (v := (32 : Int32)) dm_L_law_163 qb_32 ?_
      refine G.lshl (pc := 165) dm_L_law_165 ?_
      refine G.aload_n (pc := 166) dm_L_law_166 rfl ?_
      refine G.iload (pc := 167) dm_L_law_167 rfl ?_
      refine G.iconst (pc := 169) (v := (2 : Int32)) dm_L_law_169 qi_2 ?_
      refine G.iadd (pc := 170) dm_L_law_170 ?_
      refine G.sld (pc := 171) (g_PL_s L xs) dm_L_law_171 (q_sc hi hL (by decide)) ?_
      refine G.i2l (pc := 172) dm_L_law_172 ?_
      refine G.ldc2 (pc := 173) (v := (4294967295 : Int64)) dm_L_law_173 tw7 ?_
      refine G.land (pc := 176) dm_L_law_176 ?_
      refine G.lor (pc := 177) dm_L_law_177 ?_
      refine G.aload_n (pc := 178) dm_L_law_178 rfl ?_
      refine G.iload (pc := 179) dm_L_law_179 rfl ?_
      refine G.iconst (pc := 181) (v := (3 : Int32)) dm_L_law_181 qi_3 ?_
      refine G.iadd (pc := 182) dm_L_law_182 ?_
      refine G.sld (pc := 183) (g_PL_s L xs) dm_L_law_183 (q_sc hi hL (by decide)) ?_
      refine G.callVm (pc := 184) (n9 := 48) (k9 := 19) (rest := []) (st1 := [.int (0 : Int32)]) ndM rfl rfl rfl dm_L_law_184 gc_L_law_40 (k_X11_type (eight := ((g_lshl (Int32.toInt64 (xs (Int32.toNatClampNeg (i + (1 : Int32))))) (32 : Int32)) ||| ((Int32.toInt64 (xs (Int32.toNatClampNeg (i + (2 : Int32))))) &&& (4294967295 : Int64)))) (n := (xs (Int32.toNatClampNeg (i + (3 : Int32))))) (r_0 := 0) (r_1 := 2) (r_2 := length) (r_3 := text) hB.1 (e_type_b hb hl).symm) rfl rfl rfl rfl (q_bleK (show k + 1 ≤ 601024 by omega)) (q_bleK (show n + 6 ≤ 7293000 by omega)) rfl rfl ?_
      refine G.istore (pc := 187) (lv1 := [(6, .int (0 : Int32)), (5, .int (2 : Int32)), (4, .int i), (0, .ref 2000), (1, .ref 0), (2, .ref 48), (3, .ref 67)]) dm_L_law_187 rfl rfl ?_
      refine G.aload_n (pc := 189) dm_L_law_189 rfl ?_
      refine G.callVm (pc := 190) (n9 := 48) (k9 := 19) (rest := []) (st1 := [.int (2 : Int32)]) ndM rfl rfl rfl dm_L_law_190 gc_L_law_41 (k_X11_thrown rfl) rfl rfl rfl rfl (q_bleK (show k + 1 ≤ 601024 by omega)) (q_bleK (show n + 6 ≤ 7293000 by omega)) rfl rfl ?_
      refine G.iload (pc := 193) dm_L_law_193 rfl ?_
      refine G.icmp_eq (pc := 195) (tgt := 200) dm_L_law_195 (by decide) (fun _ => ?_) (fun c => absurd rfl c)
      refine G.iload (pc := 200) dm_L_law_200 rfl ?_
      refine G.if_ne (pc := 202) (tgt := 217) dm_L_law_202 (by decide) (fun _ => ?_) (fun c => absurd c (by decide))
      refine G.goto (pc := 217) (tgt := 684) dm_L_law_217 (by decide) ?_
      refine G.lvp (lv1 := [(4, .int i), (0, .ref 2000), (1, .ref 0), (2, .ref 48), (3, .ref 67)]) [2, 3, 4, 5, 6] rfl ?_
      exact nxt (k + 1) (n + 6) (Nat.le_refl _) (Nat.le_refl _) _ _ _ _ _ _ _ _ _ _ _ _ _ _ _ _ _ _ _ _ _ _ _ _ _ _ _ _ _ _ _ _ _ _ _ _ _ _ _ _ _ _ _ _ _ _ _ _ _ _ _ _ hB.up
