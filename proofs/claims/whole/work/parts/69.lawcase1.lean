section LD
variable {K : x_K} {d N n b L x o m : Nat} {h f g : x_H} {σ : Sg} {w : Nat → Int64} {xs : Nat → Int32} {Q : x_O → x_H → Prop} {x5 x6 x7 : Option Value}
set_option maxRecDepth 100000 in
theorem w_put (hX : va_X b L xs (x_s K) (x_s K).heap) (hbB : b < x_B K) (hL : L < 2 ^ 31) (hnL : 7 * n + 7 ≤ L) (hnN : n < N) (hN : N ≤ 1000) (hom : o < m ∨ m + 13 ≤ o) (hd : 13 ≤ d) (hI : LI K N n x m o σ h)
    (nxt : ∀ (h' : x_H) (σ' : Sg) (x5 x6 x7 : Option Value), LI K N (n + 1) x m o σ' h' → Go K M_Law_law d 997 [some (.ref b), some (.ref x), some (.ref m), some (.ref o), some (.int (nI (7 * n))), x5, x6, x7] [] h' Q) :
    Go K M_Law_law d 108 [some (.ref b), some (.ref x), some (.ref m), some (.ref o), some (.int (nI (7 * n))), x5, x6, x7] [] h Q := by
  obtain ⟨hS, ⟨ρ, hR, hm⟩, ⟨w, ho⟩, hb1, hb2, hlg⟩ := hI
  refine go_aload_n (pc' := 109) (i := 1) d_Law_law_108 rfl rfl (by first | rfl | exact x_r_rf _) rfl ?_
  refine go_aload_n (pc' := 110) (i := 0) d_Law_law_109 rfl rfl (by first | rfl | exact x_r_rf _) rfl ?_
  refine go_iload (pc' := 112) (i := 4) d_Law_law_110 rfl rfl ?_
  refine go_iconst (pc' := 113) (v := (nI 1)) d_Law_law_112 (by decide) rfl ?_
  refine go_iaddN (pc' := 114) d_Law_law_113 rfl ?_
  refine go_sld (pc' := 115) hX hbB d_Law_law_114 (by omega) (by omega) rfl ?_
  refine go_aload_n (pc' := 116) (i := 0) d_Law_law_115 rfl rfl (by first | rfl | exact x_r_rf _) rfl ?_
  refine go_iload (pc' := 118) (i := 4) d_Law_law_116 rfl rfl ?_
  refine go_iconst (pc' := 119) (v := (nI 2)) d_Law_law_118 (by decide) rfl ?_
  refine go_iaddN (pc' := 120) d_Law_law_119 rfl ?_
  refine go_sld (pc' := 121) hX hbB d_Law_law_120 (by omega) (by omega) rfl ?_
  refine go_aload_n (pc' := 122) (i := 0) d_Law_law_121 rfl rfl (by first | rfl | exact x_r_rf _) rfl ?_
  refine go_iload (pc' := 124) (i := 4) d_Law_law_122 rfl rfl ?_
  refine go_iconst (pc' := 125) (v := (nI 3)) d_Law_law_124 (by decide) rfl ?_
  refine go_iaddN (pc' := 126) d_Law_law_125 rfl ?_
  refine go_sld (pc' := 127) hX hbB d_Law_law_126 (by omega) (by omega) rfl ?_
  refine go_i2l (pc' := 128) d_Law_law_127 rfl rfl ?_
  refine go_bipush (pc' := 130) (v := (nI 32)) d_Law_law_128 (by decide) rfl ?_
  refine go_lshl (pc' := 131) d_Law_law_130 rfl rfl ?_
  refine go_aload_n (pc' := 132) (i := 0) d_Law_law_131 rfl rfl (by first | rfl | exact x_r_rf _) rfl ?_
  refine go_iload (pc' := 134) (i := 4) d_Law_law_132 rfl rfl ?_
  refine go_iconst (pc' := 135) (v := (nI 4)) d_Law_law_134 (by decide) rfl ?_
  refine go_iaddN (pc' := 136) d_Law_law_135 rfl ?_
  refine go_sld (pc' := 137) hX hbB d_Law_law_136 (by omega) (by omega) rfl ?_
  refine go_i2l (pc' := 138) d_Law_law_137 rfl rfl ?_
  refine go_ldc2 (pc' := 141) d_Law_law_138 t_621 rfl ?_
  refine go_land (pc' := 142) d_Law_law_141 rfl ?_
  refine go_lor (pc' := 143) d_Law_law_142 rfl ?_
  refine go_aload_n (pc' := 144) (i := 3) d_Law_law_143 rfl rfl (by first | rfl | exact x_r_rf _) rfl ?_
  refine go_callS (pc' := 147) (M' := M_Law_put) [_, _, _, _, _] d_Law_law_144 t_95 t_96 t_0 cd_Law_put nm_Law_put rfl rfl (Nat.le_of_ble_eq_true rfl) rfl (l_put (d := d - 1) hS ho (xs (7 * n + 1)) (xs (7 * n + 2)) ((xs (7 * n + 3)).toInt64 <<< ((nI 32).toInt64 &&& 63) ||| (xs (7 * n + 4)).toInt64 &&& 4294967295) (by omega) (by omega) (by omega)) (by first | decide | omega) (Nat.le_of_ble_eq_true rfl) rfl (fun v f1 hq => ?_) (fun q g hq => hq.elim)
  obtain ⟨rfl, hS1, ⟨w1, ho1, hw1⟩, hk1, b1, b2, b3, b4, b5⟩ := hq
  obtain ⟨r, hr⟩ : ∃ r, r = (p_Put σ (xs (7 * n + 1)) (xs (7 * n + 2)) ((xs (7 * n + 3)).toInt64 <<< ((nI 32).toInt64 &&& 63) ||| (xs (7 * n + 4)).toInt64 &&& 4294967295)) := ⟨_, rfl⟩
  rw [← hr] at hS1 hw1 b5
  show Go K M_Law_law d 147 _ [.int (nI (k_d (p_Put σ (xs (7 * n + 1)) (xs (7 * n + 2)) ((xs (7 * n + 3)).toInt64 <<< ((nI 32).toInt64 &&& 63) ||| (xs (7 * n + 4)).toInt64 &&& 4294967295)) c_put))] f1 _
  rw [← hr]
  obtain ⟨hm1, fs, hm0⟩ := Rc_kc hm hom hk1
  have sp : Go K M_Mod_put (d - 1) 0 _ [] (Rh f1 m ρ) (Qm f1 m (p_Put σ (xs (7 * n + 1)) (xs (7 * n + 2)) ((xs (7 * n + 3)).toInt64 <<< ((nI 32).toInt64 &&& 63) ||| (xs (7 * n + 4)).toInt64 &&& 4294967295)) c_put _) := m_put (K := K) (g := f1) (m := m) (d := d - 1) hR (xs (7 * n + 1)) (xs (7 * n + 2)) ((xs (7 * n + 3)).toInt64 <<< ((nI 32).toInt64 &&& 63) ||| (xs (7 * n + 4)).toInt64 &&& 4294967295) (by omega)
  rw [Rh_eq hm1, ← hr] at sp
  refine go_istore (pc' := 149) (i := 5) d_Law_law_147 (by decide) (x_s5 (by first | rfl | exact x_k_rf _)) rfl ?_
  refine go_aload_n (pc' := 150) (i := 2) d_Law_law_149 rfl rfl (by first | rfl | exact x_r_rf _) rfl ?_
  refine go_aload_n (pc' := 151) (i := 0) d_Law_law_150 rfl rfl (by first | rfl | exact x_r_rf _) rfl ?_
  refine go_iload (pc' := 153) (i := 4) d_Law_law_151 rfl rfl ?_
  refine go_iconst (pc' := 154) (v := (nI 1)) d_Law_law_153 (by decide) rfl ?_
  refine go_iaddN (pc' := 155) d_Law_law_154 rfl ?_
  refine go_sld (pc' := 156) hX hbB d_Law_law_155 (by omega) (by omega) rfl ?_
  refine go_aload_n (pc' := 157) (i := 0) d_Law_law_156 rfl rfl (by first | rfl | exact x_r_rf _) rfl ?_
  refine go_iload (pc' := 159) (i := 4) d_Law_law_157 rfl rfl ?_
  refine go_iconst (pc' := 160) (v := (nI 2)) d_Law_law_159 (by decide) rfl ?_
  refine go_iaddN (pc' := 161) d_Law_law_160 rfl ?_
  refine go_sld (pc' := 162) hX hbB d_Law_law_161 (by omega) (by omega) rfl ?_
  refine go_aload_n (pc' := 163) (i := 0) d_Law_law_162 rfl rfl (by first | rfl | exact x_r_rf _) rfl ?_
  refine go_iload (pc' := 165) (i := 4) d_Law_law_163 rfl rfl ?_
  refine go_iconst (pc' := 166) (v := (nI 3)) d_Law_law_165 (by decide) rfl ?_
  refine go_iaddN (pc' := 167) d_Law_law_166 rfl ?_
  refine go_sld (pc' := 168) hX hbB d_Law_law_167 (by omega) (by omega) rfl ?_
  refine go_i2l (pc' := 169) d_Law_law_168 rfl rfl ?_
  refine go_bipush (pc' := 171) (v := (nI 32)) d_Law_law_169 (by decide) rfl ?_
  refine go_lshl (pc' := 172) d_Law_law_171 rfl rfl ?_
  refine go_aload_n (pc' := 173) (i := 0) d_Law_law_172 rfl rfl (by first | rfl | exact x_r_rf _) rfl ?_
  refine go_iload (pc' := 175) (i := 4) d_Law_law_173 rfl rfl ?_
  refine go_iconst (pc' := 176) (v := (nI 4)) d_Law_law_175 (by decide) rfl ?_
  refine go_iaddN (pc' := 177) d_Law_law_176 rfl ?_
  refine go_sld (pc' := 178) hX hbB d_Law_law_177 (by omega) (by omega) rfl ?_
  refine go_i2l (pc' := 179) d_Law_law_178 rfl rfl ?_
  refine go_ldc2 (pc' := 182) d_Law_law_179 t_621 rfl ?_
  refine go_land (pc' := 183) d_Law_law_182 rfl ?_
  refine go_lor (pc' := 184) d_Law_law_183 rfl ?_
  refine go_callV (pc' := 187) (M' := M_Mod_put) (ci := 6) (r := (n_Mod, T_Mod, 16)) [_, _, _] d_Law_law_184 t_526 t_527 t_528 cd_Mod_put nm_Mod_put rfl (by rfl) (by first | assumption | exact x_up_self _ _ _ | exact x_nw_self _ _ _ | (rw [x_up_ne (by first | omega | (simp only [x_up, x_nw]; omega))]; first | assumption | exact x_up_self _ _ _ | (rw [x_up_ne (by first | omega | (simp only [x_up, x_nw]; omega))]; first | assumption | exact x_up_self _ _ _)) | (rw [x_nw_ne (by first | omega | (simp only [x_up, x_nw]; omega))]; first | assumption | exact x_up_self _ _ _ | (rw [x_up_ne (by first | omega | (simp only [x_up, x_nw]; omega))]; assumption))) rfl (Nat.le_of_ble_eq_true rfl) rfl (sp) (by first | decide | omega) (Nat.le_of_ble_eq_true rfl) rfl (fun v f2 hq => ?_) (fun q g hq => hq.elim)
  obtain ⟨ρ2, rfl, hR2, htw, hv1, hv2⟩ := Qm.out hq
  obtain ⟨z, rfl, hz⟩ := q_ri (fun u hu => by rcases t_Put (hr ▸ hu) with e | e <;> exact ⟨_, e⟩) hv1 hv2
  show Go K M_Law_law d 187 _ [.int z] (Rh f1 m ρ2) _
  have hm2 := Rh_0 f1 m ρ2
  refine go_istore (pc' := 189) (i := 6) d_Law_law_187 (by decide) (x_s6 (by first | rfl | exact x_k_rf _)) rfl ?_
  refine go_aload_n (pc' := 190) (i := 2) d_Law_law_189 rfl rfl (by first | rfl | exact x_r_rf _) rfl ?_
  refine go_callV (pc' := 193) (M' := M_Mod_thrown) (ci := 6) (r := (n_Mod, T_Mod, 16)) [] d_Law_law_190 t_522 t_523 t_524 cd_Mod_thrown nm_Mod_thrown rfl (by rfl) (by first | assumption | exact x_up_self _ _ _ | exact x_nw_self _ _ _ | (rw [x_up_ne (by first | omega | (simp only [x_up, x_nw]; omega))]; first | assumption | exact x_up_self _ _ _ | (rw [x_up_ne (by first | omega | (simp only [x_up, x_nw]; omega))]; first | assumption | exact x_up_self _ _ _)) | (rw [x_nw_ne (by first | omega | (simp only [x_up, x_nw]; omega))]; first | assumption | exact x_up_self _ _ _ | (rw [x_up_ne (by first | omega | (simp only [x_up, x_nw]; omega))]; assumption))) rfl (Nat.le_of_ble_eq_true rfl) rfl (m_thrown (d := d - 1)) (by first | decide | omega) (Nat.le_of_ble_eq_true rfl) rfl (fun v f3 hq => ?_) (fun q g hq => by cases hq.1)
  obtain ⟨e1, e2⟩ := hq
  cases e1
  rw [← e2]
  show Go K M_Law_law d 193 _ [.int (r_tw ρ2)] _ _
  rw [htw]
  refine go_iload (pc' := 195) (i := 5) d_Law_law_193 rfl rfl ?_
  have hnx : Go K M_Law_law d 224 [some (.ref b), some (.ref x), some (.ref m), some (.ref o), some (.int (nI (7 * n))), some (.int (nI (k_d r c_put))), some (.int z), x7] [] (Rh f1 m ρ2) Q := by
    refine go_goto (tgt := 997) d_Law_law_224 (by decide) ?_
    exact nxt _ _ _ _ _ (LI.nx hS1 hm1 ho1 hom hR2 hnN (by omega) (by omega) (by omega))
  refine go_icmp_eq (tgt := 200) (pc' := 198) d_Law_law_195 (by decide) rfl (fun hc => ?_) (fun hc => ?_)
  · refine go_iload (pc' := 202) (i := 5) d_Law_law_200 rfl rfl ?_
    refine go_if_ne (tgt := 224) (pc' := 205) d_Law_law_202 (by decide) rfl (fun hc => ?_) (fun hc => ?_)
    · exact hnx
    · have hk0 : k_d r c_put = 0 := (nI_eq (by have := k_d4 (r := r) (fun k => (c_put_b k).2); omega) (by omega)).mp (show nI (k_d r c_put) = nI 0 from hc)
      obtain ⟨u, hu⟩ := k_d0 (fun k => (c_put_b k).1) hk0
      have ho2 : (Rh f1 m ρ2).2.2 o = some (.inl (1, 1, .inr (.inl w1))) := by rw [Rh_of hom]; exact ho1
      refine go_aload_n (pc' := 206) (i := 3) d_Law_law_205 rfl rfl (by first | rfl | exact x_r_rf _) rfl ?_
      refine go_iconst (pc' := 207) (v := (nI 0)) d_Law_law_206 (by decide) rfl ?_
      refine go_laldN (pc' := 208) d_Law_law_207 (by first | assumption | exact x_up_self _ _ _ | exact x_nw_self _ _ _ | (rw [x_up_ne (by first | omega | (simp only [x_up, x_nw]; omega))]; first | assumption | exact x_up_self _ _ _ | (rw [x_up_ne (by first | omega | (simp only [x_up, x_nw]; omega))]; first | assumption | exact x_up_self _ _ _)) | (rw [x_nw_ne (by first | omega | (simp only [x_up, x_nw]; omega))]; first | assumption | exact x_up_self _ _ _ | (rw [x_up_ne (by first | omega | (simp only [x_up, x_nw]; omega))]; assumption))) (by rfl) (by first | assumption | omega | (simp only [x_up, x_nw]; omega)) (by first | assumption | omega | (simp only [x_up, x_nw]; omega)) rfl ?_
      rw [hw1 u hu, hz u hu]
      have hzz := t_Put (hr ▸ hu)
      rw [hz u hu] at hzz
      refine go_iload (pc' := 210) (i := 6) d_Law_law_208 rfl rfl ?_
      rcases hzz with hzz | hzz
      · cases hzz
        refine go_if_eq (tgt := 217) (pc' := 213) d_Law_law_210 (by decide) rfl (fun hc => ?_) (fun hc => ?_)
        · refine go_lconst (pc' := 218) (v := 0) d_Law_law_217 (by decide) rfl ?_
          refine go_lcmp (pc' := 219) d_Law_law_218 rfl ?_
          rw [show lg_cmp (L_z (some (.int 0))) 0 = 0 by decide]
          refine go_if_eq (tgt := 224) (pc' := 222) d_Law_law_219 (by decide) rfl (fun hc => ?_) (fun hc => ?_)
          · exact hnx
          · exact absurd rfl hc
        · exact absurd rfl hc
      · cases hzz
        refine go_if_eq (tgt := 217) (pc' := 213) d_Law_law_210 (by decide) rfl (fun hc => ?_) (fun hc => ?_)
        · exact absurd hc (by decide)
        · refine go_lconst (pc' := 214) (v := 1) d_Law_law_213 (by decide) rfl ?_
          refine go_goto (tgt := 218) d_Law_law_214 (by decide) ?_
          refine go_lcmp (pc' := 219) d_Law_law_218 rfl ?_
          rw [show lg_cmp (L_z (some (.int 1))) 1 = 0 by decide]
          refine go_if_eq (tgt := 224) (pc' := 222) d_Law_law_219 (by decide) rfl (fun hc => ?_) (fun hc => ?_)
          · exact hnx
          · exact absurd rfl hc
  · exact absurd rfl hc
set_option maxRecDepth 100000 in
theorem w_get (hX : va_X b L xs (x_s K) (x_s K).heap) (hbB : b < x_B K) (hL : L < 2 ^ 31) (hnL : 7 * n + 7 ≤ L) (hnN : n < N) (hN : N ≤ 1000) (hom : o < m ∨ m + 13 ≤ o) (hd : 13 ≤ d) (hI : LI K N n x m o σ h)
    (nxt : ∀ (h' : x_H) (σ' : Sg) (x5 x6 x7 : Option Value), LI K N (n + 1) x m o σ' h' → Go K M_Law_law d 997 [some (.ref b), some (.ref x), some (.ref m), some (.ref o), some (.int (nI (7 * n))), x5, x6, x7] [] h' Q) :
    Go K M_Law_law d 227 [some (.ref b), some (.ref x), some (.ref m), some (.ref o), some (.int (nI (7 * n))), x5, x6, x7] [] h Q := by
  obtain ⟨hS, ⟨ρ, hR, hm⟩, ⟨w, ho⟩, hb1, hb2, hlg⟩ := hI
  refine go_aload_n (pc' := 228) (i := 1) d_Law_law_227 rfl rfl (by first | rfl | exact x_r_rf _) rfl ?_
  refine go_aload_n (pc' := 229) (i := 0) d_Law_law_228 rfl rfl (by first | rfl | exact x_r_rf _) rfl ?_
  refine go_iload (pc' := 231) (i := 4) d_Law_law_229 rfl rfl ?_
  refine go_iconst (pc' := 232) (v := (nI 1)) d_Law_law_231 (by decide) rfl ?_
  refine go_iaddN (pc' := 233) d_Law_law_232 rfl ?_
  refine go_sld (pc' := 234) hX hbB d_Law_law_233 (by omega) (by omega) rfl ?_
  refine go_aload_n (pc' := 235) (i := 0) d_Law_law_234 rfl rfl (by first | rfl | exact x_r_rf _) rfl ?_
  refine go_iload (pc' := 237) (i := 4) d_Law_law_235 rfl rfl ?_
  refine go_iconst (pc' := 238) (v := (nI 2)) d_Law_law_237 (by decide) rfl ?_
  refine go_iaddN (pc' := 239) d_Law_law_238 rfl ?_
  refine go_sld (pc' := 240) hX hbB d_Law_law_239 (by omega) (by omega) rfl ?_
  refine go_aload_n (pc' := 241) (i := 3) d_Law_law_240 rfl rfl (by first | rfl | exact x_r_rf _) rfl ?_
  refine go_callS (pc' := 244) (M' := M_Law_get) [_, _, _, _] d_Law_law_241 t_318 t_319 t_0 cd_Law_get nm_Law_get rfl rfl (Nat.le_of_ble_eq_true rfl) rfl (l_get (d := d - 1) hS ho (xs (7 * n + 1)) (xs (7 * n + 2)) (by omega) (by omega) (by omega)) (by first | decide | omega) (Nat.le_of_ble_eq_true rfl) rfl (fun v f1 hq => ?_) (fun q g hq => hq.elim)
  obtain ⟨rfl, hS1, ⟨w1, ho1, hw1⟩, hk1, b1, b2, b3, b4, b5⟩ := hq
  obtain ⟨r, hr⟩ : ∃ r, r = (p_Get σ (xs (7 * n + 1)) (xs (7 * n + 2))) := ⟨_, rfl⟩
  rw [← hr] at hS1 hw1 b5
  show Go K M_Law_law d 244 _ [.int (nI (k_d (p_Get σ (xs (7 * n + 1)) (xs (7 * n + 2))) c_1))] f1 _
  rw [← hr]
  obtain ⟨hm1, fs, hm0⟩ := Rc_kc hm hom hk1
  have sp : Go K M_Mod_get (d - 1) 0 _ [] (Rh f1 m ρ) (Qm f1 m (p_Get σ (xs (7 * n + 1)) (xs (7 * n + 2))) c_1 _) := m_get (K := K) (g := f1) (m := m) (d := d - 1) hR (xs (7 * n + 1)) (xs (7 * n + 2)) (by omega)
  rw [Rh_eq hm1, ← hr] at sp
  refine go_istore (pc' := 246) (i := 5) d_Law_law_244 (by decide) (x_s5 (by first | rfl | exact x_k_rf _)) rfl ?_
  refine go_aload_n (pc' := 247) (i := 2) d_Law_law_246 rfl rfl (by first | rfl | exact x_r_rf _) rfl ?_
  refine go_aload_n (pc' := 248) (i := 0) d_Law_law_247 rfl rfl (by first | rfl | exact x_r_rf _) rfl ?_
  refine go_iload (pc' := 250) (i := 4) d_Law_law_248 rfl rfl ?_
  refine go_iconst (pc' := 251) (v := (nI 1)) d_Law_law_250 (by decide) rfl ?_
  refine go_iaddN (pc' := 252) d_Law_law_251 rfl ?_
  refine go_sld (pc' := 253) hX hbB d_Law_law_252 (by omega) (by omega) rfl ?_
  refine go_aload_n (pc' := 254) (i := 0) d_Law_law_253 rfl rfl (by first | rfl | exact x_r_rf _) rfl ?_
  refine go_iload (pc' := 256) (i := 4) d_Law_law_254 rfl rfl ?_
  refine go_iconst (pc' := 257) (v := (nI 2)) d_Law_law_256 (by decide) rfl ?_
  refine go_iaddN (pc' := 258) d_Law_law_257 rfl ?_
  refine go_sld (pc' := 259) hX hbB d_Law_law_258 (by omega) (by omega) rfl ?_
  refine go_callV (pc' := 262) (M' := M_Mod_get) (ci := 6) (r := (n_Mod, T_Mod, 16)) [_, _] d_Law_law_259 t_565 t_566 t_567 cd_Mod_get nm_Mod_get rfl (by rfl) (by first | assumption | exact x_up_self _ _ _ | exact x_nw_self _ _ _ | (rw [x_up_ne (by first | omega | (simp only [x_up, x_nw]; omega))]; first | assumption | exact x_up_self _ _ _ | (rw [x_up_ne (by first | omega | (simp only [x_up, x_nw]; omega))]; first | assumption | exact x_up_self _ _ _)) | (rw [x_nw_ne (by first | omega | (simp only [x_up, x_nw]; omega))]; first | assumption | exact x_up_self _ _ _ | (rw [x_up_ne (by first | omega | (simp only [x_up, x_nw]; omega))]; assumption))) rfl (Nat.le_of_ble_eq_true rfl) rfl (sp) (by first | decide | omega) (Nat.le_of_ble_eq_true rfl) rfl (fun v f2 hq => ?_) (fun q g hq => hq.elim)
  obtain ⟨ρ2, rfl, hR2, htw, hv1, hv2⟩ := Qm.out hq
  obtain ⟨z, rfl, hz⟩ := q_rl (fun u hu => t_Get (hr ▸ hu)) hv1 hv2
  show Go K M_Law_law d 262 _ [.long z] (Rh f1 m ρ2) _
  have hm2 := Rh_0 f1 m ρ2
  refine go_lstore (pc' := 264) (i := 6) d_Law_law_262 (by decide) (x_t6 (by first | rfl | exact x_k_rf _)) rfl ?_
  refine go_aload_n (pc' := 265) (i := 2) d_Law_law_264 rfl rfl (by first | rfl | exact x_r_rf _) rfl ?_
  refine go_callV (pc' := 268) (M' := M_Mod_thrown) (ci := 6) (r := (n_Mod, T_Mod, 16)) [] d_Law_law_265 t_522 t_523 t_524 cd_Mod_thrown nm_Mod_thrown rfl (by rfl) (by first | assumption | exact x_up_self _ _ _ | exact x_nw_self _ _ _ | (rw [x_up_ne (by first | omega | (simp only [x_up, x_nw]; omega))]; first | assumption | exact x_up_self _ _ _ | (rw [x_up_ne (by first | omega | (simp only [x_up, x_nw]; omega))]; first | assumption | exact x_up_self _ _ _)) | (rw [x_nw_ne (by first | omega | (simp only [x_up, x_nw]; omega))]; first | assumption | exact x_up_self _ _ _ | (rw [x_up_ne (by first | omega | (simp only [x_up, x_nw]; omega))]; assumption))) rfl (Nat.le_of_ble_eq_true rfl) rfl (m_thrown (d := d - 1)) (by first | decide | omega) (Nat.le_of_ble_eq_true rfl) rfl (fun v f3 hq => ?_) (fun q g hq => by cases hq.1)
  obtain ⟨e1, e2⟩ := hq
  cases e1
  rw [← e2]
  show Go K M_Law_law d 268 _ [.int (r_tw ρ2)] _ _
  rw [htw]
  refine go_iload (pc' := 270) (i := 5) d_Law_law_268 rfl rfl ?_
  have hnx : Go K M_Law_law d 291 [some (.ref b), some (.ref x), some (.ref m), some (.ref o), some (.int (nI (7 * n))), some (.int (nI (k_d r c_1))), some (.long z), none] [] (Rh f1 m ρ2) Q := by
    refine go_goto (tgt := 997) d_Law_law_291 (by decide) ?_
    exact nxt _ _ _ _ _ (LI.nx hS1 hm1 ho1 hom hR2 hnN (by omega) (by omega) (by omega))
  refine go_icmp_eq (tgt := 275) (pc' := 273) d_Law_law_270 (by decide) rfl (fun hc => ?_) (fun hc => ?_)
  · refine go_iload (pc' := 277) (i := 5) d_Law_law_275 rfl rfl ?_
    refine go_if_ne (tgt := 291) (pc' := 280) d_Law_law_277 (by decide) rfl (fun hc => ?_) (fun hc => ?_)
    · exact hnx
    · have hk0 : k_d r c_1 = 0 := (nI_eq (by have := k_d4 (r := r) (fun k => (c_1_b k).2); omega) (by omega)).mp (show nI (k_d r c_1) = nI 0 from hc)
      obtain ⟨u, hu⟩ := k_d0 (fun k => (c_1_b k).1) hk0
      have ho2 : (Rh f1 m ρ2).2.2 o = some (.inl (1, 1, .inr (.inl w1))) := by rw [Rh_of hom]; exact ho1
      refine go_aload_n (pc' := 281) (i := 3) d_Law_law_280 rfl rfl (by first | rfl | exact x_r_rf _) rfl ?_
      refine go_iconst (pc' := 282) (v := (nI 0)) d_Law_law_281 (by decide) rfl ?_
      refine go_laldN (pc' := 283) d_Law_law_282 (by first | assumption | exact x_up_self _ _ _ | exact x_nw_self _ _ _ | (rw [x_up_ne (by first | omega | (simp only [x_up, x_nw]; omega))]; first | assumption | exact x_up_self _ _ _ | (rw [x_up_ne (by first | omega | (simp only [x_up, x_nw]; omega))]; first | assumption | exact x_up_self _ _ _)) | (rw [x_nw_ne (by first | omega | (simp only [x_up, x_nw]; omega))]; first | assumption | exact x_up_self _ _ _ | (rw [x_up_ne (by first | omega | (simp only [x_up, x_nw]; omega))]; assumption))) (by rfl) (by first | assumption | omega | (simp only [x_up, x_nw]; omega)) (by first | assumption | omega | (simp only [x_up, x_nw]; omega)) rfl ?_
      rw [hw1 u hu, hz u hu]
      refine go_lload (pc' := 285) (i := 6) d_Law_law_283 rfl rfl ?_
      refine go_lcmp (pc' := 286) d_Law_law_285 rfl ?_
      rw [show lg_cmp (L_l (some (.long z))) z = 0 from lg_cmp_self _]
      refine go_if_eq (tgt := 291) (pc' := 289) d_Law_law_286 (by decide) rfl (fun hc => ?_) (fun hc => ?_)
      · exact hnx
      · exact absurd rfl hc
  · exact absurd rfl hc
end LD
