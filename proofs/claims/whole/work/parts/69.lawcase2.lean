section LD
variable {K : x_K} {d N n b L x o m : Nat} {h f g : x_H} {σ : Sg} {w : Nat → Int64} {xs : Nat → Int32} {Q : x_O → x_H → Prop} {x5 x6 x7 : Option Value}
set_option maxRecDepth 100000 in
theorem w_remove (hX : va_X b L xs (x_s K) (x_s K).heap) (hbB : b < x_B K) (hL : L < 2 ^ 31) (hnL : 7 * n + 7 ≤ L) (hnN : n < N) (hN : N ≤ 1000) (hom : o < m ∨ m + 13 ≤ o) (hd : 13 ≤ d) (hI : LI K N n x m o σ h)
    (nxt : ∀ (h' : x_H) (σ' : Sg) (x5 x6 x7 : Option Value), LI K N (n + 1) x m o σ' h' → Go K M_Law_law d 997 [some (.ref b), some (.ref x), some (.ref m), some (.ref o), some (.int (nI (7 * n))), x5, x6, x7] [] h' Q) :
    Go K M_Law_law d 294 [some (.ref b), some (.ref x), some (.ref m), some (.ref o), some (.int (nI (7 * n))), x5, x6, x7] [] h Q := by
  obtain ⟨hS, ⟨ρ, hR, hm⟩, ⟨w, ho⟩, hb1, hb2, hlg⟩ := hI
  refine go_aload_n (pc' := 295) (i := 1) d_Law_law_294 rfl rfl (by first | rfl | exact x_r_rf _) rfl ?_
  refine go_aload_n (pc' := 296) (i := 0) d_Law_law_295 rfl rfl (by first | rfl | exact x_r_rf _) rfl ?_
  refine go_iload (pc' := 298) (i := 4) d_Law_law_296 rfl rfl ?_
  refine go_iconst (pc' := 299) (v := (nI 1)) d_Law_law_298 (by decide) rfl ?_
  refine go_iaddN (pc' := 300) d_Law_law_299 rfl ?_
  refine go_sld (pc' := 301) hX hbB d_Law_law_300 (by omega) (by omega) rfl ?_
  refine go_aload_n (pc' := 302) (i := 0) d_Law_law_301 rfl rfl (by first | rfl | exact x_r_rf _) rfl ?_
  refine go_iload (pc' := 304) (i := 4) d_Law_law_302 rfl rfl ?_
  refine go_iconst (pc' := 305) (v := (nI 2)) d_Law_law_304 (by decide) rfl ?_
  refine go_iaddN (pc' := 306) d_Law_law_305 rfl ?_
  refine go_sld (pc' := 307) hX hbB d_Law_law_306 (by omega) (by omega) rfl ?_
  refine go_aload_n (pc' := 308) (i := 3) d_Law_law_307 rfl rfl (by first | rfl | exact x_r_rf _) rfl ?_
  refine go_callS (pc' := 311) (M' := M_Law_remove) [_, _, _, _] d_Law_law_308 t_344 t_345 t_0 cd_Law_remove nm_Law_remove rfl rfl (Nat.le_of_ble_eq_true rfl) rfl (l_remove (d := d - 1) hS ho (xs (7 * n + 1)) (xs (7 * n + 2)) (by omega) (by omega) (by omega)) (by first | decide | omega) (Nat.le_of_ble_eq_true rfl) rfl (fun v f1 hq => ?_) (fun q g hq => hq.elim)
  obtain ⟨rfl, hS1, ⟨w1, ho1, hw1⟩, hk1, b1, b2, b3, b4, b5⟩ := hq
  obtain ⟨r, hr⟩ : ∃ r, r = (p_Rem σ (xs (7 * n + 1)) (xs (7 * n + 2))) := ⟨_, rfl⟩
  rw [← hr] at hS1 hw1 b5
  show Go K M_Law_law d 311 _ [.int (nI (k_d (p_Rem σ (xs (7 * n + 1)) (xs (7 * n + 2))) c_rem))] f1 _
  rw [← hr]
  obtain ⟨hm1, fs, hm0⟩ := Rc_kc hm hom hk1
  have sp : Go K M_Mod_remove (d - 1) 0 _ [] (Rh f1 m ρ) (Qm f1 m (p_Rem σ (xs (7 * n + 1)) (xs (7 * n + 2))) c_rem _) := m_remove (K := K) (g := f1) (m := m) (d := d - 1) hR (xs (7 * n + 1)) (xs (7 * n + 2)) (by omega)
  rw [Rh_eq hm1, ← hr] at sp
  refine go_istore (pc' := 313) (i := 5) d_Law_law_311 (by decide) (x_s5 (by first | rfl | exact x_k_rf _)) rfl ?_
  refine go_aload_n (pc' := 314) (i := 2) d_Law_law_313 rfl rfl (by first | rfl | exact x_r_rf _) rfl ?_
  refine go_aload_n (pc' := 315) (i := 0) d_Law_law_314 rfl rfl (by first | rfl | exact x_r_rf _) rfl ?_
  refine go_iload (pc' := 317) (i := 4) d_Law_law_315 rfl rfl ?_
  refine go_iconst (pc' := 318) (v := (nI 1)) d_Law_law_317 (by decide) rfl ?_
  refine go_iaddN (pc' := 319) d_Law_law_318 rfl ?_
  refine go_sld (pc' := 320) hX hbB d_Law_law_319 (by omega) (by omega) rfl ?_
  refine go_aload_n (pc' := 321) (i := 0) d_Law_law_320 rfl rfl (by first | rfl | exact x_r_rf _) rfl ?_
  refine go_iload (pc' := 323) (i := 4) d_Law_law_321 rfl rfl ?_
  refine go_iconst (pc' := 324) (v := (nI 2)) d_Law_law_323 (by decide) rfl ?_
  refine go_iaddN (pc' := 325) d_Law_law_324 rfl ?_
  refine go_sld (pc' := 326) hX hbB d_Law_law_325 (by omega) (by omega) rfl ?_
  refine go_callV (pc' := 329) (M' := M_Mod_remove) (ci := 6) (r := (n_Mod, T_Mod, 16)) [_, _] d_Law_law_326 t_569 t_570 t_571 cd_Mod_remove nm_Mod_remove rfl (by rfl) (by first | assumption | exact x_up_self _ _ _ | exact x_nw_self _ _ _ | (rw [x_up_ne (by first | omega | (simp only [x_up, x_nw]; omega))]; first | assumption | exact x_up_self _ _ _ | (rw [x_up_ne (by first | omega | (simp only [x_up, x_nw]; omega))]; first | assumption | exact x_up_self _ _ _)) | (rw [x_nw_ne (by first | omega | (simp only [x_up, x_nw]; omega))]; first | assumption | exact x_up_self _ _ _ | (rw [x_up_ne (by first | omega | (simp only [x_up, x_nw]; omega))]; assumption))) rfl (Nat.le_of_ble_eq_true rfl) rfl (sp) (by first | decide | omega) (Nat.le_of_ble_eq_true rfl) rfl (fun v f2 hq => ?_) (fun q g hq => hq.elim)
  obtain ⟨ρ2, rfl, hR2, htw, hv1, hv2⟩ := Qm.out hq
  obtain ⟨z, rfl, hz⟩ := q_rl (fun u hu => t_Rem (hr ▸ hu)) hv1 hv2
  show Go K M_Law_law d 329 _ [.long z] (Rh f1 m ρ2) _
  have hm2 := Rh_0 f1 m ρ2
  refine go_lstore (pc' := 331) (i := 6) d_Law_law_329 (by decide) (x_t6 (by first | rfl | exact x_k_rf _)) rfl ?_
  refine go_aload_n (pc' := 332) (i := 2) d_Law_law_331 rfl rfl (by first | rfl | exact x_r_rf _) rfl ?_
  refine go_callV (pc' := 335) (M' := M_Mod_thrown) (ci := 6) (r := (n_Mod, T_Mod, 16)) [] d_Law_law_332 t_522 t_523 t_524 cd_Mod_thrown nm_Mod_thrown rfl (by rfl) (by first | assumption | exact x_up_self _ _ _ | exact x_nw_self _ _ _ | (rw [x_up_ne (by first | omega | (simp only [x_up, x_nw]; omega))]; first | assumption | exact x_up_self _ _ _ | (rw [x_up_ne (by first | omega | (simp only [x_up, x_nw]; omega))]; first | assumption | exact x_up_self _ _ _)) | (rw [x_nw_ne (by first | omega | (simp only [x_up, x_nw]; omega))]; first | assumption | exact x_up_self _ _ _ | (rw [x_up_ne (by first | omega | (simp only [x_up, x_nw]; omega))]; assumption))) rfl (Nat.le_of_ble_eq_true rfl) rfl (m_thrown (d := d - 1)) (by first | decide | omega) (Nat.le_of_ble_eq_true rfl) rfl (fun v f3 hq => ?_) (fun q g hq => by cases hq.1)
  obtain ⟨e1, e2⟩ := hq
  cases e1
  rw [← e2]
  show Go K M_Law_law d 335 _ [.int (r_tw ρ2)] _ _
  rw [htw]
  refine go_iload (pc' := 337) (i := 5) d_Law_law_335 rfl rfl ?_
  have hnx : Go K M_Law_law d 358 [some (.ref b), some (.ref x), some (.ref m), some (.ref o), some (.int (nI (7 * n))), some (.int (nI (k_d r c_rem))), some (.long z), none] [] (Rh f1 m ρ2) Q := by
    refine go_goto (tgt := 997) d_Law_law_358 (by decide) ?_
    exact nxt _ _ _ _ _ (LI.nx hS1 hm1 ho1 hom hR2 hnN (by omega) (by omega) (by omega))
  refine go_icmp_eq (tgt := 342) (pc' := 340) d_Law_law_337 (by decide) rfl (fun hc => ?_) (fun hc => ?_)
  · refine go_iload (pc' := 344) (i := 5) d_Law_law_342 rfl rfl ?_
    refine go_if_ne (tgt := 358) (pc' := 347) d_Law_law_344 (by decide) rfl (fun hc => ?_) (fun hc => ?_)
    · exact hnx
    · have hk0 : k_d r c_rem = 0 := (nI_eq (by have := k_d4 (r := r) (fun k => (c_rem_b k).2); omega) (by omega)).mp (show nI (k_d r c_rem) = nI 0 from hc)
      obtain ⟨u, hu⟩ := k_d0 (fun k => (c_rem_b k).1) hk0
      have ho2 : (Rh f1 m ρ2).2.2 o = some (.inl (1, 1, .inr (.inl w1))) := by rw [Rh_of hom]; exact ho1
      refine go_aload_n (pc' := 348) (i := 3) d_Law_law_347 rfl rfl (by first | rfl | exact x_r_rf _) rfl ?_
      refine go_iconst (pc' := 349) (v := (nI 0)) d_Law_law_348 (by decide) rfl ?_
      refine go_laldN (pc' := 350) d_Law_law_349 (by first | assumption | exact x_up_self _ _ _ | exact x_nw_self _ _ _ | (rw [x_up_ne (by first | omega | (simp only [x_up, x_nw]; omega))]; first | assumption | exact x_up_self _ _ _ | (rw [x_up_ne (by first | omega | (simp only [x_up, x_nw]; omega))]; first | assumption | exact x_up_self _ _ _)) | (rw [x_nw_ne (by first | omega | (simp only [x_up, x_nw]; omega))]; first | assumption | exact x_up_self _ _ _ | (rw [x_up_ne (by first | omega | (simp only [x_up, x_nw]; omega))]; assumption))) (by rfl) (by first | assumption | omega | (simp only [x_up, x_nw]; omega)) (by first | assumption | omega | (simp only [x_up, x_nw]; omega)) rfl ?_
      rw [hw1 u hu, hz u hu]
      refine go_lload (pc' := 352) (i := 6) d_Law_law_350 rfl rfl ?_
      refine go_lcmp (pc' := 353) d_Law_law_352 rfl ?_
      rw [show lg_cmp (L_l (some (.long z))) z = 0 from lg_cmp_self _]
      refine go_if_eq (tgt := 358) (pc' := 356) d_Law_law_353 (by decide) rfl (fun hc => ?_) (fun hc => ?_)
      · exact hnx
      · exact absurd rfl hc
  · exact absurd rfl hc
set_option maxRecDepth 100000 in
theorem w_replace (hX : va_X b L xs (x_s K) (x_s K).heap) (hbB : b < x_B K) (hL : L < 2 ^ 31) (hnL : 7 * n + 7 ≤ L) (hnN : n < N) (hN : N ≤ 1000) (hom : o < m ∨ m + 13 ≤ o) (hd : 13 ≤ d) (hI : LI K N n x m o σ h)
    (nxt : ∀ (h' : x_H) (σ' : Sg) (x5 x6 x7 : Option Value), LI K N (n + 1) x m o σ' h' → Go K M_Law_law d 997 [some (.ref b), some (.ref x), some (.ref m), some (.ref o), some (.int (nI (7 * n))), x5, x6, x7] [] h' Q) :
    Go K M_Law_law d 361 [some (.ref b), some (.ref x), some (.ref m), some (.ref o), some (.int (nI (7 * n))), x5, x6, x7] [] h Q := by
  obtain ⟨hS, ⟨ρ, hR, hm⟩, ⟨w, ho⟩, hb1, hb2, hlg⟩ := hI
  refine go_aload_n (pc' := 362) (i := 1) d_Law_law_361 rfl rfl (by first | rfl | exact x_r_rf _) rfl ?_
  refine go_aload_n (pc' := 363) (i := 0) d_Law_law_362 rfl rfl (by first | rfl | exact x_r_rf _) rfl ?_
  refine go_iload (pc' := 365) (i := 4) d_Law_law_363 rfl rfl ?_
  refine go_iconst (pc' := 366) (v := (nI 1)) d_Law_law_365 (by decide) rfl ?_
  refine go_iaddN (pc' := 367) d_Law_law_366 rfl ?_
  refine go_sld (pc' := 368) hX hbB d_Law_law_367 (by omega) (by omega) rfl ?_
  refine go_aload_n (pc' := 369) (i := 0) d_Law_law_368 rfl rfl (by first | rfl | exact x_r_rf _) rfl ?_
  refine go_iload (pc' := 371) (i := 4) d_Law_law_369 rfl rfl ?_
  refine go_iconst (pc' := 372) (v := (nI 2)) d_Law_law_371 (by decide) rfl ?_
  refine go_iaddN (pc' := 373) d_Law_law_372 rfl ?_
  refine go_sld (pc' := 374) hX hbB d_Law_law_373 (by omega) (by omega) rfl ?_
  refine go_aload_n (pc' := 375) (i := 0) d_Law_law_374 rfl rfl (by first | rfl | exact x_r_rf _) rfl ?_
  refine go_iload (pc' := 377) (i := 4) d_Law_law_375 rfl rfl ?_
  refine go_iconst (pc' := 378) (v := (nI 3)) d_Law_law_377 (by decide) rfl ?_
  refine go_iaddN (pc' := 379) d_Law_law_378 rfl ?_
  refine go_sld (pc' := 380) hX hbB d_Law_law_379 (by omega) (by omega) rfl ?_
  refine go_i2l (pc' := 381) d_Law_law_380 rfl rfl ?_
  refine go_bipush (pc' := 383) (v := (nI 32)) d_Law_law_381 (by decide) rfl ?_
  refine go_lshl (pc' := 384) d_Law_law_383 rfl rfl ?_
  refine go_aload_n (pc' := 385) (i := 0) d_Law_law_384 rfl rfl (by first | rfl | exact x_r_rf _) rfl ?_
  refine go_iload (pc' := 387) (i := 4) d_Law_law_385 rfl rfl ?_
  refine go_iconst (pc' := 388) (v := (nI 4)) d_Law_law_387 (by decide) rfl ?_
  refine go_iaddN (pc' := 389) d_Law_law_388 rfl ?_
  refine go_sld (pc' := 390) hX hbB d_Law_law_389 (by omega) (by omega) rfl ?_
  refine go_i2l (pc' := 391) d_Law_law_390 rfl rfl ?_
  refine go_ldc2 (pc' := 394) d_Law_law_391 t_621 rfl ?_
  refine go_land (pc' := 395) d_Law_law_394 rfl ?_
  refine go_lor (pc' := 396) d_Law_law_395 rfl ?_
  refine go_aload_n (pc' := 397) (i := 0) d_Law_law_396 rfl rfl (by first | rfl | exact x_r_rf _) rfl ?_
  refine go_iload (pc' := 399) (i := 4) d_Law_law_397 rfl rfl ?_
  refine go_iconst (pc' := 400) (v := (nI 5)) d_Law_law_399 (by decide) rfl ?_
  refine go_iaddN (pc' := 401) d_Law_law_400 rfl ?_
  refine go_sld (pc' := 402) hX hbB d_Law_law_401 (by omega) (by omega) rfl ?_
  refine go_i2l (pc' := 403) d_Law_law_402 rfl rfl ?_
  refine go_bipush (pc' := 405) (v := (nI 32)) d_Law_law_403 (by decide) rfl ?_
  refine go_lshl (pc' := 406) d_Law_law_405 rfl rfl ?_
  refine go_aload_n (pc' := 407) (i := 0) d_Law_law_406 rfl rfl (by first | rfl | exact x_r_rf _) rfl ?_
  refine go_iload (pc' := 409) (i := 4) d_Law_law_407 rfl rfl ?_
  refine go_bipush (pc' := 411) (v := (nI 6)) d_Law_law_409 (by decide) rfl ?_
  refine go_iaddN (pc' := 412) d_Law_law_411 rfl ?_
  refine go_sld (pc' := 413) hX hbB d_Law_law_412 (by omega) (by omega) rfl ?_
  refine go_i2l (pc' := 414) d_Law_law_413 rfl rfl ?_
  refine go_ldc2 (pc' := 417) d_Law_law_414 t_621 rfl ?_
  refine go_land (pc' := 418) d_Law_law_417 rfl ?_
  refine go_lor (pc' := 419) d_Law_law_418 rfl ?_
  refine go_aload_n (pc' := 420) (i := 3) d_Law_law_419 rfl rfl (by first | rfl | exact x_r_rf _) rfl ?_
  refine go_callS (pc' := 423) (M' := M_Law_replace) [_, _, _, _, _, _] d_Law_law_420 t_363 t_364 t_0 cd_Law_replace nm_Law_replace rfl rfl (Nat.le_of_ble_eq_true rfl) rfl (l_replace (d := d - 1) hS ho (xs (7 * n + 1)) (xs (7 * n + 2)) ((xs (7 * n + 3)).toInt64 <<< ((nI 32).toInt64 &&& 63) ||| (xs (7 * n + 4)).toInt64 &&& 4294967295) ((xs (7 * n + 5)).toInt64 <<< ((nI 32).toInt64 &&& 63) ||| (xs (7 * n + 6)).toInt64 &&& 4294967295) (by omega) (by omega) (by omega)) (by first | decide | omega) (Nat.le_of_ble_eq_true rfl) rfl (fun v f1 hq => ?_) (fun q g hq => hq.elim)
  obtain ⟨rfl, hS1, ⟨w1, ho1, hw1⟩, hk1, b1, b2, b3, b4, b5⟩ := hq
  obtain ⟨r, hr⟩ : ∃ r, r = (p_Rep σ (xs (7 * n + 1)) (xs (7 * n + 2)) ((xs (7 * n + 3)).toInt64 <<< ((nI 32).toInt64 &&& 63) ||| (xs (7 * n + 4)).toInt64 &&& 4294967295) ((xs (7 * n + 5)).toInt64 <<< ((nI 32).toInt64 &&& 63) ||| (xs (7 * n + 6)).toInt64 &&& 4294967295)) := ⟨_, rfl⟩
  rw [← hr] at hS1 hw1 b5
  show Go K M_Law_law d 423 _ [.int (nI (k_d (p_Rep σ (xs (7 * n + 1)) (xs (7 * n + 2)) ((xs (7 * n + 3)).toInt64 <<< ((nI 32).toInt64 &&& 63) ||| (xs (7 * n + 4)).toInt64 &&& 4294967295) ((xs (7 * n + 5)).toInt64 <<< ((nI 32).toInt64 &&& 63) ||| (xs (7 * n + 6)).toInt64 &&& 4294967295)) c_put))] f1 _
  rw [← hr]
  obtain ⟨hm1, fs, hm0⟩ := Rc_kc hm hom hk1
  have sp : Go K M_Mod_replace (d - 1) 0 _ [] (Rh f1 m ρ) (Qm f1 m (p_Rep σ (xs (7 * n + 1)) (xs (7 * n + 2)) ((xs (7 * n + 3)).toInt64 <<< ((nI 32).toInt64 &&& 63) ||| (xs (7 * n + 4)).toInt64 &&& 4294967295) ((xs (7 * n + 5)).toInt64 <<< ((nI 32).toInt64 &&& 63) ||| (xs (7 * n + 6)).toInt64 &&& 4294967295)) c_put _) := m_replace (K := K) (g := f1) (m := m) (d := d - 1) hR (xs (7 * n + 1)) (xs (7 * n + 2)) ((xs (7 * n + 3)).toInt64 <<< ((nI 32).toInt64 &&& 63) ||| (xs (7 * n + 4)).toInt64 &&& 4294967295) ((xs (7 * n + 5)).toInt64 <<< ((nI 32).toInt64 &&& 63) ||| (xs (7 * n + 6)).toInt64 &&& 4294967295) (by omega)
  rw [Rh_eq hm1, ← hr] at sp
  refine go_istore (pc' := 425) (i := 5) d_Law_law_423 (by decide) (x_s5 (by first | rfl | exact x_k_rf _)) rfl ?_
  refine go_aload_n (pc' := 426) (i := 2) d_Law_law_425 rfl rfl (by first | rfl | exact x_r_rf _) rfl ?_
  refine go_aload_n (pc' := 427) (i := 0) d_Law_law_426 rfl rfl (by first | rfl | exact x_r_rf _) rfl ?_
  refine go_iload (pc' := 429) (i := 4) d_Law_law_427 rfl rfl ?_
  refine go_iconst (pc' := 430) (v := (nI 1)) d_Law_law_429 (by decide) rfl ?_
  refine go_iaddN (pc' := 431) d_Law_law_430 rfl ?_
  refine go_sld (pc' := 432) hX hbB d_Law_law_431 (by omega) (by omega) rfl ?_
  refine go_aload_n (pc' := 433) (i := 0) d_Law_law_432 rfl rfl (by first | rfl | exact x_r_rf _) rfl ?_
  refine go_iload (pc' := 435) (i := 4) d_Law_law_433 rfl rfl ?_
  refine go_iconst (pc' := 436) (v := (nI 2)) d_Law_law_435 (by decide) rfl ?_
  refine go_iaddN (pc' := 437) d_Law_law_436 rfl ?_
  refine go_sld (pc' := 438) hX hbB d_Law_law_437 (by omega) (by omega) rfl ?_
  refine go_aload_n (pc' := 439) (i := 0) d_Law_law_438 rfl rfl (by first | rfl | exact x_r_rf _) rfl ?_
  refine go_iload (pc' := 441) (i := 4) d_Law_law_439 rfl rfl ?_
  refine go_iconst (pc' := 442) (v := (nI 3)) d_Law_law_441 (by decide) rfl ?_
  refine go_iaddN (pc' := 443) d_Law_law_442 rfl ?_
  refine go_sld (pc' := 444) hX hbB d_Law_law_443 (by omega) (by omega) rfl ?_
  refine go_i2l (pc' := 445) d_Law_law_444 rfl rfl ?_
  refine go_bipush (pc' := 447) (v := (nI 32)) d_Law_law_445 (by decide) rfl ?_
  refine go_lshl (pc' := 448) d_Law_law_447 rfl rfl ?_
  refine go_aload_n (pc' := 449) (i := 0) d_Law_law_448 rfl rfl (by first | rfl | exact x_r_rf _) rfl ?_
  refine go_iload (pc' := 451) (i := 4) d_Law_law_449 rfl rfl ?_
  refine go_iconst (pc' := 452) (v := (nI 4)) d_Law_law_451 (by decide) rfl ?_
  refine go_iaddN (pc' := 453) d_Law_law_452 rfl ?_
  refine go_sld (pc' := 454) hX hbB d_Law_law_453 (by omega) (by omega) rfl ?_
  refine go_i2l (pc' := 455) d_Law_law_454 rfl rfl ?_
  refine go_ldc2 (pc' := 458) d_Law_law_455 t_621 rfl ?_
  refine go_land (pc' := 459) d_Law_law_458 rfl ?_
  refine go_lor (pc' := 460) d_Law_law_459 rfl ?_
  refine go_aload_n (pc' := 461) (i := 0) d_Law_law_460 rfl rfl (by first | rfl | exact x_r_rf _) rfl ?_
  refine go_iload (pc' := 463) (i := 4) d_Law_law_461 rfl rfl ?_
  refine go_iconst (pc' := 464) (v := (nI 5)) d_Law_law_463 (by decide) rfl ?_
  refine go_iaddN (pc' := 465) d_Law_law_464 rfl ?_
  refine go_sld (pc' := 466) hX hbB d_Law_law_465 (by omega) (by omega) rfl ?_
  refine go_i2l (pc' := 467) d_Law_law_466 rfl rfl ?_
  refine go_bipush (pc' := 469) (v := (nI 32)) d_Law_law_467 (by decide) rfl ?_
  refine go_lshl (pc' := 470) d_Law_law_469 rfl rfl ?_
  refine go_aload_n (pc' := 471) (i := 0) d_Law_law_470 rfl rfl (by first | rfl | exact x_r_rf _) rfl ?_
  refine go_iload (pc' := 473) (i := 4) d_Law_law_471 rfl rfl ?_
  refine go_bipush (pc' := 475) (v := (nI 6)) d_Law_law_473 (by decide) rfl ?_
  refine go_iaddN (pc' := 476) d_Law_law_475 rfl ?_
  refine go_sld (pc' := 477) hX hbB d_Law_law_476 (by omega) (by omega) rfl ?_
  refine go_i2l (pc' := 478) d_Law_law_477 rfl rfl ?_
  refine go_ldc2 (pc' := 481) d_Law_law_478 t_621 rfl ?_
  refine go_land (pc' := 482) d_Law_law_481 rfl ?_
  refine go_lor (pc' := 483) d_Law_law_482 rfl ?_
  refine go_callV (pc' := 486) (M' := M_Mod_replace) (ci := 6) (r := (n_Mod, T_Mod, 16)) [_, _, _, _] d_Law_law_483 t_573 t_574 t_575 cd_Mod_replace nm_Mod_replace rfl (by rfl) (by first | assumption | exact x_up_self _ _ _ | exact x_nw_self _ _ _ | (rw [x_up_ne (by first | omega | (simp only [x_up, x_nw]; omega))]; first | assumption | exact x_up_self _ _ _ | (rw [x_up_ne (by first | omega | (simp only [x_up, x_nw]; omega))]; first | assumption | exact x_up_self _ _ _)) | (rw [x_nw_ne (by first | omega | (simp only [x_up, x_nw]; omega))]; first | assumption | exact x_up_self _ _ _ | (rw [x_up_ne (by first | omega | (simp only [x_up, x_nw]; omega))]; assumption))) rfl (Nat.le_of_ble_eq_true rfl) rfl (sp) (by first | decide | omega) (Nat.le_of_ble_eq_true rfl) rfl (fun v f2 hq => ?_) (fun q g hq => hq.elim)
  obtain ⟨ρ2, rfl, hR2, htw, hv1, hv2⟩ := Qm.out hq
  obtain ⟨z, rfl, hz⟩ := q_ri (fun u hu => by rcases t_Rep (hr ▸ hu) with e | e <;> exact ⟨_, e⟩) hv1 hv2
  show Go K M_Law_law d 486 _ [.int z] (Rh f1 m ρ2) _
  have hm2 := Rh_0 f1 m ρ2
  refine go_istore (pc' := 488) (i := 6) d_Law_law_486 (by decide) (x_s6 (by first | rfl | exact x_k_rf _)) rfl ?_
  refine go_aload_n (pc' := 489) (i := 2) d_Law_law_488 rfl rfl (by first | rfl | exact x_r_rf _) rfl ?_
  refine go_callV (pc' := 492) (M' := M_Mod_thrown) (ci := 6) (r := (n_Mod, T_Mod, 16)) [] d_Law_law_489 t_522 t_523 t_524 cd_Mod_thrown nm_Mod_thrown rfl (by rfl) (by first | assumption | exact x_up_self _ _ _ | exact x_nw_self _ _ _ | (rw [x_up_ne (by first | omega | (simp only [x_up, x_nw]; omega))]; first | assumption | exact x_up_self _ _ _ | (rw [x_up_ne (by first | omega | (simp only [x_up, x_nw]; omega))]; first | assumption | exact x_up_self _ _ _)) | (rw [x_nw_ne (by first | omega | (simp only [x_up, x_nw]; omega))]; first | assumption | exact x_up_self _ _ _ | (rw [x_up_ne (by first | omega | (simp only [x_up, x_nw]; omega))]; assumption))) rfl (Nat.le_of_ble_eq_true rfl) rfl (m_thrown (d := d - 1)) (by first | decide | omega) (Nat.le_of_ble_eq_true rfl) rfl (fun v f3 hq => ?_) (fun q g hq => by cases hq.1)
  obtain ⟨e1, e2⟩ := hq
  cases e1
  rw [← e2]
  show Go K M_Law_law d 492 _ [.int (r_tw ρ2)] _ _
  rw [htw]
  refine go_iload (pc' := 494) (i := 5) d_Law_law_492 rfl rfl ?_
  have hnx : Go K M_Law_law d 523 [some (.ref b), some (.ref x), some (.ref m), some (.ref o), some (.int (nI (7 * n))), some (.int (nI (k_d r c_put))), some (.int z), x7] [] (Rh f1 m ρ2) Q := by
    refine go_goto (tgt := 997) d_Law_law_523 (by decide) ?_
    exact nxt _ _ _ _ _ (LI.nx hS1 hm1 ho1 hom hR2 hnN (by omega) (by omega) (by omega))
  refine go_icmp_eq (tgt := 499) (pc' := 497) d_Law_law_494 (by decide) rfl (fun hc => ?_) (fun hc => ?_)
  · refine go_iload (pc' := 501) (i := 5) d_Law_law_499 rfl rfl ?_
    refine go_if_ne (tgt := 523) (pc' := 504) d_Law_law_501 (by decide) rfl (fun hc => ?_) (fun hc => ?_)
    · exact hnx
    · have hk0 : k_d r c_put = 0 := (nI_eq (by have := k_d4 (r := r) (fun k => (c_put_b k).2); omega) (by omega)).mp (show nI (k_d r c_put) = nI 0 from hc)
      obtain ⟨u, hu⟩ := k_d0 (fun k => (c_put_b k).1) hk0
      have ho2 : (Rh f1 m ρ2).2.2 o = some (.inl (1, 1, .inr (.inl w1))) := by rw [Rh_of hom]; exact ho1
      refine go_aload_n (pc' := 505) (i := 3) d_Law_law_504 rfl rfl (by first | rfl | exact x_r_rf _) rfl ?_
      refine go_iconst (pc' := 506) (v := (nI 0)) d_Law_law_505 (by decide) rfl ?_
      refine go_laldN (pc' := 507) d_Law_law_506 (by first | assumption | exact x_up_self _ _ _ | exact x_nw_self _ _ _ | (rw [x_up_ne (by first | omega | (simp only [x_up, x_nw]; omega))]; first | assumption | exact x_up_self _ _ _ | (rw [x_up_ne (by first | omega | (simp only [x_up, x_nw]; omega))]; first | assumption | exact x_up_self _ _ _)) | (rw [x_nw_ne (by first | omega | (simp only [x_up, x_nw]; omega))]; first | assumption | exact x_up_self _ _ _ | (rw [x_up_ne (by first | omega | (simp only [x_up, x_nw]; omega))]; assumption))) (by rfl) (by first | assumption | omega | (simp only [x_up, x_nw]; omega)) (by first | assumption | omega | (simp only [x_up, x_nw]; omega)) rfl ?_
      rw [hw1 u hu, hz u hu]
      have hzz := t_Rep (hr ▸ hu)
      rw [hz u hu] at hzz
      refine go_iload (pc' := 509) (i := 6) d_Law_law_507 rfl rfl ?_
      rcases hzz with hzz | hzz
      · cases hzz
        refine go_if_eq (tgt := 516) (pc' := 512) d_Law_law_509 (by decide) rfl (fun hc => ?_) (fun hc => ?_)
        · refine go_lconst (pc' := 517) (v := 0) d_Law_law_516 (by decide) rfl ?_
          refine go_lcmp (pc' := 518) d_Law_law_517 rfl ?_
          rw [show lg_cmp (L_z (some (.int 0))) 0 = 0 by decide]
          refine go_if_eq (tgt := 523) (pc' := 521) d_Law_law_518 (by decide) rfl (fun hc => ?_) (fun hc => ?_)
          · exact hnx
          · exact absurd rfl hc
        · exact absurd rfl hc
      · cases hzz
        refine go_if_eq (tgt := 516) (pc' := 512) d_Law_law_509 (by decide) rfl (fun hc => ?_) (fun hc => ?_)
        · exact absurd hc (by decide)
        · refine go_lconst (pc' := 513) (v := 1) d_Law_law_512 (by decide) rfl ?_
          refine go_goto (tgt := 517) d_Law_law_513 (by decide) ?_
          refine go_lcmp (pc' := 518) d_Law_law_517 rfl ?_
          rw [show lg_cmp (L_z (some (.int 1))) 1 = 0 by decide]
          refine go_if_eq (tgt := 523) (pc' := 521) d_Law_law_518 (by decide) rfl (fun hc => ?_) (fun hc => ?_)
          · exact hnx
          · exact absurd rfl hc
  · exact absurd rfl hc
end LD
