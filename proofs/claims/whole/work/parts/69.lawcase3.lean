section LD
variable {K : x_K} {d N n b L x o m : Nat} {h f g : x_H} {σ : Sg} {w : Nat → Int64} {xs : Nat → Int32} {Q : x_O → x_H → Prop} {x5 x6 x7 : Option Value}
set_option maxRecDepth 100000 in
theorem w_snapshot (hX : va_X b L xs (x_s K) (x_s K).heap) (hbB : b < x_B K) (hL : L < 2 ^ 31) (hnL : 7 * n + 7 ≤ L) (hnN : n < N) (hN : N ≤ 1000) (hom : o < m ∨ m + 13 ≤ o) (hd : 13 ≤ d) (hI : LI K N n x m o σ h)
    (nxt : ∀ (h' : x_H) (σ' : Sg) (x5 x6 x7 : Option Value), LI K N (n + 1) x m o σ' h' → Go K M_Law_law d 997 [some (.ref b), some (.ref x), some (.ref m), some (.ref o), some (.int (nI (7 * n))), x5, x6, x7] [] h' Q) :
    Go K M_Law_law d 526 [some (.ref b), some (.ref x), some (.ref m), some (.ref o), some (.int (nI (7 * n))), x5, x6, x7] [] h Q := by
  obtain ⟨hS, ⟨ρ, hR, hm⟩, ⟨w, ho⟩, hb1, hb2, hlg⟩ := hI
  obtain ⟨bb, hbb, hbe⟩ : ∃ bb : Int32, (bb = 0 ∨ bb = 1) ∧ bb = (if xs (7 * n + 2) = 0 then nI 0 else nI 1) := ⟨_, by split <;> decide, rfl⟩
  have rest : Go K M_Law_law d 547 [some (.ref b), some (.ref x), some (.ref m), some (.ref o), some (.int (nI (7 * n))), x5, x6, x7] [.int bb, .int (xs (7 * n + 1)), .ref x] h Q := by
    refine go_aload_n (pc' := 548) (i := 3) d_Law_law_547 rfl rfl (by first | rfl | exact x_r_rf _) rfl ?_
    refine go_callS (pc' := 551) (M' := M_Law_snapshot) [_, _, _, _] d_Law_law_548 t_370 t_371 t_0 cd_Law_snapshot nm_Law_snapshot rfl rfl (Nat.le_of_ble_eq_true rfl) rfl (l_snapshot (d := d - 1) hS ho (xs (7 * n + 1)) (bb) hbb (by omega) (by omega) (by omega) (by omega)) (by first | decide | omega) (Nat.le_of_ble_eq_true rfl) rfl (fun v f1 hq => ?_) (fun q g hq => hq.elim)
    obtain ⟨rfl, hS1, ⟨w1, ho1, hw1⟩, hk1, b1, b2, b3, b4, b5⟩ := hq
    obtain ⟨r, hr⟩ : ∃ r, r = (p_Snap σ (xs (7 * n + 1)) (bb)) := ⟨_, rfl⟩
    rw [← hr] at hS1 hw1 b5
    show Go K M_Law_law d 551 _ [.int (nI (k_d (p_Snap σ (xs (7 * n + 1)) (bb)) c_1))] f1 _
    rw [← hr]
    obtain ⟨hm1, fs, hm0⟩ := Rc_kc hm hom hk1
    have sp : Go K M_Mod_snapshot (d - 1) 0 _ [] (Rh f1 m ρ) (Qm f1 m (p_Snap σ (xs (7 * n + 1)) (bb)) c_1 _) := m_snapshot (K := K) (g := f1) (m := m) (d := d - 1) hR (xs (7 * n + 1)) (bb) hbb (by omega) (by omega)
    rw [Rh_eq hm1, ← hr] at sp
    have rest2 : ∀ x6 x7, Go K M_Law_law d 574 [some (.ref b), some (.ref x), some (.ref m), some (.ref o), some (.int (nI (7 * n))), some (.int (nI (k_d r c_1))), x6, x7] [.int bb, .int (xs (7 * n + 1)), .ref m] f1 Q := by
      intro x6 x7
      refine go_callV (pc' := 577) (M' := M_Mod_snapshot) (ci := 6) (r := (n_Mod, T_Mod, 16)) [_, _] d_Law_law_574 t_577 t_578 t_579 cd_Mod_snapshot nm_Mod_snapshot rfl (by rfl) (by first | assumption | exact x_up_self _ _ _ | exact x_nw_self _ _ _ | (rw [x_up_ne (by first | omega | (simp only [x_up, x_nw]; omega))]; first | assumption | exact x_up_self _ _ _ | (rw [x_up_ne (by first | omega | (simp only [x_up, x_nw]; omega))]; first | assumption | exact x_up_self _ _ _)) | (rw [x_nw_ne (by first | omega | (simp only [x_up, x_nw]; omega))]; first | assumption | exact x_up_self _ _ _ | (rw [x_up_ne (by first | omega | (simp only [x_up, x_nw]; omega))]; assumption))) rfl (Nat.le_of_ble_eq_true rfl) rfl (sp) (by first | decide | omega) (Nat.le_of_ble_eq_true rfl) rfl (fun v f2 hq => ?_) (fun q g hq => hq.elim)
      obtain ⟨ρ2, rfl, hR2, htw, hv1, hv2⟩ := Qm.out hq
      obtain ⟨z, rfl, hz⟩ := q_ri (fun u hu => t_Snap (hr ▸ hu)) hv1 hv2
      show Go K M_Law_law d 577 _ [.int z] (Rh f1 m ρ2) _
      have hm2 := Rh_0 f1 m ρ2
      refine go_istore (pc' := 579) (i := 6) d_Law_law_577 (by decide) (x_s6 (by first | rfl | exact x_k_rf _)) rfl ?_
      refine go_aload_n (pc' := 580) (i := 2) d_Law_law_579 rfl rfl (by first | rfl | exact x_r_rf _) rfl ?_
      refine go_callV (pc' := 583) (M' := M_Mod_thrown) (ci := 6) (r := (n_Mod, T_Mod, 16)) [] d_Law_law_580 t_522 t_523 t_524 cd_Mod_thrown nm_Mod_thrown rfl (by rfl) (by first | assumption | exact x_up_self _ _ _ | exact x_nw_self _ _ _ | (rw [x_up_ne (by first | omega | (simp only [x_up, x_nw]; omega))]; first | assumption | exact x_up_self _ _ _ | (rw [x_up_ne (by first | omega | (simp only [x_up, x_nw]; omega))]; first | assumption | exact x_up_self _ _ _)) | (rw [x_nw_ne (by first | omega | (simp only [x_up, x_nw]; omega))]; first | assumption | exact x_up_self _ _ _ | (rw [x_up_ne (by first | omega | (simp only [x_up, x_nw]; omega))]; assumption))) rfl (Nat.le_of_ble_eq_true rfl) rfl (m_thrown (d := d - 1)) (by first | decide | omega) (Nat.le_of_ble_eq_true rfl) rfl (fun v f3 hq => ?_) (fun q g hq => by cases hq.1)
      obtain ⟨e1, e2⟩ := hq
      cases e1
      rw [← e2]
      show Go K M_Law_law d 583 _ [.int (r_tw ρ2)] _ _
      rw [htw]
      refine go_iload (pc' := 585) (i := 5) d_Law_law_583 rfl rfl ?_
      have hnx : Go K M_Law_law d 607 [some (.ref b), some (.ref x), some (.ref m), some (.ref o), some (.int (nI (7 * n))), some (.int (nI (k_d r c_1))), some (.int z), x7] [] (Rh f1 m ρ2) Q := by
        refine go_goto (tgt := 997) d_Law_law_607 (by decide) ?_
        exact nxt _ _ _ _ _ (LI.nx hS1 hm1 ho1 hom hR2 hnN (by omega) (by omega) (by omega))
      refine go_icmp_eq (tgt := 590) (pc' := 588) d_Law_law_585 (by decide) rfl (fun hc => ?_) (fun hc => ?_)
      · refine go_iload (pc' := 592) (i := 5) d_Law_law_590 rfl rfl ?_
        refine go_if_ne (tgt := 607) (pc' := 595) d_Law_law_592 (by decide) rfl (fun hc => ?_) (fun hc => ?_)
        · exact hnx
        · have hk0 : k_d r c_1 = 0 := (nI_eq (by have := k_d4 (r := r) (fun k => (c_1_b k).2); omega) (by omega)).mp (show nI (k_d r c_1) = nI 0 from hc)
          obtain ⟨u, hu⟩ := k_d0 (fun k => (c_1_b k).1) hk0
          have ho2 : (Rh f1 m ρ2).2.2 o = some (.inl (1, 1, .inr (.inl w1))) := by rw [Rh_of hom]; exact ho1
          refine go_aload_n (pc' := 596) (i := 3) d_Law_law_595 rfl rfl (by first | rfl | exact x_r_rf _) rfl ?_
          refine go_iconst (pc' := 597) (v := (nI 0)) d_Law_law_596 (by decide) rfl ?_
          refine go_laldN (pc' := 598) d_Law_law_597 (by first | assumption | exact x_up_self _ _ _ | exact x_nw_self _ _ _ | (rw [x_up_ne (by first | omega | (simp only [x_up, x_nw]; omega))]; first | assumption | exact x_up_self _ _ _ | (rw [x_up_ne (by first | omega | (simp only [x_up, x_nw]; omega))]; first | assumption | exact x_up_self _ _ _)) | (rw [x_nw_ne (by first | omega | (simp only [x_up, x_nw]; omega))]; first | assumption | exact x_up_self _ _ _ | (rw [x_up_ne (by first | omega | (simp only [x_up, x_nw]; omega))]; assumption))) (by rfl) (by first | assumption | omega | (simp only [x_up, x_nw]; omega)) (by first | assumption | omega | (simp only [x_up, x_nw]; omega)) rfl ?_
          rw [hw1 u hu, hz u hu]
          refine go_iload (pc' := 600) (i := 6) d_Law_law_598 rfl rfl ?_
          refine go_i2l (pc' := 601) d_Law_law_600 rfl rfl ?_
          refine go_lcmp (pc' := 602) d_Law_law_601 rfl ?_
          rw [show lg_cmp (L_i (some (.int z))) z.toInt64 = 0 from lg_cmp_self _]
          refine go_if_eq (tgt := 607) (pc' := 605) d_Law_law_602 (by decide) rfl (fun hc => ?_) (fun hc => ?_)
          · exact hnx
          · exact absurd rfl hc
      · exact absurd rfl hc
    refine go_istore (pc' := 553) (i := 5) d_Law_law_551 (by decide) (x_s5 (by first | rfl | exact x_k_rf _)) rfl ?_
    refine go_aload_n (pc' := 554) (i := 2) d_Law_law_553 rfl rfl (by first | rfl | exact x_r_rf _) rfl ?_
    refine go_aload_n (pc' := 555) (i := 0) d_Law_law_554 rfl rfl (by first | rfl | exact x_r_rf _) rfl ?_
    refine go_iload (pc' := 557) (i := 4) d_Law_law_555 rfl rfl ?_
    refine go_iconst (pc' := 558) (v := (nI 1)) d_Law_law_557 (by decide) rfl ?_
    refine go_iaddN (pc' := 559) d_Law_law_558 rfl ?_
    refine go_sld (pc' := 560) hX hbB d_Law_law_559 (by omega) (by omega) rfl ?_
    refine go_aload_n (pc' := 561) (i := 0) d_Law_law_560 rfl rfl (by first | rfl | exact x_r_rf _) rfl ?_
    refine go_iload (pc' := 563) (i := 4) d_Law_law_561 rfl rfl ?_
    refine go_iconst (pc' := 564) (v := (nI 2)) d_Law_law_563 (by decide) rfl ?_
    refine go_iaddN (pc' := 565) d_Law_law_564 rfl ?_
    refine go_sld (pc' := 566) hX hbB d_Law_law_565 (by omega) (by omega) rfl ?_
    by_cases h0 : xs (7 * n + 2) = 0
    · rw [if_pos h0] at hbe
      refine go_if_eq (tgt := 573) (pc' := 569) d_Law_law_566 (by decide) rfl (fun hc => ?_) (fun hc => ?_)
      · refine go_iconst (pc' := 574) (v := (nI 0)) d_Law_law_573 (by decide) rfl ?_
        rw [hbe] at rest2
        exact rest2 _ _
      · exact absurd h0 hc
    · rw [if_neg h0] at hbe
      refine go_if_eq (tgt := 573) (pc' := 569) d_Law_law_566 (by decide) rfl (fun hc => ?_) (fun hc => ?_)
      · exact absurd hc h0
      · refine go_iconst (pc' := 570) (v := (nI 1)) d_Law_law_569 (by decide) rfl ?_
        refine go_goto (tgt := 574) d_Law_law_570 (by decide) ?_
        rw [hbe] at rest2
        exact rest2 _ _
  refine go_aload_n (pc' := 527) (i := 1) d_Law_law_526 rfl rfl (by first | rfl | exact x_r_rf _) rfl ?_
  refine go_aload_n (pc' := 528) (i := 0) d_Law_law_527 rfl rfl (by first | rfl | exact x_r_rf _) rfl ?_
  refine go_iload (pc' := 530) (i := 4) d_Law_law_528 rfl rfl ?_
  refine go_iconst (pc' := 531) (v := (nI 1)) d_Law_law_530 (by decide) rfl ?_
  refine go_iaddN (pc' := 532) d_Law_law_531 rfl ?_
  refine go_sld (pc' := 533) hX hbB d_Law_law_532 (by omega) (by omega) rfl ?_
  refine go_aload_n (pc' := 534) (i := 0) d_Law_law_533 rfl rfl (by first | rfl | exact x_r_rf _) rfl ?_
  refine go_iload (pc' := 536) (i := 4) d_Law_law_534 rfl rfl ?_
  refine go_iconst (pc' := 537) (v := (nI 2)) d_Law_law_536 (by decide) rfl ?_
  refine go_iaddN (pc' := 538) d_Law_law_537 rfl ?_
  refine go_sld (pc' := 539) hX hbB d_Law_law_538 (by omega) (by omega) rfl ?_
  by_cases h0 : xs (7 * n + 2) = 0
  · rw [if_pos h0] at hbe
    refine go_if_eq (tgt := 546) (pc' := 542) d_Law_law_539 (by decide) rfl (fun hc => ?_) (fun hc => ?_)
    · refine go_iconst (pc' := 547) (v := (nI 0)) d_Law_law_546 (by decide) rfl ?_
      rw [hbe] at rest
      exact rest
    · exact absurd h0 hc
  · rw [if_neg h0] at hbe
    refine go_if_eq (tgt := 546) (pc' := 542) d_Law_law_539 (by decide) rfl (fun hc => ?_) (fun hc => ?_)
    · exact absurd hc h0
    · refine go_iconst (pc' := 543) (v := (nI 1)) d_Law_law_542 (by decide) rfl ?_
      refine go_goto (tgt := 547) d_Law_law_543 (by decide) ?_
      rw [hbe] at rest
      exact rest
end LD
