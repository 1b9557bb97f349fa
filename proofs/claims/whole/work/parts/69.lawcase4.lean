section LD
variable {K : x_K} {d N n b L x o m : Nat} {h f g : x_H} {σ : Sg} {w : Nat → Int64} {xs : Nat → Int32} {Q : x_O → x_H → Prop} {x5 x6 x7 : Option Value}
set_option maxRecDepth 100000 in
theorem w_drop (hX : va_X b L xs (x_s K) (x_s K).heap) (hbB : b < x_B K) (hL : L < 2 ^ 31) (hnL : 7 * n + 7 ≤ L) (hnN : n < N) (hN : N ≤ 1000) (hom : o < m ∨ m + 13 ≤ o) (hd : 13 ≤ d) (hI : LI K N n x m o σ h)
    (nxt : ∀ (h' : x_H) (σ' : Sg) (x5 x6 x7 : Option Value), LI K N (n + 1) x m o σ' h' → Go K M_Law_law d 997 [some (.ref b), some (.ref x), some (.ref m), some (.ref o), some (.int (nI (7 * n))), x5, x6, x7] [] h' Q) :
    Go K M_Law_law d 610 [some (.ref b), some (.ref x), some (.ref m), some (.ref o), some (.int (nI (7 * n))), x5, x6, x7] [] h Q := by
  obtain ⟨hS, ⟨ρ, hR, hm⟩, ⟨w, ho⟩, hb1, hb2, hlg⟩ := hI
  refine go_aload_n (pc' := 611) (i := 1) d_Law_law_610 rfl rfl (by first | rfl | exact x_r_rf _) rfl ?_
  refine go_aload_n (pc' := 612) (i := 0) d_Law_law_611 rfl rfl (by first | rfl | exact x_r_rf _) rfl ?_
  refine go_iload (pc' := 614) (i := 4) d_Law_law_612 rfl rfl ?_
  refine go_iconst (pc' := 615) (v := (nI 1)) d_Law_law_614 (by decide) rfl ?_
  refine go_iaddN (pc' := 616) d_Law_law_615 rfl ?_
  refine go_sld (pc' := 617) hX hbB d_Law_law_616 (by omega) (by omega) rfl ?_
  refine go_aload_n (pc' := 618) (i := 3) d_Law_law_617 rfl rfl (by first | rfl | exact x_r_rf _) rfl ?_
  refine go_callS (pc' := 621) (M' := M_Law_drop) [_, _, _] d_Law_law_618 t_385 t_386 t_0 cd_Law_drop nm_Law_drop rfl rfl (Nat.le_of_ble_eq_true rfl) rfl (l_drop (d := d - 1) hS ho (xs (7 * n + 1)) (by omega) (by omega) (by omega)) (by first | decide | omega) (Nat.le_of_ble_eq_true rfl) rfl (fun v f1 hq => ?_) (fun q g hq => hq.elim)
  obtain ⟨rfl, hS1, ⟨w1, ho1, hw1⟩, hk1, b1, b2, b3, b4, b5⟩ := hq
  obtain ⟨r, hr⟩ : ∃ r, r = (p_Drop σ (xs (7 * n + 1))) := ⟨_, rfl⟩
  rw [← hr] at hS1 hw1 b5
  show Go K M_Law_law d 621 _ [.int (nI (k_d (p_Drop σ (xs (7 * n + 1))) c_1))] f1 _
  rw [← hr]
  obtain ⟨hm1, fs, hm0⟩ := Rc_kc hm hom hk1
  have sp : Go K M_Mod_drop (d - 1) 0 _ [] (Rh f1 m ρ) (Qm f1 m (p_Drop σ (xs (7 * n + 1))) c_1 _) := m_drop (K := K) (g := f1) (m := m) (d := d - 1) hR (xs (7 * n + 1)) (by omega)
  rw [Rh_eq hm1, ← hr] at sp
  refine go_istore (pc' := 623) (i := 5) d_Law_law_621 (by decide) (x_s5 (by first | rfl | exact x_k_rf _)) rfl ?_
  refine go_aload_n (pc' := 624) (i := 2) d_Law_law_623 rfl rfl (by first | rfl | exact x_r_rf _) rfl ?_
  refine go_aload_n (pc' := 625) (i := 0) d_Law_law_624 rfl rfl (by first | rfl | exact x_r_rf _) rfl ?_
  refine go_iload (pc' := 627) (i := 4) d_Law_law_625 rfl rfl ?_
  refine go_iconst (pc' := 628) (v := (nI 1)) d_Law_law_627 (by decide) rfl ?_
  refine go_iaddN (pc' := 629) d_Law_law_628 rfl ?_
  refine go_sld (pc' := 630) hX hbB d_Law_law_629 (by omega) (by omega) rfl ?_
  refine go_callV (pc' := 633) (M' := M_Mod_drop) (ci := 6) (r := (n_Mod, T_Mod, 16)) [_] d_Law_law_630 t_585 t_586 t_587 cd_Mod_drop nm_Mod_drop rfl (by rfl) (by first | assumption | exact x_up_self _ _ _ | exact x_nw_self _ _ _ | (rw [x_up_ne (by first | omega | (simp only [x_up, x_nw]; omega))]; first | assumption | exact x_up_self _ _ _ | (rw [x_up_ne (by first | omega | (simp only [x_up, x_nw]; omega))]; first | assumption | exact x_up_self _ _ _)) | (rw [x_nw_ne (by first | omega | (simp only [x_up, x_nw]; omega))]; first | assumption | exact x_up_self _ _ _ | (rw [x_up_ne (by first | omega | (simp only [x_up, x_nw]; omega))]; assumption))) rfl (Nat.le_of_ble_eq_true rfl) rfl (sp) (by first | decide | omega) (Nat.le_of_ble_eq_true rfl) rfl (fun v f2 hq => ?_) (fun q g hq => hq.elim)
  obtain ⟨ρ2, rfl, hR2, htw, hv1, hv2⟩ := Qm.out hq
  obtain ⟨z, rfl, hz⟩ := q_ri (fun u hu => t_Drop (hr ▸ hu)) hv1 hv2
  show Go K M_Law_law d 633 _ [.int z] (Rh f1 m ρ2) _
  have hm2 := Rh_0 f1 m ρ2
  refine go_istore (pc' := 635) (i := 6) d_Law_law_633 (by decide) (x_s6 (by first | rfl | exact x_k_rf _)) rfl ?_
  refine go_aload_n (pc' := 636) (i := 2) d_Law_law_635 rfl rfl (by first | rfl | exact x_r_rf _) rfl ?_
  refine go_callV (pc' := 639) (M' := M_Mod_thrown) (ci := 6) (r := (n_Mod, T_Mod, 16)) [] d_Law_law_636 t_522 t_523 t_524 cd_Mod_thrown nm_Mod_thrown rfl (by rfl) (by first | assumption | exact x_up_self _ _ _ | exact x_nw_self _ _ _ | (rw [x_up_ne (by first | omega | (simp only [x_up, x_nw]; omega))]; first | assumption | exact x_up_self _ _ _ | (rw [x_up_ne (by first | omega | (simp only [x_up, x_nw]; omega))]; first | assumption | exact x_up_self _ _ _)) | (rw [x_nw_ne (by first | omega | (simp only [x_up, x_nw]; omega))]; first | assumption | exact x_up_self _ _ _ | (rw [x_up_ne (by first | omega | (simp only [x_up, x_nw]; omega))]; assumption))) rfl (Nat.le_of_ble_eq_true rfl) rfl (m_thrown (d := d - 1)) (by first | decide | omega) (Nat.le_of_ble_eq_true rfl) rfl (fun v f3 hq => ?_) (fun q g hq => by cases hq.1)
  obtain ⟨e1, e2⟩ := hq
  cases e1
  rw [← e2]
  show Go K M_Law_law d 639 _ [.int (r_tw ρ2)] _ _
  rw [htw]
  refine go_iload (pc' := 641) (i := 5) d_Law_law_639 rfl rfl ?_
  have hnx : Go K M_Law_law d 663 [some (.ref b), some (.ref x), some (.ref m), some (.ref o), some (.int (nI (7 * n))), some (.int (nI (k_d r c_1))), some (.int z), x7] [] (Rh f1 m ρ2) Q := by
    refine go_goto (tgt := 997) d_Law_law_663 (by decide) ?_
    exact nxt _ _ _ _ _ (LI.nx hS1 hm1 ho1 hom hR2 hnN (by omega) (by omega) (by omega))
  refine go_icmp_eq (tgt := 646) (pc' := 644) d_Law_law_641 (by decide) rfl (fun hc => ?_) (fun hc => ?_)
  · refine go_iload (pc' := 648) (i := 5) d_Law_law_646 rfl rfl ?_
    refine go_if_ne (tgt := 663) (pc' := 651) d_Law_law_648 (by decide) rfl (fun hc => ?_) (fun hc => ?_)
    · exact hnx
    · have hk0 : k_d r c_1 = 0 := (nI_eq (by have := k_d4 (r := r) (fun k => (c_1_b k).2); omega) (by omega)).mp (show nI (k_d r c_1) = nI 0 from hc)
      obtain ⟨u, hu⟩ := k_d0 (fun k => (c_1_b k).1) hk0
      have ho2 : (Rh f1 m ρ2).2.2 o = some (.inl (1, 1, .inr (.inl w1))) := by rw [Rh_of hom]; exact ho1
      refine go_aload_n (pc' := 652) (i := 3) d_Law_law_651 rfl rfl (by first | rfl | exact x_r_rf _) rfl ?_
      refine go_iconst (pc' := 653) (v := (nI 0)) d_Law_law_652 (by decide) rfl ?_
      refine go_laldN (pc' := 654) d_Law_law_653 (by first | assumption | exact x_up_self _ _ _ | exact x_nw_self _ _ _ | (rw [x_up_ne (by first | omega | (simp only [x_up, x_nw]; omega))]; first | assumption | exact x_up_self _ _ _ | (rw [x_up_ne (by first | omega | (simp only [x_up, x_nw]; omega))]; first | assumption | exact x_up_self _ _ _)) | (rw [x_nw_ne (by first | omega | (simp only [x_up, x_nw]; omega))]; first | assumption | exact x_up_self _ _ _ | (rw [x_up_ne (by first | omega | (simp only [x_up, x_nw]; omega))]; assumption))) (by rfl) (by first | assumption | omega | (simp only [x_up, x_nw]; omega)) (by first | assumption | omega | (simp only [x_up, x_nw]; omega)) rfl ?_
      rw [hw1 u hu, hz u hu]
      refine go_iload (pc' := 656) (i := 6) d_Law_law_654 rfl rfl ?_
      refine go_i2l (pc' := 657) d_Law_law_656 rfl rfl ?_
      refine go_lcmp (pc' := 658) d_Law_law_657 rfl ?_
      rw [show lg_cmp (L_i (some (.int z))) z.toInt64 = 0 from lg_cmp_self _]
      refine go_if_eq (tgt := 663) (pc' := 661) d_Law_law_658 (by decide) rfl (fun hc => ?_) (fun hc => ?_)
      · exact hnx
      · exact absurd rfl hc
  · exact absurd rfl hc
set_option maxRecDepth 100000 in
theorem w_iterate (hX : va_X b L xs (x_s K) (x_s K).heap) (hbB : b < x_B K) (hL : L < 2 ^ 31) (hnL : 7 * n + 7 ≤ L) (hnN : n < N) (hN : N ≤ 1000) (hom : o < m ∨ m + 13 ≤ o) (hd : 13 ≤ d) (hI : LI K N n x m o σ h)
    (nxt : ∀ (h' : x_H) (σ' : Sg) (x5 x6 x7 : Option Value), LI K N (n + 1) x m o σ' h' → Go K M_Law_law d 997 [some (.ref b), some (.ref x), some (.ref m), some (.ref o), some (.int (nI (7 * n))), x5, x6, x7] [] h' Q) :
    Go K M_Law_law d 666 [some (.ref b), some (.ref x), some (.ref m), some (.ref o), some (.int (nI (7 * n))), x5, x6, x7] [] h Q := by
  obtain ⟨hS, ⟨ρ, hR, hm⟩, ⟨w, ho⟩, hb1, hb2, hlg⟩ := hI
  refine go_aload_n (pc' := 667) (i := 1) d_Law_law_666 rfl rfl (by first | rfl | exact x_r_rf _) rfl ?_
  refine go_aload_n (pc' := 668) (i := 0) d_Law_law_667 rfl rfl (by first | rfl | exact x_r_rf _) rfl ?_
  refine go_iload (pc' := 670) (i := 4) d_Law_law_668 rfl rfl ?_
  refine go_iconst (pc' := 671) (v := (nI 1)) d_Law_law_670 (by decide) rfl ?_
  refine go_iaddN (pc' := 672) d_Law_law_671 rfl ?_
  refine go_sld (pc' := 673) hX hbB d_Law_law_672 (by omega) (by omega) rfl ?_
  refine go_aload_n (pc' := 674) (i := 3) d_Law_law_673 rfl rfl (by first | rfl | exact x_r_rf _) rfl ?_
  refine go_callS (pc' := 677) (M' := M_Law_iterate) [_, _, _] d_Law_law_674 t_392 t_393 t_0 cd_Law_iterate nm_Law_iterate rfl rfl (Nat.le_of_ble_eq_true rfl) rfl (l_iterate (d := d - 1) hS ho (xs (7 * n + 1)) (by omega) (by omega) (by omega) (by omega)) (by first | decide | omega) (Nat.le_of_ble_eq_true rfl) rfl (fun v f1 hq => ?_) (fun q g hq => hq.elim)
  obtain ⟨rfl, hS1, ⟨w1, ho1, hw1⟩, hk1, b1, b2, b3, b4, b5⟩ := hq
  obtain ⟨r, hr⟩ : ∃ r, r = (p_Iter σ (xs (7 * n + 1))) := ⟨_, rfl⟩
  rw [← hr] at hS1 hw1 b5
  show Go K M_Law_law d 677 _ [.int (nI (k_d (p_Iter σ (xs (7 * n + 1))) c_1))] f1 _
  rw [← hr]
  obtain ⟨hm1, fs, hm0⟩ := Rc_kc hm hom hk1
  have sp : Go K M_Mod_iterate (d - 1) 0 _ [] (Rh f1 m ρ) (Qm f1 m (p_Iter σ (xs (7 * n + 1))) c_1 _) := m_iterate (K := K) (g := f1) (m := m) (d := d - 1) hR (xs (7 * n + 1)) (by omega) (by omega)
  rw [Rh_eq hm1, ← hr] at sp
  refine go_istore (pc' := 679) (i := 5) d_Law_law_677 (by decide) (x_s5 (by first | rfl | exact x_k_rf _)) rfl ?_
  refine go_aload_n (pc' := 680) (i := 2) d_Law_law_679 rfl rfl (by first | rfl | exact x_r_rf _) rfl ?_
  refine go_aload_n (pc' := 681) (i := 0) d_Law_law_680 rfl rfl (by first | rfl | exact x_r_rf _) rfl ?_
  refine go_iload (pc' := 683) (i := 4) d_Law_law_681 rfl rfl ?_
  refine go_iconst (pc' := 684) (v := (nI 1)) d_Law_law_683 (by decide) rfl ?_
  refine go_iaddN (pc' := 685) d_Law_law_684 rfl ?_
  refine go_sld (pc' := 686) hX hbB d_Law_law_685 (by omega) (by omega) rfl ?_
  refine go_callV (pc' := 689) (M' := M_Mod_iterate) (ci := 6) (r := (n_Mod, T_Mod, 16)) [_] d_Law_law_686 t_589 t_590 t_591 cd_Mod_iterate nm_Mod_iterate rfl (by rfl) (by first | assumption | exact x_up_self _ _ _ | exact x_nw_self _ _ _ | (rw [x_up_ne (by first | omega | (simp only [x_up, x_nw]; omega))]; first | assumption | exact x_up_self _ _ _ | (rw [x_up_ne (by first | omega | (simp only [x_up, x_nw]; omega))]; first | assumption | exact x_up_self _ _ _)) | (rw [x_nw_ne (by first | omega | (simp only [x_up, x_nw]; omega))]; first | assumption | exact x_up_self _ _ _ | (rw [x_up_ne (by first | omega | (simp only [x_up, x_nw]; omega))]; assumption))) rfl (Nat.le_of_ble_eq_true rfl) rfl (sp) (by first | decide | omega) (Nat.le_of_ble_eq_true rfl) rfl (fun v f2 hq => ?_) (fun q g hq => hq.elim)
  obtain ⟨ρ2, rfl, hR2, htw, hv1, hv2⟩ := Qm.out hq
  obtain ⟨z, rfl, hz⟩ := q_ri (fun u hu => t_Iter (hr ▸ hu)) hv1 hv2
  show Go K M_Law_law d 689 _ [.int z] (Rh f1 m ρ2) _
  have hm2 := Rh_0 f1 m ρ2
  refine go_istore (pc' := 691) (i := 6) d_Law_law_689 (by decide) (x_s6 (by first | rfl | exact x_k_rf _)) rfl ?_
  refine go_aload_n (pc' := 692) (i := 2) d_Law_law_691 rfl rfl (by first | rfl | exact x_r_rf _) rfl ?_
  refine go_callV (pc' := 695) (M' := M_Mod_thrown) (ci := 6) (r := (n_Mod, T_Mod, 16)) [] d_Law_law_692 t_522 t_523 t_524 cd_Mod_thrown nm_Mod_thrown rfl (by rfl) (by first | assumption | exact x_up_self _ _ _ | exact x_nw_self _ _ _ | (rw [x_up_ne (by first | omega | (simp only [x_up, x_nw]; omega))]; first | assumption | exact x_up_self _ _ _ | (rw [x_up_ne (by first | omega | (simp only [x_up, x_nw]; omega))]; first | assumption | exact x_up_self _ _ _)) | (rw [x_nw_ne (by first | omega | (simp only [x_up, x_nw]; omega))]; first | assumption | exact x_up_self _ _ _ | (rw [x_up_ne (by first | omega | (simp only [x_up, x_nw]; omega))]; assumption))) rfl (Nat.le_of_ble_eq_true rfl) rfl (m_thrown (d := d - 1)) (by first | decide | omega) (Nat.le_of_ble_eq_true rfl) rfl (fun v f3 hq => ?_) (fun q g hq => by cases hq.1)
  obtain ⟨e1, e2⟩ := hq
  cases e1
  rw [← e2]
  show Go K M_Law_law d 695 _ [.int (r_tw ρ2)] _ _
  rw [htw]
  refine go_iload (pc' := 697) (i := 5) d_Law_law_695 rfl rfl ?_
  have hnx : Go K M_Law_law d 719 [some (.ref b), some (.ref x), some (.ref m), some (.ref o), some (.int (nI (7 * n))), some (.int (nI (k_d r c_1))), some (.int z), x7] [] (Rh f1 m ρ2) Q := by
    refine go_goto (tgt := 997) d_Law_law_719 (by decide) ?_
    exact nxt _ _ _ _ _ (LI.nx hS1 hm1 ho1 hom hR2 hnN (by omega) (by omega) (by omega))
  refine go_icmp_eq (tgt := 702) (pc' := 700) d_Law_law_697 (by decide) rfl (fun hc => ?_) (fun hc => ?_)
  · refine go_iload (pc' := 704) (i := 5) d_Law_law_702 rfl rfl ?_
    refine go_if_ne (tgt := 719) (pc' := 707) d_Law_law_704 (by decide) rfl (fun hc => ?_) (fun hc => ?_)
    · exact hnx
    · have hk0 : k_d r c_1 = 0 := (nI_eq (by have := k_d4 (r := r) (fun k => (c_1_b k).2); omega) (by omega)).mp (show nI (k_d r c_1) = nI 0 from hc)
      obtain ⟨u, hu⟩ := k_d0 (fun k => (c_1_b k).1) hk0
      have ho2 : (Rh f1 m ρ2).2.2 o = some (.inl (1, 1, .inr (.inl w1))) := by rw [Rh_of hom]; exact ho1
      refine go_aload_n (pc' := 708) (i := 3) d_Law_law_707 rfl rfl (by first | rfl | exact x_r_rf _) rfl ?_
      refine go_iconst (pc' := 709) (v := (nI 0)) d_Law_law_708 (by decide) rfl ?_
      refine go_laldN (pc' := 710) d_Law_law_709 (by first | assumption | exact x_up_self _ _ _ | exact x_nw_self _ _ _ | (rw [x_up_ne (by first | omega | (simp only [x_up, x_nw]; omega))]; first | assumption | exact x_up_self _ _ _ | (rw [x_up_ne (by first | omega | (simp only [x_up, x_nw]; omega))]; first | assumption | exact x_up_self _ _ _)) | (rw [x_nw_ne (by first | omega | (simp only [x_up, x_nw]; omega))]; first | assumption | exact x_up_self _ _ _ | (rw [x_up_ne (by first | omega | (simp only [x_up, x_nw]; omega))]; assumption))) (by rfl) (by first | assumption | omega | (simp only [x_up, x_nw]; omega)) (by first | assumption | omega | (simp only [x_up, x_nw]; omega)) rfl ?_
      rw [hw1 u hu, hz u hu]
      refine go_iload (pc' := 712) (i := 6) d_Law_law_710 rfl rfl ?_
      refine go_i2l (pc' := 713) d_Law_law_712 rfl rfl ?_
      refine go_lcmp (pc' := 714) d_Law_law_713 rfl ?_
      rw [show lg_cmp (L_i (some (.int z))) z.toInt64 = 0 from lg_cmp_self _]
      refine go_if_eq (tgt := 719) (pc' := 717) d_Law_law_714 (by decide) rfl (fun hc => ?_) (fun hc => ?_)
      · exact hnx
      · exact absurd rfl hc
  · exact absurd rfl hc
set_option maxRecDepth 100000 in
theorem w_next (hX : va_X b L xs (x_s K) (x_s K).heap) (hbB : b < x_B K) (hL : L < 2 ^ 31) (hnL : 7 * n + 7 ≤ L) (hnN : n < N) (hN : N ≤ 1000) (hom : o < m ∨ m + 13 ≤ o) (hd : 13 ≤ d) (hI : LI K N n x m o σ h)
    (nxt : ∀ (h' : x_H) (σ' : Sg) (x5 x6 x7 : Option Value), LI K N (n + 1) x m o σ' h' → Go K M_Law_law d 997 [some (.ref b), some (.ref x), some (.ref m), some (.ref o), some (.int (nI (7 * n))), x5, x6, x7] [] h' Q) :
    Go K M_Law_law d 722 [some (.ref b), some (.ref x), some (.ref m), some (.ref o), some (.int (nI (7 * n))), x5, x6, x7] [] h Q := by
  obtain ⟨hS, ⟨ρ, hR, hm⟩, ⟨w, ho⟩, hb1, hb2, hlg⟩ := hI
  refine go_aload_n (pc' := 723) (i := 1) d_Law_law_722 rfl rfl (by first | rfl | exact x_r_rf _) rfl ?_
  refine go_aload_n (pc' := 724) (i := 0) d_Law_law_723 rfl rfl (by first | rfl | exact x_r_rf _) rfl ?_
  refine go_iload (pc' := 726) (i := 4) d_Law_law_724 rfl rfl ?_
  refine go_iconst (pc' := 727) (v := (nI 1)) d_Law_law_726 (by decide) rfl ?_
  refine go_iaddN (pc' := 728) d_Law_law_727 rfl ?_
  refine go_sld (pc' := 729) hX hbB d_Law_law_728 (by omega) (by omega) rfl ?_
  refine go_aload_n (pc' := 730) (i := 3) d_Law_law_729 rfl rfl (by first | rfl | exact x_r_rf _) rfl ?_
  refine go_callS (pc' := 733) (M' := M_Law_next) [_, _, _] d_Law_law_730 t_420 t_421 t_0 cd_Law_next nm_Law_next rfl rfl (Nat.le_of_ble_eq_true rfl) rfl (l_next (d := d - 1) hS ho (xs (7 * n + 1)) (by omega) (by omega) (by omega)) (by first | decide | omega) (Nat.le_of_ble_eq_true rfl) rfl (fun v f1 hq => ?_) (fun q g hq => hq.elim)
  obtain ⟨rfl, hS1, ⟨w1, ho1, hw1⟩, hk1, b1, b2, b3, b4, b5⟩ := hq
  obtain ⟨r, hr⟩ : ∃ r, r = (p_Next σ (xs (7 * n + 1))) := ⟨_, rfl⟩
  rw [← hr] at hS1 hw1 b5
  show Go K M_Law_law d 733 _ [.int (nI (k_d (p_Next σ (xs (7 * n + 1))) c_1))] f1 _
  rw [← hr]
  obtain ⟨hm1, fs, hm0⟩ := Rc_kc hm hom hk1
  have sp : Go K M_Mod_next (d - 1) 0 _ [] (Rh f1 m ρ) (Qm f1 m (p_Next σ (xs (7 * n + 1))) c_1 _) := m_next (K := K) (g := f1) (m := m) (d := d - 1) hR (xs (7 * n + 1)) (by omega)
  rw [Rh_eq hm1, ← hr] at sp
  refine go_istore (pc' := 735) (i := 5) d_Law_law_733 (by decide) (x_s5 (by first | rfl | exact x_k_rf _)) rfl ?_
  refine go_aload_n (pc' := 736) (i := 2) d_Law_law_735 rfl rfl (by first | rfl | exact x_r_rf _) rfl ?_
  refine go_aload_n (pc' := 737) (i := 0) d_Law_law_736 rfl rfl (by first | rfl | exact x_r_rf _) rfl ?_
  refine go_iload (pc' := 739) (i := 4) d_Law_law_737 rfl rfl ?_
  refine go_iconst (pc' := 740) (v := (nI 1)) d_Law_law_739 (by decide) rfl ?_
  refine go_iaddN (pc' := 741) d_Law_law_740 rfl ?_
  refine go_sld (pc' := 742) hX hbB d_Law_law_741 (by omega) (by omega) rfl ?_
  refine go_callV (pc' := 745) (M' := M_Mod_next) (ci := 6) (r := (n_Mod, T_Mod, 16)) [_] d_Law_law_742 t_593 t_594 t_595 cd_Mod_next nm_Mod_next rfl (by rfl) (by first | assumption | exact x_up_self _ _ _ | exact x_nw_self _ _ _ | (rw [x_up_ne (by first | omega | (simp only [x_up, x_nw]; omega))]; first | assumption | exact x_up_self _ _ _ | (rw [x_up_ne (by first | omega | (simp only [x_up, x_nw]; omega))]; first | assumption | exact x_up_self _ _ _)) | (rw [x_nw_ne (by first | omega | (simp only [x_up, x_nw]; omega))]; first | assumption | exact x_up_self _ _ _ | (rw [x_up_ne (by first | omega | (simp only [x_up, x_nw]; omega))]; assumption))) rfl (Nat.le_of_ble_eq_true rfl) rfl (sp) (by first | decide | omega) (Nat.le_of_ble_eq_true rfl) rfl (fun v f2 hq => ?_) (fun q g hq => hq.elim)
  obtain ⟨ρ2, rfl, hR2, htw, hv1, hv2⟩ := Qm.out hq
  obtain ⟨z, rfl, hz⟩ := q_ri (fun u hu => t_Next (hr ▸ hu)) hv1 hv2
  show Go K M_Law_law d 745 _ [.int z] (Rh f1 m ρ2) _
  have hm2 := Rh_0 f1 m ρ2
  refine go_istore (pc' := 747) (i := 6) d_Law_law_745 (by decide) (x_s6 (by first | rfl | exact x_k_rf _)) rfl ?_
  refine go_aload_n (pc' := 748) (i := 2) d_Law_law_747 rfl rfl (by first | rfl | exact x_r_rf _) rfl ?_
  refine go_callV (pc' := 751) (M' := M_Mod_thrown) (ci := 6) (r := (n_Mod, T_Mod, 16)) [] d_Law_law_748 t_522 t_523 t_524 cd_Mod_thrown nm_Mod_thrown rfl (by rfl) (by first | assumption | exact x_up_self _ _ _ | exact x_nw_self _ _ _ | (rw [x_up_ne (by first | omega | (simp only [x_up, x_nw]; omega))]; first | assumption | exact x_up_self _ _ _ | (rw [x_up_ne (by first | omega | (simp only [x_up, x_nw]; omega))]; first | assumption | exact x_up_self _ _ _)) | (rw [x_nw_ne (by first | omega | (simp only [x_up, x_nw]; omega))]; first | assumption | exact x_up_self _ _ _ | (rw [x_up_ne (by first | omega | (simp only [x_up, x_nw]; omega))]; assumption))) rfl (Nat.le_of_ble_eq_true rfl) rfl (m_thrown (d := d - 1)) (by first | decide | omega) (Nat.le_of_ble_eq_true rfl) rfl (fun v f3 hq => ?_) (fun q g hq => by cases hq.1)
  obtain ⟨e1, e2⟩ := hq
  cases e1
  rw [← e2]
  show Go K M_Law_law d 751 _ [.int (r_tw ρ2)] _ _
  rw [htw]
  refine go_iload (pc' := 753) (i := 5) d_Law_law_751 rfl rfl ?_
  have hnx : Go K M_Law_law d 775 [some (.ref b), some (.ref x), some (.ref m), some (.ref o), some (.int (nI (7 * n))), some (.int (nI (k_d r c_1))), some (.int z), x7] [] (Rh f1 m ρ2) Q := by
    refine go_goto (tgt := 997) d_Law_law_775 (by decide) ?_
    exact nxt _ _ _ _ _ (LI.nx hS1 hm1 ho1 hom hR2 hnN (by omega) (by omega) (by omega))
  refine go_icmp_eq (tgt := 758) (pc' := 756) d_Law_law_753 (by decide) rfl (fun hc => ?_) (fun hc => ?_)
  · refine go_iload (pc' := 760) (i := 5) d_Law_law_758 rfl rfl ?_
    refine go_if_ne (tgt := 775) (pc' := 763) d_Law_law_760 (by decide) rfl (fun hc => ?_) (fun hc => ?_)
    · exact hnx
    · have hk0 : k_d r c_1 = 0 := (nI_eq (by have := k_d4 (r := r) (fun k => (c_1_b k).2); omega) (by omega)).mp (show nI (k_d r c_1) = nI 0 from hc)
      obtain ⟨u, hu⟩ := k_d0 (fun k => (c_1_b k).1) hk0
      have ho2 : (Rh f1 m ρ2).2.2 o = some (.inl (1, 1, .inr (.inl w1))) := by rw [Rh_of hom]; exact ho1
      refine go_aload_n (pc' := 764) (i := 3) d_Law_law_763 rfl rfl (by first | rfl | exact x_r_rf _) rfl ?_
      refine go_iconst (pc' := 765) (v := (nI 0)) d_Law_law_764 (by decide) rfl ?_
      refine go_laldN (pc' := 766) d_Law_law_765 (by first | assumption | exact x_up_self _ _ _ | exact x_nw_self _ _ _ | (rw [x_up_ne (by first | omega | (simp only [x_up, x_nw]; omega))]; first | assumption | exact x_up_self _ _ _ | (rw [x_up_ne (by first | omega | (simp only [x_up, x_nw]; omega))]; first | assumption | exact x_up_self _ _ _)) | (rw [x_nw_ne (by first | omega | (simp only [x_up, x_nw]; omega))]; first | assumption | exact x_up_self _ _ _ | (rw [x_up_ne (by first | omega | (simp only [x_up, x_nw]; omega))]; assumption))) (by rfl) (by first | assumption | omega | (simp only [x_up, x_nw]; omega)) (by first | assumption | omega | (simp only [x_up, x_nw]; omega)) rfl ?_
      rw [hw1 u hu, hz u hu]
      refine go_iload (pc' := 768) (i := 6) d_Law_law_766 rfl rfl ?_
      refine go_i2l (pc' := 769) d_Law_law_768 rfl rfl ?_
      refine go_lcmp (pc' := 770) d_Law_law_769 rfl ?_
      rw [show lg_cmp (L_i (some (.int z))) z.toInt64 = 0 from lg_cmp_self _]
      refine go_if_eq (tgt := 775) (pc' := 773) d_Law_law_770 (by decide) rfl (fun hc => ?_) (fun hc => ?_)
      · exact hnx
      · exact absurd rfl hc
  · exact absurd rfl hc
end LD
