section LD
variable {K : x_K} {d N n b L x o m : Nat} {h f g : x_H} {σ : Sg} {w : Nat → Int64} {xs : Nat → Int32} {Q : x_O → x_H → Prop} {x5 x6 x7 : Option Value}
set_option maxRecDepth 100000 in
theorem w_measure (hX : va_X b L xs (x_s K) (x_s K).heap) (hbB : b < x_B K) (hL : L < 2 ^ 31) (hnL : 7 * n + 7 ≤ L) (hnN : n < N) (hN : N ≤ 1000) (hom : o < m ∨ m + 13 ≤ o) (hd : 13 ≤ d) (hI : LI K N n x m o σ h)
    (nxt : ∀ (h' : x_H) (σ' : Sg) (x5 x6 x7 : Option Value), LI K N (n + 1) x m o σ' h' → Go K M_Law_law d 997 [some (.ref b), some (.ref x), some (.ref m), some (.ref o), some (.int (nI (7 * n))), x5, x6, x7] [] h' Q) :
    Go K M_Law_law d 805 [some (.ref b), some (.ref x), some (.ref m), some (.ref o), some (.int (nI (7 * n))), x5, x6, x7] [] h Q := by
  obtain ⟨hS, ⟨ρ, hR, hm⟩, ⟨w, ho⟩, hb1, hb2, hlg⟩ := hI
  refine go_aload_n (pc' := 806) (i := 1) d_Law_law_805 rfl rfl (by first | rfl | exact x_r_rf _) rfl ?_
  refine go_aload_n (pc' := 807) (i := 0) d_Law_law_806 rfl rfl (by first | rfl | exact x_r_rf _) rfl ?_
  refine go_iload (pc' := 809) (i := 4) d_Law_law_807 rfl rfl ?_
  refine go_iconst (pc' := 810) (v := (nI 1)) d_Law_law_809 (by decide) rfl ?_
  refine go_iaddN (pc' := 811) d_Law_law_810 rfl ?_
  refine go_sld (pc' := 812) hX hbB d_Law_law_811 (by omega) (by omega) rfl ?_
  refine go_aload_n (pc' := 813) (i := 0) d_Law_law_812 rfl rfl (by first | rfl | exact x_r_rf _) rfl ?_
  refine go_iload (pc' := 815) (i := 4) d_Law_law_813 rfl rfl ?_
  refine go_iconst (pc' := 816) (v := (nI 2)) d_Law_law_815 (by decide) rfl ?_
  refine go_iaddN (pc' := 817) d_Law_law_816 rfl ?_
  refine go_sld (pc' := 818) hX hbB d_Law_law_817 (by omega) (by omega) rfl ?_
  refine go_aload_n (pc' := 819) (i := 3) d_Law_law_818 rfl rfl (by first | rfl | exact x_r_rf _) rfl ?_
  refine go_callS (pc' := 822) (M' := M_Law_measure) [_, _, _, _] d_Law_law_819 t_441 t_442 t_0 cd_Law_measure nm_Law_measure rfl rfl (Nat.le_of_ble_eq_true rfl) rfl (l_measure (d := d - 1) hS ho (xs (7 * n + 1)) (xs (7 * n + 2)) (by omega) (by omega) (by omega)) (by first | decide | omega) (Nat.le_of_ble_eq_true rfl) rfl (fun v f1 hq => ?_) (fun q g hq => hq.elim)
  obtain ⟨rfl, hS1, ⟨w1, ho1, hw1⟩, hk1, b1, b2, b3, b4, b5⟩ := hq
  obtain ⟨r, hr⟩ : ∃ r, r = (p_Mea σ (xs (7 * n + 1)) (xs (7 * n + 2))) := ⟨_, rfl⟩
  rw [← hr] at hS1 hw1 b5
  show Go K M_Law_law d 822 _ [.int (nI (k_d (p_Mea σ (xs (7 * n + 1)) (xs (7 * n + 2))) c_1))] f1 _
  rw [← hr]
  obtain ⟨hm1, fs, hm0⟩ := Rc_kc hm hom hk1
  have sp : Go K M_Mod_measure (d - 1) 0 _ [] (Rh f1 m ρ) (Qm f1 m (p_Mea σ (xs (7 * n + 1)) (xs (7 * n + 2))) c_1 _) := m_measure (K := K) (g := f1) (m := m) (d := d - 1) hR (xs (7 * n + 1)) (xs (7 * n + 2)) (by omega)
  rw [Rh_eq hm1, ← hr] at sp
  refine go_istore (pc' := 824) (i := 5) d_Law_law_822 (by decide) (x_s5 (by first | rfl | exact x_k_rf _)) rfl ?_
  refine go_aload_n (pc' := 825) (i := 2) d_Law_law_824 rfl rfl (by first | rfl | exact x_r_rf _) rfl ?_
  refine go_aload_n (pc' := 826) (i := 0) d_Law_law_825 rfl rfl (by first | rfl | exact x_r_rf _) rfl ?_
  refine go_iload (pc' := 828) (i := 4) d_Law_law_826 rfl rfl ?_
  refine go_iconst (pc' := 829) (v := (nI 1)) d_Law_law_828 (by decide) rfl ?_
  refine go_iaddN (pc' := 830) d_Law_law_829 rfl ?_
  refine go_sld (pc' := 831) hX hbB d_Law_law_830 (by omega) (by omega) rfl ?_
  refine go_aload_n (pc' := 832) (i := 0) d_Law_law_831 rfl rfl (by first | rfl | exact x_r_rf _) rfl ?_
  refine go_iload (pc' := 834) (i := 4) d_Law_law_832 rfl rfl ?_
  refine go_iconst (pc' := 835) (v := (nI 2)) d_Law_law_834 (by decide) rfl ?_
  refine go_iaddN (pc' := 836) d_Law_law_835 rfl ?_
  refine go_sld (pc' := 837) hX hbB d_Law_law_836 (by omega) (by omega) rfl ?_
  refine go_callV (pc' := 840) (M' := M_Mod_measure) (ci := 6) (r := (n_Mod, T_Mod, 16)) [_, _] d_Law_law_837 t_605 t_606 t_607 cd_Mod_measure nm_Mod_measure rfl (by rfl) (by first | assumption | exact x_up_self _ _ _ | exact x_nw_self _ _ _ | (rw [x_up_ne (by first | omega | (simp only [x_up, x_nw]; omega))]; first | assumption | exact x_up_self _ _ _ | (rw [x_up_ne (by first | omega | (simp only [x_up, x_nw]; omega))]; first | assumption | exact x_up_self _ _ _)) | (rw [x_nw_ne (by first | omega | (simp only [x_up, x_nw]; omega))]; first | assumption | exact x_up_self _ _ _ | (rw [x_up_ne (by first | omega | (simp only [x_up, x_nw]; omega))]; assumption))) rfl (Nat.le_of_ble_eq_true rfl) rfl (sp) (by first | decide | omega) (Nat.le_of_ble_eq_true rfl) rfl (fun v f2 hq => ?_) (fun q g hq => hq.elim)
  obtain ⟨ρ2, rfl, hR2, htw, hv1, hv2⟩ := Qm.out hq
  obtain ⟨z, rfl, hz⟩ := q_ri (fun u hu => t_Mea (hr ▸ hu)) hv1 hv2
  show Go K M_Law_law d 840 _ [.int z] (Rh f1 m ρ2) _
  have hm2 := Rh_0 f1 m ρ2
  refine go_istore (pc' := 842) (i := 6) d_Law_law_840 (by decide) (x_s6 (by first | rfl | exact x_k_rf _)) rfl ?_
  refine go_aload_n (pc' := 843) (i := 2) d_Law_law_842 rfl rfl (by first | rfl | exact x_r_rf _) rfl ?_
  refine go_callV (pc' := 846) (M' := M_Mod_thrown) (ci := 6) (r := (n_Mod, T_Mod, 16)) [] d_Law_law_843 t_522 t_523 t_524 cd_Mod_thrown nm_Mod_thrown rfl (by rfl) (by first | assumption | exact x_up_self _ _ _ | exact x_nw_self _ _ _ | (rw [x_up_ne (by first | omega | (simp only [x_up, x_nw]; omega))]; first | assumption | exact x_up_self _ _ _ | (rw [x_up_ne (by first | omega | (simp only [x_up, x_nw]; omega))]; first | assumption | exact x_up_self _ _ _)) | (rw [x_nw_ne (by first | omega | (simp only [x_up, x_nw]; omega))]; first | assumption | exact x_up_self _ _ _ | (rw [x_up_ne (by first | omega | (simp only [x_up, x_nw]; omega))]; assumption))) rfl (Nat.le_of_ble_eq_true rfl) rfl (m_thrown (d := d - 1)) (by first | decide | omega) (Nat.le_of_ble_eq_true rfl) rfl (fun v f3 hq => ?_) (fun q g hq => by cases hq.1)
  obtain ⟨e1, e2⟩ := hq
  cases e1
  rw [← e2]
  show Go K M_Law_law d 846 _ [.int (r_tw ρ2)] _ _
  rw [htw]
  refine go_iload (pc' := 848) (i := 5) d_Law_law_846 rfl rfl ?_
  have hnx : Go K M_Law_law d 870 [some (.ref b), some (.ref x), some (.ref m), some (.ref o), some (.int (nI (7 * n))), some (.int (nI (k_d r c_1))), some (.int z), x7] [] (Rh f1 m ρ2) Q := by
    refine go_goto (tgt := 997) d_Law_law_870 (by decide) ?_
    exact nxt _ _ _ _ _ (LI.nx hS1 hm1 ho1 hom hR2 hnN (by omega) (by omega) (by omega))
  refine go_icmp_eq (tgt := 853) (pc' := 851) d_Law_law_848 (by decide) rfl (fun hc => ?_) (fun hc => ?_)
  · refine go_iload (pc' := 855) (i := 5) d_Law_law_853 rfl rfl ?_
    refine go_if_ne (tgt := 870) (pc' := 858) d_Law_law_855 (by decide) rfl (fun hc => ?_) (fun hc => ?_)
    · exact hnx
    · have hk0 : k_d r c_1 = 0 := (nI_eq (by have := k_d4 (r := r) (fun k => (c_1_b k).2); omega) (by omega)).mp (show nI (k_d r c_1) = nI 0 from hc)
      obtain ⟨u, hu⟩ := k_d0 (fun k => (c_1_b k).1) hk0
      have ho2 : (Rh f1 m ρ2).2.2 o = some (.inl (1, 1, .inr (.inl w1))) := by rw [Rh_of hom]; exact ho1
      refine go_aload_n (pc' := 859) (i := 3) d_Law_law_858 rfl rfl (by first | rfl | exact x_r_rf _) rfl ?_
      refine go_iconst (pc' := 860) (v := (nI 0)) d_Law_law_859 (by decide) rfl ?_
      refine go_laldN (pc' := 861) d_Law_law_860 (by first | assumption | exact x_up_self _ _ _ | exact x_nw_self _ _ _ | (rw [x_up_ne (by first | omega | (simp only [x_up, x_nw]; omega))]; first | assumption | exact x_up_self _ _ _ | (rw [x_up_ne (by first | omega | (simp only [x_up, x_nw]; omega))]; first | assumption | exact x_up_self _ _ _)) | (rw [x_nw_ne (by first | omega | (simp only [x_up, x_nw]; omega))]; first | assumption | exact x_up_self _ _ _ | (rw [x_up_ne (by first | omega | (simp only [x_up, x_nw]; omega))]; assumption))) (by rfl) (by first | assumption | omega | (simp only [x_up, x_nw]; omega)) (by first | assumption | omega | (simp only [x_up, x_nw]; omega)) rfl ?_
      rw [hw1 u hu, hz u hu]
      refine go_iload (pc' := 863) (i := 6) d_Law_law_861 rfl rfl ?_
      refine go_i2l (pc' := 864) d_Law_law_863 rfl rfl ?_
      refine go_lcmp (pc' := 865) d_Law_law_864 rfl ?_
      rw [show lg_cmp (L_i (some (.int z))) z.toInt64 = 0 from lg_cmp_self _]
      refine go_if_eq (tgt := 870) (pc' := 868) d_Law_law_865 (by decide) rfl (fun hc => ?_) (fun hc => ?_)
      · exact hnx
      · exact absurd rfl hc
  · exact absurd rfl hc
set_option maxRecDepth 100000 in
theorem w_common (hX : va_X b L xs (x_s K) (x_s K).heap) (hbB : b < x_B K) (hL : L < 2 ^ 31) (hnL : 7 * n + 7 ≤ L) (hnN : n < N) (hN : N ≤ 1000) (hom : o < m ∨ m + 13 ≤ o) (hd : 13 ≤ d) (hI : LI K N n x m o σ h)
    (nxt : ∀ (h' : x_H) (σ' : Sg) (x5 x6 x7 : Option Value), LI K N (n + 1) x m o σ' h' → Go K M_Law_law d 997 [some (.ref b), some (.ref x), some (.ref m), some (.ref o), some (.int (nI (7 * n))), x5, x6, x7] [] h' Q) :
    Go K M_Law_law d 873 [some (.ref b), some (.ref x), some (.ref m), some (.ref o), some (.int (nI (7 * n))), x5, x6, x7] [] h Q := by
  obtain ⟨hS, ⟨ρ, hR, hm⟩, ⟨w, ho⟩, hb1, hb2, hlg⟩ := hI
  refine go_aload_n (pc' := 874) (i := 1) d_Law_law_873 rfl rfl (by first | rfl | exact x_r_rf _) rfl ?_
  refine go_aload_n (pc' := 875) (i := 0) d_Law_law_874 rfl rfl (by first | rfl | exact x_r_rf _) rfl ?_
  refine go_iload (pc' := 877) (i := 4) d_Law_law_875 rfl rfl ?_
  refine go_iconst (pc' := 878) (v := (nI 1)) d_Law_law_877 (by decide) rfl ?_
  refine go_iaddN (pc' := 879) d_Law_law_878 rfl ?_
  refine go_sld (pc' := 880) hX hbB d_Law_law_879 (by omega) (by omega) rfl ?_
  refine go_aload_n (pc' := 881) (i := 0) d_Law_law_880 rfl rfl (by first | rfl | exact x_r_rf _) rfl ?_
  refine go_iload (pc' := 883) (i := 4) d_Law_law_881 rfl rfl ?_
  refine go_iconst (pc' := 884) (v := (nI 2)) d_Law_law_883 (by decide) rfl ?_
  refine go_iaddN (pc' := 885) d_Law_law_884 rfl ?_
  refine go_sld (pc' := 886) hX hbB d_Law_law_885 (by omega) (by omega) rfl ?_
  refine go_aload_n (pc' := 887) (i := 3) d_Law_law_886 rfl rfl (by first | rfl | exact x_r_rf _) rfl ?_
  refine go_callS (pc' := 890) (M' := M_Law_common) [_, _, _, _] d_Law_law_887 t_448 t_449 t_0 cd_Law_common nm_Law_common rfl rfl (Nat.le_of_ble_eq_true rfl) rfl (l_common (d := d - 1) hS ho (xs (7 * n + 1)) (xs (7 * n + 2)) (by omega) (by omega) (by omega)) (by first | decide | omega) (Nat.le_of_ble_eq_true rfl) rfl (fun v f1 hq => ?_) (fun q g hq => hq.elim)
  obtain ⟨rfl, hS1, ⟨w1, ho1, hw1⟩, hk1, b1, b2, b3, b4, b5⟩ := hq
  obtain ⟨r, hr⟩ : ∃ r, r = (p_Com σ (xs (7 * n + 1)) (xs (7 * n + 2))) := ⟨_, rfl⟩
  rw [← hr] at hS1 hw1 b5
  show Go K M_Law_law d 890 _ [.int (nI (k_d (p_Com σ (xs (7 * n + 1)) (xs (7 * n + 2))) c_1))] f1 _
  rw [← hr]
  obtain ⟨hm1, fs, hm0⟩ := Rc_kc hm hom hk1
  have sp : Go K M_Mod_common (d - 1) 0 _ [] (Rh f1 m ρ) (Qm f1 m (p_Com σ (xs (7 * n + 1)) (xs (7 * n + 2))) c_1 _) := m_common (K := K) (g := f1) (m := m) (d := d - 1) hR (xs (7 * n + 1)) (xs (7 * n + 2)) (by omega)
  rw [Rh_eq hm1, ← hr] at sp
  refine go_istore (pc' := 892) (i := 5) d_Law_law_890 (by decide) (x_s5 (by first | rfl | exact x_k_rf _)) rfl ?_
  refine go_aload_n (pc' := 893) (i := 2) d_Law_law_892 rfl rfl (by first | rfl | exact x_r_rf _) rfl ?_
  refine go_aload_n (pc' := 894) (i := 0) d_Law_law_893 rfl rfl (by first | rfl | exact x_r_rf _) rfl ?_
  refine go_iload (pc' := 896) (i := 4) d_Law_law_894 rfl rfl ?_
  refine go_iconst (pc' := 897) (v := (nI 1)) d_Law_law_896 (by decide) rfl ?_
  refine go_iaddN (pc' := 898) d_Law_law_897 rfl ?_
  refine go_sld (pc' := 899) hX hbB d_Law_law_898 (by omega) (by omega) rfl ?_
  refine go_aload_n (pc' := 900) (i := 0) d_Law_law_899 rfl rfl (by first | rfl | exact x_r_rf _) rfl ?_
  refine go_iload (pc' := 902) (i := 4) d_Law_law_900 rfl rfl ?_
  refine go_iconst (pc' := 903) (v := (nI 2)) d_Law_law_902 (by decide) rfl ?_
  refine go_iaddN (pc' := 904) d_Law_law_903 rfl ?_
  refine go_sld (pc' := 905) hX hbB d_Law_law_904 (by omega) (by omega) rfl ?_
  refine go_callV (pc' := 908) (M' := M_Mod_common) (ci := 6) (r := (n_Mod, T_Mod, 16)) [_, _] d_Law_law_905 t_613 t_614 t_615 cd_Mod_common nm_Mod_common rfl (by rfl) (by first | assumption | exact x_up_self _ _ _ | exact x_nw_self _ _ _ | (rw [x_up_ne (by first | omega | (simp only [x_up, x_nw]; omega))]; first | assumption | exact x_up_self _ _ _ | (rw [x_up_ne (by first | omega | (simp only [x_up, x_nw]; omega))]; first | assumption | exact x_up_self _ _ _)) | (rw [x_nw_ne (by first | omega | (simp only [x_up, x_nw]; omega))]; first | assumption | exact x_up_self _ _ _ | (rw [x_up_ne (by first | omega | (simp only [x_up, x_nw]; omega))]; assumption))) rfl (Nat.le_of_ble_eq_true rfl) rfl (sp) (by first | decide | omega) (Nat.le_of_ble_eq_true rfl) rfl (fun v f2 hq => ?_) (fun q g hq => hq.elim)
  obtain ⟨ρ2, rfl, hR2, htw, hv1, hv2⟩ := Qm.out hq
  obtain ⟨z, rfl, hz⟩ := q_ri (fun u hu => t_Com (hr ▸ hu)) hv1 hv2
  show Go K M_Law_law d 908 _ [.int z] (Rh f1 m ρ2) _
  have hm2 := Rh_0 f1 m ρ2
  refine go_istore (pc' := 910) (i := 6) d_Law_law_908 (by decide) (x_s6 (by first | rfl | exact x_k_rf _)) rfl ?_
  refine go_aload_n (pc' := 911) (i := 2) d_Law_law_910 rfl rfl (by first | rfl | exact x_r_rf _) rfl ?_
  refine go_callV (pc' := 914) (M' := M_Mod_thrown) (ci := 6) (r := (n_Mod, T_Mod, 16)) [] d_Law_law_911 t_522 t_523 t_524 cd_Mod_thrown nm_Mod_thrown rfl (by rfl) (by first | assumption | exact x_up_self _ _ _ | exact x_nw_self _ _ _ | (rw [x_up_ne (by first | omega | (simp only [x_up, x_nw]; omega))]; first | assumption | exact x_up_self _ _ _ | (rw [x_up_ne (by first | omega | (simp only [x_up, x_nw]; omega))]; first | assumption | exact x_up_self _ _ _)) | (rw [x_nw_ne (by first | omega | (simp only [x_up, x_nw]; omega))]; first | assumption | exact x_up_self _ _ _ | (rw [x_up_ne (by first | omega | (simp only [x_up, x_nw]; omega))]; assumption))) rfl (Nat.le_of_ble_eq_true rfl) rfl (m_thrown (d := d - 1)) (by first | decide | omega) (Nat.le_of_ble_eq_true rfl) rfl (fun v f3 hq => ?_) (fun q g hq => by cases hq.1)
  obtain ⟨e1, e2⟩ := hq
  cases e1
  rw [← e2]
  show Go K M_Law_law d 914 _ [.int (r_tw ρ2)] _ _
  rw [htw]
  refine go_iload (pc' := 916) (i := 5) d_Law_law_914 rfl rfl ?_
  have hnx : Go K M_Law_law d 938 [some (.ref b), some (.ref x), some (.ref m), some (.ref o), some (.int (nI (7 * n))), some (.int (nI (k_d r c_1))), some (.int z), x7] [] (Rh f1 m ρ2) Q := by
    refine go_goto (tgt := 997) d_Law_law_938 (by decide) ?_
    exact nxt _ _ _ _ _ (LI.nx hS1 hm1 ho1 hom hR2 hnN (by omega) (by omega) (by omega))
  refine go_icmp_eq (tgt := 921) (pc' := 919) d_Law_law_916 (by decide) rfl (fun hc => ?_) (fun hc => ?_)
  · refine go_iload (pc' := 923) (i := 5) d_Law_law_921 rfl rfl ?_
    refine go_if_ne (tgt := 938) (pc' := 926) d_Law_law_923 (by decide) rfl (fun hc => ?_) (fun hc => ?_)
    · exact hnx
    · have hk0 : k_d r c_1 = 0 := (nI_eq (by have := k_d4 (r := r) (fun k => (c_1_b k).2); omega) (by omega)).mp (show nI (k_d r c_1) = nI 0 from hc)
      obtain ⟨u, hu⟩ := k_d0 (fun k => (c_1_b k).1) hk0
      have ho2 : (Rh f1 m ρ2).2.2 o = some (.inl (1, 1, .inr (.inl w1))) := by rw [Rh_of hom]; exact ho1
      refine go_aload_n (pc' := 927) (i := 3) d_Law_law_926 rfl rfl (by first | rfl | exact x_r_rf _) rfl ?_
      refine go_iconst (pc' := 928) (v := (nI 0)) d_Law_law_927 (by decide) rfl ?_
      refine go_laldN (pc' := 929) d_Law_law_928 (by first | assumption | exact x_up_self _ _ _ | exact x_nw_self _ _ _ | (rw [x_up_ne (by first | omega | (simp only [x_up, x_nw]; omega))]; first | assumption | exact x_up_self _ _ _ | (rw [x_up_ne (by first | omega | (simp only [x_up, x_nw]; omega))]; first | assumption | exact x_up_self _ _ _)) | (rw [x_nw_ne (by first | omega | (simp only [x_up, x_nw]; omega))]; first | assumption | exact x_up_self _ _ _ | (rw [x_up_ne (by first | omega | (simp only [x_up, x_nw]; omega))]; assumption))) (by rfl) (by first | assumption | omega | (simp only [x_up, x_nw]; omega)) (by first | assumption | omega | (simp only [x_up, x_nw]; omega)) rfl ?_
      rw [hw1 u hu, hz u hu]
      refine go_iload (pc' := 931) (i := 6) d_Law_law_929 rfl rfl ?_
      refine go_i2l (pc' := 932) d_Law_law_931 rfl rfl ?_
      refine go_lcmp (pc' := 933) d_Law_law_932 rfl ?_
      rw [show lg_cmp (L_i (some (.int z))) z.toInt64 = 0 from lg_cmp_self _]
      refine go_if_eq (tgt := 938) (pc' := 936) d_Law_law_933 (by decide) rfl (fun hc => ?_) (fun hc => ?_)
      · exact hnx
      · exact absurd rfl hc
  · exact absurd rfl hc
set_option maxRecDepth 100000 in
theorem w_generation (hX : va_X b L xs (x_s K) (x_s K).heap) (hbB : b < x_B K) (hL : L < 2 ^ 31) (hnL : 7 * n + 7 ≤ L) (hnN : n < N) (hN : N ≤ 1000) (hom : o < m ∨ m + 13 ≤ o) (hd : 13 ≤ d) (hI : LI K N n x m o σ h)
    (nxt : ∀ (h' : x_H) (σ' : Sg) (x5 x6 x7 : Option Value), LI K N (n + 1) x m o σ' h' → Go K M_Law_law d 997 [some (.ref b), some (.ref x), some (.ref m), some (.ref o), some (.int (nI (7 * n))), x5, x6, x7] [] h' Q) :
    Go K M_Law_law d 941 [some (.ref b), some (.ref x), some (.ref m), some (.ref o), some (.int (nI (7 * n))), x5, x6, x7] [] h Q := by
  obtain ⟨hS, ⟨ρ, hR, hm⟩, ⟨w, ho⟩, hb1, hb2, hlg⟩ := hI
  refine go_aload_n (pc' := 942) (i := 1) d_Law_law_941 rfl rfl (by first | rfl | exact x_r_rf _) rfl ?_
  refine go_aload_n (pc' := 943) (i := 0) d_Law_law_942 rfl rfl (by first | rfl | exact x_r_rf _) rfl ?_
  refine go_iload (pc' := 945) (i := 4) d_Law_law_943 rfl rfl ?_
  refine go_iconst (pc' := 946) (v := (nI 1)) d_Law_law_945 (by decide) rfl ?_
  refine go_iaddN (pc' := 947) d_Law_law_946 rfl ?_
  refine go_sld (pc' := 948) hX hbB d_Law_law_947 (by omega) (by omega) rfl ?_
  refine go_aload_n (pc' := 949) (i := 3) d_Law_law_948 rfl rfl (by first | rfl | exact x_r_rf _) rfl ?_
  refine go_callS (pc' := 952) (M' := M_Law_generation) [_, _, _] d_Law_law_949 t_458 t_459 t_0 cd_Law_generation nm_Law_generation rfl rfl (Nat.le_of_ble_eq_true rfl) rfl (l_generation (d := d - 1) hS ho (xs (7 * n + 1)) (by omega) (by omega) (by omega)) (by first | decide | omega) (Nat.le_of_ble_eq_true rfl) rfl (fun v f1 hq => ?_) (fun q g hq => hq.elim)
  obtain ⟨rfl, hS1, ⟨w1, ho1, hw1⟩, hk1, b1, b2, b3, b4, b5⟩ := hq
  obtain ⟨r, hr⟩ : ∃ r, r = (p_Gen σ (xs (7 * n + 1))) := ⟨_, rfl⟩
  rw [← hr] at hS1 hw1 b5
  show Go K M_Law_law d 952 _ [.int (nI (k_d (p_Gen σ (xs (7 * n + 1))) c_1))] f1 _
  rw [← hr]
  obtain ⟨hm1, fs, hm0⟩ := Rc_kc hm hom hk1
  have sp : Go K M_Mod_generation (d - 1) 0 _ [] (Rh f1 m ρ) (Qm f1 m (p_Gen σ (xs (7 * n + 1))) c_1 _) := m_generation (K := K) (g := f1) (m := m) (d := d - 1) hR (xs (7 * n + 1)) (by omega)
  rw [Rh_eq hm1, ← hr] at sp
  refine go_istore (pc' := 954) (i := 5) d_Law_law_952 (by decide) (x_s5 (by first | rfl | exact x_k_rf _)) rfl ?_
  refine go_aload_n (pc' := 955) (i := 2) d_Law_law_954 rfl rfl (by first | rfl | exact x_r_rf _) rfl ?_
  refine go_aload_n (pc' := 956) (i := 0) d_Law_law_955 rfl rfl (by first | rfl | exact x_r_rf _) rfl ?_
  refine go_iload (pc' := 958) (i := 4) d_Law_law_956 rfl rfl ?_
  refine go_iconst (pc' := 959) (v := (nI 1)) d_Law_law_958 (by decide) rfl ?_
  refine go_iaddN (pc' := 960) d_Law_law_959 rfl ?_
  refine go_sld (pc' := 961) hX hbB d_Law_law_960 (by omega) (by omega) rfl ?_
  refine go_callV (pc' := 964) (M' := M_Mod_generation) (ci := 6) (r := (n_Mod, T_Mod, 16)) [_] d_Law_law_961 t_617 t_618 t_619 cd_Mod_generation nm_Mod_generation rfl (by rfl) (by first | assumption | exact x_up_self _ _ _ | exact x_nw_self _ _ _ | (rw [x_up_ne (by first | omega | (simp only [x_up, x_nw]; omega))]; first | assumption | exact x_up_self _ _ _ | (rw [x_up_ne (by first | omega | (simp only [x_up, x_nw]; omega))]; first | assumption | exact x_up_self _ _ _)) | (rw [x_nw_ne (by first | omega | (simp only [x_up, x_nw]; omega))]; first | assumption | exact x_up_self _ _ _ | (rw [x_up_ne (by first | omega | (simp only [x_up, x_nw]; omega))]; assumption))) rfl (Nat.le_of_ble_eq_true rfl) rfl (sp) (by first | decide | omega) (Nat.le_of_ble_eq_true rfl) rfl (fun v f2 hq => ?_) (fun q g hq => hq.elim)
  obtain ⟨ρ2, rfl, hR2, htw, hv1, hv2⟩ := Qm.out hq
  obtain ⟨z, rfl, hz⟩ := q_ri (fun u hu => t_Gen (hr ▸ hu)) hv1 hv2
  show Go K M_Law_law d 964 _ [.int z] (Rh f1 m ρ2) _
  have hm2 := Rh_0 f1 m ρ2
  refine go_istore (pc' := 966) (i := 6) d_Law_law_964 (by decide) (x_s6 (by first | rfl | exact x_k_rf _)) rfl ?_
  refine go_aload_n (pc' := 967) (i := 2) d_Law_law_966 rfl rfl (by first | rfl | exact x_r_rf _) rfl ?_
  refine go_callV (pc' := 970) (M' := M_Mod_thrown) (ci := 6) (r := (n_Mod, T_Mod, 16)) [] d_Law_law_967 t_522 t_523 t_524 cd_Mod_thrown nm_Mod_thrown rfl (by rfl) (by first | assumption | exact x_up_self _ _ _ | exact x_nw_self _ _ _ | (rw [x_up_ne (by first | omega | (simp only [x_up, x_nw]; omega))]; first | assumption | exact x_up_self _ _ _ | (rw [x_up_ne (by first | omega | (simp only [x_up, x_nw]; omega))]; first | assumption | exact x_up_self _ _ _)) | (rw [x_nw_ne (by first | omega | (simp only [x_up, x_nw]; omega))]; first | assumption | exact x_up_self _ _ _ | (rw [x_up_ne (by first | omega | (simp only [x_up, x_nw]; omega))]; assumption))) rfl (Nat.le_of_ble_eq_true rfl) rfl (m_thrown (d := d - 1)) (by first | decide | omega) (Nat.le_of_ble_eq_true rfl) rfl (fun v f3 hq => ?_) (fun q g hq => by cases hq.1)
  obtain ⟨e1, e2⟩ := hq
  cases e1
  rw [← e2]
  show Go K M_Law_law d 970 _ [.int (r_tw ρ2)] _ _
  rw [htw]
  refine go_iload (pc' := 972) (i := 5) d_Law_law_970 rfl rfl ?_
  have hnx : Go K M_Law_law d 994 [some (.ref b), some (.ref x), some (.ref m), some (.ref o), some (.int (nI (7 * n))), some (.int (nI (k_d r c_1))), some (.int z), x7] [] (Rh f1 m ρ2) Q := by
    refine go_goto (tgt := 997) d_Law_law_994 (by decide) ?_
    exact nxt _ _ _ _ _ (LI.nx hS1 hm1 ho1 hom hR2 hnN (by omega) (by omega) (by omega))
  refine go_icmp_eq (tgt := 977) (pc' := 975) d_Law_law_972 (by decide) rfl (fun hc => ?_) (fun hc => ?_)
  · refine go_iload (pc' := 979) (i := 5) d_Law_law_977 rfl rfl ?_
    refine go_if_ne (tgt := 994) (pc' := 982) d_Law_law_979 (by decide) rfl (fun hc => ?_) (fun hc => ?_)
    · exact hnx
    · have hk0 : k_d r c_1 = 0 := (nI_eq (by have := k_d4 (r := r) (fun k => (c_1_b k).2); omega) (by omega)).mp (show nI (k_d r c_1) = nI 0 from hc)
      obtain ⟨u, hu⟩ := k_d0 (fun k => (c_1_b k).1) hk0
      have ho2 : (Rh f1 m ρ2).2.2 o = some (.inl (1, 1, .inr (.inl w1))) := by rw [Rh_of hom]; exact ho1
      refine go_aload_n (pc' := 983) (i := 3) d_Law_law_982 rfl rfl (by first | rfl | exact x_r_rf _) rfl ?_
      refine go_iconst (pc' := 984) (v := (nI 0)) d_Law_law_983 (by decide) rfl ?_
      refine go_laldN (pc' := 985) d_Law_law_984 (by first | assumption | exact x_up_self _ _ _ | exact x_nw_self _ _ _ | (rw [x_up_ne (by first | omega | (simp only [x_up, x_nw]; omega))]; first | assumption | exact x_up_self _ _ _ | (rw [x_up_ne (by first | omega | (simp only [x_up, x_nw]; omega))]; first | assumption | exact x_up_self _ _ _)) | (rw [x_nw_ne (by first | omega | (simp only [x_up, x_nw]; omega))]; first | assumption | exact x_up_self _ _ _ | (rw [x_up_ne (by first | omega | (simp only [x_up, x_nw]; omega))]; assumption))) (by rfl) (by first | assumption | omega | (simp only [x_up, x_nw]; omega)) (by first | assumption | omega | (simp only [x_up, x_nw]; omega)) rfl ?_
      rw [hw1 u hu, hz u hu]
      refine go_iload (pc' := 987) (i := 6) d_Law_law_985 rfl rfl ?_
      refine go_i2l (pc' := 988) d_Law_law_987 rfl rfl ?_
      refine go_lcmp (pc' := 989) d_Law_law_988 rfl ?_
      rw [show lg_cmp (L_i (some (.int z))) z.toInt64 = 0 from lg_cmp_self _]
      refine go_if_eq (tgt := 994) (pc' := 992) d_Law_law_989 (by decide) rfl (fun hc => ?_) (fun hc => ?_)
      · exact hnx
      · exact absurd rfl hc
  · exact absurd rfl hc
end LD
