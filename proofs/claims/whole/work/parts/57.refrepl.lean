/-! the reference: replace, next -/
section RI2
variable {K : x_K} {d : Nat} {h g : x_H} {m i j : Nat} {ρ ρ' : Rt} {ks : List KV} {σ : Sg}
set_option maxRecDepth 100000 in
theorem m_replace (hR : Rr σ ρ) (mm key : Int32) (old v : Int64) (hd : 8 ≤ d) : Go K M_Mod_replace d 0 [some (.ref m), some (.int mm), some (.int key), some (.long old), none, some (.long v), none, none] [] (Rh g m ρ) (Qm g m (p_Rep σ mm key old v) c_put (.int (nI 0))) := by
  refine go_aload_n (pc' := 1) (i := 0) d_Mod_replace_0 rfl rfl (by first | rfl | exact x_r_rf _) rfl ?_
  refine go_iconst (pc' := 2) (v := (nI 0)) d_Mod_replace_1 (by decide) rfl ?_
  refine go_putfield (pc' := 5) d_Mod_replace_2 c_Mod 0 (by decide) rfl t_471 (by first | assumption | exact Rh_0 _ _ _ | exact Rh_1 _ _ _ | exact Rh_2 _ _ _ | exact Rh_3 _ _ _ | exact Rh_4 _ _ _ | exact Rh_5 _ _ _ | exact Rh_6 _ _ _ | exact Rh_7 _ _ _ | exact Rh_8 _ _ _ | exact Rh_9 _ _ _ | exact Rh_10 _ _ _ | exact Rh_11 _ _ _ | exact Rh_12 _ _ _) (by rfl) (by rfl) (by first | exact Nat.le_of_ble_eq_true rfl | simp) rfl ?_
  rw [Rh_utw]
  obtain ⟨ρ1, hρ1⟩ : ∃ ρ1, ρ1 = ru_tw ρ (nI 0) := ⟨_, rfl⟩
  rw [← hρ1]
  have hR1 : Rr σ ρ1 := by rw [hρ1]; exact hR
  have htw : r_tw ρ1 = nI 0 := by rw [hρ1]; rfl
  refine go_aload_n (pc' := 6) (i := 0) d_Mod_replace_5 rfl rfl (by first | rfl | exact x_r_rf _) rfl ?_
  refine go_iload_n (pc' := 7) (i := 1) d_Mod_replace_6 rfl rfl rfl ?_
  refine go_callV (pc' := 10) (M' := M_Mod_none) (ci := 6) (r := (n_Mod, T_Mod, 16)) [_] d_Mod_replace_7 t_530 t_532 sp_Mod_none cd_Mod_none nm_Mod_none rfl (by rfl) (by first | assumption | exact Rh_0 _ _ _ | exact Rh_1 _ _ _ | exact Rh_2 _ _ _ | exact Rh_3 _ _ _ | exact Rh_4 _ _ _ | exact Rh_5 _ _ _ | exact Rh_6 _ _ _ | exact Rh_7 _ _ _ | exact Rh_8 _ _ _ | exact Rh_9 _ _ _ | exact Rh_10 _ _ _ | exact Rh_11 _ _ _ | exact Rh_12 _ _ _) rfl (Nat.le_of_ble_eq_true rfl) rfl (m_none (d := d - 1) hR1.2.1 mm) (by first | decide | omega) (Nat.le_of_ble_eq_true rfl) rfl (fun v hh hq => ?_) (fun q g hq => by cases hq.1)
  obtain ⟨e1, e2⟩ := hq
  cases e1
  rw [← e2]
  show Go K M_Mod_replace d 10 _ [_] _ _
  cases hp : p_map σ mm with
  | none =>
    refine go_if_eq (tgt := 27) (pc' := 13) d_Mod_replace_10 (by decide) rfl (fun hc => ?_) (fun hc => ?_)
    · cases hc
    · refine go_aload_n (pc' := 14) (i := 0) d_Mod_replace_13 rfl rfl (by first | rfl | exact x_r_rf _) rfl ?_
      refine go_iconst (pc' := 15) (v := (nI 1)) d_Mod_replace_14 (by decide) rfl ?_
      refine go_callV (pc' := 18) (M' := M_Mod_fail) (ci := 6) (r := (n_Mod, T_Mod, 16)) [_] d_Mod_replace_15 t_534 t_536 sp_Mod_fail cd_Mod_fail nm_Mod_fail rfl (by rfl) (by first | assumption | exact Rh_0 _ _ _ | exact Rh_1 _ _ _ | exact Rh_2 _ _ _ | exact Rh_3 _ _ _ | exact Rh_4 _ _ _ | exact Rh_5 _ _ _ | exact Rh_6 _ _ _ | exact Rh_7 _ _ _ | exact Rh_8 _ _ _ | exact Rh_9 _ _ _ | exact Rh_10 _ _ _ | exact Rh_11 _ _ _ | exact Rh_12 _ _ _) rfl (Nat.le_of_ble_eq_true rfl) rfl (m_fail (d := d - 1) (nI 1)) (by first | decide | omega) (Nat.le_of_ble_eq_true rfl) rfl (fun v hh hq => ?_) (fun q g hq => by cases hq.1)
      obtain ⟨e1, e2⟩ := hq
      cases e1
      rw [← e2]
      show Go K M_Mod_replace d 18 _ [_] _ _
      refine go_if_le (tgt := 25) (pc' := 21) d_Mod_replace_18 (by decide) rfl (fun hc => ?_) (fun hc => ?_)
      · refine go_iconst (pc' := 26) (v := (nI 0)) d_Mod_replace_25 (by decide) rfl ?_
        refine go_ireturn d_Mod_replace_26 rfl (by rfl) ?_
        unfold p_Rep
        rw [hp]
        exact ⟨_, rfl, hR1, rfl, rfl⟩
      · exact absurd hc (by decide)
  | some i =>
    obtain ⟨rfl, hi, hth⟩ := p_map_inv hp
    have hK := hR1.2.2.2.2.2.2.2.2.2.2.2.2.2 i hi
    refine go_if_eq (tgt := 27) (pc' := 13) d_Mod_replace_10 (by decide) rfl (fun hc => ?_) (fun hc => ?_)
    · refine go_aload_n (pc' := 28) (i := 0) d_Mod_replace_27 rfl rfl (by first | rfl | exact x_r_rf _) rfl ?_
      refine go_getfield (pc' := 31) d_Mod_replace_28 c_Mod 3 (by decide) t_474 (by first | assumption | exact Rh_0 _ _ _ | exact Rh_1 _ _ _ | exact Rh_2 _ _ _ | exact Rh_3 _ _ _ | exact Rh_4 _ _ _ | exact Rh_5 _ _ _ | exact Rh_6 _ _ _ | exact Rh_7 _ _ _ | exact Rh_8 _ _ _ | exact Rh_9 _ _ _ | exact Rh_10 _ _ _ | exact Rh_11 _ _ _ | exact Rh_12 _ _ _) (by rfl) rfl ?_
      refine go_iload_n (pc' := 32) (i := 1) d_Mod_replace_31 rfl rfl rfl ?_
      refine go_zaldN (pc' := 33) d_Mod_replace_32 (by first | assumption | exact Rh_0 _ _ _ | exact Rh_1 _ _ _ | exact Rh_2 _ _ _ | exact Rh_3 _ _ _ | exact Rh_4 _ _ _ | exact Rh_5 _ _ _ | exact Rh_6 _ _ _ | exact Rh_7 _ _ _ | exact Rh_8 _ _ _ | exact Rh_9 _ _ _ | exact Rh_10 _ _ _ | exact Rh_11 _ _ _ | exact Rh_12 _ _ _) (by rfl) (by first | assumption | omega | (simp only [x_up, x_nw]; omega)) (by first | assumption | omega | (simp only [x_up, x_nw]; omega)) rfl ?_
      rw [hR1.2.2.1 i hi]
      refine go_if_eq (tgt := 50) (pc' := 36) d_Mod_replace_33 (by decide) rfl (fun hc => ?_) (fun hc => ?_)
      · have hro := hc
        have hR2 := hR1.nc
        obtain ⟨ρ2, hρ2⟩ : ∃ ρ2, ρ2 = ru_lc ρ1 (nI 0) := ⟨_, rfl⟩
        rw [← hρ2] at hR2
        have htw2 : r_tw ρ2 = nI 0 := by rw [hρ2]; exact htw
        have hL : Ls ρ2 i (s_ks σ i) := hR2.2.2.2.2.1 i hi
        refine go_aload_n (pc' := 51) (i := 0) d_Mod_replace_50 rfl rfl (by first | rfl | exact x_r_rf _) rfl ?_
        refine go_iconst (pc' := 52) (v := (nI 0)) d_Mod_replace_51 (by decide) rfl ?_
        refine go_putfield (pc' := 55) d_Mod_replace_52 c_Mod 9 (by decide) rfl t_480 (by first | assumption | exact Rh_0 _ _ _ | exact Rh_1 _ _ _ | exact Rh_2 _ _ _ | exact Rh_3 _ _ _ | exact Rh_4 _ _ _ | exact Rh_5 _ _ _ | exact Rh_6 _ _ _ | exact Rh_7 _ _ _ | exact Rh_8 _ _ _ | exact Rh_9 _ _ _ | exact Rh_10 _ _ _ | exact Rh_11 _ _ _ | exact Rh_12 _ _ _) (by rfl) (by rfl) (by first | exact Nat.le_of_ble_eq_true rfl | simp) rfl ?_
        rw [Rh_ulc, ← hρ2]
        refine go_aload_n (pc' := 56) (i := 0) d_Mod_replace_55 rfl rfl (by first | rfl | exact x_r_rf _) rfl ?_
        refine go_iload_n (pc' := 57) (i := 1) d_Mod_replace_56 rfl rfl rfl ?_
        refine go_iload_n (pc' := 58) (i := 2) d_Mod_replace_57 rfl rfl rfl ?_
        refine go_callV (pc' := 61) (M' := M_Mod_find) (ci := 6) (r := (n_Mod, T_Mod, 16)) [_, _] d_Mod_replace_58 t_538 t_540 sp_Mod_find cd_Mod_find nm_Mod_find rfl (by rfl) (by first | assumption | exact Rh_0 _ _ _ | exact Rh_1 _ _ _ | exact Rh_2 _ _ _ | exact Rh_3 _ _ _ | exact Rh_4 _ _ _ | exact Rh_5 _ _ _ | exact Rh_6 _ _ _ | exact Rh_7 _ _ _ | exact Rh_8 _ _ _ | exact Rh_9 _ _ _ | exact Rh_10 _ _ _ | exact Rh_11 _ _ _ | exact Rh_12 _ _ _) rfl (Nat.le_of_ble_eq_true rfl) rfl (m_find (d := d - 1) hL hi key) (by first | decide | omega) (Nat.le_of_ble_eq_true rfl) rfl (fun v hh hq => ?_) (fun q g hq => hq.elim)
        obtain ⟨e2, hq⟩ := hq
        rw [← e2]
        rcases hq with ⟨hno, rfl⟩ | ⟨j, y, hy, hk, rfl⟩
        · show Go K M_Mod_replace d 61 _ [_] _ _
          refine go_istore (pc' := 63) (i := 7) d_Mod_replace_61 (by decide) (x_s7 (by first | rfl | exact x_k_rf _)) rfl ?_
          refine go_iload (pc' := 65) (i := 7) d_Mod_replace_63 rfl rfl ?_
          refine go_if_lt (tgt := 80) (pc' := 68) d_Mod_replace_65 (by decide) rfl (fun hc => ?_) (fun hc => ?_)
          · refine go_iconst (pc' := 81) (v := (nI 0)) d_Mod_replace_80 (by decide) rfl ?_
            refine go_ireturn d_Mod_replace_81 rfl (by rfl) ?_
            unfold p_Rep
            rw [hp]
            simp only [hro, hno, not_true_eq_false, if_false]
            exact ⟨_, rfl, hR2, htw2, rfl⟩
          · exact absurd (by decide) hc
        · have hj := (List.getElem?_eq_some_iff.mp hy).1
          have h60 := hL.2.1
          have hget := Ls.get hK hy hk
          show Go K M_Mod_replace d 61 _ [_] _ _
          refine go_istore (pc' := 63) (i := 7) d_Mod_replace_61 (by decide) (x_s7 (by first | rfl | exact x_k_rf _)) rfl ?_
          refine go_iload (pc' := 65) (i := 7) d_Mod_replace_63 rfl rfl ?_
          refine go_if_lt (tgt := 80) (pc' := 68) d_Mod_replace_65 (by decide) rfl (fun hc => ?_) (fun hc => ?_)
          · rw [show (0 : Int32) = nI 0 from rfl, nI_ltI (by omega) (by omega)] at hc
            omega
          · refine go_aload_n (pc' := 69) (i := 0) d_Mod_replace_68 rfl rfl (by first | rfl | exact x_r_rf _) rfl ?_
            refine go_getfield (pc' := 72) d_Mod_replace_69 c_Mod 7 (by decide) t_478 (by first | assumption | exact Rh_0 _ _ _ | exact Rh_1 _ _ _ | exact Rh_2 _ _ _ | exact Rh_3 _ _ _ | exact Rh_4 _ _ _ | exact Rh_5 _ _ _ | exact Rh_6 _ _ _ | exact Rh_7 _ _ _ | exact Rh_8 _ _ _ | exact Rh_9 _ _ _ | exact Rh_10 _ _ _ | exact Rh_11 _ _ _ | exact Rh_12 _ _ _) (by rfl) rfl ?_
            refine go_iload (pc' := 74) (i := 7) d_Mod_replace_72 rfl rfl ?_
            refine go_laldN (pc' := 75) d_Mod_replace_74 (by first | assumption | exact Rh_0 _ _ _ | exact Rh_1 _ _ _ | exact Rh_2 _ _ _ | exact Rh_3 _ _ _ | exact Rh_4 _ _ _ | exact Rh_5 _ _ _ | exact Rh_6 _ _ _ | exact Rh_7 _ _ _ | exact Rh_8 _ _ _ | exact Rh_9 _ _ _ | exact Rh_10 _ _ _ | exact Rh_11 _ _ _ | exact Rh_12 _ _ _) (by rfl) (by first | assumption | omega | (simp only [x_up, x_nw]; omega)) (by first | assumption | omega | (simp only [x_up, x_nw]; omega)) rfl ?_
            refine go_lload_n (pc' := 76) (i := 3) d_Mod_replace_75 rfl rfl rfl ?_
            refine go_lcmp (pc' := 77) d_Mod_replace_76 rfl ?_
            rw [(hL.2.2 j y hy).2]
            refine go_if_eq (tgt := 82) (pc' := 80) d_Mod_replace_77 (by decide) rfl (fun hc => ?_) (fun hc => ?_)
            · rw [q_lc] at hc
              have hpp : p_Rep σ (nI i) key old v = (p_put σ i key v, .inl (some (.int 1))) := by
                unfold p_Rep
                rw [hp]
                simp only [hro, hget, not_true_eq_false, if_false, if_pos hc]
              refine go_aload_n (pc' := 83) (i := 0) d_Mod_replace_82 rfl rfl (by first | rfl | exact x_r_rf _) rfl ?_
              refine go_iload_n (pc' := 84) (i := 1) d_Mod_replace_83 rfl rfl rfl ?_
              refine go_iload_n (pc' := 85) (i := 2) d_Mod_replace_84 rfl rfl rfl ?_
              refine go_callS (pc' := 88) (M' := M_Mod_hash) [_] d_Mod_replace_85 t_542 t_543 t_4 cd_Mod_hash nm_Mod_hash rfl rfl (Nat.le_of_ble_eq_true rfl) rfl (m_hash (d := d - 1) key) (by first | decide | omega) (Nat.le_of_ble_eq_true rfl) rfl (fun v hh hq => ?_) (fun q g hq => by cases hq.1)
              obtain ⟨e1, e2⟩ := hq
              cases e1
              rw [← e2]
              show Go K M_Mod_replace d 88 _ [.int (nI (q_h key)), _, _] _ _
              have hb11 := hR2.2.2.2.2.2.2.2.2.2.2.1
              have hg12 := hR2.2.2.2.2.2.2.2.2.2.2.2.1
              have hl13 := hR2.2.2.2.2.2.2.2.2.2.2.2.2.1
              refine go_callV (pc' := 91) (M' := M_Mod_write) (ci := 6) (r := (n_Mod, T_Mod, 16)) [_, _] d_Mod_replace_88 t_554 t_556 sp_Mod_write cd_Mod_write nm_Mod_write rfl (by rfl) (by first | assumption | exact Rh_0 _ _ _ | exact Rh_1 _ _ _ | exact Rh_2 _ _ _ | exact Rh_3 _ _ _ | exact Rh_4 _ _ _ | exact Rh_5 _ _ _ | exact Rh_6 _ _ _ | exact Rh_7 _ _ _ | exact Rh_8 _ _ _ | exact Rh_9 _ _ _ | exact Rh_10 _ _ _ | exact Rh_11 _ _ _ | exact Rh_12 _ _ _) rfl (Nat.le_of_ble_eq_true rfl) rfl (m_write (d := d - 1) (c0 := 0) (hR2.2.2.2.2.1 i hi) hi (hR2.2.2.2.2.2.1 i hi) (fun l p => by have := hb11 i l p hi; omega) (hR2.2.2.2.1 i hi) (by have := hg12 i hi; omega) hR2.2.2.2.2.2.2.1 key (by omega)) (by first | decide | omega) (Nat.le_of_ble_eq_true rfl) rfl (fun v h5 hq => ?_) (fun q g hq => hq.elim)
              obtain ⟨rfl, B1, rfl, hB1, hF1⟩ := hq
              show Go K M_Mod_replace d 91 _ [] _ _
              refine go_aload_n (pc' := 92) (i := 0) d_Mod_replace_91 rfl rfl (by first | rfl | exact x_r_rf _) rfl ?_
              refine go_getfield (pc' := 95) d_Mod_replace_92 c_Mod 7 (by decide) t_478 (by first | assumption | exact Rh_0 _ _ _ | exact Rh_1 _ _ _ | exact Rh_2 _ _ _ | exact Rh_3 _ _ _ | exact Rh_4 _ _ _ | exact Rh_5 _ _ _ | exact Rh_6 _ _ _ | exact Rh_7 _ _ _ | exact Rh_8 _ _ _ | exact Rh_9 _ _ _ | exact Rh_10 _ _ _ | exact Rh_11 _ _ _ | exact Rh_12 _ _ _) (by rfl) rfl ?_
              refine go_iload (pc' := 97) (i := 7) d_Mod_replace_95 rfl rfl ?_
              refine go_lload (pc' := 99) (i := 5) d_Mod_replace_97 rfl rfl ?_
              refine go_lastN (pc' := 100) d_Mod_replace_99 (by first | assumption | exact Rh_0 _ _ _ | exact Rh_1 _ _ _ | exact Rh_2 _ _ _ | exact Rh_3 _ _ _ | exact Rh_4 _ _ _ | exact Rh_5 _ _ _ | exact Rh_6 _ _ _ | exact Rh_7 _ _ _ | exact Rh_8 _ _ _ | exact Rh_9 _ _ _ | exact Rh_10 _ _ _ | exact Rh_11 _ _ _ | exact Rh_12 _ _ _) (by rfl) (by first | assumption | omega | (simp only [x_up, x_nw]; omega)) (by first | assumption | omega | (simp only [x_up, x_nw]; omega)) rfl ?_
              rw [Rh_uV, Nat.zero_add]
              refine go_iconst (pc' := 101) (v := (nI 1)) d_Mod_replace_100 (by decide) rfl ?_
              refine go_ireturn d_Mod_replace_101 rfl (by rfl) ?_
              rw [hpp]
              exact ⟨_, rfl, Rr.set (σ := p_nc σ) hR2 hi hy hk hB1 hF1 rfl, htw2, rfl⟩
            · rw [q_lc] at hc
              refine go_iconst (pc' := 81) (v := (nI 0)) d_Mod_replace_80 (by decide) rfl ?_
              refine go_ireturn d_Mod_replace_81 rfl (by rfl) ?_
              unfold p_Rep
              rw [hp]
              simp only [hro, hget, not_true_eq_false, if_false, if_neg hc]
              exact ⟨_, rfl, hR2, htw2, rfl⟩
      · have hro := hc
        refine go_aload_n (pc' := 37) (i := 0) d_Mod_replace_36 rfl rfl (by first | rfl | exact x_r_rf _) rfl ?_
        refine go_iconst (pc' := 38) (v := (nI 2)) d_Mod_replace_37 (by decide) rfl ?_
        refine go_callV (pc' := 41) (M' := M_Mod_fail) (ci := 6) (r := (n_Mod, T_Mod, 16)) [_] d_Mod_replace_38 t_534 t_536 sp_Mod_fail cd_Mod_fail nm_Mod_fail rfl (by rfl) (by first | assumption | exact Rh_0 _ _ _ | exact Rh_1 _ _ _ | exact Rh_2 _ _ _ | exact Rh_3 _ _ _ | exact Rh_4 _ _ _ | exact Rh_5 _ _ _ | exact Rh_6 _ _ _ | exact Rh_7 _ _ _ | exact Rh_8 _ _ _ | exact Rh_9 _ _ _ | exact Rh_10 _ _ _ | exact Rh_11 _ _ _ | exact Rh_12 _ _ _) rfl (Nat.le_of_ble_eq_true rfl) rfl (m_fail (d := d - 1) (nI 2)) (by first | decide | omega) (Nat.le_of_ble_eq_true rfl) rfl (fun v hh hq => ?_) (fun q g hq => by cases hq.1)
        obtain ⟨e1, e2⟩ := hq
        cases e1
        rw [← e2]
        show Go K M_Mod_replace d 41 _ [_] _ _
        refine go_if_le (tgt := 48) (pc' := 44) d_Mod_replace_41 (by decide) rfl (fun hc => ?_) (fun hc => ?_)
        · refine go_iconst (pc' := 49) (v := (nI 0)) d_Mod_replace_48 (by decide) rfl ?_
          refine go_ireturn d_Mod_replace_49 rfl (by rfl) ?_
          unfold p_Rep
          rw [hp]
          simp only [if_pos hro]
          exact ⟨_, rfl, hR1, rfl, rfl⟩
        · exact absurd hc (by decide)
    · exact absurd rfl hc
theorem p_cur_inv {mm : Int32} {i : Nat} (hp : p_cur σ mm = some i) : mm = nI i ∧ i < 4 ∧ s_us σ i = true := by
  unfold p_cur at hp
  have h1 := List.find?_some hp
  have h2 := List.mem_of_find?_eq_some hp
  simp only [Bool.and_eq_true, beq_iff_eq] at h1
  exact ⟨h1.1, by simpa using h2, h1.2⟩
set_option maxRecDepth 100000 in
theorem m_next (hR : Rr σ ρ) (mm : Int32) (hd : 8 ≤ d) : Go K M_Mod_next d 0 [some (.ref m), some (.int mm)] [] (Rh g m ρ) (Qm g m (p_Next σ mm) c_1 (.int (nI 0))) := by
  refine go_aload_n (pc' := 1) (i := 0) d_Mod_next_0 rfl rfl (by first | rfl | exact x_r_rf _) rfl ?_
  refine go_iconst (pc' := 2) (v := (nI 0)) d_Mod_next_1 (by decide) rfl ?_
  refine go_putfield (pc' := 5) d_Mod_next_2 c_Mod 0 (by decide) rfl t_471 (by first | assumption | exact Rh_0 _ _ _ | exact Rh_1 _ _ _ | exact Rh_2 _ _ _ | exact Rh_3 _ _ _ | exact Rh_4 _ _ _ | exact Rh_5 _ _ _ | exact Rh_6 _ _ _ | exact Rh_7 _ _ _ | exact Rh_8 _ _ _ | exact Rh_9 _ _ _ | exact Rh_10 _ _ _ | exact Rh_11 _ _ _ | exact Rh_12 _ _ _) (by rfl) (by rfl) (by first | exact Nat.le_of_ble_eq_true rfl | simp) rfl ?_
  rw [Rh_utw]
  obtain ⟨ρ1, hρ1⟩ : ∃ ρ1, ρ1 = ru_tw ρ (nI 0) := ⟨_, rfl⟩
  rw [← hρ1]
  have hR1 : Rr σ ρ1 := by rw [hρ1]; exact hR
  have htw : r_tw ρ1 = nI 0 := by rw [hρ1]; rfl
  have no : (¬ ∃ i, mm = nI i ∧ i < 4 ∧ s_us σ i = true) → Go K M_Mod_next d 23 [some (.ref m), some (.int mm)] [] (Rh g m ρ1) (Qm g m (p_Next σ mm) c_1 (.int (nI 0))) := by
    intro hno
    refine go_aload_n (pc' := 24) (i := 0) d_Mod_next_23 rfl rfl (by first | rfl | exact x_r_rf _) rfl ?_
    refine go_iconst (pc' := 25) (v := (nI 1)) d_Mod_next_24 (by decide) rfl ?_
    refine go_callV (pc' := 28) (M' := M_Mod_fail) (ci := 6) (r := (n_Mod, T_Mod, 16)) [_] d_Mod_next_25 t_534 t_536 sp_Mod_fail cd_Mod_fail nm_Mod_fail rfl (by rfl) (by first | assumption | exact Rh_0 _ _ _ | exact Rh_1 _ _ _ | exact Rh_2 _ _ _ | exact Rh_3 _ _ _ | exact Rh_4 _ _ _ | exact Rh_5 _ _ _ | exact Rh_6 _ _ _ | exact Rh_7 _ _ _ | exact Rh_8 _ _ _ | exact Rh_9 _ _ _ | exact Rh_10 _ _ _ | exact Rh_11 _ _ _ | exact Rh_12 _ _ _) rfl (Nat.le_of_ble_eq_true rfl) rfl (m_fail (d := d - 1) (nI 1)) (by first | decide | omega) (Nat.le_of_ble_eq_true rfl) rfl (fun v hh hq => ?_) (fun q g hq => by cases hq.1)
    obtain ⟨e1, e2⟩ := hq
    cases e1
    rw [← e2]
    show Go K M_Mod_next d 28 _ [_] _ _
    refine go_ireturn d_Mod_next_28 rfl (by rfl) ?_
    unfold p_Next
    rw [show p_cur σ mm = none from l_map0 hno]
    exact ⟨_, rfl, hR1, rfl, rfl⟩
  refine go_iload_n (pc' := 6) (i := 1) d_Mod_next_5 rfl rfl rfl ?_
  refine go_if_lt (tgt := 23) (pc' := 9) d_Mod_next_6 (by decide) rfl (fun hc => ?_) (fun hc => ?_)
  · refine no fun ⟨i, e, hi, _⟩ => ?_
    rw [e, show (0 : Int32) = nI 0 from rfl, nI_ltI (by omega) (by omega)] at hc
    omega
  · obtain ⟨c, hc31, rfl⟩ := nI_of hc
    refine go_iload_n (pc' := 10) (i := 1) d_Mod_next_9 rfl rfl rfl ?_
    refine go_iconst (pc' := 11) (v := (nI 4)) d_Mod_next_10 (by decide) rfl ?_
    refine go_icmp_geN (tgt := 23) (pc' := 14) d_Mod_next_11 (by decide) rfl (by omega) (by omega) (fun hc => ?_) (fun hc => ?_)
    · refine no fun ⟨j, e, hj, _⟩ => ?_
      rw [nI_eq hc31 (by omega)] at e
      omega
    · have hc4 : c < 4 := hc
      refine go_aload_n (pc' := 15) (i := 0) d_Mod_next_14 rfl rfl (by first | rfl | exact x_r_rf _) rfl ?_
      refine go_getfield (pc' := 18) d_Mod_next_15 c_Mod 10 (by decide) t_481 (by first | assumption | exact Rh_0 _ _ _ | exact Rh_1 _ _ _ | exact Rh_2 _ _ _ | exact Rh_3 _ _ _ | exact Rh_4 _ _ _ | exact Rh_5 _ _ _ | exact Rh_6 _ _ _ | exact Rh_7 _ _ _ | exact Rh_8 _ _ _ | exact Rh_9 _ _ _ | exact Rh_10 _ _ _ | exact Rh_11 _ _ _ | exact Rh_12 _ _ _) (by rfl) rfl ?_
      refine go_iload_n (pc' := 19) (i := 1) d_Mod_next_18 rfl rfl rfl ?_
      refine go_zaldN (pc' := 20) d_Mod_next_19 (by first | assumption | exact Rh_0 _ _ _ | exact Rh_1 _ _ _ | exact Rh_2 _ _ _ | exact Rh_3 _ _ _ | exact Rh_4 _ _ _ | exact Rh_5 _ _ _ | exact Rh_6 _ _ _ | exact Rh_7 _ _ _ | exact Rh_8 _ _ _ | exact Rh_9 _ _ _ | exact Rh_10 _ _ _ | exact Rh_11 _ _ _ | exact Rh_12 _ _ _) (by rfl) (by first | assumption | omega | (simp only [x_up, x_nw]; omega)) (by first | assumption | omega | (simp only [x_up, x_nw]; omega)) rfl ?_
      rw [hR1.2.2.2.2.2.2.2.1 c hc4]
      cases hus : s_us σ c with
      | false =>
        refine go_if_ne (tgt := 29) (pc' := 23) d_Mod_next_20 (by decide) rfl (fun hc => ?_) (fun hc => ?_)
        · exact absurd rfl hc
        · refine no fun ⟨j, e, hj, ht⟩ => ?_
          rw [nI_eq hc31 (by omega)] at e
          subst e
          rw [hus] at ht
          cases ht
      | true =>
        obtain ⟨b1, b2, b3, b4, b5⟩ := hR1.2.2.2.2.2.2.2.2.1 c hc4 hus
        have hpc : p_cur σ (nI c) = some c := l_map (by omega) hc4 rfl hus
        refine go_if_ne (tgt := 29) (pc' := 23) d_Mod_next_20 (by decide) rfl (fun hc => ?_) (fun hc => ?_)
        · refine go_aload_n (pc' := 30) (i := 0) d_Mod_next_29 rfl rfl (by first | rfl | exact x_r_rf _) rfl ?_
          refine go_getfield (pc' := 33) d_Mod_next_30 c_Mod 12 (by decide) t_483 (by first | assumption | exact Rh_0 _ _ _ | exact Rh_1 _ _ _ | exact Rh_2 _ _ _ | exact Rh_3 _ _ _ | exact Rh_4 _ _ _ | exact Rh_5 _ _ _ | exact Rh_6 _ _ _ | exact Rh_7 _ _ _ | exact Rh_8 _ _ _ | exact Rh_9 _ _ _ | exact Rh_10 _ _ _ | exact Rh_11 _ _ _ | exact Rh_12 _ _ _) (by rfl) rfl ?_
          refine go_iload_n (pc' := 34) (i := 1) d_Mod_next_33 rfl rfl rfl ?_
          refine go_ialdN (pc' := 35) d_Mod_next_34 (by first | assumption | exact Rh_0 _ _ _ | exact Rh_1 _ _ _ | exact Rh_2 _ _ _ | exact Rh_3 _ _ _ | exact Rh_4 _ _ _ | exact Rh_5 _ _ _ | exact Rh_6 _ _ _ | exact Rh_7 _ _ _ | exact Rh_8 _ _ _ | exact Rh_9 _ _ _ | exact Rh_10 _ _ _ | exact Rh_11 _ _ _ | exact Rh_12 _ _ _) (by rfl) (by first | assumption | omega | (simp only [x_up, x_nw]; omega)) (by first | assumption | omega | (simp only [x_up, x_nw]; omega)) rfl ?_
          refine go_aload_n (pc' := 36) (i := 0) d_Mod_next_35 rfl rfl (by first | rfl | exact x_r_rf _) rfl ?_
          refine go_getfield (pc' := 39) d_Mod_next_36 c_Mod 11 (by decide) t_482 (by first | assumption | exact Rh_0 _ _ _ | exact Rh_1 _ _ _ | exact Rh_2 _ _ _ | exact Rh_3 _ _ _ | exact Rh_4 _ _ _ | exact Rh_5 _ _ _ | exact Rh_6 _ _ _ | exact Rh_7 _ _ _ | exact Rh_8 _ _ _ | exact Rh_9 _ _ _ | exact Rh_10 _ _ _ | exact Rh_11 _ _ _ | exact Rh_12 _ _ _) (by rfl) rfl ?_
          refine go_iload_n (pc' := 40) (i := 1) d_Mod_next_39 rfl rfl rfl ?_
          refine go_ialdN (pc' := 41) d_Mod_next_40 (by first | assumption | exact Rh_0 _ _ _ | exact Rh_1 _ _ _ | exact Rh_2 _ _ _ | exact Rh_3 _ _ _ | exact Rh_4 _ _ _ | exact Rh_5 _ _ _ | exact Rh_6 _ _ _ | exact Rh_7 _ _ _ | exact Rh_8 _ _ _ | exact Rh_9 _ _ _ | exact Rh_10 _ _ _ | exact Rh_11 _ _ _ | exact Rh_12 _ _ _) (by rfl) (by first | assumption | omega | (simp only [x_up, x_nw]; omega)) (by first | assumption | omega | (simp only [x_up, x_nw]; omega)) rfl ?_
          rw [b1, b2]
          refine go_icmp_neN (tgt := 57) (pc' := 44) d_Mod_next_41 (by decide) rfl (by omega) (by omega) (fun hc => ?_) (fun hc => ?_)
          · have hlt : s_fa σ c < (s_sn σ c).length := by omega
            obtain ⟨y, hy⟩ : ∃ y, (s_sn σ c)[s_fa σ c]? = some y := ⟨_, List.getElem?_eq_getElem hlt⟩
            refine go_aload_n (pc' := 58) (i := 0) d_Mod_next_57 rfl rfl (by first | rfl | exact x_r_rf _) rfl ?_
            refine go_aload_n (pc' := 59) (i := 0) d_Mod_next_58 rfl rfl (by first | rfl | exact x_r_rf _) rfl ?_
            refine go_getfield (pc' := 62) d_Mod_next_59 c_Mod 14 (by decide) t_485 (by first | assumption | exact Rh_0 _ _ _ | exact Rh_1 _ _ _ | exact Rh_2 _ _ _ | exact Rh_3 _ _ _ | exact Rh_4 _ _ _ | exact Rh_5 _ _ _ | exact Rh_6 _ _ _ | exact Rh_7 _ _ _ | exact Rh_8 _ _ _ | exact Rh_9 _ _ _ | exact Rh_10 _ _ _ | exact Rh_11 _ _ _ | exact Rh_12 _ _ _) (by rfl) rfl ?_
            refine go_bipush (pc' := 64) (v := (nI 60)) d_Mod_next_62 (by decide) rfl ?_
            refine go_iload_n (pc' := 65) (i := 1) d_Mod_next_64 rfl rfl rfl ?_
            refine go_imulN (pc' := 66) d_Mod_next_65 rfl ?_
            refine go_aload_n (pc' := 67) (i := 0) d_Mod_next_66 rfl rfl (by first | rfl | exact x_r_rf _) rfl ?_
            refine go_getfield (pc' := 70) d_Mod_next_67 c_Mod 12 (by decide) t_483 (by first | assumption | exact Rh_0 _ _ _ | exact Rh_1 _ _ _ | exact Rh_2 _ _ _ | exact Rh_3 _ _ _ | exact Rh_4 _ _ _ | exact Rh_5 _ _ _ | exact Rh_6 _ _ _ | exact Rh_7 _ _ _ | exact Rh_8 _ _ _ | exact Rh_9 _ _ _ | exact Rh_10 _ _ _ | exact Rh_11 _ _ _ | exact Rh_12 _ _ _) (by rfl) rfl ?_
            refine go_iload_n (pc' := 71) (i := 1) d_Mod_next_70 rfl rfl rfl ?_
            refine go_ialdN (pc' := 72) d_Mod_next_71 (by first | assumption | exact Rh_0 _ _ _ | exact Rh_1 _ _ _ | exact Rh_2 _ _ _ | exact Rh_3 _ _ _ | exact Rh_4 _ _ _ | exact Rh_5 _ _ _ | exact Rh_6 _ _ _ | exact Rh_7 _ _ _ | exact Rh_8 _ _ _ | exact Rh_9 _ _ _ | exact Rh_10 _ _ _ | exact Rh_11 _ _ _ | exact Rh_12 _ _ _) (by rfl) (by first | assumption | omega | (simp only [x_up, x_nw]; omega)) (by first | assumption | omega | (simp only [x_up, x_nw]; omega)) rfl ?_
            rw [b2]
            refine go_iaddN (pc' := 73) d_Mod_next_72 rfl ?_
            refine go_laldN (pc' := 74) d_Mod_next_73 (by first | assumption | exact Rh_0 _ _ _ | exact Rh_1 _ _ _ | exact Rh_2 _ _ _ | exact Rh_3 _ _ _ | exact Rh_4 _ _ _ | exact Rh_5 _ _ _ | exact Rh_6 _ _ _ | exact Rh_7 _ _ _ | exact Rh_8 _ _ _ | exact Rh_9 _ _ _ | exact Rh_10 _ _ _ | exact Rh_11 _ _ _ | exact Rh_12 _ _ _) (by rfl) (by first | assumption | omega | (simp only [x_up, x_nw]; omega)) (by first | assumption | omega | (simp only [x_up, x_nw]; omega)) rfl ?_
            rw [(b5 _ y hy).2]
            refine go_putfield (pc' := 77) d_Mod_next_74 c_Mod 15 (by decide) rfl t_486 (by first | assumption | exact Rh_0 _ _ _ | exact Rh_1 _ _ _ | exact Rh_2 _ _ _ | exact Rh_3 _ _ _ | exact Rh_4 _ _ _ | exact Rh_5 _ _ _ | exact Rh_6 _ _ _ | exact Rh_7 _ _ _ | exact Rh_8 _ _ _ | exact Rh_9 _ _ _ | exact Rh_10 _ _ _ | exact Rh_11 _ _ _ | exact Rh_12 _ _ _) (by rfl) (by rfl) (by first | exact Nat.le_of_ble_eq_true rfl | simp) rfl ?_
            rw [Rh_uvl]
            refine go_aload_n (pc' := 78) (i := 0) d_Mod_next_77 rfl rfl (by first | rfl | exact x_r_rf _) rfl ?_
            refine go_getfield (pc' := 81) d_Mod_next_78 c_Mod 12 (by decide) t_483 (by first | assumption | exact Rh_0 _ _ _ | exact Rh_1 _ _ _ | exact Rh_2 _ _ _ | exact Rh_3 _ _ _ | exact Rh_4 _ _ _ | exact Rh_5 _ _ _ | exact Rh_6 _ _ _ | exact Rh_7 _ _ _ | exact Rh_8 _ _ _ | exact Rh_9 _ _ _ | exact Rh_10 _ _ _ | exact Rh_11 _ _ _ | exact Rh_12 _ _ _) (by rfl) rfl ?_
            refine go_iload_n (pc' := 82) (i := 1) d_Mod_next_81 rfl rfl rfl ?_
            refine go_dup2 (pc' := 83) d_Mod_next_82 rfl rfl rfl ?_
            refine go_ialdN (pc' := 84) d_Mod_next_83 (by first | assumption | exact Rh_0 _ _ _ | exact Rh_1 _ _ _ | exact Rh_2 _ _ _ | exact Rh_3 _ _ _ | exact Rh_4 _ _ _ | exact Rh_5 _ _ _ | exact Rh_6 _ _ _ | exact Rh_7 _ _ _ | exact Rh_8 _ _ _ | exact Rh_9 _ _ _ | exact Rh_10 _ _ _ | exact Rh_11 _ _ _ | exact Rh_12 _ _ _) (by rfl) (by first | assumption | omega | (simp only [x_up, x_nw]; omega)) (by first | assumption | omega | (simp only [x_up, x_nw]; omega)) rfl ?_
            refine go_iconst (pc' := 85) (v := (nI 1)) d_Mod_next_84 (by decide) rfl ?_
            rw [show r_F (ru_vl ρ1 y.2) = r_F ρ1 from rfl, b2]
            refine go_iaddN (pc' := 86) d_Mod_next_85 rfl ?_
            refine go_iastN (pc' := 87) d_Mod_next_86 (by first | assumption | exact Rh_0 _ _ _ | exact Rh_1 _ _ _ | exact Rh_2 _ _ _ | exact Rh_3 _ _ _ | exact Rh_4 _ _ _ | exact Rh_5 _ _ _ | exact Rh_6 _ _ _ | exact Rh_7 _ _ _ | exact Rh_8 _ _ _ | exact Rh_9 _ _ _ | exact Rh_10 _ _ _ | exact Rh_11 _ _ _ | exact Rh_12 _ _ _) (by rfl) (by first | assumption | omega | (simp only [x_up, x_nw]; omega)) (by first | assumption | omega | (simp only [x_up, x_nw]; omega)) rfl ?_
            rw [Rh_uF]
            refine go_aload_n (pc' := 88) (i := 0) d_Mod_next_87 rfl rfl (by first | rfl | exact x_r_rf _) rfl ?_
            refine go_getfield (pc' := 91) d_Mod_next_88 c_Mod 13 (by decide) t_484 (by first | assumption | exact Rh_0 _ _ _ | exact Rh_1 _ _ _ | exact Rh_2 _ _ _ | exact Rh_3 _ _ _ | exact Rh_4 _ _ _ | exact Rh_5 _ _ _ | exact Rh_6 _ _ _ | exact Rh_7 _ _ _ | exact Rh_8 _ _ _ | exact Rh_9 _ _ _ | exact Rh_10 _ _ _ | exact Rh_11 _ _ _ | exact Rh_12 _ _ _) (by rfl) rfl ?_
            refine go_bipush (pc' := 93) (v := (nI 60)) d_Mod_next_91 (by decide) rfl ?_
            refine go_iload_n (pc' := 94) (i := 1) d_Mod_next_93 rfl rfl rfl ?_
            refine go_imulN (pc' := 95) d_Mod_next_94 rfl ?_
            refine go_aload_n (pc' := 96) (i := 0) d_Mod_next_95 rfl rfl (by first | rfl | exact x_r_rf _) rfl ?_
            refine go_getfield (pc' := 99) d_Mod_next_96 c_Mod 12 (by decide) t_483 (by first | assumption | exact Rh_0 _ _ _ | exact Rh_1 _ _ _ | exact Rh_2 _ _ _ | exact Rh_3 _ _ _ | exact Rh_4 _ _ _ | exact Rh_5 _ _ _ | exact Rh_6 _ _ _ | exact Rh_7 _ _ _ | exact Rh_8 _ _ _ | exact Rh_9 _ _ _ | exact Rh_10 _ _ _ | exact Rh_11 _ _ _ | exact Rh_12 _ _ _) (by rfl) rfl ?_
            refine go_iload_n (pc' := 100) (i := 1) d_Mod_next_99 rfl rfl rfl ?_
            refine go_ialdN (pc' := 101) d_Mod_next_100 (by first | assumption | exact Rh_0 _ _ _ | exact Rh_1 _ _ _ | exact Rh_2 _ _ _ | exact Rh_3 _ _ _ | exact Rh_4 _ _ _ | exact Rh_5 _ _ _ | exact Rh_6 _ _ _ | exact Rh_7 _ _ _ | exact Rh_8 _ _ _ | exact Rh_9 _ _ _ | exact Rh_10 _ _ _ | exact Rh_11 _ _ _ | exact Rh_12 _ _ _) (by rfl) (by first | assumption | omega | (simp only [x_up, x_nw]; omega)) (by first | assumption | omega | (simp only [x_up, x_nw]; omega)) rfl ?_
            rw [show r_F (ru_F (ru_vl ρ1 y.2) (va_up (r_F (ru_vl ρ1 y.2)) c (nI (s_fa σ c + 1)))) c = nI (s_fa σ c + 1) from va_up_self _ _ _]
            refine go_iaddN (pc' := 102) d_Mod_next_101 rfl ?_
            refine go_iconst (pc' := 103) (v := (nI 1)) d_Mod_next_102 (by decide) rfl ?_
            refine go_isubN (pc' := 104) d_Mod_next_103 (by omega) rfl ?_
            rw [show 60 * c + (s_fa σ c + 1) - 1 = 60 * c + s_fa σ c by omega]
            refine go_ialdN (pc' := 105) d_Mod_next_104 (by first | assumption | exact Rh_0 _ _ _ | exact Rh_1 _ _ _ | exact Rh_2 _ _ _ | exact Rh_3 _ _ _ | exact Rh_4 _ _ _ | exact Rh_5 _ _ _ | exact Rh_6 _ _ _ | exact Rh_7 _ _ _ | exact Rh_8 _ _ _ | exact Rh_9 _ _ _ | exact Rh_10 _ _ _ | exact Rh_11 _ _ _ | exact Rh_12 _ _ _) (by rfl) (by first | assumption | omega | (simp only [x_up, x_nw]; omega)) (by first | assumption | omega | (simp only [x_up, x_nw]; omega)) rfl ?_
            rw [show r_N (ru_F (ru_vl ρ1 y.2) (va_up (r_F (ru_vl ρ1 y.2)) c (nI (s_fa σ c + 1)))) = r_N ρ1 from rfl, (b5 _ y hy).1]
            refine go_ireturn d_Mod_next_105 rfl (by rfl) ?_
            unfold p_Next
            rw [hpc]
            simp only [hy]
            refine ⟨_, rfl, ?_, htw, rfl⟩
            obtain ⟨a1, a2, a3, a4, a5, a6, a7, a8, a9, a10, a11⟩ := hR1
            refine ⟨a1, a2, a3, a4, a5, a6, a7, a8, fun k hk hu => ?_, rfl, a11⟩
            obtain ⟨d1, d2, d3, d4, d5⟩ := a9 k hk hu
            show r_L ρ1 k = _ ∧ va_up (r_F ρ1) c (nI (s_fa σ c + 1)) k = nI (va_up (s_fa σ) c (s_fa σ c + 1) k) ∧ va_up (s_fa σ) c (s_fa σ c + 1) k ≤ (s_sn σ k).length ∧ _
            by_cases hkc : k = c
            · subst hkc
              rw [va_up_self, va_up_self]
              exact ⟨d1, rfl, by omega, d4, d5⟩
            · rw [va_up_ne _ _ hkc, va_up_ne _ _ hkc]
              exact ⟨d1, d2, d3, d4, d5⟩
          · refine go_aload_n (pc' := 45) (i := 0) d_Mod_next_44 rfl rfl (by first | rfl | exact x_r_rf _) rfl ?_
            refine go_getfield (pc' := 48) d_Mod_next_45 c_Mod 10 (by decide) t_481 (by first | assumption | exact Rh_0 _ _ _ | exact Rh_1 _ _ _ | exact Rh_2 _ _ _ | exact Rh_3 _ _ _ | exact Rh_4 _ _ _ | exact Rh_5 _ _ _ | exact Rh_6 _ _ _ | exact Rh_7 _ _ _ | exact Rh_8 _ _ _ | exact Rh_9 _ _ _ | exact Rh_10 _ _ _ | exact Rh_11 _ _ _ | exact Rh_12 _ _ _) (by rfl) rfl ?_
            refine go_iload_n (pc' := 49) (i := 1) d_Mod_next_48 rfl rfl rfl ?_
            refine go_iconst (pc' := 50) (v := (nI 0)) d_Mod_next_49 (by decide) rfl ?_
            refine go_zastN (pc' := 51) d_Mod_next_50 (by first | assumption | exact Rh_0 _ _ _ | exact Rh_1 _ _ _ | exact Rh_2 _ _ _ | exact Rh_3 _ _ _ | exact Rh_4 _ _ _ | exact Rh_5 _ _ _ | exact Rh_6 _ _ _ | exact Rh_7 _ _ _ | exact Rh_8 _ _ _ | exact Rh_9 _ _ _ | exact Rh_10 _ _ _ | exact Rh_11 _ _ _ | exact Rh_12 _ _ _) (by rfl) (by first | assumption | omega | (simp only [x_up, x_nw]; omega)) (by first | assumption | omega | (simp only [x_up, x_nw]; omega)) (by first | assumption | rfl | decide) rfl ?_
            rw [Rh_uU]
            refine go_aload_n (pc' := 52) (i := 0) d_Mod_next_51 rfl rfl (by first | rfl | exact x_r_rf _) rfl ?_
            refine go_iconst (pc' := 53) (v := (nI 2)) d_Mod_next_52 (by decide) rfl ?_
            refine go_callV (pc' := 56) (M' := M_Mod_fail) (ci := 6) (r := (n_Mod, T_Mod, 16)) [_] d_Mod_next_53 t_534 t_536 sp_Mod_fail cd_Mod_fail nm_Mod_fail rfl (by rfl) (by first | assumption | exact Rh_0 _ _ _ | exact Rh_1 _ _ _ | exact Rh_2 _ _ _ | exact Rh_3 _ _ _ | exact Rh_4 _ _ _ | exact Rh_5 _ _ _ | exact Rh_6 _ _ _ | exact Rh_7 _ _ _ | exact Rh_8 _ _ _ | exact Rh_9 _ _ _ | exact Rh_10 _ _ _ | exact Rh_11 _ _ _ | exact Rh_12 _ _ _) rfl (Nat.le_of_ble_eq_true rfl) rfl (m_fail (d := d - 1) (nI 2)) (by first | decide | omega) (Nat.le_of_ble_eq_true rfl) rfl (fun v hh hq => ?_) (fun q g hq => by cases hq.1)
            obtain ⟨e1, e2⟩ := hq
            cases e1
            rw [← e2]
            show Go K M_Mod_next d 56 _ [_] _ _
            refine go_ireturn d_Mod_next_56 rfl (by rfl) ?_
            unfold p_Next
            rw [hpc]
            simp only [List.getElem?_eq_none (show (s_sn σ c).length ≤ s_fa σ c by omega)]
            refine ⟨_, rfl, ?_, rfl, rfl⟩
            obtain ⟨a1, a2, a3, a4, a5, a6, a7, a8, a9, a10⟩ := hR1
            refine ⟨a1, a2, a3, a4, a5, a6, a7, fun k hk => ?_, fun k hk hu => ?_, a10⟩
            · show va_up (r_U ρ1) c (nI 0) k = if va_up (s_us σ) c false k then 1 else 0
              by_cases hkc : k = c
              · subst hkc; rw [va_up_self, va_up_self]; rfl
              · rw [va_up_ne _ _ hkc, va_up_ne _ _ hkc]; exact a8 k hk
            · have hu' : va_up (s_us σ) c false k = true := hu
              by_cases hkc : k = c
              · rw [hkc, va_up_self] at hu'; cases hu'
              · rw [va_up_ne _ _ hkc] at hu'; exact a9 k hk hu'
        · cases hc
end RI2
