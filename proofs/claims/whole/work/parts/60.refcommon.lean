/-! the reference: common -/
section RL2
variable {K : x_K} {d : Nat} {h g : x_H} {m i j : Nat} {ρ ρ' : Rt} {ks : List KV} {σ : Sg}
set_option maxRecDepth 100000 in
theorem m_common (hR : Rr σ ρ) (mm nn : Int32) (hd : 8 ≤ d) : Go K M_Mod_common d 0 [some (.ref m), some (.int mm), some (.int nn), none, none, none, none] [] (Rh g m ρ) (Qm g m (p_Com σ mm nn) c_1 (.int (nI 0))) := by
  refine go_aload_n (pc' := 1) (i := 0) d_Mod_common_0 rfl rfl (by first | rfl | exact x_r_rf _) rfl ?_
  refine go_iconst (pc' := 2) (v := (nI 0)) d_Mod_common_1 (by decide) rfl ?_
  refine go_putfield (pc' := 5) d_Mod_common_2 c_Mod 0 (by decide) rfl t_471 (by first | assumption | exact Rh_0 _ _ _ | exact Rh_1 _ _ _ | exact Rh_2 _ _ _ | exact Rh_3 _ _ _ | exact Rh_4 _ _ _ | exact Rh_5 _ _ _ | exact Rh_6 _ _ _ | exact Rh_7 _ _ _ | exact Rh_8 _ _ _ | exact Rh_9 _ _ _ | exact Rh_10 _ _ _ | exact Rh_11 _ _ _ | exact Rh_12 _ _ _) (by rfl) (by rfl) (by first | exact Nat.le_of_ble_eq_true rfl | simp) rfl ?_
  rw [Rh_utw]
  obtain ⟨ρ1, hρ1⟩ : ∃ ρ1, ρ1 = ru_tw ρ (nI 0) := ⟨_, rfl⟩
  rw [← hρ1]
  have hR1 : Rr σ ρ1 := by rw [hρ1]; exact hR
  have htw : r_tw ρ1 = nI 0 := by rw [hρ1]; rfl
  have fl : p_Com σ mm nn = (σ, .inr 11) → Go K M_Mod_common d 21 [some (.ref m), some (.int mm), some (.int nn), none, none, none, none] [] (Rh g m ρ1) (Qm g m (p_Com σ mm nn) c_1 (.int (nI 0))) := by
    intro hpp
    refine go_aload_n (pc' := 22) (i := 0) d_Mod_common_21 rfl rfl (by first | rfl | exact x_r_rf _) rfl ?_
    refine go_iconst (pc' := 23) (v := (nI 1)) d_Mod_common_22 (by decide) rfl ?_
    refine go_callV (pc' := 26) (M' := M_Mod_fail) (ci := 6) (r := (n_Mod, T_Mod, 16)) [_] d_Mod_common_23 t_534 t_536 sp_Mod_fail cd_Mod_fail nm_Mod_fail rfl (by rfl) (by first | assumption | exact Rh_0 _ _ _ | exact Rh_1 _ _ _ | exact Rh_2 _ _ _ | exact Rh_3 _ _ _ | exact Rh_4 _ _ _ | exact Rh_5 _ _ _ | exact Rh_6 _ _ _ | exact Rh_7 _ _ _ | exact Rh_8 _ _ _ | exact Rh_9 _ _ _ | exact Rh_10 _ _ _ | exact Rh_11 _ _ _ | exact Rh_12 _ _ _) rfl (Nat.le_of_ble_eq_true rfl) rfl (m_fail (d := d - 1) (nI 1)) (by first | decide | omega) (Nat.le_of_ble_eq_true rfl) rfl (fun v hh hq => ?_) (fun q g hq => by cases hq.1)
    obtain ⟨e1, e2⟩ := hq
    cases e1
    rw [← e2]
    show Go K M_Mod_common d 26 _ [_] _ _
    refine go_ireturn d_Mod_common_26 rfl (by rfl) ?_
    rw [hpp]
    exact ⟨_, rfl, hR1, rfl, rfl⟩
  refine go_aload_n (pc' := 6) (i := 0) d_Mod_common_5 rfl rfl (by first | rfl | exact x_r_rf _) rfl ?_
  refine go_iload_n (pc' := 7) (i := 1) d_Mod_common_6 rfl rfl rfl ?_
  refine go_callV (pc' := 10) (M' := M_Mod_none) (ci := 6) (r := (n_Mod, T_Mod, 16)) [_] d_Mod_common_7 t_530 t_532 sp_Mod_none cd_Mod_none nm_Mod_none rfl (by rfl) (by first | assumption | exact Rh_0 _ _ _ | exact Rh_1 _ _ _ | exact Rh_2 _ _ _ | exact Rh_3 _ _ _ | exact Rh_4 _ _ _ | exact Rh_5 _ _ _ | exact Rh_6 _ _ _ | exact Rh_7 _ _ _ | exact Rh_8 _ _ _ | exact Rh_9 _ _ _ | exact Rh_10 _ _ _ | exact Rh_11 _ _ _ | exact Rh_12 _ _ _) rfl (Nat.le_of_ble_eq_true rfl) rfl (m_none (d := d - 1) hR1.2.1 mm) (by first | decide | omega) (Nat.le_of_ble_eq_true rfl) rfl (fun v hh hq => ?_) (fun q g hq => by cases hq.1)
  obtain ⟨e1, e2⟩ := hq
  cases e1
  rw [← e2]
  show Go K M_Mod_common d 10 _ [_] _ _
  cases hp : p_map σ mm with
  | none =>
    refine go_if_ne (tgt := 21) (pc' := 13) d_Mod_common_10 (by decide) rfl (fun hc => ?_) (fun hc => ?_)
    · refine fl ?_
      unfold p_Com
      rw [hp]
    · cases hc
  | some i =>
    obtain ⟨rfl, hi, hth⟩ := p_map_inv hp
    refine go_if_ne (tgt := 21) (pc' := 13) d_Mod_common_10 (by decide) rfl (fun hc => ?_) (fun hc => ?_)
    · exact absurd rfl hc
    · refine go_aload_n (pc' := 14) (i := 0) d_Mod_common_13 rfl rfl (by first | rfl | exact x_r_rf _) rfl ?_
      refine go_iload_n (pc' := 15) (i := 2) d_Mod_common_14 rfl rfl rfl ?_
      refine go_callV (pc' := 18) (M' := M_Mod_none) (ci := 6) (r := (n_Mod, T_Mod, 16)) [_] d_Mod_common_15 t_530 t_532 sp_Mod_none cd_Mod_none nm_Mod_none rfl (by rfl) (by first | assumption | exact Rh_0 _ _ _ | exact Rh_1 _ _ _ | exact Rh_2 _ _ _ | exact Rh_3 _ _ _ | exact Rh_4 _ _ _ | exact Rh_5 _ _ _ | exact Rh_6 _ _ _ | exact Rh_7 _ _ _ | exact Rh_8 _ _ _ | exact Rh_9 _ _ _ | exact Rh_10 _ _ _ | exact Rh_11 _ _ _ | exact Rh_12 _ _ _) rfl (Nat.le_of_ble_eq_true rfl) rfl (m_none (d := d - 1) hR1.2.1 nn) (by first | decide | omega) (Nat.le_of_ble_eq_true rfl) rfl (fun v h3 hq => ?_) (fun q g hq => by cases hq.1)
      obtain ⟨e1, e3⟩ := hq
      cases e1
      rw [← e3]
      show Go K M_Mod_common d 18 _ [_] _ _
      cases hn : p_map σ nn with
      | none =>
        refine go_if_eq (tgt := 27) (pc' := 21) d_Mod_common_18 (by decide) rfl (fun hc => ?_) (fun hc => ?_)
        · cases hc
        · refine fl ?_
          unfold p_Com
          rw [hp]
          simp only [hn]
      | some j =>
        obtain ⟨rfl, hj, hthj⟩ := p_map_inv hn
        have hLi := hR1.2.2.2.2.1 i hi
        have hLj := hR1.2.2.2.2.1 j hj
        have hBi := hR1.2.2.2.2.2.1 i hi
        have hBj := hR1.2.2.2.2.2.1 j hj
        have hb11 := hR1.2.2.2.2.2.2.2.2.2.2.1
        have hl13 := hR1.2.2.2.2.2.2.2.2.2.2.2.2.1
        obtain ⟨φ, hφ⟩ : ∃ φ : Nat → Nat → Nat, φ = fun l p => if q_ex (s_ks σ i) l p ∧ q_ex (s_ks σ j) l p ∧ s_bl σ i l p = s_bl σ j l p then 1 else 0 := ⟨_, rfl⟩
        have hpp : p_Com σ (nI i) (nI j) = (σ, .inl (some (.int (nI (w_s (· + ·) (fun l => w_s (· + ·) (φ l) 0 (4 ^ l)) 0 5))))) := by
          unfold p_Com
          rw [hp]
          simp only [hn]
          rw [hφ]
          rfl
        obtain ⟨Q, hQ⟩ : ∃ Q : x_O → x_H → Prop, Q = Qm g m (p_Com σ (nI i) (nI j)) c_1 (.int (nI 0)) := ⟨_, rfl⟩
        rw [← hQ]
        have inner : ∀ l, l < 5 → (∀ x5 x6, x_k x5 = x5 → x_k x6 = x6 → Go K M_Mod_common d 32 [some (.ref m), some (.int (nI i)), some (.int (nI j)), some (.int (nI (w_s (· + ·) (fun l => w_s (· + ·) (φ l) 0 (4 ^ l)) 0 (l + 1)))), some (.int (nI (l + 1))), x5, x6] [] (Rh g m ρ1) Q) →
            ∀ r p x6, x_k x6 = x6 → p + r = 4 ^ l → Go K M_Mod_common d 41 [some (.ref m), some (.int (nI i)), some (.int (nI j)), some (.int (nI (w_s (· + ·) (fun l => w_s (· + ·) (φ l) 0 (4 ^ l)) 0 l + w_s (· + ·) (φ l) 0 p))), some (.int (nI l)), some (.int (nI p)), x6] [] (Rh g m ρ1) Q := by
          intro l hl nxt r
          have h256 := q_4le l hl
          induction r with
          | zero =>
            intro p x6 hx6 hpr
            refine go_iload (pc' := 43) (i := 5) d_Mod_common_41 rfl rfl ?_
            refine go_iconst (pc' := 44) (v := (nI 1)) d_Mod_common_43 (by decide) rfl ?_
            refine go_iconst (pc' := 45) (v := (nI 2)) d_Mod_common_44 (by decide) rfl ?_
            refine go_iload (pc' := 47) (i := 4) d_Mod_common_45 rfl rfl ?_
            refine go_imulN (pc' := 48) d_Mod_common_47 rfl ?_
            refine go_ishl (pc' := 49) d_Mod_common_48 rfl ?_
            rw [q_sh1 l hl]
            refine go_icmp_geN (tgt := 136) (pc' := 52) d_Mod_common_49 (by decide) rfl (by omega) (by omega) (fun hc => ?_) (fun hc => ?_)
            · refine go_iinc (pc' := 139) (i := 4) d_Mod_common_136 rfl (x_i1 _) (by decide) (x_s4 (by first | rfl | exact x_k_rf _)) rfl ?_
              refine go_goto (tgt := 32) d_Mod_common_139 (by decide) ?_
              have := nxt (some (.int (nI p))) x6 rfl hx6
              rw [w_s, Nat.zero_add, ← show p = 4 ^ l by omega] at this
              exact this
            · omega
          | succ r ih =>
            intro p x6 hx6 hpr
            have hpl : p < 4 ^ l := by omega
            obtain ⟨n1, n2⟩ := q_shm l hl p (by omega) hpl
            have hbf := q_bf_lt l hl
            have step : ∀ n x6, x_k x6 = x6 → n = w_s (· + ·) (fun l => w_s (· + ·) (φ l) 0 (4 ^ l)) 0 l + w_s (· + ·) (φ l) 0 p + φ l p → Go K M_Mod_common d 129 [some (.ref m), some (.int (nI i)), some (.int (nI j)), some (.int (nI (w_s (· + ·) (fun l => w_s (· + ·) (φ l) 0 (4 ^ l)) 0 l + w_s (· + ·) (φ l) 0 p))), some (.int (nI l)), some (.int (nI p)), x6] [.int (nI n)] (Rh g m ρ1) Q := by
              intro n x6 hx6 hn9
              refine go_istore_n (pc' := 130) (i := 3) d_Mod_common_129 rfl (by decide) (x_s3 (by first | rfl | exact x_k_rf _)) rfl ?_
              refine go_iinc (pc' := 133) (i := 5) d_Mod_common_130 rfl (x_i1 _) (by decide) (x_s5 (by first | rfl | exact x_k_rf _)) rfl ?_
              refine go_goto (tgt := 41) d_Mod_common_133 (by decide) ?_
              have := ih (p + 1) x6 hx6 (by omega)
              rw [w_s, Nat.zero_add] at this
              rw [hn9, Nat.add_assoc]
              exact this
            refine go_iload (pc' := 43) (i := 5) d_Mod_common_41 rfl rfl ?_
            refine go_iconst (pc' := 44) (v := (nI 1)) d_Mod_common_43 (by decide) rfl ?_
            refine go_iconst (pc' := 45) (v := (nI 2)) d_Mod_common_44 (by decide) rfl ?_
            refine go_iload (pc' := 47) (i := 4) d_Mod_common_45 rfl rfl ?_
            refine go_imulN (pc' := 48) d_Mod_common_47 rfl ?_
            refine go_ishl (pc' := 49) d_Mod_common_48 rfl ?_
            rw [q_sh1 l hl]
            refine go_icmp_geN (tgt := 136) (pc' := 52) d_Mod_common_49 (by decide) rfl (by omega) (by omega) (fun hc => ?_) (fun hc => ?_)
            · omega
            · refine go_iload (pc' := 54) (i := 5) d_Mod_common_52 rfl rfl ?_
              refine go_bipush (pc' := 56) (v := (nI 8)) d_Mod_common_54 (by decide) rfl ?_
              refine go_iconst (pc' := 57) (v := (nI 2)) d_Mod_common_56 (by decide) rfl ?_
              refine go_iload (pc' := 59) (i := 4) d_Mod_common_57 rfl rfl ?_
              refine go_imulN (pc' := 60) d_Mod_common_59 rfl ?_
              refine go_isubN (pc' := 61) d_Mod_common_60 (by omega) rfl ?_
              refine go_ishl (pc' := 62) d_Mod_common_61 rfl ?_
              rw [q_shl l hl p (by omega) hpl]
              have hNd := m_node (K := K) (d := d - 1) (h := Rh g m ρ1) n1 hl
              rw [n2] at hNd
              refine go_iload (pc' := 64) (i := 4) d_Mod_common_62 rfl rfl ?_
              refine go_callS (pc' := 67) (M' := M_Mod_node) [_, _] d_Mod_common_64 t_558 t_559 t_4 cd_Mod_node nm_Mod_node rfl rfl (Nat.le_of_ble_eq_true rfl) rfl (hNd) (by first | decide | omega) (Nat.le_of_ble_eq_true rfl) rfl (fun v h4 hq => ?_) (fun q g hq => by cases hq.1)
              obtain ⟨e1, e4⟩ := hq
              cases e1
              rw [← e4]
              show Go K M_Mod_common d 67 _ [.int (nI (q_bf l + p))] _ _
              refine go_istore (pc' := 69) (i := 6) d_Mod_common_67 (by decide) (x_s6 (by first | rfl | exact x_k_rf _)) rfl ?_
              refine go_iload_n (pc' := 70) (i := 3) d_Mod_common_69 rfl rfl rfl ?_
              refine go_aload_n (pc' := 71) (i := 0) d_Mod_common_70 rfl rfl (by first | rfl | exact x_r_rf _) rfl ?_
              refine go_iload_n (pc' := 72) (i := 1) d_Mod_common_71 rfl rfl rfl ?_
              refine go_iload (pc' := 74) (i := 4) d_Mod_common_72 rfl rfl ?_
              refine go_iload (pc' := 76) (i := 5) d_Mod_common_74 rfl rfl ?_
              refine go_callV (pc' := 79) (M' := M_Mod_has) (ci := 6) (r := (n_Mod, T_Mod, 16)) [_, _, _] d_Mod_common_76 t_609 t_611 sp_Mod_has cd_Mod_has nm_Mod_has rfl (by rfl) (by first | assumption | exact Rh_0 _ _ _ | exact Rh_1 _ _ _ | exact Rh_2 _ _ _ | exact Rh_3 _ _ _ | exact Rh_4 _ _ _ | exact Rh_5 _ _ _ | exact Rh_6 _ _ _ | exact Rh_7 _ _ _ | exact Rh_8 _ _ _ | exact Rh_9 _ _ _ | exact Rh_10 _ _ _ | exact Rh_11 _ _ _ | exact Rh_12 _ _ _) rfl (Nat.le_of_ble_eq_true rfl) rfl (m_has (d := d - 1) hLi hi hl hpl (by omega)) (by first | decide | omega) (Nat.le_of_ble_eq_true rfl) rfl (fun v h5 hq => ?_) (fun q g hq => by cases hq.1)
              obtain ⟨e1, e5⟩ := hq
              cases e1
              rw [← e5]
              show Go K M_Mod_common d 79 _ [_, _] _ _
              have zero : φ l p = 0 → Go K M_Mod_common d 127 [some (.ref m), some (.int (nI i)), some (.int (nI j)), some (.int (nI (w_s (· + ·) (fun l => w_s (· + ·) (φ l) 0 (4 ^ l)) 0 l + w_s (· + ·) (φ l) 0 p))), some (.int (nI l)), some (.int (nI p)), some (.int (nI (q_bf l + p)))] [.int (nI (w_s (· + ·) (fun l => w_s (· + ·) (φ l) 0 (4 ^ l)) 0 l + w_s (· + ·) (φ l) 0 p))] (Rh g m ρ1) Q := by
                intro h0
                refine go_iconst (pc' := 128) (v := (nI 0)) d_Mod_common_127 (by decide) rfl ?_
                refine go_iaddN (pc' := 129) d_Mod_common_128 rfl ?_
                exact step _ _ rfl (by rw [h0])
              by_cases hx : q_ex (s_ks σ i) l p
              · rw [if_pos hx]
                refine go_if_eq (tgt := 127) (pc' := 82) d_Mod_common_79 (by decide) rfl (fun hc => ?_) (fun hc => ?_)
                · cases hc
                · refine go_aload_n (pc' := 83) (i := 0) d_Mod_common_82 rfl rfl (by first | rfl | exact x_r_rf _) rfl ?_
                  refine go_iload_n (pc' := 84) (i := 2) d_Mod_common_83 rfl rfl rfl ?_
                  refine go_iload (pc' := 86) (i := 4) d_Mod_common_84 rfl rfl ?_
                  refine go_iload (pc' := 88) (i := 5) d_Mod_common_86 rfl rfl ?_
                  refine go_callV (pc' := 91) (M' := M_Mod_has) (ci := 6) (r := (n_Mod, T_Mod, 16)) [_, _, _] d_Mod_common_88 t_609 t_611 sp_Mod_has cd_Mod_has nm_Mod_has rfl (by rfl) (by first | assumption | exact Rh_0 _ _ _ | exact Rh_1 _ _ _ | exact Rh_2 _ _ _ | exact Rh_3 _ _ _ | exact Rh_4 _ _ _ | exact Rh_5 _ _ _ | exact Rh_6 _ _ _ | exact Rh_7 _ _ _ | exact Rh_8 _ _ _ | exact Rh_9 _ _ _ | exact Rh_10 _ _ _ | exact Rh_11 _ _ _ | exact Rh_12 _ _ _) rfl (Nat.le_of_ble_eq_true rfl) rfl (m_has (d := d - 1) hLj hj hl hpl (by omega)) (by first | decide | omega) (Nat.le_of_ble_eq_true rfl) rfl (fun v h6 hq => ?_) (fun q g hq => by cases hq.1)
                  obtain ⟨e1, e6⟩ := hq
                  cases e1
                  rw [← e6]
                  show Go K M_Mod_common d 91 _ [_, _] _ _
                  by_cases hy : q_ex (s_ks σ j) l p
                  · rw [if_pos hy]
                    refine go_if_eq (tgt := 127) (pc' := 94) d_Mod_common_91 (by decide) rfl (fun hc => ?_) (fun hc => ?_)
                    · cases hc
                    · refine go_aload_n (pc' := 95) (i := 0) d_Mod_common_94 rfl rfl (by first | rfl | exact x_r_rf _) rfl ?_
                      refine go_getfield (pc' := 98) d_Mod_common_95 c_Mod 8 (by decide) t_479 (by first | assumption | exact Rh_0 _ _ _ | exact Rh_1 _ _ _ | exact Rh_2 _ _ _ | exact Rh_3 _ _ _ | exact Rh_4 _ _ _ | exact Rh_5 _ _ _ | exact Rh_6 _ _ _ | exact Rh_7 _ _ _ | exact Rh_8 _ _ _ | exact Rh_9 _ _ _ | exact Rh_10 _ _ _ | exact Rh_11 _ _ _ | exact Rh_12 _ _ _) (by rfl) rfl ?_
                      refine go_sipush (pc' := 101) (v := (nI 341)) d_Mod_common_98 (by decide) rfl ?_
                      refine go_iload_n (pc' := 102) (i := 1) d_Mod_common_101 rfl rfl rfl ?_
                      refine go_imulN (pc' := 103) d_Mod_common_102 rfl ?_
                      refine go_iload (pc' := 105) (i := 6) d_Mod_common_103 rfl rfl ?_
                      refine go_iaddN (pc' := 106) d_Mod_common_105 rfl ?_
                      refine go_ialdN (pc' := 107) d_Mod_common_106 (by first | assumption | exact Rh_0 _ _ _ | exact Rh_1 _ _ _ | exact Rh_2 _ _ _ | exact Rh_3 _ _ _ | exact Rh_4 _ _ _ | exact Rh_5 _ _ _ | exact Rh_6 _ _ _ | exact Rh_7 _ _ _ | exact Rh_8 _ _ _ | exact Rh_9 _ _ _ | exact Rh_10 _ _ _ | exact Rh_11 _ _ _ | exact Rh_12 _ _ _) (by rfl) (by first | assumption | omega | (simp only [x_up, x_nw]; omega)) (by first | assumption | omega | (simp only [x_up, x_nw]; omega)) rfl ?_
                      rw [hBi l p hl hpl]
                      refine go_aload_n (pc' := 108) (i := 0) d_Mod_common_107 rfl rfl (by first | rfl | exact x_r_rf _) rfl ?_
                      refine go_getfield (pc' := 111) d_Mod_common_108 c_Mod 8 (by decide) t_479 (by first | assumption | exact Rh_0 _ _ _ | exact Rh_1 _ _ _ | exact Rh_2 _ _ _ | exact Rh_3 _ _ _ | exact Rh_4 _ _ _ | exact Rh_5 _ _ _ | exact Rh_6 _ _ _ | exact Rh_7 _ _ _ | exact Rh_8 _ _ _ | exact Rh_9 _ _ _ | exact Rh_10 _ _ _ | exact Rh_11 _ _ _ | exact Rh_12 _ _ _) (by rfl) rfl ?_
                      refine go_sipush (pc' := 114) (v := (nI 341)) d_Mod_common_111 (by decide) rfl ?_
                      refine go_iload_n (pc' := 115) (i := 2) d_Mod_common_114 rfl rfl rfl ?_
                      refine go_imulN (pc' := 116) d_Mod_common_115 rfl ?_
                      refine go_iload (pc' := 118) (i := 6) d_Mod_common_116 rfl rfl ?_
                      refine go_iaddN (pc' := 119) d_Mod_common_118 rfl ?_
                      refine go_ialdN (pc' := 120) d_Mod_common_119 (by first | assumption | exact Rh_0 _ _ _ | exact Rh_1 _ _ _ | exact Rh_2 _ _ _ | exact Rh_3 _ _ _ | exact Rh_4 _ _ _ | exact Rh_5 _ _ _ | exact Rh_6 _ _ _ | exact Rh_7 _ _ _ | exact Rh_8 _ _ _ | exact Rh_9 _ _ _ | exact Rh_10 _ _ _ | exact Rh_11 _ _ _ | exact Rh_12 _ _ _) (by rfl) (by first | assumption | omega | (simp only [x_up, x_nw]; omega)) (by first | assumption | omega | (simp only [x_up, x_nw]; omega)) rfl ?_
                      rw [hBj l p hl hpl]
                      have z1 := hb11 i l p hi
                      have z2 := hb11 j l p hj
                      refine go_icmp_neN (tgt := 127) (pc' := 123) d_Mod_common_120 (by decide) rfl (by omega) (by omega) (fun hc => ?_) (fun hc => ?_)
                      · exact zero (by rw [hφ]; exact if_neg (fun z => hc z.2.2))
                      · refine go_iconst (pc' := 124) (v := (nI 1)) d_Mod_common_123 (by decide) rfl ?_
                        refine go_goto (tgt := 128) d_Mod_common_124 (by decide) ?_
                        refine go_iaddN (pc' := 129) d_Mod_common_128 rfl ?_
                        exact step _ _ rfl (by rw [hφ]; congr 1; exact (if_pos ⟨hx, hy, hc⟩).symm)
                  · rw [if_neg hy]
                    refine go_if_eq (tgt := 127) (pc' := 94) d_Mod_common_91 (by decide) rfl (fun hc => ?_) (fun hc => ?_)
                    · exact zero (by rw [hφ]; exact if_neg (fun z => hy z.2.1))
                    · exact absurd rfl hc
              · rw [if_neg hx]
                refine go_if_eq (tgt := 127) (pc' := 82) d_Mod_common_79 (by decide) rfl (fun hc => ?_) (fun hc => ?_)
                · exact zero (by rw [hφ]; exact if_neg (fun z => hx z.1))
                · exact absurd rfl hc
        have outer : ∀ r l x5 x6, x_k x5 = x5 → x_k x6 = x6 → l + r = 5 → Go K M_Mod_common d 32 [some (.ref m), some (.int (nI i)), some (.int (nI j)), some (.int (nI (w_s (· + ·) (fun l => w_s (· + ·) (φ l) 0 (4 ^ l)) 0 l))), some (.int (nI l)), x5, x6] [] (Rh g m ρ1) Q := by
          intro r
          induction r with
          | zero =>
            intro l x5 x6 h5 h6 hl
            have : l = 5 := by omega
            subst this
            refine go_iload (pc' := 34) (i := 4) d_Mod_common_32 rfl rfl ?_
            refine go_iconst (pc' := 35) (v := (nI 5)) d_Mod_common_34 (by decide) rfl ?_
            refine go_icmp_geN (tgt := 142) (pc' := 38) d_Mod_common_35 (by decide) rfl (by omega) (by omega) (fun hc => ?_) (fun hc => ?_)
            · refine go_iload_n (pc' := 143) (i := 3) d_Mod_common_142 rfl rfl rfl ?_
              refine go_ireturn d_Mod_common_143 rfl (by rfl) ?_
              rw [hQ, hpp]
              exact ⟨_, rfl, hR1, htw, rfl⟩
            · omega
          | succ r ih =>
            intro l x5 x6 h5 h6 hl
            refine go_iload (pc' := 34) (i := 4) d_Mod_common_32 rfl rfl ?_
            refine go_iconst (pc' := 35) (v := (nI 5)) d_Mod_common_34 (by decide) rfl ?_
            refine go_icmp_geN (tgt := 142) (pc' := 38) d_Mod_common_35 (by decide) rfl (by omega) (by omega) (fun hc => ?_) (fun hc => ?_)
            · omega
            · refine go_iconst (pc' := 39) (v := (nI 0)) d_Mod_common_38 (by decide) rfl ?_
              refine go_istore (pc' := 41) (i := 5) d_Mod_common_39 (by decide) (x_s5 (by first | rfl | exact x_k_rf _)) rfl ?_
              exact inner l (by omega) (fun x5 x6 h5 h6 => ih (l + 1) x5 x6 h5 h6 (by omega)) (4 ^ l) 0 x6 h6 (by omega)
        refine go_if_eq (tgt := 27) (pc' := 21) d_Mod_common_18 (by decide) rfl (fun hc => ?_) (fun hc => ?_)
        · refine go_iconst (pc' := 28) (v := (nI 0)) d_Mod_common_27 (by decide) rfl ?_
          refine go_istore_n (pc' := 29) (i := 3) d_Mod_common_28 rfl (by decide) (x_s3 (by first | rfl | exact x_k_rf _)) rfl ?_
          refine go_iconst (pc' := 30) (v := (nI 0)) d_Mod_common_29 (by decide) rfl ?_
          refine go_istore (pc' := 32) (i := 4) d_Mod_common_30 (by decide) (x_s4 (by first | rfl | exact x_k_rf _)) rfl ?_
          exact outer 5 0 none none rfl rfl (by omega)
        · exact absurd rfl hc
end RL2
