/-! the reference: measure -/
theorem w_acc (op : Nat → Nat → Nat) (h0 : ∀ a, op a 0 = a) (h0' : ∀ a, op 0 a = a) (ha : ∀ a b c, op (op a b) c = op a (op b c)) (φ : Nat → Nat → Nat) : ∃ f : Nat → Nat → Nat, f 0 0 = 0 ∧ (∀ l p, f l (p + 1) = op (f l p) (φ l p)) ∧ (∀ l, f (l + 1) 0 = f l (4 ^ l)) ∧ f 5 0 = w_s op (fun l => w_s op (φ l) 0 (4 ^ l)) 0 5 := by
  refine ⟨fun l p => op (w_s op (fun l => w_s op (φ l) 0 (4 ^ l)) 0 l) (w_s op (φ l) 0 p), ?_, fun l p => ?_, fun l => ?_, ?_⟩
  · show op 0 0 = 0
    exact h0 0
  · show op _ (w_s op (φ l) 0 (p + 1)) = _
    rw [w_s, Nat.zero_add, ha]
  · show op (w_s op (fun l => w_s op (φ l) 0 (4 ^ l)) 0 (l + 1)) 0 = _
    rw [h0, w_s, Nat.zero_add]
  · show op _ 0 = _
    exact h0 _
theorem w_mx {f φ : Nat → Nat → Nat} (f0 : f 0 0 = 0) (f1 : ∀ l p, f l (p + 1) = max (f l p) (φ l p)) (f2 : ∀ l, f (l + 1) 0 = f l (4 ^ l)) (hφ : ∀ l p, φ l p ≤ l + 1) : ∀ l p, f l p ≤ l + 1 := by
  have st : ∀ l, f l 0 ≤ l + 1 → ∀ p, f l p ≤ l + 1 := by
    intro l h p
    induction p with
    | zero => exact h
    | succ p ih =>
      rw [f1]
      have := hφ l p
      omega
  intro l
  induction l with
  | zero => exact st 0 (by omega)
  | succ l ih => exact st (l + 1) (by rw [f2]; have := ih (4 ^ l); omega)
section RM2
variable {K : x_K} {d : Nat} {h g : x_H} {m i j : Nat} {ρ ρ' : Rt} {ks : List KV} {σ : Sg}
set_option maxRecDepth 100000 in
theorem m_measure (hR : Rr σ ρ) (mm w : Int32) (hd : 8 ≤ d) : Go K M_Mod_measure d 0 [some (.ref m), some (.int mm), some (.int w), none, none, none, none, none, none] [] (Rh g m ρ) (Qm g m (p_Mea σ mm w) c_1 (.int (nI 0))) := by
  refine go_aload_n (pc' := 1) (i := 0) d_Mod_measure_0 rfl rfl (by first | rfl | exact x_r_rf _) rfl ?_
  refine go_iconst (pc' := 2) (v := (nI 0)) d_Mod_measure_1 (by decide) rfl ?_
  refine go_putfield (pc' := 5) d_Mod_measure_2 c_Mod 0 (by decide) rfl t_471 (by first | assumption | exact Rh_0 _ _ _ | exact Rh_1 _ _ _ | exact Rh_2 _ _ _ | exact Rh_3 _ _ _ | exact Rh_4 _ _ _ | exact Rh_5 _ _ _ | exact Rh_6 _ _ _ | exact Rh_7 _ _ _ | exact Rh_8 _ _ _ | exact Rh_9 _ _ _ | exact Rh_10 _ _ _ | exact Rh_11 _ _ _ | exact Rh_12 _ _ _) (by rfl) (by rfl) (by first | exact Nat.le_of_ble_eq_true rfl | simp) rfl ?_
  rw [Rh_utw]
  obtain ⟨ρ1, hρ1⟩ : ∃ ρ1, ρ1 = ru_tw ρ (nI 0) := ⟨_, rfl⟩
  rw [← hρ1]
  have hR1 : Rr σ ρ1 := by rw [hρ1]; exact hR
  have htw : r_tw ρ1 = nI 0 := by rw [hρ1]; rfl
  have fl : p_Mea σ mm w = (σ, .inr 11) → Go K M_Mod_measure d 22 [some (.ref m), some (.int mm), some (.int w), none, none, none, none, none, none] [] (Rh g m ρ1) (Qm g m (p_Mea σ mm w) c_1 (.int (nI 0))) := by
    intro hpp
    refine go_aload_n (pc' := 23) (i := 0) d_Mod_measure_22 rfl rfl (by first | rfl | exact x_r_rf _) rfl ?_
    refine go_iconst (pc' := 24) (v := (nI 1)) d_Mod_measure_23 (by decide) rfl ?_
    refine go_callV (pc' := 27) (M' := M_Mod_fail) (ci := 6) (r := (n_Mod, T_Mod, 16)) [_] d_Mod_measure_24 t_534 t_536 sp_Mod_fail cd_Mod_fail nm_Mod_fail rfl (by rfl) (by first | assumption | exact Rh_0 _ _ _ | exact Rh_1 _ _ _ | exact Rh_2 _ _ _ | exact Rh_3 _ _ _ | exact Rh_4 _ _ _ | exact Rh_5 _ _ _ | exact Rh_6 _ _ _ | exact Rh_7 _ _ _ | exact Rh_8 _ _ _ | exact Rh_9 _ _ _ | exact Rh_10 _ _ _ | exact Rh_11 _ _ _ | exact Rh_12 _ _ _) rfl (Nat.le_of_ble_eq_true rfl) rfl (m_fail (d := d - 1) (nI 1)) (by first | decide | omega) (Nat.le_of_ble_eq_true rfl) rfl (fun v hh hq => ?_) (fun q g hq => by cases hq.1)
    obtain ⟨e1, e2⟩ := hq
    cases e1
    rw [← e2]
    show Go K M_Mod_measure d 27 _ [_] _ _
    refine go_ireturn d_Mod_measure_27 rfl (by rfl) ?_
    rw [hpp]
    exact ⟨_, rfl, hR1, rfl, rfl⟩
  refine go_aload_n (pc' := 6) (i := 0) d_Mod_measure_5 rfl rfl (by first | rfl | exact x_r_rf _) rfl ?_
  refine go_iload_n (pc' := 7) (i := 1) d_Mod_measure_6 rfl rfl rfl ?_
  refine go_callV (pc' := 10) (M' := M_Mod_none) (ci := 6) (r := (n_Mod, T_Mod, 16)) [_] d_Mod_measure_7 t_530 t_532 sp_Mod_none cd_Mod_none nm_Mod_none rfl (by rfl) (by first | assumption | exact Rh_0 _ _ _ | exact Rh_1 _ _ _ | exact Rh_2 _ _ _ | exact Rh_3 _ _ _ | exact Rh_4 _ _ _ | exact Rh_5 _ _ _ | exact Rh_6 _ _ _ | exact Rh_7 _ _ _ | exact Rh_8 _ _ _ | exact Rh_9 _ _ _ | exact Rh_10 _ _ _ | exact Rh_11 _ _ _ | exact Rh_12 _ _ _) rfl (Nat.le_of_ble_eq_true rfl) rfl (m_none (d := d - 1) hR1.2.1 mm) (by first | decide | omega) (Nat.le_of_ble_eq_true rfl) rfl (fun v hh hq => ?_) (fun q g hq => by cases hq.1)
  obtain ⟨e1, e2⟩ := hq
  cases e1
  rw [← e2]
  show Go K M_Mod_measure d 10 _ [_] _ _
  cases hp : p_map σ mm with
  | none =>
    refine go_if_ne (tgt := 22) (pc' := 13) d_Mod_measure_10 (by decide) rfl (fun hc => ?_) (fun hc => ?_)
    · refine fl ?_
      unfold p_Mea
      rw [hp]
    · cases hc
  | some i =>
    obtain ⟨rfl, hi, hth⟩ := p_map_inv hp
    refine go_if_ne (tgt := 22) (pc' := 13) d_Mod_measure_10 (by decide) rfl (fun hc => ?_) (fun hc => ?_)
    · exact absurd rfl hc
    · have hw : ∀ n : Int32, ¬ (w = 0 ∨ w = 1 ∨ w = 2 ∨ w = 3 ∨ w = 4) → p_Mea σ (nI i) w = (σ, .inr 11) := by
        intro _ hn
        unfold p_Mea
        rw [hp]
        simp only [not_or] at hn
        simp only [hn.1, hn.2.1, hn.2.2.1, hn.2.2.2.1, hn.2.2.2.2, if_false]
      refine go_iload_n (pc' := 14) (i := 2) d_Mod_measure_13 rfl rfl rfl ?_
      refine go_if_lt (tgt := 22) (pc' := 17) d_Mod_measure_14 (by decide) rfl (fun hc => ?_) (fun hc => ?_)
      · refine fl (hw 0 ?_)
        rintro (rfl | rfl | rfl | rfl | rfl) <;> exact absurd hc (by decide)
      · have hc0 := hc
        refine go_iload_n (pc' := 18) (i := 2) d_Mod_measure_17 rfl rfl rfl ?_
        refine go_iconst (pc' := 19) (v := (nI 4)) d_Mod_measure_18 (by decide) rfl ?_
        refine go_icmp_le (tgt := 28) (pc' := 22) d_Mod_measure_19 (by decide) rfl (fun hc => ?_) (fun hc => ?_)
        · have h5 : w = nI 0 ∨ w = nI 1 ∨ w = nI 2 ∨ w = nI 3 ∨ w = nI 4 := by
            have e0 : (0 : Int32).toInt = 0 := by decide
            have e4 : (nI 4).toInt = 4 := by decide
            have a1 : ¬ w.toInt < 0 := fun z => hc0 (Int32.lt_iff_toInt_lt.mpr (by rw [e0]; exact z))
            have a2 : w.toInt ≤ (nI 4).toInt := Int32.le_iff_toInt_le.mp hc
            rw [e4] at a2
            have a3 : w.toInt = 0 ∨ w.toInt = 1 ∨ w.toInt = 2 ∨ w.toInt = 3 ∨ w.toInt = 4 := by omega
            rcases a3 with z | z | z | z | z
            · exact Or.inl (Int32.toInt_inj.mp (z.trans (by decide)))
            · exact Or.inr (Or.inl (Int32.toInt_inj.mp (z.trans (by decide))))
            · exact Or.inr (Or.inr (Or.inl (Int32.toInt_inj.mp (z.trans (by decide)))))
            · exact Or.inr (Or.inr (Or.inr (Or.inl (Int32.toInt_inj.mp (z.trans (by decide))))))
            · exact Or.inr (Or.inr (Or.inr (Or.inr (Int32.toInt_inj.mp (z.trans (by decide))))))
          have hLi := hR1.2.2.2.2.1 i hi
          have hBi := hR1.2.2.2.2.2.1 i hi
          have hGi := hR1.2.2.2.1 i hi
          have hb11 := hR1.2.2.2.2.2.2.2.2.2.2.1
          have hg12 := hR1.2.2.2.2.2.2.2.2.2.2.2.1 i hi
          have hl13 := hR1.2.2.2.2.2.2.2.2.2.2.2.2.1
          obtain ⟨Q, hQ⟩ : ∃ Q : x_O → x_H → Prop, Q = Qm g m (p_Mea σ (nI i) w) c_1 (.int (nI 0)) := ⟨_, rfl⟩
          rw [← hQ]
          obtain ⟨a, a0, a1, a2, a3⟩ := w_acc (· + ·) Nat.add_zero Nat.zero_add Nat.add_assoc (fun l p => if q_ex (s_ks σ i) l p then 1 else 0)
          obtain ⟨b, b0, b1, b2, b3⟩ := w_acc (· + ·) Nat.add_zero Nat.zero_add Nat.add_assoc (fun l p => if q_ex (s_ks σ i) l p ∧ l = 4 then 1 else 0)
          obtain ⟨c, c0, c1, c2, c3⟩ := w_acc max Nat.max_zero Nat.zero_max Nat.max_assoc (fun l p => if q_ex (s_ks σ i) l p then l + 1 else 0)
          obtain ⟨e, e0, e1, e2, e3⟩ := w_acc (· + ·) Nat.add_zero Nat.zero_add Nat.add_assoc (fun l p => if q_ex (s_ks σ i) l p ∧ s_bl σ i l p = s_gn σ i then 1 else 0)
          have cm := w_mx c0 c1 c2 (fun l p => by split <;> omega)
          have inner : ∀ l, l < 5 → (∀ x8, x_k x8 = x8 → Go K M_Mod_measure d 42 [some (.ref m), some (.int (nI i)), some (.int w), some (.int (nI (a (l + 1) 0))), some (.int (nI (b (l + 1) 0))), some (.int (nI (c (l + 1) 0))), some (.int (nI (e (l + 1) 0))), some (.int (nI (l + 1))), x8] [] (Rh g m ρ1) Q) →
              ∀ r p, p + r = 4 ^ l → Go K M_Mod_measure d 51 [some (.ref m), some (.int (nI i)), some (.int w), some (.int (nI (a l p))), some (.int (nI (b l p))), some (.int (nI (c l p))), some (.int (nI (e l p))), some (.int (nI l)), some (.int (nI p))] [] (Rh g m ρ1) Q := by
            intro l hl nxt r
            have h256 := q_4le l hl
            induction r with
            | zero =>
              intro p hpr
              refine go_iload (pc' := 53) (i := 8) d_Mod_measure_51 rfl rfl ?_
              refine go_iconst (pc' := 54) (v := (nI 1)) d_Mod_measure_53 (by decide) rfl ?_
              refine go_iconst (pc' := 55) (v := (nI 2)) d_Mod_measure_54 (by decide) rfl ?_
              refine go_iload (pc' := 57) (i := 7) d_Mod_measure_55 rfl rfl ?_
              refine go_imulN (pc' := 58) d_Mod_measure_57 rfl ?_
              refine go_ishl (pc' := 59) d_Mod_measure_58 rfl ?_
              rw [q_sh1 l hl]
              refine go_icmp_geN (tgt := 150) (pc' := 62) d_Mod_measure_59 (by decide) rfl (by omega) (by omega) (fun hc => ?_) (fun hc => ?_)
              · refine go_iinc (pc' := 153) (i := 7) d_Mod_measure_150 rfl (x_i1 _) (by decide) (x_s7 (by first | rfl | exact x_k_rf _)) rfl ?_
                refine go_goto (tgt := 42) d_Mod_measure_153 (by decide) ?_
                have := nxt (some (.int (nI p))) rfl
                rw [a2, b2, c2, e2, ← show p = 4 ^ l by omega] at this
                exact this
              · omega
            | succ r ih =>
              intro p hpr
              have hpl : p < 4 ^ l := by omega
              obtain ⟨n1, n2⟩ := q_shm l hl p (by omega) hpl
              have hbf := q_bf_lt l hl
              refine go_iload (pc' := 53) (i := 8) d_Mod_measure_51 rfl rfl ?_
              refine go_iconst (pc' := 54) (v := (nI 1)) d_Mod_measure_53 (by decide) rfl ?_
              refine go_iconst (pc' := 55) (v := (nI 2)) d_Mod_measure_54 (by decide) rfl ?_
              refine go_iload (pc' := 57) (i := 7) d_Mod_measure_55 rfl rfl ?_
              refine go_imulN (pc' := 58) d_Mod_measure_57 rfl ?_
              refine go_ishl (pc' := 59) d_Mod_measure_58 rfl ?_
              rw [q_sh1 l hl]
              refine go_icmp_geN (tgt := 150) (pc' := 62) d_Mod_measure_59 (by decide) rfl (by omega) (by omega) (fun hc => ?_) (fun hc => ?_)
              · omega
              · refine go_aload_n (pc' := 63) (i := 0) d_Mod_measure_62 rfl rfl (by first | rfl | exact x_r_rf _) rfl ?_
                refine go_iload_n (pc' := 64) (i := 1) d_Mod_measure_63 rfl rfl rfl ?_
                refine go_iload (pc' := 66) (i := 7) d_Mod_measure_64 rfl rfl ?_
                refine go_iload (pc' := 68) (i := 8) d_Mod_measure_66 rfl rfl ?_
                refine go_callV (pc' := 71) (M' := M_Mod_has) (ci := 6) (r := (n_Mod, T_Mod, 16)) [_, _, _] d_Mod_measure_68 t_609 t_611 sp_Mod_has cd_Mod_has nm_Mod_has rfl (by rfl) (by first | assumption | exact Rh_0 _ _ _ | exact Rh_1 _ _ _ | exact Rh_2 _ _ _ | exact Rh_3 _ _ _ | exact Rh_4 _ _ _ | exact Rh_5 _ _ _ | exact Rh_6 _ _ _ | exact Rh_7 _ _ _ | exact Rh_8 _ _ _ | exact Rh_9 _ _ _ | exact Rh_10 _ _ _ | exact Rh_11 _ _ _ | exact Rh_12 _ _ _) rfl (Nat.le_of_ble_eq_true rfl) rfl (m_has (d := d - 1) hLi hi hl hpl (by omega)) (by first | decide | omega) (Nat.le_of_ble_eq_true rfl) rfl (fun v h5 hq => ?_) (fun q g hq => by cases hq.1)
                obtain ⟨e1', e5⟩ := hq
                cases e1'
                rw [← e5]
                show Go K M_Mod_measure d 71 _ [_] _ _
                have nx := ih (p + 1) (by omega)
                by_cases hx : q_ex (s_ks σ i) l p
                · rw [if_pos hx]
                  refine go_if_eq (tgt := 144) (pc' := 74) d_Mod_measure_71 (by decide) rfl (fun hc => ?_) (fun hc => ?_)
                  · cases hc
                  · rw [a1, b1, c1, e1] at nx
                    simp only [hx, true_and, if_true] at nx
                    rw [Nat.max_eq_right (cm l p)] at nx
                    have st2 : ∀ n : Nat, n = (if l = 4 then 1 else 0) → Go K M_Mod_measure d 90 [some (.ref m), some (.int (nI i)), some (.int w), some (.int (nI (a l p + 1))), some (.int (nI (b l p))), some (.int (nI (c l p))), some (.int (nI (e l p))), some (.int (nI l)), some (.int (nI p))] [.int (nI n), .int (nI (b l p))] (Rh g m ρ1) Q := by
                      intro n hn
                      subst hn
                      refine go_iaddN (pc' := 91) d_Mod_measure_90 rfl ?_
                      refine go_istore (pc' := 93) (i := 4) d_Mod_measure_91 (by decide) (x_s4 (by first | rfl | exact x_k_rf _)) rfl ?_
                      refine go_iload (pc' := 95) (i := 7) d_Mod_measure_93 rfl rfl ?_
                      refine go_iconst (pc' := 96) (v := (nI 1)) d_Mod_measure_95 (by decide) rfl ?_
                      refine go_iaddN (pc' := 97) d_Mod_measure_96 rfl ?_
                      refine go_istore (pc' := 99) (i := 5) d_Mod_measure_97 (by decide) (x_s5 (by first | rfl | exact x_k_rf _)) rfl ?_
                      refine go_iload (pc' := 101) (i := 6) d_Mod_measure_99 rfl rfl ?_
                      refine go_aload_n (pc' := 102) (i := 0) d_Mod_measure_101 rfl rfl (by first | rfl | exact x_r_rf _) rfl ?_
                      refine go_getfield (pc' := 105) d_Mod_measure_102 c_Mod 8 (by decide) t_479 (by first | assumption | exact Rh_0 _ _ _ | exact Rh_1 _ _ _ | exact Rh_2 _ _ _ | exact Rh_3 _ _ _ | exact Rh_4 _ _ _ | exact Rh_5 _ _ _ | exact Rh_6 _ _ _ | exact Rh_7 _ _ _ | exact Rh_8 _ _ _ | exact Rh_9 _ _ _ | exact Rh_10 _ _ _ | exact Rh_11 _ _ _ | exact Rh_12 _ _ _) (by rfl) rfl ?_
                      refine go_sipush (pc' := 108) (v := (nI 341)) d_Mod_measure_105 (by decide) rfl ?_
                      refine go_iload_n (pc' := 109) (i := 1) d_Mod_measure_108 rfl rfl rfl ?_
                      refine go_imulN (pc' := 110) d_Mod_measure_109 rfl ?_
                      refine go_iload (pc' := 112) (i := 8) d_Mod_measure_110 rfl rfl ?_
                      refine go_bipush (pc' := 114) (v := (nI 8)) d_Mod_measure_112 (by decide) rfl ?_
                      refine go_iconst (pc' := 115) (v := (nI 2)) d_Mod_measure_114 (by decide) rfl ?_
                      refine go_iload (pc' := 117) (i := 7) d_Mod_measure_115 rfl rfl ?_
                      refine go_imulN (pc' := 118) d_Mod_measure_117 rfl ?_
                      refine go_isubN (pc' := 119) d_Mod_measure_118 (by omega) rfl ?_
                      refine go_ishl (pc' := 120) d_Mod_measure_119 rfl ?_
                      rw [q_shl l hl p (by omega) hpl]
                      have hNd := m_node (K := K) (d := d - 1) (h := Rh g m ρ1) n1 hl
                      rw [n2] at hNd
                      refine go_iload (pc' := 122) (i := 7) d_Mod_measure_120 rfl rfl ?_
                      refine go_callS (pc' := 125) (M' := M_Mod_node) [_, _] d_Mod_measure_122 t_558 t_559 t_4 cd_Mod_node nm_Mod_node rfl rfl (Nat.le_of_ble_eq_true rfl) rfl (hNd) (by first | decide | omega) (Nat.le_of_ble_eq_true rfl) rfl (fun v h4 hq => ?_) (fun q g hq => by cases hq.1)
                      obtain ⟨e1', e4⟩ := hq
                      cases e1'
                      rw [← e4]
                      show Go K M_Mod_measure d 125 _ [.int (nI (q_bf l + p)), _, _, _] _ _
                      refine go_iaddN (pc' := 126) d_Mod_measure_125 rfl ?_
                      refine go_ialdN (pc' := 127) d_Mod_measure_126 (by first | assumption | exact Rh_0 _ _ _ | exact Rh_1 _ _ _ | exact Rh_2 _ _ _ | exact Rh_3 _ _ _ | exact Rh_4 _ _ _ | exact Rh_5 _ _ _ | exact Rh_6 _ _ _ | exact Rh_7 _ _ _ | exact Rh_8 _ _ _ | exact Rh_9 _ _ _ | exact Rh_10 _ _ _ | exact Rh_11 _ _ _ | exact Rh_12 _ _ _) (by rfl) (by first | assumption | omega | (simp only [x_up, x_nw]; omega)) (by first | assumption | omega | (simp only [x_up, x_nw]; omega)) rfl ?_
                      rw [hBi l p hl hpl]
                      refine go_aload_n (pc' := 128) (i := 0) d_Mod_measure_127 rfl rfl (by first | rfl | exact x_r_rf _) rfl ?_
                      refine go_getfield (pc' := 131) d_Mod_measure_128 c_Mod 4 (by decide) t_475 (by first | assumption | exact Rh_0 _ _ _ | exact Rh_1 _ _ _ | exact Rh_2 _ _ _ | exact Rh_3 _ _ _ | exact Rh_4 _ _ _ | exact Rh_5 _ _ _ | exact Rh_6 _ _ _ | exact Rh_7 _ _ _ | exact Rh_8 _ _ _ | exact Rh_9 _ _ _ | exact Rh_10 _ _ _ | exact Rh_11 _ _ _ | exact Rh_12 _ _ _) (by rfl) rfl ?_
                      refine go_iload_n (pc' := 132) (i := 1) d_Mod_measure_131 rfl rfl rfl ?_
                      refine go_ialdN (pc' := 133) d_Mod_measure_132 (by first | assumption | exact Rh_0 _ _ _ | exact Rh_1 _ _ _ | exact Rh_2 _ _ _ | exact Rh_3 _ _ _ | exact Rh_4 _ _ _ | exact Rh_5 _ _ _ | exact Rh_6 _ _ _ | exact Rh_7 _ _ _ | exact Rh_8 _ _ _ | exact Rh_9 _ _ _ | exact Rh_10 _ _ _ | exact Rh_11 _ _ _ | exact Rh_12 _ _ _) (by rfl) (by first | assumption | omega | (simp only [x_up, x_nw]; omega)) (by first | assumption | omega | (simp only [x_up, x_nw]; omega)) rfl ?_
                      rw [hGi]
                      have z1 := hb11 i l p hi
                      have st3 : ∀ n : Nat, n = (if s_bl σ i l p = s_gn σ i then 1 else 0) → Go K M_Mod_measure d 141 [some (.ref m), some (.int (nI i)), some (.int w), some (.int (nI (a l p + 1))), some (.int (nI (b l p + if l = 4 then 1 else 0))), some (.int (nI (l + 1))), some (.int (nI (e l p))), some (.int (nI l)), some (.int (nI p))] [.int (nI n), .int (nI (e l p))] (Rh g m ρ1) Q := by
                        intro n hn
                        subst hn
                        refine go_iaddN (pc' := 142) d_Mod_measure_141 rfl ?_
                        refine go_istore (pc' := 144) (i := 6) d_Mod_measure_142 (by decide) (x_s6 (by first | rfl | exact x_k_rf _)) rfl ?_
                        refine go_iinc (pc' := 147) (i := 8) d_Mod_measure_144 rfl (x_i1 _) (by decide) (x_s8 (by first | rfl | exact x_k_rf _)) rfl ?_
                        refine go_goto (tgt := 51) d_Mod_measure_147 (by decide) ?_
                        exact nx
                      refine go_icmp_neN (tgt := 140) (pc' := 136) d_Mod_measure_133 (by decide) rfl (by omega) (by omega) (fun hc => ?_) (fun hc => ?_)
                      · refine go_iconst (pc' := 141) (v := (nI 0)) d_Mod_measure_140 (by decide) rfl ?_
                        exact st3 0 (by rw [if_neg hc])
                      · refine go_iconst (pc' := 137) (v := (nI 1)) d_Mod_measure_136 (by decide) rfl ?_
                        refine go_goto (tgt := 141) d_Mod_measure_137 (by decide) ?_
                        exact st3 1 (by rw [if_pos hc])
                    refine go_iinc (pc' := 77) (i := 3) d_Mod_measure_74 rfl (x_i1 _) (by decide) (x_s3 (by first | rfl | exact x_k_rf _)) rfl ?_
                    refine go_iload (pc' := 79) (i := 4) d_Mod_measure_77 rfl rfl ?_
                    refine go_iload (pc' := 81) (i := 7) d_Mod_measure_79 rfl rfl ?_
                    refine go_iconst (pc' := 82) (v := (nI 4)) d_Mod_measure_81 (by decide) rfl ?_
                    refine go_icmp_neN (tgt := 89) (pc' := 85) d_Mod_measure_82 (by decide) rfl (by omega) (by omega) (fun hc => ?_) (fun hc => ?_)
                    · refine go_iconst (pc' := 90) (v := (nI 0)) d_Mod_measure_89 (by decide) rfl ?_
                      exact st2 0 (by rw [if_neg hc])
                    · refine go_iconst (pc' := 86) (v := (nI 1)) d_Mod_measure_85 (by decide) rfl ?_
                      refine go_goto (tgt := 90) d_Mod_measure_86 (by decide) ?_
                      exact st2 1 (by rw [if_pos hc])
                · rw [if_neg hx]
                  refine go_if_eq (tgt := 144) (pc' := 74) d_Mod_measure_71 (by decide) rfl (fun hc => ?_) (fun hc => ?_)
                  · rw [a1, b1, c1, e1] at nx
                    simp only [hx, false_and, if_false, Nat.add_zero, Nat.max_zero] at nx
                    refine go_iinc (pc' := 147) (i := 8) d_Mod_measure_144 rfl (x_i1 _) (by decide) (x_s8 (by first | rfl | exact x_k_rf _)) rfl ?_
                    refine go_goto (tgt := 51) d_Mod_measure_147 (by decide) ?_
                    exact nx
                  · exact absurd rfl hc
          have outer : ∀ r l x8, x_k x8 = x8 → l + r = 5 → Go K M_Mod_measure d 42 [some (.ref m), some (.int (nI i)), some (.int w), some (.int (nI (a l 0))), some (.int (nI (b l 0))), some (.int (nI (c l 0))), some (.int (nI (e l 0))), some (.int (nI l)), x8] [] (Rh g m ρ1) Q := by
            intro r
            induction r with
            | zero =>
              intro l x8 h8 hl
              have : l = 5 := by omega
              subst this
              rw [a3, b3, c3, e3]
              refine go_iload (pc' := 44) (i := 7) d_Mod_measure_42 rfl rfl ?_
              refine go_iconst (pc' := 45) (v := (nI 5)) d_Mod_measure_44 (by decide) rfl ?_
              refine go_icmp_geN (tgt := 156) (pc' := 48) d_Mod_measure_45 (by decide) rfl (by omega) (by omega) (fun hc => ?_) (fun hc => ?_)
              · refine go_iload_n (pc' := 157) (i := 2) d_Mod_measure_156 rfl rfl rfl ?_
                refine go_iconst (pc' := 158) (v := (nI 3)) d_Mod_measure_157 (by decide) rfl ?_
                have fin : ∀ v : Nat, p_Mea σ (nI i) w = (σ, .inl (some (.int (nI v)))) → Q (.inl (some (.int (nI v)))) (Rh g m ρ1) := by
                  intro v hv
                  rw [hQ, hv]
                  exact ⟨_, rfl, hR1, htw, rfl⟩
                rcases h5 with rfl | rfl | rfl | rfl | rfl
                · refine go_icmp_geN (tgt := 186) (pc' := 161) d_Mod_measure_158 (by decide) rfl (by omega) (by omega) (fun hc => ?_) (fun hc => ?_)
                  · omega
                  · refine go_iload_n (pc' := 162) (i := 2) d_Mod_measure_161 rfl rfl rfl ?_
                    refine go_if_ne (tgt := 174) (pc' := 165) d_Mod_measure_162 (by decide) rfl (fun hc => ?_) (fun hc => ?_)
                    · exact absurd rfl hc
                    · refine go_aload_n (pc' := 166) (i := 0) d_Mod_measure_165 rfl rfl (by first | rfl | exact x_r_rf _) rfl ?_
                      refine go_getfield (pc' := 169) d_Mod_measure_166 c_Mod 5 (by decide) t_476 (by first | assumption | exact Rh_0 _ _ _ | exact Rh_1 _ _ _ | exact Rh_2 _ _ _ | exact Rh_3 _ _ _ | exact Rh_4 _ _ _ | exact Rh_5 _ _ _ | exact Rh_6 _ _ _ | exact Rh_7 _ _ _ | exact Rh_8 _ _ _ | exact Rh_9 _ _ _ | exact Rh_10 _ _ _ | exact Rh_11 _ _ _ | exact Rh_12 _ _ _) (by rfl) rfl ?_
                      refine go_iload_n (pc' := 170) (i := 1) d_Mod_measure_169 rfl rfl rfl ?_
                      refine go_ialdN (pc' := 171) d_Mod_measure_170 (by first | assumption | exact Rh_0 _ _ _ | exact Rh_1 _ _ _ | exact Rh_2 _ _ _ | exact Rh_3 _ _ _ | exact Rh_4 _ _ _ | exact Rh_5 _ _ _ | exact Rh_6 _ _ _ | exact Rh_7 _ _ _ | exact Rh_8 _ _ _ | exact Rh_9 _ _ _ | exact Rh_10 _ _ _ | exact Rh_11 _ _ _ | exact Rh_12 _ _ _) (by rfl) (by first | assumption | omega | (simp only [x_up, x_nw]; omega)) (by first | assumption | omega | (simp only [x_up, x_nw]; omega)) rfl ?_
                      rw [hLi.1]
                      refine go_goto (tgt := 185) d_Mod_measure_171 (by decide) ?_
                      refine go_ireturn d_Mod_measure_185 rfl (by rfl) ?_
                      exact fin _ (by unfold p_Mea; rw [hp]; rfl)
                · refine go_icmp_geN (tgt := 186) (pc' := 161) d_Mod_measure_158 (by decide) rfl (by omega) (by omega) (fun hc => ?_) (fun hc => ?_)
                  · omega
                  · refine go_iload_n (pc' := 162) (i := 2) d_Mod_measure_161 rfl rfl rfl ?_
                    refine go_if_ne (tgt := 174) (pc' := 165) d_Mod_measure_162 (by decide) rfl (fun hc => ?_) (fun hc => ?_)
                    · refine go_iload_n (pc' := 175) (i := 2) d_Mod_measure_174 rfl rfl rfl ?_
                      refine go_iconst (pc' := 176) (v := (nI 1)) d_Mod_measure_175 (by decide) rfl ?_
                      refine go_icmp_neN (tgt := 183) (pc' := 179) d_Mod_measure_176 (by decide) rfl (by omega) (by omega) (fun hc => ?_) (fun hc => ?_)
                      · exact absurd rfl hc
                      · refine go_iload_n (pc' := 180) (i := 3) d_Mod_measure_179 rfl rfl rfl ?_
                        refine go_goto (tgt := 185) d_Mod_measure_180 (by decide) ?_
                        refine go_ireturn d_Mod_measure_185 rfl (by rfl) ?_
                        exact fin _ (by unfold p_Mea; rw [hp]; rfl)
                    · exact absurd hc (by decide)
                · refine go_icmp_geN (tgt := 186) (pc' := 161) d_Mod_measure_158 (by decide) rfl (by omega) (by omega) (fun hc => ?_) (fun hc => ?_)
                  · omega
                  · refine go_iload_n (pc' := 162) (i := 2) d_Mod_measure_161 rfl rfl rfl ?_
                    refine go_if_ne (tgt := 174) (pc' := 165) d_Mod_measure_162 (by decide) rfl (fun hc => ?_) (fun hc => ?_)
                    · refine go_iload_n (pc' := 175) (i := 2) d_Mod_measure_174 rfl rfl rfl ?_
                      refine go_iconst (pc' := 176) (v := (nI 1)) d_Mod_measure_175 (by decide) rfl ?_
                      refine go_icmp_neN (tgt := 183) (pc' := 179) d_Mod_measure_176 (by decide) rfl (by omega) (by omega) (fun hc => ?_) (fun hc => ?_)
                      · refine go_iload (pc' := 185) (i := 4) d_Mod_measure_183 rfl rfl ?_
                        refine go_ireturn d_Mod_measure_185 rfl (by rfl) ?_
                        exact fin _ (by unfold p_Mea; rw [hp]; rfl)
                      · omega
                    · exact absurd hc (by decide)
                · refine go_icmp_geN (tgt := 186) (pc' := 161) d_Mod_measure_158 (by decide) rfl (by omega) (by omega) (fun hc => ?_) (fun hc => ?_)
                  · refine go_iload_n (pc' := 187) (i := 2) d_Mod_measure_186 rfl rfl rfl ?_
                    refine go_iconst (pc' := 188) (v := (nI 3)) d_Mod_measure_187 (by decide) rfl ?_
                    refine go_icmp_neN (tgt := 196) (pc' := 191) d_Mod_measure_188 (by decide) rfl (by omega) (by omega) (fun hc => ?_) (fun hc => ?_)
                    · exact absurd rfl hc
                    · refine go_iload (pc' := 193) (i := 5) d_Mod_measure_191 rfl rfl ?_
                      refine go_goto (tgt := 198) d_Mod_measure_193 (by decide) ?_
                      refine go_ireturn d_Mod_measure_198 rfl (by rfl) ?_
                      exact fin _ (by unfold p_Mea; rw [hp]; rfl)
                  · omega
                · refine go_icmp_geN (tgt := 186) (pc' := 161) d_Mod_measure_158 (by decide) rfl (by omega) (by omega) (fun hc => ?_) (fun hc => ?_)
                  · refine go_iload_n (pc' := 187) (i := 2) d_Mod_measure_186 rfl rfl rfl ?_
                    refine go_iconst (pc' := 188) (v := (nI 3)) d_Mod_measure_187 (by decide) rfl ?_
                    refine go_icmp_neN (tgt := 196) (pc' := 191) d_Mod_measure_188 (by decide) rfl (by omega) (by omega) (fun hc => ?_) (fun hc => ?_)
                    · refine go_iload (pc' := 198) (i := 6) d_Mod_measure_196 rfl rfl ?_
                      refine go_ireturn d_Mod_measure_198 rfl (by rfl) ?_
                      exact fin _ (by unfold p_Mea; rw [hp]; rfl)
                    · omega
                  · omega
              · omega
            | succ r ih =>
              intro l x8 h8 hl
              refine go_iload (pc' := 44) (i := 7) d_Mod_measure_42 rfl rfl ?_
              refine go_iconst (pc' := 45) (v := (nI 5)) d_Mod_measure_44 (by decide) rfl ?_
              refine go_icmp_geN (tgt := 156) (pc' := 48) d_Mod_measure_45 (by decide) rfl (by omega) (by omega) (fun hc => ?_) (fun hc => ?_)
              · omega
              · refine go_iconst (pc' := 49) (v := (nI 0)) d_Mod_measure_48 (by decide) rfl ?_
                refine go_istore (pc' := 51) (i := 8) d_Mod_measure_49 (by decide) (x_s8 (by first | rfl | exact x_k_rf _)) rfl ?_
                exact inner l (by omega) (fun x8 h8 => ih (l + 1) x8 h8 (by omega)) (4 ^ l) 0 (by omega)
          refine go_iconst (pc' := 29) (v := (nI 0)) d_Mod_measure_28 (by decide) rfl ?_
          refine go_istore_n (pc' := 30) (i := 3) d_Mod_measure_29 rfl (by decide) (x_s3 (by first | rfl | exact x_k_rf _)) rfl ?_
          refine go_iconst (pc' := 31) (v := (nI 0)) d_Mod_measure_30 (by decide) rfl ?_
          refine go_istore (pc' := 33) (i := 4) d_Mod_measure_31 (by decide) (x_s4 (by first | rfl | exact x_k_rf _)) rfl ?_
          refine go_iconst (pc' := 34) (v := (nI 0)) d_Mod_measure_33 (by decide) rfl ?_
          refine go_istore (pc' := 36) (i := 5) d_Mod_measure_34 (by decide) (x_s5 (by first | rfl | exact x_k_rf _)) rfl ?_
          refine go_iconst (pc' := 37) (v := (nI 0)) d_Mod_measure_36 (by decide) rfl ?_
          refine go_istore (pc' := 39) (i := 6) d_Mod_measure_37 (by decide) (x_s6 (by first | rfl | exact x_k_rf _)) rfl ?_
          refine go_iconst (pc' := 40) (v := (nI 0)) d_Mod_measure_39 (by decide) rfl ?_
          refine go_istore (pc' := 42) (i := 7) d_Mod_measure_40 (by decide) (x_s7 (by first | rfl | exact x_k_rf _)) rfl ?_
          have := outer 5 0 none rfl (by omega)
          rw [a0, b0, c0, e0] at this
          exact this
        · refine fl (hw 0 ?_)
          rintro (rfl | rfl | rfl | rfl | rfl) <;> exact absurd (by decide) hc
end RM2
