/-! the reference: add, put -/
section RF2
variable {K : x_K} {d : Nat} {h g : x_H} {m i : Nat} {ρ ρ' : Rt} {ks : List KV} {bl : Nat → Nat → Nat} {σ : Sg}
theorem Ls.app {key : Int32} {v : Int64} (hL : Ls ρ i ks) (hl : ks.length < 60) (hS : r_S ρ' i = nI (ks.length + 1)) (hK : r_K ρ' = va_up (r_K ρ) (60 * i + ks.length) key) (hV : r_V ρ' = va_up (r_V ρ) (60 * i + ks.length) v) : Ls ρ' i (ks ++ [(key, v)]) := by
  refine ⟨by rw [hS, List.length_append]; rfl, by rw [List.length_append]; exact hl, fun j y hy => ?_⟩
  by_cases hj : j < ks.length
  · rw [List.getElem?_append_left hj] at hy
    rw [hK, hV, va_up_ne _ _ (by omega), va_up_ne _ _ (by omega)]
    exact hL.2.2 j y hy
  · have hj2 := (List.getElem?_eq_some_iff.mp hy).1
    rw [List.length_append] at hj2
    have hj3 : j = ks.length := by
      have : j < ks.length + 1 := hj2
      omega
    subst hj3
    rw [List.getElem?_append_right (Nat.le_refl _), Nat.sub_self] at hy
    cases hy
    rw [hK, hV, va_up_self, va_up_self]
    exact ⟨rfl, rfl⟩
theorem Ls.off {j n : Nat} {key : Int32} {v : Int64} (hL : Ls ρ j ks) (hji : j ≠ i) (hn : n < 60) (hS : r_S ρ' j = r_S ρ j) (hK : r_K ρ' = va_up (r_K ρ) (60 * i + n) key) (hV : r_V ρ' = va_up (r_V ρ) (60 * i + n) v) : Ls ρ' j ks := by
  refine ⟨hS.trans hL.1, hL.2.1, fun a y hy => ?_⟩
  have ha := (List.getElem?_eq_some_iff.mp hy).1
  have := hL.2.1
  rw [hK, hV, va_up_ne _ _ (by omega), va_up_ne _ _ (by omega)]
  exact hL.2.2 a y hy
set_option maxRecDepth 100000 in
theorem m_add (hR : Rr σ ρ) (hi : i < 6) (h0 : s_lc σ = 0) (key : Int32) (v : Int64) (hno : q_get (s_ks σ i) key = none) (hroom : (s_ks σ i).length < 60 ∧ (q_f (s_ks σ i) 4 (q_p 4 key)).length < 6) (hd : 6 ≤ d) :
    Go K M_Mod_add d 0 [some (.ref m), some (.int (nI i)), some (.int key), some (.long v), none, none, none, none] [] (Rh g m ρ) (x_rt (fun w f => w = none ∧ ∃ ρ', f = Rh g m ρ' ∧ Rr (p_put σ i key v) ρ' ∧ r_tw ρ' = r_tw ρ)) := by
  have hqh := q_h_lt key
  obtain ⟨a1, a2, a3, a4, a5, a6, a7, a8, a9, a10, a11, a12, a13, a14⟩ := id hR
  have hL := a5 i hi
  have hG := a4 i hi
  have hgn := a12 i hi
  have hW := m_write (K := K) (g := g) (m := m) (d := d - 1) (c0 := 0) hL hi (a6 i hi) (fun l p => by have := a11 i l p hi; omega) hG (by omega) (by rw [a7, h0]) key (by omega)
  refine go_iload_n (pc' := 1) (i := 2) d_Mod_add_0 rfl rfl rfl ?_
  refine go_callS (pc' := 4) (M' := M_Mod_hash) [_] d_Mod_add_1 t_542 t_543 t_4 cd_Mod_hash nm_Mod_hash rfl rfl (Nat.le_of_ble_eq_true rfl) rfl (m_hash (d := d - 1) key) (by first | decide | omega) (Nat.le_of_ble_eq_true rfl) rfl (fun v hh hq => ?_) (fun q g hq => by cases hq.1)
  obtain ⟨e1, e2⟩ := hq
  cases e1
  rw [← e2]
  show Go K M_Mod_add d 4 _ [.int (nI (q_h key))] _ _
  refine go_istore (pc' := 6) (i := 5) d_Mod_add_4 (by decide) (x_s5 (by first | rfl | exact x_k_rf _)) rfl ?_
  refine go_aload_n (pc' := 7) (i := 0) d_Mod_add_6 rfl rfl (by first | rfl | exact x_r_rf _) rfl ?_
  refine go_iload_n (pc' := 8) (i := 1) d_Mod_add_7 rfl rfl rfl ?_
  refine go_iload (pc' := 10) (i := 5) d_Mod_add_8 rfl rfl ?_
  refine go_callV (pc' := 13) (M' := M_Mod_write) (ci := 6) (r := (n_Mod, T_Mod, 16)) [_, _] d_Mod_add_10 t_554 t_556 sp_Mod_write cd_Mod_write nm_Mod_write rfl (by rfl) (by first | assumption | exact Rh_0 _ _ _ | exact Rh_1 _ _ _ | exact Rh_2 _ _ _ | exact Rh_3 _ _ _ | exact Rh_4 _ _ _ | exact Rh_5 _ _ _ | exact Rh_6 _ _ _ | exact Rh_7 _ _ _ | exact Rh_8 _ _ _ | exact Rh_9 _ _ _ | exact Rh_10 _ _ _ | exact Rh_11 _ _ _ | exact Rh_12 _ _ _) rfl (Nat.le_of_ble_eq_true rfl) rfl (hW) (by first | decide | omega) (Nat.le_of_ble_eq_true rfl) rfl (fun v h2 hq => ?_) (fun q g hq => hq.elim)
  obtain ⟨rfl, B1, rfl, hB1, hF1⟩ := hq
  show Go K M_Mod_add d 13 _ [] _ _
  rw [Nat.zero_add]
  obtain ⟨ρ1, hρ1⟩ : ∃ ρ1, ρ1 = ru_lc (ru_B ρ B1) (nI (q_cc (s_ks σ i) (s_bl σ i) (s_gn σ i) key 5)) := ⟨_, rfl⟩
  rw [← hρ1]
  have hS1 : r_S ρ1 i = nI (s_ks σ i).length := by rw [hρ1]; exact hL.1
  refine go_bipush (pc' := 15) (v := (nI 60)) d_Mod_add_13 (by decide) rfl ?_
  refine go_iload_n (pc' := 16) (i := 1) d_Mod_add_15 rfl rfl rfl ?_
  refine go_imulN (pc' := 17) d_Mod_add_16 rfl ?_
  refine go_aload_n (pc' := 18) (i := 0) d_Mod_add_17 rfl rfl (by first | rfl | exact x_r_rf _) rfl ?_
  refine go_getfield (pc' := 21) d_Mod_add_18 c_Mod 5 (by decide) t_476 (by first | assumption | exact Rh_0 _ _ _ | exact Rh_1 _ _ _ | exact Rh_2 _ _ _ | exact Rh_3 _ _ _ | exact Rh_4 _ _ _ | exact Rh_5 _ _ _ | exact Rh_6 _ _ _ | exact Rh_7 _ _ _ | exact Rh_8 _ _ _ | exact Rh_9 _ _ _ | exact Rh_10 _ _ _ | exact Rh_11 _ _ _ | exact Rh_12 _ _ _) (by rfl) rfl ?_
  refine go_iload_n (pc' := 22) (i := 1) d_Mod_add_21 rfl rfl rfl ?_
  refine go_ialdN (pc' := 23) d_Mod_add_22 (by first | assumption | exact Rh_0 _ _ _ | exact Rh_1 _ _ _ | exact Rh_2 _ _ _ | exact Rh_3 _ _ _ | exact Rh_4 _ _ _ | exact Rh_5 _ _ _ | exact Rh_6 _ _ _ | exact Rh_7 _ _ _ | exact Rh_8 _ _ _ | exact Rh_9 _ _ _ | exact Rh_10 _ _ _ | exact Rh_11 _ _ _ | exact Rh_12 _ _ _) (by rfl) (by first | assumption | omega | (simp only [x_up, x_nw]; omega)) (by first | assumption | omega | (simp only [x_up, x_nw]; omega)) rfl ?_
  rw [hS1]
  refine go_iaddN (pc' := 24) d_Mod_add_23 rfl ?_
  refine go_istore (pc' := 26) (i := 6) d_Mod_add_24 (by decide) (x_s6 (by first | rfl | exact x_k_rf _)) rfl ?_
  refine go_aload_n (pc' := 27) (i := 0) d_Mod_add_26 rfl rfl (by first | rfl | exact x_r_rf _) rfl ?_
  refine go_getfield (pc' := 30) d_Mod_add_27 c_Mod 6 (by decide) t_477 (by first | assumption | exact Rh_0 _ _ _ | exact Rh_1 _ _ _ | exact Rh_2 _ _ _ | exact Rh_3 _ _ _ | exact Rh_4 _ _ _ | exact Rh_5 _ _ _ | exact Rh_6 _ _ _ | exact Rh_7 _ _ _ | exact Rh_8 _ _ _ | exact Rh_9 _ _ _ | exact Rh_10 _ _ _ | exact Rh_11 _ _ _ | exact Rh_12 _ _ _) (by rfl) rfl ?_
  refine go_iload (pc' := 32) (i := 6) d_Mod_add_30 rfl rfl ?_
  refine go_iload_n (pc' := 33) (i := 2) d_Mod_add_32 rfl rfl rfl ?_
  refine go_iastN (pc' := 34) d_Mod_add_33 (by first | assumption | exact Rh_0 _ _ _ | exact Rh_1 _ _ _ | exact Rh_2 _ _ _ | exact Rh_3 _ _ _ | exact Rh_4 _ _ _ | exact Rh_5 _ _ _ | exact Rh_6 _ _ _ | exact Rh_7 _ _ _ | exact Rh_8 _ _ _ | exact Rh_9 _ _ _ | exact Rh_10 _ _ _ | exact Rh_11 _ _ _ | exact Rh_12 _ _ _) (by rfl) (by first | assumption | omega | (simp only [x_up, x_nw]; omega)) (by first | assumption | omega | (simp only [x_up, x_nw]; omega)) rfl ?_
  rw [Rh_uK]
  refine go_aload_n (pc' := 35) (i := 0) d_Mod_add_34 rfl rfl (by first | rfl | exact x_r_rf _) rfl ?_
  refine go_getfield (pc' := 38) d_Mod_add_35 c_Mod 7 (by decide) t_478 (by first | assumption | exact Rh_0 _ _ _ | exact Rh_1 _ _ _ | exact Rh_2 _ _ _ | exact Rh_3 _ _ _ | exact Rh_4 _ _ _ | exact Rh_5 _ _ _ | exact Rh_6 _ _ _ | exact Rh_7 _ _ _ | exact Rh_8 _ _ _ | exact Rh_9 _ _ _ | exact Rh_10 _ _ _ | exact Rh_11 _ _ _ | exact Rh_12 _ _ _) (by rfl) rfl ?_
  refine go_iload (pc' := 40) (i := 6) d_Mod_add_38 rfl rfl ?_
  refine go_lload_n (pc' := 41) (i := 3) d_Mod_add_40 rfl rfl rfl ?_
  refine go_lastN (pc' := 42) d_Mod_add_41 (by first | assumption | exact Rh_0 _ _ _ | exact Rh_1 _ _ _ | exact Rh_2 _ _ _ | exact Rh_3 _ _ _ | exact Rh_4 _ _ _ | exact Rh_5 _ _ _ | exact Rh_6 _ _ _ | exact Rh_7 _ _ _ | exact Rh_8 _ _ _ | exact Rh_9 _ _ _ | exact Rh_10 _ _ _ | exact Rh_11 _ _ _ | exact Rh_12 _ _ _) (by rfl) (by first | assumption | omega | (simp only [x_up, x_nw]; omega)) (by first | assumption | omega | (simp only [x_up, x_nw]; omega)) rfl ?_
  rw [Rh_uV]
  show Go K M_Mod_add d 42 _ [] (Rh g m (ru_V (ru_K ρ1 (va_up (r_K ρ1) (60 * i + (s_ks σ i).length) key)) (va_up (r_V ρ1) (60 * i + (s_ks σ i).length) v))) _
  obtain ⟨ρ2, hρ2⟩ : ∃ ρ2, ρ2 = ru_V (ru_K ρ1 (va_up (r_K ρ1) (60 * i + (s_ks σ i).length) key)) (va_up (r_V ρ1) (60 * i + (s_ks σ i).length) v) := ⟨_, rfl⟩
  rw [← hρ2]
  have hK2 : r_K ρ2 = va_up (r_K ρ) (60 * i + (s_ks σ i).length) key := by rw [hρ2, hρ1]; rfl
  have hV2 : r_V ρ2 = va_up (r_V ρ) (60 * i + (s_ks σ i).length) v := by rw [hρ2, hρ1]; rfl
  have hS2 : r_S ρ2 = r_S ρ := by rw [hρ2, hρ1]; rfl
  have hG2 : r_G ρ2 i = nI (s_gn σ i) := by rw [hρ2, hρ1]; exact hG
  have hL2 : ∀ B, Ls (ru_B ρ2 B) i (s_ks σ i) := fun B => by
    refine ⟨by show r_S ρ2 i = _; rw [hS2]; exact hL.1, hL.2.1, fun j y hy => ?_⟩
    have hj := (List.getElem?_eq_some_iff.mp hy).1
    show r_K ρ2 _ = _ ∧ r_V ρ2 _ = _
    rw [hK2, hV2, va_up_ne _ _ (by omega), va_up_ne _ _ (by omega)]
    exact hL.2.2 j y hy
  obtain ⟨Q, hQ⟩ : ∃ Q : x_O → x_H → Prop, Q = (x_rt (fun w f => w = none ∧ ∃ ρ', f = Rh g m ρ' ∧ Rr (p_put σ i key v) ρ' ∧ r_tw ρ' = r_tw ρ)) := ⟨_, rfl⟩
  rw [← hQ]
  have loop : ∀ r k B, k + r = 5 → 1 ≤ k → Bs B i (fun l p => if 1 ≤ l ∧ l < k ∧ p = q_p l key ∧ (q_f (s_ks σ i) l p).length = 1 then s_gn σ i else q_bw (s_ks σ i) (s_bl σ i) (s_gn σ i) key l p) → (∀ b, ¬ (341 * i ≤ b ∧ b < 341 * i + 341) → B b = r_B ρ b) →
      Go K M_Mod_add d 45 [some (.ref m), some (.int (nI i)), some (.int key), some (.long v), none, some (.int (nI (q_h key))), some (.int (nI (60 * i + (s_ks σ i).length))), some (.int (nI k))] [] (Rh g m (ru_B ρ2 B)) Q := by
    intro r
    induction r with
    | zero =>
      intro k B hk _ hB hF
      have : k = 5 := by omega
      subst this
      refine go_iload (pc' := 47) (i := 7) d_Mod_add_45 rfl rfl ?_
      refine go_iconst (pc' := 48) (v := (nI 5)) d_Mod_add_47 (by decide) rfl ?_
      refine go_icmp_geN (tgt := 94) (pc' := 51) d_Mod_add_48 (by decide) rfl (by omega) (by omega) (fun hc => ?_) (fun hc => ?_)
      · refine go_aload_n (pc' := 95) (i := 0) d_Mod_add_94 rfl rfl (by first | rfl | exact x_r_rf _) rfl ?_
        refine go_getfield (pc' := 98) d_Mod_add_95 c_Mod 5 (by decide) t_476 (by first | assumption | exact Rh_0 _ _ _ | exact Rh_1 _ _ _ | exact Rh_2 _ _ _ | exact Rh_3 _ _ _ | exact Rh_4 _ _ _ | exact Rh_5 _ _ _ | exact Rh_6 _ _ _ | exact Rh_7 _ _ _ | exact Rh_8 _ _ _ | exact Rh_9 _ _ _ | exact Rh_10 _ _ _ | exact Rh_11 _ _ _ | exact Rh_12 _ _ _) (by rfl) rfl ?_
        refine go_iload_n (pc' := 99) (i := 1) d_Mod_add_98 rfl rfl rfl ?_
        refine go_dup2 (pc' := 100) d_Mod_add_99 rfl rfl rfl ?_
        refine go_ialdN (pc' := 101) d_Mod_add_100 (by first | assumption | exact Rh_0 _ _ _ | exact Rh_1 _ _ _ | exact Rh_2 _ _ _ | exact Rh_3 _ _ _ | exact Rh_4 _ _ _ | exact Rh_5 _ _ _ | exact Rh_6 _ _ _ | exact Rh_7 _ _ _ | exact Rh_8 _ _ _ | exact Rh_9 _ _ _ | exact Rh_10 _ _ _ | exact Rh_11 _ _ _ | exact Rh_12 _ _ _) (by rfl) (by first | assumption | omega | (simp only [x_up, x_nw]; omega)) (by first | assumption | omega | (simp only [x_up, x_nw]; omega)) rfl ?_
        refine go_iconst (pc' := 102) (v := (nI 1)) d_Mod_add_101 (by decide) rfl ?_
        rw [show r_S (ru_B ρ2 B) = r_S ρ from hS2, hL.1]
        refine go_iaddN (pc' := 103) d_Mod_add_102 rfl ?_
        refine go_iastN (pc' := 104) d_Mod_add_103 (by first | assumption | exact Rh_0 _ _ _ | exact Rh_1 _ _ _ | exact Rh_2 _ _ _ | exact Rh_3 _ _ _ | exact Rh_4 _ _ _ | exact Rh_5 _ _ _ | exact Rh_6 _ _ _ | exact Rh_7 _ _ _ | exact Rh_8 _ _ _ | exact Rh_9 _ _ _ | exact Rh_10 _ _ _ | exact Rh_11 _ _ _ | exact Rh_12 _ _ _) (by rfl) (by first | assumption | omega | (simp only [x_up, x_nw]; omega)) (by first | assumption | omega | (simp only [x_up, x_nw]; omega)) rfl ?_
        rw [Rh_uS]
        refine go_return d_Mod_add_104 rfl ?_
        rw [hQ]
        refine ⟨rfl, _, rfl, ?_, by rw [hρ2, hρ1]; rfl⟩
        have hpp : p_put σ i key v = p_wr σ i (s_ks σ i ++ [(key, v)]) (q_ba (s_ks σ i) (q_bw (s_ks σ i) (s_bl σ i) (s_gn σ i) key) (s_gn σ i) key) (q_cc (s_ks σ i) (s_bl σ i) (s_gn σ i) key 5) := by
          unfold p_put q_put q_bp
          rw [hno]
          rfl
        rw [hpp]
        refine hR.wr hi (by rw [hρ2, hρ1]; rfl) (by rw [hρ2, hρ1]; rfl) (by rw [hρ2, hρ1]; rfl) (by rw [hρ2, hρ1]; rfl) (by rw [hρ2, hρ1]; rfl) (by rw [hρ2, hρ1]; rfl) (by rw [hρ2, hρ1]; rfl) (by rw [hρ2, hρ1]; rfl) (by rw [hρ2, hρ1]; rfl) (by rw [hρ2, hρ1]; rfl) ?_ (fun j hj hji => ?_) ?_ hF (by rw [hρ2, hρ1]; rfl) ?_ ?_
        · refine hL.app hroom.1 ?_ hK2 hV2
          show va_up (r_S (ru_B ρ2 B)) i (nI ((s_ks σ i).length + 1)) i = _
          rw [va_up_self]
        · refine (a5 j hj).off hji hroom.1 ?_ hK2 hV2
          show va_up (r_S (ru_B ρ2 B)) i (nI ((s_ks σ i).length + 1)) j = _
          rw [va_up_ne _ _ hji]
          exact congrFun hS2 j
        · exact hB
        · have := q_bp_le (ks := s_ks σ i) (key := key) (bl := q_bw (s_ks σ i) (s_bl σ i) (s_gn σ i) key) (q_bw_le (ks := s_ks σ i) (key := key) (fun l p => a11 i l p hi) hgn) hgn
          unfold q_bp at this
          rw [hno] at this
          exact this
        · have := (a14 i hi).put (key := key) (v := v) (Or.inr hroom)
          unfold q_put at this
          rw [hno] at this
          exact this
      · omega
    | succ r ih =>
      intro k B hk hk1 hB hF
      have hk5 : k < 5 := by omega
      have hbf := q_bf_lt k hk5
      have hpl : q_p k key < 4 ^ k := q_p_lt (by omega) key
      have hex : q_h key / 4 ^ (4 - k) = q_p k key := rfl
      have hlen : (q_f (s_ks σ i) k (q_p k key)).length ≤ 60 := Nat.le_trans (List.length_filter_le _ _) hL.2.1
      have nx : ∀ B', Bs B' i (fun l p => if 1 ≤ l ∧ l < k + 1 ∧ p = q_p l key ∧ (q_f (s_ks σ i) l p).length = 1 then s_gn σ i else q_bw (s_ks σ i) (s_bl σ i) (s_gn σ i) key l p) → (∀ b, ¬ (341 * i ≤ b ∧ b < 341 * i + 341) → B' b = r_B ρ b) →
          Go K M_Mod_add d 88 [some (.ref m), some (.int (nI i)), some (.int key), some (.long v), none, some (.int (nI (q_h key))), some (.int (nI (60 * i + (s_ks σ i).length))), some (.int (nI k))] [] (Rh g m (ru_B ρ2 B')) Q := by
        intro B' h1 h2
        refine go_iinc (pc' := 91) (i := 7) d_Mod_add_88 rfl (x_i1 _) (by decide) (x_s7 (by first | rfl | exact x_k_rf _)) rfl ?_
        refine go_goto (tgt := 45) d_Mod_add_91 (by decide) ?_
        exact ih (k + 1) B' (by omega) (by omega) h1 h2
      refine go_iload (pc' := 47) (i := 7) d_Mod_add_45 rfl rfl ?_
      refine go_iconst (pc' := 48) (v := (nI 5)) d_Mod_add_47 (by decide) rfl ?_
      refine go_icmp_geN (tgt := 94) (pc' := 51) d_Mod_add_48 (by decide) rfl (by omega) (by omega) (fun hc => ?_) (fun hc => ?_)
      · omega
      · refine go_aload_n (pc' := 52) (i := 0) d_Mod_add_51 rfl rfl (by first | rfl | exact x_r_rf _) rfl ?_
        refine go_iload_n (pc' := 53) (i := 1) d_Mod_add_52 rfl rfl rfl ?_
        refine go_iload (pc' := 55) (i := 5) d_Mod_add_53 rfl rfl ?_
        refine go_iload (pc' := 57) (i := 7) d_Mod_add_55 rfl rfl ?_
        refine go_callV (pc' := 60) (M' := M_Mod_sharing) (ci := 6) (r := (n_Mod, T_Mod, 16)) [_, _, _] d_Mod_add_57 t_546 t_548 sp_Mod_sharing cd_Mod_sharing nm_Mod_sharing rfl (by rfl) (by first | assumption | exact Rh_0 _ _ _ | exact Rh_1 _ _ _ | exact Rh_2 _ _ _ | exact Rh_3 _ _ _ | exact Rh_4 _ _ _ | exact Rh_5 _ _ _ | exact Rh_6 _ _ _ | exact Rh_7 _ _ _ | exact Rh_8 _ _ _ | exact Rh_9 _ _ _ | exact Rh_10 _ _ _ | exact Rh_11 _ _ _ | exact Rh_12 _ _ _) rfl (Nat.le_of_ble_eq_true rfl) rfl (m_sharing (d := d - 1) (hL2 B) hi hqh hk5 (by omega)) (by first | decide | omega) (Nat.le_of_ble_eq_true rfl) rfl (fun v h5 hq => ?_) (fun q g hq => by cases hq.1)
        obtain ⟨e1, e5⟩ := hq
        cases e1
        rw [← e5, hex]
        show Go K M_Mod_add d 60 _ [_] _ _
        refine go_iconst (pc' := 61) (v := (nI 1)) d_Mod_add_60 (by decide) rfl ?_
        refine go_icmp_neN (tgt := 88) (pc' := 64) d_Mod_add_61 (by decide) rfl (by omega) (by omega) (fun hc => ?_) (fun hc => ?_)
        · refine nx B (hB.cg fun l p hl hp => q_ifc ?_ _ _) hF
          constructor
          · rintro ⟨z1, z2, z3, z4⟩
            refine ⟨z1, ?_, z3, z4⟩
            by_cases hlk : l = k
            · subst hlk; rw [z3] at z4; exact absurd z4 hc
            · omega
          · rintro ⟨z1, z2, z3⟩; exact ⟨z1, by omega, z3⟩
        · refine go_aload_n (pc' := 65) (i := 0) d_Mod_add_64 rfl rfl (by first | rfl | exact x_r_rf _) rfl ?_
          refine go_getfield (pc' := 68) d_Mod_add_65 c_Mod 8 (by decide) t_479 (by first | assumption | exact Rh_0 _ _ _ | exact Rh_1 _ _ _ | exact Rh_2 _ _ _ | exact Rh_3 _ _ _ | exact Rh_4 _ _ _ | exact Rh_5 _ _ _ | exact Rh_6 _ _ _ | exact Rh_7 _ _ _ | exact Rh_8 _ _ _ | exact Rh_9 _ _ _ | exact Rh_10 _ _ _ | exact Rh_11 _ _ _ | exact Rh_12 _ _ _) (by rfl) rfl ?_
          refine go_sipush (pc' := 71) (v := (nI 341)) d_Mod_add_68 (by decide) rfl ?_
          refine go_iload_n (pc' := 72) (i := 1) d_Mod_add_71 rfl rfl rfl ?_
          refine go_imulN (pc' := 73) d_Mod_add_72 rfl ?_
          refine go_iload (pc' := 75) (i := 5) d_Mod_add_73 rfl rfl ?_
          refine go_iload (pc' := 77) (i := 7) d_Mod_add_75 rfl rfl ?_
          refine go_callS (pc' := 80) (M' := M_Mod_node) [_, _] d_Mod_add_77 t_558 t_559 t_4 cd_Mod_node nm_Mod_node rfl rfl (Nat.le_of_ble_eq_true rfl) rfl (m_node (d := d - 1) hqh hk5) (by first | decide | omega) (Nat.le_of_ble_eq_true rfl) rfl (fun v h6 hq => ?_) (fun q g hq => by cases hq.1)
          obtain ⟨e1, e6⟩ := hq
          cases e1
          rw [← e6, hex]
          show Go K M_Mod_add d 80 _ [.int (nI (q_bf k + q_p k key)), _, _] _ _
          refine go_iaddN (pc' := 81) d_Mod_add_80 rfl ?_
          refine go_aload_n (pc' := 82) (i := 0) d_Mod_add_81 rfl rfl (by first | rfl | exact x_r_rf _) rfl ?_
          refine go_getfield (pc' := 85) d_Mod_add_82 c_Mod 4 (by decide) t_475 (by first | assumption | exact Rh_0 _ _ _ | exact Rh_1 _ _ _ | exact Rh_2 _ _ _ | exact Rh_3 _ _ _ | exact Rh_4 _ _ _ | exact Rh_5 _ _ _ | exact Rh_6 _ _ _ | exact Rh_7 _ _ _ | exact Rh_8 _ _ _ | exact Rh_9 _ _ _ | exact Rh_10 _ _ _ | exact Rh_11 _ _ _ | exact Rh_12 _ _ _) (by rfl) rfl ?_
          refine go_iload_n (pc' := 86) (i := 1) d_Mod_add_85 rfl rfl rfl ?_
          refine go_ialdN (pc' := 87) d_Mod_add_86 (by first | assumption | exact Rh_0 _ _ _ | exact Rh_1 _ _ _ | exact Rh_2 _ _ _ | exact Rh_3 _ _ _ | exact Rh_4 _ _ _ | exact Rh_5 _ _ _ | exact Rh_6 _ _ _ | exact Rh_7 _ _ _ | exact Rh_8 _ _ _ | exact Rh_9 _ _ _ | exact Rh_10 _ _ _ | exact Rh_11 _ _ _ | exact Rh_12 _ _ _) (by rfl) (by first | assumption | omega | (simp only [x_up, x_nw]; omega)) (by first | assumption | omega | (simp only [x_up, x_nw]; omega)) rfl ?_
          rw [show r_G (ru_B ρ2 B) = r_G ρ2 from rfl, hG2]
          refine go_iastN (pc' := 88) d_Mod_add_87 (by first | assumption | exact Rh_0 _ _ _ | exact Rh_1 _ _ _ | exact Rh_2 _ _ _ | exact Rh_3 _ _ _ | exact Rh_4 _ _ _ | exact Rh_5 _ _ _ | exact Rh_6 _ _ _ | exact Rh_7 _ _ _ | exact Rh_8 _ _ _ | exact Rh_9 _ _ _ | exact Rh_10 _ _ _ | exact Rh_11 _ _ _ | exact Rh_12 _ _ _) (by rfl) (by first | assumption | omega | (simp only [x_up, x_nw]; omega)) (by first | assumption | omega | (simp only [x_up, x_nw]; omega)) rfl ?_
          rw [Rh_uB]
          show Go K M_Mod_add d 88 _ [] (Rh g m (ru_B ρ2 (va_up B (341 * i + (q_bf k + q_p k key)) (nI (s_gn σ i))))) Q
          refine nx _ ((hB.up (g := s_gn σ i) hk5 hpl).cg fun l p hl hp => ?_) (fun b hb => ?_)
          · by_cases hlk : l = k ∧ p = q_p k key
            · rw [if_pos hlk, if_pos]
              obtain ⟨rfl, rfl⟩ := hlk
              exact ⟨hk1, by omega, rfl, hc⟩
            · rw [if_neg hlk]
              refine q_ifc ?_ _ _
              constructor
              · rintro ⟨z1, z2, z3, z4⟩
                refine ⟨z1, ?_, z3, z4⟩
                by_cases hlk2 : l = k
                · subst hlk2; exact absurd ⟨rfl, z3⟩ hlk
                · omega
              · rintro ⟨z1, z2, z3⟩; exact ⟨z1, by omega, z3⟩
          · rw [va_up_ne _ _ (by omega)]
            exact hF b hb
  have eB : Rh g m ρ2 = Rh g m (ru_B ρ2 B1) := by rw [hρ2, hρ1]; rfl
  refine go_iconst (pc' := 43) (v := (nI 1)) d_Mod_add_42 (by decide) rfl ?_
  refine go_istore (pc' := 45) (i := 7) d_Mod_add_43 (by decide) (x_s7 (by first | rfl | exact x_k_rf _)) rfl ?_
  rw [eB]
  exact loop 4 1 B1 (by omega) (by omega) (hB1.cg fun l p hl hp => by rw [if_neg (by omega)]) hF1
end RF2
