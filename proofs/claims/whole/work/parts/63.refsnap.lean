/-! the reference: snapshot -/
/-- the search for the least missing, downward from N -/
def q_ls (T : Nat → Bool) (N n : Nat) (v : Int32) : Prop := (v = -1 ∧ ∀ j, n ≤ j → j < N → T j = true) ∨ ∃ j, v = nI j ∧ n ≤ j ∧ j < N ∧ T j = false ∧ ∀ k, n ≤ k → k < j → T k = true
theorem q_ls_st (T : Nat → Bool) (N : Nat) : q_ls T N N (-1) := Or.inl ⟨rfl, fun j h1 h2 => by omega⟩
theorem q_ls_t {T : Nat → Bool} {N n : Nat} {v : Int32} (h : q_ls T N (n + 1) v) (hT : T n = true) : q_ls T N n v := by
  rcases h with ⟨h1, h2⟩ | ⟨j, h1, h2, h3, h4, h5⟩
  · refine Or.inl ⟨h1, fun j hj hN => ?_⟩
    by_cases e : j = n
    · rw [e]; exact hT
    · exact h2 j (by omega) hN
  · refine Or.inr ⟨j, h1, by omega, h3, h4, fun k hk hkj => ?_⟩
    by_cases e : k = n
    · rw [e]; exact hT
    · exact h5 k (by omega) hkj
theorem q_ls_f {T : Nat → Bool} {N n : Nat} (hn : n < N) (hT : T n = false) : q_ls T N n (nI n) := Or.inr ⟨n, rfl, Nat.le_refl _, hn, hT, fun k h1 h2 => by omega⟩
theorem q_ls_0 {T : Nat → Bool} {N : Nat} {v : Int32} (h : q_ls T N 0 v) : (v = -1 ∧ (List.range N).find? (fun i => !(T i)) = none) ∨ ∃ j, v = nI j ∧ j < N ∧ T j = false ∧ (List.range N).find? (fun i => !(T i)) = some j := by
  rcases h with ⟨h1, h2⟩ | ⟨j, h1, h2, h3, h4, h5⟩
  · refine Or.inl ⟨h1, List.find?_eq_none.mpr fun x hx => ?_⟩
    rw [List.mem_range] at hx
    rw [h2 x (by omega) hx]
    decide
  · refine Or.inr ⟨j, h1, h3, h4, ?_⟩
    rw [List.find?_range_eq_some]
    refine ⟨by rw [h4]; rfl, by rw [List.mem_range]; exact h3, fun k hk => by rw [h5 k (by omega) hk]; rfl⟩
section RN2
variable {K : x_K} {d : Nat} {h g : x_H} {m i j : Nat} {ρ ρ' : Rt} {ks : List KV} {σ : Sg}
theorem Rr.snap {b : Int32} (hR : Rr σ ρ) (hi : i < 6) (hj : j < 6) (hij : i ≠ j) (hlg : s_lg σ + 2 < 2 ^ 20) (elg : r_lg ρ' = nI (s_lg σ + 2)) (eT : r_T ρ' = va_up (r_T ρ) j (nI 1)) (eR : r_R ρ' = va_up (r_R ρ) j b) (eG : r_G ρ' = va_up (va_up (r_G ρ) i (nI (s_lg σ + 1))) j (nI (s_lg σ + 2)))
    (eS : r_S ρ' = va_up (r_S ρ) j (nI (s_ks σ i).length)) (eK : ∀ a, ¬ (60 * j ≤ a ∧ a < 60 * j + 60) → r_K ρ' a = r_K ρ a ∧ r_V ρ' a = r_V ρ a) (eKV : ∀ a, a < (s_ks σ i).length → r_K ρ' (60 * j + a) = r_K ρ (60 * i + a) ∧ r_V ρ' (60 * j + a) = r_V ρ (60 * i + a))
    (eB0 : ∀ a, ¬ (341 * j ≤ a ∧ a < 341 * j + 341) → r_B ρ' a = r_B ρ a) (eB : ∀ a, a < 341 → r_B ρ' (341 * j + a) = r_B ρ (341 * i + a)) (elc : r_lc ρ' = r_lc ρ) (eU : r_U ρ' = r_U ρ) (eL : r_L ρ' = r_L ρ) (eF : r_F ρ' = r_F ρ) (eN : r_N ρ' = r_N ρ) (eW : r_W ρ' = r_W ρ) (evl : r_vl ρ' = r_vl ρ) : Rr (p_snap σ i j b) ρ' := by
  obtain ⟨a1, a2, a3, a4, a5, a6, a7, a8, a9, a10, a11, a12, a13, a14⟩ := hR
  refine ⟨elg, fun k hk => ?_, fun k hk => ?_, fun k hk => ?_, fun k hk => ?_, fun k hk => ?_, elc.trans a7, by rw [eU]; exact a8, fun c hc hu => ?_, evl.trans a10, fun k l p hk => ?_, fun k hk => ?_, hlg, fun k hk => ?_⟩
  · show r_T ρ' k = if va_up (s_th σ) j true k then 1 else 0
    rw [eT]
    by_cases e : k = j
    · rw [e, va_up_self, va_up_self]; rfl
    · rw [va_up_ne _ _ e, va_up_ne _ _ e]; exact a2 k hk
  · show r_R ρ' k = va_up (s_ro σ) j b k
    rw [eR]
    by_cases e : k = j
    · rw [e, va_up_self, va_up_self]
    · rw [va_up_ne _ _ e, va_up_ne _ _ e]; exact a3 k hk
  · show r_G ρ' k = nI (va_up (va_up (s_gn σ) i (s_lg σ + 1)) j (s_lg σ + 2) k)
    rw [eG]
    by_cases e : k = j
    · rw [e, va_up_self, va_up_self]
    · rw [va_up_ne _ _ e, va_up_ne _ _ e]
      by_cases e2 : k = i
      · rw [e2, va_up_self, va_up_self]
      · rw [va_up_ne _ _ e2, va_up_ne _ _ e2]; exact a4 k hk
  · show Ls ρ' k (va_up (s_ks σ) j (s_ks σ i) k)
    by_cases e : k = j
    · rw [e, va_up_self]
      have hL := a5 i hi
      refine ⟨by rw [eS, va_up_self], hL.2.1, fun t y hy => ?_⟩
      have ht := (List.getElem?_eq_some_iff.mp hy).1
      rw [(eKV t ht).1, (eKV t ht).2]
      exact hL.2.2 t y hy
    · rw [va_up_ne _ _ e]
      have hL := a5 k hk
      refine ⟨by rw [eS, va_up_ne _ _ e]; exact hL.1, hL.2.1, fun t y hy => ?_⟩
      have ht := (List.getElem?_eq_some_iff.mp hy).1
      have h60 := hL.2.1
      obtain ⟨z1, z2⟩ := eK (60 * k + t) (by omega)
      rw [z1, z2]
      exact hL.2.2 t y hy
  · show Bs (r_B ρ') k (va_up (s_bl σ) j (s_bl σ i) k)
    intro l p hl hp
    have hbf := q_bf_lt l hl
    by_cases e : k = j
    · rw [e, va_up_self, eB _ (by omega)]
      exact a6 i hi l p hl hp
    · rw [va_up_ne _ _ e, eB0 _ (by omega)]
      exact a6 k hk l p hl hp
  · obtain ⟨b1, b2, b3, b4, b5⟩ := a9 c hc hu
    exact ⟨by rw [eL]; exact b1, by rw [eF]; exact b2, b3, b4, by rw [eN, eW]; exact b5⟩
  · show va_up (s_bl σ) j (s_bl σ i) k l p ≤ s_lg σ + 2
    by_cases e : k = j
    · rw [e, va_up_self]; have := a11 i l p hi; omega
    · rw [va_up_ne _ _ e]; have := a11 k l p hk; omega
  · show va_up (va_up (s_gn σ) i (s_lg σ + 1)) j (s_lg σ + 2) k ≤ s_lg σ + 2
    by_cases e : k = j
    · rw [e, va_up_self]; omega
    · rw [va_up_ne _ _ e]
      by_cases e2 : k = i
      · rw [e2, va_up_self]; omega
      · rw [va_up_ne _ _ e2]; have := a12 k hk; omega
  · show Ko (va_up (s_ks σ) j (s_ks σ i) k)
    by_cases e : k = j
    · rw [e, va_up_self]; exact a14 i hi
    · rw [va_up_ne _ _ e]; exact a14 k hk
set_option maxHeartbeats 8000000 in
set_option maxRecDepth 100000 in
theorem m_snapshot (hR : Rr σ ρ) (mm b : Int32) (hb : b = 0 ∨ b = 1) (hlg2 : s_lg σ + 2 < 2 ^ 20) (hd : 8 ≤ d) : Go K M_Mod_snapshot d 0 [some (.ref m), some (.int mm), some (.int b), none, none] [] (Rh g m ρ) (Qm g m (p_Snap σ mm b) c_1 (.int (nI 0))) := by
  have hnb : vp_nar .boolean b = b := by rcases hb with rfl | rfl <;> rfl
  refine go_aload_n (pc' := 1) (i := 0) d_Mod_snapshot_0 rfl rfl (by first | rfl | exact x_r_rf _) rfl ?_
  refine go_iconst (pc' := 2) (v := (nI 0)) d_Mod_snapshot_1 (by decide) rfl ?_
  refine go_putfield (pc' := 5) d_Mod_snapshot_2 c_Mod 0 (by decide) rfl t_471 (by first | assumption | exact Rh_0 _ _ _ | exact Rh_1 _ _ _ | exact Rh_2 _ _ _ | exact Rh_3 _ _ _ | exact Rh_4 _ _ _ | exact Rh_5 _ _ _ | exact Rh_6 _ _ _ | exact Rh_7 _ _ _ | exact Rh_8 _ _ _ | exact Rh_9 _ _ _ | exact Rh_10 _ _ _ | exact Rh_11 _ _ _ | exact Rh_12 _ _ _) (by rfl) (by rfl) (by first | exact Nat.le_of_ble_eq_true rfl | simp) rfl ?_
  rw [Rh_utw]
  obtain ⟨ρ1, hρ1⟩ : ∃ ρ1, ρ1 = ru_tw ρ (nI 0) := ⟨_, rfl⟩
  rw [← hρ1]
  have hR1 : Rr σ ρ1 := by rw [hρ1]; exact hR
  have htw : r_tw ρ1 = nI 0 := by rw [hρ1]; rfl
  refine go_aload_n (pc' := 6) (i := 0) d_Mod_snapshot_5 rfl rfl (by first | rfl | exact x_r_rf _) rfl ?_
  refine go_iload_n (pc' := 7) (i := 1) d_Mod_snapshot_6 rfl rfl rfl ?_
  refine go_callV (pc' := 10) (M' := M_Mod_none) (ci := 6) (r := (n_Mod, T_Mod, 16)) [_] d_Mod_snapshot_7 t_530 t_532 sp_Mod_none cd_Mod_none nm_Mod_none rfl (by rfl) (by first | assumption | exact Rh_0 _ _ _ | exact Rh_1 _ _ _ | exact Rh_2 _ _ _ | exact Rh_3 _ _ _ | exact Rh_4 _ _ _ | exact Rh_5 _ _ _ | exact Rh_6 _ _ _ | exact Rh_7 _ _ _ | exact Rh_8 _ _ _ | exact Rh_9 _ _ _ | exact Rh_10 _ _ _ | exact Rh_11 _ _ _ | exact Rh_12 _ _ _) rfl (Nat.le_of_ble_eq_true rfl) rfl (m_none (d := d - 1) hR1.2.1 mm) (by first | decide | omega) (Nat.le_of_ble_eq_true rfl) rfl (fun v hh hq => ?_) (fun q g hq => by cases hq.1)
  obtain ⟨e1, e2⟩ := hq
  cases e1
  rw [← e2]
  show Go K M_Mod_snapshot d 10 _ [_] _ _
  cases hp : p_map σ mm with
  | none =>
    refine go_if_eq (tgt := 19) (pc' := 13) d_Mod_snapshot_10 (by decide) rfl (fun hc => ?_) (fun hc => ?_)
    · cases hc
    · refine go_aload_n (pc' := 14) (i := 0) d_Mod_snapshot_13 rfl rfl (by first | rfl | exact x_r_rf _) rfl ?_
      refine go_iconst (pc' := 15) (v := (nI 1)) d_Mod_snapshot_14 (by decide) rfl ?_
      refine go_callV (pc' := 18) (M' := M_Mod_fail) (ci := 6) (r := (n_Mod, T_Mod, 16)) [_] d_Mod_snapshot_15 t_534 t_536 sp_Mod_fail cd_Mod_fail nm_Mod_fail rfl (by rfl) (by first | assumption | exact Rh_0 _ _ _ | exact Rh_1 _ _ _ | exact Rh_2 _ _ _ | exact Rh_3 _ _ _ | exact Rh_4 _ _ _ | exact Rh_5 _ _ _ | exact Rh_6 _ _ _ | exact Rh_7 _ _ _ | exact Rh_8 _ _ _ | exact Rh_9 _ _ _ | exact Rh_10 _ _ _ | exact Rh_11 _ _ _ | exact Rh_12 _ _ _) rfl (Nat.le_of_ble_eq_true rfl) rfl (m_fail (d := d - 1) (nI 1)) (by first | decide | omega) (Nat.le_of_ble_eq_true rfl) rfl (fun v hh hq => ?_) (fun q g hq => by cases hq.1)
      obtain ⟨e1, e2⟩ := hq
      cases e1
      rw [← e2]
      show Go K M_Mod_snapshot d 18 _ [_] _ _
      refine go_ireturn d_Mod_snapshot_18 rfl (by rfl) ?_
      unfold p_Snap
      rw [hp]
      exact ⟨_, rfl, hR1, rfl, rfl⟩
  | some i =>
    obtain ⟨rfl, hi, hth⟩ := p_map_inv hp
    obtain ⟨Q, hQ⟩ : ∃ Q : x_O → x_H → Prop, Q = Qm g m (p_Snap σ (nI i) b) c_1 (.int (nI 0)) := ⟨_, rfl⟩
    rw [← hQ]
    have hT := hR1.2.1
    have hL := hR1.2.2.2.2.1 i hi
    have h60 := hL.2.1
    have fin : ∀ v x4, x_k x4 = x4 → q_ls (s_th σ) 6 0 v → Go K M_Mod_snapshot d 52 [some (.ref m), some (.int (nI i)), some (.int b), some (.int v), x4] [] (Rh g m ρ1) Q := by
      intro v x4 hx4 hv
      rcases q_ls_0 hv with ⟨rfl, hf⟩ | ⟨j, rfl, hj, hthj, hf⟩
      · refine go_iload_n (pc' := 53) (i := 3) d_Mod_snapshot_52 rfl rfl rfl ?_
        refine go_if_ge (tgt := 62) (pc' := 56) d_Mod_snapshot_53 (by decide) rfl (fun hc => ?_) (fun hc => ?_)
        · exact absurd hc (by decide)
        · refine go_aload_n (pc' := 57) (i := 0) d_Mod_snapshot_56 rfl rfl (by first | rfl | exact x_r_rf _) rfl ?_
          refine go_iconst (pc' := 58) (v := (nI 2)) d_Mod_snapshot_57 (by decide) rfl ?_
          refine go_callV (pc' := 61) (M' := M_Mod_fail) (ci := 6) (r := (n_Mod, T_Mod, 16)) [_] d_Mod_snapshot_58 t_534 t_536 sp_Mod_fail cd_Mod_fail nm_Mod_fail rfl (by rfl) (by first | assumption | exact Rh_0 _ _ _ | exact Rh_1 _ _ _ | exact Rh_2 _ _ _ | exact Rh_3 _ _ _ | exact Rh_4 _ _ _ | exact Rh_5 _ _ _ | exact Rh_6 _ _ _ | exact Rh_7 _ _ _ | exact Rh_8 _ _ _ | exact Rh_9 _ _ _ | exact Rh_10 _ _ _ | exact Rh_11 _ _ _ | exact Rh_12 _ _ _) rfl (Nat.le_of_ble_eq_true rfl) rfl (m_fail (d := d - 1) (nI 2)) (by first | decide | omega) (Nat.le_of_ble_eq_true rfl) rfl (fun v hh hq => ?_) (fun q g hq => by cases hq.1)
          obtain ⟨e1, e2⟩ := hq
          cases e1
          rw [← e2]
          show Go K M_Mod_snapshot d 61 _ [_] _ _
          refine go_ireturn d_Mod_snapshot_61 rfl (by rfl) ?_
          rw [hQ]
          unfold p_Snap
          rw [hp]
          simp only [show p_fm σ = none from hf]
          exact ⟨_, rfl, hR1, rfl, rfl⟩
      · have hij : i ≠ j := fun e => by rw [e, hthj] at hth; cases hth
        have hpp : p_Snap σ (nI i) b = (p_snap σ i j b, .inl (some (.int (nI j)))) := by
          unfold p_Snap
          rw [hp]
          simp only [show p_fm σ = some j from hf]
        refine go_iload_n (pc' := 53) (i := 3) d_Mod_snapshot_52 rfl rfl rfl ?_
        refine go_if_ge (tgt := 62) (pc' := 56) d_Mod_snapshot_53 (by decide) rfl (fun hc => ?_) (fun hc => ?_)
        · refine go_aload_n (pc' := 63) (i := 0) d_Mod_snapshot_62 rfl rfl (by first | rfl | exact x_r_rf _) rfl ?_
          refine go_getfield (pc' := 66) d_Mod_snapshot_63 c_Mod 2 (by decide) t_473 (by first | assumption | exact Rh_0 _ _ _ | exact Rh_1 _ _ _ | exact Rh_2 _ _ _ | exact Rh_3 _ _ _ | exact Rh_4 _ _ _ | exact Rh_5 _ _ _ | exact Rh_6 _ _ _ | exact Rh_7 _ _ _ | exact Rh_8 _ _ _ | exact Rh_9 _ _ _ | exact Rh_10 _ _ _ | exact Rh_11 _ _ _ | exact Rh_12 _ _ _) (by rfl) rfl ?_
          refine go_iload_n (pc' := 67) (i := 3) d_Mod_snapshot_66 rfl rfl rfl ?_
          refine go_iconst (pc' := 68) (v := (nI 1)) d_Mod_snapshot_67 (by decide) rfl ?_
          refine go_zastN (pc' := 69) d_Mod_snapshot_68 (by first | assumption | exact Rh_0 _ _ _ | exact Rh_1 _ _ _ | exact Rh_2 _ _ _ | exact Rh_3 _ _ _ | exact Rh_4 _ _ _ | exact Rh_5 _ _ _ | exact Rh_6 _ _ _ | exact Rh_7 _ _ _ | exact Rh_8 _ _ _ | exact Rh_9 _ _ _ | exact Rh_10 _ _ _ | exact Rh_11 _ _ _ | exact Rh_12 _ _ _) (by rfl) (by first | assumption | omega | (simp only [x_up, x_nw]; omega)) (by first | assumption | omega | (simp only [x_up, x_nw]; omega)) (by first | assumption | rfl | decide) rfl ?_
          rw [Rh_uT]
          refine go_aload_n (pc' := 70) (i := 0) d_Mod_snapshot_69 rfl rfl (by first | rfl | exact x_r_rf _) rfl ?_
          refine go_getfield (pc' := 73) d_Mod_snapshot_70 c_Mod 3 (by decide) t_474 (by first | assumption | exact Rh_0 _ _ _ | exact Rh_1 _ _ _ | exact Rh_2 _ _ _ | exact Rh_3 _ _ _ | exact Rh_4 _ _ _ | exact Rh_5 _ _ _ | exact Rh_6 _ _ _ | exact Rh_7 _ _ _ | exact Rh_8 _ _ _ | exact Rh_9 _ _ _ | exact Rh_10 _ _ _ | exact Rh_11 _ _ _ | exact Rh_12 _ _ _) (by rfl) rfl ?_
          refine go_iload_n (pc' := 74) (i := 3) d_Mod_snapshot_73 rfl rfl rfl ?_
          refine go_iload_n (pc' := 75) (i := 2) d_Mod_snapshot_74 rfl rfl rfl ?_
          refine go_zastN (pc' := 76) d_Mod_snapshot_75 (by first | assumption | exact Rh_0 _ _ _ | exact Rh_1 _ _ _ | exact Rh_2 _ _ _ | exact Rh_3 _ _ _ | exact Rh_4 _ _ _ | exact Rh_5 _ _ _ | exact Rh_6 _ _ _ | exact Rh_7 _ _ _ | exact Rh_8 _ _ _ | exact Rh_9 _ _ _ | exact Rh_10 _ _ _ | exact Rh_11 _ _ _ | exact Rh_12 _ _ _) (by rfl) (by first | assumption | omega | (simp only [x_up, x_nw]; omega)) (by first | assumption | omega | (simp only [x_up, x_nw]; omega)) (by first | assumption | rfl | decide) rfl ?_
          rw [Rh_uR]
          refine go_aload_n (pc' := 77) (i := 0) d_Mod_snapshot_76 rfl rfl (by first | rfl | exact x_r_rf _) rfl ?_
          refine go_getfield (pc' := 80) d_Mod_snapshot_77 c_Mod 5 (by decide) t_476 (by first | assumption | exact Rh_0 _ _ _ | exact Rh_1 _ _ _ | exact Rh_2 _ _ _ | exact Rh_3 _ _ _ | exact Rh_4 _ _ _ | exact Rh_5 _ _ _ | exact Rh_6 _ _ _ | exact Rh_7 _ _ _ | exact Rh_8 _ _ _ | exact Rh_9 _ _ _ | exact Rh_10 _ _ _ | exact Rh_11 _ _ _ | exact Rh_12 _ _ _) (by rfl) rfl ?_
          refine go_iload_n (pc' := 81) (i := 3) d_Mod_snapshot_80 rfl rfl rfl ?_
          refine go_aload_n (pc' := 82) (i := 0) d_Mod_snapshot_81 rfl rfl (by first | rfl | exact x_r_rf _) rfl ?_
          refine go_getfield (pc' := 85) d_Mod_snapshot_82 c_Mod 5 (by decide) t_476 (by first | assumption | exact Rh_0 _ _ _ | exact Rh_1 _ _ _ | exact Rh_2 _ _ _ | exact Rh_3 _ _ _ | exact Rh_4 _ _ _ | exact Rh_5 _ _ _ | exact Rh_6 _ _ _ | exact Rh_7 _ _ _ | exact Rh_8 _ _ _ | exact Rh_9 _ _ _ | exact Rh_10 _ _ _ | exact Rh_11 _ _ _ | exact Rh_12 _ _ _) (by rfl) rfl ?_
          refine go_iload_n (pc' := 86) (i := 1) d_Mod_snapshot_85 rfl rfl rfl ?_
          refine go_ialdN (pc' := 87) d_Mod_snapshot_86 (by first | assumption | exact Rh_0 _ _ _ | exact Rh_1 _ _ _ | exact Rh_2 _ _ _ | exact Rh_3 _ _ _ | exact Rh_4 _ _ _ | exact Rh_5 _ _ _ | exact Rh_6 _ _ _ | exact Rh_7 _ _ _ | exact Rh_8 _ _ _ | exact Rh_9 _ _ _ | exact Rh_10 _ _ _ | exact Rh_11 _ _ _ | exact Rh_12 _ _ _) (by rfl) (by first | assumption | omega | (simp only [x_up, x_nw]; omega)) (by first | assumption | omega | (simp only [x_up, x_nw]; omega)) rfl ?_
          rw [show r_S (ru_R (ru_T ρ1 (va_up (r_T ρ1) j (nI 1))) (va_up (r_R (ru_T ρ1 (va_up (r_T ρ1) j (nI 1)))) j b)) i = nI (s_ks σ i).length from hL.1]
          refine go_iastN (pc' := 88) d_Mod_snapshot_87 (by first | assumption | exact Rh_0 _ _ _ | exact Rh_1 _ _ _ | exact Rh_2 _ _ _ | exact Rh_3 _ _ _ | exact Rh_4 _ _ _ | exact Rh_5 _ _ _ | exact Rh_6 _ _ _ | exact Rh_7 _ _ _ | exact Rh_8 _ _ _ | exact Rh_9 _ _ _ | exact Rh_10 _ _ _ | exact Rh_11 _ _ _ | exact Rh_12 _ _ _) (by rfl) (by first | assumption | omega | (simp only [x_up, x_nw]; omega)) (by first | assumption | omega | (simp only [x_up, x_nw]; omega)) rfl ?_
          rw [Rh_uS]
          obtain ⟨ρ2, hρ2⟩ : ∃ ρ2, ρ2 = ru_S (ru_R (ru_T ρ1 (va_up (r_T ρ1) j (nI 1))) (va_up (r_R ρ1) j b)) (va_up (r_S ρ1) j (nI (s_ks σ i).length)) := ⟨_, rfl⟩
          show Go K M_Mod_snapshot d 88 _ [] (Rh g m (ru_S (ru_R (ru_T ρ1 (va_up (r_T ρ1) j (nI 1))) (va_up (r_R ρ1) j b)) (va_up (r_S ρ1) j (nI (s_ks σ i).length)))) Q
          rw [← hρ2]
          have hK2 : r_K ρ2 = r_K ρ1 := by rw [hρ2]; rfl
          have hV2 : r_V ρ2 = r_V ρ1 := by rw [hρ2]; rfl
          have hB2 : r_B ρ2 = r_B ρ1 := by rw [hρ2]; rfl
          have hlg2' : r_lg ρ2 = nI (s_lg σ) := by rw [hρ2]; exact hR1.1
          have hS2 : r_S ρ2 j = nI (s_ks σ i).length := by
            rw [hρ2]
            show va_up (r_S ρ1) j (nI (s_ks σ i).length) j = _
            rw [va_up_self]
          have last : ∀ K' V' B' x4, x_k x4 = x4 → (∀ a, ¬ (60 * j ≤ a ∧ a < 60 * j + 60) → K' a = r_K ρ1 a ∧ V' a = r_V ρ1 a) → (∀ a, a < (s_ks σ i).length → K' (60 * j + a) = r_K ρ1 (60 * i + a) ∧ V' (60 * j + a) = r_V ρ1 (60 * i + a)) →
              (∀ a, ¬ (341 * j ≤ a ∧ a < 341 * j + 341) → B' a = r_B ρ1 a) → (∀ a, a < 341 → B' (341 * j + a) = r_B ρ1 (341 * i + a)) →
              Go K M_Mod_snapshot d 199 [some (.ref m), some (.int (nI i)), some (.int b), some (.int (nI j)), x4] [] (Rh g m (ru_B (ru_V (ru_K ρ2 K') V') B')) Q := by
            intro K' V' B' x4 hx4 k1 k2 k3 k4
            obtain ⟨ρ3, hρ3⟩ : ∃ ρ3, ρ3 = ru_B (ru_V (ru_K ρ2 K') V') B' := ⟨_, rfl⟩
            rw [← hρ3]
            have hlg3 : r_lg ρ3 = nI (s_lg σ) := by rw [hρ3]; exact hlg2'
            refine go_aload_n (pc' := 200) (i := 0) d_Mod_snapshot_199 rfl rfl (by first | rfl | exact x_r_rf _) rfl ?_
            refine go_getfield (pc' := 203) d_Mod_snapshot_200 c_Mod 4 (by decide) t_475 (by first | assumption | exact Rh_0 _ _ _ | exact Rh_1 _ _ _ | exact Rh_2 _ _ _ | exact Rh_3 _ _ _ | exact Rh_4 _ _ _ | exact Rh_5 _ _ _ | exact Rh_6 _ _ _ | exact Rh_7 _ _ _ | exact Rh_8 _ _ _ | exact Rh_9 _ _ _ | exact Rh_10 _ _ _ | exact Rh_11 _ _ _ | exact Rh_12 _ _ _) (by rfl) rfl ?_
            refine go_iload_n (pc' := 204) (i := 1) d_Mod_snapshot_203 rfl rfl rfl ?_
            refine go_aload_n (pc' := 205) (i := 0) d_Mod_snapshot_204 rfl rfl (by first | rfl | exact x_r_rf _) rfl ?_
            refine go_callV (pc' := 208) (M' := M_Mod_fresh) (ci := 6) (r := (n_Mod, T_Mod, 16)) [] d_Mod_snapshot_205 t_581 t_583 sp_Mod_fresh cd_Mod_fresh nm_Mod_fresh rfl (by rfl) (by first | assumption | exact Rh_0 _ _ _ | exact Rh_1 _ _ _ | exact Rh_2 _ _ _ | exact Rh_3 _ _ _ | exact Rh_4 _ _ _ | exact Rh_5 _ _ _ | exact Rh_6 _ _ _ | exact Rh_7 _ _ _ | exact Rh_8 _ _ _ | exact Rh_9 _ _ _ | exact Rh_10 _ _ _ | exact Rh_11 _ _ _ | exact Rh_12 _ _ _) rfl (Nat.le_of_ble_eq_true rfl) rfl (m_fresh (d := d - 1)) (by first | decide | omega) (Nat.le_of_ble_eq_true rfl) rfl (fun v hh hq => ?_) (fun q g hq => by cases hq.1)
            obtain ⟨e1, e2⟩ := hq
            cases e1
            rw [← e2]
            show Go K M_Mod_snapshot d 208 _ [.int (r_lg ρ3 + nI 1), _, _] _ _
            rw [hlg3, nI_add]
            refine go_iastN (pc' := 209) d_Mod_snapshot_208 (by first | assumption | exact Rh_0 _ _ _ | exact Rh_1 _ _ _ | exact Rh_2 _ _ _ | exact Rh_3 _ _ _ | exact Rh_4 _ _ _ | exact Rh_5 _ _ _ | exact Rh_6 _ _ _ | exact Rh_7 _ _ _ | exact Rh_8 _ _ _ | exact Rh_9 _ _ _ | exact Rh_10 _ _ _ | exact Rh_11 _ _ _ | exact Rh_12 _ _ _) (by rfl) (by first | assumption | omega | (simp only [x_up, x_nw]; omega)) (by first | assumption | omega | (simp only [x_up, x_nw]; omega)) rfl ?_
            rw [Rh_uG]
            obtain ⟨ρ4, hρ4⟩ : ∃ ρ4, ρ4 = ru_G (ru_lg ρ3 (nI (s_lg σ + 1))) (va_up (r_G ρ3) i (nI (s_lg σ + 1))) := ⟨_, rfl⟩
            show Go K M_Mod_snapshot d 209 _ [] (Rh g m (ru_G (ru_lg ρ3 (nI (s_lg σ + 1))) (va_up (r_G ρ3) i (nI (s_lg σ + 1))))) Q
            rw [← hρ4]
            have hlg4 : r_lg ρ4 = nI (s_lg σ + 1) := by rw [hρ4]; rfl
            refine go_aload_n (pc' := 210) (i := 0) d_Mod_snapshot_209 rfl rfl (by first | rfl | exact x_r_rf _) rfl ?_
            refine go_getfield (pc' := 213) d_Mod_snapshot_210 c_Mod 4 (by decide) t_475 (by first | assumption | exact Rh_0 _ _ _ | exact Rh_1 _ _ _ | exact Rh_2 _ _ _ | exact Rh_3 _ _ _ | exact Rh_4 _ _ _ | exact Rh_5 _ _ _ | exact Rh_6 _ _ _ | exact Rh_7 _ _ _ | exact Rh_8 _ _ _ | exact Rh_9 _ _ _ | exact Rh_10 _ _ _ | exact Rh_11 _ _ _ | exact Rh_12 _ _ _) (by rfl) rfl ?_
            refine go_iload_n (pc' := 214) (i := 3) d_Mod_snapshot_213 rfl rfl rfl ?_
            refine go_aload_n (pc' := 215) (i := 0) d_Mod_snapshot_214 rfl rfl (by first | rfl | exact x_r_rf _) rfl ?_
            refine go_callV (pc' := 218) (M' := M_Mod_fresh) (ci := 6) (r := (n_Mod, T_Mod, 16)) [] d_Mod_snapshot_215 t_581 t_583 sp_Mod_fresh cd_Mod_fresh nm_Mod_fresh rfl (by rfl) (by first | assumption | exact Rh_0 _ _ _ | exact Rh_1 _ _ _ | exact Rh_2 _ _ _ | exact Rh_3 _ _ _ | exact Rh_4 _ _ _ | exact Rh_5 _ _ _ | exact Rh_6 _ _ _ | exact Rh_7 _ _ _ | exact Rh_8 _ _ _ | exact Rh_9 _ _ _ | exact Rh_10 _ _ _ | exact Rh_11 _ _ _ | exact Rh_12 _ _ _) rfl (Nat.le_of_ble_eq_true rfl) rfl (m_fresh (d := d - 1)) (by first | decide | omega) (Nat.le_of_ble_eq_true rfl) rfl (fun v h9 hq => ?_) (fun q g hq => by cases hq.1)
            obtain ⟨e1, e9⟩ := hq
            cases e1
            rw [← e9]
            show Go K M_Mod_snapshot d 218 _ [.int (r_lg ρ4 + nI 1), _, _] _ _
            rw [hlg4, nI_add]
            refine go_iastN (pc' := 219) d_Mod_snapshot_218 (by first | assumption | exact Rh_0 _ _ _ | exact Rh_1 _ _ _ | exact Rh_2 _ _ _ | exact Rh_3 _ _ _ | exact Rh_4 _ _ _ | exact Rh_5 _ _ _ | exact Rh_6 _ _ _ | exact Rh_7 _ _ _ | exact Rh_8 _ _ _ | exact Rh_9 _ _ _ | exact Rh_10 _ _ _ | exact Rh_11 _ _ _ | exact Rh_12 _ _ _) (by rfl) (by first | assumption | omega | (simp only [x_up, x_nw]; omega)) (by first | assumption | omega | (simp only [x_up, x_nw]; omega)) rfl ?_
            rw [Rh_uG]
            refine go_iload_n (pc' := 220) (i := 3) d_Mod_snapshot_219 rfl rfl rfl ?_
            refine go_ireturn d_Mod_snapshot_220 rfl (by rfl) ?_
            rw [hQ, hpp]
            refine ⟨_, rfl, ?_, ?_, rfl⟩
            · refine Rr.snap hR1 hi hj hij hlg2 rfl (by rw [hρ4, hρ3, hρ2]; rfl) (by rw [hρ4, hρ3, hρ2]; rfl) (by rw [hρ4, hρ3, hρ2]; rfl) (by rw [hρ4, hρ3, hρ2]; rfl) ?_ ?_ ?_ ?_ (by rw [hρ4, hρ3, hρ2]; rfl) (by rw [hρ4, hρ3, hρ2]; rfl) (by rw [hρ4, hρ3, hρ2]; rfl) (by rw [hρ4, hρ3, hρ2]; rfl) (by rw [hρ4, hρ3, hρ2]; rfl) (by rw [hρ4, hρ3, hρ2]; rfl) (by rw [hρ4, hρ3, hρ2]; rfl)
              · rw [hρ4, hρ3]; exact k1
              · rw [hρ4, hρ3]; exact k2
              · rw [hρ4, hρ3]; exact k3
              · rw [hρ4, hρ3]; exact k4
            · rw [hρ4, hρ3, hρ2]; exact htw
          have loopB : ∀ r k K' V' B', k + r = 341 → (∀ a, ¬ (60 * j ≤ a ∧ a < 60 * j + 60) → K' a = r_K ρ1 a ∧ V' a = r_V ρ1 a) → (∀ a, a < (s_ks σ i).length → K' (60 * j + a) = r_K ρ1 (60 * i + a) ∧ V' (60 * j + a) = r_V ρ1 (60 * i + a)) →
              (∀ a, ¬ (341 * j ≤ a ∧ a < 341 * j + 341) → B' a = r_B ρ1 a) → (∀ a, a < k → B' (341 * j + a) = r_B ρ1 (341 * i + a)) →
              Go K M_Mod_snapshot d 159 [some (.ref m), some (.int (nI i)), some (.int b), some (.int (nI j)), some (.int (nI k))] [] (Rh g m (ru_B (ru_V (ru_K ρ2 K') V') B')) Q := by
            intro r
            induction r with
            | zero =>
              intro k K' V' B' hk k1 k2 k3 k4
              have : k = 341 := by omega
              subst this
              refine go_iload (pc' := 161) (i := 4) d_Mod_snapshot_159 rfl rfl ?_
              refine go_sipush (pc' := 164) (v := (nI 341)) d_Mod_snapshot_161 (by decide) rfl ?_
              refine go_icmp_geN (tgt := 199) (pc' := 167) d_Mod_snapshot_164 (by decide) rfl (by omega) (by omega) (fun hc => ?_) (fun hc => ?_)
              · exact last K' V' B' _ rfl k1 k2 k3 k4
              · omega
            | succ r ih =>
              intro k K' V' B' hk k1 k2 k3 k4
              refine go_iload (pc' := 161) (i := 4) d_Mod_snapshot_159 rfl rfl ?_
              refine go_sipush (pc' := 164) (v := (nI 341)) d_Mod_snapshot_161 (by decide) rfl ?_
              refine go_icmp_geN (tgt := 199) (pc' := 167) d_Mod_snapshot_164 (by decide) rfl (by omega) (by omega) (fun hc => ?_) (fun hc => ?_)
              · omega
              · refine go_aload_n (pc' := 168) (i := 0) d_Mod_snapshot_167 rfl rfl (by first | rfl | exact x_r_rf _) rfl ?_
                refine go_getfield (pc' := 171) d_Mod_snapshot_168 c_Mod 8 (by decide) t_479 (by first | assumption | exact Rh_0 _ _ _ | exact Rh_1 _ _ _ | exact Rh_2 _ _ _ | exact Rh_3 _ _ _ | exact Rh_4 _ _ _ | exact Rh_5 _ _ _ | exact Rh_6 _ _ _ | exact Rh_7 _ _ _ | exact Rh_8 _ _ _ | exact Rh_9 _ _ _ | exact Rh_10 _ _ _ | exact Rh_11 _ _ _ | exact Rh_12 _ _ _) (by rfl) rfl ?_
                refine go_sipush (pc' := 174) (v := (nI 341)) d_Mod_snapshot_171 (by decide) rfl ?_
                refine go_iload_n (pc' := 175) (i := 3) d_Mod_snapshot_174 rfl rfl rfl ?_
                refine go_imulN (pc' := 176) d_Mod_snapshot_175 rfl ?_
                refine go_iload (pc' := 178) (i := 4) d_Mod_snapshot_176 rfl rfl ?_
                refine go_iaddN (pc' := 179) d_Mod_snapshot_178 rfl ?_
                refine go_aload_n (pc' := 180) (i := 0) d_Mod_snapshot_179 rfl rfl (by first | rfl | exact x_r_rf _) rfl ?_
                refine go_getfield (pc' := 183) d_Mod_snapshot_180 c_Mod 8 (by decide) t_479 (by first | assumption | exact Rh_0 _ _ _ | exact Rh_1 _ _ _ | exact Rh_2 _ _ _ | exact Rh_3 _ _ _ | exact Rh_4 _ _ _ | exact Rh_5 _ _ _ | exact Rh_6 _ _ _ | exact Rh_7 _ _ _ | exact Rh_8 _ _ _ | exact Rh_9 _ _ _ | exact Rh_10 _ _ _ | exact Rh_11 _ _ _ | exact Rh_12 _ _ _) (by rfl) rfl ?_
                refine go_sipush (pc' := 186) (v := (nI 341)) d_Mod_snapshot_183 (by decide) rfl ?_
                refine go_iload_n (pc' := 187) (i := 1) d_Mod_snapshot_186 rfl rfl rfl ?_
                refine go_imulN (pc' := 188) d_Mod_snapshot_187 rfl ?_
                refine go_iload (pc' := 190) (i := 4) d_Mod_snapshot_188 rfl rfl ?_
                refine go_iaddN (pc' := 191) d_Mod_snapshot_190 rfl ?_
                refine go_ialdN (pc' := 192) d_Mod_snapshot_191 (by first | assumption | exact Rh_0 _ _ _ | exact Rh_1 _ _ _ | exact Rh_2 _ _ _ | exact Rh_3 _ _ _ | exact Rh_4 _ _ _ | exact Rh_5 _ _ _ | exact Rh_6 _ _ _ | exact Rh_7 _ _ _ | exact Rh_8 _ _ _ | exact Rh_9 _ _ _ | exact Rh_10 _ _ _ | exact Rh_11 _ _ _ | exact Rh_12 _ _ _) (by rfl) (by first | assumption | omega | (simp only [x_up, x_nw]; omega)) (by first | assumption | omega | (simp only [x_up, x_nw]; omega)) rfl ?_
                rw [show r_B (ru_B (ru_V (ru_K ρ2 K') V') B') (341 * i + k) = r_B ρ1 (341 * i + k) from k3 _ (by omega)]
                refine go_iastN (pc' := 193) d_Mod_snapshot_192 (by first | assumption | exact Rh_0 _ _ _ | exact Rh_1 _ _ _ | exact Rh_2 _ _ _ | exact Rh_3 _ _ _ | exact Rh_4 _ _ _ | exact Rh_5 _ _ _ | exact Rh_6 _ _ _ | exact Rh_7 _ _ _ | exact Rh_8 _ _ _ | exact Rh_9 _ _ _ | exact Rh_10 _ _ _ | exact Rh_11 _ _ _ | exact Rh_12 _ _ _) (by rfl) (by first | assumption | omega | (simp only [x_up, x_nw]; omega)) (by first | assumption | omega | (simp only [x_up, x_nw]; omega)) rfl ?_
                rw [Rh_uB]
                refine go_iinc (pc' := 196) (i := 4) d_Mod_snapshot_193 rfl (x_i1 _) (by decide) (x_s4 (by first | rfl | exact x_k_rf _)) rfl ?_
                refine go_goto (tgt := 159) d_Mod_snapshot_196 (by decide) ?_
                refine ih (k + 1) K' V' (va_up B' (341 * j + k) (r_B ρ1 (341 * i + k))) (by omega) k1 k2 (fun a ha => ?_) (fun a ha => ?_)
                · rw [va_up_ne _ _ (by omega)]
                  exact k3 a ha
                · by_cases e : a = k
                  · rw [e, va_up_self]
                  · rw [va_up_ne _ _ (by omega)]
                    exact k4 a (by omega)
          have loopK : ∀ r k K' V', k + r = (s_ks σ i).length → (∀ a, ¬ (60 * j ≤ a ∧ a < 60 * j + 60) → K' a = r_K ρ1 a ∧ V' a = r_V ρ1 a) → (∀ a, a < k → K' (60 * j + a) = r_K ρ1 (60 * i + a) ∧ V' (60 * j + a) = r_V ρ1 (60 * i + a)) →
              Go K M_Mod_snapshot d 91 [some (.ref m), some (.int (nI i)), some (.int b), some (.int (nI j)), some (.int (nI k))] [] (Rh g m (ru_V (ru_K ρ2 K') V')) Q := by
            intro r
            induction r with
            | zero =>
              intro k K' V' hk k1 k2
              refine go_iload (pc' := 93) (i := 4) d_Mod_snapshot_91 rfl rfl ?_
              refine go_aload_n (pc' := 94) (i := 0) d_Mod_snapshot_93 rfl rfl (by first | rfl | exact x_r_rf _) rfl ?_
              refine go_getfield (pc' := 97) d_Mod_snapshot_94 c_Mod 5 (by decide) t_476 (by first | assumption | exact Rh_0 _ _ _ | exact Rh_1 _ _ _ | exact Rh_2 _ _ _ | exact Rh_3 _ _ _ | exact Rh_4 _ _ _ | exact Rh_5 _ _ _ | exact Rh_6 _ _ _ | exact Rh_7 _ _ _ | exact Rh_8 _ _ _ | exact Rh_9 _ _ _ | exact Rh_10 _ _ _ | exact Rh_11 _ _ _ | exact Rh_12 _ _ _) (by rfl) rfl ?_
              refine go_iload_n (pc' := 98) (i := 3) d_Mod_snapshot_97 rfl rfl rfl ?_
              refine go_ialdN (pc' := 99) d_Mod_snapshot_98 (by first | assumption | exact Rh_0 _ _ _ | exact Rh_1 _ _ _ | exact Rh_2 _ _ _ | exact Rh_3 _ _ _ | exact Rh_4 _ _ _ | exact Rh_5 _ _ _ | exact Rh_6 _ _ _ | exact Rh_7 _ _ _ | exact Rh_8 _ _ _ | exact Rh_9 _ _ _ | exact Rh_10 _ _ _ | exact Rh_11 _ _ _ | exact Rh_12 _ _ _) (by rfl) (by first | assumption | omega | (simp only [x_up, x_nw]; omega)) (by first | assumption | omega | (simp only [x_up, x_nw]; omega)) rfl ?_
              rw [show r_S (ru_V (ru_K ρ2 K') V') j = nI (s_ks σ i).length from hS2]
              refine go_icmp_geN (tgt := 156) (pc' := 102) d_Mod_snapshot_99 (by decide) rfl (by omega) (by omega) (fun hc => ?_) (fun hc => ?_)
              · refine go_iconst (pc' := 157) (v := (nI 0)) d_Mod_snapshot_156 (by decide) rfl ?_
                refine go_istore (pc' := 159) (i := 4) d_Mod_snapshot_157 (by decide) (x_s4 (by first | rfl | exact x_k_rf _)) rfl ?_
                have := loopB 341 0 K' V' (r_B ρ1) (by omega) k1 (fun a ha => k2 a (by omega)) (fun a ha => rfl) (fun a ha => by omega)
                rw [← hB2] at this
                exact this
              · omega
            | succ r ih =>
              intro k K' V' hk k1 k2
              refine go_iload (pc' := 93) (i := 4) d_Mod_snapshot_91 rfl rfl ?_
              refine go_aload_n (pc' := 94) (i := 0) d_Mod_snapshot_93 rfl rfl (by first | rfl | exact x_r_rf _) rfl ?_
              refine go_getfield (pc' := 97) d_Mod_snapshot_94 c_Mod 5 (by decide) t_476 (by first | assumption | exact Rh_0 _ _ _ | exact Rh_1 _ _ _ | exact Rh_2 _ _ _ | exact Rh_3 _ _ _ | exact Rh_4 _ _ _ | exact Rh_5 _ _ _ | exact Rh_6 _ _ _ | exact Rh_7 _ _ _ | exact Rh_8 _ _ _ | exact Rh_9 _ _ _ | exact Rh_10 _ _ _ | exact Rh_11 _ _ _ | exact Rh_12 _ _ _) (by rfl) rfl ?_
              refine go_iload_n (pc' := 98) (i := 3) d_Mod_snapshot_97 rfl rfl rfl ?_
              refine go_ialdN (pc' := 99) d_Mod_snapshot_98 (by first | assumption | exact Rh_0 _ _ _ | exact Rh_1 _ _ _ | exact Rh_2 _ _ _ | exact Rh_3 _ _ _ | exact Rh_4 _ _ _ | exact Rh_5 _ _ _ | exact Rh_6 _ _ _ | exact Rh_7 _ _ _ | exact Rh_8 _ _ _ | exact Rh_9 _ _ _ | exact Rh_10 _ _ _ | exact Rh_11 _ _ _ | exact Rh_12 _ _ _) (by rfl) (by first | assumption | omega | (simp only [x_up, x_nw]; omega)) (by first | assumption | omega | (simp only [x_up, x_nw]; omega)) rfl ?_
              rw [show r_S (ru_V (ru_K ρ2 K') V') j = nI (s_ks σ i).length from hS2]
              refine go_icmp_geN (tgt := 156) (pc' := 102) d_Mod_snapshot_99 (by decide) rfl (by omega) (by omega) (fun hc => ?_) (fun hc => ?_)
              · omega
              · refine go_aload_n (pc' := 103) (i := 0) d_Mod_snapshot_102 rfl rfl (by first | rfl | exact x_r_rf _) rfl ?_
                refine go_getfield (pc' := 106) d_Mod_snapshot_103 c_Mod 6 (by decide) t_477 (by first | assumption | exact Rh_0 _ _ _ | exact Rh_1 _ _ _ | exact Rh_2 _ _ _ | exact Rh_3 _ _ _ | exact Rh_4 _ _ _ | exact Rh_5 _ _ _ | exact Rh_6 _ _ _ | exact Rh_7 _ _ _ | exact Rh_8 _ _ _ | exact Rh_9 _ _ _ | exact Rh_10 _ _ _ | exact Rh_11 _ _ _ | exact Rh_12 _ _ _) (by rfl) rfl ?_
                refine go_bipush (pc' := 108) (v := (nI 60)) d_Mod_snapshot_106 (by decide) rfl ?_
                refine go_iload_n (pc' := 109) (i := 3) d_Mod_snapshot_108 rfl rfl rfl ?_
                refine go_imulN (pc' := 110) d_Mod_snapshot_109 rfl ?_
                refine go_iload (pc' := 112) (i := 4) d_Mod_snapshot_110 rfl rfl ?_
                refine go_iaddN (pc' := 113) d_Mod_snapshot_112 rfl ?_
                refine go_aload_n (pc' := 114) (i := 0) d_Mod_snapshot_113 rfl rfl (by first | rfl | exact x_r_rf _) rfl ?_
                refine go_getfield (pc' := 117) d_Mod_snapshot_114 c_Mod 6 (by decide) t_477 (by first | assumption | exact Rh_0 _ _ _ | exact Rh_1 _ _ _ | exact Rh_2 _ _ _ | exact Rh_3 _ _ _ | exact Rh_4 _ _ _ | exact Rh_5 _ _ _ | exact Rh_6 _ _ _ | exact Rh_7 _ _ _ | exact Rh_8 _ _ _ | exact Rh_9 _ _ _ | exact Rh_10 _ _ _ | exact Rh_11 _ _ _ | exact Rh_12 _ _ _) (by rfl) rfl ?_
                refine go_bipush (pc' := 119) (v := (nI 60)) d_Mod_snapshot_117 (by decide) rfl ?_
                refine go_iload_n (pc' := 120) (i := 1) d_Mod_snapshot_119 rfl rfl rfl ?_
                refine go_imulN (pc' := 121) d_Mod_snapshot_120 rfl ?_
                refine go_iload (pc' := 123) (i := 4) d_Mod_snapshot_121 rfl rfl ?_
                refine go_iaddN (pc' := 124) d_Mod_snapshot_123 rfl ?_
                refine go_ialdN (pc' := 125) d_Mod_snapshot_124 (by first | assumption | exact Rh_0 _ _ _ | exact Rh_1 _ _ _ | exact Rh_2 _ _ _ | exact Rh_3 _ _ _ | exact Rh_4 _ _ _ | exact Rh_5 _ _ _ | exact Rh_6 _ _ _ | exact Rh_7 _ _ _ | exact Rh_8 _ _ _ | exact Rh_9 _ _ _ | exact Rh_10 _ _ _ | exact Rh_11 _ _ _ | exact Rh_12 _ _ _) (by rfl) (by first | assumption | omega | (simp only [x_up, x_nw]; omega)) (by first | assumption | omega | (simp only [x_up, x_nw]; omega)) rfl ?_
                rw [show r_K (ru_V (ru_K ρ2 K') V') (60 * i + k) = r_K ρ1 (60 * i + k) from (k1 _ (by omega)).1]
                refine go_iastN (pc' := 126) d_Mod_snapshot_125 (by first | assumption | exact Rh_0 _ _ _ | exact Rh_1 _ _ _ | exact Rh_2 _ _ _ | exact Rh_3 _ _ _ | exact Rh_4 _ _ _ | exact Rh_5 _ _ _ | exact Rh_6 _ _ _ | exact Rh_7 _ _ _ | exact Rh_8 _ _ _ | exact Rh_9 _ _ _ | exact Rh_10 _ _ _ | exact Rh_11 _ _ _ | exact Rh_12 _ _ _) (by rfl) (by first | assumption | omega | (simp only [x_up, x_nw]; omega)) (by first | assumption | omega | (simp only [x_up, x_nw]; omega)) rfl ?_
                rw [Rh_uK]
                refine go_aload_n (pc' := 127) (i := 0) d_Mod_snapshot_126 rfl rfl (by first | rfl | exact x_r_rf _) rfl ?_
                refine go_getfield (pc' := 130) d_Mod_snapshot_127 c_Mod 7 (by decide) t_478 (by first | assumption | exact Rh_0 _ _ _ | exact Rh_1 _ _ _ | exact Rh_2 _ _ _ | exact Rh_3 _ _ _ | exact Rh_4 _ _ _ | exact Rh_5 _ _ _ | exact Rh_6 _ _ _ | exact Rh_7 _ _ _ | exact Rh_8 _ _ _ | exact Rh_9 _ _ _ | exact Rh_10 _ _ _ | exact Rh_11 _ _ _ | exact Rh_12 _ _ _) (by rfl) rfl ?_
                refine go_bipush (pc' := 132) (v := (nI 60)) d_Mod_snapshot_130 (by decide) rfl ?_
                refine go_iload_n (pc' := 133) (i := 3) d_Mod_snapshot_132 rfl rfl rfl ?_
                refine go_imulN (pc' := 134) d_Mod_snapshot_133 rfl ?_
                refine go_iload (pc' := 136) (i := 4) d_Mod_snapshot_134 rfl rfl ?_
                refine go_iaddN (pc' := 137) d_Mod_snapshot_136 rfl ?_
                refine go_aload_n (pc' := 138) (i := 0) d_Mod_snapshot_137 rfl rfl (by first | rfl | exact x_r_rf _) rfl ?_
                refine go_getfield (pc' := 141) d_Mod_snapshot_138 c_Mod 7 (by decide) t_478 (by first | assumption | exact Rh_0 _ _ _ | exact Rh_1 _ _ _ | exact Rh_2 _ _ _ | exact Rh_3 _ _ _ | exact Rh_4 _ _ _ | exact Rh_5 _ _ _ | exact Rh_6 _ _ _ | exact Rh_7 _ _ _ | exact Rh_8 _ _ _ | exact Rh_9 _ _ _ | exact Rh_10 _ _ _ | exact Rh_11 _ _ _ | exact Rh_12 _ _ _) (by rfl) rfl ?_
                refine go_bipush (pc' := 143) (v := (nI 60)) d_Mod_snapshot_141 (by decide) rfl ?_
                refine go_iload_n (pc' := 144) (i := 1) d_Mod_snapshot_143 rfl rfl rfl ?_
                refine go_imulN (pc' := 145) d_Mod_snapshot_144 rfl ?_
                refine go_iload (pc' := 147) (i := 4) d_Mod_snapshot_145 rfl rfl ?_
                refine go_iaddN (pc' := 148) d_Mod_snapshot_147 rfl ?_
                refine go_laldN (pc' := 149) d_Mod_snapshot_148 (by first | assumption | exact Rh_0 _ _ _ | exact Rh_1 _ _ _ | exact Rh_2 _ _ _ | exact Rh_3 _ _ _ | exact Rh_4 _ _ _ | exact Rh_5 _ _ _ | exact Rh_6 _ _ _ | exact Rh_7 _ _ _ | exact Rh_8 _ _ _ | exact Rh_9 _ _ _ | exact Rh_10 _ _ _ | exact Rh_11 _ _ _ | exact Rh_12 _ _ _) (by rfl) (by first | assumption | omega | (simp only [x_up, x_nw]; omega)) (by first | assumption | omega | (simp only [x_up, x_nw]; omega)) rfl ?_
                rw [show r_V (ru_K (ru_V (ru_K ρ2 K') V') (va_up (r_K (ru_V (ru_K ρ2 K') V')) (60 * j + k) (r_K ρ1 (60 * i + k)))) (60 * i + k) = r_V ρ1 (60 * i + k) from (k1 _ (by omega)).2]
                refine go_lastN (pc' := 150) d_Mod_snapshot_149 (by first | assumption | exact Rh_0 _ _ _ | exact Rh_1 _ _ _ | exact Rh_2 _ _ _ | exact Rh_3 _ _ _ | exact Rh_4 _ _ _ | exact Rh_5 _ _ _ | exact Rh_6 _ _ _ | exact Rh_7 _ _ _ | exact Rh_8 _ _ _ | exact Rh_9 _ _ _ | exact Rh_10 _ _ _ | exact Rh_11 _ _ _ | exact Rh_12 _ _ _) (by rfl) (by first | assumption | omega | (simp only [x_up, x_nw]; omega)) (by first | assumption | omega | (simp only [x_up, x_nw]; omega)) rfl ?_
                rw [Rh_uV]
                refine go_iinc (pc' := 153) (i := 4) d_Mod_snapshot_150 rfl (x_i1 _) (by decide) (x_s4 (by first | rfl | exact x_k_rf _)) rfl ?_
                refine go_goto (tgt := 91) d_Mod_snapshot_153 (by decide) ?_
                refine ih (k + 1) (va_up K' (60 * j + k) (r_K ρ1 (60 * i + k))) (va_up V' (60 * j + k) (r_V ρ1 (60 * i + k))) (by omega) (fun a ha => ?_) (fun a ha => ?_)
                · rw [va_up_ne _ _ (by omega), va_up_ne _ _ (by omega)]
                  exact k1 a ha
                · by_cases e : a = k
                  · rw [e, va_up_self, va_up_self]
                    exact ⟨rfl, rfl⟩
                  · rw [va_up_ne _ _ (by omega), va_up_ne _ _ (by omega)]
                    exact k2 a (by omega)
          refine go_iconst (pc' := 89) (v := (nI 0)) d_Mod_snapshot_88 (by decide) rfl ?_
          refine go_istore (pc' := 91) (i := 4) d_Mod_snapshot_89 (by decide) (x_s4 (by first | rfl | exact x_k_rf _)) rfl ?_
          have := loopK (s_ks σ i).length 0 (r_K ρ1) (r_V ρ1) (by omega) (fun a ha => ⟨rfl, rfl⟩) (fun a ha => by omega)
          rw [← hK2, ← hV2] at this
          exact this
        · exact absurd (show (0 : Int32) ≤ nI j from by rw [show (0 : Int32) = nI 0 from rfl, nI_leI (by omega) (by omega)]; omega) hc
    have loop : ∀ n v, n ≤ 6 → q_ls (s_th σ) 6 n v → Go K M_Mod_snapshot d 24 [some (.ref m), some (.int (nI i)), some (.int b), some (.int v), some (.int (nI n + Int32.ofInt (-1)))] [] (Rh g m ρ1) Q := by
      intro n
      induction n with
      | zero =>
        intro v _ hv
        refine go_iload (pc' := 26) (i := 4) d_Mod_snapshot_24 rfl rfl ?_
        refine go_if_lt (tgt := 52) (pc' := 29) d_Mod_snapshot_26 (by decide) rfl (fun hc => ?_) (fun hc => ?_)
        · exact fin v _ rfl hv
        · exact absurd (by decide) hc
      | succ n ih =>
        intro v hn hv
        rw [x_im (show 1 ≤ n + 1 by omega), Nat.add_sub_cancel]
        refine go_iload (pc' := 26) (i := 4) d_Mod_snapshot_24 rfl rfl ?_
        refine go_if_lt (tgt := 52) (pc' := 29) d_Mod_snapshot_26 (by decide) rfl (fun hc => ?_) (fun hc => ?_)
        · exact absurd ((nI_ltI (by omega) (by omega)).mp (show nI n < nI 0 from hc)) (by omega)
        · refine go_aload_n (pc' := 30) (i := 0) d_Mod_snapshot_29 rfl rfl (by first | rfl | exact x_r_rf _) rfl ?_
          refine go_getfield (pc' := 33) d_Mod_snapshot_30 c_Mod 2 (by decide) t_473 (by first | assumption | exact Rh_0 _ _ _ | exact Rh_1 _ _ _ | exact Rh_2 _ _ _ | exact Rh_3 _ _ _ | exact Rh_4 _ _ _ | exact Rh_5 _ _ _ | exact Rh_6 _ _ _ | exact Rh_7 _ _ _ | exact Rh_8 _ _ _ | exact Rh_9 _ _ _ | exact Rh_10 _ _ _ | exact Rh_11 _ _ _ | exact Rh_12 _ _ _) (by rfl) rfl ?_
          refine go_iload (pc' := 35) (i := 4) d_Mod_snapshot_33 rfl rfl ?_
          refine go_zaldN (pc' := 36) d_Mod_snapshot_35 (by first | assumption | exact Rh_0 _ _ _ | exact Rh_1 _ _ _ | exact Rh_2 _ _ _ | exact Rh_3 _ _ _ | exact Rh_4 _ _ _ | exact Rh_5 _ _ _ | exact Rh_6 _ _ _ | exact Rh_7 _ _ _ | exact Rh_8 _ _ _ | exact Rh_9 _ _ _ | exact Rh_10 _ _ _ | exact Rh_11 _ _ _ | exact Rh_12 _ _ _) (by rfl) (by first | assumption | omega | (simp only [x_up, x_nw]; omega)) (by first | assumption | omega | (simp only [x_up, x_nw]; omega)) rfl ?_
          rw [hT n (by omega)]
          have go46 : ∀ v', q_ls (s_th σ) 6 n v' → Go K M_Mod_snapshot d 46 [some (.ref m), some (.int (nI i)), some (.int b), some (.int v'), some (.int (nI n))] [] (Rh g m ρ1) Q := by
            intro v' hv'
            refine go_iinc (pc' := 49) (i := 4) d_Mod_snapshot_46 rfl rfl (by decide) (x_s4 rfl) rfl ?_
            refine go_goto (tgt := 24) d_Mod_snapshot_49 (by decide) ?_
            exact ih v' (by omega) hv'
          cases htn : s_th σ n with
          | true =>
            refine go_if_eq (tgt := 43) (pc' := 39) d_Mod_snapshot_36 (by decide) rfl (fun hc => ?_) (fun hc => ?_)
            · cases hc
            · refine go_iload_n (pc' := 40) (i := 3) d_Mod_snapshot_39 rfl rfl rfl ?_
              refine go_goto (tgt := 45) d_Mod_snapshot_40 (by decide) ?_
              refine go_istore_n (pc' := 46) (i := 3) d_Mod_snapshot_45 rfl (by decide) (x_s3 (by first | rfl | exact x_k_rf _)) rfl ?_
              exact go46 v (q_ls_t hv htn)
          | false =>
            refine go_if_eq (tgt := 43) (pc' := 39) d_Mod_snapshot_36 (by decide) rfl (fun hc => ?_) (fun hc => ?_)
            · refine go_iload (pc' := 45) (i := 4) d_Mod_snapshot_43 rfl rfl ?_
              refine go_istore_n (pc' := 46) (i := 3) d_Mod_snapshot_45 rfl (by decide) (x_s3 (by first | rfl | exact x_k_rf _)) rfl ?_
              exact go46 _ (q_ls_f (by omega) htn)
            · exact absurd rfl hc
    refine go_if_eq (tgt := 19) (pc' := 13) d_Mod_snapshot_10 (by decide) rfl (fun hc => ?_) (fun hc => ?_)
    · refine go_iconst (pc' := 20) (v := (-1)) d_Mod_snapshot_19 (by decide) rfl ?_
      refine go_istore_n (pc' := 21) (i := 3) d_Mod_snapshot_20 rfl (by decide) (x_s3 (by first | rfl | exact x_k_rf _)) rfl ?_
      refine go_iconst (pc' := 22) (v := (nI 5)) d_Mod_snapshot_21 (by decide) rfl ?_
      refine go_istore (pc' := 24) (i := 4) d_Mod_snapshot_22 (by decide) (x_s4 (by first | rfl | exact x_k_rf _)) rfl ?_
      have := loop 6 (-1) (by omega) (q_ls_st _ _)
      rw [show nI 6 + Int32.ofInt (-1) = nI 5 by decide] at this
      exact this
    · exact absurd rfl hc
end RN2
