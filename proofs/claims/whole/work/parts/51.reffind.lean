/-! the reference: find, none, fail -/
section RC2
variable {K : x_K} {d : Nat} {h g : x_H} {m i : Nat} {ρ : Rt} {ks : List KV} {σ : Sg}
theorem q_get_none {key : Int32} (hno : ∀ (j : Nat) (y : KV), ks[j]? = some y → y.1 ≠ key) : q_get ks key = none := by
  unfold q_get
  rw [List.find?_eq_none]
  intro y hy
  obtain ⟨j, hj⟩ := List.mem_iff_getElem?.mp hy
  simpa using hno j y hj
set_option maxRecDepth 100000 in
theorem m_find (hL : Ls ρ i ks) (hi : i < 6) (key : Int32) :
    Go K M_Mod_find d 0 [some (.ref m), some (.int (nI i)), some (.int key), none, none] [] (Rh g m ρ) (x_rt (fun v f => Rh g m ρ = f ∧ ((q_get ks key = none ∧ v = some (.int (-1))) ∨ ∃ j y, ks[j]? = some y ∧ y.1 = key ∧ v = some (.int (nI (60 * i + j)))))) := by
  obtain ⟨hS, h60, hK⟩ := hL
  have loop : ∀ r k v, k + r = ks.length → ((∀ j y, j < k → ks[j]? = some y → y.1 ≠ key) ∧ v = -1 ∨ ∃ j y, ks[j]? = some y ∧ y.1 = key ∧ v = nI (60 * i + j)) →
      Go K M_Mod_find d 5 [some (.ref m), some (.int (nI i)), some (.int key), some (.int v), some (.int (nI k))] [] (Rh g m ρ) (x_rt (fun v f => Rh g m ρ = f ∧ ((q_get ks key = none ∧ v = some (.int (-1))) ∨ ∃ j y, ks[j]? = some y ∧ y.1 = key ∧ v = some (.int (nI (60 * i + j)))))) := by
    intro r
    induction r with
    | zero =>
      intro k v hk hv
      refine go_iload (pc' := 7) (i := 4) d_Mod_find_5 rfl rfl ?_
      refine go_aload_n (pc' := 8) (i := 0) d_Mod_find_7 rfl rfl (by first | rfl | exact x_r_rf _) rfl ?_
      refine go_getfield (pc' := 11) d_Mod_find_8 c_Mod 5 (by decide) t_476 (by first | assumption | exact Rh_0 _ _ _ | exact Rh_1 _ _ _ | exact Rh_2 _ _ _ | exact Rh_3 _ _ _ | exact Rh_4 _ _ _ | exact Rh_5 _ _ _ | exact Rh_6 _ _ _ | exact Rh_7 _ _ _ | exact Rh_8 _ _ _ | exact Rh_9 _ _ _ | exact Rh_10 _ _ _ | exact Rh_11 _ _ _ | exact Rh_12 _ _ _) (by rfl) rfl ?_
      refine go_iload_n (pc' := 12) (i := 1) d_Mod_find_11 rfl rfl rfl ?_
      refine go_ialdN (pc' := 13) d_Mod_find_12 (by first | assumption | exact Rh_0 _ _ _ | exact Rh_1 _ _ _ | exact Rh_2 _ _ _ | exact Rh_3 _ _ _ | exact Rh_4 _ _ _ | exact Rh_5 _ _ _ | exact Rh_6 _ _ _ | exact Rh_7 _ _ _ | exact Rh_8 _ _ _ | exact Rh_9 _ _ _ | exact Rh_10 _ _ _ | exact Rh_11 _ _ _ | exact Rh_12 _ _ _) (by rfl) (by first | assumption | omega | (simp only [x_up, x_nw]; omega)) (by first | assumption | omega | (simp only [x_up, x_nw]; omega)) rfl ?_
      rw [hS]
      refine go_icmp_geN (tgt := 50) (pc' := 16) d_Mod_find_13 (by decide) rfl (by omega) (by omega) (fun hc => ?_) (fun hc => ?_)
      · refine go_iload_n (pc' := 51) (i := 3) d_Mod_find_50 rfl rfl rfl ?_
        refine go_ireturn d_Mod_find_51 rfl (by rfl) ?_
        refine ⟨rfl, ?_⟩
        rcases hv with ⟨h1, rfl⟩ | ⟨j, y, h1, h2, rfl⟩
        · refine Or.inl ⟨q_get_none fun j y hy => h1 j y ?_ hy, rfl⟩
          have := (List.getElem?_eq_some_iff.mp hy).1
          omega
        · exact Or.inr ⟨j, y, h1, h2, rfl⟩
      · omega
    | succ r ih =>
      intro k v hk hv
      refine go_iload (pc' := 7) (i := 4) d_Mod_find_5 rfl rfl ?_
      refine go_aload_n (pc' := 8) (i := 0) d_Mod_find_7 rfl rfl (by first | rfl | exact x_r_rf _) rfl ?_
      refine go_getfield (pc' := 11) d_Mod_find_8 c_Mod 5 (by decide) t_476 (by first | assumption | exact Rh_0 _ _ _ | exact Rh_1 _ _ _ | exact Rh_2 _ _ _ | exact Rh_3 _ _ _ | exact Rh_4 _ _ _ | exact Rh_5 _ _ _ | exact Rh_6 _ _ _ | exact Rh_7 _ _ _ | exact Rh_8 _ _ _ | exact Rh_9 _ _ _ | exact Rh_10 _ _ _ | exact Rh_11 _ _ _ | exact Rh_12 _ _ _) (by rfl) rfl ?_
      refine go_iload_n (pc' := 12) (i := 1) d_Mod_find_11 rfl rfl rfl ?_
      refine go_ialdN (pc' := 13) d_Mod_find_12 (by first | assumption | exact Rh_0 _ _ _ | exact Rh_1 _ _ _ | exact Rh_2 _ _ _ | exact Rh_3 _ _ _ | exact Rh_4 _ _ _ | exact Rh_5 _ _ _ | exact Rh_6 _ _ _ | exact Rh_7 _ _ _ | exact Rh_8 _ _ _ | exact Rh_9 _ _ _ | exact Rh_10 _ _ _ | exact Rh_11 _ _ _ | exact Rh_12 _ _ _) (by rfl) (by first | assumption | omega | (simp only [x_up, x_nw]; omega)) (by first | assumption | omega | (simp only [x_up, x_nw]; omega)) rfl ?_
      rw [hS]
      refine go_icmp_geN (tgt := 50) (pc' := 16) d_Mod_find_13 (by decide) rfl (by omega) (by omega) (fun hc => ?_) (fun hc => ?_)
      · omega
      · obtain ⟨y, hy⟩ : ∃ y, ks[k]? = some y := ⟨_, List.getElem?_eq_getElem (by omega)⟩
        refine go_aload_n (pc' := 17) (i := 0) d_Mod_find_16 rfl rfl (by first | rfl | exact x_r_rf _) rfl ?_
        refine go_getfield (pc' := 20) d_Mod_find_17 c_Mod 6 (by decide) t_477 (by first | assumption | exact Rh_0 _ _ _ | exact Rh_1 _ _ _ | exact Rh_2 _ _ _ | exact Rh_3 _ _ _ | exact Rh_4 _ _ _ | exact Rh_5 _ _ _ | exact Rh_6 _ _ _ | exact Rh_7 _ _ _ | exact Rh_8 _ _ _ | exact Rh_9 _ _ _ | exact Rh_10 _ _ _ | exact Rh_11 _ _ _ | exact Rh_12 _ _ _) (by rfl) rfl ?_
        refine go_bipush (pc' := 22) (v := (nI 60)) d_Mod_find_20 (by decide) rfl ?_
        refine go_iload_n (pc' := 23) (i := 1) d_Mod_find_22 rfl rfl rfl ?_
        refine go_imulN (pc' := 24) d_Mod_find_23 rfl ?_
        refine go_iload (pc' := 26) (i := 4) d_Mod_find_24 rfl rfl ?_
        refine go_iaddN (pc' := 27) d_Mod_find_26 rfl ?_
        refine go_ialdN (pc' := 28) d_Mod_find_27 (by first | assumption | exact Rh_0 _ _ _ | exact Rh_1 _ _ _ | exact Rh_2 _ _ _ | exact Rh_3 _ _ _ | exact Rh_4 _ _ _ | exact Rh_5 _ _ _ | exact Rh_6 _ _ _ | exact Rh_7 _ _ _ | exact Rh_8 _ _ _ | exact Rh_9 _ _ _ | exact Rh_10 _ _ _ | exact Rh_11 _ _ _ | exact Rh_12 _ _ _) (by rfl) (by first | assumption | omega | (simp only [x_up, x_nw]; omega)) (by first | assumption | omega | (simp only [x_up, x_nw]; omega)) rfl ?_
        refine go_iload_n (pc' := 29) (i := 2) d_Mod_find_28 rfl rfl rfl ?_
        rw [(hK k y hy).1]
        refine go_icmp_ne (tgt := 42) (pc' := 32) d_Mod_find_29 (by decide) rfl (fun hc => ?_) (fun hc => ?_)
        · have hne : y.1 ≠ key := hc
          refine go_iload_n (pc' := 43) (i := 3) d_Mod_find_42 rfl rfl rfl ?_
          refine go_istore_n (pc' := 44) (i := 3) d_Mod_find_43 rfl (by decide) (x_s3 (by first | rfl | exact x_k_rf _)) rfl ?_
          refine go_iinc (pc' := 47) (i := 4) d_Mod_find_44 rfl (x_i1 _) (by decide) (x_s4 (by first | rfl | exact x_k_rf _)) rfl ?_
          refine go_goto (tgt := 5) d_Mod_find_47 (by decide) ?_
          refine ih (k + 1) v (by omega) ?_
          rcases hv with ⟨h1, h2⟩ | h1
          · refine Or.inl ⟨fun j y' hj hy' => ?_, h2⟩
            by_cases hjk : j = k
            · subst hjk
              rw [hy] at hy'
              cases hy'
              exact hne
            · exact h1 j y' (by omega) hy'
          · exact Or.inr h1
        · refine go_bipush (pc' := 34) (v := (nI 60)) d_Mod_find_32 (by decide) rfl ?_
          refine go_iload_n (pc' := 35) (i := 1) d_Mod_find_34 rfl rfl rfl ?_
          refine go_imulN (pc' := 36) d_Mod_find_35 rfl ?_
          refine go_iload (pc' := 38) (i := 4) d_Mod_find_36 rfl rfl ?_
          refine go_iaddN (pc' := 39) d_Mod_find_38 rfl ?_
          refine go_goto (tgt := 43) d_Mod_find_39 (by decide) ?_
          refine go_istore_n (pc' := 44) (i := 3) d_Mod_find_43 rfl (by decide) (x_s3 (by first | rfl | exact x_k_rf _)) rfl ?_
          refine go_iinc (pc' := 47) (i := 4) d_Mod_find_44 rfl (x_i1 _) (by decide) (x_s4 (by first | rfl | exact x_k_rf _)) rfl ?_
          refine go_goto (tgt := 5) d_Mod_find_47 (by decide) ?_
          exact ih (k + 1) _ (by omega) (Or.inr ⟨k, y, hy, hc, rfl⟩)
  refine go_iconst (pc' := 1) (v := (-1)) d_Mod_find_0 (by decide) rfl ?_
  refine go_istore_n (pc' := 2) (i := 3) d_Mod_find_1 rfl (by decide) (x_s3 (by first | rfl | exact x_k_rf _)) rfl ?_
  refine go_iconst (pc' := 3) (v := (nI 0)) d_Mod_find_2 (by decide) rfl ?_
  refine go_istore (pc' := 5) (i := 4) d_Mod_find_3 (by decide) (x_s4 (by first | rfl | exact x_k_rf _)) rfl ?_
  exact loop ks.length 0 (-1) (by omega) (Or.inl ⟨fun j y hj => by omega, rfl⟩)
theorem p_map_inv {mm : Int32} {i : Nat} (hp : p_map σ mm = some i) : mm = nI i ∧ i < 6 ∧ s_th σ i = true := by
  unfold p_map at hp
  have h1 := List.find?_some hp
  have h2 := List.mem_of_find?_eq_some hp
  simp only [Bool.and_eq_true, beq_iff_eq] at h1
  exact ⟨h1.1, by simpa using h2, h1.2⟩
theorem p_map_inv0 {mm : Int32} (hp : p_map σ mm = none) : ¬ ∃ i, mm = nI i ∧ i < 6 ∧ s_th σ i = true := fun ⟨i, h1, h2, h3⟩ => by
  have : p_map σ mm = some i := l_map (by omega) h2 h1 h3
  rw [hp] at this
  cases this
theorem m_none (hT : ∀ i, i < 6 → r_T ρ i = if s_th σ i then 1 else 0) (mm : Int32) :
    Go K M_Mod_none d 0 [some (.ref m), some (.int mm)] [] (Rh g m ρ) (x_is (some (.int (match p_map σ mm with | none => 1 | some _ => 0))) (Rh g m ρ)) := by
  have yes : (¬ ∃ i, mm = nI i ∧ i < 6 ∧ s_th σ i = true) → Go K M_Mod_none d 19 [some (.ref m), some (.int mm)] [] (Rh g m ρ) (x_is (some (.int (match p_map σ mm with | none => 1 | some _ => 0))) (Rh g m ρ)) := fun hno => by
    rw [show p_map σ mm = none from l_map0 hno]
    refine go_iconst (pc' := 20) (v := (nI 1)) d_Mod_none_19 (by decide) rfl ?_
    refine go_goto (tgt := 24) d_Mod_none_20 (by decide) ?_
    refine go_ireturn d_Mod_none_24 rfl (by rfl) ?_
    exact ⟨rfl, rfl⟩
  refine go_iload_n (pc' := 1) (i := 1) d_Mod_none_0 rfl rfl rfl ?_
  refine go_if_lt (tgt := 19) (pc' := 4) d_Mod_none_1 (by decide) rfl (fun hc => ?_) (fun hc => ?_)
  · refine yes fun ⟨i, e, hi, _⟩ => ?_
    rw [e, show (0 : Int32) = nI 0 from rfl, nI_ltI (by omega) (by omega)] at hc
    omega
  · obtain ⟨i, hi31, rfl⟩ := nI_of hc
    refine go_iload_n (pc' := 5) (i := 1) d_Mod_none_4 rfl rfl rfl ?_
    refine go_bipush (pc' := 7) (v := (nI 6)) d_Mod_none_5 (by decide) rfl ?_
    refine go_icmp_geN (tgt := 19) (pc' := 10) d_Mod_none_7 (by decide) rfl (by omega) (by omega) (fun hc => ?_) (fun hc => ?_)
    · refine yes fun ⟨j, e, hj, _⟩ => ?_
      rw [nI_eq hi31 (by omega)] at e
      omega
    · refine go_aload_n (pc' := 11) (i := 0) d_Mod_none_10 rfl rfl (by first | rfl | exact x_r_rf _) rfl ?_
      refine go_getfield (pc' := 14) d_Mod_none_11 c_Mod 2 (by decide) t_473 (by first | assumption | exact Rh_0 _ _ _ | exact Rh_1 _ _ _ | exact Rh_2 _ _ _ | exact Rh_3 _ _ _ | exact Rh_4 _ _ _ | exact Rh_5 _ _ _ | exact Rh_6 _ _ _ | exact Rh_7 _ _ _ | exact Rh_8 _ _ _ | exact Rh_9 _ _ _ | exact Rh_10 _ _ _ | exact Rh_11 _ _ _ | exact Rh_12 _ _ _) (by rfl) rfl ?_
      refine go_iload_n (pc' := 15) (i := 1) d_Mod_none_14 rfl rfl rfl ?_
      refine go_zaldN (pc' := 16) d_Mod_none_15 (by first | assumption | exact Rh_0 _ _ _ | exact Rh_1 _ _ _ | exact Rh_2 _ _ _ | exact Rh_3 _ _ _ | exact Rh_4 _ _ _ | exact Rh_5 _ _ _ | exact Rh_6 _ _ _ | exact Rh_7 _ _ _ | exact Rh_8 _ _ _ | exact Rh_9 _ _ _ | exact Rh_10 _ _ _ | exact Rh_11 _ _ _ | exact Rh_12 _ _ _) (by rfl) (by first | assumption | omega | (simp only [x_up, x_nw]; omega)) (by first | assumption | omega | (simp only [x_up, x_nw]; omega)) rfl ?_
      rw [hT i (by omega)]
      cases hth : s_th σ i with
      | true =>
        refine go_if_ne (tgt := 23) (pc' := 19) d_Mod_none_16 (by decide) rfl (fun hc => ?_) (fun hc => ?_)
        · rw [show p_map σ (nI i) = some i from l_map (by omega) (by omega) rfl hth]
          refine go_iconst (pc' := 24) (v := (nI 0)) d_Mod_none_23 (by decide) rfl ?_
          refine go_ireturn d_Mod_none_24 rfl (by rfl) ?_
          exact ⟨rfl, rfl⟩
        · cases hc
      | false =>
        refine go_if_ne (tgt := 23) (pc' := 19) d_Mod_none_16 (by decide) rfl (fun hc => ?_) (fun hc => ?_)
        · exact absurd rfl hc
        · refine yes fun ⟨j, e, hj, ht⟩ => ?_
          rw [nI_eq hi31 (by omega)] at e
          subst e
          rw [hth] at ht
          cases ht
theorem m_fail (c : Int32) : Go K M_Mod_fail d 0 [some (.ref m), some (.int c)] [] (Rh g m ρ) (x_is (some (.int (nI 0))) (Rh g m (ru_tw ρ c))) := by
  refine go_aload_n (pc' := 1) (i := 0) d_Mod_fail_0 rfl rfl (by first | rfl | exact x_r_rf _) rfl ?_
  refine go_iload_n (pc' := 2) (i := 1) d_Mod_fail_1 rfl rfl rfl ?_
  refine go_putfield (pc' := 5) d_Mod_fail_2 c_Mod 0 (by decide) rfl t_471 (by first | assumption | exact Rh_0 _ _ _ | exact Rh_1 _ _ _ | exact Rh_2 _ _ _ | exact Rh_3 _ _ _ | exact Rh_4 _ _ _ | exact Rh_5 _ _ _ | exact Rh_6 _ _ _ | exact Rh_7 _ _ _ | exact Rh_8 _ _ _ | exact Rh_9 _ _ _ | exact Rh_10 _ _ _ | exact Rh_11 _ _ _ | exact Rh_12 _ _ _) (by rfl) (by rfl) (by first | exact Nat.le_of_ble_eq_true rfl | simp) rfl ?_
  rw [Rh_utw]
  refine go_iconst (pc' := 6) (v := (nI 0)) d_Mod_fail_5 (by decide) rfl ?_
  refine go_ireturn d_Mod_fail_6 rfl (by rfl) ?_
  exact ⟨rfl, rfl⟩
theorem m_thrown : Go K M_Mod_thrown d 0 [some (.ref m)] [] (Rh g m ρ) (x_is (some (.int (r_tw ρ))) (Rh g m ρ)) := by
  refine go_aload_n (pc' := 1) (i := 0) d_Mod_thrown_0 rfl rfl (by first | rfl | exact x_r_rf _) rfl ?_
  refine go_getfield (pc' := 4) d_Mod_thrown_1 c_Mod 0 (by decide) t_471 (by first | assumption | exact Rh_0 _ _ _ | exact Rh_1 _ _ _ | exact Rh_2 _ _ _ | exact Rh_3 _ _ _ | exact Rh_4 _ _ _ | exact Rh_5 _ _ _ | exact Rh_6 _ _ _ | exact Rh_7 _ _ _ | exact Rh_8 _ _ _ | exact Rh_9 _ _ _ | exact Rh_10 _ _ _ | exact Rh_11 _ _ _ | exact Rh_12 _ _ _) (by rfl) rfl ?_
  refine go_ireturn d_Mod_thrown_4 rfl (by rfl) ?_
  exact ⟨rfl, rfl⟩
theorem m_fresh : Go K M_Mod_fresh d 0 [some (.ref m)] [] (Rh g m ρ) (x_is (some (.int (r_lg ρ + nI 1))) (Rh g m (ru_lg ρ (r_lg ρ + nI 1)))) := by
  refine go_aload_n (pc' := 1) (i := 0) d_Mod_fresh_0 rfl rfl (by first | rfl | exact x_r_rf _) rfl ?_
  refine go_dup (pc' := 2) d_Mod_fresh_1 (by first | rfl | exact x_c_rf _) rfl ?_
  refine go_getfield (pc' := 5) d_Mod_fresh_2 c_Mod 1 (by decide) t_472 (by first | assumption | exact Rh_0 _ _ _ | exact Rh_1 _ _ _ | exact Rh_2 _ _ _ | exact Rh_3 _ _ _ | exact Rh_4 _ _ _ | exact Rh_5 _ _ _ | exact Rh_6 _ _ _ | exact Rh_7 _ _ _ | exact Rh_8 _ _ _ | exact Rh_9 _ _ _ | exact Rh_10 _ _ _ | exact Rh_11 _ _ _ | exact Rh_12 _ _ _) (by rfl) rfl ?_
  refine go_iconst (pc' := 6) (v := (nI 1)) d_Mod_fresh_5 (by decide) rfl ?_
  refine go_iadd (pc' := 7) d_Mod_fresh_6 rfl ?_
  refine go_putfield (pc' := 10) d_Mod_fresh_7 c_Mod 1 (by decide) rfl t_472 (by first | assumption | exact Rh_0 _ _ _ | exact Rh_1 _ _ _ | exact Rh_2 _ _ _ | exact Rh_3 _ _ _ | exact Rh_4 _ _ _ | exact Rh_5 _ _ _ | exact Rh_6 _ _ _ | exact Rh_7 _ _ _ | exact Rh_8 _ _ _ | exact Rh_9 _ _ _ | exact Rh_10 _ _ _ | exact Rh_11 _ _ _ | exact Rh_12 _ _ _) (by rfl) (by rfl) (by first | exact Nat.le_of_ble_eq_true rfl | simp) rfl ?_
  rw [Rh_ulg]
  refine go_aload_n (pc' := 11) (i := 0) d_Mod_fresh_10 rfl rfl (by first | rfl | exact x_r_rf _) rfl ?_
  refine go_getfield (pc' := 14) d_Mod_fresh_11 c_Mod 1 (by decide) t_472 (by first | assumption | exact Rh_0 _ _ _ | exact Rh_1 _ _ _ | exact Rh_2 _ _ _ | exact Rh_3 _ _ _ | exact Rh_4 _ _ _ | exact Rh_5 _ _ _ | exact Rh_6 _ _ _ | exact Rh_7 _ _ _ | exact Rh_8 _ _ _ | exact Rh_9 _ _ _ | exact Rh_10 _ _ _ | exact Rh_11 _ _ _ | exact Rh_12 _ _ _) (by rfl) rfl ?_
  refine go_ireturn d_Mod_fresh_14 rfl (by rfl) ?_
  exact ⟨rfl, rfl⟩
end RC2
