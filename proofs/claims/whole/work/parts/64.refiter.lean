/-! the reference: iterate -/
theorem q_ftk {ks : List KV} {t H : Nat} {y : KV} (hy : ks[t]? = some y) : q_f (ks.take (t + 1)) 4 H = q_f (ks.take t) 4 H ++ (if q_h y.1 = H then [y] else []) := by
  unfold q_f
  rw [List.take_add_one, hy, List.filter_append]
  congr 1
  show List.filter _ [y] = _
  by_cases e : q_h y.1 = H
  · rw [if_pos e, List.filter_cons_of_pos (by rw [q_p_4, e]; simp)]
    rfl
  · rw [if_neg e, List.filter_cons_of_neg (by rw [q_p_4]; simpa using e)]
    rfl
theorem q_ftk_le {ks : List KV} {t H : Nat} : (q_f (ks.take t) 4 H).length ≤ (q_f ks 4 H).length := by
  unfold q_f
  exact ((List.take_sublist t ks).filter _).length_le
theorem q_lt_le {ks : List KV} (H : Nat) : q_lt ks H ≤ ks.length := List.length_filter_le _ _
section RO2
variable {K : x_K} {d : Nat} {h g : x_H} {m i j c : Nat} {ρ ρ' : Rt} {ks : List KV} {σ : Sg}
/-- the list in the arrays of iterator c -/
def Si (ρ : Rt) (c : Nat) (Lf : Nat → Int32) (N : Nat → Int32) (W : Nat → Int64) (L : List KV) : Prop := Lf c = nI L.length ∧ (∀ c', c' ≠ c → Lf c' = r_L ρ c') ∧ (∀ a, ¬ (60 * c ≤ a ∧ a < 60 * c + 60) → N a = r_N ρ a ∧ W a = r_W ρ a) ∧ ∀ j y, L[j]? = some y → N (60 * c + j) = y.1 ∧ W (60 * c + j) = y.2
theorem Si.app {Lf N : Nat → Int32} {W : Nat → Int64} {L : List KV} {y : KV} (hS : Si ρ c Lf N W L) (hL : L.length < 60) : Si ρ c (va_up Lf c (nI (L.length + 1))) (va_up N (60 * c + L.length) y.1) (va_up W (60 * c + L.length) y.2) (L ++ [y]) := by
  obtain ⟨s1, s2, s3, s4⟩ := hS
  refine ⟨by rw [va_up_self, List.length_append]; rfl, fun c' hc' => by rw [va_up_ne _ _ hc']; exact s2 c' hc', fun a ha => ?_, fun j z hz => ?_⟩
  · rw [va_up_ne _ _ (by omega), va_up_ne _ _ (by omega)]
    exact s3 a ha
  · by_cases hj : j < L.length
    · rw [List.getElem?_append_left hj] at hz
      rw [va_up_ne _ _ (by omega), va_up_ne _ _ (by omega)]
      exact s4 j z hz
    · have hj2 := (List.getElem?_eq_some_iff.mp hz).1
      rw [List.length_append] at hj2
      have hj3 : j = L.length := by
        have : j < L.length + 1 := hj2
        omega
      subst hj3
      rw [List.getElem?_append_right (Nat.le_refl _), Nat.sub_self] at hz
      cases hz
      rw [va_up_self, va_up_self]
      exact ⟨rfl, rfl⟩
theorem Rr.iter {Lf N : Nat → Int32} {W : Nat → Int64} (hR : Rr σ ρ) (hi : i < 6) (hc : c < 4) (hlg : s_lg σ + 2 < 2 ^ 20) (hS : Si ρ c Lf N W (q_srt (s_ks σ i))) (elg : r_lg ρ' = nI (s_lg σ + 1)) (eT : r_T ρ' = r_T ρ) (eR : r_R ρ' = r_R ρ) (eG : r_G ρ' = va_up (r_G ρ) i (nI (s_lg σ + 1)))
    (eS : r_S ρ' = r_S ρ) (eK : r_K ρ' = r_K ρ) (eV : r_V ρ' = r_V ρ) (eB : r_B ρ' = r_B ρ) (elc : r_lc ρ' = r_lc ρ) (eU : r_U ρ' = va_up (r_U ρ) c (nI 1)) (eL : r_L ρ' = Lf) (eF : r_F ρ' = va_up (r_F ρ) c (nI 0)) (eN : r_N ρ' = N) (eW : r_W ρ' = W) (evl : r_vl ρ' = r_vl ρ) : Rr (p_iter σ i c) ρ' := by
  obtain ⟨a1, a2, a3, a4, a5, a6, a7, a8, a9, a10, a11, a12, a13, a14⟩ := hR
  obtain ⟨s1, s2, s3, s4⟩ := hS
  refine ⟨elg, by rw [eT]; exact a2, by rw [eR]; exact a3, fun k hk => ?_, fun k hk => ?_, by rw [eB]; exact a6, elc.trans a7, fun k hk => ?_, fun k hk hu => ?_, evl.trans a10, fun k l p hk => ?_, fun k hk => ?_, ?_, a14⟩
  · show r_G ρ' k = nI (va_up (s_gn σ) i (s_lg σ + 1) k)
    rw [eG]
    by_cases e : k = i
    · rw [e, va_up_self, va_up_self]
    · rw [va_up_ne _ _ e, va_up_ne _ _ e]; exact a4 k hk
  · have hL := a5 k hk
    exact ⟨by rw [eS]; exact hL.1, hL.2.1, by rw [eK, eV]; exact hL.2.2⟩
  · show r_U ρ' k = if va_up (s_us σ) c true k then 1 else 0
    rw [eU]
    by_cases e : k = c
    · rw [e, va_up_self, va_up_self]; rfl
    · rw [va_up_ne _ _ e, va_up_ne _ _ e]; exact a8 k hk
  · show Sn ρ' k (va_up (s_sn σ) c (q_srt (s_ks σ i)) k) (va_up (s_fa σ) c 0 k)
    by_cases e : k = c
    · rw [e, va_up_self, va_up_self]
      refine ⟨by rw [eL]; exact s1, by rw [eF, va_up_self], Nat.zero_le _, by rw [q_srt_len]; exact (a5 i hi).2.1, by rw [eN, eW]; exact s4⟩
    · rw [va_up_ne _ _ e, va_up_ne _ _ e]
      have hu' : s_us σ k = true := by
        have hu' : va_up (s_us σ) c true k = true := hu
        rw [va_up_ne _ _ e] at hu'
        exact hu'
      obtain ⟨b1, b2, b3, b4, b5⟩ := a9 k hk hu'
      refine ⟨by rw [eL, s2 k e]; exact b1, by rw [eF, va_up_ne _ _ e]; exact b2, b3, b4, fun t y hy => ?_⟩
      have ht := (List.getElem?_eq_some_iff.mp hy).1
      obtain ⟨z1, z2⟩ := s3 (60 * k + t) (by omega)
      rw [eN, eW, z1, z2]
      exact b5 t y hy
  · show s_bl σ k l p ≤ s_lg σ + 1
    have := a11 k l p hk
    omega
  · show va_up (s_gn σ) i (s_lg σ + 1) k ≤ s_lg σ + 1
    by_cases e : k = i
    · rw [e, va_up_self]; omega
    · rw [va_up_ne _ _ e]; have := a12 k hk; omega
  · show s_lg σ + 1 < 2 ^ 20
    omega
set_option maxHeartbeats 8000000 in
set_option maxRecDepth 100000 in
theorem m_iterate (hR : Rr σ ρ) (mm : Int32) (hlg2 : s_lg σ + 2 < 2 ^ 20) (hd : 8 ≤ d) : Go K M_Mod_iterate d 0 [some (.ref m), some (.int mm), none, none, none] [] (Rh g m ρ) (Qm g m (p_Iter σ mm) c_1 (.int (nI 0))) := by
  refine go_aload_n (pc' := 1) (i := 0) d_Mod_iterate_0 rfl rfl (by first | rfl | exact x_r_rf _) rfl ?_
  refine go_iconst (pc' := 2) (v := (nI 0)) d_Mod_iterate_1 (by decide) rfl ?_
  refine go_putfield (pc' := 5) d_Mod_iterate_2 c_Mod 0 (by decide) rfl t_471 (by first | assumption | exact Rh_0 _ _ _ | exact Rh_1 _ _ _ | exact Rh_2 _ _ _ | exact Rh_3 _ _ _ | exact Rh_4 _ _ _ | exact Rh_5 _ _ _ | exact Rh_6 _ _ _ | exact Rh_7 _ _ _ | exact Rh_8 _ _ _ | exact Rh_9 _ _ _ | exact Rh_10 _ _ _ | exact Rh_11 _ _ _ | exact Rh_12 _ _ _) (by rfl) (by rfl) (by first | exact Nat.le_of_ble_eq_true rfl | simp) rfl ?_
  rw [Rh_utw]
  obtain ⟨ρ1, hρ1⟩ : ∃ ρ1, ρ1 = ru_tw ρ (nI 0) := ⟨_, rfl⟩
  rw [← hρ1]
  have hR1 : Rr σ ρ1 := by rw [hρ1]; exact hR
  have htw : r_tw ρ1 = nI 0 := by rw [hρ1]; rfl
  refine go_aload_n (pc' := 6) (i := 0) d_Mod_iterate_5 rfl rfl (by first | rfl | exact x_r_rf _) rfl ?_
  refine go_iload_n (pc' := 7) (i := 1) d_Mod_iterate_6 rfl rfl rfl ?_
  refine go_callV (pc' := 10) (M' := M_Mod_none) (ci := 6) (r := (n_Mod, T_Mod, 16)) [_] d_Mod_iterate_7 t_530 t_532 sp_Mod_none cd_Mod_none nm_Mod_none rfl (by rfl) (by first | assumption | exact Rh_0 _ _ _ | exact Rh_1 _ _ _ | exact Rh_2 _ _ _ | exact Rh_3 _ _ _ | exact Rh_4 _ _ _ | exact Rh_5 _ _ _ | exact Rh_6 _ _ _ | exact Rh_7 _ _ _ | exact Rh_8 _ _ _ | exact Rh_9 _ _ _ | exact Rh_10 _ _ _ | exact Rh_11 _ _ _ | exact Rh_12 _ _ _) rfl (Nat.le_of_ble_eq_true rfl) rfl (m_none (d := d - 1) hR1.2.1 mm) (by first | decide | omega) (Nat.le_of_ble_eq_true rfl) rfl (fun v hh hq => ?_) (fun q g hq => by cases hq.1)
  obtain ⟨e1, e2⟩ := hq
  cases e1
  rw [← e2]
  show Go K M_Mod_iterate d 10 _ [_] _ _
  cases hp : p_map σ mm with
  | none =>
    refine go_if_eq (tgt := 19) (pc' := 13) d_Mod_iterate_10 (by decide) rfl (fun hc => ?_) (fun hc => ?_)
    · cases hc
    · refine go_aload_n (pc' := 14) (i := 0) d_Mod_iterate_13 rfl rfl (by first | rfl | exact x_r_rf _) rfl ?_
      refine go_iconst (pc' := 15) (v := (nI 1)) d_Mod_iterate_14 (by decide) rfl ?_
      refine go_callV (pc' := 18) (M' := M_Mod_fail) (ci := 6) (r := (n_Mod, T_Mod, 16)) [_] d_Mod_iterate_15 t_534 t_536 sp_Mod_fail cd_Mod_fail nm_Mod_fail rfl (by rfl) (by first | assumption | exact Rh_0 _ _ _ | exact Rh_1 _ _ _ | exact Rh_2 _ _ _ | exact Rh_3 _ _ _ | exact Rh_4 _ _ _ | exact Rh_5 _ _ _ | exact Rh_6 _ _ _ | exact Rh_7 _ _ _ | exact Rh_8 _ _ _ | exact Rh_9 _ _ _ | exact Rh_10 _ _ _ | exact Rh_11 _ _ _ | exact Rh_12 _ _ _) rfl (Nat.le_of_ble_eq_true rfl) rfl (m_fail (d := d - 1) (nI 1)) (by first | decide | omega) (Nat.le_of_ble_eq_true rfl) rfl (fun v hh hq => ?_) (fun q g hq => by cases hq.1)
      obtain ⟨e1, e2⟩ := hq
      cases e1
      rw [← e2]
      show Go K M_Mod_iterate d 18 _ [_] _ _
      refine go_ireturn d_Mod_iterate_18 rfl (by rfl) ?_
      unfold p_Iter
      rw [hp]
      exact ⟨_, rfl, hR1, rfl, rfl⟩
  | some i =>
    obtain ⟨rfl, hi, hth⟩ := p_map_inv hp
    obtain ⟨Q, hQ⟩ : ∃ Q : x_O → x_H → Prop, Q = Qm g m (p_Iter σ (nI i)) c_1 (.int (nI 0)) := ⟨_, rfl⟩
    rw [← hQ]
    have hU := hR1.2.2.2.2.2.2.2.1
    have hL := hR1.2.2.2.2.1 i hi
    have h60 := hL.2.1
    obtain ⟨ks, hks⟩ : ∃ ks, ks = s_ks σ i := ⟨_, rfl⟩
    rw [← hks] at hL h60
    have fin : ∀ v x3 x4, x_k x3 = x3 → x_k x4 = x4 → q_ls (s_us σ) 4 0 v → Go K M_Mod_iterate d 48 [some (.ref m), some (.int (nI i)), some (.int v), x3, x4] [] (Rh g m ρ1) Q := by
      intro v x3 x4 hx3 hx4 hv
      rcases q_ls_0 hv with ⟨rfl, hf⟩ | ⟨c, rfl, hcc, hthc, hf⟩
      · refine go_iload_n (pc' := 49) (i := 2) d_Mod_iterate_48 rfl rfl rfl ?_
        refine go_if_ge (tgt := 58) (pc' := 52) d_Mod_iterate_49 (by decide) rfl (fun hc => ?_) (fun hc => ?_)
        · exact absurd hc (by decide)
        · refine go_aload_n (pc' := 53) (i := 0) d_Mod_iterate_52 rfl rfl (by first | rfl | exact x_r_rf _) rfl ?_
          refine go_iconst (pc' := 54) (v := (nI 2)) d_Mod_iterate_53 (by decide) rfl ?_
          refine go_callV (pc' := 57) (M' := M_Mod_fail) (ci := 6) (r := (n_Mod, T_Mod, 16)) [_] d_Mod_iterate_54 t_534 t_536 sp_Mod_fail cd_Mod_fail nm_Mod_fail rfl (by rfl) (by first | assumption | exact Rh_0 _ _ _ | exact Rh_1 _ _ _ | exact Rh_2 _ _ _ | exact Rh_3 _ _ _ | exact Rh_4 _ _ _ | exact Rh_5 _ _ _ | exact Rh_6 _ _ _ | exact Rh_7 _ _ _ | exact Rh_8 _ _ _ | exact Rh_9 _ _ _ | exact Rh_10 _ _ _ | exact Rh_11 _ _ _ | exact Rh_12 _ _ _) rfl (Nat.le_of_ble_eq_true rfl) rfl (m_fail (d := d - 1) (nI 2)) (by first | decide | omega) (Nat.le_of_ble_eq_true rfl) rfl (fun v hh hq => ?_) (fun q g hq => by cases hq.1)
          obtain ⟨e1, e2⟩ := hq
          cases e1
          rw [← e2]
          show Go K M_Mod_iterate d 57 _ [_] _ _
          refine go_ireturn d_Mod_iterate_57 rfl (by rfl) ?_
          rw [hQ]
          unfold p_Iter
          rw [hp]
          simp only [show p_fc σ = none from hf]
          exact ⟨_, rfl, hR1, rfl, rfl⟩
      · have hpp : p_Iter σ (nI i) = (p_iter σ i c, .inl (some (.int (nI c)))) := by
          unfold p_Iter
          rw [hp]
          simp only [show p_fc σ = some c from hf]
        refine go_iload_n (pc' := 49) (i := 2) d_Mod_iterate_48 rfl rfl rfl ?_
        refine go_if_ge (tgt := 58) (pc' := 52) d_Mod_iterate_49 (by decide) rfl (fun hc => ?_) (fun hc => ?_)
        · refine go_aload_n (pc' := 59) (i := 0) d_Mod_iterate_58 rfl rfl (by first | rfl | exact x_r_rf _) rfl ?_
          refine go_getfield (pc' := 62) d_Mod_iterate_59 c_Mod 10 (by decide) t_481 (by first | assumption | exact Rh_0 _ _ _ | exact Rh_1 _ _ _ | exact Rh_2 _ _ _ | exact Rh_3 _ _ _ | exact Rh_4 _ _ _ | exact Rh_5 _ _ _ | exact Rh_6 _ _ _ | exact Rh_7 _ _ _ | exact Rh_8 _ _ _ | exact Rh_9 _ _ _ | exact Rh_10 _ _ _ | exact Rh_11 _ _ _ | exact Rh_12 _ _ _) (by rfl) rfl ?_
          refine go_iload_n (pc' := 63) (i := 2) d_Mod_iterate_62 rfl rfl rfl ?_
          refine go_iconst (pc' := 64) (v := (nI 1)) d_Mod_iterate_63 (by decide) rfl ?_
          refine go_zastN (pc' := 65) d_Mod_iterate_64 (by first | assumption | exact Rh_0 _ _ _ | exact Rh_1 _ _ _ | exact Rh_2 _ _ _ | exact Rh_3 _ _ _ | exact Rh_4 _ _ _ | exact Rh_5 _ _ _ | exact Rh_6 _ _ _ | exact Rh_7 _ _ _ | exact Rh_8 _ _ _ | exact Rh_9 _ _ _ | exact Rh_10 _ _ _ | exact Rh_11 _ _ _ | exact Rh_12 _ _ _) (by rfl) (by first | assumption | omega | (simp only [x_up, x_nw]; omega)) (by first | assumption | omega | (simp only [x_up, x_nw]; omega)) (by first | assumption | rfl | decide) rfl ?_
          rw [Rh_uU]
          refine go_aload_n (pc' := 66) (i := 0) d_Mod_iterate_65 rfl rfl (by first | rfl | exact x_r_rf _) rfl ?_
          refine go_getfield (pc' := 69) d_Mod_iterate_66 c_Mod 12 (by decide) t_483 (by first | assumption | exact Rh_0 _ _ _ | exact Rh_1 _ _ _ | exact Rh_2 _ _ _ | exact Rh_3 _ _ _ | exact Rh_4 _ _ _ | exact Rh_5 _ _ _ | exact Rh_6 _ _ _ | exact Rh_7 _ _ _ | exact Rh_8 _ _ _ | exact Rh_9 _ _ _ | exact Rh_10 _ _ _ | exact Rh_11 _ _ _ | exact Rh_12 _ _ _) (by rfl) rfl ?_
          refine go_iload_n (pc' := 70) (i := 2) d_Mod_iterate_69 rfl rfl rfl ?_
          refine go_iconst (pc' := 71) (v := (nI 0)) d_Mod_iterate_70 (by decide) rfl ?_
          refine go_iastN (pc' := 72) d_Mod_iterate_71 (by first | assumption | exact Rh_0 _ _ _ | exact Rh_1 _ _ _ | exact Rh_2 _ _ _ | exact Rh_3 _ _ _ | exact Rh_4 _ _ _ | exact Rh_5 _ _ _ | exact Rh_6 _ _ _ | exact Rh_7 _ _ _ | exact Rh_8 _ _ _ | exact Rh_9 _ _ _ | exact Rh_10 _ _ _ | exact Rh_11 _ _ _ | exact Rh_12 _ _ _) (by rfl) (by first | assumption | omega | (simp only [x_up, x_nw]; omega)) (by first | assumption | omega | (simp only [x_up, x_nw]; omega)) rfl ?_
          rw [Rh_uF]
          refine go_aload_n (pc' := 73) (i := 0) d_Mod_iterate_72 rfl rfl (by first | rfl | exact x_r_rf _) rfl ?_
          refine go_getfield (pc' := 76) d_Mod_iterate_73 c_Mod 11 (by decide) t_482 (by first | assumption | exact Rh_0 _ _ _ | exact Rh_1 _ _ _ | exact Rh_2 _ _ _ | exact Rh_3 _ _ _ | exact Rh_4 _ _ _ | exact Rh_5 _ _ _ | exact Rh_6 _ _ _ | exact Rh_7 _ _ _ | exact Rh_8 _ _ _ | exact Rh_9 _ _ _ | exact Rh_10 _ _ _ | exact Rh_11 _ _ _ | exact Rh_12 _ _ _) (by rfl) rfl ?_
          refine go_iload_n (pc' := 77) (i := 2) d_Mod_iterate_76 rfl rfl rfl ?_
          refine go_iconst (pc' := 78) (v := (nI 0)) d_Mod_iterate_77 (by decide) rfl ?_
          refine go_iastN (pc' := 79) d_Mod_iterate_78 (by first | assumption | exact Rh_0 _ _ _ | exact Rh_1 _ _ _ | exact Rh_2 _ _ _ | exact Rh_3 _ _ _ | exact Rh_4 _ _ _ | exact Rh_5 _ _ _ | exact Rh_6 _ _ _ | exact Rh_7 _ _ _ | exact Rh_8 _ _ _ | exact Rh_9 _ _ _ | exact Rh_10 _ _ _ | exact Rh_11 _ _ _ | exact Rh_12 _ _ _) (by rfl) (by first | assumption | omega | (simp only [x_up, x_nw]; omega)) (by first | assumption | omega | (simp only [x_up, x_nw]; omega)) rfl ?_
          rw [Rh_uL]
          obtain ⟨ρ2, hρ2⟩ : ∃ ρ2, ρ2 = ru_F (ru_U ρ1 (va_up (r_U ρ1) c (nI 1))) (va_up (r_F ρ1) c (nI 0)) := ⟨_, rfl⟩
          show Go K M_Mod_iterate d 79 _ [] (Rh g m (ru_L (ru_F (ru_U ρ1 (va_up (r_U ρ1) c (nI 1))) (va_up (r_F ρ1) c (nI 0))) (va_up (r_L ρ1) c (nI 0)))) Q
          rw [← hρ2]
          have hS2 : r_S ρ2 i = nI ks.length := by rw [hρ2]; exact hL.1
          have hKV : ∀ t y, ks[t]? = some y → r_K ρ2 (60 * i + t) = y.1 ∧ r_V ρ2 (60 * i + t) = y.2 := by rw [hρ2]; exact hL.2.2
          have hlg2' : r_lg ρ2 = nI (s_lg σ) := by rw [hρ2]; exact hR1.1
          have last : ∀ Lf N W x3 x4, x_k x3 = x3 → x_k x4 = x4 → Si ρ1 c Lf N W (q_srt ks) → Go K M_Mod_iterate d 192 [some (.ref m), some (.int (nI i)), some (.int (nI c)), x3, x4] [] (Rh g m (ru_W (ru_N (ru_L ρ2 Lf) N) W)) Q := by
            intro Lf N W x3 x4 hx3 hx4 hSi
            obtain ⟨ρ3, hρ3⟩ : ∃ ρ3, ρ3 = ru_W (ru_N (ru_L ρ2 Lf) N) W := ⟨_, rfl⟩
            rw [← hρ3]
            have hlg3 : r_lg ρ3 = nI (s_lg σ) := by rw [hρ3]; exact hlg2'
            refine go_aload_n (pc' := 193) (i := 0) d_Mod_iterate_192 rfl rfl (by first | rfl | exact x_r_rf _) rfl ?_
            refine go_getfield (pc' := 196) d_Mod_iterate_193 c_Mod 4 (by decide) t_475 (by first | assumption | exact Rh_0 _ _ _ | exact Rh_1 _ _ _ | exact Rh_2 _ _ _ | exact Rh_3 _ _ _ | exact Rh_4 _ _ _ | exact Rh_5 _ _ _ | exact Rh_6 _ _ _ | exact Rh_7 _ _ _ | exact Rh_8 _ _ _ | exact Rh_9 _ _ _ | exact Rh_10 _ _ _ | exact Rh_11 _ _ _ | exact Rh_12 _ _ _) (by rfl) rfl ?_
            refine go_iload_n (pc' := 197) (i := 1) d_Mod_iterate_196 rfl rfl rfl ?_
            refine go_aload_n (pc' := 198) (i := 0) d_Mod_iterate_197 rfl rfl (by first | rfl | exact x_r_rf _) rfl ?_
            refine go_callV (pc' := 201) (M' := M_Mod_fresh) (ci := 6) (r := (n_Mod, T_Mod, 16)) [] d_Mod_iterate_198 t_581 t_583 sp_Mod_fresh cd_Mod_fresh nm_Mod_fresh rfl (by rfl) (by first | assumption | exact Rh_0 _ _ _ | exact Rh_1 _ _ _ | exact Rh_2 _ _ _ | exact Rh_3 _ _ _ | exact Rh_4 _ _ _ | exact Rh_5 _ _ _ | exact Rh_6 _ _ _ | exact Rh_7 _ _ _ | exact Rh_8 _ _ _ | exact Rh_9 _ _ _ | exact Rh_10 _ _ _ | exact Rh_11 _ _ _ | exact Rh_12 _ _ _) rfl (Nat.le_of_ble_eq_true rfl) rfl (m_fresh (d := d - 1)) (by first | decide | omega) (Nat.le_of_ble_eq_true rfl) rfl (fun v hh hq => ?_) (fun q g hq => by cases hq.1)
            obtain ⟨e1, e2⟩ := hq
            cases e1
            rw [← e2]
            show Go K M_Mod_iterate d 201 _ [.int (r_lg ρ3 + nI 1), _, _] _ _
            rw [hlg3, nI_add]
            refine go_iastN (pc' := 202) d_Mod_iterate_201 (by first | assumption | exact Rh_0 _ _ _ | exact Rh_1 _ _ _ | exact Rh_2 _ _ _ | exact Rh_3 _ _ _ | exact Rh_4 _ _ _ | exact Rh_5 _ _ _ | exact Rh_6 _ _ _ | exact Rh_7 _ _ _ | exact Rh_8 _ _ _ | exact Rh_9 _ _ _ | exact Rh_10 _ _ _ | exact Rh_11 _ _ _ | exact Rh_12 _ _ _) (by rfl) (by first | assumption | omega | (simp only [x_up, x_nw]; omega)) (by first | assumption | omega | (simp only [x_up, x_nw]; omega)) rfl ?_
            rw [Rh_uG]
            refine go_iload_n (pc' := 203) (i := 2) d_Mod_iterate_202 rfl rfl rfl ?_
            refine go_ireturn d_Mod_iterate_203 rfl (by rfl) ?_
            rw [hQ, hpp]
            refine ⟨_, rfl, ?_, ?_, rfl⟩
            · rw [hks] at hSi
              refine Rr.iter hR1 hi hcc hlg2 hSi rfl (by rw [hρ3, hρ2]; rfl) (by rw [hρ3, hρ2]; rfl) (by rw [hρ3, hρ2]; rfl) (by rw [hρ3, hρ2]; rfl) (by rw [hρ3, hρ2]; rfl) (by rw [hρ3, hρ2]; rfl) (by rw [hρ3, hρ2]; rfl) (by rw [hρ3, hρ2]; rfl) (by rw [hρ3, hρ2]; rfl) (by rw [hρ3]; rfl) (by rw [hρ3, hρ2]; rfl) (by rw [hρ3]; rfl) (by rw [hρ3]; rfl) (by rw [hρ3, hρ2]; rfl)
            · rw [hρ3, hρ2]; exact htw
          have inner : ∀ H, H < 256 → (∀ Lf N W x4, x_k x4 = x4 → Si ρ1 c Lf N W ((List.range (H + 1)).flatMap (fun H => q_f ks 4 H)) → Go K M_Mod_iterate d 81 [some (.ref m), some (.int (nI i)), some (.int (nI c)), some (.int (nI (H + 1))), x4] [] (Rh g m (ru_W (ru_N (ru_L ρ2 Lf) N) W)) Q) →
              ∀ r t Lf N W, t + r = ks.length → Si ρ1 c Lf N W ((List.range H).flatMap (fun H => q_f ks 4 H) ++ q_f (ks.take t) 4 H) → Go K M_Mod_iterate d 94 [some (.ref m), some (.int (nI i)), some (.int (nI c)), some (.int (nI H)), some (.int (nI (60 * i + t)))] [] (Rh g m (ru_W (ru_N (ru_L ρ2 Lf) N) W)) Q := by
            intro H hH nxt r
            induction r with
            | zero =>
              intro t Lf N W ht hSi
              refine go_iload (pc' := 96) (i := 4) d_Mod_iterate_94 rfl rfl ?_
              refine go_bipush (pc' := 98) (v := (nI 60)) d_Mod_iterate_96 (by decide) rfl ?_
              refine go_iload_n (pc' := 99) (i := 1) d_Mod_iterate_98 rfl rfl rfl ?_
              refine go_imulN (pc' := 100) d_Mod_iterate_99 rfl ?_
              refine go_aload_n (pc' := 101) (i := 0) d_Mod_iterate_100 rfl rfl (by first | rfl | exact x_r_rf _) rfl ?_
              refine go_getfield (pc' := 104) d_Mod_iterate_101 c_Mod 5 (by decide) t_476 (by first | assumption | exact Rh_0 _ _ _ | exact Rh_1 _ _ _ | exact Rh_2 _ _ _ | exact Rh_3 _ _ _ | exact Rh_4 _ _ _ | exact Rh_5 _ _ _ | exact Rh_6 _ _ _ | exact Rh_7 _ _ _ | exact Rh_8 _ _ _ | exact Rh_9 _ _ _ | exact Rh_10 _ _ _ | exact Rh_11 _ _ _ | exact Rh_12 _ _ _) (by rfl) rfl ?_
              refine go_iload_n (pc' := 105) (i := 1) d_Mod_iterate_104 rfl rfl rfl ?_
              refine go_ialdN (pc' := 106) d_Mod_iterate_105 (by first | assumption | exact Rh_0 _ _ _ | exact Rh_1 _ _ _ | exact Rh_2 _ _ _ | exact Rh_3 _ _ _ | exact Rh_4 _ _ _ | exact Rh_5 _ _ _ | exact Rh_6 _ _ _ | exact Rh_7 _ _ _ | exact Rh_8 _ _ _ | exact Rh_9 _ _ _ | exact Rh_10 _ _ _ | exact Rh_11 _ _ _ | exact Rh_12 _ _ _) (by rfl) (by first | assumption | omega | (simp only [x_up, x_nw]; omega)) (by first | assumption | omega | (simp only [x_up, x_nw]; omega)) rfl ?_
              rw [show r_S (ru_W (ru_N (ru_L ρ2 Lf) N) W) i = nI ks.length from hS2]
              refine go_iaddN (pc' := 107) d_Mod_iterate_106 rfl ?_
              refine go_icmp_geN (tgt := 186) (pc' := 110) d_Mod_iterate_107 (by decide) rfl (by omega) (by omega) (fun hc => ?_) (fun hc => ?_)
              · refine go_iinc (pc' := 189) (i := 3) d_Mod_iterate_186 rfl (x_i1 _) (by decide) (x_s3 (by first | rfl | exact x_k_rf _)) rfl ?_
                refine go_goto (tgt := 81) d_Mod_iterate_189 (by decide) ?_
                refine nxt Lf N W _ rfl ?_
                rw [List.range_succ, List.flatMap_append]
                rw [List.take_of_length_le (by omega)] at hSi
                simpa using hSi
              · omega
            | succ r ih =>
              intro t Lf N W ht hSi
              have htl : t < ks.length := by omega
              obtain ⟨y, hy⟩ : ∃ y, ks[t]? = some y := ⟨_, List.getElem?_eq_getElem htl⟩
              obtain ⟨hKt, hVt⟩ := hKV t y hy
              have hfs := q_ftk (H := H) hy
              refine go_iload (pc' := 96) (i := 4) d_Mod_iterate_94 rfl rfl ?_
              refine go_bipush (pc' := 98) (v := (nI 60)) d_Mod_iterate_96 (by decide) rfl ?_
              refine go_iload_n (pc' := 99) (i := 1) d_Mod_iterate_98 rfl rfl rfl ?_
              refine go_imulN (pc' := 100) d_Mod_iterate_99 rfl ?_
              refine go_aload_n (pc' := 101) (i := 0) d_Mod_iterate_100 rfl rfl (by first | rfl | exact x_r_rf _) rfl ?_
              refine go_getfield (pc' := 104) d_Mod_iterate_101 c_Mod 5 (by decide) t_476 (by first | assumption | exact Rh_0 _ _ _ | exact Rh_1 _ _ _ | exact Rh_2 _ _ _ | exact Rh_3 _ _ _ | exact Rh_4 _ _ _ | exact Rh_5 _ _ _ | exact Rh_6 _ _ _ | exact Rh_7 _ _ _ | exact Rh_8 _ _ _ | exact Rh_9 _ _ _ | exact Rh_10 _ _ _ | exact Rh_11 _ _ _ | exact Rh_12 _ _ _) (by rfl) rfl ?_
              refine go_iload_n (pc' := 105) (i := 1) d_Mod_iterate_104 rfl rfl rfl ?_
              refine go_ialdN (pc' := 106) d_Mod_iterate_105 (by first | assumption | exact Rh_0 _ _ _ | exact Rh_1 _ _ _ | exact Rh_2 _ _ _ | exact Rh_3 _ _ _ | exact Rh_4 _ _ _ | exact Rh_5 _ _ _ | exact Rh_6 _ _ _ | exact Rh_7 _ _ _ | exact Rh_8 _ _ _ | exact Rh_9 _ _ _ | exact Rh_10 _ _ _ | exact Rh_11 _ _ _ | exact Rh_12 _ _ _) (by rfl) (by first | assumption | omega | (simp only [x_up, x_nw]; omega)) (by first | assumption | omega | (simp only [x_up, x_nw]; omega)) rfl ?_
              rw [show r_S (ru_W (ru_N (ru_L ρ2 Lf) N) W) i = nI ks.length from hS2]
              refine go_iaddN (pc' := 107) d_Mod_iterate_106 rfl ?_
              refine go_icmp_geN (tgt := 186) (pc' := 110) d_Mod_iterate_107 (by decide) rfl (by omega) (by omega) (fun hc => ?_) (fun hc => ?_)
              · omega
              · refine go_aload_n (pc' := 111) (i := 0) d_Mod_iterate_110 rfl rfl (by first | rfl | exact x_r_rf _) rfl ?_
                refine go_getfield (pc' := 114) d_Mod_iterate_111 c_Mod 6 (by decide) t_477 (by first | assumption | exact Rh_0 _ _ _ | exact Rh_1 _ _ _ | exact Rh_2 _ _ _ | exact Rh_3 _ _ _ | exact Rh_4 _ _ _ | exact Rh_5 _ _ _ | exact Rh_6 _ _ _ | exact Rh_7 _ _ _ | exact Rh_8 _ _ _ | exact Rh_9 _ _ _ | exact Rh_10 _ _ _ | exact Rh_11 _ _ _ | exact Rh_12 _ _ _) (by rfl) rfl ?_
                refine go_iload (pc' := 116) (i := 4) d_Mod_iterate_114 rfl rfl ?_
                refine go_ialdN (pc' := 117) d_Mod_iterate_116 (by first | assumption | exact Rh_0 _ _ _ | exact Rh_1 _ _ _ | exact Rh_2 _ _ _ | exact Rh_3 _ _ _ | exact Rh_4 _ _ _ | exact Rh_5 _ _ _ | exact Rh_6 _ _ _ | exact Rh_7 _ _ _ | exact Rh_8 _ _ _ | exact Rh_9 _ _ _ | exact Rh_10 _ _ _ | exact Rh_11 _ _ _ | exact Rh_12 _ _ _) (by rfl) (by first | assumption | omega | (simp only [x_up, x_nw]; omega)) (by first | assumption | omega | (simp only [x_up, x_nw]; omega)) rfl ?_
                rw [show r_K (ru_W (ru_N (ru_L ρ2 Lf) N) W) (60 * i + t) = y.1 from hKt]
                refine go_callS (pc' := 120) (M' := M_Mod_hash) [_] d_Mod_iterate_117 t_542 t_543 t_4 cd_Mod_hash nm_Mod_hash rfl rfl (Nat.le_of_ble_eq_true rfl) rfl (m_hash (d := d - 1) y.1) (by first | decide | omega) (Nat.le_of_ble_eq_true rfl) rfl (fun v hh hq => ?_) (fun q g hq => by cases hq.1)
                obtain ⟨e1, e2⟩ := hq
                cases e1
                rw [← e2]
                show Go K M_Mod_iterate d 120 _ [.int (nI (q_h y.1))] _ _
                have hqh := q_h_lt y.1
                refine go_iload_n (pc' := 121) (i := 3) d_Mod_iterate_120 rfl rfl rfl ?_
                refine go_icmp_neN (tgt := 180) (pc' := 124) d_Mod_iterate_121 (by decide) rfl (by omega) (by omega) (fun hc => ?_) (fun hc => ?_)
                · refine go_iinc (pc' := 183) (i := 4) d_Mod_iterate_180 rfl (x_i1 _) (by decide) (x_s4 (by first | rfl | exact x_k_rf _)) rfl ?_
                  refine go_goto (tgt := 94) d_Mod_iterate_183 (by decide) ?_
                  rw [if_neg hc, List.append_nil] at hfs
                  rw [← hfs] at hSi
                  exact ih (t + 1) Lf N W (by omega) hSi
                · rw [if_pos hc] at hfs
                  obtain ⟨L, hLL⟩ : ∃ L, L = (List.range H).flatMap (fun H => q_f ks 4 H) ++ q_f (ks.take t) 4 H := ⟨_, rfl⟩
                  rw [← hLL] at hSi
                  have hL60 : L.length < 60 := by
                    have z1 := q_ftk_le (ks := ks) (t := t + 1) (H := H)
                    rw [hfs, List.length_append] at z1
                    have z2 := q_lt_le (ks := ks) (H + 1)
                    rw [q_lt_1] at z2
                    rw [hLL, List.length_append, q_srt_pre]
                    have z3 : [y].length = 1 := rfl
                    omega
                  have hLc := hSi.1
                  refine go_aload_n (pc' := 125) (i := 0) d_Mod_iterate_124 rfl rfl (by first | rfl | exact x_r_rf _) rfl ?_
                  refine go_getfield (pc' := 128) d_Mod_iterate_125 c_Mod 13 (by decide) t_484 (by first | assumption | exact Rh_0 _ _ _ | exact Rh_1 _ _ _ | exact Rh_2 _ _ _ | exact Rh_3 _ _ _ | exact Rh_4 _ _ _ | exact Rh_5 _ _ _ | exact Rh_6 _ _ _ | exact Rh_7 _ _ _ | exact Rh_8 _ _ _ | exact Rh_9 _ _ _ | exact Rh_10 _ _ _ | exact Rh_11 _ _ _ | exact Rh_12 _ _ _) (by rfl) rfl ?_
                  refine go_bipush (pc' := 130) (v := (nI 60)) d_Mod_iterate_128 (by decide) rfl ?_
                  refine go_iload_n (pc' := 131) (i := 2) d_Mod_iterate_130 rfl rfl rfl ?_
                  refine go_imulN (pc' := 132) d_Mod_iterate_131 rfl ?_
                  refine go_aload_n (pc' := 133) (i := 0) d_Mod_iterate_132 rfl rfl (by first | rfl | exact x_r_rf _) rfl ?_
                  refine go_getfield (pc' := 136) d_Mod_iterate_133 c_Mod 11 (by decide) t_482 (by first | assumption | exact Rh_0 _ _ _ | exact Rh_1 _ _ _ | exact Rh_2 _ _ _ | exact Rh_3 _ _ _ | exact Rh_4 _ _ _ | exact Rh_5 _ _ _ | exact Rh_6 _ _ _ | exact Rh_7 _ _ _ | exact Rh_8 _ _ _ | exact Rh_9 _ _ _ | exact Rh_10 _ _ _ | exact Rh_11 _ _ _ | exact Rh_12 _ _ _) (by rfl) rfl ?_
                  refine go_iload_n (pc' := 137) (i := 2) d_Mod_iterate_136 rfl rfl rfl ?_
                  refine go_ialdN (pc' := 138) d_Mod_iterate_137 (by first | assumption | exact Rh_0 _ _ _ | exact Rh_1 _ _ _ | exact Rh_2 _ _ _ | exact Rh_3 _ _ _ | exact Rh_4 _ _ _ | exact Rh_5 _ _ _ | exact Rh_6 _ _ _ | exact Rh_7 _ _ _ | exact Rh_8 _ _ _ | exact Rh_9 _ _ _ | exact Rh_10 _ _ _ | exact Rh_11 _ _ _ | exact Rh_12 _ _ _) (by rfl) (by first | assumption | omega | (simp only [x_up, x_nw]; omega)) (by first | assumption | omega | (simp only [x_up, x_nw]; omega)) rfl ?_
                  rw [show r_L (ru_W (ru_N (ru_L ρ2 Lf) N) W) c = nI L.length from hLc]
                  refine go_iaddN (pc' := 139) d_Mod_iterate_138 rfl ?_
                  refine go_aload_n (pc' := 140) (i := 0) d_Mod_iterate_139 rfl rfl (by first | rfl | exact x_r_rf _) rfl ?_
                  refine go_getfield (pc' := 143) d_Mod_iterate_140 c_Mod 6 (by decide) t_477 (by first | assumption | exact Rh_0 _ _ _ | exact Rh_1 _ _ _ | exact Rh_2 _ _ _ | exact Rh_3 _ _ _ | exact Rh_4 _ _ _ | exact Rh_5 _ _ _ | exact Rh_6 _ _ _ | exact Rh_7 _ _ _ | exact Rh_8 _ _ _ | exact Rh_9 _ _ _ | exact Rh_10 _ _ _ | exact Rh_11 _ _ _ | exact Rh_12 _ _ _) (by rfl) rfl ?_
                  refine go_iload (pc' := 145) (i := 4) d_Mod_iterate_143 rfl rfl ?_
                  refine go_ialdN (pc' := 146) d_Mod_iterate_145 (by first | assumption | exact Rh_0 _ _ _ | exact Rh_1 _ _ _ | exact Rh_2 _ _ _ | exact Rh_3 _ _ _ | exact Rh_4 _ _ _ | exact Rh_5 _ _ _ | exact Rh_6 _ _ _ | exact Rh_7 _ _ _ | exact Rh_8 _ _ _ | exact Rh_9 _ _ _ | exact Rh_10 _ _ _ | exact Rh_11 _ _ _ | exact Rh_12 _ _ _) (by rfl) (by first | assumption | omega | (simp only [x_up, x_nw]; omega)) (by first | assumption | omega | (simp only [x_up, x_nw]; omega)) rfl ?_
                  rw [show r_K (ru_W (ru_N (ru_L ρ2 Lf) N) W) (60 * i + t) = y.1 from hKt]
                  refine go_iastN (pc' := 147) d_Mod_iterate_146 (by first | assumption | exact Rh_0 _ _ _ | exact Rh_1 _ _ _ | exact Rh_2 _ _ _ | exact Rh_3 _ _ _ | exact Rh_4 _ _ _ | exact Rh_5 _ _ _ | exact Rh_6 _ _ _ | exact Rh_7 _ _ _ | exact Rh_8 _ _ _ | exact Rh_9 _ _ _ | exact Rh_10 _ _ _ | exact Rh_11 _ _ _ | exact Rh_12 _ _ _) (by rfl) (by first | assumption | omega | (simp only [x_up, x_nw]; omega)) (by first | assumption | omega | (simp only [x_up, x_nw]; omega)) rfl ?_
                  rw [Rh_uN]
                  show Go K M_Mod_iterate d 147 _ [] (Rh g m (ru_W (ru_N (ru_L ρ2 Lf) (va_up N (60 * c + L.length) y.1)) W)) Q
                  refine go_aload_n (pc' := 148) (i := 0) d_Mod_iterate_147 rfl rfl (by first | rfl | exact x_r_rf _) rfl ?_
                  refine go_getfield (pc' := 151) d_Mod_iterate_148 c_Mod 14 (by decide) t_485 (by first | assumption | exact Rh_0 _ _ _ | exact Rh_1 _ _ _ | exact Rh_2 _ _ _ | exact Rh_3 _ _ _ | exact Rh_4 _ _ _ | exact Rh_5 _ _ _ | exact Rh_6 _ _ _ | exact Rh_7 _ _ _ | exact Rh_8 _ _ _ | exact Rh_9 _ _ _ | exact Rh_10 _ _ _ | exact Rh_11 _ _ _ | exact Rh_12 _ _ _) (by rfl) rfl ?_
                  refine go_bipush (pc' := 153) (v := (nI 60)) d_Mod_iterate_151 (by decide) rfl ?_
                  refine go_iload_n (pc' := 154) (i := 2) d_Mod_iterate_153 rfl rfl rfl ?_
                  refine go_imulN (pc' := 155) d_Mod_iterate_154 rfl ?_
                  refine go_aload_n (pc' := 156) (i := 0) d_Mod_iterate_155 rfl rfl (by first | rfl | exact x_r_rf _) rfl ?_
                  refine go_getfield (pc' := 159) d_Mod_iterate_156 c_Mod 11 (by decide) t_482 (by first | assumption | exact Rh_0 _ _ _ | exact Rh_1 _ _ _ | exact Rh_2 _ _ _ | exact Rh_3 _ _ _ | exact Rh_4 _ _ _ | exact Rh_5 _ _ _ | exact Rh_6 _ _ _ | exact Rh_7 _ _ _ | exact Rh_8 _ _ _ | exact Rh_9 _ _ _ | exact Rh_10 _ _ _ | exact Rh_11 _ _ _ | exact Rh_12 _ _ _) (by rfl) rfl ?_
                  refine go_iload_n (pc' := 160) (i := 2) d_Mod_iterate_159 rfl rfl rfl ?_
                  refine go_ialdN (pc' := 161) d_Mod_iterate_160 (by first | assumption | exact Rh_0 _ _ _ | exact Rh_1 _ _ _ | exact Rh_2 _ _ _ | exact Rh_3 _ _ _ | exact Rh_4 _ _ _ | exact Rh_5 _ _ _ | exact Rh_6 _ _ _ | exact Rh_7 _ _ _ | exact Rh_8 _ _ _ | exact Rh_9 _ _ _ | exact Rh_10 _ _ _ | exact Rh_11 _ _ _ | exact Rh_12 _ _ _) (by rfl) (by first | assumption | omega | (simp only [x_up, x_nw]; omega)) (by first | assumption | omega | (simp only [x_up, x_nw]; omega)) rfl ?_
                  rw [show r_L (ru_W (ru_N (ru_L ρ2 Lf) (va_up N (60 * c + L.length) y.1)) W) c = nI L.length from hLc]
                  refine go_iaddN (pc' := 162) d_Mod_iterate_161 rfl ?_
                  refine go_aload_n (pc' := 163) (i := 0) d_Mod_iterate_162 rfl rfl (by first | rfl | exact x_r_rf _) rfl ?_
                  refine go_getfield (pc' := 166) d_Mod_iterate_163 c_Mod 7 (by decide) t_478 (by first | assumption | exact Rh_0 _ _ _ | exact Rh_1 _ _ _ | exact Rh_2 _ _ _ | exact Rh_3 _ _ _ | exact Rh_4 _ _ _ | exact Rh_5 _ _ _ | exact Rh_6 _ _ _ | exact Rh_7 _ _ _ | exact Rh_8 _ _ _ | exact Rh_9 _ _ _ | exact Rh_10 _ _ _ | exact Rh_11 _ _ _ | exact Rh_12 _ _ _) (by rfl) rfl ?_
                  refine go_iload (pc' := 168) (i := 4) d_Mod_iterate_166 rfl rfl ?_
                  refine go_laldN (pc' := 169) d_Mod_iterate_168 (by first | assumption | exact Rh_0 _ _ _ | exact Rh_1 _ _ _ | exact Rh_2 _ _ _ | exact Rh_3 _ _ _ | exact Rh_4 _ _ _ | exact Rh_5 _ _ _ | exact Rh_6 _ _ _ | exact Rh_7 _ _ _ | exact Rh_8 _ _ _ | exact Rh_9 _ _ _ | exact Rh_10 _ _ _ | exact Rh_11 _ _ _ | exact Rh_12 _ _ _) (by rfl) (by first | assumption | omega | (simp only [x_up, x_nw]; omega)) (by first | assumption | omega | (simp only [x_up, x_nw]; omega)) rfl ?_
                  rw [show r_V (ru_W (ru_N (ru_L ρ2 Lf) (va_up N (60 * c + L.length) y.1)) W) (60 * i + t) = y.2 from hVt]
                  refine go_lastN (pc' := 170) d_Mod_iterate_169 (by first | assumption | exact Rh_0 _ _ _ | exact Rh_1 _ _ _ | exact Rh_2 _ _ _ | exact Rh_3 _ _ _ | exact Rh_4 _ _ _ | exact Rh_5 _ _ _ | exact Rh_6 _ _ _ | exact Rh_7 _ _ _ | exact Rh_8 _ _ _ | exact Rh_9 _ _ _ | exact Rh_10 _ _ _ | exact Rh_11 _ _ _ | exact Rh_12 _ _ _) (by rfl) (by first | assumption | omega | (simp only [x_up, x_nw]; omega)) (by first | assumption | omega | (simp only [x_up, x_nw]; omega)) rfl ?_
                  rw [Rh_uW]
                  show Go K M_Mod_iterate d 170 _ [] (Rh g m (ru_W (ru_N (ru_L ρ2 Lf) (va_up N (60 * c + L.length) y.1)) (va_up W (60 * c + L.length) y.2))) Q
                  refine go_aload_n (pc' := 171) (i := 0) d_Mod_iterate_170 rfl rfl (by first | rfl | exact x_r_rf _) rfl ?_
                  refine go_getfield (pc' := 174) d_Mod_iterate_171 c_Mod 11 (by decide) t_482 (by first | assumption | exact Rh_0 _ _ _ | exact Rh_1 _ _ _ | exact Rh_2 _ _ _ | exact Rh_3 _ _ _ | exact Rh_4 _ _ _ | exact Rh_5 _ _ _ | exact Rh_6 _ _ _ | exact Rh_7 _ _ _ | exact Rh_8 _ _ _ | exact Rh_9 _ _ _ | exact Rh_10 _ _ _ | exact Rh_11 _ _ _ | exact Rh_12 _ _ _) (by rfl) rfl ?_
                  refine go_iload_n (pc' := 175) (i := 2) d_Mod_iterate_174 rfl rfl rfl ?_
                  refine go_dup2 (pc' := 176) d_Mod_iterate_175 rfl rfl rfl ?_
                  refine go_ialdN (pc' := 177) d_Mod_iterate_176 (by first | assumption | exact Rh_0 _ _ _ | exact Rh_1 _ _ _ | exact Rh_2 _ _ _ | exact Rh_3 _ _ _ | exact Rh_4 _ _ _ | exact Rh_5 _ _ _ | exact Rh_6 _ _ _ | exact Rh_7 _ _ _ | exact Rh_8 _ _ _ | exact Rh_9 _ _ _ | exact Rh_10 _ _ _ | exact Rh_11 _ _ _ | exact Rh_12 _ _ _) (by rfl) (by first | assumption | omega | (simp only [x_up, x_nw]; omega)) (by first | assumption | omega | (simp only [x_up, x_nw]; omega)) rfl ?_
                  rw [show r_L (ru_W (ru_N (ru_L ρ2 Lf) (va_up N (60 * c + L.length) y.1)) (va_up W (60 * c + L.length) y.2)) c = nI L.length from hLc]
                  refine go_iconst (pc' := 178) (v := (nI 1)) d_Mod_iterate_177 (by decide) rfl ?_
                  refine go_iaddN (pc' := 179) d_Mod_iterate_178 rfl ?_
                  refine go_iastN (pc' := 180) d_Mod_iterate_179 (by first | assumption | exact Rh_0 _ _ _ | exact Rh_1 _ _ _ | exact Rh_2 _ _ _ | exact Rh_3 _ _ _ | exact Rh_4 _ _ _ | exact Rh_5 _ _ _ | exact Rh_6 _ _ _ | exact Rh_7 _ _ _ | exact Rh_8 _ _ _ | exact Rh_9 _ _ _ | exact Rh_10 _ _ _ | exact Rh_11 _ _ _ | exact Rh_12 _ _ _) (by rfl) (by first | assumption | omega | (simp only [x_up, x_nw]; omega)) (by first | assumption | omega | (simp only [x_up, x_nw]; omega)) rfl ?_
                  rw [Rh_uL]
                  refine go_iinc (pc' := 183) (i := 4) d_Mod_iterate_180 rfl (x_i1 _) (by decide) (x_s4 (by first | rfl | exact x_k_rf _)) rfl ?_
                  refine go_goto (tgt := 94) d_Mod_iterate_183 (by decide) ?_
                  refine ih (t + 1) (va_up Lf c (nI (L.length + 1))) (va_up N (60 * c + L.length) y.1) (va_up W (60 * c + L.length) y.2) (by omega) ?_
                  rw [hfs, ← List.append_assoc, ← hLL]
                  exact hSi.app hL60
          have outer : ∀ r H Lf N W x4, x_k x4 = x4 → H + r = 256 → Si ρ1 c Lf N W ((List.range H).flatMap (fun H => q_f ks 4 H)) → Go K M_Mod_iterate d 81 [some (.ref m), some (.int (nI i)), some (.int (nI c)), some (.int (nI H)), x4] [] (Rh g m (ru_W (ru_N (ru_L ρ2 Lf) N) W)) Q := by
            intro r
            induction r with
            | zero =>
              intro H Lf N W x4 hx4 hH hSi
              have : H = 256 := by omega
              subst this
              refine go_iload_n (pc' := 82) (i := 3) d_Mod_iterate_81 rfl rfl rfl ?_
              refine go_sipush (pc' := 85) (v := (nI 256)) d_Mod_iterate_82 (by decide) rfl ?_
              refine go_icmp_geN (tgt := 192) (pc' := 88) d_Mod_iterate_85 (by decide) rfl (by omega) (by omega) (fun hc => ?_) (fun hc => ?_)
              · exact last Lf N W _ _ rfl hx4 hSi
              · omega
            | succ r ih =>
              intro H Lf N W x4 hx4 hH hSi
              refine go_iload_n (pc' := 82) (i := 3) d_Mod_iterate_81 rfl rfl rfl ?_
              refine go_sipush (pc' := 85) (v := (nI 256)) d_Mod_iterate_82 (by decide) rfl ?_
              refine go_icmp_geN (tgt := 192) (pc' := 88) d_Mod_iterate_85 (by decide) rfl (by omega) (by omega) (fun hc => ?_) (fun hc => ?_)
              · omega
              · refine go_bipush (pc' := 90) (v := (nI 60)) d_Mod_iterate_88 (by decide) rfl ?_
                refine go_iload_n (pc' := 91) (i := 1) d_Mod_iterate_90 rfl rfl rfl ?_
                refine go_imulN (pc' := 92) d_Mod_iterate_91 rfl ?_
                refine go_istore (pc' := 94) (i := 4) d_Mod_iterate_92 (by decide) (x_s4 (by first | rfl | exact x_k_rf _)) rfl ?_
                refine inner H (by omega) (fun Lf N W x4 hx4 hS => ih (H + 1) Lf N W x4 hx4 (by omega) hS) ks.length 0 Lf N W (by omega) ?_
                show Si ρ1 c Lf N W (_ ++ [])
                rw [List.append_nil]
                exact hSi
          refine go_iconst (pc' := 80) (v := (nI 0)) d_Mod_iterate_79 (by decide) rfl ?_
          refine go_istore_n (pc' := 81) (i := 3) d_Mod_iterate_80 rfl (by decide) (x_s3 (by first | rfl | exact x_k_rf _)) rfl ?_
          have := outer 256 0 (va_up (r_L ρ1) c (nI 0)) (r_N ρ1) (r_W ρ1) x4 hx4 (by omega) ⟨va_up_self _ _ _, fun c' hc' => va_up_ne _ _ hc', fun a ha => ⟨rfl, rfl⟩, fun j y hy => by cases hy⟩
          have e9 : ru_W (ru_N (ru_L ρ2 (va_up (r_L ρ1) c (nI 0))) (r_N ρ1)) (r_W ρ1) = ru_L ρ2 (va_up (r_L ρ1) c (nI 0)) := by rw [hρ2]; rfl
          rw [e9] at this
          exact this
        · exact absurd (show (0 : Int32) ≤ nI c from by rw [show (0 : Int32) = nI 0 from rfl, nI_leI (by omega) (by omega)]; omega) hc
    have loop : ∀ n v, n ≤ 4 → q_ls (s_us σ) 4 n v → Go K M_Mod_iterate d 23 [some (.ref m), some (.int (nI i)), some (.int v), some (.int (nI n + Int32.ofInt (-1))), none] [] (Rh g m ρ1) Q := by
      intro n
      induction n with
      | zero =>
        intro v _ hv
        refine go_iload_n (pc' := 24) (i := 3) d_Mod_iterate_23 rfl rfl rfl ?_
        refine go_if_lt (tgt := 48) (pc' := 27) d_Mod_iterate_24 (by decide) rfl (fun hc => ?_) (fun hc => ?_)
        · exact fin v _ _ rfl rfl hv
        · exact absurd (by decide) hc
      | succ n ih =>
        intro v hn hv
        rw [x_im (show 1 ≤ n + 1 by omega), Nat.add_sub_cancel]
        refine go_iload_n (pc' := 24) (i := 3) d_Mod_iterate_23 rfl rfl rfl ?_
        refine go_if_lt (tgt := 48) (pc' := 27) d_Mod_iterate_24 (by decide) rfl (fun hc => ?_) (fun hc => ?_)
        · exact absurd ((nI_ltI (by omega) (by omega)).mp (show nI n < nI 0 from hc)) (by omega)
        · refine go_aload_n (pc' := 28) (i := 0) d_Mod_iterate_27 rfl rfl (by first | rfl | exact x_r_rf _) rfl ?_
          refine go_getfield (pc' := 31) d_Mod_iterate_28 c_Mod 10 (by decide) t_481 (by first | assumption | exact Rh_0 _ _ _ | exact Rh_1 _ _ _ | exact Rh_2 _ _ _ | exact Rh_3 _ _ _ | exact Rh_4 _ _ _ | exact Rh_5 _ _ _ | exact Rh_6 _ _ _ | exact Rh_7 _ _ _ | exact Rh_8 _ _ _ | exact Rh_9 _ _ _ | exact Rh_10 _ _ _ | exact Rh_11 _ _ _ | exact Rh_12 _ _ _) (by rfl) rfl ?_
          refine go_iload_n (pc' := 32) (i := 3) d_Mod_iterate_31 rfl rfl rfl ?_
          refine go_zaldN (pc' := 33) d_Mod_iterate_32 (by first | assumption | exact Rh_0 _ _ _ | exact Rh_1 _ _ _ | exact Rh_2 _ _ _ | exact Rh_3 _ _ _ | exact Rh_4 _ _ _ | exact Rh_5 _ _ _ | exact Rh_6 _ _ _ | exact Rh_7 _ _ _ | exact Rh_8 _ _ _ | exact Rh_9 _ _ _ | exact Rh_10 _ _ _ | exact Rh_11 _ _ _ | exact Rh_12 _ _ _) (by rfl) (by first | assumption | omega | (simp only [x_up, x_nw]; omega)) (by first | assumption | omega | (simp only [x_up, x_nw]; omega)) rfl ?_
          rw [hU n (by omega)]
          have go42 : ∀ v', q_ls (s_us σ) 4 n v' → Go K M_Mod_iterate d 42 [some (.ref m), some (.int (nI i)), some (.int v'), some (.int (nI n)), none] [] (Rh g m ρ1) Q := by
            intro v' hv'
            refine go_iinc (pc' := 45) (i := 3) d_Mod_iterate_42 rfl rfl (by decide) (x_s3 rfl) rfl ?_
            refine go_goto (tgt := 23) d_Mod_iterate_45 (by decide) ?_
            exact ih v' (by omega) hv'
          cases htn : s_us σ n with
          | true =>
            refine go_if_eq (tgt := 40) (pc' := 36) d_Mod_iterate_33 (by decide) rfl (fun hc => ?_) (fun hc => ?_)
            · cases hc
            · refine go_iload_n (pc' := 37) (i := 2) d_Mod_iterate_36 rfl rfl rfl ?_
              refine go_goto (tgt := 41) d_Mod_iterate_37 (by decide) ?_
              refine go_istore_n (pc' := 42) (i := 2) d_Mod_iterate_41 rfl (by decide) (x_s2 (by first | rfl | exact x_k_rf _)) rfl ?_
              exact go42 v (q_ls_t hv htn)
          | false =>
            refine go_if_eq (tgt := 40) (pc' := 36) d_Mod_iterate_33 (by decide) rfl (fun hc => ?_) (fun hc => ?_)
            · refine go_iload_n (pc' := 41) (i := 3) d_Mod_iterate_40 rfl rfl rfl ?_
              refine go_istore_n (pc' := 42) (i := 2) d_Mod_iterate_41 rfl (by decide) (x_s2 (by first | rfl | exact x_k_rf _)) rfl ?_
              exact go42 _ (q_ls_f (by omega) htn)
            · exact absurd rfl hc
    refine go_if_eq (tgt := 19) (pc' := 13) d_Mod_iterate_10 (by decide) rfl (fun hc => ?_) (fun hc => ?_)
    · refine go_iconst (pc' := 20) (v := (-1)) d_Mod_iterate_19 (by decide) rfl ?_
      refine go_istore_n (pc' := 21) (i := 2) d_Mod_iterate_20 rfl (by decide) (x_s2 (by first | rfl | exact x_k_rf _)) rfl ?_
      refine go_iconst (pc' := 22) (v := (nI 3)) d_Mod_iterate_21 (by decide) rfl ?_
      refine go_istore_n (pc' := 23) (i := 3) d_Mod_iterate_22 rfl (by decide) (x_s3 (by first | rfl | exact x_k_rf _)) rfl ?_
      have := loop 4 (-1) (by omega) (q_ls_st _ _)
      rw [show nI 4 + Int32.ofInt (-1) = nI 3 by decide] at this
      exact this
    · exact absurd rfl hc
end RO2
