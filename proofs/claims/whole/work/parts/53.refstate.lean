/-! the reference's arrays and the state -/
def Sn (ρ : Rt) (c : Nat) (L : List KV) (f : Nat) : Prop := r_L ρ c = nI L.length ∧ r_F ρ c = nI f ∧ f ≤ L.length ∧ L.length ≤ 60 ∧ ∀ j y, L[j]? = some y → r_N ρ (60 * c + j) = y.1 ∧ r_W ρ (60 * c + j) = y.2
def Rr (σ : Sg) (ρ : Rt) : Prop := r_lg ρ = nI (s_lg σ) ∧ (∀ i, i < 6 → r_T ρ i = if s_th σ i then 1 else 0) ∧ (∀ i, i < 6 → r_R ρ i = s_ro σ i) ∧ (∀ i, i < 6 → r_G ρ i = nI (s_gn σ i)) ∧ (∀ i, i < 6 → Ls ρ i (s_ks σ i)) ∧ (∀ i, i < 6 → Bs (r_B ρ) i (s_bl σ i)) ∧ r_lc ρ = nI (s_lc σ) ∧
  (∀ c, c < 4 → r_U ρ c = if s_us σ c then 1 else 0) ∧ (∀ c, c < 4 → s_us σ c = true → Sn ρ c (s_sn σ c) (s_fa σ c)) ∧ r_vl ρ = s_vl σ ∧ (∀ i l p, i < 6 → s_bl σ i l p ≤ s_lg σ) ∧ (∀ i, i < 6 → s_gn σ i ≤ s_lg σ) ∧ s_lg σ < 2 ^ 20 ∧ ∀ i, i < 6 → Ko (s_ks σ i)
/-- the reference's answer -/
def Qm (g : x_H) (m : Nat) (r : Sg × (Option Value ⊕ Nat)) (code : Nat → Nat) (w0 : Value) : x_O → x_H → Prop := x_rt (fun v f => ∃ ρ', f = Rh g m ρ' ∧ Rr r.1 ρ' ∧
  (match r.2 with
    | .inl w => r_tw ρ' = nI 0 ∧ v = w
    | .inr k => r_tw ρ' = nI (code k) ∧ v = some w0))
section RE2
variable {K : x_K} {d : Nat} {h g : x_H} {m i : Nat} {ρ ρ' : Rt} {ks : List KV} {bl : Nat → Nat → Nat} {σ : Sg}
theorem Rr.wr (hR : Rr σ ρ) (hi : i < 6) (e1 : r_lg ρ' = r_lg ρ) (e2 : r_T ρ' = r_T ρ) (e3 : r_R ρ' = r_R ρ) (e4 : r_G ρ' = r_G ρ) (e5 : r_U ρ' = r_U ρ) (e6 : r_L ρ' = r_L ρ) (e7 : r_F ρ' = r_F ρ) (e8 : r_N ρ' = r_N ρ) (e9 : r_W ρ' = r_W ρ) (e10 : r_vl ρ' = r_vl ρ)
    {ks' : List KV} {bl' : Nat → Nat → Nat} {lc : Nat} (hL : Ls ρ' i ks') (hLo : ∀ j, j < 6 → j ≠ i → Ls ρ' j (s_ks σ j)) (hB : Bs (r_B ρ') i bl') (hBo : ∀ b, ¬ (341 * i ≤ b ∧ b < 341 * i + 341) → r_B ρ' b = r_B ρ b) (hlc : r_lc ρ' = nI lc) (hbl : ∀ l p, bl' l p ≤ s_lg σ) (hK : Ko ks') : Rr (p_wr σ i ks' bl' lc) ρ' := by
  obtain ⟨a1, a2, a3, a4, a5, a6, a7, a8, a9, a10, a11, a12, a13, a14⟩ := hR
  refine ⟨e1.trans a1, by rw [e2]; exact a2, by rw [e3]; exact a3, by rw [e4]; exact a4, fun j hj => ?_, fun j hj => ?_, hlc, by rw [e5]; exact a8, fun c hc hu => ?_, e10.trans a10, fun j l p hj => ?_, a12, a13, fun j hj => ?_⟩
  · show Ls ρ' j (va_up (s_ks σ) i ks' j)
    by_cases hji : j = i
    · subst hji; rw [va_up_self]; exact hL
    · rw [va_up_ne _ _ hji]; exact hLo j hj hji
  · show Bs (r_B ρ') j (va_up (s_bl σ) i bl' j)
    by_cases hji : j = i
    · subst hji; rw [va_up_self]; exact hB
    · rw [va_up_ne _ _ hji]
      intro l p hl hp
      have := q_bf_lt l hl
      rw [hBo _ (by omega)]
      exact a6 j hj l p hl hp
  · obtain ⟨b1, b2, b3, b4, b5⟩ := a9 c hc hu
    exact ⟨by rw [e6]; exact b1, by rw [e7]; exact b2, b3, b4, by rw [e8, e9]; exact b5⟩
  · show va_up (s_bl σ) i bl' j l p ≤ s_lg σ
    by_cases hji : j = i
    · subst hji; rw [va_up_self]; exact hbl l p
    · rw [va_up_ne _ _ hji]; exact a11 j l p hj
  · show Ko (va_up (s_ks σ) i ks' j)
    by_cases hji : j = i
    · subst hji; rw [va_up_self]; exact hK
    · rw [va_up_ne _ _ hji]; exact a14 j hj
theorem q_bw_le {g lg : Nat} {key : Int32} (hb : ∀ l p, bl l p ≤ lg) (hg : g ≤ lg) : ∀ l p, q_bw ks bl g key l p ≤ lg := fun l p => by
  unfold q_bw
  split
  · exact hg
  · exact hb l p
theorem q_bp_le {g lg : Nat} {key : Int32} (hb : ∀ l p, bl l p ≤ lg) (hg : g ≤ lg) : ∀ l p, q_bp ks bl g key l p ≤ lg := fun l p => by
  unfold q_bp
  split
  · exact hb l p
  · unfold q_ba
    split
    · exact hg
    · exact hb l p
theorem Ls.get {key : Int32} {j : Nat} {y : KV} (hK : Ko ks) (hy : ks[j]? = some y) (hk : y.1 = key) : q_get ks key = some y := by
  have hm : y ∈ ks := List.mem_of_getElem? hy
  cases hg : q_get ks key with
  | none =>
    unfold q_get at hg
    rw [List.find?_eq_none] at hg
    exact absurd (by simpa using hk) (hg y hm)
  | some z =>
    have hz := List.find?_some hg
    have hzm := List.mem_of_find?_eq_some hg
    have hzk : z.1 = key := by simpa using hz
    have : z = y := by
      obtain ⟨a, ha⟩ := List.mem_iff_getElem?.mp hzm
      have ha' := List.getElem?_eq_some_iff.mp ha
      have hj' := List.getElem?_eq_some_iff.mp hy
      obtain ⟨al, ae⟩ := ha'
      obtain ⟨jl, je⟩ := hj'
      have : a = j := by
        have hpw := List.pairwise_iff_getElem.mp hK.2.1
        rcases Nat.lt_trichotomy a j with hlt | heq | hgt
        · have := hpw a j (by simpa using al) (by simpa using jl) hlt
          simp only [List.getElem_map] at this
          rw [ae, je, hzk, hk] at this
          exact absurd rfl this
        · exact heq
        · have := hpw j a (by simpa using jl) (by simpa using al) hgt
          simp only [List.getElem_map] at this
          rw [ae, je, hzk, hk] at this
          exact absurd rfl this
      subst this
      rw [← ae, je]
    rw [this]
set_option maxRecDepth 100000 in
theorem m_get (hR : Rr σ ρ) (mm key : Int32) (hd : 8 ≤ d) : Go K M_Mod_get d 0 [some (.ref m), some (.int mm), some (.int key), none] [] (Rh g m ρ) (Qm g m (p_Get σ mm key) (fun k => if k = 11 then 1 else 2) (.long 0)) := by
  refine go_aload_n (pc' := 1) (i := 0) d_Mod_get_0 rfl rfl (by first | rfl | exact x_r_rf _) rfl ?_
  refine go_iconst (pc' := 2) (v := (nI 0)) d_Mod_get_1 (by decide) rfl ?_
  refine go_putfield (pc' := 5) d_Mod_get_2 c_Mod 0 (by decide) rfl t_471 (by first | assumption | exact Rh_0 _ _ _ | exact Rh_1 _ _ _ | exact Rh_2 _ _ _ | exact Rh_3 _ _ _ | exact Rh_4 _ _ _ | exact Rh_5 _ _ _ | exact Rh_6 _ _ _ | exact Rh_7 _ _ _ | exact Rh_8 _ _ _ | exact Rh_9 _ _ _ | exact Rh_10 _ _ _ | exact Rh_11 _ _ _ | exact Rh_12 _ _ _) (by rfl) (by rfl) (by first | exact Nat.le_of_ble_eq_true rfl | simp) rfl ?_
  rw [Rh_utw]
  obtain ⟨ρ1, hρ1⟩ : ∃ ρ1, ρ1 = ru_tw ρ (nI 0) := ⟨_, rfl⟩
  rw [← hρ1]
  have hR1 : Rr σ ρ1 := by rw [hρ1]; exact hR
  have htw : r_tw ρ1 = nI 0 := by rw [hρ1]; rfl
  refine go_aload_n (pc' := 6) (i := 0) d_Mod_get_5 rfl rfl (by first | rfl | exact x_r_rf _) rfl ?_
  refine go_iload_n (pc' := 7) (i := 1) d_Mod_get_6 rfl rfl rfl ?_
  refine go_callV (pc' := 10) (M' := M_Mod_none) (ci := 6) (r := (n_Mod, T_Mod, 16)) [_] d_Mod_get_7 t_530 t_532 sp_Mod_none cd_Mod_none nm_Mod_none rfl (by rfl) (by first | assumption | exact Rh_0 _ _ _ | exact Rh_1 _ _ _ | exact Rh_2 _ _ _ | exact Rh_3 _ _ _ | exact Rh_4 _ _ _ | exact Rh_5 _ _ _ | exact Rh_6 _ _ _ | exact Rh_7 _ _ _ | exact Rh_8 _ _ _ | exact Rh_9 _ _ _ | exact Rh_10 _ _ _ | exact Rh_11 _ _ _ | exact Rh_12 _ _ _) rfl (Nat.le_of_ble_eq_true rfl) rfl (m_none (d := d - 1) hR1.2.1 mm) (by first | decide | omega) (Nat.le_of_ble_eq_true rfl) rfl (fun v hh hq => ?_) (fun q g hq => by cases hq.1)
  obtain ⟨e1, e2⟩ := hq
  cases e1
  rw [← e2]
  show Go K M_Mod_get d 10 _ [_] _ _
  cases hp : p_map σ mm with
  | none =>
    refine go_if_eq (tgt := 20) (pc' := 13) d_Mod_get_10 (by decide) rfl (fun hc => ?_) (fun hc => ?_)
    · cases hc
    · refine go_aload_n (pc' := 14) (i := 0) d_Mod_get_13 rfl rfl (by first | rfl | exact x_r_rf _) rfl ?_
      refine go_iconst (pc' := 15) (v := (nI 1)) d_Mod_get_14 (by decide) rfl ?_
      refine go_callV (pc' := 18) (M' := M_Mod_fail) (ci := 6) (r := (n_Mod, T_Mod, 16)) [_] d_Mod_get_15 t_534 t_536 sp_Mod_fail cd_Mod_fail nm_Mod_fail rfl (by rfl) (by first | assumption | exact Rh_0 _ _ _ | exact Rh_1 _ _ _ | exact Rh_2 _ _ _ | exact Rh_3 _ _ _ | exact Rh_4 _ _ _ | exact Rh_5 _ _ _ | exact Rh_6 _ _ _ | exact Rh_7 _ _ _ | exact Rh_8 _ _ _ | exact Rh_9 _ _ _ | exact Rh_10 _ _ _ | exact Rh_11 _ _ _ | exact Rh_12 _ _ _) rfl (Nat.le_of_ble_eq_true rfl) rfl (m_fail (d := d - 1) (nI 1)) (by first | decide | omega) (Nat.le_of_ble_eq_true rfl) rfl (fun v hh hq => ?_) (fun q g hq => by cases hq.1)
      obtain ⟨e1, e2⟩ := hq
      cases e1
      rw [← e2]
      show Go K M_Mod_get d 18 _ [_] _ _
      refine go_i2l (pc' := 19) d_Mod_get_18 rfl rfl ?_
      refine go_lreturn d_Mod_get_19 rfl ?_
      unfold p_Get
      rw [hp]
      exact ⟨_, rfl, hR1, rfl, rfl⟩
  | some i =>
    obtain ⟨rfl, hi, hth⟩ := p_map_inv hp
    refine go_if_eq (tgt := 20) (pc' := 13) d_Mod_get_10 (by decide) rfl (fun hc => ?_) (fun hc => ?_)
    · have hL := hR1.2.2.2.2.1 i hi
      refine go_aload_n (pc' := 21) (i := 0) d_Mod_get_20 rfl rfl (by first | rfl | exact x_r_rf _) rfl ?_
      refine go_iload_n (pc' := 22) (i := 1) d_Mod_get_21 rfl rfl rfl ?_
      refine go_iload_n (pc' := 23) (i := 2) d_Mod_get_22 rfl rfl rfl ?_
      refine go_callV (pc' := 26) (M' := M_Mod_find) (ci := 6) (r := (n_Mod, T_Mod, 16)) [_, _] d_Mod_get_23 t_538 t_540 sp_Mod_find cd_Mod_find nm_Mod_find rfl (by rfl) (by first | assumption | exact Rh_0 _ _ _ | exact Rh_1 _ _ _ | exact Rh_2 _ _ _ | exact Rh_3 _ _ _ | exact Rh_4 _ _ _ | exact Rh_5 _ _ _ | exact Rh_6 _ _ _ | exact Rh_7 _ _ _ | exact Rh_8 _ _ _ | exact Rh_9 _ _ _ | exact Rh_10 _ _ _ | exact Rh_11 _ _ _ | exact Rh_12 _ _ _) rfl (Nat.le_of_ble_eq_true rfl) rfl (m_find (d := d - 1) hL hi key) (by first | decide | omega) (Nat.le_of_ble_eq_true rfl) rfl (fun v hh hq => ?_) (fun q g hq => hq.elim)
      obtain ⟨e2, hq⟩ := hq
      rw [← e2]
      rcases hq with ⟨hno, rfl⟩ | ⟨j, y, hy, hk, rfl⟩
      · show Go K M_Mod_get d 26 _ [_] _ _
        refine go_istore_n (pc' := 27) (i := 3) d_Mod_get_26 rfl (by decide) (x_s3 (by first | rfl | exact x_k_rf _)) rfl ?_
        refine go_iload_n (pc' := 28) (i := 3) d_Mod_get_27 rfl rfl rfl ?_
        refine go_if_ge (tgt := 40) (pc' := 31) d_Mod_get_28 (by decide) rfl (fun hc => ?_) (fun hc => ?_)
        · exact absurd hc (by decide)
        · refine go_aload_n (pc' := 32) (i := 0) d_Mod_get_31 rfl rfl (by first | rfl | exact x_r_rf _) rfl ?_
          refine go_iconst (pc' := 33) (v := (nI 2)) d_Mod_get_32 (by decide) rfl ?_
          refine go_callV (pc' := 36) (M' := M_Mod_fail) (ci := 6) (r := (n_Mod, T_Mod, 16)) [_] d_Mod_get_33 t_534 t_536 sp_Mod_fail cd_Mod_fail nm_Mod_fail rfl (by rfl) (by first | assumption | exact Rh_0 _ _ _ | exact Rh_1 _ _ _ | exact Rh_2 _ _ _ | exact Rh_3 _ _ _ | exact Rh_4 _ _ _ | exact Rh_5 _ _ _ | exact Rh_6 _ _ _ | exact Rh_7 _ _ _ | exact Rh_8 _ _ _ | exact Rh_9 _ _ _ | exact Rh_10 _ _ _ | exact Rh_11 _ _ _ | exact Rh_12 _ _ _) rfl (Nat.le_of_ble_eq_true rfl) rfl (m_fail (d := d - 1) (nI 2)) (by first | decide | omega) (Nat.le_of_ble_eq_true rfl) rfl (fun v hh hq => ?_) (fun q g hq => by cases hq.1)
          obtain ⟨e1, e2⟩ := hq
          cases e1
          rw [← e2]
          show Go K M_Mod_get d 36 _ [_] _ _
          refine go_i2l (pc' := 37) d_Mod_get_36 rfl rfl ?_
          refine go_goto (tgt := 46) d_Mod_get_37 (by decide) ?_
          refine go_lreturn d_Mod_get_46 rfl ?_
          unfold p_Get
          rw [hp]
          simp only [hno]
          exact ⟨_, rfl, hR1, rfl, rfl⟩
      · have hj := (List.getElem?_eq_some_iff.mp hy).1
        have h60 := hL.2.1
        show Go K M_Mod_get d 26 _ [_] _ _
        refine go_istore_n (pc' := 27) (i := 3) d_Mod_get_26 rfl (by decide) (x_s3 (by first | rfl | exact x_k_rf _)) rfl ?_
        refine go_iload_n (pc' := 28) (i := 3) d_Mod_get_27 rfl rfl rfl ?_
        refine go_if_ge (tgt := 40) (pc' := 31) d_Mod_get_28 (by decide) rfl (fun hc => ?_) (fun hc => ?_)
        · refine go_aload_n (pc' := 41) (i := 0) d_Mod_get_40 rfl rfl (by first | rfl | exact x_r_rf _) rfl ?_
          refine go_getfield (pc' := 44) d_Mod_get_41 c_Mod 7 (by decide) t_478 (by first | assumption | exact Rh_0 _ _ _ | exact Rh_1 _ _ _ | exact Rh_2 _ _ _ | exact Rh_3 _ _ _ | exact Rh_4 _ _ _ | exact Rh_5 _ _ _ | exact Rh_6 _ _ _ | exact Rh_7 _ _ _ | exact Rh_8 _ _ _ | exact Rh_9 _ _ _ | exact Rh_10 _ _ _ | exact Rh_11 _ _ _ | exact Rh_12 _ _ _) (by rfl) rfl ?_
          refine go_iload_n (pc' := 45) (i := 3) d_Mod_get_44 rfl rfl rfl ?_
          refine go_laldN (pc' := 46) d_Mod_get_45 (by first | assumption | exact Rh_0 _ _ _ | exact Rh_1 _ _ _ | exact Rh_2 _ _ _ | exact Rh_3 _ _ _ | exact Rh_4 _ _ _ | exact Rh_5 _ _ _ | exact Rh_6 _ _ _ | exact Rh_7 _ _ _ | exact Rh_8 _ _ _ | exact Rh_9 _ _ _ | exact Rh_10 _ _ _ | exact Rh_11 _ _ _ | exact Rh_12 _ _ _) (by rfl) (by first | assumption | omega | (simp only [x_up, x_nw]; omega)) (by first | assumption | omega | (simp only [x_up, x_nw]; omega)) rfl ?_
          refine go_lreturn d_Mod_get_46 rfl ?_
          unfold p_Get
          rw [hp]
          simp only [Ls.get (hR1.2.2.2.2.2.2.2.2.2.2.2.2.2 i hi) hy hk]
          refine ⟨_, rfl, hR1, htw, ?_⟩
          rw [(hL.2.2 j y hy).2]
        · exact absurd (show (0 : Int32) ≤ nI (60 * i + j) from by rw [show (0 : Int32) = nI 0 from rfl, nI_leI (by omega) (by omega)]; omega) hc
    · exact absurd rfl hc
end RE2
