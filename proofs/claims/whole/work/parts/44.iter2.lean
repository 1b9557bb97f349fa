/-! iterate, next -/
section EJ
variable {K : x_K} {d : Nat} {h f hh : x_H} {x : Nat} {σ : Sg} {mp cu : Nat → Option Nat} {B FA : Nat → Nat → Nat → Option Nat} {ps : Nat → Nat × Nat} {fks : Nat → List KV} {fbl : Nat → Nat → Nat → Nat}
theorem CS.iter {i n t z root : Nat} (hM : Cm h σ mp B ps) (hC : Cc h σ cu ps FA fks fbl) (hk_ : Ks h f) (hi : i < 6) (hn : n < 4) (ht : mp i = some t) (hr : B i 0 0 = some root) (hkm : ∀ u vs, h.2.2 u = some (.inr (4, vs)) → u ≠ t → f.2.2 u = some (.inr (4, vs)))
    (hft : f.2.2 t = some (.inr (4, [.ref root, .int (nI (s_lg σ + 1)), .int (s_ro σ i)]))) (hfz : Cu f z (nI 0) (va_up (fun _ => none) 0 (some root)) (fun _ => 0)) (hz : h.2.2 z = none) :
    Cm f (p_iter σ i n) mp B ps ∧ Cc f (p_iter σ i n) (va_up cu n (some z)) ps (va_up FA n (B i)) (va_up fks n (s_ks σ i)) (va_up fbl n (s_bl σ i)) := by
  obtain ⟨m1, m2, m3, m4, m5, m6⟩ := hM
  obtain ⟨c1, c2, c3⟩ := hC
  obtain ⟨⟨root0, hroot0, htc⟩, hTi, hPi, hKi, hroi, hgi, hbi⟩ := m2 i t hi ht
  have hthi : s_th σ i = true := by rw [← m1 i hi, ht]; rfl
  have gi : va_up (s_gn σ) i (s_lg σ + 1) i = s_lg σ + 1 := va_up_self _ _ _
  have go : ∀ k, k ≠ i → va_up (s_gn σ) i (s_lg σ + 1) k = s_gn σ k := fun k h1 => va_up_ne _ _ h1
  have ble : ∀ k, k < 6 → s_th σ k = true → ∀ l p a, B k l p = some a → s_bl σ k l p ≤ s_lg σ := fun k hk hth => by
    rw [← m1 k hk] at hth
    obtain ⟨u, hu⟩ := Option.isSome_iff_exists.mp hth
    exact (m2 k u hk hu).2.2.2.2.2.2
  have gle : ∀ k, k < 6 → s_th σ k = true → s_gn σ k ≤ s_lg σ := fun k hk hth => by
    rw [← m1 k hk] at hth
    obtain ⟨u, hu⟩ := Option.isSome_iff_exists.mp hth
    exact (m2 k u hk hu).2.2.2.2.2.1
  refine ⟨⟨m1, fun k u hk hu => ?_, m3, fun k k' hk hk' hne hth hth' l p a ha => ?_, m5, fun k k' hk hk' hne hth hth' => ?_⟩, fun c hc => ?_, fun c q hc hq => ?_, fun c c' q hc hc' hq hq' => ?_⟩
  · obtain ⟨⟨rk, hrk, hkc⟩, hTk, hPk, hKk, hrok, hgk, hbk⟩ := m2 k u hk hu
    refine ⟨?_, hTk.kp hk_.kp, hPk, hKk, hrok, ?_, fun l p a ha => Nat.le_succ_of_le (hbk l p a ha)⟩
    · show ∃ root, B k 0 0 = some root ∧ f.2.2 u = some (.inr (4, [.ref root, .int (nI (va_up (s_gn σ) i (s_lg σ + 1) k)), .int (s_ro σ k)]))
      by_cases hki : k = i
      · subst hki
        cases hu.symm.trans ht
        rw [gi]
        exact ⟨root, hr, hft⟩
      · rw [go k hki]
        exact ⟨rk, hrk, hkm _ _ hkc (fun e => hki (m3 k i t hk hi (e ▸ hu) ht))⟩
    · show va_up (s_gn σ) i (s_lg σ + 1) k ≤ s_lg σ + 1
      by_cases hki : k = i
      · rw [hki, gi]; omega
      · rw [go k hki]; omega
  · show s_bl σ k' l p ≠ va_up (s_gn σ) i (s_lg σ + 1) k
    have h1 := ble k' hk' hth' l p a ha
    by_cases hki : k = i
    · rw [hki, gi]; omega
    · rw [go k hki]
      exact m4 k k' hk hk' hne hth hth' l p a ha
  · show va_up (s_gn σ) i (s_lg σ + 1) k ≠ va_up (s_gn σ) i (s_lg σ + 1) k'
    have h1 := gle k hk hth
    have h2 := gle k' hk' hth'
    by_cases hki : k = i
    · rw [hki, gi, go k' (fun e => hne (hki.trans e.symm))]; omega
    · by_cases hki' : k' = i
      · rw [hki', gi, go k hki]; omega
      · rw [go k hki, go k' hki']; exact m6 k k' hk hk' hne hth hth'
  · show (va_up cu n (some z) c).isSome = va_up (s_us σ) n true c
    by_cases hcn : c = n
    · rw [hcn, va_up_self, va_up_self]; rfl
    · rw [va_up_ne _ _ hcn, va_up_ne _ _ hcn]; exact c1 c hc
  · show Cr f q (va_up FA n (B i) c) (va_up fks n (s_ks σ i) c) (va_up (s_fa σ) n 0 c) ∧ Tr f (va_up FA n (B i) c) (va_up fks n (s_ks σ i) c) (nB (va_up fbl n (s_bl σ i) c)) ∧ Ps ps (va_up FA n (B i) c) ∧ Ko (va_up fks n (s_ks σ i) c) ∧ va_up (s_sn σ) n (q_srt (s_ks σ i)) c = q_srt (va_up fks n (s_ks σ i) c) ∧ va_up (s_fa σ) n 0 c ≤ (va_up fks n (s_ks σ i) c).length ∧
      ∀ l p a, va_up FA n (B i) c l p = some a → va_up fbl n (s_bl σ i) c l p ≤ s_lg σ + 1 ∧ ∀ k, k < 6 → s_th σ k = true → va_up fbl n (s_bl σ i) c l p ≠ va_up (s_gn σ) i (s_lg σ + 1) k
    by_cases hcn : c = n
    · subst hcn
      rw [va_up_self] at hq
      cases hq
      simp only [va_up_self]
      refine ⟨Or.inl ⟨0, _, _, fun _ => 0, fun _ => 0, hfz, by omega, fun j hj => ?_, rfl, fun j hj => by omega, fun j hj => rfl, fun _ => ⟨Nat.zero_le _, ?_⟩, fun e => by omega⟩, hTi.kp hk_.kp, hPi, hKi, trivial, Nat.zero_le _, fun l p a ha => ⟨Nat.le_succ_of_le (hbi l p a ha), fun k hk hth => ?_⟩⟩
      · have : j = 0 := by omega
        subst this
        exact ⟨root, hr, va_up_self _ _ _⟩
      · rw [show (4 * 0 + 0) * 4 ^ (3 - 0) = 0 from rfl, q_lt_0]
      · by_cases hki : k = i
        · rw [hki, gi]; have := hbi l p a ha; omega
        · rw [go k hki]; exact m4 k i hk hi hki hth hthi l p a ha
    · simp only [va_up_ne _ _ hcn] at hq ⊢
      obtain ⟨d1, d2, d3, d4, d5, d6, d7⟩ := c2 c q hc hq
      refine ⟨d1.ks hk_, d2.kp hk_.kp, d3, d4, d5, d6, fun l p a ha => ⟨Nat.le_succ_of_le (d7 l p a ha).1, fun k hk hth => ?_⟩⟩
      by_cases hki : k = i
      · rw [hki, gi]; have := (d7 l p a ha).1; omega
      · rw [go k hki]; exact (d7 l p a ha).2 k hk hth
  · have old : ∀ c, c < 4 → cu c = some z → False := fun c hc hq => by
      obtain ⟨d1, -⟩ := c2 c z hc hq
      rcases d1 with ⟨_, _, _, _, _, hC, -⟩ | ⟨_, _, hC, -⟩
      · have := hC.1; rw [hz] at this; cases this
      · have := hC.1; rw [hz] at this; cases this
    by_cases hcn : c = n
    · by_cases hcn' : c' = n
      · rw [hcn, hcn']
      · rw [hcn, va_up_self] at hq
        rw [va_up_ne _ _ hcn'] at hq'
        cases hq
        exact (old c' hc' hq').elim
    · rw [va_up_ne _ _ hcn] at hq
      by_cases hcn' : c' = n
      · rw [hcn', va_up_self] at hq'
        cases hq'
        exact (old c hc hq).elim
      · rw [va_up_ne _ _ hcn'] at hq'
        exact c3 c c' q hc hc' hq hq'
set_option maxRecDepth 100000 in
theorem s_iterate (hS : CS h x σ) (m : Int32) (hlg2 : s_lg σ + 2 < 2 ^ 20) (hd : 10 ≤ d) (hc1 : h.1 + 40 ≤ x_cap K) (hc2 : h.2.1 + 200 ≤ x_cas K) :
    Go K M_Tri_iterate d 0 [some (.ref x), some (.int m), none, none] [] h (Qc h x σ (p_Iter σ m)) := by
  refine go_dom fun hdom => ?_
  have hS' := hS
  obtain ⟨mp, cu, B, ps, FA, fks, fbl, hO, hM, hC, hlg⟩ := hS
  have h0 := hO.1
  have kt : (¬ ∃ i t, m = nI i ∧ i < 6 ∧ mp i = some t) → Qc h x σ (p_Iter σ m) (.inr (11, h.1)) (h.1 + 1, h.2.1 + 6, h.2.2) := fun hno => by
    unfold p_Iter
    rw [p_map_none hM.1 hno]
    exact Qc.thr hS' (fun b c hb => hb) (by simp) (by simp) (by simp) (by simp)
  refine go_aload_n (pc' := 1) (i := 0) d_Tri_iterate_0 rfl rfl (by first | rfl | exact x_r_rf _) rfl ?_
  refine go_iload_n (pc' := 2) (i := 1) d_Tri_iterate_1 rfl rfl rfl ?_
  refine go_callV (pc' := 5) (M' := M_Tri_existingMap) (ci := 5) (r := (n_Tri, T_Tri, 5)) [_] d_Tri_iterate_2 t_109 t_111 sp_Tri_existingMap cd_Tri_existingMap nm_Tri_existingMap rfl (by rfl) (by first | assumption | exact x_up_self _ _ _ | exact x_nw_self _ _ _ | (rw [x_up_ne (by first | omega | (simp only [x_up, x_nw]; omega))]; first | assumption | exact x_up_self _ _ _ | (rw [x_up_ne (by first | omega | (simp only [x_up, x_nw]; omega))]; first | assumption | exact x_up_self _ _ _)) | (rw [x_nw_ne (by first | omega | (simp only [x_up, x_nw]; omega))]; first | assumption | exact x_up_self _ _ _ | (rw [x_up_ne (by first | omega | (simp only [x_up, x_nw]; omega))]; assumption))) rfl (Nat.le_of_ble_eq_true rfl) rfl (s_existingMap (d := d - 1) hO m (by omega) (by omega)) (by first | decide | omega) (Nat.le_of_ble_eq_true rfl) rfl (fun v hh hq => ?_) (fun q g hq => x_T.out rfl (by rw [hq.1, hq.2.1]; exact kt hq.2.2))
  obtain ⟨rfl, i, t, rfl, hi, ht, rfl⟩ := hq
  obtain ⟨⟨root, hroot, htc⟩, hTi, hPi, hKi, hroi, hgi, hbi⟩ := hM.2.1 i t hi ht
  have hpm := p_map_some (m := nI i) hM.1 hi rfl ht
  have htx : t ≠ x := fun e => by rw [e, h0] at htc; cases htc
  have hHt : Hi h t := ⟨_, _, htc, Or.inl rfl⟩
  have ht1 : x + 1 ≠ t := hHt.l hO.2.1
  have ht2 : x + 2 ≠ t := hHt.l hO.2.2
  have htz : t < h.1 := hdom _ _ htc
  have hxz : x + 2 < h.1 := hdom _ _ hO.2.2
  obtain ⟨vr, hrc⟩ : ∃ vr, h.2.2 root = some (.inr (2, vr)) := by
    obtain ⟨_, _, _, _, hN, -⟩ := hTi.nd hroot
    exact ⟨_, hN.1⟩
  have hrx : root ≠ x := fun e => by rw [e, h0] at hrc; cases hrc
  have hrt : root ≠ t := fun e => by rw [e, htc] at hrc; cases hrc
  have hrz : root < h.1 := hdom _ _ hrc
  show Go K M_Tri_iterate d 5 _ [_] h _
  refine go_astore_n (pc' := 6) (i := 2) d_Tri_iterate_5 rfl (by decide) (by first | rfl | exact x_r_rf _) (x_s2 (by first | rfl | exact x_k_rf _)) rfl ?_
  refine go_aload_n (pc' := 7) (i := 0) d_Tri_iterate_6 rfl rfl (by first | rfl | exact x_r_rf _) rfl ?_
  refine go_callV (pc' := 10) (M' := M_Tri_leastFreeCursor) (ci := 5) (r := (n_Tri, T_Tri, 5)) [] d_Tri_iterate_7 t_399 t_401 sp_Tri_leastFreeCursor cd_Tri_leastFreeCursor nm_Tri_leastFreeCursor rfl (by rfl) (by first | assumption | exact x_up_self _ _ _ | exact x_nw_self _ _ _ | (rw [x_up_ne (by first | omega | (simp only [x_up, x_nw]; omega))]; first | assumption | exact x_up_self _ _ _ | (rw [x_up_ne (by first | omega | (simp only [x_up, x_nw]; omega))]; first | assumption | exact x_up_self _ _ _)) | (rw [x_nw_ne (by first | omega | (simp only [x_up, x_nw]; omega))]; first | assumption | exact x_up_self _ _ _ | (rw [x_up_ne (by first | omega | (simp only [x_up, x_nw]; omega))]; assumption))) rfl (Nat.le_of_ble_eq_true rfl) rfl (s_leastFreeCursor (d := d - 1) hO) (by first | decide | omega) (Nat.le_of_ble_eq_true rfl) rfl (fun v hh hq => ?_) (fun q g hq => by cases hq.1)
  obtain ⟨e1, rfl⟩ := hq
  cases e1
  rw [p_fc_eq hC.1]
  show Go K M_Tri_iterate d 10 _ [_] h _
  cases hfm : p_fc σ with
  | none =>
    refine go_istore_n (pc' := 11) (i := 3) d_Tri_iterate_10 rfl (by decide) (x_s3 (by first | rfl | exact x_k_rf _)) rfl ?_
    refine go_iload_n (pc' := 12) (i := 3) d_Tri_iterate_11 rfl rfl rfl ?_
    refine go_iconst (pc' := 13) (v := (-1)) d_Tri_iterate_12 (by decide) rfl ?_
    refine go_icmp_ne (tgt := 24) (pc' := 16) d_Tri_iterate_13 (by decide) rfl (fun hc => ?_) (fun hc => ?_)
    · exact absurd rfl hc
    · have hp : p_Iter σ (nI i) = (σ, .inr 13) := by
        unfold p_Iter
        rw [hpm]
        simp only [hfm]
      rw [hp]
      exact go_throw (kx := 13) d_Tri_iterate_16 d_Tri_iterate_19 d_Tri_iterate_20 d_Tri_iterate_23 rfl (by decide +kernel) (by decide +kernel) rfl t_254 t_12 at_13 rfl (Nat.le_of_ble_eq_true rfl) (by first | assumption | omega | (simp only [x_up, x_nw]; omega)) (by first | assumption | omega | (simp only [x_up, x_nw]; omega)) (Qc.thr hS' (fun b c hb => hb) (by simp) (by simp) (by simp) (by simp))
  | some j =>
    have hj := q_fn_lt cu 4 0 j (by rw [p_fc_eq hC.1]; exact hfm)
    have hp : p_Iter σ (nI i) = (p_iter σ i j, .inl (some (.int (nI j)))) := by
      unfold p_Iter
      rw [hpm]
      simp only [hfm]
    show Go K M_Tri_iterate d 10 _ [.int (nI j)] h _
    refine go_istore_n (pc' := 11) (i := 3) d_Tri_iterate_10 rfl (by decide) (x_s3 (by first | rfl | exact x_k_rf _)) rfl ?_
    refine go_iload_n (pc' := 12) (i := 3) d_Tri_iterate_11 rfl rfl rfl ?_
    refine go_iconst (pc' := 13) (v := (-1)) d_Tri_iterate_12 (by decide) rfl ?_
    refine go_icmp_ne (tgt := 24) (pc' := 16) d_Tri_iterate_13 (by decide) rfl (fun hc => ?_) (fun hc => ?_)
    · refine go_aload_n (pc' := 25) (i := 2) d_Tri_iterate_24 rfl rfl (by first | rfl | exact x_r_rf _) rfl ?_
      refine go_aload_n (pc' := 26) (i := 0) d_Tri_iterate_25 rfl rfl (by first | rfl | exact x_r_rf _) rfl ?_
      refine go_callV (pc' := 29) (M' := M_Tri_newGeneration) (ci := 5) (r := (n_Tri, T_Tri, 5)) [] d_Tri_iterate_26 t_381 t_383 sp_Tri_newGeneration cd_Tri_newGeneration nm_Tri_newGeneration rfl (by rfl) (by first | assumption | exact x_up_self _ _ _ | exact x_nw_self _ _ _ | (rw [x_up_ne (by first | omega | (simp only [x_up, x_nw]; omega))]; first | assumption | exact x_up_self _ _ _ | (rw [x_up_ne (by first | omega | (simp only [x_up, x_nw]; omega))]; first | assumption | exact x_up_self _ _ _)) | (rw [x_nw_ne (by first | omega | (simp only [x_up, x_nw]; omega))]; first | assumption | exact x_up_self _ _ _ | (rw [x_up_ne (by first | omega | (simp only [x_up, x_nw]; omega))]; assumption))) rfl (Nat.le_of_ble_eq_true rfl) rfl (s_newGeneration (d := d - 1) hO) (by first | decide | omega) (Nat.le_of_ble_eq_true rfl) rfl (fun v hh hq => ?_) (fun q g hq => by cases hq.1)
      obtain ⟨e1, rfl⟩ := hq
      cases e1
      show Go K M_Tri_iterate d 29 _ [_, _] _ _
      have h1t : (x_up h x (.inr (5, [.ref (x + 1), .ref (x + 2), .int (nI (s_lg σ + 1)), .int (nI (s_lc σ)), .long (s_vl σ)]))).2.2 t = some (.inr (4, [.ref root, .int (nI (s_gn σ i)), .int (s_ro σ i)])) := by rw [x_up_ne htx]; exact htc
      refine go_putfield (pc' := 32) d_Tri_iterate_29 c_Map 1 (by decide) rfl t_61 (by first | assumption | exact x_up_self _ _ _ | exact x_nw_self _ _ _ | (rw [x_up_ne (by first | omega | (simp only [x_up, x_nw]; omega))]; first | assumption | exact x_up_self _ _ _ | (rw [x_up_ne (by first | omega | (simp only [x_up, x_nw]; omega))]; first | assumption | exact x_up_self _ _ _)) | (rw [x_nw_ne (by first | omega | (simp only [x_up, x_nw]; omega))]; first | assumption | exact x_up_self _ _ _ | (rw [x_up_ne (by first | omega | (simp only [x_up, x_nw]; omega))]; assumption))) (by rfl) (by rfl) (by first | exact Nat.le_of_ble_eq_true rfl | simp) rfl ?_
      show Go K M_Tri_iterate d 32 _ [] (x_up (x_up h x (.inr (5, [.ref (x + 1), .ref (x + 2), .int (nI (s_lg σ + 1)), .int (nI (s_lc σ)), .long (s_vl σ)]))) t (.inr (4, [.ref root, .int (nI (s_lg σ + 1)), .int (s_ro σ i)]))) _
      obtain ⟨h2, hh2⟩ : ∃ h2, h2 = x_up (x_up h x (.inr (5, [.ref (x + 1), .ref (x + 2), .int (nI (s_lg σ + 1)), .int (nI (s_lc σ)), .long (s_vl σ)]))) t (.inr (4, [.ref root, .int (nI (s_lg σ + 1)), .int (s_ro σ i)])) := ⟨_, rfl⟩
      rw [← hh2]
      have k2 : ∀ b, b ≠ x → b ≠ t → h2.2.2 b = h.2.2 b := fun b e1 e2 => by rw [hh2, x_up_ne e2, x_up_ne e1]
      have o2 : Ob h2 x mp cu (nI (s_lg σ + 1)) (nI (s_lc σ)) (s_vl σ) := ⟨by rw [hh2, x_up_ne (Ne.symm htx)]; exact x_up_self _ _ _, by rw [k2 _ (by omega) ht1]; exact hO.2.1, by rw [k2 _ (by omega) ht2]; exact hO.2.2⟩
      have t2 : h2.2.2 t = some (.inr (4, [.ref root, .int (nI (s_lg σ + 1)), .int (s_ro σ i)])) := by rw [hh2]; exact x_up_self _ _ _
      have z2 : h2.1 = h.1 := by rw [hh2]; rfl
      have q2 : h2.2.1 = h.2.1 := by rw [hh2]; rfl
      have x2 := o2.1
      refine go_aload_n (pc' := 33) (i := 0) d_Tri_iterate_32 rfl rfl (by first | rfl | exact x_r_rf _) rfl ?_
      refine go_getfield (pc' := 36) d_Tri_iterate_33 c_Tri 1 (by decide) t_72 (by first | assumption | exact x_up_self _ _ _ | exact x_nw_self _ _ _ | (rw [x_up_ne (by first | omega | (simp only [x_up, x_nw]; omega))]; first | assumption | exact x_up_self _ _ _ | (rw [x_up_ne (by first | omega | (simp only [x_up, x_nw]; omega))]; first | assumption | exact x_up_self _ _ _)) | (rw [x_nw_ne (by first | omega | (simp only [x_up, x_nw]; omega))]; first | assumption | exact x_up_self _ _ _ | (rw [x_up_ne (by first | omega | (simp only [x_up, x_nw]; omega))]; assumption))) (by rfl) rfl ?_
      refine go_iload_n (pc' := 37) (i := 3) d_Tri_iterate_36 rfl rfl rfl ?_
      refine go_new (pc' := 40) (fs := [.null, .null, .int 0]) d_Tri_iterate_37 c_Cur t_26 t_403 t_15 (by decide +kernel) (by first | assumption | omega | (simp only [x_up, x_nw]; omega)) (by first | assumption | omega | (simp only [x_up, x_nw]; omega)) rfl ?_
      obtain ⟨h3, hh3⟩ : ∃ h3, h3 = x_nw h2 3 (.inr (0, [.null, .null, .int 0])) := ⟨_, rfl⟩
      rw [show x_nw h2 _ _ = h3 from hh3.symm, z2]
      have k3 : ∀ b, b ≠ h.1 → h3.2.2 b = h2.2.2 b := fun b e1 => by rw [hh3, x_nw_ne (by omega)]
      have t3 : h3.2.2 t = some (.inr (4, [.ref root, .int (nI (s_lg σ + 1)), .int (s_ro σ i)])) := by rw [k3 _ (by omega)]; exact t2
      have n3 : h3.2.2 h.1 = some (.inr (0, [.null, .null, .int 0])) := by rw [hh3, ← z2]; exact x_nw_self _ _ _
      have r3 : h3.2.2 root = some (.inr (2, vr)) := by rw [k3 _ (by omega), k2 _ hrx hrt]; exact hrc
      have z3 : h3.1 = h.1 + 1 := by rw [hh3, ← z2]; rfl
      have q3 : h3.2.1 = h.2.1 + 3 := by rw [hh3, ← q2]; rfl
      refine go_dup (pc' := 41) d_Tri_iterate_40 (by first | rfl | exact x_c_rf _) rfl ?_
      refine go_aload_n (pc' := 42) (i := 2) d_Tri_iterate_41 rfl rfl (by first | rfl | exact x_r_rf _) rfl ?_
      refine go_getfield (pc' := 45) d_Tri_iterate_42 c_Map 0 (by decide) t_59 (by first | assumption | exact x_up_self _ _ _ | exact x_nw_self _ _ _ | (rw [x_up_ne (by first | omega | (simp only [x_up, x_nw]; omega))]; first | assumption | exact x_up_self _ _ _ | (rw [x_up_ne (by first | omega | (simp only [x_up, x_nw]; omega))]; first | assumption | exact x_up_self _ _ _)) | (rw [x_nw_ne (by first | omega | (simp only [x_up, x_nw]; omega))]; first | assumption | exact x_up_self _ _ _ | (rw [x_up_ne (by first | omega | (simp only [x_up, x_nw]; omega))]; assumption))) (by rfl) rfl ?_
      refine go_callI (pc' := 48) (M' := M_Cur_init) [_] d_Tri_iterate_45 rfl rfl t_404 t_405 t_406 rfl nm_Cur_init rfl rfl (Nat.le_of_ble_eq_true rfl) rfl (s_Cur_init (d := d - 1) z3 n3 r3 (by omega) (by omega)) (by first | decide | omega) (Nat.le_of_ble_eq_true rfl) rfl (fun v h4 hq => ?_) (fun q g hq => hq.elim)
      obtain ⟨rfl, z4, q4, n4, k4⟩ := hq
      show Go K M_Tri_iterate d 48 _ [_, _, _] h4 _
      have m4 : h4.2.2 (x + 2) = some (.inl (6, 4, .inr (.inr (.inr (.inr cu))))) := by rw [k4 _ (by omega), k3 _ (by omega)]; exact o2.2.2
      refine go_aastR (pc' := 49) (ci := 0) (r := (n_Cur, T_Cur, 3)) d_Tri_iterate_48 m4 n4.1 (by rfl) (by rfl) (by omega) (by omega) rfl ?_
      obtain ⟨h6, hh6⟩ : ∃ h6, h6 = x_up h4 (x + 2) (.inl (6, 4, .inr (.inr (.inr (.inr (va_up cu j (some h.1))))))) := ⟨_, rfl⟩
      rw [← hh6]
      have k6 : ∀ b, b ≠ x + 2 → h6.2.2 b = h4.2.2 b := fun b e1 => by rw [hh6, x_up_ne e1]
      refine go_iload_n (pc' := 50) (i := 3) d_Tri_iterate_49 rfl rfl rfl ?_
      refine go_ireturn d_Tri_iterate_50 rfl (by rfl) ?_
      rw [hp]
      have kall : ∀ b, b ≠ x → b ≠ t → b ≠ x + 2 → b < h.1 → h6.2.2 b = h.2.2 b := fun b e1 e2 e3 e4 => by rw [k6 _ e3, k4 _ e4, k3 _ (by omega), k2 _ e1 e2]
      have hz0 : h.2.2 h.1 = none := by
        cases hz : h.2.2 h.1 with
        | none => rfl
        | some c => have := hdom _ _ hz; omega
      have hks : Ks h h6 := fun b c hb hc => by
        rw [kall b (fun e => by rw [e, h0] at hb; cases hb; cases hc) (fun e => by rw [e, htc] at hb; cases hb; cases hc) (fun e => by rw [e, hO.2.2] at hb; cases hb; cases hc) (hdom _ _ hb)]
        exact hb
      obtain ⟨hM6, hC6⟩ := CS.iter (z := h.1) (n := j) hM hC hks hi (by omega) ht hroot (fun u vs hu hne => by
        rw [kall u (fun e => by rw [e, h0] at hu; cases hu) hne (fun e => by rw [e, hO.2.2] at hu; cases hu) (hdom _ _ hu)]
        exact hu) (by rw [k6 _ (Ne.symm ht2), k4 _ htz]; exact t3) ⟨by rw [k6 _ (by omega)]; exact n4.1, by rw [k6 _ (by omega)]; exact n4.2.1, by rw [k6 _ (by omega)]; exact n4.2.2⟩ hz0
      have z6 : h6.1 = h.1 + 3 := by rw [hh6]; exact z4
      have q6 : h6.2.1 = h.2.1 + 13 := by rw [hh6]; show h4.2.1 = _; omega
      refine ⟨⟨mp, va_up cu j (some h.1), B, ps, _, _, _, ⟨by rw [k6 _ (by omega), k4 _ (by omega), k3 _ (by omega)]; exact o2.1, by rw [k6 _ (by omega), k4 _ (by omega), k3 _ (by omega)]; exact o2.2.1, by rw [hh6]; exact x_up_self _ _ _⟩, hM6, hC6, ?_⟩, hks.kc, by omega, by omega, by omega, by omega, ?_, rfl⟩
      · show s_lg σ + 1 < 2 ^ 20; omega
      · show s_lg σ + 1 ≤ s_lg σ + 2; omega
    · exact absurd hc (nI_m1 j (by omega))
end EJ
