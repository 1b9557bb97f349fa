section DA
variable {K : x_K} {d : Nat} {h f : x_H} {x q : Nat} {mp cu : Nat → Option Nat} {lg lc : Int32} {vl : Int64}
/-- the object itself: maps, iterators, the latest generation, copies, value -/
def Ob (h : x_H) (x : Nat) (mp cu : Nat → Option Nat) (lg lc : Int32) (vl : Int64) : Prop :=
  h.2.2 x = some (.inr (5, [.ref (x + 1), .ref (x + 2), .int lg, .int lc, .long vl])) ∧ h.2.2 (x + 1) = some (.inl (5, 6, .inr (.inr (.inr (.inr mp))))) ∧ h.2.2 (x + 2) = some (.inl (6, 4, .inr (.inr (.inr (.inr cu)))))
theorem s_existingMap (hO : Ob h x mp cu lg lc vl) (m : Int32) (hc1 : h.1 + 1 ≤ x_cap K) (hc2 : h.2.1 + 6 ≤ x_cas K) :
    Go K M_Tri_existingMap d 0 [some (.ref x), some (.int m)] [] h (x_rx (fun v f => h = f ∧ ∃ i t, m = nI i ∧ i < 6 ∧ mp i = some t ∧ v = some (.ref t)) (fun q f => q = (11, h.1) ∧ f = (h.1 + 1, h.2.1 + 6, h.2.2) ∧ ¬ ∃ i t, m = nI i ∧ i < 6 ∧ mp i = some t)) := by
  obtain ⟨h0, h1, h2⟩ := hO
  have thr : (¬ ∃ i t, m = nI i ∧ i < 6 ∧ mp i = some t) → Go K M_Tri_existingMap d 22 [some (.ref x), some (.int m)] [] h (x_rx (fun v f => h = f ∧ ∃ i t, m = nI i ∧ i < 6 ∧ mp i = some t ∧ v = some (.ref t)) (fun q f => q = (11, h.1) ∧ f = (h.1 + 1, h.2.1 + 6, h.2.2) ∧ ¬ ∃ i t, m = nI i ∧ i < 6 ∧ mp i = some t)) := by
    intro hno
    exact go_throw (kx := 11) d_Tri_existingMap_22 d_Tri_existingMap_25 d_Tri_existingMap_26 d_Tri_existingMap_29 rfl (by decide +kernel) (by decide +kernel) rfl t_113 t_8 at_11 rfl (Nat.le_of_ble_eq_true rfl) (by first | assumption | omega | (simp only [x_up, x_nw]; omega)) (by first | assumption | omega | (simp only [x_up, x_nw]; omega)) (⟨rfl, rfl, hno⟩)
  refine go_iload_n (pc' := 1) (i := 1) d_Tri_existingMap_0 rfl rfl rfl ?_
  refine go_if_lt (tgt := 22) (pc' := 4) d_Tri_existingMap_1 (by decide) rfl (fun hc => ?_) (fun hc => ?_)
  · refine thr fun ⟨i, t, e, hi, _⟩ => ?_
    rw [e, show (0 : Int32) = nI 0 from rfl, nI_ltI (by omega) (by omega)] at hc
    omega
  · obtain ⟨i, hi31, rfl⟩ := nI_of hc
    refine go_iload_n (pc' := 5) (i := 1) d_Tri_existingMap_4 rfl rfl rfl ?_
    refine go_aload_n (pc' := 6) (i := 0) d_Tri_existingMap_5 rfl rfl (by first | rfl | exact x_r_rf _) rfl ?_
    refine go_getfield (pc' := 9) d_Tri_existingMap_6 c_Tri 0 (by decide) t_71 (by first | assumption | exact x_up_self _ _ _ | exact x_nw_self _ _ _ | (rw [x_up_ne (by first | omega | (simp only [x_up, x_nw]; omega))]; first | assumption | exact x_up_self _ _ _ | (rw [x_up_ne (by first | omega | (simp only [x_up, x_nw]; omega))]; first | assumption | exact x_up_self _ _ _)) | (rw [x_nw_ne (by first | omega | (simp only [x_up, x_nw]; omega))]; first | assumption | exact x_up_self _ _ _ | (rw [x_up_ne (by first | omega | (simp only [x_up, x_nw]; omega))]; assumption))) (by rfl) rfl ?_
    refine go_alenN (pc' := 10) d_Tri_existingMap_9 (by first | assumption | exact x_up_self _ _ _ | exact x_nw_self _ _ _ | (rw [x_up_ne (by first | omega | (simp only [x_up, x_nw]; omega))]; first | assumption | exact x_up_self _ _ _ | (rw [x_up_ne (by first | omega | (simp only [x_up, x_nw]; omega))]; first | assumption | exact x_up_self _ _ _)) | (rw [x_nw_ne (by first | omega | (simp only [x_up, x_nw]; omega))]; first | assumption | exact x_up_self _ _ _ | (rw [x_up_ne (by first | omega | (simp only [x_up, x_nw]; omega))]; assumption))) (by rfl) rfl ?_
    refine go_icmp_geN (tgt := 22) (pc' := 13) d_Tri_existingMap_10 (by decide) rfl (by omega) (by omega) (fun hc => ?_) (fun hc => ?_)
    · refine thr fun ⟨j, t, e, hj, _⟩ => ?_
      rw [nI_eq hi31 (by omega)] at e
      omega
    · refine go_aload_n (pc' := 14) (i := 0) d_Tri_existingMap_13 rfl rfl (by first | rfl | exact x_r_rf _) rfl ?_
      refine go_getfield (pc' := 17) d_Tri_existingMap_14 c_Tri 0 (by decide) t_71 (by first | assumption | exact x_up_self _ _ _ | exact x_nw_self _ _ _ | (rw [x_up_ne (by first | omega | (simp only [x_up, x_nw]; omega))]; first | assumption | exact x_up_self _ _ _ | (rw [x_up_ne (by first | omega | (simp only [x_up, x_nw]; omega))]; first | assumption | exact x_up_self _ _ _)) | (rw [x_nw_ne (by first | omega | (simp only [x_up, x_nw]; omega))]; first | assumption | exact x_up_self _ _ _ | (rw [x_up_ne (by first | omega | (simp only [x_up, x_nw]; omega))]; assumption))) (by rfl) rfl ?_
      refine go_iload_n (pc' := 18) (i := 1) d_Tri_existingMap_17 rfl rfl rfl ?_
      refine go_aaldN (pc' := 19) d_Tri_existingMap_18 (by first | assumption | exact x_up_self _ _ _ | exact x_nw_self _ _ _ | (rw [x_up_ne (by first | omega | (simp only [x_up, x_nw]; omega))]; first | assumption | exact x_up_self _ _ _ | (rw [x_up_ne (by first | omega | (simp only [x_up, x_nw]; omega))]; first | assumption | exact x_up_self _ _ _)) | (rw [x_nw_ne (by first | omega | (simp only [x_up, x_nw]; omega))]; first | assumption | exact x_up_self _ _ _ | (rw [x_up_ne (by first | omega | (simp only [x_up, x_nw]; omega))]; assumption))) (by rfl) (by first | assumption | omega | (simp only [x_up, x_nw]; omega)) (by first | assumption | omega | (simp only [x_up, x_nw]; omega)) rfl ?_
      cases hm : mp i with
      | none =>
        refine go_ifnonnull_n (pc' := 22) d_Tri_existingMap_19 rfl ?_
        refine thr fun ⟨j, t, e, hj, hmj⟩ => ?_
        rw [nI_eq hi31 (by omega)] at e
        subst e
        rw [hm] at hmj
        cases hmj
      | some t =>
        refine go_ifnonnull_r (tgt := 30) d_Tri_existingMap_19 (by decide) ?_
        refine go_aload_n (pc' := 31) (i := 0) d_Tri_existingMap_30 rfl rfl (by first | rfl | exact x_r_rf _) rfl ?_
        refine go_getfield (pc' := 34) d_Tri_existingMap_31 c_Tri 0 (by decide) t_71 (by first | assumption | exact x_up_self _ _ _ | exact x_nw_self _ _ _ | (rw [x_up_ne (by first | omega | (simp only [x_up, x_nw]; omega))]; first | assumption | exact x_up_self _ _ _ | (rw [x_up_ne (by first | omega | (simp only [x_up, x_nw]; omega))]; first | assumption | exact x_up_self _ _ _)) | (rw [x_nw_ne (by first | omega | (simp only [x_up, x_nw]; omega))]; first | assumption | exact x_up_self _ _ _ | (rw [x_up_ne (by first | omega | (simp only [x_up, x_nw]; omega))]; assumption))) (by rfl) rfl ?_
        refine go_iload_n (pc' := 35) (i := 1) d_Tri_existingMap_34 rfl rfl rfl ?_
        refine go_aaldN (pc' := 36) d_Tri_existingMap_35 (by first | assumption | exact x_up_self _ _ _ | exact x_nw_self _ _ _ | (rw [x_up_ne (by first | omega | (simp only [x_up, x_nw]; omega))]; first | assumption | exact x_up_self _ _ _ | (rw [x_up_ne (by first | omega | (simp only [x_up, x_nw]; omega))]; first | assumption | exact x_up_self _ _ _)) | (rw [x_nw_ne (by first | omega | (simp only [x_up, x_nw]; omega))]; first | assumption | exact x_up_self _ _ _ | (rw [x_up_ne (by first | omega | (simp only [x_up, x_nw]; omega))]; assumption))) (by rfl) (by first | assumption | omega | (simp only [x_up, x_nw]; omega)) (by first | assumption | omega | (simp only [x_up, x_nw]; omega)) rfl ?_
        rw [hm]
        refine go_areturn d_Tri_existingMap_36 rfl ⟨_, rfl⟩ (by first | rfl | exact x_r_rf _) ?_
        exact ⟨rfl, i, t, rfl, by omega, hm, rfl⟩
theorem s_existingCursor (hO : Ob h x mp cu lg lc vl) (m : Int32) (hc1 : h.1 + 1 ≤ x_cap K) (hc2 : h.2.1 + 6 ≤ x_cas K) :
    Go K M_Tri_existingCursor d 0 [some (.ref x), some (.int m)] [] h (x_rx (fun v f => h = f ∧ ∃ i t, m = nI i ∧ i < 4 ∧ cu i = some t ∧ v = some (.ref t)) (fun q f => q = (11, h.1) ∧ f = (h.1 + 1, h.2.1 + 6, h.2.2) ∧ ¬ ∃ i t, m = nI i ∧ i < 4 ∧ cu i = some t)) := by
  obtain ⟨h0, h1, h2⟩ := hO
  have thr : (¬ ∃ i t, m = nI i ∧ i < 4 ∧ cu i = some t) → Go K M_Tri_existingCursor d 22 [some (.ref x), some (.int m)] [] h (x_rx (fun v f => h = f ∧ ∃ i t, m = nI i ∧ i < 4 ∧ cu i = some t ∧ v = some (.ref t)) (fun q f => q = (11, h.1) ∧ f = (h.1 + 1, h.2.1 + 6, h.2.2) ∧ ¬ ∃ i t, m = nI i ∧ i < 4 ∧ cu i = some t)) := by
    intro hno
    exact go_throw (kx := 11) d_Tri_existingCursor_22 d_Tri_existingCursor_25 d_Tri_existingCursor_26 d_Tri_existingCursor_29 rfl (by decide +kernel) (by decide +kernel) rfl t_113 t_8 at_11 rfl (Nat.le_of_ble_eq_true rfl) (by first | assumption | omega | (simp only [x_up, x_nw]; omega)) (by first | assumption | omega | (simp only [x_up, x_nw]; omega)) (⟨rfl, rfl, hno⟩)
  refine go_iload_n (pc' := 1) (i := 1) d_Tri_existingCursor_0 rfl rfl rfl ?_
  refine go_if_lt (tgt := 22) (pc' := 4) d_Tri_existingCursor_1 (by decide) rfl (fun hc => ?_) (fun hc => ?_)
  · refine thr fun ⟨i, t, e, hi, _⟩ => ?_
    rw [e, show (0 : Int32) = nI 0 from rfl, nI_ltI (by omega) (by omega)] at hc
    omega
  · obtain ⟨i, hi31, rfl⟩ := nI_of hc
    refine go_iload_n (pc' := 5) (i := 1) d_Tri_existingCursor_4 rfl rfl rfl ?_
    refine go_aload_n (pc' := 6) (i := 0) d_Tri_existingCursor_5 rfl rfl (by first | rfl | exact x_r_rf _) rfl ?_
    refine go_getfield (pc' := 9) d_Tri_existingCursor_6 c_Tri 1 (by decide) t_72 (by first | assumption | exact x_up_self _ _ _ | exact x_nw_self _ _ _ | (rw [x_up_ne (by first | omega | (simp only [x_up, x_nw]; omega))]; first | assumption | exact x_up_self _ _ _ | (rw [x_up_ne (by first | omega | (simp only [x_up, x_nw]; omega))]; first | assumption | exact x_up_self _ _ _)) | (rw [x_nw_ne (by first | omega | (simp only [x_up, x_nw]; omega))]; first | assumption | exact x_up_self _ _ _ | (rw [x_up_ne (by first | omega | (simp only [x_up, x_nw]; omega))]; assumption))) (by rfl) rfl ?_
    refine go_alenN (pc' := 10) d_Tri_existingCursor_9 (by first | assumption | exact x_up_self _ _ _ | exact x_nw_self _ _ _ | (rw [x_up_ne (by first | omega | (simp only [x_up, x_nw]; omega))]; first | assumption | exact x_up_self _ _ _ | (rw [x_up_ne (by first | omega | (simp only [x_up, x_nw]; omega))]; first | assumption | exact x_up_self _ _ _)) | (rw [x_nw_ne (by first | omega | (simp only [x_up, x_nw]; omega))]; first | assumption | exact x_up_self _ _ _ | (rw [x_up_ne (by first | omega | (simp only [x_up, x_nw]; omega))]; assumption))) (by rfl) rfl ?_
    refine go_icmp_geN (tgt := 22) (pc' := 13) d_Tri_existingCursor_10 (by decide) rfl (by omega) (by omega) (fun hc => ?_) (fun hc => ?_)
    · refine thr fun ⟨j, t, e, hj, _⟩ => ?_
      rw [nI_eq hi31 (by omega)] at e
      omega
    · refine go_aload_n (pc' := 14) (i := 0) d_Tri_existingCursor_13 rfl rfl (by first | rfl | exact x_r_rf _) rfl ?_
      refine go_getfield (pc' := 17) d_Tri_existingCursor_14 c_Tri 1 (by decide) t_72 (by first | assumption | exact x_up_self _ _ _ | exact x_nw_self _ _ _ | (rw [x_up_ne (by first | omega | (simp only [x_up, x_nw]; omega))]; first | assumption | exact x_up_self _ _ _ | (rw [x_up_ne (by first | omega | (simp only [x_up, x_nw]; omega))]; first | assumption | exact x_up_self _ _ _)) | (rw [x_nw_ne (by first | omega | (simp only [x_up, x_nw]; omega))]; first | assumption | exact x_up_self _ _ _ | (rw [x_up_ne (by first | omega | (simp only [x_up, x_nw]; omega))]; assumption))) (by rfl) rfl ?_
      refine go_iload_n (pc' := 18) (i := 1) d_Tri_existingCursor_17 rfl rfl rfl ?_
      refine go_aaldN (pc' := 19) d_Tri_existingCursor_18 (by first | assumption | exact x_up_self _ _ _ | exact x_nw_self _ _ _ | (rw [x_up_ne (by first | omega | (simp only [x_up, x_nw]; omega))]; first | assumption | exact x_up_self _ _ _ | (rw [x_up_ne (by first | omega | (simp only [x_up, x_nw]; omega))]; first | assumption | exact x_up_self _ _ _)) | (rw [x_nw_ne (by first | omega | (simp only [x_up, x_nw]; omega))]; first | assumption | exact x_up_self _ _ _ | (rw [x_up_ne (by first | omega | (simp only [x_up, x_nw]; omega))]; assumption))) (by rfl) (by first | assumption | omega | (simp only [x_up, x_nw]; omega)) (by first | assumption | omega | (simp only [x_up, x_nw]; omega)) rfl ?_
      cases hm : cu i with
      | none =>
        refine go_ifnonnull_n (pc' := 22) d_Tri_existingCursor_19 rfl ?_
        refine thr fun ⟨j, t, e, hj, hmj⟩ => ?_
        rw [nI_eq hi31 (by omega)] at e
        subst e
        rw [hm] at hmj
        cases hmj
      | some t =>
        refine go_ifnonnull_r (tgt := 30) d_Tri_existingCursor_19 (by decide) ?_
        refine go_aload_n (pc' := 31) (i := 0) d_Tri_existingCursor_30 rfl rfl (by first | rfl | exact x_r_rf _) rfl ?_
        refine go_getfield (pc' := 34) d_Tri_existingCursor_31 c_Tri 1 (by decide) t_72 (by first | assumption | exact x_up_self _ _ _ | exact x_nw_self _ _ _ | (rw [x_up_ne (by first | omega | (simp only [x_up, x_nw]; omega))]; first | assumption | exact x_up_self _ _ _ | (rw [x_up_ne (by first | omega | (simp only [x_up, x_nw]; omega))]; first | assumption | exact x_up_self _ _ _)) | (rw [x_nw_ne (by first | omega | (simp only [x_up, x_nw]; omega))]; first | assumption | exact x_up_self _ _ _ | (rw [x_up_ne (by first | omega | (simp only [x_up, x_nw]; omega))]; assumption))) (by rfl) rfl ?_
        refine go_iload_n (pc' := 35) (i := 1) d_Tri_existingCursor_34 rfl rfl rfl ?_
        refine go_aaldN (pc' := 36) d_Tri_existingCursor_35 (by first | assumption | exact x_up_self _ _ _ | exact x_nw_self _ _ _ | (rw [x_up_ne (by first | omega | (simp only [x_up, x_nw]; omega))]; first | assumption | exact x_up_self _ _ _ | (rw [x_up_ne (by first | omega | (simp only [x_up, x_nw]; omega))]; first | assumption | exact x_up_self _ _ _)) | (rw [x_nw_ne (by first | omega | (simp only [x_up, x_nw]; omega))]; first | assumption | exact x_up_self _ _ _ | (rw [x_up_ne (by first | omega | (simp only [x_up, x_nw]; omega))]; assumption))) (by rfl) (by first | assumption | omega | (simp only [x_up, x_nw]; omega)) (by first | assumption | omega | (simp only [x_up, x_nw]; omega)) rfl ?_
        rw [hm]
        refine go_areturn d_Tri_existingCursor_36 rfl ⟨_, rfl⟩ (by first | rfl | exact x_r_rf _) ?_
        exact ⟨rfl, i, t, rfl, by omega, hm, rfl⟩
theorem s_writableMap (hO : Ob h x mp cu lg lc vl) (m : Int32) (ro : Nat → Int32) (hM : ∀ i t, i < 6 → mp i = some t → ∃ r g, h.2.2 t = some (.inr (4, [.ref r, .int g, .int (ro i)]))) (hc1 : h.1 + 1 ≤ x_cap K) (hc2 : h.2.1 + 6 ≤ x_cas K) (hd : 1 ≤ d) :
    Go K M_Tri_writableMap d 0 [some (.ref x), some (.int m), none] [] h (x_rx (fun v f => h = f ∧ ∃ i t, m = nI i ∧ i < 6 ∧ mp i = some t ∧ v = some (.ref t) ∧ ro i = 0)
      (fun q f => f = (h.1 + 1, h.2.1 + 6, h.2.2) ∧ ((q = (11, h.1) ∧ ¬ ∃ i t, m = nI i ∧ i < 6 ∧ mp i = some t) ∨ (q = (12, h.1) ∧ ∃ i t, m = nI i ∧ i < 6 ∧ mp i = some t ∧ ¬ ro i = 0)))) := by
  have h0 := hO.1
  refine go_aload_n (pc' := 1) (i := 0) d_Tri_writableMap_0 rfl rfl (by first | rfl | exact x_r_rf _) rfl ?_
  refine go_iload_n (pc' := 2) (i := 1) d_Tri_writableMap_1 rfl rfl rfl ?_
  refine go_callV (pc' := 5) (M' := M_Tri_existingMap) (ci := 5) (r := (n_Tri, T_Tri, 5)) [_] d_Tri_writableMap_2 t_109 t_111 sp_Tri_existingMap cd_Tri_existingMap nm_Tri_existingMap rfl (by rfl) (by first | assumption | exact x_up_self _ _ _ | exact x_nw_self _ _ _ | (rw [x_up_ne (by first | omega | (simp only [x_up, x_nw]; omega))]; first | assumption | exact x_up_self _ _ _ | (rw [x_up_ne (by first | omega | (simp only [x_up, x_nw]; omega))]; first | assumption | exact x_up_self _ _ _)) | (rw [x_nw_ne (by first | omega | (simp only [x_up, x_nw]; omega))]; first | assumption | exact x_up_self _ _ _ | (rw [x_up_ne (by first | omega | (simp only [x_up, x_nw]; omega))]; assumption))) rfl (Nat.le_of_ble_eq_true rfl) rfl (s_existingMap (d := d - 1) hO m hc1 hc2) (by first | decide | omega) (Nat.le_of_ble_eq_true rfl) rfl (fun v hh hq => ?_) (fun q g hq => x_T.out rfl ⟨hq.2.1, Or.inl ⟨hq.1, hq.2.2⟩⟩)
  obtain ⟨rfl, i, t, rfl, hi, hm, rfl⟩ := hq
  obtain ⟨r, g, ht⟩ := hM i t hi hm
  show Go K M_Tri_writableMap d 5 _ [.ref t] h _
  refine go_astore_n (pc' := 6) (i := 2) d_Tri_writableMap_5 rfl (by decide) (by first | rfl | exact x_r_rf _) (x_s2 (by first | rfl | exact x_k_rf _)) rfl ?_
  refine go_aload_n (pc' := 7) (i := 2) d_Tri_writableMap_6 rfl rfl (by first | rfl | exact x_r_rf _) rfl ?_
  refine go_getfield (pc' := 10) d_Tri_writableMap_7 c_Map 2 (by decide) t_63 (by first | assumption | exact x_up_self _ _ _ | exact x_nw_self _ _ _ | (rw [x_up_ne (by first | omega | (simp only [x_up, x_nw]; omega))]; first | assumption | exact x_up_self _ _ _ | (rw [x_up_ne (by first | omega | (simp only [x_up, x_nw]; omega))]; first | assumption | exact x_up_self _ _ _)) | (rw [x_nw_ne (by first | omega | (simp only [x_up, x_nw]; omega))]; first | assumption | exact x_up_self _ _ _ | (rw [x_up_ne (by first | omega | (simp only [x_up, x_nw]; omega))]; assumption))) (by rfl) rfl ?_
  refine go_if_eq (tgt := 21) (pc' := 13) d_Tri_writableMap_10 (by decide) rfl (fun hc => ?_) (fun hc => ?_)
  · refine go_aload_n (pc' := 22) (i := 2) d_Tri_writableMap_21 rfl rfl (by first | rfl | exact x_r_rf _) rfl ?_
    refine go_areturn d_Tri_writableMap_22 rfl ⟨_, rfl⟩ (by first | rfl | exact x_r_rf _) ?_
    exact ⟨rfl, i, t, rfl, hi, hm, rfl, hc⟩
  · exact go_throw (kx := 12) d_Tri_writableMap_13 d_Tri_writableMap_16 d_Tri_writableMap_17 d_Tri_writableMap_20 rfl (by decide +kernel) (by decide +kernel) rfl t_177 t_9 at_12 rfl (Nat.le_of_ble_eq_true rfl) (by first | assumption | omega | (simp only [x_up, x_nw]; omega)) (by first | assumption | omega | (simp only [x_up, x_nw]; omega)) (⟨rfl, Or.inr ⟨rfl, i, t, rfl, hi, hm, hc⟩⟩)
/-- the first place without anything -/
def q_fn (mp : Nat → Option Nat) : Nat → Nat → Option Nat
  | 0, _ => none
  | r + 1, j => if (mp j).isSome then q_fn mp r (j + 1) else some j
theorem q_fn_lt (mp : Nat → Option Nat) : ∀ r j i, q_fn mp r j = some i → j ≤ i ∧ i < j + r ∧ mp i = none
  | 0, j, i, h => by cases h
  | r + 1, j, i, h => by
    unfold q_fn at h
    split at h
    · have := q_fn_lt mp r (j + 1) i h
      exact ⟨by omega, by omega, this.2.2⟩
    · rename_i hn
      cases h
      refine ⟨by omega, by omega, ?_⟩
      cases hm : mp j with
      | none => rfl
      | some t => rw [hm] at hn; exact absurd rfl hn
theorem s_leastMissingMap (hO : Ob h x mp cu lg lc vl) : Go K M_Tri_leastMissingMap d 0 [some (.ref x), none] [] h (x_is (some (.int (q_ix (q_fn mp 6 0)))) h) := by
  obtain ⟨h0, h1, h2⟩ := hO
  have loop : ∀ r j, j + r = 6 → Go K M_Tri_leastMissingMap d 2 [some (.ref x), some (.int (nI j))] [] h (x_is (some (.int (q_ix (q_fn mp r j)))) h) := by
    intro r
    induction r with
    | zero =>
      intro j hj
      refine go_iload_n (pc' := 3) (i := 1) d_Tri_leastMissingMap_2 rfl rfl rfl ?_
      refine go_aload_n (pc' := 4) (i := 0) d_Tri_leastMissingMap_3 rfl rfl (by first | rfl | exact x_r_rf _) rfl ?_
      refine go_getfield (pc' := 7) d_Tri_leastMissingMap_4 c_Tri 0 (by decide) t_71 (by first | assumption | exact x_up_self _ _ _ | exact x_nw_self _ _ _ | (rw [x_up_ne (by first | omega | (simp only [x_up, x_nw]; omega))]; first | assumption | exact x_up_self _ _ _ | (rw [x_up_ne (by first | omega | (simp only [x_up, x_nw]; omega))]; first | assumption | exact x_up_self _ _ _)) | (rw [x_nw_ne (by first | omega | (simp only [x_up, x_nw]; omega))]; first | assumption | exact x_up_self _ _ _ | (rw [x_up_ne (by first | omega | (simp only [x_up, x_nw]; omega))]; assumption))) (by rfl) rfl ?_
      refine go_alenN (pc' := 8) d_Tri_leastMissingMap_7 (by first | assumption | exact x_up_self _ _ _ | exact x_nw_self _ _ _ | (rw [x_up_ne (by first | omega | (simp only [x_up, x_nw]; omega))]; first | assumption | exact x_up_self _ _ _ | (rw [x_up_ne (by first | omega | (simp only [x_up, x_nw]; omega))]; first | assumption | exact x_up_self _ _ _)) | (rw [x_nw_ne (by first | omega | (simp only [x_up, x_nw]; omega))]; first | assumption | exact x_up_self _ _ _ | (rw [x_up_ne (by first | omega | (simp only [x_up, x_nw]; omega))]; assumption))) (by rfl) rfl ?_
      refine go_icmp_geN (tgt := 28) (pc' := 11) d_Tri_leastMissingMap_8 (by decide) rfl (by omega) (by omega) (fun hc => ?_) (fun hc => ?_)
      · refine go_iconst (pc' := 29) (v := (-1)) d_Tri_leastMissingMap_28 (by decide) rfl ?_
        refine go_ireturn d_Tri_leastMissingMap_29 rfl (by rfl) ?_
        exact ⟨rfl, rfl⟩
      · omega
    | succ r ih =>
      intro j hj
      refine go_iload_n (pc' := 3) (i := 1) d_Tri_leastMissingMap_2 rfl rfl rfl ?_
      refine go_aload_n (pc' := 4) (i := 0) d_Tri_leastMissingMap_3 rfl rfl (by first | rfl | exact x_r_rf _) rfl ?_
      refine go_getfield (pc' := 7) d_Tri_leastMissingMap_4 c_Tri 0 (by decide) t_71 (by first | assumption | exact x_up_self _ _ _ | exact x_nw_self _ _ _ | (rw [x_up_ne (by first | omega | (simp only [x_up, x_nw]; omega))]; first | assumption | exact x_up_self _ _ _ | (rw [x_up_ne (by first | omega | (simp only [x_up, x_nw]; omega))]; first | assumption | exact x_up_self _ _ _)) | (rw [x_nw_ne (by first | omega | (simp only [x_up, x_nw]; omega))]; first | assumption | exact x_up_self _ _ _ | (rw [x_up_ne (by first | omega | (simp only [x_up, x_nw]; omega))]; assumption))) (by rfl) rfl ?_
      refine go_alenN (pc' := 8) d_Tri_leastMissingMap_7 (by first | assumption | exact x_up_self _ _ _ | exact x_nw_self _ _ _ | (rw [x_up_ne (by first | omega | (simp only [x_up, x_nw]; omega))]; first | assumption | exact x_up_self _ _ _ | (rw [x_up_ne (by first | omega | (simp only [x_up, x_nw]; omega))]; first | assumption | exact x_up_self _ _ _)) | (rw [x_nw_ne (by first | omega | (simp only [x_up, x_nw]; omega))]; first | assumption | exact x_up_self _ _ _ | (rw [x_up_ne (by first | omega | (simp only [x_up, x_nw]; omega))]; assumption))) (by rfl) rfl ?_
      refine go_icmp_geN (tgt := 28) (pc' := 11) d_Tri_leastMissingMap_8 (by decide) rfl (by omega) (by omega) (fun hc => ?_) (fun hc => ?_)
      · omega
      · refine go_aload_n (pc' := 12) (i := 0) d_Tri_leastMissingMap_11 rfl rfl (by first | rfl | exact x_r_rf _) rfl ?_
        refine go_getfield (pc' := 15) d_Tri_leastMissingMap_12 c_Tri 0 (by decide) t_71 (by first | assumption | exact x_up_self _ _ _ | exact x_nw_self _ _ _ | (rw [x_up_ne (by first | omega | (simp only [x_up, x_nw]; omega))]; first | assumption | exact x_up_self _ _ _ | (rw [x_up_ne (by first | omega | (simp only [x_up, x_nw]; omega))]; first | assumption | exact x_up_self _ _ _)) | (rw [x_nw_ne (by first | omega | (simp only [x_up, x_nw]; omega))]; first | assumption | exact x_up_self _ _ _ | (rw [x_up_ne (by first | omega | (simp only [x_up, x_nw]; omega))]; assumption))) (by rfl) rfl ?_
        refine go_iload_n (pc' := 16) (i := 1) d_Tri_leastMissingMap_15 rfl rfl rfl ?_
        refine go_aaldN (pc' := 17) d_Tri_leastMissingMap_16 (by first | assumption | exact x_up_self _ _ _ | exact x_nw_self _ _ _ | (rw [x_up_ne (by first | omega | (simp only [x_up, x_nw]; omega))]; first | assumption | exact x_up_self _ _ _ | (rw [x_up_ne (by first | omega | (simp only [x_up, x_nw]; omega))]; first | assumption | exact x_up_self _ _ _)) | (rw [x_nw_ne (by first | omega | (simp only [x_up, x_nw]; omega))]; first | assumption | exact x_up_self _ _ _ | (rw [x_up_ne (by first | omega | (simp only [x_up, x_nw]; omega))]; assumption))) (by rfl) (by first | assumption | omega | (simp only [x_up, x_nw]; omega)) (by first | assumption | omega | (simp only [x_up, x_nw]; omega)) rfl ?_
        cases hm : mp j with
        | none =>
          refine go_ifnonnull_n (pc' := 20) d_Tri_leastMissingMap_17 rfl ?_
          refine go_iload_n (pc' := 21) (i := 1) d_Tri_leastMissingMap_20 rfl rfl rfl ?_
          have e : q_fn mp (r + 1) j = some j := by simp [q_fn, hm]
          rw [e]
          refine go_ireturn d_Tri_leastMissingMap_21 rfl (by rfl) ?_
          exact ⟨rfl, rfl⟩
        | some t =>
          refine go_ifnonnull_r (tgt := 22) d_Tri_leastMissingMap_17 (by decide) ?_
          refine go_iinc (pc' := 25) (i := 1) d_Tri_leastMissingMap_22 rfl (x_i1 _) (by decide) (x_s1 (by first | rfl | exact x_k_rf _)) rfl ?_
          refine go_goto (tgt := 2) d_Tri_leastMissingMap_25 (by decide) ?_
          have e : q_fn mp (r + 1) j = q_fn mp r (j + 1) := by simp [q_fn, hm]
          rw [e]
          exact ih (j + 1) (by omega)
  refine go_iconst (pc' := 1) (v := (nI 0)) d_Tri_leastMissingMap_0 (by decide) rfl ?_
  refine go_istore_n (pc' := 2) (i := 1) d_Tri_leastMissingMap_1 rfl (by decide) (x_s1 (by first | rfl | exact x_k_rf _)) rfl ?_
  exact loop 6 0 (by omega)
theorem s_leastFreeCursor (hO : Ob h x mp cu lg lc vl) : Go K M_Tri_leastFreeCursor d 0 [some (.ref x), none] [] h (x_is (some (.int (q_ix (q_fn cu 4 0)))) h) := by
  obtain ⟨h0, h1, h2⟩ := hO
  have loop : ∀ r j, j + r = 4 → Go K M_Tri_leastFreeCursor d 2 [some (.ref x), some (.int (nI j))] [] h (x_is (some (.int (q_ix (q_fn cu r j)))) h) := by
    intro r
    induction r with
    | zero =>
      intro j hj
      refine go_iload_n (pc' := 3) (i := 1) d_Tri_leastFreeCursor_2 rfl rfl rfl ?_
      refine go_aload_n (pc' := 4) (i := 0) d_Tri_leastFreeCursor_3 rfl rfl (by first | rfl | exact x_r_rf _) rfl ?_
      refine go_getfield (pc' := 7) d_Tri_leastFreeCursor_4 c_Tri 1 (by decide) t_72 (by first | assumption | exact x_up_self _ _ _ | exact x_nw_self _ _ _ | (rw [x_up_ne (by first | omega | (simp only [x_up, x_nw]; omega))]; first | assumption | exact x_up_self _ _ _ | (rw [x_up_ne (by first | omega | (simp only [x_up, x_nw]; omega))]; first | assumption | exact x_up_self _ _ _)) | (rw [x_nw_ne (by first | omega | (simp only [x_up, x_nw]; omega))]; first | assumption | exact x_up_self _ _ _ | (rw [x_up_ne (by first | omega | (simp only [x_up, x_nw]; omega))]; assumption))) (by rfl) rfl ?_
      refine go_alenN (pc' := 8) d_Tri_leastFreeCursor_7 (by first | assumption | exact x_up_self _ _ _ | exact x_nw_self _ _ _ | (rw [x_up_ne (by first | omega | (simp only [x_up, x_nw]; omega))]; first | assumption | exact x_up_self _ _ _ | (rw [x_up_ne (by first | omega | (simp only [x_up, x_nw]; omega))]; first | assumption | exact x_up_self _ _ _)) | (rw [x_nw_ne (by first | omega | (simp only [x_up, x_nw]; omega))]; first | assumption | exact x_up_self _ _ _ | (rw [x_up_ne (by first | omega | (simp only [x_up, x_nw]; omega))]; assumption))) (by rfl) rfl ?_
      refine go_icmp_geN (tgt := 28) (pc' := 11) d_Tri_leastFreeCursor_8 (by decide) rfl (by omega) (by omega) (fun hc => ?_) (fun hc => ?_)
      · refine go_iconst (pc' := 29) (v := (-1)) d_Tri_leastFreeCursor_28 (by decide) rfl ?_
        refine go_ireturn d_Tri_leastFreeCursor_29 rfl (by rfl) ?_
        exact ⟨rfl, rfl⟩
      · omega
    | succ r ih =>
      intro j hj
      refine go_iload_n (pc' := 3) (i := 1) d_Tri_leastFreeCursor_2 rfl rfl rfl ?_
      refine go_aload_n (pc' := 4) (i := 0) d_Tri_leastFreeCursor_3 rfl rfl (by first | rfl | exact x_r_rf _) rfl ?_
      refine go_getfield (pc' := 7) d_Tri_leastFreeCursor_4 c_Tri 1 (by decide) t_72 (by first | assumption | exact x_up_self _ _ _ | exact x_nw_self _ _ _ | (rw [x_up_ne (by first | omega | (simp only [x_up, x_nw]; omega))]; first | assumption | exact x_up_self _ _ _ | (rw [x_up_ne (by first | omega | (simp only [x_up, x_nw]; omega))]; first | assumption | exact x_up_self _ _ _)) | (rw [x_nw_ne (by first | omega | (simp only [x_up, x_nw]; omega))]; first | assumption | exact x_up_self _ _ _ | (rw [x_up_ne (by first | omega | (simp only [x_up, x_nw]; omega))]; assumption))) (by rfl) rfl ?_
      refine go_alenN (pc' := 8) d_Tri_leastFreeCursor_7 (by first | assumption | exact x_up_self _ _ _ | exact x_nw_self _ _ _ | (rw [x_up_ne (by first | omega | (simp only [x_up, x_nw]; omega))]; first | assumption | exact x_up_self _ _ _ | (rw [x_up_ne (by first | omega | (simp only [x_up, x_nw]; omega))]; first | assumption | exact x_up_self _ _ _)) | (rw [x_nw_ne (by first | omega | (simp only [x_up, x_nw]; omega))]; first | assumption | exact x_up_self _ _ _ | (rw [x_up_ne (by first | omega | (simp only [x_up, x_nw]; omega))]; assumption))) (by rfl) rfl ?_
      refine go_icmp_geN (tgt := 28) (pc' := 11) d_Tri_leastFreeCursor_8 (by decide) rfl (by omega) (by omega) (fun hc => ?_) (fun hc => ?_)
      · omega
      · refine go_aload_n (pc' := 12) (i := 0) d_Tri_leastFreeCursor_11 rfl rfl (by first | rfl | exact x_r_rf _) rfl ?_
        refine go_getfield (pc' := 15) d_Tri_leastFreeCursor_12 c_Tri 1 (by decide) t_72 (by first | assumption | exact x_up_self _ _ _ | exact x_nw_self _ _ _ | (rw [x_up_ne (by first | omega | (simp only [x_up, x_nw]; omega))]; first | assumption | exact x_up_self _ _ _ | (rw [x_up_ne (by first | omega | (simp only [x_up, x_nw]; omega))]; first | assumption | exact x_up_self _ _ _)) | (rw [x_nw_ne (by first | omega | (simp only [x_up, x_nw]; omega))]; first | assumption | exact x_up_self _ _ _ | (rw [x_up_ne (by first | omega | (simp only [x_up, x_nw]; omega))]; assumption))) (by rfl) rfl ?_
        refine go_iload_n (pc' := 16) (i := 1) d_Tri_leastFreeCursor_15 rfl rfl rfl ?_
        refine go_aaldN (pc' := 17) d_Tri_leastFreeCursor_16 (by first | assumption | exact x_up_self _ _ _ | exact x_nw_self _ _ _ | (rw [x_up_ne (by first | omega | (simp only [x_up, x_nw]; omega))]; first | assumption | exact x_up_self _ _ _ | (rw [x_up_ne (by first | omega | (simp only [x_up, x_nw]; omega))]; first | assumption | exact x_up_self _ _ _)) | (rw [x_nw_ne (by first | omega | (simp only [x_up, x_nw]; omega))]; first | assumption | exact x_up_self _ _ _ | (rw [x_up_ne (by first | omega | (simp only [x_up, x_nw]; omega))]; assumption))) (by rfl) (by first | assumption | omega | (simp only [x_up, x_nw]; omega)) (by first | assumption | omega | (simp only [x_up, x_nw]; omega)) rfl ?_
        cases hm : cu j with
        | none =>
          refine go_ifnonnull_n (pc' := 20) d_Tri_leastFreeCursor_17 rfl ?_
          refine go_iload_n (pc' := 21) (i := 1) d_Tri_leastFreeCursor_20 rfl rfl rfl ?_
          have e : q_fn cu (r + 1) j = some j := by simp [q_fn, hm]
          rw [e]
          refine go_ireturn d_Tri_leastFreeCursor_21 rfl (by rfl) ?_
          exact ⟨rfl, rfl⟩
        | some t =>
          refine go_ifnonnull_r (tgt := 22) d_Tri_leastFreeCursor_17 (by decide) ?_
          refine go_iinc (pc' := 25) (i := 1) d_Tri_leastFreeCursor_22 rfl (x_i1 _) (by decide) (x_s1 (by first | rfl | exact x_k_rf _)) rfl ?_
          refine go_goto (tgt := 2) d_Tri_leastFreeCursor_25 (by decide) ?_
          have e : q_fn cu (r + 1) j = q_fn cu r (j + 1) := by simp [q_fn, hm]
          rw [e]
          exact ih (j + 1) (by omega)
  refine go_iconst (pc' := 1) (v := (nI 0)) d_Tri_leastFreeCursor_0 (by decide) rfl ?_
  refine go_istore_n (pc' := 2) (i := 1) d_Tri_leastFreeCursor_1 rfl (by decide) (x_s1 (by first | rfl | exact x_k_rf _)) rfl ?_
  exact loop 4 0 (by omega)
theorem s_newGeneration {n : Nat} (hO : Ob h x mp cu (nI n) lc vl) : Go K M_Tri_newGeneration d 0 [some (.ref x)] [] h (x_is (some (.int (nI (n + 1)))) (x_up h x (.inr (5, [.ref (x + 1), .ref (x + 2), .int (nI (n + 1)), .int lc, .long vl])))) := by
  obtain ⟨h0, h1, h2⟩ := hO
  refine go_aload_n (pc' := 1) (i := 0) d_Tri_newGeneration_0 rfl rfl (by first | rfl | exact x_r_rf _) rfl ?_
  refine go_dup (pc' := 2) d_Tri_newGeneration_1 (by first | rfl | exact x_c_rf _) rfl ?_
  refine go_getfield (pc' := 5) d_Tri_newGeneration_2 c_Tri 2 (by decide) t_73 (by first | assumption | exact x_up_self _ _ _ | exact x_nw_self _ _ _ | (rw [x_up_ne (by first | omega | (simp only [x_up, x_nw]; omega))]; first | assumption | exact x_up_self _ _ _ | (rw [x_up_ne (by first | omega | (simp only [x_up, x_nw]; omega))]; first | assumption | exact x_up_self _ _ _)) | (rw [x_nw_ne (by first | omega | (simp only [x_up, x_nw]; omega))]; first | assumption | exact x_up_self _ _ _ | (rw [x_up_ne (by first | omega | (simp only [x_up, x_nw]; omega))]; assumption))) (by rfl) rfl ?_
  refine go_iconst (pc' := 6) (v := (nI 1)) d_Tri_newGeneration_5 (by decide) rfl ?_
  refine go_iadd (pc' := 7) d_Tri_newGeneration_6 rfl ?_
  rw [nI_add]
  refine go_putfield (pc' := 10) d_Tri_newGeneration_7 c_Tri 2 (by decide) rfl t_73 (by first | assumption | exact x_up_self _ _ _ | exact x_nw_self _ _ _ | (rw [x_up_ne (by first | omega | (simp only [x_up, x_nw]; omega))]; first | assumption | exact x_up_self _ _ _ | (rw [x_up_ne (by first | omega | (simp only [x_up, x_nw]; omega))]; first | assumption | exact x_up_self _ _ _)) | (rw [x_nw_ne (by first | omega | (simp only [x_up, x_nw]; omega))]; first | assumption | exact x_up_self _ _ _ | (rw [x_up_ne (by first | omega | (simp only [x_up, x_nw]; omega))]; assumption))) (by rfl) (by rfl) (by first | exact Nat.le_of_ble_eq_true rfl | simp) rfl ?_
  refine go_aload_n (pc' := 11) (i := 0) d_Tri_newGeneration_10 rfl rfl (by first | rfl | exact x_r_rf _) rfl ?_
  refine go_getfield (pc' := 14) d_Tri_newGeneration_11 c_Tri 2 (by decide) t_73 (by first | assumption | exact x_up_self _ _ _ | exact x_nw_self _ _ _ | (rw [x_up_ne (by first | omega | (simp only [x_up, x_nw]; omega))]; first | assumption | exact x_up_self _ _ _ | (rw [x_up_ne (by first | omega | (simp only [x_up, x_nw]; omega))]; first | assumption | exact x_up_self _ _ _)) | (rw [x_nw_ne (by first | omega | (simp only [x_up, x_nw]; omega))]; first | assumption | exact x_up_self _ _ _ | (rw [x_up_ne (by first | omega | (simp only [x_up, x_nw]; omega))]; assumption))) (by rfl) rfl ?_
  refine go_ireturn d_Tri_newGeneration_14 rfl (by rfl) ?_
  exact ⟨rfl, rfl⟩
theorem s_Cur_init (hz : h.1 = q + 1) (h0 : h.2.2 q = some (.inr (0, [.null, .null, .int 0]))) {r : Nat} {vs : List Value} (hr : h.2.2 r = some (.inr (2, vs))) (hc1 : h.1 + 2 ≤ x_cap K) (hc2 : h.2.1 + 10 ≤ x_cas K) :
    Go K M_Cur_init d 0 [some (.ref q), some (.ref r)] [] h (x_rt (fun v f => v = none ∧ f.1 = q + 3 ∧ f.2.1 = h.2.1 + 10 ∧ Cu f q (nI 0) (va_up (fun _ => none) 0 (some r)) (fun _ => 0) ∧ ∀ b, b < q → f.2.2 b = h.2.2 b)) := by
  refine go_dom fun hdom => ?_
  have hrz := hdom _ _ hr
  have hrq : r ≠ q := fun z => by rw [z, h0] at hr; cases hr
  obtain ⟨z, qq, ff⟩ := h
  have hz' : z = q + 1 := hz
  subst hz'
  dsimp only at hc1 hc2 hrz
  refine go_aload_n (pc' := 1) (i := 0) d_Cur_init_0 rfl rfl (by first | rfl | exact x_r_rf _) rfl ?_
  refine go_objInit (pc' := 4) d_Cur_init_1 t_407 t_22 t_23 (Nat.le_of_ble_eq_true rfl) rfl ?_
  refine go_aload_n (pc' := 5) (i := 0) d_Cur_init_4 rfl rfl (by first | rfl | exact x_r_rf _) rfl ?_
  refine go_iconst (pc' := 6) (v := (nI 5)) d_Cur_init_5 (by decide) rfl ?_
  refine go_anewarray (pc' := 9) (kd := 4) (N' := 5) d_Cur_init_6 t_408 t_38 rfl (by decide) (by decide) (by decide) (by first | assumption | omega | (simp only [x_up, x_nw]; omega)) (by first | assumption | omega | (simp only [x_up, x_nw]; omega)) rfl ?_
  refine go_putfinal (pc' := 12) d_Cur_init_9 c_Cur 0 (by decide) rfl rfl rfl t_409 (by first | assumption | exact x_up_self _ _ _ | exact x_nw_self _ _ _ | (rw [x_up_ne (by first | omega | (simp only [x_up, x_nw]; omega))]; first | assumption | exact x_up_self _ _ _ | (rw [x_up_ne (by first | omega | (simp only [x_up, x_nw]; omega))]; first | assumption | exact x_up_self _ _ _)) | (rw [x_nw_ne (by first | omega | (simp only [x_up, x_nw]; omega))]; first | assumption | exact x_up_self _ _ _ | (rw [x_up_ne (by first | omega | (simp only [x_up, x_nw]; omega))]; assumption))) (by rfl) (by rfl) (by first | exact Nat.le_of_ble_eq_true rfl | simp) rfl ?_
  refine go_aload_n (pc' := 13) (i := 0) d_Cur_init_12 rfl rfl (by first | rfl | exact x_r_rf _) rfl ?_
  refine go_iconst (pc' := 14) (v := (nI 5)) d_Cur_init_13 (by decide) rfl ?_
  refine go_newarray (pc' := 16) (kd := 0) (N' := 5) (a0 := (5, .inl (fun _ => 0))) d_Cur_init_14 t_419 rfl (fun _ => rfl) (by decide) (by decide) (by decide) (by first | assumption | omega | (simp only [x_up, x_nw]; omega)) (by first | assumption | omega | (simp only [x_up, x_nw]; omega)) rfl ?_
  refine go_putfinal (pc' := 19) d_Cur_init_16 c_Cur 1 (by decide) rfl rfl rfl t_410 (by first | assumption | exact x_up_self _ _ _ | exact x_nw_self _ _ _ | (rw [x_up_ne (by first | omega | (simp only [x_up, x_nw]; omega))]; first | assumption | exact x_up_self _ _ _ | (rw [x_up_ne (by first | omega | (simp only [x_up, x_nw]; omega))]; first | assumption | exact x_up_self _ _ _)) | (rw [x_nw_ne (by first | omega | (simp only [x_up, x_nw]; omega))]; first | assumption | exact x_up_self _ _ _ | (rw [x_up_ne (by first | omega | (simp only [x_up, x_nw]; omega))]; assumption))) (by rfl) (by rfl) (by first | exact Nat.le_of_ble_eq_true rfl | simp) rfl ?_
  refine go_aload_n (pc' := 20) (i := 0) d_Cur_init_19 rfl rfl (by first | rfl | exact x_r_rf _) rfl ?_
  refine go_getfield (pc' := 23) d_Cur_init_20 c_Cur 0 (by decide) t_409 (by first | assumption | exact x_up_self _ _ _ | exact x_nw_self _ _ _ | (rw [x_up_ne (by first | omega | (simp only [x_up, x_nw]; omega))]; first | assumption | exact x_up_self _ _ _ | (rw [x_up_ne (by first | omega | (simp only [x_up, x_nw]; omega))]; first | assumption | exact x_up_self _ _ _)) | (rw [x_nw_ne (by first | omega | (simp only [x_up, x_nw]; omega))]; first | assumption | exact x_up_self _ _ _ | (rw [x_up_ne (by first | omega | (simp only [x_up, x_nw]; omega))]; assumption))) (by rfl) rfl ?_
  refine go_iconst (pc' := 24) (v := (nI 0)) d_Cur_init_23 (by decide) rfl ?_
  refine go_aload_n (pc' := 25) (i := 1) d_Cur_init_24 rfl rfl (by first | rfl | exact x_r_rf _) rfl ?_
  refine go_aastR (pc' := 26) d_Cur_init_25 (kd := 4) (n := 5) (f := fun _ => none) (by rw [x_up_ne (by simp only [x_up, x_nw]; omega), x_nw_ne (by simp only [x_up, x_nw]; omega), x_up_ne (by simp only [x_up, x_nw]; omega)]; exact x_nw_self _ _ _) (vs := vs) (ci := 2) (by rw [x_up_ne hrq, x_nw_ne (by simp only [x_up, x_nw]; omega), x_up_ne hrq, x_nw_ne (by omega)]; exact hr) (by rfl) (by rfl) (by omega) (by omega) rfl ?_
  refine go_aload_n (pc' := 27) (i := 0) d_Cur_init_26 rfl rfl (by first | rfl | exact x_r_rf _) rfl ?_
  refine go_iconst (pc' := 28) (v := (nI 0)) d_Cur_init_27 (by decide) rfl ?_
  refine go_putfield (pc' := 31) d_Cur_init_28 c_Cur 2 (by decide) rfl t_411 (by first | assumption | exact x_up_self _ _ _ | exact x_nw_self _ _ _ | (rw [x_up_ne (by first | omega | (simp only [x_up, x_nw]; omega))]; first | assumption | exact x_up_self _ _ _ | (rw [x_up_ne (by first | omega | (simp only [x_up, x_nw]; omega))]; first | assumption | exact x_up_self _ _ _)) | (rw [x_nw_ne (by first | omega | (simp only [x_up, x_nw]; omega))]; first | assumption | exact x_up_self _ _ _ | (rw [x_up_ne (by first | omega | (simp only [x_up, x_nw]; omega))]; assumption))) (by rfl) (by rfl) (by first | exact Nat.le_of_ble_eq_true rfl | simp) rfl ?_
  refine go_return d_Cur_init_31 rfl ?_
  refine ⟨rfl, rfl, rfl, ⟨x_up_self _ _ _, ?_, ?_⟩, fun b hb => ?_⟩
  · rw [x_up_ne (by omega)]
    exact x_up_self _ _ _
  · rw [x_up_ne (by omega), x_up_ne (by simp only [x_up, x_nw]; omega), x_up_ne (by omega)]
    exact x_nw_self _ _ _
  · rw [x_up_ne (by omega), x_up_ne (by simp only [x_up, x_nw]; omega), x_up_ne (by omega), x_nw_ne (by simp only [x_up, x_nw]; omega), x_up_ne (by omega), x_nw_ne (by omega)]
end DA
