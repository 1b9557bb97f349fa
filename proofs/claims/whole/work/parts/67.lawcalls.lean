/-! the law: its calls of the class -/
theorem h_ct13 : (13 : Nat) ≠ 0 ∧ ∃ nz, x_ex (x_ct 13) = some nz ∧ Cond.classLink "SnapshotTrieLaw" 13 nz ∈ lw_tbl := ⟨by decide, _, rfl, t_98⟩
theorem h_ct15 : (15 : Nat) ≠ 0 ∧ ∃ nz, x_ex (x_ct 15) = some nz ∧ Cond.classLink "SnapshotTrieLaw" 15 nz ∈ lw_tbl := ⟨by decide, _, rfl, t_99⟩
theorem h_ct17 : (17 : Nat) ≠ 0 ∧ ∃ nz, x_ex (x_ct 17) = some nz ∧ Cond.classLink "SnapshotTrieLaw" 17 nz ∈ lw_tbl := ⟨by decide, _, rfl, t_100⟩
theorem h_ct23 : (23 : Nat) ≠ 0 ∧ ∃ nz, x_ex (x_ct 23) = some nz ∧ Cond.classLink "SnapshotTrieLaw" 23 nz ∈ lw_tbl := ⟨by decide, _, rfl, t_321⟩
section LB
variable {K : x_K} {d : Nat} {h f g : x_H} {x o m : Nat} {σ : Sg} {w : Nat → Int64}
set_option maxRecDepth 100000 in
theorem l_put (hS : CS h x σ) (ho : h.2.2 o = some (.inl (1, 1, .inr (.inl w)))) (p0 : Int32) (p1 : Int32) (p2 : Int64) (hd : 11 ≤ d) (hc1 : h.1 + 40 ≤ x_cap K) (hc2 : h.2.1 + 200 ≤ x_cas K) :
    Go K M_Law_put d 0 [some (.ref x), some (.int p0), some (.int p1), some (.long p2), none, some (.ref o), none] [] h (Qw h x o σ (p_Put σ p0 p1 p2) c_put L_z) := by
  obtain ⟨vx, hx⟩ := hS.obj
  have hcts : ∀ z ∈ M_Law_put.2.2.2.2, z.2.2.2 ≠ 0 ∧ ∃ nz, x_ex (x_ct z.2.2.2) = some nz ∧ Cond.classLink M_Law_put.1.cls z.2.2.2 nz ∈ lw_tbl := List.forall_mem_cons.mpr ⟨h_ct13, List.forall_mem_cons.mpr ⟨h_ct15, List.forall_mem_cons.mpr ⟨h_ct17, fun z hz => nomatch hz⟩⟩⟩
  have kt : ∀ (q : Nat × Nat) (g : x_H), Qc h x σ (p_Put σ p0 p1 p2) (.inr q) g → x_T K M_Law_put d 7 [some (.ref x), some (.int p0), some (.int p1), some (.long p2), none, some (.ref o), none] [.int (nI 0), .ref o] (Qw h x o σ (p_Put σ p0 p1 p2) c_put L_z) q g := by
    intro q g hq
    obtain ⟨k, b⟩ := q
    have hk : k = 11 ∨ k = 12 ∨ k = 13 := k_Put (Qc_r hq)
    rcases hk with rfl | rfl | rfl
    · refine x_T.catch (nm := "java/lang/IllegalArgumentException") (tgt := 22) rfl t_115 hcts rfl ?_
      refine go_astore (pc' := 24) (i := 6) d_Law_put_22 (by decide) (by first | rfl | exact x_r_rf _) (x_s6 (by first | rfl | exact x_k_rf _)) rfl ?_
      refine go_iconst (pc' := 25) (v := (nI 1)) d_Law_put_24 (by decide) rfl ?_
      refine go_ireturn d_Law_put_25 rfl (by rfl) ?_
      exact Qw.th hq ho rfl
    · refine x_T.catch (nm := "java/lang/UnsupportedOperationException") (tgt := 26) rfl t_179 hcts rfl ?_
      refine go_astore (pc' := 28) (i := 6) d_Law_put_26 (by decide) (by first | rfl | exact x_r_rf _) (x_s6 (by first | rfl | exact x_k_rf _)) rfl ?_
      refine go_iconst (pc' := 29) (v := (nI 2)) d_Law_put_28 (by decide) rfl ?_
      refine go_ireturn d_Law_put_29 rfl (by rfl) ?_
      exact Qw.th hq ho rfl
    · refine x_T.catch (nm := "java/lang/IllegalStateException") (tgt := 30) rfl t_256 hcts rfl ?_
      refine go_astore (pc' := 32) (i := 6) d_Law_put_30 (by decide) (by first | rfl | exact x_r_rf _) (x_s6 (by first | rfl | exact x_k_rf _)) rfl ?_
      refine go_iconst (pc' := 33) (v := (nI 3)) d_Law_put_32 (by decide) rfl ?_
      refine go_ireturn d_Law_put_33 rfl (by rfl) ?_
      exact Qw.th hq ho rfl
  refine go_aload (pc' := 2) (i := 5) d_Law_put_0 rfl (by first | rfl | exact x_r_rf _) rfl ?_
  refine go_iconst (pc' := 3) (v := (nI 0)) d_Law_put_2 (by decide) rfl ?_
  refine go_aload_n (pc' := 4) (i := 0) d_Law_put_3 rfl rfl (by first | rfl | exact x_r_rf _) rfl ?_
  refine go_iload_n (pc' := 5) (i := 1) d_Law_put_4 rfl rfl rfl ?_
  refine go_iload_n (pc' := 6) (i := 2) d_Law_put_5 rfl rfl rfl ?_
  refine go_lload_n (pc' := 7) (i := 3) d_Law_put_6 rfl rfl rfl ?_
  refine go_callV (pc' := 10) (M' := M_Tri_put) (ci := 5) (r := (n_Tri, T_Tri, 5)) [_, _, _] d_Law_put_7 t_101 t_102 t_103 cd_Tri_put nm_Tri_put rfl (by rfl) (by first | assumption | exact x_up_self _ _ _ | exact x_nw_self _ _ _ | (rw [x_up_ne (by first | omega | (simp only [x_up, x_nw]; omega))]; first | assumption | exact x_up_self _ _ _ | (rw [x_up_ne (by first | omega | (simp only [x_up, x_nw]; omega))]; first | assumption | exact x_up_self _ _ _)) | (rw [x_nw_ne (by first | omega | (simp only [x_up, x_nw]; omega))]; first | assumption | exact x_up_self _ _ _ | (rw [x_up_ne (by first | omega | (simp only [x_up, x_nw]; omega))]; assumption))) rfl (Nat.le_of_ble_eq_true rfl) rfl (s_put (d := d - 1) hS p0 p1 p2 (by omega) hc1 hc2) (by first | decide | omega) (Nat.le_of_ble_eq_true rfl) rfl (fun v hh hq => ?_) (kt)
  have hr := Qc_l hq
  have ho' := hq.2.1 o _ ho rfl
  rcases t_Put hr with rfl | rfl
  · show Go K M_Law_put d 10 _ [.int 0, .int (nI 0), .ref o] hh _
    refine go_if_eq (tgt := 17) (pc' := 13) d_Law_put_10 (by decide) rfl (fun hc => ?_) (fun hc => ?_)
    · refine go_lconst (pc' := 18) (v := 0) d_Law_put_17 (by decide) rfl ?_
      refine go_lastN (pc' := 19) d_Law_put_18 (by first | assumption | exact x_up_self _ _ _ | exact x_nw_self _ _ _ | (rw [x_up_ne (by first | omega | (simp only [x_up, x_nw]; omega))]; first | assumption | exact x_up_self _ _ _ | (rw [x_up_ne (by first | omega | (simp only [x_up, x_nw]; omega))]; first | assumption | exact x_up_self _ _ _)) | (rw [x_nw_ne (by first | omega | (simp only [x_up, x_nw]; omega))]; first | assumption | exact x_up_self _ _ _ | (rw [x_up_ne (by first | omega | (simp only [x_up, x_nw]; omega))]; assumption))) (by rfl) (by first | assumption | omega | (simp only [x_up, x_nw]; omega)) (by first | assumption | omega | (simp only [x_up, x_nw]; omega)) rfl ?_
      refine go_goto (tgt := 34) d_Law_put_19 (by decide) ?_
      refine go_iconst (pc' := 35) (v := (nI 0)) d_Law_put_34 (by decide) rfl ?_
      refine go_ireturn d_Law_put_35 rfl (by rfl) ?_
      exact Qw.ok hq ho (by first | rfl | decide)
    · exact absurd rfl hc
  · show Go K M_Law_put d 10 _ [.int 1, .int (nI 0), .ref o] hh _
    refine go_if_eq (tgt := 17) (pc' := 13) d_Law_put_10 (by decide) rfl (fun hc => ?_) (fun hc => ?_)
    · exact absurd hc (by decide)
    · refine go_lconst (pc' := 14) (v := 1) d_Law_put_13 (by decide) rfl ?_
      refine go_goto (tgt := 18) d_Law_put_14 (by decide) ?_
      refine go_lastN (pc' := 19) d_Law_put_18 (by first | assumption | exact x_up_self _ _ _ | exact x_nw_self _ _ _ | (rw [x_up_ne (by first | omega | (simp only [x_up, x_nw]; omega))]; first | assumption | exact x_up_self _ _ _ | (rw [x_up_ne (by first | omega | (simp only [x_up, x_nw]; omega))]; first | assumption | exact x_up_self _ _ _)) | (rw [x_nw_ne (by first | omega | (simp only [x_up, x_nw]; omega))]; first | assumption | exact x_up_self _ _ _ | (rw [x_up_ne (by first | omega | (simp only [x_up, x_nw]; omega))]; assumption))) (by rfl) (by first | assumption | omega | (simp only [x_up, x_nw]; omega)) (by first | assumption | omega | (simp only [x_up, x_nw]; omega)) rfl ?_
      refine go_goto (tgt := 34) d_Law_put_19 (by decide) ?_
      refine go_iconst (pc' := 35) (v := (nI 0)) d_Law_put_34 (by decide) rfl ?_
      refine go_ireturn d_Law_put_35 rfl (by rfl) ?_
      exact Qw.ok hq ho (by first | rfl | decide)
set_option maxRecDepth 100000 in
theorem l_get (hS : CS h x σ) (ho : h.2.2 o = some (.inl (1, 1, .inr (.inl w)))) (p0 : Int32) (p1 : Int32) (hd : 11 ≤ d) (hc1 : h.1 + 40 ≤ x_cap K) (hc2 : h.2.1 + 200 ≤ x_cas K) :
    Go K M_Law_get d 0 [some (.ref x), some (.int p0), some (.int p1), some (.ref o), none] [] h (Qw h x o σ (p_Get σ p0 p1) c_1 L_l) := by
  obtain ⟨vx, hx⟩ := hS.obj
  have hcts : ∀ z ∈ M_Law_get.2.2.2.2, z.2.2.2 ≠ 0 ∧ ∃ nz, x_ex (x_ct z.2.2.2) = some nz ∧ Cond.classLink M_Law_get.1.cls z.2.2.2 nz ∈ lw_tbl := List.forall_mem_cons.mpr ⟨h_ct13, List.forall_mem_cons.mpr ⟨h_ct23, fun z hz => nomatch hz⟩⟩
  have kt : ∀ (q : Nat × Nat) (g : x_H), Qc h x σ (p_Get σ p0 p1) (.inr q) g → x_T K M_Law_get d 5 [some (.ref x), some (.int p0), some (.int p1), some (.ref o), none] [.int (nI 0), .ref o] (Qw h x o σ (p_Get σ p0 p1) c_1 L_l) q g := by
    intro q g hq
    obtain ⟨k, b⟩ := q
    have hk : k = 11 ∨ k = 14 := k_Get (Qc_r hq)
    rcases hk with rfl | rfl
    · refine x_T.catch (nm := "java/lang/IllegalArgumentException") (tgt := 12) rfl t_115 hcts rfl ?_
      refine go_astore (pc' := 14) (i := 4) d_Law_get_12 (by decide) (by first | rfl | exact x_r_rf _) (x_s4 (by first | rfl | exact x_k_rf _)) rfl ?_
      refine go_iconst (pc' := 15) (v := (nI 1)) d_Law_get_14 (by decide) rfl ?_
      refine go_ireturn d_Law_get_15 rfl (by rfl) ?_
      exact Qw.th hq ho rfl
    · refine x_T.catch (nm := "java/util/NoSuchElementException") (tgt := 16) rfl t_331 hcts rfl ?_
      refine go_astore (pc' := 18) (i := 4) d_Law_get_16 (by decide) (by first | rfl | exact x_r_rf _) (x_s4 (by first | rfl | exact x_k_rf _)) rfl ?_
      refine go_iconst (pc' := 19) (v := (nI 2)) d_Law_get_18 (by decide) rfl ?_
      refine go_ireturn d_Law_get_19 rfl (by rfl) ?_
      exact Qw.th hq ho rfl
  refine go_aload_n (pc' := 1) (i := 3) d_Law_get_0 rfl rfl (by first | rfl | exact x_r_rf _) rfl ?_
  refine go_iconst (pc' := 2) (v := (nI 0)) d_Law_get_1 (by decide) rfl ?_
  refine go_aload_n (pc' := 3) (i := 0) d_Law_get_2 rfl rfl (by first | rfl | exact x_r_rf _) rfl ?_
  refine go_iload_n (pc' := 4) (i := 1) d_Law_get_3 rfl rfl rfl ?_
  refine go_iload_n (pc' := 5) (i := 2) d_Law_get_4 rfl rfl rfl ?_
  refine go_callV (pc' := 8) (M' := M_Tri_get) (ci := 5) (r := (n_Tri, T_Tri, 5)) [_, _] d_Law_get_5 t_322 t_323 t_324 cd_Tri_get nm_Tri_get rfl (by rfl) (by first | assumption | exact x_up_self _ _ _ | exact x_nw_self _ _ _ | (rw [x_up_ne (by first | omega | (simp only [x_up, x_nw]; omega))]; first | assumption | exact x_up_self _ _ _ | (rw [x_up_ne (by first | omega | (simp only [x_up, x_nw]; omega))]; first | assumption | exact x_up_self _ _ _)) | (rw [x_nw_ne (by first | omega | (simp only [x_up, x_nw]; omega))]; first | assumption | exact x_up_self _ _ _ | (rw [x_up_ne (by first | omega | (simp only [x_up, x_nw]; omega))]; assumption))) rfl (Nat.le_of_ble_eq_true rfl) rfl (s_get (d := d - 1) hS p0 p1 (by omega) hc1 hc2) (by first | decide | omega) (Nat.le_of_ble_eq_true rfl) rfl (fun v hh hq => ?_) (kt)
  have hr := Qc_l hq
  have ho' := hq.2.1 o _ ho rfl
  obtain ⟨z, rfl⟩ := t_Get hr
  show Go K M_Law_get d 8 _ [.long z, .int (nI 0), .ref o] hh _
  refine go_lastN (pc' := 9) d_Law_get_8 (by first | assumption | exact x_up_self _ _ _ | exact x_nw_self _ _ _ | (rw [x_up_ne (by first | omega | (simp only [x_up, x_nw]; omega))]; first | assumption | exact x_up_self _ _ _ | (rw [x_up_ne (by first | omega | (simp only [x_up, x_nw]; omega))]; first | assumption | exact x_up_self _ _ _)) | (rw [x_nw_ne (by first | omega | (simp only [x_up, x_nw]; omega))]; first | assumption | exact x_up_self _ _ _ | (rw [x_up_ne (by first | omega | (simp only [x_up, x_nw]; omega))]; assumption))) (by rfl) (by first | assumption | omega | (simp only [x_up, x_nw]; omega)) (by first | assumption | omega | (simp only [x_up, x_nw]; omega)) rfl ?_
  refine go_goto (tgt := 20) d_Law_get_9 (by decide) ?_
  refine go_iconst (pc' := 21) (v := (nI 0)) d_Law_get_20 (by decide) rfl ?_
  refine go_ireturn d_Law_get_21 rfl (by rfl) ?_
  exact Qw.ok hq ho rfl
set_option maxRecDepth 100000 in
theorem l_remove (hS : CS h x σ) (ho : h.2.2 o = some (.inl (1, 1, .inr (.inl w)))) (p0 : Int32) (p1 : Int32) (hd : 11 ≤ d) (hc1 : h.1 + 40 ≤ x_cap K) (hc2 : h.2.1 + 200 ≤ x_cas K) :
    Go K M_Law_remove d 0 [some (.ref x), some (.int p0), some (.int p1), some (.ref o), none] [] h (Qw h x o σ (p_Rem σ p0 p1) c_rem L_l) := by
  obtain ⟨vx, hx⟩ := hS.obj
  have hcts : ∀ z ∈ M_Law_remove.2.2.2.2, z.2.2.2 ≠ 0 ∧ ∃ nz, x_ex (x_ct z.2.2.2) = some nz ∧ Cond.classLink M_Law_remove.1.cls z.2.2.2 nz ∈ lw_tbl := List.forall_mem_cons.mpr ⟨h_ct13, List.forall_mem_cons.mpr ⟨h_ct15, List.forall_mem_cons.mpr ⟨h_ct23, fun z hz => nomatch hz⟩⟩⟩
  have kt : ∀ (q : Nat × Nat) (g : x_H), Qc h x σ (p_Rem σ p0 p1) (.inr q) g → x_T K M_Law_remove d 5 [some (.ref x), some (.int p0), some (.int p1), some (.ref o), none] [.int (nI 0), .ref o] (Qw h x o σ (p_Rem σ p0 p1) c_rem L_l) q g := by
    intro q g hq
    obtain ⟨k, b⟩ := q
    have hk : k = 11 ∨ k = 12 ∨ k = 14 := k_Rem (Qc_r hq)
    rcases hk with rfl | rfl | rfl
    · refine x_T.catch (nm := "java/lang/IllegalArgumentException") (tgt := 12) rfl t_115 hcts rfl ?_
      refine go_astore (pc' := 14) (i := 4) d_Law_remove_12 (by decide) (by first | rfl | exact x_r_rf _) (x_s4 (by first | rfl | exact x_k_rf _)) rfl ?_
      refine go_iconst (pc' := 15) (v := (nI 1)) d_Law_remove_14 (by decide) rfl ?_
      refine go_ireturn d_Law_remove_15 rfl (by rfl) ?_
      exact Qw.th hq ho rfl
    · refine x_T.catch (nm := "java/lang/UnsupportedOperationException") (tgt := 16) rfl t_179 hcts rfl ?_
      refine go_astore (pc' := 18) (i := 4) d_Law_remove_16 (by decide) (by first | rfl | exact x_r_rf _) (x_s4 (by first | rfl | exact x_k_rf _)) rfl ?_
      refine go_iconst (pc' := 19) (v := (nI 2)) d_Law_remove_18 (by decide) rfl ?_
      refine go_ireturn d_Law_remove_19 rfl (by rfl) ?_
      exact Qw.th hq ho rfl
    · refine x_T.catch (nm := "java/util/NoSuchElementException") (tgt := 20) rfl t_331 hcts rfl ?_
      refine go_astore (pc' := 22) (i := 4) d_Law_remove_20 (by decide) (by first | rfl | exact x_r_rf _) (x_s4 (by first | rfl | exact x_k_rf _)) rfl ?_
      refine go_iconst (pc' := 23) (v := (nI 3)) d_Law_remove_22 (by decide) rfl ?_
      refine go_ireturn d_Law_remove_23 rfl (by rfl) ?_
      exact Qw.th hq ho rfl
  refine go_aload_n (pc' := 1) (i := 3) d_Law_remove_0 rfl rfl (by first | rfl | exact x_r_rf _) rfl ?_
  refine go_iconst (pc' := 2) (v := (nI 0)) d_Law_remove_1 (by decide) rfl ?_
  refine go_aload_n (pc' := 3) (i := 0) d_Law_remove_2 rfl rfl (by first | rfl | exact x_r_rf _) rfl ?_
  refine go_iload_n (pc' := 4) (i := 1) d_Law_remove_3 rfl rfl rfl ?_
  refine go_iload_n (pc' := 5) (i := 2) d_Law_remove_4 rfl rfl rfl ?_
  refine go_callV (pc' := 8) (M' := M_Tri_remove) (ci := 5) (r := (n_Tri, T_Tri, 5)) [_, _] d_Law_remove_5 t_347 t_348 t_349 cd_Tri_remove nm_Tri_remove rfl (by rfl) (by first | assumption | exact x_up_self _ _ _ | exact x_nw_self _ _ _ | (rw [x_up_ne (by first | omega | (simp only [x_up, x_nw]; omega))]; first | assumption | exact x_up_self _ _ _ | (rw [x_up_ne (by first | omega | (simp only [x_up, x_nw]; omega))]; first | assumption | exact x_up_self _ _ _)) | (rw [x_nw_ne (by first | omega | (simp only [x_up, x_nw]; omega))]; first | assumption | exact x_up_self _ _ _ | (rw [x_up_ne (by first | omega | (simp only [x_up, x_nw]; omega))]; assumption))) rfl (Nat.le_of_ble_eq_true rfl) rfl (s_remove (d := d - 1) hS p0 p1 (by omega) hc1 hc2) (by first | decide | omega) (Nat.le_of_ble_eq_true rfl) rfl (fun v hh hq => ?_) (kt)
  have hr := Qc_l hq
  have ho' := hq.2.1 o _ ho rfl
  obtain ⟨z, rfl⟩ := t_Rem hr
  show Go K M_Law_remove d 8 _ [.long z, .int (nI 0), .ref o] hh _
  refine go_lastN (pc' := 9) d_Law_remove_8 (by first | assumption | exact x_up_self _ _ _ | exact x_nw_self _ _ _ | (rw [x_up_ne (by first | omega | (simp only [x_up, x_nw]; omega))]; first | assumption | exact x_up_self _ _ _ | (rw [x_up_ne (by first | omega | (simp only [x_up, x_nw]; omega))]; first | assumption | exact x_up_self _ _ _)) | (rw [x_nw_ne (by first | omega | (simp only [x_up, x_nw]; omega))]; first | assumption | exact x_up_self _ _ _ | (rw [x_up_ne (by first | omega | (simp only [x_up, x_nw]; omega))]; assumption))) (by rfl) (by first | assumption | omega | (simp only [x_up, x_nw]; omega)) (by first | assumption | omega | (simp only [x_up, x_nw]; omega)) rfl ?_
  refine go_goto (tgt := 24) d_Law_remove_9 (by decide) ?_
  refine go_iconst (pc' := 25) (v := (nI 0)) d_Law_remove_24 (by decide) rfl ?_
  refine go_ireturn d_Law_remove_25 rfl (by rfl) ?_
  exact Qw.ok hq ho rfl
set_option maxRecDepth 100000 in
theorem l_replace (hS : CS h x σ) (ho : h.2.2 o = some (.inl (1, 1, .inr (.inl w)))) (p0 : Int32) (p1 : Int32) (p2 : Int64) (p3 : Int64) (hd : 11 ≤ d) (hc1 : h.1 + 40 ≤ x_cap K) (hc2 : h.2.1 + 200 ≤ x_cas K) :
    Go K M_Law_replace d 0 [some (.ref x), some (.int p0), some (.int p1), some (.long p2), none, some (.long p3), none, some (.ref o), none] [] h (Qw h x o σ (p_Rep σ p0 p1 p2 p3) c_put L_z) := by
  obtain ⟨vx, hx⟩ := hS.obj
  have hcts : ∀ z ∈ M_Law_replace.2.2.2.2, z.2.2.2 ≠ 0 ∧ ∃ nz, x_ex (x_ct z.2.2.2) = some nz ∧ Cond.classLink M_Law_replace.1.cls z.2.2.2 nz ∈ lw_tbl := List.forall_mem_cons.mpr ⟨h_ct13, List.forall_mem_cons.mpr ⟨h_ct15, fun z hz => nomatch hz⟩⟩
  have kt : ∀ (q : Nat × Nat) (g : x_H), Qc h x σ (p_Rep σ p0 p1 p2 p3) (.inr q) g → x_T K M_Law_replace d 9 [some (.ref x), some (.int p0), some (.int p1), some (.long p2), none, some (.long p3), none, some (.ref o), none] [.int (nI 0), .ref o] (Qw h x o σ (p_Rep σ p0 p1 p2 p3) c_put L_z) q g := by
    intro q g hq
    obtain ⟨k, b⟩ := q
    have hk : k = 11 ∨ k = 12 := k_Rep (Qc_r hq)
    rcases hk with rfl | rfl
    · refine x_T.catch (nm := "java/lang/IllegalArgumentException") (tgt := 24) rfl t_115 hcts rfl ?_
      refine go_astore (pc' := 26) (i := 8) d_Law_replace_24 (by decide) (by first | rfl | exact x_r_rf _) (x_s8 (by first | rfl | exact x_k_rf _)) rfl ?_
      refine go_iconst (pc' := 27) (v := (nI 1)) d_Law_replace_26 (by decide) rfl ?_
      refine go_ireturn d_Law_replace_27 rfl (by rfl) ?_
      exact Qw.th hq ho rfl
    · refine x_T.catch (nm := "java/lang/UnsupportedOperationException") (tgt := 28) rfl t_179 hcts rfl ?_
      refine go_astore (pc' := 30) (i := 8) d_Law_replace_28 (by decide) (by first | rfl | exact x_r_rf _) (x_s8 (by first | rfl | exact x_k_rf _)) rfl ?_
      refine go_iconst (pc' := 31) (v := (nI 2)) d_Law_replace_30 (by decide) rfl ?_
      refine go_ireturn d_Law_replace_31 rfl (by rfl) ?_
      exact Qw.th hq ho rfl
  refine go_aload (pc' := 2) (i := 7) d_Law_replace_0 rfl (by first | rfl | exact x_r_rf _) rfl ?_
  refine go_iconst (pc' := 3) (v := (nI 0)) d_Law_replace_2 (by decide) rfl ?_
  refine go_aload_n (pc' := 4) (i := 0) d_Law_replace_3 rfl rfl (by first | rfl | exact x_r_rf _) rfl ?_
  refine go_iload_n (pc' := 5) (i := 1) d_Law_replace_4 rfl rfl rfl ?_
  refine go_iload_n (pc' := 6) (i := 2) d_Law_replace_5 rfl rfl rfl ?_
  refine go_lload_n (pc' := 7) (i := 3) d_Law_replace_6 rfl rfl rfl ?_
  refine go_lload (pc' := 9) (i := 5) d_Law_replace_7 rfl rfl ?_
  refine go_callV (pc' := 12) (M' := M_Tri_replace) (ci := 5) (r := (n_Tri, T_Tri, 5)) [_, _, _, _] d_Law_replace_9 t_366 t_367 t_368 cd_Tri_replace nm_Tri_replace rfl (by rfl) (by first | assumption | exact x_up_self _ _ _ | exact x_nw_self _ _ _ | (rw [x_up_ne (by first | omega | (simp only [x_up, x_nw]; omega))]; first | assumption | exact x_up_self _ _ _ | (rw [x_up_ne (by first | omega | (simp only [x_up, x_nw]; omega))]; first | assumption | exact x_up_self _ _ _)) | (rw [x_nw_ne (by first | omega | (simp only [x_up, x_nw]; omega))]; first | assumption | exact x_up_self _ _ _ | (rw [x_up_ne (by first | omega | (simp only [x_up, x_nw]; omega))]; assumption))) rfl (Nat.le_of_ble_eq_true rfl) rfl (s_replace (d := d - 1) hS p0 p1 p2 p3 (by omega) hc1 hc2) (by first | decide | omega) (Nat.le_of_ble_eq_true rfl) rfl (fun v hh hq => ?_) (kt)
  have hr := Qc_l hq
  have ho' := hq.2.1 o _ ho rfl
  rcases t_Rep hr with rfl | rfl
  · show Go K M_Law_replace d 12 _ [.int 0, .int (nI 0), .ref o] hh _
    refine go_if_eq (tgt := 19) (pc' := 15) d_Law_replace_12 (by decide) rfl (fun hc => ?_) (fun hc => ?_)
    · refine go_lconst (pc' := 20) (v := 0) d_Law_replace_19 (by decide) rfl ?_
      refine go_lastN (pc' := 21) d_Law_replace_20 (by first | assumption | exact x_up_self _ _ _ | exact x_nw_self _ _ _ | (rw [x_up_ne (by first | omega | (simp only [x_up, x_nw]; omega))]; first | assumption | exact x_up_self _ _ _ | (rw [x_up_ne (by first | omega | (simp only [x_up, x_nw]; omega))]; first | assumption | exact x_up_self _ _ _)) | (rw [x_nw_ne (by first | omega | (simp only [x_up, x_nw]; omega))]; first | assumption | exact x_up_self _ _ _ | (rw [x_up_ne (by first | omega | (simp only [x_up, x_nw]; omega))]; assumption))) (by rfl) (by first | assumption | omega | (simp only [x_up, x_nw]; omega)) (by first | assumption | omega | (simp only [x_up, x_nw]; omega)) rfl ?_
      refine go_goto (tgt := 32) d_Law_replace_21 (by decide) ?_
      refine go_iconst (pc' := 33) (v := (nI 0)) d_Law_replace_32 (by decide) rfl ?_
      refine go_ireturn d_Law_replace_33 rfl (by rfl) ?_
      exact Qw.ok hq ho (by first | rfl | decide)
    · exact absurd rfl hc
  · show Go K M_Law_replace d 12 _ [.int 1, .int (nI 0), .ref o] hh _
    refine go_if_eq (tgt := 19) (pc' := 15) d_Law_replace_12 (by decide) rfl (fun hc => ?_) (fun hc => ?_)
    · exact absurd hc (by decide)
    · refine go_lconst (pc' := 16) (v := 1) d_Law_replace_15 (by decide) rfl ?_
      refine go_goto (tgt := 20) d_Law_replace_16 (by decide) ?_
      refine go_lastN (pc' := 21) d_Law_replace_20 (by first | assumption | exact x_up_self _ _ _ | exact x_nw_self _ _ _ | (rw [x_up_ne (by first | omega | (simp only [x_up, x_nw]; omega))]; first | assumption | exact x_up_self _ _ _ | (rw [x_up_ne (by first | omega | (simp only [x_up, x_nw]; omega))]; first | assumption | exact x_up_self _ _ _)) | (rw [x_nw_ne (by first | omega | (simp only [x_up, x_nw]; omega))]; first | assumption | exact x_up_self _ _ _ | (rw [x_up_ne (by first | omega | (simp only [x_up, x_nw]; omega))]; assumption))) (by rfl) (by first | assumption | omega | (simp only [x_up, x_nw]; omega)) (by first | assumption | omega | (simp only [x_up, x_nw]; omega)) rfl ?_
      refine go_goto (tgt := 32) d_Law_replace_21 (by decide) ?_
      refine go_iconst (pc' := 33) (v := (nI 0)) d_Law_replace_32 (by decide) rfl ?_
      refine go_ireturn d_Law_replace_33 rfl (by rfl) ?_
      exact Qw.ok hq ho (by first | rfl | decide)
set_option maxRecDepth 100000 in
theorem l_snapshot (hS : CS h x σ) (ho : h.2.2 o = some (.inl (1, 1, .inr (.inl w)))) (p0 : Int32) (p1 : Int32) (hb : p1 = 0 ∨ p1 = 1) (hlg2 : s_lg σ + 2 < 2 ^ 20) (hd : 11 ≤ d) (hc1 : h.1 + 40 ≤ x_cap K) (hc2 : h.2.1 + 200 ≤ x_cas K) :
    Go K M_Law_snapshot d 0 [some (.ref x), some (.int p0), some (.int p1), some (.ref o), none] [] h (Qw h x o σ (p_Snap σ p0 p1) c_1 L_i) := by
  obtain ⟨vx, hx⟩ := hS.obj
  have hcts : ∀ z ∈ M_Law_snapshot.2.2.2.2, z.2.2.2 ≠ 0 ∧ ∃ nz, x_ex (x_ct z.2.2.2) = some nz ∧ Cond.classLink M_Law_snapshot.1.cls z.2.2.2 nz ∈ lw_tbl := List.forall_mem_cons.mpr ⟨h_ct13, List.forall_mem_cons.mpr ⟨h_ct17, fun z hz => nomatch hz⟩⟩
  have kt : ∀ (q : Nat × Nat) (g : x_H), Qc h x σ (p_Snap σ p0 p1) (.inr q) g → x_T K M_Law_snapshot d 5 [some (.ref x), some (.int p0), some (.int p1), some (.ref o), none] [.int (nI 0), .ref o] (Qw h x o σ (p_Snap σ p0 p1) c_1 L_i) q g := by
    intro q g hq
    obtain ⟨k, b⟩ := q
    have hk : k = 11 ∨ k = 13 := k_Snap (Qc_r hq)
    rcases hk with rfl | rfl
    · refine x_T.catch (nm := "java/lang/IllegalArgumentException") (tgt := 13) rfl t_115 hcts rfl ?_
      refine go_astore (pc' := 15) (i := 4) d_Law_snapshot_13 (by decide) (by first | rfl | exact x_r_rf _) (x_s4 (by first | rfl | exact x_k_rf _)) rfl ?_
      refine go_iconst (pc' := 16) (v := (nI 1)) d_Law_snapshot_15 (by decide) rfl ?_
      refine go_ireturn d_Law_snapshot_16 rfl (by rfl) ?_
      exact Qw.th hq ho rfl
    · refine x_T.catch (nm := "java/lang/IllegalStateException") (tgt := 17) rfl t_256 hcts rfl ?_
      refine go_astore (pc' := 19) (i := 4) d_Law_snapshot_17 (by decide) (by first | rfl | exact x_r_rf _) (x_s4 (by first | rfl | exact x_k_rf _)) rfl ?_
      refine go_iconst (pc' := 20) (v := (nI 2)) d_Law_snapshot_19 (by decide) rfl ?_
      refine go_ireturn d_Law_snapshot_20 rfl (by rfl) ?_
      exact Qw.th hq ho rfl
  refine go_aload_n (pc' := 1) (i := 3) d_Law_snapshot_0 rfl rfl (by first | rfl | exact x_r_rf _) rfl ?_
  refine go_iconst (pc' := 2) (v := (nI 0)) d_Law_snapshot_1 (by decide) rfl ?_
  refine go_aload_n (pc' := 3) (i := 0) d_Law_snapshot_2 rfl rfl (by first | rfl | exact x_r_rf _) rfl ?_
  refine go_iload_n (pc' := 4) (i := 1) d_Law_snapshot_3 rfl rfl rfl ?_
  refine go_iload_n (pc' := 5) (i := 2) d_Law_snapshot_4 rfl rfl rfl ?_
  refine go_callV (pc' := 8) (M' := M_Tri_snapshot) (ci := 5) (r := (n_Tri, T_Tri, 5)) [_, _] d_Law_snapshot_5 t_373 t_374 t_375 cd_Tri_snapshot nm_Tri_snapshot rfl (by rfl) (by first | assumption | exact x_up_self _ _ _ | exact x_nw_self _ _ _ | (rw [x_up_ne (by first | omega | (simp only [x_up, x_nw]; omega))]; first | assumption | exact x_up_self _ _ _ | (rw [x_up_ne (by first | omega | (simp only [x_up, x_nw]; omega))]; first | assumption | exact x_up_self _ _ _)) | (rw [x_nw_ne (by first | omega | (simp only [x_up, x_nw]; omega))]; first | assumption | exact x_up_self _ _ _ | (rw [x_up_ne (by first | omega | (simp only [x_up, x_nw]; omega))]; assumption))) rfl (Nat.le_of_ble_eq_true rfl) rfl (s_snapshot (d := d - 1) hS p0 p1 hb hlg2 (by omega) hc1 hc2) (by first | decide | omega) (Nat.le_of_ble_eq_true rfl) rfl (fun v hh hq => ?_) (kt)
  have hr := Qc_l hq
  have ho' := hq.2.1 o _ ho rfl
  obtain ⟨z, rfl⟩ := t_Snap hr
  show Go K M_Law_snapshot d 8 _ [.int z, .int (nI 0), .ref o] hh _
  refine go_i2l (pc' := 9) d_Law_snapshot_8 rfl rfl ?_
  refine go_lastN (pc' := 10) d_Law_snapshot_9 (by first | assumption | exact x_up_self _ _ _ | exact x_nw_self _ _ _ | (rw [x_up_ne (by first | omega | (simp only [x_up, x_nw]; omega))]; first | assumption | exact x_up_self _ _ _ | (rw [x_up_ne (by first | omega | (simp only [x_up, x_nw]; omega))]; first | assumption | exact x_up_self _ _ _)) | (rw [x_nw_ne (by first | omega | (simp only [x_up, x_nw]; omega))]; first | assumption | exact x_up_self _ _ _ | (rw [x_up_ne (by first | omega | (simp only [x_up, x_nw]; omega))]; assumption))) (by rfl) (by first | assumption | omega | (simp only [x_up, x_nw]; omega)) (by first | assumption | omega | (simp only [x_up, x_nw]; omega)) rfl ?_
  refine go_goto (tgt := 21) d_Law_snapshot_10 (by decide) ?_
  refine go_iconst (pc' := 22) (v := (nI 0)) d_Law_snapshot_21 (by decide) rfl ?_
  refine go_ireturn d_Law_snapshot_22 rfl (by rfl) ?_
  exact Qw.ok hq ho rfl
set_option maxRecDepth 100000 in
theorem l_drop (hS : CS h x σ) (ho : h.2.2 o = some (.inl (1, 1, .inr (.inl w)))) (p0 : Int32) (hd : 11 ≤ d) (hc1 : h.1 + 40 ≤ x_cap K) (hc2 : h.2.1 + 200 ≤ x_cas K) :
    Go K M_Law_drop d 0 [some (.ref x), some (.int p0), some (.ref o), none] [] h (Qw h x o σ (p_Drop σ p0) c_1 L_i) := by
  obtain ⟨vx, hx⟩ := hS.obj
  have hcts : ∀ z ∈ M_Law_drop.2.2.2.2, z.2.2.2 ≠ 0 ∧ ∃ nz, x_ex (x_ct z.2.2.2) = some nz ∧ Cond.classLink M_Law_drop.1.cls z.2.2.2 nz ∈ lw_tbl := List.forall_mem_cons.mpr ⟨h_ct13, List.forall_mem_cons.mpr ⟨h_ct17, fun z hz => nomatch hz⟩⟩
  have kt : ∀ (q : Nat × Nat) (g : x_H), Qc h x σ (p_Drop σ p0) (.inr q) g → x_T K M_Law_drop d 4 [some (.ref x), some (.int p0), some (.ref o), none] [.int (nI 0), .ref o] (Qw h x o σ (p_Drop σ p0) c_1 L_i) q g := by
    intro q g hq
    obtain ⟨k, b⟩ := q
    have hk : k = 11 ∨ k = 13 := k_Drop (Qc_r hq)
    rcases hk with rfl | rfl
    · refine x_T.catch (nm := "java/lang/IllegalArgumentException") (tgt := 12) rfl t_115 hcts rfl ?_
      refine go_astore_n (pc' := 13) (i := 3) d_Law_drop_12 rfl (by decide) (by first | rfl | exact x_r_rf _) (x_s3 (by first | rfl | exact x_k_rf _)) rfl ?_
      refine go_iconst (pc' := 14) (v := (nI 1)) d_Law_drop_13 (by decide) rfl ?_
      refine go_ireturn d_Law_drop_14 rfl (by rfl) ?_
      exact Qw.th hq ho rfl
    · refine x_T.catch (nm := "java/lang/IllegalStateException") (tgt := 15) rfl t_256 hcts rfl ?_
      refine go_astore_n (pc' := 16) (i := 3) d_Law_drop_15 rfl (by decide) (by first | rfl | exact x_r_rf _) (x_s3 (by first | rfl | exact x_k_rf _)) rfl ?_
      refine go_iconst (pc' := 17) (v := (nI 2)) d_Law_drop_16 (by decide) rfl ?_
      refine go_ireturn d_Law_drop_17 rfl (by rfl) ?_
      exact Qw.th hq ho rfl
  refine go_aload_n (pc' := 1) (i := 2) d_Law_drop_0 rfl rfl (by first | rfl | exact x_r_rf _) rfl ?_
  refine go_iconst (pc' := 2) (v := (nI 0)) d_Law_drop_1 (by decide) rfl ?_
  refine go_aload_n (pc' := 3) (i := 0) d_Law_drop_2 rfl rfl (by first | rfl | exact x_r_rf _) rfl ?_
  refine go_iload_n (pc' := 4) (i := 1) d_Law_drop_3 rfl rfl rfl ?_
  refine go_callV (pc' := 7) (M' := M_Tri_drop) (ci := 5) (r := (n_Tri, T_Tri, 5)) [_] d_Law_drop_4 t_388 t_389 t_390 cd_Tri_drop nm_Tri_drop rfl (by rfl) (by first | assumption | exact x_up_self _ _ _ | exact x_nw_self _ _ _ | (rw [x_up_ne (by first | omega | (simp only [x_up, x_nw]; omega))]; first | assumption | exact x_up_self _ _ _ | (rw [x_up_ne (by first | omega | (simp only [x_up, x_nw]; omega))]; first | assumption | exact x_up_self _ _ _)) | (rw [x_nw_ne (by first | omega | (simp only [x_up, x_nw]; omega))]; first | assumption | exact x_up_self _ _ _ | (rw [x_up_ne (by first | omega | (simp only [x_up, x_nw]; omega))]; assumption))) rfl (Nat.le_of_ble_eq_true rfl) rfl (s_drop (d := d - 1) hS p0 (by omega) hc1 hc2) (by first | decide | omega) (Nat.le_of_ble_eq_true rfl) rfl (fun v hh hq => ?_) (kt)
  have hr := Qc_l hq
  have ho' := hq.2.1 o _ ho rfl
  obtain ⟨z, rfl⟩ := t_Drop hr
  show Go K M_Law_drop d 7 _ [.int z, .int (nI 0), .ref o] hh _
  refine go_i2l (pc' := 8) d_Law_drop_7 rfl rfl ?_
  refine go_lastN (pc' := 9) d_Law_drop_8 (by first | assumption | exact x_up_self _ _ _ | exact x_nw_self _ _ _ | (rw [x_up_ne (by first | omega | (simp only [x_up, x_nw]; omega))]; first | assumption | exact x_up_self _ _ _ | (rw [x_up_ne (by first | omega | (simp only [x_up, x_nw]; omega))]; first | assumption | exact x_up_self _ _ _)) | (rw [x_nw_ne (by first | omega | (simp only [x_up, x_nw]; omega))]; first | assumption | exact x_up_self _ _ _ | (rw [x_up_ne (by first | omega | (simp only [x_up, x_nw]; omega))]; assumption))) (by rfl) (by first | assumption | omega | (simp only [x_up, x_nw]; omega)) (by first | assumption | omega | (simp only [x_up, x_nw]; omega)) rfl ?_
  refine go_goto (tgt := 18) d_Law_drop_9 (by decide) ?_
  refine go_iconst (pc' := 19) (v := (nI 0)) d_Law_drop_18 (by decide) rfl ?_
  refine go_ireturn d_Law_drop_19 rfl (by rfl) ?_
  exact Qw.ok hq ho rfl
set_option maxRecDepth 100000 in
theorem l_iterate (hS : CS h x σ) (ho : h.2.2 o = some (.inl (1, 1, .inr (.inl w)))) (p0 : Int32) (hlg2 : s_lg σ + 2 < 2 ^ 20) (hd : 11 ≤ d) (hc1 : h.1 + 40 ≤ x_cap K) (hc2 : h.2.1 + 200 ≤ x_cas K) :
    Go K M_Law_iterate d 0 [some (.ref x), some (.int p0), some (.ref o), none] [] h (Qw h x o σ (p_Iter σ p0) c_1 L_i) := by
  obtain ⟨vx, hx⟩ := hS.obj
  have hcts : ∀ z ∈ M_Law_iterate.2.2.2.2, z.2.2.2 ≠ 0 ∧ ∃ nz, x_ex (x_ct z.2.2.2) = some nz ∧ Cond.classLink M_Law_iterate.1.cls z.2.2.2 nz ∈ lw_tbl := List.forall_mem_cons.mpr ⟨h_ct13, List.forall_mem_cons.mpr ⟨h_ct17, fun z hz => nomatch hz⟩⟩
  have kt : ∀ (q : Nat × Nat) (g : x_H), Qc h x σ (p_Iter σ p0) (.inr q) g → x_T K M_Law_iterate d 4 [some (.ref x), some (.int p0), some (.ref o), none] [.int (nI 0), .ref o] (Qw h x o σ (p_Iter σ p0) c_1 L_i) q g := by
    intro q g hq
    obtain ⟨k, b⟩ := q
    have hk : k = 11 ∨ k = 13 := k_Iter (Qc_r hq)
    rcases hk with rfl | rfl
    · refine x_T.catch (nm := "java/lang/IllegalArgumentException") (tgt := 12) rfl t_115 hcts rfl ?_
      refine go_astore_n (pc' := 13) (i := 3) d_Law_iterate_12 rfl (by decide) (by first | rfl | exact x_r_rf _) (x_s3 (by first | rfl | exact x_k_rf _)) rfl ?_
      refine go_iconst (pc' := 14) (v := (nI 1)) d_Law_iterate_13 (by decide) rfl ?_
      refine go_ireturn d_Law_iterate_14 rfl (by rfl) ?_
      exact Qw.th hq ho rfl
    · refine x_T.catch (nm := "java/lang/IllegalStateException") (tgt := 15) rfl t_256 hcts rfl ?_
      refine go_astore_n (pc' := 16) (i := 3) d_Law_iterate_15 rfl (by decide) (by first | rfl | exact x_r_rf _) (x_s3 (by first | rfl | exact x_k_rf _)) rfl ?_
      refine go_iconst (pc' := 17) (v := (nI 2)) d_Law_iterate_16 (by decide) rfl ?_
      refine go_ireturn d_Law_iterate_17 rfl (by rfl) ?_
      exact Qw.th hq ho rfl
  refine go_aload_n (pc' := 1) (i := 2) d_Law_iterate_0 rfl rfl (by first | rfl | exact x_r_rf _) rfl ?_
  refine go_iconst (pc' := 2) (v := (nI 0)) d_Law_iterate_1 (by decide) rfl ?_
  refine go_aload_n (pc' := 3) (i := 0) d_Law_iterate_2 rfl rfl (by first | rfl | exact x_r_rf _) rfl ?_
  refine go_iload_n (pc' := 4) (i := 1) d_Law_iterate_3 rfl rfl rfl ?_
  refine go_callV (pc' := 7) (M' := M_Tri_iterate) (ci := 5) (r := (n_Tri, T_Tri, 5)) [_] d_Law_iterate_4 t_395 t_396 t_397 cd_Tri_iterate nm_Tri_iterate rfl (by rfl) (by first | assumption | exact x_up_self _ _ _ | exact x_nw_self _ _ _ | (rw [x_up_ne (by first | omega | (simp only [x_up, x_nw]; omega))]; first | assumption | exact x_up_self _ _ _ | (rw [x_up_ne (by first | omega | (simp only [x_up, x_nw]; omega))]; first | assumption | exact x_up_self _ _ _)) | (rw [x_nw_ne (by first | omega | (simp only [x_up, x_nw]; omega))]; first | assumption | exact x_up_self _ _ _ | (rw [x_up_ne (by first | omega | (simp only [x_up, x_nw]; omega))]; assumption))) rfl (Nat.le_of_ble_eq_true rfl) rfl (s_iterate (d := d - 1) hS p0 hlg2 (by omega) hc1 hc2) (by first | decide | omega) (Nat.le_of_ble_eq_true rfl) rfl (fun v hh hq => ?_) (kt)
  have hr := Qc_l hq
  have ho' := hq.2.1 o _ ho rfl
  obtain ⟨z, rfl⟩ := t_Iter hr
  show Go K M_Law_iterate d 7 _ [.int z, .int (nI 0), .ref o] hh _
  refine go_i2l (pc' := 8) d_Law_iterate_7 rfl rfl ?_
  refine go_lastN (pc' := 9) d_Law_iterate_8 (by first | assumption | exact x_up_self _ _ _ | exact x_nw_self _ _ _ | (rw [x_up_ne (by first | omega | (simp only [x_up, x_nw]; omega))]; first | assumption | exact x_up_self _ _ _ | (rw [x_up_ne (by first | omega | (simp only [x_up, x_nw]; omega))]; first | assumption | exact x_up_self _ _ _)) | (rw [x_nw_ne (by first | omega | (simp only [x_up, x_nw]; omega))]; first | assumption | exact x_up_self _ _ _ | (rw [x_up_ne (by first | omega | (simp only [x_up, x_nw]; omega))]; assumption))) (by rfl) (by first | assumption | omega | (simp only [x_up, x_nw]; omega)) (by first | assumption | omega | (simp only [x_up, x_nw]; omega)) rfl ?_
  refine go_goto (tgt := 18) d_Law_iterate_9 (by decide) ?_
  refine go_iconst (pc' := 19) (v := (nI 0)) d_Law_iterate_18 (by decide) rfl ?_
  refine go_ireturn d_Law_iterate_19 rfl (by rfl) ?_
  exact Qw.ok hq ho rfl
set_option maxRecDepth 100000 in
theorem l_next (hS : CS h x σ) (ho : h.2.2 o = some (.inl (1, 1, .inr (.inl w)))) (p0 : Int32) (hd : 11 ≤ d) (hc1 : h.1 + 40 ≤ x_cap K) (hc2 : h.2.1 + 200 ≤ x_cas K) :
    Go K M_Law_next d 0 [some (.ref x), some (.int p0), some (.ref o), none] [] h (Qw h x o σ (p_Next σ p0) c_1 L_i) := by
  obtain ⟨vx, hx⟩ := hS.obj
  have hcts : ∀ z ∈ M_Law_next.2.2.2.2, z.2.2.2 ≠ 0 ∧ ∃ nz, x_ex (x_ct z.2.2.2) = some nz ∧ Cond.classLink M_Law_next.1.cls z.2.2.2 nz ∈ lw_tbl := List.forall_mem_cons.mpr ⟨h_ct13, List.forall_mem_cons.mpr ⟨h_ct23, fun z hz => nomatch hz⟩⟩
  have kt : ∀ (q : Nat × Nat) (g : x_H), Qc h x σ (p_Next σ p0) (.inr q) g → x_T K M_Law_next d 4 [some (.ref x), some (.int p0), some (.ref o), none] [.int (nI 0), .ref o] (Qw h x o σ (p_Next σ p0) c_1 L_i) q g := by
    intro q g hq
    obtain ⟨k, b⟩ := q
    have hk : k = 11 ∨ k = 14 := k_Next (Qc_r hq)
    rcases hk with rfl | rfl
    · refine x_T.catch (nm := "java/lang/IllegalArgumentException") (tgt := 12) rfl t_115 hcts rfl ?_
      refine go_astore_n (pc' := 13) (i := 3) d_Law_next_12 rfl (by decide) (by first | rfl | exact x_r_rf _) (x_s3 (by first | rfl | exact x_k_rf _)) rfl ?_
      refine go_iconst (pc' := 14) (v := (nI 1)) d_Law_next_13 (by decide) rfl ?_
      refine go_ireturn d_Law_next_14 rfl (by rfl) ?_
      exact Qw.th hq ho rfl
    · refine x_T.catch (nm := "java/util/NoSuchElementException") (tgt := 15) rfl t_331 hcts rfl ?_
      refine go_astore_n (pc' := 16) (i := 3) d_Law_next_15 rfl (by decide) (by first | rfl | exact x_r_rf _) (x_s3 (by first | rfl | exact x_k_rf _)) rfl ?_
      refine go_iconst (pc' := 17) (v := (nI 2)) d_Law_next_16 (by decide) rfl ?_
      refine go_ireturn d_Law_next_17 rfl (by rfl) ?_
      exact Qw.th hq ho rfl
  refine go_aload_n (pc' := 1) (i := 2) d_Law_next_0 rfl rfl (by first | rfl | exact x_r_rf _) rfl ?_
  refine go_iconst (pc' := 2) (v := (nI 0)) d_Law_next_1 (by decide) rfl ?_
  refine go_aload_n (pc' := 3) (i := 0) d_Law_next_2 rfl rfl (by first | rfl | exact x_r_rf _) rfl ?_
  refine go_iload_n (pc' := 4) (i := 1) d_Law_next_3 rfl rfl rfl ?_
  refine go_callV (pc' := 7) (M' := M_Tri_next) (ci := 5) (r := (n_Tri, T_Tri, 5)) [_] d_Law_next_4 t_423 t_424 t_425 cd_Tri_next nm_Tri_next rfl (by rfl) (by first | assumption | exact x_up_self _ _ _ | exact x_nw_self _ _ _ | (rw [x_up_ne (by first | omega | (simp only [x_up, x_nw]; omega))]; first | assumption | exact x_up_self _ _ _ | (rw [x_up_ne (by first | omega | (simp only [x_up, x_nw]; omega))]; first | assumption | exact x_up_self _ _ _)) | (rw [x_nw_ne (by first | omega | (simp only [x_up, x_nw]; omega))]; first | assumption | exact x_up_self _ _ _ | (rw [x_up_ne (by first | omega | (simp only [x_up, x_nw]; omega))]; assumption))) rfl (Nat.le_of_ble_eq_true rfl) rfl (s_next (d := d - 1) hS p0 (by omega) hc1 hc2) (by first | decide | omega) (Nat.le_of_ble_eq_true rfl) rfl (fun v hh hq => ?_) (kt)
  have hr := Qc_l hq
  have ho' := hq.2.1 o _ ho rfl
  obtain ⟨z, rfl⟩ := t_Next hr
  show Go K M_Law_next d 7 _ [.int z, .int (nI 0), .ref o] hh _
  refine go_i2l (pc' := 8) d_Law_next_7 rfl rfl ?_
  refine go_lastN (pc' := 9) d_Law_next_8 (by first | assumption | exact x_up_self _ _ _ | exact x_nw_self _ _ _ | (rw [x_up_ne (by first | omega | (simp only [x_up, x_nw]; omega))]; first | assumption | exact x_up_self _ _ _ | (rw [x_up_ne (by first | omega | (simp only [x_up, x_nw]; omega))]; first | assumption | exact x_up_self _ _ _)) | (rw [x_nw_ne (by first | omega | (simp only [x_up, x_nw]; omega))]; first | assumption | exact x_up_self _ _ _ | (rw [x_up_ne (by first | omega | (simp only [x_up, x_nw]; omega))]; assumption))) (by rfl) (by first | assumption | omega | (simp only [x_up, x_nw]; omega)) (by first | assumption | omega | (simp only [x_up, x_nw]; omega)) rfl ?_
  refine go_goto (tgt := 18) d_Law_next_9 (by decide) ?_
  refine go_iconst (pc' := 19) (v := (nI 0)) d_Law_next_18 (by decide) rfl ?_
  refine go_ireturn d_Law_next_19 rfl (by rfl) ?_
  exact Qw.ok hq ho rfl
set_option maxRecDepth 100000 in
theorem l_measure (hS : CS h x σ) (ho : h.2.2 o = some (.inl (1, 1, .inr (.inl w)))) (p0 : Int32) (p1 : Int32) (hd : 11 ≤ d) (hc1 : h.1 + 40 ≤ x_cap K) (hc2 : h.2.1 + 200 ≤ x_cas K) :
    Go K M_Law_measure d 0 [some (.ref x), some (.int p0), some (.int p1), some (.ref o), none] [] h (Qw h x o σ (p_Mea σ p0 p1) c_1 L_i) := by
  obtain ⟨vx, hx⟩ := hS.obj
  have hcts : ∀ z ∈ M_Law_measure.2.2.2.2, z.2.2.2 ≠ 0 ∧ ∃ nz, x_ex (x_ct z.2.2.2) = some nz ∧ Cond.classLink M_Law_measure.1.cls z.2.2.2 nz ∈ lw_tbl := List.forall_mem_cons.mpr ⟨h_ct13, fun z hz => nomatch hz⟩
  have kt : ∀ (q : Nat × Nat) (g : x_H), Qc h x σ (p_Mea σ p0 p1) (.inr q) g → x_T K M_Law_measure d 5 [some (.ref x), some (.int p0), some (.int p1), some (.ref o), none] [.int (nI 0), .ref o] (Qw h x o σ (p_Mea σ p0 p1) c_1 L_i) q g := by
    intro q g hq
    obtain ⟨k, b⟩ := q
    have hk : k = 11 := k_Mea (Qc_r hq)
    rcases hk with rfl
    · refine x_T.catch (nm := "java/lang/IllegalArgumentException") (tgt := 13) rfl t_115 hcts rfl ?_
      refine go_astore (pc' := 15) (i := 4) d_Law_measure_13 (by decide) (by first | rfl | exact x_r_rf _) (x_s4 (by first | rfl | exact x_k_rf _)) rfl ?_
      refine go_iconst (pc' := 16) (v := (nI 1)) d_Law_measure_15 (by decide) rfl ?_
      refine go_ireturn d_Law_measure_16 rfl (by rfl) ?_
      exact Qw.th hq ho rfl
  refine go_aload_n (pc' := 1) (i := 3) d_Law_measure_0 rfl rfl (by first | rfl | exact x_r_rf _) rfl ?_
  refine go_iconst (pc' := 2) (v := (nI 0)) d_Law_measure_1 (by decide) rfl ?_
  refine go_aload_n (pc' := 3) (i := 0) d_Law_measure_2 rfl rfl (by first | rfl | exact x_r_rf _) rfl ?_
  refine go_iload_n (pc' := 4) (i := 1) d_Law_measure_3 rfl rfl rfl ?_
  refine go_iload_n (pc' := 5) (i := 2) d_Law_measure_4 rfl rfl rfl ?_
  refine go_callV (pc' := 8) (M' := M_Tri_measure) (ci := 5) (r := (n_Tri, T_Tri, 5)) [_, _] d_Law_measure_5 t_444 t_445 t_446 cd_Tri_measure nm_Tri_measure rfl (by rfl) (by first | assumption | exact x_up_self _ _ _ | exact x_nw_self _ _ _ | (rw [x_up_ne (by first | omega | (simp only [x_up, x_nw]; omega))]; first | assumption | exact x_up_self _ _ _ | (rw [x_up_ne (by first | omega | (simp only [x_up, x_nw]; omega))]; first | assumption | exact x_up_self _ _ _)) | (rw [x_nw_ne (by first | omega | (simp only [x_up, x_nw]; omega))]; first | assumption | exact x_up_self _ _ _ | (rw [x_up_ne (by first | omega | (simp only [x_up, x_nw]; omega))]; assumption))) rfl (Nat.le_of_ble_eq_true rfl) rfl (s_measure (d := d - 1) hS p0 p1 (by omega) hc1 hc2) (by first | decide | omega) (Nat.le_of_ble_eq_true rfl) rfl (fun v hh hq => ?_) (kt)
  have hr := Qc_l hq
  have ho' := hq.2.1 o _ ho rfl
  obtain ⟨z, rfl⟩ := t_Mea hr
  show Go K M_Law_measure d 8 _ [.int z, .int (nI 0), .ref o] hh _
  refine go_i2l (pc' := 9) d_Law_measure_8 rfl rfl ?_
  refine go_lastN (pc' := 10) d_Law_measure_9 (by first | assumption | exact x_up_self _ _ _ | exact x_nw_self _ _ _ | (rw [x_up_ne (by first | omega | (simp only [x_up, x_nw]; omega))]; first | assumption | exact x_up_self _ _ _ | (rw [x_up_ne (by first | omega | (simp only [x_up, x_nw]; omega))]; first | assumption | exact x_up_self _ _ _)) | (rw [x_nw_ne (by first | omega | (simp only [x_up, x_nw]; omega))]; first | assumption | exact x_up_self _ _ _ | (rw [x_up_ne (by first | omega | (simp only [x_up, x_nw]; omega))]; assumption))) (by rfl) (by first | assumption | omega | (simp only [x_up, x_nw]; omega)) (by first | assumption | omega | (simp only [x_up, x_nw]; omega)) rfl ?_
  refine go_goto (tgt := 17) d_Law_measure_10 (by decide) ?_
  refine go_iconst (pc' := 18) (v := (nI 0)) d_Law_measure_17 (by decide) rfl ?_
  refine go_ireturn d_Law_measure_18 rfl (by rfl) ?_
  exact Qw.ok hq ho rfl
set_option maxRecDepth 100000 in
theorem l_common (hS : CS h x σ) (ho : h.2.2 o = some (.inl (1, 1, .inr (.inl w)))) (p0 : Int32) (p1 : Int32) (hd : 11 ≤ d) (hc1 : h.1 + 40 ≤ x_cap K) (hc2 : h.2.1 + 200 ≤ x_cas K) :
    Go K M_Law_common d 0 [some (.ref x), some (.int p0), some (.int p1), some (.ref o), none] [] h (Qw h x o σ (p_Com σ p0 p1) c_1 L_i) := by
  obtain ⟨vx, hx⟩ := hS.obj
  have hcts : ∀ z ∈ M_Law_common.2.2.2.2, z.2.2.2 ≠ 0 ∧ ∃ nz, x_ex (x_ct z.2.2.2) = some nz ∧ Cond.classLink M_Law_common.1.cls z.2.2.2 nz ∈ lw_tbl := List.forall_mem_cons.mpr ⟨h_ct13, fun z hz => nomatch hz⟩
  have kt : ∀ (q : Nat × Nat) (g : x_H), Qc h x σ (p_Com σ p0 p1) (.inr q) g → x_T K M_Law_common d 5 [some (.ref x), some (.int p0), some (.int p1), some (.ref o), none] [.int (nI 0), .ref o] (Qw h x o σ (p_Com σ p0 p1) c_1 L_i) q g := by
    intro q g hq
    obtain ⟨k, b⟩ := q
    have hk : k = 11 := k_Com (Qc_r hq)
    rcases hk with rfl
    · refine x_T.catch (nm := "java/lang/IllegalArgumentException") (tgt := 13) rfl t_115 hcts rfl ?_
      refine go_astore (pc' := 15) (i := 4) d_Law_common_13 (by decide) (by first | rfl | exact x_r_rf _) (x_s4 (by first | rfl | exact x_k_rf _)) rfl ?_
      refine go_iconst (pc' := 16) (v := (nI 1)) d_Law_common_15 (by decide) rfl ?_
      refine go_ireturn d_Law_common_16 rfl (by rfl) ?_
      exact Qw.th hq ho rfl
  refine go_aload_n (pc' := 1) (i := 3) d_Law_common_0 rfl rfl (by first | rfl | exact x_r_rf _) rfl ?_
  refine go_iconst (pc' := 2) (v := (nI 0)) d_Law_common_1 (by decide) rfl ?_
  refine go_aload_n (pc' := 3) (i := 0) d_Law_common_2 rfl rfl (by first | rfl | exact x_r_rf _) rfl ?_
  refine go_iload_n (pc' := 4) (i := 1) d_Law_common_3 rfl rfl rfl ?_
  refine go_iload_n (pc' := 5) (i := 2) d_Law_common_4 rfl rfl rfl ?_
  refine go_callV (pc' := 8) (M' := M_Tri_common) (ci := 5) (r := (n_Tri, T_Tri, 5)) [_, _] d_Law_common_5 t_451 t_452 t_453 cd_Tri_common nm_Tri_common rfl (by rfl) (by first | assumption | exact x_up_self _ _ _ | exact x_nw_self _ _ _ | (rw [x_up_ne (by first | omega | (simp only [x_up, x_nw]; omega))]; first | assumption | exact x_up_self _ _ _ | (rw [x_up_ne (by first | omega | (simp only [x_up, x_nw]; omega))]; first | assumption | exact x_up_self _ _ _)) | (rw [x_nw_ne (by first | omega | (simp only [x_up, x_nw]; omega))]; first | assumption | exact x_up_self _ _ _ | (rw [x_up_ne (by first | omega | (simp only [x_up, x_nw]; omega))]; assumption))) rfl (Nat.le_of_ble_eq_true rfl) rfl (s_common (d := d - 1) hS p0 p1 (by omega) hc1 hc2) (by first | decide | omega) (Nat.le_of_ble_eq_true rfl) rfl (fun v hh hq => ?_) (kt)
  have hr := Qc_l hq
  have ho' := hq.2.1 o _ ho rfl
  obtain ⟨z, rfl⟩ := t_Com hr
  show Go K M_Law_common d 8 _ [.int z, .int (nI 0), .ref o] hh _
  refine go_i2l (pc' := 9) d_Law_common_8 rfl rfl ?_
  refine go_lastN (pc' := 10) d_Law_common_9 (by first | assumption | exact x_up_self _ _ _ | exact x_nw_self _ _ _ | (rw [x_up_ne (by first | omega | (simp only [x_up, x_nw]; omega))]; first | assumption | exact x_up_self _ _ _ | (rw [x_up_ne (by first | omega | (simp only [x_up, x_nw]; omega))]; first | assumption | exact x_up_self _ _ _)) | (rw [x_nw_ne (by first | omega | (simp only [x_up, x_nw]; omega))]; first | assumption | exact x_up_self _ _ _ | (rw [x_up_ne (by first | omega | (simp only [x_up, x_nw]; omega))]; assumption))) (by rfl) (by first | assumption | omega | (simp only [x_up, x_nw]; omega)) (by first | assumption | omega | (simp only [x_up, x_nw]; omega)) rfl ?_
  refine go_goto (tgt := 17) d_Law_common_10 (by decide) ?_
  refine go_iconst (pc' := 18) (v := (nI 0)) d_Law_common_17 (by decide) rfl ?_
  refine go_ireturn d_Law_common_18 rfl (by rfl) ?_
  exact Qw.ok hq ho rfl
set_option maxRecDepth 100000 in
theorem l_generation (hS : CS h x σ) (ho : h.2.2 o = some (.inl (1, 1, .inr (.inl w)))) (p0 : Int32) (hd : 11 ≤ d) (hc1 : h.1 + 40 ≤ x_cap K) (hc2 : h.2.1 + 200 ≤ x_cas K) :
    Go K M_Law_generation d 0 [some (.ref x), some (.int p0), some (.ref o), none] [] h (Qw h x o σ (p_Gen σ p0) c_1 L_i) := by
  obtain ⟨vx, hx⟩ := hS.obj
  have hcts : ∀ z ∈ M_Law_generation.2.2.2.2, z.2.2.2 ≠ 0 ∧ ∃ nz, x_ex (x_ct z.2.2.2) = some nz ∧ Cond.classLink M_Law_generation.1.cls z.2.2.2 nz ∈ lw_tbl := List.forall_mem_cons.mpr ⟨h_ct13, fun z hz => nomatch hz⟩
  have kt : ∀ (q : Nat × Nat) (g : x_H), Qc h x σ (p_Gen σ p0) (.inr q) g → x_T K M_Law_generation d 4 [some (.ref x), some (.int p0), some (.ref o), none] [.int (nI 0), .ref o] (Qw h x o σ (p_Gen σ p0) c_1 L_i) q g := by
    intro q g hq
    obtain ⟨k, b⟩ := q
    have hk : k = 11 := k_Gen (Qc_r hq)
    rcases hk with rfl
    · refine x_T.catch (nm := "java/lang/IllegalArgumentException") (tgt := 12) rfl t_115 hcts rfl ?_
      refine go_astore_n (pc' := 13) (i := 3) d_Law_generation_12 rfl (by decide) (by first | rfl | exact x_r_rf _) (x_s3 (by first | rfl | exact x_k_rf _)) rfl ?_
      refine go_iconst (pc' := 14) (v := (nI 1)) d_Law_generation_13 (by decide) rfl ?_
      refine go_ireturn d_Law_generation_14 rfl (by rfl) ?_
      exact Qw.th hq ho rfl
  refine go_aload_n (pc' := 1) (i := 2) d_Law_generation_0 rfl rfl (by first | rfl | exact x_r_rf _) rfl ?_
  refine go_iconst (pc' := 2) (v := (nI 0)) d_Law_generation_1 (by decide) rfl ?_
  refine go_aload_n (pc' := 3) (i := 0) d_Law_generation_2 rfl rfl (by first | rfl | exact x_r_rf _) rfl ?_
  refine go_iload_n (pc' := 4) (i := 1) d_Law_generation_3 rfl rfl rfl ?_
  refine go_callV (pc' := 7) (M' := M_Tri_generation) (ci := 5) (r := (n_Tri, T_Tri, 5)) [_] d_Law_generation_4 t_461 t_462 t_463 cd_Tri_generation nm_Tri_generation rfl (by rfl) (by first | assumption | exact x_up_self _ _ _ | exact x_nw_self _ _ _ | (rw [x_up_ne (by first | omega | (simp only [x_up, x_nw]; omega))]; first | assumption | exact x_up_self _ _ _ | (rw [x_up_ne (by first | omega | (simp only [x_up, x_nw]; omega))]; first | assumption | exact x_up_self _ _ _)) | (rw [x_nw_ne (by first | omega | (simp only [x_up, x_nw]; omega))]; first | assumption | exact x_up_self _ _ _ | (rw [x_up_ne (by first | omega | (simp only [x_up, x_nw]; omega))]; assumption))) rfl (Nat.le_of_ble_eq_true rfl) rfl (s_generation (d := d - 1) hS p0 (by omega) hc1 hc2) (by first | decide | omega) (Nat.le_of_ble_eq_true rfl) rfl (fun v hh hq => ?_) (kt)
  have hr := Qc_l hq
  have ho' := hq.2.1 o _ ho rfl
  obtain ⟨z, rfl⟩ := t_Gen hr
  show Go K M_Law_generation d 7 _ [.int z, .int (nI 0), .ref o] hh _
  refine go_i2l (pc' := 8) d_Law_generation_7 rfl rfl ?_
  refine go_lastN (pc' := 9) d_Law_generation_8 (by first | assumption | exact x_up_self _ _ _ | exact x_nw_self _ _ _ | (rw [x_up_ne (by first | omega | (simp only [x_up, x_nw]; omega))]; first | assumption | exact x_up_self _ _ _ | (rw [x_up_ne (by first | omega | (simp only [x_up, x_nw]; omega))]; first | assumption | exact x_up_self _ _ _)) | (rw [x_nw_ne (by first | omega | (simp only [x_up, x_nw]; omega))]; first | assumption | exact x_up_self _ _ _ | (rw [x_up_ne (by first | omega | (simp only [x_up, x_nw]; omega))]; assumption))) (by rfl) (by first | assumption | omega | (simp only [x_up, x_nw]; omega)) (by first | assumption | omega | (simp only [x_up, x_nw]; omega)) rfl ?_
  refine go_goto (tgt := 15) d_Law_generation_9 (by decide) ?_
  refine go_iconst (pc' := 16) (v := (nI 0)) d_Law_generation_15 (by decide) rfl ?_
  refine go_ireturn d_Law_generation_16 rfl (by rfl) ?_
  exact Qw.ok hq ho rfl
end LB
