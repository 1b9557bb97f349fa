/-! get, remove, replace -/
def p_Get (σ : Sg) (m key : Int32) : Sg × (Option Value ⊕ Nat) := match p_map σ m with
  | none => (σ, .inr 11)
  | some i => match q_get (s_ks σ i) key with
    | none => (σ, .inr 14)
    | some y => (σ, .inl (some (.long y.2)))
section EE
variable {K : x_K} {d : Nat} {h f g : x_H} {x : Nat} {σ : Sg}
theorem Qc.ret (hS : CS h x σ) {v : Option Value} (hk : ∀ b c, h.2.2 b = some c → f.2.2 b = some c) (h1 : h.1 ≤ f.1) (h2 : f.1 ≤ h.1 + 40) (h3 : h.2.1 ≤ f.2.1) (h4 : f.2.1 ≤ h.2.1 + 200) : Qc h x σ (σ, .inl v) (.inl v) f :=
  ⟨hS.grow hk, fun b c hb _ => hk b c hb, h1, h2, h3, h4, by simp, rfl⟩
set_option maxRecDepth 100000 in
theorem s_get (hS : CS h x σ) (m key : Int32) (hd : 10 ≤ d) (hc1 : h.1 + 40 ≤ x_cap K) (hc2 : h.2.1 + 200 ≤ x_cas K) :
    Go K M_Tri_get d 0 [some (.ref x), some (.int m), some (.int key)] [] h (Qc h x σ (p_Get σ m key)) := by
  have hS' := hS
  obtain ⟨mp, cu, B, ps, FA, fks, fbl, hO, hM, hC, hlg⟩ := hS
  have h0 := hO.1
  have kt : (¬ ∃ i t, m = nI i ∧ i < 6 ∧ mp i = some t) → Qc h x σ (p_Get σ m key) (.inr (11, h.1)) (h.1 + 1, h.2.1 + 6, h.2.2) := fun hno => by
    unfold p_Get
    rw [p_map_none hM.1 hno]
    exact Qc.thr hS' (fun b c hb => hb) (by simp) (by simp) (by simp) (by simp)
  refine go_aload_n (pc' := 1) (i := 0) d_Tri_get_0 rfl rfl (by first | rfl | exact x_r_rf _) rfl ?_
  refine go_iload_n (pc' := 2) (i := 1) d_Tri_get_1 rfl rfl rfl ?_
  refine go_callV (pc' := 5) (M' := M_Tri_existingMap) (ci := 5) (r := (n_Tri, T_Tri, 5)) [_] d_Tri_get_2 t_109 t_111 sp_Tri_existingMap cd_Tri_existingMap nm_Tri_existingMap rfl (by rfl) (by first | assumption | exact x_up_self _ _ _ | exact x_nw_self _ _ _ | (rw [x_up_ne (by first | omega | (simp only [x_up, x_nw]; omega))]; first | assumption | exact x_up_self _ _ _ | (rw [x_up_ne (by first | omega | (simp only [x_up, x_nw]; omega))]; first | assumption | exact x_up_self _ _ _)) | (rw [x_nw_ne (by first | omega | (simp only [x_up, x_nw]; omega))]; first | assumption | exact x_up_self _ _ _ | (rw [x_up_ne (by first | omega | (simp only [x_up, x_nw]; omega))]; assumption))) rfl (Nat.le_of_ble_eq_true rfl) rfl (s_existingMap (d := d - 1) hO m (by omega) (by omega)) (by first | decide | omega) (Nat.le_of_ble_eq_true rfl) rfl (fun v hh hq => ?_) (fun q g hq => x_T.out rfl (by rw [hq.1, hq.2.1]; exact kt hq.2.2))
  obtain ⟨rfl, i, t, rfl, hi, ht, rfl⟩ := hq
  obtain ⟨⟨root, hroot, htc⟩, hTi, hPi, hKi, hroi, hgi, hbi⟩ := hM.2.1 i t hi ht
  have hpm := p_map_some (m := nI i) hM.1 hi rfl ht
  show Go K M_Tri_get d 5 _ [_] h _
  have kt2 : q_get (s_ks σ i) key = none → Qc h x σ (p_Get σ (nI i) key) (.inr (14, h.1)) (h.1 + 1, h.2.1 + 6, h.2.2) := fun hno => by
    unfold p_Get
    rw [hpm]
    simp only [hno]
    exact Qc.thr hS' (fun b c hb => hb) (by simp) (by simp) (by simp) (by simp)
  refine go_iload_n (pc' := 6) (i := 2) d_Tri_get_5 rfl rfl rfl ?_
  refine go_callS (pc' := 9) (M' := M_Tri_presentEntry) [_, _] d_Tri_get_6 t_326 t_327 t_1 cd_Tri_presentEntry nm_Tri_presentEntry rfl rfl (Nat.le_of_ble_eq_true rfl) rfl (s_presentEntry (d := d - 1) hTi hKi hroot htc key (by omega) (by omega) (by omega)) (by first | decide | omega) (Nat.le_of_ble_eq_true rfl) rfl (fun v hh hq => ?_) (fun q g hq => x_T.out rfl (by rw [hq.1, hq.2.1]; exact kt2 hq.2.2))
  obtain ⟨rfl, e, y, rfl, hy, he⟩ := hq
  unfold Et at he
  show Go K M_Tri_get d 9 _ [_] h _
  refine go_getfield (pc' := 12) d_Tri_get_9 c_Ent 1 (by decide) t_279 (by first | assumption | exact x_up_self _ _ _ | exact x_nw_self _ _ _ | (rw [x_up_ne (by first | omega | (simp only [x_up, x_nw]; omega))]; first | assumption | exact x_up_self _ _ _ | (rw [x_up_ne (by first | omega | (simp only [x_up, x_nw]; omega))]; first | assumption | exact x_up_self _ _ _)) | (rw [x_nw_ne (by first | omega | (simp only [x_up, x_nw]; omega))]; first | assumption | exact x_up_self _ _ _ | (rw [x_up_ne (by first | omega | (simp only [x_up, x_nw]; omega))]; assumption))) (by rfl) rfl ?_
  refine go_lreturn d_Tri_get_12 rfl ?_
  unfold p_Get
  rw [hpm]
  simp only [hy]
  exact Qc.ret hS' (fun b c hb => hb) (by simp) (by simp) (by simp) (by simp)
end EE
