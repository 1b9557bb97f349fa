/-! the reference: has -/
theorem q_shl : ∀ l, l < 5 → ∀ p, p < 256 → p < 4 ^ l → nI p <<< (nI (8 - 2 * l) &&& 31) = nI (p * 4 ^ (4 - l)) := by decide +kernel
theorem q_shm : ∀ l, l < 5 → ∀ p, p < 256 → p < 4 ^ l → p * 4 ^ (4 - l) < 256 ∧ p * 4 ^ (4 - l) / 4 ^ (4 - l) = p := by decide +kernel
theorem q_sh1 : ∀ l, l < 5 → nI 1 <<< (nI (2 * l) &&& 31) = nI (4 ^ l) := by decide +kernel
theorem q_4le : ∀ l, l < 5 → 4 ^ l ≤ 256 := by decide
section RK2
variable {K : x_K} {d : Nat} {h g : x_H} {m i j : Nat} {ρ ρ' : Rt} {ks : List KV} {σ : Sg}
theorem m_has (hL : Ls ρ i ks) (hi : i < 6) {l p : Nat} (hl : l < 5) (hp : p < 4 ^ l) (hd : 3 ≤ d) :
    Go K M_Mod_has d 0 [some (.ref m), some (.int (nI i)), some (.int (nI l)), some (.int (nI p))] [] (Rh g m ρ) (x_is (some (.int (if q_ex ks l p then 1 else 0))) (Rh g m ρ)) := by
  have h256 := q_4le l hl
  obtain ⟨n1, n2⟩ := q_shm l hl p (by omega) hp
  refine go_aload_n (pc' := 1) (i := 0) d_Mod_has_0 rfl rfl (by first | rfl | exact x_r_rf _) rfl ?_
  refine go_iload_n (pc' := 2) (i := 1) d_Mod_has_1 rfl rfl rfl ?_
  refine go_iload_n (pc' := 3) (i := 3) d_Mod_has_2 rfl rfl rfl ?_
  refine go_bipush (pc' := 5) (v := (nI 8)) d_Mod_has_3 (by decide) rfl ?_
  refine go_iconst (pc' := 6) (v := (nI 2)) d_Mod_has_5 (by decide) rfl ?_
  refine go_iload_n (pc' := 7) (i := 2) d_Mod_has_6 rfl rfl rfl ?_
  refine go_imulN (pc' := 8) d_Mod_has_7 rfl ?_
  refine go_isubN (pc' := 9) d_Mod_has_8 (by omega) rfl ?_
  refine go_ishl (pc' := 10) d_Mod_has_9 rfl ?_
  rw [q_shl l hl p (by omega) hp]
  refine go_iload_n (pc' := 11) (i := 2) d_Mod_has_10 rfl rfl rfl ?_
  have hE := m_exists (K := K) (g := g) (m := m) (d := d - 1) hL hi n1 hl (by omega)
  rw [n2] at hE
  refine go_callV (pc' := 14) (M' := M_Mod_exists) (ci := 6) (r := (n_Mod, T_Mod, 16)) [_, _, _] d_Mod_has_11 t_561 t_563 sp_Mod_exists cd_Mod_exists nm_Mod_exists rfl (by rfl) (by first | assumption | exact Rh_0 _ _ _ | exact Rh_1 _ _ _ | exact Rh_2 _ _ _ | exact Rh_3 _ _ _ | exact Rh_4 _ _ _ | exact Rh_5 _ _ _ | exact Rh_6 _ _ _ | exact Rh_7 _ _ _ | exact Rh_8 _ _ _ | exact Rh_9 _ _ _ | exact Rh_10 _ _ _ | exact Rh_11 _ _ _ | exact Rh_12 _ _ _) rfl (Nat.le_of_ble_eq_true rfl) rfl (hE) (by first | decide | omega) (Nat.le_of_ble_eq_true rfl) rfl (fun v hh hq => ?_) (fun q g hq => by cases hq.1)
  obtain ⟨e1, e2⟩ := hq
  cases e1
  rw [← e2]
  show Go K M_Mod_has d 14 _ [_] _ _
  by_cases hx : q_ex ks l p
  · rw [if_pos hx]
    refine go_ireturn d_Mod_has_14 rfl (by rfl) ?_
    exact ⟨rfl, rfl⟩
  · rw [if_neg hx]
    refine go_ireturn d_Mod_has_14 rfl (by rfl) ?_
    exact ⟨rfl, rfl⟩
end RK2
