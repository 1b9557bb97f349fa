/-! the reference: add, put -/
section RF2
variable {K : x_K} {d : Nat} {h g : x_H} {m i : Nat} {ρ ρ' : Rt} {ks : List KV} {bl : Nat → Nat → Nat} {σ : Sg}
theorem Ls.app {key : Int32} {v : Int64} (hL : Ls ρ i ks) (hl : ks.length < 60) (hS : r_S ρ' i = nI (ks.length + 1)) (hK : r_K ρ' = va_up (r_K ρ) (60 * i + ks.length) key) (hV : r_V ρ' = va_up (r_V ρ) (60 * i + ks.length) v) : Ls ρ' i (ks ++ [(key, v)]) := by
  refine ⟨by rw [hS, List.length_append]; rfl, by rw [List.length_append]; exact hl, fun j y hy => ?_⟩
  by_cases hj : j < ks.length
  · rw [List.getElem?_append_left hj] at hy
    rw [hK, hV, va_up_ne _ _ (by omega), va_up_ne _ _ (by omega)]
    exact hL.2.2 j y hy
  · have hj2 := (List.getElem?_eq_some_iff.mp hy).1
    rw [List.length_append] at hj2
    have hj3 : j = ks.length := by
      have : j < ks.length + 1 := hj2
      omega
    subst hj3
    rw [List.getElem?_append_right (Nat.le_refl _), Nat.sub_self] at hy
    cases hy
    rw [hK, hV, va_up_self, va_up_self]
    exact ⟨rfl, rfl⟩
theorem Ls.off {j n : Nat} {key : Int32} {v : Int64} (hL : Ls ρ j ks) (hji : j ≠ i) (hn : n < 60) (hS : r_S ρ' j = r_S ρ j) (hK : r_K ρ' = va_up (r_K ρ) (60 * i + n) key) (hV : r_V ρ' = va_up (r_V ρ) (60 * i + n) v) : Ls ρ' j ks := by
  refine ⟨hS.trans hL.1, hL.2.1, fun a y hy => ?_⟩
  have ha := (List.getElem?_eq_some_iff.mp hy).1
  have := hL.2.1
  rw [hK, hV, va_up_ne _ _ (by omega), va_up_ne _ _ (by omega)]
  exact hL.2.2 a y hy
set_option maxRecDepth 100000 in
theorem m_add (hR : Rr σ ρ) (hi : i < 6) (h0 : s_lc σ = 0) (key : Int32) (v : Int64) (hno : q_get (s_ks σ i) key = none) (hroom : (s_ks σ i).length < 60 ∧ (q_f (s_ks σ i) 4 (q_p 4 key)).length < 6) (hd : 6 ≤ d) :
    Go K M_Mod_add d 0 [some (.ref m), some (.int (nI i)), some (.int key), some (.long v), none, none, none, none] [] (Rh g m ρ) (x_rt (fun w f => w = none ∧ ∃ ρ', f = Rh g m ρ' ∧ Rr (p_put σ i key v) ρ' ∧ r_tw ρ' = r_tw ρ)) := by
  have hqh := q_h_lt key
  obtain ⟨a1, a2, a3, a4, a5, a6, a7, a8, a9, a10, a11, a12, a13, a14⟩ := id hR
  have hL := a5 i hi
  have hG := a4 i hi
  have hgn := a12 i hi
  have hW := m_write (K := K) (g := g) (m := m) (d := d - 1) (c0 := 0) hL hi (a6 i hi) (fun l p => by have := a11 i l p hi; omega) hG (by omega) (by rw [a7, h0]) key (by omega)
  refine go_iload_n (pc' := 1) (i := 2) d_Mod_add_0 rfl rfl rfl ?_
  refine go_callS (pc' := 4) (M' := M_Mod_hash) [_] d_Mod_add_1 t_542 t_543 t_4 cd_Mod_hash nm_Mod_hash rfl rfl (Nat.le_of_ble_eq_true rfl) rfl (m_hash (d := d - 1) key) (by first | decide | omega) (Nat.le_of_ble_eq_true rfl) rfl (fun v hh hq => ?_) (fun q g hq => by cases hq.1)
  obtain ⟨e1, e2⟩ := hq
  cases e1
  rw [← e2]
  show Go K M_Mod_add d 4 _ [.int (nI (q_h key))] _ _
  refine go_istore (pc' := 6) (i := 5) d_Mod_add_4 (by decide) (x_s5 (by first | rfl | exact x_k_rf _)) rfl ?_
  refine go_aload_n (pc' := 7) (i := 0) d_Mod_add_6 rfl rfl (by first | rfl | exact x_r_rf _) rfl ?_
  refine go_iload_n (pc' := 8) (i := 1) d_Mod_add_7 rfl rfl rfl ?_
  refine go_iload (pc' := 10) (i := 5) d_Mod_add_8 rfl rfl ?_
  refine go_callV (pc' := 13) (M' := M_Mod_write) (ci := 6) (r := (n_Mod, T_Mod, 16)) [_, _] d_Mod_add_10 t_554 t_556 sp_Mod_write cd_Mod_write nm_Mod_write rfl (by rfl) (by first | assumption | exact Rh_0 _ _ _ | exact Rh_1 _ _ _ | exact Rh_2 _ _ _ | exact Rh_3 _ _ _ | exact Rh_4 _ _ _ | exact Rh_5 _ _ _ | exact Rh_6 _ _ _ | exact Rh_7 _ _ _ | exact Rh_8 _ _ _ | exact Rh_9 _ _ _ | exact Rh_10 _ _ _ | exact Rh_11 _ _ _ | exact Rh_12 _ _ _) rfl (Nat.le_of_ble_eq_true rfl) rfl (hW) (by first | decide | omega) (Nat.le_of_ble_eq_true rfl) rfl (fun v h2 hq => ?_) (fun q g hq => hq.elim)
  obtain ⟨rfl, B1, rfl, hB1, hF1⟩ := hq
  show Go K M_Mod_add d 13 _ [] _ _
  rw [Nat.zero_add]
  obtain ⟨ρ1, hρ1⟩ : ∃ ρ1, ρ1 = ru_lc (ru_B ρ B1) (nI (q_cc (s_ks σ i) (s_bl σ i) (s_gn σ i) key 5)) := ⟨_, rfl⟩
  rw [← hρ1]
  have hS1 : r_S ρ1 i = nI (s_ks σ i).length := by rw [hρ1]; exact hL.1
  refine go_bipush (pc' := 15) (v := (nI 60)) d_Mod_add_13 (by decide) rfl ?_
  refine go_iload_n (pc' := 16) (i := 1) d_Mod_add_15 rfl rfl rfl ?_
  refine go_imulN (pc' := 17) d_Mod_add_16 rfl ?_
  refine go_aload_n (pc' := 18) (i := 0) d_Mod_add_17 rfl rfl (by first | rfl | exact x_r_rf _) rfl ?_
  refine go_getfield (pc' := 21) d_Mod_add_18 c_Mod 5 (by decide) t_476 (by first | assumption | exact Rh_0 _ _ _ | exact Rh_1 _ _ _ | exact Rh_2 _ _ _ | exact Rh_3 _ _ _ | exact Rh_4 _ _ _ | exact Rh_5 _ _ _ | exact Rh_6 _ _ _ | exact Rh_7 _ _ _ | exact Rh_8 _ _ _ | exact Rh_9 _ _ _ | exact Rh_10 _ _ _ | exact Rh_11 _ _ _ | exact Rh_12 _ _ _) (by rfl) rfl ?_
  refine go_iload_n (pc' := 22) (i := 1) d_Mod_add_21 rfl rfl rfl ?_
  refine go_ialdN (pc' := 23) d_Mod_add_22 (by first | assumption | exact Rh_0 _ _ _ | exact Rh_1 _ _ _ | exact Rh_2 _ _ _ | exact Rh_3 _ _ _ | exact Rh_4 _ _ _ | exact Rh_5 _ _ _ | exact Rh_6 _ _ _ | exact Rh_7 _ _ _ | exact Rh_8 _ _ _ | exact Rh_9 _ _ _ | exact Rh_10 _ _ _ | exact Rh_11 _ _ _ | exact Rh_12 _ _ _) (by rfl) (by first | assumption | omega | (simp only [x_up, x_nw]; omega)) (by first | assumption | omega | (simp only [x_up, x_nw]; omega)) rfl ?_
  rw [hS1]
  refine go_iaddN (pc' := 24) d_Mod_add_23 rfl ?_
  refine go_istore (pc' := 26) (i := 6) d_Mod_add_24 (by decide) (x_s6 (by first | rfl | exact x_k_rf _)) rfl ?_
  refine go_aload_n (pc' := 27) (i := 0) d_Mod_add_26 rfl rfl (by first | rfl | exact x_r_rf _) rfl ?_
  refine go_getfield (pc' := 30) d_Mod_add_27 c_Mod 6 (by decide) t_477 (by first | assumption | exact Rh_0 _ _ _ | exact Rh_1 _ _ _ | exact Rh_2 _ _ _ | exact Rh_3 _ _ _ | exact Rh_4 _ _ _ | exact Rh_5 _ _ _ | exact Rh_6 _ _ _ | exact Rh_7 _ _ _ | exact Rh_8 _ _ _ | exact Rh_9 _ _ _ | exact Rh_10 _ _ _ | exact Rh_11 _ _ _ | exact Rh_12 _ _ _) (by rfl) rfl ?_
  refine go_iload (pc' := 32) (i := 6) d_Mod_add_30 rfl rfl ?_
  refine go_iload_n (pc' := 33) (i := 2) d_Mod_add_32 rfl rfl rfl ?_
  refine go_iastN (pc' := 34) d_Mod_add_33 (by first | assumption | exact Rh_0 _ _ _ | exact Rh_1 _ _ _ | exact Rh_2 _ _ _ | exact Rh_3 _ _ _ | exact Rh_4 _ _ _ | exact Rh_5 _ _ _ | exact Rh_6 _ _ _ | exact Rh_7 _ _ _ | exact Rh_8 _ _ _ | exact Rh_9 _ _ _ | exact Rh_10 _ _ _ | exact Rh_11 _ _ _ | exact Rh_12 _ _ _) (by rfl) (by first | assumption | omega | (simp only [x_up, x_nw]; omega)) (by first | assumption | omega | (simp only [x_up, x_nw]; omega)) rfl ?_
  rw [Rh_uK]
  refine go_aload_n (pc' := 35) (i := 0) d_Mod_add_34 rfl rfl (by first | rfl | exact x_r_rf _) rfl ?_
  refine go_getfield (pc' := 38) d_Mod_add_35 c_Mod 7 (by decide) t_478 (by first | assumption | exact Rh_0 _ _ _ | exact Rh_1 _ _ _ | exact Rh_2 _ _ _ | exact Rh_3 _ _ _ | exact Rh_4 _ _ _ | exact Rh_5 _ _ _ | exact Rh_6 _ _ _ | exact Rh_7 _ _ _ | exact Rh_8 _ _ _ | exact Rh_9 _ _ _ | exact Rh_10 _ _ _ | exact Rh_11 _ _ _ | exact Rh_12 _ _ _) (by rfl) rfl ?_
  refine go_iload (pc' := 40) (i := 6) d_Mod_add_38 rfl rfl ?_
  refine go_lload_n (pc' := 41) (i := 3) d_Mod_add_40 rfl rfl rfl ?_
  refine go_lastN (pc' := 42) d_Mod_add_41 (by first | assumption | exact Rh_0 _ _ _ | exact Rh_1 _ _ _ | exact Rh_2 _ _ _ | exact Rh_3 _ _ _ | exact Rh_4 _ _ _ | exact Rh_5 _ _ _ | exact Rh_6 _ _ _ | exact Rh_7 _ _ _ | exact Rh_8 _ _ _ | exact Rh_9 _ _ _ | exact Rh_10 _ _ _ | exact Rh_11 _ _ _ | exact Rh_12 _ _ _) (by rfl) (by first | assumption | omega | (simp only [x_up, x_nw]; omega)) (by first | assumption | omega | (simp only [x_up, x_nw]; omega)) rfl ?_
  rw [Rh_uV]
  show Go K M_Mod_add d 42 _ [] (Rh g m (ru_V (ru_K ρ1 (va_up (r_K ρ1) (60 * i + (s_ks σ i).length) key)) (va_up (r_V ρ1) (60 * i + (s_ks σ i).length) v))) _
  obtain ⟨ρ2, hρ2⟩ : ∃ ρ2, ρ2 = ru_V (ru_K ρ1 (va_up (r_K ρ1) (60 * i + (s_ks σ i).length) key)) (va_up (r_V ρ1) (60 * i + (s_ks σ i).length) v) := ⟨_, rfl⟩
  rw [← hρ2]
  have hK2 : r_K ρ2 = va_up (r_K ρ) (60 * i + (s_ks σ i).length) key := by rw [hρ2, hρ1]; rfl
  have hV2 : r_V ρ2 = va_up (r_V ρ) (60 * i + (s_ks σ i).length) v := by rw [hρ2, hρ1]; rfl
  have hS2 : r_S ρ2 = r_S ρ := by rw [hρ2, hρ1]; rfl
  have hG2 : r_G ρ2 i = nI (s_gn σ i) := by rw [hρ2, hρ1]; exact hG
  have hL2 : ∀ B, Ls (ru_B ρ2 B) i (s_ks σ i) := fun B => by
    refine ⟨by show r_S ρ2 i = _; rw [hS2]; exact hL.1, hL.2.1, fun j y hy => ?_⟩
    have hj := (List.getElem?_eq_some_iff.mp hy).1
    show r_K ρ2 _ = _ ∧ r_V ρ2 _ = _
    rw [hK2, hV2, va_up_ne _ _ (by omega), va_up_ne _ _ (by omega)]
    exact hL.2.2 j y hy
  sorry
end RF2
