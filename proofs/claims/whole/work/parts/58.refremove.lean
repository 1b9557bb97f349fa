/-! the reference: remove -/
section RJ2
variable {K : x_K} {d : Nat} {h g : x_H} {m i j : Nat} {ρ ρ' : Rt} {ks : List KV} {σ : Sg} {y : KV} {key : Int32}
theorem l_del {P : KV → Bool} : ∀ (ks : List KV) (j : Nat), (∀ a y, ks[a]? = some y → (P y = false ↔ a = j)) → j < ks.length → ks.filter P = ks.eraseIdx j
  | [], j, _, hj => by cases hj
  | x :: r, 0, hP, _ => by
    have hx : P x = false := (hP 0 x rfl).mpr rfl
    rw [List.filter_cons, hx]
    simp only [Bool.false_eq_true, if_false, List.eraseIdx_cons_zero]
    refine List.filter_eq_self.mpr fun y hy => ?_
    obtain ⟨a, ha⟩ := List.mem_iff_getElem?.mp hy
    cases hPy : P y with
    | true => rfl
    | false => exact absurd ((hP (a + 1) y (by simpa using ha)).mp hPy) (by omega)
  | x :: r, j + 1, hP, hj => by
    have hx : P x = true := by
      cases hPx : P x with
      | true => rfl
      | false => exact absurd ((hP 0 x rfl).mp hPx) (by omega)
    rw [List.filter_cons, hx]
    simp only [if_true, List.eraseIdx_cons_succ]
    rw [l_del r j (fun a y ha => by
      have := hP (a + 1) y (by simpa using ha)
      rw [this]
      omega) (by simpa using hj)]
theorem q_del_idx (hK : Ko ks) (hy : ks[j]? = some y) (hk : y.1 = key) : q_del ks key = ks.eraseIdx j := by
  unfold q_del
  refine l_del ks j (fun a z hz => ?_) (List.getElem?_eq_some_iff.mp hy).1
  constructor
  · intro h1
    have : z.1 = key := by simpa using h1
    exact hK.uq hz hy (this.trans hk.symm)
  · rintro rfl
    rw [hy] at hz
    cases hz
    simpa using hk
/-- the arrays while the keys behind move up -/
def Mv (ρ : Rt) (i j k : Nat) : Rt := ru_V (ru_K ρ (fun b => if 60 * i + j ≤ b ∧ b < k then r_K ρ (b + 1) else r_K ρ b)) (fun b => if 60 * i + j ≤ b ∧ b < k then r_V ρ (b + 1) else r_V ρ b)
theorem Mv_s {k : Nat} (hk : 60 * i + j ≤ k) : ru_V (ru_K (Mv ρ i j k) (va_up (r_K (Mv ρ i j k)) k (r_K (Mv ρ i j k) (k + 1)))) (va_up (r_V (Mv ρ i j k)) k (r_V (Mv ρ i j k) (k + 1))) = Mv ρ i j (k + 1) := by
  have e : ∀ {α : Type} (F : Nat → α), va_up (fun b => if 60 * i + j ≤ b ∧ b < k then F (b + 1) else F b) k ((fun b => if 60 * i + j ≤ b ∧ b < k then F (b + 1) else F b) (k + 1)) = fun b => if 60 * i + j ≤ b ∧ b < k + 1 then F (b + 1) else F b := by
    intro α F
    funext b
    by_cases hb : b = k
    · subst hb
      rw [va_up_self, if_pos ⟨hk, by omega⟩]
      show (if 60 * i + j ≤ b + 1 ∧ b + 1 < b then F (b + 1 + 1) else F (b + 1)) = _
      rw [if_neg (by omega)]
    · rw [va_up_ne _ _ hb]
      exact q_ifc (by omega) _ _
  exact congr (congrArg (fun a b => ru_V (ru_K ρ a) b) (e (r_K ρ))) (e (r_V ρ))
theorem Ls.del (hL : Ls ρ i ks) (hK : Ko ks) (hy : ks[j]? = some y) (hk : y.1 = key) (hS : r_S ρ' i = nI (ks.length - 1)) (hK' : r_K ρ' = r_K (Mv ρ i j (60 * i + (ks.length - 1)))) (hV' : r_V ρ' = r_V (Mv ρ i j (60 * i + (ks.length - 1)))) : Ls ρ' i (q_del ks key) := by
  have hj := (List.getElem?_eq_some_iff.mp hy).1
  rw [q_del_idx hK hy hk]
  refine ⟨by rw [hS, List.length_eraseIdx, if_pos hj], by rw [List.length_eraseIdx, if_pos hj]; have := hL.2.1; omega, fun a z hz => ?_⟩
  rw [hK', hV']
  show (if 60 * i + j ≤ 60 * i + a ∧ 60 * i + a < 60 * i + (ks.length - 1) then r_K ρ (60 * i + a + 1) else r_K ρ (60 * i + a)) = _ ∧ (if 60 * i + j ≤ 60 * i + a ∧ 60 * i + a < 60 * i + (ks.length - 1) then r_V ρ (60 * i + a + 1) else r_V ρ (60 * i + a)) = _
  have ha := (List.getElem?_eq_some_iff.mp hz).1
  rw [List.length_eraseIdx, if_pos hj] at ha
  rw [List.getElem?_eraseIdx] at hz
  by_cases haj : a < j
  · rw [if_pos haj] at hz
    rw [if_neg (by omega), if_neg (by omega)]
    exact hL.2.2 a z hz
  · rw [if_neg haj] at hz
    rw [if_pos (by omega), if_pos (by omega)]
    exact hL.2.2 (a + 1) z hz
def c_rem (k : Nat) : Nat := if k = 11 then 1 else if k = 12 then 2 else 3
set_option maxRecDepth 100000 in
theorem m_remove (hR : Rr σ ρ) (mm key : Int32) (hd : 8 ≤ d) : Go K M_Mod_remove d 0 [some (.ref m), some (.int mm), some (.int key), none, none, none, none] [] (Rh g m ρ) (Qm g m (p_Rem σ mm key) c_rem (.long 0)) := by
  refine go_aload_n (pc' := 1) (i := 0) d_Mod_remove_0 rfl rfl (by first | rfl | exact x_r_rf _) rfl ?_
  refine go_iconst (pc' := 2) (v := (nI 0)) d_Mod_remove_1 (by decide) rfl ?_
  refine go_putfield (pc' := 5) d_Mod_remove_2 c_Mod 0 (by decide) rfl t_471 (by first | assumption | exact Rh_0 _ _ _ | exact Rh_1 _ _ _ | exact Rh_2 _ _ _ | exact Rh_3 _ _ _ | exact Rh_4 _ _ _ | exact Rh_5 _ _ _ | exact Rh_6 _ _ _ | exact Rh_7 _ _ _ | exact Rh_8 _ _ _ | exact Rh_9 _ _ _ | exact Rh_10 _ _ _ | exact Rh_11 _ _ _ | exact Rh_12 _ _ _) (by rfl) (by rfl) (by first | exact Nat.le_of_ble_eq_true rfl | simp) rfl ?_
  rw [Rh_utw]
  obtain ⟨ρ1, hρ1⟩ : ∃ ρ1, ρ1 = ru_tw ρ (nI 0) := ⟨_, rfl⟩
  rw [← hρ1]
  have hR1 : Rr σ ρ1 := by rw [hρ1]; exact hR
  have htw : r_tw ρ1 = nI 0 := by rw [hρ1]; rfl
  refine go_aload_n (pc' := 6) (i := 0) d_Mod_remove_5 rfl rfl (by first | rfl | exact x_r_rf _) rfl ?_
  refine go_iload_n (pc' := 7) (i := 1) d_Mod_remove_6 rfl rfl rfl ?_
  refine go_callV (pc' := 10) (M' := M_Mod_none) (ci := 6) (r := (n_Mod, T_Mod, 16)) [_] d_Mod_remove_7 t_530 t_532 sp_Mod_none cd_Mod_none nm_Mod_none rfl (by rfl) (by first | assumption | exact Rh_0 _ _ _ | exact Rh_1 _ _ _ | exact Rh_2 _ _ _ | exact Rh_3 _ _ _ | exact Rh_4 _ _ _ | exact Rh_5 _ _ _ | exact Rh_6 _ _ _ | exact Rh_7 _ _ _ | exact Rh_8 _ _ _ | exact Rh_9 _ _ _ | exact Rh_10 _ _ _ | exact Rh_11 _ _ _ | exact Rh_12 _ _ _) rfl (Nat.le_of_ble_eq_true rfl) rfl (m_none (d := d - 1) hR1.2.1 mm) (by first | decide | omega) (Nat.le_of_ble_eq_true rfl) rfl (fun v hh hq => ?_) (fun q g hq => by cases hq.1)
  obtain ⟨e1, e2⟩ := hq
  cases e1
  rw [← e2]
  show Go K M_Mod_remove d 10 _ [_] _ _
  cases hp : p_map σ mm with
  | none =>
    refine go_if_eq (tgt := 20) (pc' := 13) d_Mod_remove_10 (by decide) rfl (fun hc => ?_) (fun hc => ?_)
    · cases hc
    · refine go_aload_n (pc' := 14) (i := 0) d_Mod_remove_13 rfl rfl (by first | rfl | exact x_r_rf _) rfl ?_
      refine go_iconst (pc' := 15) (v := (nI 1)) d_Mod_remove_14 (by decide) rfl ?_
      refine go_callV (pc' := 18) (M' := M_Mod_fail) (ci := 6) (r := (n_Mod, T_Mod, 16)) [_] d_Mod_remove_15 t_534 t_536 sp_Mod_fail cd_Mod_fail nm_Mod_fail rfl (by rfl) (by first | assumption | exact Rh_0 _ _ _ | exact Rh_1 _ _ _ | exact Rh_2 _ _ _ | exact Rh_3 _ _ _ | exact Rh_4 _ _ _ | exact Rh_5 _ _ _ | exact Rh_6 _ _ _ | exact Rh_7 _ _ _ | exact Rh_8 _ _ _ | exact Rh_9 _ _ _ | exact Rh_10 _ _ _ | exact Rh_11 _ _ _ | exact Rh_12 _ _ _) rfl (Nat.le_of_ble_eq_true rfl) rfl (m_fail (d := d - 1) (nI 1)) (by first | decide | omega) (Nat.le_of_ble_eq_true rfl) rfl (fun v hh hq => ?_) (fun q g hq => by cases hq.1)
      obtain ⟨e1, e2⟩ := hq
      cases e1
      rw [← e2]
      show Go K M_Mod_remove d 18 _ [_] _ _
      refine go_i2l (pc' := 19) d_Mod_remove_18 rfl rfl ?_
      refine go_lreturn d_Mod_remove_19 rfl ?_
      unfold p_Rem
      rw [hp]
      exact ⟨_, rfl, hR1, rfl, rfl⟩
  | some i =>
    obtain ⟨rfl, hi, hth⟩ := p_map_inv hp
    have hL := hR1.2.2.2.2.1 i hi
    have hK := hR1.2.2.2.2.2.2.2.2.2.2.2.2.2 i hi
    refine go_if_eq (tgt := 20) (pc' := 13) d_Mod_remove_10 (by decide) rfl (fun hc => ?_) (fun hc => ?_)
    · refine go_aload_n (pc' := 21) (i := 0) d_Mod_remove_20 rfl rfl (by first | rfl | exact x_r_rf _) rfl ?_
      refine go_getfield (pc' := 24) d_Mod_remove_21 c_Mod 3 (by decide) t_474 (by first | assumption | exact Rh_0 _ _ _ | exact Rh_1 _ _ _ | exact Rh_2 _ _ _ | exact Rh_3 _ _ _ | exact Rh_4 _ _ _ | exact Rh_5 _ _ _ | exact Rh_6 _ _ _ | exact Rh_7 _ _ _ | exact Rh_8 _ _ _ | exact Rh_9 _ _ _ | exact Rh_10 _ _ _ | exact Rh_11 _ _ _ | exact Rh_12 _ _ _) (by rfl) rfl ?_
      refine go_iload_n (pc' := 25) (i := 1) d_Mod_remove_24 rfl rfl rfl ?_
      refine go_zaldN (pc' := 26) d_Mod_remove_25 (by first | assumption | exact Rh_0 _ _ _ | exact Rh_1 _ _ _ | exact Rh_2 _ _ _ | exact Rh_3 _ _ _ | exact Rh_4 _ _ _ | exact Rh_5 _ _ _ | exact Rh_6 _ _ _ | exact Rh_7 _ _ _ | exact Rh_8 _ _ _ | exact Rh_9 _ _ _ | exact Rh_10 _ _ _ | exact Rh_11 _ _ _ | exact Rh_12 _ _ _) (by rfl) (by first | assumption | omega | (simp only [x_up, x_nw]; omega)) (by first | assumption | omega | (simp only [x_up, x_nw]; omega)) rfl ?_
      rw [hR1.2.2.1 i hi]
      refine go_if_eq (tgt := 36) (pc' := 29) d_Mod_remove_26 (by decide) rfl (fun hc => ?_) (fun hc => ?_)
      · have hro := hc
        refine go_aload_n (pc' := 37) (i := 0) d_Mod_remove_36 rfl rfl (by first | rfl | exact x_r_rf _) rfl ?_
        refine go_iload_n (pc' := 38) (i := 1) d_Mod_remove_37 rfl rfl rfl ?_
        refine go_iload_n (pc' := 39) (i := 2) d_Mod_remove_38 rfl rfl rfl ?_
        refine go_callV (pc' := 42) (M' := M_Mod_find) (ci := 6) (r := (n_Mod, T_Mod, 16)) [_, _] d_Mod_remove_39 t_538 t_540 sp_Mod_find cd_Mod_find nm_Mod_find rfl (by rfl) (by first | assumption | exact Rh_0 _ _ _ | exact Rh_1 _ _ _ | exact Rh_2 _ _ _ | exact Rh_3 _ _ _ | exact Rh_4 _ _ _ | exact Rh_5 _ _ _ | exact Rh_6 _ _ _ | exact Rh_7 _ _ _ | exact Rh_8 _ _ _ | exact Rh_9 _ _ _ | exact Rh_10 _ _ _ | exact Rh_11 _ _ _ | exact Rh_12 _ _ _) rfl (Nat.le_of_ble_eq_true rfl) rfl (m_find (d := d - 1) hL hi key) (by first | decide | omega) (Nat.le_of_ble_eq_true rfl) rfl (fun v hh hq => ?_) (fun q g hq => hq.elim)
        obtain ⟨e2, hq⟩ := hq
        rw [← e2]
        rcases hq with ⟨hno, rfl⟩ | ⟨j, y, hy, hk, rfl⟩
        · show Go K M_Mod_remove d 42 _ [_] _ _
          refine go_istore_n (pc' := 43) (i := 3) d_Mod_remove_42 rfl (by decide) (x_s3 (by first | rfl | exact x_k_rf _)) rfl ?_
          refine go_iload_n (pc' := 44) (i := 3) d_Mod_remove_43 rfl rfl rfl ?_
          refine go_if_ge (tgt := 54) (pc' := 47) d_Mod_remove_44 (by decide) rfl (fun hc => ?_) (fun hc => ?_)
          · exact absurd hc (by decide)
          · refine go_aload_n (pc' := 48) (i := 0) d_Mod_remove_47 rfl rfl (by first | rfl | exact x_r_rf _) rfl ?_
            refine go_iconst (pc' := 49) (v := (nI 3)) d_Mod_remove_48 (by decide) rfl ?_
            refine go_callV (pc' := 52) (M' := M_Mod_fail) (ci := 6) (r := (n_Mod, T_Mod, 16)) [_] d_Mod_remove_49 t_534 t_536 sp_Mod_fail cd_Mod_fail nm_Mod_fail rfl (by rfl) (by first | assumption | exact Rh_0 _ _ _ | exact Rh_1 _ _ _ | exact Rh_2 _ _ _ | exact Rh_3 _ _ _ | exact Rh_4 _ _ _ | exact Rh_5 _ _ _ | exact Rh_6 _ _ _ | exact Rh_7 _ _ _ | exact Rh_8 _ _ _ | exact Rh_9 _ _ _ | exact Rh_10 _ _ _ | exact Rh_11 _ _ _ | exact Rh_12 _ _ _) rfl (Nat.le_of_ble_eq_true rfl) rfl (m_fail (d := d - 1) (nI 3)) (by first | decide | omega) (Nat.le_of_ble_eq_true rfl) rfl (fun v hh hq => ?_) (fun q g hq => by cases hq.1)
            obtain ⟨e1, e2⟩ := hq
            cases e1
            rw [← e2]
            show Go K M_Mod_remove d 52 _ [_] _ _
            refine go_i2l (pc' := 53) d_Mod_remove_52 rfl rfl ?_
            refine go_lreturn d_Mod_remove_53 rfl ?_
            unfold p_Rem
            rw [hp]
            simp only [hro, hno, not_true_eq_false, if_false]
            exact ⟨_, rfl, hR1, rfl, rfl⟩
        · have hj := (List.getElem?_eq_some_iff.mp hy).1
          have h60 := hL.2.1
          have hget := Ls.get hK hy hk
          have hR2 := hR1.nc
          obtain ⟨ρ2, hρ2⟩ : ∃ ρ2, ρ2 = ru_lc ρ1 (nI 0) := ⟨_, rfl⟩
          rw [← hρ2] at hR2
          have htw2 : r_tw ρ2 = nI 0 := by rw [hρ2]; exact htw
          have hL2 : Ls ρ2 i (s_ks σ i) := hR2.2.2.2.2.1 i hi
          show Go K M_Mod_remove d 42 _ [_] _ _
          refine go_istore_n (pc' := 43) (i := 3) d_Mod_remove_42 rfl (by decide) (x_s3 (by first | rfl | exact x_k_rf _)) rfl ?_
          refine go_iload_n (pc' := 44) (i := 3) d_Mod_remove_43 rfl rfl rfl ?_
          refine go_if_ge (tgt := 54) (pc' := 47) d_Mod_remove_44 (by decide) rfl (fun hc => ?_) (fun hc => ?_)
          · refine go_aload_n (pc' := 55) (i := 0) d_Mod_remove_54 rfl rfl (by first | rfl | exact x_r_rf _) rfl ?_
            refine go_iconst (pc' := 56) (v := (nI 0)) d_Mod_remove_55 (by decide) rfl ?_
            refine go_putfield (pc' := 59) d_Mod_remove_56 c_Mod 9 (by decide) rfl t_480 (by first | assumption | exact Rh_0 _ _ _ | exact Rh_1 _ _ _ | exact Rh_2 _ _ _ | exact Rh_3 _ _ _ | exact Rh_4 _ _ _ | exact Rh_5 _ _ _ | exact Rh_6 _ _ _ | exact Rh_7 _ _ _ | exact Rh_8 _ _ _ | exact Rh_9 _ _ _ | exact Rh_10 _ _ _ | exact Rh_11 _ _ _ | exact Rh_12 _ _ _) (by rfl) (by rfl) (by first | exact Nat.le_of_ble_eq_true rfl | simp) rfl ?_
            rw [Rh_ulc, ← hρ2]
            refine go_aload_n (pc' := 60) (i := 0) d_Mod_remove_59 rfl rfl (by first | rfl | exact x_r_rf _) rfl ?_
            refine go_iload_n (pc' := 61) (i := 1) d_Mod_remove_60 rfl rfl rfl ?_
            refine go_iload_n (pc' := 62) (i := 2) d_Mod_remove_61 rfl rfl rfl ?_
            refine go_callS (pc' := 65) (M' := M_Mod_hash) [_] d_Mod_remove_62 t_542 t_543 t_4 cd_Mod_hash nm_Mod_hash rfl rfl (Nat.le_of_ble_eq_true rfl) rfl (m_hash (d := d - 1) key) (by first | decide | omega) (Nat.le_of_ble_eq_true rfl) rfl (fun v hh hq => ?_) (fun q g hq => by cases hq.1)
            obtain ⟨e1, e2⟩ := hq
            cases e1
            rw [← e2]
            show Go K M_Mod_remove d 65 _ [.int (nI (q_h key)), _, _] _ _
            have hb11 := hR2.2.2.2.2.2.2.2.2.2.2.1
            have hg12 := hR2.2.2.2.2.2.2.2.2.2.2.2.1
            have hl13 := hR2.2.2.2.2.2.2.2.2.2.2.2.2.1
            refine go_callV (pc' := 68) (M' := M_Mod_write) (ci := 6) (r := (n_Mod, T_Mod, 16)) [_, _] d_Mod_remove_65 t_554 t_556 sp_Mod_write cd_Mod_write nm_Mod_write rfl (by rfl) (by first | assumption | exact Rh_0 _ _ _ | exact Rh_1 _ _ _ | exact Rh_2 _ _ _ | exact Rh_3 _ _ _ | exact Rh_4 _ _ _ | exact Rh_5 _ _ _ | exact Rh_6 _ _ _ | exact Rh_7 _ _ _ | exact Rh_8 _ _ _ | exact Rh_9 _ _ _ | exact Rh_10 _ _ _ | exact Rh_11 _ _ _ | exact Rh_12 _ _ _) rfl (Nat.le_of_ble_eq_true rfl) rfl (m_write (d := d - 1) (c0 := 0) (hR2.2.2.2.2.1 i hi) hi (hR2.2.2.2.2.2.1 i hi) (fun l p => by have := hb11 i l p hi; omega) (hR2.2.2.2.1 i hi) (by have := hg12 i hi; omega) hR2.2.2.2.2.2.2.1 key (by omega)) (by first | decide | omega) (Nat.le_of_ble_eq_true rfl) rfl (fun v h5 hq => ?_) (fun q g hq => hq.elim)
            obtain ⟨rfl, B1, rfl, hB1, hF1⟩ := hq
            show Go K M_Mod_remove d 68 _ [] _ _
            rw [Nat.zero_add]
            obtain ⟨ρ3, hρ3⟩ : ∃ ρ3, ρ3 = ru_lc (ru_B ρ2 B1) (nI (q_cc (s_ks (p_nc σ) i) (s_bl (p_nc σ) i) (s_gn (p_nc σ) i) key 5)) := ⟨_, rfl⟩
            rw [← hρ3]
            have hS3 : r_S ρ3 i = nI (s_ks σ i).length := by rw [hρ3]; exact hL2.1
            have hV3 : r_V ρ3 (60 * i + j) = y.2 := by rw [hρ3]; exact (hL2.2.2 j y hy).2
            have hL3 : Ls ρ3 i (s_ks σ i) := by rw [hρ3]; exact hL2
            refine go_aload_n (pc' := 69) (i := 0) d_Mod_remove_68 rfl rfl (by first | rfl | exact x_r_rf _) rfl ?_
            refine go_getfield (pc' := 72) d_Mod_remove_69 c_Mod 7 (by decide) t_478 (by first | assumption | exact Rh_0 _ _ _ | exact Rh_1 _ _ _ | exact Rh_2 _ _ _ | exact Rh_3 _ _ _ | exact Rh_4 _ _ _ | exact Rh_5 _ _ _ | exact Rh_6 _ _ _ | exact Rh_7 _ _ _ | exact Rh_8 _ _ _ | exact Rh_9 _ _ _ | exact Rh_10 _ _ _ | exact Rh_11 _ _ _ | exact Rh_12 _ _ _) (by rfl) rfl ?_
            refine go_iload_n (pc' := 73) (i := 3) d_Mod_remove_72 rfl rfl rfl ?_
            refine go_laldN (pc' := 74) d_Mod_remove_73 (by first | assumption | exact Rh_0 _ _ _ | exact Rh_1 _ _ _ | exact Rh_2 _ _ _ | exact Rh_3 _ _ _ | exact Rh_4 _ _ _ | exact Rh_5 _ _ _ | exact Rh_6 _ _ _ | exact Rh_7 _ _ _ | exact Rh_8 _ _ _ | exact Rh_9 _ _ _ | exact Rh_10 _ _ _ | exact Rh_11 _ _ _ | exact Rh_12 _ _ _) (by rfl) (by first | assumption | omega | (simp only [x_up, x_nw]; omega)) (by first | assumption | omega | (simp only [x_up, x_nw]; omega)) rfl ?_
            rw [hV3]
            refine go_lstore (pc' := 76) (i := 4) d_Mod_remove_74 (by decide) (x_t4 (by first | rfl | exact x_k_rf _)) rfl ?_
            refine go_aload_n (pc' := 77) (i := 0) d_Mod_remove_76 rfl rfl (by first | rfl | exact x_r_rf _) rfl ?_
            refine go_getfield (pc' := 80) d_Mod_remove_77 c_Mod 5 (by decide) t_476 (by first | assumption | exact Rh_0 _ _ _ | exact Rh_1 _ _ _ | exact Rh_2 _ _ _ | exact Rh_3 _ _ _ | exact Rh_4 _ _ _ | exact Rh_5 _ _ _ | exact Rh_6 _ _ _ | exact Rh_7 _ _ _ | exact Rh_8 _ _ _ | exact Rh_9 _ _ _ | exact Rh_10 _ _ _ | exact Rh_11 _ _ _ | exact Rh_12 _ _ _) (by rfl) rfl ?_
            refine go_iload_n (pc' := 81) (i := 1) d_Mod_remove_80 rfl rfl rfl ?_
            refine go_dup2 (pc' := 82) d_Mod_remove_81 rfl rfl rfl ?_
            refine go_ialdN (pc' := 83) d_Mod_remove_82 (by first | assumption | exact Rh_0 _ _ _ | exact Rh_1 _ _ _ | exact Rh_2 _ _ _ | exact Rh_3 _ _ _ | exact Rh_4 _ _ _ | exact Rh_5 _ _ _ | exact Rh_6 _ _ _ | exact Rh_7 _ _ _ | exact Rh_8 _ _ _ | exact Rh_9 _ _ _ | exact Rh_10 _ _ _ | exact Rh_11 _ _ _ | exact Rh_12 _ _ _) (by rfl) (by first | assumption | omega | (simp only [x_up, x_nw]; omega)) (by first | assumption | omega | (simp only [x_up, x_nw]; omega)) rfl ?_
            refine go_iconst (pc' := 84) (v := (nI 1)) d_Mod_remove_83 (by decide) rfl ?_
            rw [hS3]
            refine go_isubN (pc' := 85) d_Mod_remove_84 (by omega) rfl ?_
            refine go_iastN (pc' := 86) d_Mod_remove_85 (by first | assumption | exact Rh_0 _ _ _ | exact Rh_1 _ _ _ | exact Rh_2 _ _ _ | exact Rh_3 _ _ _ | exact Rh_4 _ _ _ | exact Rh_5 _ _ _ | exact Rh_6 _ _ _ | exact Rh_7 _ _ _ | exact Rh_8 _ _ _ | exact Rh_9 _ _ _ | exact Rh_10 _ _ _ | exact Rh_11 _ _ _ | exact Rh_12 _ _ _) (by rfl) (by first | assumption | omega | (simp only [x_up, x_nw]; omega)) (by first | assumption | omega | (simp only [x_up, x_nw]; omega)) rfl ?_
            rw [Rh_uS]
            obtain ⟨ρ4, hρ4⟩ : ∃ ρ4, ρ4 = ru_S ρ3 (va_up (r_S ρ3) i (nI ((s_ks σ i).length - 1))) := ⟨_, rfl⟩
            rw [← hρ4]
            have hS4 : r_S ρ4 i = nI ((s_ks σ i).length - 1) := by rw [hρ4]; exact va_up_self _ _ _
            have fin : Qm g m (p_Rem σ (nI i) key) c_rem (.long 0) (.inl (some (.long y.2))) (Rh g m (Mv ρ4 i j (60 * i + ((s_ks σ i).length - 1)))) := by
              unfold p_Rem
              rw [hp]
              simp only [hro, hget, not_true_eq_false, if_false]
              refine ⟨_, rfl, ?_, by rw [hρ4, hρ3]; exact htw2, rfl⟩
              refine Rr.wr (σ := p_nc σ) hR2 hi (by rw [hρ4, hρ3]; rfl) (by rw [hρ4, hρ3]; rfl) (by rw [hρ4, hρ3]; rfl) (by rw [hρ4, hρ3]; rfl) (by rw [hρ4, hρ3]; rfl) (by rw [hρ4, hρ3]; rfl) (by rw [hρ4, hρ3]; rfl) (by rw [hρ4, hρ3]; rfl) (by rw [hρ4, hρ3]; rfl) (by rw [hρ4, hρ3]; rfl) (hL3.del hK hy hk hS4 (by rw [hρ4]; rfl) (by rw [hρ4]; rfl)) (fun a ha hai => ?_) (by rw [hρ4, hρ3]; exact hB1) (by rw [hρ4, hρ3]; exact hF1) (by rw [hρ4, hρ3]; rfl) (q_bw_le (fun l p => hb11 i l p hi) (hg12 i hi)) hK.del
              obtain ⟨t1, t2, t3⟩ := hR2.2.2.2.2.1 a ha
              refine ⟨?_, t2, fun b w hw => ?_⟩
              · rw [hρ4, hρ3]
                exact (va_up_ne _ _ hai).trans t1
              · have hb := (List.getElem?_eq_some_iff.mp hw).1
                have e3 : r_K ρ4 = r_K ρ2 := by rw [hρ4, hρ3]; rfl
                have e4 : r_V ρ4 = r_V ρ2 := by rw [hρ4, hρ3]; rfl
                show (if 60 * i + j ≤ 60 * a + b ∧ 60 * a + b < 60 * i + ((s_ks σ i).length - 1) then r_K ρ4 (60 * a + b + 1) else r_K ρ4 (60 * a + b)) = _ ∧ (if 60 * i + j ≤ 60 * a + b ∧ 60 * a + b < 60 * i + ((s_ks σ i).length - 1) then r_V ρ4 (60 * a + b + 1) else r_V ρ4 (60 * a + b)) = _
                rw [if_neg (by omega), if_neg (by omega), e3, e4]
                exact t3 b w hw
            have loop : ∀ r k, k + r = 60 * i + ((s_ks σ i).length - 1) → 60 * i + j ≤ k → Go K M_Mod_remove d 89 [some (.ref m), some (.int (nI i)), some (.int key), some (.int (nI (60 * i + j))), some (.long y.2), none, some (.int (nI k))] [] (Rh g m (Mv ρ4 i j k)) (Qm g m (p_Rem σ (nI i) key) c_rem (.long 0)) := by
              intro r
              induction r with
              | zero =>
                intro k hkr hkj
                refine go_iload (pc' := 91) (i := 6) d_Mod_remove_89 rfl rfl ?_
                refine go_bipush (pc' := 93) (v := (nI 60)) d_Mod_remove_91 (by decide) rfl ?_
                refine go_iload_n (pc' := 94) (i := 1) d_Mod_remove_93 rfl rfl rfl ?_
                refine go_imulN (pc' := 95) d_Mod_remove_94 rfl ?_
                refine go_aload_n (pc' := 96) (i := 0) d_Mod_remove_95 rfl rfl (by first | rfl | exact x_r_rf _) rfl ?_
                refine go_getfield (pc' := 99) d_Mod_remove_96 c_Mod 5 (by decide) t_476 (by first | assumption | exact Rh_0 _ _ _ | exact Rh_1 _ _ _ | exact Rh_2 _ _ _ | exact Rh_3 _ _ _ | exact Rh_4 _ _ _ | exact Rh_5 _ _ _ | exact Rh_6 _ _ _ | exact Rh_7 _ _ _ | exact Rh_8 _ _ _ | exact Rh_9 _ _ _ | exact Rh_10 _ _ _ | exact Rh_11 _ _ _ | exact Rh_12 _ _ _) (by rfl) rfl ?_
                refine go_iload_n (pc' := 100) (i := 1) d_Mod_remove_99 rfl rfl rfl ?_
                refine go_ialdN (pc' := 101) d_Mod_remove_100 (by first | assumption | exact Rh_0 _ _ _ | exact Rh_1 _ _ _ | exact Rh_2 _ _ _ | exact Rh_3 _ _ _ | exact Rh_4 _ _ _ | exact Rh_5 _ _ _ | exact Rh_6 _ _ _ | exact Rh_7 _ _ _ | exact Rh_8 _ _ _ | exact Rh_9 _ _ _ | exact Rh_10 _ _ _ | exact Rh_11 _ _ _ | exact Rh_12 _ _ _) (by rfl) (by first | assumption | omega | (simp only [x_up, x_nw]; omega)) (by first | assumption | omega | (simp only [x_up, x_nw]; omega)) rfl ?_
                rw [show r_S (Mv ρ4 i j k) = r_S ρ4 from rfl, hS4]
                refine go_iaddN (pc' := 102) d_Mod_remove_101 rfl ?_
                refine go_icmp_geN (tgt := 143) (pc' := 105) d_Mod_remove_102 (by decide) rfl (by omega) (by omega) (fun hc => ?_) (fun hc => ?_)
                · refine go_lload (pc' := 145) (i := 4) d_Mod_remove_143 rfl rfl ?_
                  refine go_lreturn d_Mod_remove_145 rfl ?_
                  rw [show k = 60 * i + ((s_ks σ i).length - 1) by omega]
                  exact fin
                · omega
              | succ r ih =>
                intro k hkr hkj
                refine go_iload (pc' := 91) (i := 6) d_Mod_remove_89 rfl rfl ?_
                refine go_bipush (pc' := 93) (v := (nI 60)) d_Mod_remove_91 (by decide) rfl ?_
                refine go_iload_n (pc' := 94) (i := 1) d_Mod_remove_93 rfl rfl rfl ?_
                refine go_imulN (pc' := 95) d_Mod_remove_94 rfl ?_
                refine go_aload_n (pc' := 96) (i := 0) d_Mod_remove_95 rfl rfl (by first | rfl | exact x_r_rf _) rfl ?_
                refine go_getfield (pc' := 99) d_Mod_remove_96 c_Mod 5 (by decide) t_476 (by first | assumption | exact Rh_0 _ _ _ | exact Rh_1 _ _ _ | exact Rh_2 _ _ _ | exact Rh_3 _ _ _ | exact Rh_4 _ _ _ | exact Rh_5 _ _ _ | exact Rh_6 _ _ _ | exact Rh_7 _ _ _ | exact Rh_8 _ _ _ | exact Rh_9 _ _ _ | exact Rh_10 _ _ _ | exact Rh_11 _ _ _ | exact Rh_12 _ _ _) (by rfl) rfl ?_
                refine go_iload_n (pc' := 100) (i := 1) d_Mod_remove_99 rfl rfl rfl ?_
                refine go_ialdN (pc' := 101) d_Mod_remove_100 (by first | assumption | exact Rh_0 _ _ _ | exact Rh_1 _ _ _ | exact Rh_2 _ _ _ | exact Rh_3 _ _ _ | exact Rh_4 _ _ _ | exact Rh_5 _ _ _ | exact Rh_6 _ _ _ | exact Rh_7 _ _ _ | exact Rh_8 _ _ _ | exact Rh_9 _ _ _ | exact Rh_10 _ _ _ | exact Rh_11 _ _ _ | exact Rh_12 _ _ _) (by rfl) (by first | assumption | omega | (simp only [x_up, x_nw]; omega)) (by first | assumption | omega | (simp only [x_up, x_nw]; omega)) rfl ?_
                rw [show r_S (Mv ρ4 i j k) = r_S ρ4 from rfl, hS4]
                refine go_iaddN (pc' := 102) d_Mod_remove_101 rfl ?_
                refine go_icmp_geN (tgt := 143) (pc' := 105) d_Mod_remove_102 (by decide) rfl (by omega) (by omega) (fun hc => ?_) (fun hc => ?_)
                · omega
                · refine go_aload_n (pc' := 106) (i := 0) d_Mod_remove_105 rfl rfl (by first | rfl | exact x_r_rf _) rfl ?_
                  refine go_getfield (pc' := 109) d_Mod_remove_106 c_Mod 6 (by decide) t_477 (by first | assumption | exact Rh_0 _ _ _ | exact Rh_1 _ _ _ | exact Rh_2 _ _ _ | exact Rh_3 _ _ _ | exact Rh_4 _ _ _ | exact Rh_5 _ _ _ | exact Rh_6 _ _ _ | exact Rh_7 _ _ _ | exact Rh_8 _ _ _ | exact Rh_9 _ _ _ | exact Rh_10 _ _ _ | exact Rh_11 _ _ _ | exact Rh_12 _ _ _) (by rfl) rfl ?_
                  refine go_iload (pc' := 111) (i := 6) d_Mod_remove_109 rfl rfl ?_
                  refine go_aload_n (pc' := 112) (i := 0) d_Mod_remove_111 rfl rfl (by first | rfl | exact x_r_rf _) rfl ?_
                  refine go_getfield (pc' := 115) d_Mod_remove_112 c_Mod 6 (by decide) t_477 (by first | assumption | exact Rh_0 _ _ _ | exact Rh_1 _ _ _ | exact Rh_2 _ _ _ | exact Rh_3 _ _ _ | exact Rh_4 _ _ _ | exact Rh_5 _ _ _ | exact Rh_6 _ _ _ | exact Rh_7 _ _ _ | exact Rh_8 _ _ _ | exact Rh_9 _ _ _ | exact Rh_10 _ _ _ | exact Rh_11 _ _ _ | exact Rh_12 _ _ _) (by rfl) rfl ?_
                  refine go_iload (pc' := 117) (i := 6) d_Mod_remove_115 rfl rfl ?_
                  refine go_iconst (pc' := 118) (v := (nI 1)) d_Mod_remove_117 (by decide) rfl ?_
                  refine go_iaddN (pc' := 119) d_Mod_remove_118 rfl ?_
                  refine go_ialdN (pc' := 120) d_Mod_remove_119 (by first | assumption | exact Rh_0 _ _ _ | exact Rh_1 _ _ _ | exact Rh_2 _ _ _ | exact Rh_3 _ _ _ | exact Rh_4 _ _ _ | exact Rh_5 _ _ _ | exact Rh_6 _ _ _ | exact Rh_7 _ _ _ | exact Rh_8 _ _ _ | exact Rh_9 _ _ _ | exact Rh_10 _ _ _ | exact Rh_11 _ _ _ | exact Rh_12 _ _ _) (by rfl) (by first | assumption | omega | (simp only [x_up, x_nw]; omega)) (by first | assumption | omega | (simp only [x_up, x_nw]; omega)) rfl ?_
                  refine go_iastN (pc' := 121) d_Mod_remove_120 (by first | assumption | exact Rh_0 _ _ _ | exact Rh_1 _ _ _ | exact Rh_2 _ _ _ | exact Rh_3 _ _ _ | exact Rh_4 _ _ _ | exact Rh_5 _ _ _ | exact Rh_6 _ _ _ | exact Rh_7 _ _ _ | exact Rh_8 _ _ _ | exact Rh_9 _ _ _ | exact Rh_10 _ _ _ | exact Rh_11 _ _ _ | exact Rh_12 _ _ _) (by rfl) (by first | assumption | omega | (simp only [x_up, x_nw]; omega)) (by first | assumption | omega | (simp only [x_up, x_nw]; omega)) rfl ?_
                  rw [Rh_uK]
                  refine go_aload_n (pc' := 122) (i := 0) d_Mod_remove_121 rfl rfl (by first | rfl | exact x_r_rf _) rfl ?_
                  refine go_getfield (pc' := 125) d_Mod_remove_122 c_Mod 7 (by decide) t_478 (by first | assumption | exact Rh_0 _ _ _ | exact Rh_1 _ _ _ | exact Rh_2 _ _ _ | exact Rh_3 _ _ _ | exact Rh_4 _ _ _ | exact Rh_5 _ _ _ | exact Rh_6 _ _ _ | exact Rh_7 _ _ _ | exact Rh_8 _ _ _ | exact Rh_9 _ _ _ | exact Rh_10 _ _ _ | exact Rh_11 _ _ _ | exact Rh_12 _ _ _) (by rfl) rfl ?_
                  refine go_iload (pc' := 127) (i := 6) d_Mod_remove_125 rfl rfl ?_
                  refine go_aload_n (pc' := 128) (i := 0) d_Mod_remove_127 rfl rfl (by first | rfl | exact x_r_rf _) rfl ?_
                  refine go_getfield (pc' := 131) d_Mod_remove_128 c_Mod 7 (by decide) t_478 (by first | assumption | exact Rh_0 _ _ _ | exact Rh_1 _ _ _ | exact Rh_2 _ _ _ | exact Rh_3 _ _ _ | exact Rh_4 _ _ _ | exact Rh_5 _ _ _ | exact Rh_6 _ _ _ | exact Rh_7 _ _ _ | exact Rh_8 _ _ _ | exact Rh_9 _ _ _ | exact Rh_10 _ _ _ | exact Rh_11 _ _ _ | exact Rh_12 _ _ _) (by rfl) rfl ?_
                  refine go_iload (pc' := 133) (i := 6) d_Mod_remove_131 rfl rfl ?_
                  refine go_iconst (pc' := 134) (v := (nI 1)) d_Mod_remove_133 (by decide) rfl ?_
                  refine go_iaddN (pc' := 135) d_Mod_remove_134 rfl ?_
                  refine go_laldN (pc' := 136) d_Mod_remove_135 (by first | assumption | exact Rh_0 _ _ _ | exact Rh_1 _ _ _ | exact Rh_2 _ _ _ | exact Rh_3 _ _ _ | exact Rh_4 _ _ _ | exact Rh_5 _ _ _ | exact Rh_6 _ _ _ | exact Rh_7 _ _ _ | exact Rh_8 _ _ _ | exact Rh_9 _ _ _ | exact Rh_10 _ _ _ | exact Rh_11 _ _ _ | exact Rh_12 _ _ _) (by rfl) (by first | assumption | omega | (simp only [x_up, x_nw]; omega)) (by first | assumption | omega | (simp only [x_up, x_nw]; omega)) rfl ?_
                  refine go_lastN (pc' := 137) d_Mod_remove_136 (by first | assumption | exact Rh_0 _ _ _ | exact Rh_1 _ _ _ | exact Rh_2 _ _ _ | exact Rh_3 _ _ _ | exact Rh_4 _ _ _ | exact Rh_5 _ _ _ | exact Rh_6 _ _ _ | exact Rh_7 _ _ _ | exact Rh_8 _ _ _ | exact Rh_9 _ _ _ | exact Rh_10 _ _ _ | exact Rh_11 _ _ _ | exact Rh_12 _ _ _) (by rfl) (by first | assumption | omega | (simp only [x_up, x_nw]; omega)) (by first | assumption | omega | (simp only [x_up, x_nw]; omega)) rfl ?_
                  rw [Rh_uV]
                  have e := Mv_s (ρ := ρ4) hkj
                  show Go K M_Mod_remove d 137 _ [] (Rh g m (ru_V (ru_K (Mv ρ4 i j k) (va_up (r_K (Mv ρ4 i j k)) k (r_K (Mv ρ4 i j k) (k + 1)))) (va_up (r_V (Mv ρ4 i j k)) k (r_V (Mv ρ4 i j k) (k + 1))))) _
                  rw [e]
                  refine go_iinc (pc' := 140) (i := 6) d_Mod_remove_137 rfl (x_i1 _) (by decide) (x_s6 (by first | rfl | exact x_k_rf _)) rfl ?_
                  refine go_goto (tgt := 89) d_Mod_remove_140 (by decide) ?_
                  exact ih (k + 1) (by omega) (by omega)
            have e0 : Rh g m ρ4 = Rh g m (Mv ρ4 i j (60 * i + j)) := by
              have e : ∀ {α : Type} (F : Nat → α), (fun b => if 60 * i + j ≤ b ∧ b < 60 * i + j then F (b + 1) else F b) = F := fun F => funext fun b => if_neg (by omega)
              have : Mv ρ4 i j (60 * i + j) = ρ4 := congr (congrArg (fun a b => ru_V (ru_K ρ4 a) b) (e (r_K ρ4))) (e (r_V ρ4))
              rw [this]
            refine go_iload_n (pc' := 87) (i := 3) d_Mod_remove_86 rfl rfl rfl ?_
            refine go_istore (pc' := 89) (i := 6) d_Mod_remove_87 (by decide) (x_s6 (by first | rfl | exact x_k_rf _)) rfl ?_
            rw [e0]
            exact loop ((s_ks σ i).length - 1 - j) (60 * i + j) (by omega) (Nat.le_refl _)
          · exact absurd (nI_0le (by omega)) hc
      · have hro := hc
        refine go_aload_n (pc' := 30) (i := 0) d_Mod_remove_29 rfl rfl (by first | rfl | exact x_r_rf _) rfl ?_
        refine go_iconst (pc' := 31) (v := (nI 2)) d_Mod_remove_30 (by decide) rfl ?_
        refine go_callV (pc' := 34) (M' := M_Mod_fail) (ci := 6) (r := (n_Mod, T_Mod, 16)) [_] d_Mod_remove_31 t_534 t_536 sp_Mod_fail cd_Mod_fail nm_Mod_fail rfl (by rfl) (by first | assumption | exact Rh_0 _ _ _ | exact Rh_1 _ _ _ | exact Rh_2 _ _ _ | exact Rh_3 _ _ _ | exact Rh_4 _ _ _ | exact Rh_5 _ _ _ | exact Rh_6 _ _ _ | exact Rh_7 _ _ _ | exact Rh_8 _ _ _ | exact Rh_9 _ _ _ | exact Rh_10 _ _ _ | exact Rh_11 _ _ _ | exact Rh_12 _ _ _) rfl (Nat.le_of_ble_eq_true rfl) rfl (m_fail (d := d - 1) (nI 2)) (by first | decide | omega) (Nat.le_of_ble_eq_true rfl) rfl (fun v hh hq => ?_) (fun q g hq => by cases hq.1)
        obtain ⟨e1, e2⟩ := hq
        cases e1
        rw [← e2]
        show Go K M_Mod_remove d 34 _ [_] _ _
        refine go_i2l (pc' := 35) d_Mod_remove_34 rfl rfl ?_
        refine go_lreturn d_Mod_remove_35 rfl ?_
        unfold p_Rem
        rw [hp]
        simp only [if_pos hro]
        exact ⟨_, rfl, hR1, rfl, rfl⟩
    · exact absurd rfl hc
end RJ2
