/-! the reference: what only reads -/
def q_bf (l : Nat) : Nat := if l = 0 then 0 else if l = 1 then 1 else if l = 2 then 5 else if l = 3 then 21 else 85
theorem q_shr : ∀ n, n < 256 → ∀ l, l < 5 → nI n >>> (nI (8 - 2 * l) &&& 31) = nI (n / 4 ^ (4 - l)) := by decide +kernel
/-- the list of map i in the arrays -/
def Ls (ρ : Rt) (i : Nat) (ks : List KV) : Prop := r_S ρ i = nI ks.length ∧ ks.length ≤ 60 ∧ ∀ j y, ks[j]? = some y → r_K ρ (60 * i + j) = y.1 ∧ r_V ρ (60 * i + j) = y.2
section RB2
variable {K : x_K} {d : Nat} {h g : x_H} {m i : Nat} {ρ : Rt} {ks : List KV}
theorem m_hash (key : Int32) : Go K M_Mod_hash d 0 [some (.int key)] [] h (x_is (some (.int (nI (q_h key)))) h) := by
  refine go_iload_n (pc' := 1) (i := 0) d_Mod_hash_0 rfl rfl rfl ?_
  refine go_ldc (pc' := 3) d_Mod_hash_1 t_545 rfl ?_
  refine go_imul (pc' := 4) d_Mod_hash_3 rfl ?_
  refine go_bipush (pc' := 6) (v := (nI 24)) d_Mod_hash_4 (by decide) rfl ?_
  refine go_iushr (pc' := 7) d_Mod_hash_6 (q_h1 key) rfl ?_
  refine go_ireturn d_Mod_hash_7 rfl (by rfl) ?_
  exact ⟨rfl, rfl⟩
theorem m_node {n l : Nat} (hn : n < 256) (hl : l < 5) : Go K M_Mod_node d 0 [some (.int (nI n)), some (.int (nI l)), none] [] h (x_is (some (.int (nI (q_bf l + n / 4 ^ (4 - l))))) h) := by
  have fin : Go K M_Mod_node d 38 [some (.int (nI n)), some (.int (nI l)), none] [.int (nI (q_bf l))] h (x_is (some (.int (nI (q_bf l + n / 4 ^ (4 - l))))) h) := by
    refine go_istore_n (pc' := 39) (i := 2) d_Mod_node_38 rfl (by decide) (x_s2 (by first | rfl | exact x_k_rf _)) rfl ?_
    refine go_iload_n (pc' := 40) (i := 2) d_Mod_node_39 rfl rfl rfl ?_
    refine go_iload_n (pc' := 41) (i := 0) d_Mod_node_40 rfl rfl rfl ?_
    refine go_bipush (pc' := 43) (v := (nI 8)) d_Mod_node_41 (by decide) rfl ?_
    refine go_iconst (pc' := 44) (v := (nI 2)) d_Mod_node_43 (by decide) rfl ?_
    refine go_iload_n (pc' := 45) (i := 1) d_Mod_node_44 rfl rfl rfl ?_
    refine go_imulN (pc' := 46) d_Mod_node_45 rfl ?_
    refine go_isubN (pc' := 47) d_Mod_node_46 (by omega) rfl ?_
    refine go_ishr (pc' := 48) d_Mod_node_47 rfl ?_
    rw [q_shr n hn l hl]
    refine go_iaddN (pc' := 49) d_Mod_node_48 rfl ?_
    refine go_ireturn d_Mod_node_49 rfl (by rfl) ?_
    exact ⟨rfl, rfl⟩
  refine go_iload_n (pc' := 1) (i := 1) d_Mod_node_0 rfl rfl rfl ?_
  have h5 : l = 0 ∨ l = 1 ∨ l = 2 ∨ l = 3 ∨ l = 4 := by omega
  refine go_if_ne (tgt := 8) (pc' := 4) d_Mod_node_1 (by decide) rfl (fun hc => ?_) (fun hc => ?_)
  · have h0 : l ≠ 0 := fun e => hc (by rw [e]; rfl)
    refine go_iload_n (pc' := 9) (i := 1) d_Mod_node_8 rfl rfl rfl ?_
    refine go_iconst (pc' := 10) (v := (nI 1)) d_Mod_node_9 (by decide) rfl ?_
    refine go_icmp_neN (tgt := 17) (pc' := 13) d_Mod_node_10 (by decide) rfl (by omega) (by omega) (fun hc => ?_) (fun hc => ?_)
    · refine go_iload_n (pc' := 18) (i := 1) d_Mod_node_17 rfl rfl rfl ?_
      refine go_iconst (pc' := 19) (v := (nI 2)) d_Mod_node_18 (by decide) rfl ?_
      refine go_icmp_neN (tgt := 26) (pc' := 22) d_Mod_node_19 (by decide) rfl (by omega) (by omega) (fun hc => ?_) (fun hc => ?_)
      · refine go_iload_n (pc' := 27) (i := 1) d_Mod_node_26 rfl rfl rfl ?_
        refine go_iconst (pc' := 28) (v := (nI 3)) d_Mod_node_27 (by decide) rfl ?_
        refine go_icmp_neN (tgt := 36) (pc' := 31) d_Mod_node_28 (by decide) rfl (by omega) (by omega) (fun hc => ?_) (fun hc => ?_)
        · refine go_bipush (pc' := 38) (v := (nI 85)) d_Mod_node_36 (by decide) rfl ?_
          have : l = 4 := by omega
          subst this
          exact fin
        · subst hc
          refine go_bipush (pc' := 33) (v := (nI 21)) d_Mod_node_31 (by decide) rfl ?_
          refine go_goto (tgt := 38) d_Mod_node_33 (by decide) ?_
          exact fin
      · subst hc
        refine go_iconst (pc' := 23) (v := (nI 5)) d_Mod_node_22 (by decide) rfl ?_
        refine go_goto (tgt := 38) d_Mod_node_23 (by decide) ?_
        exact fin
    · subst hc
      refine go_iconst (pc' := 14) (v := (nI 1)) d_Mod_node_13 (by decide) rfl ?_
      refine go_goto (tgt := 38) d_Mod_node_14 (by decide) ?_
      exact fin
  · have : l = 0 := by
      rw [show (0 : Int32) = nI 0 from rfl, nI_eq (by omega) (by omega)] at hc
      exact hc
    subst this
    refine go_iconst (pc' := 5) (v := (nI 0)) d_Mod_node_4 (by decide) rfl ?_
    refine go_goto (tgt := 38) d_Mod_node_5 (by decide) ?_
    exact fin
theorem q_f_take {l p k : Nat} {y : KV} (hy : ks[k]? = some y) : (q_f (ks.take (k + 1)) l p).length = (q_f (ks.take k) l p).length + (if q_p l y.1 = p then 1 else 0) := by
  rw [List.take_succ, hy]
  unfold q_f
  rw [List.filter_append, List.length_append]
  by_cases hp : q_p l y.1 = p <;> simp [hp]
set_option maxRecDepth 100000 in
theorem m_sharing (hL : Ls ρ i ks) (hi : i < 6) {n l : Nat} (hn : n < 256) (hl : l < 5) (hd : 1 ≤ d) :
    Go K M_Mod_sharing d 0 [some (.ref m), some (.int (nI i)), some (.int (nI n)), some (.int (nI l)), none, none] [] (Rh g m ρ) (x_is (some (.int (nI (q_f ks l (n / 4 ^ (4 - l))).length))) (Rh g m ρ)) := by
  obtain ⟨hS, h60, hK⟩ := hL
  have loop : ∀ r k, k + r = ks.length → Go K M_Mod_sharing d 6 [some (.ref m), some (.int (nI i)), some (.int (nI n)), some (.int (nI l)), some (.int (nI (q_f (ks.take k) l (n / 4 ^ (4 - l))).length)), some (.int (nI k))] [] (Rh g m ρ) (x_is (some (.int (nI (q_f ks l (n / 4 ^ (4 - l))).length))) (Rh g m ρ)) := by
    intro r
    induction r with
    | zero =>
      intro k hk
      refine go_iload (pc' := 8) (i := 5) d_Mod_sharing_6 rfl rfl ?_
      refine go_aload_n (pc' := 9) (i := 0) d_Mod_sharing_8 rfl rfl (by first | rfl | exact x_r_rf _) rfl ?_
      refine go_getfield (pc' := 12) d_Mod_sharing_9 c_Mod 5 (by decide) t_476 (by first | assumption | exact Rh_0 _ _ _ | exact Rh_1 _ _ _ | exact Rh_2 _ _ _ | exact Rh_3 _ _ _ | exact Rh_4 _ _ _ | exact Rh_5 _ _ _ | exact Rh_6 _ _ _ | exact Rh_7 _ _ _ | exact Rh_8 _ _ _ | exact Rh_9 _ _ _ | exact Rh_10 _ _ _ | exact Rh_11 _ _ _ | exact Rh_12 _ _ _) (by rfl) rfl ?_
      refine go_iload_n (pc' := 13) (i := 1) d_Mod_sharing_12 rfl rfl rfl ?_
      refine go_ialdN (pc' := 14) d_Mod_sharing_13 (by first | assumption | exact Rh_0 _ _ _ | exact Rh_1 _ _ _ | exact Rh_2 _ _ _ | exact Rh_3 _ _ _ | exact Rh_4 _ _ _ | exact Rh_5 _ _ _ | exact Rh_6 _ _ _ | exact Rh_7 _ _ _ | exact Rh_8 _ _ _ | exact Rh_9 _ _ _ | exact Rh_10 _ _ _ | exact Rh_11 _ _ _ | exact Rh_12 _ _ _) (by rfl) (by first | assumption | omega | (simp only [x_up, x_nw]; omega)) (by first | assumption | omega | (simp only [x_up, x_nw]; omega)) rfl ?_
      rw [hS]
      refine go_icmp_geN (tgt := 66) (pc' := 17) d_Mod_sharing_14 (by decide) rfl (by omega) (by omega) (fun hc => ?_) (fun hc => ?_)
      · refine go_iload (pc' := 68) (i := 4) d_Mod_sharing_66 rfl rfl ?_
        refine go_ireturn d_Mod_sharing_68 rfl (by rfl) ?_
        rw [show k = ks.length by omega, List.take_length]
        exact ⟨rfl, rfl⟩
      · omega
    | succ r ih =>
      intro k hk
      refine go_iload (pc' := 8) (i := 5) d_Mod_sharing_6 rfl rfl ?_
      refine go_aload_n (pc' := 9) (i := 0) d_Mod_sharing_8 rfl rfl (by first | rfl | exact x_r_rf _) rfl ?_
      refine go_getfield (pc' := 12) d_Mod_sharing_9 c_Mod 5 (by decide) t_476 (by first | assumption | exact Rh_0 _ _ _ | exact Rh_1 _ _ _ | exact Rh_2 _ _ _ | exact Rh_3 _ _ _ | exact Rh_4 _ _ _ | exact Rh_5 _ _ _ | exact Rh_6 _ _ _ | exact Rh_7 _ _ _ | exact Rh_8 _ _ _ | exact Rh_9 _ _ _ | exact Rh_10 _ _ _ | exact Rh_11 _ _ _ | exact Rh_12 _ _ _) (by rfl) rfl ?_
      refine go_iload_n (pc' := 13) (i := 1) d_Mod_sharing_12 rfl rfl rfl ?_
      refine go_ialdN (pc' := 14) d_Mod_sharing_13 (by first | assumption | exact Rh_0 _ _ _ | exact Rh_1 _ _ _ | exact Rh_2 _ _ _ | exact Rh_3 _ _ _ | exact Rh_4 _ _ _ | exact Rh_5 _ _ _ | exact Rh_6 _ _ _ | exact Rh_7 _ _ _ | exact Rh_8 _ _ _ | exact Rh_9 _ _ _ | exact Rh_10 _ _ _ | exact Rh_11 _ _ _ | exact Rh_12 _ _ _) (by rfl) (by first | assumption | omega | (simp only [x_up, x_nw]; omega)) (by first | assumption | omega | (simp only [x_up, x_nw]; omega)) rfl ?_
      rw [hS]
      refine go_icmp_geN (tgt := 66) (pc' := 17) d_Mod_sharing_14 (by decide) rfl (by omega) (by omega) (fun hc => ?_) (fun hc => ?_)
      · omega
      · obtain ⟨y, hy⟩ : ∃ y, ks[k]? = some y := ⟨_, List.getElem?_eq_getElem (by omega)⟩
        have nx := ih (k + 1) (by omega)
        rw [q_f_take hy] at nx
        refine go_iload (pc' := 19) (i := 4) d_Mod_sharing_17 rfl rfl ?_
        refine go_aload_n (pc' := 20) (i := 0) d_Mod_sharing_19 rfl rfl (by first | rfl | exact x_r_rf _) rfl ?_
        refine go_getfield (pc' := 23) d_Mod_sharing_20 c_Mod 6 (by decide) t_477 (by first | assumption | exact Rh_0 _ _ _ | exact Rh_1 _ _ _ | exact Rh_2 _ _ _ | exact Rh_3 _ _ _ | exact Rh_4 _ _ _ | exact Rh_5 _ _ _ | exact Rh_6 _ _ _ | exact Rh_7 _ _ _ | exact Rh_8 _ _ _ | exact Rh_9 _ _ _ | exact Rh_10 _ _ _ | exact Rh_11 _ _ _ | exact Rh_12 _ _ _) (by rfl) rfl ?_
        refine go_bipush (pc' := 25) (v := (nI 60)) d_Mod_sharing_23 (by decide) rfl ?_
        refine go_iload_n (pc' := 26) (i := 1) d_Mod_sharing_25 rfl rfl rfl ?_
        refine go_imulN (pc' := 27) d_Mod_sharing_26 rfl ?_
        refine go_iload (pc' := 29) (i := 5) d_Mod_sharing_27 rfl rfl ?_
        refine go_iaddN (pc' := 30) d_Mod_sharing_29 rfl ?_
        refine go_ialdN (pc' := 31) d_Mod_sharing_30 (by first | assumption | exact Rh_0 _ _ _ | exact Rh_1 _ _ _ | exact Rh_2 _ _ _ | exact Rh_3 _ _ _ | exact Rh_4 _ _ _ | exact Rh_5 _ _ _ | exact Rh_6 _ _ _ | exact Rh_7 _ _ _ | exact Rh_8 _ _ _ | exact Rh_9 _ _ _ | exact Rh_10 _ _ _ | exact Rh_11 _ _ _ | exact Rh_12 _ _ _) (by rfl) (by first | assumption | omega | (simp only [x_up, x_nw]; omega)) (by first | assumption | omega | (simp only [x_up, x_nw]; omega)) rfl ?_
        rw [(hK k y hy).1]
        refine go_callS (pc' := 34) (M' := M_Mod_hash) [_] d_Mod_sharing_31 t_542 t_543 t_4 cd_Mod_hash nm_Mod_hash rfl rfl (Nat.le_of_ble_eq_true rfl) rfl (m_hash (d := d - 1) y.1) (by first | decide | omega) (Nat.le_of_ble_eq_true rfl) rfl (fun v hh hq => ?_) (fun q g hq => by cases hq.1)
        obtain ⟨e1, e2⟩ := hq
        cases e1
        rw [← e2]
        show Go K M_Mod_sharing d 34 _ [.int (nI (q_h y.1)), _] _ _
        refine go_bipush (pc' := 36) (v := (nI 8)) d_Mod_sharing_34 (by decide) rfl ?_
        refine go_iconst (pc' := 37) (v := (nI 2)) d_Mod_sharing_36 (by decide) rfl ?_
        refine go_iload_n (pc' := 38) (i := 3) d_Mod_sharing_37 rfl rfl rfl ?_
        refine go_imulN (pc' := 39) d_Mod_sharing_38 rfl ?_
        refine go_isubN (pc' := 40) d_Mod_sharing_39 (by omega) rfl ?_
        refine go_ishr (pc' := 41) d_Mod_sharing_40 rfl ?_
        rw [q_shr _ (q_h_lt _) l hl]
        refine go_iload_n (pc' := 42) (i := 2) d_Mod_sharing_41 rfl rfl rfl ?_
        refine go_bipush (pc' := 44) (v := (nI 8)) d_Mod_sharing_42 (by decide) rfl ?_
        refine go_iconst (pc' := 45) (v := (nI 2)) d_Mod_sharing_44 (by decide) rfl ?_
        refine go_iload_n (pc' := 46) (i := 3) d_Mod_sharing_45 rfl rfl rfl ?_
        refine go_imulN (pc' := 47) d_Mod_sharing_46 rfl ?_
        refine go_isubN (pc' := 48) d_Mod_sharing_47 (by omega) rfl ?_
        refine go_ishr (pc' := 49) d_Mod_sharing_48 rfl ?_
        rw [q_shr n hn l hl]
        have b1 : q_h y.1 / 4 ^ (4 - l) < 2 ^ 31 := Nat.lt_of_le_of_lt (Nat.div_le_self _ _) (by have := q_h_lt y.1; omega)
        have b2 : n / 4 ^ (4 - l) < 2 ^ 31 := Nat.lt_of_le_of_lt (Nat.div_le_self _ _) (by omega)
        refine go_icmp_neN (tgt := 56) (pc' := 52) d_Mod_sharing_49 (by decide) rfl (by omega) (by omega) (fun hc => ?_) (fun hc => ?_)
        · have hc' : ¬ q_p l y.1 = n / 4 ^ (4 - l) := hc
          rw [if_neg hc'] at nx
          refine go_iconst (pc' := 57) (v := (nI 0)) d_Mod_sharing_56 (by decide) rfl ?_
          refine go_iaddN (pc' := 58) d_Mod_sharing_57 rfl ?_
          refine go_istore (pc' := 60) (i := 4) d_Mod_sharing_58 (by decide) (x_s4 (by first | rfl | exact x_k_rf _)) rfl ?_
          refine go_iinc (pc' := 63) (i := 5) d_Mod_sharing_60 rfl (x_i1 _) (by decide) (x_s5 (by first | rfl | exact x_k_rf _)) rfl ?_
          refine go_goto (tgt := 6) d_Mod_sharing_63 (by decide) ?_
          exact nx
        · have hc' : q_p l y.1 = n / 4 ^ (4 - l) := hc
          rw [if_pos hc'] at nx
          refine go_iconst (pc' := 53) (v := (nI 1)) d_Mod_sharing_52 (by decide) rfl ?_
          refine go_goto (tgt := 57) d_Mod_sharing_53 (by decide) ?_
          refine go_iaddN (pc' := 58) d_Mod_sharing_57 rfl ?_
          refine go_istore (pc' := 60) (i := 4) d_Mod_sharing_58 (by decide) (x_s4 (by first | rfl | exact x_k_rf _)) rfl ?_
          refine go_iinc (pc' := 63) (i := 5) d_Mod_sharing_60 rfl (x_i1 _) (by decide) (x_s5 (by first | rfl | exact x_k_rf _)) rfl ?_
          refine go_goto (tgt := 6) d_Mod_sharing_63 (by decide) ?_
          exact nx
  refine go_iconst (pc' := 1) (v := (nI 0)) d_Mod_sharing_0 (by decide) rfl ?_
  refine go_istore (pc' := 3) (i := 4) d_Mod_sharing_1 (by decide) (x_s4 (by first | rfl | exact x_k_rf _)) rfl ?_
  refine go_iconst (pc' := 4) (v := (nI 0)) d_Mod_sharing_3 (by decide) rfl ?_
  refine go_istore (pc' := 6) (i := 5) d_Mod_sharing_4 (by decide) (x_s5 (by first | rfl | exact x_k_rf _)) rfl ?_
  exact loop ks.length 0 (by omega)
theorem m_exists (hL : Ls ρ i ks) (hi : i < 6) {n l : Nat} (hn : n < 256) (hl : l < 5) (hd : 2 ≤ d) :
    Go K M_Mod_exists d 0 [some (.ref m), some (.int (nI i)), some (.int (nI n)), some (.int (nI l))] [] (Rh g m ρ) (x_is (some (.int (if q_ex ks l (n / 4 ^ (4 - l)) then 1 else 0))) (Rh g m ρ)) := by
  have hlen : (q_f ks l (n / 4 ^ (4 - l))).length ≤ 60 := Nat.le_trans (List.length_filter_le _ _) hL.2.1
  refine go_iload_n (pc' := 1) (i := 3) d_Mod_exists_0 rfl rfl rfl ?_
  refine go_if_eq (tgt := 15) (pc' := 4) d_Mod_exists_1 (by decide) rfl (fun hc => ?_) (fun hc => ?_)
  · have h0 : l = 0 := by
      rw [show (0 : Int32) = nI 0 from rfl, nI_eq (by omega) (by omega)] at hc
      exact hc
    refine go_iconst (pc' := 16) (v := (nI 1)) d_Mod_exists_15 (by decide) rfl ?_
    refine go_goto (tgt := 20) d_Mod_exists_16 (by decide) ?_
    refine go_ireturn d_Mod_exists_20 rfl (by rfl) ?_
    rw [if_pos (Or.inl h0)]
    exact ⟨rfl, rfl⟩
  · have h0 : l ≠ 0 := fun e => hc (by rw [e]; rfl)
    refine go_aload_n (pc' := 5) (i := 0) d_Mod_exists_4 rfl rfl (by first | rfl | exact x_r_rf _) rfl ?_
    refine go_iload_n (pc' := 6) (i := 1) d_Mod_exists_5 rfl rfl rfl ?_
    refine go_iload_n (pc' := 7) (i := 2) d_Mod_exists_6 rfl rfl rfl ?_
    refine go_iload_n (pc' := 8) (i := 3) d_Mod_exists_7 rfl rfl rfl ?_
    refine go_callV (pc' := 11) (M' := M_Mod_sharing) (ci := 6) (r := (n_Mod, T_Mod, 16)) [_, _, _] d_Mod_exists_8 t_546 t_548 sp_Mod_sharing cd_Mod_sharing nm_Mod_sharing rfl (by rfl) (by first | assumption | exact Rh_0 _ _ _ | exact Rh_1 _ _ _ | exact Rh_2 _ _ _ | exact Rh_3 _ _ _ | exact Rh_4 _ _ _ | exact Rh_5 _ _ _ | exact Rh_6 _ _ _ | exact Rh_7 _ _ _ | exact Rh_8 _ _ _ | exact Rh_9 _ _ _ | exact Rh_10 _ _ _ | exact Rh_11 _ _ _ | exact Rh_12 _ _ _) rfl (Nat.le_of_ble_eq_true rfl) rfl (m_sharing (d := d - 1) hL hi hn hl (by omega)) (by first | decide | omega) (Nat.le_of_ble_eq_true rfl) rfl (fun v hh hq => ?_) (fun q g hq => by cases hq.1)
    obtain ⟨e1, e2⟩ := hq
    cases e1
    rw [← e2]
    show Go K M_Mod_exists d 11 _ [_] _ _
    refine go_iconst (pc' := 12) (v := (nI 1)) d_Mod_exists_11 (by decide) rfl ?_
    refine go_icmp_leN (tgt := 19) (pc' := 15) d_Mod_exists_12 (by decide) rfl (by omega) (by omega) (fun hc => ?_) (fun hc => ?_)
    · refine go_iconst (pc' := 20) (v := (nI 0)) d_Mod_exists_19 (by decide) rfl ?_
      refine go_ireturn d_Mod_exists_20 rfl (by rfl) ?_
      rw [if_neg (by omega)]
      exact ⟨rfl, rfl⟩
    · refine go_iconst (pc' := 16) (v := (nI 1)) d_Mod_exists_15 (by decide) rfl ?_
      refine go_goto (tgt := 20) d_Mod_exists_16 (by decide) ?_
      refine go_ireturn d_Mod_exists_20 rfl (by rfl) ?_
      rw [if_pos (Or.inr (by omega))]
      exact ⟨rfl, rfl⟩
end RB2
