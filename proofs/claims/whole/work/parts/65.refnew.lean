/-! the reference: its constructor -/
def r_z : Rt := (0, 0, fun _ => 0, fun _ => 0, fun _ => 0, fun _ => 0, fun _ => 0, fun _ => 0, fun _ => 0, 0, fun _ => 0, fun _ => 0, fun _ => 0, fun _ => 0, fun _ => 0, 0)
/-- n cells are made, q slots -/
def St (m : Nat) (h h1 : x_H) (n : Nat) (vs : List Value) (q : Nat) : Prop := h1.1 = m + n ∧ h1.2.1 = h.2.1 + q ∧ h1.2.2 m = some (.inr (6, vs)) ∧ (∀ j, 1 ≤ j → j < n → h1.2.2 (m + j) = some (Rc m r_z j)) ∧ ∀ b, b < m → h1.2.2 b = h.2.2 b
section RP2
variable {K : x_K} {M : x_M} {d pc : Nat} {lv : List (Option Value)} {st : List Value} {h h1 g : x_H} {m n n' q q' a : Nat} {vs vs' : List Value} {c : x_C} {Q : x_O → x_H → Prop}
theorem St.go (hS : St m h h1 n vs q) (h1n : 1 ≤ n) (hc : c = Rc m r_z n) (hn : n + 1 = n') (hq : q + a = q') (k : ∀ h2, St m h h2 n' vs' q' → Go K M d pc lv st h2 Q) : Go K M d pc lv st (x_up (x_nw h1 a c) m (.inr (6, vs'))) Q := by
  obtain ⟨s1, s2, s3, s4, s5⟩ := hS
  refine k _ ⟨?_, ?_, x_up_self _ _ _, fun j hj hjn => ?_, fun b hb => ?_⟩
  · show h1.1 + 1 = _
    omega
  · show h1.2.1 + a = _
    omega
  · rw [x_up_ne (by omega)]
    by_cases e : j = n
    · rw [e, ← s1, ← hc]
      exact x_nw_self _ _ _
    · rw [x_nw_ne (by omega)]
      exact s4 j hj (by omega)
  · rw [x_up_ne (by omega), x_nw_ne (by omega)]
    exact s5 b hb
set_option maxRecDepth 100000 in
theorem m_init (hz : h.1 = m + 1) (h0 : h.2.2 m = some (.inr (6, [.int 0, .int 0, .null, .null, .null, .null, .null, .null, .null, .int 0, .null, .null, .null, .null, .null, .long 0]))) (hd : 2 ≤ d) (hc1 : h.1 + 12 ≤ x_cap K) (hc2 : h.2.1 + 3400 ≤ x_cas K) :
    Go K M_Mod_init d 0 [some (.ref m)] [] h (x_rt (fun w f => w = none ∧ f = Rh f m r_0 ∧ f.1 = m + 13 ∧ f.2.1 ≤ h.2.1 + 3400 ∧ h.2.1 ≤ f.2.1 ∧ ∀ b, b < m → f.2.2 b = h.2.2 b)) := by
  obtain ⟨Q, hQ⟩ : ∃ Q : x_O → x_H → Prop, Q = (x_rt (fun w f => w = none ∧ f = Rh f m r_0 ∧ f.1 = m + 13 ∧ f.2.1 ≤ h.2.1 + 3400 ∧ h.2.1 ≤ f.2.1 ∧ ∀ b, b < m → f.2.2 b = h.2.2 b)) := ⟨_, rfl⟩
  rw [← hQ]
  have beg : ∀ h1, St m h h1 1 [.int 0, .int (nI 1), .null, .null, .null, .null, .null, .null, .null, .int 0, .null, .null, .null, .null, .null, .long 0] 0 → Go K M_Mod_init d 9 [some (.ref m)] [] h1 Q := by
    intro h1 hS
    obtain ⟨s1, s2, s3, s4, s5⟩ := id hS
    refine go_aload_n (pc' := 10) (i := 0) d_Mod_init_9 rfl rfl (by first | rfl | exact x_r_rf _) rfl ?_
    refine go_bipush (pc' := 12) (v := (nI 6)) d_Mod_init_10 (by decide) rfl ?_
    refine go_newarray (pc' := 14) (kd := 2) (N' := 6) (a0 := (6, .inl (fun _ => 0))) d_Mod_init_12 t_520 rfl (fun _ => rfl) (by decide) (by decide) (by decide) (by first | assumption | omega | (simp only [x_up, x_nw]; omega)) (by first | assumption | omega | (simp only [x_up, x_nw]; omega)) rfl ?_
    rw [s1]
    refine go_putfinal (pc' := 17) d_Mod_init_14 c_Mod 2 (by decide) rfl rfl rfl t_473 (by first | assumption | exact x_up_self _ _ _ | exact x_nw_self _ _ _ | (rw [x_up_ne (by first | omega | (simp only [x_up, x_nw]; omega))]; first | assumption | exact x_up_self _ _ _ | (rw [x_up_ne (by first | omega | (simp only [x_up, x_nw]; omega))]; first | assumption | exact x_up_self _ _ _)) | (rw [x_nw_ne (by first | omega | (simp only [x_up, x_nw]; omega))]; first | assumption | exact x_up_self _ _ _ | (rw [x_up_ne (by first | omega | (simp only [x_up, x_nw]; omega))]; assumption))) (by rfl) (by rfl) (by first | exact Nat.le_of_ble_eq_true rfl | simp) rfl ?_
    refine St.go (n' := 2) (q' := 6) (vs' := [.int 0, .int (nI 1), .ref (m + 1), .null, .null, .null, .null, .null, .null, .int 0, .null, .null, .null, .null, .null, .long 0]) hS (by decide) (by rfl) rfl (by decide) ?_
    clear s1 s2 s3 s4 s5 hS
    clear h1
    intro h1 hS
    obtain ⟨s1, s2, s3, s4, s5⟩ := id hS
    refine go_aload_n (pc' := 18) (i := 0) d_Mod_init_17 rfl rfl (by first | rfl | exact x_r_rf _) rfl ?_
    refine go_bipush (pc' := 20) (v := (nI 6)) d_Mod_init_18 (by decide) rfl ?_
    refine go_newarray (pc' := 22) (kd := 2) (N' := 6) (a0 := (6, .inl (fun _ => 0))) d_Mod_init_20 t_520 rfl (fun _ => rfl) (by decide) (by decide) (by decide) (by first | assumption | omega | (simp only [x_up, x_nw]; omega)) (by first | assumption | omega | (simp only [x_up, x_nw]; omega)) rfl ?_
    rw [s1]
    refine go_putfinal (pc' := 25) d_Mod_init_22 c_Mod 3 (by decide) rfl rfl rfl t_474 (by first | assumption | exact x_up_self _ _ _ | exact x_nw_self _ _ _ | (rw [x_up_ne (by first | omega | (simp only [x_up, x_nw]; omega))]; first | assumption | exact x_up_self _ _ _ | (rw [x_up_ne (by first | omega | (simp only [x_up, x_nw]; omega))]; first | assumption | exact x_up_self _ _ _)) | (rw [x_nw_ne (by first | omega | (simp only [x_up, x_nw]; omega))]; first | assumption | exact x_up_self _ _ _ | (rw [x_up_ne (by first | omega | (simp only [x_up, x_nw]; omega))]; assumption))) (by rfl) (by rfl) (by first | exact Nat.le_of_ble_eq_true rfl | simp) rfl ?_
    refine St.go (n' := 3) (q' := 12) (vs' := [.int 0, .int (nI 1), .ref (m + 1), .ref (m + 2), .null, .null, .null, .null, .null, .int 0, .null, .null, .null, .null, .null, .long 0]) hS (by decide) (by rfl) rfl (by decide) ?_
    clear s1 s2 s3 s4 s5 hS
    clear h1
    intro h1 hS
    obtain ⟨s1, s2, s3, s4, s5⟩ := id hS
    refine go_aload_n (pc' := 26) (i := 0) d_Mod_init_25 rfl rfl (by first | rfl | exact x_r_rf _) rfl ?_
    refine go_bipush (pc' := 28) (v := (nI 6)) d_Mod_init_26 (by decide) rfl ?_
    refine go_newarray (pc' := 30) (kd := 0) (N' := 6) (a0 := (6, .inl (fun _ => 0))) d_Mod_init_28 t_419 rfl (fun _ => rfl) (by decide) (by decide) (by decide) (by first | assumption | omega | (simp only [x_up, x_nw]; omega)) (by first | assumption | omega | (simp only [x_up, x_nw]; omega)) rfl ?_
    rw [s1]
    refine go_putfinal (pc' := 33) d_Mod_init_30 c_Mod 4 (by decide) rfl rfl rfl t_475 (by first | assumption | exact x_up_self _ _ _ | exact x_nw_self _ _ _ | (rw [x_up_ne (by first | omega | (simp only [x_up, x_nw]; omega))]; first | assumption | exact x_up_self _ _ _ | (rw [x_up_ne (by first | omega | (simp only [x_up, x_nw]; omega))]; first | assumption | exact x_up_self _ _ _)) | (rw [x_nw_ne (by first | omega | (simp only [x_up, x_nw]; omega))]; first | assumption | exact x_up_self _ _ _ | (rw [x_up_ne (by first | omega | (simp only [x_up, x_nw]; omega))]; assumption))) (by rfl) (by rfl) (by first | exact Nat.le_of_ble_eq_true rfl | simp) rfl ?_
    refine St.go (n' := 4) (q' := 18) (vs' := [.int 0, .int (nI 1), .ref (m + 1), .ref (m + 2), .ref (m + 3), .null, .null, .null, .null, .int 0, .null, .null, .null, .null, .null, .long 0]) hS (by decide) (by rfl) rfl (by decide) ?_
    clear s1 s2 s3 s4 s5 hS
    clear h1
    intro h1 hS
    obtain ⟨s1, s2, s3, s4, s5⟩ := id hS
    refine go_aload_n (pc' := 34) (i := 0) d_Mod_init_33 rfl rfl (by first | rfl | exact x_r_rf _) rfl ?_
    refine go_bipush (pc' := 36) (v := (nI 6)) d_Mod_init_34 (by decide) rfl ?_
    refine go_newarray (pc' := 38) (kd := 0) (N' := 6) (a0 := (6, .inl (fun _ => 0))) d_Mod_init_36 t_419 rfl (fun _ => rfl) (by decide) (by decide) (by decide) (by first | assumption | omega | (simp only [x_up, x_nw]; omega)) (by first | assumption | omega | (simp only [x_up, x_nw]; omega)) rfl ?_
    rw [s1]
    refine go_putfinal (pc' := 41) d_Mod_init_38 c_Mod 5 (by decide) rfl rfl rfl t_476 (by first | assumption | exact x_up_self _ _ _ | exact x_nw_self _ _ _ | (rw [x_up_ne (by first | omega | (simp only [x_up, x_nw]; omega))]; first | assumption | exact x_up_self _ _ _ | (rw [x_up_ne (by first | omega | (simp only [x_up, x_nw]; omega))]; first | assumption | exact x_up_self _ _ _)) | (rw [x_nw_ne (by first | omega | (simp only [x_up, x_nw]; omega))]; first | assumption | exact x_up_self _ _ _ | (rw [x_up_ne (by first | omega | (simp only [x_up, x_nw]; omega))]; assumption))) (by rfl) (by rfl) (by first | exact Nat.le_of_ble_eq_true rfl | simp) rfl ?_
    refine St.go (n' := 5) (q' := 24) (vs' := [.int 0, .int (nI 1), .ref (m + 1), .ref (m + 2), .ref (m + 3), .ref (m + 4), .null, .null, .null, .int 0, .null, .null, .null, .null, .null, .long 0]) hS (by decide) (by rfl) rfl (by decide) ?_
    clear s1 s2 s3 s4 s5 hS
    clear h1
    intro h1 hS
    obtain ⟨s1, s2, s3, s4, s5⟩ := id hS
    refine go_aload_n (pc' := 42) (i := 0) d_Mod_init_41 rfl rfl (by first | rfl | exact x_r_rf _) rfl ?_
    refine go_sipush (pc' := 45) (v := (nI 360)) d_Mod_init_42 (by decide) rfl ?_
    refine go_newarray (pc' := 47) (kd := 0) (N' := 360) (a0 := (360, .inl (fun _ => 0))) d_Mod_init_45 t_419 rfl (fun _ => rfl) (by decide) (by decide) (by decide) (by first | assumption | omega | (simp only [x_up, x_nw]; omega)) (by first | assumption | omega | (simp only [x_up, x_nw]; omega)) rfl ?_
    rw [s1]
    refine go_putfinal (pc' := 50) d_Mod_init_47 c_Mod 6 (by decide) rfl rfl rfl t_477 (by first | assumption | exact x_up_self _ _ _ | exact x_nw_self _ _ _ | (rw [x_up_ne (by first | omega | (simp only [x_up, x_nw]; omega))]; first | assumption | exact x_up_self _ _ _ | (rw [x_up_ne (by first | omega | (simp only [x_up, x_nw]; omega))]; first | assumption | exact x_up_self _ _ _)) | (rw [x_nw_ne (by first | omega | (simp only [x_up, x_nw]; omega))]; first | assumption | exact x_up_self _ _ _ | (rw [x_up_ne (by first | omega | (simp only [x_up, x_nw]; omega))]; assumption))) (by rfl) (by rfl) (by first | exact Nat.le_of_ble_eq_true rfl | simp) rfl ?_
    refine St.go (n' := 6) (q' := 384) (vs' := [.int 0, .int (nI 1), .ref (m + 1), .ref (m + 2), .ref (m + 3), .ref (m + 4), .ref (m + 5), .null, .null, .int 0, .null, .null, .null, .null, .null, .long 0]) hS (by decide) (by rfl) rfl (by decide) ?_
    clear s1 s2 s3 s4 s5 hS
    clear h1
    intro h1 hS
    obtain ⟨s1, s2, s3, s4, s5⟩ := id hS
    refine go_aload_n (pc' := 51) (i := 0) d_Mod_init_50 rfl rfl (by first | rfl | exact x_r_rf _) rfl ?_
    refine go_sipush (pc' := 54) (v := (nI 360)) d_Mod_init_51 (by decide) rfl ?_
    refine go_newarray (pc' := 56) (kd := 1) (N' := 360) (a0 := (360, .inr (.inl (fun _ => 0)))) d_Mod_init_54 t_521 rfl (fun _ => rfl) (by decide) (by decide) (by decide) (by first | assumption | omega | (simp only [x_up, x_nw]; omega)) (by first | assumption | omega | (simp only [x_up, x_nw]; omega)) rfl ?_
    rw [s1]
    refine go_putfinal (pc' := 59) d_Mod_init_56 c_Mod 7 (by decide) rfl rfl rfl t_478 (by first | assumption | exact x_up_self _ _ _ | exact x_nw_self _ _ _ | (rw [x_up_ne (by first | omega | (simp only [x_up, x_nw]; omega))]; first | assumption | exact x_up_self _ _ _ | (rw [x_up_ne (by first | omega | (simp only [x_up, x_nw]; omega))]; first | assumption | exact x_up_self _ _ _)) | (rw [x_nw_ne (by first | omega | (simp only [x_up, x_nw]; omega))]; first | assumption | exact x_up_self _ _ _ | (rw [x_up_ne (by first | omega | (simp only [x_up, x_nw]; omega))]; assumption))) (by rfl) (by rfl) (by first | exact Nat.le_of_ble_eq_true rfl | simp) rfl ?_
    refine St.go (n' := 7) (q' := 744) (vs' := [.int 0, .int (nI 1), .ref (m + 1), .ref (m + 2), .ref (m + 3), .ref (m + 4), .ref (m + 5), .ref (m + 6), .null, .int 0, .null, .null, .null, .null, .null, .long 0]) hS (by decide) (by rfl) rfl (by decide) ?_
    clear s1 s2 s3 s4 s5 hS
    clear h1
    intro h1 hS
    obtain ⟨s1, s2, s3, s4, s5⟩ := id hS
    refine go_aload_n (pc' := 60) (i := 0) d_Mod_init_59 rfl rfl (by first | rfl | exact x_r_rf _) rfl ?_
    refine go_sipush (pc' := 63) (v := (nI 2046)) d_Mod_init_60 (by decide) rfl ?_
    refine go_newarray (pc' := 65) (kd := 0) (N' := 2046) (a0 := (2046, .inl (fun _ => 0))) d_Mod_init_63 t_419 rfl (fun _ => rfl) (by decide) (by decide) (by decide) (by first | assumption | omega | (simp only [x_up, x_nw]; omega)) (by first | assumption | omega | (simp only [x_up, x_nw]; omega)) rfl ?_
    rw [s1]
    refine go_putfinal (pc' := 68) d_Mod_init_65 c_Mod 8 (by decide) rfl rfl rfl t_479 (by first | assumption | exact x_up_self _ _ _ | exact x_nw_self _ _ _ | (rw [x_up_ne (by first | omega | (simp only [x_up, x_nw]; omega))]; first | assumption | exact x_up_self _ _ _ | (rw [x_up_ne (by first | omega | (simp only [x_up, x_nw]; omega))]; first | assumption | exact x_up_self _ _ _)) | (rw [x_nw_ne (by first | omega | (simp only [x_up, x_nw]; omega))]; first | assumption | exact x_up_self _ _ _ | (rw [x_up_ne (by first | omega | (simp only [x_up, x_nw]; omega))]; assumption))) (by rfl) (by rfl) (by first | exact Nat.le_of_ble_eq_true rfl | simp) rfl ?_
    refine St.go (n' := 8) (q' := 2790) (vs' := [.int 0, .int (nI 1), .ref (m + 1), .ref (m + 2), .ref (m + 3), .ref (m + 4), .ref (m + 5), .ref (m + 6), .ref (m + 7), .int 0, .null, .null, .null, .null, .null, .long 0]) hS (by decide) (by rfl) rfl (by decide) ?_
    clear s1 s2 s3 s4 s5 hS
    clear h1
    intro h1 hS
    obtain ⟨s1, s2, s3, s4, s5⟩ := id hS
    refine go_aload_n (pc' := 69) (i := 0) d_Mod_init_68 rfl rfl (by first | rfl | exact x_r_rf _) rfl ?_
    refine go_iconst (pc' := 70) (v := (nI 4)) d_Mod_init_69 (by decide) rfl ?_
    refine go_newarray (pc' := 72) (kd := 2) (N' := 4) (a0 := (4, .inl (fun _ => 0))) d_Mod_init_70 t_520 rfl (fun _ => rfl) (by decide) (by decide) (by decide) (by first | assumption | omega | (simp only [x_up, x_nw]; omega)) (by first | assumption | omega | (simp only [x_up, x_nw]; omega)) rfl ?_
    rw [s1]
    refine go_putfinal (pc' := 75) d_Mod_init_72 c_Mod 10 (by decide) rfl rfl rfl t_481 (by first | assumption | exact x_up_self _ _ _ | exact x_nw_self _ _ _ | (rw [x_up_ne (by first | omega | (simp only [x_up, x_nw]; omega))]; first | assumption | exact x_up_self _ _ _ | (rw [x_up_ne (by first | omega | (simp only [x_up, x_nw]; omega))]; first | assumption | exact x_up_self _ _ _)) | (rw [x_nw_ne (by first | omega | (simp only [x_up, x_nw]; omega))]; first | assumption | exact x_up_self _ _ _ | (rw [x_up_ne (by first | omega | (simp only [x_up, x_nw]; omega))]; assumption))) (by rfl) (by rfl) (by first | exact Nat.le_of_ble_eq_true rfl | simp) rfl ?_
    refine St.go (n' := 9) (q' := 2794) (vs' := [.int 0, .int (nI 1), .ref (m + 1), .ref (m + 2), .ref (m + 3), .ref (m + 4), .ref (m + 5), .ref (m + 6), .ref (m + 7), .int 0, .ref (m + 8), .null, .null, .null, .null, .long 0]) hS (by decide) (by rfl) rfl (by decide) ?_
    clear s1 s2 s3 s4 s5 hS
    clear h1
    intro h1 hS
    obtain ⟨s1, s2, s3, s4, s5⟩ := id hS
    refine go_aload_n (pc' := 76) (i := 0) d_Mod_init_75 rfl rfl (by first | rfl | exact x_r_rf _) rfl ?_
    refine go_iconst (pc' := 77) (v := (nI 4)) d_Mod_init_76 (by decide) rfl ?_
    refine go_newarray (pc' := 79) (kd := 0) (N' := 4) (a0 := (4, .inl (fun _ => 0))) d_Mod_init_77 t_419 rfl (fun _ => rfl) (by decide) (by decide) (by decide) (by first | assumption | omega | (simp only [x_up, x_nw]; omega)) (by first | assumption | omega | (simp only [x_up, x_nw]; omega)) rfl ?_
    rw [s1]
    refine go_putfinal (pc' := 82) d_Mod_init_79 c_Mod 11 (by decide) rfl rfl rfl t_482 (by first | assumption | exact x_up_self _ _ _ | exact x_nw_self _ _ _ | (rw [x_up_ne (by first | omega | (simp only [x_up, x_nw]; omega))]; first | assumption | exact x_up_self _ _ _ | (rw [x_up_ne (by first | omega | (simp only [x_up, x_nw]; omega))]; first | assumption | exact x_up_self _ _ _)) | (rw [x_nw_ne (by first | omega | (simp only [x_up, x_nw]; omega))]; first | assumption | exact x_up_self _ _ _ | (rw [x_up_ne (by first | omega | (simp only [x_up, x_nw]; omega))]; assumption))) (by rfl) (by rfl) (by first | exact Nat.le_of_ble_eq_true rfl | simp) rfl ?_
    refine St.go (n' := 10) (q' := 2798) (vs' := [.int 0, .int (nI 1), .ref (m + 1), .ref (m + 2), .ref (m + 3), .ref (m + 4), .ref (m + 5), .ref (m + 6), .ref (m + 7), .int 0, .ref (m + 8), .ref (m + 9), .null, .null, .null, .long 0]) hS (by decide) (by rfl) rfl (by decide) ?_
    clear s1 s2 s3 s4 s5 hS
    clear h1
    intro h1 hS
    obtain ⟨s1, s2, s3, s4, s5⟩ := id hS
    refine go_aload_n (pc' := 83) (i := 0) d_Mod_init_82 rfl rfl (by first | rfl | exact x_r_rf _) rfl ?_
    refine go_iconst (pc' := 84) (v := (nI 4)) d_Mod_init_83 (by decide) rfl ?_
    refine go_newarray (pc' := 86) (kd := 0) (N' := 4) (a0 := (4, .inl (fun _ => 0))) d_Mod_init_84 t_419 rfl (fun _ => rfl) (by decide) (by decide) (by decide) (by first | assumption | omega | (simp only [x_up, x_nw]; omega)) (by first | assumption | omega | (simp only [x_up, x_nw]; omega)) rfl ?_
    rw [s1]
    refine go_putfinal (pc' := 89) d_Mod_init_86 c_Mod 12 (by decide) rfl rfl rfl t_483 (by first | assumption | exact x_up_self _ _ _ | exact x_nw_self _ _ _ | (rw [x_up_ne (by first | omega | (simp only [x_up, x_nw]; omega))]; first | assumption | exact x_up_self _ _ _ | (rw [x_up_ne (by first | omega | (simp only [x_up, x_nw]; omega))]; first | assumption | exact x_up_self _ _ _)) | (rw [x_nw_ne (by first | omega | (simp only [x_up, x_nw]; omega))]; first | assumption | exact x_up_self _ _ _ | (rw [x_up_ne (by first | omega | (simp only [x_up, x_nw]; omega))]; assumption))) (by rfl) (by rfl) (by first | exact Nat.le_of_ble_eq_true rfl | simp) rfl ?_
    refine St.go (n' := 11) (q' := 2802) (vs' := [.int 0, .int (nI 1), .ref (m + 1), .ref (m + 2), .ref (m + 3), .ref (m + 4), .ref (m + 5), .ref (m + 6), .ref (m + 7), .int 0, .ref (m + 8), .ref (m + 9), .ref (m + 10), .null, .null, .long 0]) hS (by decide) (by rfl) rfl (by decide) ?_
    clear s1 s2 s3 s4 s5 hS
    clear h1
    intro h1 hS
    obtain ⟨s1, s2, s3, s4, s5⟩ := id hS
    refine go_aload_n (pc' := 90) (i := 0) d_Mod_init_89 rfl rfl (by first | rfl | exact x_r_rf _) rfl ?_
    refine go_sipush (pc' := 93) (v := (nI 240)) d_Mod_init_90 (by decide) rfl ?_
    refine go_newarray (pc' := 95) (kd := 0) (N' := 240) (a0 := (240, .inl (fun _ => 0))) d_Mod_init_93 t_419 rfl (fun _ => rfl) (by decide) (by decide) (by decide) (by first | assumption | omega | (simp only [x_up, x_nw]; omega)) (by first | assumption | omega | (simp only [x_up, x_nw]; omega)) rfl ?_
    rw [s1]
    refine go_putfinal (pc' := 98) d_Mod_init_95 c_Mod 13 (by decide) rfl rfl rfl t_484 (by first | assumption | exact x_up_self _ _ _ | exact x_nw_self _ _ _ | (rw [x_up_ne (by first | omega | (simp only [x_up, x_nw]; omega))]; first | assumption | exact x_up_self _ _ _ | (rw [x_up_ne (by first | omega | (simp only [x_up, x_nw]; omega))]; first | assumption | exact x_up_self _ _ _)) | (rw [x_nw_ne (by first | omega | (simp only [x_up, x_nw]; omega))]; first | assumption | exact x_up_self _ _ _ | (rw [x_up_ne (by first | omega | (simp only [x_up, x_nw]; omega))]; assumption))) (by rfl) (by rfl) (by first | exact Nat.le_of_ble_eq_true rfl | simp) rfl ?_
    refine St.go (n' := 12) (q' := 3042) (vs' := [.int 0, .int (nI 1), .ref (m + 1), .ref (m + 2), .ref (m + 3), .ref (m + 4), .ref (m + 5), .ref (m + 6), .ref (m + 7), .int 0, .ref (m + 8), .ref (m + 9), .ref (m + 10), .ref (m + 11), .null, .long 0]) hS (by decide) (by rfl) rfl (by decide) ?_
    clear s1 s2 s3 s4 s5 hS
    clear h1
    intro h1 hS
    obtain ⟨s1, s2, s3, s4, s5⟩ := id hS
    refine go_aload_n (pc' := 99) (i := 0) d_Mod_init_98 rfl rfl (by first | rfl | exact x_r_rf _) rfl ?_
    refine go_sipush (pc' := 102) (v := (nI 240)) d_Mod_init_99 (by decide) rfl ?_
    refine go_newarray (pc' := 104) (kd := 1) (N' := 240) (a0 := (240, .inr (.inl (fun _ => 0)))) d_Mod_init_102 t_521 rfl (fun _ => rfl) (by decide) (by decide) (by decide) (by first | assumption | omega | (simp only [x_up, x_nw]; omega)) (by first | assumption | omega | (simp only [x_up, x_nw]; omega)) rfl ?_
    rw [s1]
    refine go_putfinal (pc' := 107) d_Mod_init_104 c_Mod 14 (by decide) rfl rfl rfl t_485 (by first | assumption | exact x_up_self _ _ _ | exact x_nw_self _ _ _ | (rw [x_up_ne (by first | omega | (simp only [x_up, x_nw]; omega))]; first | assumption | exact x_up_self _ _ _ | (rw [x_up_ne (by first | omega | (simp only [x_up, x_nw]; omega))]; first | assumption | exact x_up_self _ _ _)) | (rw [x_nw_ne (by first | omega | (simp only [x_up, x_nw]; omega))]; first | assumption | exact x_up_self _ _ _ | (rw [x_up_ne (by first | omega | (simp only [x_up, x_nw]; omega))]; assumption))) (by rfl) (by rfl) (by first | exact Nat.le_of_ble_eq_true rfl | simp) rfl ?_
    refine St.go (n' := 13) (q' := 3282) (vs' := [.int 0, .int (nI 1), .ref (m + 1), .ref (m + 2), .ref (m + 3), .ref (m + 4), .ref (m + 5), .ref (m + 6), .ref (m + 7), .int 0, .ref (m + 8), .ref (m + 9), .ref (m + 10), .ref (m + 11), .ref (m + 12), .long 0]) hS (by decide) (by rfl) rfl (by decide) ?_
    clear s1 s2 s3 s4 s5 hS
    clear h1
    intro h1 hS
    obtain ⟨s1, s2, s3, s4, s5⟩ := hS
    have c1 : h1.2.2 (m + 1) = some (.inl (2, 6, .inl (fun _ => 0))) := s4 1 (by decide) (by decide)
    have c3 : h1.2.2 (m + 3) = some (.inl (0, 6, .inl (fun _ => 0))) := s4 3 (by decide) (by decide)
    have c7 : h1.2.2 (m + 7) = some (.inl (0, 2046, .inl (fun _ => 0))) := s4 7 (by decide) (by decide)
    refine go_aload_n (pc' := 108) (i := 0) d_Mod_init_107 rfl rfl (by first | rfl | exact x_r_rf _) rfl ?_
    refine go_getfield (pc' := 111) d_Mod_init_108 c_Mod 2 (by decide) t_473 (by first | assumption | exact x_up_self _ _ _ | exact x_nw_self _ _ _ | (rw [x_up_ne (by first | omega | (simp only [x_up, x_nw]; omega))]; first | assumption | exact x_up_self _ _ _ | (rw [x_up_ne (by first | omega | (simp only [x_up, x_nw]; omega))]; first | assumption | exact x_up_self _ _ _)) | (rw [x_nw_ne (by first | omega | (simp only [x_up, x_nw]; omega))]; first | assumption | exact x_up_self _ _ _ | (rw [x_up_ne (by first | omega | (simp only [x_up, x_nw]; omega))]; assumption))) (by rfl) rfl ?_
    refine go_iconst (pc' := 112) (v := (nI 0)) d_Mod_init_111 (by decide) rfl ?_
    refine go_iconst (pc' := 113) (v := (nI 1)) d_Mod_init_112 (by decide) rfl ?_
    refine go_zastN (pc' := 114) d_Mod_init_113 (by first | assumption | exact x_up_self _ _ _ | exact x_nw_self _ _ _ | (rw [x_up_ne (by first | omega | (simp only [x_up, x_nw]; omega))]; first | assumption | exact x_up_self _ _ _ | (rw [x_up_ne (by first | omega | (simp only [x_up, x_nw]; omega))]; first | assumption | exact x_up_self _ _ _)) | (rw [x_nw_ne (by first | omega | (simp only [x_up, x_nw]; omega))]; first | assumption | exact x_up_self _ _ _ | (rw [x_up_ne (by first | omega | (simp only [x_up, x_nw]; omega))]; assumption))) (by rfl) (by first | assumption | omega | (simp only [x_up, x_nw]; omega)) (by first | assumption | omega | (simp only [x_up, x_nw]; omega)) (by first | assumption | rfl | decide) rfl ?_
    refine go_aload_n (pc' := 115) (i := 0) d_Mod_init_114 rfl rfl (by first | rfl | exact x_r_rf _) rfl ?_
    refine go_getfield (pc' := 118) d_Mod_init_115 c_Mod 4 (by decide) t_475 (by first | assumption | exact x_up_self _ _ _ | exact x_nw_self _ _ _ | (rw [x_up_ne (by first | omega | (simp only [x_up, x_nw]; omega))]; first | assumption | exact x_up_self _ _ _ | (rw [x_up_ne (by first | omega | (simp only [x_up, x_nw]; omega))]; first | assumption | exact x_up_self _ _ _)) | (rw [x_nw_ne (by first | omega | (simp only [x_up, x_nw]; omega))]; first | assumption | exact x_up_self _ _ _ | (rw [x_up_ne (by first | omega | (simp only [x_up, x_nw]; omega))]; assumption))) (by rfl) rfl ?_
    refine go_iconst (pc' := 119) (v := (nI 0)) d_Mod_init_118 (by decide) rfl ?_
    refine go_iconst (pc' := 120) (v := (nI 1)) d_Mod_init_119 (by decide) rfl ?_
    refine go_iastN (pc' := 121) d_Mod_init_120 (by first | assumption | exact x_up_self _ _ _ | exact x_nw_self _ _ _ | (rw [x_up_ne (by first | omega | (simp only [x_up, x_nw]; omega))]; first | assumption | exact x_up_self _ _ _ | (rw [x_up_ne (by first | omega | (simp only [x_up, x_nw]; omega))]; first | assumption | exact x_up_self _ _ _)) | (rw [x_nw_ne (by first | omega | (simp only [x_up, x_nw]; omega))]; first | assumption | exact x_up_self _ _ _ | (rw [x_up_ne (by first | omega | (simp only [x_up, x_nw]; omega))]; assumption))) (by rfl) (by first | assumption | omega | (simp only [x_up, x_nw]; omega)) (by first | assumption | omega | (simp only [x_up, x_nw]; omega)) rfl ?_
    refine go_aload_n (pc' := 122) (i := 0) d_Mod_init_121 rfl rfl (by first | rfl | exact x_r_rf _) rfl ?_
    refine go_getfield (pc' := 125) d_Mod_init_122 c_Mod 8 (by decide) t_479 (by first | assumption | exact x_up_self _ _ _ | exact x_nw_self _ _ _ | (rw [x_up_ne (by first | omega | (simp only [x_up, x_nw]; omega))]; first | assumption | exact x_up_self _ _ _ | (rw [x_up_ne (by first | omega | (simp only [x_up, x_nw]; omega))]; first | assumption | exact x_up_self _ _ _)) | (rw [x_nw_ne (by first | omega | (simp only [x_up, x_nw]; omega))]; first | assumption | exact x_up_self _ _ _ | (rw [x_up_ne (by first | omega | (simp only [x_up, x_nw]; omega))]; assumption))) (by rfl) rfl ?_
    refine go_iconst (pc' := 126) (v := (nI 0)) d_Mod_init_125 (by decide) rfl ?_
    refine go_iconst (pc' := 127) (v := (nI 1)) d_Mod_init_126 (by decide) rfl ?_
    refine go_iastN (pc' := 128) d_Mod_init_127 (by first | assumption | exact x_up_self _ _ _ | exact x_nw_self _ _ _ | (rw [x_up_ne (by first | omega | (simp only [x_up, x_nw]; omega))]; first | assumption | exact x_up_self _ _ _ | (rw [x_up_ne (by first | omega | (simp only [x_up, x_nw]; omega))]; first | assumption | exact x_up_self _ _ _)) | (rw [x_nw_ne (by first | omega | (simp only [x_up, x_nw]; omega))]; first | assumption | exact x_up_self _ _ _ | (rw [x_up_ne (by first | omega | (simp only [x_up, x_nw]; omega))]; assumption))) (by rfl) (by first | assumption | omega | (simp only [x_up, x_nw]; omega)) (by first | assumption | omega | (simp only [x_up, x_nw]; omega)) rfl ?_
    refine go_return d_Mod_init_128 rfl ?_
    rw [hQ]
    refine ⟨rfl, (Rh_eq fun k hk => ?_).symm, s1, ?_, ?_, fun b hb => ?_⟩
    · by_cases e1 : k = 1
      · rw [e1, x_up_ne (by omega), x_up_ne (by omega), x_up_self]
        rfl
      · by_cases e3 : k = 3
        · rw [e3, x_up_ne (by omega), x_up_self]
          rfl
        · by_cases e7 : k = 7
          · rw [e7, x_up_self]
            rfl
          · rw [x_up_ne (by omega), x_up_ne (by omega), x_up_ne (by omega)]
            have h13 : k = 0 ∨ k = 2 ∨ k = 4 ∨ k = 5 ∨ k = 6 ∨ k = 8 ∨ k = 9 ∨ k = 10 ∨ k = 11 ∨ k = 12 := by omega
            rcases h13 with rfl | rfl | rfl | rfl | rfl | rfl | rfl | rfl | rfl | rfl
            · exact s3
            all_goals exact s4 _ (by decide) (by decide)
    · show h1.2.1 ≤ _
      omega
    · show _ ≤ h1.2.1
      omega
    · rw [x_up_ne (by omega), x_up_ne (by omega), x_up_ne (by omega)]
      exact s5 b hb
  refine go_aload_n (pc' := 1) (i := 0) d_Mod_init_0 rfl rfl (by first | rfl | exact x_r_rf _) rfl ?_
  refine go_objInit (pc' := 4) d_Mod_init_1 t_470 t_22 t_23 (Nat.le_of_ble_eq_true rfl) rfl ?_
  refine go_aload_n (pc' := 5) (i := 0) d_Mod_init_4 rfl rfl (by first | rfl | exact x_r_rf _) rfl ?_
  refine go_iconst (pc' := 6) (v := (nI 1)) d_Mod_init_5 (by decide) rfl ?_
  refine go_putfield (pc' := 9) d_Mod_init_6 c_Mod 1 (by decide) rfl t_472 (by first | assumption | exact x_up_self _ _ _ | exact x_nw_self _ _ _ | (rw [x_up_ne (by first | omega | (simp only [x_up, x_nw]; omega))]; first | assumption | exact x_up_self _ _ _ | (rw [x_up_ne (by first | omega | (simp only [x_up, x_nw]; omega))]; first | assumption | exact x_up_self _ _ _)) | (rw [x_nw_ne (by first | omega | (simp only [x_up, x_nw]; omega))]; first | assumption | exact x_up_self _ _ _ | (rw [x_up_ne (by first | omega | (simp only [x_up, x_nw]; omega))]; assumption))) (by rfl) (by rfl) (by first | exact Nat.le_of_ble_eq_true rfl | simp) rfl ?_
  exact beg _ ⟨hz, rfl, x_up_self _ _ _, fun j hj hjn => absurd hj (by omega), fun b hb => x_up_ne (by omega)⟩
end RP2
