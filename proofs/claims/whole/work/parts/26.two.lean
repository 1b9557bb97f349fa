section TG
variable {K : x_K} {d : Nat} {h f f2 : x_H} {g : Int32} {e1 e2 : Nat} {k1 k2 : Int32} {v1 v2 : Int64}
/-- a chain of nodes that parts two entries, from level l on, r levels above the bags -/
def T2 (f : x_H) (g : Int32) (e1 e2 : Nat) (k1 k2 : Int32) : Nat → Nat → Nat → Prop
  | 0, _, c => ∃ es ns, Nd f c g 6 es 0 ns ∧ es 0 = some e1 ∧ es 1 = some e2 ∧ ∀ j, 2 ≤ j → j < 6 → es j = none
  | r + 1, l, c => ∃ es ns, Nd f c g 4 es 4 ns ∧
    ((q_d l k1 = q_d l k2 ∧ (∀ j, j < 4 → es j = none) ∧ (∀ j, j < 4 → ns j = if j = q_d l k1 then some (c + 3) else none) ∧ T2 f g e1 e2 k1 k2 r (l + 1) (c + 3)) ∨
     (¬ q_d l k1 = q_d l k2 ∧ (∀ j, j < 4 → ns j = none) ∧ ∀ j, j < 4 → es j = if j = q_d l k2 then some e2 else if j = q_d l k1 then some e1 else none))
theorem T2.mono : ∀ (r l c : Nat), T2 f g e1 e2 k1 k2 r l c → (∀ b, c ≤ b → f2.2.2 b = f.2.2 b) → T2 f2 g e1 e2 k1 k2 r l c
  | 0, l, c, hT, hb => by
    obtain ⟨es, ns, hN, hE⟩ := hT
    exact ⟨es, ns, ⟨(hb _ (by omega)).trans hN.1, (hb _ (by omega)).trans hN.2.1, (hb _ (by omega)).trans hN.2.2⟩, hE⟩
  | r + 1, l, c, hT, hb => by
    obtain ⟨es, ns, hN, hE⟩ := hT
    refine ⟨es, ns, ⟨(hb _ (by omega)).trans hN.1, (hb _ (by omega)).trans hN.2.1, (hb _ (by omega)).trans hN.2.2⟩, ?_⟩
    rcases hE with ⟨q1, q2, q3, q4⟩ | hE
    · exact Or.inl ⟨q1, q2, q3, T2.mono r (l + 1) (c + 3) q4 (fun b hb' => hb b (by omega))⟩
    · exact Or.inr hE
set_option maxRecDepth 100000 in
theorem s_nodeOfTwo (hk : k1 ≠ k2) : ∀ (r l : Nat) (h : x_H), l + r = 4 → Et h e1 k1 v1 → Et h e2 k2 v2 → h.1 + 3 * (r + 1) ≤ x_cap K → h.2.1 + 11 * (r + 1) ≤ x_cas K →
    Go K M_Tri_nodeOfTwo (r + 2) 0 [some (.ref e1), some (.ref e2), some (.int g), some (.int (nI l)), none, none, none] [] h (x_rt (fun v f => v = some (.ref h.1) ∧ T2 f g e1 e2 k1 k2 r l h.1 ∧ h.1 + 3 ≤ f.1 ∧ f.1 ≤ h.1 + 3 * (r + 1) ∧
      h.2.1 ≤ f.2.1 ∧ f.2.1 ≤ h.2.1 + 11 * (r + 1) ∧ ∀ b, b < h.1 → f.2.2 b = h.2.2 b)) := by
  intro r
  induction r with
  | zero =>
    intro l h hl he1 he2 hc1 hc2
    have hl4 : l = 4 := by omega
    subst hl4
    refine go_dom fun hdom => ?_
    have hx1 := hdom _ _ he1
    have hx2 := hdom _ _ he2
    refine go_new (pc' := 3) (fs := [.int 0, .null, .null]) d_Tri_nodeOfTwo_0 c_Nod t_29 t_30 t_3 (by decide +kernel) (by first | assumption | omega | (simp only [x_up, x_nw]; omega)) (by first | assumption | omega | (simp only [x_up, x_nw]; omega)) rfl ?_
    refine go_dup (pc' := 4) d_Tri_nodeOfTwo_3 (by first | rfl | exact x_c_rf _) rfl ?_
    refine go_iload_n (pc' := 5) (i := 2) d_Tri_nodeOfTwo_4 rfl rfl rfl ?_
    refine go_iload_n (pc' := 6) (i := 3) d_Tri_nodeOfTwo_5 rfl rfl rfl ?_
    refine go_callI (pc' := 9) (M' := M_Nod_init) [_, _] d_Tri_nodeOfTwo_6 rfl rfl t_31 t_32 t_33 rfl nm_Nod_init rfl rfl (Nat.le_of_ble_eq_true rfl) rfl (s_Nod_bag (a := h.1) (d := 1) rfl (x_nw_self _ _ _) g rfl (by simp only [x_nw]; omega) (by simp only [x_nw]; omega)) (by first | decide | omega) (Nat.le_of_ble_eq_true rfl) rfl (fun v hh hq => ?_) (fun q g hq => hq.elim)
    obtain ⟨rfl, f1, f3, hNc, hold⟩ := hq
    simp only [x_nw] at f3
    have hold' : ∀ b, b < h.1 → hh.2.2 b = h.2.2 b := fun b hb => (hold b hb).trans (x_nw_ne (by omega))
    have he1' : Et hh e1 k1 v1 := (hold' e1 hx1).trans he1
    have he2' : Et hh e2 k2 v2 := (hold' e2 hx2).trans he2
    show Go K M_Tri_nodeOfTwo (0 + 2) 9 _ [.ref h.1] hh _
    refine go_astore (pc' := 11) (i := 4) d_Tri_nodeOfTwo_9 (by decide) rfl (x_s4 rfl) rfl ?_
    refine go_iload_n (pc' := 12) (i := 3) d_Tri_nodeOfTwo_11 rfl rfl rfl ?_
    refine go_iconst (pc' := 13) (v := (nI 4)) d_Tri_nodeOfTwo_12 (by decide) rfl ?_
    refine go_icmp_ltN (tgt := 31) (pc' := 16) d_Tri_nodeOfTwo_13 (by decide) rfl (by omega) (by omega) (fun hc => ?_) (fun hc => ?_)
    · omega
    · refine go_aload (pc' := 18) (i := 4) d_Tri_nodeOfTwo_16 rfl (by first | rfl | exact x_r_rf _) rfl ?_
      refine go_aload_n (pc' := 19) (i := 0) d_Tri_nodeOfTwo_18 rfl rfl (by first | rfl | exact x_r_rf _) rfl ?_
      have hc0 := hNc.1
      have hp1 : q_pl (fun _ => none) (kfh hh) k1 6 0 = none := rfl
      have hct1 : q_ct (fun _ => none) 6 = 0 := rfl
      refine go_callV (pc' := 22) (M' := M_Nod_putInBag) (ci := 2) (r := (n_Nod, T_Nod, 3)) [_] d_Tri_nodeOfTwo_19 t_312 t_313 t_314 cd_Nod_putInBag nm_Nod_putInBag rfl (by rfl) (by first | assumption | exact x_up_self _ _ _ | exact x_nw_self _ _ _ | (rw [x_up_ne (by first | omega | (simp only [x_up, x_nw]; omega))]; first | assumption | exact x_up_self _ _ _ | (rw [x_up_ne (by first | omega | (simp only [x_up, x_nw]; omega))]; first | assumption | exact x_up_self _ _ _)) | (rw [x_nw_ne (by first | omega | (simp only [x_up, x_nw]; omega))]; first | assumption | exact x_up_self _ _ _ | (rw [x_up_ne (by first | omega | (simp only [x_up, x_nw]; omega))]; assumption))) rfl (Nat.le_of_ble_eq_true rfl) rfl (s_putInBag (d := 1) hNc (by omega) (kf := kfh hh) (fun j hj e he => by cases he) he1' (by omega) (i := 0) (by rw [hp1, hct1]) (by omega)) (by first | decide | omega) (Nat.le_of_ble_eq_true rfl) rfl (fun v hh hq => ?_) (fun q g hq => by cases hq.1)
      obtain ⟨e9, rfl⟩ := hq
      cases e9
      show Go K M_Tri_nodeOfTwo (0 + 2) 22 _ [] _ _
      have hNc2 : Nd (x_up hh (h.1 + 1) (.inl (3, 6, .inr (.inr (.inr (.inr (va_up (fun _ => none) 0 (some e1)))))))) h.1 g 6 (va_up (fun _ => none) 0 (some e1)) 0 (fun _ => none) := ⟨(x_up_ne (by omega)).trans hNc.1, x_up_self _ _ _, (x_up_ne (by omega)).trans hNc.2.2⟩
      have he1'' : Et (x_up hh (h.1 + 1) (.inl (3, 6, .inr (.inr (.inr (.inr (va_up (fun _ => none) 0 (some e1)))))))) e1 k1 v1 := (x_up_ne (by omega)).trans he1'
      have he2'' : Et (x_up hh (h.1 + 1) (.inl (3, 6, .inr (.inr (.inr (.inr (va_up (fun _ => none) 0 (some e1)))))))) e2 k2 v2 := (x_up_ne (by omega)).trans he2'
      generalize hg2 : x_up hh (h.1 + 1) (.inl (3, 6, .inr (.inr (.inr (.inr (va_up (fun _ => none) 0 (some e1))))))) = h2 at hNc2 he1'' he2'' ⊢
      have hkf := he1''.kf
      have hp2 : q_pl (va_up (fun _ => none) 0 (some e1)) (kfh h2) k2 6 0 = none := by
        simp [q_pl, va_up, hkf, hk]
      have hct2 : q_ct (va_up (fun _ => none) 0 (some e1)) 6 = 1 := by simp [q_ct, va_up]
      have hc3 := hNc2.1
      refine go_aload (pc' := 24) (i := 4) d_Tri_nodeOfTwo_22 rfl (by first | rfl | exact x_r_rf _) rfl ?_
      refine go_aload_n (pc' := 25) (i := 1) d_Tri_nodeOfTwo_24 rfl rfl (by first | rfl | exact x_r_rf _) rfl ?_
      have hE2 : ∀ j, j < 6 → ∀ e, va_up (fun _ => none) 0 (some e1) j = some e → ∃ v, Et h2 e (kfh h2 e) v := by
        intro j hj e he
        by_cases hj0 : j = 0
        · subst hj0
          rw [va_up_self] at he
          cases he
          exact ⟨v1, by rw [hkf]; exact he1''⟩
        · rw [va_up_ne _ _ hj0] at he
          cases he
      refine go_callV (pc' := 28) (M' := M_Nod_putInBag) (ci := 2) (r := (n_Nod, T_Nod, 3)) [_] d_Tri_nodeOfTwo_25 t_312 t_313 t_314 cd_Nod_putInBag nm_Nod_putInBag rfl (by rfl) (by first | assumption | exact x_up_self _ _ _ | exact x_nw_self _ _ _ | (rw [x_up_ne (by first | omega | (simp only [x_up, x_nw]; omega))]; first | assumption | exact x_up_self _ _ _ | (rw [x_up_ne (by first | omega | (simp only [x_up, x_nw]; omega))]; first | assumption | exact x_up_self _ _ _)) | (rw [x_nw_ne (by first | omega | (simp only [x_up, x_nw]; omega))]; first | assumption | exact x_up_self _ _ _ | (rw [x_up_ne (by first | omega | (simp only [x_up, x_nw]; omega))]; assumption))) rfl (Nat.le_of_ble_eq_true rfl) rfl (s_putInBag (d := 1) hNc2 (by omega) (kf := kfh h2) hE2 he2'' (by omega) (i := 1) (by rw [hp2, hct2]) (by omega)) (by first | decide | omega) (Nat.le_of_ble_eq_true rfl) rfl (fun v hh hq => ?_) (fun q g hq => by cases hq.1)
      obtain ⟨e9, rfl⟩ := hq
      cases e9
      show Go K M_Tri_nodeOfTwo (0 + 2) 28 _ [] _ _
      refine go_aload (pc' := 30) (i := 4) d_Tri_nodeOfTwo_28 rfl (by first | rfl | exact x_r_rf _) rfl ?_
      refine go_areturn d_Tri_nodeOfTwo_30 rfl ⟨_, rfl⟩ (by first | rfl | exact x_r_rf _) ?_
      refine ⟨rfl, ⟨va_up (va_up (fun _ => none) 0 (some e1)) 1 (some e2), fun _ => none, ⟨(x_up_ne (by omega)).trans hNc2.1, x_up_self _ _ _, (x_up_ne (by omega)).trans hNc2.2.2⟩, rfl, rfl, fun j hj1 hj2 => ?_⟩, ?_, ?_, ?_, ?_, fun b hb => ?_⟩
      · rw [va_up_ne _ _ (by omega), va_up_ne _ _ (by omega)]
      · subst hg2; show h.1 + 3 ≤ hh.1; omega
      · subst hg2; show hh.1 ≤ _; omega
      · subst hg2; show _ ≤ hh.2.1; omega
      · subst hg2; show hh.2.1 ≤ _; omega
      · subst hg2
        rw [x_up_ne (by omega), x_up_ne (by omega)]
        exact hold' b hb
  | succ r ih =>
    intro l h hl he1 he2 hc1 hc2
    have hl4 : l < 4 := by omega
    refine go_dom fun hdom => ?_
    have hx1 := hdom _ _ he1
    have hx2 := hdom _ _ he2
    have hd1 := q_d_lt l k1
    have hd2 := q_d_lt l k2
    refine go_new (pc' := 3) (fs := [.int 0, .null, .null]) d_Tri_nodeOfTwo_0 c_Nod t_29 t_30 t_3 (by decide +kernel) (by first | assumption | omega | (simp only [x_up, x_nw]; omega)) (by first | assumption | omega | (simp only [x_up, x_nw]; omega)) rfl ?_
    refine go_dup (pc' := 4) d_Tri_nodeOfTwo_3 (by first | rfl | exact x_c_rf _) rfl ?_
    refine go_iload_n (pc' := 5) (i := 2) d_Tri_nodeOfTwo_4 rfl rfl rfl ?_
    refine go_iload_n (pc' := 6) (i := 3) d_Tri_nodeOfTwo_5 rfl rfl rfl ?_
    refine go_callI (pc' := 9) (M' := M_Nod_init) [_, _] d_Tri_nodeOfTwo_6 rfl rfl t_31 t_32 t_33 rfl nm_Nod_init rfl rfl (Nat.le_of_ble_eq_true rfl) rfl (s_Nod_init (a := h.1) (d := r + 2) rfl (x_nw_self _ _ _) g hl4 (by simp only [x_nw]; omega) (by simp only [x_nw]; omega)) (by first | decide | omega) (Nat.le_of_ble_eq_true rfl) rfl (fun v hh hq => ?_) (fun q g hq => hq.elim)
    obtain ⟨rfl, f1, f3, hNc, hold⟩ := hq
    simp only [x_nw] at f3
    have hold' : ∀ b, b < h.1 → hh.2.2 b = h.2.2 b := fun b hb => (hold b hb).trans (x_nw_ne (by omega))
    have he1' : Et hh e1 k1 v1 := (hold' e1 hx1).trans he1
    have he2' : Et hh e2 k2 v2 := (hold' e2 hx2).trans he2
    have he1u := he1'
    have he2u := he2'
    unfold Et at he1u he2u
    have hN' := hNc
    obtain ⟨n0, n1, n2⟩ := hNc
    show Go K M_Tri_nodeOfTwo (r + 1 + 2) 9 _ [.ref h.1] hh _
    refine go_astore (pc' := 11) (i := 4) d_Tri_nodeOfTwo_9 (by decide) rfl (x_s4 rfl) rfl ?_
    refine go_iload_n (pc' := 12) (i := 3) d_Tri_nodeOfTwo_11 rfl rfl rfl ?_
    refine go_iconst (pc' := 13) (v := (nI 4)) d_Tri_nodeOfTwo_12 (by decide) rfl ?_
    refine go_icmp_ltN (tgt := 31) (pc' := 16) d_Tri_nodeOfTwo_13 (by decide) rfl (by omega) (by omega) (fun hc => ?_) (fun hc => ?_)
    · refine go_aload_n (pc' := 32) (i := 0) d_Tri_nodeOfTwo_31 rfl rfl (by first | rfl | exact x_r_rf _) rfl ?_
      refine go_getfield (pc' := 35) d_Tri_nodeOfTwo_32 c_Ent 0 (by decide) t_277 (by first | assumption | exact x_up_self _ _ _ | exact x_nw_self _ _ _ | (rw [x_up_ne (by first | omega | (simp only [x_up, x_nw]; omega))]; first | assumption | exact x_up_self _ _ _ | (rw [x_up_ne (by first | omega | (simp only [x_up, x_nw]; omega))]; first | assumption | exact x_up_self _ _ _)) | (rw [x_nw_ne (by first | omega | (simp only [x_up, x_nw]; omega))]; first | assumption | exact x_up_self _ _ _ | (rw [x_up_ne (by first | omega | (simp only [x_up, x_nw]; omega))]; assumption))) (by rfl) rfl ?_
      refine go_iload_n (pc' := 36) (i := 3) d_Tri_nodeOfTwo_35 rfl rfl rfl ?_
      refine go_callS (pc' := 39) (M' := M_Tri_digit) [_, _] d_Tri_nodeOfTwo_36 t_195 t_196 t_1 cd_Tri_digit nm_Tri_digit rfl rfl (Nat.le_of_ble_eq_true rfl) rfl (s_digit (d := r + 2) k1 hl4) (by first | decide | omega) (Nat.le_of_ble_eq_true rfl) rfl (fun v hh hq => ?_) (fun q g hq => by cases hq.1)
      obtain ⟨e9, rfl⟩ := hq
      cases e9
      show Go K M_Tri_nodeOfTwo (r + 1 + 2) 39 _ [.int (nI (q_d l k1))] hh _
      refine go_istore (pc' := 41) (i := 5) d_Tri_nodeOfTwo_39 (by decide) (x_s5 (by first | rfl | exact x_k_rf _)) rfl ?_
      refine go_aload_n (pc' := 42) (i := 1) d_Tri_nodeOfTwo_41 rfl rfl (by first | rfl | exact x_r_rf _) rfl ?_
      refine go_getfield (pc' := 45) d_Tri_nodeOfTwo_42 c_Ent 0 (by decide) t_277 (by first | assumption | exact x_up_self _ _ _ | exact x_nw_self _ _ _ | (rw [x_up_ne (by first | omega | (simp only [x_up, x_nw]; omega))]; first | assumption | exact x_up_self _ _ _ | (rw [x_up_ne (by first | omega | (simp only [x_up, x_nw]; omega))]; first | assumption | exact x_up_self _ _ _)) | (rw [x_nw_ne (by first | omega | (simp only [x_up, x_nw]; omega))]; first | assumption | exact x_up_self _ _ _ | (rw [x_up_ne (by first | omega | (simp only [x_up, x_nw]; omega))]; assumption))) (by rfl) rfl ?_
      refine go_iload_n (pc' := 46) (i := 3) d_Tri_nodeOfTwo_45 rfl rfl rfl ?_
      refine go_callS (pc' := 49) (M' := M_Tri_digit) [_, _] d_Tri_nodeOfTwo_46 t_195 t_196 t_1 cd_Tri_digit nm_Tri_digit rfl rfl (Nat.le_of_ble_eq_true rfl) rfl (s_digit (d := r + 2) k2 hl4) (by first | decide | omega) (Nat.le_of_ble_eq_true rfl) rfl (fun v hh hq => ?_) (fun q g hq => by cases hq.1)
      obtain ⟨e9, rfl⟩ := hq
      cases e9
      show Go K M_Tri_nodeOfTwo (r + 1 + 2) 49 _ [.int (nI (q_d l k2))] hh _
      refine go_istore (pc' := 51) (i := 6) d_Tri_nodeOfTwo_49 (by decide) (x_s6 (by first | rfl | exact x_k_rf _)) rfl ?_
      refine go_iload (pc' := 53) (i := 5) d_Tri_nodeOfTwo_51 rfl rfl ?_
      refine go_iload (pc' := 55) (i := 6) d_Tri_nodeOfTwo_53 rfl rfl ?_
      refine go_icmp_neN (tgt := 78) (pc' := 58) d_Tri_nodeOfTwo_55 (by decide) rfl (by omega) (by omega) (fun hc => ?_) (fun hc => ?_)
      · refine go_aload (pc' := 80) (i := 4) d_Tri_nodeOfTwo_78 rfl (by first | rfl | exact x_r_rf _) rfl ?_
        refine go_getfield (pc' := 83) d_Tri_nodeOfTwo_80 c_Nod 1 (by decide) t_44 (by first | assumption | exact x_up_self _ _ _ | exact x_nw_self _ _ _ | (rw [x_up_ne (by first | omega | (simp only [x_up, x_nw]; omega))]; first | assumption | exact x_up_self _ _ _ | (rw [x_up_ne (by first | omega | (simp only [x_up, x_nw]; omega))]; first | assumption | exact x_up_self _ _ _)) | (rw [x_nw_ne (by first | omega | (simp only [x_up, x_nw]; omega))]; first | assumption | exact x_up_self _ _ _ | (rw [x_up_ne (by first | omega | (simp only [x_up, x_nw]; omega))]; assumption))) (by rfl) rfl ?_
        refine go_iload (pc' := 85) (i := 5) d_Tri_nodeOfTwo_83 rfl rfl ?_
        refine go_aload_n (pc' := 86) (i := 0) d_Tri_nodeOfTwo_85 rfl rfl (by first | rfl | exact x_r_rf _) rfl ?_
        refine go_aastR (pc' := 87) d_Tri_nodeOfTwo_86 (by assumption) (by assumption) (by rfl) (by rfl) (by omega) (by omega) rfl ?_
        have m0 : (x_up hh (h.1 + 1) (.inl (3, 4, .inr (.inr (.inr (.inr (va_up (fun _ => none) (q_d l k1) (some e1)))))))).2.2 h.1 = _ := (x_up_ne (by omega)).trans n0
        have m2 : (x_up hh (h.1 + 1) (.inl (3, 4, .inr (.inr (.inr (.inr (va_up (fun _ => none) (q_d l k1) (some e1)))))))).2.2 e2 = _ := (x_up_ne (by omega)).trans he2u
        refine go_aload (pc' := 89) (i := 4) d_Tri_nodeOfTwo_87 rfl (by first | rfl | exact x_r_rf _) rfl ?_
        refine go_getfield (pc' := 92) d_Tri_nodeOfTwo_89 c_Nod 1 (by decide) t_44 (by first | assumption | exact x_up_self _ _ _ | exact x_nw_self _ _ _ | (rw [x_up_ne (by first | omega | (simp only [x_up, x_nw]; omega))]; first | assumption | exact x_up_self _ _ _ | (rw [x_up_ne (by first | omega | (simp only [x_up, x_nw]; omega))]; first | assumption | exact x_up_self _ _ _)) | (rw [x_nw_ne (by first | omega | (simp only [x_up, x_nw]; omega))]; first | assumption | exact x_up_self _ _ _ | (rw [x_up_ne (by first | omega | (simp only [x_up, x_nw]; omega))]; assumption))) (by rfl) rfl ?_
        refine go_iload (pc' := 94) (i := 6) d_Tri_nodeOfTwo_92 rfl rfl ?_
        refine go_aload_n (pc' := 95) (i := 1) d_Tri_nodeOfTwo_94 rfl rfl (by first | rfl | exact x_r_rf _) rfl ?_
        refine go_aastR (pc' := 96) d_Tri_nodeOfTwo_95 (x_up_self _ _ _) (by assumption) (by rfl) (by rfl) (by omega) (by omega) rfl ?_
        rw [x_up_up]
        refine go_aload (pc' := 98) (i := 4) d_Tri_nodeOfTwo_96 rfl (by first | rfl | exact x_r_rf _) rfl ?_
        refine go_areturn d_Tri_nodeOfTwo_98 rfl ⟨_, rfl⟩ (by first | rfl | exact x_r_rf _) ?_
        refine ⟨rfl, ⟨_, fun _ => none, ⟨(x_up_ne (by omega)).trans n0, x_up_self _ _ _, (x_up_ne (by omega)).trans n2⟩, Or.inr ⟨hc, fun j hj => rfl, fun j hj => rfl⟩⟩, ?_, ?_, ?_, ?_, fun b hb => ?_⟩
        · show h.1 + 3 ≤ hh.1; omega
        · show hh.1 ≤ _; omega
        · show _ ≤ hh.2.1; omega
        · show hh.2.1 ≤ _; omega
        · rw [x_up_ne (by omega)]
          exact hold' b hb
      · refine go_aload (pc' := 60) (i := 4) d_Tri_nodeOfTwo_58 rfl (by first | rfl | exact x_r_rf _) rfl ?_
        refine go_getfield (pc' := 63) d_Tri_nodeOfTwo_60 c_Nod 2 (by decide) t_46 (by first | assumption | exact x_up_self _ _ _ | exact x_nw_self _ _ _ | (rw [x_up_ne (by first | omega | (simp only [x_up, x_nw]; omega))]; first | assumption | exact x_up_self _ _ _ | (rw [x_up_ne (by first | omega | (simp only [x_up, x_nw]; omega))]; first | assumption | exact x_up_self _ _ _)) | (rw [x_nw_ne (by first | omega | (simp only [x_up, x_nw]; omega))]; first | assumption | exact x_up_self _ _ _ | (rw [x_up_ne (by first | omega | (simp only [x_up, x_nw]; omega))]; assumption))) (by rfl) rfl ?_
        refine go_iload (pc' := 65) (i := 5) d_Tri_nodeOfTwo_63 rfl rfl ?_
        refine go_aload_n (pc' := 66) (i := 0) d_Tri_nodeOfTwo_65 rfl rfl (by first | rfl | exact x_r_rf _) rfl ?_
        refine go_aload_n (pc' := 67) (i := 1) d_Tri_nodeOfTwo_66 rfl rfl (by first | rfl | exact x_r_rf _) rfl ?_
        refine go_iload_n (pc' := 68) (i := 2) d_Tri_nodeOfTwo_67 rfl rfl rfl ?_
        refine go_iload_n (pc' := 69) (i := 3) d_Tri_nodeOfTwo_68 rfl rfl rfl ?_
        refine go_iconst (pc' := 70) (v := (nI 1)) d_Tri_nodeOfTwo_69 (by decide) rfl ?_
        refine go_iadd (pc' := 71) d_Tri_nodeOfTwo_70 rfl ?_
        rw [nI_add]
        refine go_callS (pc' := 74) (M' := M_Tri_nodeOfTwo) [_, _, _, _] d_Tri_nodeOfTwo_71 t_309 t_310 t_1 cd_Tri_nodeOfTwo nm_Tri_nodeOfTwo rfl rfl (Nat.le_of_ble_eq_true rfl) rfl (ih (l + 1) hh (by omega) he1' he2' (by omega) (by omega)) (by first | decide | omega) (Nat.le_of_ble_eq_true rfl) rfl (fun v h2 hq => ?_) (fun q g hq => hq.elim)
        obtain ⟨rfl, hT2, b1, b2, b3, b4, hold2⟩ := hq
        rw [f1] at hT2
        show Go K M_Tri_nodeOfTwo (r + 1 + 2) 74 _ [.ref hh.1, .int (nI (q_d l k1)), .ref (h.1 + 2)] h2 _
        rw [f1]
        have m0 : h2.2.2 h.1 = _ := (hold2 _ (by omega)).trans n0
        have m2 : h2.2.2 (h.1 + 2) = _ := (hold2 _ (by omega)).trans n2
        obtain ⟨vs, hvs⟩ : ∃ vs, h2.2.2 (h.1 + 3) = some (.inr (2, vs)) := by
          cases r with
          | zero => obtain ⟨_, _, hN9, -⟩ := hT2; exact ⟨_, hN9.1⟩
          | succ r => obtain ⟨_, _, hN9, -⟩ := hT2; exact ⟨_, hN9.1⟩
        refine go_aastR (pc' := 75) d_Tri_nodeOfTwo_74 (by assumption) hvs (by rfl) (by rfl) (by omega) (by omega) rfl ?_
        refine go_goto (tgt := 96) d_Tri_nodeOfTwo_75 (by decide) ?_
        refine go_aload (pc' := 98) (i := 4) d_Tri_nodeOfTwo_96 rfl (by first | rfl | exact x_r_rf _) rfl ?_
        refine go_areturn d_Tri_nodeOfTwo_98 rfl ⟨_, rfl⟩ (by first | rfl | exact x_r_rf _) ?_
        refine ⟨rfl, ⟨fun _ => none, _, ⟨(x_up_ne (by omega)).trans m0, (x_up_ne (by omega)).trans ((hold2 _ (by omega)).trans n1), x_up_self _ _ _⟩, Or.inl ⟨hc, fun j hj => rfl, fun j hj => rfl, ?_⟩⟩, ?_, ?_, ?_, ?_, fun b hb => ?_⟩
        · exact hT2.mono r (l + 1) (h.1 + 3) (fun b hb => x_up_ne (by omega))
        · show h.1 + 3 ≤ h2.1; omega
        · show h2.1 ≤ _; omega
        · show _ ≤ h2.2.1; omega
        · show h2.2.1 ≤ _; omega
        · rw [x_up_ne (by omega), hold2 b (by omega)]
          exact hold' b hb
    · omega
end TG
