section TD
variable {K : x_K} {d : Nat} {h : x_H} {A : Nat → Nat → Option Nat} {ks : List KV} {bel : Nat → Nat → Int32} {t a : Nat} {g : Int32}
def q_cp (es : Nat → Option Nat) (i : Nat) : Nat → Option Nat := fun j => if j < i then es j else none
theorem q_cp_s (es : Nat → Option Nat) (i : Nat) : va_up (q_cp es i) i (es i) = q_cp es (i + 1) := by
  funext j
  unfold va_up q_cp
  by_cases hj : j = i
  · subst hj
    rw [if_pos rfl, if_pos (by omega)]
  · rw [if_neg hj]
    by_cases h2 : j < i
    · rw [if_pos h2, if_pos (by omega)]
    · rw [if_neg h2, if_neg (by omega)]
theorem q_cp_0 (es : Nat → Option Nat) : q_cp es 0 = fun _ => none := by
  funext j
  unfold q_cp
  rw [if_neg (by omega)]
theorem x_up_same {h : x_H} {a : Nat} {c : x_C} (ha : h.2.2 a = some c) : x_up h a c = h := by
  refine Prod.ext rfl (Prod.ext rfl ?_)
  funext j
  by_cases hj : j = a
  · subst hj; simp [x_up, va_up, ha]
  · simp [x_up, va_up, hj]
theorem s_copyOf {n k : Nat} {es ns : Nat → Option Nat} {g0 : Int32} (hN : Nd h a g0 n es k ns) (g : Int32) {l : Nat} (hl : (l < 4 ∧ n = 4 ∧ k = 4) ∨ (l = 4 ∧ n = 6 ∧ k = 0))
    (hE : ∀ j, j < n → ∀ e, es j = some e → ∃ vs, h.2.2 e = some (.inr (1, vs))) (hM : ∀ j, j < k → ∀ b, ns j = some b → ∃ vs, h.2.2 b = some (.inr (2, vs)))
    (hc1 : h.1 + 3 ≤ x_cap K) (hc2 : h.2.1 + 11 ≤ x_cas K) (hd : 1 ≤ d) :
    Go K M_Tri_copyOf d 0 [some (.ref a), some (.int g), some (.int (nI l)), none, none] [] h (x_rt (fun v f => v = some (.ref h.1) ∧ f.1 = h.1 + 3 ∧ h.2.1 ≤ f.2.1 ∧ f.2.1 ≤ h.2.1 + 11 ∧
      (∃ es' ns', Nd f h.1 g n es' k ns' ∧ (∀ j, j < n → es' j = es j) ∧ ∀ j, j < k → ns' j = ns j) ∧ ∀ b, b < h.1 → f.2.2 b = h.2.2 b)) := by
  refine go_dom fun hdom => ?_
  have hlt : a + 2 < h.1 := hdom _ _ hN.2.2
  have hn6 : n ≤ 6 ∧ k ≤ 6 := by omega
  refine go_new (pc' := 3) (fs := [.int 0, .null, .null]) d_Tri_copyOf_0 c_Nod t_29 t_30 t_3 (by decide +kernel) (by first | assumption | omega | (simp only [x_up, x_nw]; omega)) (by first | assumption | omega | (simp only [x_up, x_nw]; omega)) rfl ?_
  refine go_dup (pc' := 4) d_Tri_copyOf_3 (by first | rfl | exact x_c_rf _) rfl ?_
  refine go_iload_n (pc' := 5) (i := 1) d_Tri_copyOf_4 rfl rfl rfl ?_
  refine go_iload_n (pc' := 6) (i := 2) d_Tri_copyOf_5 rfl rfl rfl ?_
  have hg : Go K M_Nod_init (d - 1) 0 [some (.ref h.1), some (.int g), some (.int (nI l)), none] [] (x_nw h 3 (.inr (2, [.int 0, .null, .null]))) (x_rt (fun v f => v = none ∧ f.1 = h.1 + 3 ∧ h.2.1 + 3 ≤ f.2.1 ∧ f.2.1 ≤ h.2.1 + 11 ∧ Nd f h.1 g n (fun _ => none) k (fun _ => none) ∧ ∀ b, b < h.1 → f.2.2 b = h.2.2 b)) := by
    rcases hl with ⟨h1, rfl, rfl⟩ | ⟨h1, rfl, rfl⟩
    · refine go_Q ?_ (s_Nod_init (a := h.1) rfl (x_nw_self _ _ _) g h1 (by simp only [x_nw]; omega) (by simp only [x_nw]; omega))
      intro o f hq
      cases o with
      | inr q => exact hq.elim
      | inl v =>
        obtain ⟨q1, q2, q3, q4, q5⟩ := hq
        simp only [x_nw] at q3
        exact ⟨q1, q2, by omega, by omega, q4, fun b hb => (q5 b hb).trans (x_nw_ne (by omega))⟩
    · refine go_Q ?_ (s_Nod_bag (a := h.1) rfl (x_nw_self _ _ _) g h1 (by simp only [x_nw]; omega) (by simp only [x_nw]; omega))
      intro o f hq
      cases o with
      | inr q => exact hq.elim
      | inl v =>
        obtain ⟨q1, q2, q3, q4, q5⟩ := hq
        simp only [x_nw] at q3
        exact ⟨q1, q2, by omega, by omega, q4, fun b hb => (q5 b hb).trans (x_nw_ne (by omega))⟩
  refine go_callI (pc' := 9) (M' := M_Nod_init) [_, _] d_Tri_copyOf_6 rfl rfl t_31 t_32 t_33 rfl nm_Nod_init rfl rfl (Nat.le_of_ble_eq_true rfl) rfl (hg) (by first | decide | omega) (Nat.le_of_ble_eq_true rfl) rfl (fun v hh hq => ?_) (fun q g hq => hq.elim)
  obtain ⟨rfl, f1, f2, f3, hNc, hold⟩ := hq
  show Go K M_Tri_copyOf d 9 _ [.ref h.1] hh _
  obtain ⟨n0, n1, n2⟩ := hNc
  have hNa : ∀ f : x_H, (∀ b, b < h.1 → f.2.2 b = h.2.2 b) → Nd f a g0 n es k ns := fun f hf => ⟨(hf _ (by omega)).trans hN.1, (hf _ (by omega)).trans hN.2.1, (hf _ (by omega)).trans hN.2.2⟩
  have loop2 : ∀ r i, i + r = k → Go K M_Tri_copyOf d 45 [some (.ref a), some (.int g), some (.int (nI l)), some (.ref h.1), some (.int (nI i))] []
      (x_up (x_up hh (h.1 + 1) (.inl (3, n, .inr (.inr (.inr (.inr (q_cp es n))))))) (h.1 + 2) (.inl (4, k, .inr (.inr (.inr (.inr (q_cp ns i)))))))
      (x_rt (fun v f => v = some (.ref h.1) ∧ f.1 = h.1 + 3 ∧ h.2.1 ≤ f.2.1 ∧ f.2.1 ≤ h.2.1 + 11 ∧ (∃ es' ns', Nd f h.1 g n es' k ns' ∧ (∀ j, j < n → es' j = es j) ∧ ∀ j, j < k → ns' j = ns j) ∧ ∀ b, b < h.1 → f.2.2 b = h.2.2 b)) := by
    intro r
    induction r with
    | zero =>
      intro i hi
      have hik : i = k := by omega
      subst hik
      have c0 : (x_up (x_up hh (h.1 + 1) (.inl (3, n, .inr (.inr (.inr (.inr (q_cp es n))))))) (h.1 + 2) (.inl (4, i, .inr (.inr (.inr (.inr (q_cp ns i))))))).2.2 h.1 = some (.inr (2, [.int g, .ref (h.1 + 1), .ref (h.1 + 2)])) := by
        rw [x_up_ne (by omega), x_up_ne (by omega)]
        exact n0
      refine go_iload (pc' := 47) (i := 4) d_Tri_copyOf_45 rfl rfl ?_
      refine go_aload_n (pc' := 48) (i := 3) d_Tri_copyOf_47 rfl rfl (by first | rfl | exact x_r_rf _) rfl ?_
      refine go_getfield (pc' := 51) d_Tri_copyOf_48 c_Nod 2 (by decide) t_46 (by first | assumption | exact x_up_self _ _ _ | exact x_nw_self _ _ _ | (rw [x_up_ne (by first | omega | (simp only [x_up, x_nw]; omega))]; first | assumption | exact x_up_self _ _ _ | (rw [x_up_ne (by first | omega | (simp only [x_up, x_nw]; omega))]; first | assumption | exact x_up_self _ _ _)) | (rw [x_nw_ne (by first | omega | (simp only [x_up, x_nw]; omega))]; first | assumption | exact x_up_self _ _ _ | (rw [x_up_ne (by first | omega | (simp only [x_up, x_nw]; omega))]; assumption))) (by rfl) rfl ?_
      refine go_alenN (pc' := 52) d_Tri_copyOf_51 (by first | assumption | exact x_up_self _ _ _ | exact x_nw_self _ _ _ | (rw [x_up_ne (by first | omega | (simp only [x_up, x_nw]; omega))]; first | assumption | exact x_up_self _ _ _ | (rw [x_up_ne (by first | omega | (simp only [x_up, x_nw]; omega))]; first | assumption | exact x_up_self _ _ _)) | (rw [x_nw_ne (by first | omega | (simp only [x_up, x_nw]; omega))]; first | assumption | exact x_up_self _ _ _ | (rw [x_up_ne (by first | omega | (simp only [x_up, x_nw]; omega))]; assumption))) (by rfl) rfl ?_
      refine go_icmp_geN (tgt := 74) (pc' := 55) d_Tri_copyOf_52 (by decide) rfl (by omega) (by omega) (fun hc => ?_) (fun hc => ?_)
      · refine go_aload_n (pc' := 75) (i := 3) d_Tri_copyOf_74 rfl rfl (by first | rfl | exact x_r_rf _) rfl ?_
        refine go_areturn d_Tri_copyOf_75 rfl ⟨_, rfl⟩ (by first | rfl | exact x_r_rf _) ?_
        refine ⟨rfl, f1, by simp only [x_up]; omega, by simp only [x_up]; omega, ⟨q_cp es n, q_cp ns i, ⟨c0, ?_, x_up_self _ _ _⟩, fun j hj => ?_, fun j hj => ?_⟩, fun b hb => ?_⟩
        · rw [x_up_ne (by omega)]
          exact x_up_self _ _ _
        · unfold q_cp
          rw [if_pos hj]
        · unfold q_cp
          rw [if_pos hj]
        · rw [x_up_ne (by omega), x_up_ne (by omega)]
          exact hold b hb
      · omega
    | succ r ih =>
      intro i hi
      have c0 : (x_up (x_up hh (h.1 + 1) (.inl (3, n, .inr (.inr (.inr (.inr (q_cp es n))))))) (h.1 + 2) (.inl (4, k, .inr (.inr (.inr (.inr (q_cp ns i))))))).2.2 h.1 = some (.inr (2, [.int g, .ref (h.1 + 1), .ref (h.1 + 2)])) := by
        rw [x_up_ne (by omega), x_up_ne (by omega)]
        exact n0
      refine go_iload (pc' := 47) (i := 4) d_Tri_copyOf_45 rfl rfl ?_
      refine go_aload_n (pc' := 48) (i := 3) d_Tri_copyOf_47 rfl rfl (by first | rfl | exact x_r_rf _) rfl ?_
      refine go_getfield (pc' := 51) d_Tri_copyOf_48 c_Nod 2 (by decide) t_46 (by first | assumption | exact x_up_self _ _ _ | exact x_nw_self _ _ _ | (rw [x_up_ne (by first | omega | (simp only [x_up, x_nw]; omega))]; first | assumption | exact x_up_self _ _ _ | (rw [x_up_ne (by first | omega | (simp only [x_up, x_nw]; omega))]; first | assumption | exact x_up_self _ _ _)) | (rw [x_nw_ne (by first | omega | (simp only [x_up, x_nw]; omega))]; first | assumption | exact x_up_self _ _ _ | (rw [x_up_ne (by first | omega | (simp only [x_up, x_nw]; omega))]; assumption))) (by rfl) rfl ?_
      refine go_alenN (pc' := 52) d_Tri_copyOf_51 (by first | assumption | exact x_up_self _ _ _ | exact x_nw_self _ _ _ | (rw [x_up_ne (by first | omega | (simp only [x_up, x_nw]; omega))]; first | assumption | exact x_up_self _ _ _ | (rw [x_up_ne (by first | omega | (simp only [x_up, x_nw]; omega))]; first | assumption | exact x_up_self _ _ _)) | (rw [x_nw_ne (by first | omega | (simp only [x_up, x_nw]; omega))]; first | assumption | exact x_up_self _ _ _ | (rw [x_up_ne (by first | omega | (simp only [x_up, x_nw]; omega))]; assumption))) (by rfl) rfl ?_
      refine go_icmp_geN (tgt := 74) (pc' := 55) d_Tri_copyOf_52 (by decide) rfl (by omega) (by omega) (fun hc => ?_) (fun hc => ?_)
      · omega
      · refine go_aload_n (pc' := 56) (i := 3) d_Tri_copyOf_55 rfl rfl (by first | rfl | exact x_r_rf _) rfl ?_
        refine go_getfield (pc' := 59) d_Tri_copyOf_56 c_Nod 2 (by decide) t_46 (by first | assumption | exact x_up_self _ _ _ | exact x_nw_self _ _ _ | (rw [x_up_ne (by first | omega | (simp only [x_up, x_nw]; omega))]; first | assumption | exact x_up_self _ _ _ | (rw [x_up_ne (by first | omega | (simp only [x_up, x_nw]; omega))]; first | assumption | exact x_up_self _ _ _)) | (rw [x_nw_ne (by first | omega | (simp only [x_up, x_nw]; omega))]; first | assumption | exact x_up_self _ _ _ | (rw [x_up_ne (by first | omega | (simp only [x_up, x_nw]; omega))]; assumption))) (by rfl) rfl ?_
        refine go_iload (pc' := 61) (i := 4) d_Tri_copyOf_59 rfl rfl ?_
        refine go_aload_n (pc' := 62) (i := 0) d_Tri_copyOf_61 rfl rfl (by first | rfl | exact x_r_rf _) rfl ?_
        refine go_iload (pc' := 64) (i := 4) d_Tri_copyOf_62 rfl rfl ?_
        have hNu := hNa (x_up (x_up hh (h.1 + 1) (.inl (3, n, .inr (.inr (.inr (.inr (q_cp es n))))))) (h.1 + 2) (.inl (4, k, .inr (.inr (.inr (.inr (q_cp ns i))))))) (fun b hb => by rw [x_up_ne (by omega), x_up_ne (by omega)]; exact hold b hb)
        have hNu0 := hNu.1
        refine go_callV (pc' := 67) (M' := M_Nod_nodeAt) (ci := 2) (r := (n_Nod, T_Nod, 3)) [_] d_Tri_copyOf_64 t_299 t_300 t_301 cd_Nod_nodeAt nm_Nod_nodeAt rfl (by rfl) (by first | assumption | exact x_up_self _ _ _ | exact x_nw_self _ _ _ | (rw [x_up_ne (by first | omega | (simp only [x_up, x_nw]; omega))]; first | assumption | exact x_up_self _ _ _ | (rw [x_up_ne (by first | omega | (simp only [x_up, x_nw]; omega))]; first | assumption | exact x_up_self _ _ _)) | (rw [x_nw_ne (by first | omega | (simp only [x_up, x_nw]; omega))]; first | assumption | exact x_up_self _ _ _ | (rw [x_up_ne (by first | omega | (simp only [x_up, x_nw]; omega))]; assumption))) rfl (Nat.le_of_ble_eq_true rfl) rfl (s_nodeAt (d := d - 1) hNu (by omega) (j := i) (by omega)) (by first | decide | omega) (Nat.le_of_ble_eq_true rfl) rfl (fun v hh hq => ?_) (fun q g hq => by cases hq.1)
        obtain ⟨e1, rfl⟩ := hq
        cases e1
        rw [if_pos (by omega)]
        refine go_aastO' (pc' := 68) (ci := 2) (r := (n_Nod, T_Nod, 3)) d_Tri_copyOf_67 (x_up_self _ _ _) ?_ (by rfl) (by rfl) (by omega) (by omega) rfl ?_
        · intro b hb
          obtain ⟨vs, hvs⟩ := hM i (by omega) b hb
          have := hdom _ _ hvs
          exact ⟨vs, by rw [x_up_ne (by omega), x_up_ne (by omega), hold b this]; exact hvs⟩
        · rw [x_up_up, q_cp_s]
          refine go_iinc (pc' := 71) (i := 4) d_Tri_copyOf_68 rfl (x_i1 _) (by decide) (x_s4 (by first | rfl | exact x_k_rf _)) rfl ?_
          refine go_goto (tgt := 45) d_Tri_copyOf_71 (by decide) ?_
          exact ih (i + 1) (by omega)
  have loop1 : ∀ r i, i + r = n → Go K M_Tri_copyOf d 13 [some (.ref a), some (.int g), some (.int (nI l)), some (.ref h.1), some (.int (nI i))] []
      (x_up hh (h.1 + 1) (.inl (3, n, .inr (.inr (.inr (.inr (q_cp es i)))))))
      (x_rt (fun v f => v = some (.ref h.1) ∧ f.1 = h.1 + 3 ∧ h.2.1 ≤ f.2.1 ∧ f.2.1 ≤ h.2.1 + 11 ∧ (∃ es' ns', Nd f h.1 g n es' k ns' ∧ (∀ j, j < n → es' j = es j) ∧ ∀ j, j < k → ns' j = ns j) ∧ ∀ b, b < h.1 → f.2.2 b = h.2.2 b)) := by
    intro r
    induction r with
    | zero =>
      intro i hi
      have hin : i = n := by omega
      subst hin
      have c0 : (x_up hh (h.1 + 1) (.inl (3, i, .inr (.inr (.inr (.inr (q_cp es i))))))).2.2 h.1 = some (.inr (2, [.int g, .ref (h.1 + 1), .ref (h.1 + 2)])) := by
        rw [x_up_ne (by omega)]
        exact n0
      refine go_iload (pc' := 15) (i := 4) d_Tri_copyOf_13 rfl rfl ?_
      refine go_aload_n (pc' := 16) (i := 3) d_Tri_copyOf_15 rfl rfl (by first | rfl | exact x_r_rf _) rfl ?_
      refine go_getfield (pc' := 19) d_Tri_copyOf_16 c_Nod 1 (by decide) t_44 (by first | assumption | exact x_up_self _ _ _ | exact x_nw_self _ _ _ | (rw [x_up_ne (by first | omega | (simp only [x_up, x_nw]; omega))]; first | assumption | exact x_up_self _ _ _ | (rw [x_up_ne (by first | omega | (simp only [x_up, x_nw]; omega))]; first | assumption | exact x_up_self _ _ _)) | (rw [x_nw_ne (by first | omega | (simp only [x_up, x_nw]; omega))]; first | assumption | exact x_up_self _ _ _ | (rw [x_up_ne (by first | omega | (simp only [x_up, x_nw]; omega))]; assumption))) (by rfl) rfl ?_
      refine go_alenN (pc' := 20) d_Tri_copyOf_19 (by first | assumption | exact x_up_self _ _ _ | exact x_nw_self _ _ _ | (rw [x_up_ne (by first | omega | (simp only [x_up, x_nw]; omega))]; first | assumption | exact x_up_self _ _ _ | (rw [x_up_ne (by first | omega | (simp only [x_up, x_nw]; omega))]; first | assumption | exact x_up_self _ _ _)) | (rw [x_nw_ne (by first | omega | (simp only [x_up, x_nw]; omega))]; first | assumption | exact x_up_self _ _ _ | (rw [x_up_ne (by first | omega | (simp only [x_up, x_nw]; omega))]; assumption))) (by rfl) rfl ?_
      refine go_icmp_geN (tgt := 42) (pc' := 23) d_Tri_copyOf_20 (by decide) rfl (by omega) (by omega) (fun hc => ?_) (fun hc => ?_)
      · refine go_iconst (pc' := 43) (v := (nI 0)) d_Tri_copyOf_42 (by decide) rfl ?_
        refine go_istore (pc' := 45) (i := 4) d_Tri_copyOf_43 (by decide) (x_s4 (by first | rfl | exact x_k_rf _)) rfl ?_
        have := loop2 k 0 (by omega)
        rw [q_cp_0, x_up_same ((x_up_ne (by omega)).trans n2)] at this
        exact this
      · omega
    | succ r ih =>
      intro i hi
      have c0 : (x_up hh (h.1 + 1) (.inl (3, n, .inr (.inr (.inr (.inr (q_cp es i))))))).2.2 h.1 = some (.inr (2, [.int g, .ref (h.1 + 1), .ref (h.1 + 2)])) := by
        rw [x_up_ne (by omega)]
        exact n0
      refine go_iload (pc' := 15) (i := 4) d_Tri_copyOf_13 rfl rfl ?_
      refine go_aload_n (pc' := 16) (i := 3) d_Tri_copyOf_15 rfl rfl (by first | rfl | exact x_r_rf _) rfl ?_
      refine go_getfield (pc' := 19) d_Tri_copyOf_16 c_Nod 1 (by decide) t_44 (by first | assumption | exact x_up_self _ _ _ | exact x_nw_self _ _ _ | (rw [x_up_ne (by first | omega | (simp only [x_up, x_nw]; omega))]; first | assumption | exact x_up_self _ _ _ | (rw [x_up_ne (by first | omega | (simp only [x_up, x_nw]; omega))]; first | assumption | exact x_up_self _ _ _)) | (rw [x_nw_ne (by first | omega | (simp only [x_up, x_nw]; omega))]; first | assumption | exact x_up_self _ _ _ | (rw [x_up_ne (by first | omega | (simp only [x_up, x_nw]; omega))]; assumption))) (by rfl) rfl ?_
      refine go_alenN (pc' := 20) d_Tri_copyOf_19 (by first | assumption | exact x_up_self _ _ _ | exact x_nw_self _ _ _ | (rw [x_up_ne (by first | omega | (simp only [x_up, x_nw]; omega))]; first | assumption | exact x_up_self _ _ _ | (rw [x_up_ne (by first | omega | (simp only [x_up, x_nw]; omega))]; first | assumption | exact x_up_self _ _ _)) | (rw [x_nw_ne (by first | omega | (simp only [x_up, x_nw]; omega))]; first | assumption | exact x_up_self _ _ _ | (rw [x_up_ne (by first | omega | (simp only [x_up, x_nw]; omega))]; assumption))) (by rfl) rfl ?_
      refine go_icmp_geN (tgt := 42) (pc' := 23) d_Tri_copyOf_20 (by decide) rfl (by omega) (by omega) (fun hc => ?_) (fun hc => ?_)
      · omega
      · refine go_aload_n (pc' := 24) (i := 3) d_Tri_copyOf_23 rfl rfl (by first | rfl | exact x_r_rf _) rfl ?_
        refine go_getfield (pc' := 27) d_Tri_copyOf_24 c_Nod 1 (by decide) t_44 (by first | assumption | exact x_up_self _ _ _ | exact x_nw_self _ _ _ | (rw [x_up_ne (by first | omega | (simp only [x_up, x_nw]; omega))]; first | assumption | exact x_up_self _ _ _ | (rw [x_up_ne (by first | omega | (simp only [x_up, x_nw]; omega))]; first | assumption | exact x_up_self _ _ _)) | (rw [x_nw_ne (by first | omega | (simp only [x_up, x_nw]; omega))]; first | assumption | exact x_up_self _ _ _ | (rw [x_up_ne (by first | omega | (simp only [x_up, x_nw]; omega))]; assumption))) (by rfl) rfl ?_
        refine go_iload (pc' := 29) (i := 4) d_Tri_copyOf_27 rfl rfl ?_
        refine go_aload_n (pc' := 30) (i := 0) d_Tri_copyOf_29 rfl rfl (by first | rfl | exact x_r_rf _) rfl ?_
        refine go_iload (pc' := 32) (i := 4) d_Tri_copyOf_30 rfl rfl ?_
        have hNu := hNa (x_up hh (h.1 + 1) (.inl (3, n, .inr (.inr (.inr (.inr (q_cp es i))))))) (fun b hb => by rw [x_up_ne (by omega)]; exact hold b hb)
        have hNu0 := hNu.1
        refine go_callV (pc' := 35) (M' := M_Nod_entryAt) (ci := 2) (r := (n_Nod, T_Nod, 3)) [_] d_Tri_copyOf_32 t_295 t_296 t_297 cd_Nod_entryAt nm_Nod_entryAt rfl (by rfl) (by first | assumption | exact x_up_self _ _ _ | exact x_nw_self _ _ _ | (rw [x_up_ne (by first | omega | (simp only [x_up, x_nw]; omega))]; first | assumption | exact x_up_self _ _ _ | (rw [x_up_ne (by first | omega | (simp only [x_up, x_nw]; omega))]; first | assumption | exact x_up_self _ _ _)) | (rw [x_nw_ne (by first | omega | (simp only [x_up, x_nw]; omega))]; first | assumption | exact x_up_self _ _ _ | (rw [x_up_ne (by first | omega | (simp only [x_up, x_nw]; omega))]; assumption))) rfl (Nat.le_of_ble_eq_true rfl) rfl (s_entryAt (d := d - 1) hNu (by omega) (j := i) (by omega)) (by first | decide | omega) (Nat.le_of_ble_eq_true rfl) rfl (fun v hh hq => ?_) (fun q g hq => by cases hq.1)
        obtain ⟨e1, rfl⟩ := hq
        cases e1
        rw [if_pos (by omega)]
        refine go_aastO' (pc' := 36) (ci := 1) (r := (n_Ent, T_Ent, 2)) d_Tri_copyOf_35 (x_up_self _ _ _) ?_ (by rfl) (by rfl) (by omega) (by omega) rfl ?_
        · intro b hb
          obtain ⟨vs, hvs⟩ := hE i (by omega) b hb
          have := hdom _ _ hvs
          exact ⟨vs, by rw [x_up_ne (by omega), hold b this]; exact hvs⟩
        · rw [x_up_up, q_cp_s]
          refine go_iinc (pc' := 39) (i := 4) d_Tri_copyOf_36 rfl (x_i1 _) (by decide) (x_s4 (by first | rfl | exact x_k_rf _)) rfl ?_
          refine go_goto (tgt := 13) d_Tri_copyOf_39 (by decide) ?_
          exact ih (i + 1) (by omega)
  refine go_astore_n (pc' := 10) (i := 3) d_Tri_copyOf_9 rfl (by decide) (by first | rfl | exact x_r_rf _) (x_s3 (by first | rfl | exact x_k_rf _)) rfl ?_
  refine go_iconst (pc' := 11) (v := (nI 0)) d_Tri_copyOf_10 (by decide) rfl ?_
  refine go_istore (pc' := 13) (i := 4) d_Tri_copyOf_11 (by decide) (x_s4 (by first | rfl | exact x_k_rf _)) rfl ?_
  have := loop1 n 0 (by omega)
  rw [q_cp_0, x_up_same n1] at this
  exact this
theorem s_presentEntry (hT : Tr h A ks bel) (hK : Ko ks) {root : Nat} (hr : A 0 0 = some root) {gm ro : Int32} (ht : h.2.2 t = some (.inr (4, [.ref root, .int gm, .int ro]))) (key : Int32) (hd : 2 ≤ d) (hc1 : h.1 + 1 ≤ x_cap K) (hc2 : h.2.1 + 6 ≤ x_cas K) :
    Go K M_Tri_presentEntry d 0 [some (.ref t), some (.int key), none] [] h (x_rx (fun v f => h = f ∧ ∃ e x, v = some (.ref e) ∧ q_get ks key = some x ∧ Et h e x.1 x.2) (fun q f => q = (14, h.1) ∧ f = (h.1 + 1, h.2.1 + 6, h.2.2) ∧ q_get ks key = none)) := by
  refine go_aload_n (pc' := 1) (i := 0) d_Tri_presentEntry_0 rfl rfl (by first | rfl | exact x_r_rf _) rfl ?_
  refine go_getfield (pc' := 4) d_Tri_presentEntry_1 c_Map 0 (by decide) t_59 (by first | assumption | exact x_up_self _ _ _ | exact x_nw_self _ _ _ | (rw [x_up_ne (by first | omega | (simp only [x_up, x_nw]; omega))]; first | assumption | exact x_up_self _ _ _ | (rw [x_up_ne (by first | omega | (simp only [x_up, x_nw]; omega))]; first | assumption | exact x_up_self _ _ _)) | (rw [x_nw_ne (by first | omega | (simp only [x_up, x_nw]; omega))]; first | assumption | exact x_up_self _ _ _ | (rw [x_up_ne (by first | omega | (simp only [x_up, x_nw]; omega))]; assumption))) (by rfl) rfl ?_
  refine go_iload_n (pc' := 5) (i := 1) d_Tri_presentEntry_4 rfl rfl rfl ?_
  refine go_callS (pc' := 8) (M' := M_Tri_find) [_, _] d_Tri_presentEntry_5 t_192 t_193 t_1 cd_Tri_find nm_Tri_find rfl rfl (Nat.le_of_ble_eq_true rfl) rfl (s_find (d := d - 1) hT hK hr key (by omega)) (by first | decide | omega) (Nat.le_of_ble_eq_true rfl) rfl (fun v hh hq => ?_) (fun q g hq => hq.elim)
  obtain ⟨rfl, o, rfl, ho⟩ := hq
  show Go K M_Tri_presentEntry d 8 _ [va_rf o] h _
  refine go_astore_n (pc' := 9) (i := 2) d_Tri_presentEntry_8 rfl (by decide) (by first | rfl | exact x_r_rf _) (x_s2 (by first | rfl | exact x_k_rf _)) rfl ?_
  refine go_aload_n (pc' := 10) (i := 2) d_Tri_presentEntry_9 rfl rfl (by first | rfl | exact x_r_rf _) rfl ?_
  cases o with
  | none =>
    refine go_ifnonnull_n (pc' := 13) d_Tri_presentEntry_10 rfl ?_
    exact go_throw (kx := 14) d_Tri_presentEntry_13 d_Tri_presentEntry_16 d_Tri_presentEntry_17 d_Tri_presentEntry_20 rfl (by decide +kernel) (by decide +kernel) rfl t_329 t_14 at_14 rfl (Nat.le_of_ble_eq_true rfl) (by first | assumption | omega | (simp only [x_up, x_nw]; omega)) (by first | assumption | omega | (simp only [x_up, x_nw]; omega)) (⟨rfl, rfl, ho.to0⟩)
  | some e =>
    refine go_ifnonnull_r (tgt := 21) d_Tri_presentEntry_10 (by decide) ?_
    refine go_aload_n (pc' := 22) (i := 2) d_Tri_presentEntry_21 rfl rfl (by first | rfl | exact x_r_rf _) rfl ?_
    refine go_areturn d_Tri_presentEntry_22 rfl ⟨_, rfl⟩ (by first | rfl | exact x_r_rf _) ?_
    obtain ⟨kv, h3, h4⟩ := ho.to
    exact ⟨rfl, e, kv, rfl, h3, h4⟩
theorem s_hasRoomFor (hT : Tr h A ks bel) (hK : Ko ks) {root : Nat} (hr : A 0 0 = some root) (key : Int32) (hd : 8 ≤ d) (hc1 : h.1 + 1 ≤ x_cap K) (hc2 : h.2.1 + 6 ≤ x_cas K) :
    Go K M_Tri_hasRoomFor d 0 [some (.ref root), some (.int key), none, none] [] h (x_rt (fun v f => v = some (.int (if ks.length < 60 ∧ (q_f ks 4 (q_p 4 key)).length < 6 then 1 else 0)) ∧ f.1 = h.1 + 1 ∧ f.2.1 = h.2.1 + 6 ∧ ∀ b, b < h.1 → f.2.2 b = h.2.2 b)) := by
  refine go_dom fun hdom => ?_
  refine go_aload_n (pc' := 1) (i := 0) d_Tri_hasRoomFor_0 rfl rfl (by first | rfl | exact x_r_rf _) rfl ?_
  refine go_callS (pc' := 4) (M' := M_Tri_countKeys) [_] d_Tri_hasRoomFor_1 t_206 t_207 t_1 cd_Tri_countKeys nm_Tri_countKeys rfl rfl (Nat.le_of_ble_eq_true rfl) rfl (s_countKeys (d := d - 1) hT hK hr (by omega) hc1 hc2) (by first | decide | omega) (Nat.le_of_ble_eq_true rfl) rfl (fun v hh hq => ?_) (fun q g hq => hq.elim)
  obtain ⟨rfl, f1, f2, f3⟩ := hq
  have hkp : Kp h hh := fun b c hb _ => (f3 b (hdom b c hb)).trans hb
  have hT2 := hT.kp hkp
  have hlen := hK.1
  show Go K M_Tri_hasRoomFor d 4 _ [.int (nI ks.length)] hh _
  refine go_bipush (pc' := 6) (v := (nI 60)) d_Tri_hasRoomFor_4 (by decide) rfl ?_
  refine go_icmp_ltN (tgt := 11) (pc' := 9) d_Tri_hasRoomFor_6 (by decide) rfl (by omega) (by omega) (fun hc => ?_) (fun hc => ?_)
  · refine go_aload_n (pc' := 12) (i := 0) d_Tri_hasRoomFor_11 rfl rfl (by first | rfl | exact x_r_rf _) rfl ?_
    refine go_astore_n (pc' := 13) (i := 2) d_Tri_hasRoomFor_12 rfl (by decide) (by first | rfl | exact x_r_rf _) (x_s2 (by first | rfl | exact x_k_rf _)) rfl ?_
    refine go_iconst (pc' := 14) (v := (nI 0)) d_Tri_hasRoomFor_13 (by decide) rfl ?_
    refine go_istore_n (pc' := 15) (i := 3) d_Tri_hasRoomFor_14 rfl (by decide) (x_s3 (by first | rfl | exact x_k_rf _)) rfl ?_
    have loop : ∀ r l a, l + r = 4 → A l (q_p l key) = some a → Go K M_Tri_hasRoomFor d 15 [some (.ref root), some (.int key), some (.ref a), some (.int (nI l))] [] hh (x_rt (fun v f => v = some (.int (if ks.length < 60 ∧ (q_f ks 4 (q_p 4 key)).length < 6 then 1 else 0)) ∧ f.1 = h.1 + 1 ∧ f.2.1 = h.2.1 + 6 ∧ ∀ b, b < h.1 → f.2.2 b = h.2.2 b)) := by
      intro r
      induction r with
      | zero =>
        intro l a hl ha
        have hl4 : l = 4 := by omega
        subst hl4
        obtain ⟨es, ns, hN, hE⟩ := (hT2.2 4 _ a ha).2 rfl
        have hN0 := hN.1
        have hct := q_ct_list 6 (fun j hj => (hE j hj).is) (hK.2.2 _)
        refine go_iload_n (pc' := 16) (i := 3) d_Tri_hasRoomFor_15 rfl rfl rfl ?_
        refine go_iconst (pc' := 17) (v := (nI 4)) d_Tri_hasRoomFor_16 (by decide) rfl ?_
        refine go_icmp_geN (tgt := 43) (pc' := 20) d_Tri_hasRoomFor_17 (by decide) rfl (by omega) (by omega) (fun hc => ?_) (fun hc => ?_)
        · refine go_aload_n (pc' := 44) (i := 2) d_Tri_hasRoomFor_43 rfl rfl (by first | rfl | exact x_r_rf _) rfl ?_
          refine go_callV (pc' := 47) (M' := M_Nod_countEntries) (ci := 2) (r := (n_Nod, T_Nod, 3)) [] d_Tri_hasRoomFor_44 t_253 t_247 t_248 cd_Nod_countEntries nm_Nod_countEntries rfl (by rfl) (by first | assumption | exact x_up_self _ _ _ | exact x_nw_self _ _ _ | (rw [x_up_ne (by first | omega | (simp only [x_up, x_nw]; omega))]; first | assumption | exact x_up_self _ _ _ | (rw [x_up_ne (by first | omega | (simp only [x_up, x_nw]; omega))]; first | assumption | exact x_up_self _ _ _)) | (rw [x_nw_ne (by first | omega | (simp only [x_up, x_nw]; omega))]; first | assumption | exact x_up_self _ _ _ | (rw [x_up_ne (by first | omega | (simp only [x_up, x_nw]; omega))]; assumption))) rfl (Nat.le_of_ble_eq_true rfl) rfl (s_countEntries (d := d - 1) hN (by omega)) (by first | decide | omega) (Nat.le_of_ble_eq_true rfl) rfl (fun v hh hq => ?_) (fun q g hq => by cases hq.1)
          obtain ⟨e1, rfl⟩ := hq
          cases e1
          rw [hct]
          show Go K M_Tri_hasRoomFor d 47 _ [.int (nI (q_f ks 4 (q_p 4 key)).length)] hh _
          have h6 := hK.2.2 (q_p 4 key)
          refine go_bipush (pc' := 49) (v := (nI 6)) d_Tri_hasRoomFor_47 (by decide) rfl ?_
          refine go_icmp_geN (tgt := 56) (pc' := 52) d_Tri_hasRoomFor_49 (by decide) rfl (by omega) (by omega) (fun hc => ?_) (fun hc => ?_)
          · refine go_iconst (pc' := 57) (v := (nI 0)) d_Tri_hasRoomFor_56 (by decide) rfl ?_
            refine go_ireturn d_Tri_hasRoomFor_57 rfl (by rfl) ?_
            exact ⟨by rw [if_neg (by omega)]; rfl, f1, f2, f3⟩
          · refine go_iconst (pc' := 53) (v := (nI 1)) d_Tri_hasRoomFor_52 (by decide) rfl ?_
            refine go_goto (tgt := 57) d_Tri_hasRoomFor_53 (by decide) ?_
            refine go_ireturn d_Tri_hasRoomFor_57 rfl (by rfl) ?_
            exact ⟨by rw [if_pos (by omega)]; rfl, f1, f2, f3⟩
        · omega
      | succ r ih =>
        intro l a hl ha
        have hl4 : l < 4 := by omega
        obtain ⟨es, ns, hN, hE⟩ := (hT2.2 l _ a ha).1 hl4
        have hd4 := q_d_lt l key
        obtain ⟨hns, hes⟩ := hE _ hd4
        rw [← q_p_s hl4] at hns hes
        obtain ⟨h0, h1, h2⟩ := hN
        refine go_iload_n (pc' := 16) (i := 3) d_Tri_hasRoomFor_15 rfl rfl rfl ?_
        refine go_iconst (pc' := 17) (v := (nI 4)) d_Tri_hasRoomFor_16 (by decide) rfl ?_
        refine go_icmp_geN (tgt := 43) (pc' := 20) d_Tri_hasRoomFor_17 (by decide) rfl (by omega) (by omega) (fun hc => ?_) (fun hc => ?_)
        · omega
        · refine go_aload_n (pc' := 21) (i := 2) d_Tri_hasRoomFor_20 rfl rfl (by first | rfl | exact x_r_rf _) rfl ?_
          refine go_getfield (pc' := 24) d_Tri_hasRoomFor_21 c_Nod 2 (by decide) t_46 (by first | assumption | exact x_up_self _ _ _ | exact x_nw_self _ _ _ | (rw [x_up_ne (by first | omega | (simp only [x_up, x_nw]; omega))]; first | assumption | exact x_up_self _ _ _ | (rw [x_up_ne (by first | omega | (simp only [x_up, x_nw]; omega))]; first | assumption | exact x_up_self _ _ _)) | (rw [x_nw_ne (by first | omega | (simp only [x_up, x_nw]; omega))]; first | assumption | exact x_up_self _ _ _ | (rw [x_up_ne (by first | omega | (simp only [x_up, x_nw]; omega))]; assumption))) (by rfl) rfl ?_
          refine go_iload_n (pc' := 25) (i := 1) d_Tri_hasRoomFor_24 rfl rfl rfl ?_
          refine go_iload_n (pc' := 26) (i := 3) d_Tri_hasRoomFor_25 rfl rfl rfl ?_
          refine go_callS (pc' := 29) (M' := M_Tri_digit) [_, _] d_Tri_hasRoomFor_26 t_195 t_196 t_1 cd_Tri_digit nm_Tri_digit rfl rfl (Nat.le_of_ble_eq_true rfl) rfl (s_digit (d := d - 1) key hl4) (by first | decide | omega) (Nat.le_of_ble_eq_true rfl) rfl (fun v hh hq => ?_) (fun q g hq => by cases hq.1)
          obtain ⟨e1, rfl⟩ := hq
          cases e1
          show Go K M_Tri_hasRoomFor d 29 _ [.int (nI (q_d l key)), .ref (a + 2)] hh _
          refine go_aaldN (pc' := 30) d_Tri_hasRoomFor_29 (by first | assumption | exact x_up_self _ _ _ | exact x_nw_self _ _ _ | (rw [x_up_ne (by first | omega | (simp only [x_up, x_nw]; omega))]; first | assumption | exact x_up_self _ _ _ | (rw [x_up_ne (by first | omega | (simp only [x_up, x_nw]; omega))]; first | assumption | exact x_up_self _ _ _)) | (rw [x_nw_ne (by first | omega | (simp only [x_up, x_nw]; omega))]; first | assumption | exact x_up_self _ _ _ | (rw [x_up_ne (by first | omega | (simp only [x_up, x_nw]; omega))]; assumption))) (by rfl) (by first | assumption | omega | (simp only [x_up, x_nw]; omega)) (by first | assumption | omega | (simp only [x_up, x_nw]; omega)) rfl ?_
          rw [hns]
          refine go_astore_n (pc' := 31) (i := 2) d_Tri_hasRoomFor_30 rfl (by decide) (by first | rfl | exact x_r_rf _) (x_s2 (by first | rfl | exact x_k_rf _)) rfl ?_
          refine go_aload_n (pc' := 32) (i := 2) d_Tri_hasRoomFor_31 rfl rfl (by first | rfl | exact x_r_rf _) rfl ?_
          refine go_ifnonnull (tgt := 37) (pc' := 35) d_Tri_hasRoomFor_32 (by decide) rfl (fun b hc => ?_) (fun hc => ?_)
          · rw [hc]
            refine go_iinc (pc' := 40) (i := 3) d_Tri_hasRoomFor_37 rfl (x_i1 _) (by decide) (x_s3 (by first | rfl | exact x_k_rf _)) rfl ?_
            refine go_goto (tgt := 15) d_Tri_hasRoomFor_40 (by decide) ?_
            exact ih (l + 1) b (by omega) hc
          · refine go_iconst (pc' := 36) (v := (nI 1)) d_Tri_hasRoomFor_35 (by decide) rfl ?_
            refine go_ireturn d_Tri_hasRoomFor_36 rfl (by rfl) ?_
            refine ⟨?_, f1, f2, f3⟩
            have hno : (q_f ks 4 (q_p 4 key)).length ≤ 1 := by
              have h1 := hT2.no hl4 hc
              have key2 : ∀ m, (q_f ks (l + 1 + m) (q_p (l + 1 + m) key)).length ≤ 1 ∨ 4 < l + 1 + m := by
                intro m
                induction m with
                | zero => exact Or.inl h1
                | succ m ihm =>
                  by_cases hlm : l + 1 + m < 4
                  · left
                    rcases ihm with h3 | h3
                    · rw [q_f_len4 ks hlm] at h3
                      have h4 := q_p_s hlm key
                      have h5 := q_d_lt (l + 1 + m) key
                      rw [show l + 1 + (m + 1) = l + 1 + m + 1 by omega, h4]
                      have h6 : q_d (l + 1 + m) key = 0 ∨ q_d (l + 1 + m) key = 1 ∨ q_d (l + 1 + m) key = 2 ∨ q_d (l + 1 + m) key = 3 := by omega
                      rcases h6 with h6 | h6 | h6 | h6 <;> rw [h6] <;> omega
                    · omega
                  · right; omega
              rcases key2 (3 - l) with h3 | h3
              · rw [show l + 1 + (3 - l) = 4 by omega] at h3
                exact h3
              · omega
            rw [if_pos (by omega)]
            rfl
    exact loop 4 0 root (by omega) (by rw [q_p_0]; exact hr)
  · refine go_iconst (pc' := 10) (v := (nI 0)) d_Tri_hasRoomFor_9 (by decide) rfl ?_
    refine go_ireturn d_Tri_hasRoomFor_10 rfl (by rfl) ?_
    exact ⟨by rw [if_neg (by omega)]; rfl, f1, f2, f3⟩
end TD
