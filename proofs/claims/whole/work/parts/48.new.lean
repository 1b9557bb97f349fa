/-! a new object -/
def s_0 : Sg := (va_up (fun _ => false) 0 true, fun _ => 0, va_up (fun _ => 0) 0 1, fun _ => [], fun i l p => if i = 0 ∧ l = 0 ∧ p = 0 then 1 else 0, 1, 0, 0, fun _ => false, fun _ => [], fun _ => 0)
def q_A0 (a : Nat) : Nat → Nat → Option Nat := fun l p => if l = 0 ∧ p = 0 then some a else none
section FC
variable {K : x_K} {d : Nat} {h f hh : x_H} {x a : Nat} {bel : Nat → Nat → Int32}
theorem Tr.empty (hN : Nd h a (bel 0 0) 4 (fun _ => none) 4 (fun _ => none)) : Tr h (q_A0 a) [] bel := by
  refine ⟨fun l p => ?_, fun l p b hb => ?_⟩
  · unfold q_A0
    constructor
    · rintro ⟨b, hb⟩
      split at hb
      · rename_i hc
        obtain ⟨rfl, rfl⟩ := hc
        exact ⟨by omega, by decide, Or.inl rfl⟩
      · cases hb
    · rintro ⟨h1, h2, h3⟩
      have hl : l = 0 := by
        rcases h3 with h3 | h3
        · exact h3
        · simp [q_f] at h3
      subst hl
      have : p = 0 := by
        have : p < 1 := h2
        omega
      exact ⟨a, if_pos ⟨rfl, this⟩⟩
  · unfold q_A0 at hb
    split at hb
    · rename_i hc
      obtain ⟨rfl, rfl⟩ := hc
      cases hb
      refine ⟨fun _ => ⟨_, _, hN, fun j hj => ⟨?_, ?_⟩⟩, fun e => by omega⟩
      · unfold q_A0
        rw [if_neg (by omega)]
      · simp [q_f, q_1, Eo]
    · cases hb
set_option maxRecDepth 100000 in
theorem s_Tri_init (hz : h.1 = x + 1) (h0 : h.2.2 x = some (.inr (5, [.null, .null, .int 0, .int 0, .long 0]))) (hd : 2 ≤ d) (hc1 : h.1 + 40 ≤ x_cap K) (hc2 : h.2.1 + 200 ≤ x_cas K) :
    Go K M_Tri_init d 0 [some (.ref x)] [] h (x_rt (fun v f => v = none ∧ CS f x s_0 ∧ h.1 ≤ f.1 ∧ f.1 ≤ h.1 + 40 ∧ h.2.1 ≤ f.2.1 ∧ f.2.1 ≤ h.2.1 + 200 ∧ ∀ b, b < x → f.2.2 b = h.2.2 b)) := by
  refine go_dom fun hdom => ?_
  have step : ∀ h1 : x_H, h1.2.2 x = some (.inr (5, [.ref (x + 1), .ref (x + 2), .int (nI 1), .int 0, .long 0])) → h1.2.2 (x + 1) = some (.inl (5, 6, .inr (.inr (.inr (.inr (fun _ => none)))))) → h1.2.2 (x + 2) = some (.inl (6, 4, .inr (.inr (.inr (.inr (fun _ => none)))))) → h1.1 = x + 3 → h1.2.1 = h.2.1 + 10 → (∀ b, b < x → h1.2.2 b = h.2.2 b) →
      Go K M_Tri_init d 26 [some (.ref x)] [] h1 (x_rt (fun v f => v = none ∧ CS f x s_0 ∧ h.1 ≤ f.1 ∧ f.1 ≤ h.1 + 40 ∧ h.2.1 ≤ f.2.1 ∧ f.2.1 ≤ h.2.1 + 200 ∧ ∀ b, b < x → f.2.2 b = h.2.2 b)) := by
    intro h1 a0 a1 a2 z1 q1 k1
    refine go_aload_n (pc' := 27) (i := 0) d_Tri_init_26 rfl rfl (by first | rfl | exact x_r_rf _) rfl ?_
    refine go_getfield (pc' := 30) d_Tri_init_27 c_Tri 0 (by decide) t_71 (by first | assumption | exact x_up_self _ _ _ | exact x_nw_self _ _ _ | (rw [x_up_ne (by first | omega | (simp only [x_up, x_nw]; omega))]; first | assumption | exact x_up_self _ _ _ | (rw [x_up_ne (by first | omega | (simp only [x_up, x_nw]; omega))]; first | assumption | exact x_up_self _ _ _)) | (rw [x_nw_ne (by first | omega | (simp only [x_up, x_nw]; omega))]; first | assumption | exact x_up_self _ _ _ | (rw [x_up_ne (by first | omega | (simp only [x_up, x_nw]; omega))]; assumption))) (by rfl) rfl ?_
    refine go_iconst (pc' := 31) (v := (nI 0)) d_Tri_init_30 (by decide) rfl ?_
    refine go_new (pc' := 34) (fs := [.null, .int 0, .int 0]) d_Tri_init_31 c_Map t_24 t_28 t_2 (by decide +kernel) (by first | assumption | omega | (simp only [x_up, x_nw]; omega)) (by first | assumption | omega | (simp only [x_up, x_nw]; omega)) rfl ?_
    rw [z1]
    obtain ⟨h2, hh2⟩ : ∃ h2, h2 = x_nw h1 3 (.inr (4, [.null, .int 0, .int 0])) := ⟨_, rfl⟩
    rw [show x_nw h1 _ _ = h2 from hh2.symm]
    have k2 : ∀ b, b ≠ x + 3 → h2.2.2 b = h1.2.2 b := fun b hb => by rw [hh2, x_nw_ne (by omega)]
    have n2 : h2.2.2 (x + 3) = some (.inr (4, [.null, .int 0, .int 0])) := by rw [hh2, ← z1]; exact x_nw_self _ _ _
    have z2 : h2.1 = x + 4 := by rw [hh2]; show h1.1 + 1 = _; omega
    have q2 : h2.2.1 = h.2.1 + 13 := by rw [hh2]; show h1.2.1 + 3 = _; omega
    refine go_dup (pc' := 35) d_Tri_init_34 (by first | rfl | exact x_c_rf _) rfl ?_
    refine go_new (pc' := 38) (fs := [.int 0, .null, .null]) d_Tri_init_35 c_Nod t_29 t_30 t_3 (by decide +kernel) (by first | assumption | omega | (simp only [x_up, x_nw]; omega)) (by first | assumption | omega | (simp only [x_up, x_nw]; omega)) rfl ?_
    rw [z2]
    obtain ⟨h3, hh3⟩ : ∃ h3, h3 = x_nw h2 3 (.inr (2, [.int 0, .null, .null])) := ⟨_, rfl⟩
    rw [show x_nw h2 _ _ = h3 from hh3.symm]
    have k3 : ∀ b, b ≠ x + 4 → h3.2.2 b = h2.2.2 b := fun b hb => by rw [hh3, x_nw_ne (by omega)]
    have n3 : h3.2.2 (x + 4) = some (.inr (2, [.int 0, .null, .null])) := by rw [hh3, ← z2]; exact x_nw_self _ _ _
    have z3 : h3.1 = x + 4 + 1 := by rw [hh3]; show h2.1 + 1 = _; omega
    have q3 : h3.2.1 = h.2.1 + 16 := by rw [hh3]; show h2.2.1 + 3 = _; omega
    have x3 : h3.2.2 x = some (.inr (5, [.ref (x + 1), .ref (x + 2), .int (nI 1), .int 0, .long 0])) := by rw [k3 _ (by omega), k2 _ (by omega)]; exact a0
    refine go_dup (pc' := 39) d_Tri_init_38 (by first | rfl | exact x_c_rf _) rfl ?_
    refine go_aload_n (pc' := 40) (i := 0) d_Tri_init_39 rfl rfl (by first | rfl | exact x_r_rf _) rfl ?_
    refine go_getfield (pc' := 43) d_Tri_init_40 c_Tri 2 (by decide) t_73 (by first | assumption | exact x_up_self _ _ _ | exact x_nw_self _ _ _ | (rw [x_up_ne (by first | omega | (simp only [x_up, x_nw]; omega))]; first | assumption | exact x_up_self _ _ _ | (rw [x_up_ne (by first | omega | (simp only [x_up, x_nw]; omega))]; first | assumption | exact x_up_self _ _ _)) | (rw [x_nw_ne (by first | omega | (simp only [x_up, x_nw]; omega))]; first | assumption | exact x_up_self _ _ _ | (rw [x_up_ne (by first | omega | (simp only [x_up, x_nw]; omega))]; assumption))) (by rfl) rfl ?_
    refine go_iconst (pc' := 44) (v := (nI 0)) d_Tri_init_43 (by decide) rfl ?_
    refine go_callI (pc' := 47) (M' := M_Nod_init) [_, _] d_Tri_init_44 rfl rfl t_31 t_32 t_33 rfl nm_Nod_init rfl rfl (Nat.le_of_ble_eq_true rfl) rfl (s_Nod_init (d := d - 1) z3 n3 (nI 1) (l := 0) (by omega) (by omega) (by omega)) (by first | decide | omega) (Nat.le_of_ble_eq_true rfl) rfl (fun v h4 hq => ?_) (fun q g hq => hq.elim)
    obtain ⟨rfl, z4, q4, n4, k4⟩ := hq
    show Go K M_Tri_init d 47 _ [_, _, _, _, _] h4 _
    have x4 : h4.2.2 x = some (.inr (5, [.ref (x + 1), .ref (x + 2), .int (nI 1), .int 0, .long 0])) := by rw [k4 _ (by omega)]; exact x3
    have t4 : h4.2.2 (x + 3) = some (.inr (4, [.null, .int 0, .int 0])) := by rw [k4 _ (by omega), k3 _ (by omega)]; exact n2
    refine go_aload_n (pc' := 48) (i := 0) d_Tri_init_47 rfl rfl (by first | rfl | exact x_r_rf _) rfl ?_
    refine go_getfield (pc' := 51) d_Tri_init_48 c_Tri 2 (by decide) t_73 (by first | assumption | exact x_up_self _ _ _ | exact x_nw_self _ _ _ | (rw [x_up_ne (by first | omega | (simp only [x_up, x_nw]; omega))]; first | assumption | exact x_up_self _ _ _ | (rw [x_up_ne (by first | omega | (simp only [x_up, x_nw]; omega))]; first | assumption | exact x_up_self _ _ _)) | (rw [x_nw_ne (by first | omega | (simp only [x_up, x_nw]; omega))]; first | assumption | exact x_up_self _ _ _ | (rw [x_up_ne (by first | omega | (simp only [x_up, x_nw]; omega))]; assumption))) (by rfl) rfl ?_
    refine go_iconst (pc' := 52) (v := (nI 0)) d_Tri_init_51 (by decide) rfl ?_
    refine go_callI (pc' := 55) (M' := M_Map_init) [_, _, _] d_Tri_init_52 rfl rfl t_54 t_55 t_56 rfl nm_Map_init rfl rfl (Nat.le_of_ble_eq_true rfl) rfl (s_Map_init (d := d - 1) t4 (x + 4) (nI 1) (nI 0) rfl rfl) (by first | decide | omega) (Nat.le_of_ble_eq_true rfl) rfl (fun v h5 hq => ?_) (fun q g hq => by cases hq.1)
    obtain ⟨e1, hh5⟩ := hq
    cases e1
    show Go K M_Tri_init d 55 _ [_, _, _] h5 _
    have k5 : ∀ b, b ≠ x + 3 → h5.2.2 b = h4.2.2 b := fun b hb => by rw [← hh5, x_up_ne hb]
    have n5 : h5.2.2 (x + 3) = some (.inr (4, [.ref (x + 4), .int (nI 1), .int (nI 0)])) := by rw [← hh5]; exact x_up_self _ _ _
    have m5 : h5.2.2 (x + 1) = some (.inl (5, 6, .inr (.inr (.inr (.inr (fun _ => none)))))) := by rw [k5 _ (by omega), k4 _ (by omega), k3 _ (by omega), k2 _ (by omega)]; exact a1
    have c5 : h5.2.2 (x + 2) = some (.inl (6, 4, .inr (.inr (.inr (.inr (fun _ => none)))))) := by rw [k5 _ (by omega), k4 _ (by omega), k3 _ (by omega), k2 _ (by omega)]; exact a2
    have x5 : h5.2.2 x = some (.inr (5, [.ref (x + 1), .ref (x + 2), .int (nI 1), .int 0, .long 0])) := by rw [k5 _ (by omega)]; exact x4
    refine go_aastR (pc' := 56) (ci := 4) (r := (n_Map, T_Map, 3)) d_Tri_init_55 m5 n5 (by rfl) (by rfl) (by omega) (by omega) rfl ?_
    obtain ⟨h6, hh6⟩ : ∃ h6, h6 = x_up h5 (x + 1) (.inl (5, 6, .inr (.inr (.inr (.inr (va_up (fun _ => none) 0 (some (x + 3)))))))) := ⟨_, rfl⟩
    rw [← hh6]
    have k6 : ∀ b, b ≠ x + 1 → h6.2.2 b = h5.2.2 b := fun b e1 => by rw [hh6, x_up_ne e1]
    refine go_return d_Tri_init_56 rfl ?_
    have z6 : h6.1 = x + 7 := by rw [hh6, ← hh5]; exact z4
    have q6 : h6.2.1 = h.2.1 + 24 := by rw [hh6, ← hh5]; show h4.2.1 = _; omega
    have one : ∀ i t, va_up (fun _ => none) 0 (some (x + 3)) i = some t → i = 0 := fun i t ht => by
      apply Classical.byContradiction
      intro h0
      rw [va_up_ne _ _ h0] at ht
      cases ht
    have onet : ∀ i, s_th s_0 i = true → i = 0 := fun i ht => by
      apply Classical.byContradiction
      intro h0
      have ht' : va_up (fun _ => false) 0 true i = true := ht
      rw [va_up_ne _ _ h0] at ht'
      cases ht'
    have hNd : Nd h6 (x + 4) (nB (fun l p => if l = 0 ∧ p = 0 then 1 else 0) 0 0) 4 (fun _ => none) 4 (fun _ => none) := ⟨by rw [k6 _ (by omega), k5 _ (by omega)]; exact n4.1, by rw [k6 _ (by omega), k5 _ (by omega)]; exact n4.2.1, by rw [k6 _ (by omega), k5 _ (by omega)]; exact n4.2.2⟩
    refine ⟨rfl, ⟨va_up (fun _ => none) 0 (some (x + 3)), fun _ => none, fun _ => q_A0 (x + 4), fun _ => (0, 0), fun _ _ _ => none, fun _ => [], fun _ _ _ => 0, ⟨by rw [k6 _ (by omega)]; exact x5, by rw [hh6]; exact x_up_self _ _ _, by rw [k6 _ (by omega)]; exact c5⟩, ⟨?_, ?_, ?_, ?_, ?_, ?_⟩, ⟨fun _ _ => rfl, nofun, nofun⟩, by decide⟩, by omega, by omega, by omega, by omega, fun b hb => ?_⟩
    · intro i hi
      show (va_up (fun _ => none) 0 (some (x + 3)) i).isSome = va_up (fun _ => false) 0 true i
      by_cases h0 : i = 0
      · subst h0; rw [va_up_self, va_up_self]; rfl
      · rw [va_up_ne _ _ h0, va_up_ne _ _ h0]; rfl
    · intro i t hi ht
      have h0 := one i t ht
      subst h0
      rw [va_up_self] at ht
      cases ht
      refine ⟨⟨x + 4, rfl, ?_⟩, ?_, fun l p a ha => ?_, ?_, Or.inl rfl, ?_, fun l p a ha => ?_⟩
      · rw [k6 _ (by omega)]
        exact n5
      · exact Tr.cg (Tr.empty hNd) (fun l p a ha => by
          have ha' : (if l = 0 ∧ p = 0 then some (x + 4) else none) = some a := ha
          split at ha'
          · rename_i hc
            obtain ⟨rfl, rfl⟩ := hc
            rfl
          · cases ha')
      · have ha' : (if l = 0 ∧ p = 0 then some (x + 4) else none) = some a := ha
        split at ha'
        · rename_i hc
          obtain ⟨rfl, rfl⟩ := hc
          rfl
        · cases ha'
      · exact ⟨Nat.zero_le _, List.nodup_nil, fun p => Nat.zero_le _⟩
      · exact Nat.le_refl 1
      · show (if (0 : Nat) = 0 ∧ l = 0 ∧ p = 0 then 1 else 0) ≤ 1
        split <;> omega
    · intro i j t hi hj h1 h2
      rw [one i t h1, one j t h2]
    · intro i j hi hj hne h1 h2
      exact absurd ((onet i h1).trans (onet j h2).symm) hne
    · intro i j hi hj h1 h2 l p a b ha hb _
      exact Option.some.inj (ha.symm.trans hb)
    · intro i j hi hj hne h1 h2
      exact absurd ((onet i h1).trans (onet j h2).symm) hne
    · rw [k6 _ (by omega), k5 _ (by omega), k4 _ (by omega), k3 _ (by omega), k2 _ (by omega)]; exact k1 b hb
  obtain ⟨z, q, f⟩ := h
  have hz' : z = x + 1 := hz
  subst hz'
  dsimp only at h0 hc1 hc2
  refine go_aload_n (pc' := 1) (i := 0) d_Tri_init_0 rfl rfl (by first | rfl | exact x_r_rf _) rfl ?_
  refine go_objInit (pc' := 4) d_Tri_init_1 t_21 t_22 t_23 (Nat.le_of_ble_eq_true rfl) rfl ?_
  refine go_aload_n (pc' := 5) (i := 0) d_Tri_init_4 rfl rfl (by first | rfl | exact x_r_rf _) rfl ?_
  refine go_bipush (pc' := 7) (v := (nI 6)) d_Tri_init_5 (by decide) rfl ?_
  refine go_anewarray (pc' := 10) (kd := 5) (N' := 6) d_Tri_init_7 t_24 t_25 rfl (by decide) (by decide) (by decide) (by first | assumption | omega | (simp only [x_up, x_nw]; omega)) (by first | assumption | omega | (simp only [x_up, x_nw]; omega)) rfl ?_
  refine go_putfinal (pc' := 13) d_Tri_init_10 c_Tri 0 (by decide) rfl rfl rfl t_71 (by first | assumption | exact x_up_self _ _ _ | exact x_nw_self _ _ _ | (rw [x_up_ne (by first | omega | (simp only [x_up, x_nw]; omega))]; first | assumption | exact x_up_self _ _ _ | (rw [x_up_ne (by first | omega | (simp only [x_up, x_nw]; omega))]; first | assumption | exact x_up_self _ _ _)) | (rw [x_nw_ne (by first | omega | (simp only [x_up, x_nw]; omega))]; first | assumption | exact x_up_self _ _ _ | (rw [x_up_ne (by first | omega | (simp only [x_up, x_nw]; omega))]; assumption))) (by rfl) (by rfl) (by first | exact Nat.le_of_ble_eq_true rfl | simp) rfl ?_
  refine go_aload_n (pc' := 14) (i := 0) d_Tri_init_13 rfl rfl (by first | rfl | exact x_r_rf _) rfl ?_
  refine go_iconst (pc' := 15) (v := (nI 4)) d_Tri_init_14 (by decide) rfl ?_
  refine go_anewarray (pc' := 18) (kd := 6) (N' := 4) d_Tri_init_15 t_26 t_27 rfl (by decide) (by decide) (by decide) (by first | assumption | omega | (simp only [x_up, x_nw]; omega)) (by first | assumption | omega | (simp only [x_up, x_nw]; omega)) rfl ?_
  refine go_putfinal (pc' := 21) d_Tri_init_18 c_Tri 1 (by decide) rfl rfl rfl t_72 (by first | assumption | exact x_up_self _ _ _ | exact x_nw_self _ _ _ | (rw [x_up_ne (by first | omega | (simp only [x_up, x_nw]; omega))]; first | assumption | exact x_up_self _ _ _ | (rw [x_up_ne (by first | omega | (simp only [x_up, x_nw]; omega))]; first | assumption | exact x_up_self _ _ _)) | (rw [x_nw_ne (by first | omega | (simp only [x_up, x_nw]; omega))]; first | assumption | exact x_up_self _ _ _ | (rw [x_up_ne (by first | omega | (simp only [x_up, x_nw]; omega))]; assumption))) (by rfl) (by rfl) (by first | exact Nat.le_of_ble_eq_true rfl | simp) rfl ?_
  refine go_aload_n (pc' := 22) (i := 0) d_Tri_init_21 rfl rfl (by first | rfl | exact x_r_rf _) rfl ?_
  refine go_iconst (pc' := 23) (v := (nI 1)) d_Tri_init_22 (by decide) rfl ?_
  refine go_putfield (pc' := 26) d_Tri_init_23 c_Tri 2 (by decide) rfl t_73 (by first | assumption | exact x_up_self _ _ _ | exact x_nw_self _ _ _ | (rw [x_up_ne (by first | omega | (simp only [x_up, x_nw]; omega))]; first | assumption | exact x_up_self _ _ _ | (rw [x_up_ne (by first | omega | (simp only [x_up, x_nw]; omega))]; first | assumption | exact x_up_self _ _ _)) | (rw [x_nw_ne (by first | omega | (simp only [x_up, x_nw]; omega))]; first | assumption | exact x_up_self _ _ _ | (rw [x_up_ne (by first | omega | (simp only [x_up, x_nw]; omega))]; assumption))) (by rfl) (by rfl) (by first | exact Nat.le_of_ble_eq_true rfl | simp) rfl ?_
  refine step _ (x_up_self _ _ _) ?_ ?_ rfl rfl ?_
  · rw [x_up_ne (by omega), x_up_ne (by omega), x_nw_ne (by simp only [x_up, x_nw]; omega), x_up_ne (by omega)]
    exact x_nw_self _ _ _
  · rw [x_up_ne (by omega), x_up_ne (by omega)]
    exact x_nw_self _ _ _
  · intro b hb
    rw [x_up_ne (by omega), x_up_ne (by omega), x_nw_ne (by simp only [x_up, x_nw]; omega), x_up_ne (by omega), x_nw_ne (by simp only; omega)]
end FC
