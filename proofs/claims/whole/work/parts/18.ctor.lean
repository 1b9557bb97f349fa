section CA
variable {K : x_K} {d : Nat} {h : x_H} {a : Nat} {g : Int32} {n k : Nat} {es ns : Nat → Option Nat}
/-- a bag's entries when those from 'fr' up to 'at' have moved up -/
def q_sh (es : Nat → Option Nat) (n fr i : Nat) : Nat → Option Nat := fun j => if fr ≤ j ∧ j < i then (if j + 1 < n then es (j + 1) else none) else es j
theorem s_takeOutOfBag (hN : Nd h a g n es k ns) (hn : n ≤ 6) {kf : Nat → Int32} (hE : ∀ j, j < n → ∀ e, es j = some e → ∃ v, Et h e (kf e) v) (key : Int32) (hd : 1 ≤ d) {fr : Nat} (hfr : q_pl es kf key n 0 = some fr) :
    Go K M_Nod_takeOutOfBag d 0 [some (.ref a), some (.int key), none, none] [] h (x_is none (x_up h (a + 1) (.inl (3, n, .inr (.inr (.inr (.inr (q_sh es n fr n)))))))) := by
  have hN' := hN
  obtain ⟨h0, h1, h2⟩ := hN
  have hl := q_pl_lt es kf key n 0 fr hfr
  refine go_aload_n (pc' := 1) (i := 0) d_Nod_takeOutOfBag_0 rfl rfl (by first | rfl | exact x_r_rf _) rfl ?_
  refine go_iload_n (pc' := 2) (i := 1) d_Nod_takeOutOfBag_1 rfl rfl rfl ?_
  refine go_callV (pc' := 5) (M' := M_Nod_placeInBag) (ci := 2) (r := (n_Nod, T_Nod, 3)) [_] d_Nod_takeOutOfBag_2 t_316 t_200 t_201 cd_Nod_placeInBag nm_Nod_placeInBag rfl (by rfl) (by first | assumption | exact x_up_self _ _ _ | exact x_nw_self _ _ _ | (rw [x_up_ne (by first | omega | (simp only [x_up, x_nw]; omega))]; first | assumption | exact x_up_self _ _ _ | (rw [x_up_ne (by first | omega | (simp only [x_up, x_nw]; omega))]; first | assumption | exact x_up_self _ _ _)) | (rw [x_nw_ne (by first | omega | (simp only [x_up, x_nw]; omega))]; first | assumption | exact x_up_self _ _ _ | (rw [x_up_ne (by first | omega | (simp only [x_up, x_nw]; omega))]; assumption))) rfl (Nat.le_of_ble_eq_true rfl) rfl (s_placeInBag (d := d - 1) hN' hn hE key) (by first | decide | omega) (Nat.le_of_ble_eq_true rfl) rfl (fun v hh hq => ?_) (fun q g hq => by cases hq.1)
  obtain ⟨e1, rfl⟩ := hq
  cases e1
  rw [hfr]
  show Go K M_Nod_takeOutOfBag d 5 _ [.int (nI fr)] h _
  refine go_istore_n (pc' := 6) (i := 2) d_Nod_takeOutOfBag_5 rfl (by decide) (x_s2 (by first | rfl | exact x_k_rf _)) rfl ?_
  refine go_iload_n (pc' := 7) (i := 2) d_Nod_takeOutOfBag_6 rfl rfl rfl ?_
  refine go_iconst (pc' := 8) (v := (-1)) d_Nod_takeOutOfBag_7 (by decide) rfl ?_
  refine go_icmp_ne (tgt := 12) (pc' := 11) d_Nod_takeOutOfBag_8 (by decide) rfl (fun hc => ?_) (fun hc => ?_)
  · refine go_iload_n (pc' := 13) (i := 2) d_Nod_takeOutOfBag_12 rfl rfl rfl ?_
    refine go_istore_n (pc' := 14) (i := 3) d_Nod_takeOutOfBag_13 rfl (by decide) (x_s3 (by first | rfl | exact x_k_rf _)) rfl ?_
    have loop : ∀ r i, i + r = n → fr ≤ i → Go K M_Nod_takeOutOfBag d 14 [some (.ref a), some (.int key), some (.int (nI fr)), some (.int (nI i))] [] (x_up h (a + 1) (.inl (3, n, .inr (.inr (.inr (.inr (q_sh es n fr i)))))))
        (x_is none (x_up h (a + 1) (.inl (3, n, .inr (.inr (.inr (.inr (q_sh es n fr n)))))))) := by
      intro r
      induction r with
      | zero =>
        intro i hi hf
        have hin : i = n := by omega
        subst hin
        refine go_iload_n (pc' := 15) (i := 3) d_Nod_takeOutOfBag_14 rfl rfl rfl ?_
        refine go_aload_n (pc' := 16) (i := 0) d_Nod_takeOutOfBag_15 rfl rfl (by first | rfl | exact x_r_rf _) rfl ?_
        refine go_getfield (pc' := 19) d_Nod_takeOutOfBag_16 c_Nod 1 (by decide) t_42 (by first | assumption | exact x_up_self _ _ _ | exact x_nw_self _ _ _ | (rw [x_up_ne (by first | omega | (simp only [x_up, x_nw]; omega))]; first | assumption | exact x_up_self _ _ _ | (rw [x_up_ne (by first | omega | (simp only [x_up, x_nw]; omega))]; first | assumption | exact x_up_self _ _ _)) | (rw [x_nw_ne (by first | omega | (simp only [x_up, x_nw]; omega))]; first | assumption | exact x_up_self _ _ _ | (rw [x_up_ne (by first | omega | (simp only [x_up, x_nw]; omega))]; assumption))) (by rfl) rfl ?_
        refine go_alenN (pc' := 20) d_Nod_takeOutOfBag_19 (by first | assumption | exact x_up_self _ _ _ | exact x_nw_self _ _ _ | (rw [x_up_ne (by first | omega | (simp only [x_up, x_nw]; omega))]; first | assumption | exact x_up_self _ _ _ | (rw [x_up_ne (by first | omega | (simp only [x_up, x_nw]; omega))]; first | assumption | exact x_up_self _ _ _)) | (rw [x_nw_ne (by first | omega | (simp only [x_up, x_nw]; omega))]; first | assumption | exact x_up_self _ _ _ | (rw [x_up_ne (by first | omega | (simp only [x_up, x_nw]; omega))]; assumption))) (by rfl) rfl ?_
        refine go_icmp_geN (tgt := 42) (pc' := 23) d_Nod_takeOutOfBag_20 (by decide) rfl (by omega) (by omega) (fun hc => ?_) (fun hc => ?_)
        · refine go_return d_Nod_takeOutOfBag_42 rfl ?_
          exact ⟨rfl, rfl⟩
        · omega
      | succ r ih =>
        intro i hi hf
        refine go_iload_n (pc' := 15) (i := 3) d_Nod_takeOutOfBag_14 rfl rfl rfl ?_
        refine go_aload_n (pc' := 16) (i := 0) d_Nod_takeOutOfBag_15 rfl rfl (by first | rfl | exact x_r_rf _) rfl ?_
        refine go_getfield (pc' := 19) d_Nod_takeOutOfBag_16 c_Nod 1 (by decide) t_42 (by first | assumption | exact x_up_self _ _ _ | exact x_nw_self _ _ _ | (rw [x_up_ne (by first | omega | (simp only [x_up, x_nw]; omega))]; first | assumption | exact x_up_self _ _ _ | (rw [x_up_ne (by first | omega | (simp only [x_up, x_nw]; omega))]; first | assumption | exact x_up_self _ _ _)) | (rw [x_nw_ne (by first | omega | (simp only [x_up, x_nw]; omega))]; first | assumption | exact x_up_self _ _ _ | (rw [x_up_ne (by first | omega | (simp only [x_up, x_nw]; omega))]; assumption))) (by rfl) rfl ?_
        refine go_alenN (pc' := 20) d_Nod_takeOutOfBag_19 (by first | assumption | exact x_up_self _ _ _ | exact x_nw_self _ _ _ | (rw [x_up_ne (by first | omega | (simp only [x_up, x_nw]; omega))]; first | assumption | exact x_up_self _ _ _ | (rw [x_up_ne (by first | omega | (simp only [x_up, x_nw]; omega))]; first | assumption | exact x_up_self _ _ _)) | (rw [x_nw_ne (by first | omega | (simp only [x_up, x_nw]; omega))]; first | assumption | exact x_up_self _ _ _ | (rw [x_up_ne (by first | omega | (simp only [x_up, x_nw]; omega))]; assumption))) (by rfl) rfl ?_
        refine go_icmp_geN (tgt := 42) (pc' := 23) d_Nod_takeOutOfBag_20 (by decide) rfl (by omega) (by omega) (fun hc => ?_) (fun hc => ?_)
        · omega
        · refine go_aload_n (pc' := 24) (i := 0) d_Nod_takeOutOfBag_23 rfl rfl (by first | rfl | exact x_r_rf _) rfl ?_
          refine go_getfield (pc' := 27) d_Nod_takeOutOfBag_24 c_Nod 1 (by decide) t_42 (by first | assumption | exact x_up_self _ _ _ | exact x_nw_self _ _ _ | (rw [x_up_ne (by first | omega | (simp only [x_up, x_nw]; omega))]; first | assumption | exact x_up_self _ _ _ | (rw [x_up_ne (by first | omega | (simp only [x_up, x_nw]; omega))]; first | assumption | exact x_up_self _ _ _)) | (rw [x_nw_ne (by first | omega | (simp only [x_up, x_nw]; omega))]; first | assumption | exact x_up_self _ _ _ | (rw [x_up_ne (by first | omega | (simp only [x_up, x_nw]; omega))]; assumption))) (by rfl) rfl ?_
          refine go_iload_n (pc' := 28) (i := 3) d_Nod_takeOutOfBag_27 rfl rfl rfl ?_
          refine go_aload_n (pc' := 29) (i := 0) d_Nod_takeOutOfBag_28 rfl rfl (by first | rfl | exact x_r_rf _) rfl ?_
          refine go_iload_n (pc' := 30) (i := 3) d_Nod_takeOutOfBag_29 rfl rfl rfl ?_
          refine go_iconst (pc' := 31) (v := (nI 1)) d_Nod_takeOutOfBag_30 (by decide) rfl ?_
          refine go_iadd (pc' := 32) d_Nod_takeOutOfBag_31 rfl ?_
          rw [nI_add]
          have hNu : Nd (x_up h (a + 1) (.inl (3, n, .inr (.inr (.inr (.inr (q_sh es n fr i))))))) a _ n (q_sh es n fr i) k ns :=
            ⟨(x_up_ne (by omega)).trans h0, x_up_self _ _ _, (x_up_ne (by omega)).trans h2⟩
          refine go_callV (pc' := 35) (M' := M_Nod_entryAt) (ci := 2) (r := (n_Nod, T_Nod, 3)) [_] d_Nod_takeOutOfBag_32 t_358 t_296 t_297 cd_Nod_entryAt nm_Nod_entryAt rfl (by rfl) (by first | assumption | exact x_up_self _ _ _ | exact x_nw_self _ _ _ | (rw [x_up_ne (by first | omega | (simp only [x_up, x_nw]; omega))]; first | assumption | exact x_up_self _ _ _ | (rw [x_up_ne (by first | omega | (simp only [x_up, x_nw]; omega))]; first | assumption | exact x_up_self _ _ _)) | (rw [x_nw_ne (by first | omega | (simp only [x_up, x_nw]; omega))]; first | assumption | exact x_up_self _ _ _ | (rw [x_up_ne (by first | omega | (simp only [x_up, x_nw]; omega))]; assumption))) rfl (Nat.le_of_ble_eq_true rfl) rfl (s_entryAt (d := d - 1) hNu hn (j := i + 1) (by omega)) (by first | decide | omega) (Nat.le_of_ble_eq_true rfl) rfl (fun v hh hq => ?_) (fun q g hq => by cases hq.1)
          obtain ⟨e1, rfl⟩ := hq
          cases e1
          refine go_aastO' (pc' := 36) (ci := 1) (r := (n_Ent, T_Ent, 2)) d_Nod_takeOutOfBag_35 (x_up_self _ _ _) ?_ (by rfl) (by rfl) (by omega) (by omega) rfl ?_
          · intro b hb
            by_cases hlt : i + 1 < n
            · rw [if_pos hlt] at hb
              have hb' : es (i + 1) = some b := by
                unfold q_sh at hb
                rw [if_neg (by omega)] at hb
                exact hb
              obtain ⟨v, hv⟩ := hE (i + 1) hlt b hb'
              exact ⟨_, (x_up_ne (fun z => by rw [z] at hv; unfold Et at hv; rw [h1] at hv; cases hv)).trans hv⟩
            · rw [if_neg hlt] at hb; cases hb
          · rw [x_up_up]
            have e : va_up (q_sh es n fr i) i (if i + 1 < n then q_sh es n fr i (i + 1) else none) = q_sh es n fr (i + 1) := by
              funext j
              unfold va_up q_sh
              by_cases hj : j = i
              · subst hj
                have h4 : fr ≤ j ∧ j < j + 1 := ⟨hf, by omega⟩
                have h5 : ¬ (fr ≤ j + 1 ∧ j + 1 < j) := by omega
                simp only [h4, h5, if_true, if_false, and_self]
              · by_cases h3 : fr ≤ j ∧ j < i
                · have h4 : fr ≤ j ∧ j < i + 1 := ⟨h3.1, by omega⟩
                  simp only [hj, h3, h4, if_true, if_false, and_self]
                · have h4 : ¬ (fr ≤ j ∧ j < i + 1) := by omega
                  simp only [hj, h3, h4, if_false]
            rw [e]
            refine go_iinc (pc' := 39) (i := 3) d_Nod_takeOutOfBag_36 rfl (x_i1 _) (by decide) (x_s3 (by first | rfl | exact x_k_rf _)) rfl ?_
            refine go_goto (tgt := 14) d_Nod_takeOutOfBag_39 (by decide) ?_
            exact ih (i + 1) (by omega) (by omega)
    have e0 : x_up h (a + 1) (.inl (3, n, .inr (.inr (.inr (.inr (q_sh es n fr fr)))))) = h := by
      have e1 : q_sh es n fr fr = es := by
        funext j
        unfold q_sh
        rw [if_neg (by omega)]
      rw [e1]
      unfold x_up
      refine Prod.ext rfl (Prod.ext rfl ?_)
      funext j
      by_cases hj : j = a + 1
      · subst hj; simp [va_up, h1]
      · simp [va_up, hj]
    have hh := loop (n - fr) fr (by omega) (Nat.le_refl _)
    rw [e0] at hh
    exact hh
  · exfalso
    have := congrArg Int32.toInt hc
    rw [nI_toInt (by omega)] at this
    have h2 : (-1 : Int32).toInt = -1 := by decide
    omega
theorem s_Ent_init (h0 : h.2.2 a = some (.inr (1, [.int 0, .long 0]))) (key : Int32) (v : Int64) : Go K M_Ent_init d 0 [some (.ref a), some (.int key), some (.long v), none] [] h (x_is none (x_up h a (.inr (1, [.int key, .long v])))) := by
  refine go_aload_n (pc' := 1) (i := 0) d_Ent_init_0 rfl rfl (by first | rfl | exact x_r_rf _) rfl ?_
  refine go_objInit (pc' := 4) d_Ent_init_1 t_274 t_22 t_23 (Nat.le_of_ble_eq_true rfl) rfl ?_
  refine go_aload_n (pc' := 5) (i := 0) d_Ent_init_4 rfl rfl (by first | rfl | exact x_r_rf _) rfl ?_
  refine go_iload_n (pc' := 6) (i := 1) d_Ent_init_5 rfl rfl rfl ?_
  refine go_putfinal (pc' := 9) d_Ent_init_6 c_Ent 0 (by decide) rfl rfl rfl t_275 (by first | assumption | exact x_up_self _ _ _ | exact x_nw_self _ _ _ | (rw [x_up_ne (by first | omega | (simp only [x_up, x_nw]; omega))]; first | assumption | exact x_up_self _ _ _ | (rw [x_up_ne (by first | omega | (simp only [x_up, x_nw]; omega))]; first | assumption | exact x_up_self _ _ _)) | (rw [x_nw_ne (by first | omega | (simp only [x_up, x_nw]; omega))]; first | assumption | exact x_up_self _ _ _ | (rw [x_up_ne (by first | omega | (simp only [x_up, x_nw]; omega))]; assumption))) (by rfl) (by rfl) (by first | exact Nat.le_of_ble_eq_true rfl | simp) rfl ?_
  refine go_aload_n (pc' := 10) (i := 0) d_Ent_init_9 rfl rfl (by first | rfl | exact x_r_rf _) rfl ?_
  refine go_lload_n (pc' := 11) (i := 2) d_Ent_init_10 rfl rfl rfl ?_
  refine go_putfinal (pc' := 14) d_Ent_init_11 c_Ent 1 (by decide) rfl rfl rfl t_278 (by first | assumption | exact x_up_self _ _ _ | exact x_nw_self _ _ _ | (rw [x_up_ne (by first | omega | (simp only [x_up, x_nw]; omega))]; first | assumption | exact x_up_self _ _ _ | (rw [x_up_ne (by first | omega | (simp only [x_up, x_nw]; omega))]; first | assumption | exact x_up_self _ _ _)) | (rw [x_nw_ne (by first | omega | (simp only [x_up, x_nw]; omega))]; first | assumption | exact x_up_self _ _ _ | (rw [x_up_ne (by first | omega | (simp only [x_up, x_nw]; omega))]; assumption))) (by rfl) (by rfl) (by first | exact Nat.le_of_ble_eq_true rfl | simp) rfl ?_
  refine go_return d_Ent_init_14 rfl ?_
  exact ⟨rfl, (x_up_up _ _ _ _).symm⟩
theorem s_Map_init (h0 : h.2.2 a = some (.inr (4, [.null, .int 0, .int 0]))) (r : Nat) (g ro : Int32) (hro : narrow .boolean (.int ro) = .int ro) (hfit : fits .boolean (.int ro) = true) : Go K M_Map_init d 0 [some (.ref a), some (.ref r), some (.int g), some (.int ro)] [] h (x_is none (x_up h a (.inr (4, [.ref r, .int g, .int ro])))) := by
  refine go_aload_n (pc' := 1) (i := 0) d_Map_init_0 rfl rfl (by first | rfl | exact x_r_rf _) rfl ?_
  refine go_objInit (pc' := 4) d_Map_init_1 t_57 t_22 t_23 (Nat.le_of_ble_eq_true rfl) rfl ?_
  refine go_aload_n (pc' := 5) (i := 0) d_Map_init_4 rfl rfl (by first | rfl | exact x_r_rf _) rfl ?_
  refine go_aload_n (pc' := 6) (i := 1) d_Map_init_5 rfl rfl (by first | rfl | exact x_r_rf _) rfl ?_
  refine go_putfield (pc' := 9) d_Map_init_6 c_Map 0 (by decide) rfl t_58 (by first | assumption | exact x_up_self _ _ _ | exact x_nw_self _ _ _ | (rw [x_up_ne (by first | omega | (simp only [x_up, x_nw]; omega))]; first | assumption | exact x_up_self _ _ _ | (rw [x_up_ne (by first | omega | (simp only [x_up, x_nw]; omega))]; first | assumption | exact x_up_self _ _ _)) | (rw [x_nw_ne (by first | omega | (simp only [x_up, x_nw]; omega))]; first | assumption | exact x_up_self _ _ _ | (rw [x_up_ne (by first | omega | (simp only [x_up, x_nw]; omega))]; assumption))) (by rfl) (by rfl) (by first | exact Nat.le_of_ble_eq_true rfl | simp) rfl ?_
  refine go_aload_n (pc' := 10) (i := 0) d_Map_init_9 rfl rfl (by first | rfl | exact x_r_rf _) rfl ?_
  refine go_iload_n (pc' := 11) (i := 2) d_Map_init_10 rfl rfl rfl ?_
  refine go_putfield (pc' := 14) d_Map_init_11 c_Map 1 (by decide) rfl t_60 (by first | assumption | exact x_up_self _ _ _ | exact x_nw_self _ _ _ | (rw [x_up_ne (by first | omega | (simp only [x_up, x_nw]; omega))]; first | assumption | exact x_up_self _ _ _ | (rw [x_up_ne (by first | omega | (simp only [x_up, x_nw]; omega))]; first | assumption | exact x_up_self _ _ _)) | (rw [x_nw_ne (by first | omega | (simp only [x_up, x_nw]; omega))]; first | assumption | exact x_up_self _ _ _ | (rw [x_up_ne (by first | omega | (simp only [x_up, x_nw]; omega))]; assumption))) (by rfl) (by rfl) (by first | exact Nat.le_of_ble_eq_true rfl | simp) rfl ?_
  refine go_aload_n (pc' := 15) (i := 0) d_Map_init_14 rfl rfl (by first | rfl | exact x_r_rf _) rfl ?_
  refine go_iload_n (pc' := 16) (i := 3) d_Map_init_15 rfl rfl rfl ?_
  refine go_putfinal (pc' := 19) d_Map_init_16 c_Map 2 (by decide) rfl rfl rfl t_62 (x_up_self _ _ _) hro hfit (by exact Nat.le_of_ble_eq_true rfl) rfl ?_
  refine go_return d_Map_init_19 rfl ?_
  exact ⟨rfl, by rw [x_up_up, x_up_up]; rfl⟩
theorem s_Tal_init (h0 : h.2.2 a = some (.inr (3, [.int 0, .int 0, .int 0, .int 0, .int 0, .int 0]))) (g : Int32) : Go K M_Tal_init d 0 [some (.ref a), some (.int g)] [] h (x_is none (x_up h a (.inr (3, [.int g, .int 0, .int 0, .int 0, .int 0, .int 0])))) := by
  refine go_aload_n (pc' := 1) (i := 0) d_Tal_init_0 rfl rfl (by first | rfl | exact x_r_rf _) rfl ?_
  refine go_objInit (pc' := 4) d_Tal_init_1 t_214 t_22 t_23 (Nat.le_of_ble_eq_true rfl) rfl ?_
  refine go_aload_n (pc' := 5) (i := 0) d_Tal_init_4 rfl rfl (by first | rfl | exact x_r_rf _) rfl ?_
  refine go_iload_n (pc' := 6) (i := 1) d_Tal_init_5 rfl rfl rfl ?_
  refine go_putfinal (pc' := 9) d_Tal_init_6 c_Tal 0 (by decide) rfl rfl rfl t_215 (by first | assumption | exact x_up_self _ _ _ | exact x_nw_self _ _ _ | (rw [x_up_ne (by first | omega | (simp only [x_up, x_nw]; omega))]; first | assumption | exact x_up_self _ _ _ | (rw [x_up_ne (by first | omega | (simp only [x_up, x_nw]; omega))]; first | assumption | exact x_up_self _ _ _)) | (rw [x_nw_ne (by first | omega | (simp only [x_up, x_nw]; omega))]; first | assumption | exact x_up_self _ _ _ | (rw [x_up_ne (by first | omega | (simp only [x_up, x_nw]; omega))]; assumption))) (by rfl) (by rfl) (by first | exact Nat.le_of_ble_eq_true rfl | simp) rfl ?_
  refine go_return d_Tal_init_9 rfl ?_
  exact ⟨rfl, rfl⟩
theorem q_ext {h g : x_H} (h1 : g.1 = h.1) (h2 : g.2.1 = h.2.1) (h3 : ∀ b, g.2.2 b = h.2.2 b) : g = h := Prod.ext h1 (Prod.ext h2 (funext h3))
theorem s_Nod_init (hz : h.1 = a + 1) (h0 : h.2.2 a = some (.inr (2, [.int 0, .null, .null]))) (g : Int32) {l : Nat} (hl : l < 4) (hc1 : h.1 + 2 ≤ x_cap K) (hc2 : h.2.1 + 8 ≤ x_cas K) :
    Go K M_Nod_init d 0 [some (.ref a), some (.int g), some (.int (nI l)), none] [] h (x_rt (fun v f => v = none ∧ f.1 = a + 3 ∧ f.2.1 = h.2.1 + 8 ∧ Nd f a g 4 (fun _ => none) 4 (fun _ => none) ∧ ∀ b, b < a → f.2.2 b = h.2.2 b)) := by
  obtain ⟨z, q, f⟩ := h
  have hz' : z = a + 1 := hz
  subst hz'
  dsimp only at hc1 hc2
  refine go_aload_n (pc' := 1) (i := 0) d_Nod_init_0 rfl rfl (by first | rfl | exact x_r_rf _) rfl ?_
  refine go_objInit (pc' := 4) d_Nod_init_1 t_34 t_22 t_23 (Nat.le_of_ble_eq_true rfl) rfl ?_
  refine go_iload_n (pc' := 5) (i := 2) d_Nod_init_4 rfl rfl rfl ?_
  refine go_iconst (pc' := 6) (v := (nI 4)) d_Nod_init_5 (by decide) rfl ?_
  refine go_icmp_ltN (tgt := 13) (pc' := 9) d_Nod_init_6 (by decide) rfl (by omega) (by omega) (fun hc => ?_) (fun hc => ?_)
  · refine go_iconst (pc' := 14) (v := (nI 0)) d_Nod_init_13 (by decide) rfl ?_
    refine go_istore_n (pc' := 15) (i := 3) d_Nod_init_14 rfl (by decide) (x_s3 (by first | rfl | exact x_k_rf _)) rfl ?_
    refine go_aload_n (pc' := 16) (i := 0) d_Nod_init_15 rfl rfl (by first | rfl | exact x_r_rf _) rfl ?_
    refine go_iload_n (pc' := 17) (i := 1) d_Nod_init_16 rfl rfl rfl ?_
    refine go_putfinal (pc' := 20) d_Nod_init_17 c_Nod 0 (by decide) rfl rfl rfl t_39 (by first | assumption | exact x_up_self _ _ _ | exact x_nw_self _ _ _ | (rw [x_up_ne (by first | omega | (simp only [x_up, x_nw]; omega))]; first | assumption | exact x_up_self _ _ _ | (rw [x_up_ne (by first | omega | (simp only [x_up, x_nw]; omega))]; first | assumption | exact x_up_self _ _ _)) | (rw [x_nw_ne (by first | omega | (simp only [x_up, x_nw]; omega))]; first | assumption | exact x_up_self _ _ _ | (rw [x_up_ne (by first | omega | (simp only [x_up, x_nw]; omega))]; assumption))) (by rfl) (by rfl) (by first | exact Nat.le_of_ble_eq_true rfl | simp) rfl ?_
    refine go_aload_n (pc' := 21) (i := 0) d_Nod_init_20 rfl rfl (by first | rfl | exact x_r_rf _) rfl ?_
    refine go_iload_n (pc' := 22) (i := 3) d_Nod_init_21 rfl rfl rfl ?_
    refine go_if_eq (tgt := 30) (pc' := 25) d_Nod_init_22 (by decide) rfl (fun hc => ?_) (fun hc => ?_)
    · refine go_iconst (pc' := 31) (v := (nI 4)) d_Nod_init_30 (by decide) rfl ?_
      refine go_anewarray (pc' := 34) (kd := 3) (N' := 4) d_Nod_init_31 t_35 t_36 rfl (by decide) (by decide) (by decide) (by first | assumption | omega | (simp only [x_up, x_nw]; omega)) (by first | assumption | omega | (simp only [x_up, x_nw]; omega)) rfl ?_
      refine go_putfinal (pc' := 37) d_Nod_init_34 c_Nod 1 (by decide) rfl rfl rfl t_42 (by first | assumption | exact x_up_self _ _ _ | exact x_nw_self _ _ _ | (rw [x_up_ne (by first | omega | (simp only [x_up, x_nw]; omega))]; first | assumption | exact x_up_self _ _ _ | (rw [x_up_ne (by first | omega | (simp only [x_up, x_nw]; omega))]; first | assumption | exact x_up_self _ _ _)) | (rw [x_nw_ne (by first | omega | (simp only [x_up, x_nw]; omega))]; first | assumption | exact x_up_self _ _ _ | (rw [x_up_ne (by first | omega | (simp only [x_up, x_nw]; omega))]; assumption))) (by rfl) (by rfl) (by first | exact Nat.le_of_ble_eq_true rfl | simp) rfl ?_
      refine go_aload_n (pc' := 38) (i := 0) d_Nod_init_37 rfl rfl (by first | rfl | exact x_r_rf _) rfl ?_
      refine go_iload_n (pc' := 39) (i := 3) d_Nod_init_38 rfl rfl rfl ?_
      refine go_if_eq (tgt := 46) (pc' := 42) d_Nod_init_39 (by decide) rfl (fun hc => ?_) (fun hc => ?_)
      · refine go_iconst (pc' := 47) (v := (nI 4)) d_Nod_init_46 (by decide) rfl ?_
        refine go_anewarray (pc' := 50) (kd := 4) (N' := 4) d_Nod_init_47 t_37 t_38 rfl (by decide) (by decide) (by decide) (by first | assumption | omega | (simp only [x_up, x_nw]; omega)) (by first | assumption | omega | (simp only [x_up, x_nw]; omega)) rfl ?_
        refine go_putfinal (pc' := 53) d_Nod_init_50 c_Nod 2 (by decide) rfl rfl rfl t_45 (by first | assumption | exact x_up_self _ _ _ | exact x_nw_self _ _ _ | (rw [x_up_ne (by first | omega | (simp only [x_up, x_nw]; omega))]; first | assumption | exact x_up_self _ _ _ | (rw [x_up_ne (by first | omega | (simp only [x_up, x_nw]; omega))]; first | assumption | exact x_up_self _ _ _)) | (rw [x_nw_ne (by first | omega | (simp only [x_up, x_nw]; omega))]; first | assumption | exact x_up_self _ _ _ | (rw [x_up_ne (by first | omega | (simp only [x_up, x_nw]; omega))]; assumption))) (by rfl) (by rfl) (by first | exact Nat.le_of_ble_eq_true rfl | simp) rfl ?_
        refine go_return d_Nod_init_53 rfl ?_
        refine ⟨rfl, rfl, rfl, ⟨x_up_self _ _ _, ?_, ?_⟩, fun b hb => ?_⟩
        · rw [x_up_ne (by omega), x_nw_ne (show a + 1 ≠ a + 2 by omega), x_up_ne (by omega)]
          exact x_nw_self _ _ _
        · rw [x_up_ne (by omega)]
          exact x_nw_self _ _ _
        · rw [x_up_ne (by omega), x_nw_ne (show b ≠ a + 2 by omega), x_up_ne (by omega), x_nw_ne (show b ≠ a + 1 by omega), x_up_ne (by omega)]
      · exact absurd rfl hc
    · exact absurd rfl hc
  · omega
theorem s_Nod_bag (hz : h.1 = a + 1) (h0 : h.2.2 a = some (.inr (2, [.int 0, .null, .null]))) (g : Int32) {l : Nat} (hl : l = 4) (hc1 : h.1 + 2 ≤ x_cap K) (hc2 : h.2.1 + 8 ≤ x_cas K) :
    Go K M_Nod_init d 0 [some (.ref a), some (.int g), some (.int (nI l)), none] [] h (x_rt (fun v f => v = none ∧ f.1 = a + 3 ∧ f.2.1 = h.2.1 + 6 ∧ Nd f a g 6 (fun _ => none) 0 (fun _ => none) ∧ ∀ b, b < a → f.2.2 b = h.2.2 b)) := by
  obtain ⟨z, q, f⟩ := h
  have hz' : z = a + 1 := hz
  subst hz'
  subst hl
  dsimp only at hc1 hc2
  refine go_aload_n (pc' := 1) (i := 0) d_Nod_init_0 rfl rfl (by first | rfl | exact x_r_rf _) rfl ?_
  refine go_objInit (pc' := 4) d_Nod_init_1 t_34 t_22 t_23 (Nat.le_of_ble_eq_true rfl) rfl ?_
  refine go_iload_n (pc' := 5) (i := 2) d_Nod_init_4 rfl rfl rfl ?_
  refine go_iconst (pc' := 6) (v := (nI 4)) d_Nod_init_5 (by decide) rfl ?_
  refine go_icmp_ltN (tgt := 13) (pc' := 9) d_Nod_init_6 (by decide) rfl (by omega) (by omega) (fun hc => ?_) (fun hc => ?_)
  · omega
  · refine go_iconst (pc' := 10) (v := (nI 1)) d_Nod_init_9 (by decide) rfl ?_
    refine go_goto (tgt := 14) d_Nod_init_10 (by decide) ?_
    refine go_istore_n (pc' := 15) (i := 3) d_Nod_init_14 rfl (by decide) (x_s3 (by first | rfl | exact x_k_rf _)) rfl ?_
    refine go_aload_n (pc' := 16) (i := 0) d_Nod_init_15 rfl rfl (by first | rfl | exact x_r_rf _) rfl ?_
    refine go_iload_n (pc' := 17) (i := 1) d_Nod_init_16 rfl rfl rfl ?_
    refine go_putfinal (pc' := 20) d_Nod_init_17 c_Nod 0 (by decide) rfl rfl rfl t_39 (by first | assumption | exact x_up_self _ _ _ | exact x_nw_self _ _ _ | (rw [x_up_ne (by first | omega | (simp only [x_up, x_nw]; omega))]; first | assumption | exact x_up_self _ _ _ | (rw [x_up_ne (by first | omega | (simp only [x_up, x_nw]; omega))]; first | assumption | exact x_up_self _ _ _)) | (rw [x_nw_ne (by first | omega | (simp only [x_up, x_nw]; omega))]; first | assumption | exact x_up_self _ _ _ | (rw [x_up_ne (by first | omega | (simp only [x_up, x_nw]; omega))]; assumption))) (by rfl) (by rfl) (by first | exact Nat.le_of_ble_eq_true rfl | simp) rfl ?_
    refine go_aload_n (pc' := 21) (i := 0) d_Nod_init_20 rfl rfl (by first | rfl | exact x_r_rf _) rfl ?_
    refine go_iload_n (pc' := 22) (i := 3) d_Nod_init_21 rfl rfl rfl ?_
    refine go_if_eq (tgt := 30) (pc' := 25) d_Nod_init_22 (by decide) rfl (fun hc => ?_) (fun hc => ?_)
    · exact absurd hc (by decide)
    · refine go_bipush (pc' := 27) (v := (nI 6)) d_Nod_init_25 (by decide) rfl ?_
      refine go_goto (tgt := 31) d_Nod_init_27 (by decide) ?_
      refine go_anewarray (pc' := 34) (kd := 3) (N' := 6) d_Nod_init_31 t_35 t_36 rfl (by decide) (by decide) (by decide) (by first | assumption | omega | (simp only [x_up, x_nw]; omega)) (by first | assumption | omega | (simp only [x_up, x_nw]; omega)) rfl ?_
      refine go_putfinal (pc' := 37) d_Nod_init_34 c_Nod 1 (by decide) rfl rfl rfl t_42 (by first | assumption | exact x_up_self _ _ _ | exact x_nw_self _ _ _ | (rw [x_up_ne (by first | omega | (simp only [x_up, x_nw]; omega))]; first | assumption | exact x_up_self _ _ _ | (rw [x_up_ne (by first | omega | (simp only [x_up, x_nw]; omega))]; first | assumption | exact x_up_self _ _ _)) | (rw [x_nw_ne (by first | omega | (simp only [x_up, x_nw]; omega))]; first | assumption | exact x_up_self _ _ _ | (rw [x_up_ne (by first | omega | (simp only [x_up, x_nw]; omega))]; assumption))) (by rfl) (by rfl) (by first | exact Nat.le_of_ble_eq_true rfl | simp) rfl ?_
      refine go_aload_n (pc' := 38) (i := 0) d_Nod_init_37 rfl rfl (by first | rfl | exact x_r_rf _) rfl ?_
      refine go_iload_n (pc' := 39) (i := 3) d_Nod_init_38 rfl rfl rfl ?_
      refine go_if_eq (tgt := 46) (pc' := 42) d_Nod_init_39 (by decide) rfl (fun hc => ?_) (fun hc => ?_)
      · exact absurd hc (by decide)
      · refine go_iconst (pc' := 43) (v := (nI 0)) d_Nod_init_42 (by decide) rfl ?_
        refine go_goto (tgt := 47) d_Nod_init_43 (by decide) ?_
        refine go_anewarray (pc' := 50) (kd := 4) (N' := 0) d_Nod_init_47 t_37 t_38 rfl (by decide) (by decide) (by decide) (by first | assumption | omega | (simp only [x_up, x_nw]; omega)) (by first | assumption | omega | (simp only [x_up, x_nw]; omega)) rfl ?_
        refine go_putfinal (pc' := 53) d_Nod_init_50 c_Nod 2 (by decide) rfl rfl rfl t_45 (by first | assumption | exact x_up_self _ _ _ | exact x_nw_self _ _ _ | (rw [x_up_ne (by first | omega | (simp only [x_up, x_nw]; omega))]; first | assumption | exact x_up_self _ _ _ | (rw [x_up_ne (by first | omega | (simp only [x_up, x_nw]; omega))]; first | assumption | exact x_up_self _ _ _)) | (rw [x_nw_ne (by first | omega | (simp only [x_up, x_nw]; omega))]; first | assumption | exact x_up_self _ _ _ | (rw [x_up_ne (by first | omega | (simp only [x_up, x_nw]; omega))]; assumption))) (by rfl) (by rfl) (by first | exact Nat.le_of_ble_eq_true rfl | simp) rfl ?_
        refine go_return d_Nod_init_53 rfl ?_
        refine ⟨rfl, rfl, rfl, ⟨x_up_self _ _ _, ?_, ?_⟩, fun b hb => ?_⟩
        · rw [x_up_ne (by omega), x_nw_ne (show a + 1 ≠ a + 2 by omega), x_up_ne (by omega)]
          exact x_nw_self _ _ _
        · rw [x_up_ne (by omega)]
          exact x_nw_self _ _ _
        · rw [x_up_ne (by omega), x_nw_ne (show b ≠ a + 2 by omega), x_up_ne (by omega), x_nw_ne (show b ≠ a + 1 by omega), x_up_ne (by omega)]
end CA
