/-! the law: its loop -/
section LE
variable {K : x_K} {d N n b L x o m : Nat} {h f g : x_H} {σ : Sg} {w : Nat → Int64} {xs : Nat → Int32} {Q : x_O → x_H → Prop} {x5 x6 x7 : Option Value}
set_option maxRecDepth 100000 in
theorem w_value (hX : va_X b L xs (x_s K) (x_s K).heap) (hbB : b < x_B K) (hnN : n < N) (hN : N ≤ 1000) (hom : o < m ∨ m + 13 ≤ o) (hd : 13 ≤ d) (hI : LI K N n x m o σ h)
    (nxt : ∀ (h' : x_H) (σ' : Sg) (x5 x6 x7 : Option Value), LI K N (n + 1) x m o σ' h' → Go K M_Law_law d 997 [some (.ref b), some (.ref x), some (.ref m), some (.ref o), some (.int (nI (7 * n))), x5, x6, x7] [] h' Q) :
    Go K M_Law_law d 778 [some (.ref b), some (.ref x), some (.ref m), some (.ref o), some (.int (nI (7 * n))), x5, x6, x7] [] h Q := by
  obtain ⟨hS, ⟨ρ, hR, hm⟩, ⟨w, ho⟩, hb1, hb2, hlg⟩ := hI
  obtain ⟨vx, hx⟩ := hS.obj
  refine go_aload_n (pc' := 779) (i := 1) d_Law_law_778 rfl rfl (by first | rfl | exact x_r_rf _) rfl ?_
  refine go_callV (pc' := 782) (M' := M_Tri_value) (ci := 5) (r := (n_Tri, T_Tri, 5)) [] d_Law_law_779 t_87 t_88 t_89 cd_Tri_value nm_Tri_value rfl (by rfl) (by first | assumption | exact x_up_self _ _ _ | exact x_nw_self _ _ _ | (rw [x_up_ne (by first | omega | (simp only [x_up, x_nw]; omega))]; first | assumption | exact x_up_self _ _ _ | (rw [x_up_ne (by first | omega | (simp only [x_up, x_nw]; omega))]; first | assumption | exact x_up_self _ _ _)) | (rw [x_nw_ne (by first | omega | (simp only [x_up, x_nw]; omega))]; first | assumption | exact x_up_self _ _ _ | (rw [x_up_ne (by first | omega | (simp only [x_up, x_nw]; omega))]; assumption))) rfl (Nat.le_of_ble_eq_true rfl) rfl (s_value (d := d - 1) hS) (by first | decide | omega) (Nat.le_of_ble_eq_true rfl) rfl (fun v f1 hq => ?_) (fun q g hq => nomatch (show (Sum.inl (some (.long (s_vl σ))) : Option Value ⊕ Nat) = Sum.inr q.1 from Qc_r hq))
  have e0 : (Sum.inl (some (.long (s_vl σ))) : Option Value ⊕ Nat) = .inl v := Qc_l hq
  cases e0
  show Go K M_Law_law d 782 _ [.long (s_vl σ)] f1 _
  obtain ⟨q1, q2, q3, q4, q5, q6, q7, -⟩ := hq
  have hS1 : CS f1 x σ := q1
  obtain ⟨hm1, fs, hm0⟩ := Rc_kc hm hom (fun b c _ hb hc => q2 b c hb hc)
  have sp := m_value (K := K) (g := f1) (m := m) (d := d - 1) hR
  rw [Rh_eq hm1] at sp
  refine go_aload_n (pc' := 783) (i := 2) d_Law_law_782 rfl rfl (by first | rfl | exact x_r_rf _) rfl ?_
  refine go_callV (pc' := 786) (M' := M_Mod_value) (ci := 6) (r := (n_Mod, T_Mod, 16)) [] d_Law_law_783 t_597 t_598 t_599 cd_Mod_value nm_Mod_value rfl (by rfl) (by first | assumption | exact x_up_self _ _ _ | exact x_nw_self _ _ _ | (rw [x_up_ne (by first | omega | (simp only [x_up, x_nw]; omega))]; first | assumption | exact x_up_self _ _ _ | (rw [x_up_ne (by first | omega | (simp only [x_up, x_nw]; omega))]; first | assumption | exact x_up_self _ _ _)) | (rw [x_nw_ne (by first | omega | (simp only [x_up, x_nw]; omega))]; first | assumption | exact x_up_self _ _ _ | (rw [x_up_ne (by first | omega | (simp only [x_up, x_nw]; omega))]; assumption))) rfl (Nat.le_of_ble_eq_true rfl) rfl (sp) (by first | decide | omega) (Nat.le_of_ble_eq_true rfl) rfl (fun v f2 hq => ?_) (fun q g hq => hq.elim)
  obtain ⟨ρ2, rfl, hR2, htw, hv1, hv2⟩ := Qm.out hq
  cases hv1 _ rfl
  show Go K M_Law_law d 786 _ [.long (s_vl σ), .long (s_vl σ)] (Rh f1 m ρ2) _
  refine go_lcmp (pc' := 787) d_Law_law_786 rfl ?_
  rw [lg_cmp_self]
  refine go_if_eq (tgt := 997) (pc' := 790) d_Law_law_787 (by decide) rfl (fun hc => ?_) (fun hc => ?_)
  · exact nxt _ _ _ _ _ (LI.nx hS1 hm1 (q2 o _ ho rfl) hom hR2 hnN (by omega) (by omega) (by omega))
  · exact absurd rfl hc
set_option maxRecDepth 100000 in
theorem w_copied (hX : va_X b L xs (x_s K) (x_s K).heap) (hbB : b < x_B K) (hnN : n < N) (hN : N ≤ 1000) (hom : o < m ∨ m + 13 ≤ o) (hd : 13 ≤ d) (hI : LI K N n x m o σ h)
    (nxt : ∀ (h' : x_H) (σ' : Sg) (x5 x6 x7 : Option Value), LI K N (n + 1) x m o σ' h' → Go K M_Law_law d 997 [some (.ref b), some (.ref x), some (.ref m), some (.ref o), some (.int (nI (7 * n))), x5, x6, x7] [] h' Q) :
    Go K M_Law_law d 792 [some (.ref b), some (.ref x), some (.ref m), some (.ref o), some (.int (nI (7 * n))), x5, x6, x7] [] h Q := by
  obtain ⟨hS, ⟨ρ, hR, hm⟩, ⟨w, ho⟩, hb1, hb2, hlg⟩ := hI
  obtain ⟨vx, hx⟩ := hS.obj
  refine go_aload_n (pc' := 793) (i := 1) d_Law_law_792 rfl rfl (by first | rfl | exact x_r_rf _) rfl ?_
  refine go_callV (pc' := 796) (M' := M_Tri_copied) (ci := 5) (r := (n_Tri, T_Tri, 5)) [] d_Law_law_793 t_91 t_92 t_93 cd_Tri_copied nm_Tri_copied rfl (by rfl) (by first | assumption | exact x_up_self _ _ _ | exact x_nw_self _ _ _ | (rw [x_up_ne (by first | omega | (simp only [x_up, x_nw]; omega))]; first | assumption | exact x_up_self _ _ _ | (rw [x_up_ne (by first | omega | (simp only [x_up, x_nw]; omega))]; first | assumption | exact x_up_self _ _ _)) | (rw [x_nw_ne (by first | omega | (simp only [x_up, x_nw]; omega))]; first | assumption | exact x_up_self _ _ _ | (rw [x_up_ne (by first | omega | (simp only [x_up, x_nw]; omega))]; assumption))) rfl (Nat.le_of_ble_eq_true rfl) rfl (s_copied (d := d - 1) hS) (by first | decide | omega) (Nat.le_of_ble_eq_true rfl) rfl (fun v f1 hq => ?_) (fun q g hq => nomatch (show (Sum.inl (some (.int (nI (s_lc σ)))) : Option Value ⊕ Nat) = Sum.inr q.1 from Qc_r hq))
  have e0 : (Sum.inl (some (.int (nI (s_lc σ)))) : Option Value ⊕ Nat) = .inl v := Qc_l hq
  cases e0
  show Go K M_Law_law d 796 _ [.int (nI (s_lc σ))] f1 _
  obtain ⟨q1, q2, q3, q4, q5, q6, q7, -⟩ := hq
  have hS1 : CS f1 x σ := q1
  obtain ⟨hm1, fs, hm0⟩ := Rc_kc hm hom (fun b c _ hb hc => q2 b c hb hc)
  have sp := m_copied (K := K) (g := f1) (m := m) (d := d - 1) hR
  rw [Rh_eq hm1] at sp
  refine go_aload_n (pc' := 797) (i := 2) d_Law_law_796 rfl rfl (by first | rfl | exact x_r_rf _) rfl ?_
  refine go_callV (pc' := 800) (M' := M_Mod_copied) (ci := 6) (r := (n_Mod, T_Mod, 16)) [] d_Law_law_797 t_601 t_602 t_603 cd_Mod_copied nm_Mod_copied rfl (by rfl) (by first | assumption | exact x_up_self _ _ _ | exact x_nw_self _ _ _ | (rw [x_up_ne (by first | omega | (simp only [x_up, x_nw]; omega))]; first | assumption | exact x_up_self _ _ _ | (rw [x_up_ne (by first | omega | (simp only [x_up, x_nw]; omega))]; first | assumption | exact x_up_self _ _ _)) | (rw [x_nw_ne (by first | omega | (simp only [x_up, x_nw]; omega))]; first | assumption | exact x_up_self _ _ _ | (rw [x_up_ne (by first | omega | (simp only [x_up, x_nw]; omega))]; assumption))) rfl (Nat.le_of_ble_eq_true rfl) rfl (sp) (by first | decide | omega) (Nat.le_of_ble_eq_true rfl) rfl (fun v f2 hq => ?_) (fun q g hq => hq.elim)
  obtain ⟨ρ2, rfl, hR2, htw, hv1, hv2⟩ := Qm.out hq
  cases hv1 _ rfl
  show Go K M_Law_law d 800 _ [.int (nI (s_lc σ)), .int (nI (s_lc σ))] (Rh f1 m ρ2) _
  refine go_icmp_eq (tgt := 997) (pc' := 803) d_Law_law_800 (by decide) rfl (fun hc => ?_) (fun hc => ?_)
  · exact nxt _ _ _ _ _ (LI.nx hS1 hm1 (q2 o _ ho rfl) hom hR2 hnN (by omega) (by omega) (by omega))
  · exact absurd rfl hc
theorem LI.st (hI : LI K N n x m o σ h) (hn : n < N) : LI K N (n + 1) x m o σ h := by
  obtain ⟨hS, hR, ho, hb1, hb2, hlg⟩ := hI
  exact ⟨hS, hR, ho, by omega, by omega, by omega⟩
set_option maxRecDepth 100000 in
theorem w_loop (hX : va_X b L xs (x_s K) (x_s K).heap) (hbB : b < x_B K) (hL : L < 2 ^ 31) (hLN : L < 7 * N + 7) (hN : N ≤ 1000) (hom : o < m ∨ m + 13 ≤ o) (hd : 13 ≤ d)
    (hQ : ∀ h', x_B K ≤ x_B K → Q (.inl (some (.int (nI 1)))) h') :
    ∀ r n σ h x5 x6 x7, n + r = N → LI K N n x m o σ h → Go K M_Law_law d 23 [some (.ref b), some (.ref x), some (.ref m), some (.ref o), some (.int (nI (7 * n))), x5, x6, x7] [] h Q := by
  have key : ∀ n σ h x5 x6 x7, n ≤ N → LI K N n x m o σ h → (7 * n + 7 ≤ L → n < N → ∀ (h' : x_H) (σ' : Sg) (x5 x6 x7 : Option Value), LI K N (n + 1) x m o σ' h' → Go K M_Law_law d 23 [some (.ref b), some (.ref x), some (.ref m), some (.ref o), some (.int (nI (7 * (n + 1)))), x5, x6, x7] [] h' Q) → Go K M_Law_law d 23 [some (.ref b), some (.ref x), some (.ref m), some (.ref o), some (.int (nI (7 * n))), x5, x6, x7] [] h Q := by
    intro n σ h x5 x6 x7 hnN' hI nx
    refine go_iload (pc' := 25) (i := 4) d_Law_law_23 rfl rfl ?_
    refine go_aload_n (pc' := 26) (i := 0) d_Law_law_25 rfl rfl (by first | rfl | exact x_r_rf _) rfl ?_
    refine go_slen (pc' := 27) hX hbB d_Law_law_26 rfl ?_
    refine go_bipush (pc' := 29) (v := (nI 7)) d_Law_law_27 (by decide) rfl ?_
    refine go_isub (pc' := 30) d_Law_law_29 rfl ?_
    have cmp : (nI L - nI 7 < nI (7 * n)) ↔ L < 7 * n + 7 := by
      by_cases h7 : 7 ≤ L
      · rw [x_sub h7, nI_ltI (by omega) (by omega)]
        omega
      · have e1 : L = 0 ∨ L = 1 ∨ L = 2 ∨ L = 3 ∨ L = 4 ∨ L = 5 ∨ L = 6 := by omega
        have e2 : nI L - nI 7 < nI 0 := by rcases e1 with rfl | rfl | rfl | rfl | rfl | rfl | rfl <;> decide
        have e3 : nI 0 ≤ nI (7 * n) := by rw [nI_leI (by omega) (by omega)]; omega
        exact ⟨fun _ => by omega, fun _ => Int32.lt_iff_toInt_lt.mpr (by have z1 := Int32.lt_iff_toInt_lt.mp e2; have z2 := Int32.le_iff_toInt_le.mp e3; omega)⟩
    refine go_icmp_gt (tgt := 1003) (pc' := 33) d_Law_law_30 (by decide) rfl (fun hc => ?_) (fun hc => ?_)
    · refine go_iconst (pc' := 1004) (v := (nI 1)) d_Law_law_1003 (by decide) rfl ?_
      refine go_ireturn d_Law_law_1004 rfl (by rfl) ?_
      exact hQ _ (Nat.le_refl _)
    · have hnL : 7 * n + 7 ≤ L := by
        have := mt cmp.mpr hc
        omega
      have hnN : n < N := by omega
      have nxt : ∀ (h' : x_H) (σ' : Sg) (x5 x6 x7 : Option Value), LI K N (n + 1) x m o σ' h' → Go K M_Law_law d 997 [some (.ref b), some (.ref x), some (.ref m), some (.ref o), some (.int (nI (7 * n))), x5, x6, x7] [] h' Q := by
        intro h' σ' x5 x6 x7 hI'
        refine go_iinc (pc' := 1000) (i := 4) d_Law_law_997 rfl (x_i7 _) (by decide) (x_s4 rfl) rfl ?_
        refine go_goto (tgt := 23) d_Law_law_1000 (by decide) ?_
        exact nx hnL hnN h' σ' x5 x6 x7 hI'
      refine go_aload_n (pc' := 34) (i := 0) d_Law_law_33 rfl rfl (by first | rfl | exact x_r_rf _) rfl ?_
      refine go_iload (pc' := 36) (i := 4) d_Law_law_34 rfl rfl ?_
      refine go_sld (pc' := 37) hX hbB d_Law_law_36 (by omega) (by omega) rfl ?_
      refine go_bipush (pc' := 39) (v := (nI 15)) d_Law_law_37 (by decide) rfl ?_
      obtain ⟨k, hk, hke⟩ := x_and15 (xs (7 * n))
      refine go_iand (pc' := 40) d_Law_law_39 rfl ?_
      rw [hke]
      by_cases hk12 : k ≤ 12
      · have hkk : k = 0 ∨ k = 1 ∨ k = 2 ∨ k = 3 ∨ k = 4 ∨ k = 5 ∨ k = 6 ∨ k = 7 ∨ k = 8 ∨ k = 9 ∨ k = 10 ∨ k = 11 ∨ k = 12 := by omega
        rcases hkk with rfl | rfl | rfl | rfl | rfl | rfl | rfl | rfl | rfl | rfl | rfl | rfl | rfl
        · refine go_tableIn (tgt := 108) d_Law_law_40 (by decide) (by decide) rfl (by decide) ?_
          exact w_put hX hbB hL hnL hnN hN hom hd hI nxt
        · refine go_tableIn (tgt := 227) d_Law_law_40 (by decide) (by decide) rfl (by decide) ?_
          exact w_get hX hbB hL hnL hnN hN hom hd hI nxt
        · refine go_tableIn (tgt := 294) d_Law_law_40 (by decide) (by decide) rfl (by decide) ?_
          exact w_remove hX hbB hL hnL hnN hN hom hd hI nxt
        · refine go_tableIn (tgt := 361) d_Law_law_40 (by decide) (by decide) rfl (by decide) ?_
          exact w_replace hX hbB hL hnL hnN hN hom hd hI nxt
        · refine go_tableIn (tgt := 526) d_Law_law_40 (by decide) (by decide) rfl (by decide) ?_
          exact w_snapshot hX hbB hL hnL hnN hN hom hd hI nxt
        · refine go_tableIn (tgt := 610) d_Law_law_40 (by decide) (by decide) rfl (by decide) ?_
          exact w_drop hX hbB hL hnL hnN hN hom hd hI nxt
        · refine go_tableIn (tgt := 666) d_Law_law_40 (by decide) (by decide) rfl (by decide) ?_
          exact w_iterate hX hbB hL hnL hnN hN hom hd hI nxt
        · refine go_tableIn (tgt := 722) d_Law_law_40 (by decide) (by decide) rfl (by decide) ?_
          exact w_next hX hbB hL hnL hnN hN hom hd hI nxt
        · refine go_tableIn (tgt := 778) d_Law_law_40 (by decide) (by decide) rfl (by decide) ?_
          exact w_value hX hbB hnN hN hom hd hI nxt
        · refine go_tableIn (tgt := 792) d_Law_law_40 (by decide) (by decide) rfl (by decide) ?_
          exact w_copied hX hbB hnN hN hom hd hI nxt
        · refine go_tableIn (tgt := 805) d_Law_law_40 (by decide) (by decide) rfl (by decide) ?_
          exact w_measure hX hbB hL hnL hnN hN hom hd hI nxt
        · refine go_tableIn (tgt := 873) d_Law_law_40 (by decide) (by decide) rfl (by decide) ?_
          exact w_common hX hbB hL hnL hnN hN hom hd hI nxt
        · refine go_tableIn (tgt := 941) d_Law_law_40 (by decide) (by decide) rfl (by decide) ?_
          exact w_generation hX hbB hL hnL hnN hN hom hd hI nxt
      · have hkk : k = 13 ∨ k = 14 ∨ k = 15 := by omega
        refine go_tableOut (tgt := 997) d_Law_law_40 (Or.inr (by rcases hkk with rfl | rfl | rfl <;> decide)) (by decide) ?_
        exact nxt _ _ _ _ _ (hI.st hnN)
  intro r
  induction r with
  | zero =>
    intro n σ h x5 x6 x7 hn hI
    exact key n σ h x5 x6 x7 (by omega) hI (fun h7 hnN => absurd hnN (by omega))
  | succ r ih =>
    intro n σ h x5 x6 x7 hn hI
    exact key n σ h x5 x6 x7 (by omega) hI (fun h7 hnN h' σ' x5 x6 x7 hI' => ih (n + 1) σ' h' x5 x6 x7 (by omega) hI')
set_option maxRecDepth 100000 in
/-- the law answers true -/
theorem w_law (hX : va_X b L xs (x_s K) (x_s K).heap) (hbB : b < x_B K) (hL : L < 2 ^ 31) (hLN : L < 7 * N + 7) (hN : N ≤ 1000) (hd : 13 ≤ d) (h1 : h.1 + 100 + 40 * N ≤ x_cap K) (h2 : h.2.1 + 4000 + 200 * N ≤ x_cas K) :
    Go K M_Law_law d 0 [some (.ref b), none, none, none, none, none, none, none] [] h (x_rt (fun v _ => v = some (.int (nI 1)))) := by
  refine go_dom fun hdom => ?_
  obtain ⟨Q, hQ⟩ : ∃ Q : x_O → x_H → Prop, Q = x_rt (fun v _ => v = some (.int (nI 1))) := ⟨_, rfl⟩
  rw [← hQ]
  obtain ⟨x, hx⟩ : ∃ x, x = h.1 := ⟨_, rfl⟩
  refine go_new (pc' := 3) (fs := [.null, .null, .int 0, .int 0, .long 0]) d_Law_law_0 c_Tri t_16 t_17 t_1 (by decide +kernel) (by first | assumption | omega | (simp only [x_up, x_nw]; omega)) (by first | assumption | omega | (simp only [x_up, x_nw]; omega)) rfl ?_
  rw [← hx]
  obtain ⟨f1, hf1⟩ : ∃ f1, f1 = x_nw h 5 (.inr (5, [.null, .null, .int 0, .int 0, .long 0])) := ⟨_, rfl⟩
  rw [show x_nw h _ _ = f1 from hf1.symm]
  have z1 : f1.1 = x + 1 := by rw [hf1, hx]; rfl
  have y1 : f1.2.1 = h.2.1 + 5 := by rw [hf1]; rfl
  have c1 : f1.2.2 x = some (.inr (5, [.null, .null, .int 0, .int 0, .long 0])) := by rw [hf1, hx]; exact x_nw_self _ _ _
  refine go_dup (pc' := 4) d_Law_law_3 (by first | rfl | exact x_c_rf _) rfl ?_
  refine go_callI (pc' := 7) (M' := M_Tri_init) [] d_Law_law_4 rfl rfl t_18 t_19 t_20 rfl nm_Tri_init rfl rfl (Nat.le_of_ble_eq_true rfl) rfl (s_Tri_init (d := d - 1) z1 c1 (by omega) (by omega) (by omega)) (by first | decide | omega) (Nat.le_of_ble_eq_true rfl) rfl (fun v f2 hq => ?_) (fun q g hq => hq.elim)
  obtain ⟨rfl, hS2, a1, a2, a3, a4, -⟩ := hq
  show Go K M_Law_law d 7 _ [.ref x] f2 _
  refine go_dom fun hdom2 => ?_
  refine go_astore_n (pc' := 8) (i := 1) d_Law_law_7 rfl (by decide) (by first | rfl | exact x_r_rf _) (x_s1 (by first | rfl | exact x_k_rf _)) rfl ?_
  refine go_new (pc' := 11) (fs := [.int 0, .int 0, .null, .null, .null, .null, .null, .null, .null, .int 0, .null, .null, .null, .null, .null, .long 0]) d_Law_law_8 c_Mod t_465 t_466 t_4 (by decide +kernel) (by first | assumption | omega | (simp only [x_up, x_nw]; omega)) (by first | assumption | omega | (simp only [x_up, x_nw]; omega)) rfl ?_
  obtain ⟨m, hm⟩ : ∃ m, m = f2.1 := ⟨_, rfl⟩
  rw [← hm]
  obtain ⟨f3, hf3⟩ : ∃ f3, f3 = x_nw f2 16 (.inr (6, [.int 0, .int 0, .null, .null, .null, .null, .null, .null, .null, .int 0, .null, .null, .null, .null, .null, .long 0])) := ⟨_, rfl⟩
  rw [show x_nw f2 _ _ = f3 from hf3.symm]
  have z3 : f3.1 = m + 1 := by rw [hf3, hm]; rfl
  have y3 : f3.2.1 = f2.2.1 + 16 := by rw [hf3]; rfl
  have c3 : f3.2.2 m = some (.inr (6, [.int 0, .int 0, .null, .null, .null, .null, .null, .null, .null, .int 0, .null, .null, .null, .null, .null, .long 0])) := by rw [hf3, hm]; exact x_nw_self _ _ _
  have k3 : ∀ b, b < m → f3.2.2 b = f2.2.2 b := fun b hb => by rw [hf3, x_nw_ne (by omega)]
  refine go_dup (pc' := 12) d_Law_law_11 (by first | rfl | exact x_c_rf _) rfl ?_
  refine go_callI (pc' := 15) (M' := M_Mod_init) [] d_Law_law_12 rfl rfl t_467 t_468 t_469 rfl nm_Mod_init rfl rfl (Nat.le_of_ble_eq_true rfl) rfl (m_init (d := d - 1) z3 c3 (by omega) (by omega) (by omega)) (by first | decide | omega) (Nat.le_of_ble_eq_true rfl) rfl (fun v f4 hq => ?_) (fun q g hq => hq.elim)
  obtain ⟨rfl, e4, z4, y4, y4', k4⟩ := hq
  show Go K M_Law_law d 15 _ [.ref m] f4 _
  refine go_astore_n (pc' := 16) (i := 2) d_Law_law_15 rfl (by decide) (by first | rfl | exact x_r_rf _) (x_s2 (by first | rfl | exact x_k_rf _)) rfl ?_
  refine go_iconst (pc' := 17) (v := (nI 1)) d_Law_law_16 (by decide) rfl ?_
  refine go_newarray (pc' := 19) (kd := 1) (N' := 1) (a0 := (1, .inr (.inl (fun _ => 0)))) d_Law_law_17 t_521 rfl (fun _ => rfl) (by decide) (by decide) (by decide) (by first | assumption | omega | (simp only [x_up, x_nw]; omega)) (by first | assumption | omega | (simp only [x_up, x_nw]; omega)) rfl ?_
  obtain ⟨o, ho⟩ : ∃ o, o = f4.1 := ⟨_, rfl⟩
  rw [← ho]
  obtain ⟨f5, hf5⟩ : ∃ f5, f5 = x_nw f4 1 (.inl (1, 1, .inr (.inl (fun _ => 0)))) := ⟨_, rfl⟩
  rw [show x_nw f4 _ _ = f5 from hf5.symm]
  have k5 : ∀ b, b ≠ o → f5.2.2 b = f4.2.2 b := fun b hb => by rw [hf5, x_nw_ne (by omega)]
  have z5 : f5.1 = o + 1 := by rw [hf5, ho]; rfl
  have y5 : f5.2.1 = f4.2.1 + 1 := by rw [hf5]; rfl
  refine go_astore_n (pc' := 20) (i := 3) d_Law_law_19 rfl (by decide) (by first | rfl | exact x_r_rf _) (x_s3 (by first | rfl | exact x_k_rf _)) rfl ?_
  refine go_iconst (pc' := 21) (v := (nI 0)) d_Law_law_20 (by decide) rfl ?_
  refine go_istore (pc' := 23) (i := 4) d_Law_law_21 (by decide) (x_s4 (by first | rfl | exact x_k_rf _)) rfl ?_
  refine w_loop hX hbB hL hLN hN (Or.inr (by omega)) hd (fun h' _ => by rw [hQ]; rfl) N 0 s_0 f5 none none none (by omega) ⟨?_, ⟨r_0, Rr_0, fun k hk => ?_⟩, ⟨fun _ => 0, ?_⟩, by omega, by omega, (by decide)⟩
  · refine CS.rc hS2 fun b c hb hc => ?_
    have hbm : b < m := by rw [hm]; exact hdom2 b c hb
    rw [k5 b (by omega), k4 b hbm, k3 b hbm]
    exact hb
  · rw [k5 _ (by omega), e4]
    exact Rh_in hk
  · rw [hf5, ho]
    exact x_nw_self _ _ _
end LE
