/-! drop, iterate, next -/
def p_drop (σ : Sg) (i : Nat) : Sg := (va_up (s_th σ) i false, s_ro σ, s_gn σ, s_ks σ, s_bl σ, s_lg σ, s_lc σ, s_vl σ, s_us σ, s_sn σ, s_fa σ)
def p_Drop (σ : Sg) (m : Int32) : Sg × (Option Value ⊕ Nat) := match p_map σ m with
  | none => (σ, .inr 11)
  | some i => if i = 0 then (σ, .inr 13) else (p_drop σ i, .inl (some (.int (nI (s_ks σ i).length))))
def p_iter (σ : Sg) (i c : Nat) : Sg := (s_th σ, s_ro σ, va_up (s_gn σ) i (s_lg σ + 1), s_ks σ, s_bl σ, s_lg σ + 1, s_lc σ, s_vl σ, va_up (s_us σ) c true, va_up (s_sn σ) c (q_srt (s_ks σ i)), va_up (s_fa σ) c 0)
def p_Iter (σ : Sg) (m : Int32) : Sg × (Option Value ⊕ Nat) := match p_map σ m with
  | none => (σ, .inr 11)
  | some i => match p_fc σ with
    | none => (σ, .inr 13)
    | some c => (p_iter σ i c, .inl (some (.int (nI c))))
def p_end (σ : Sg) (c : Nat) : Sg := (s_th σ, s_ro σ, s_gn σ, s_ks σ, s_bl σ, s_lg σ, s_lc σ, s_vl σ, va_up (s_us σ) c false, s_sn σ, s_fa σ)
def p_nxt (σ : Sg) (c : Nat) (y : KV) : Sg := (s_th σ, s_ro σ, s_gn σ, s_ks σ, s_bl σ, s_lg σ, s_lc σ, y.2, s_us σ, s_sn σ, va_up (s_fa σ) c (s_fa σ c + 1))
def p_Next (σ : Sg) (m : Int32) : Sg × (Option Value ⊕ Nat) := match p_cur σ m with
  | none => (σ, .inr 11)
  | some c => match (s_sn σ c)[s_fa σ c]? with
    | none => (p_end σ c, .inr 14)
    | some y => (p_nxt σ c y, .inl (some (.int y.1)))
section EI
variable {K : x_K} {d : Nat} {h f hh : x_H} {x : Nat} {σ : Sg} {mp cu : Nat → Option Nat} {B FA : Nat → Nat → Nat → Option Nat} {ps : Nat → Nat × Nat} {fks : Nat → List KV} {fbl : Nat → Nat → Nat → Nat}
theorem CS.drop {i : Nat} (hM : Cm h σ mp B ps) (hC : Cc h σ cu ps FA fks fbl) (hk : ∀ b c, h.2.2 b = some c → x_ob c = false ∨ (∃ vs, c = .inr (4, vs)) → f.2.2 b = some c) :
    Cm f (p_drop σ i) (va_up mp i none) B ps ∧ Cc f (p_drop σ i) cu ps FA fks fbl := by
  obtain ⟨m1, m2, m3, m4, m5, m6⟩ := hM
  obtain ⟨c1, c2, c3⟩ := hC
  have hks : Ks h f := fun b c hb hc => hk b c hb (Or.inl hc)
  have th : ∀ k, va_up (s_th σ) i false k = true → s_th σ k = true := fun k hth => by
    by_cases hki : k = i
    · rw [hki, va_up_self] at hth; cases hth
    · rw [va_up_ne _ _ hki] at hth; exact hth
  have mu : ∀ k u, va_up mp i none k = some u → mp k = some u := fun k u hu => by
    by_cases hki : k = i
    · rw [hki, va_up_self] at hu; cases hu
    · rw [va_up_ne _ _ hki] at hu; exact hu
  refine ⟨⟨fun k hk => ?_, fun k u hk' hu => ?_, fun k k' u hk hk' hu hu' => m3 k k' u hk hk' (mu _ _ hu) (mu _ _ hu'), fun k k' hk hk' hne hth hth' => m4 k k' hk hk' hne (th k hth) (th k' hth'), fun k k' hk hk' hth hth' => m5 k k' hk hk' (th k hth) (th k' hth'), fun k k' hk hk' hne hth hth' => m6 k k' hk hk' hne (th k hth) (th k' hth')⟩, c1, fun c q hc hq => ?_, c3⟩
  · show (va_up mp i none k).isSome = va_up (s_th σ) i false k
    by_cases hki : k = i
    · rw [hki, va_up_self, va_up_self]; rfl
    · rw [va_up_ne _ _ hki, va_up_ne _ _ hki]; exact m1 k hk
  · obtain ⟨⟨rk, hrk, hkc⟩, hTk, hq⟩ := m2 k u hk' (mu _ _ hu)
    exact ⟨⟨rk, hrk, hk _ _ hkc (Or.inr ⟨_, rfl⟩)⟩, hTk.kp hks.kp, hq⟩
  · obtain ⟨d1, d2, d3, d4, d5, d6, d7⟩ := c2 c q hc hq
    exact ⟨d1.ks hks, d2.kp hks.kp, d3, d4, d5, d6, fun l p a ha => ⟨(d7 l p a ha).1, fun k hk hth => (d7 l p a ha).2 k hk (th k hth)⟩⟩
set_option maxRecDepth 100000 in
theorem s_drop (hS : CS h x σ) (m : Int32) (hd : 10 ≤ d) (hc1 : h.1 + 40 ≤ x_cap K) (hc2 : h.2.1 + 200 ≤ x_cas K) : Go K M_Tri_drop d 0 [some (.ref x), some (.int m), none] [] h (Qc h x σ (p_Drop σ m)) := by
  refine go_dom fun hdom => ?_
  have hS' := hS
  obtain ⟨mp, cu, B, ps, FA, fks, fbl, hO, hM, hC, hlg⟩ := hS
  have h0 := hO.1
  have kt : (¬ ∃ i t, m = nI i ∧ i < 6 ∧ mp i = some t) → Qc h x σ (p_Drop σ m) (.inr (11, h.1)) (h.1 + 1, h.2.1 + 6, h.2.2) := fun hno => by
    unfold p_Drop
    rw [p_map_none hM.1 hno]
    exact Qc.thr hS' (fun b c hb => hb) (by simp) (by simp) (by simp) (by simp)
  refine go_aload_n (pc' := 1) (i := 0) d_Tri_drop_0 rfl rfl (by first | rfl | exact x_r_rf _) rfl ?_
  refine go_iload_n (pc' := 2) (i := 1) d_Tri_drop_1 rfl rfl rfl ?_
  refine go_callV (pc' := 5) (M' := M_Tri_existingMap) (ci := 5) (r := (n_Tri, T_Tri, 5)) [_] d_Tri_drop_2 t_109 t_111 sp_Tri_existingMap cd_Tri_existingMap nm_Tri_existingMap rfl (by rfl) (by first | assumption | exact x_up_self _ _ _ | exact x_nw_self _ _ _ | (rw [x_up_ne (by first | omega | (simp only [x_up, x_nw]; omega))]; first | assumption | exact x_up_self _ _ _ | (rw [x_up_ne (by first | omega | (simp only [x_up, x_nw]; omega))]; first | assumption | exact x_up_self _ _ _)) | (rw [x_nw_ne (by first | omega | (simp only [x_up, x_nw]; omega))]; first | assumption | exact x_up_self _ _ _ | (rw [x_up_ne (by first | omega | (simp only [x_up, x_nw]; omega))]; assumption))) rfl (Nat.le_of_ble_eq_true rfl) rfl (s_existingMap (d := d - 1) hO m (by omega) (by omega)) (by first | decide | omega) (Nat.le_of_ble_eq_true rfl) rfl (fun v hh hq => ?_) (fun q g hq => x_T.out rfl (by rw [hq.1, hq.2.1]; exact kt hq.2.2))
  obtain ⟨rfl, i, t, rfl, hi, ht, rfl⟩ := hq
  obtain ⟨⟨root, hroot, htc⟩, hTi, hPi, hKi, hroi, hgi, hbi⟩ := hM.2.1 i t hi ht
  have hpm := p_map_some (m := nI i) hM.1 hi rfl ht
  have hHt : Hi h t := ⟨_, _, htc, Or.inl rfl⟩
  have ht1 : x + 1 ≠ t := hHt.l hO.2.1
  have hxz : x + 2 < h.1 := hdom _ _ hO.2.2
  have h1 := hO.2.1
  show Go K M_Tri_drop d 5 _ [_] h _
  refine go_astore_n (pc' := 6) (i := 2) d_Tri_drop_5 rfl (by decide) (by first | rfl | exact x_r_rf _) (x_s2 (by first | rfl | exact x_k_rf _)) rfl ?_
  refine go_iload_n (pc' := 7) (i := 1) d_Tri_drop_6 rfl rfl rfl ?_
  refine go_if_ne (tgt := 18) (pc' := 10) d_Tri_drop_7 (by decide) rfl (fun hc => ?_) (fun hc => ?_)
  · have hi0 : i ≠ 0 := fun e => hc (by rw [e]; rfl)
    refine go_aload_n (pc' := 19) (i := 0) d_Tri_drop_18 rfl rfl (by first | rfl | exact x_r_rf _) rfl ?_
    refine go_getfield (pc' := 22) d_Tri_drop_19 c_Tri 0 (by decide) t_71 (by first | assumption | exact x_up_self _ _ _ | exact x_nw_self _ _ _ | (rw [x_up_ne (by first | omega | (simp only [x_up, x_nw]; omega))]; first | assumption | exact x_up_self _ _ _ | (rw [x_up_ne (by first | omega | (simp only [x_up, x_nw]; omega))]; first | assumption | exact x_up_self _ _ _)) | (rw [x_nw_ne (by first | omega | (simp only [x_up, x_nw]; omega))]; first | assumption | exact x_up_self _ _ _ | (rw [x_up_ne (by first | omega | (simp only [x_up, x_nw]; omega))]; assumption))) (by rfl) rfl ?_
    refine go_iload_n (pc' := 23) (i := 1) d_Tri_drop_22 rfl rfl rfl ?_
    refine go_null (pc' := 24) d_Tri_drop_23 rfl ?_
    refine go_aastN' (pc' := 25) d_Tri_drop_24 h1 (by rfl) (by omega) (by omega) rfl ?_
    obtain ⟨h2, hh2⟩ : ∃ h2, h2 = x_up h (x + 1) (.inl (5, 6, .inr (.inr (.inr (.inr (va_up mp i none)))))) := ⟨_, rfl⟩
    rw [← hh2]
    refine go_dom fun hdom2 => ?_
    have k2 : ∀ b, b ≠ x + 1 → h2.2.2 b = h.2.2 b := fun b e1 => by rw [hh2, x_up_ne e1]
    have t2 := (k2 t (Ne.symm ht1)).trans htc
    have z2 : h2.1 = h.1 := by rw [hh2]; rfl
    have q2 : h2.2.1 = h.2.1 := by rw [hh2]; rfl
    have ks2 : Ks h h2 := by rw [hh2]; exact Ks.up h1 rfl
    refine go_aload_n (pc' := 26) (i := 2) d_Tri_drop_25 rfl rfl (by first | rfl | exact x_r_rf _) rfl ?_
    refine go_getfield (pc' := 29) d_Tri_drop_26 c_Map 0 (by decide) t_59 (by first | assumption | exact x_up_self _ _ _ | exact x_nw_self _ _ _ | (rw [x_up_ne (by first | omega | (simp only [x_up, x_nw]; omega))]; first | assumption | exact x_up_self _ _ _ | (rw [x_up_ne (by first | omega | (simp only [x_up, x_nw]; omega))]; first | assumption | exact x_up_self _ _ _)) | (rw [x_nw_ne (by first | omega | (simp only [x_up, x_nw]; omega))]; first | assumption | exact x_up_self _ _ _ | (rw [x_up_ne (by first | omega | (simp only [x_up, x_nw]; omega))]; assumption))) (by rfl) rfl ?_
    refine go_callS (pc' := 32) (M' := M_Tri_countKeys) [_] d_Tri_drop_29 t_206 t_207 t_1 cd_Tri_countKeys nm_Tri_countKeys rfl rfl (Nat.le_of_ble_eq_true rfl) rfl (s_countKeys (d := d - 1) (hTi.kp ks2.kp) hKi hroot (by omega) (by omega) (by omega)) (by first | decide | omega) (Nat.le_of_ble_eq_true rfl) rfl (fun v h3 hq => ?_) (fun q g hq => hq.elim)
    obtain ⟨rfl, r1, r2, r3⟩ := hq
    show Go K M_Tri_drop d 32 _ [_] h3 _
    refine go_ireturn d_Tri_drop_32 rfl (by rfl) ?_
    have hp : p_Drop σ (nI i) = (p_drop σ i, .inl (some (.int (nI (s_ks σ i).length)))) := by
      unfold p_Drop
      rw [hpm]
      simp only [if_neg hi0]
    rw [hp]
    have k3 : ∀ b c, h2.2.2 b = some c → h3.2.2 b = some c := fun b c hb => by rw [r3 b (hdom2 _ _ hb)]; exact hb
    obtain ⟨hM3, hC3⟩ := CS.drop (f := h3) (i := i) hM hC (fun b c hb hc => k3 _ _ (by
      rw [k2 b (fun e => by
        rw [e, h1] at hb
        cases hb
        rcases hc with hc | ⟨vs, hc⟩ <;> cases hc)]
      exact hb))
    exact ⟨⟨va_up mp i none, cu, B, ps, FA, fks, fbl, ⟨k3 _ _ (by rw [k2 _ (by omega)]; exact h0), k3 _ _ (by rw [hh2]; exact x_up_self _ _ _), k3 _ _ (by rw [k2 _ (by omega)]; exact hO.2.2)⟩, hM3, hC3, hlg⟩, (ks2.tr (Ks.all k3)).kc, by omega, by omega, by omega, by omega, Nat.le_add_right _ _, rfl⟩
  · have hi0 : i = 0 := by
      rw [show (0 : Int32) = nI 0 from rfl, nI_eq (by omega) (by omega)] at hc
      exact hc
    have hp : p_Drop σ (nI i) = (σ, .inr 13) := by
      unfold p_Drop
      rw [hpm]
      simp only [if_pos hi0]
    rw [hp]
    exact go_throw (kx := 13) d_Tri_drop_10 d_Tri_drop_13 d_Tri_drop_14 d_Tri_drop_17 rfl (by decide +kernel) (by decide +kernel) rfl t_254 t_12 at_13 rfl (Nat.le_of_ble_eq_true rfl) (by first | assumption | omega | (simp only [x_up, x_nw]; omega)) (by first | assumption | omega | (simp only [x_up, x_nw]; omega)) (Qc.thr hS' (fun b c hb => hb) (by simp) (by simp) (by simp) (by simp))
end EI
