/-! generation, copied, value; snapshot, drop -/
/-- the object's own cells: maps, and the arrays of maps and iterators -/
def x_ob : x_C → Bool
  | .inr (k, _) => k == 4 || k == 5
  | .inl (k, _) => k == 5 || k == 6
def Ks (h g : x_H) : Prop := ∀ b c, h.2.2 b = some c → x_ob c = false → g.2.2 b = some c
theorem Ks.rf (h : x_H) : Ks h h := fun _ _ hb _ => hb
theorem Ks.tr {h g f : x_H} (h1 : Ks h g) (h2 : Ks g f) : Ks h f := fun b c hb hc => h2 b c (h1 b c hb hc) hc
theorem Ks.up {h : x_H} {a : Nat} {c c' : x_C} (ha : h.2.2 a = some c) (hc : x_ob c = true) : Ks h (x_up h a c') := fun b x hb hx => by
  have hne : b ≠ a := fun e => by
    subst e
    rw [ha] at hb
    cases hb
    rw [hc] at hx
    cases hx
  rw [x_up_ne hne]
  exact hb
theorem Ks.all {h g : x_H} (hk : ∀ b c, h.2.2 b = some c → g.2.2 b = some c) : Ks h g := fun b c hb _ => hk b c hb
theorem Ks.kp {h g : x_H} (hk : Ks h g) : Kp h g := fun b c hb hc => hk b c hb (by
  cases c with
  | inl q => simp only [x_nd, x_ob, Bool.or_eq_true, beq_iff_eq, Bool.or_eq_false_iff, beq_eq_false_iff_ne] at hc ⊢; omega
  | inr q => simp only [x_nd, x_ob, Bool.or_eq_true, beq_iff_eq, Bool.or_eq_false_iff, beq_eq_false_iff_ne] at hc ⊢; omega)
theorem Ks.kc {h g : x_H} (hk : Ks h g) : Kc h g := fun b c hb hc => hk b c hb (by
  cases c with
  | inl q => simp only [x_rc, x_ob, Bool.or_eq_true, Bool.and_eq_true, beq_iff_eq, Bool.or_eq_false_iff, beq_eq_false_iff_ne] at hc ⊢; omega
  | inr q => simp only [x_rc, x_ob, beq_iff_eq, Bool.or_eq_false_iff, beq_eq_false_iff_ne] at hc ⊢; omega)
theorem Cr.ks {h g : x_H} {q far : Nat} {A : Nat → Nat → Option Nat} {ks : List KV} (hC : Cr h q A ks far) (hk : Ks h g) : Cr g q A ks far := by
  rcases hC with ⟨L, way, pl, P, n, hC, hq⟩ | ⟨way, pl, hC, hf⟩
  · exact Or.inl ⟨L, way, pl, P, n, ⟨hk _ _ hC.1 rfl, hk _ _ hC.2.1 rfl, hk _ _ hC.2.2 rfl⟩, hq⟩
  · exact Or.inr ⟨way, pl, ⟨hk _ _ hC.1 rfl, hk _ _ hC.2.1 rfl, hk _ _ hC.2.2 rfl⟩, hf⟩
def p_Gen (σ : Sg) (m : Int32) : Sg × (Option Value ⊕ Nat) := match p_map σ m with
  | none => (σ, .inr 11)
  | some i => (σ, .inl (some (.int (nI (s_gn σ i)))))
def p_fm (σ : Sg) : Option Nat := (List.range 6).find? (fun i => !(s_th σ i))
def p_snap (σ : Sg) (i j : Nat) (b : Int32) : Sg := (va_up (s_th σ) j true, va_up (s_ro σ) j b, va_up (va_up (s_gn σ) i (s_lg σ + 1)) j (s_lg σ + 2), va_up (s_ks σ) j (s_ks σ i), va_up (s_bl σ) j (s_bl σ i), s_lg σ + 2, s_lc σ, s_vl σ, s_us σ, s_sn σ, s_fa σ)
def p_Snap (σ : Sg) (m b : Int32) : Sg × (Option Value ⊕ Nat) := match p_map σ m with
  | none => (σ, .inr 11)
  | some i => match p_fm σ with
    | none => (σ, .inr 13)
    | some j => (p_snap σ i j b, .inl (some (.int (nI j))))
theorem nI_m1 : ∀ j, j < 6 → nI j ≠ -1 := by decide
def p_fc (σ : Sg) : Option Nat := (List.range 4).find? (fun i => !(s_us σ i))
theorem q_fn_find (mp : Nat → Option Nat) (T : Nat → Bool) {n : Nat} (hth : ∀ i, i < n → (mp i).isSome = T i) : ∀ r j, j + r = n → q_fn mp r j = (List.range' j r).find? (fun i => !(T i))
  | 0, j, _ => rfl
  | r + 1, j, hj => by
    unfold q_fn
    rw [List.range'_succ, List.find?_cons, hth j (by omega), q_fn_find mp T hth r (j + 1) (by omega)]
    cases T j <;> rfl
section EH
variable {K : x_K} {d : Nat} {h f hh : x_H} {x : Nat} {σ : Sg}
theorem s_value (hS : CS h x σ) : Go K M_Tri_value d 0 [some (.ref x)] [] h (Qc h x σ (σ, .inl (some (.long (s_vl σ))))) := by
  have hS' := hS
  obtain ⟨mp, cu, B, ps, FA, fks, fbl, hO, hM, hC, hlg⟩ := hS
  have h0 := hO.1
  refine go_aload_n (pc' := 1) (i := 0) d_Tri_value_0 rfl rfl (by first | rfl | exact x_r_rf _) rfl ?_
  refine go_getfield (pc' := 4) d_Tri_value_1 c_Tri 4 (by decide) t_75 (by first | assumption | exact x_up_self _ _ _ | exact x_nw_self _ _ _ | (rw [x_up_ne (by first | omega | (simp only [x_up, x_nw]; omega))]; first | assumption | exact x_up_self _ _ _ | (rw [x_up_ne (by first | omega | (simp only [x_up, x_nw]; omega))]; first | assumption | exact x_up_self _ _ _)) | (rw [x_nw_ne (by first | omega | (simp only [x_up, x_nw]; omega))]; first | assumption | exact x_up_self _ _ _ | (rw [x_up_ne (by first | omega | (simp only [x_up, x_nw]; omega))]; assumption))) (by rfl) rfl ?_
  refine go_lreturn d_Tri_value_4 rfl ?_
  exact Qc.ret hS' (fun b c hb => hb) (by simp) (by simp) (by simp) (by simp)
theorem s_copied (hS : CS h x σ) : Go K M_Tri_copied d 0 [some (.ref x)] [] h (Qc h x σ (σ, .inl (some (.int (nI (s_lc σ)))))) := by
  have hS' := hS
  obtain ⟨mp, cu, B, ps, FA, fks, fbl, hO, hM, hC, hlg⟩ := hS
  have h0 := hO.1
  refine go_aload_n (pc' := 1) (i := 0) d_Tri_copied_0 rfl rfl (by first | rfl | exact x_r_rf _) rfl ?_
  refine go_getfield (pc' := 4) d_Tri_copied_1 c_Tri 3 (by decide) t_74 (by first | assumption | exact x_up_self _ _ _ | exact x_nw_self _ _ _ | (rw [x_up_ne (by first | omega | (simp only [x_up, x_nw]; omega))]; first | assumption | exact x_up_self _ _ _ | (rw [x_up_ne (by first | omega | (simp only [x_up, x_nw]; omega))]; first | assumption | exact x_up_self _ _ _)) | (rw [x_nw_ne (by first | omega | (simp only [x_up, x_nw]; omega))]; first | assumption | exact x_up_self _ _ _ | (rw [x_up_ne (by first | omega | (simp only [x_up, x_nw]; omega))]; assumption))) (by rfl) rfl ?_
  refine go_ireturn d_Tri_copied_4 rfl (by rfl) ?_
  exact Qc.ret hS' (fun b c hb => hb) (by simp) (by simp) (by simp) (by simp)
theorem s_generation (hS : CS h x σ) (m : Int32) (hd : 10 ≤ d) (hc1 : h.1 + 40 ≤ x_cap K) (hc2 : h.2.1 + 200 ≤ x_cas K) : Go K M_Tri_generation d 0 [some (.ref x), some (.int m)] [] h (Qc h x σ (p_Gen σ m)) := by
  have hS' := hS
  obtain ⟨mp, cu, B, ps, FA, fks, fbl, hO, hM, hC, hlg⟩ := hS
  have h0 := hO.1
  have kt : (¬ ∃ i t, m = nI i ∧ i < 6 ∧ mp i = some t) → Qc h x σ (p_Gen σ m) (.inr (11, h.1)) (h.1 + 1, h.2.1 + 6, h.2.2) := fun hno => by
    unfold p_Gen
    rw [p_map_none hM.1 hno]
    exact Qc.thr hS' (fun b c hb => hb) (by simp) (by simp) (by simp) (by simp)
  refine go_aload_n (pc' := 1) (i := 0) d_Tri_generation_0 rfl rfl (by first | rfl | exact x_r_rf _) rfl ?_
  refine go_iload_n (pc' := 2) (i := 1) d_Tri_generation_1 rfl rfl rfl ?_
  refine go_callV (pc' := 5) (M' := M_Tri_existingMap) (ci := 5) (r := (n_Tri, T_Tri, 5)) [_] d_Tri_generation_2 t_109 t_111 sp_Tri_existingMap cd_Tri_existingMap nm_Tri_existingMap rfl (by rfl) (by first | assumption | exact x_up_self _ _ _ | exact x_nw_self _ _ _ | (rw [x_up_ne (by first | omega | (simp only [x_up, x_nw]; omega))]; first | assumption | exact x_up_self _ _ _ | (rw [x_up_ne (by first | omega | (simp only [x_up, x_nw]; omega))]; first | assumption | exact x_up_self _ _ _)) | (rw [x_nw_ne (by first | omega | (simp only [x_up, x_nw]; omega))]; first | assumption | exact x_up_self _ _ _ | (rw [x_up_ne (by first | omega | (simp only [x_up, x_nw]; omega))]; assumption))) rfl (Nat.le_of_ble_eq_true rfl) rfl (s_existingMap (d := d - 1) hO m (by omega) (by omega)) (by first | decide | omega) (Nat.le_of_ble_eq_true rfl) rfl (fun v hh hq => ?_) (fun q g hq => x_T.out rfl (by rw [hq.1, hq.2.1]; exact kt hq.2.2))
  obtain ⟨rfl, i, t, rfl, hi, ht, rfl⟩ := hq
  obtain ⟨⟨root, hroot, htc⟩, hTi, hPi, hKi, hroi, hgi, hbi⟩ := hM.2.1 i t hi ht
  have hpm := p_map_some (m := nI i) hM.1 hi rfl ht
  show Go K M_Tri_generation d 5 _ [_] h _
  refine go_getfield (pc' := 8) d_Tri_generation_5 c_Map 1 (by decide) t_61 (by first | assumption | exact x_up_self _ _ _ | exact x_nw_self _ _ _ | (rw [x_up_ne (by first | omega | (simp only [x_up, x_nw]; omega))]; first | assumption | exact x_up_self _ _ _ | (rw [x_up_ne (by first | omega | (simp only [x_up, x_nw]; omega))]; first | assumption | exact x_up_self _ _ _)) | (rw [x_nw_ne (by first | omega | (simp only [x_up, x_nw]; omega))]; first | assumption | exact x_up_self _ _ _ | (rw [x_up_ne (by first | omega | (simp only [x_up, x_nw]; omega))]; assumption))) (by rfl) rfl ?_
  refine go_ireturn d_Tri_generation_8 rfl (by rfl) ?_
  unfold p_Gen
  rw [hpm]
  exact Qc.ret hS' (fun b c hb => hb) (by simp) (by simp) (by simp) (by simp)
theorem CS.snap {mp cu : Nat → Option Nat} {B FA : Nat → Nat → Nat → Option Nat} {ps : Nat → Nat × Nat} {fks : Nat → List KV} {fbl : Nat → Nat → Nat → Nat} {i j t z root : Nat} {b : Int32} (hM : Cm h σ mp B ps) (hC : Cc h σ cu ps FA fks fbl) (hk_ : Ks h f)
    (hi : i < 6) (hj : j < 6) (ht : mp i = some t) (hjn : mp j = none) (hb : b = 0 ∨ b = 1) (hr : B i 0 0 = some root) (hkm : ∀ u vs, h.2.2 u = some (.inr (4, vs)) → u ≠ t → f.2.2 u = some (.inr (4, vs)))
    (hft : f.2.2 t = some (.inr (4, [.ref root, .int (nI (s_lg σ + 1)), .int (s_ro σ i)]))) (hfz : f.2.2 z = some (.inr (4, [.ref root, .int (nI (s_lg σ + 2)), .int b]))) (hz : h.2.2 z = none) :
    Cm f (p_snap σ i j b) (va_up mp j (some z)) (va_up B j (B i)) ps ∧ Cc f (p_snap σ i j b) cu ps FA fks fbl := by
  obtain ⟨m1, m2, m3, m4, m5, m6⟩ := hM
  obtain ⟨c1, c2, c3⟩ := hC
  have hij : i ≠ j := fun e => by rw [e, hjn] at ht; cases ht
  have hthi : s_th σ i = true := by rw [← m1 i hi, ht]; rfl
  obtain ⟨⟨root0, hroot0, htc⟩, hTi, hPi, hKi, hroi, hgi, hbi⟩ := m2 i t hi ht
  have src : ∀ k, k < 6 → va_up (s_th σ) j true k = true → ∃ k0, k0 < 6 ∧ s_th σ k0 = true ∧ va_up B j (B i) k = B k0 ∧ va_up (s_ks σ) j (s_ks σ i) k = s_ks σ k0 ∧ va_up (s_bl σ) j (s_bl σ i) k = s_bl σ k0 ∧ ((k = j ∧ k0 = i) ∨ (k ≠ j ∧ k0 = k)) := by
    intro k hk hth
    by_cases hkj : k = j
    · subst hkj
      exact ⟨i, hi, hthi, va_up_self _ _ _, va_up_self _ _ _, va_up_self _ _ _, Or.inl ⟨rfl, rfl⟩⟩
    · rw [va_up_ne _ _ hkj] at hth
      exact ⟨k, hk, hth, va_up_ne _ _ hkj, va_up_ne _ _ hkj, va_up_ne _ _ hkj, Or.inr ⟨hkj, rfl⟩⟩
  have gj : va_up (va_up (s_gn σ) i (s_lg σ + 1)) j (s_lg σ + 2) j = s_lg σ + 2 := va_up_self _ _ _
  have gi : va_up (va_up (s_gn σ) i (s_lg σ + 1)) j (s_lg σ + 2) i = s_lg σ + 1 := by rw [va_up_ne _ _ hij, va_up_self]
  have go : ∀ k, k ≠ i → k ≠ j → va_up (va_up (s_gn σ) i (s_lg σ + 1)) j (s_lg σ + 2) k = s_gn σ k := fun k h1 h2 => by rw [va_up_ne _ _ h2, va_up_ne _ _ h1]
  have ble : ∀ k, k < 6 → s_th σ k = true → ∀ l p a, B k l p = some a → s_bl σ k l p ≤ s_lg σ := fun k hk hth => by
    rw [← m1 k hk] at hth
    obtain ⟨u, hu⟩ := Option.isSome_iff_exists.mp hth
    exact (m2 k u hk hu).2.2.2.2.2.2
  have gle : ∀ k, k < 6 → s_th σ k = true → s_gn σ k ≤ s_lg σ := fun k hk hth => by
    rw [← m1 k hk] at hth
    obtain ⟨u, hu⟩ := Option.isSome_iff_exists.mp hth
    exact (m2 k u hk hu).2.2.2.2.2.1
  have big : ∀ n, n < 6 → va_up (s_th σ) j true n = true → n ≠ i → n ≠ j → va_up (va_up (s_gn σ) i (s_lg σ + 1)) j (s_lg σ + 2) n ≤ s_lg σ := fun n hn h1 h2 h3 => by
    rw [go n h2 h3]
    rw [va_up_ne _ _ h3] at h1
    exact gle n hn h1
  unfold p_snap
  simp only [Cm, Cc, s_th, s_ro, s_gn, s_ks, s_bl, s_lg, s_us, s_sn, s_fa] at *
  refine ⟨⟨fun k hk => ?_, fun k u hk hu => ?_, fun k k' u hk hk' hu hu' => ?_, fun k k' hk hk' hne hth hth' l p a ha => ?_, fun k k' hk hk' hth hth' l p a a' ha ha' hab => ?_, fun k k' hk hk' hne hth hth' => ?_⟩, c1, fun c q hc hq => ?_, c3⟩
  · by_cases hkj : k = j
    · rw [hkj, va_up_self, va_up_self]; rfl
    · rw [va_up_ne _ _ hkj, va_up_ne _ _ hkj]; exact m1 k hk
  · by_cases hkj : k = j
    · subst hkj
      rw [va_up_self] at hu
      cases hu
      simp only [va_up_self]
      exact ⟨⟨root, hr, hfz⟩, hTi.kp hk_.kp, hPi, hKi, hb, by omega, fun l p a ha => by have := hbi l p a ha; omega⟩
    · rw [va_up_ne _ _ hkj] at hu
      obtain ⟨⟨rk, hrk, hkc⟩, hTk, hPk, hKk, hrok, hgk, hbk⟩ := m2 k u hk hu
      simp only [va_up_ne _ _ hkj]
      refine ⟨?_, hTk.kp hk_.kp, hPk, hKk, hrok, ?_, fun l p a ha => by have := hbk l p a ha; omega⟩
      · by_cases hki : k = i
        · subst hki
          cases hu.symm.trans ht
          rw [va_up_self]
          exact ⟨root, hr, hft⟩
        · rw [va_up_ne _ _ hki]
          exact ⟨rk, hrk, hkm _ _ hkc (fun e => hki (m3 k i t hk hi (e ▸ hu) ht))⟩
      · by_cases hki : k = i
        · rw [hki, va_up_self]; omega
        · rw [va_up_ne _ _ hki]; omega
  · by_cases hkj : k = j
    · by_cases hkj' : k' = j
      · rw [hkj, hkj']
      · rw [hkj, va_up_self] at hu
        rw [va_up_ne _ _ hkj'] at hu'
        cases hu
        obtain ⟨⟨rk, hrk, hkc⟩, -⟩ := m2 k' z hk' hu'
        rw [hz] at hkc
        cases hkc
    · rw [va_up_ne _ _ hkj] at hu
      by_cases hkj' : k' = j
      · rw [hkj', va_up_self] at hu'
        cases hu'
        obtain ⟨⟨rk, hrk, hkc⟩, -⟩ := m2 k z hk hu
        rw [hz] at hkc
        cases hkc
      · rw [va_up_ne _ _ hkj'] at hu'
        exact m3 k k' u hk hk' hu hu'
  · obtain ⟨k0, hk0, hth0, e1, -, e3, e4⟩ := src k' hk' hth'
    rw [e1] at ha
    rw [e3]
    have h1 := ble k0 hk0 hth0 l p a ha
    by_cases hkj : k = j
    · rw [hkj, gj]; omega
    · by_cases hki : k = i
      · rw [hki, gi]; omega
      · rw [go k hki hkj]
        rw [va_up_ne _ _ hkj] at hth
        exact m4 k k0 hk hk0 (by omega) hth hth0 l p a ha
  · obtain ⟨k0, hk0, hth0, e1, -, e3, e4⟩ := src k hk hth
    obtain ⟨k1, hk1, hth1, f1, -, f3, f4⟩ := src k' hk' hth'
    rw [e1] at ha
    rw [f1] at ha'
    rw [e3, f3] at hab
    exact m5 k0 k1 hk0 hk1 hth0 hth1 l p a a' ha ha' hab
  · by_cases hkj : k = j
    · subst hkj
      rw [gj]
      by_cases hki : k' = i
      · rw [hki, gi]; omega
      · have := big k' hk' hth' hki (Ne.symm hne); omega
    · by_cases hki : k = i
      · subst hki
        rw [gi]
        by_cases hkj' : k' = j
        · rw [hkj', gj]; omega
        · have := big k' hk' hth' (Ne.symm hne) hkj'; omega
      · have h1 := big k hk hth hki hkj
        by_cases hkj' : k' = j
        · rw [hkj', gj]; omega
        · by_cases hki' : k' = i
          · rw [hki', gi]; omega
          · rw [go k hki hkj, go k' hki' hkj']
            rw [va_up_ne _ _ hkj] at hth
            rw [va_up_ne _ _ hkj'] at hth'
            exact m6 k k' hk hk' hne hth hth'
  · obtain ⟨d1, d2, d3, d4, d5, d6, d7⟩ := c2 c q hc hq
    refine ⟨d1.ks hk_, d2.kp hk_.kp, d3, d4, d5, d6, fun l p a ha => ⟨by have := (d7 l p a ha).1; omega, fun k hk hth => ?_⟩⟩
    have h1 := (d7 l p a ha).1
    by_cases hkj : k = j
    · rw [hkj, gj]; omega
    · by_cases hki : k = i
      · rw [hki, gi]; omega
      · rw [go k hki hkj]
        rw [va_up_ne _ _ hkj] at hth
        exact (d7 l p a ha).2 k hk hth
theorem p_fm_eq {mp : Nat → Option Nat} (hth : ∀ i, i < 6 → (mp i).isSome = s_th σ i) : q_fn mp 6 0 = p_fm σ := by
  rw [q_fn_find mp (s_th σ) hth 6 0 rfl]
  unfold p_fm
  rw [List.range_eq_range']
theorem p_fc_eq {cu : Nat → Option Nat} (hth : ∀ i, i < 4 → (cu i).isSome = s_us σ i) : q_fn cu 4 0 = p_fc σ := by
  rw [q_fn_find cu (s_us σ) hth 4 0 rfl]
  unfold p_fc
  rw [List.range_eq_range']
set_option maxRecDepth 100000 in
theorem s_snapshot (hS : CS h x σ) (m b : Int32) (hb : b = 0 ∨ b = 1) (hlg2 : s_lg σ + 2 < 2 ^ 20) (hd : 10 ≤ d) (hc1 : h.1 + 40 ≤ x_cap K) (hc2 : h.2.1 + 200 ≤ x_cas K) :
    Go K M_Tri_snapshot d 0 [some (.ref x), some (.int m), some (.int b), none, none] [] h (Qc h x σ (p_Snap σ m b)) := by
  refine go_dom fun hdom => ?_
  have hS' := hS
  obtain ⟨mp, cu, B, ps, FA, fks, fbl, hO, hM, hC, hlg⟩ := hS
  have h0 := hO.1
  have kt : (¬ ∃ i t, m = nI i ∧ i < 6 ∧ mp i = some t) → Qc h x σ (p_Snap σ m b) (.inr (11, h.1)) (h.1 + 1, h.2.1 + 6, h.2.2) := fun hno => by
    unfold p_Snap
    rw [p_map_none hM.1 hno]
    exact Qc.thr hS' (fun b c hb => hb) (by simp) (by simp) (by simp) (by simp)
  refine go_aload_n (pc' := 1) (i := 0) d_Tri_snapshot_0 rfl rfl (by first | rfl | exact x_r_rf _) rfl ?_
  refine go_iload_n (pc' := 2) (i := 1) d_Tri_snapshot_1 rfl rfl rfl ?_
  refine go_callV (pc' := 5) (M' := M_Tri_existingMap) (ci := 5) (r := (n_Tri, T_Tri, 5)) [_] d_Tri_snapshot_2 t_109 t_111 sp_Tri_existingMap cd_Tri_existingMap nm_Tri_existingMap rfl (by rfl) (by first | assumption | exact x_up_self _ _ _ | exact x_nw_self _ _ _ | (rw [x_up_ne (by first | omega | (simp only [x_up, x_nw]; omega))]; first | assumption | exact x_up_self _ _ _ | (rw [x_up_ne (by first | omega | (simp only [x_up, x_nw]; omega))]; first | assumption | exact x_up_self _ _ _)) | (rw [x_nw_ne (by first | omega | (simp only [x_up, x_nw]; omega))]; first | assumption | exact x_up_self _ _ _ | (rw [x_up_ne (by first | omega | (simp only [x_up, x_nw]; omega))]; assumption))) rfl (Nat.le_of_ble_eq_true rfl) rfl (s_existingMap (d := d - 1) hO m (by omega) (by omega)) (by first | decide | omega) (Nat.le_of_ble_eq_true rfl) rfl (fun v hh hq => ?_) (fun q g hq => x_T.out rfl (by rw [hq.1, hq.2.1]; exact kt hq.2.2))
  obtain ⟨rfl, i, t, rfl, hi, ht, rfl⟩ := hq
  obtain ⟨⟨root, hroot, htc⟩, hTi, hPi, hKi, hroi, hgi, hbi⟩ := hM.2.1 i t hi ht
  have hpm := p_map_some (m := nI i) hM.1 hi rfl ht
  have htx : t ≠ x := fun e => by rw [e, h0] at htc; cases htc
  have hHt : Hi h t := ⟨_, _, htc, Or.inl rfl⟩
  have ht1 : x + 1 ≠ t := hHt.l hO.2.1
  have ht2 : x + 2 ≠ t := hHt.l hO.2.2
  have htz : t < h.1 := hdom _ _ htc
  have hxz : x + 2 < h.1 := hdom _ _ hO.2.2
  show Go K M_Tri_snapshot d 5 _ [_] h _
  refine go_astore_n (pc' := 6) (i := 3) d_Tri_snapshot_5 rfl (by decide) (by first | rfl | exact x_r_rf _) (x_s3 (by first | rfl | exact x_k_rf _)) rfl ?_
  refine go_aload_n (pc' := 7) (i := 0) d_Tri_snapshot_6 rfl rfl (by first | rfl | exact x_r_rf _) rfl ?_
  refine go_callV (pc' := 10) (M' := M_Tri_leastMissingMap) (ci := 5) (r := (n_Tri, T_Tri, 5)) [] d_Tri_snapshot_7 t_377 t_379 sp_Tri_leastMissingMap cd_Tri_leastMissingMap nm_Tri_leastMissingMap rfl (by rfl) (by first | assumption | exact x_up_self _ _ _ | exact x_nw_self _ _ _ | (rw [x_up_ne (by first | omega | (simp only [x_up, x_nw]; omega))]; first | assumption | exact x_up_self _ _ _ | (rw [x_up_ne (by first | omega | (simp only [x_up, x_nw]; omega))]; first | assumption | exact x_up_self _ _ _)) | (rw [x_nw_ne (by first | omega | (simp only [x_up, x_nw]; omega))]; first | assumption | exact x_up_self _ _ _ | (rw [x_up_ne (by first | omega | (simp only [x_up, x_nw]; omega))]; assumption))) rfl (Nat.le_of_ble_eq_true rfl) rfl (s_leastMissingMap (d := d - 1) hO) (by first | decide | omega) (Nat.le_of_ble_eq_true rfl) rfl (fun v hh hq => ?_) (fun q g hq => by cases hq.1)
  obtain ⟨e1, rfl⟩ := hq
  cases e1
  rw [p_fm_eq hM.1]
  show Go K M_Tri_snapshot d 10 _ [_] h _
  cases hfm : p_fm σ with
  | none =>
    refine go_istore (pc' := 12) (i := 4) d_Tri_snapshot_10 (by decide) (x_s4 (by first | rfl | exact x_k_rf _)) rfl ?_
    refine go_iload (pc' := 14) (i := 4) d_Tri_snapshot_12 rfl rfl ?_
    refine go_iconst (pc' := 15) (v := (-1)) d_Tri_snapshot_14 (by decide) rfl ?_
    refine go_icmp_ne (tgt := 26) (pc' := 18) d_Tri_snapshot_15 (by decide) rfl (fun hc => ?_) (fun hc => ?_)
    · exact absurd rfl hc
    · have hp : p_Snap σ (nI i) b = (σ, .inr 13) := by
        unfold p_Snap
        rw [hpm]
        simp only [hfm]
      rw [hp]
      exact go_throw (kx := 13) d_Tri_snapshot_18 d_Tri_snapshot_21 d_Tri_snapshot_22 d_Tri_snapshot_25 rfl (by decide +kernel) (by decide +kernel) rfl t_254 t_12 at_13 rfl (Nat.le_of_ble_eq_true rfl) (by first | assumption | omega | (simp only [x_up, x_nw]; omega)) (by first | assumption | omega | (simp only [x_up, x_nw]; omega)) (Qc.thr hS' (fun b c hb => hb) (by simp) (by simp) (by simp) (by simp))
  | some j =>
    have hj := q_fn_lt mp 6 0 j (by rw [p_fm_eq hM.1]; exact hfm)
    have hp : p_Snap σ (nI i) b = (p_snap σ i j b, .inl (some (.int (nI j)))) := by
      unfold p_Snap
      rw [hpm]
      simp only [hfm]
    show Go K M_Tri_snapshot d 10 _ [.int (nI j)] h _
    refine go_istore (pc' := 12) (i := 4) d_Tri_snapshot_10 (by decide) (x_s4 (by first | rfl | exact x_k_rf _)) rfl ?_
    refine go_iload (pc' := 14) (i := 4) d_Tri_snapshot_12 rfl rfl ?_
    refine go_iconst (pc' := 15) (v := (-1)) d_Tri_snapshot_14 (by decide) rfl ?_
    refine go_icmp_ne (tgt := 26) (pc' := 18) d_Tri_snapshot_15 (by decide) rfl (fun hc => ?_) (fun hc => ?_)
    · refine go_aload_n (pc' := 27) (i := 3) d_Tri_snapshot_26 rfl rfl (by first | rfl | exact x_r_rf _) rfl ?_
      refine go_aload_n (pc' := 28) (i := 0) d_Tri_snapshot_27 rfl rfl (by first | rfl | exact x_r_rf _) rfl ?_
      refine go_callV (pc' := 31) (M' := M_Tri_newGeneration) (ci := 5) (r := (n_Tri, T_Tri, 5)) [] d_Tri_snapshot_28 t_381 t_383 sp_Tri_newGeneration cd_Tri_newGeneration nm_Tri_newGeneration rfl (by rfl) (by first | assumption | exact x_up_self _ _ _ | exact x_nw_self _ _ _ | (rw [x_up_ne (by first | omega | (simp only [x_up, x_nw]; omega))]; first | assumption | exact x_up_self _ _ _ | (rw [x_up_ne (by first | omega | (simp only [x_up, x_nw]; omega))]; first | assumption | exact x_up_self _ _ _)) | (rw [x_nw_ne (by first | omega | (simp only [x_up, x_nw]; omega))]; first | assumption | exact x_up_self _ _ _ | (rw [x_up_ne (by first | omega | (simp only [x_up, x_nw]; omega))]; assumption))) rfl (Nat.le_of_ble_eq_true rfl) rfl (s_newGeneration (d := d - 1) hO) (by first | decide | omega) (Nat.le_of_ble_eq_true rfl) rfl (fun v hh hq => ?_) (fun q g hq => by cases hq.1)
      obtain ⟨e1, rfl⟩ := hq
      cases e1
      show Go K M_Tri_snapshot d 31 _ [_, _] _ _
      have h1t : (x_up h x (.inr (5, [.ref (x + 1), .ref (x + 2), .int (nI (s_lg σ + 1)), .int (nI (s_lc σ)), .long (s_vl σ)]))).2.2 t = some (.inr (4, [.ref root, .int (nI (s_gn σ i)), .int (s_ro σ i)])) := by rw [x_up_ne htx]; exact htc
      refine go_putfield (pc' := 34) d_Tri_snapshot_31 c_Map 1 (by decide) rfl t_61 (by first | assumption | exact x_up_self _ _ _ | exact x_nw_self _ _ _ | (rw [x_up_ne (by first | omega | (simp only [x_up, x_nw]; omega))]; first | assumption | exact x_up_self _ _ _ | (rw [x_up_ne (by first | omega | (simp only [x_up, x_nw]; omega))]; first | assumption | exact x_up_self _ _ _)) | (rw [x_nw_ne (by first | omega | (simp only [x_up, x_nw]; omega))]; first | assumption | exact x_up_self _ _ _ | (rw [x_up_ne (by first | omega | (simp only [x_up, x_nw]; omega))]; assumption))) (by rfl) (by rfl) (by first | exact Nat.le_of_ble_eq_true rfl | simp) rfl ?_
      show Go K M_Tri_snapshot d 34 _ [] (x_up (x_up h x (.inr (5, [.ref (x + 1), .ref (x + 2), .int (nI (s_lg σ + 1)), .int (nI (s_lc σ)), .long (s_vl σ)]))) t (.inr (4, [.ref root, .int (nI (s_lg σ + 1)), .int (s_ro σ i)]))) _
      obtain ⟨h2, hh2⟩ : ∃ h2, h2 = x_up (x_up h x (.inr (5, [.ref (x + 1), .ref (x + 2), .int (nI (s_lg σ + 1)), .int (nI (s_lc σ)), .long (s_vl σ)]))) t (.inr (4, [.ref root, .int (nI (s_lg σ + 1)), .int (s_ro σ i)])) := ⟨_, rfl⟩
      rw [← hh2]
      have k2 : ∀ b, b ≠ x → b ≠ t → h2.2.2 b = h.2.2 b := fun b e1 e2 => by rw [hh2, x_up_ne e2, x_up_ne e1]
      have o2 : Ob h2 x mp cu (nI (s_lg σ + 1)) (nI (s_lc σ)) (s_vl σ) := ⟨by rw [hh2, x_up_ne (Ne.symm htx)]; exact x_up_self _ _ _, by rw [k2 _ (by omega) ht1]; exact hO.2.1, by rw [k2 _ (by omega) ht2]; exact hO.2.2⟩
      have t2 : h2.2.2 t = some (.inr (4, [.ref root, .int (nI (s_lg σ + 1)), .int (s_ro σ i)])) := by rw [hh2]; exact x_up_self _ _ _
      have z2 : h2.1 = h.1 := by rw [hh2]; rfl
      have q2 : h2.2.1 = h.2.1 := by rw [hh2]; rfl
      have x2 := o2.1
      refine go_aload_n (pc' := 35) (i := 0) d_Tri_snapshot_34 rfl rfl (by first | rfl | exact x_r_rf _) rfl ?_
      refine go_getfield (pc' := 38) d_Tri_snapshot_35 c_Tri 0 (by decide) t_71 (by first | assumption | exact x_up_self _ _ _ | exact x_nw_self _ _ _ | (rw [x_up_ne (by first | omega | (simp only [x_up, x_nw]; omega))]; first | assumption | exact x_up_self _ _ _ | (rw [x_up_ne (by first | omega | (simp only [x_up, x_nw]; omega))]; first | assumption | exact x_up_self _ _ _)) | (rw [x_nw_ne (by first | omega | (simp only [x_up, x_nw]; omega))]; first | assumption | exact x_up_self _ _ _ | (rw [x_up_ne (by first | omega | (simp only [x_up, x_nw]; omega))]; assumption))) (by rfl) rfl ?_
      refine go_iload (pc' := 40) (i := 4) d_Tri_snapshot_38 rfl rfl ?_
      refine go_new (pc' := 43) (fs := [.null, .int 0, .int 0]) d_Tri_snapshot_40 c_Map t_24 t_28 t_2 (by decide +kernel) (by first | assumption | omega | (simp only [x_up, x_nw]; omega)) (by first | assumption | omega | (simp only [x_up, x_nw]; omega)) rfl ?_
      obtain ⟨h3, hh3⟩ : ∃ h3, h3 = x_nw h2 3 (.inr (4, [.null, .int 0, .int 0])) := ⟨_, rfl⟩
      rw [show x_nw h2 _ _ = h3 from hh3.symm, z2]
      have k3 : ∀ b, b ≠ h.1 → h3.2.2 b = h2.2.2 b := fun b e1 => by rw [hh3, x_nw_ne (by omega)]
      have o3 : Ob h3 x mp cu (nI (s_lg σ + 1)) (nI (s_lc σ)) (s_vl σ) := ⟨by rw [k3 _ (by omega)]; exact o2.1, by rw [k3 _ (by omega)]; exact o2.2.1, by rw [k3 _ (by omega)]; exact o2.2.2⟩
      have t3 : h3.2.2 t = some (.inr (4, [.ref root, .int (nI (s_lg σ + 1)), .int (s_ro σ i)])) := by rw [k3 _ (by omega)]; exact t2
      have n3 : h3.2.2 h.1 = some (.inr (4, [.null, .int 0, .int 0])) := by rw [hh3, ← z2]; exact x_nw_self _ _ _
      have z3 : h3.1 = h.1 + 1 := by rw [hh3, ← z2]; rfl
      have q3 : h3.2.1 = h.2.1 + 3 := by rw [hh3, ← q2]; rfl
      have x3 := o3.1
      refine go_dup (pc' := 44) d_Tri_snapshot_43 (by first | rfl | exact x_c_rf _) rfl ?_
      refine go_aload_n (pc' := 45) (i := 3) d_Tri_snapshot_44 rfl rfl (by first | rfl | exact x_r_rf _) rfl ?_
      refine go_getfield (pc' := 48) d_Tri_snapshot_45 c_Map 0 (by decide) t_59 (by first | assumption | exact x_up_self _ _ _ | exact x_nw_self _ _ _ | (rw [x_up_ne (by first | omega | (simp only [x_up, x_nw]; omega))]; first | assumption | exact x_up_self _ _ _ | (rw [x_up_ne (by first | omega | (simp only [x_up, x_nw]; omega))]; first | assumption | exact x_up_self _ _ _)) | (rw [x_nw_ne (by first | omega | (simp only [x_up, x_nw]; omega))]; first | assumption | exact x_up_self _ _ _ | (rw [x_up_ne (by first | omega | (simp only [x_up, x_nw]; omega))]; assumption))) (by rfl) rfl ?_
      refine go_aload_n (pc' := 49) (i := 0) d_Tri_snapshot_48 rfl rfl (by first | rfl | exact x_r_rf _) rfl ?_
      refine go_callV (pc' := 52) (M' := M_Tri_newGeneration) (ci := 5) (r := (n_Tri, T_Tri, 5)) [] d_Tri_snapshot_49 t_381 t_383 sp_Tri_newGeneration cd_Tri_newGeneration nm_Tri_newGeneration rfl (by rfl) (by first | assumption | exact x_up_self _ _ _ | exact x_nw_self _ _ _ | (rw [x_up_ne (by first | omega | (simp only [x_up, x_nw]; omega))]; first | assumption | exact x_up_self _ _ _ | (rw [x_up_ne (by first | omega | (simp only [x_up, x_nw]; omega))]; first | assumption | exact x_up_self _ _ _)) | (rw [x_nw_ne (by first | omega | (simp only [x_up, x_nw]; omega))]; first | assumption | exact x_up_self _ _ _ | (rw [x_up_ne (by first | omega | (simp only [x_up, x_nw]; omega))]; assumption))) rfl (Nat.le_of_ble_eq_true rfl) rfl (s_newGeneration (d := d - 1) o3) (by first | decide | omega) (Nat.le_of_ble_eq_true rfl) rfl (fun v h4 hq => ?_) (fun q g hq => by cases hq.1)
      obtain ⟨e1, hh4⟩ := hq
      cases e1
      have k4 : ∀ b, b ≠ x → h4.2.2 b = h3.2.2 b := fun b e1 => by rw [← hh4, x_up_ne e1]
      have x4 : h4.2.2 x = some (.inr (5, [.ref (x + 1), .ref (x + 2), .int (nI (s_lg σ + 2)), .int (nI (s_lc σ)), .long (s_vl σ)])) := by rw [← hh4]; exact x_up_self _ _ _
      have n4 : h4.2.2 h.1 = some (.inr (4, [.null, .int 0, .int 0])) := by rw [k4 _ (by omega)]; exact n3
      show Go K M_Tri_snapshot d 52 _ [.int (nI (s_lg σ + 2)), _, _, _, _, _] h4 _
      refine go_iload_n (pc' := 53) (i := 2) d_Tri_snapshot_52 rfl rfl rfl ?_
      refine go_callI (pc' := 56) (M' := M_Map_init) [_, _, _] d_Tri_snapshot_53 rfl rfl t_54 t_55 t_56 rfl nm_Map_init rfl rfl (Nat.le_of_ble_eq_true rfl) rfl (s_Map_init (d := d - 1) n4 root (nI (s_lg σ + 2)) b (by rcases hb with rfl | rfl <;> rfl) (by rcases hb with rfl | rfl <;> rfl)) (by first | decide | omega) (Nat.le_of_ble_eq_true rfl) rfl (fun v h5 hq => ?_) (fun q g hq => by cases hq.1)
      obtain ⟨e1, hh5⟩ := hq
      cases e1
      show Go K M_Tri_snapshot d 56 _ [_, _, _] h5 _
      have k5 : ∀ b, b ≠ h.1 → h5.2.2 b = h4.2.2 b := fun b e1 => by rw [← hh5, x_up_ne e1]
      have n5 : h5.2.2 h.1 = some (.inr (4, [.ref root, .int (nI (s_lg σ + 2)), .int b])) := by rw [← hh5]; exact x_up_self _ _ _
      have m5 : h5.2.2 (x + 1) = some (.inl (5, 6, .inr (.inr (.inr (.inr mp))))) := by rw [k5 _ (by omega), k4 _ (by omega)]; exact o3.2.1
      refine go_aastR (pc' := 57) (ci := 4) (r := (n_Map, T_Map, 3)) d_Tri_snapshot_56 m5 n5 (by rfl) (by rfl) (by omega) (by omega) rfl ?_
      obtain ⟨h6, hh6⟩ : ∃ h6, h6 = x_up h5 (x + 1) (.inl (5, 6, .inr (.inr (.inr (.inr (va_up mp j (some h.1))))))) := ⟨_, rfl⟩
      rw [← hh6]
      have k6 : ∀ b, b ≠ x + 1 → h6.2.2 b = h5.2.2 b := fun b e1 => by rw [hh6, x_up_ne e1]
      refine go_iload (pc' := 59) (i := 4) d_Tri_snapshot_57 rfl rfl ?_
      refine go_ireturn d_Tri_snapshot_59 rfl (by rfl) ?_
      rw [hp]
      have kall : ∀ b, b ≠ x → b ≠ t → b ≠ x + 1 → b ≠ h.1 → h6.2.2 b = h.2.2 b := fun b e1 e2 e3 e4 => by rw [k6 _ e3, k5 _ e4, k4 _ e1, k3 _ e4, k2 _ e1 e2]
      have hz0 : h.2.2 h.1 = none := by
        cases hz : h.2.2 h.1 with
        | none => rfl
        | some c => have := hdom _ _ hz; omega
      have hks : Ks h h6 := fun b c hb hc => by
        rw [kall b (fun e => by rw [e, h0] at hb; cases hb; cases hc) (fun e => by rw [e, htc] at hb; cases hb; cases hc) (fun e => by rw [e, hO.2.1] at hb; cases hb; cases hc) (fun e => by rw [e, hz0] at hb; cases hb)]
        exact hb
      obtain ⟨hM6, hC6⟩ := CS.snap (z := h.1) hM hC hks hi (by omega : j < 6) ht hj.2.2 hb hroot (fun u vs hu hne => by
        rw [kall u (fun e => by rw [e, h0] at hu; cases hu) hne (fun e => by rw [e, hO.2.1] at hu; cases hu) (fun e => by rw [e, hz0] at hu; cases hu)]
        exact hu) (by rw [k6 _ (Ne.symm ht1), k5 _ (by omega), k4 _ htx]; exact t3) (by rw [k6 _ (by omega)]; exact n5) hz0
      refine ⟨⟨va_up mp j (some h.1), cu, _, ps, FA, fks, fbl, ⟨by rw [k6 _ (by omega), k5 _ (by omega)]; exact x4, by rw [hh6]; exact x_up_self _ _ _, by rw [k6 _ (by omega), k5 _ (by omega), k4 _ (by omega)]; exact o3.2.2⟩, hM6, hC6, hlg2⟩, hks.kc, ?_, ?_, ?_, ?_, ?_, rfl⟩
      · have : h6.1 = h.1 + 1 := by rw [hh6, ← hh5, ← hh4]; exact z3
        omega
      · have : h6.1 = h.1 + 1 := by rw [hh6, ← hh5, ← hh4]; exact z3
        omega
      · have : h6.2.1 = h.2.1 + 3 := by rw [hh6, ← hh5, ← hh4]; exact q3
        omega
      · have : h6.2.1 = h.2.1 + 3 := by rw [hh6, ← hh5, ← hh4]; exact q3
        omega
      · exact Nat.le_refl _
    · exact absurd hc (nI_m1 j (by omega))
end EH
