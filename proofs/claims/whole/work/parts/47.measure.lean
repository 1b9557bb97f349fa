/-! measure, common -/
def p_sum (φ : Nat → Nat → Nat) : Nat := w_s (· + ·) (fun l => w_s (· + ·) (φ l) 0 (4 ^ l)) 0 5
def p_max (φ : Nat → Nat → Nat) : Nat := w_s max (fun l => w_s max (φ l) 0 (4 ^ l)) 0 5
def p_nodes (ks : List KV) : Nat := p_sum (fun l p => if q_ex ks l p then 1 else 0)
def p_bags (ks : List KV) : Nat := p_sum (fun l p => if q_ex ks l p ∧ l = 4 then 1 else 0)
def p_levels (ks : List KV) : Nat := p_max (fun l p => if q_ex ks l p then l + 1 else 0)
def p_own (ks : List KV) (bl : Nat → Nat → Nat) (g : Nat) : Nat := p_sum (fun l p => if q_ex ks l p ∧ bl l p = g then 1 else 0)
def p_com (ks ks' : List KV) (bl bl' : Nat → Nat → Nat) : Nat := p_sum (fun l p => if q_ex ks l p ∧ q_ex ks' l p ∧ bl l p = bl' l p then 1 else 0)
def p_Mea (σ : Sg) (m w : Int32) : Sg × (Option Value ⊕ Nat) := match p_map σ m with
  | none => (σ, .inr 11)
  | some i => if w = 0 then (σ, .inl (some (.int (nI (s_ks σ i).length)))) else if w = 1 then (σ, .inl (some (.int (nI (p_nodes (s_ks σ i)))))) else if w = 2 then (σ, .inl (some (.int (nI (p_bags (s_ks σ i)))))) else if w = 3 then (σ, .inl (some (.int (nI (p_levels (s_ks σ i))))))
    else if w = 4 then (σ, .inl (some (.int (nI (p_own (s_ks σ i) (s_bl σ i) (s_gn σ i)))))) else (σ, .inr 11)
def p_Com (σ : Sg) (m n : Int32) : Sg × (Option Value ⊕ Nat) := match p_map σ m with
  | none => (σ, .inr 11)
  | some i => match p_map σ n with
    | none => (σ, .inr 11)
    | some j => (σ, .inl (some (.int (nI (p_com (s_ks σ i) (s_ks σ j) (s_bl σ i) (s_bl σ j))))))
section FB
variable {K : x_K} {d : Nat} {h f hh : x_H} {A B : Nat → Nat → Option Nat} {ks ks' : List KV} {bel : Nat → Nat → Int32} {bl bl' : Nat → Nat → Nat} {x : Nat} {σ : Sg}
theorem Tr.down (hT : Tr h A ks bel) : ∀ l p j, j < 4 → A l p = none → A (l + 1) (4 * p + j) = none := by
  intro l p j hj hn
  cases hA : A (l + 1) (4 * p + j) with
  | none => rfl
  | some a =>
    obtain ⟨h1, h2, h3⟩ := (hT.1 _ _).mp ⟨a, hA⟩
    have h4 : 2 ≤ (q_f ks (l + 1) (4 * p + j)).length := by omega
    have h5 := q_f_len4 ks (show l < 4 by omega) p
    have h6 : 2 ≤ (q_f ks l p).length := by
      have : j = 0 ∨ j = 1 ∨ j = 2 ∨ j = 3 := by omega
      rcases this with rfl | rfl | rfl | rfl <;> omega
    rw [Nat.pow_succ] at h2
    obtain ⟨b, hb⟩ := (hT.1 l p).mpr ⟨by omega, by omega, Or.inr h6⟩
    rw [hn] at hb
    cases hb
theorem p_sum_congr {φ ψ : Nat → Nat → Nat} (he : ∀ l p, l < 5 → p < 4 ^ l → φ l p = ψ l p) : p_sum φ = p_sum ψ := by
  unfold p_sum
  exact w_s_congr 5 fun i hi => w_s_congr _ fun q hq => he _ _ (by omega) (by simpa using hq)
theorem p_max_congr {φ ψ : Nat → Nat → Nat} (he : ∀ l p, l < 5 → p < 4 ^ l → φ l p = ψ l p) : p_max φ = p_max ψ := by
  unfold p_max
  exact w_s_congr 5 fun i hi => w_s_congr _ fun q hq => he _ _ (by omega) (by simpa using hq)
theorem w_t_sum (φ : Nat → Nat → Nat) : w_t (· + ·) φ 5 0 0 = p_sum φ := w_t_all Nat.add_assoc Nat.add_comm Nat.add_zero
theorem w_t_max (φ : Nat → Nat → Nat) : w_t max φ 5 0 0 = p_max φ := w_t_all Nat.max_assoc Nat.max_comm Nat.max_zero
theorem Tr.ex5 (hT : Tr h A ks bel) {l p : Nat} (hl : l < 5) (hp : p < 4 ^ l) : (A l p).isSome = true ↔ q_ex ks l p := by
  rw [hT.exi]
  exact ⟨fun z => z.2.2, fun z => ⟨by omega, hp, z⟩⟩
/-- what measure's tally holds in the end -/
theorem q_au_all4 (hT : Tr h A ks (nB bl)) {g : Nat} (hb : ∀ l p a, A l p = some a → bl l p < 2 ^ 20) (hg : g < 2 ^ 20) : q_au A (q_kc ks) (nB bl) (nI g) 5 0 0 (0, 0, 0, 0, 0) = (ks.length, p_nodes ks, p_bags ks, p_levels ks, p_own ks bl g) := by
  obtain ⟨h1, h2, h3, h4⟩ := q_au_w (q_kc ks) (nB bl) (nI g) hT.down 5 0 0 (0, 0, 0, 0, 0)
  have h0 := q_au_all (g := nI g) hT
  rw [w_t_sum] at h1 h2 h4
  rw [w_t_max] at h3
  have e1 : p_sum (fun l p => if (A l p).isSome then 1 else 0) = p_nodes ks := p_sum_congr fun l p hl hp => q_ifc (hT.ex5 hl hp) _ _
  have e2 : p_sum (fun l p => if (A l p).isSome ∧ l = 4 then 1 else 0) = p_bags ks := p_sum_congr fun l p hl hp => q_ifc (by rw [hT.ex5 hl hp]) _ _
  have e3 : p_max (fun l p => if (A l p).isSome then l + 1 else 0) = p_levels ks := p_max_congr fun l p hl hp => q_ifc (hT.ex5 hl hp) _ _
  have e4 : p_sum (fun l p => if (A l p).isSome ∧ nB bl l p = nI g then 1 else 0) = p_own ks bl g := p_sum_congr fun l p hl hp => q_ifc (by
    constructor
    · rintro ⟨z1, z2⟩
      obtain ⟨a, ha⟩ := Option.isSome_iff_exists.mp z1
      have := hb l p a ha
      exact ⟨(hT.ex5 hl hp).mp z1, (nI_eq (by omega) (by omega)).mp z2⟩
    · rintro ⟨z1, z2⟩
      exact ⟨(hT.ex5 hl hp).mpr z1, by unfold nB; rw [z2]⟩) _ _
  rw [e1, Nat.zero_add] at h1
  rw [e2, Nat.zero_add] at h2
  rw [e3, Nat.zero_max] at h3
  rw [e4, Nat.zero_add] at h4
  exact Prod.ext h0 (Prod.ext h1 (Prod.ext h2 (Prod.ext h3 h4)))
theorem q_cs_all (hT : Tr h A ks (nB bl)) (hT' : Tr h B ks' (nB bl')) (hb : ∀ l p a b, A l p = some a → B l p = some b → (a = b ↔ bl l p = bl' l p)) : q_cs A B 5 0 0 = p_com ks ks' bl bl' := by
  rw [q_cs_w B hT.down hT'.down, w_t_sum]
  refine p_sum_congr fun l p hl hp => q_ifc ?_ _ _
  rw [← hT.ex5 hl hp, ← hT'.ex5 hl hp]
  cases hA : A l p with
  | none => simp
  | some a =>
    cases hB : B l p with
    | none => simp
    | some b => simp [hb l p a b hA hB]
theorem w_out {w : Int32} (h0 : w ≠ 0) (h1 : w ≠ 1) (h2 : w ≠ 2) (h3 : w ≠ 3) (h4 : w ≠ 4) : w.toInt < 0 ∨ 4 < w.toInt := by
  apply Classical.byContradiction
  intro hn
  have e := Int32.ofInt_toInt (x := w)
  have : w.toInt = 0 ∨ w.toInt = 1 ∨ w.toInt = 2 ∨ w.toInt = 3 ∨ w.toInt = 4 := by omega
  rcases this with z | z | z | z | z
  · rw [z] at e; exact h0 e.symm
  · rw [z] at e; exact h1 e.symm
  · rw [z] at e; exact h2 e.symm
  · rw [z] at e; exact h3 e.symm
  · rw [z] at e; exact h4 e.symm
set_option maxRecDepth 100000 in
theorem s_measure (hS : CS h x σ) (m w : Int32) (hd : 10 ≤ d) (hc1 : h.1 + 40 ≤ x_cap K) (hc2 : h.2.1 + 200 ≤ x_cas K) :
    Go K M_Tri_measure d 0 [some (.ref x), some (.int m), some (.int w), none, none] [] h (Qc h x σ (p_Mea σ m w)) := by
  refine go_dom fun hdom => ?_
  have hS' := hS
  obtain ⟨mp, cu, B, ps, FA, fks, fbl, hO, hM, hC, hlg⟩ := hS
  have h0 := hO.1
  have kt : (¬ ∃ i t, m = nI i ∧ i < 6 ∧ mp i = some t) → Qc h x σ (p_Mea σ m w) (.inr (11, h.1)) (h.1 + 1, h.2.1 + 6, h.2.2) := fun hno => by
    unfold p_Mea
    rw [p_map_none hM.1 hno]
    exact Qc.thr hS' (fun b c hb => hb) (by simp) (by simp) (by simp) (by simp)
  refine go_aload_n (pc' := 1) (i := 0) d_Tri_measure_0 rfl rfl (by first | rfl | exact x_r_rf _) rfl ?_
  refine go_iload_n (pc' := 2) (i := 1) d_Tri_measure_1 rfl rfl rfl ?_
  refine go_callV (pc' := 5) (M' := M_Tri_existingMap) (ci := 5) (r := (n_Tri, T_Tri, 5)) [_] d_Tri_measure_2 t_109 t_111 sp_Tri_existingMap cd_Tri_existingMap nm_Tri_existingMap rfl (by rfl) (by first | assumption | exact x_up_self _ _ _ | exact x_nw_self _ _ _ | (rw [x_up_ne (by first | omega | (simp only [x_up, x_nw]; omega))]; first | assumption | exact x_up_self _ _ _ | (rw [x_up_ne (by first | omega | (simp only [x_up, x_nw]; omega))]; first | assumption | exact x_up_self _ _ _)) | (rw [x_nw_ne (by first | omega | (simp only [x_up, x_nw]; omega))]; first | assumption | exact x_up_self _ _ _ | (rw [x_up_ne (by first | omega | (simp only [x_up, x_nw]; omega))]; assumption))) rfl (Nat.le_of_ble_eq_true rfl) rfl (s_existingMap (d := d - 1) hO m (by omega) (by omega)) (by first | decide | omega) (Nat.le_of_ble_eq_true rfl) rfl (fun v hh hq => ?_) (fun q g hq => x_T.out rfl (by rw [hq.1, hq.2.1]; exact kt hq.2.2))
  obtain ⟨rfl, i, t, rfl, hi, ht, rfl⟩ := hq
  obtain ⟨⟨root, hroot, htc⟩, hTi, hPi, hKi, hroi, hgi, hbi⟩ := hM.2.1 i t hi ht
  have hpm := p_map_some (m := nI i) hM.1 hi rfl ht
  have htz := hdom _ _ htc
  show Go K M_Tri_measure d 5 _ [_] h _
  refine go_astore_n (pc' := 6) (i := 3) d_Tri_measure_5 rfl (by decide) (by first | rfl | exact x_r_rf _) (x_s3 (by first | rfl | exact x_k_rf _)) rfl ?_
  refine go_new (pc' := 9) (fs := [.int 0, .int 0, .int 0, .int 0, .int 0, .int 0]) d_Tri_measure_6 c_Tal t_209 t_210 t_10 (by decide +kernel) (by first | assumption | omega | (simp only [x_up, x_nw]; omega)) (by first | assumption | omega | (simp only [x_up, x_nw]; omega)) rfl ?_
  refine go_dup (pc' := 10) d_Tri_measure_9 (by first | rfl | exact x_c_rf _) rfl ?_
  refine go_aload_n (pc' := 11) (i := 3) d_Tri_measure_10 rfl rfl (by first | rfl | exact x_r_rf _) rfl ?_
  refine go_getfield (pc' := 14) d_Tri_measure_11 c_Map 1 (by decide) t_61 (by first | assumption | exact x_up_self _ _ _ | exact x_nw_self _ _ _ | (rw [x_up_ne (by first | omega | (simp only [x_up, x_nw]; omega))]; first | assumption | exact x_up_self _ _ _ | (rw [x_up_ne (by first | omega | (simp only [x_up, x_nw]; omega))]; first | assumption | exact x_up_self _ _ _)) | (rw [x_nw_ne (by first | omega | (simp only [x_up, x_nw]; omega))]; first | assumption | exact x_up_self _ _ _ | (rw [x_up_ne (by first | omega | (simp only [x_up, x_nw]; omega))]; assumption))) (by rfl) rfl ?_
  refine go_callI (pc' := 17) (M' := M_Tal_init) [_] d_Tri_measure_14 rfl rfl t_211 t_212 t_213 rfl nm_Tal_init rfl rfl (Nat.le_of_ble_eq_true rfl) rfl (s_Tal_init (d := d - 1) (x_nw_self _ _ _) (nI (s_gn σ i))) (by first | decide | omega) (Nat.le_of_ble_eq_true rfl) rfl (fun v hh hq => ?_) (fun q g hq => by cases hq.1)
  obtain ⟨e1, hh1⟩ := hq
  cases e1
  show Go K M_Tri_measure d 17 _ [.ref h.1] hh _
  have hk1 : ∀ b, b ≠ h.1 → hh.2.2 b = h.2.2 b := fun b hb => by rw [← hh1, x_up_ne hb, x_nw_ne hb]
  have ht1 : hh.2.2 t = some (.inr (4, [.ref root, .int (nI (s_gn σ i)), .int (s_ro σ i)])) := by rw [hk1 _ (by omega)]; exact htc
  have hn1 : hh.2.2 h.1 = some (tl (nI (s_gn σ i)) (0, 0, 0, 0, 0)) := by rw [← hh1]; exact x_up_self _ _ _
  have hz1 : hh.1 = h.1 + 1 := by rw [← hh1]; rfl
  have hs1 : hh.2.1 = h.2.1 + 6 := by rw [← hh1]; rfl
  have hkp : Kp h hh := fun b c hb _ => by
    have := hdom _ _ hb
    rw [hk1 _ (by omega)]; exact hb
  obtain ⟨hg, -⟩ := s_addUp (K := K) (t := h.1) (g := nI (s_gn σ i)) hTi hKi 4 0 0 root (0, 0, 0, 0, 0) hh rfl hroot hkp hn1 (by decide)
  rw [q_au_all4 hTi (fun l p a ha => by have := hbi l p a ha; omega) (by omega)] at hg
  refine go_astore (pc' := 19) (i := 4) d_Tri_measure_17 (by decide) (by first | rfl | exact x_r_rf _) (x_s4 (by first | rfl | exact x_k_rf _)) rfl ?_
  refine go_aload_n (pc' := 20) (i := 3) d_Tri_measure_19 rfl rfl (by first | rfl | exact x_r_rf _) rfl ?_
  refine go_getfield (pc' := 23) d_Tri_measure_20 c_Map 0 (by decide) t_59 (by first | assumption | exact x_up_self _ _ _ | exact x_nw_self _ _ _ | (rw [x_up_ne (by first | omega | (simp only [x_up, x_nw]; omega))]; first | assumption | exact x_up_self _ _ _ | (rw [x_up_ne (by first | omega | (simp only [x_up, x_nw]; omega))]; first | assumption | exact x_up_self _ _ _)) | (rw [x_nw_ne (by first | omega | (simp only [x_up, x_nw]; omega))]; first | assumption | exact x_up_self _ _ _ | (rw [x_up_ne (by first | omega | (simp only [x_up, x_nw]; omega))]; assumption))) (by rfl) rfl ?_
  refine go_iconst (pc' := 24) (v := (nI 0)) d_Tri_measure_23 (by decide) rfl ?_
  refine go_aload (pc' := 26) (i := 4) d_Tri_measure_24 rfl (by first | rfl | exact x_r_rf _) rfl ?_
  refine go_callS (pc' := 29) (M' := M_Tri_addUp) [_, _, _] d_Tri_measure_26 t_239 t_240 t_1 cd_Tri_addUp nm_Tri_addUp rfl rfl (Nat.le_of_ble_eq_true rfl) rfl (hg) (by first | decide | omega) (Nat.le_of_ble_eq_true rfl) rfl (fun v h2 hq => ?_) (fun q g hq => by cases hq.1)
  obtain ⟨e1, hh2⟩ := hq
  cases e1
  show Go K M_Tri_measure d 29 _ [] h2 _
  have hf : h2.2.2 h.1 = some (tl (nI (s_gn σ i)) ((s_ks σ i).length, p_nodes (s_ks σ i), p_bags (s_ks σ i), p_levels (s_ks σ i), p_own (s_ks σ i) (s_bl σ i) (s_gn σ i))) := by rw [← hh2]; exact x_up_self _ _ _
  unfold tl at hf
  have hk2 : ∀ b c, h.2.2 b = some c → h2.2.2 b = some c := fun b c hb => by
    have := hdom _ _ hb
    rw [← hh2, x_up_ne (by omega), hk1 _ (by omega)]; exact hb
  have hz2 : h2.1 = h.1 + 1 := by rw [← hh2]; exact hz1
  have hs2 : h2.2.1 = h.2.1 + 6 := by rw [← hh2]; exact hs1
  have ret : ∀ v, p_Mea σ (nI i) w = (σ, .inl (some v)) → Qc h x σ (p_Mea σ (nI i) w) (.inl (some v)) h2 := fun v e => by
    rw [e]
    exact Qc.ret hS' hk2 (by omega) (by omega) (by omega) (by omega)
  refine go_iload_n (pc' := 30) (i := 2) d_Tri_measure_29 rfl rfl rfl ?_
  by_cases w0 : w = 0
  · subst w0
    refine go_tableIn (tgt := 64) (off := 34) d_Tri_measure_30 (by decide) (by decide) (by decide) (by decide) ?_
    refine go_aload (pc' := 66) (i := 4) d_Tri_measure_64 rfl (by first | rfl | exact x_r_rf _) rfl ?_
    refine go_getfield (pc' := 69) d_Tri_measure_66 c_Tal 1 (by decide) t_217 (by first | assumption | exact x_up_self _ _ _ | exact x_nw_self _ _ _ | (rw [x_up_ne (by first | omega | (simp only [x_up, x_nw]; omega))]; first | assumption | exact x_up_self _ _ _ | (rw [x_up_ne (by first | omega | (simp only [x_up, x_nw]; omega))]; first | assumption | exact x_up_self _ _ _)) | (rw [x_nw_ne (by first | omega | (simp only [x_up, x_nw]; omega))]; first | assumption | exact x_up_self _ _ _ | (rw [x_up_ne (by first | omega | (simp only [x_up, x_nw]; omega))]; assumption))) (by rfl) rfl ?_
    refine go_ireturn d_Tri_measure_69 rfl (by rfl) ?_
    refine ret _ ?_
    unfold p_Mea
    rw [hpm]
    rfl
  by_cases w1 : w = 1
  · subst w1
    refine go_tableIn (tgt := 70) (off := 40) d_Tri_measure_30 (by decide) (by decide) (by decide) (by decide) ?_
    refine go_aload (pc' := 72) (i := 4) d_Tri_measure_70 rfl (by first | rfl | exact x_r_rf _) rfl ?_
    refine go_getfield (pc' := 75) d_Tri_measure_72 c_Tal 2 (by decide) t_219 (by first | assumption | exact x_up_self _ _ _ | exact x_nw_self _ _ _ | (rw [x_up_ne (by first | omega | (simp only [x_up, x_nw]; omega))]; first | assumption | exact x_up_self _ _ _ | (rw [x_up_ne (by first | omega | (simp only [x_up, x_nw]; omega))]; first | assumption | exact x_up_self _ _ _)) | (rw [x_nw_ne (by first | omega | (simp only [x_up, x_nw]; omega))]; first | assumption | exact x_up_self _ _ _ | (rw [x_up_ne (by first | omega | (simp only [x_up, x_nw]; omega))]; assumption))) (by rfl) rfl ?_
    refine go_ireturn d_Tri_measure_75 rfl (by rfl) ?_
    refine ret _ ?_
    unfold p_Mea
    rw [hpm]
    rfl
  by_cases w2 : w = 2
  · subst w2
    refine go_tableIn (tgt := 76) (off := 46) d_Tri_measure_30 (by decide) (by decide) (by decide) (by decide) ?_
    refine go_aload (pc' := 78) (i := 4) d_Tri_measure_76 rfl (by first | rfl | exact x_r_rf _) rfl ?_
    refine go_getfield (pc' := 81) d_Tri_measure_78 c_Tal 3 (by decide) t_221 (by first | assumption | exact x_up_self _ _ _ | exact x_nw_self _ _ _ | (rw [x_up_ne (by first | omega | (simp only [x_up, x_nw]; omega))]; first | assumption | exact x_up_self _ _ _ | (rw [x_up_ne (by first | omega | (simp only [x_up, x_nw]; omega))]; first | assumption | exact x_up_self _ _ _)) | (rw [x_nw_ne (by first | omega | (simp only [x_up, x_nw]; omega))]; first | assumption | exact x_up_self _ _ _ | (rw [x_up_ne (by first | omega | (simp only [x_up, x_nw]; omega))]; assumption))) (by rfl) rfl ?_
    refine go_ireturn d_Tri_measure_81 rfl (by rfl) ?_
    refine ret _ ?_
    unfold p_Mea
    rw [hpm]
    rfl
  by_cases w3 : w = 3
  · subst w3
    refine go_tableIn (tgt := 82) (off := 52) d_Tri_measure_30 (by decide) (by decide) (by decide) (by decide) ?_
    refine go_aload (pc' := 84) (i := 4) d_Tri_measure_82 rfl (by first | rfl | exact x_r_rf _) rfl ?_
    refine go_getfield (pc' := 87) d_Tri_measure_84 c_Tal 4 (by decide) t_223 (by first | assumption | exact x_up_self _ _ _ | exact x_nw_self _ _ _ | (rw [x_up_ne (by first | omega | (simp only [x_up, x_nw]; omega))]; first | assumption | exact x_up_self _ _ _ | (rw [x_up_ne (by first | omega | (simp only [x_up, x_nw]; omega))]; first | assumption | exact x_up_self _ _ _)) | (rw [x_nw_ne (by first | omega | (simp only [x_up, x_nw]; omega))]; first | assumption | exact x_up_self _ _ _ | (rw [x_up_ne (by first | omega | (simp only [x_up, x_nw]; omega))]; assumption))) (by rfl) rfl ?_
    refine go_ireturn d_Tri_measure_87 rfl (by rfl) ?_
    refine ret _ ?_
    unfold p_Mea
    rw [hpm]
    rfl
  by_cases w4 : w = 4
  · subst w4
    refine go_tableIn (tgt := 88) (off := 58) d_Tri_measure_30 (by decide) (by decide) (by decide) (by decide) ?_
    refine go_aload (pc' := 90) (i := 4) d_Tri_measure_88 rfl (by first | rfl | exact x_r_rf _) rfl ?_
    refine go_getfield (pc' := 93) d_Tri_measure_90 c_Tal 5 (by decide) t_225 (by first | assumption | exact x_up_self _ _ _ | exact x_nw_self _ _ _ | (rw [x_up_ne (by first | omega | (simp only [x_up, x_nw]; omega))]; first | assumption | exact x_up_self _ _ _ | (rw [x_up_ne (by first | omega | (simp only [x_up, x_nw]; omega))]; first | assumption | exact x_up_self _ _ _)) | (rw [x_nw_ne (by first | omega | (simp only [x_up, x_nw]; omega))]; first | assumption | exact x_up_self _ _ _ | (rw [x_up_ne (by first | omega | (simp only [x_up, x_nw]; omega))]; assumption))) (by rfl) rfl ?_
    refine go_ireturn d_Tri_measure_93 rfl (by rfl) ?_
    refine ret _ ?_
    unfold p_Mea
    rw [hpm]
    rfl
  refine go_tableOut (tgt := 94) d_Tri_measure_30 (w_out w0 w1 w2 w3 w4) (by decide) ?_
  have hp : p_Mea σ (nI i) w = (σ, .inr 11) := by
    unfold p_Mea
    rw [hpm]
    simp only [if_neg w0, if_neg w1, if_neg w2, if_neg w3, if_neg w4]
  rw [hp]
  exact go_throw (kx := 11) d_Tri_measure_94 d_Tri_measure_97 d_Tri_measure_98 d_Tri_measure_101 rfl (by decide +kernel) (by decide +kernel) rfl t_113 t_8 at_11 rfl (Nat.le_of_ble_eq_true rfl) (by first | assumption | omega | (simp only [x_up, x_nw]; omega)) (by first | assumption | omega | (simp only [x_up, x_nw]; omega)) (Qc.thr hS' hk2 (by simp; omega) (by simp; omega) (by simp; omega) (by simp; omega))
set_option maxRecDepth 100000 in
theorem s_common (hS : CS h x σ) (m n : Int32) (hd : 10 ≤ d) (hc1 : h.1 + 40 ≤ x_cap K) (hc2 : h.2.1 + 200 ≤ x_cas K) :
    Go K M_Tri_common d 0 [some (.ref x), some (.int m), some (.int n)] [] h (Qc h x σ (p_Com σ m n)) := by
  have hS' := hS
  obtain ⟨mp, cu, B, ps, FA, fks, fbl, hO, hM, hC, hlg⟩ := hS
  have h0 := hO.1
  have kt : (¬ ∃ i t, m = nI i ∧ i < 6 ∧ mp i = some t) → Qc h x σ (p_Com σ m n) (.inr (11, h.1)) (h.1 + 1, h.2.1 + 6, h.2.2) := fun hno => by
    unfold p_Com
    rw [p_map_none hM.1 hno]
    exact Qc.thr hS' (fun b c hb => hb) (by simp) (by simp) (by simp) (by simp)
  refine go_aload_n (pc' := 1) (i := 0) d_Tri_common_0 rfl rfl (by first | rfl | exact x_r_rf _) rfl ?_
  refine go_iload_n (pc' := 2) (i := 1) d_Tri_common_1 rfl rfl rfl ?_
  refine go_callV (pc' := 5) (M' := M_Tri_existingMap) (ci := 5) (r := (n_Tri, T_Tri, 5)) [_] d_Tri_common_2 t_109 t_111 sp_Tri_existingMap cd_Tri_existingMap nm_Tri_existingMap rfl (by rfl) (by first | assumption | exact x_up_self _ _ _ | exact x_nw_self _ _ _ | (rw [x_up_ne (by first | omega | (simp only [x_up, x_nw]; omega))]; first | assumption | exact x_up_self _ _ _ | (rw [x_up_ne (by first | omega | (simp only [x_up, x_nw]; omega))]; first | assumption | exact x_up_self _ _ _)) | (rw [x_nw_ne (by first | omega | (simp only [x_up, x_nw]; omega))]; first | assumption | exact x_up_self _ _ _ | (rw [x_up_ne (by first | omega | (simp only [x_up, x_nw]; omega))]; assumption))) rfl (Nat.le_of_ble_eq_true rfl) rfl (s_existingMap (d := d - 1) hO m (by omega) (by omega)) (by first | decide | omega) (Nat.le_of_ble_eq_true rfl) rfl (fun v hh hq => ?_) (fun q g hq => x_T.out rfl (by rw [hq.1, hq.2.1]; exact kt hq.2.2))
  obtain ⟨rfl, i, t, rfl, hi, ht, rfl⟩ := hq
  obtain ⟨⟨root, hroot, htc⟩, hTi, hPi, hKi, hroi, hgi, hbi⟩ := hM.2.1 i t hi ht
  have hpm := p_map_some (m := nI i) hM.1 hi rfl ht
  show Go K M_Tri_common d 5 _ [_] h _
  have kt2 : (¬ ∃ i t, n = nI i ∧ i < 6 ∧ mp i = some t) → Qc h x σ (p_Com σ (nI i) n) (.inr (11, h.1)) (h.1 + 1, h.2.1 + 6, h.2.2) := fun hno => by
    unfold p_Com
    rw [hpm]
    simp only [p_map_none hM.1 hno]
    exact Qc.thr hS' (fun b c hb => hb) (by simp) (by simp) (by simp) (by simp)
  refine go_getfield (pc' := 8) d_Tri_common_5 c_Map 0 (by decide) t_59 (by first | assumption | exact x_up_self _ _ _ | exact x_nw_self _ _ _ | (rw [x_up_ne (by first | omega | (simp only [x_up, x_nw]; omega))]; first | assumption | exact x_up_self _ _ _ | (rw [x_up_ne (by first | omega | (simp only [x_up, x_nw]; omega))]; first | assumption | exact x_up_self _ _ _)) | (rw [x_nw_ne (by first | omega | (simp only [x_up, x_nw]; omega))]; first | assumption | exact x_up_self _ _ _ | (rw [x_up_ne (by first | omega | (simp only [x_up, x_nw]; omega))]; assumption))) (by rfl) rfl ?_
  refine go_aload_n (pc' := 9) (i := 0) d_Tri_common_8 rfl rfl (by first | rfl | exact x_r_rf _) rfl ?_
  refine go_iload_n (pc' := 10) (i := 2) d_Tri_common_9 rfl rfl rfl ?_
  refine go_callV (pc' := 13) (M' := M_Tri_existingMap) (ci := 5) (r := (n_Tri, T_Tri, 5)) [_] d_Tri_common_10 t_109 t_111 sp_Tri_existingMap cd_Tri_existingMap nm_Tri_existingMap rfl (by rfl) (by first | assumption | exact x_up_self _ _ _ | exact x_nw_self _ _ _ | (rw [x_up_ne (by first | omega | (simp only [x_up, x_nw]; omega))]; first | assumption | exact x_up_self _ _ _ | (rw [x_up_ne (by first | omega | (simp only [x_up, x_nw]; omega))]; first | assumption | exact x_up_self _ _ _)) | (rw [x_nw_ne (by first | omega | (simp only [x_up, x_nw]; omega))]; first | assumption | exact x_up_self _ _ _ | (rw [x_up_ne (by first | omega | (simp only [x_up, x_nw]; omega))]; assumption))) rfl (Nat.le_of_ble_eq_true rfl) rfl (s_existingMap (d := d - 1) hO n (by omega) (by omega)) (by first | decide | omega) (Nat.le_of_ble_eq_true rfl) rfl (fun v hh hq => ?_) (fun q g hq => x_T.out rfl (by rw [hq.1, hq.2.1]; exact kt2 hq.2.2))
  obtain ⟨rfl, j, u, rfl, hj, hu, rfl⟩ := hq
  obtain ⟨⟨rootj, hrootj, huc⟩, hTj, hPj, hKj, hroj, hgj, hbj⟩ := hM.2.1 j u hj hu
  have hpn := p_map_some (m := nI j) hM.1 hj rfl hu
  show Go K M_Tri_common d 13 _ [_, _] h _
  have hthi : s_th σ i = true := by rw [← hM.1 i hi, ht]; rfl
  have hthj : s_th σ j = true := by rw [← hM.1 j hj, hu]; rfl
  have hcs := q_cs_all hTi hTj (fun l p a b ha hb => ⟨fun e => by
    subst e
    obtain ⟨_, _, _, _, hN1, -⟩ := hTi.nd ha
    obtain ⟨_, _, _, _, hN2, -⟩ := hTj.nd hb
    have e2 := (hN1.uniq hN2).1
    have z1 := hbi l p _ ha
    have z2 := hbj l p _ hb
    exact (nI_eq (by omega) (by omega)).mp e2, fun e => hM.2.2.2.2.1 i j hi hj hthi hthj l p a b ha hb e⟩)
  have hg := s_countShared (K := K) hTi hKi hTj hKj 4 0 0 root rootj rfl hroot hrootj
  rw [hcs] at hg
  refine go_getfield (pc' := 16) d_Tri_common_13 c_Map 0 (by decide) t_59 (by first | assumption | exact x_up_self _ _ _ | exact x_nw_self _ _ _ | (rw [x_up_ne (by first | omega | (simp only [x_up, x_nw]; omega))]; first | assumption | exact x_up_self _ _ _ | (rw [x_up_ne (by first | omega | (simp only [x_up, x_nw]; omega))]; first | assumption | exact x_up_self _ _ _)) | (rw [x_nw_ne (by first | omega | (simp only [x_up, x_nw]; omega))]; first | assumption | exact x_up_self _ _ _ | (rw [x_up_ne (by first | omega | (simp only [x_up, x_nw]; omega))]; assumption))) (by rfl) rfl ?_
  refine go_iconst (pc' := 17) (v := (nI 0)) d_Tri_common_16 (by decide) rfl ?_
  refine go_callS (pc' := 20) (M' := M_Tri_countShared) [_, _, _] d_Tri_common_17 t_455 t_456 t_1 cd_Tri_countShared nm_Tri_countShared rfl rfl (Nat.le_of_ble_eq_true rfl) rfl (hg) (by first | decide | omega) (Nat.le_of_ble_eq_true rfl) rfl (fun v hh hq => ?_) (fun q g hq => by cases hq.1)
  obtain ⟨e1, rfl⟩ := hq
  cases e1
  show Go K M_Tri_common d 20 _ [_] h _
  refine go_ireturn d_Tri_common_20 rfl (by rfl) ?_
  unfold p_Com
  rw [hpm]
  simp only [hpn]
  exact Qc.ret hS' (fun b c hb => hb) (by simp) (by simp) (by simp) (by simp)
end FB
