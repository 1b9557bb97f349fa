section TC
variable {K : x_K} {d : Nat} {h : x_H} {A B : Nat → Nat → Option Nat} {ks ks' : List KV} {bel bel' : Nat → Nat → Int32} {t a : Nat} {g : Int32}
theorem q_one4 : ∀ dd : Nat, dd < 4 → (if dd = 0 then 1 else 0) + ((if dd = 1 then 1 else 0) + ((if dd = 2 then 1 else 0) + (if dd = 3 then 1 else 0))) = 1 := by decide
theorem q_f_cons (x : KV) (r : List KV) (l p : Nat) : (q_f (x :: r) l p).length = (q_f r l p).length + (if q_p l x.1 = p then 1 else 0) := by
  unfold q_f
  rw [List.filter_cons]
  by_cases hx : q_p l x.1 = p <;> simp [hx]
theorem q_r4 {α : Type} (f : Nat → α) : (List.range 4).map f = [f 0, f 1, f 2, f 3] := rfl
theorem q_f_len4 (ks : List KV) {l : Nat} (hl : l < 4) (p : Nat) : (q_f ks l p).length = (q_f ks (l + 1) (4 * p + 0)).length + ((q_f ks (l + 1) (4 * p + 1)).length + ((q_f ks (l + 1) (4 * p + 2)).length + (q_f ks (l + 1) (4 * p + 3)).length)) := by
  induction ks with
  | nil => simp [q_f]
  | cons x r ih =>
    rw [q_f_cons, q_f_cons, q_f_cons, q_f_cons, q_f_cons, ih]
    have h1 := q_p_s hl x.1
    have h2 := q_d_lt l x.1
    by_cases hx : q_p l x.1 = p
    · have k : ∀ j, (if q_p (l + 1) x.1 = 4 * p + j then 1 else 0) = (if q_d l x.1 = j then 1 else 0) := by
        intro j
        by_cases hj : q_d l x.1 = j
        · rw [if_pos hj, if_pos (by omega)]
        · rw [if_neg hj, if_neg (by omega)]
      have hs := q_one4 _ h2
      rw [k 0, k 1, k 2, k 3, if_pos hx]
      omega
    · have hne : ∀ j, j < 4 → ¬ q_p (l + 1) x.1 = 4 * p + j := fun j hj => by omega
      rw [if_neg hx, if_neg (hne 0 (by omega)), if_neg (hne 1 (by omega)), if_neg (hne 2 (by omega)), if_neg (hne 3 (by omega))]
      omega
theorem q_f_len (ks : List KV) {l : Nat} (hl : l < 4) (p : Nat) : (q_f ks l p).length = ((List.range 4).map (fun j => (q_f ks (l + 1) (4 * p + j)).length)).sum := by
  rw [q_r4, q_f_len4 ks hl p]
  rfl
/-- the keys that addUp counts -/
theorem q_au_keys (hT : Tr h A ks bel) : ∀ (r l p : Nat) (c : Ac), l + r = 4 → p < 4 ^ l → (q_au A (q_kc ks) bel g (r + 1) l p c).1 = c.1 + (if (A l p).isSome then (q_f ks l p).length else 0) := by
  intro r
  induction r with
  | zero =>
    intro l p c hl hp
    have hl4 : l = 4 := by omega
    subst hl4
    cases hA : A 4 p with
    | none => simp [q_au, hA]
    | some a =>
      have e : q_au A (q_kc ks) bel g (0 + 1) 4 p c = q_a1 (q_kc ks) (fun l p => bel l p = g) 4 p c := by
        simp only [q_au, hA]
        rfl
      rw [e]
      simp [q_a1, q_kc]
  | succ r ih =>
    intro l p c hl hp
    have hl4 : l < 4 := by omega
    cases hA : A l p with
    | none => simp [q_au, hA]
    | some a =>
      have hpj : ∀ j, j < 4 → 4 * p + j < 4 ^ (l + 1) := fun j hj => by rw [Nat.pow_succ]; omega
      have hkc : q_kc ks l p + ((List.range 4).map (fun j => if (A (l + 1) (4 * p + j)).isSome then (q_f ks (l + 1) (4 * p + j)).length else 0)).sum = (q_f ks l p).length := by
        rw [q_f_len ks hl4 p]
        unfold q_kc
        rw [if_pos hl4]
        have key : ∀ j, j < 4 → (if (q_f ks (l + 1) (4 * p + j)).length = 1 then 1 else 0) + (if (A (l + 1) (4 * p + j)).isSome then (q_f ks (l + 1) (4 * p + j)).length else 0) = (q_f ks (l + 1) (4 * p + j)).length := by
          intro j hj
          have hex := hT.1 (l + 1) (4 * p + j)
          cases hB : A (l + 1) (4 * p + j) with
          | none =>
            have : ¬ 2 ≤ (q_f ks (l + 1) (4 * p + j)).length := fun z => by
              obtain ⟨b, hb⟩ := hex.mpr ⟨by omega, hpj j hj, Or.inr z⟩
              rw [hB] at hb
              cases hb
            simp only [Option.isSome_none]
            split <;> simp <;> omega
          | some b =>
            have h2 := (hex.mp ⟨b, hB⟩).2.2
            simp only [Option.isSome_some, if_true]
            rw [if_neg (by omega)]
            omega
        simp only [q_r4, List.sum_cons, List.sum_nil]
        have k0 := key 0 (by omega)
        have k1 := key 1 (by omega)
        have k2 := key 2 (by omega)
        have k3 := key 3 (by omega)
        omega
      have hq : ∀ (js : List Nat) (c : Ac), (∀ j ∈ js, j < 4) → (js.foldl (fun c j => q_au A (q_kc ks) bel g (r + 1) (l + 1) (4 * p + j) c) c).1 = c.1 + (js.map (fun j => if (A (l + 1) (4 * p + j)).isSome then (q_f ks (l + 1) (4 * p + j)).length else 0)).sum := by
        intro js
        induction js with
        | nil => intro c _; simp
        | cons j js ihj =>
          intro c hj
          rw [List.foldl_cons, ihj _ (fun z hz => hj z (List.mem_cons_of_mem _ hz)), ih (l + 1) (4 * p + j) c (by omega) (hpj j (hj j List.mem_cons_self)), List.map_cons, List.sum_cons]
          omega
      have e : q_au A (q_kc ks) bel g (r + 1 + 1) l p c = (List.range 4).foldl (fun c j => q_au A (q_kc ks) bel g (r + 1) (l + 1) (4 * p + j) c) (q_a1 (q_kc ks) (fun l p => bel l p = g) l p c) := by
        rw [q_au, hA]
      rw [e, hq _ _ (fun j hj => List.mem_range.mp hj)]
      simp only [q_a1, Option.isSome_some, if_true]
      omega
theorem q_au_all (hT : Tr h A ks bel) : (q_au A (q_kc ks) bel g 5 0 0 (0, 0, 0, 0, 0)).1 = ks.length := by
  obtain ⟨a, ha⟩ := (hT.1 0 0).mpr ⟨by omega, by decide, Or.inl rfl⟩
  rw [q_au_keys hT 4 0 0 _ (by omega) (by decide), ha, q_f_0]
  simp
theorem s_countKeys (hT : Tr h A ks bel) (hK : Ko ks) {root : Nat} (hr : A 0 0 = some root) (hd : 7 ≤ d) (hc1 : h.1 + 1 ≤ x_cap K) (hc2 : h.2.1 + 6 ≤ x_cas K) :
    Go K M_Tri_countKeys d 0 [some (.ref root), none] [] h (x_rt (fun v f => v = some (.int (nI ks.length)) ∧ f.1 = h.1 + 1 ∧ f.2.1 = h.2.1 + 6 ∧ ∀ b, b < h.1 → f.2.2 b = h.2.2 b)) := by
  refine go_dom fun hdom => ?_
  refine go_new (pc' := 3) (fs := [.int 0, .int 0, .int 0, .int 0, .int 0, .int 0]) d_Tri_countKeys_0 c_Tal t_209 t_210 t_10 (by decide +kernel) (by first | assumption | omega | (simp only [x_up, x_nw]; omega)) (by first | assumption | omega | (simp only [x_up, x_nw]; omega)) rfl ?_
  refine go_dup (pc' := 4) d_Tri_countKeys_3 (by first | rfl | exact x_c_rf _) rfl ?_
  refine go_iconst (pc' := 5) (v := (-1)) d_Tri_countKeys_4 (by decide) rfl ?_
  refine go_callI (pc' := 8) (M' := M_Tal_init) [_] d_Tri_countKeys_5 rfl rfl t_211 t_212 t_213 rfl nm_Tal_init rfl rfl (Nat.le_of_ble_eq_true rfl) rfl (s_Tal_init (d := d - 1) (x_nw_self _ _ _) (-1)) (by first | decide | omega) (Nat.le_of_ble_eq_true rfl) rfl (fun v hh hq => ?_) (fun q g hq => by cases hq.1)
  obtain ⟨e1, rfl⟩ := hq
  cases e1
  show Go K M_Tri_countKeys d 8 _ [.ref h.1] _ _
  refine go_astore_n (pc' := 9) (i := 1) d_Tri_countKeys_8 rfl (by decide) (by first | rfl | exact x_r_rf _) (x_s1 (by first | rfl | exact x_k_rf _)) rfl ?_
  refine go_aload_n (pc' := 10) (i := 0) d_Tri_countKeys_9 rfl rfl (by first | rfl | exact x_r_rf _) rfl ?_
  refine go_iconst (pc' := 11) (v := (nI 0)) d_Tri_countKeys_10 (by decide) rfl ?_
  refine go_aload_n (pc' := 12) (i := 1) d_Tri_countKeys_11 rfl rfl (by first | rfl | exact x_r_rf _) rfl ?_
  have hk : Kp h (x_up (x_nw h 6 (.inr (3, [.int 0, .int 0, .int 0, .int 0, .int 0, .int 0]))) h.1 (.inr (3, [.int (-1), .int 0, .int 0, .int 0, .int 0, .int 0]))) := (Kp.nw hdom _ _).tr (Kp.up (x_nw_self _ _ _) rfl)
  obtain ⟨hg, -⟩ := s_addUp (K := K) (t := h.1) (g := -1) hT hK 4 0 0 root (0, 0, 0, 0, 0) _ rfl hr hk (x_up_self _ _ _) (by decide)
  refine go_callS (pc' := 15) (M' := M_Tri_addUp) [_, _, _] d_Tri_countKeys_12 t_239 t_240 t_1 cd_Tri_addUp nm_Tri_addUp rfl rfl (Nat.le_of_ble_eq_true rfl) rfl (hg) (by first | decide | omega) (Nat.le_of_ble_eq_true rfl) rfl (fun v hh hq => ?_) (fun q g hq => by cases hq.1)
  obtain ⟨e1, rfl⟩ := hq
  cases e1
  show Go K M_Tri_countKeys d 15 _ [] _ _
  have hf := x_up_self (x_up (x_nw h 6 (.inr (3, [.int 0, .int 0, .int 0, .int 0, .int 0, .int 0]))) h.1 (.inr (3, [.int (-1), .int 0, .int 0, .int 0, .int 0, .int 0]))) h.1 (tl (-1) (q_au A (q_kc ks) bel (-1) 5 0 0 (0, 0, 0, 0, 0)))
  unfold tl at hf
  refine go_aload_n (pc' := 16) (i := 1) d_Tri_countKeys_15 rfl rfl (by first | rfl | exact x_r_rf _) rfl ?_
  refine go_getfield (pc' := 19) d_Tri_countKeys_16 c_Tal 1 (by decide) t_217 (by first | assumption | exact x_up_self _ _ _ | exact x_nw_self _ _ _ | (rw [x_up_ne (by first | omega | (simp only [x_up, x_nw]; omega))]; first | assumption | exact x_up_self _ _ _ | (rw [x_up_ne (by first | omega | (simp only [x_up, x_nw]; omega))]; first | assumption | exact x_up_self _ _ _)) | (rw [x_nw_ne (by first | omega | (simp only [x_up, x_nw]; omega))]; first | assumption | exact x_up_self _ _ _ | (rw [x_up_ne (by first | omega | (simp only [x_up, x_nw]; omega))]; assumption))) (by rfl) rfl ?_
  refine go_ireturn d_Tri_countKeys_19 rfl (by rfl) ?_
  refine ⟨by rw [q_au_all hT], rfl, rfl, fun b hb => ?_⟩
  rw [x_up_ne (by omega), x_up_ne (by omega), x_nw_ne (by omega)]
/-- the nodes that two tries have in common -/
def q_cs (A B : Nat → Nat → Option Nat) : Nat → Nat → Nat → Nat
  | 0, _, _ => 0
  | n + 1, l, p => match A l p, B l p with
    | some a, some b => (if a = b then 1 else 0) + ((List.range 4).map (fun j => q_cs A B n (l + 1) (4 * p + j))).sum
    | _, _ => 0
theorem s_cs0 {l : Nat} {v : Value} (hv : x_r v = true) : Go K M_Tri_countShared d 0 [some .null, some v, some (.int (nI l)), none, none] [] h (x_is (some (.int (nI 0))) h) := by
  refine go_aload_n (pc' := 1) (i := 0) d_Tri_countShared_0 rfl rfl (by first | rfl | exact x_r_rf _) rfl ?_
  refine go_ifnull_n (tgt := 13) d_Tri_countShared_1 (by decide) ?_
  refine go_iconst (pc' := 14) (v := (nI 0)) d_Tri_countShared_13 (by decide) rfl ?_
  refine go_ireturn d_Tri_countShared_14 rfl (by rfl) ?_
  exact ⟨rfl, rfl⟩
theorem s_cs1 {l : Nat} : Go K M_Tri_countShared d 0 [some (.ref a), some .null, some (.int (nI l)), none, none] [] h (x_is (some (.int (nI 0))) h) := by
  refine go_aload_n (pc' := 1) (i := 0) d_Tri_countShared_0 rfl rfl (by first | rfl | exact x_r_rf _) rfl ?_
  refine go_ifnull_r (pc' := 4) d_Tri_countShared_1 rfl ?_
  refine go_aload_n (pc' := 5) (i := 1) d_Tri_countShared_4 rfl rfl (by first | rfl | exact x_r_rf _) rfl ?_
  refine go_ifnull_n (tgt := 13) d_Tri_countShared_5 (by decide) ?_
  refine go_iconst (pc' := 14) (v := (nI 0)) d_Tri_countShared_13 (by decide) rfl ?_
  refine go_ireturn d_Tri_countShared_14 rfl (by rfl) ?_
  exact ⟨rfl, rfl⟩
theorem s_countShared (hT : Tr h A ks bel) (hK : Ko ks) (hT' : Tr h B ks' bel') (hK' : Ko ks') : ∀ (r l p a b : Nat), l + r = 4 → A l p = some a → B l p = some b →
    Go K M_Tri_countShared (r + 2) 0 [some (.ref a), some (.ref b), some (.int (nI l)), none, none] [] h (x_is (some (.int (nI (q_cs A B (r + 1) l p)))) h) := by
  intro r
  induction r with
  | zero =>
    intro l p a b hl ha hb
    have hl4 : l = 4 := by omega
    subst hl4
    obtain ⟨-, n, es, k, ns, hN, hn, hkk, hct, hns⟩ := hT.kc hK ha
    have hk0 : k = 0 := by rw [hkk]; rfl
    subst hk0
    obtain ⟨h0, h1, h2⟩ := hN
    have eq1 : q_cs A B (0 + 1) 4 p = (if a = b then 1 else 0) := by
      simp only [q_cs, ha, hb]
      rfl
    rw [eq1]
    refine go_aload_n (pc' := 1) (i := 0) d_Tri_countShared_0 rfl rfl (by first | rfl | exact x_r_rf _) rfl ?_
    refine go_ifnull_r (pc' := 4) d_Tri_countShared_1 rfl ?_
    refine go_aload_n (pc' := 5) (i := 1) d_Tri_countShared_4 rfl rfl (by first | rfl | exact x_r_rf _) rfl ?_
    refine go_ifnull_r (pc' := 8) d_Tri_countShared_5 rfl ?_
    refine go_iload_n (pc' := 9) (i := 2) d_Tri_countShared_8 rfl rfl rfl ?_
    refine go_iconst (pc' := 10) (v := (nI 4)) d_Tri_countShared_9 (by decide) rfl ?_
    have fin : ∀ x : Nat, x = (if a = b then 1 else 0) → Go K M_Tri_countShared (0 + 2) 25 [some (.ref a), some (.ref b), some (.int (nI 4)), none, none] [.int (nI x)] h (x_is (some (.int (nI (if a = b then 1 else 0)))) h) := by
      intro x hx
      subst hx
      refine go_istore_n (pc' := 26) (i := 3) d_Tri_countShared_25 rfl (by decide) (x_s3 (by first | rfl | exact x_k_rf _)) rfl ?_
      refine go_iconst (pc' := 27) (v := (nI 0)) d_Tri_countShared_26 (by decide) rfl ?_
      refine go_istore (pc' := 29) (i := 4) d_Tri_countShared_27 (by decide) (x_s4 (by first | rfl | exact x_k_rf _)) rfl ?_
      refine go_iload (pc' := 31) (i := 4) d_Tri_countShared_29 rfl rfl ?_
      refine go_aload_n (pc' := 32) (i := 0) d_Tri_countShared_31 rfl rfl (by first | rfl | exact x_r_rf _) rfl ?_
      refine go_getfield (pc' := 35) d_Tri_countShared_32 c_Nod 2 (by decide) t_46 (by first | assumption | exact x_up_self _ _ _ | exact x_nw_self _ _ _ | (rw [x_up_ne (by first | omega | (simp only [x_up, x_nw]; omega))]; first | assumption | exact x_up_self _ _ _ | (rw [x_up_ne (by first | omega | (simp only [x_up, x_nw]; omega))]; first | assumption | exact x_up_self _ _ _)) | (rw [x_nw_ne (by first | omega | (simp only [x_up, x_nw]; omega))]; first | assumption | exact x_up_self _ _ _ | (rw [x_up_ne (by first | omega | (simp only [x_up, x_nw]; omega))]; assumption))) (by rfl) rfl ?_
      refine go_alenN (pc' := 36) d_Tri_countShared_35 (by first | assumption | exact x_up_self _ _ _ | exact x_nw_self _ _ _ | (rw [x_up_ne (by first | omega | (simp only [x_up, x_nw]; omega))]; first | assumption | exact x_up_self _ _ _ | (rw [x_up_ne (by first | omega | (simp only [x_up, x_nw]; omega))]; first | assumption | exact x_up_self _ _ _)) | (rw [x_nw_ne (by first | omega | (simp only [x_up, x_nw]; omega))]; first | assumption | exact x_up_self _ _ _ | (rw [x_up_ne (by first | omega | (simp only [x_up, x_nw]; omega))]; assumption))) (by rfl) rfl ?_
      refine go_icmp_geN (tgt := 67) (pc' := 39) d_Tri_countShared_36 (by decide) rfl (by omega) (by omega) (fun hc => ?_) (fun hc => ?_)
      · refine go_iload_n (pc' := 68) (i := 3) d_Tri_countShared_67 rfl rfl rfl ?_
        refine go_ireturn d_Tri_countShared_68 rfl (by rfl) ?_
        exact ⟨rfl, rfl⟩
      · omega
    refine go_icmp_leN (tgt := 15) (pc' := 13) d_Tri_countShared_10 (by decide) rfl (by omega) (by omega) (fun hc => ?_) (fun hc => ?_)
    · refine go_aload_n (pc' := 16) (i := 0) d_Tri_countShared_15 rfl rfl (by first | rfl | exact x_r_rf _) rfl ?_
      refine go_aload_n (pc' := 17) (i := 1) d_Tri_countShared_16 rfl rfl (by first | rfl | exact x_r_rf _) rfl ?_
      refine go_acmp_ne (tgt := 24) (pc' := 20) d_Tri_countShared_17 (by decide) rfl (fun hc => ?_) (fun hc => ?_)
      · refine go_iconst (pc' := 25) (v := (nI 0)) d_Tri_countShared_24 (by decide) rfl ?_
        exact fin 0 (by rw [if_neg hc])
      · refine go_iconst (pc' := 21) (v := (nI 1)) d_Tri_countShared_20 (by decide) rfl ?_
        refine go_goto (tgt := 25) d_Tri_countShared_21 (by decide) ?_
        exact fin 1 (by rw [if_pos hc])
    · omega
  | succ r ih =>
    intro l p a b hl ha hb
    have hl4 : l < 4 := by omega
    obtain ⟨-, n, es, k, ns, hN, hn, hkk, hct, hns⟩ := hT.kc hK ha
    have hk0 : k = 4 := by rw [hkk, if_pos hl4]
    subst hk0
    obtain ⟨h0, h1, h2⟩ := hN
    obtain ⟨-, n', es', k', ns', hN2, hn', hkk', hct', hns'⟩ := hT'.kc hK' hb
    have hk0 : k' = 4 := by rw [hkk', if_pos hl4]
    subst hk0
    have hb0 := hN2.1
    obtain ⟨z0, hz0⟩ : ∃ z : Nat, z = (if a = b then 1 else 0) := ⟨_, rfl⟩
    obtain ⟨F, hF⟩ : ∃ F : Nat → Nat, F = fun i => z0 + ((List.range i).map (fun j => q_cs A B (r + 1) (l + 1) (4 * p + j))).sum := ⟨_, rfl⟩
    have hF0 : F 0 = z0 := by rw [hF]; simp
    have hFs : ∀ i, F (i + 1) = F i + q_cs A B (r + 1) (l + 1) (4 * p + i) := by
      intro i
      rw [hF]
      simp only [List.range_succ, List.map_append, List.sum_append, List.map_cons, List.map_nil, List.sum_cons, List.sum_nil]
      omega
    have eq1 : q_cs A B (r + 1 + 1) l p = F 4 := by
      rw [hF, hz0, q_cs, ha, hb]
    rw [eq1]
    have loop : ∀ rr i, i + rr = 4 → Go K M_Tri_countShared (r + 1 + 2) 29 [some (.ref a), some (.ref b), some (.int (nI l)), some (.int (nI (F i))), some (.int (nI i))] [] h (x_is (some (.int (nI (F 4)))) h) := by
      intro rr
      induction rr with
      | zero =>
        intro i hi
        have hi4 : i = 4 := by omega
        subst hi4
        refine go_iload (pc' := 31) (i := 4) d_Tri_countShared_29 rfl rfl ?_
        refine go_aload_n (pc' := 32) (i := 0) d_Tri_countShared_31 rfl rfl (by first | rfl | exact x_r_rf _) rfl ?_
        refine go_getfield (pc' := 35) d_Tri_countShared_32 c_Nod 2 (by decide) t_46 (by first | assumption | exact x_up_self _ _ _ | exact x_nw_self _ _ _ | (rw [x_up_ne (by first | omega | (simp only [x_up, x_nw]; omega))]; first | assumption | exact x_up_self _ _ _ | (rw [x_up_ne (by first | omega | (simp only [x_up, x_nw]; omega))]; first | assumption | exact x_up_self _ _ _)) | (rw [x_nw_ne (by first | omega | (simp only [x_up, x_nw]; omega))]; first | assumption | exact x_up_self _ _ _ | (rw [x_up_ne (by first | omega | (simp only [x_up, x_nw]; omega))]; assumption))) (by rfl) rfl ?_
        refine go_alenN (pc' := 36) d_Tri_countShared_35 (by first | assumption | exact x_up_self _ _ _ | exact x_nw_self _ _ _ | (rw [x_up_ne (by first | omega | (simp only [x_up, x_nw]; omega))]; first | assumption | exact x_up_self _ _ _ | (rw [x_up_ne (by first | omega | (simp only [x_up, x_nw]; omega))]; first | assumption | exact x_up_self _ _ _)) | (rw [x_nw_ne (by first | omega | (simp only [x_up, x_nw]; omega))]; first | assumption | exact x_up_self _ _ _ | (rw [x_up_ne (by first | omega | (simp only [x_up, x_nw]; omega))]; assumption))) (by rfl) rfl ?_
        refine go_icmp_geN (tgt := 67) (pc' := 39) d_Tri_countShared_36 (by decide) rfl (by omega) (by omega) (fun hc => ?_) (fun hc => ?_)
        · refine go_iload_n (pc' := 68) (i := 3) d_Tri_countShared_67 rfl rfl rfl ?_
          refine go_ireturn d_Tri_countShared_68 rfl (by rfl) ?_
          exact ⟨rfl, rfl⟩
        · omega
      | succ rr ihr =>
        intro i hi
        refine go_iload (pc' := 31) (i := 4) d_Tri_countShared_29 rfl rfl ?_
        refine go_aload_n (pc' := 32) (i := 0) d_Tri_countShared_31 rfl rfl (by first | rfl | exact x_r_rf _) rfl ?_
        refine go_getfield (pc' := 35) d_Tri_countShared_32 c_Nod 2 (by decide) t_46 (by first | assumption | exact x_up_self _ _ _ | exact x_nw_self _ _ _ | (rw [x_up_ne (by first | omega | (simp only [x_up, x_nw]; omega))]; first | assumption | exact x_up_self _ _ _ | (rw [x_up_ne (by first | omega | (simp only [x_up, x_nw]; omega))]; first | assumption | exact x_up_self _ _ _)) | (rw [x_nw_ne (by first | omega | (simp only [x_up, x_nw]; omega))]; first | assumption | exact x_up_self _ _ _ | (rw [x_up_ne (by first | omega | (simp only [x_up, x_nw]; omega))]; assumption))) (by rfl) rfl ?_
        refine go_alenN (pc' := 36) d_Tri_countShared_35 (by first | assumption | exact x_up_self _ _ _ | exact x_nw_self _ _ _ | (rw [x_up_ne (by first | omega | (simp only [x_up, x_nw]; omega))]; first | assumption | exact x_up_self _ _ _ | (rw [x_up_ne (by first | omega | (simp only [x_up, x_nw]; omega))]; first | assumption | exact x_up_self _ _ _)) | (rw [x_nw_ne (by first | omega | (simp only [x_up, x_nw]; omega))]; first | assumption | exact x_up_self _ _ _ | (rw [x_up_ne (by first | omega | (simp only [x_up, x_nw]; omega))]; assumption))) (by rfl) rfl ?_
        refine go_icmp_geN (tgt := 67) (pc' := 39) d_Tri_countShared_36 (by decide) rfl (by omega) (by omega) (fun hc => ?_) (fun hc => ?_)
        · omega
        · refine go_iload_n (pc' := 40) (i := 3) d_Tri_countShared_39 rfl rfl rfl ?_
          refine go_aload_n (pc' := 41) (i := 0) d_Tri_countShared_40 rfl rfl (by first | rfl | exact x_r_rf _) rfl ?_
          refine go_getfield (pc' := 44) d_Tri_countShared_41 c_Nod 2 (by decide) t_46 (by first | assumption | exact x_up_self _ _ _ | exact x_nw_self _ _ _ | (rw [x_up_ne (by first | omega | (simp only [x_up, x_nw]; omega))]; first | assumption | exact x_up_self _ _ _ | (rw [x_up_ne (by first | omega | (simp only [x_up, x_nw]; omega))]; first | assumption | exact x_up_self _ _ _)) | (rw [x_nw_ne (by first | omega | (simp only [x_up, x_nw]; omega))]; first | assumption | exact x_up_self _ _ _ | (rw [x_up_ne (by first | omega | (simp only [x_up, x_nw]; omega))]; assumption))) (by rfl) rfl ?_
          refine go_iload (pc' := 46) (i := 4) d_Tri_countShared_44 rfl rfl ?_
          refine go_aaldN (pc' := 47) d_Tri_countShared_46 (by first | assumption | exact x_up_self _ _ _ | exact x_nw_self _ _ _ | (rw [x_up_ne (by first | omega | (simp only [x_up, x_nw]; omega))]; first | assumption | exact x_up_self _ _ _ | (rw [x_up_ne (by first | omega | (simp only [x_up, x_nw]; omega))]; first | assumption | exact x_up_self _ _ _)) | (rw [x_nw_ne (by first | omega | (simp only [x_up, x_nw]; omega))]; first | assumption | exact x_up_self _ _ _ | (rw [x_up_ne (by first | omega | (simp only [x_up, x_nw]; omega))]; assumption))) (by rfl) (by first | assumption | omega | (simp only [x_up, x_nw]; omega)) (by first | assumption | omega | (simp only [x_up, x_nw]; omega)) rfl ?_
          refine go_aload_n (pc' := 48) (i := 1) d_Tri_countShared_47 rfl rfl (by first | rfl | exact x_r_rf _) rfl ?_
          refine go_iload (pc' := 50) (i := 4) d_Tri_countShared_48 rfl rfl ?_
          rw [hns i (by omega)]
          refine go_callV (pc' := 53) (M' := M_Nod_nodeAt) (ci := 2) (r := (n_Nod, T_Nod, 3)) [_] d_Tri_countShared_50 t_299 t_300 t_301 cd_Nod_nodeAt nm_Nod_nodeAt rfl (by rfl) (by first | assumption | exact x_up_self _ _ _ | exact x_nw_self _ _ _ | (rw [x_up_ne (by first | omega | (simp only [x_up, x_nw]; omega))]; first | assumption | exact x_up_self _ _ _ | (rw [x_up_ne (by first | omega | (simp only [x_up, x_nw]; omega))]; first | assumption | exact x_up_self _ _ _)) | (rw [x_nw_ne (by first | omega | (simp only [x_up, x_nw]; omega))]; first | assumption | exact x_up_self _ _ _ | (rw [x_up_ne (by first | omega | (simp only [x_up, x_nw]; omega))]; assumption))) rfl (Nat.le_of_ble_eq_true rfl) rfl (s_nodeAt (d := r + 2) hN2 (by omega) (j := i) (by omega)) (by first | decide | omega) (Nat.le_of_ble_eq_true rfl) rfl (fun v hh hq => ?_) (fun q g hq => by cases hq.1)
          obtain ⟨e1, rfl⟩ := hq
          cases e1
          rw [if_pos (by omega), hns' i (by omega)]
          show Go K M_Tri_countShared (r + 1 + 2) 53 _ [va_rf (B (l + 1) (4 * p + i)), va_rf (A (l + 1) (4 * p + i)), .int (nI (F i))] h _
          refine go_iload_n (pc' := 54) (i := 2) d_Tri_countShared_53 rfl rfl rfl ?_
          refine go_iconst (pc' := 55) (v := (nI 1)) d_Tri_countShared_54 (by decide) rfl ?_
          refine go_iadd (pc' := 56) d_Tri_countShared_55 rfl ?_
          rw [nI_add]
          have cont : ∀ x : Nat, x = q_cs A B (r + 1) (l + 1) (4 * p + i) → Go K M_Tri_countShared (r + 1 + 2) 59 [some (.ref a), some (.ref b), some (.int (nI l)), some (.int (nI (F i))), some (.int (nI i))] [.int (nI x), .int (nI (F i))] h (x_is (some (.int (nI (F 4)))) h) := by
            intro x hx
            refine go_iadd (pc' := 60) d_Tri_countShared_59 rfl ?_
            rw [nI_add, hx, ← hFs]
            refine go_istore_n (pc' := 61) (i := 3) d_Tri_countShared_60 rfl (by decide) (x_s3 (by first | rfl | exact x_k_rf _)) rfl ?_
            refine go_iinc (pc' := 64) (i := 4) d_Tri_countShared_61 rfl (x_i1 _) (by decide) (x_s4 (by first | rfl | exact x_k_rf _)) rfl ?_
            refine go_goto (tgt := 29) d_Tri_countShared_64 (by decide) ?_
            exact ihr (i + 1) (by omega)
          cases hA : A (l + 1) (4 * p + i) with
          | none =>
            cases hB : B (l + 1) (4 * p + i) with
            | none =>
              refine go_callS (pc' := 59) (M' := M_Tri_countShared) [_, _, _] d_Tri_countShared_56 t_455 t_456 t_1 cd_Tri_countShared nm_Tri_countShared rfl rfl (Nat.le_of_ble_eq_true rfl) rfl (s_cs0 (d := r + 2) (v := .null) rfl) (by first | decide | omega) (Nat.le_of_ble_eq_true rfl) rfl (fun v hh hq => ?_) (fun q g hq => by cases hq.1)
              obtain ⟨e1, rfl⟩ := hq
              cases e1
              exact cont 0 (by simp only [q_cs, hA])
            | some b' =>
              refine go_callS (pc' := 59) (M' := M_Tri_countShared) [_, _, _] d_Tri_countShared_56 t_455 t_456 t_1 cd_Tri_countShared nm_Tri_countShared rfl rfl (Nat.le_of_ble_eq_true rfl) rfl (s_cs0 (d := r + 2) (v := .ref b') rfl) (by first | decide | omega) (Nat.le_of_ble_eq_true rfl) rfl (fun v hh hq => ?_) (fun q g hq => by cases hq.1)
              obtain ⟨e1, rfl⟩ := hq
              cases e1
              exact cont 0 (by simp only [q_cs, hA])
          | some a' =>
            cases hB : B (l + 1) (4 * p + i) with
            | none =>
              refine go_callS (pc' := 59) (M' := M_Tri_countShared) [_, _, _] d_Tri_countShared_56 t_455 t_456 t_1 cd_Tri_countShared nm_Tri_countShared rfl rfl (Nat.le_of_ble_eq_true rfl) rfl (s_cs1 (d := r + 2)) (by first | decide | omega) (Nat.le_of_ble_eq_true rfl) rfl (fun v hh hq => ?_) (fun q g hq => by cases hq.1)
              obtain ⟨e1, rfl⟩ := hq
              cases e1
              exact cont 0 (by simp only [q_cs, hA, hB])
            | some b' =>
              refine go_callS (pc' := 59) (M' := M_Tri_countShared) [_, _, _] d_Tri_countShared_56 t_455 t_456 t_1 cd_Tri_countShared nm_Tri_countShared rfl rfl (Nat.le_of_ble_eq_true rfl) rfl (ih (l + 1) (4 * p + i) a' b' (by omega) hA hB) (by first | decide | omega) (Nat.le_of_ble_eq_true rfl) rfl (fun v hh hq => ?_) (fun q g hq => by cases hq.1)
              obtain ⟨e1, rfl⟩ := hq
              cases e1
              exact cont _ rfl
    refine go_aload_n (pc' := 1) (i := 0) d_Tri_countShared_0 rfl rfl (by first | rfl | exact x_r_rf _) rfl ?_
    refine go_ifnull_r (pc' := 4) d_Tri_countShared_1 rfl ?_
    refine go_aload_n (pc' := 5) (i := 1) d_Tri_countShared_4 rfl rfl (by first | rfl | exact x_r_rf _) rfl ?_
    refine go_ifnull_r (pc' := 8) d_Tri_countShared_5 rfl ?_
    refine go_iload_n (pc' := 9) (i := 2) d_Tri_countShared_8 rfl rfl rfl ?_
    refine go_iconst (pc' := 10) (v := (nI 4)) d_Tri_countShared_9 (by decide) rfl ?_
    have fin : ∀ x : Nat, x = (if a = b then 1 else 0) → Go K M_Tri_countShared (r + 1 + 2) 25 [some (.ref a), some (.ref b), some (.int (nI l)), none, none] [.int (nI x)] h (x_is (some (.int (nI (F 4)))) h) := by
      intro x hx
      refine go_istore_n (pc' := 26) (i := 3) d_Tri_countShared_25 rfl (by decide) (x_s3 (by first | rfl | exact x_k_rf _)) rfl ?_
      refine go_iconst (pc' := 27) (v := (nI 0)) d_Tri_countShared_26 (by decide) rfl ?_
      refine go_istore (pc' := 29) (i := 4) d_Tri_countShared_27 (by decide) (x_s4 (by first | rfl | exact x_k_rf _)) rfl ?_
      have := loop 4 0 (by omega)
      rw [hF0, hz0, ← hx] at this
      exact this
    refine go_icmp_leN (tgt := 15) (pc' := 13) d_Tri_countShared_10 (by decide) rfl (by omega) (by omega) (fun hc => ?_) (fun hc => ?_)
    · refine go_aload_n (pc' := 16) (i := 0) d_Tri_countShared_15 rfl rfl (by first | rfl | exact x_r_rf _) rfl ?_
      refine go_aload_n (pc' := 17) (i := 1) d_Tri_countShared_16 rfl rfl (by first | rfl | exact x_r_rf _) rfl ?_
      refine go_acmp_ne (tgt := 24) (pc' := 20) d_Tri_countShared_17 (by decide) rfl (fun hc => ?_) (fun hc => ?_)
      · refine go_iconst (pc' := 25) (v := (nI 0)) d_Tri_countShared_24 (by decide) rfl ?_
        exact fin 0 (by rw [if_neg hc])
      · refine go_iconst (pc' := 21) (v := (nI 1)) d_Tri_countShared_20 (by decide) rfl ?_
        refine go_goto (tgt := 25) d_Tri_countShared_21 (by decide) ?_
        exact fin 1 (by rw [if_pos hc])
    · omega
end TC
