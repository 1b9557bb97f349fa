section RB
variable {K : x_K} {d : Nat} {h f : x_H} {A : Nat → Nat → Option Nat} {ks : List KV} {bel : Nat → Nat → Int32} {a : Nat} {key : Int32} {x0 : KV} {ps : Nat → Nat × Nat}
theorem q_dA_ex (hT : Tr h A ks bel) (l p : Nat) : (∃ b, q_dA A (q_del ks key) l p = some b) ↔ (l ≤ 4 ∧ p < 4 ^ l ∧ (l = 0 ∨ 2 ≤ (q_f (q_del ks key) l p).length)) := by
  unfold q_dA
  by_cases hc : l = 0 ∨ 2 ≤ (q_f (q_del ks key) l p).length
  · rw [if_pos hc, hT.1 l p]
    refine and_congr_right fun _ => and_congr_right fun _ => ⟨fun _ => hc, fun _ => ?_⟩
    rcases hc with hc | hc
    · exact Or.inl hc
    · right
      have := List.length_filter_le (fun x : KV => !(x.1 == key)) (q_f ks l p)
      rw [q_del_f] at hc
      omega
  · rw [if_neg hc]
    exact ⟨fun z => (by obtain ⟨b, hb⟩ := z; cases hb), fun z => absurd z.2.2 hc⟩
theorem q_dA_off (hT : Tr h A ks bel) {l p : Nat} (hp : ¬ p = q_p l key) : q_dA A (q_del ks key) l p = A l p := by
  unfold q_dA
  rw [q_del_off hp]
  by_cases hc : l = 0 ∨ 2 ≤ (q_f ks l p).length
  · rw [if_pos hc]
  · rw [if_neg hc]
    cases hA : A l p with
    | none => rfl
    | some b => exact absurd ((hT.1 l p).mp ⟨b, hA⟩).2.2 hc
set_option maxRecDepth 100000 in
theorem s_takeOut (hT : Tr h A ks bel) (hP : Ps ps A) (hK : Ko ks) (hg : q_get ks key = some x0) : ∀ (r l a : Nat), l + r = 4 → A l (q_p l key) = some a →
    Go K M_Tri_takeOut (r + 2) 0 [some (.ref a), some (.int (nI l)), some (.int key), none, none, none] [] h (x_rt (fun w f => w = none ∧ f.1 = h.1 ∧ f.2.1 = h.2.1 ∧
      (∀ m b, l ≤ m → A m (q_p m key) = some b → Tn f (q_dA A (q_del ks key)) (q_del ks key) bel m (q_p m key) b) ∧ Fo (fun z => ∃ m, l ≤ m ∧ A m (q_p m key) = some z) h f)) := by
  intro r
  induction r with
  | zero =>
    intro l a hl ha
    have hl4 : l = 4 := by omega
    subst hl4
    obtain ⟨es, ns, hN, hE⟩ := (hT.2 4 _ a ha).2 rfl
    have hN0 := hN.1
    have hkE := Eo.kfE hE
    have hpf := q_pl_find (h := h) (es := es) (key := key) 6 0 (q_f ks 4 (q_p 4 key)) (fun i hi => by rw [Nat.zero_add]; exact hE i hi) (hK.2.2 _)
    rw [q_f_get, hg] at hpf
    have hx0 : x0.1 = key := by
      have := List.find?_some hg
      simpa using this
    refine go_iload_n (pc' := 1) (i := 1) d_Tri_takeOut_0 rfl rfl rfl ?_
    refine go_iconst (pc' := 2) (v := (nI 4)) d_Tri_takeOut_1 (by decide) rfl ?_
    refine go_icmp_ltN (tgt := 11) (pc' := 5) d_Tri_takeOut_2 (by decide) rfl (by omega) (by omega) (fun hc => ?_) (fun hc => ?_)
    · omega
    · cases hq : q_pl es (kfh h) key 6 0 with
      | none =>
        rw [hq] at hpf
        cases hpf
      | some i =>
        rw [hq] at hpf
        obtain ⟨-, e9, x9, g2, g3, g4, g5, -⟩ := hpf
        cases g3
        rw [Nat.sub_zero] at g5
        have hi6 := q_pl_lt es (kfh h) key 6 0 i hq
        refine go_aload_n (pc' := 6) (i := 0) d_Tri_takeOut_5 rfl rfl (by first | rfl | exact x_r_rf _) rfl ?_
        refine go_iload_n (pc' := 7) (i := 2) d_Tri_takeOut_6 rfl rfl rfl ?_
        refine go_callV (pc' := 10) (M' := M_Nod_takeOutOfBag) (ci := 2) (r := (n_Nod, T_Nod, 3)) [_] d_Tri_takeOut_7 t_354 t_355 t_356 cd_Nod_takeOutOfBag nm_Nod_takeOutOfBag rfl (by rfl) (by first | assumption | exact x_up_self _ _ _ | exact x_nw_self _ _ _ | (rw [x_up_ne (by first | omega | (simp only [x_up, x_nw]; omega))]; first | assumption | exact x_up_self _ _ _ | (rw [x_up_ne (by first | omega | (simp only [x_up, x_nw]; omega))]; first | assumption | exact x_up_self _ _ _)) | (rw [x_nw_ne (by first | omega | (simp only [x_up, x_nw]; omega))]; first | assumption | exact x_up_self _ _ _ | (rw [x_up_ne (by first | omega | (simp only [x_up, x_nw]; omega))]; assumption))) rfl (Nat.le_of_ble_eq_true rfl) rfl (s_takeOutOfBag (d := 1) hN (by omega) hkE key (by omega) hq) (by first | decide | omega) (Nat.le_of_ble_eq_true rfl) rfl (fun v hh hq => ?_) (fun q g hq => by cases hq.1)
        obtain ⟨e8, rfl⟩ := hq
        cases e8
        show Go K M_Tri_takeOut (0 + 2) 10 _ [] _ _
        refine go_return d_Tri_takeOut_10 rfl ?_
        have hF : Fo (fun z => ∃ m, 4 ≤ m ∧ A m (q_p m key) = some z) h (x_up h (a + 1) (.inl (3, 6, .inr (.inr (.inr (.inr (q_sh es 6 i 6))))))) := by
          refine ⟨fun z hz => ?_, fun z c9 hz hw => ?_⟩
          · obtain ⟨m, -, hm⟩ := hz
            obtain ⟨_, _, _, _, hN9, -⟩ := hT.nd hm
            exact ⟨_, _, _, _, _, hN9⟩
          · rw [x_up_ne (hw a ⟨4, by omega, ha⟩).1]
            exact hz
        refine ⟨rfl, rfl, rfl, fun m b hm hb => ?_, hF⟩
        have hm4 := ((hT.1 _ _).mp ⟨b, hb⟩).1
        have : m = 4 := by omega
        subst this
        cases ha.symm.trans hb
        refine ⟨fun z => by omega, fun _ => ⟨_, ns, ⟨(x_up_ne (by omega)).trans hN.1, x_up_self _ _ _, (x_up_ne (by omega)).trans hN.2.2⟩, fun j hj => ?_⟩⟩
        rw [q_del_f, l_del_at _ i x0 g5 hx0 (q_f_nodup hK 4 _), List.getElem?_eraseIdx]
        unfold q_sh
        by_cases hji : j < i
        · rw [if_neg (by omega), if_pos hji]
          exact (hE j hj).fo hF
        · rw [if_pos ⟨by omega, hj⟩, if_neg hji]
          by_cases hj6 : j + 1 < 6
          · rw [if_pos hj6]
            exact (hE (j + 1) hj6).fo hF
          · rw [if_neg hj6, List.getElem?_eq_none (by have := hK.2.2 (q_p 4 key); omega)]
            trivial
  | succ r ih =>
    intro l a hl ha
    have hl4 : l < 4 := by omega
    obtain ⟨es, ns, hN, hE⟩ := (hT.2 l _ a ha).1 hl4
    have hd4 := q_d_lt l key
    obtain ⟨hns, hes⟩ := hE _ hd4
    rw [← q_p_s hl4] at hns hes
    have hN' := hN
    obtain ⟨h0, h1, h2⟩ := hN
    have hdl := q_del_len hK hg (l + 1)
    -- children that are not on the way
    have hoff : ∀ j, j < 4 → ¬ j = q_d l key → q_dA A (q_del ks key) (l + 1) (4 * q_p l key + j) = A (l + 1) (4 * q_p l key + j) ∧ q_f (q_del ks key) (l + 1) (4 * q_p l key + j) = q_f ks (l + 1) (4 * q_p l key + j) := fun j hj hjd =>
      ⟨q_dA_off hT (q_p_ne hl4 hj (fun z => hjd z.2)), q_del_off (q_p_ne hl4 hj (fun z => hjd z.2))⟩
    refine go_iload_n (pc' := 1) (i := 1) d_Tri_takeOut_0 rfl rfl rfl ?_
    refine go_iconst (pc' := 2) (v := (nI 4)) d_Tri_takeOut_1 (by decide) rfl ?_
    refine go_icmp_ltN (tgt := 11) (pc' := 5) d_Tri_takeOut_2 (by decide) rfl (by omega) (by omega) (fun hc => ?_) (fun hc => ?_)
    · refine go_iload_n (pc' := 12) (i := 2) d_Tri_takeOut_11 rfl rfl rfl ?_
      refine go_iload_n (pc' := 13) (i := 1) d_Tri_takeOut_12 rfl rfl rfl ?_
      refine go_callS (pc' := 16) (M' := M_Tri_digit) [_, _] d_Tri_takeOut_13 t_195 t_196 t_1 cd_Tri_digit nm_Tri_digit rfl rfl (Nat.le_of_ble_eq_true rfl) rfl (s_digit (d := r + 2) key hl4) (by first | decide | omega) (Nat.le_of_ble_eq_true rfl) rfl (fun v hh hq => ?_) (fun q g hq => by cases hq.1)
      obtain ⟨e9, rfl⟩ := hq
      cases e9
      show Go K M_Tri_takeOut (r + 1 + 2) 16 _ [.int (nI (q_d l key))] h _
      refine go_istore_n (pc' := 17) (i := 3) d_Tri_takeOut_16 rfl (by decide) (x_s3 (by first | rfl | exact x_k_rf _)) rfl ?_
      refine go_aload_n (pc' := 18) (i := 0) d_Tri_takeOut_17 rfl rfl (by first | rfl | exact x_r_rf _) rfl ?_
      refine go_getfield (pc' := 21) d_Tri_takeOut_18 c_Nod 2 (by decide) t_46 (by first | assumption | exact x_up_self _ _ _ | exact x_nw_self _ _ _ | (rw [x_up_ne (by first | omega | (simp only [x_up, x_nw]; omega))]; first | assumption | exact x_up_self _ _ _ | (rw [x_up_ne (by first | omega | (simp only [x_up, x_nw]; omega))]; first | assumption | exact x_up_self _ _ _)) | (rw [x_nw_ne (by first | omega | (simp only [x_up, x_nw]; omega))]; first | assumption | exact x_up_self _ _ _ | (rw [x_up_ne (by first | omega | (simp only [x_up, x_nw]; omega))]; assumption))) (by rfl) rfl ?_
      refine go_iload_n (pc' := 22) (i := 3) d_Tri_takeOut_21 rfl rfl rfl ?_
      refine go_aaldN (pc' := 23) d_Tri_takeOut_22 (by first | assumption | exact x_up_self _ _ _ | exact x_nw_self _ _ _ | (rw [x_up_ne (by first | omega | (simp only [x_up, x_nw]; omega))]; first | assumption | exact x_up_self _ _ _ | (rw [x_up_ne (by first | omega | (simp only [x_up, x_nw]; omega))]; first | assumption | exact x_up_self _ _ _)) | (rw [x_nw_ne (by first | omega | (simp only [x_up, x_nw]; omega))]; first | assumption | exact x_up_self _ _ _ | (rw [x_up_ne (by first | omega | (simp only [x_up, x_nw]; omega))]; assumption))) (by rfl) (by first | assumption | omega | (simp only [x_up, x_nw]; omega)) (by first | assumption | omega | (simp only [x_up, x_nw]; omega)) rfl ?_
      rw [hns]
      refine go_astore (pc' := 25) (i := 4) d_Tri_takeOut_23 (by decide) (x_r_rf _) (x_s4 rfl) rfl ?_
      refine go_aload (pc' := 27) (i := 4) d_Tri_takeOut_25 rfl (by first | rfl | exact x_r_rf _) rfl ?_
      refine go_ifnonnull (tgt := 38) (pc' := 30) d_Tri_takeOut_27 (by decide) rfl (fun b hc => ?_) (fun hc => ?_)
      · have hcA := hc
        rw [hc]
        obtain ⟨nb, esb, kb, nsb, hNb, -⟩ := hT.nd hc
        have h2l : 2 ≤ (q_f ks (l + 1) (q_p (l + 1) key)).length := by
          rcases ((hT.1 _ _).mp ⟨b, hc⟩).2.2 with z | z
          · omega
          · exact z
        have hesn : es (q_d l key) = none := by
          rw [q_1_two h2l] at hes
          exact hes.none
        refine go_aload (pc' := 40) (i := 4) d_Tri_takeOut_38 rfl rfl rfl ?_
        refine go_iload_n (pc' := 41) (i := 1) d_Tri_takeOut_40 rfl rfl rfl ?_
        refine go_iconst (pc' := 42) (v := (nI 1)) d_Tri_takeOut_41 (by decide) rfl ?_
        refine go_iadd (pc' := 43) d_Tri_takeOut_42 rfl ?_
        rw [nI_add]
        refine go_iload_n (pc' := 44) (i := 2) d_Tri_takeOut_43 rfl rfl rfl ?_
        refine go_callS (pc' := 47) (M' := M_Tri_takeOut) [_, _, _] d_Tri_takeOut_44 t_351 t_352 t_1 cd_Tri_takeOut nm_Tri_takeOut rfl rfl (Nat.le_of_ble_eq_true rfl) rfl (ih (l + 1) b (by omega) hcA) (by first | decide | omega) (Nat.le_of_ble_eq_true rfl) rfl (fun v hh hq => ?_) (fun q g hq => hq.elim)
        obtain ⟨rfl, f1, f2, hTn, hF⟩ := hq
        show Go K M_Tri_takeOut (r + 1 + 2) 47 _ [] hh _
        have hane : ¬ (∃ m, l + 1 ≤ m ∧ A m (q_p m key) = some a) := fun ⟨m, hm, hma⟩ => by
          have := (hP _ _ _ hma).symm.trans (hP _ _ _ ha)
          simp only [Prod.mk.injEq] at this
          omega
        have hNa := hN'.fo hF hane
        obtain ⟨p0, p1, p2⟩ := hNa
        have hex := fun (j : Nat) (hj : j < 4) (hl9 : l + 1 < 4) => q_dA_ex (key := key) hT (l + 1 + 1) (4 * q_p (l + 1) key + j)
        obtain ⟨n9, es9, k9, ns9, hN9, hn9, hk9, hon⟩ := (hTn (l + 1) b (Nat.le_refl _) hcA).only (by omega) (q_p_lt (by omega) key) hK.del (fun j hj hl9 => by
          rw [hex j hj hl9]
          have hpl : 4 * q_p (l + 1) key + j < 4 ^ (l + 1 + 1) := by
            have := q_p_lt (l := l + 1) (by omega) key
            rw [Nat.pow_succ]
            omega
          exact ⟨fun z => by rcases z.2.2 with z | z; omega; exact z, fun z => ⟨by omega, hpl, Or.inr z⟩⟩)
        have hb9 := hN9.1
        refine go_aload (pc' := 49) (i := 4) d_Tri_takeOut_47 rfl rfl rfl ?_
        refine go_callV (pc' := 52) (M' := M_Nod_onlyEntry) (ci := 2) (r := (n_Nod, T_Nod, 3)) [] d_Tri_takeOut_49 t_359 t_360 t_361 cd_Nod_onlyEntry nm_Nod_onlyEntry rfl (by rfl) (by first | assumption | exact x_up_self _ _ _ | exact x_nw_self _ _ _ | (rw [x_up_ne (by first | omega | (simp only [x_up, x_nw]; omega))]; first | assumption | exact x_up_self _ _ _ | (rw [x_up_ne (by first | omega | (simp only [x_up, x_nw]; omega))]; first | assumption | exact x_up_self _ _ _)) | (rw [x_nw_ne (by first | omega | (simp only [x_up, x_nw]; omega))]; first | assumption | exact x_up_self _ _ _ | (rw [x_up_ne (by first | omega | (simp only [x_up, x_nw]; omega))]; assumption))) rfl (Nat.le_of_ble_eq_true rfl) rfl (s_onlyEntry (d := r + 2) hN9 hn9 hk9) (by first | decide | omega) (Nat.le_of_ble_eq_true rfl) rfl (fun v h3 hq => ?_) (fun q g hq => by cases hq.1)
        obtain ⟨e8, rfl⟩ := hq
        cases e8
        generalize hoo : (if q_ct ns9 k9 = 0 then q_on es9 none n9 0 else none) = oo at hon ⊢
        show Go K M_Tri_takeOut (r + 1 + 2) 52 _ [va_rf oo] hh _
        refine go_astore (pc' := 54) (i := 5) d_Tri_takeOut_52 (by decide) (x_r_rf _) (x_s5 rfl) rfl ?_
        refine go_aload (pc' := 56) (i := 5) d_Tri_takeOut_54 rfl (by first | rfl | exact x_r_rf _) rfl ?_
        have hFl : Fo (fun z => ∃ m, l ≤ m ∧ A m (q_p m key) = some z) h hh := ⟨fun z hz => by
            obtain ⟨m, -, hm⟩ := hz
            obtain ⟨_, _, _, _, hN8, -⟩ := hT.nd hm
            exact ⟨_, _, _, _, _, hN8⟩, fun z c9 hz hw => hF.2 z c9 hz (fun a9 ⟨m, hm, hma⟩ => hw a9 ⟨m, by omega, hma⟩)⟩
        cases oo with
        | none =>
          refine go_ifnull_n (tgt := 74) d_Tri_takeOut_56 (by decide) ?_
          refine go_return d_Tri_takeOut_74 rfl ?_
          have hl2 : 2 ≤ (q_f (q_del ks key) (l + 1) (q_p (l + 1) key)).length := by
            have h9 := hon.to0
            apply Classical.byContradiction
            intro z
            have h10 : (q_f (q_del ks key) (l + 1) (q_p (l + 1) key)).length = 1 := by omega
            match hL : q_f (q_del ks key) (l + 1) (q_p (l + 1) key), h10, h9 with
            | [y], _, h9 => cases h9
          refine ⟨rfl, f1, f2, fun m b' hm hb' => ?_, hFl⟩
          by_cases hml : m = l
          · subst hml
            cases ha.symm.trans hb'
            refine ⟨fun _ => ⟨es, ns, ⟨p0, p1, p2⟩, fun j hj => ?_⟩, fun z => by omega⟩
            by_cases hjd : j = q_d m key
            · subst hjd
              rw [← q_p_s hl4, hns, hesn, q_1_two hl2]
              refine ⟨?_, trivial⟩
              unfold q_dA
              rw [if_pos (Or.inr hl2)]
            · obtain ⟨o1, o2⟩ := hoff j hj hjd
              rw [o1, o2]
              exact ⟨(hE j hj).1, (hE j hj).2.fo hF⟩
          · exact hTn m b' (by omega) hb'
        | some e =>
          obtain ⟨kv, h9, he9⟩ := hon.to
          have hl1 : (q_f (q_del ks key) (l + 1) (q_p (l + 1) key)).length = 1 := by
            apply Classical.byContradiction
            intro z
            rw [q_1_len z] at h9
            cases h9
          have heu := he9
          unfold Et at heu
          refine go_ifnull_r (pc' := 59) d_Tri_takeOut_56 rfl ?_
          refine go_aload_n (pc' := 60) (i := 0) d_Tri_takeOut_59 rfl rfl (by first | rfl | exact x_r_rf _) rfl ?_
          refine go_getfield (pc' := 63) d_Tri_takeOut_60 c_Nod 2 (by decide) t_46 (by first | assumption | exact x_up_self _ _ _ | exact x_nw_self _ _ _ | (rw [x_up_ne (by first | omega | (simp only [x_up, x_nw]; omega))]; first | assumption | exact x_up_self _ _ _ | (rw [x_up_ne (by first | omega | (simp only [x_up, x_nw]; omega))]; first | assumption | exact x_up_self _ _ _)) | (rw [x_nw_ne (by first | omega | (simp only [x_up, x_nw]; omega))]; first | assumption | exact x_up_self _ _ _ | (rw [x_up_ne (by first | omega | (simp only [x_up, x_nw]; omega))]; assumption))) (by rfl) rfl ?_
          refine go_iload_n (pc' := 64) (i := 3) d_Tri_takeOut_63 rfl rfl rfl ?_
          refine go_null (pc' := 65) d_Tri_takeOut_64 rfl ?_
          refine go_aastN' (pc' := 66) d_Tri_takeOut_65 (by assumption) (by rfl) (by omega) (by omega) rfl ?_
          have m0 : (x_up hh (a + 2) (.inl (4, 4, .inr (.inr (.inr (.inr (va_up ns (q_d l key) none))))))).2.2 a = _ := (x_up_ne (by omega)).trans p0
          have m1 : (x_up hh (a + 2) (.inl (4, 4, .inr (.inr (.inr (.inr (va_up ns (q_d l key) none))))))).2.2 (a + 1) = _ := (x_up_ne (by omega)).trans p1
          have hne2 : e ≠ a + 2 := fun z => by rw [z, p2] at heu; cases heu
          have me : (x_up hh (a + 2) (.inl (4, 4, .inr (.inr (.inr (.inr (va_up ns (q_d l key) none))))))).2.2 e = _ := (x_up_ne hne2).trans heu
          refine go_aload_n (pc' := 67) (i := 0) d_Tri_takeOut_66 rfl rfl (by first | rfl | exact x_r_rf _) rfl ?_
          refine go_getfield (pc' := 70) d_Tri_takeOut_67 c_Nod 1 (by decide) t_44 (by first | assumption | exact x_up_self _ _ _ | exact x_nw_self _ _ _ | (rw [x_up_ne (by first | omega | (simp only [x_up, x_nw]; omega))]; first | assumption | exact x_up_self _ _ _ | (rw [x_up_ne (by first | omega | (simp only [x_up, x_nw]; omega))]; first | assumption | exact x_up_self _ _ _)) | (rw [x_nw_ne (by first | omega | (simp only [x_up, x_nw]; omega))]; first | assumption | exact x_up_self _ _ _ | (rw [x_up_ne (by first | omega | (simp only [x_up, x_nw]; omega))]; assumption))) (by rfl) rfl ?_
          refine go_iload_n (pc' := 71) (i := 3) d_Tri_takeOut_70 rfl rfl rfl ?_
          refine go_aload (pc' := 73) (i := 5) d_Tri_takeOut_71 rfl rfl rfl ?_
          refine go_aastR (pc' := 74) d_Tri_takeOut_73 (by assumption) me (by rfl) (by rfl) (by omega) (by omega) rfl ?_
          refine go_return d_Tri_takeOut_74 rfl ?_
          have hF2 : Fo (fun z => z = a) hh (x_up (x_up hh (a + 2) (.inl (4, 4, .inr (.inr (.inr (.inr (va_up ns (q_d l key) none))))))) (a + 1) (.inl (3, 4, .inr (.inr (.inr (.inr (va_up es (q_d l key) (some e)))))))) := by
            refine ⟨fun z hz => ?_, fun z c9 hz hw => ?_⟩
            · have hz' : z = a := hz
              subst hz'
              exact ⟨_, _, _, _, _, p0, p1, p2⟩
            · rw [x_up_ne (hw a rfl).1, x_up_ne (hw a rfl).2]
              exact hz
          refine ⟨rfl, f1, f2, fun m b' hm hb' => ?_, ⟨hFl.1, fun z c9 hz hw => ?_⟩⟩
          · by_cases hml : m = l
            · subst hml
              cases ha.symm.trans hb'
              refine ⟨fun _ => ⟨_, _, ⟨(x_up_ne (by omega)).trans m0, x_up_self _ _ _, (x_up_ne (by omega)).trans (x_up_self _ _ _)⟩, fun j hj => ?_⟩, fun z => by omega⟩
              by_cases hjd : j = q_d m key
              · subst hjd
                rw [va_up_self, va_up_self, ← q_p_s hl4, h9]
                refine ⟨?_, he9.fo hF2⟩
                unfold q_dA
                rw [if_neg (by omega)]
              · obtain ⟨o1, o2⟩ := hoff j hj hjd
                rw [va_up_ne _ _ hjd, va_up_ne _ _ hjd, o1, o2]
                exact ⟨(hE j hj).1, ((hE j hj).2.fo hF).fo hF2⟩
            · exact (hTn m b' (by omega) hb').off hF2 (fun z => hane ⟨m, by omega, by rw [← (show b' = a from z)]; exact hb'⟩) rfl (fun _ _ => rfl) (fun _ _ => rfl) (fun _ => rfl)
          · have hz9 := hFl.2 z c9 hz hw
            rw [x_up_ne (hw a ⟨l, Nat.le_refl _, ha⟩).1, x_up_ne (hw a ⟨l, Nat.le_refl _, ha⟩).2]
            exact hz9
      · have hnone := hc
        have hlen := hT.no hl4 hc
        refine go_aload_n (pc' := 31) (i := 0) d_Tri_takeOut_30 rfl rfl (by first | rfl | exact x_r_rf _) rfl ?_
        refine go_getfield (pc' := 34) d_Tri_takeOut_31 c_Nod 1 (by decide) t_44 (by first | assumption | exact x_up_self _ _ _ | exact x_nw_self _ _ _ | (rw [x_up_ne (by first | omega | (simp only [x_up, x_nw]; omega))]; first | assumption | exact x_up_self _ _ _ | (rw [x_up_ne (by first | omega | (simp only [x_up, x_nw]; omega))]; first | assumption | exact x_up_self _ _ _)) | (rw [x_nw_ne (by first | omega | (simp only [x_up, x_nw]; omega))]; first | assumption | exact x_up_self _ _ _ | (rw [x_up_ne (by first | omega | (simp only [x_up, x_nw]; omega))]; assumption))) (by rfl) rfl ?_
        refine go_iload_n (pc' := 35) (i := 3) d_Tri_takeOut_34 rfl rfl rfl ?_
        refine go_null (pc' := 36) d_Tri_takeOut_35 rfl ?_
        refine go_aastN' (pc' := 37) d_Tri_takeOut_36 (by assumption) (by rfl) (by omega) (by omega) rfl ?_
        refine go_return d_Tri_takeOut_37 rfl ?_
        have hF : Fo (fun z => ∃ m, l ≤ m ∧ A m (q_p m key) = some z) h (x_up h (a + 1) (.inl (3, 4, .inr (.inr (.inr (.inr (va_up es (q_d l key) none))))))) := by
          refine ⟨fun z hz => ?_, fun z c9 hz hw => ?_⟩
          · obtain ⟨m, -, hm⟩ := hz
            obtain ⟨_, _, _, _, hN9, -⟩ := hT.nd hm
            exact ⟨_, _, _, _, _, hN9⟩
          · rw [x_up_ne (hw a ⟨l, Nat.le_refl _, ha⟩).1]
            exact hz
        refine ⟨rfl, rfl, rfl, fun m b hm hb => ?_, hF⟩
        by_cases hml : m = l
        · subst hml
          cases ha.symm.trans hb
          refine ⟨fun _ => ⟨_, ns, ⟨(x_up_ne (by omega)).trans h0, x_up_self _ _ _, (x_up_ne (by omega)).trans h2⟩, fun j hj => ?_⟩, fun z => by omega⟩
          by_cases hjd : j = q_d m key
          · subst hjd
            have hz : q_f (q_del ks key) (m + 1) (q_p (m + 1) key) = [] := List.length_eq_zero_iff.mp (by omega)
            rw [va_up_self, ← q_p_s hl4, hns, hz, hnone]
            refine ⟨?_, trivial⟩
            unfold q_dA
            rw [hz, if_neg (by simp)]
          · obtain ⟨o1, o2⟩ := hoff j hj hjd
            rw [va_up_ne _ _ hjd, o1, o2]
            exact ⟨(hE j hj).1, (hE j hj).2.fo hF⟩
        · have := hT.none_up key hnone (m - (l + 1))
          rw [show l + 1 + (m - (l + 1)) = m by omega, hb] at this
          cases this
    · omega
/-- .. and the whole trie, then -/
theorem Tr.taken (hT : Tr h A ks bel) (hP : Ps ps A) (hTn : ∀ m b, A m (q_p m key) = some b → Tn f (q_dA A (q_del ks key)) (q_del ks key) bel m (q_p m key) b) (hF : Fo (fun z => ∃ m, 0 ≤ m ∧ A m (q_p m key) = some z) h f) :
    Tr f (q_dA A (q_del ks key)) (q_del ks key) bel ∧ Ps ps (q_dA A (q_del ks key)) := by
  have hsub : ∀ l p a, q_dA A (q_del ks key) l p = some a → A l p = some a := fun l p a ha => by
    unfold q_dA at ha
    split at ha
    · exact ha
    · cases ha
  refine ⟨⟨fun l p => q_dA_ex hT l p, fun l p a ha => ?_⟩, fun l p a ha => hP _ _ _ (hsub _ _ _ ha)⟩
  have hA := hsub _ _ _ ha
  by_cases hp : p = q_p l key
  · subst hp
    exact hTn l a hA
  · have hne : ¬ (∃ m, 0 ≤ m ∧ A m (q_p m key) = some a) := fun ⟨m, _, hm⟩ => by
      have := (hP _ _ _ hm).symm.trans (hP _ _ _ hA)
      simp only [Prod.mk.injEq] at this
      obtain ⟨rfl, h9⟩ := this
      exact hp h9.symm
    by_cases hl4 : l < 4
    · exact (hT.2 _ _ a hA).off hF hne rfl (fun j hj => q_dA_off hT (q_p_ne hl4 hj (fun z => hp z.1))) (fun j hj => q_del_off (q_p_ne hl4 hj (fun z => hp z.1))) (fun h4 => by omega)
    · refine ⟨fun z => absurd z hl4, fun h4 => ?_⟩
      obtain ⟨es, ns, hN, hE⟩ := (hT.2 _ _ a hA).2 h4
      subst h4
      refine ⟨es, ns, hN.fo hF hne, fun j hj => ?_⟩
      rw [q_del_off hp]
      exact (hE j hj).fo hF
end RB
