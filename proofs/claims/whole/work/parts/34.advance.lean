section CC
variable {K : x_K} {d : Nat} {h f : x_H} {A : Nat → Nat → Option Nat} {ks : List KV} {bel : Nat → Nat → Int32} {q a b : Nat} {way : Nat → Option Nat} {pl : Nat → Int32}
theorem q_bd {L : Nat} (hT : Tr h A ks bel) {P : Nat} (ha : A L P = some a) {x : Nat} (hx : x ≤ 4) (hL : L < 4) : (4 * P + x) * 4 ^ (3 - L) ≤ 256 := by
  have h1 := ((hT.1 _ _).mp ⟨a, ha⟩).2.1
  have h2 : (4 * P + x) ≤ 4 * 4 ^ L := by omega
  have h3 : 4 * 4 ^ L * 4 ^ (3 - L) = 256 := by
    have : 4 * 4 ^ L * 4 ^ (3 - L) = 4 ^ (1 + L + (3 - L)) := by rw [Nat.pow_add, Nat.pow_add, Nat.pow_one]
    rw [this, show 1 + L + (3 - L) = 4 by omega]
  rw [← h3]
  exact Nat.mul_le_mul_right _ h2
theorem q_e5 {L : Nat} (x : Nat) (h : L + 1 < 4) : (4 * x + 0) * 4 ^ (3 - (L + 1)) = x * 4 ^ (3 - L) := by
  rw [Nat.add_zero, Nat.mul_comm 4 x, Nat.mul_assoc, show 3 - L = 3 - (L + 1) + 1 by omega, Nat.pow_succ, Nat.mul_comm (4 ^ (3 - (L + 1))) 4]
set_option maxRecDepth 100000 in
set_option maxHeartbeats 1000000 in
theorem s_advance (hT : Tr h A ks bel) (hK : Ko ks) {far : Nat} (hC0 : Cr h q A ks far) (hd : 1 ≤ d) :
    Go K M_Cur_advance d 0 [some (.ref q), none, none, none] [] h (x_rt (fun v f => f.1 = h.1 ∧ f.2.1 = h.2.1 ∧ (∀ z, z ≠ q → z ≠ q + 1 → z ≠ q + 2 → f.2.2 z = h.2.2 z) ∧
      ((far < ks.length ∧ ∃ e x, v = some (.ref e) ∧ (q_srt ks)[far]? = some x ∧ Et f e x.1 x.2 ∧ Cr f q A ks (far + 1)) ∨ (far = ks.length ∧ v = some .null ∧ ∃ L way pl, Cu f q L way pl)))) := by
  obtain ⟨Q, hQ⟩ : ∃ Q : x_O → x_H → Prop, Q = (x_rt (fun v f => f.1 = h.1 ∧ f.2.1 = h.2.1 ∧ (∀ z, z ≠ q → z ≠ q + 1 → z ≠ q + 2 → f.2.2 z = h.2.2 z) ∧
      ((far < ks.length ∧ ∃ e x, v = some (.ref e) ∧ (q_srt ks)[far]? = some x ∧ Et f e x.1 x.2 ∧ Cr f q A ks (far + 1)) ∨ (far = ks.length ∧ v = some .null ∧ ∃ L way pl, Cu f q L way pl)))) := ⟨_, rfl⟩
  rw [← hQ]
  have fin : ∀ s f way pl x2 x3, s ≤ 1000000 → f.1 = h.1 → f.2.1 = h.2.1 → (∀ z, z ≠ q → z ≠ q + 1 → z ≠ q + 2 → f.2.2 z = h.2.2 z) → Cu f q (-1) way pl → far = ks.length →
      Go K M_Cur_advance d 2 [some (.ref q), some (.int (nI s)), x2, x3] [] f Q := by
    intro s f way pl x2 x3 hs f1 f2 hag hC hfar
    have hC' := hC
    obtain ⟨c0, c1, c2⟩ := hC
    have ret : Go K M_Cur_advance d 104 [some (.ref q), some (.int (nI s)), x2, x3] [] f Q := by
      refine go_null (pc' := 105) d_Cur_advance_104 rfl ?_
      refine go_areturn d_Cur_advance_105 rfl ⟨_, rfl⟩ (by first | rfl | exact x_r_rf _) ?_
      rw [hQ]
      exact ⟨f1, f2, hag, Or.inr ⟨hfar, rfl, _, _, _, hC'⟩⟩
    refine go_iload_n (pc' := 3) (i := 1) d_Cur_advance_2 rfl rfl rfl ?_
    refine go_ldc (pc' := 5) (v := nI 1000000) d_Cur_advance_3 t_435 rfl ?_
    refine go_icmp_geN (tgt := 104) (pc' := 8) d_Cur_advance_5 (by decide) rfl (by omega) (by omega) (fun hc => ?_) (fun hc => ?_)
    · exact ret
    · refine go_aload_n (pc' := 9) (i := 0) d_Cur_advance_8 rfl rfl (by first | rfl | exact x_r_rf _) rfl ?_
      refine go_getfield (pc' := 12) d_Cur_advance_9 c_Cur 2 (by decide) t_411 (by first | assumption | exact x_up_self _ _ _ | exact x_nw_self _ _ _ | (rw [x_up_ne (by first | omega | (simp only [x_up, x_nw]; omega))]; first | assumption | exact x_up_self _ _ _ | (rw [x_up_ne (by first | omega | (simp only [x_up, x_nw]; omega))]; first | assumption | exact x_up_self _ _ _)) | (rw [x_nw_ne (by first | omega | (simp only [x_up, x_nw]; omega))]; first | assumption | exact x_up_self _ _ _ | (rw [x_up_ne (by first | omega | (simp only [x_up, x_nw]; omega))]; assumption))) (by rfl) rfl ?_
      refine go_if_lt (tgt := 104) (pc' := 15) d_Cur_advance_12 (by decide) rfl (fun hc => ?_) (fun hc => ?_)
      · exact ret
      · exact absurd (by decide) hc
  have cuC : ∀ {f : x_H} {L way pl}, Cu f q L way pl → (∀ z, z ≠ q → z ≠ q + 1 → z ≠ q + 2 → f.2.2 z = h.2.2 z) → Tr f A ks bel := by
    intro f L way pl hC hag
    rcases hC0 with ⟨L0, way0, pl0, P0, n0, hCu0, -⟩ | ⟨way0, pl0, hCu0, -⟩
    · exact (hT.off3 hCu0 hag).1
    · exact (hT.off3 hCu0 hag).1
  have loop : ∀ N s f L way pl P n x2 x3, s + N ≤ 1000000 → f.1 = h.1 → f.2.1 = h.2.1 → (∀ z, z ≠ q → z ≠ q + 1 → z ≠ q + 2 → f.2.2 z = h.2.2 z) → Cu f q (nI L) way pl → Cq A ks L way pl P n far → q_mu L P n < N → x_k x2 = x2 →
      Go K M_Cur_advance d 2 [some (.ref q), some (.int (nI s)), x2, x3] [] f Q := by
    intro N
    induction N with
    | zero => intro s f L way pl P n x2 x3 _ _ _ _ _ _ hmu; omega
    | succ N ih =>
      intro s f L way pl P n x2 x3 hs f1 f2 hag hC hq hmu k2
      have hTf := cuC hC hag
      have hC' := hC
      obtain ⟨c0, c1, c2⟩ := hC
      obtain ⟨q1, q2, q3, q4, q5, q6, q7⟩ := hq
      obtain ⟨a, ha, hwa⟩ := q2 L (Nat.le_refl _)
      obtain ⟨nn, es, k, ns, hN, hnk, hEs, hMs, hcs⟩ := hTf.nd ha
      have hN' := hN
      obtain ⟨n0, n1, n2⟩ := hN
      have hpl := q5 L (Nat.le_refl _)
      have hn6 : n L ≤ 6 := by
        by_cases hl4 : L < 4
        · have := (q6 hl4).1; omega
        · have := (q7 (by omega)).1
          rw [show L = 4 by omega]
          exact this
      refine go_iload_n (pc' := 3) (i := 1) d_Cur_advance_2 rfl rfl rfl ?_
      refine go_ldc (pc' := 5) (v := nI 1000000) d_Cur_advance_3 t_435 rfl ?_
      refine go_icmp_geN (tgt := 104) (pc' := 8) d_Cur_advance_5 (by decide) rfl (by omega) (by omega) (fun hc => ?_) (fun hc => ?_)
      · omega
      · refine go_aload_n (pc' := 9) (i := 0) d_Cur_advance_8 rfl rfl (by first | rfl | exact x_r_rf _) rfl ?_
        refine go_getfield (pc' := 12) d_Cur_advance_9 c_Cur 2 (by decide) t_411 (by first | assumption | exact x_up_self _ _ _ | exact x_nw_self _ _ _ | (rw [x_up_ne (by first | omega | (simp only [x_up, x_nw]; omega))]; first | assumption | exact x_up_self _ _ _ | (rw [x_up_ne (by first | omega | (simp only [x_up, x_nw]; omega))]; first | assumption | exact x_up_self _ _ _)) | (rw [x_nw_ne (by first | omega | (simp only [x_up, x_nw]; omega))]; first | assumption | exact x_up_self _ _ _ | (rw [x_up_ne (by first | omega | (simp only [x_up, x_nw]; omega))]; assumption))) (by rfl) rfl ?_
        refine go_if_lt (tgt := 104) (pc' := 15) d_Cur_advance_12 (by decide) rfl (fun hc => ?_) (fun hc => ?_)
        · exfalso
          rw [show (0 : Int32) = nI 0 from rfl, nI_ltI (by omega) (by omega)] at hc
          omega
        · refine go_aload_n (pc' := 16) (i := 0) d_Cur_advance_15 rfl rfl (by first | rfl | exact x_r_rf _) rfl ?_
          refine go_getfield (pc' := 19) d_Cur_advance_16 c_Cur 0 (by decide) t_409 (by first | assumption | exact x_up_self _ _ _ | exact x_nw_self _ _ _ | (rw [x_up_ne (by first | omega | (simp only [x_up, x_nw]; omega))]; first | assumption | exact x_up_self _ _ _ | (rw [x_up_ne (by first | omega | (simp only [x_up, x_nw]; omega))]; first | assumption | exact x_up_self _ _ _)) | (rw [x_nw_ne (by first | omega | (simp only [x_up, x_nw]; omega))]; first | assumption | exact x_up_self _ _ _ | (rw [x_up_ne (by first | omega | (simp only [x_up, x_nw]; omega))]; assumption))) (by rfl) rfl ?_
          refine go_aload_n (pc' := 20) (i := 0) d_Cur_advance_19 rfl rfl (by first | rfl | exact x_r_rf _) rfl ?_
          refine go_getfield (pc' := 23) d_Cur_advance_20 c_Cur 2 (by decide) t_411 (by first | assumption | exact x_up_self _ _ _ | exact x_nw_self _ _ _ | (rw [x_up_ne (by first | omega | (simp only [x_up, x_nw]; omega))]; first | assumption | exact x_up_self _ _ _ | (rw [x_up_ne (by first | omega | (simp only [x_up, x_nw]; omega))]; first | assumption | exact x_up_self _ _ _)) | (rw [x_nw_ne (by first | omega | (simp only [x_up, x_nw]; omega))]; first | assumption | exact x_up_self _ _ _ | (rw [x_up_ne (by first | omega | (simp only [x_up, x_nw]; omega))]; assumption))) (by rfl) rfl ?_
          refine go_aaldN (pc' := 24) d_Cur_advance_23 (by first | assumption | exact x_up_self _ _ _ | exact x_nw_self _ _ _ | (rw [x_up_ne (by first | omega | (simp only [x_up, x_nw]; omega))]; first | assumption | exact x_up_self _ _ _ | (rw [x_up_ne (by first | omega | (simp only [x_up, x_nw]; omega))]; first | assumption | exact x_up_self _ _ _)) | (rw [x_nw_ne (by first | omega | (simp only [x_up, x_nw]; omega))]; first | assumption | exact x_up_self _ _ _ | (rw [x_up_ne (by first | omega | (simp only [x_up, x_nw]; omega))]; assumption))) (by rfl) (by first | assumption | omega | (simp only [x_up, x_nw]; omega)) (by first | assumption | omega | (simp only [x_up, x_nw]; omega)) rfl ?_
          rw [hwa]
          refine go_astore_n (pc' := 25) (i := 2) d_Cur_advance_24 rfl (by decide) rfl (x_s2 rfl) rfl ?_
          refine go_aload_n (pc' := 26) (i := 0) d_Cur_advance_25 rfl rfl (by first | rfl | exact x_r_rf _) rfl ?_
          refine go_getfield (pc' := 29) d_Cur_advance_26 c_Cur 1 (by decide) t_410 (by first | assumption | exact x_up_self _ _ _ | exact x_nw_self _ _ _ | (rw [x_up_ne (by first | omega | (simp only [x_up, x_nw]; omega))]; first | assumption | exact x_up_self _ _ _ | (rw [x_up_ne (by first | omega | (simp only [x_up, x_nw]; omega))]; first | assumption | exact x_up_self _ _ _)) | (rw [x_nw_ne (by first | omega | (simp only [x_up, x_nw]; omega))]; first | assumption | exact x_up_self _ _ _ | (rw [x_up_ne (by first | omega | (simp only [x_up, x_nw]; omega))]; assumption))) (by rfl) rfl ?_
          refine go_aload_n (pc' := 30) (i := 0) d_Cur_advance_29 rfl rfl (by first | rfl | exact x_r_rf _) rfl ?_
          refine go_getfield (pc' := 33) d_Cur_advance_30 c_Cur 2 (by decide) t_411 (by first | assumption | exact x_up_self _ _ _ | exact x_nw_self _ _ _ | (rw [x_up_ne (by first | omega | (simp only [x_up, x_nw]; omega))]; first | assumption | exact x_up_self _ _ _ | (rw [x_up_ne (by first | omega | (simp only [x_up, x_nw]; omega))]; first | assumption | exact x_up_self _ _ _)) | (rw [x_nw_ne (by first | omega | (simp only [x_up, x_nw]; omega))]; first | assumption | exact x_up_self _ _ _ | (rw [x_up_ne (by first | omega | (simp only [x_up, x_nw]; omega))]; assumption))) (by rfl) rfl ?_
          refine go_ialdN (pc' := 34) d_Cur_advance_33 (by first | assumption | exact x_up_self _ _ _ | exact x_nw_self _ _ _ | (rw [x_up_ne (by first | omega | (simp only [x_up, x_nw]; omega))]; first | assumption | exact x_up_self _ _ _ | (rw [x_up_ne (by first | omega | (simp only [x_up, x_nw]; omega))]; first | assumption | exact x_up_self _ _ _)) | (rw [x_nw_ne (by first | omega | (simp only [x_up, x_nw]; omega))]; first | assumption | exact x_up_self _ _ _ | (rw [x_up_ne (by first | omega | (simp only [x_up, x_nw]; omega))]; assumption))) (by rfl) (by first | assumption | omega | (simp only [x_up, x_nw]; omega)) (by first | assumption | omega | (simp only [x_up, x_nw]; omega)) rfl ?_
          rw [hpl]
          refine go_istore_n (pc' := 35) (i := 3) d_Cur_advance_34 rfl (by decide) (x_s3 rfl) rfl ?_
          refine go_aload_n (pc' := 36) (i := 2) d_Cur_advance_35 rfl rfl rfl rfl ?_
          refine go_ifnull_r (pc' := 39) d_Cur_advance_36 rfl ?_
          refine go_iload_n (pc' := 40) (i := 3) d_Cur_advance_39 rfl rfl rfl ?_
          refine go_aload_n (pc' := 41) (i := 2) d_Cur_advance_40 rfl rfl (by first | rfl | exact x_r_rf _) rfl ?_
          refine go_getfield (pc' := 44) d_Cur_advance_41 c_Nod 1 (by decide) t_43 (by first | assumption | exact x_up_self _ _ _ | exact x_nw_self _ _ _ | (rw [x_up_ne (by first | omega | (simp only [x_up, x_nw]; omega))]; first | assumption | exact x_up_self _ _ _ | (rw [x_up_ne (by first | omega | (simp only [x_up, x_nw]; omega))]; first | assumption | exact x_up_self _ _ _)) | (rw [x_nw_ne (by first | omega | (simp only [x_up, x_nw]; omega))]; first | assumption | exact x_up_self _ _ _ | (rw [x_up_ne (by first | omega | (simp only [x_up, x_nw]; omega))]; assumption))) (by rfl) rfl ?_
          refine go_alenN (pc' := 45) d_Cur_advance_44 (by first | assumption | exact x_up_self _ _ _ | exact x_nw_self _ _ _ | (rw [x_up_ne (by first | omega | (simp only [x_up, x_nw]; omega))]; first | assumption | exact x_up_self _ _ _ | (rw [x_up_ne (by first | omega | (simp only [x_up, x_nw]; omega))]; first | assumption | exact x_up_self _ _ _)) | (rw [x_nw_ne (by first | omega | (simp only [x_up, x_nw]; omega))]; first | assumption | exact x_up_self _ _ _ | (rw [x_up_ne (by first | omega | (simp only [x_up, x_nw]; omega))]; assumption))) (by rfl) rfl ?_
          refine go_icmp_ltN (tgt := 61) (pc' := 48) d_Cur_advance_45 (by decide) rfl (by omega) (by omega) (fun hc => ?_) (fun hc => ?_)
          · -- a place is looked at
            refine go_aload_n (pc' := 62) (i := 0) d_Cur_advance_61 rfl rfl (by first | rfl | exact x_r_rf _) rfl ?_
            refine go_getfield (pc' := 65) d_Cur_advance_62 c_Cur 1 (by decide) t_410 (by first | assumption | exact x_up_self _ _ _ | exact x_nw_self _ _ _ | (rw [x_up_ne (by first | omega | (simp only [x_up, x_nw]; omega))]; first | assumption | exact x_up_self _ _ _ | (rw [x_up_ne (by first | omega | (simp only [x_up, x_nw]; omega))]; first | assumption | exact x_up_self _ _ _)) | (rw [x_nw_ne (by first | omega | (simp only [x_up, x_nw]; omega))]; first | assumption | exact x_up_self _ _ _ | (rw [x_up_ne (by first | omega | (simp only [x_up, x_nw]; omega))]; assumption))) (by rfl) rfl ?_
            refine go_aload_n (pc' := 66) (i := 0) d_Cur_advance_65 rfl rfl (by first | rfl | exact x_r_rf _) rfl ?_
            refine go_getfield (pc' := 69) d_Cur_advance_66 c_Cur 2 (by decide) t_411 (by first | assumption | exact x_up_self _ _ _ | exact x_nw_self _ _ _ | (rw [x_up_ne (by first | omega | (simp only [x_up, x_nw]; omega))]; first | assumption | exact x_up_self _ _ _ | (rw [x_up_ne (by first | omega | (simp only [x_up, x_nw]; omega))]; first | assumption | exact x_up_self _ _ _)) | (rw [x_nw_ne (by first | omega | (simp only [x_up, x_nw]; omega))]; first | assumption | exact x_up_self _ _ _ | (rw [x_up_ne (by first | omega | (simp only [x_up, x_nw]; omega))]; assumption))) (by rfl) rfl ?_
            refine go_iload_n (pc' := 70) (i := 3) d_Cur_advance_69 rfl rfl rfl ?_
            refine go_iconst (pc' := 71) (v := (nI 1)) d_Cur_advance_70 (by decide) rfl ?_
            refine go_iadd (pc' := 72) d_Cur_advance_71 rfl ?_
            rw [nI_add]
            refine go_iastN (pc' := 73) d_Cur_advance_72 (by first | assumption | exact x_up_self _ _ _ | exact x_nw_self _ _ _ | (rw [x_up_ne (by first | omega | (simp only [x_up, x_nw]; omega))]; first | assumption | exact x_up_self _ _ _ | (rw [x_up_ne (by first | omega | (simp only [x_up, x_nw]; omega))]; first | assumption | exact x_up_self _ _ _)) | (rw [x_nw_ne (by first | omega | (simp only [x_up, x_nw]; omega))]; first | assumption | exact x_up_self _ _ _ | (rw [x_up_ne (by first | omega | (simp only [x_up, x_nw]; omega))]; assumption))) (by rfl) (by first | assumption | omega | (simp only [x_up, x_nw]; omega)) (by first | assumption | omega | (simp only [x_up, x_nw]; omega)) rfl ?_
            have hag2 : ∀ z, z ≠ q → z ≠ q + 1 → z ≠ q + 2 → (x_up f (q + 2) (.inl (0, 5, .inl (va_up pl L (nI (n L + 1)))))).2.2 z = h.2.2 z := fun z z0 z1 z2 => (x_up_ne z2).trans (hag z z0 z1 z2)
            have hC2 : Cu (x_up f (q + 2) (.inl (0, 5, .inl (va_up pl L (nI (n L + 1)))))) q (nI L) way (va_up pl L (nI (n L + 1))) := ⟨(x_up_ne (by omega)).trans c0, (x_up_ne (by omega)).trans c1, x_up_self _ _ _⟩
            have hT2 := cuC hC2 hag2
            obtain ⟨nn2, es2, k2', ns2, hN2, -⟩ := hT2.nd ha
            have hq2 : nn = nn2 ∧ es = es2 ∧ k = k2' ∧ ns = ns2 := by
              have ne0 : a ≠ q + 2 := fun z => by rw [z, c2] at n0; cases n0
              have ne1 : a + 1 ≠ q + 2 := fun z => by rw [z, c2] at n1; cases n1
              have ne2 : a + 2 ≠ q + 2 := fun z => by rw [z, c2] at n2; cases n2
              have hNx : Nd (x_up f (q + 2) (.inl (0, 5, .inl (va_up pl L (nI (n L + 1)))))) a (bel L (P L)) nn es k ns := ⟨(x_up_ne ne0).trans n0, (x_up_ne ne1).trans n1, (x_up_ne ne2).trans n2⟩
              obtain ⟨-, e1, e2, e3, e4⟩ := hNx.uniq hN2
              exact ⟨e1, e2, e3, e4⟩
            obtain ⟨rfl, rfl, rfl, rfl⟩ := hq2
            have hTn2 := hT2.2 _ _ a ha
            have m0 := hN2.1
            have m1 := hN2.2.1
            generalize hg2 : x_up f (q + 2) (.inl (0, 5, .inl (va_up pl L (nI (n L + 1))))) = f' at hag2 hC2 hT2 hN2 hTn2 m0 m1 ⊢
            have ff1 : f'.1 = h.1 := by subst hg2; exact f1
            have ff2 : f'.2.1 = h.2.1 := by subst hg2; exact f2
            have cc0 := hC2.1
            refine go_aload_n (pc' := 74) (i := 2) d_Cur_advance_73 rfl rfl rfl rfl ?_
            refine go_getfield (pc' := 77) d_Cur_advance_74 c_Nod 1 (by decide) t_43 (by first | assumption | exact x_up_self _ _ _ | exact x_nw_self _ _ _ | (rw [x_up_ne (by first | omega | (simp only [x_up, x_nw]; omega))]; first | assumption | exact x_up_self _ _ _ | (rw [x_up_ne (by first | omega | (simp only [x_up, x_nw]; omega))]; first | assumption | exact x_up_self _ _ _)) | (rw [x_nw_ne (by first | omega | (simp only [x_up, x_nw]; omega))]; first | assumption | exact x_up_self _ _ _ | (rw [x_up_ne (by first | omega | (simp only [x_up, x_nw]; omega))]; assumption))) (by rfl) rfl ?_
            refine go_iload_n (pc' := 78) (i := 3) d_Cur_advance_77 rfl rfl rfl ?_
            refine go_aaldN (pc' := 79) d_Cur_advance_78 (by first | assumption | exact x_up_self _ _ _ | exact x_nw_self _ _ _ | (rw [x_up_ne (by first | omega | (simp only [x_up, x_nw]; omega))]; first | assumption | exact x_up_self _ _ _ | (rw [x_up_ne (by first | omega | (simp only [x_up, x_nw]; omega))]; first | assumption | exact x_up_self _ _ _)) | (rw [x_nw_ne (by first | omega | (simp only [x_up, x_nw]; omega))]; first | assumption | exact x_up_self _ _ _ | (rw [x_up_ne (by first | omega | (simp only [x_up, x_nw]; omega))]; assumption))) (by rfl) (by first | assumption | omega | (simp only [x_up, x_nw]; omega)) (by first | assumption | omega | (simp only [x_up, x_nw]; omega)) rfl ?_
            -- the next place of the same node
            have step : ∀ far', (L < 4 → n L + 1 ≤ 4 ∧ far' = q_lt ks ((4 * P L + (n L + 1)) * 4 ^ (3 - L))) → (L = 4 → n 4 + 1 ≤ 6 ∧ far' = q_lt ks (P 4) + min (n 4 + 1) (q_f ks 4 (P 4)).length) → Cq A ks L way (va_up pl L (nI (n L + 1))) P (va_up n L (n L + 1)) far' := by
              intro far' h4 h5
              refine ⟨q1, q2, q3, fun j hj => ?_, fun j hj => ?_, fun hl => ?_, fun hl => ?_⟩
              · rw [va_up_ne _ _ (by omega)]
                exact q4 j hj
              · by_cases hjL : j = L
                · subst hjL
                  rw [va_up_self, va_up_self]
                · rw [va_up_ne _ _ hjL, va_up_ne _ _ hjL]
                  exact q5 j hj
              · rw [va_up_self]
                exact h4 hl
              · subst hl
                rw [va_up_self]
                exact h5 rfl
            cases hes : es (n L) with
            | some e =>
              refine go_ifnull_r (pc' := 82) d_Cur_advance_79 rfl ?_
              refine go_aload_n (pc' := 83) (i := 2) d_Cur_advance_82 rfl rfl rfl rfl ?_
              refine go_getfield (pc' := 86) d_Cur_advance_83 c_Nod 1 (by decide) t_43 (by first | assumption | exact x_up_self _ _ _ | exact x_nw_self _ _ _ | (rw [x_up_ne (by first | omega | (simp only [x_up, x_nw]; omega))]; first | assumption | exact x_up_self _ _ _ | (rw [x_up_ne (by first | omega | (simp only [x_up, x_nw]; omega))]; first | assumption | exact x_up_self _ _ _)) | (rw [x_nw_ne (by first | omega | (simp only [x_up, x_nw]; omega))]; first | assumption | exact x_up_self _ _ _ | (rw [x_up_ne (by first | omega | (simp only [x_up, x_nw]; omega))]; assumption))) (by rfl) rfl ?_
              refine go_iload_n (pc' := 87) (i := 3) d_Cur_advance_86 rfl rfl rfl ?_
              refine go_aaldN (pc' := 88) d_Cur_advance_87 (by first | assumption | exact x_up_self _ _ _ | exact x_nw_self _ _ _ | (rw [x_up_ne (by first | omega | (simp only [x_up, x_nw]; omega))]; first | assumption | exact x_up_self _ _ _ | (rw [x_up_ne (by first | omega | (simp only [x_up, x_nw]; omega))]; first | assumption | exact x_up_self _ _ _)) | (rw [x_nw_ne (by first | omega | (simp only [x_up, x_nw]; omega))]; first | assumption | exact x_up_self _ _ _ | (rw [x_up_ne (by first | omega | (simp only [x_up, x_nw]; omega))]; assumption))) (by rfl) (by first | assumption | omega | (simp only [x_up, x_nw]; omega)) (by first | assumption | omega | (simp only [x_up, x_nw]; omega)) rfl ?_
              rw [hes]
              refine go_areturn d_Cur_advance_88 rfl ⟨_, rfl⟩ (by first | rfl | exact x_r_rf _) ?_
              rw [hQ]
              refine ⟨ff1, ff2, hag2, Or.inl ?_⟩
              by_cases hl4 : L < 4
              · obtain ⟨-, rfl, rfl⟩ : L < 4 ∧ nn = 4 ∧ k = 4 := by omega
                obtain ⟨es3, ns3, hN3, hE3⟩ := hTn2.1 hl4
                obtain ⟨-, -, rfl, -, rfl⟩ := hN2.uniq hN3
                have hEn := (hE3 (n L) (by omega)).2
                rw [hes] at hEn
                obtain ⟨kv, h3, h4⟩ := hEn.to
                have hL1 : q_f ks (L + 1) (4 * P L + n L) = [kv] := by
                  match hLL : q_f ks (L + 1) (4 * P L + n L), h3 with
                  | [y], h3 => cases h3; rfl
                have hsr := q_srt_one (ks := ks) (m := L + 1) (by omega) hL1
                have hlt := q_lt_s (ks := ks) (n := 4 * P L + n L) (m := L + 1) (by omega)
                rw [show 4 - (L + 1) = 3 - L by omega] at hsr hlt
                rw [hL1] at hlt
                have hfar := (q6 hl4).2
                rw [← hfar] at hsr hlt
                have hlen := (List.getElem?_eq_some_iff.mp hsr).1
                rw [q_srt_len] at hlen
                refine ⟨hlen, e, kv, rfl, hsr, h4, Or.inl ⟨L, way, _, P, _, hC2, step (far + 1) (fun _ => ⟨by omega, ?_⟩) (fun z => by omega)⟩⟩
                rw [← Nat.add_assoc, hlt]
                rfl
              · have hl5 : L = 4 := by omega
                subst hl5
                obtain ⟨-, rfl, rfl⟩ : (4 : Nat) = 4 ∧ nn = 6 ∧ k = 0 := by omega
                obtain ⟨es3, ns3, hN3, hE3⟩ := hTn2.2 rfl
                obtain ⟨-, -, rfl, -, rfl⟩ := hN2.uniq hN3
                have hEn := hE3 (n 4) (by omega)
                rw [hes] at hEn
                obtain ⟨kv, h3, h4⟩ := hEn.to
                have hi := (List.getElem?_eq_some_iff.mp h3).1
                have hP4 : P 4 < 256 := ((hT.1 _ _).mp ⟨a, ha⟩).2.1
                have hsr := q_srt_at (ks := ks) hP4 hi
                have hfar := (q7 rfl).2
                rw [Nat.min_eq_left (by omega)] at hfar
                rw [← hfar, h3] at hsr
                have hlen := (List.getElem?_eq_some_iff.mp hsr).1
                rw [q_srt_len] at hlen
                refine ⟨hlen, e, kv, rfl, hsr, h4, Or.inl ⟨4, way, _, P, _, hC2, step (far + 1) (fun z => by omega) (fun _ => ⟨by omega, ?_⟩)⟩⟩
                rw [Nat.min_eq_left (by omega)]
                omega
            | none =>
              refine go_ifnull_n (tgt := 89) d_Cur_advance_79 (by decide) ?_
              refine go_aload_n (pc' := 90) (i := 0) d_Cur_advance_89 rfl rfl rfl rfl ?_
              refine go_aload_n (pc' := 91) (i := 2) d_Cur_advance_90 rfl rfl rfl rfl ?_
              refine go_iload_n (pc' := 92) (i := 3) d_Cur_advance_91 rfl rfl rfl ?_
              refine go_callV (pc' := 95) (M' := M_Nod_nodeAt) (ci := 2) (r := (n_Nod, T_Nod, 3)) [_] d_Cur_advance_92 t_436 t_300 t_301 cd_Nod_nodeAt nm_Nod_nodeAt rfl (by rfl) (by first | assumption | exact x_up_self _ _ _ | exact x_nw_self _ _ _ | (rw [x_up_ne (by first | omega | (simp only [x_up, x_nw]; omega))]; first | assumption | exact x_up_self _ _ _ | (rw [x_up_ne (by first | omega | (simp only [x_up, x_nw]; omega))]; first | assumption | exact x_up_self _ _ _)) | (rw [x_nw_ne (by first | omega | (simp only [x_up, x_nw]; omega))]; first | assumption | exact x_up_self _ _ _ | (rw [x_up_ne (by first | omega | (simp only [x_up, x_nw]; omega))]; assumption))) rfl (Nat.le_of_ble_eq_true rfl) rfl (s_nodeAt (d := d - 1) hN2 (by omega) (j := n L) (by omega)) (by first | decide | omega) (Nat.le_of_ble_eq_true rfl) rfl (fun v hh hq => ?_) (fun q g hq => by cases hq.1)
              obtain ⟨e9, rfl⟩ := hq
              cases e9
              by_cases hl4 : L < 4
              · obtain ⟨-, rfl, rfl⟩ : L < 4 ∧ nn = 4 ∧ k = 4 := by omega
                rw [if_pos (by omega)]
                obtain ⟨es3, ns3, hN3, hE3⟩ := hTn2.1 hl4
                obtain ⟨-, -, rfl, -, rfl⟩ := hN2.uniq hN3
                obtain ⟨hns, hEn⟩ := hE3 (n L) (by omega)
                rw [hes] at hEn
                rw [hns]
                show Go K M_Cur_advance d 95 _ [va_rf (A (L + 1) (4 * P L + n L)), .ref q] f' Q
                have hbd := q_bd (x := n L + 1) hT ha (by omega) hl4
                have hpow : 0 < 4 ^ (3 - L) := Nat.pow_pos (by decide)
                have hmul : (4 * P L + (n L + 1)) * 4 ^ (3 - L) = (4 * P L + n L) * 4 ^ (3 - L) + 4 ^ (3 - L) := by rw [← Nat.add_assoc, Nat.add_mul, Nat.one_mul]
                have hfar := (q6 hl4).2
                have hmu' : (256 - (4 * P L + n L) * 4 ^ (3 - L)) * 64 + (12 - L) < N + 1 := by
                  have h9 := hmu
                  unfold q_mu at h9
                  rw [if_pos hl4, if_neg (by omega)] at h9
                  exact h9
                cases hA : A (L + 1) (4 * P L + n L) with
                | none =>
                  refine go_callV (pc' := 98) (M' := M_Cur_goInto) (ci := 0) (r := (n_Cur, T_Cur, 3)) [_] d_Cur_advance_95 t_437 t_439 sp_Cur_goInto cd_Cur_goInto nm_Cur_goInto rfl (by rfl) (by first | assumption | exact x_up_self _ _ _ | exact x_nw_self _ _ _ | (rw [x_up_ne (by first | omega | (simp only [x_up, x_nw]; omega))]; first | assumption | exact x_up_self _ _ _ | (rw [x_up_ne (by first | omega | (simp only [x_up, x_nw]; omega))]; first | assumption | exact x_up_self _ _ _)) | (rw [x_nw_ne (by first | omega | (simp only [x_up, x_nw]; omega))]; first | assumption | exact x_up_self _ _ _ | (rw [x_up_ne (by first | omega | (simp only [x_up, x_nw]; omega))]; assumption))) rfl (Nat.le_of_ble_eq_true rfl) rfl (s_goInto0 (d := d - 1) (x := .null)) (by first | decide | omega) (Nat.le_of_ble_eq_true rfl) rfl (fun v hh hq => ?_) (fun q g hq => by cases hq.1)
                  obtain ⟨e9, rfl⟩ := hq
                  cases e9
                  show Go K M_Cur_advance d 98 _ [] f' Q
                  refine go_iinc (pc' := 101) (i := 1) d_Cur_advance_98 rfl (x_i1 _) (by decide) (x_s1 (by first | rfl | exact x_k_rf _)) rfl ?_
                  refine go_goto (tgt := 2) d_Cur_advance_101 (by decide) ?_
                  have hz : (q_f ks (L + 1) (4 * P L + n L)).length = 0 := by
                    have h3 := hEn.to0
                    apply Classical.byContradiction
                    intro z
                    by_cases h1 : (q_f ks (L + 1) (4 * P L + n L)).length = 1
                    · match hLL : q_f ks (L + 1) (4 * P L + n L), h1, h3 with
                      | [y], _, h3 => cases h3
                    · obtain ⟨b, hb⟩ := (hT.1 (L + 1) (4 * P L + n L)).mpr ⟨by omega, by have := ((hT.1 _ _).mp ⟨a, ha⟩).2.1; rw [Nat.pow_succ]; omega, Or.inr (by omega)⟩
                      rw [hA] at hb
                      cases hb
                  have hlt := q_lt_s (ks := ks) (n := 4 * P L + n L) (m := L + 1) (by omega)
                  rw [show 4 - (L + 1) = 3 - L by omega, hz] at hlt
                  refine ih (s + 1) f' L way _ P _ _ _ (by omega) ff1 ff2 hag2 hC2 (step far (fun _ => ⟨by omega, by rw [← Nat.add_assoc, hlt]; exact hfar⟩) (fun z => by omega)) ?_ rfl
                  unfold q_mu
                  rw [if_pos hl4, va_up_self, hmul]
                  split <;> omega
                | some b' =>
                  obtain ⟨_, _, _, _, hNb, -⟩ := hT2.nd hA
                  refine go_callV (pc' := 98) (M' := M_Cur_goInto) (ci := 0) (r := (n_Cur, T_Cur, 3)) [_] d_Cur_advance_95 t_437 t_439 sp_Cur_goInto cd_Cur_goInto nm_Cur_goInto rfl (by rfl) (by first | assumption | exact x_up_self _ _ _ | exact x_nw_self _ _ _ | (rw [x_up_ne (by first | omega | (simp only [x_up, x_nw]; omega))]; first | assumption | exact x_up_self _ _ _ | (rw [x_up_ne (by first | omega | (simp only [x_up, x_nw]; omega))]; first | assumption | exact x_up_self _ _ _)) | (rw [x_nw_ne (by first | omega | (simp only [x_up, x_nw]; omega))]; first | assumption | exact x_up_self _ _ _ | (rw [x_up_ne (by first | omega | (simp only [x_up, x_nw]; omega))]; assumption))) rfl (Nat.le_of_ble_eq_true rfl) rfl (s_goInto (d := d - 1) hl4 hC2 hNb.1) (by first | decide | omega) (Nat.le_of_ble_eq_true rfl) rfl (fun v f3 hq => ?_) (fun q g hq => hq.elim)
                  obtain ⟨rfl, g1, g2, hC3, hag3⟩ := hq
                  show Go K M_Cur_advance d 98 _ [] f3 Q
                  refine go_iinc (pc' := 101) (i := 1) d_Cur_advance_98 rfl (x_i1 _) (by decide) (x_s1 (by first | rfl | exact x_k_rf _)) rfl ?_
                  refine go_goto (tgt := 2) d_Cur_advance_101 (by decide) ?_
                  refine ih (s + 1) f3 (L + 1) _ _ (va_up P (L + 1) (4 * P L + n L)) (va_up (va_up n L (n L + 1)) (L + 1) 0) _ _ (by omega) (g1.trans ff1) (g2.trans ff2) (fun z z0 z1 z2 => (hag3 z z0 z1 z2).trans (hag2 z z0 z1 z2)) hC3 ⟨by omega, fun j hj => ?_, ?_, fun j hj => ?_, fun j hj => ?_, fun hl9 => ?_, fun hl9 => ?_⟩ ?_ rfl
                  · by_cases hjL : j = L + 1
                    · subst hjL
                      rw [va_up_self, va_up_self]
                      exact ⟨b', hA, rfl⟩
                    · rw [va_up_ne _ _ hjL, va_up_ne _ _ hjL]
                      exact q2 j (by omega)
                  · rw [va_up_ne _ _ (by omega)]
                    exact q3
                  · by_cases hjL : j = L
                    · subst hjL
                      rw [va_up_self, va_up_ne _ _ (by omega), va_up_ne _ _ (by omega), va_up_self]
                      omega
                    · rw [va_up_ne _ _ (by omega), va_up_ne _ _ (by omega), va_up_ne _ _ (by omega), va_up_ne _ _ hjL]
                      exact q4 j (by omega)
                  · by_cases hjL : j = L + 1
                    · subst hjL
                      rw [va_up_self, va_up_self]
                    · rw [va_up_ne _ _ hjL, va_up_ne _ _ hjL]
                      by_cases hjL2 : j = L
                      · subst hjL2
                        rw [va_up_self, va_up_self]
                      · rw [va_up_ne _ _ hjL2, va_up_ne _ _ hjL2]
                        exact q5 j (by omega)
                  · rw [va_up_self, va_up_self]
                    refine ⟨by omega, ?_⟩
                    rw [hfar, q_e5 _ (by omega)]
                  · have hL3 : L = 3 := by omega
                    subst hL3
                    rw [va_up_self, va_up_self]
                    refine ⟨by omega, ?_⟩
                    rw [hfar]
                    simp
                  · unfold q_mu
                    by_cases hl9 : L + 1 < 4
                    · rw [if_pos hl9, va_up_self, va_up_self, if_neg (by omega), q_e5 _ (by omega)]
                      omega
                    · have hL3 : L = 3 := by omega
                      subst hL3
                      rw [if_neg hl9, va_up_self, va_up_self]
                      simp at hmu'
                      omega
              · have hl5 : L = 4 := by omega
                subst hl5
                obtain ⟨-, rfl, rfl⟩ : (4 : Nat) = 4 ∧ nn = 6 ∧ k = 0 := by omega
                rw [if_neg (by omega)]
                obtain ⟨es3, ns3, hN3, hE3⟩ := hTn2.2 rfl
                obtain ⟨-, -, rfl, -, rfl⟩ := hN2.uniq hN3
                have hEn := hE3 (n 4) (by omega)
                rw [hes] at hEn
                have hge := List.getElem?_eq_none_iff.mp hEn.to0
                refine go_callV (pc' := 98) (M' := M_Cur_goInto) (ci := 0) (r := (n_Cur, T_Cur, 3)) [_] d_Cur_advance_95 t_437 t_439 sp_Cur_goInto cd_Cur_goInto nm_Cur_goInto rfl (by rfl) (by first | assumption | exact x_up_self _ _ _ | exact x_nw_self _ _ _ | (rw [x_up_ne (by first | omega | (simp only [x_up, x_nw]; omega))]; first | assumption | exact x_up_self _ _ _ | (rw [x_up_ne (by first | omega | (simp only [x_up, x_nw]; omega))]; first | assumption | exact x_up_self _ _ _)) | (rw [x_nw_ne (by first | omega | (simp only [x_up, x_nw]; omega))]; first | assumption | exact x_up_self _ _ _ | (rw [x_up_ne (by first | omega | (simp only [x_up, x_nw]; omega))]; assumption))) rfl (Nat.le_of_ble_eq_true rfl) rfl (s_goInto0 (d := d - 1) (x := .null)) (by first | decide | omega) (Nat.le_of_ble_eq_true rfl) rfl (fun v hh hq => ?_) (fun q g hq => by cases hq.1)
                obtain ⟨e9, rfl⟩ := hq
                cases e9
                show Go K M_Cur_advance d 98 _ [] f' Q
                refine go_iinc (pc' := 101) (i := 1) d_Cur_advance_98 rfl (x_i1 _) (by decide) (x_s1 (by first | rfl | exact x_k_rf _)) rfl ?_
                refine go_goto (tgt := 2) d_Cur_advance_101 (by decide) ?_
                have hfar := (q7 rfl).2
                refine ih (s + 1) f' 4 way _ P _ _ _ (by omega) ff1 ff2 hag2 hC2 (step far (fun z => by omega) (fun _ => ⟨by omega, by omega⟩)) ?_ rfl
                unfold q_mu at hmu ⊢
                rw [if_neg (by omega)] at hmu ⊢
                rw [va_up_self]
                omega
          · -- the node is done: up
            refine go_aload_n (pc' := 49) (i := 0) d_Cur_advance_48 rfl rfl rfl rfl ?_
            refine go_dup (pc' := 50) d_Cur_advance_49 (by first | rfl | exact x_c_rf _) rfl ?_
            refine go_getfield (pc' := 53) d_Cur_advance_50 c_Cur 2 (by decide) t_411 (by first | assumption | exact x_up_self _ _ _ | exact x_nw_self _ _ _ | (rw [x_up_ne (by first | omega | (simp only [x_up, x_nw]; omega))]; first | assumption | exact x_up_self _ _ _ | (rw [x_up_ne (by first | omega | (simp only [x_up, x_nw]; omega))]; first | assumption | exact x_up_self _ _ _)) | (rw [x_nw_ne (by first | omega | (simp only [x_up, x_nw]; omega))]; first | assumption | exact x_up_self _ _ _ | (rw [x_up_ne (by first | omega | (simp only [x_up, x_nw]; omega))]; assumption))) (by rfl) rfl ?_
            refine go_iconst (pc' := 54) (v := (nI 1)) d_Cur_advance_53 (by decide) rfl ?_
            refine go_isub (pc' := 55) d_Cur_advance_54 rfl ?_
            by_cases hL0 : L = 0
            · subst hL0
              rw [show nI 0 - nI 1 = -1 by decide]
              refine go_putfield (pc' := 58) d_Cur_advance_55 c_Cur 2 (by decide) rfl t_411 (by first | assumption | exact x_up_self _ _ _ | exact x_nw_self _ _ _ | (rw [x_up_ne (by first | omega | (simp only [x_up, x_nw]; omega))]; first | assumption | exact x_up_self _ _ _ | (rw [x_up_ne (by first | omega | (simp only [x_up, x_nw]; omega))]; first | assumption | exact x_up_self _ _ _)) | (rw [x_nw_ne (by first | omega | (simp only [x_up, x_nw]; omega))]; first | assumption | exact x_up_self _ _ _ | (rw [x_up_ne (by first | omega | (simp only [x_up, x_nw]; omega))]; assumption))) (by rfl) (by rfl) (by first | exact Nat.le_of_ble_eq_true rfl | simp) rfl ?_
              refine go_goto (tgt := 98) d_Cur_advance_58 (by decide) ?_
              refine go_iinc (pc' := 101) (i := 1) d_Cur_advance_98 rfl (x_i1 _) (by decide) (x_s1 (by first | rfl | exact x_k_rf _)) rfl ?_
              refine go_goto (tgt := 2) d_Cur_advance_101 (by decide) ?_
              have hfar := (q6 (by omega)).2
              have hn4 : n 0 = 4 := by have := (q6 (by omega)).1; omega
              refine fin (s + 1) _ way pl _ _ (by omega) f1 f2 (fun z z0 z1 z2 => (x_up_ne z0).trans (hag z z0 z1 z2)) ⟨x_up_self _ _ _, (x_up_ne (by omega)).trans c1, (x_up_ne (by omega)).trans c2⟩ ?_
              rw [hfar, q3, hn4]
              exact q_lt_all
            · rw [x_sub (by omega)]
              refine go_putfield (pc' := 58) d_Cur_advance_55 c_Cur 2 (by decide) rfl t_411 (by first | assumption | exact x_up_self _ _ _ | exact x_nw_self _ _ _ | (rw [x_up_ne (by first | omega | (simp only [x_up, x_nw]; omega))]; first | assumption | exact x_up_self _ _ _ | (rw [x_up_ne (by first | omega | (simp only [x_up, x_nw]; omega))]; first | assumption | exact x_up_self _ _ _)) | (rw [x_nw_ne (by first | omega | (simp only [x_up, x_nw]; omega))]; first | assumption | exact x_up_self _ _ _ | (rw [x_up_ne (by first | omega | (simp only [x_up, x_nw]; omega))]; assumption))) (by rfl) (by rfl) (by first | exact Nat.le_of_ble_eq_true rfl | simp) rfl ?_
              refine go_goto (tgt := 98) d_Cur_advance_58 (by decide) ?_
              refine go_iinc (pc' := 101) (i := 1) d_Cur_advance_98 rfl (x_i1 _) (by decide) (x_s1 (by first | rfl | exact x_k_rf _)) rfl ?_
              refine go_goto (tgt := 2) d_Cur_advance_101 (by decide) ?_
              obtain ⟨p4, p5, p6⟩ := q4 (L - 1) (by omega)
              rw [show L - 1 + 1 = L by omega] at p4
              have hH : ∀ x, (P L + 1) * x = (4 * P (L - 1) + n (L - 1)) * x := fun x => by rw [p4]
              have hpow : 4 ^ (3 - (L - 1)) = 4 * 4 ^ (3 - L) ∨ L = 4 := by
                by_cases hl4 : L < 4
                · left
                  rw [← Nat.pow_succ']
                  congr 1
                  omega
                · right; omega
              have hfar' : far = q_lt ks ((4 * P (L - 1) + n (L - 1)) * 4 ^ (3 - (L - 1))) := by
                by_cases hl4 : L < 4
                · have hn4 : n L = 4 := by have := (q6 hl4).1; omega
                  have hfar := (q6 hl4).2
                  rcases hpow with hpow | hpow
                  · rw [hfar, hn4, hpow, ← hH, show 4 * P L + 4 = (P L + 1) * 4 by omega, Nat.mul_assoc]
                  · omega
                · have hl5 : L = 4 := by omega
                  subst hl5
                  have hfar := (q7 rfl).2
                  have hn6' : n 4 = 6 := by omega
                  rw [hn6', Nat.min_eq_right (hK.2.2 _)] at hfar
                  rw [hfar, ← q_lt_1, p4]
                  simp
              refine ih (s + 1) _ (L - 1) way pl P n _ _ (by omega) f1 f2 (fun z z0 z1 z2 => (x_up_ne z0).trans (hag z z0 z1 z2)) ⟨x_up_self _ _ _, (x_up_ne (by omega)).trans c1, (x_up_ne (by omega)).trans c2⟩
                ⟨by omega, fun j hj => q2 j (by omega), q3, fun j hj => q4 j (by omega), fun j hj => q5 j (by omega), fun _ => ⟨p6, hfar'⟩, fun z => by omega⟩ ?_ rfl
              unfold q_mu at hmu ⊢
              rw [if_pos (by omega)]
              by_cases hl4 : L < 4
              · have hn4 : n L = 4 := by have := (q6 hl4).1; omega
                rw [if_pos hl4, if_pos hn4] at hmu
                rcases hpow with hpow | hpow
                · have e9 : (4 * P L + n L) * 4 ^ (3 - L) = (4 * P (L - 1) + n (L - 1)) * 4 ^ (3 - (L - 1)) := by
                    rw [hn4, hpow, ← hH, show 4 * P L + 4 = (P L + 1) * 4 by omega, Nat.mul_assoc]
                  rw [e9] at hmu
                  split <;> omega
                · omega
              · have hl5 : L = 4 := by omega
                subst hl5
                rw [if_neg (by omega)] at hmu
                have e9 : (4 * P (4 - 1) + n (4 - 1)) * 4 ^ (3 - (4 - 1)) = P 4 + 1 := by
                  rw [p4]
                  simp
                have hP4 : P 4 < 256 := ((hT.1 _ _).mp ⟨a, ha⟩).2.1
                rw [e9]
                split <;> omega
  refine go_iconst (pc' := 1) (v := (nI 0)) d_Cur_advance_0 (by decide) rfl ?_
  refine go_istore_n (pc' := 2) (i := 1) d_Cur_advance_1 rfl (by decide) (x_s1 (by first | rfl | exact x_k_rf _)) rfl ?_
  rcases hC0 with ⟨L, way, pl, P, n, hC, hq⟩ | ⟨way, pl, hC, hfar⟩
  · refine loop 20000 0 h L way pl P n _ _ (by omega) rfl rfl (fun _ _ _ _ => rfl) hC hq ?_ rfl
    unfold q_mu
    split
    · split <;> omega
    · omega
  · exact fin 0 h way pl _ _ (by omega) rfl rfl (fun _ _ _ _ => rfl) hC hfar
end CC
