/-! put, get, remove, replace -/
section EC
variable {K : x_K} {d : Nat} {h f : x_H} {A A' : Nat → Nat → Option Nat} {ks : List KV} {bel bel' : Nat → Nat → Int32} {bl : Nat → Nat → Nat} {t a g lg x : Nat} {key : Int32} {v : Int64} {ps ps' : Nat → Nat × Nat} {σ : Sg} {mp cu : Nat → Option Nat} {B FA : Nat → Nat → Nat → Option Nat} {fks : Nat → List KV} {fbl : Nat → Nat → Nat → Nat} {i : Nat}
theorem va_up2 {α : Type} (F : Nat → α) (i : Nat) (a b : α) : va_up (va_up F i a) i b = va_up F i b := by
  funext j
  by_cases hj : j = i
  · subst hj; rw [va_up_self, va_up_self]
  · rw [va_up_ne _ _ hj, va_up_ne _ _ hj, va_up_ne _ _ hj]
theorem p_wr2 (k1 k2 : List KV) (b1 b2 : Nat → Nat → Nat) (c1 c2 : Nat) : p_wr (p_wr σ i k1 b1 c1) i k2 b2 c2 = p_wr σ i k2 b2 c2 := by
  unfold p_wr
  simp only [s_th, s_ro, s_gn, s_ks, s_bl, s_lg, s_vl, s_us, s_sn, s_fa, va_up2]
theorem p_wr_ks (k1 : List KV) (b1 : Nat → Nat → Nat) (c1 : Nat) : s_ks (p_wr σ i k1 b1 c1) i = k1 := va_up_self _ _ _
theorem p_wr_bl (k1 : List KV) (b1 : Nat → Nat → Nat) (c1 : Nat) : s_bl (p_wr σ i k1 b1 c1) i = b1 := va_up_self _ _ _
theorem p_wr_gn (k1 : List KV) (b1 : Nat → Nat → Nat) (c1 : Nat) : s_gn (p_wr σ i k1 b1 c1) = s_gn σ := rfl
def q_bp (ks : List KV) (bl : Nat → Nat → Nat) (g : Nat) (key : Int32) : Nat → Nat → Nat := if (q_get ks key).isSome then bl else q_ba ks bl g key
/-- after putIn -/
theorem CS.pi (hdom : ∀ (a : Nat) (c : x_C), h.2.2 a = some c → a < h.1) (hM : Cm h σ mp B ps) (hC : Cc h σ cu ps FA fks fbl) (hlg : s_lg σ < 2 ^ 20) (hi : i < 6) (ht : mp i = some t)
    (hway : ∀ l a, B i l (q_p l key) = some a → s_bl σ i l (q_p l key) = s_gn σ i) (hT' : Tr f A' (q_put (s_ks σ i) key v) bel') (hP' : Ps ps' A') (hps : ∀ b, b < h.1 → ps' b = ps b)
    (p1 : ∀ l p a, B i l p = some a → A' l p = some a ∧ bel' l p = nB (s_bl σ i) l p) (p2 : ∀ l p, B i l p = none → ∀ a, A' l p = some a → h.1 ≤ a ∧ bel' l p = nI (s_gn σ i) ∧ p = q_p l key)
    (hF : Fr (fun b => ∃ l a, B i l (q_p l key) = some a ∧ (b = a + 1 ∨ b = a + 2)) h f) (hroom : (q_get (s_ks σ i) key).isSome = true ∨ ((s_ks σ i).length < 60 ∧ (q_f (s_ks σ i) 4 (q_p 4 key)).length < 6)) (lc : Nat) :
    Cm f (p_wr σ i (q_put (s_ks σ i) key v) (q_bp (s_ks σ i) (s_bl σ i) (s_gn σ i) key) lc) mp (va_up B i A') ps' ∧ Cc f (p_wr σ i (q_put (s_ks σ i) key v) (q_bp (s_ks σ i) (s_bl σ i) (s_gn σ i) key) lc) cu ps' FA fks fbl ∧ Kc h f := by
  obtain ⟨⟨root, hroot, htc⟩, hTi, hPi, hKi, hroi, hgi, hbi⟩ := hM.2.1 i t hi ht
  have hHi : Hi h t := ⟨_, _, htc, Or.inl rfl⟩
  have hW : Wf t (fun a => ∃ l p, B i l p = some a ∧ s_bl σ i l p = s_gn σ i) h f := by
    refine ⟨fun b c hb hne hw => ?_, fun a ⟨l, p, ha, hb⟩ => ?_⟩
    · rw [hF.2.2 b (hdom _ _ hb) (fun ⟨l, a, ha, hs⟩ => ?_)]
      · exact hb
      · have := hw a ⟨l, _, ha, hway l a ha⟩
        omega
    · obtain ⟨n, es, k, ns, hN, hk, -⟩ := hTi.nd ha
      exact ⟨_, n, es, k, ns, hN, by omega⟩
  -- an old node's generation stays, a new one's is the map's
  have hbp : ∀ l p a, A' l p = some a → (B i l p = some a ∧ q_bp (s_ks σ i) (s_bl σ i) (s_gn σ i) key l p = s_bl σ i l p ∧ bel' l p = nB (s_bl σ i) l p) ∨ (q_bp (s_ks σ i) (s_bl σ i) (s_gn σ i) key l p = s_gn σ i ∧ bel' l p = nI (s_gn σ i)) := by
    intro l p a ha
    cases hB : B i l p with
    | some b =>
      have h1 := p1 l p b hB
      left
      refine ⟨h1.1.symm.trans ha, ?_, h1.2⟩
      have hex := ((hTi.1 l p).mp ⟨b, hB⟩).2.2
      unfold q_bp
      split
      · rfl
      · unfold q_ba
        rw [if_neg]
        rintro ⟨z1, z2, z3, z4⟩
        omega
    | none =>
      obtain ⟨-, h2, h3⟩ := p2 l p hB a ha
      right
      refine ⟨?_, h2⟩
      have hx' := (hT'.1 l p).mp ⟨a, ha⟩
      have hnx : ¬ (l ≤ 4 ∧ p < 4 ^ l ∧ (l = 0 ∨ 2 ≤ (q_f (s_ks σ i) l p).length)) := fun z => by
        obtain ⟨b, hb⟩ := (hTi.1 l p).mpr z
        rw [hB] at hb
        cases hb
      have hlen := q_put_len (ks := s_ks σ i) (key := key) (v := v) l
      rw [← h3] at hlen
      unfold q_bp
      cases hg : (q_get (s_ks σ i) key).isSome with
      | true =>
        rw [hg] at hlen
        exact absurd ⟨hx'.1, hx'.2.1, by
          rw [hlen] at hx'
          simpa using hx'.2.2⟩ hnx
      | false =>
        rw [hg] at hlen
        simp only [Bool.false_eq_true, if_false] at hlen ⊢
        unfold q_ba
        rw [if_pos]
        rw [hlen] at hx'
        have h0 : l ≠ 0 := fun z => hnx ⟨hx'.1, hx'.2.1, Or.inl z⟩
        have h9 : ¬ 2 ≤ (q_f (s_ks σ i) l p).length := fun z => hnx ⟨hx'.1, hx'.2.1, Or.inr z⟩
        have h8 := hx'.2.2
        exact ⟨by omega, by omega, h3, by omega⟩
  have hTn : Tr f A' (q_put (s_ks σ i) key v) (nB (q_bp (s_ks σ i) (s_bl σ i) (s_gn σ i) key)) := hT'.cg fun l p a ha => by
    unfold nB
    rcases hbp l p a ha with ⟨-, z1, z2⟩ | ⟨z1, z2⟩
    · rw [z1, z2]; rfl
    · rw [z1, z2]
  have hwr := CS.wr hdom hM hC hlg hi ht hW (fun a ha => ha) hTn hP' hps (hKi.put hroom) (fun l p a ha => (hbp l p a ha).imp (fun z => ⟨z.1, z.2.1⟩) (fun z => z.1)) (p1 0 0 root hroot).1 (by
    rw [hF.2.2 t (hdom _ _ htc) (fun ⟨l, a, ha, hs⟩ => ?_)]
    · exact htc
    · obtain ⟨n, es, k, ns, hN, -⟩ := hTi.nd ha
      rcases hs with hs | hs
      · exact hHi.l hN.2.1 hs.symm
      · exact hHi.l hN.2.2 hs.symm) lc
  exact ⟨hwr.1, hwr.2, hW.kc hHi⟩
/-- put's step -/
def p_put (σ : Sg) (i : Nat) (key : Int32) (v : Int64) : Sg :=
  p_wr σ i (q_put (s_ks σ i) key v) (q_bp (s_ks σ i) (q_bw (s_ks σ i) (s_bl σ i) (s_gn σ i) key) (s_gn σ i) key) (q_cc (s_ks σ i) (s_bl σ i) (s_gn σ i) key 5)
set_option maxRecDepth 100000 in
theorem s_write {e : Nat} (hO : Ob h x mp cu (nI (s_lg σ)) (nI (s_lc σ)) (s_vl σ)) (hM : Cm h σ mp B ps) (hC : Cc h σ cu ps FA fks fbl) (hlg : s_lg σ < 2 ^ 20) (hi : i < 6) (ht : mp i = some t) (he : Et h e key v)
    (hroom : (q_get (s_ks σ i) key).isSome = true ∨ ((s_ks σ i).length < 60 ∧ (q_f (s_ks σ i) 4 (q_p 4 key)).length < 6)) (hd : 8 ≤ d) (hc1 : h.1 + 27 ≤ x_cap K) (hc2 : h.2.1 + 99 ≤ x_cas K) :
    Go K M_Tri_write d 0 [some (.ref x), some (.ref t), some (.ref e)] [] h (x_rt (fun w f => w = none ∧ CS f x (p_put σ i key v) ∧ Kc h f ∧ h.1 ≤ f.1 ∧ f.1 ≤ h.1 + 27 ∧ h.2.1 ≤ f.2.1 ∧ f.2.1 ≤ h.2.1 + 99)) := by
  refine go_dom fun hdom => ?_
  obtain ⟨⟨root, hroot, htc⟩, hTi, hPi, hKi, hroi, hgi, hbi⟩ := hM.2.1 i t hi ht
  have he' := he
  unfold Et at he'
  obtain ⟨h0, h1, h2⟩ := hO
  have hOwn := s_ownWay (K := K) (d := d - 1) hTi hPi hroot htc key (by omega) (by omega) (by omega)
  refine go_aload_n (pc' := 1) (i := 0) d_Tri_write_0 rfl rfl (by first | rfl | exact x_r_rf _) rfl ?_
  refine go_aload_n (pc' := 2) (i := 1) d_Tri_write_1 rfl rfl (by first | rfl | exact x_r_rf _) rfl ?_
  refine go_aload_n (pc' := 3) (i := 2) d_Tri_write_2 rfl rfl (by first | rfl | exact x_r_rf _) rfl ?_
  refine go_getfield (pc' := 6) d_Tri_write_3 c_Ent 0 (by decide) t_277 (by first | assumption | exact x_up_self _ _ _ | exact x_nw_self _ _ _ | (rw [x_up_ne (by first | omega | (simp only [x_up, x_nw]; omega))]; first | assumption | exact x_up_self _ _ _ | (rw [x_up_ne (by first | omega | (simp only [x_up, x_nw]; omega))]; first | assumption | exact x_up_self _ _ _)) | (rw [x_nw_ne (by first | omega | (simp only [x_up, x_nw]; omega))]; first | assumption | exact x_up_self _ _ _ | (rw [x_up_ne (by first | omega | (simp only [x_up, x_nw]; omega))]; assumption))) (by rfl) rfl ?_
  refine go_callS (pc' := 9) (M' := M_Tri_ownWay) [_, _] d_Tri_write_6 t_289 t_290 t_1 cd_Tri_ownWay nm_Tri_ownWay rfl rfl (Nat.le_of_ble_eq_true rfl) rfl (hOwn) (by first | decide | omega) (Nat.le_of_ble_eq_true rfl) rfl (fun v hh hq => ?_) (fun q g hq => hq.elim)
  obtain ⟨A2, bel2, ps2, root2, rfl, hOw, hr2, hft, b1, b2⟩ := hq
  have hHt : Hi h t := ⟨_, _, htc, Or.inl rfl⟩
  have hHx : Hi h x := ⟨_, _, h0, Or.inr rfl⟩
  have hFr := hOw.2.2.2.2.2.2
  have keep : ∀ b c, h.2.2 b = some c → b ≠ t → (∀ a, b ≠ a + 2 ∨ ¬ ∃ z, h.2.2 (a + 2) = some (.inl z) ∧ z.1 = 4) → hh.2.2 b = some c := fun b c hb hne hz => by
    rw [hFr.2.2 b (hdom _ _ hb) (fun hs => ?_)]
    · exact hb
    · rcases hs with hs | ⟨l, a, ha, -, hs⟩
      · exact hne hs
      · obtain ⟨n, es, k, ns, hN, -⟩ := hTi.nd ha
        rcases hz a with h9 | h9
        · exact h9 hs
        · exact h9 ⟨_, hN.2.2, rfl⟩
  have hxx : hh.2.2 x = some (.inr (5, [.ref (x + 1), .ref (x + 2), .int (nI (s_lg σ)), .int (nI (s_lc σ)), .long (s_vl σ)])) := keep x _ h0 (fun e => by rw [e, htc] at h0; cases h0) (fun a => Classical.byContradiction fun z => by
    rw [not_or, Classical.not_not, Classical.not_not] at z
    obtain ⟨rfl, w, hw, -⟩ := z
    rw [h0] at hw; cases hw)
  have hx1 : hh.2.2 (x + 1) = _ := keep _ _ h1 (hHt.l h1) (fun a => Classical.byContradiction fun z => by
    rw [not_or, Classical.not_not, Classical.not_not] at z
    obtain ⟨z1, w, hw, hw2⟩ := z
    rw [← z1, h1] at hw; cases hw; cases hw2)
  have hx2 : hh.2.2 (x + 2) = _ := keep _ _ h2 (hHt.l h2) (fun a => Classical.byContradiction fun z => by
    rw [not_or, Classical.not_not, Classical.not_not] at z
    obtain ⟨z1, w, hw, hw2⟩ := z
    rw [← z1, h2] at hw; cases hw; cases hw2)
  have hee : Et hh e key v := keep _ _ he' (hHt.r he' (by decide)) (fun a => Classical.byContradiction fun z => by
    rw [not_or, Classical.not_not, Classical.not_not] at z
    obtain ⟨rfl, w, hw, -⟩ := z
    rw [he'] at hw; cases hw)
  have hcc : q_cn (B i) (nB (s_bl σ i)) (nI (s_gn σ i)) key 5 = q_cc (s_ks σ i) (s_bl σ i) (s_gn σ i) key 5 := q_cn_cc hTi (fun l p a ha => by have := hbi l p a ha; omega) (by omega) 5 (by omega)
  obtain ⟨hM1, hC1, hk1⟩ := CS.ow hdom hM hC hlg hi ht hOw hr2 hft (q_cc (s_ks σ i) (s_bl σ i) (s_gn σ i) key 5)
  rw [hcc]
  show Go K M_Tri_write d 9 _ [_, _] hh _
  obtain ⟨σ1, hσ1⟩ : ∃ σ1, σ1 = p_wr σ i (s_ks σ i) (q_bw (s_ks σ i) (s_bl σ i) (s_gn σ i) key) (q_cc (s_ks σ i) (s_bl σ i) (s_gn σ i) key 5) := ⟨_, rfl⟩
  rw [← hσ1] at hM1 hC1
  have hg1 : s_gn σ1 = s_gn σ := by rw [hσ1]; rfl
  have hks1 : s_ks σ1 i = s_ks σ i := by rw [hσ1]; exact p_wr_ks _ _ _
  have hbl1 : s_bl σ1 i = q_bw (s_ks σ i) (s_bl σ i) (s_gn σ i) key := by rw [hσ1]; exact p_wr_bl _ _ _
  have hlg1 : s_lg σ1 = s_lg σ := by rw [hσ1]; rfl
  refine go_putfield (pc' := 12) d_Tri_write_9 c_Tri 3 (by decide) rfl t_74 (by first | assumption | exact x_up_self _ _ _ | exact x_nw_self _ _ _ | (rw [x_up_ne (by first | omega | (simp only [x_up, x_nw]; omega))]; first | assumption | exact x_up_self _ _ _ | (rw [x_up_ne (by first | omega | (simp only [x_up, x_nw]; omega))]; first | assumption | exact x_up_self _ _ _)) | (rw [x_nw_ne (by first | omega | (simp only [x_up, x_nw]; omega))]; first | assumption | exact x_up_self _ _ _ | (rw [x_up_ne (by first | omega | (simp only [x_up, x_nw]; omega))]; assumption))) (by rfl) (by rfl) (by first | exact Nat.le_of_ble_eq_true rfl | simp) rfl ?_
  show Go K M_Tri_write d 12 _ [] (x_up hh x (.inr (5, [.ref (x + 1), .ref (x + 2), .int (nI (s_lg σ)), .int (nI (q_cc (s_ks σ i) (s_bl σ i) (s_gn σ i) key 5)), .long (s_vl σ)]))) _
  obtain ⟨h3, hh3⟩ : ∃ h3, h3 = x_up hh x (.inr (5, [.ref (x + 1), .ref (x + 2), .int (nI (s_lg σ)), .int (nI (q_cc (s_ks σ i) (s_bl σ i) (s_gn σ i) key 5)), .long (s_vl σ)])) := ⟨_, rfl⟩
  rw [← hh3]
  refine go_dom fun hdom3 => ?_
  have hk3 : ∀ b c, hh.2.2 b = some c → b ≠ x → h3.2.2 b = some c := fun b c hb hne => by rw [hh3, x_up_ne hne]; exact hb
  have h3x : h3.2.2 x = some (.inr (5, [.ref (x + 1), .ref (x + 2), .int (nI (s_lg σ)), .int (nI (q_cc (s_ks σ i) (s_bl σ i) (s_gn σ i) key 5)), .long (s_vl σ)])) := by rw [hh3]; exact x_up_self _ _ _
  have hM3 := hM1.kx hxx hk3
  have hC3 := hC1.kx hxx hk3
  have hc3 : Kc hh h3 := Kc.kx hxx hk3
  have ht3 : h3.2.2 t = some (.inr (4, [.ref root2, .int (nI (s_gn σ i)), .int (s_ro σ i)])) := hk3 _ _ hft (fun e => by rw [e, hxx] at hft; cases hft)
  have he3 : Et h3 e key v := hk3 _ _ hee (fun z => by have := hee; unfold Et at this; rw [z, hxx] at this; cases this)
  have hz3 : h3.1 = hh.1 := by rw [hh3]; rfl
  have hs3 : h3.2.1 = hh.2.1 := by rw [hh3]; rfl
  obtain ⟨_, hT3, hP3, hK3, -, -, hb3⟩ := hM3.2.1 i t hi ht
  rw [va_up_self, hks1] at hT3
  rw [va_up_self] at hP3
  rw [hks1] at hK3
  have he3' := he3
  unfold Et at he3'
  have hP := s_putIn (K := K) (d := d - 1) hT3 hP3 hK3 hr2 he3 hroom (nI (s_gn σ i)) (by omega) (by omega) (by omega)
  refine go_aload_n (pc' := 13) (i := 1) d_Tri_write_12 rfl rfl (by first | rfl | exact x_r_rf _) rfl ?_
  refine go_getfield (pc' := 16) d_Tri_write_13 c_Map 0 (by decide) t_59 (by first | assumption | exact x_up_self _ _ _ | exact x_nw_self _ _ _ | (rw [x_up_ne (by first | omega | (simp only [x_up, x_nw]; omega))]; first | assumption | exact x_up_self _ _ _ | (rw [x_up_ne (by first | omega | (simp only [x_up, x_nw]; omega))]; first | assumption | exact x_up_self _ _ _)) | (rw [x_nw_ne (by first | omega | (simp only [x_up, x_nw]; omega))]; first | assumption | exact x_up_self _ _ _ | (rw [x_up_ne (by first | omega | (simp only [x_up, x_nw]; omega))]; assumption))) (by rfl) rfl ?_
  refine go_aload_n (pc' := 17) (i := 2) d_Tri_write_16 rfl rfl (by first | rfl | exact x_r_rf _) rfl ?_
  refine go_aload_n (pc' := 18) (i := 1) d_Tri_write_17 rfl rfl (by first | rfl | exact x_r_rf _) rfl ?_
  refine go_getfield (pc' := 21) d_Tri_write_18 c_Map 1 (by decide) t_61 (by first | assumption | exact x_up_self _ _ _ | exact x_nw_self _ _ _ | (rw [x_up_ne (by first | omega | (simp only [x_up, x_nw]; omega))]; first | assumption | exact x_up_self _ _ _ | (rw [x_up_ne (by first | omega | (simp only [x_up, x_nw]; omega))]; first | assumption | exact x_up_self _ _ _)) | (rw [x_nw_ne (by first | omega | (simp only [x_up, x_nw]; omega))]; first | assumption | exact x_up_self _ _ _ | (rw [x_up_ne (by first | omega | (simp only [x_up, x_nw]; omega))]; assumption))) (by rfl) rfl ?_
  refine go_callS (pc' := 24) (M' := M_Tri_putIn) [_, _, _] d_Tri_write_21 t_303 t_304 t_1 cd_Tri_putIn nm_Tri_putIn rfl rfl (Nat.le_of_ble_eq_true rfl) rfl (hP) (by first | decide | omega) (Nat.le_of_ble_eq_true rfl) rfl (fun v h4 hq => ?_) (fun q g hq => hq.elim)
  obtain ⟨rfl, A4, bel4, ps4, hT4, hP4, hps4, p1, p2, p3, hF4, b3, b4⟩ := hq
  show Go K M_Tri_write d 24 _ [] h4 _
  refine go_return d_Tri_write_24 rfl ?_
  obtain ⟨hM5, hC5, hk5⟩ := CS.pi (key := key) (v := v) hdom3 hM3 hC3 (by rw [hlg1]; exact hlg) hi ht (fun l a ha => by
    rw [va_up_self] at ha
    rw [hbl1, hg1]
    have hx9 := (hT3.1 _ _).mp ⟨a, ha⟩
    exact q_bw_way _ _ _ _ (by omega) rfl hx9.2.2) (by rw [hks1]; exact hT4) hP4 hps4 (by rw [va_up_self]; exact p1) (by rw [va_up_self, hg1]; exact p2) (by rw [va_up_self]; exact hF4) (by rw [hks1]; exact hroom) (q_cc (s_ks σ i) (s_bl σ i) (s_gn σ i) key 5)
  rw [hks1, hbl1, hg1, hσ1, p_wr2] at hM5 hC5
  have hx4 : ∀ b c, h3.2.2 b = some c → (∀ z, c = .inl z → z.1 ≠ 3 ∧ z.1 ≠ 4) → h4.2.2 b = some c := fun b c hb hz => by
    rw [hF4.2.2 b (hdom3 _ _ hb) (fun ⟨l, a, ha, hs⟩ => ?_)]
    · exact hb
    · obtain ⟨n, es, k, ns, hN, -⟩ := hT3.nd ha
      rcases hs with hs | hs
      · rw [hs, hN.2.1] at hb
        exact (hz _ (Option.some.inj hb).symm).1 rfl
      · rw [hs, hN.2.2] at hb
        exact (hz _ (Option.some.inj hb).symm).2 rfl
  refine ⟨rfl, ⟨mp, cu, _, ps4, FA, fks, fbl, ⟨hx4 _ _ h3x nofun, hx4 _ _ (hk3 _ _ hx1 (by omega)) ?_, hx4 _ _ (hk3 _ _ hx2 (by omega)) ?_⟩, hM5, hC5, hlg⟩, (hk1.trans hc3).trans hk5, ?_, ?_, ?_, ?_⟩
  · intro z e; cases e; exact ⟨(by decide : (5 : Nat) ≠ 3), (by decide : (5 : Nat) ≠ 4)⟩
  · intro z e; cases e; exact ⟨(by decide : (6 : Nat) ≠ 3), (by decide : (6 : Nat) ≠ 4)⟩
  · have := hF4.1; have := hFr.1; omega
  · omega
  · have := hF4.2.1; have := hFr.2.1; omega
  · omega
end EC
