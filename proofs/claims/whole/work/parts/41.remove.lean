/-! remove, replace -/
section EF
variable {K : x_K} {d : Nat} {h f hh : x_H} {A A' : Nat → Nat → Option Nat} {bel' : Nat → Nat → Int32} {t a g x : Nat} {key : Int32} {v : Int64} {ps ps' : Nat → Nat × Nat} {σ : Sg} {mp cu : Nat → Option Nat} {B FA : Nat → Nat → Nat → Option Nat} {fks : Nat → List KV} {fbl : Nat → Nat → Nat → Nat} {i : Nat}
/-- the way is the map's own, and the copies are counted -/
def p_ow (σ : Sg) (i : Nat) (key : Int32) : Sg := p_wr σ i (s_ks σ i) (q_bw (s_ks σ i) (s_bl σ i) (s_gn σ i) key) (q_cc (s_ks σ i) (s_bl σ i) (s_gn σ i) key 5)
theorem CS.own3 (hdom : ∀ (a : Nat) (c : x_C), h.2.2 a = some c → a < h.1) (hO : Ob h x mp cu (nI (s_lg σ)) (nI (s_lc σ)) (s_vl σ)) (hM : Cm h σ mp B ps) (hC : Cc h σ cu ps FA fks fbl) (hlg : s_lg σ < 2 ^ 20) (hi : i < 6) (ht : mp i = some t) {root2 : Nat}
    (hOw : Ow h hh (B i) A' (s_ks σ i) (nB (s_bl σ i)) bel' ps ps' (nI (s_gn σ i)) key t 5) (hr : A' 0 0 = some root2) (hft : hh.2.2 t = some (.inr (4, [.ref root2, .int (nI (s_gn σ i)), .int (s_ro σ i)]))) :
    q_cn (B i) (nB (s_bl σ i)) (nI (s_gn σ i)) key 5 = q_cc (s_ks σ i) (s_bl σ i) (s_gn σ i) key 5 ∧ hh.2.2 x = some (.inr (5, [.ref (x + 1), .ref (x + 2), .int (nI (s_lg σ)), .int (nI (s_lc σ)), .long (s_vl σ)])) ∧
    ∀ h3 : x_H, h3 = x_up hh x (.inr (5, [.ref (x + 1), .ref (x + 2), .int (nI (s_lg σ)), .int (nI (q_cc (s_ks σ i) (s_bl σ i) (s_gn σ i) key 5)), .long (s_vl σ)])) →
      Ob h3 x mp cu (nI (s_lg σ)) (nI (q_cc (s_ks σ i) (s_bl σ i) (s_gn σ i) key 5)) (s_vl σ) ∧ Cm h3 (p_ow σ i key) mp (va_up B i A') ps' ∧ Cc h3 (p_ow σ i key) cu ps' FA fks fbl ∧ Kc h h3 ∧ h3.2.2 t = some (.inr (4, [.ref root2, .int (nI (s_gn σ i)), .int (s_ro σ i)])) ∧
      h3.1 = hh.1 ∧ h3.2.1 = hh.2.1 ∧ ∀ e k y, Et h e k y → Et h3 e k y := by
  obtain ⟨⟨root, hroot, htc⟩, hTi, hPi, hKi, hroi, hgi, hbi⟩ := hM.2.1 i t hi ht
  obtain ⟨h0, h1, h2⟩ := hO
  have hHt : Hi h t := ⟨_, _, htc, Or.inl rfl⟩
  have hFr := hOw.2.2.2.2.2.2
  have keep : ∀ b c, h.2.2 b = some c → b ≠ t → (∀ z, c = .inl z → z.1 ≠ 4) → hh.2.2 b = some c := fun b c hb hne hz => by
    rw [hFr.2.2 b (hdom _ _ hb) (fun hs => ?_)]
    · exact hb
    · rcases hs with hs | ⟨l, a, ha, -, hs⟩
      · exact hne hs
      · obtain ⟨n, es, k, ns, hN, -⟩ := hTi.nd ha
        rw [hs, hN.2.2] at hb
        exact hz _ (Option.some.inj hb).symm rfl
  have hxx := keep x _ h0 (fun e => by rw [e, htc] at h0; cases h0) nofun
  have hx1 := keep _ _ h1 (hHt.l h1) (fun z e => by cases e; exact (by decide : (5 : Nat) ≠ 4))
  have hx2 := keep _ _ h2 (hHt.l h2) (fun z e => by cases e; exact (by decide : (6 : Nat) ≠ 4))
  refine ⟨q_cn_cc hTi (fun l p a ha => by have := hbi l p a ha; omega) (by omega) 5 (by omega), hxx, fun h3 hh3 => ?_⟩
  obtain ⟨hM1, hC1, hk1⟩ := CS.ow hdom hM hC hlg hi ht hOw hr hft (q_cc (s_ks σ i) (s_bl σ i) (s_gn σ i) key 5)
  have hk3 : ∀ b c, hh.2.2 b = some c → b ≠ x → h3.2.2 b = some c := fun b c hb hne => by rw [hh3, x_up_ne hne]; exact hb
  refine ⟨⟨by rw [hh3]; exact x_up_self _ _ _, hk3 _ _ hx1 (by omega), hk3 _ _ hx2 (by omega)⟩, hM1.kx hxx hk3, hC1.kx hxx hk3, hk1.trans (Kc.kx hxx hk3), hk3 _ _ hft (fun e => by rw [e, hxx] at hft; cases hft), by rw [hh3]; rfl, by rw [hh3]; rfl, fun e k y he => ?_⟩
  unfold Et at he
  have he2 := keep _ _ he (hHt.r he (by decide)) nofun
  exact hk3 _ _ he2 (fun z => by rw [z, hxx] at he2; cases he2)
/-- after takeOut -/
theorem CS.to {x0 : KV} (hdom : ∀ (a : Nat) (c : x_C), h.2.2 a = some c → a < h.1) (hM : Cm h σ mp B ps) (hC : Cc h σ cu ps FA fks fbl) (hlg : s_lg σ < 2 ^ 20) (hi : i < 6) (ht : mp i = some t)
    (hway : ∀ l a, B i l (q_p l key) = some a → s_bl σ i l (q_p l key) = s_gn σ i) (hg : q_get (s_ks σ i) key = some x0)
    (hTn : ∀ m b, B i m (q_p m key) = some b → Tn f (q_dA (B i) (q_del (s_ks σ i) key)) (q_del (s_ks σ i) key) (nB (s_bl σ i)) m (q_p m key) b) (hF : Fo (fun z => ∃ m, 0 ≤ m ∧ B i m (q_p m key) = some z) h f) (lc : Nat) :
    Cm f (p_wr σ i (q_del (s_ks σ i) key) (s_bl σ i) lc) mp (va_up B i (q_dA (B i) (q_del (s_ks σ i) key))) ps ∧ Cc f (p_wr σ i (q_del (s_ks σ i) key) (s_bl σ i) lc) cu ps FA fks fbl ∧ Kc h f ∧ ∀ b c, h.2.2 b = some c → (∀ z, c = .inl z → z.1 ≠ 3 ∧ z.1 ≠ 4) → f.2.2 b = some c := by
  obtain ⟨⟨root, hroot, htc⟩, hTi, hPi, hKi, hroi, hgi, hbi⟩ := hM.2.1 i t hi ht
  have hHi : Hi h t := ⟨_, _, htc, Or.inl rfl⟩
  have kp : ∀ b c, h.2.2 b = some c → (∀ z, c = .inl z → z.1 ≠ 3 ∧ z.1 ≠ 4) → f.2.2 b = some c := fun b c hb hz => by
    refine hF.2 b c hb fun a ⟨m, _, ha⟩ => ?_
    obtain ⟨n, es, k, ns, hN, -⟩ := hTi.nd ha
    refine ⟨fun e => ?_, fun e => ?_⟩
    · rw [e, hN.2.1] at hb
      exact (hz _ (Option.some.inj hb).symm).1 rfl
    · rw [e, hN.2.2] at hb
      exact (hz _ (Option.some.inj hb).symm).2 rfl
  have hW : Wf t (fun a => ∃ l p, B i l p = some a ∧ s_bl σ i l p = s_gn σ i) h f := by
    refine ⟨fun b c hb hne hw => hF.2 b c hb fun a ⟨m, _, ha⟩ => hw a ⟨m, _, ha, hway m a ha⟩, fun a ⟨l, p, ha, hb⟩ => ?_⟩
    obtain ⟨n, es, k, ns, hN, hk, -⟩ := hTi.nd ha
    exact ⟨_, n, es, k, ns, hN, by omega⟩
  obtain ⟨hT', hP'⟩ := hTi.taken hPi hTn hF
  have hsub : ∀ l p a, q_dA (B i) (q_del (s_ks σ i) key) l p = some a → B i l p = some a := fun l p a ha => by
    unfold q_dA at ha
    split at ha
    · exact ha
    · cases ha
  have hwr := CS.wr hdom hM hC hlg hi ht hW (fun a ha => ha) hT' hP' (fun _ _ => rfl) hKi.del (fun l p a ha => Or.inl ⟨hsub l p a ha, rfl⟩) (by unfold q_dA; rw [if_pos (Or.inl rfl)]; exact hroot) (kp _ _ htc nofun) lc
  exact ⟨hwr.1, hwr.2, hW.kc hHi, kp⟩
def p_rem (σ : Sg) (i : Nat) (key : Int32) : Sg := p_wr σ i (q_del (s_ks σ i) key) (q_bw (s_ks σ i) (s_bl σ i) (s_gn σ i) key) (q_cc (s_ks σ i) (s_bl σ i) (s_gn σ i) key 5)
def p_Rem (σ : Sg) (m key : Int32) : Sg × (Option Value ⊕ Nat) := match p_map σ m with
  | none => (σ, .inr 11)
  | some i => if ¬ s_ro σ i = 0 then (σ, .inr 12) else match q_get (s_ks σ i) key with
    | none => (σ, .inr 14)
    | some y => (p_rem σ i key, .inl (some (.long y.2)))
set_option maxRecDepth 100000 in
theorem s_remove (hS : CS h x σ) (m key : Int32) (hd : 10 ≤ d) (hc1 : h.1 + 40 ≤ x_cap K) (hc2 : h.2.1 + 200 ≤ x_cas K) :
    Go K M_Tri_remove d 0 [some (.ref x), some (.int m), some (.int key), none, none] [] h (Qc h x σ (p_Rem σ m key)) := by
  refine go_dom fun hdom => ?_
  have hS' := hS
  obtain ⟨mp, cu, B, ps, FA, fks, fbl, hO, hM, hC, hlg⟩ := hS
  have h0 := hO.1
  have hW := s_writableMap (K := K) (d := d - 1) hO m (s_ro σ) (fun i t hi ht => by obtain ⟨⟨r, -, z⟩, -⟩ := hM.2.1 i t hi ht; exact ⟨r, _, z⟩) (by omega) (by omega) (by omega)
  have kt : ∀ q : Nat × Nat, ((q = (11, h.1) ∧ ¬ ∃ i t, m = nI i ∧ i < 6 ∧ mp i = some t) ∨ (q = (12, h.1) ∧ ∃ i t, m = nI i ∧ i < 6 ∧ mp i = some t ∧ ¬ s_ro σ i = 0)) → Qc h x σ (p_Rem σ m key) (.inr q) (h.1 + 1, h.2.1 + 6, h.2.2) := by
    intro q hq
    unfold p_Rem
    rcases hq with ⟨rfl, hno⟩ | ⟨rfl, i, t, e, hi, ht, hro⟩
    · rw [p_map_none hM.1 hno]
      exact Qc.thr hS' (fun b c hb => hb) (by simp) (by simp) (by simp) (by simp)
    · rw [p_map_some hM.1 hi e ht]
      simp only [if_pos hro]
      exact Qc.thr hS' (fun b c hb => hb) (by simp) (by simp) (by simp) (by simp)
  refine go_aload_n (pc' := 1) (i := 0) d_Tri_remove_0 rfl rfl (by first | rfl | exact x_r_rf _) rfl ?_
  refine go_iload_n (pc' := 2) (i := 1) d_Tri_remove_1 rfl rfl rfl ?_
  refine go_callV (pc' := 5) (M' := M_Tri_writableMap) (ci := 5) (r := (n_Tri, T_Tri, 5)) [_] d_Tri_remove_2 t_105 t_107 sp_Tri_writableMap cd_Tri_writableMap nm_Tri_writableMap rfl (by rfl) (by first | assumption | exact x_up_self _ _ _ | exact x_nw_self _ _ _ | (rw [x_up_ne (by first | omega | (simp only [x_up, x_nw]; omega))]; first | assumption | exact x_up_self _ _ _ | (rw [x_up_ne (by first | omega | (simp only [x_up, x_nw]; omega))]; first | assumption | exact x_up_self _ _ _)) | (rw [x_nw_ne (by first | omega | (simp only [x_up, x_nw]; omega))]; first | assumption | exact x_up_self _ _ _ | (rw [x_up_ne (by first | omega | (simp only [x_up, x_nw]; omega))]; assumption))) rfl (Nat.le_of_ble_eq_true rfl) rfl (hW) (by first | decide | omega) (Nat.le_of_ble_eq_true rfl) rfl (fun v hh hq => ?_) (fun q g hq => x_T.out rfl (by rw [hq.1]; exact kt q hq.2))
  obtain ⟨rfl, i, t, rfl, hi, ht, rfl, hro⟩ := hq
  obtain ⟨⟨root, hroot, htc⟩, hTi, hPi, hKi, hroi, hgi, hbi⟩ := hM.2.1 i t hi ht
  have hpm := p_map_some (m := nI i) hM.1 hi rfl ht
  show Go K M_Tri_remove d 5 _ [_] h _
  have kt2 : q_get (s_ks σ i) key = none → Qc h x σ (p_Rem σ (nI i) key) (.inr (14, h.1)) (h.1 + 1, h.2.1 + 6, h.2.2) := fun hno => by
    unfold p_Rem
    rw [hpm]
    simp only [hno, hro, not_true_eq_false, if_false]
    exact Qc.thr hS' (fun b c hb => hb) (by simp) (by simp) (by simp) (by simp)
  refine go_astore_n (pc' := 6) (i := 3) d_Tri_remove_5 rfl (by decide) (by first | rfl | exact x_r_rf _) (x_s3 (by first | rfl | exact x_k_rf _)) rfl ?_
  refine go_aload_n (pc' := 7) (i := 3) d_Tri_remove_6 rfl rfl (by first | rfl | exact x_r_rf _) rfl ?_
  refine go_iload_n (pc' := 8) (i := 2) d_Tri_remove_7 rfl rfl rfl ?_
  refine go_callS (pc' := 11) (M' := M_Tri_presentEntry) [_, _] d_Tri_remove_8 t_326 t_327 t_1 cd_Tri_presentEntry nm_Tri_presentEntry rfl rfl (Nat.le_of_ble_eq_true rfl) rfl (s_presentEntry (d := d - 1) hTi hKi hroot htc key (by omega) (by omega) (by omega)) (by first | decide | omega) (Nat.le_of_ble_eq_true rfl) rfl (fun v hh hq => ?_) (fun q g hq => x_T.out rfl (by rw [hq.1, hq.2.1]; exact kt2 hq.2.2))
  obtain ⟨rfl, e, y, rfl, hy, he⟩ := hq
  have he' := he
  unfold Et at he'
  show Go K M_Tri_remove d 11 _ [_] h _
  have hOwn := s_ownWay (K := K) (d := d - 1) hTi hPi hroot htc key (by omega) (by omega) (by omega)
  refine go_astore (pc' := 13) (i := 4) d_Tri_remove_11 (by decide) (by first | rfl | exact x_r_rf _) (x_s4 (by first | rfl | exact x_k_rf _)) rfl ?_
  refine go_aload_n (pc' := 14) (i := 0) d_Tri_remove_13 rfl rfl (by first | rfl | exact x_r_rf _) rfl ?_
  refine go_aload_n (pc' := 15) (i := 3) d_Tri_remove_14 rfl rfl (by first | rfl | exact x_r_rf _) rfl ?_
  refine go_iload_n (pc' := 16) (i := 2) d_Tri_remove_15 rfl rfl rfl ?_
  refine go_callS (pc' := 19) (M' := M_Tri_ownWay) [_, _] d_Tri_remove_16 t_289 t_290 t_1 cd_Tri_ownWay nm_Tri_ownWay rfl rfl (Nat.le_of_ble_eq_true rfl) rfl (hOwn) (by first | decide | omega) (Nat.le_of_ble_eq_true rfl) rfl (fun v hh hq => ?_) (fun q g hq => hq.elim)
  obtain ⟨A2, bel2, ps2, root2, rfl, hOw, hr2, hft, b1, b2⟩ := hq
  obtain ⟨hcc, hxx, h3s⟩ := CS.own3 hdom hO hM hC hlg hi ht hOw hr2 hft
  rw [hcc]
  show Go K M_Tri_remove d 19 _ [_, _] hh _
  refine go_putfield (pc' := 22) d_Tri_remove_19 c_Tri 3 (by decide) rfl t_74 (by first | assumption | exact x_up_self _ _ _ | exact x_nw_self _ _ _ | (rw [x_up_ne (by first | omega | (simp only [x_up, x_nw]; omega))]; first | assumption | exact x_up_self _ _ _ | (rw [x_up_ne (by first | omega | (simp only [x_up, x_nw]; omega))]; first | assumption | exact x_up_self _ _ _)) | (rw [x_nw_ne (by first | omega | (simp only [x_up, x_nw]; omega))]; first | assumption | exact x_up_self _ _ _ | (rw [x_up_ne (by first | omega | (simp only [x_up, x_nw]; omega))]; assumption))) (by rfl) (by rfl) (by first | exact Nat.le_of_ble_eq_true rfl | simp) rfl ?_
  show Go K M_Tri_remove d 22 _ [] (x_up hh x (.inr (5, [.ref (x + 1), .ref (x + 2), .int (nI (s_lg σ)), .int (nI (q_cc (s_ks σ i) (s_bl σ i) (s_gn σ i) key 5)), .long (s_vl σ)]))) _
  obtain ⟨h3, hh3⟩ : ∃ h3, h3 = x_up hh x (.inr (5, [.ref (x + 1), .ref (x + 2), .int (nI (s_lg σ)), .int (nI (q_cc (s_ks σ i) (s_bl σ i) (s_gn σ i) key 5)), .long (s_vl σ)])) := ⟨_, rfl⟩
  rw [← hh3]
  obtain ⟨hO3, hM3, hC3, hk3, ht3, hz3, hs3, hE3⟩ := h3s h3 hh3
  refine go_dom fun hdom3 => ?_
  have hks1 : s_ks (p_ow σ i key) i = s_ks σ i := p_wr_ks _ _ _
  have hbl1 : s_bl (p_ow σ i key) i = q_bw (s_ks σ i) (s_bl σ i) (s_gn σ i) key := p_wr_bl _ _ _
  obtain ⟨_, hT3, hP3, hK3, -, -, hb3⟩ := hM3.2.1 i t hi ht
  have hget : q_get (s_ks (p_ow σ i key) i) key = some y := by rw [hks1]; exact hy
  have hP := s_takeOut (K := K) (key := key) hT3 hP3 hK3 hget 4 0 root2 (by omega) (by rw [va_up_self, q_p_0]; exact hr2)
  have hrt : ∃ vr, h3.2.2 root2 = some (.inr (2, vr)) := by
    obtain ⟨_, _, _, _, hN, -⟩ := hT3.nd (l := 0) (p := 0) (by rw [va_up_self]; exact hr2)
    exact ⟨_, hN.1⟩
  refine go_aload_n (pc' := 23) (i := 3) d_Tri_remove_22 rfl rfl (by first | rfl | exact x_r_rf _) rfl ?_
  refine go_getfield (pc' := 26) d_Tri_remove_23 c_Map 0 (by decide) t_59 (by first | assumption | exact x_up_self _ _ _ | exact x_nw_self _ _ _ | (rw [x_up_ne (by first | omega | (simp only [x_up, x_nw]; omega))]; first | assumption | exact x_up_self _ _ _ | (rw [x_up_ne (by first | omega | (simp only [x_up, x_nw]; omega))]; first | assumption | exact x_up_self _ _ _)) | (rw [x_nw_ne (by first | omega | (simp only [x_up, x_nw]; omega))]; first | assumption | exact x_up_self _ _ _ | (rw [x_up_ne (by first | omega | (simp only [x_up, x_nw]; omega))]; assumption))) (by rfl) rfl ?_
  refine go_iconst (pc' := 27) (v := (nI 0)) d_Tri_remove_26 (by decide) rfl ?_
  refine go_iload_n (pc' := 28) (i := 2) d_Tri_remove_27 rfl rfl rfl ?_
  refine go_callS (pc' := 31) (M' := M_Tri_takeOut) [_, _, _] d_Tri_remove_28 t_351 t_352 t_1 cd_Tri_takeOut nm_Tri_takeOut rfl rfl (Nat.le_of_ble_eq_true rfl) rfl (hP) (by first | decide | omega) (Nat.le_of_ble_eq_true rfl) rfl (fun v h4 hq => ?_) (fun q g hq => hq.elim)
  obtain ⟨rfl, b3, b4, hTn, hF4⟩ := hq
  show Go K M_Tri_remove d 31 _ [] h4 _
  obtain ⟨hM5, hC5, hk5, kp5⟩ := CS.to (f := h4) (key := key) (x0 := y) hdom3 hM3 hC3 hlg hi ht (fun l a ha => by
    rw [hbl1]
    have hx9 := (hT3.1 _ _).mp ⟨a, ha⟩
    rw [hks1] at hx9
    exact q_bw_way _ _ _ _ (by omega) rfl hx9.2.2) hget (fun m b => hTn m b (by omega)) hF4 (q_cc (s_ks σ i) (s_bl σ i) (s_gn σ i) key 5)
  rw [hks1, hbl1, show p_ow σ i key = p_wr σ i _ _ _ from rfl, p_wr2] at hM5 hC5
  have he4 := kp5 _ _ (hE3 _ _ _ he) nofun
  refine go_aload (pc' := 33) (i := 4) d_Tri_remove_31 rfl (by first | rfl | exact x_r_rf _) rfl ?_
  refine go_getfield (pc' := 36) d_Tri_remove_33 c_Ent 1 (by decide) t_279 (by first | assumption | exact x_up_self _ _ _ | exact x_nw_self _ _ _ | (rw [x_up_ne (by first | omega | (simp only [x_up, x_nw]; omega))]; first | assumption | exact x_up_self _ _ _ | (rw [x_up_ne (by first | omega | (simp only [x_up, x_nw]; omega))]; first | assumption | exact x_up_self _ _ _)) | (rw [x_nw_ne (by first | omega | (simp only [x_up, x_nw]; omega))]; first | assumption | exact x_up_self _ _ _ | (rw [x_up_ne (by first | omega | (simp only [x_up, x_nw]; omega))]; assumption))) (by rfl) rfl ?_
  refine go_lreturn d_Tri_remove_36 rfl ?_
  unfold p_Rem
  rw [hpm]
  simp only [hy, hro, not_true_eq_false, if_false]
  have hFr := hOw.2.2.2.2.2.2
  refine ⟨⟨mp, cu, _, ps2, FA, fks, fbl, ⟨kp5 _ _ hO3.1 nofun, kp5 _ _ hO3.2.1 ?_, kp5 _ _ hO3.2.2 ?_⟩, hM5, hC5, hlg⟩, hk3.trans hk5, ?_, ?_, ?_, ?_, ?_, rfl⟩
  · intro z e; cases e; exact ⟨(by decide : (5 : Nat) ≠ 3), (by decide : (5 : Nat) ≠ 4)⟩
  · intro z e; cases e; exact ⟨(by decide : (6 : Nat) ≠ 3), (by decide : (6 : Nat) ≠ 4)⟩
  · have := hFr.1; omega
  · omega
  · have := hFr.2.1; omega
  · omega
  · show s_lg σ ≤ _; omega
end EF
theorem q_lc (a b : Int64) : lg_cmp a b = 0 ↔ a = b := by
  unfold lg_cmp
  by_cases h1 : a > b
  · rw [if_pos h1]
    exact ⟨nofun, fun e => by subst e; exact absurd h1 (Int64.lt_irrefl)⟩
  · rw [if_neg h1]
    by_cases h2 : a = b
    · rw [if_pos h2]; exact ⟨fun _ => h2, fun _ => rfl⟩
    · rw [if_neg h2]; exact ⟨nofun, fun e => absurd e h2⟩
def p_nc (σ : Sg) : Sg := (s_th σ, s_ro σ, s_gn σ, s_ks σ, s_bl σ, s_lg σ, 0, s_vl σ, s_us σ, s_sn σ, s_fa σ)
def p_Rep (σ : Sg) (m key : Int32) (old v : Int64) : Sg × (Option Value ⊕ Nat) := match p_map σ m with
  | none => (σ, .inr 11)
  | some i => if ¬ s_ro σ i = 0 then (σ, .inr 12) else match q_get (s_ks σ i) key with
    | none => (p_nc σ, .inl (some (.int 0)))
    | some y => if y.2 = old then (p_put σ i key v, .inl (some (.int 1))) else (p_nc σ, .inl (some (.int 0)))
section EG
variable {K : x_K} {d : Nat} {h f hh : x_H} {x : Nat} {σ : Sg}
set_option maxRecDepth 100000 in
theorem s_replace (hS : CS h x σ) (m key : Int32) (old v : Int64) (hd : 10 ≤ d) (hc1 : h.1 + 40 ≤ x_cap K) (hc2 : h.2.1 + 200 ≤ x_cas K) :
    Go K M_Tri_replace d 0 [some (.ref x), some (.int m), some (.int key), some (.long old), none, some (.long v), none, none, none] [] h (Qc h x σ (p_Rep σ m key old v)) := by
  refine go_dom fun hdom => ?_
  have hS' := hS
  obtain ⟨mp, cu, B, ps, FA, fks, fbl, hO, hM, hC, hlg⟩ := hS
  have h0 := hO.1
  have hW := s_writableMap (K := K) (d := d - 1) hO m (s_ro σ) (fun i t hi ht => by obtain ⟨⟨r, -, z⟩, -⟩ := hM.2.1 i t hi ht; exact ⟨r, _, z⟩) (by omega) (by omega) (by omega)
  have kt : ∀ q : Nat × Nat, ((q = (11, h.1) ∧ ¬ ∃ i t, m = nI i ∧ i < 6 ∧ mp i = some t) ∨ (q = (12, h.1) ∧ ∃ i t, m = nI i ∧ i < 6 ∧ mp i = some t ∧ ¬ s_ro σ i = 0)) → Qc h x σ (p_Rep σ m key old v) (.inr q) (h.1 + 1, h.2.1 + 6, h.2.2) := by
    intro q hq
    unfold p_Rep
    rcases hq with ⟨rfl, hno⟩ | ⟨rfl, i, t, e, hi, ht, hro⟩
    · rw [p_map_none hM.1 hno]
      exact Qc.thr hS' (fun b c hb => hb) (by simp) (by simp) (by simp) (by simp)
    · rw [p_map_some hM.1 hi e ht]
      simp only [if_pos hro]
      exact Qc.thr hS' (fun b c hb => hb) (by simp) (by simp) (by simp) (by simp)
  refine go_aload_n (pc' := 1) (i := 0) d_Tri_replace_0 rfl rfl (by first | rfl | exact x_r_rf _) rfl ?_
  refine go_iload_n (pc' := 2) (i := 1) d_Tri_replace_1 rfl rfl rfl ?_
  refine go_callV (pc' := 5) (M' := M_Tri_writableMap) (ci := 5) (r := (n_Tri, T_Tri, 5)) [_] d_Tri_replace_2 t_105 t_107 sp_Tri_writableMap cd_Tri_writableMap nm_Tri_writableMap rfl (by rfl) (by first | assumption | exact x_up_self _ _ _ | exact x_nw_self _ _ _ | (rw [x_up_ne (by first | omega | (simp only [x_up, x_nw]; omega))]; first | assumption | exact x_up_self _ _ _ | (rw [x_up_ne (by first | omega | (simp only [x_up, x_nw]; omega))]; first | assumption | exact x_up_self _ _ _)) | (rw [x_nw_ne (by first | omega | (simp only [x_up, x_nw]; omega))]; first | assumption | exact x_up_self _ _ _ | (rw [x_up_ne (by first | omega | (simp only [x_up, x_nw]; omega))]; assumption))) rfl (Nat.le_of_ble_eq_true rfl) rfl (hW) (by first | decide | omega) (Nat.le_of_ble_eq_true rfl) rfl (fun v hh hq => ?_) (fun q g hq => x_T.out rfl (by rw [hq.1]; exact kt q hq.2))
  obtain ⟨rfl, i, t, rfl, hi, ht, rfl, hro⟩ := hq
  obtain ⟨⟨root, hroot, htc⟩, hTi, hPi, hKi, hroi, hgi, hbi⟩ := hM.2.1 i t hi ht
  have hpm := p_map_some (m := nI i) hM.1 hi rfl ht
  show Go K M_Tri_replace d 5 _ [_] h _
  -- not the old value: copies become 0
  have no : ∀ w, x_k w = w → p_Rep σ (nI i) key old v = (p_nc σ, .inl (some (.int 0))) → Go K M_Tri_replace d 33 [some (.ref x), some (.int (nI i)), some (.int key), some (.long old), none, some (.long v), none, some (.ref t), w] [] h (Qc h x σ (p_Rep σ (nI i) key old v)) := by
    intro w hw hp
    refine go_aload_n (pc' := 34) (i := 0) d_Tri_replace_33 rfl rfl (by first | rfl | exact x_r_rf _) rfl ?_
    refine go_iconst (pc' := 35) (v := (nI 0)) d_Tri_replace_34 (by decide) rfl ?_
    refine go_putfield (pc' := 38) d_Tri_replace_35 c_Tri 3 (by decide) rfl t_74 (by first | assumption | exact x_up_self _ _ _ | exact x_nw_self _ _ _ | (rw [x_up_ne (by first | omega | (simp only [x_up, x_nw]; omega))]; first | assumption | exact x_up_self _ _ _ | (rw [x_up_ne (by first | omega | (simp only [x_up, x_nw]; omega))]; first | assumption | exact x_up_self _ _ _)) | (rw [x_nw_ne (by first | omega | (simp only [x_up, x_nw]; omega))]; first | assumption | exact x_up_self _ _ _ | (rw [x_up_ne (by first | omega | (simp only [x_up, x_nw]; omega))]; assumption))) (by rfl) (by rfl) (by first | exact Nat.le_of_ble_eq_true rfl | simp) rfl ?_
    refine go_iconst (pc' := 39) (v := (nI 0)) d_Tri_replace_38 (by decide) rfl ?_
    refine go_ireturn d_Tri_replace_39 rfl (by rfl) ?_
    rw [hp]
    have hk3 : ∀ b c, h.2.2 b = some c → b ≠ x → (x_up h x (.inr (5, [.ref (x + 1), .ref (x + 2), .int (nI (s_lg σ)), .int 0, .long (s_vl σ)]))).2.2 b = some c := fun b c hb hne => by rw [x_up_ne hne]; exact hb
    exact ⟨⟨mp, cu, B, ps, FA, fks, fbl, ⟨x_up_self _ _ _, hk3 _ _ hO.2.1 (by omega), hk3 _ _ hO.2.2 (by omega)⟩, hM.kx h0 hk3, hC.kx h0 hk3, hlg⟩, Kc.kx h0 hk3, Nat.le_refl _, Nat.le_add_right _ _, Nat.le_refl _, Nat.le_add_right _ _, Nat.le_add_right _ _, rfl⟩
  refine go_astore (pc' := 7) (i := 7) d_Tri_replace_5 (by decide) (by first | rfl | exact x_r_rf _) (x_s7 (by first | rfl | exact x_k_rf _)) rfl ?_
  refine go_aload (pc' := 9) (i := 7) d_Tri_replace_7 rfl (by first | rfl | exact x_r_rf _) rfl ?_
  refine go_getfield (pc' := 12) d_Tri_replace_9 c_Map 0 (by decide) t_59 (by first | assumption | exact x_up_self _ _ _ | exact x_nw_self _ _ _ | (rw [x_up_ne (by first | omega | (simp only [x_up, x_nw]; omega))]; first | assumption | exact x_up_self _ _ _ | (rw [x_up_ne (by first | omega | (simp only [x_up, x_nw]; omega))]; first | assumption | exact x_up_self _ _ _)) | (rw [x_nw_ne (by first | omega | (simp only [x_up, x_nw]; omega))]; first | assumption | exact x_up_self _ _ _ | (rw [x_up_ne (by first | omega | (simp only [x_up, x_nw]; omega))]; assumption))) (by rfl) rfl ?_
  refine go_iload_n (pc' := 13) (i := 2) d_Tri_replace_12 rfl rfl rfl ?_
  refine go_callS (pc' := 16) (M' := M_Tri_find) [_, _] d_Tri_replace_13 t_192 t_193 t_1 cd_Tri_find nm_Tri_find rfl rfl (Nat.le_of_ble_eq_true rfl) rfl (s_find (d := d - 1) hTi hKi hroot key (by omega)) (by first | decide | omega) (Nat.le_of_ble_eq_true rfl) rfl (fun v hh hq => ?_) (fun q g hq => hq.elim)
  obtain ⟨rfl, o, rfl, ho⟩ := hq
  show Go K M_Tri_replace d 16 _ [_] h _
  cases o with
  | none =>
    have hg : q_get (s_ks σ i) key = none := by
      cases hq : q_get (s_ks σ i) key with
      | none => rfl
      | some y => rw [hq] at ho; exact ho.elim
    refine go_astore (pc' := 18) (i := 8) d_Tri_replace_16 (by decide) (by first | rfl | exact x_r_rf _) (x_s8 (by first | rfl | exact x_k_rf _)) rfl ?_
    refine go_aload (pc' := 20) (i := 8) d_Tri_replace_18 rfl (by first | rfl | exact x_r_rf _) rfl ?_
    refine go_ifnull_n (tgt := 33) d_Tri_replace_20 (by decide) ?_
    refine no _ rfl ?_
    unfold p_Rep
    rw [hpm]
    simp only [hro, hg, not_true_eq_false, if_false]
  | some e =>
    obtain ⟨y, hg⟩ : ∃ y, q_get (s_ks σ i) key = some y := by
      cases hq : q_get (s_ks σ i) key with
      | none => rw [hq] at ho; exact ho.elim
      | some y => exact ⟨y, rfl⟩
    rw [hg] at ho
    have he : h.2.2 e = some (.inr (1, [.int y.1, .long y.2])) := ho
    refine go_astore (pc' := 18) (i := 8) d_Tri_replace_16 (by decide) (by first | rfl | exact x_r_rf _) (x_s8 (by first | rfl | exact x_k_rf _)) rfl ?_
    refine go_aload (pc' := 20) (i := 8) d_Tri_replace_18 rfl (by first | rfl | exact x_r_rf _) rfl ?_
    refine go_ifnull_r (pc' := 23) d_Tri_replace_20 rfl ?_
    refine go_aload (pc' := 25) (i := 8) d_Tri_replace_23 rfl (by first | rfl | exact x_r_rf _) rfl ?_
    refine go_getfield (pc' := 28) d_Tri_replace_25 c_Ent 1 (by decide) t_279 (by first | assumption | exact x_up_self _ _ _ | exact x_nw_self _ _ _ | (rw [x_up_ne (by first | omega | (simp only [x_up, x_nw]; omega))]; first | assumption | exact x_up_self _ _ _ | (rw [x_up_ne (by first | omega | (simp only [x_up, x_nw]; omega))]; first | assumption | exact x_up_self _ _ _)) | (rw [x_nw_ne (by first | omega | (simp only [x_up, x_nw]; omega))]; first | assumption | exact x_up_self _ _ _ | (rw [x_up_ne (by first | omega | (simp only [x_up, x_nw]; omega))]; assumption))) (by rfl) rfl ?_
    refine go_lload_n (pc' := 29) (i := 3) d_Tri_replace_28 rfl rfl rfl ?_
    refine go_lcmp (pc' := 30) d_Tri_replace_29 rfl ?_
    refine go_if_eq (tgt := 40) (pc' := 33) d_Tri_replace_30 (by decide) rfl (fun hc => ?_) (fun hc => ?_)
    · rw [q_lc] at hc
      have hp : p_Rep σ (nI i) key old v = (p_put σ i key v, .inl (some (.int 1))) := by
        unfold p_Rep
        rw [hpm]
        simp only [hro, hg, not_true_eq_false, if_false, if_pos hc]
      refine go_aload_n (pc' := 41) (i := 0) d_Tri_replace_40 rfl rfl (by first | rfl | exact x_r_rf _) rfl ?_
      refine go_aload (pc' := 43) (i := 7) d_Tri_replace_41 rfl (by first | rfl | exact x_r_rf _) rfl ?_
      refine go_new (pc' := 46) (fs := [.int 0, .long 0]) d_Tri_replace_43 c_Ent t_269 t_270 t_13 (by decide +kernel) (by first | assumption | omega | (simp only [x_up, x_nw]; omega)) (by first | assumption | omega | (simp only [x_up, x_nw]; omega)) rfl ?_
      refine go_dup (pc' := 47) d_Tri_replace_46 (by first | rfl | exact x_c_rf _) rfl ?_
      refine go_iload_n (pc' := 48) (i := 2) d_Tri_replace_47 rfl rfl rfl ?_
      refine go_lload (pc' := 50) (i := 5) d_Tri_replace_48 rfl rfl ?_
      refine go_callI (pc' := 53) (M' := M_Ent_init) [_, _] d_Tri_replace_50 rfl rfl t_271 t_272 t_273 rfl nm_Ent_init rfl rfl (Nat.le_of_ble_eq_true rfl) rfl (s_Ent_init (d := d - 1) (x_nw_self _ _ _) key v) (by first | decide | omega) (Nat.le_of_ble_eq_true rfl) rfl (fun v hh hq => ?_) (fun q g hq => by cases hq.1)
      obtain ⟨e1, hg1⟩ := hq
      cases e1
      have hgk : ∀ b c, h.2.2 b = some c → hh.2.2 b = some c := fun b c hb => by
        have := hdom _ _ hb
        rw [← hg1, x_up_ne (by omega), x_nw_ne (by omega)]
        exact hb
      have hgn : hh.1 = h.1 + 1 := by rw [← hg1]; rfl
      have hgs : hh.2.1 = h.2.1 + 2 := by rw [← hg1]; rfl
      have hge : Et hh h.1 key v := by
        unfold Et
        rw [← hg1]
        exact x_up_self _ _ _
      have hgx := hgk _ _ h0
      show Go K M_Tri_replace d 53 _ [_, _, _] hh _
      have hWr := s_write (K := K) (d := d - 1) (h := hh) (e := h.1) (key := key) (v := v) ⟨hgk _ _ hO.1, hgk _ _ hO.2.1, hgk _ _ hO.2.2⟩ (hM.kx h0 (fun b c hb _ => hgk b c hb)) (hC.kx h0 (fun b c hb _ => hgk b c hb)) hlg hi ht hge (Or.inl (by rw [hg]; rfl)) (by omega) (by omega) (by omega)
      refine go_callV (pc' := 56) (M' := M_Tri_write) (ci := 5) (r := (n_Tri, T_Tri, 5)) [_, _] d_Tri_replace_53 t_285 t_287 sp_Tri_write cd_Tri_write nm_Tri_write rfl (by rfl) (by first | assumption | exact x_up_self _ _ _ | exact x_nw_self _ _ _ | (rw [x_up_ne (by first | omega | (simp only [x_up, x_nw]; omega))]; first | assumption | exact x_up_self _ _ _ | (rw [x_up_ne (by first | omega | (simp only [x_up, x_nw]; omega))]; first | assumption | exact x_up_self _ _ _)) | (rw [x_nw_ne (by first | omega | (simp only [x_up, x_nw]; omega))]; first | assumption | exact x_up_self _ _ _ | (rw [x_up_ne (by first | omega | (simp only [x_up, x_nw]; omega))]; assumption))) rfl (Nat.le_of_ble_eq_true rfl) rfl (hWr) (by first | decide | omega) (Nat.le_of_ble_eq_true rfl) rfl (fun v h5 hq => ?_) (fun q g hq => hq.elim)
      obtain ⟨rfl, w1, w2, w3, w4, w5, w6⟩ := hq
      show Go K M_Tri_replace d 56 _ [] h5 _
      refine go_iconst (pc' := 57) (v := (nI 1)) d_Tri_replace_56 (by decide) rfl ?_
      refine go_ireturn d_Tri_replace_57 rfl (by rfl) ?_
      rw [hp]
      exact ⟨w1, fun b c hb hc => w2 b c (hgk _ _ hb) hc, by omega, by omega, by omega, by omega, by show s_lg σ ≤ _; omega, rfl⟩
    · rw [q_lc] at hc
      refine no _ rfl ?_
      unfold p_Rep
      rw [hpm]
      simp only [hro, hg, not_true_eq_false, if_false, if_neg hc]
end EG
