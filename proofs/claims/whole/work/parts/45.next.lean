/-! next -/
section EK
variable {K : x_K} {d : Nat} {h f hh : x_H} {x : Nat} {σ : Sg} {mp cu : Nat → Option Nat} {B FA : Nat → Nat → Nat → Option Nat} {ps : Nat → Nat × Nat} {fks : Nat → List KV} {fbl : Nat → Nat → Nat → Nat}
theorem Cr.ob {q far : Nat} {A : Nat → Nat → Option Nat} {ks : List KV} (hC : Cr h q A ks far) : ∃ L way pl, Cu h q L way pl := by
  rcases hC with ⟨L, way, pl, P, n, hC, hq⟩ | ⟨way, pl, hC, hf⟩
  · exact ⟨_, _, _, hC⟩
  · exact ⟨_, _, _, hC⟩
/-- a cell that isn't the iterator's stays -/
theorem Cu.at {q : Nat} {L : Int32} {way : Nat → Option Nat} {pl : Nat → Int32} (hC : Cu h q L way pl) (hag : ∀ b, b ≠ q → b ≠ q + 1 → b ≠ q + 2 → f.2.2 b = h.2.2 b) {b : Nat} {c : x_C} (hb : h.2.2 b = some c)
    (h0 : ∀ vs, c ≠ .inr (0, vs)) (h1 : ∀ z, c ≠ .inl (4, 5, z)) (h2 : ∀ z, c ≠ .inl (0, 5, z)) : f.2.2 b = some c := by
  rw [hag b (fun e => ?_) (fun e => ?_) (fun e => ?_)]
  · exact hb
  · rw [e, hC.1] at hb; exact h0 _ (Option.some.inj hb).symm
  · rw [e, hC.2.1] at hb; exact h1 _ (Option.some.inj hb).symm
  · rw [e, hC.2.2] at hb; exact h2 _ (Option.some.inj hb).symm
theorem Cu.off {q q' : Nat} {L L' : Int32} {way way' : Nat → Option Nat} {pl pl' : Nat → Int32} (hC : Cu h q L way pl) (hag : ∀ b, b ≠ q → b ≠ q + 1 → b ≠ q + 2 → f.2.2 b = h.2.2 b) (hne : q' ≠ q) (hC' : Cu h q' L' way' pl') : Cu f q' L' way' pl' := by
  obtain ⟨a0, a1, a2⟩ := hC
  obtain ⟨b0, b1, b2⟩ := hC'
  refine ⟨?_, ?_, ?_⟩
  · rw [hag q' hne (fun e => by rw [e, a1] at b0; cases b0) (fun e => by rw [e, a2] at b0; cases b0)]; exact b0
  · rw [hag (q' + 1) (fun e => by rw [e, a0] at b1; cases b1) (by omega) (fun e => by rw [e, a2] at b1; cases b1)]; exact b1
  · rw [hag (q' + 2) (fun e => by rw [e, a0] at b2; cases b2) (fun e => by rw [e, a1] at b2; cases b2) (by omega)]; exact b2
theorem Cr.off {q q' far : Nat} {L : Int32} {way : Nat → Option Nat} {pl : Nat → Int32} {A : Nat → Nat → Option Nat} {ks : List KV} (hC : Cu h q L way pl) (hag : ∀ b, b ≠ q → b ≠ q + 1 → b ≠ q + 2 → f.2.2 b = h.2.2 b) (hne : q' ≠ q) (hC' : Cr h q' A ks far) : Cr f q' A ks far := by
  rcases hC' with ⟨L', way', pl', P, n, hC', hq⟩ | ⟨way', pl', hC', hf⟩
  · exact Or.inl ⟨L', way', pl', P, n, hC.off hag hne hC', hq⟩
  · exact Or.inr ⟨way', pl', hC.off hag hne hC', hf⟩
/-- the iterator went on -/
theorem CS.nxt {n q : Nat} {L : Int32} {way : Nat → Option Nat} {pl : Nat → Int32} {y : KV} (hM : Cm h σ mp B ps) (hC : Cc h σ cu ps FA fks fbl) (hn : n < 4) (hq : cu n = some q) (hU : Cu h q L way pl) (hag : ∀ b, b ≠ q → b ≠ q + 1 → b ≠ q + 2 → f.2.2 b = h.2.2 b)
    (hlt : s_fa σ n < (fks n).length) (hcr : Cr f q (FA n) (fks n) (s_fa σ n + 1)) : Cm f (p_nxt σ n y) mp B ps ∧ Cc f (p_nxt σ n y) cu ps FA fks fbl := by
  obtain ⟨m1, m2, m3, m4⟩ := hM
  obtain ⟨c1, c2, c3⟩ := hC
  refine ⟨⟨m1, fun k u hk hu => ?_, m3, m4⟩, c1, fun c q' hc hq' => ?_, c3⟩
  · obtain ⟨⟨rk, hrk, hkc⟩, hTk, hr⟩ := m2 k u hk hu
    exact ⟨⟨rk, hrk, hU.at hag hkc nofun nofun nofun⟩, (hTk.off3 hU hag).1, hr⟩
  · obtain ⟨d1, d2, d3, d4, d5, d6, d7⟩ := c2 c q' hc hq'
    show Cr f q' (FA c) (fks c) (va_up (s_fa σ) n (s_fa σ n + 1) c) ∧ Tr f (FA c) (fks c) (nB (fbl c)) ∧ Ps ps (FA c) ∧ Ko (fks c) ∧ s_sn σ c = q_srt (fks c) ∧ va_up (s_fa σ) n (s_fa σ n + 1) c ≤ (fks c).length ∧ _
    by_cases hcn : c = n
    · subst hcn
      cases hq.symm.trans hq'
      rw [va_up_self]
      exact ⟨hcr, (d2.off3 hU hag).1, d3, d4, d5, by omega, d7⟩
    · rw [va_up_ne _ _ hcn]
      exact ⟨Cr.off hU hag (fun e => hcn (c3 c n q' hc hn hq' (by rw [e]; exact hq))) d1, (d2.off3 hU hag).1, d3, d4, d5, d6, d7⟩
/-- the iterator is gone -/
theorem CS.fin {n q : Nat} {L : Int32} {way : Nat → Option Nat} {pl : Nat → Int32} (hM : Cm h σ mp B ps) (hC : Cc h σ cu ps FA fks fbl) (hn : n < 4) (hq : cu n = some q) (hU : Cu h q L way pl) (hag : ∀ b, b ≠ q → b ≠ q + 1 → b ≠ q + 2 → f.2.2 b = h.2.2 b) :
    Cm f (p_end σ n) mp B ps ∧ Cc f (p_end σ n) (va_up cu n none) ps FA fks fbl := by
  obtain ⟨m1, m2, m3, m4⟩ := hM
  obtain ⟨c1, c2, c3⟩ := hC
  have mu : ∀ k u, va_up cu n none k = some u → k ≠ n ∧ cu k = some u := fun k u hu => by
    by_cases hki : k = n
    · rw [hki, va_up_self] at hu; cases hu
    · rw [va_up_ne _ _ hki] at hu; exact ⟨hki, hu⟩
  refine ⟨⟨m1, fun k u hk hu => ?_, m3, m4⟩, fun c hc => ?_, fun c q' hc hq' => ?_, fun c c' q hc hc' hq hq' => c3 c c' q hc hc' (mu _ _ hq).2 (mu _ _ hq').2⟩
  · obtain ⟨⟨rk, hrk, hkc⟩, hTk, hr⟩ := m2 k u hk hu
    exact ⟨⟨rk, hrk, hU.at hag hkc nofun nofun nofun⟩, (hTk.off3 hU hag).1, hr⟩
  · show (va_up cu n none c).isSome = va_up (s_us σ) n false c
    by_cases hcn : c = n
    · rw [hcn, va_up_self, va_up_self]; rfl
    · rw [va_up_ne _ _ hcn, va_up_ne _ _ hcn]; exact c1 c hc
  · obtain ⟨hcn, hq'⟩ := mu _ _ hq'
    obtain ⟨d1, d2, d3, d4, d5, d6, d7⟩ := c2 c q' hc hq'
    exact ⟨Cr.off hU hag (fun e => hcn (c3 c n q' hc hn hq' (by rw [e]; exact hq))) d1, (d2.off3 hU hag).1, d3, d4, d5, d6, d7⟩
theorem p_cur_some {i t : Nat} {m : Int32} (hth : ∀ i, i < 4 → (cu i).isSome = s_us σ i) (hi : i < 4) (hm : m = nI i) (ht : cu i = some t) : p_cur σ m = some i :=
  l_map (by omega) hi hm (by rw [← hth i hi, ht]; rfl)
theorem p_cur_none {m : Int32} (hth : ∀ i, i < 4 → (cu i).isSome = s_us σ i) (hno : ¬ ∃ i t, m = nI i ∧ i < 4 ∧ cu i = some t) : p_cur σ m = none :=
  l_map0 fun ⟨i, h1, h2, h3⟩ => by
    rw [← hth i h2] at h3
    obtain ⟨t, ht⟩ := Option.isSome_iff_exists.mp h3
    exact hno ⟨i, t, h1, h2, ht⟩
set_option maxRecDepth 100000 in
theorem s_next (hS : CS h x σ) (m : Int32) (hd : 10 ≤ d) (hc1 : h.1 + 40 ≤ x_cap K) (hc2 : h.2.1 + 200 ≤ x_cas K) :
    Go K M_Tri_next d 0 [some (.ref x), some (.int m), none] [] h (Qc h x σ (p_Next σ m)) := by
  refine go_dom fun hdom => ?_
  have hS' := hS
  obtain ⟨mp, cu, B, ps, FA, fks, fbl, hO, hM, hC, hlg⟩ := hS
  obtain ⟨h0, h1, h2⟩ := hO
  have kt : (¬ ∃ i t, m = nI i ∧ i < 4 ∧ cu i = some t) → Qc h x σ (p_Next σ m) (.inr (11, h.1)) (h.1 + 1, h.2.1 + 6, h.2.2) := fun hno => by
    unfold p_Next
    rw [p_cur_none hC.1 hno]
    exact Qc.thr hS' (fun b c hb => hb) (by simp) (by simp) (by simp) (by simp)
  refine go_aload_n (pc' := 1) (i := 0) d_Tri_next_0 rfl rfl (by first | rfl | exact x_r_rf _) rfl ?_
  refine go_iload_n (pc' := 2) (i := 1) d_Tri_next_1 rfl rfl rfl ?_
  refine go_callV (pc' := 5) (M' := M_Tri_existingCursor) (ci := 5) (r := (n_Tri, T_Tri, 5)) [_] d_Tri_next_2 t_427 t_429 sp_Tri_existingCursor cd_Tri_existingCursor nm_Tri_existingCursor rfl (by rfl) (by first | assumption | exact x_up_self _ _ _ | exact x_nw_self _ _ _ | (rw [x_up_ne (by first | omega | (simp only [x_up, x_nw]; omega))]; first | assumption | exact x_up_self _ _ _ | (rw [x_up_ne (by first | omega | (simp only [x_up, x_nw]; omega))]; first | assumption | exact x_up_self _ _ _)) | (rw [x_nw_ne (by first | omega | (simp only [x_up, x_nw]; omega))]; first | assumption | exact x_up_self _ _ _ | (rw [x_up_ne (by first | omega | (simp only [x_up, x_nw]; omega))]; assumption))) rfl (Nat.le_of_ble_eq_true rfl) rfl (s_existingCursor (d := d - 1) ⟨h0, h1, h2⟩ m (by omega) (by omega)) (by first | decide | omega) (Nat.le_of_ble_eq_true rfl) rfl (fun v hh hq => ?_) (fun q g hq => x_T.out rfl (by rw [hq.1, hq.2.1]; exact kt hq.2.2))
  obtain ⟨rfl, i, q, rfl, hi, hq, rfl⟩ := hq
  have hpm := p_cur_some (m := nI i) hC.1 hi rfl hq
  obtain ⟨d1, d2, d3, d4, d5, d6, d7⟩ := hC.2.1 i q hi hq
  obtain ⟨L, way, pl, hU⟩ := d1.ob
  have hU0 := hU.1
  show Go K M_Tri_next d 5 _ [_] h _
  refine go_callV (pc' := 8) (M' := M_Cur_advance) (ci := 0) (r := (n_Cur, T_Cur, 3)) [] d_Tri_next_5 t_431 t_432 t_433 cd_Cur_advance nm_Cur_advance rfl (by rfl) (by first | assumption | exact x_up_self _ _ _ | exact x_nw_self _ _ _ | (rw [x_up_ne (by first | omega | (simp only [x_up, x_nw]; omega))]; first | assumption | exact x_up_self _ _ _ | (rw [x_up_ne (by first | omega | (simp only [x_up, x_nw]; omega))]; first | assumption | exact x_up_self _ _ _)) | (rw [x_nw_ne (by first | omega | (simp only [x_up, x_nw]; omega))]; first | assumption | exact x_up_self _ _ _ | (rw [x_up_ne (by first | omega | (simp only [x_up, x_nw]; omega))]; assumption))) rfl (Nat.le_of_ble_eq_true rfl) rfl (s_advance (d := d - 1) d2 d4 d1 (by omega)) (by first | decide | omega) (Nat.le_of_ble_eq_true rfl) rfl (fun v hh hq => ?_) (fun q g hq => hq.elim)
  obtain ⟨z1, q1, hag, hq2⟩ := hq
  have x1 := hU.at hag h0 nofun nofun nofun
  have x2 := hU.at hag h1 nofun nofun nofun
  have x3 := hU.at hag h2 nofun nofun nofun
  have hkc : Kc h hh := fun b c hb hc => hU.at hag hb (fun vs e => by subst e; cases hc) (fun z e => by subst e; cases hc) (fun z e => by subst e; cases hc)
  rcases hq2 with ⟨hlt, e, y, rfl, hy, he, hcr⟩ | ⟨hfar, rfl, L', way', pl', hU'⟩
  · show Go K M_Tri_next d 8 _ [_] hh _
    have he' := he
    unfold Et at he'
    have hp : p_Next σ (nI i) = (p_nxt σ i y, .inl (some (.int y.1))) := by
      unfold p_Next
      rw [hpm]
      simp only [d5, hy]
    refine go_astore_n (pc' := 9) (i := 2) d_Tri_next_8 rfl (by decide) (by first | rfl | exact x_r_rf _) (x_s2 (by first | rfl | exact x_k_rf _)) rfl ?_
    refine go_aload_n (pc' := 10) (i := 2) d_Tri_next_9 rfl rfl (by first | rfl | exact x_r_rf _) rfl ?_
    refine go_ifnonnull_r (tgt := 28) d_Tri_next_10 (by decide) ?_
    refine go_aload_n (pc' := 29) (i := 0) d_Tri_next_28 rfl rfl (by first | rfl | exact x_r_rf _) rfl ?_
    refine go_aload_n (pc' := 30) (i := 2) d_Tri_next_29 rfl rfl (by first | rfl | exact x_r_rf _) rfl ?_
    refine go_getfield (pc' := 33) d_Tri_next_30 c_Ent 1 (by decide) t_279 (by first | assumption | exact x_up_self _ _ _ | exact x_nw_self _ _ _ | (rw [x_up_ne (by first | omega | (simp only [x_up, x_nw]; omega))]; first | assumption | exact x_up_self _ _ _ | (rw [x_up_ne (by first | omega | (simp only [x_up, x_nw]; omega))]; first | assumption | exact x_up_self _ _ _)) | (rw [x_nw_ne (by first | omega | (simp only [x_up, x_nw]; omega))]; first | assumption | exact x_up_self _ _ _ | (rw [x_up_ne (by first | omega | (simp only [x_up, x_nw]; omega))]; assumption))) (by rfl) rfl ?_
    refine go_putfield (pc' := 36) d_Tri_next_33 c_Tri 4 (by decide) rfl t_75 (by first | assumption | exact x_up_self _ _ _ | exact x_nw_self _ _ _ | (rw [x_up_ne (by first | omega | (simp only [x_up, x_nw]; omega))]; first | assumption | exact x_up_self _ _ _ | (rw [x_up_ne (by first | omega | (simp only [x_up, x_nw]; omega))]; first | assumption | exact x_up_self _ _ _)) | (rw [x_nw_ne (by first | omega | (simp only [x_up, x_nw]; omega))]; first | assumption | exact x_up_self _ _ _ | (rw [x_up_ne (by first | omega | (simp only [x_up, x_nw]; omega))]; assumption))) (by rfl) (by rfl) (by first | exact Nat.le_of_ble_eq_true rfl | simp) rfl ?_
    have hex : e ≠ x := fun z => by rw [z, x1] at he'; cases he'
    have hev := (x_up_ne (c := .inr (5, [.ref (x + 1), .ref (x + 2), .int (nI (s_lg σ)), .int (nI (s_lc σ)), .long y.2])) hex).trans he'
    refine go_aload_n (pc' := 37) (i := 2) d_Tri_next_36 rfl rfl (by first | rfl | exact x_r_rf _) rfl ?_
    refine go_getfield (pc' := 40) d_Tri_next_37 c_Ent 0 (by decide) t_277 (by first | assumption | exact x_up_self _ _ _ | exact x_nw_self _ _ _ | (rw [x_up_ne (by first | omega | (simp only [x_up, x_nw]; omega))]; first | assumption | exact x_up_self _ _ _ | (rw [x_up_ne (by first | omega | (simp only [x_up, x_nw]; omega))]; first | assumption | exact x_up_self _ _ _)) | (rw [x_nw_ne (by first | omega | (simp only [x_up, x_nw]; omega))]; first | assumption | exact x_up_self _ _ _ | (rw [x_up_ne (by first | omega | (simp only [x_up, x_nw]; omega))]; assumption))) (by rfl) rfl ?_
    refine go_ireturn d_Tri_next_40 rfl (by rfl) ?_
    rw [hp]
    obtain ⟨hM3, hC3⟩ := CS.nxt (y := y) hM hC hi hq hU hag hlt hcr
    have hk3 : ∀ b c, hh.2.2 b = some c → b ≠ x → (x_up hh x (.inr (5, [.ref (x + 1), .ref (x + 2), .int (nI (s_lg σ)), .int (nI (s_lc σ)), .long y.2]))).2.2 b = some c := fun b c hb hne => by rw [x_up_ne hne]; exact hb
    exact ⟨⟨mp, cu, B, ps, FA, fks, fbl, ⟨x_up_self _ _ _, hk3 _ _ x2 (by omega), hk3 _ _ x3 (by omega)⟩, hM3.kx x1 hk3, hC3.kx x1 hk3, hlg⟩, hkc.trans (Kc.kx x1 hk3), by show h.1 ≤ hh.1; omega, by show hh.1 ≤ _; omega, by show h.2.1 ≤ hh.2.1; omega, by show hh.2.1 ≤ _; omega, Nat.le_add_right _ _, rfl⟩
  · show Go K M_Tri_next d 8 _ [_] hh _
    have hp : p_Next σ (nI i) = (p_end σ i, .inr 14) := by
      unfold p_Next
      rw [hpm]
      have : (s_sn σ i)[s_fa σ i]? = none := by
        rw [d5, List.getElem?_eq_none_iff, q_srt_len]
        omega
      simp only [this]
    refine go_astore_n (pc' := 9) (i := 2) d_Tri_next_8 rfl (by decide) (by first | rfl | exact x_r_rf _) (x_s2 (by first | rfl | exact x_k_rf _)) rfl ?_
    refine go_aload_n (pc' := 10) (i := 2) d_Tri_next_9 rfl rfl (by first | rfl | exact x_r_rf _) rfl ?_
    refine go_ifnonnull_n (pc' := 13) d_Tri_next_10 rfl ?_
    refine go_aload_n (pc' := 14) (i := 0) d_Tri_next_13 rfl rfl (by first | rfl | exact x_r_rf _) rfl ?_
    refine go_getfield (pc' := 17) d_Tri_next_14 c_Tri 1 (by decide) t_72 (by first | assumption | exact x_up_self _ _ _ | exact x_nw_self _ _ _ | (rw [x_up_ne (by first | omega | (simp only [x_up, x_nw]; omega))]; first | assumption | exact x_up_self _ _ _ | (rw [x_up_ne (by first | omega | (simp only [x_up, x_nw]; omega))]; first | assumption | exact x_up_self _ _ _)) | (rw [x_nw_ne (by first | omega | (simp only [x_up, x_nw]; omega))]; first | assumption | exact x_up_self _ _ _ | (rw [x_up_ne (by first | omega | (simp only [x_up, x_nw]; omega))]; assumption))) (by rfl) rfl ?_
    refine go_iload_n (pc' := 18) (i := 1) d_Tri_next_17 rfl rfl rfl ?_
    refine go_null (pc' := 19) d_Tri_next_18 rfl ?_
    refine go_aastN' (pc' := 20) d_Tri_next_19 x3 (by rfl) (by omega) (by omega) rfl ?_
    rw [hp]
    obtain ⟨hM3, hC3⟩ := CS.fin hM hC hi hq hU hag
    obtain ⟨h4, hh4⟩ : ∃ h4, h4 = x_up hh (x + 2) (.inl (6, 4, .inr (.inr (.inr (.inr (va_up cu i none)))))) := ⟨_, rfl⟩
    rw [← hh4]
    have k4 : ∀ b c, hh.2.2 b = some c → b ≠ x + 2 → h4.2.2 b = some c := fun b c hb hne => by rw [hh4, x_up_ne hne]; exact hb
    have ks4 : Ks hh h4 := by rw [hh4]; exact Ks.up x3 rfl
    have z4 : h4.1 = h.1 := by rw [hh4]; exact z1
    have q4 : h4.2.1 = h.2.1 := by rw [hh4]; exact q1
    have hS4 : CS h4 x (p_end σ i) := by
      refine ⟨mp, va_up cu i none, B, ps, FA, fks, fbl, ⟨k4 _ _ x1 (by omega), k4 _ _ x2 (by omega), by rw [hh4]; exact x_up_self _ _ _⟩, ?_, ?_, hlg⟩
      · obtain ⟨m1, m2, m3, m4⟩ := hM3
        refine ⟨m1, fun k u hk hu => ?_, m3, m4⟩
        obtain ⟨⟨rk, hrk, hkc⟩, hTk, hr⟩ := m2 k u hk hu
        exact ⟨⟨rk, hrk, k4 _ _ hkc (fun e => by rw [e, x3] at hkc; cases hkc)⟩, hTk.kp ks4.kp, hr⟩
      · obtain ⟨c1, c2, c3⟩ := hC3
        refine ⟨c1, fun c q' hc hq' => ?_, c3⟩
        obtain ⟨e1, e2, e3⟩ := c2 c q' hc hq'
        exact ⟨e1.ks ks4, e2.kp ks4.kp, e3⟩
    have fin : ∀ a, Qc h x σ (p_end σ i, .inr 14) (.inr (14, a)) (h4.1 + 1, h4.2.1 + 6, h4.2.2) := fun a => ⟨hS4.grow (fun b c hb => hb), fun b c hb hc => (hkc.trans ks4.kc) b c hb hc, by simp; omega, by simp; omega, by simp; omega, by simp; omega, Nat.le_add_right _ _, a, rfl⟩
    exact go_throw (kx := 14) d_Tri_next_20 d_Tri_next_23 d_Tri_next_24 d_Tri_next_27 rfl (by decide +kernel) (by decide +kernel) rfl t_329 t_14 at_14 rfl (Nat.le_of_ble_eq_true rfl) (by first | assumption | omega | (simp only [x_up, x_nw]; omega)) (by first | assumption | omega | (simp only [x_up, x_nw]; omega)) (fin _)
end EK
