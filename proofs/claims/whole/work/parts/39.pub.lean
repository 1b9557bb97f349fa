/-! the public methods: what each answers, and the state after it -/
def p_map (σ : Sg) (m : Int32) : Option Nat := (List.range 6).find? (fun i => m == nI i && s_th σ i)
def p_cur (σ : Sg) (m : Int32) : Option Nat := (List.range 4).find? (fun i => m == nI i && s_us σ i)
theorem l_map {n : Nat} {m : Int32} {T : Nat → Bool} {i : Nat} (hn : n ≤ 6) (hi : i < n) (hm : m = nI i) (ht : T i = true) : (List.range n).find? (fun i => m == nI i && T i) = some i := by
  rw [List.find?_range_eq_some]
  refine ⟨by simp [hm, ht], by simpa using hi, fun j hj => ?_⟩
  have : nI i ≠ nI j := fun e => by rw [nI_eq (by omega) (by omega)] at e; omega
  simp [hm, this]
theorem l_map0 {n : Nat} {m : Int32} {T : Nat → Bool} (hno : ¬ ∃ i, m = nI i ∧ i < n ∧ T i = true) : (List.range n).find? (fun i => m == nI i && T i) = none := by
  rw [List.find?_eq_none]
  intro i hi hc
  simp only [List.mem_range] at hi
  simp only [Bool.and_eq_true, beq_iff_eq] at hc
  exact hno ⟨i, hc.1, hi, hc.2⟩
def Qc (h : x_H) (x : Nat) (σ : Sg) (r : Sg × (Option Value ⊕ Nat)) : x_O → x_H → Prop := fun o f => CS f x r.1 ∧ Kc h f ∧ h.1 ≤ f.1 ∧ f.1 ≤ h.1 + 40 ∧ h.2.1 ≤ f.2.1 ∧ f.2.1 ≤ h.2.1 + 200 ∧ s_lg r.1 ≤ s_lg σ + 2 ∧
  (match r.2 with
    | .inl v => o = .inl v
    | .inr k => ∃ a, o = .inr (k, a))
def p_Put (σ : Sg) (m key : Int32) (v : Int64) : Sg × (Option Value ⊕ Nat) := match p_map σ m with
  | none => (σ, .inr 11)
  | some i => if ¬ s_ro σ i = 0 then (σ, .inr 12) else if (q_get (s_ks σ i) key).isSome then (p_put σ i key v, .inl (some (.int 0))) else if (s_ks σ i).length < 60 ∧ (q_f (s_ks σ i) 4 (q_p 4 key)).length < 6 then (p_put σ i key v, .inl (some (.int 1))) else (σ, .inr 13)
section ED
variable {K : x_K} {d : Nat} {h f g : x_H} {x : Nat} {σ : Sg}
theorem CS.grow (hS : CS h x σ) (hk : ∀ b c, h.2.2 b = some c → f.2.2 b = some c) : CS f x σ := by
  obtain ⟨mp, cu, A, ps, FA, fks, fbl, hO, hM, hC, hl⟩ := hS
  exact ⟨mp, cu, A, ps, FA, fks, fbl, ⟨hk _ _ hO.1, hk _ _ hO.2.1, hk _ _ hO.2.2⟩, hM.kx hO.1 (fun b c hb _ => hk b c hb), hC.kx hO.1 (fun b c hb _ => hk b c hb), hl⟩
/-- a throw leaves the state -/
theorem Qc.thr (hS : CS h x σ) {k a : Nat} (hk : ∀ b c, h.2.2 b = some c → f.2.2 b = some c) (h1 : h.1 ≤ f.1) (h2 : f.1 ≤ h.1 + 40) (h3 : h.2.1 ≤ f.2.1) (h4 : f.2.1 ≤ h.2.1 + 200) : Qc h x σ (σ, .inr k) (.inr (k, a)) f :=
  ⟨hS.grow hk, fun b c hb _ => hk b c hb, h1, h2, h3, h4, by simp, a, rfl⟩
theorem p_map_some {mp : Nat → Option Nat} {i t : Nat} {m : Int32} (hth : ∀ i, i < 6 → (mp i).isSome = s_th σ i) (hi : i < 6) (hm : m = nI i) (ht : mp i = some t) : p_map σ m = some i :=
  l_map (by omega) hi hm (by rw [← hth i hi, ht]; rfl)
theorem p_map_none {mp : Nat → Option Nat} {m : Int32} (hth : ∀ i, i < 6 → (mp i).isSome = s_th σ i) (hno : ¬ ∃ i t, m = nI i ∧ i < 6 ∧ mp i = some t) : p_map σ m = none :=
  l_map0 fun ⟨i, h1, h2, h3⟩ => by
    rw [← hth i h2] at h3
    obtain ⟨t, ht⟩ := Option.isSome_iff_exists.mp h3
    exact hno ⟨i, t, h1, h2, ht⟩
set_option maxRecDepth 100000 in
theorem s_put (hS : CS h x σ) (m key : Int32) (v : Int64) (hd : 10 ≤ d) (hc1 : h.1 + 40 ≤ x_cap K) (hc2 : h.2.1 + 200 ≤ x_cas K) :
    Go K M_Tri_put d 0 [some (.ref x), some (.int m), some (.int key), some (.long v), none, none, none] [] h (Qc h x σ (p_Put σ m key v)) := by
  refine go_dom fun hdom => ?_
  have hS' := hS
  obtain ⟨mp, cu, B, ps, FA, fks, fbl, hO, hM, hC, hlg⟩ := hS
  have h0 := hO.1
  have hW := s_writableMap (K := K) (d := d - 1) hO m (s_ro σ) (fun i t hi ht => by obtain ⟨⟨r, -, z⟩, -⟩ := hM.2.1 i t hi ht; exact ⟨r, _, z⟩) (by omega) (by omega) (by omega)
  have kt : ∀ q : Nat × Nat, ((q = (11, h.1) ∧ ¬ ∃ i t, m = nI i ∧ i < 6 ∧ mp i = some t) ∨ (q = (12, h.1) ∧ ∃ i t, m = nI i ∧ i < 6 ∧ mp i = some t ∧ ¬ s_ro σ i = 0)) → Qc h x σ (p_Put σ m key v) (.inr q) (h.1 + 1, h.2.1 + 6, h.2.2) := by
    intro q hq
    unfold p_Put
    rcases hq with ⟨rfl, hno⟩ | ⟨rfl, i, t, e, hi, ht, hro⟩
    · rw [p_map_none hM.1 hno]
      exact Qc.thr hS' (fun b c hb => hb) (by simp) (by simp) (by simp) (by simp)
    · rw [p_map_some hM.1 hi e ht]
      simp only [if_pos hro]
      exact Qc.thr hS' (fun b c hb => hb) (by simp) (by simp) (by simp) (by simp)
  refine go_aload_n (pc' := 1) (i := 0) d_Tri_put_0 rfl rfl (by first | rfl | exact x_r_rf _) rfl ?_
  refine go_iload_n (pc' := 2) (i := 1) d_Tri_put_1 rfl rfl rfl ?_
  refine go_callV (pc' := 5) (M' := M_Tri_writableMap) (ci := 5) (r := (n_Tri, T_Tri, 5)) [_] d_Tri_put_2 t_105 t_107 sp_Tri_writableMap cd_Tri_writableMap nm_Tri_writableMap rfl (by rfl) (by first | assumption | exact x_up_self _ _ _ | exact x_nw_self _ _ _ | (rw [x_up_ne (by first | omega | (simp only [x_up, x_nw]; omega))]; first | assumption | exact x_up_self _ _ _ | (rw [x_up_ne (by first | omega | (simp only [x_up, x_nw]; omega))]; first | assumption | exact x_up_self _ _ _)) | (rw [x_nw_ne (by first | omega | (simp only [x_up, x_nw]; omega))]; first | assumption | exact x_up_self _ _ _ | (rw [x_up_ne (by first | omega | (simp only [x_up, x_nw]; omega))]; assumption))) rfl (Nat.le_of_ble_eq_true rfl) rfl (hW) (by first | decide | omega) (Nat.le_of_ble_eq_true rfl) rfl (fun v hh hq => ?_) (fun q g hq => x_T.out rfl (by rw [hq.1]; exact kt q hq.2))
  obtain ⟨rfl, i, t, rfl, hi, ht, rfl, hro⟩ := hq
  obtain ⟨⟨root, hroot, htc⟩, hTi, hPi, hKi, hroi, hgi, hbi⟩ := hM.2.1 i t hi ht
  have hpm := p_map_some (m := nI i) hM.1 hi rfl ht
  show Go K M_Tri_put d 5 _ [_] h _
  -- the write, from pc 51 on
  have wr : ∀ (g : x_H) (b : Int32), narrow .boolean (.int b) = .int b → (∀ b c, h.2.2 b = some c → g.2.2 b = some c) → h.1 ≤ g.1 → g.1 ≤ h.1 + 1 → h.2.1 ≤ g.2.1 → g.2.1 ≤ h.2.1 + 6 → ((q_get (s_ks σ i) key).isSome = true ∨ ((s_ks σ i).length < 60 ∧ (q_f (s_ks σ i) 4 (q_p 4 key)).length < 6)) → p_Put σ (nI i) key v = (p_put σ i key v, .inl (some (.int b))) →
      Go K M_Tri_put d 51 [some (.ref x), some (.int (nI i)), some (.int key), some (.long v), none, some (.ref t), some (.int b)] [] g (Qc h x σ (p_Put σ (nI i) key v)) := by
    intro g b hnb hk g1 g2 g3 g4 hroom hp
    refine go_dom fun hdomg => ?_
    have gO : Ob g x mp cu (nI (s_lg σ)) (nI (s_lc σ)) (s_vl σ) := ⟨hk _ _ hO.1, hk _ _ hO.2.1, hk _ _ hO.2.2⟩
    have gx := gO.1
    have gt := hk _ _ htc
    refine go_aload_n (pc' := 52) (i := 0) d_Tri_put_51 rfl rfl (by first | rfl | exact x_r_rf _) rfl ?_
    refine go_aload (pc' := 54) (i := 5) d_Tri_put_52 rfl (by first | rfl | exact x_r_rf _) rfl ?_
    refine go_new (pc' := 57) (fs := [.int 0, .long 0]) d_Tri_put_54 c_Ent t_269 t_270 t_13 (by decide +kernel) (by first | assumption | omega | (simp only [x_up, x_nw]; omega)) (by first | assumption | omega | (simp only [x_up, x_nw]; omega)) rfl ?_
    refine go_dup (pc' := 58) d_Tri_put_57 (by first | rfl | exact x_c_rf _) rfl ?_
    refine go_iload_n (pc' := 59) (i := 2) d_Tri_put_58 rfl rfl rfl ?_
    refine go_lload_n (pc' := 60) (i := 3) d_Tri_put_59 rfl rfl rfl ?_
    refine go_callI (pc' := 63) (M' := M_Ent_init) [_, _] d_Tri_put_60 rfl rfl t_271 t_272 t_273 rfl nm_Ent_init rfl rfl (Nat.le_of_ble_eq_true rfl) rfl (s_Ent_init (d := d - 1) (x_nw_self _ _ _) key v) (by first | decide | omega) (Nat.le_of_ble_eq_true rfl) rfl (fun v hh hq => ?_) (fun q g hq => by cases hq.1)
    obtain ⟨e1, hg⟩ := hq
    cases e1
    have hgk : ∀ b c, g.2.2 b = some c → hh.2.2 b = some c := fun b c hb => by
      have := hdomg _ _ hb
      rw [← hg, x_up_ne (by omega), x_nw_ne (by omega)]
      exact hb
    have hgn : hh.1 = g.1 + 1 := by rw [← hg]; rfl
    have hgs : hh.2.1 = g.2.1 + 2 := by rw [← hg]; rfl
    have hge : Et hh g.1 key v := by
      unfold Et
      rw [← hg]
      exact x_up_self _ _ _
    have hgx := hgk _ _ gx
    show Go K M_Tri_put d 63 _ [_, _, _] hh _
    have hWr := s_write (K := K) (d := d - 1) (h := hh) (e := g.1) (key := key) (v := v) ⟨hgk _ _ gO.1, hgk _ _ gO.2.1, hgk _ _ gO.2.2⟩ (hM.kx h0 (fun b c hb _ => hgk _ _ (hk b c hb))) (hC.kx h0 (fun b c hb _ => hgk _ _ (hk b c hb))) hlg hi ht hge hroom (by omega) (by omega) (by omega)
    refine go_callV (pc' := 66) (M' := M_Tri_write) (ci := 5) (r := (n_Tri, T_Tri, 5)) [_, _] d_Tri_put_63 t_285 t_287 sp_Tri_write cd_Tri_write nm_Tri_write rfl (by rfl) (by first | assumption | exact x_up_self _ _ _ | exact x_nw_self _ _ _ | (rw [x_up_ne (by first | omega | (simp only [x_up, x_nw]; omega))]; first | assumption | exact x_up_self _ _ _ | (rw [x_up_ne (by first | omega | (simp only [x_up, x_nw]; omega))]; first | assumption | exact x_up_self _ _ _)) | (rw [x_nw_ne (by first | omega | (simp only [x_up, x_nw]; omega))]; first | assumption | exact x_up_self _ _ _ | (rw [x_up_ne (by first | omega | (simp only [x_up, x_nw]; omega))]; assumption))) rfl (Nat.le_of_ble_eq_true rfl) rfl (hWr) (by first | decide | omega) (Nat.le_of_ble_eq_true rfl) rfl (fun v h5 hq => ?_) (fun q g hq => hq.elim)
    obtain ⟨rfl, w1, w2, w3, w4, w5, w6⟩ := hq
    show Go K M_Tri_put d 66 _ [] h5 _
    refine go_iload (pc' := 68) (i := 6) d_Tri_put_66 rfl rfl ?_
    refine go_ireturn d_Tri_put_68 rfl hnb ?_
    rw [hp]
    exact ⟨w1, fun b c hb hc => w2 b c (hgk _ _ (hk _ _ hb)) hc, by omega, by omega, by omega, by omega, by show s_lg σ ≤ _; omega, rfl⟩
  refine go_astore (pc' := 7) (i := 5) d_Tri_put_5 (by decide) (by first | rfl | exact x_r_rf _) (x_s5 (by first | rfl | exact x_k_rf _)) rfl ?_
  refine go_aload (pc' := 9) (i := 5) d_Tri_put_7 rfl (by first | rfl | exact x_r_rf _) rfl ?_
  refine go_getfield (pc' := 12) d_Tri_put_9 c_Map 0 (by decide) t_59 (by first | assumption | exact x_up_self _ _ _ | exact x_nw_self _ _ _ | (rw [x_up_ne (by first | omega | (simp only [x_up, x_nw]; omega))]; first | assumption | exact x_up_self _ _ _ | (rw [x_up_ne (by first | omega | (simp only [x_up, x_nw]; omega))]; first | assumption | exact x_up_self _ _ _)) | (rw [x_nw_ne (by first | omega | (simp only [x_up, x_nw]; omega))]; first | assumption | exact x_up_self _ _ _ | (rw [x_up_ne (by first | omega | (simp only [x_up, x_nw]; omega))]; assumption))) (by rfl) rfl ?_
  refine go_iload_n (pc' := 13) (i := 2) d_Tri_put_12 rfl rfl rfl ?_
  refine go_callS (pc' := 16) (M' := M_Tri_find) [_, _] d_Tri_put_13 t_192 t_193 t_1 cd_Tri_find nm_Tri_find rfl rfl (Nat.le_of_ble_eq_true rfl) rfl (s_find (d := d - 1) hTi hKi hroot key (by omega)) (by first | decide | omega) (Nat.le_of_ble_eq_true rfl) rfl (fun v hh hq => ?_) (fun q g hq => hq.elim)
  obtain ⟨rfl, o, rfl, ho⟩ := hq
  show Go K M_Tri_put d 16 _ [_] h _
  cases o with
  | some e =>
    have hg : (q_get (s_ks σ i) key).isSome = true := by
      cases hq : q_get (s_ks σ i) key with
      | none => rw [hq] at ho; exact ho.elim
      | some y => rfl
    refine go_ifnonnull_r (tgt := 23) d_Tri_put_16 (by decide) ?_
    refine go_iconst (pc' := 24) (v := (nI 0)) d_Tri_put_23 (by decide) rfl ?_
    refine go_istore (pc' := 26) (i := 6) d_Tri_put_24 (by decide) (x_s6 (by first | rfl | exact x_k_rf _)) rfl ?_
    refine go_iload (pc' := 28) (i := 6) d_Tri_put_26 rfl rfl ?_
    refine go_if_eq (tgt := 51) (pc' := 31) d_Tri_put_28 (by decide) rfl (fun hc => ?_) (fun hc => ?_)
    · refine wr h 0 rfl (fun b c hb => hb) (by omega) (by omega) (by omega) (by omega) (Or.inl hg) ?_
      unfold p_Put
      rw [hpm]
      simp only [hro, hg]
      rfl
    · exact absurd rfl hc
  | none =>
    have hg : q_get (s_ks σ i) key = none := by
      cases hq : q_get (s_ks σ i) key with
      | none => rfl
      | some y => rw [hq] at ho; exact ho.elim
    refine go_ifnonnull_n (pc' := 19) d_Tri_put_16 rfl ?_
    refine go_iconst (pc' := 20) (v := (nI 1)) d_Tri_put_19 (by decide) rfl ?_
    refine go_goto (tgt := 24) d_Tri_put_20 (by decide) ?_
    refine go_istore (pc' := 26) (i := 6) d_Tri_put_24 (by decide) (x_s6 (by first | rfl | exact x_k_rf _)) rfl ?_
    refine go_iload (pc' := 28) (i := 6) d_Tri_put_26 rfl rfl ?_
    refine go_if_eq (tgt := 51) (pc' := 31) d_Tri_put_28 (by decide) rfl (fun hc => ?_) (fun hc => ?_)
    · cases hc
    · refine go_aload (pc' := 33) (i := 5) d_Tri_put_31 rfl (by first | rfl | exact x_r_rf _) rfl ?_
      refine go_getfield (pc' := 36) d_Tri_put_33 c_Map 0 (by decide) t_59 (by first | assumption | exact x_up_self _ _ _ | exact x_nw_self _ _ _ | (rw [x_up_ne (by first | omega | (simp only [x_up, x_nw]; omega))]; first | assumption | exact x_up_self _ _ _ | (rw [x_up_ne (by first | omega | (simp only [x_up, x_nw]; omega))]; first | assumption | exact x_up_self _ _ _)) | (rw [x_nw_ne (by first | omega | (simp only [x_up, x_nw]; omega))]; first | assumption | exact x_up_self _ _ _ | (rw [x_up_ne (by first | omega | (simp only [x_up, x_nw]; omega))]; assumption))) (by rfl) rfl ?_
      refine go_iload_n (pc' := 37) (i := 2) d_Tri_put_36 rfl rfl rfl ?_
      refine go_callS (pc' := 40) (M' := M_Tri_hasRoomFor) [_, _] d_Tri_put_37 t_203 t_204 t_1 cd_Tri_hasRoomFor nm_Tri_hasRoomFor rfl rfl (Nat.le_of_ble_eq_true rfl) rfl (s_hasRoomFor (d := d - 1) hTi hKi hroot key (by omega) (by omega) (by omega)) (by first | decide | omega) (Nat.le_of_ble_eq_true rfl) rfl (fun v hh hq => ?_) (fun q g hq => hq.elim)
      obtain ⟨rfl, r1, r2, r3⟩ := hq
      have hhk : ∀ b c, h.2.2 b = some c → hh.2.2 b = some c := fun b c hb => by rw [r3 b (hdom _ _ hb)]; exact hb
      show Go K M_Tri_put d 40 _ [_] hh _
      by_cases hroom : (s_ks σ i).length < 60 ∧ (q_f (s_ks σ i) 4 (q_p 4 key)).length < 6
      · rw [if_pos hroom]
        refine go_if_ne (tgt := 51) (pc' := 43) d_Tri_put_40 (by decide) rfl (fun hc => ?_) (fun hc => ?_)
        · refine wr hh 1 rfl hhk (by omega) (by omega) (by omega) (by omega) (Or.inr hroom) ?_
          unfold p_Put
          rw [hpm]
          simp only [hro, hg, if_pos hroom]
          rfl
        · cases hc
      · rw [if_neg hroom]
        refine go_if_ne (tgt := 51) (pc' := 43) d_Tri_put_40 (by decide) rfl (fun hc => ?_) (fun hc => ?_)
        · exact absurd rfl hc
        · have hp : p_Put σ (nI i) key v = (σ, .inr 13) := by
            unfold p_Put
            rw [hpm]
            simp only [hro, hg, if_neg hroom]
            rfl
          rw [hp]
          exact go_throw (kx := 13) d_Tri_put_43 d_Tri_put_46 d_Tri_put_47 d_Tri_put_50 rfl (by decide +kernel) (by decide +kernel) rfl t_254 t_12 at_13 rfl (Nat.le_of_ble_eq_true rfl) (by first | assumption | omega | (simp only [x_up, x_nw]; omega)) (by first | assumption | omega | (simp only [x_up, x_nw]; omega)) (Qc.thr hS' hhk (by simp; omega) (by simp; omega) (by simp; omega) (by simp; omega))
end ED
