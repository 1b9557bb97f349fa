def q_pn (ps : Nat → Nat × Nat) (z l : Nat) (key : Int32) : Nat → Nat × Nat := fun b => if b < z then ps b else ((b - z) / 3 + l + 1, q_p ((b - z) / 3 + l + 1) key)
section PB
variable {K : x_K} {d : Nat} {h f : x_H} {A : Nat → Nat → Option Nat} {ks : List KV} {bel : Nat → Nat → Int32} {a e e0 l : Nat} {g g0 key k0 : Int32} {v v0 : Int64} {ps : Nat → Nat × Nat} {es ns : Nat → Option Nat}
set_option maxRecDepth 100000 in
theorem s_putAt0 (hN : Nd h a g0 4 es 4 ns) (he : Et h e key v) {i : Nat} (hi : i < 4) (hes : es i = none ∨ ∃ e0 v0, es i = some e0 ∧ Et h e0 key v0) : Go K M_Tri_putAt d 0 [some (.ref a), some (.int (nI i)), some (.int (nI l)), some (.ref e), some (.int g), none] [] h
    (x_is none (x_up h (a + 1) (.inl (3, 4, .inr (.inr (.inr (.inr (va_up es i (some e))))))))) := by
  obtain ⟨h0, h1, h2⟩ := hN
  have heu := he
  unfold Et at heu
  refine go_aload_n (pc' := 1) (i := 0) d_Tri_putAt_0 rfl rfl (by first | rfl | exact x_r_rf _) rfl ?_
  refine go_getfield (pc' := 4) d_Tri_putAt_1 c_Nod 1 (by decide) t_44 (by first | assumption | exact x_up_self _ _ _ | exact x_nw_self _ _ _ | (rw [x_up_ne (by first | omega | (simp only [x_up, x_nw]; omega))]; first | assumption | exact x_up_self _ _ _ | (rw [x_up_ne (by first | omega | (simp only [x_up, x_nw]; omega))]; first | assumption | exact x_up_self _ _ _)) | (rw [x_nw_ne (by first | omega | (simp only [x_up, x_nw]; omega))]; first | assumption | exact x_up_self _ _ _ | (rw [x_up_ne (by first | omega | (simp only [x_up, x_nw]; omega))]; assumption))) (by rfl) rfl ?_
  refine go_iload_n (pc' := 5) (i := 1) d_Tri_putAt_4 rfl rfl rfl ?_
  refine go_aaldN (pc' := 6) d_Tri_putAt_5 (by first | assumption | exact x_up_self _ _ _ | exact x_nw_self _ _ _ | (rw [x_up_ne (by first | omega | (simp only [x_up, x_nw]; omega))]; first | assumption | exact x_up_self _ _ _ | (rw [x_up_ne (by first | omega | (simp only [x_up, x_nw]; omega))]; first | assumption | exact x_up_self _ _ _)) | (rw [x_nw_ne (by first | omega | (simp only [x_up, x_nw]; omega))]; first | assumption | exact x_up_self _ _ _ | (rw [x_up_ne (by first | omega | (simp only [x_up, x_nw]; omega))]; assumption))) (by rfl) (by first | assumption | omega | (simp only [x_up, x_nw]; omega)) (by first | assumption | omega | (simp only [x_up, x_nw]; omega)) rfl ?_
  refine go_astore (pc' := 8) (i := 5) d_Tri_putAt_6 (by decide) (x_r_rf _) (x_s5 rfl) rfl ?_
  refine go_aload (pc' := 10) (i := 5) d_Tri_putAt_8 rfl (by first | rfl | exact x_r_rf _) rfl ?_
  have fin : ∀ x5, Go K M_Tri_putAt d 25 [some (.ref a), some (.int (nI i)), some (.int (nI l)), some (.ref e), some (.int g), x5] [] h (x_is none (x_up h (a + 1) (.inl (3, 4, .inr (.inr (.inr (.inr (va_up es i (some e))))))))) := by
    intro x5
    refine go_aload_n (pc' := 26) (i := 0) d_Tri_putAt_25 rfl rfl (by first | rfl | exact x_r_rf _) rfl ?_
    refine go_getfield (pc' := 29) d_Tri_putAt_26 c_Nod 1 (by decide) t_44 (by first | assumption | exact x_up_self _ _ _ | exact x_nw_self _ _ _ | (rw [x_up_ne (by first | omega | (simp only [x_up, x_nw]; omega))]; first | assumption | exact x_up_self _ _ _ | (rw [x_up_ne (by first | omega | (simp only [x_up, x_nw]; omega))]; first | assumption | exact x_up_self _ _ _)) | (rw [x_nw_ne (by first | omega | (simp only [x_up, x_nw]; omega))]; first | assumption | exact x_up_self _ _ _ | (rw [x_up_ne (by first | omega | (simp only [x_up, x_nw]; omega))]; assumption))) (by rfl) rfl ?_
    refine go_iload_n (pc' := 30) (i := 1) d_Tri_putAt_29 rfl rfl rfl ?_
    refine go_aload_n (pc' := 31) (i := 3) d_Tri_putAt_30 rfl rfl (by first | rfl | exact x_r_rf _) rfl ?_
    refine go_aastR (pc' := 32) d_Tri_putAt_31 (by assumption) (by assumption) (by rfl) (by rfl) (by omega) (by omega) rfl ?_
    refine go_return d_Tri_putAt_32 rfl ?_
    exact ⟨rfl, rfl⟩
  rcases hes with hes | ⟨e0, v0, hes, he0⟩
  · rw [hes]
    refine go_ifnull_n (tgt := 25) d_Tri_putAt_10 (by decide) ?_
    exact fin _
  · rw [hes]
    unfold Et at he0
    refine go_ifnull_r (pc' := 13) d_Tri_putAt_10 rfl ?_
    refine go_aload (pc' := 15) (i := 5) d_Tri_putAt_13 rfl rfl rfl ?_
    refine go_getfield (pc' := 18) d_Tri_putAt_15 c_Ent 0 (by decide) t_277 (by first | assumption | exact x_up_self _ _ _ | exact x_nw_self _ _ _ | (rw [x_up_ne (by first | omega | (simp only [x_up, x_nw]; omega))]; first | assumption | exact x_up_self _ _ _ | (rw [x_up_ne (by first | omega | (simp only [x_up, x_nw]; omega))]; first | assumption | exact x_up_self _ _ _)) | (rw [x_nw_ne (by first | omega | (simp only [x_up, x_nw]; omega))]; first | assumption | exact x_up_self _ _ _ | (rw [x_up_ne (by first | omega | (simp only [x_up, x_nw]; omega))]; assumption))) (by rfl) rfl ?_
    refine go_aload_n (pc' := 19) (i := 3) d_Tri_putAt_18 rfl rfl (by first | rfl | exact x_r_rf _) rfl ?_
    refine go_getfield (pc' := 22) d_Tri_putAt_19 c_Ent 0 (by decide) t_277 (by first | assumption | exact x_up_self _ _ _ | exact x_nw_self _ _ _ | (rw [x_up_ne (by first | omega | (simp only [x_up, x_nw]; omega))]; first | assumption | exact x_up_self _ _ _ | (rw [x_up_ne (by first | omega | (simp only [x_up, x_nw]; omega))]; first | assumption | exact x_up_self _ _ _)) | (rw [x_nw_ne (by first | omega | (simp only [x_up, x_nw]; omega))]; first | assumption | exact x_up_self _ _ _ | (rw [x_up_ne (by first | omega | (simp only [x_up, x_nw]; omega))]; assumption))) (by rfl) rfl ?_
    refine go_icmp_ne (tgt := 33) (pc' := 25) d_Tri_putAt_22 (by decide) rfl (fun hc => ?_) (fun hc => ?_)
    · exact absurd rfl hc
    · exact fin _
set_option maxRecDepth 100000 in
theorem s_putAt2 (hN : Nd h a g0 4 es 4 ns) (he : Et h e key v) {i : Nat} (hi : i < 4) (hes : es i = some e0) (he0 : Et h e0 k0 v0) (hk : k0 ≠ key) (hl : l < 4) (hd : 6 ≤ d) (hc1 : h.1 + 12 ≤ x_cap K) (hc2 : h.2.1 + 44 ≤ x_cas K) :
    Go K M_Tri_putAt d 0 [some (.ref a), some (.int (nI i)), some (.int (nI l)), some (.ref e), some (.int g), none] [] h
    (x_rt (fun w f => w = none ∧ Nd f a g0 4 (va_up es i none) 4 (va_up ns i (some h.1)) ∧ T2 f g e0 e k0 key (3 - l) (l + 1) h.1 ∧ h.1 ≤ f.1 ∧ f.1 ≤ h.1 + 12 ∧ h.2.1 ≤ f.2.1 ∧ f.2.1 ≤ h.2.1 + 44 ∧ ∀ b, b < h.1 → b ≠ a + 1 → b ≠ a + 2 → f.2.2 b = h.2.2 b)) := by
  refine go_dom fun hdom => ?_
  have ha2 := hdom _ _ hN.2.2
  obtain ⟨h0, h1, h2⟩ := hN
  have heu := he
  have he0u := he0
  unfold Et at heu he0u
  have hne1 : e ≠ a + 1 := fun z => by rw [z, h1] at heu; cases heu
  have hne2 : e0 ≠ a + 1 := fun z => by rw [z, h1] at he0u; cases he0u
  refine go_aload_n (pc' := 1) (i := 0) d_Tri_putAt_0 rfl rfl (by first | rfl | exact x_r_rf _) rfl ?_
  refine go_getfield (pc' := 4) d_Tri_putAt_1 c_Nod 1 (by decide) t_44 (by first | assumption | exact x_up_self _ _ _ | exact x_nw_self _ _ _ | (rw [x_up_ne (by first | omega | (simp only [x_up, x_nw]; omega))]; first | assumption | exact x_up_self _ _ _ | (rw [x_up_ne (by first | omega | (simp only [x_up, x_nw]; omega))]; first | assumption | exact x_up_self _ _ _)) | (rw [x_nw_ne (by first | omega | (simp only [x_up, x_nw]; omega))]; first | assumption | exact x_up_self _ _ _ | (rw [x_up_ne (by first | omega | (simp only [x_up, x_nw]; omega))]; assumption))) (by rfl) rfl ?_
  refine go_iload_n (pc' := 5) (i := 1) d_Tri_putAt_4 rfl rfl rfl ?_
  refine go_aaldN (pc' := 6) d_Tri_putAt_5 (by first | assumption | exact x_up_self _ _ _ | exact x_nw_self _ _ _ | (rw [x_up_ne (by first | omega | (simp only [x_up, x_nw]; omega))]; first | assumption | exact x_up_self _ _ _ | (rw [x_up_ne (by first | omega | (simp only [x_up, x_nw]; omega))]; first | assumption | exact x_up_self _ _ _)) | (rw [x_nw_ne (by first | omega | (simp only [x_up, x_nw]; omega))]; first | assumption | exact x_up_self _ _ _ | (rw [x_up_ne (by first | omega | (simp only [x_up, x_nw]; omega))]; assumption))) (by rfl) (by first | assumption | omega | (simp only [x_up, x_nw]; omega)) (by first | assumption | omega | (simp only [x_up, x_nw]; omega)) rfl ?_
  refine go_astore (pc' := 8) (i := 5) d_Tri_putAt_6 (by decide) (x_r_rf _) (x_s5 rfl) rfl ?_
  refine go_aload (pc' := 10) (i := 5) d_Tri_putAt_8 rfl (by first | rfl | exact x_r_rf _) rfl ?_
  rw [hes]
  refine go_ifnull_r (pc' := 13) d_Tri_putAt_10 rfl ?_
  refine go_aload (pc' := 15) (i := 5) d_Tri_putAt_13 rfl rfl rfl ?_
  refine go_getfield (pc' := 18) d_Tri_putAt_15 c_Ent 0 (by decide) t_277 (by first | assumption | exact x_up_self _ _ _ | exact x_nw_self _ _ _ | (rw [x_up_ne (by first | omega | (simp only [x_up, x_nw]; omega))]; first | assumption | exact x_up_self _ _ _ | (rw [x_up_ne (by first | omega | (simp only [x_up, x_nw]; omega))]; first | assumption | exact x_up_self _ _ _)) | (rw [x_nw_ne (by first | omega | (simp only [x_up, x_nw]; omega))]; first | assumption | exact x_up_self _ _ _ | (rw [x_up_ne (by first | omega | (simp only [x_up, x_nw]; omega))]; assumption))) (by rfl) rfl ?_
  refine go_aload_n (pc' := 19) (i := 3) d_Tri_putAt_18 rfl rfl (by first | rfl | exact x_r_rf _) rfl ?_
  refine go_getfield (pc' := 22) d_Tri_putAt_19 c_Ent 0 (by decide) t_277 (by first | assumption | exact x_up_self _ _ _ | exact x_nw_self _ _ _ | (rw [x_up_ne (by first | omega | (simp only [x_up, x_nw]; omega))]; first | assumption | exact x_up_self _ _ _ | (rw [x_up_ne (by first | omega | (simp only [x_up, x_nw]; omega))]; first | assumption | exact x_up_self _ _ _)) | (rw [x_nw_ne (by first | omega | (simp only [x_up, x_nw]; omega))]; first | assumption | exact x_up_self _ _ _ | (rw [x_up_ne (by first | omega | (simp only [x_up, x_nw]; omega))]; assumption))) (by rfl) rfl ?_
  refine go_icmp_ne (tgt := 33) (pc' := 25) d_Tri_putAt_22 (by decide) rfl (fun hc => ?_) (fun hc => ?_)
  · refine go_aload_n (pc' := 34) (i := 0) d_Tri_putAt_33 rfl rfl (by first | rfl | exact x_r_rf _) rfl ?_
    refine go_getfield (pc' := 37) d_Tri_putAt_34 c_Nod 1 (by decide) t_44 (by first | assumption | exact x_up_self _ _ _ | exact x_nw_self _ _ _ | (rw [x_up_ne (by first | omega | (simp only [x_up, x_nw]; omega))]; first | assumption | exact x_up_self _ _ _ | (rw [x_up_ne (by first | omega | (simp only [x_up, x_nw]; omega))]; first | assumption | exact x_up_self _ _ _)) | (rw [x_nw_ne (by first | omega | (simp only [x_up, x_nw]; omega))]; first | assumption | exact x_up_self _ _ _ | (rw [x_up_ne (by first | omega | (simp only [x_up, x_nw]; omega))]; assumption))) (by rfl) rfl ?_
    refine go_iload_n (pc' := 38) (i := 1) d_Tri_putAt_37 rfl rfl rfl ?_
    refine go_null (pc' := 39) d_Tri_putAt_38 rfl ?_
    refine go_aastN' (pc' := 40) d_Tri_putAt_39 (by assumption) (by rfl) (by omega) (by omega) rfl ?_
    have m0 : (x_up h (a + 1) (.inl (3, 4, .inr (.inr (.inr (.inr (va_up es i none))))))).2.2 a = _ := (x_up_ne (by omega)).trans h0
    have m2 : (x_up h (a + 1) (.inl (3, 4, .inr (.inr (.inr (.inr (va_up es i none))))))).2.2 (a + 2) = _ := (x_up_ne (by omega)).trans h2
    have me : Et (x_up h (a + 1) (.inl (3, 4, .inr (.inr (.inr (.inr (va_up es i none))))))) e key v := (x_up_ne hne1).trans he
    have me0 : Et (x_up h (a + 1) (.inl (3, 4, .inr (.inr (.inr (.inr (va_up es i none))))))) e0 k0 v0 := (x_up_ne hne2).trans he0
    refine go_aload_n (pc' := 41) (i := 0) d_Tri_putAt_40 rfl rfl (by first | rfl | exact x_r_rf _) rfl ?_
    refine go_getfield (pc' := 44) d_Tri_putAt_41 c_Nod 2 (by decide) t_46 (by first | assumption | exact x_up_self _ _ _ | exact x_nw_self _ _ _ | (rw [x_up_ne (by first | omega | (simp only [x_up, x_nw]; omega))]; first | assumption | exact x_up_self _ _ _ | (rw [x_up_ne (by first | omega | (simp only [x_up, x_nw]; omega))]; first | assumption | exact x_up_self _ _ _)) | (rw [x_nw_ne (by first | omega | (simp only [x_up, x_nw]; omega))]; first | assumption | exact x_up_self _ _ _ | (rw [x_up_ne (by first | omega | (simp only [x_up, x_nw]; omega))]; assumption))) (by rfl) rfl ?_
    refine go_iload_n (pc' := 45) (i := 1) d_Tri_putAt_44 rfl rfl rfl ?_
    refine go_aload (pc' := 47) (i := 5) d_Tri_putAt_45 rfl rfl rfl ?_
    refine go_aload_n (pc' := 48) (i := 3) d_Tri_putAt_47 rfl rfl (by first | rfl | exact x_r_rf _) rfl ?_
    refine go_iload (pc' := 50) (i := 4) d_Tri_putAt_48 rfl rfl ?_
    refine go_iload_n (pc' := 51) (i := 2) d_Tri_putAt_50 rfl rfl rfl ?_
    refine go_iconst (pc' := 52) (v := (nI 1)) d_Tri_putAt_51 (by decide) rfl ?_
    refine go_iadd (pc' := 53) d_Tri_putAt_52 rfl ?_
    rw [nI_add]
    refine go_callS (pc' := 56) (M' := M_Tri_nodeOfTwo) [_, _, _, _] d_Tri_putAt_53 t_309 t_310 t_1 cd_Tri_nodeOfTwo nm_Tri_nodeOfTwo rfl rfl (Nat.le_of_ble_eq_true rfl) rfl ((s_nodeOfTwo (K := K) (g := g) hk (3 - l) (l + 1) _ (by omega) me0 me (by simp only [x_up]; omega) (by simp only [x_up]; omega))) (by first | decide | omega) (Nat.le_of_ble_eq_true rfl) rfl (fun v hh hq => ?_) (fun q g hq => hq.elim)
    obtain ⟨rfl, hT2, b1, b2, b3, b4, hold⟩ := hq
    have hold' : ∀ b, b < h.1 → hh.2.2 b = (x_up h (a + 1) (.inl (3, 4, .inr (.inr (.inr (.inr (va_up es i none))))))).2.2 b := hold
    have b1' : h.1 + 3 ≤ hh.1 := b1
    have b2' : hh.1 ≤ h.1 + 3 * (3 - l + 1) := b2
    have b3' : h.2.1 ≤ hh.2.1 := b3
    have b4' : hh.2.1 ≤ h.2.1 + 11 * (3 - l + 1) := b4
    show Go K M_Tri_putAt d 56 _ [.ref h.1, .int (nI i), .ref (a + 2)] hh _
    have w2 : hh.2.2 (a + 2) = _ := (hold' _ (by omega)).trans m2
    obtain ⟨vs, hvs⟩ : ∃ vs, hh.2.2 h.1 = some (.inr (2, vs)) := by
      have hT3 : T2 hh g e0 e k0 key (3 - l) (l + 1) h.1 := hT2
      cases hr : 3 - l with
      | zero => rw [hr] at hT3; obtain ⟨_, _, hN9, -⟩ := hT3; exact ⟨_, hN9.1⟩
      | succ r => rw [hr] at hT3; obtain ⟨_, _, hN9, -⟩ := hT3; exact ⟨_, hN9.1⟩
    refine go_aastR (pc' := 57) d_Tri_putAt_56 (by assumption) hvs (by rfl) (by rfl) (by omega) (by omega) rfl ?_
    refine go_return d_Tri_putAt_57 rfl ?_
    refine ⟨rfl, ⟨(x_up_ne (by omega)).trans ((hold' _ (by omega)).trans m0), (x_up_ne (by omega)).trans ((hold' _ (by omega)).trans (x_up_self _ _ _)), x_up_self _ _ _⟩, ?_, ?_, ?_, ?_, ?_, fun b hb n1 n2 => ?_⟩
    · exact T2.mono _ _ _ hT2 (fun b hb => x_up_ne (by have hb' : h.1 ≤ b := hb; omega))
    · show h.1 ≤ hh.1; omega
    · show hh.1 ≤ _; omega
    · show _ ≤ hh.2.1; omega
    · show hh.2.1 ≤ _; omega
    · rw [x_up_ne n2, hold' b hb, x_up_ne n1]
  · exact absurd hc hk
set_option maxRecDepth 100000 in
theorem s_putIn (hT : Tr h A ks bel) (hP : Ps ps A) (hK : Ko ks) {root : Nat} (hr : A 0 0 = some root) (he : Et h e key v) (hroom : (q_get ks key).isSome = true ∨ (ks.length < 60 ∧ (q_f ks 4 (q_p 4 key)).length < 6)) (g : Int32)
    (hc1 : h.1 + 12 ≤ x_cap K) (hc2 : h.2.1 + 44 ≤ x_cas K) (hd : 7 ≤ d) :
    Go K M_Tri_putIn d 0 [some (.ref root), some (.ref e), some (.int g), none, none, none, none] [] h (x_rt (fun w f => w = none ∧ ∃ A' bel' ps', Tr f A' (q_put ks key v) bel' ∧ Ps ps' A' ∧ (∀ b, b < h.1 → ps' b = ps b) ∧
      (∀ l p a, A l p = some a → A' l p = some a ∧ bel' l p = bel l p) ∧ (∀ l p, A l p = none → ∀ a, A' l p = some a → h.1 ≤ a ∧ bel' l p = g ∧ p = q_p l key) ∧ (∀ l p, A' l p = none → bel' l p = bel l p) ∧
      Fr (fun b => ∃ l a, A l (q_p l key) = some a ∧ (b = a + 1 ∨ b = a + 2)) h f ∧ f.1 ≤ h.1 + 12 ∧ f.2.1 ≤ h.2.1 + 44)) := by
  refine go_dom fun hdom => ?_
  obtain ⟨Q, hQ⟩ : ∃ Q : x_O → x_H → Prop, Q = (x_rt (fun w f => w = none ∧ ∃ A' bel' ps', Tr f A' (q_put ks key v) bel' ∧ Ps ps' A' ∧ (∀ b, b < h.1 → ps' b = ps b) ∧
      (∀ l p a, A l p = some a → A' l p = some a ∧ bel' l p = bel l p) ∧ (∀ l p, A l p = none → ∀ a, A' l p = some a → h.1 ≤ a ∧ bel' l p = g ∧ p = q_p l key) ∧ (∀ l p, A' l p = none → bel' l p = bel l p) ∧
      Fr (fun b => ∃ l a, A l (q_p l key) = some a ∧ (b = a + 1 ∨ b = a + 2)) h f ∧ f.1 ≤ h.1 + 12 ∧ f.2.1 ≤ h.2.1 + 44)) := ⟨_, rfl⟩
  rw [← hQ]
  have heu := he
  unfold Et at heu
  -- one array of the last node is written, no node comes
  have same : ∀ l a (c : x_C), A l (q_p l key) = some a → (∃ n es k ns, Nd h a (bel l (q_p l key)) n es k ns) → Fo (fun z => z = a) h (x_up h (a + 1) c) → Tr (x_up h (a + 1) c) A (q_put ks key v) bel → Q (.inl none) (x_up h (a + 1) c) := by
    intro l a c ha hN hF hT2
    rw [hQ]
    refine ⟨rfl, A, bel, ps, hT2, hP, fun _ _ => rfl, fun _ _ _ h9 => ⟨h9, rfl⟩, fun l1 p1 h9 a1 h10 => ?_, fun _ _ _ => rfl, Fr.up _ _ (fun _ => ⟨l, a, ha, Or.inl rfl⟩), by show h.1 ≤ _; omega, by show h.2.1 ≤ _; omega⟩
    rw [h9] at h10
    cases h10
  have foUp : ∀ (l a : Nat) (c : x_C), (∃ g0 n es k ns, Nd h a g0 n es k ns) → Fo (fun z => z = a) h (x_up h (a + 1) c) := by
    intro l a c hN
    refine ⟨fun z hz => ?_, fun z c9 hz hw => ?_⟩
    · have hz' : z = a := hz
      subst hz'
      exact hN
    · rw [x_up_ne (hw a rfl).1]
      exact hz
  have loop : ∀ r l a x5 x6, l + r = 4 → A l (q_p l key) = some a → x_k x5 = x5 → x_k x6 = x6 → Go K M_Tri_putIn d 5 [some (.ref root), some (.ref e), some (.int g), some (.ref a), some (.int (nI l)), x5, x6] [] h Q := by
    intro r
    induction r with
    | zero =>
      intro l a x5 x6 hl ha k5 k6
      have hl4 : l = 4 := by omega
      subst hl4
      obtain ⟨es, ns, hN, hE⟩ := (hT.2 4 _ a ha).2 rfl
      have hN0 := hN.1
      have hkE := Eo.kfE hE
      have hpf := q_pl_find (h := h) (es := es) (key := key) 6 0 (q_f ks 4 (q_p 4 key)) (fun i hi => by rw [Nat.zero_add]; exact hE i hi) (hK.2.2 _)
      have hct := q_ct_list 6 (fun j hj => (hE j hj).is) (hK.2.2 (q_p 4 key))
      rw [q_f_get] at hpf
      obtain ⟨i, hi, hin, hTn⟩ : ∃ i, i = (match q_pl es (kfh h) key 6 0 with | some j => j | none => q_ct es 6) ∧ i < 6 ∧ ∀ c f2, f2 = x_up h (a + 1) c → c = .inl (3, 6, .inr (.inr (.inr (.inr (va_up es i (some e)))))) → Tn f2 A (q_put ks key v) bel 4 (q_p 4 key) a := by
        have tn : ∀ i, (∀ j, j < 6 → j ≠ i → ((q_f (q_put ks key v) 4 (q_p 4 key))[j]?) = ((q_f ks 4 (q_p 4 key))[j]?)) → ((q_f (q_put ks key v) 4 (q_p 4 key))[i]?) = some (key, v) → ∀ c f2, f2 = x_up h (a + 1) c → c = .inl (3, 6, .inr (.inr (.inr (.inr (va_up es i (some e)))))) → Tn f2 A (q_put ks key v) bel 4 (q_p 4 key) a := by
          intro i hj1 hj2 c f2 hf2 hc9
          have hF := foUp 4 a c ⟨_, _, _, _, _, hN⟩
          rw [← hf2] at hF
          refine ⟨fun z => by omega, fun _ => ⟨va_up es i (some e), ns, ⟨?_, ?_, ?_⟩, fun j hj => ?_⟩⟩
          · rw [hf2, x_up_ne (by omega)]; exact hN.1
          · rw [hf2, hc9]; exact x_up_self _ _ _
          · rw [hf2, x_up_ne (by omega)]; exact hN.2.2
          · by_cases hji : j = i
            · subst hji
              rw [va_up_self, hj2]
              exact he.fo hF
            · rw [va_up_ne _ _ hji, hj1 j hj hji]
              exact (hE j hj).fo hF
        cases hq : q_pl es (kfh h) key 6 0 with
        | some i =>
          rw [hq] at hpf
          obtain ⟨-, e9, x9, g2, g3, g4, g5, g6⟩ := hpf
          have hi6 := q_pl_lt es (kfh h) key 6 0 i hq
          rw [Nat.sub_zero] at g5
          have hx9 : x9.1 = key := by
            have := List.find?_some g3
            simpa using this
          refine ⟨i, rfl, by omega, tn i (fun j hj hji => ?_) ?_⟩
          · rw [q_put_f, g3]
            simp only [Option.isSome_some, if_true, List.getElem?_map]
            cases hL : (q_f ks 4 (q_p 4 key))[j]? with
            | none => rfl
            | some y =>
              have hy : ¬ y.1 = key := by
                intro hy
                have hnd : ((q_f ks 4 (q_p 4 key)).map (fun x => x.1)).Nodup := (List.Sublist.map _ List.filter_sublist).nodup hK.2.1
                have e1 : ((q_f ks 4 (q_p 4 key)).map (fun x => x.1))[j]? = some key := by rw [List.getElem?_map, hL]; simp [hy]
                have e2 : ((q_f ks 4 (q_p 4 key)).map (fun x => x.1))[i]? = some key := by rw [List.getElem?_map, g5]; simp [hx9]
                exact hji ((List.getElem?_inj (List.getElem?_eq_some_iff.mp e1).1 hnd).mp (e1.trans e2.symm))
              simp [hy]
          · rw [q_put_f, g3]
            simp only [Option.isSome_some, if_true, List.getElem?_map, g5]
            simp [hx9]
        | none =>
          rw [hq] at hpf
          have hpf' : q_get ks key = none := hpf
          have hlen : (q_f ks 4 (q_p 4 key)).length < 6 := by
            rcases hroom with z | z
            · rw [hpf'] at z; cases z
            · exact z.2
          refine ⟨(q_f ks 4 (q_p 4 key)).length, hct.symm, hlen, tn _ (fun j hj hji => ?_) ?_⟩
          · rw [q_put_f, hpf']
            simp only [Option.isSome_none, Bool.false_eq_true, if_false, if_true]
            by_cases hjl : j < (q_f ks 4 (q_p 4 key)).length
            · rw [List.getElem?_append_left hjl]
            · rw [List.getElem?_eq_none (by simp; omega), List.getElem?_eq_none (by omega)]
          · rw [q_put_f, hpf']
            simp
      refine go_iload (pc' := 7) (i := 4) d_Tri_putIn_5 rfl rfl ?_
      refine go_iconst (pc' := 8) (v := (nI 4)) d_Tri_putIn_7 (by decide) rfl ?_
      refine go_icmp_geN (tgt := 56) (pc' := 11) d_Tri_putIn_8 (by decide) rfl (by omega) (by omega) (fun hc => ?_) (fun hc => ?_)
      · refine go_aload_n (pc' := 57) (i := 3) d_Tri_putIn_56 rfl rfl (by first | rfl | exact x_r_rf _) rfl ?_
        refine go_aload_n (pc' := 58) (i := 1) d_Tri_putIn_57 rfl rfl (by first | rfl | exact x_r_rf _) rfl ?_
        refine go_callV (pc' := 61) (M' := M_Nod_putInBag) (ci := 2) (r := (n_Nod, T_Nod, 3)) [_] d_Tri_putIn_58 t_312 t_313 t_314 cd_Nod_putInBag nm_Nod_putInBag rfl (by rfl) (by first | assumption | exact x_up_self _ _ _ | exact x_nw_self _ _ _ | (rw [x_up_ne (by first | omega | (simp only [x_up, x_nw]; omega))]; first | assumption | exact x_up_self _ _ _ | (rw [x_up_ne (by first | omega | (simp only [x_up, x_nw]; omega))]; first | assumption | exact x_up_self _ _ _)) | (rw [x_nw_ne (by first | omega | (simp only [x_up, x_nw]; omega))]; first | assumption | exact x_up_self _ _ _ | (rw [x_up_ne (by first | omega | (simp only [x_up, x_nw]; omega))]; assumption))) rfl (Nat.le_of_ble_eq_true rfl) rfl (s_putInBag (d := d - 1) hN (by omega) hkE he (by omega) hi hin) (by first | decide | omega) (Nat.le_of_ble_eq_true rfl) rfl (fun v hh hq => ?_) (fun q g hq => by cases hq.1)
        obtain ⟨e9, rfl⟩ := hq
        cases e9
        show Go K M_Tri_putIn d 61 _ [] _ _
        refine go_return d_Tri_putIn_61 rfl ?_
        have hF := foUp 4 a (.inl (3, 6, .inr (.inr (.inr (.inr (va_up es i (some e))))))) ⟨_, _, _, _, _, hN⟩
        exact same 4 a _ ha ⟨_, _, _, _, hN⟩ hF (hT.same hP ha hF (Or.inl rfl) (hTn _ _ rfl rfl))
      · omega
    | succ r ih =>
      intro l a x5 x6 hl ha k5 k6
      have hl4 : l < 4 := by omega
      obtain ⟨es, ns, hN, hE⟩ := (hT.2 l _ a ha).1 hl4
      have hd4 := q_d_lt l key
      obtain ⟨hns, hes⟩ := hE _ hd4
      rw [← q_p_s hl4] at hns hes
      have hN' := hN
      obtain ⟨h0, h1, h2⟩ := hN
      refine go_iload (pc' := 7) (i := 4) d_Tri_putIn_5 rfl rfl ?_
      refine go_iconst (pc' := 8) (v := (nI 4)) d_Tri_putIn_7 (by decide) rfl ?_
      refine go_icmp_geN (tgt := 56) (pc' := 11) d_Tri_putIn_8 (by decide) rfl (by omega) (by omega) (fun hc => ?_) (fun hc => ?_)
      · omega
      · refine go_aload_n (pc' := 12) (i := 1) d_Tri_putIn_11 rfl rfl (by first | rfl | exact x_r_rf _) rfl ?_
        refine go_getfield (pc' := 15) d_Tri_putIn_12 c_Ent 0 (by decide) t_277 (by first | assumption | exact x_up_self _ _ _ | exact x_nw_self _ _ _ | (rw [x_up_ne (by first | omega | (simp only [x_up, x_nw]; omega))]; first | assumption | exact x_up_self _ _ _ | (rw [x_up_ne (by first | omega | (simp only [x_up, x_nw]; omega))]; first | assumption | exact x_up_self _ _ _)) | (rw [x_nw_ne (by first | omega | (simp only [x_up, x_nw]; omega))]; first | assumption | exact x_up_self _ _ _ | (rw [x_up_ne (by first | omega | (simp only [x_up, x_nw]; omega))]; assumption))) (by rfl) rfl ?_
        refine go_iload (pc' := 17) (i := 4) d_Tri_putIn_15 rfl rfl ?_
        refine go_callS (pc' := 20) (M' := M_Tri_digit) [_, _] d_Tri_putIn_17 t_195 t_196 t_1 cd_Tri_digit nm_Tri_digit rfl rfl (Nat.le_of_ble_eq_true rfl) rfl (s_digit (d := d - 1) key hl4) (by first | decide | omega) (Nat.le_of_ble_eq_true rfl) rfl (fun v hh hq => ?_) (fun q g hq => by cases hq.1)
        obtain ⟨e9, rfl⟩ := hq
        cases e9
        show Go K M_Tri_putIn d 20 _ [.int (nI (q_d l key))] h _
        refine go_istore (pc' := 22) (i := 5) d_Tri_putIn_20 (by decide) (x_s5 rfl) rfl ?_
        refine go_aload_n (pc' := 23) (i := 3) d_Tri_putIn_22 rfl rfl (by first | rfl | exact x_r_rf _) rfl ?_
        refine go_getfield (pc' := 26) d_Tri_putIn_23 c_Nod 2 (by decide) t_46 (by first | assumption | exact x_up_self _ _ _ | exact x_nw_self _ _ _ | (rw [x_up_ne (by first | omega | (simp only [x_up, x_nw]; omega))]; first | assumption | exact x_up_self _ _ _ | (rw [x_up_ne (by first | omega | (simp only [x_up, x_nw]; omega))]; first | assumption | exact x_up_self _ _ _)) | (rw [x_nw_ne (by first | omega | (simp only [x_up, x_nw]; omega))]; first | assumption | exact x_up_self _ _ _ | (rw [x_up_ne (by first | omega | (simp only [x_up, x_nw]; omega))]; assumption))) (by rfl) rfl ?_
        refine go_iload (pc' := 28) (i := 5) d_Tri_putIn_26 rfl rfl ?_
        refine go_aaldN (pc' := 29) d_Tri_putIn_28 (by first | assumption | exact x_up_self _ _ _ | exact x_nw_self _ _ _ | (rw [x_up_ne (by first | omega | (simp only [x_up, x_nw]; omega))]; first | assumption | exact x_up_self _ _ _ | (rw [x_up_ne (by first | omega | (simp only [x_up, x_nw]; omega))]; first | assumption | exact x_up_self _ _ _)) | (rw [x_nw_ne (by first | omega | (simp only [x_up, x_nw]; omega))]; first | assumption | exact x_up_self _ _ _ | (rw [x_up_ne (by first | omega | (simp only [x_up, x_nw]; omega))]; assumption))) (by rfl) (by first | assumption | omega | (simp only [x_up, x_nw]; omega)) (by first | assumption | omega | (simp only [x_up, x_nw]; omega)) rfl ?_
        rw [hns]
        refine go_astore (pc' := 31) (i := 6) d_Tri_putIn_29 (by decide) (x_r_rf _) (x_s6 rfl) rfl ?_
        refine go_aload (pc' := 33) (i := 6) d_Tri_putIn_31 rfl (by first | rfl | exact x_r_rf _) rfl ?_
        refine go_ifnonnull (tgt := 47) (pc' := 36) d_Tri_putIn_33 (by decide) rfl (fun b hc => ?_) (fun hc => ?_)
        · rw [hc]
          refine go_aload (pc' := 49) (i := 6) d_Tri_putIn_47 rfl (by first | rfl | exact x_r_rf _) rfl ?_
          refine go_astore_n (pc' := 50) (i := 3) d_Tri_putIn_49 rfl (by decide) (by first | rfl | exact x_r_rf _) (x_s3 (by first | rfl | exact x_k_rf _)) rfl ?_
          refine go_iinc (pc' := 53) (i := 4) d_Tri_putIn_50 rfl (x_i1 _) (by decide) (x_s4 (by first | rfl | exact x_k_rf _)) rfl ?_
          refine go_goto (tgt := 5) d_Tri_putIn_53 (by decide) ?_
          exact ih (l + 1) b _ _ (by omega) hc rfl rfl
        · have hnone := hc
          have hlen := hT.no hl4 hc
          refine go_aload_n (pc' := 37) (i := 3) d_Tri_putIn_36 rfl rfl (by first | rfl | exact x_r_rf _) rfl ?_
          refine go_iload (pc' := 39) (i := 5) d_Tri_putIn_37 rfl rfl ?_
          refine go_iload (pc' := 41) (i := 4) d_Tri_putIn_39 rfl rfl ?_
          refine go_aload_n (pc' := 42) (i := 1) d_Tri_putIn_41 rfl rfl (by first | rfl | exact x_r_rf _) rfl ?_
          refine go_iload_n (pc' := 43) (i := 2) d_Tri_putIn_42 rfl rfl rfl ?_
          -- what lies at the place
          have hcase : ((q_f ks (l + 1) (q_p (l + 1) key) = [] ∧ es (q_d l key) = none) ∨ ∃ kv e0, q_f ks (l + 1) (q_p (l + 1) key) = [kv] ∧ es (q_d l key) = some e0 ∧ Et h e0 kv.1 kv.2) := by
            match hL : q_f ks (l + 1) (q_p (l + 1) key), hlen with
            | [], _ =>
              rw [hL] at hes
              exact Or.inl ⟨rfl, hes.none⟩
            | [kv], _ =>
              rw [hL] at hes
              obtain ⟨e0, q1, q2⟩ := Eo.some (x := kv) hes
              exact Or.inr ⟨kv, e0, rfl, q1, q2⟩
          have leaf : (q_f (q_put ks key v) (l + 1) (q_p (l + 1) key) = [(key, v)]) → Q (.inl none) (x_up h (a + 1) (.inl (3, 4, .inr (.inr (.inr (.inr (va_up es (q_d l key) (some e)))))))) := by
            intro hL
            have hF := foUp l a (.inl (3, 4, .inr (.inr (.inr (.inr (va_up es (q_d l key) (some e))))))) ⟨_, _, _, _, _, hN'⟩
            refine same l a _ ha ⟨_, _, _, _, hN'⟩ hF (hT.same hP ha hF (Or.inr ⟨hnone, by rw [hL]; exact Nat.le_refl _⟩) ⟨fun _ => ⟨_, ns, ⟨(x_up_ne (by omega)).trans h0, x_up_self _ _ _, (x_up_ne (by omega)).trans h2⟩, fun j hj => ?_⟩, fun z => by omega⟩)
            by_cases hjd : j = q_d l key
            · subst hjd
              rw [va_up_self, ← q_p_s hl4, hL]
              exact ⟨hns, he.fo hF⟩
            · rw [va_up_ne _ _ hjd, q_put_off (q_p_ne hl4 hj (fun z => hjd z.2))]
              exact ⟨(hE j hj).1, (hE j hj).2.fo hF⟩
          rcases hcase with ⟨hL, hn0⟩ | ⟨kv, e0, hL, hn0, he0⟩
          · refine go_callS (pc' := 46) (M' := M_Tri_putAt) [_, _, _, _, _] d_Tri_putIn_43 t_306 t_307 t_1 cd_Tri_putAt nm_Tri_putAt rfl rfl (Nat.le_of_ble_eq_true rfl) rfl (s_putAt0 (d := d - 1) hN' he hd4 (Or.inl hn0)) (by first | decide | omega) (Nat.le_of_ble_eq_true rfl) rfl (fun v hh hq => ?_) (fun q g hq => by cases hq.1)
            obtain ⟨e9, rfl⟩ := hq
            cases e9
            show Go K M_Tri_putIn d 46 _ [] _ _
            refine go_return d_Tri_putIn_46 rfl ?_
            refine leaf ?_
            rw [q_put_f, q_put_0 hL, hL]
            simp
          · by_cases hk : kv.1 = key
            · refine go_callS (pc' := 46) (M' := M_Tri_putAt) [_, _, _, _, _] d_Tri_putIn_43 t_306 t_307 t_1 cd_Tri_putAt nm_Tri_putAt rfl rfl (Nat.le_of_ble_eq_true rfl) rfl (s_putAt0 (d := d - 1) hN' he hd4 (Or.inr ⟨e0, kv.2, hn0, by rw [← hk]; exact he0⟩)) (by first | decide | omega) (Nat.le_of_ble_eq_true rfl) rfl (fun v hh hq => ?_) (fun q g hq => by cases hq.1)
              obtain ⟨e9, rfl⟩ := hq
              cases e9
              show Go K M_Tri_putIn d 46 _ [] _ _
              refine go_return d_Tri_putIn_46 rfl ?_
              refine leaf ?_
              have hget : q_get ks key = some kv := by
                rw [← q_f_get ks (l + 1) key, hL]
                simp [q_get, hk]
              rw [q_put_f, hget, hL]
              simp [hk]
            · refine go_callS (pc' := 46) (M' := M_Tri_putAt) [_, _, _, _, _] d_Tri_putIn_43 t_306 t_307 t_1 cd_Tri_putAt nm_Tri_putAt rfl rfl (Nat.le_of_ble_eq_true rfl) rfl (s_putAt2 (d := d - 1) hN' he hd4 hn0 he0 hk hl4 (by omega) (by omega) (by omega)) (by first | decide | omega) (Nat.le_of_ble_eq_true rfl) rfl (fun v hh hq => ?_) (fun q g hq => hq.elim)
              obtain ⟨rfl, hNa2, hT2, b1, b2, b3, b4, hold⟩ := hq
              show Go K M_Tri_putIn d 46 _ [] hh _
              refine go_return d_Tri_putIn_46 rfl ?_
              have hF : Fo (fun z => z = a) h hh := by
                refine ⟨fun z hz => ?_, fun z c9 hz hw => ?_⟩
                · have hz' : z = a := hz
                  subst hz'
                  exact ⟨_, _, _, _, _, hN'⟩
                · rw [hold z (hdom _ _ hz) (hw a rfl).1 (hw a rfl).2]
                  exact hz
              have hTT := hT.split hP hl4 ha hnone (by rw [hL]) hk hN' hF hNa2 hT2 (he0.fo hF) (he.fo hF)
              rw [hQ]
              have haf : ∀ l1 p1 a1, A l1 p1 = some a1 → a1 < h.1 := fun l1 p1 a1 h9 => by
                obtain ⟨_, _, _, _, hN9, -⟩ := hT.nd h9
                exact hdom _ _ hN9.1
              have hnup : ∀ m, l < m → A m (q_p m key) = none := fun m hm => by
                have := hT.none_up key hnone (m - (l + 1))
                rw [show l + 1 + (m - (l + 1)) = m by omega] at this
                exact this
              refine ⟨rfl, _, _, q_pn ps h.1 l key, hTT, fun m p a1 h9 => ?_, fun b hb => if_pos hb, fun m p a1 h9 => ?_, fun m p h9 a1 h10 => ?_, fun m p h9 => ?_, ⟨b1, b3, fun z hz hs => ?_⟩, b2, b4⟩
              · by_cases hs : q_sc l key kv.1 m p
                · rw [q_sA_pos hs] at h9
                  cases h9
                  have e1 : (h.1 + 3 * (m - l - 1) - h.1) / 3 + l + 1 = m := by have := hs.1; omega
                  unfold q_pn
                  rw [if_neg (by omega), e1, hs.2.2.1]
                · rw [q_sA_neg hs] at h9
                  unfold q_pn
                  rw [if_pos (haf _ _ _ h9)]
                  exact hP _ _ _ h9
              · have hs : ¬ q_sc l key kv.1 m p := fun z => by
                  rw [z.2.2.1, hnup m z.1] at h9
                  cases h9
                rw [q_sA_neg hs, q_sB_neg hs]
                exact ⟨h9, rfl⟩
              · by_cases hs : q_sc l key kv.1 m p
                · rw [q_sA_pos hs] at h10
                  cases h10
                  rw [q_sB_pos hs]
                  exact ⟨by omega, rfl, hs.2.2.1⟩
                · rw [q_sA_neg hs, h9] at h10
                  cases h10
              · have hs : ¬ q_sc l key kv.1 m p := fun z => by
                  rw [q_sA_pos z] at h9
                  cases h9
                rw [q_sB_neg hs]
              · exact hold z hz (fun z9 => hs ⟨l, a, ha, Or.inl z9⟩) (fun z9 => hs ⟨l, a, ha, Or.inr z9⟩)
  refine go_aload_n (pc' := 1) (i := 0) d_Tri_putIn_0 rfl rfl (by first | rfl | exact x_r_rf _) rfl ?_
  refine go_astore_n (pc' := 2) (i := 3) d_Tri_putIn_1 rfl (by decide) (by first | rfl | exact x_r_rf _) (x_s3 (by first | rfl | exact x_k_rf _)) rfl ?_
  refine go_iconst (pc' := 3) (v := (nI 0)) d_Tri_putIn_2 (by decide) rfl ?_
  refine go_istore (pc' := 5) (i := 4) d_Tri_putIn_3 (by decide) (x_s4 (by first | rfl | exact x_k_rf _)) rfl ?_
  exact loop 4 0 root _ _ (by omega) (by rw [q_p_0]; exact hr) rfl rfl
end PB
