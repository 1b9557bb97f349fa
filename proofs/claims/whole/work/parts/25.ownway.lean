section TF
variable {K : x_K} {d : Nat} {h f f2 : x_H} {A A' : Nat → Nat → Option Nat} {ks : List KV} {bel bel' : Nat → Nat → Int32} {t a : Nat} {g key : Int32} {ps ps' : Nat → Nat × Nat}
theorem Nd.uniq {a : Nat} {g g' : Int32} {n n' k k' : Nat} {es es' ns ns' : Nat → Option Nat} (h1 : Nd f a g n es k ns) (h2 : Nd f a g' n' es' k' ns') : g = g' ∧ n = n' ∧ es = es' ∧ k = k' ∧ ns = ns' := by
  have e0 := h1.1.symm.trans h2.1
  have e1 := h1.2.1.symm.trans h2.2.1
  have e2 := h1.2.2.symm.trans h2.2.2
  simp only [Option.some.injEq, Sum.inl.injEq, Sum.inr.injEq, Prod.mk.injEq, List.cons.injEq, Value.int.injEq, true_and, and_true] at e0 e1 e2
  exact ⟨e0, e1.1, e1.2, e2.1, e2.2⟩
theorem Tr.nd (hT : Tr f A ks bel) {l p : Nat} (ha : A l p = some a) : ∃ n es k ns, Nd f a (bel l p) n es k ns ∧ ((l < 4 ∧ n = 4 ∧ k = 4) ∨ (l = 4 ∧ n = 6 ∧ k = 0)) ∧
    (∀ j, j < n → ∀ e, es j = some e → ∃ vs, f.2.2 e = some (.inr (1, vs))) ∧ (∀ j, j < k → ∀ b, ns j = some b → ∃ vs, f.2.2 b = some (.inr (2, vs))) ∧ (l < 4 → ∀ j, j < 4 → ns j = A (l + 1) (4 * p + j)) := by
  have hl := ((hT.1 l p).mp ⟨a, ha⟩).1
  by_cases hl4 : l < 4
  · obtain ⟨es, ns, hN, hE⟩ := (hT.2 l p a ha).1 hl4
    refine ⟨4, es, 4, ns, hN, Or.inl ⟨hl4, rfl, rfl⟩, fun j hj e he => ?_, fun j hj b hb => ?_, fun _ j hj => (hE j hj).1⟩
    · have := (hE j hj).2
      rw [he] at this
      obtain ⟨kv, -, h2⟩ := this.to
      exact ⟨_, h2⟩
    · have := (hE j hj).1
      rw [hb] at this
      obtain ⟨es', ns', hN'⟩ : ∃ n es k ns, Nd f b (bel (l + 1) (4 * p + j)) n es k ns := by
        by_cases h3 : l + 1 < 4
        · obtain ⟨x, y, z, -⟩ := (hT.2 _ _ b this.symm).1 h3
          exact ⟨_, _, _, _, z⟩
        · obtain ⟨x, y, z, -⟩ := (hT.2 _ _ b this.symm).2 (by omega)
          exact ⟨_, _, _, _, z⟩
      obtain ⟨k', ns'', hN''⟩ := hN'
      exact ⟨_, hN''.1⟩
  · have hl5 : l = 4 := by omega
    subst hl5
    obtain ⟨es, ns, hN, hE⟩ := (hT.2 4 p a ha).2 rfl
    refine ⟨6, es, 0, ns, hN, Or.inr ⟨rfl, rfl, rfl⟩, fun j hj e he => ?_, fun j hj => by omega, fun h4 => by omega⟩
    have := hE j hj
    rw [he] at this
    obtain ⟨kv, -, h2⟩ := this.to
    exact ⟨_, h2⟩
theorem Tr.root (hT : Tr f A ks bel) (hk : Kp f f2) {r c : Nat} (hr : A 0 0 = some r) (g : Int32) (hc : ∀ n esb k nsb gb, Nd f r gb n esb k nsb → ∃ es' ns', Nd f2 c g n es' k ns' ∧ (∀ i, i < n → es' i = esb i) ∧ ∀ i, i < k → ns' i = nsb i) :
    Tr f2 (q_u2 A 0 0 (some c)) ks (q_u2 bel 0 0 g) := by
  refine ⟨fun l1 p1 => ?_, fun l1 p1 a1 h1 => ?_⟩
  · rw [← hT.1 l1 p1]
    by_cases hq : l1 = 0 ∧ p1 = 0
    · obtain ⟨rfl, rfl⟩ := hq
      rw [q_u2_self]
      exact ⟨fun _ => ⟨r, hr⟩, fun _ => ⟨c, rfl⟩⟩
    · rw [q_u2_ne _ _ hq]
  · by_cases hq : l1 = 0 ∧ p1 = 0
    · obtain ⟨rfl, rfl⟩ := hq
      rw [q_u2_self] at h1
      cases h1
      refine ⟨fun h4 => ?_, fun h4 => by omega⟩
      obtain ⟨esb, nsb, hNb, hEb⟩ := (hT.2 _ _ r hr).1 h4
      obtain ⟨es', ns', q1, q2, q3⟩ := hc _ _ _ _ _ hNb
      refine ⟨es', ns', by rw [q_u2_self]; exact q1, fun i hi => ?_⟩
      rw [q2 i hi, q3 i hi, q_u2_ne _ _ (by omega)]
      exact ⟨(hEb i hi).1, (hEb i hi).2.kp hk⟩
    · rw [q_u2_ne _ _ hq] at h1
      refine ⟨fun h4 => ?_, fun h4 => ?_⟩
      · obtain ⟨es, ns, hN, hE⟩ := (hT.2 _ _ a1 h1).1 h4
        refine ⟨es, ns, by rw [q_u2_ne _ _ hq]; exact hN.kp hk, fun j hj => ?_⟩
        rw [q_u2_ne _ _ (by omega)]
        exact ⟨(hE j hj).1, (hE j hj).2.kp hk⟩
      · obtain ⟨es, ns, hN, hE⟩ := (hT.2 _ _ a1 h1).2 h4
        exact ⟨es, ns, by rw [q_u2_ne _ _ hq]; exact hN.kp hk, fun j hj => (hE j hj).kp hk⟩
theorem q_f_mono (ks : List KV) (key : Int32) {l : Nat} (hl : l < 4) : (q_f ks (l + 1) (q_p (l + 1) key)).length ≤ (q_f ks l (q_p l key)).length := by
  rw [q_f_len4 ks hl (q_p l key), q_p_s hl key]
  have h5 := q_d_lt l key
  have h6 : q_d l key = 0 ∨ q_d l key = 1 ∨ q_d l key = 2 ∨ q_d l key = 3 := by omega
  rcases h6 with h6 | h6 | h6 | h6 <;> rw [h6] <;> omega
theorem Tr.none_up (hT : Tr f A ks bel) (key : Int32) {l : Nat} (hn : A l (q_p l key) = none) : ∀ m, A (l + m) (q_p (l + m) key) = none := by
  intro m
  induction m with
  | zero => exact hn
  | succ m ih =>
    cases hA : A (l + (m + 1)) (q_p (l + (m + 1)) key) with
    | none => rfl
    | some b =>
      exfalso
      have h1 := (hT.1 _ _).mp ⟨b, hA⟩
      have h2 : l + m < 4 := by omega
      have h3 := q_f_mono ks key h2
      have h4 : 2 ≤ (q_f ks (l + m + 1) (q_p (l + m + 1) key)).length := by
        rcases h1.2.2 with h4 | h4
        · omega
        · exact h4
      obtain ⟨c, hc⟩ := (hT.1 (l + m) (q_p (l + m) key)).mpr ⟨by omega, q_p_lt (by omega) key, Or.inr (by omega)⟩
      rw [ih] at hc
      cases hc
def q_cn (A : Nat → Nat → Option Nat) (bel : Nat → Nat → Int32) (g key : Int32) : Nat → Nat
  | 0 => 0
  | n + 1 => q_cn A bel g key n + (if (A n (q_p n key)).isSome ∧ ¬ bel n (q_p n key) = g then 1 else 0)
theorem q_cn_up {n : Nat} : ∀ m, (∀ i, i < m → A (n + i) (q_p (n + i) key) = none) → q_cn A bel g key (n + m) = q_cn A bel g key n
  | 0, _ => rfl
  | m + 1, h => by
    rw [show n + (m + 1) = n + m + 1 by omega, q_cn, q_cn_up m (fun i hi => h i (by omega)), h m (by omega)]
    simp
theorem q_cn_le : ∀ n, q_cn A bel g key n ≤ n
  | 0 => Nat.le_refl _
  | n + 1 => by
    have := q_cn_le n
    unfold q_cn
    split <;> omega
/-- the first n nodes of the key's way are the map's own -/
def Ow (h f : x_H) (A A' : Nat → Nat → Option Nat) (ks : List KV) (bel bel' : Nat → Nat → Int32) (ps ps' : Nat → Nat × Nat) (g key : Int32) (t n : Nat) : Prop :=
  Tr f A' ks bel' ∧ Ps ps' A' ∧ (∀ b, b < h.1 → ps' b = ps b) ∧ (∀ l p, bel' l p = if l < n ∧ p = q_p l key ∧ (A l p).isSome then g else bel l p) ∧ (∀ l p, (A' l p).isSome = (A l p).isSome) ∧
  (∀ l p, (bel' l p = bel l p → A' l p = A l p) ∧ (bel' l p ≠ bel l p → ∀ a, A' l p = some a → h.1 ≤ a)) ∧
  Fr (fun b => b = t ∨ ∃ l a, A l (q_p l key) = some a ∧ bel l (q_p l key) = g ∧ b = a + 2) h f
theorem Ow.up {n : Nat} (ho : Ow h f A A' ks bel bel' ps ps' g key t n) {m : Nat} (hn : ∀ i, i < m → A (n + i) (q_p (n + i) key) = none) : Ow h f A A' ks bel bel' ps ps' g key t (n + m) := by
  obtain ⟨h1, h2, h3, h4, h5⟩ := ho
  refine ⟨h1, h2, h3, fun l p => ?_, h5⟩
  rw [h4]
  by_cases hq : l < n ∧ p = q_p l key ∧ (A l p).isSome
  · rw [if_pos hq, if_pos ⟨by omega, hq.2⟩]
  · rw [if_neg hq, if_neg]
    intro z
    apply hq
    refine ⟨?_, z.2⟩
    apply Classical.byContradiction
    intro h6
    have := hn (l - n) (by omega)
    rw [show n + (l - n) = l by omega, ← z.2.1] at this
    rw [this] at z
    exact absurd z.2.2 (by simp)
set_option maxRecDepth 100000 in
theorem s_ownWay (hT : Tr h A ks bel) (hP : Ps ps A) {root : Nat} (hr : A 0 0 = some root) {ro : Int32} (ht : h.2.2 t = some (.inr (4, [.ref root, .int g, .int ro]))) (key : Int32) (hd : 2 ≤ d) (hc1 : h.1 + 15 ≤ x_cap K) (hc2 : h.2.1 + 55 ≤ x_cas K) :
    Go K M_Tri_ownWay d 0 [some (.ref t), some (.int key), none, none, none, none, none] [] h (x_rt (fun v f' => ∃ A'' bel'' ps'' root'', v = some (.int (nI (q_cn A bel g key 5))) ∧ Ow h f' A A'' ks bel bel'' ps ps'' g key t 5 ∧ A'' 0 0 = some root'' ∧
      f'.2.2 t = some (.inr (4, [.ref root'', .int g, .int ro])) ∧ f'.1 ≤ h.1 + 15 ∧ f'.2.1 ≤ h.2.1 + 55)) := by
  obtain ⟨Q, hQ⟩ : ∃ Q : x_O → x_H → Prop, Q = (x_rt (fun v f' => ∃ A'' bel'' ps'' root'', v = some (.int (nI (q_cn A bel g key 5))) ∧ Ow h f' A A'' ks bel bel'' ps ps'' g key t 5 ∧ A'' 0 0 = some root'' ∧
      f'.2.2 t = some (.inr (4, [.ref root'', .int g, .int ro])) ∧ f'.1 ≤ h.1 + 15 ∧ f'.2.1 ≤ h.2.1 + 55)) := ⟨_, rfl⟩
  rw [← hQ]
  have fin : ∀ f A' bel' ps' root' cnt x3 x4 x5 x6, Ow h f A A' ks bel bel' ps ps' g key t 5 → A' 0 0 = some root' → f.2.2 t = some (.inr (4, [.ref root', .int g, .int ro])) → cnt = q_cn A bel g key 5 → f.1 ≤ h.1 + 15 → f.2.1 ≤ h.2.1 + 55 →
      Go K M_Tri_ownWay d 122 [some (.ref t), some (.int key), some (.int (nI cnt)), x3, x4, x5, x6] [] f Q := by
    intro f A' bel' ps' root' cnt x3 x4 x5 x6 ho hr' ht' hcnt hb1 hb2
    subst hcnt
    refine go_iload_n (pc' := 123) (i := 2) d_Tri_ownWay_122 rfl rfl rfl ?_
    refine go_ireturn d_Tri_ownWay_123 rfl (by rfl) ?_
    rw [hQ]
    exact ⟨A', bel', ps', root', rfl, ho, hr', ht', hb1, hb2⟩
  have loop : ∀ r l f A' bel' ps' root' a cnt x5 x6, l + r = 4 → Ow h f A A' ks bel bel' ps ps' g key t (l + 1) → A' l (q_p l key) = some a → A' 0 0 = some root' → f.2.2 t = some (.inr (4, [.ref root', .int g, .int ro])) → cnt = q_cn A bel g key (l + 1) →
      f.1 ≤ h.1 + 3 * (l + 1) → f.2.1 ≤ h.2.1 + 11 * (l + 1) → x_k x5 = x5 → x_k x6 = x6 → Go K M_Tri_ownWay d 43 [some (.ref t), some (.int key), some (.int (nI cnt)), some (.ref a), some (.int (nI l)), x5, x6] [] f Q := by
    intro r
    induction r with
    | zero =>
      intro l f A' bel' ps' root' a cnt x5 x6 hl ho ha hr' ht' hcnt hb1 hb2 k5 k6
      have hl4 : l = 4 := by omega
      subst hl4
      refine go_iload (pc' := 45) (i := 4) d_Tri_ownWay_43 rfl rfl ?_
      refine go_iconst (pc' := 46) (v := (nI 4)) d_Tri_ownWay_45 (by decide) rfl ?_
      refine go_icmp_geN (tgt := 122) (pc' := 49) d_Tri_ownWay_46 (by decide) rfl (by omega) (by omega) (fun hc => ?_) (fun hc => ?_)
      · exact fin f A' bel' ps' root' cnt _ _ _ _ ho hr' ht' hcnt (by omega) (by omega)
      · omega
    | succ r ih =>
      intro l f A' bel' ps' root' a cnt x5 x6 hl ho ha hr' ht' hcnt hb1 hb2 k5 k6
      have hl4 : l < 4 := by omega
      refine go_dom fun hdom => ?_
      obtain ⟨hT', hP', hps, hbel, hsome, hsame, hfr⟩ := ho
      obtain ⟨es, ns, hN, hE⟩ := (hT'.2 l _ a ha).1 hl4
      have hd4 := q_d_lt l key
      have hns := (hE _ hd4).1
      rw [← q_p_s hl4] at hns
      have hN' := hN
      obtain ⟨h0, h1, h2⟩ := hN
      have hcl := q_cn_le (A := A) (bel := bel) (g := g) (key := key) (l + 1)
      refine go_iload (pc' := 45) (i := 4) d_Tri_ownWay_43 rfl rfl ?_
      refine go_iconst (pc' := 46) (v := (nI 4)) d_Tri_ownWay_45 (by decide) rfl ?_
      refine go_icmp_geN (tgt := 122) (pc' := 49) d_Tri_ownWay_46 (by decide) rfl (by omega) (by omega) (fun hc => ?_) (fun hc => ?_)
      · omega
      · refine go_iload_n (pc' := 50) (i := 1) d_Tri_ownWay_49 rfl rfl rfl ?_
        refine go_iload (pc' := 52) (i := 4) d_Tri_ownWay_50 rfl rfl ?_
        refine go_callS (pc' := 55) (M' := M_Tri_digit) [_, _] d_Tri_ownWay_52 t_195 t_196 t_1 cd_Tri_digit nm_Tri_digit rfl rfl (Nat.le_of_ble_eq_true rfl) rfl (s_digit (d := d - 1) key hl4) (by first | decide | omega) (Nat.le_of_ble_eq_true rfl) rfl (fun v hh hq => ?_) (fun q g hq => by cases hq.1)
        obtain ⟨e1, rfl⟩ := hq
        cases e1
        show Go K M_Tri_ownWay d 55 _ [.int (nI (q_d l key))] f _
        refine go_istore (pc' := 57) (i := 5) d_Tri_ownWay_55 (by decide) (x_s5 rfl) rfl ?_
        refine go_aload_n (pc' := 58) (i := 3) d_Tri_ownWay_57 rfl rfl (by first | rfl | exact x_r_rf _) rfl ?_
        refine go_getfield (pc' := 61) d_Tri_ownWay_58 c_Nod 2 (by decide) t_46 (by first | assumption | exact x_up_self _ _ _ | exact x_nw_self _ _ _ | (rw [x_up_ne (by first | omega | (simp only [x_up, x_nw]; omega))]; first | assumption | exact x_up_self _ _ _ | (rw [x_up_ne (by first | omega | (simp only [x_up, x_nw]; omega))]; first | assumption | exact x_up_self _ _ _)) | (rw [x_nw_ne (by first | omega | (simp only [x_up, x_nw]; omega))]; first | assumption | exact x_up_self _ _ _ | (rw [x_up_ne (by first | omega | (simp only [x_up, x_nw]; omega))]; assumption))) (by rfl) rfl ?_
        refine go_iload (pc' := 63) (i := 5) d_Tri_ownWay_61 rfl rfl ?_
        refine go_aaldN (pc' := 64) d_Tri_ownWay_63 (by first | assumption | exact x_up_self _ _ _ | exact x_nw_self _ _ _ | (rw [x_up_ne (by first | omega | (simp only [x_up, x_nw]; omega))]; first | assumption | exact x_up_self _ _ _ | (rw [x_up_ne (by first | omega | (simp only [x_up, x_nw]; omega))]; first | assumption | exact x_up_self _ _ _)) | (rw [x_nw_ne (by first | omega | (simp only [x_up, x_nw]; omega))]; first | assumption | exact x_up_self _ _ _ | (rw [x_up_ne (by first | omega | (simp only [x_up, x_nw]; omega))]; assumption))) (by rfl) (by first | assumption | omega | (simp only [x_up, x_nw]; omega)) (by first | assumption | omega | (simp only [x_up, x_nw]; omega)) rfl ?_
        rw [hns]
        refine go_astore (pc' := 66) (i := 6) d_Tri_ownWay_64 (by decide) (x_r_rf _) (x_s6 rfl) rfl ?_
        refine go_aload (pc' := 68) (i := 6) d_Tri_ownWay_66 rfl (by first | rfl | exact x_r_rf _) rfl ?_
        have hbn : bel' (l + 1) (q_p (l + 1) key) = bel (l + 1) (q_p (l + 1) key) := by rw [hbel, if_neg (by omega)]
        have hAn := (hsame (l + 1) (q_p (l + 1) key)).1 hbn
        refine go_ifnonnull (tgt := 74) (pc' := 71) d_Tri_ownWay_68 (by decide) rfl (fun b hc => ?_) (fun hc => ?_)
        · have hcA := hc
          rw [hc]
          obtain ⟨nb, esb, kb, nsb, hNb, hlb, hEb, hMb, hcb⟩ := hT'.nd hc
          have hAb : A (l + 1) (q_p (l + 1) key) = some b := by rw [← hAn]; exact hc
          have hb0 := hNb.1
          refine go_aload (pc' := 76) (i := 6) d_Tri_ownWay_74 rfl rfl rfl ?_
          refine go_getfield (pc' := 79) d_Tri_ownWay_76 c_Nod 0 (by decide) t_41 (by first | assumption | exact x_up_self _ _ _ | exact x_nw_self _ _ _ | (rw [x_up_ne (by first | omega | (simp only [x_up, x_nw]; omega))]; first | assumption | exact x_up_self _ _ _ | (rw [x_up_ne (by first | omega | (simp only [x_up, x_nw]; omega))]; first | assumption | exact x_up_self _ _ _)) | (rw [x_nw_ne (by first | omega | (simp only [x_up, x_nw]; omega))]; first | assumption | exact x_up_self _ _ _ | (rw [x_up_ne (by first | omega | (simp only [x_up, x_nw]; omega))]; assumption))) (by rfl) rfl ?_
          refine go_aload_n (pc' := 80) (i := 0) d_Tri_ownWay_79 rfl rfl (by first | rfl | exact x_r_rf _) rfl ?_
          refine go_getfield (pc' := 83) d_Tri_ownWay_80 c_Map 1 (by decide) t_61 (by first | assumption | exact x_up_self _ _ _ | exact x_nw_self _ _ _ | (rw [x_up_ne (by first | omega | (simp only [x_up, x_nw]; omega))]; first | assumption | exact x_up_self _ _ _ | (rw [x_up_ne (by first | omega | (simp only [x_up, x_nw]; omega))]; first | assumption | exact x_up_self _ _ _)) | (rw [x_nw_ne (by first | omega | (simp only [x_up, x_nw]; omega))]; first | assumption | exact x_up_self _ _ _ | (rw [x_up_ne (by first | omega | (simp only [x_up, x_nw]; omega))]; assumption))) (by rfl) rfl ?_
          refine go_icmp_eq (tgt := 113) (pc' := 86) d_Tri_ownWay_83 (by decide) rfl (fun hc => ?_) (fun hc => ?_)
          · have hcg : bel (l + 1) (q_p (l + 1) key) = g := by rw [← hbn]; assumption
            refine go_aload (pc' := 115) (i := 6) d_Tri_ownWay_113 rfl (by first | rfl | exact x_r_rf _) rfl ?_
            refine go_astore_n (pc' := 116) (i := 3) d_Tri_ownWay_115 rfl (by decide) (by first | rfl | exact x_r_rf _) (x_s3 (by first | rfl | exact x_k_rf _)) rfl ?_
            refine go_iinc (pc' := 119) (i := 4) d_Tri_ownWay_116 rfl (x_i1 _) (by decide) (x_s4 (by first | rfl | exact x_k_rf _)) rfl ?_
            refine go_goto (tgt := 43) d_Tri_ownWay_119 (by decide) ?_
            refine ih (l + 1) f A' bel' ps' root' b cnt _ _ (by omega) ⟨hT', hP', hps, fun l1 p1 => ?_, hsome, hsame, hfr⟩ hcA hr' ht' ?_ (by omega) (by omega) rfl rfl
            · rw [hbel]
              by_cases hq : l1 < l + 1 ∧ p1 = q_p l1 key ∧ (A l1 p1).isSome
              · rw [if_pos hq, if_pos ⟨by omega, hq.2⟩]
              · rw [if_neg hq]
                by_cases hq2 : l1 < l + 1 + 1 ∧ p1 = q_p l1 key ∧ (A l1 p1).isSome
                · rw [if_pos hq2]
                  have : l1 = l + 1 := by
                    apply Classical.byContradiction
                    intro z
                    exact hq ⟨by omega, hq2.2⟩
                  subst this
                  rw [hq2.2.1]
                  exact hcg
                · rw [if_neg hq2]
            · rw [hcnt, q_cn.eq_def A bel g key (l + 1 + 1)]
              simp only
              rw [if_neg (fun z => z.2 hcg)]
              rfl
          · have hcg : ¬ bel (l + 1) (q_p (l + 1) key) = g := by rw [← hbn]; assumption
            refine go_aload (pc' := 88) (i := 6) d_Tri_ownWay_86 rfl rfl rfl ?_
            refine go_aload_n (pc' := 89) (i := 0) d_Tri_ownWay_88 rfl rfl (by first | rfl | exact x_r_rf _) rfl ?_
            refine go_getfield (pc' := 92) d_Tri_ownWay_89 c_Map 1 (by decide) t_61 (by first | assumption | exact x_up_self _ _ _ | exact x_nw_self _ _ _ | (rw [x_up_ne (by first | omega | (simp only [x_up, x_nw]; omega))]; first | assumption | exact x_up_self _ _ _ | (rw [x_up_ne (by first | omega | (simp only [x_up, x_nw]; omega))]; first | assumption | exact x_up_self _ _ _)) | (rw [x_nw_ne (by first | omega | (simp only [x_up, x_nw]; omega))]; first | assumption | exact x_up_self _ _ _ | (rw [x_up_ne (by first | omega | (simp only [x_up, x_nw]; omega))]; assumption))) (by rfl) rfl ?_
            refine go_iload (pc' := 94) (i := 4) d_Tri_ownWay_92 rfl rfl ?_
            refine go_iconst (pc' := 95) (v := (nI 1)) d_Tri_ownWay_94 (by decide) rfl ?_
            refine go_iadd (pc' := 96) d_Tri_ownWay_95 rfl ?_
            rw [nI_add]
            refine go_callS (pc' := 99) (M' := M_Tri_copyOf) [_, _, _] d_Tri_ownWay_96 t_292 t_293 t_1 cd_Tri_copyOf nm_Tri_copyOf rfl rfl (Nat.le_of_ble_eq_true rfl) rfl (s_copyOf (d := d - 1) hNb g hlb hEb hMb (by omega) (by omega) (by omega)) (by first | decide | omega) (Nat.le_of_ble_eq_true rfl) rfl (fun v hh hq => ?_) (fun q g hq => hq.elim)
            obtain ⟨rfl, f1, f2, f3, ⟨es', ns', hNc, hes', hns'⟩, hold⟩ := hq
            have ha2 := hdom _ _ h2
            show Go K M_Tri_ownWay d 99 _ [.ref f.1] hh _
            refine go_astore (pc' := 101) (i := 6) d_Tri_ownWay_99 (by decide) rfl (x_s6 rfl) rfl ?_
            have g0 : hh.2.2 a = _ := (hold a (by omega)).trans h0
            have g2 : hh.2.2 (a + 2) = _ := (hold (a + 2) ha2).trans h2
            have gc := hNc.1
            refine go_aload_n (pc' := 102) (i := 3) d_Tri_ownWay_101 rfl rfl (by first | rfl | exact x_r_rf _) rfl ?_
            refine go_getfield (pc' := 105) d_Tri_ownWay_102 c_Nod 2 (by decide) t_46 (by first | assumption | exact x_up_self _ _ _ | exact x_nw_self _ _ _ | (rw [x_up_ne (by first | omega | (simp only [x_up, x_nw]; omega))]; first | assumption | exact x_up_self _ _ _ | (rw [x_up_ne (by first | omega | (simp only [x_up, x_nw]; omega))]; first | assumption | exact x_up_self _ _ _)) | (rw [x_nw_ne (by first | omega | (simp only [x_up, x_nw]; omega))]; first | assumption | exact x_up_self _ _ _ | (rw [x_up_ne (by first | omega | (simp only [x_up, x_nw]; omega))]; assumption))) (by rfl) rfl ?_
            refine go_iload (pc' := 107) (i := 5) d_Tri_ownWay_105 rfl rfl ?_
            refine go_aload (pc' := 109) (i := 6) d_Tri_ownWay_107 rfl (by first | rfl | exact x_r_rf _) rfl ?_
            refine go_aastR (pc' := 110) d_Tri_ownWay_109 (by assumption) (by assumption) (by rfl) (by rfl) (by omega) (by omega) rfl ?_
            refine go_iinc (pc' := 113) (i := 2) d_Tri_ownWay_110 rfl (x_i1 _) (by decide) (x_s2 (by first | rfl | exact x_k_rf _)) rfl ?_
            refine go_aload (pc' := 115) (i := 6) d_Tri_ownWay_113 rfl (by first | rfl | exact x_r_rf _) rfl ?_
            refine go_astore_n (pc' := 116) (i := 3) d_Tri_ownWay_115 rfl (by decide) (by first | rfl | exact x_r_rf _) (x_s3 (by first | rfl | exact x_k_rf _)) rfl ?_
            refine go_iinc (pc' := 119) (i := 4) d_Tri_ownWay_116 rfl (x_i1 _) (by decide) (x_s4 (by first | rfl | exact x_k_rf _)) rfl ?_
            refine go_goto (tgt := 43) d_Tri_ownWay_119 (by decide) ?_
            have hF : Fo (fun z => z = a) f (x_up hh (a + 2) (.inl (4, 4, .inr (.inr (.inr (.inr (va_up ns (q_d l key) (some f.1)))))))) := by
              refine ⟨fun z hz => ?_, fun z c hz hw => ?_⟩
              · have hz' : z = a := hz
                subst hz'
                exact ⟨_, _, _, _, _, hN'⟩
              · rw [x_up_ne (hw a rfl).2, hold z (hdom z c hz)]
                exact hz
            have hNa2 : Nd (x_up hh (a + 2) (.inl (4, 4, .inr (.inr (.inr (.inr (va_up ns (q_d l key) (some f.1)))))))) a (bel' l (q_p l key)) 4 es 4 (va_up ns (q_d l key) (some f.1)) :=
              ⟨(x_up_ne (by omega)).trans g0, (x_up_ne (by omega)).trans ((hold _ (by omega)).trans h1), x_up_self _ _ _⟩
            have hNc2 : Nd (x_up hh (a + 2) (.inl (4, 4, .inr (.inr (.inr (.inr (va_up ns (q_d l key) (some f.1)))))))) f.1 g nb es' kb ns' :=
              ⟨(x_up_ne (by omega)).trans hNc.1, (x_up_ne (by omega)).trans hNc.2.1, (x_up_ne (by omega)).trans hNc.2.2⟩
            have hT2 := hT'.child hP' hl4 hd4 ha (by rw [← q_p_s hl4]; exact hcA) hF hN' hNa2 g (fun n2 esb2 k2 nsb2 gb2 hN2 => by
              obtain ⟨-, rfl, rfl, rfl, rfl⟩ := hNb.uniq hN2
              exact ⟨es', ns', hNc2, hes', hns'⟩)
            rw [← q_p_s hl4] at hT2
            have haf : ∀ l1 p1 a1, A' l1 p1 = some a1 → a1 < f.1 := fun l1 p1 a1 h9 => by
              obtain ⟨_, _, _, _, hN9, -⟩ := hT'.nd h9
              exact hdom _ _ hN9.1
            have hgw : bel' l (q_p l key) = g := by
              have hs9 := hsome l (q_p l key)
              rw [ha] at hs9
              rw [hbel, if_pos ⟨by omega, rfl, hs9.symm⟩]
            refine ih (l + 1) _ (q_u2 A' (l + 1) (q_p (l + 1) key) (some f.1)) (q_u2 bel' (l + 1) (q_p (l + 1) key) g) (va_up ps' f.1 (l + 1, q_p (l + 1) key)) root' f.1 _ _ _ (by omega) ⟨hT2, ?_, ?_, ?_, ?_, ?_, ?_⟩ (q_u2_self _ _ _ _) ?_ ?_ ?_ ?_ ?_ rfl rfl
            · intro l1 p1 a1 h9
              by_cases hq : l1 = l + 1 ∧ p1 = q_p (l + 1) key
              · obtain ⟨rfl, rfl⟩ := hq
                rw [q_u2_self] at h9
                cases h9
                exact va_up_self _ _ _
              · rw [q_u2_ne _ _ hq] at h9
                have := haf _ _ _ h9
                rw [va_up_ne _ _ (by omega)]
                exact hP' _ _ _ h9
            · intro z hz
              have := hfr.1
              rw [va_up_ne _ _ (by omega)]
              exact hps z hz
            · intro l1 p1
              by_cases hq : l1 = l + 1 ∧ p1 = q_p (l + 1) key
              · obtain ⟨rfl, rfl⟩ := hq
                rw [q_u2_self, if_pos ⟨by omega, rfl, by rw [hAb]; rfl⟩]
              · rw [q_u2_ne _ _ hq, hbel]
                by_cases hq2 : l1 < l + 1 ∧ p1 = q_p l1 key ∧ (A l1 p1).isSome
                · rw [if_pos hq2, if_pos ⟨by omega, hq2.2⟩]
                · rw [if_neg hq2, if_neg]
                  intro z
                  apply hq2
                  refine ⟨?_, z.2⟩
                  apply Classical.byContradiction
                  intro z2
                  have : l1 = l + 1 := by omega
                  subst this
                  exact hq ⟨rfl, z.2.1⟩
            · intro l1 p1
              by_cases hq : l1 = l + 1 ∧ p1 = q_p (l + 1) key
              · obtain ⟨rfl, rfl⟩ := hq
                rw [q_u2_self, hAb]
                rfl
              · rw [q_u2_ne _ _ hq]
                exact hsome l1 p1
            · intro l1 p1
              by_cases hq : l1 = l + 1 ∧ p1 = q_p (l + 1) key
              · obtain ⟨rfl, rfl⟩ := hq
                rw [q_u2_self, q_u2_self]
                refine ⟨fun z => absurd z.symm hcg, fun _ a9 h9 => ?_⟩
                cases h9
                exact hfr.1
              · rw [q_u2_ne _ _ hq, q_u2_ne _ _ hq]
                exact hsame l1 p1
            · refine ⟨by have := hfr.1; show h.1 ≤ hh.1; omega, by have := hfr.2.1; show h.2.1 ≤ hh.2.1; omega, fun z hz hs => ?_⟩
              have hzf : z < f.1 := Nat.lt_of_lt_of_le hz hfr.1
              have hza : z ≠ a + 2 := by
                intro e
                apply hs
                right
                have hbb : bel' l (q_p l key) = bel l (q_p l key) := by
                  apply Classical.byContradiction
                  intro z2
                  have := (hsame l (q_p l key)).2 z2 a ha
                  omega
                exact ⟨l, a, by rw [← (hsame l _).1 hbb]; exact ha, by rw [← hbb]; exact hgw, e⟩
              rw [x_up_ne hza, hold z hzf]
              exact hfr.2.2 z hz hs
            · rw [q_u2_ne _ _ (by omega)]
              exact hr'
            · have htf := hdom _ _ ht'
              have hta : t ≠ a + 2 := fun e => by rw [e, h2] at ht'; cases ht'
              rw [x_up_ne hta, hold t htf]
              exact ht'
            · rw [q_cn.eq_def A bel g key (l + 1 + 1)]
              simp only
              rw [if_pos ⟨by rw [hAb]; rfl, hcg⟩, hcnt]
            · show hh.1 ≤ _
              omega
            · show hh.2.1 ≤ _
              omega
        · refine go_goto (tgt := 122) d_Tri_ownWay_71 (by decide) ?_
          have hnone : A (l + 1) (q_p (l + 1) key) = none := by rw [← hAn]; exact hc
          have hup := hT.none_up key hnone
          have ho5 := Ow.up (m := 4 - l) (⟨hT', hP', hps, hbel, hsome, hsame, hfr⟩ : Ow h f A A' ks bel bel' ps ps' g key t (l + 1)) (fun i _ => hup i)
          rw [show l + 1 + (4 - l) = 5 by omega] at ho5
          have hc5 := q_cn_up (A := A) (bel := bel) (g := g) (key := key) (n := l + 1) (4 - l) (fun i _ => hup i)
          rw [show l + 1 + (4 - l) = 5 by omega] at hc5
          exact fin f A' bel' ps' root' cnt _ _ _ _ ho5 hr' ht' (by rw [hcnt, hc5]) (by omega) (by omega)
  refine go_dom fun hdom => ?_
  obtain ⟨nb, esb, kb, nsb, hNb, hlb, hEb, hMb, hcb⟩ := hT.nd hr
  have hb0 := hNb.1
  refine go_iconst (pc' := 1) (v := (nI 0)) d_Tri_ownWay_0 (by decide) rfl ?_
  refine go_istore_n (pc' := 2) (i := 2) d_Tri_ownWay_1 rfl (by decide) (x_s2 (by first | rfl | exact x_k_rf _)) rfl ?_
  refine go_aload_n (pc' := 3) (i := 0) d_Tri_ownWay_2 rfl rfl (by first | rfl | exact x_r_rf _) rfl ?_
  refine go_getfield (pc' := 6) d_Tri_ownWay_3 c_Map 0 (by decide) t_59 (by first | assumption | exact x_up_self _ _ _ | exact x_nw_self _ _ _ | (rw [x_up_ne (by first | omega | (simp only [x_up, x_nw]; omega))]; first | assumption | exact x_up_self _ _ _ | (rw [x_up_ne (by first | omega | (simp only [x_up, x_nw]; omega))]; first | assumption | exact x_up_self _ _ _)) | (rw [x_nw_ne (by first | omega | (simp only [x_up, x_nw]; omega))]; first | assumption | exact x_up_self _ _ _ | (rw [x_up_ne (by first | omega | (simp only [x_up, x_nw]; omega))]; assumption))) (by rfl) rfl ?_
  refine go_getfield (pc' := 9) d_Tri_ownWay_6 c_Nod 0 (by decide) t_41 (by first | assumption | exact x_up_self _ _ _ | exact x_nw_self _ _ _ | (rw [x_up_ne (by first | omega | (simp only [x_up, x_nw]; omega))]; first | assumption | exact x_up_self _ _ _ | (rw [x_up_ne (by first | omega | (simp only [x_up, x_nw]; omega))]; first | assumption | exact x_up_self _ _ _)) | (rw [x_nw_ne (by first | omega | (simp only [x_up, x_nw]; omega))]; first | assumption | exact x_up_self _ _ _ | (rw [x_up_ne (by first | omega | (simp only [x_up, x_nw]; omega))]; assumption))) (by rfl) rfl ?_
  refine go_aload_n (pc' := 10) (i := 0) d_Tri_ownWay_9 rfl rfl (by first | rfl | exact x_r_rf _) rfl ?_
  refine go_getfield (pc' := 13) d_Tri_ownWay_10 c_Map 1 (by decide) t_61 (by first | assumption | exact x_up_self _ _ _ | exact x_nw_self _ _ _ | (rw [x_up_ne (by first | omega | (simp only [x_up, x_nw]; omega))]; first | assumption | exact x_up_self _ _ _ | (rw [x_up_ne (by first | omega | (simp only [x_up, x_nw]; omega))]; first | assumption | exact x_up_self _ _ _)) | (rw [x_nw_ne (by first | omega | (simp only [x_up, x_nw]; omega))]; first | assumption | exact x_up_self _ _ _ | (rw [x_up_ne (by first | omega | (simp only [x_up, x_nw]; omega))]; assumption))) (by rfl) rfl ?_
  refine go_icmp_eq (tgt := 35) (pc' := 16) d_Tri_ownWay_13 (by decide) rfl (fun hc => ?_) (fun hc => ?_)
  · refine go_aload_n (pc' := 36) (i := 0) d_Tri_ownWay_35 rfl rfl (by first | rfl | exact x_r_rf _) rfl ?_
    refine go_getfield (pc' := 39) d_Tri_ownWay_36 c_Map 0 (by decide) t_59 (by first | assumption | exact x_up_self _ _ _ | exact x_nw_self _ _ _ | (rw [x_up_ne (by first | omega | (simp only [x_up, x_nw]; omega))]; first | assumption | exact x_up_self _ _ _ | (rw [x_up_ne (by first | omega | (simp only [x_up, x_nw]; omega))]; first | assumption | exact x_up_self _ _ _)) | (rw [x_nw_ne (by first | omega | (simp only [x_up, x_nw]; omega))]; first | assumption | exact x_up_self _ _ _ | (rw [x_up_ne (by first | omega | (simp only [x_up, x_nw]; omega))]; assumption))) (by rfl) rfl ?_
    refine go_astore_n (pc' := 40) (i := 3) d_Tri_ownWay_39 rfl (by decide) (by first | rfl | exact x_r_rf _) (x_s3 (by first | rfl | exact x_k_rf _)) rfl ?_
    refine go_iconst (pc' := 41) (v := (nI 0)) d_Tri_ownWay_40 (by decide) rfl ?_
    refine go_istore (pc' := 43) (i := 4) d_Tri_ownWay_41 (by decide) (x_s4 (by first | rfl | exact x_k_rf _)) rfl ?_
    refine loop 4 0 h A bel ps root root 0 _ _ (by omega) ⟨hT, hP, fun _ _ => rfl, fun l1 p1 => ?_, fun _ _ => rfl, fun l1 p1 => ⟨fun _ => rfl, fun z => absurd rfl z⟩, Fr.rf _ _⟩ (by rw [q_p_0]; exact hr) hr ht ?_ (by omega) (by omega) rfl rfl
    · by_cases hq : l1 < 0 + 1 ∧ p1 = q_p l1 key ∧ (A l1 p1).isSome
      · rw [if_pos hq]
        have h1 : l1 = 0 := by omega
        subst h1
        rw [hq.2.1, q_p_0]
        assumption
      · rw [if_neg hq]
    · rw [q_cn, q_cn, if_neg]
      rw [q_p_0]
      exact fun z => z.2 hc
  · refine go_aload_n (pc' := 17) (i := 0) d_Tri_ownWay_16 rfl rfl (by first | rfl | exact x_r_rf _) rfl ?_
    refine go_aload_n (pc' := 18) (i := 0) d_Tri_ownWay_17 rfl rfl (by first | rfl | exact x_r_rf _) rfl ?_
    refine go_getfield (pc' := 21) d_Tri_ownWay_18 c_Map 0 (by decide) t_59 (by first | assumption | exact x_up_self _ _ _ | exact x_nw_self _ _ _ | (rw [x_up_ne (by first | omega | (simp only [x_up, x_nw]; omega))]; first | assumption | exact x_up_self _ _ _ | (rw [x_up_ne (by first | omega | (simp only [x_up, x_nw]; omega))]; first | assumption | exact x_up_self _ _ _)) | (rw [x_nw_ne (by first | omega | (simp only [x_up, x_nw]; omega))]; first | assumption | exact x_up_self _ _ _ | (rw [x_up_ne (by first | omega | (simp only [x_up, x_nw]; omega))]; assumption))) (by rfl) rfl ?_
    refine go_aload_n (pc' := 22) (i := 0) d_Tri_ownWay_21 rfl rfl (by first | rfl | exact x_r_rf _) rfl ?_
    refine go_getfield (pc' := 25) d_Tri_ownWay_22 c_Map 1 (by decide) t_61 (by first | assumption | exact x_up_self _ _ _ | exact x_nw_self _ _ _ | (rw [x_up_ne (by first | omega | (simp only [x_up, x_nw]; omega))]; first | assumption | exact x_up_self _ _ _ | (rw [x_up_ne (by first | omega | (simp only [x_up, x_nw]; omega))]; first | assumption | exact x_up_self _ _ _)) | (rw [x_nw_ne (by first | omega | (simp only [x_up, x_nw]; omega))]; first | assumption | exact x_up_self _ _ _ | (rw [x_up_ne (by first | omega | (simp only [x_up, x_nw]; omega))]; assumption))) (by rfl) rfl ?_
    refine go_iconst (pc' := 26) (v := (nI 0)) d_Tri_ownWay_25 (by decide) rfl ?_
    refine go_callS (pc' := 29) (M' := M_Tri_copyOf) [_, _, _] d_Tri_ownWay_26 t_292 t_293 t_1 cd_Tri_copyOf nm_Tri_copyOf rfl rfl (Nat.le_of_ble_eq_true rfl) rfl (s_copyOf (d := d - 1) (l := 0) hNb g (by omega) hEb hMb (by omega) (by omega) (by omega)) (by first | decide | omega) (Nat.le_of_ble_eq_true rfl) rfl (fun v hh hq => ?_) (fun q g hq => hq.elim)
    obtain ⟨rfl, f1, f2, f3, ⟨es', ns', hNc, hes', hns'⟩, hold⟩ := hq
    have htf := hdom _ _ ht
    show Go K M_Tri_ownWay d 29 _ [.ref h.1, .ref t] hh _
    have g0 : hh.2.2 t = _ := (hold t htf).trans ht
    refine go_putfield (pc' := 32) d_Tri_ownWay_29 c_Map 0 (by decide) rfl t_59 (by first | assumption | exact x_up_self _ _ _ | exact x_nw_self _ _ _ | (rw [x_up_ne (by first | omega | (simp only [x_up, x_nw]; omega))]; first | assumption | exact x_up_self _ _ _ | (rw [x_up_ne (by first | omega | (simp only [x_up, x_nw]; omega))]; first | assumption | exact x_up_self _ _ _)) | (rw [x_nw_ne (by first | omega | (simp only [x_up, x_nw]; omega))]; first | assumption | exact x_up_self _ _ _ | (rw [x_up_ne (by first | omega | (simp only [x_up, x_nw]; omega))]; assumption))) (by rfl) (by rfl) (by first | exact Nat.le_of_ble_eq_true rfl | simp) rfl ?_
    refine go_iinc (pc' := 35) (i := 2) d_Tri_ownWay_32 rfl (x_i1 _) (by decide) (x_s2 (by first | rfl | exact x_k_rf _)) rfl ?_
    refine go_aload_n (pc' := 36) (i := 0) d_Tri_ownWay_35 rfl rfl (by first | rfl | exact x_r_rf _) rfl ?_
    refine go_getfield (pc' := 39) d_Tri_ownWay_36 c_Map 0 (by decide) t_59 (by first | assumption | exact x_up_self _ _ _ | exact x_nw_self _ _ _ | (rw [x_up_ne (by first | omega | (simp only [x_up, x_nw]; omega))]; first | assumption | exact x_up_self _ _ _ | (rw [x_up_ne (by first | omega | (simp only [x_up, x_nw]; omega))]; first | assumption | exact x_up_self _ _ _)) | (rw [x_nw_ne (by first | omega | (simp only [x_up, x_nw]; omega))]; first | assumption | exact x_up_self _ _ _ | (rw [x_up_ne (by first | omega | (simp only [x_up, x_nw]; omega))]; assumption))) (by rfl) rfl ?_
    refine go_astore_n (pc' := 40) (i := 3) d_Tri_ownWay_39 rfl (by decide) (by first | rfl | exact x_r_rf _) (x_s3 (by first | rfl | exact x_k_rf _)) rfl ?_
    refine go_iconst (pc' := 41) (v := (nI 0)) d_Tri_ownWay_40 (by decide) rfl ?_
    refine go_istore (pc' := 43) (i := 4) d_Tri_ownWay_41 (by decide) (x_s4 (by first | rfl | exact x_k_rf _)) rfl ?_
    have hk : Kp h (x_up hh t (.inr (4, [.ref h.1, .int g, .int ro]))) := fun b c hb hx => by
      have hne : b ≠ t := fun e => by rw [e, ht] at hb; cases hb; cases hx
      rw [x_up_ne hne, hold b (hdom b c hb)]
      exact hb
    have hNc2 : Nd (x_up hh t (.inr (4, [.ref h.1, .int g, .int ro]))) h.1 g nb es' kb ns' := ⟨(x_up_ne (by omega)).trans hNc.1, (x_up_ne (by omega)).trans hNc.2.1, (x_up_ne (by omega)).trans hNc.2.2⟩
    have hT2 := hT.root hk hr g (fun n2 esb2 k2 nsb2 gb2 hN2 => by
      obtain ⟨-, rfl, rfl, rfl, rfl⟩ := hNb.uniq hN2
      exact ⟨es', ns', hNc2, hes', hns'⟩)
    have haf : ∀ l1 p1 a1, A l1 p1 = some a1 → a1 < h.1 := fun l1 p1 a1 h9 => by
      obtain ⟨_, _, _, _, hN9, -⟩ := hT.nd h9
      exact hdom _ _ hN9.1
    refine loop 4 0 _ (q_u2 A 0 0 (some h.1)) (q_u2 bel 0 0 g) (va_up ps h.1 (0, 0)) h.1 h.1 1 _ _ (by omega) ⟨hT2, ?_, ?_, ?_, ?_, ?_, ?_⟩ (by rw [q_p_0]; exact q_u2_self _ _ _ _) (q_u2_self _ _ _ _) (x_up_self _ _ _) ?_ ?_ ?_ rfl rfl
    · intro l1 p1 a1 h9
      by_cases hq : l1 = 0 ∧ p1 = 0
      · obtain ⟨rfl, rfl⟩ := hq
        rw [q_u2_self] at h9
        cases h9
        exact va_up_self _ _ _
      · rw [q_u2_ne _ _ hq] at h9
        have := haf _ _ _ h9
        rw [va_up_ne _ _ (by omega)]
        exact hP _ _ _ h9
    · intro z hz
      rw [va_up_ne _ _ (by omega)]
    · intro l1 p1
      by_cases hq : l1 = 0 ∧ p1 = 0
      · obtain ⟨rfl, rfl⟩ := hq
        rw [q_u2_self, if_pos ⟨by omega, by rw [q_p_0], by rw [hr]; rfl⟩]
      · rw [q_u2_ne _ _ hq, if_neg]
        intro z
        have h1 : l1 = 0 := by omega
        subst h1
        rw [q_p_0] at z
        exact hq ⟨rfl, z.2.1⟩
    · intro l1 p1
      by_cases hq : l1 = 0 ∧ p1 = 0
      · obtain ⟨rfl, rfl⟩ := hq
        rw [q_u2_self, hr]
        rfl
      · rw [q_u2_ne _ _ hq]
    · intro l1 p1
      by_cases hq : l1 = 0 ∧ p1 = 0
      · obtain ⟨rfl, rfl⟩ := hq
        rw [q_u2_self, q_u2_self]
        refine ⟨fun z => absurd z.symm hc, fun _ a9 h9 => ?_⟩
        cases h9
        exact Nat.le_refl _
      · rw [q_u2_ne _ _ hq, q_u2_ne _ _ hq]
        exact ⟨fun _ => rfl, fun z => absurd rfl z⟩
    · refine ⟨by show h.1 ≤ hh.1; omega, by show h.2.1 ≤ hh.2.1; omega, fun z hz hs => ?_⟩
      rw [x_up_ne (fun e => hs (Or.inl e)), hold z hz]
    · rw [q_cn, q_cn, if_pos]
      rw [q_p_0, hr]
      exact ⟨rfl, hc⟩
    · show hh.1 ≤ _
      omega
    · show hh.2.1 ≤ _
      omega
end TF
