def Cu (h : x_H) (q : Nat) (L : Int32) (way : Nat → Option Nat) (pl : Nat → Int32) : Prop :=
  h.2.2 q = some (.inr (0, [.ref (q + 1), .ref (q + 2), .int L])) ∧ h.2.2 (q + 1) = some (.inl (4, 5, .inr (.inr (.inr (.inr way))))) ∧ h.2.2 (q + 2) = some (.inl (0, 5, .inl pl))
/-- where an iterator stands: level L, on the way P, n places of each node behind it; far keys gone by -/
def Cq (A : Nat → Nat → Option Nat) (ks : List KV) (L : Nat) (way : Nat → Option Nat) (pl : Nat → Int32) (P n : Nat → Nat) (far : Nat) : Prop :=
  L ≤ 4 ∧ (∀ j, j ≤ L → ∃ a, A j (P j) = some a ∧ way j = some a) ∧ P 0 = 0 ∧ (∀ j, j < L → P (j + 1) + 1 = 4 * P j + n j ∧ 1 ≤ n j ∧ n j ≤ 4) ∧ (∀ j, j ≤ L → pl j = nI (n j)) ∧
  (L < 4 → n L ≤ 4 ∧ far = q_lt ks ((4 * P L + n L) * 4 ^ (3 - L))) ∧ (L = 4 → n 4 ≤ 6 ∧ far = q_lt ks (P 4) + min (n 4) (q_f ks 4 (P 4)).length)
def Cr (h : x_H) (q : Nat) (A : Nat → Nat → Option Nat) (ks : List KV) (far : Nat) : Prop :=
  (∃ L way pl P n, Cu h q (nI L) way pl ∧ Cq A ks L way pl P n far) ∨ (∃ way pl, Cu h q (-1) way pl ∧ far = ks.length)
section CB
variable {K : x_K} {d : Nat} {h f : x_H} {A : Nat → Nat → Option Nat} {ks : List KV} {bel : Nat → Nat → Int32} {q a b : Nat} {L : Int32} {way : Nat → Option Nat} {pl : Nat → Int32}
theorem Tr.off3 (hT : Tr h A ks bel) (hC : Cu h q L way pl) (hag : ∀ b, b ≠ q → b ≠ q + 1 → b ≠ q + 2 → f.2.2 b = h.2.2 b) : Tr f A ks bel ∧ ∀ e k v, Et h e k v → Et f e k v := by
  have hE : ∀ e k v, Et h e k v → Et f e k v := by
    intro e k v he
    have he' := he
    unfold Et at he
    have n0 : e ≠ q := fun z => by rw [z, hC.1] at he; cases he
    have n1 : e ≠ q + 1 := fun z => by rw [z, hC.2.1] at he; cases he
    have n2 : e ≠ q + 2 := fun z => by rw [z, hC.2.2] at he; cases he
    unfold Et
    rw [hag e n0 n1 n2]
    exact he
  have hEo : ∀ o x, Eo h o x → Eo f o x := by
    intro o x he
    cases o with
    | none => cases x with
      | none => trivial
      | some y => exact he.elim
    | some e => cases x with
      | none => exact he.elim
      | some y => exact hE _ _ _ he
  have hNd : ∀ a g n es k ns, (k = 4 ∨ k = 0) → Nd h a g n es k ns → Nd f a g n es k ns := by
    intro a g n es k ns hk hN
    have key : ∀ z c, h.2.2 z = some c → c ≠ .inr (0, [.ref (q + 1), .ref (q + 2), .int L]) → c ≠ .inl (4, 5, .inr (.inr (.inr (.inr way)))) → c ≠ .inl (0, 5, .inl pl) → f.2.2 z = some c := by
      intro z c hz c0 c1 c2
      rw [hag z (fun e => c0 (by rw [e, hC.1] at hz; exact (Option.some.inj hz).symm)) (fun e => c1 (by rw [e, hC.2.1] at hz; exact (Option.some.inj hz).symm)) (fun e => c2 (by rw [e, hC.2.2] at hz; exact (Option.some.inj hz).symm))]
      exact hz
    refine ⟨key _ _ hN.1 (fun z => by cases z) (fun z => by cases z) (fun z => by cases z), key _ _ hN.2.1 (fun z => by cases z) (fun z => by cases z) (fun z => by cases z), key _ _ hN.2.2 (fun z => by cases z) (fun z => ?_) (fun z => by cases z)⟩
    simp only [Sum.inl.injEq, Prod.mk.injEq] at z
    omega
  refine ⟨⟨hT.1, fun l p a ha => ⟨fun hl => ?_, fun hl => ?_⟩⟩, hE⟩
  · obtain ⟨es, ns, hN, hE2⟩ := (hT.2 l p a ha).1 hl
    exact ⟨es, ns, hNd _ _ _ _ _ _ (Or.inl rfl) hN, fun j hj => ⟨(hE2 j hj).1, hEo _ _ (hE2 j hj).2⟩⟩
  · obtain ⟨es, ns, hN, hE2⟩ := (hT.2 l p a ha).2 hl
    exact ⟨es, ns, hNd _ _ _ _ _ _ (Or.inr rfl) hN, fun j hj => hEo _ _ (hE2 j hj)⟩
theorem s_goInto0 {x : Value} : Go K M_Cur_goInto d 0 [some (.ref q), some .null] [] h (x_is none h) := by
  refine go_aload_n (pc' := 1) (i := 1) d_Cur_goInto_0 rfl rfl (by first | rfl | exact x_r_rf _) rfl ?_
  refine go_ifnull_n (tgt := 42) d_Cur_goInto_1 (by decide) ?_
  refine go_return d_Cur_goInto_42 rfl ?_
  exact ⟨rfl, rfl⟩
theorem s_goInto4 (hC : Cu h q (nI 4) way pl) : Go K M_Cur_goInto d 0 [some (.ref q), some (.ref b)] [] h (x_is none h) := by
  obtain ⟨h0, h1, h2⟩ := hC
  refine go_aload_n (pc' := 1) (i := 1) d_Cur_goInto_0 rfl rfl (by first | rfl | exact x_r_rf _) rfl ?_
  refine go_ifnull_r (pc' := 4) d_Cur_goInto_1 rfl ?_
  refine go_aload_n (pc' := 5) (i := 0) d_Cur_goInto_4 rfl rfl (by first | rfl | exact x_r_rf _) rfl ?_
  refine go_getfield (pc' := 8) d_Cur_goInto_5 c_Cur 2 (by decide) t_411 (by first | assumption | exact x_up_self _ _ _ | exact x_nw_self _ _ _ | (rw [x_up_ne (by first | omega | (simp only [x_up, x_nw]; omega))]; first | assumption | exact x_up_self _ _ _ | (rw [x_up_ne (by first | omega | (simp only [x_up, x_nw]; omega))]; first | assumption | exact x_up_self _ _ _)) | (rw [x_nw_ne (by first | omega | (simp only [x_up, x_nw]; omega))]; first | assumption | exact x_up_self _ _ _ | (rw [x_up_ne (by first | omega | (simp only [x_up, x_nw]; omega))]; assumption))) (by rfl) rfl ?_
  refine go_iconst (pc' := 9) (v := (nI 4)) d_Cur_goInto_8 (by decide) rfl ?_
  refine go_icmp_geN (tgt := 42) (pc' := 12) d_Cur_goInto_9 (by decide) rfl (by omega) (by omega) (fun hc => ?_) (fun hc => ?_)
  · refine go_return d_Cur_goInto_42 rfl ?_
    exact ⟨rfl, rfl⟩
  · omega
theorem s_goInto {l : Nat} (hl : l < 4) (hC : Cu h q (nI l) way pl) {vs : List Value} (hb : h.2.2 b = some (.inr (2, vs))) : Go K M_Cur_goInto d 0 [some (.ref q), some (.ref b)] [] h
    (x_rt (fun v f => v = none ∧ f.1 = h.1 ∧ f.2.1 = h.2.1 ∧ Cu f q (nI (l + 1)) (va_up way (l + 1) (some b)) (va_up pl (l + 1) (nI 0)) ∧ ∀ z, z ≠ q → z ≠ q + 1 → z ≠ q + 2 → f.2.2 z = h.2.2 z)) := by
  obtain ⟨h0, h1, h2⟩ := hC
  have hbq : b ≠ q := fun z => by rw [z, h0] at hb; cases hb
  refine go_aload_n (pc' := 1) (i := 1) d_Cur_goInto_0 rfl rfl (by first | rfl | exact x_r_rf _) rfl ?_
  refine go_ifnull_r (pc' := 4) d_Cur_goInto_1 rfl ?_
  refine go_aload_n (pc' := 5) (i := 0) d_Cur_goInto_4 rfl rfl (by first | rfl | exact x_r_rf _) rfl ?_
  refine go_getfield (pc' := 8) d_Cur_goInto_5 c_Cur 2 (by decide) t_411 (by first | assumption | exact x_up_self _ _ _ | exact x_nw_self _ _ _ | (rw [x_up_ne (by first | omega | (simp only [x_up, x_nw]; omega))]; first | assumption | exact x_up_self _ _ _ | (rw [x_up_ne (by first | omega | (simp only [x_up, x_nw]; omega))]; first | assumption | exact x_up_self _ _ _)) | (rw [x_nw_ne (by first | omega | (simp only [x_up, x_nw]; omega))]; first | assumption | exact x_up_self _ _ _ | (rw [x_up_ne (by first | omega | (simp only [x_up, x_nw]; omega))]; assumption))) (by rfl) rfl ?_
  refine go_iconst (pc' := 9) (v := (nI 4)) d_Cur_goInto_8 (by decide) rfl ?_
  refine go_icmp_geN (tgt := 42) (pc' := 12) d_Cur_goInto_9 (by decide) rfl (by omega) (by omega) (fun hc => ?_) (fun hc => ?_)
  · omega
  · refine go_aload_n (pc' := 13) (i := 0) d_Cur_goInto_12 rfl rfl (by first | rfl | exact x_r_rf _) rfl ?_
    refine go_dup (pc' := 14) d_Cur_goInto_13 (by first | rfl | exact x_c_rf _) rfl ?_
    refine go_getfield (pc' := 17) d_Cur_goInto_14 c_Cur 2 (by decide) t_411 (by first | assumption | exact x_up_self _ _ _ | exact x_nw_self _ _ _ | (rw [x_up_ne (by first | omega | (simp only [x_up, x_nw]; omega))]; first | assumption | exact x_up_self _ _ _ | (rw [x_up_ne (by first | omega | (simp only [x_up, x_nw]; omega))]; first | assumption | exact x_up_self _ _ _)) | (rw [x_nw_ne (by first | omega | (simp only [x_up, x_nw]; omega))]; first | assumption | exact x_up_self _ _ _ | (rw [x_up_ne (by first | omega | (simp only [x_up, x_nw]; omega))]; assumption))) (by rfl) rfl ?_
    refine go_iconst (pc' := 18) (v := (nI 1)) d_Cur_goInto_17 (by decide) rfl ?_
    refine go_iadd (pc' := 19) d_Cur_goInto_18 rfl ?_
    rw [nI_add]
    refine go_putfield (pc' := 22) d_Cur_goInto_19 c_Cur 2 (by decide) rfl t_411 (by first | assumption | exact x_up_self _ _ _ | exact x_nw_self _ _ _ | (rw [x_up_ne (by first | omega | (simp only [x_up, x_nw]; omega))]; first | assumption | exact x_up_self _ _ _ | (rw [x_up_ne (by first | omega | (simp only [x_up, x_nw]; omega))]; first | assumption | exact x_up_self _ _ _)) | (rw [x_nw_ne (by first | omega | (simp only [x_up, x_nw]; omega))]; first | assumption | exact x_up_self _ _ _ | (rw [x_up_ne (by first | omega | (simp only [x_up, x_nw]; omega))]; assumption))) (by rfl) (by rfl) (by first | exact Nat.le_of_ble_eq_true rfl | simp) rfl ?_
    refine go_aload_n (pc' := 23) (i := 0) d_Cur_goInto_22 rfl rfl (by first | rfl | exact x_r_rf _) rfl ?_
    refine go_getfield (pc' := 26) d_Cur_goInto_23 c_Cur 0 (by decide) t_409 (by first | assumption | exact x_up_self _ _ _ | exact x_nw_self _ _ _ | (rw [x_up_ne (by first | omega | (simp only [x_up, x_nw]; omega))]; first | assumption | exact x_up_self _ _ _ | (rw [x_up_ne (by first | omega | (simp only [x_up, x_nw]; omega))]; first | assumption | exact x_up_self _ _ _)) | (rw [x_nw_ne (by first | omega | (simp only [x_up, x_nw]; omega))]; first | assumption | exact x_up_self _ _ _ | (rw [x_up_ne (by first | omega | (simp only [x_up, x_nw]; omega))]; assumption))) (by rfl) rfl ?_
    refine go_aload_n (pc' := 27) (i := 0) d_Cur_goInto_26 rfl rfl (by first | rfl | exact x_r_rf _) rfl ?_
    refine go_getfield (pc' := 30) d_Cur_goInto_27 c_Cur 2 (by decide) t_411 (by first | assumption | exact x_up_self _ _ _ | exact x_nw_self _ _ _ | (rw [x_up_ne (by first | omega | (simp only [x_up, x_nw]; omega))]; first | assumption | exact x_up_self _ _ _ | (rw [x_up_ne (by first | omega | (simp only [x_up, x_nw]; omega))]; first | assumption | exact x_up_self _ _ _)) | (rw [x_nw_ne (by first | omega | (simp only [x_up, x_nw]; omega))]; first | assumption | exact x_up_self _ _ _ | (rw [x_up_ne (by first | omega | (simp only [x_up, x_nw]; omega))]; assumption))) (by rfl) rfl ?_
    refine go_aload_n (pc' := 31) (i := 1) d_Cur_goInto_30 rfl rfl (by first | rfl | exact x_r_rf _) rfl ?_
    refine go_aastR (pc' := 32) d_Cur_goInto_31 (by rw [x_up_ne (by omega)]; exact h1) (by rw [x_up_ne hbq]; exact hb) (by rfl) (by rfl) (by omega) (by omega) rfl ?_
    refine go_aload_n (pc' := 33) (i := 0) d_Cur_goInto_32 rfl rfl (by first | rfl | exact x_r_rf _) rfl ?_
    refine go_getfield (pc' := 36) d_Cur_goInto_33 c_Cur 1 (by decide) t_410 (by first | assumption | exact x_up_self _ _ _ | exact x_nw_self _ _ _ | (rw [x_up_ne (by first | omega | (simp only [x_up, x_nw]; omega))]; first | assumption | exact x_up_self _ _ _ | (rw [x_up_ne (by first | omega | (simp only [x_up, x_nw]; omega))]; first | assumption | exact x_up_self _ _ _)) | (rw [x_nw_ne (by first | omega | (simp only [x_up, x_nw]; omega))]; first | assumption | exact x_up_self _ _ _ | (rw [x_up_ne (by first | omega | (simp only [x_up, x_nw]; omega))]; assumption))) (by rfl) rfl ?_
    refine go_aload_n (pc' := 37) (i := 0) d_Cur_goInto_36 rfl rfl (by first | rfl | exact x_r_rf _) rfl ?_
    refine go_getfield (pc' := 40) d_Cur_goInto_37 c_Cur 2 (by decide) t_411 (by first | assumption | exact x_up_self _ _ _ | exact x_nw_self _ _ _ | (rw [x_up_ne (by first | omega | (simp only [x_up, x_nw]; omega))]; first | assumption | exact x_up_self _ _ _ | (rw [x_up_ne (by first | omega | (simp only [x_up, x_nw]; omega))]; first | assumption | exact x_up_self _ _ _)) | (rw [x_nw_ne (by first | omega | (simp only [x_up, x_nw]; omega))]; first | assumption | exact x_up_self _ _ _ | (rw [x_up_ne (by first | omega | (simp only [x_up, x_nw]; omega))]; assumption))) (by rfl) rfl ?_
    refine go_iconst (pc' := 41) (v := (nI 0)) d_Cur_goInto_40 (by decide) rfl ?_
    refine go_iastN (pc' := 42) d_Cur_goInto_41 (by rw [x_up_ne (by omega), x_up_ne (by omega)]; exact h2) (by rfl) (by omega) (by omega) rfl ?_
    refine go_return d_Cur_goInto_42 rfl ?_
    refine ⟨rfl, rfl, rfl, ⟨?_, ?_, x_up_self _ _ _⟩, fun z z0 z1 z2 => ?_⟩
    · rw [x_up_ne (by omega), x_up_ne (by omega)]
      exact x_up_self _ _ _
    · rw [x_up_ne (by omega)]
      exact x_up_self _ _ _
    · rw [x_up_ne z2, x_up_ne z1, x_up_ne z0]
/-- how many turns are left at the most -/
def q_mu (L : Nat) (P n : Nat → Nat) : Nat := if L < 4 then (256 - (4 * P L + n L) * 4 ^ (3 - L)) * 64 + (if n L = 4 then 32 + L else 12 - L) else (256 - P 4) * 64 + (6 - n 4)
end CB
