/-! the state of the class, as the reference has it too -/
abbrev Sg : Type := (Nat → Bool) × (Nat → Int32) × (Nat → Nat) × (Nat → List KV) × (Nat → Nat → Nat → Nat) × Nat × Nat × Int64 × (Nat → Bool) × (Nat → List KV) × (Nat → Nat)
abbrev s_th (σ : Sg) : Nat → Bool := σ.1
abbrev s_ro (σ : Sg) : Nat → Int32 := σ.2.1
abbrev s_gn (σ : Sg) : Nat → Nat := σ.2.2.1
abbrev s_ks (σ : Sg) : Nat → List KV := σ.2.2.2.1
abbrev s_bl (σ : Sg) : Nat → Nat → Nat → Nat := σ.2.2.2.2.1
abbrev s_lg (σ : Sg) : Nat := σ.2.2.2.2.2.1
abbrev s_lc (σ : Sg) : Nat := σ.2.2.2.2.2.2.1
abbrev s_vl (σ : Sg) : Int64 := σ.2.2.2.2.2.2.2.1
abbrev s_us (σ : Sg) : Nat → Bool := σ.2.2.2.2.2.2.2.2.1
abbrev s_sn (σ : Sg) : Nat → List KV := σ.2.2.2.2.2.2.2.2.2.1
abbrev s_fa (σ : Sg) : Nat → Nat := σ.2.2.2.2.2.2.2.2.2.2
def nB (bl : Nat → Nat → Nat) : Nat → Nat → Int32 := fun l p => nI (bl l p)
/-- the maps -/
def Cm (h : x_H) (σ : Sg) (mp : Nat → Option Nat) (A : Nat → Nat → Nat → Option Nat) (ps : Nat → Nat × Nat) : Prop :=
  (∀ i, i < 6 → (mp i).isSome = s_th σ i) ∧
  (∀ i t, i < 6 → mp i = some t → (∃ root, A i 0 0 = some root ∧ h.2.2 t = some (.inr (4, [.ref root, .int (nI (s_gn σ i)), .int (s_ro σ i)]))) ∧ Tr h (A i) (s_ks σ i) (nB (s_bl σ i)) ∧ Ps ps (A i) ∧ Ko (s_ks σ i) ∧ (s_ro σ i = 0 ∨ s_ro σ i = 1) ∧ s_gn σ i ≤ s_lg σ ∧
    ∀ l p a, A i l p = some a → s_bl σ i l p ≤ s_lg σ) ∧
  (∀ i j t, i < 6 → j < 6 → mp i = some t → mp j = some t → i = j) ∧
  (∀ i j, i < 6 → j < 6 → i ≠ j → s_th σ i = true → s_th σ j = true → ∀ l p a, A j l p = some a → s_bl σ j l p ≠ s_gn σ i) ∧
  (∀ i j, i < 6 → j < 6 → s_th σ i = true → s_th σ j = true → ∀ l p a b, A i l p = some a → A j l p = some b → s_bl σ i l p = s_bl σ j l p → a = b) ∧
  (∀ i j, i < 6 → j < 6 → i ≠ j → s_th σ i = true → s_th σ j = true → s_gn σ i ≠ s_gn σ j)
/-- the iterators -/
def Cc (h : x_H) (σ : Sg) (cu : Nat → Option Nat) (ps : Nat → Nat × Nat) (FA : Nat → Nat → Nat → Option Nat) (fks : Nat → List KV) (fbl : Nat → Nat → Nat → Nat) : Prop :=
  (∀ c, c < 4 → (cu c).isSome = s_us σ c) ∧
  (∀ c q, c < 4 → cu c = some q → Cr h q (FA c) (fks c) (s_fa σ c) ∧ Tr h (FA c) (fks c) (nB (fbl c)) ∧ Ps ps (FA c) ∧ Ko (fks c) ∧ s_sn σ c = q_srt (fks c) ∧ s_fa σ c ≤ (fks c).length ∧
    ∀ l p a, FA c l p = some a → fbl c l p ≤ s_lg σ ∧ ∀ i, i < 6 → s_th σ i = true → fbl c l p ≠ s_gn σ i) ∧
  (∀ c c' q, c < 4 → c' < 4 → cu c = some q → cu c' = some q → c = c')
def CS (h : x_H) (x : Nat) (σ : Sg) : Prop := ∃ mp cu A ps FA fks fbl, Ob h x mp cu (nI (s_lg σ)) (nI (s_lc σ)) (s_vl σ) ∧ Cm h σ mp A ps ∧ Cc h σ cu ps FA fks fbl ∧ s_lg σ < 2 ^ 20
/-- an object of the class, or a map -/
def Hi (h : x_H) (t : Nat) : Prop := ∃ z vt, h.2.2 t = some (.inr (z, vt)) ∧ (z = 4 ∨ z = 5)
/-- cells of the reference and of the law -/
def x_rc : x_C → Bool
  | .inl (k, n, _) => k == 1 || k == 2 || (k == 0 && n != 5)
  | .inr (z, _) => z == 6
def Kc (h f : x_H) : Prop := ∀ b c, h.2.2 b = some c → x_rc c = true → f.2.2 b = some c
theorem Kc.trans {h g f : x_H} (h1 : Kc h g) (h2 : Kc g f) : Kc h f := fun b c hb hc => h2 b c (h1 b c hb hc) hc
theorem Kc.refl {h : x_H} : Kc h h := fun _ _ hb _ => hb
/-- a write: the TrieMap at t, and the arrays of the nodes W -/
def Wf (t : Nat) (W : Nat → Prop) (h f : x_H) : Prop := (∀ b c, h.2.2 b = some c → b ≠ t → (∀ a, W a → b ≠ a + 1 ∧ b ≠ a + 2) → f.2.2 b = some c) ∧ ∀ a, W a → ∃ g n es k ns, Nd h a g n es k ns ∧ (k = 4 ∨ k = 0)
theorem Hi.l {h : x_H} {t b : Nat} {q : Nat × vp_A} (ht : Hi h t) (hb : h.2.2 b = some (.inl q)) : b ≠ t := fun e => by
  obtain ⟨z, vt, h1, -⟩ := ht
  rw [e, h1] at hb; cases hb
theorem Hi.r {h : x_H} {t b z : Nat} {vs : List Value} (ht : Hi h t) (hb : h.2.2 b = some (.inr (z, vs))) (hz : z ≠ 4 ∧ z ≠ 5) : b ≠ t := fun e => by
  obtain ⟨z', vt, h1, h2⟩ := ht
  rw [e, h1] at hb; cases hb; omega
section EA
variable {K : x_K} {d : Nat} {h f : x_H} {A : Nat → Nat → Option Nat} {ks : List KV} {bel bel2 : Nat → Nat → Int32} {t a : Nat} {W : Nat → Prop} {vt : List Value}
theorem Tr.cg (hT : Tr h A ks bel) (hb : ∀ l p a, A l p = some a → bel2 l p = bel l p) : Tr h A ks bel2 := by
  refine ⟨hT.1, fun l p a ha => ⟨fun hl => ?_, fun hl => ?_⟩⟩
  · obtain ⟨es, ns, hN, hE⟩ := (hT.2 l p a ha).1 hl
    exact ⟨es, ns, by rw [hb l p a ha]; exact hN, hE⟩
  · obtain ⟨es, ns, hN, hE⟩ := (hT.2 l p a ha).2 hl
    exact ⟨es, ns, by rw [hb l p a ha]; exact hN, hE⟩
/-- cells that aren't arrays of nodes stay -/
theorem Wf.at (hW : Wf t W h f) {b : Nat} {c : x_C} (hb : h.2.2 b = some c) (hne : b ≠ t) (h3 : ∀ n z, c ≠ .inl (3, n, z)) (h4 : ∀ z, c ≠ .inl (4, 4, z) ∧ c ≠ .inl (4, 0, z)) : f.2.2 b = some c := by
  refine hW.1 b c hb hne fun a ha => ?_
  obtain ⟨g, n, es, k, ns, hN, hk⟩ := hW.2 a ha
  refine ⟨fun e => ?_, fun e => ?_⟩
  · rw [e, hN.2.1] at hb
    exact h3 _ _ (Option.some.inj hb).symm
  · rw [e, hN.2.2] at hb
    rcases hk with rfl | rfl
    · exact (h4 _).1 (Option.some.inj hb).symm
    · exact (h4 _).2 (Option.some.inj hb).symm
theorem Wf.fo (hW : Wf t W h f) (ht : Hi h t) : ∀ {a1 : Nat} {g : Int32} {n k : Nat} {es ns : Nat → Option Nat}, Nd h a1 g n es k ns → ¬ W a1 → Nd f a1 g n es k ns := by
  intro a1 g n k es ns hN hne
  have hobj : ∀ a, W a → a1 ≠ a + 1 ∧ a1 ≠ a + 2 := fun a ha => by
    obtain ⟨g', n', es', k', ns', q, -⟩ := hW.2 a ha
    refine ⟨fun e => ?_, fun e => ?_⟩
    · have := q.2.1; rw [← e, hN.1] at this; cases this
    · have := q.2.2; rw [← e, hN.1] at this; cases this
  refine ⟨hW.1 _ _ hN.1 (ht.r hN.1 (by decide)) hobj, hW.1 _ _ hN.2.1 (ht.l hN.2.1) fun a ha => ?_, hW.1 _ _ hN.2.2 (ht.l hN.2.2) fun a ha => ?_⟩
  · have := hobj a ha
    exact ⟨fun e => hne (by rw [show a1 = a by omega]; exact ha), fun e => this.1 (by omega)⟩
  · obtain ⟨g', n', es', k', ns', q, -⟩ := hW.2 a ha
    refine ⟨fun e => ?_, fun e => hne (by rw [show a1 = a by omega]; exact ha)⟩
    have h1 : a1 + 1 = a := by omega
    have h2 := hN.2.1
    rw [h1, q.1] at h2
    cases h2
theorem Wf.eo (hW : Wf t W h f) (ht : Hi h t) {o : Option Nat} {y : Option KV} (he : Eo h o y) : Eo f o y := by
  cases o with
  | none => cases y with
    | none => trivial
    | some z => exact he.elim
  | some e => cases y with
    | none => exact he.elim
    | some z =>
      have he' : Et h e z.1 z.2 := he
      unfold Et at he'
      exact hW.at he' (ht.r he' (by decide)) nofun (fun _ => ⟨nofun, nofun⟩)
theorem Tr.wf (hT : Tr h A ks bel) (hW : Wf t W h f) (ht : Hi h t) (hne : ∀ l p a, A l p = some a → ¬ W a) : Tr f A ks bel := by
  refine ⟨hT.1, fun l p a ha => ⟨fun hl => ?_, fun hl => ?_⟩⟩
  · obtain ⟨es, ns, hN, hE⟩ := (hT.2 l p a ha).1 hl
    exact ⟨es, ns, hW.fo ht hN (hne l p a ha), fun j hj => ⟨(hE j hj).1, hW.eo ht (hE j hj).2⟩⟩
  · obtain ⟨es, ns, hN, hE⟩ := (hT.2 l p a ha).2 hl
    exact ⟨es, ns, hW.fo ht hN (hne l p a ha), fun j hj => hW.eo ht (hE j hj)⟩
theorem Cu.wf {q : Nat} {L : Int32} {way : Nat → Option Nat} {pl : Nat → Int32} (hC : Cu h q L way pl) (hW : Wf t W h f) (ht : Hi h t) : Cu f q L way pl := by
  obtain ⟨c0, c1, c2⟩ := hC
  refine ⟨hW.at c0 (ht.r c0 (by decide)) nofun (fun _ => ⟨nofun, nofun⟩), hW.at c1 (ht.l c1) nofun (fun _ => ⟨nofun, nofun⟩), hW.at c2 (ht.l c2) nofun (fun _ => ⟨nofun, nofun⟩)⟩
theorem Cr.wf {q far : Nat} (hC : Cr h q A ks far) (hW : Wf t W h f) (ht : Hi h t) : Cr f q A ks far := by
  rcases hC with ⟨L, way, pl, P, n, hC, hq⟩ | ⟨way, pl, hC, hf⟩
  · exact Or.inl ⟨L, way, pl, P, n, hC.wf hW ht, hq⟩
  · exact Or.inr ⟨way, pl, hC.wf hW ht, hf⟩
theorem Tr.lt (hT : Tr h A ks bel) (hdom : ∀ (a : Nat) (c : x_C), h.2.2 a = some c → a < h.1) {l p : Nat} (ha : A l p = some a) : a < h.1 := by
  obtain ⟨_, _, _, _, hN, -⟩ := hT.nd ha
  exact hdom _ _ hN.1
theorem Wf.kc (hW : Wf t W h f) (ht : Hi h t) : Kc h f := fun b c hb hc => by
  refine hW.at hb ?_ (fun n z e => by subst e; cases hc) (fun z => ⟨(fun e => by subst e; cases hc), (fun e => by subst e; cases hc)⟩)
  cases c with
  | inl q => exact ht.l hb
  | inr q => exact ht.r hb (by
      have : (q.1 == 6) = true := hc
      have : q.1 = 6 := by simpa using this
      omega)
/-- map i: its keys, its nodes' generations, and the count of copies -/
def p_wr (σ : Sg) (i : Nat) (ks' : List KV) (bl' : Nat → Nat → Nat) (lc : Nat) : Sg := (s_th σ, s_ro σ, s_gn σ, va_up (s_ks σ) i ks', va_up (s_bl σ) i bl', s_lg σ, lc, s_vl σ, s_us σ, s_sn σ, s_fa σ)
/-- map i is written: what becomes of the maps and the iterators -/
theorem CS.wr {σ : Sg} {mp cu : Nat → Option Nat} {B FA : Nat → Nat → Nat → Option Nat} {ps ps' : Nat → Nat × Nat} {fks : Nat → List KV} {fbl : Nat → Nat → Nat → Nat} (hdom : ∀ (a : Nat) (c : x_C), h.2.2 a = some c → a < h.1)
    (hM : Cm h σ mp B ps) (hC : Cc h σ cu ps FA fks fbl) (hlg : s_lg σ < 2 ^ 20) {i root' : Nat} (hi : i < 6) (ht : mp i = some t) {A' : Nat → Nat → Option Nat} {ks' : List KV} {bl' : Nat → Nat → Nat}
    (hW : Wf t W h f) (hWi : ∀ a, W a → ∃ l p, B i l p = some a ∧ s_bl σ i l p = s_gn σ i) (hT' : Tr f A' ks' (nB bl')) (hP' : Ps ps' A') (hps : ∀ b, b < h.1 → ps' b = ps b) (hK' : Ko ks')
    (hnew : ∀ l p a, A' l p = some a → (B i l p = some a ∧ bl' l p = s_bl σ i l p) ∨ bl' l p = s_gn σ i) (hr : A' 0 0 = some root') (hft : f.2.2 t = some (.inr (4, [.ref root', .int (nI (s_gn σ i)), .int (s_ro σ i)]))) (lc : Nat) :
    Cm f (p_wr σ i ks' bl' lc) mp (va_up B i A') ps' ∧
    Cc f (p_wr σ i ks' bl' lc) cu ps' FA fks fbl := by
  obtain ⟨m1, m2, m3, m4, m5, m6⟩ := hM
  obtain ⟨c1, c2, c3⟩ := hC
  unfold p_wr
  obtain ⟨⟨root, hroot, htc⟩, hTi, hPi, hKi, hroi, hgi, hbi⟩ := m2 i t hi ht
  have hthi : s_th σ i = true := by rw [← m1 i hi, ht]; rfl
  have hHi : Hi h t := ⟨_, _, htc, Or.inl rfl⟩
  -- a trie with other generations isn't touched
  have other : ∀ (D : Nat → Nat → Option Nat) (kd : List KV) (bd : Nat → Nat → Nat), Tr h D kd (nB bd) → Ps ps D → (∀ l p a, D l p = some a → bd l p ≤ s_lg σ ∧ bd l p ≠ s_gn σ i) → Tr f D kd (nB bd) ∧ Ps ps' D := by
    intro D kd bd hTD hPD hgD
    refine ⟨hTD.wf hW hHi (fun l p a ha hwa => ?_), fun l p a ha => by rw [hps a (hTD.lt hdom ha)]; exact hPD _ _ _ ha⟩
    obtain ⟨l2, p2, ha2, hb2⟩ := hWi a hwa
    have e1 := (hPD _ _ _ ha).symm.trans (hPi _ _ _ ha2)
    simp only [Prod.mk.injEq] at e1
    obtain ⟨rfl, rfl⟩ := e1
    obtain ⟨_, _, _, _, hN1, -⟩ := hTD.nd ha
    obtain ⟨_, _, _, _, hN2, -⟩ := hTi.nd ha2
    have e2 := (hN1.uniq hN2).1
    have hle := hgD _ _ _ ha
    have e3 : bd l p = s_bl σ i l p := (nI_eq (by omega) (by have := hbi _ _ _ ha2; omega)).mp e2
    exact hle.2 (e3.trans hb2)
  have hb' : ∀ l p a, A' l p = some a → bl' l p ≤ s_lg σ := fun l p a ha => by
    rcases hnew l p a ha with ⟨z1, z2⟩ | z
    · rw [z2]; exact hbi _ _ _ z1
    · rw [z]; exact hgi
  refine ⟨⟨m1, fun j u hj hu => ?_, m3, fun j k hj hk hjk hthj hthk l p a ha => ?_, fun j k hj hk hthj hthk l p a b ha hb hab => ?_, m6⟩, c1, fun c q hc hq => ?_, c3⟩
  · by_cases hji : j = i
    · subst hji
      cases ht.symm.trans hu
      simp only [s_ks, s_bl, va_up_self]
      exact ⟨⟨root', hr, hft⟩, hT', hP', hK', hroi, hgi, hb'⟩
    · obtain ⟨⟨rj, hrj, htj⟩, hTj, hPj, hKj, hroj, hgj, hbj⟩ := m2 j u hj hu
      have hthj : s_th σ j = true := by rw [← m1 j hj, hu]; rfl
      obtain ⟨z1, z2⟩ := other (B j) _ _ hTj hPj (fun l p a ha => ⟨hbj l p a ha, m4 i j hi hj (Ne.symm hji) hthi hthj l p a ha⟩)
      simp only [s_ks, s_bl, va_up_ne _ _ hji]
      refine ⟨⟨rj, hrj, hW.at htj (fun e => hji (m3 j i t hj hi (by rw [← e]; exact hu) ht)) nofun (fun _ => ⟨nofun, nofun⟩)⟩, z1, z2, hKj, hroj, hgj, hbj⟩
  · simp only [s_bl, s_gn] at ha ⊢
    by_cases hki : k = i
    · subst hki
      rw [va_up_self] at ha ⊢
      rcases hnew l p a ha with ⟨z1, z2⟩ | z
      · rw [z2]; exact m4 j k hj hk hjk hthj hthk l p a z1
      · rw [z]
        exact Ne.symm (m6 j k hj hk hjk hthj hthk)
    · rw [va_up_ne _ _ hki] at ha ⊢
      exact m4 j k hj hk hjk hthj hthk l p a ha
  · simp only [s_bl] at hab
    -- one side is new, the other is another map's
    have key : ∀ k', k' < 6 → k' ≠ i → s_th σ k' = true → ∀ a b, A' l p = some a → B k' l p = some b → bl' l p = s_bl σ k' l p → a = b := by
      intro k' hk' hne' hth' a b ha hb hab
      rcases hnew l p a ha with ⟨z1, z2⟩ | z
      · exact m5 i k' hi hk' hthi hth' l p a b z1 hb (z2.symm.trans hab)
      · exact absurd (hab.symm.trans z) (m4 i k' hi hk' (Ne.symm hne') hthi hth' l p b hb)
    by_cases hji : j = i
    · by_cases hki : k = i
      · rw [hji] at ha; rw [hki] at hb
        exact Option.some.inj (ha.symm.trans hb)
      · rw [hji, va_up_self] at ha hab
        rw [va_up_ne _ _ hki] at hb hab
        exact key k hk hki hthk a b ha hb hab
    · rw [va_up_ne _ _ hji] at ha hab
      by_cases hki : k = i
      · rw [hki, va_up_self] at hb hab
        exact (key j hj hji hthj b a hb ha hab.symm).symm
      · rw [va_up_ne _ _ hki] at hb hab
        exact m5 j k hj hk hthj hthk l p a b ha hb hab
  · obtain ⟨d1, d2, d3, d4, d5, d6, d7⟩ := c2 c q hc hq
    obtain ⟨z1, z2⟩ := other (FA c) _ _ d2 d3 (fun l p a ha => ⟨(d7 l p a ha).1, (d7 l p a ha).2 i hi hthi⟩)
    exact ⟨d1.wf hW hHi, z1, z2, d4, d5, d6, d7⟩
end EA
