/-! writing along a key's way -/
/-- only the arrays of the nodes in W have changed -/
def Fo (W : Nat → Prop) (f f2 : x_H) : Prop := (∀ a, W a → ∃ g n es k ns, Nd f a g n es k ns) ∧ ∀ b c, f.2.2 b = some c → (∀ a, W a → b ≠ a + 1 ∧ b ≠ a + 2) → f2.2.2 b = some c
def Ps (ps : Nat → Nat × Nat) (A : Nat → Nat → Option Nat) : Prop := ∀ l p a, A l p = some a → ps a = (l, p)
def q_u2 {α : Type} (A : Nat → Nat → α) (l p : Nat) (x : α) : Nat → Nat → α := fun l' p' => if l' = l ∧ p' = p then x else A l' p'
theorem q_u2_self {α : Type} (A : Nat → Nat → α) (l p : Nat) (x : α) : q_u2 A l p x l p = x := by simp [q_u2]
theorem q_u2_ne {α : Type} (A : Nat → Nat → α) {l p l' p' : Nat} (x : α) (h : ¬ (l' = l ∧ p' = p)) : q_u2 A l p x l' p' = A l' p' := by simp [q_u2, h]
section TE
variable {K : x_K} {d : Nat} {h f f2 : x_H} {A A2 : Nat → Nat → Option Nat} {ks ks2 : List KV} {bel bel2 : Nat → Nat → Int32} {t a a1 : Nat} {g : Int32} {W : Nat → Prop}
theorem Nd.fo (hF : Fo W f f2) {g : Int32} {n k : Nat} {es ns : Nat → Option Nat} (hN : Nd f a1 g n es k ns) (hne : ¬ W a1) : Nd f2 a1 g n es k ns := by
  have hobj : ∀ a, W a → a1 ≠ a + 1 ∧ a1 ≠ a + 2 := fun a ha => by
    obtain ⟨g', n', es', k', ns', q1, q2, q3⟩ := hF.1 a ha
    refine ⟨fun e => ?_, fun e => ?_⟩
    · rw [← e, hN.1] at q2; cases q2
    · rw [← e, hN.1] at q3; cases q3
  refine ⟨hF.2 _ _ hN.1 hobj, hF.2 _ _ hN.2.1 fun a ha => ?_, hF.2 _ _ hN.2.2 fun a ha => ?_⟩
  · have := hobj a ha
    exact ⟨fun e => hne (by rw [show a1 = a by omega]; exact ha), fun e => this.1 (by omega)⟩
  · have := hobj a ha
    obtain ⟨g', n', es', k', ns', q1, q2, q3⟩ := hF.1 a ha
    refine ⟨fun e => ?_, fun e => hne (by rw [show a1 = a by omega]; exact ha)⟩
    have h1 : a1 + 1 = a := by omega
    have h2 := hN.2.1
    rw [h1, q1] at h2
    cases h2
theorem Et.fo (hF : Fo W f f2) {e : Nat} {k : Int32} {v : Int64} (he : Et f e k v) : Et f2 e k v := by
  refine hF.2 _ _ he fun a ha => ?_
  obtain ⟨g', n', es', k', ns', q1, q2, q3⟩ := hF.1 a ha
  unfold Et at he
  refine ⟨fun e1 => ?_, fun e1 => ?_⟩
  · rw [e1, q2] at he; cases he
  · rw [e1, q3] at he; cases he
theorem Eo.fo (hF : Fo W f f2) {o : Option Nat} {x : Option KV} (he : Eo f o x) : Eo f2 o x := by
  cases o with
  | none => cases x with
    | none => trivial
    | some y => exact he.elim
  | some e => cases x with
    | none => exact he.elim
    | some y => exact Et.fo hF he
theorem Tn.off {l p : Nat} (hT : Tn f A ks bel l p a1) (hF : Fo W f f2) (hne : ¬ W a1) (hb : bel2 l p = bel l p) (hA : ∀ j, j < 4 → A2 (l + 1) (4 * p + j) = A (l + 1) (4 * p + j))
    (hq : ∀ j, j < 4 → q_f ks2 (l + 1) (4 * p + j) = q_f ks (l + 1) (4 * p + j)) (hq4 : l = 4 → q_f ks2 4 p = q_f ks 4 p) : Tn f2 A2 ks2 bel2 l p a1 := by
  refine ⟨fun hl => ?_, fun hl => ?_⟩
  · obtain ⟨es, ns, hN, hE⟩ := hT.1 hl
    refine ⟨es, ns, by rw [hb]; exact hN.fo hF hne, fun j hj => ?_⟩
    rw [hA j hj, hq j hj]
    exact ⟨(hE j hj).1, (hE j hj).2.fo hF⟩
  · obtain ⟨es, ns, hN, hE⟩ := hT.2 hl
    refine ⟨es, ns, by rw [hb]; exact hN.fo hF hne, fun j hj => ?_⟩
    rw [hq4 hl]
    exact (hE j hj).fo hF
/-- a child is put in the place of another, of the same content -/
theorem Tr.child (hT : Tr f A ks bel) {ps : Nat → Nat × Nat} (hP : Ps ps A) {l p j a b c : Nat} (hl : l < 4) (hj : j < 4) (ha : A l p = some a) (hb : A (l + 1) (4 * p + j) = some b) (hF : Fo (fun z => z = a) f f2)
    {es ns : Nat → Option Nat} (hNa : Nd f a (bel l p) 4 es 4 ns) (hNa2 : Nd f2 a (bel l p) 4 es 4 (va_up ns j (some c))) (g : Int32)
    (hc : ∀ n esb k nsb gb, Nd f b gb n esb k nsb → ∃ es' ns', Nd f2 c g n es' k ns' ∧ (∀ i, i < n → es' i = esb i) ∧ ∀ i, i < k → ns' i = nsb i) :
    Tr f2 (q_u2 A (l + 1) (4 * p + j) (some c)) ks (q_u2 bel (l + 1) (4 * p + j) g) := by
  refine ⟨fun l1 p1 => ?_, fun l1 p1 a1 h1 => ?_⟩
  · rw [← hT.1 l1 p1]
    by_cases hq : l1 = l + 1 ∧ p1 = 4 * p + j
    · obtain ⟨rfl, rfl⟩ := hq
      rw [q_u2_self]
      exact ⟨fun _ => ⟨b, hb⟩, fun _ => ⟨c, rfl⟩⟩
    · rw [q_u2_ne _ _ hq]
  · by_cases hq : l1 = l + 1 ∧ p1 = 4 * p + j
    · obtain ⟨rfl, rfl⟩ := hq
      rw [q_u2_self] at h1
      cases h1
      refine ⟨fun h4 => ?_, fun h4 => ?_⟩
      · obtain ⟨esb, nsb, hNb, hEb⟩ := (hT.2 _ _ b hb).1 h4
        obtain ⟨es', ns', q1, q2, q3⟩ := hc _ _ _ _ _ hNb
        refine ⟨es', ns', by rw [q_u2_self]; exact q1, fun i hi => ?_⟩
        rw [q2 i hi, q3 i hi, q_u2_ne _ _ (by omega)]
        exact ⟨(hEb i hi).1, (hEb i hi).2.fo hF⟩
      · obtain ⟨esb, nsb, hNb, hEb⟩ := (hT.2 _ _ b hb).2 h4
        obtain ⟨es', ns', q1, q2, q3⟩ := hc _ _ _ _ _ hNb
        refine ⟨es', ns', by rw [q_u2_self]; exact q1, fun i hi => ?_⟩
        rw [q2 i hi]
        exact (hEb i hi).fo hF
    · rw [q_u2_ne _ _ hq] at h1
      by_cases hq2 : l1 = l ∧ p1 = p
      · obtain ⟨rfl, rfl⟩ := hq2
        cases ha.symm.trans h1
        refine ⟨fun h4 => ?_, fun h4 => by omega⟩
        obtain ⟨es0, ns0, hN0, hE0⟩ := (hT.2 _ _ a ha).1 hl
        have e1 : es0 = es ∧ ns0 = ns := by
          have := hN0.2.1.symm.trans hNa.2.1
          have h2 := hN0.2.2.symm.trans hNa.2.2
          simp only [Option.some.injEq, Sum.inl.injEq, Prod.mk.injEq, Sum.inr.injEq] at this h2
          exact ⟨this.2.2, h2.2.2⟩
        obtain ⟨rfl, rfl⟩ := e1
        refine ⟨es0, va_up ns0 j (some c), by rw [q_u2_ne _ _ (by omega)]; exact hNa2, fun i hi => ⟨?_, (hE0 i hi).2.fo hF⟩⟩
        by_cases hij : i = j
        · subst hij
          rw [va_up_self, q_u2_self]
        · rw [va_up_ne _ _ hij, q_u2_ne _ _ (by omega)]
          exact (hE0 i hi).1
      · refine (hT.2 _ _ a1 h1).off hF (fun e => ?_) (q_u2_ne _ _ hq) (fun i hi => q_u2_ne _ _ ?_) (fun _ _ => rfl) (fun _ => rfl)
        · have e' : a1 = a := e
          subst e'
          have := (hP _ _ _ h1).symm.trans (hP _ _ _ ha)
          simp only [Prod.mk.injEq] at this
          exact hq2 this
        · intro z
          exact hq2 ⟨by omega, by omega⟩
end TE
