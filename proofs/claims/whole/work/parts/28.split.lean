section SA
variable {f f2 : x_H} {A : Nat → Nat → Option Nat} {ks : List KV} {bel : Nat → Nat → Int32} {a e e0 c l : Nat} {g key k0 : Int32} {v v0 : Int64} {ps : Nat → Nat × Nat}
/-- where the two keys go one way, below level l -/
def q_sc (l : Nat) (key k0 : Int32) (m p : Nat) : Prop := l < m ∧ m ≤ 4 ∧ p = q_p m key ∧ q_p m k0 = q_p m key
theorem q_sc_dec (l : Nat) (key k0 : Int32) (m p : Nat) : q_sc l key k0 m p ∨ ¬ q_sc l key k0 m p := Classical.em _
noncomputable def q_sA (A : Nat → Nat → Option Nat) (l : Nat) (key k0 : Int32) (c : Nat) : Nat → Nat → Option Nat := fun m p => @ite _ (q_sc l key k0 m p) (Classical.propDecidable _) (some (c + 3 * (m - l - 1))) (A m p)
noncomputable def q_sB (bel : Nat → Nat → Int32) (l : Nat) (key k0 : Int32) (g : Int32) : Nat → Nat → Int32 := fun m p => @ite _ (q_sc l key k0 m p) (Classical.propDecidable _) g (bel m p)
theorem q_sA_pos {m p : Nat} (h : q_sc l key k0 m p) : q_sA A l key k0 c m p = some (c + 3 * (m - l - 1)) := by unfold q_sA; rw [if_pos h]
theorem q_sA_neg {m p : Nat} (h : ¬ q_sc l key k0 m p) : q_sA A l key k0 c m p = A m p := by unfold q_sA; rw [if_neg h]
theorem q_sB_pos {m p : Nat} (h : q_sc l key k0 m p) : q_sB bel l key k0 g m p = g := by unfold q_sB; rw [if_pos h]
theorem q_sB_neg {m p : Nat} (h : ¬ q_sc l key k0 m p) : q_sB bel l key k0 g m p = bel m p := by unfold q_sB; rw [if_neg h]
theorem q_p_dn {m : Nat} (hm : m < 4) {k k' : Int32} (h : q_p (m + 1) k = q_p (m + 1) k') : q_p m k = q_p m k' ∧ q_d m k = q_d m k' := by
  rw [q_p_s hm, q_p_s hm] at h
  have h1 := q_d_lt m k
  have h2 := q_d_lt m k'
  omega
/-- what lies below the place where only one key is -/
theorem q_f_below (h1 : q_f ks (l + 1) (q_p (l + 1) key) = [(k0, v0)]) : ∀ (i p : Nat), l + 1 + i ≤ 4 → (∀ k : Int32, q_p (l + 1 + i) k = p → q_p (l + 1) k = q_p (l + 1) key) → q_f ks (l + 1 + i) p = if q_p (l + 1 + i) k0 = p then [(k0, v0)] else [] := by
  intro i p hi hp
  have e : q_f ks (l + 1 + i) p = q_f (q_f ks (l + 1) (q_p (l + 1) key)) (l + 1 + i) p := by
    unfold q_f
    rw [List.filter_filter]
    apply List.filter_congr
    intro x _
    by_cases hx : q_p (l + 1 + i) x.1 = p
    · have := hp x.1 hx
      simp [hx, this]
    · simp [hx]
  rw [e, h1]
  unfold q_f
  rw [List.filter_cons, List.filter_nil]
  by_cases hx : q_p (l + 1 + i) k0 = p <;> simp [hx]
theorem q_p_up {m : Nat} (i : Nat) {k k' : Int32} (hi : m + i ≤ 4) (h : q_p (m + i) k = q_p (m + i) k') : q_p m k = q_p m k' := by
  induction i with
  | zero => exact h
  | succ i ih => exact ih (by omega) (q_p_dn (m := m + i) (by omega) h).1
theorem T2.chain (h2 : T2 f2 g e0 e k0 key (3 - l) (l + 1) c) (hl : l < 4) : ∀ i, l + 1 + i ≤ 4 → q_p (l + 1 + i) k0 = q_p (l + 1 + i) key → T2 f2 g e0 e k0 key (3 - l - i) (l + 1 + i) (c + 3 * i) := by
  intro i
  induction i with
  | zero => intro _ _; exact h2
  | succ i ih =>
    intro hi hq
    have hq' := q_p_dn (m := l + 1 + i) (by omega) hq
    have := ih (by omega) hq'.1
    rw [show 3 - l - i = (3 - l - (i + 1)) + 1 by omega] at this
    obtain ⟨es, ns, hN, hE⟩ := this
    rcases hE with ⟨-, -, -, q4⟩ | ⟨q1, -⟩
    · rw [show c + 3 * (i + 1) = c + 3 * i + 3 by omega]
      exact q4
    · exact absurd hq'.2 q1
theorem Tr.split (hT : Tr f A ks bel) (hP : Ps ps A) (hl : l < 4) (ha : A l (q_p l key) = some a) (hn : A (l + 1) (q_p (l + 1) key) = none) (h1 : q_f ks (l + 1) (q_p (l + 1) key) = [(k0, v0)]) (hk : k0 ≠ key) {es ns : Nat → Option Nat}
    (hNa : Nd f a (bel l (q_p l key)) 4 es 4 ns) (hF : Fo (fun z => z = a) f f2) (hNa2 : Nd f2 a (bel l (q_p l key)) 4 (va_up es (q_d l key) none) 4 (va_up ns (q_d l key) (some c)))
    (h2 : T2 f2 g e0 e k0 key (3 - l) (l + 1) c) (he0 : Et f2 e0 k0 v0) (he : Et f2 e key v) : Tr f2 (q_sA A l key k0 c) (q_put ks key v) (q_sB bel l key k0 g) := by
  have hget : q_get ks key = none := q_put_1 h1 hk
  have hput : ∀ m p, q_f (q_put ks key v) m p = q_f ks m p ++ (if q_p m key = p then [(key, v)] else []) := fun m p => by rw [q_put_f, hget]; rfl
  have hp0 : q_p (l + 1) k0 = q_p (l + 1) key := by
    have : (k0, v0) ∈ q_f ks (l + 1) (q_p (l + 1) key) := by rw [h1]; exact List.mem_cons_self
    exact (q_f_mem.mp this).2
  have hnone : ∀ m, l < m → A m (q_p m key) = none := fun m hm => by
    have := hT.none_up key hn (m - (l + 1))
    rw [show l + 1 + (m - (l + 1)) = m by omega] at this
    exact this
  have hd4 := q_d_lt l key
  -- the lists on the way, below l
  have hway : ∀ m, l < m → m ≤ 4 → q_f ks m (q_p m key) = if q_p m k0 = q_p m key then [(k0, v0)] else [] := fun m hm hm4 => by
    have := q_f_below h1 (m - (l + 1)) (q_p m key) (by omega) (fun k hk9 => by
      rw [show l + 1 + (m - (l + 1)) = m by omega] at hk9
      exact q_p_up (m := l + 1) (m - (l + 1)) (by omega) (by rw [show l + 1 + (m - (l + 1)) = m by omega]; exact hk9))
    rw [show l + 1 + (m - (l + 1)) = m by omega] at this
    exact this
  -- children of nodes on the way, below l
  have hch : ∀ m j, l < m → m < 4 → j < 4 → q_f ks (m + 1) (4 * q_p m key + j) = if q_p (m + 1) k0 = 4 * q_p m key + j then [(k0, v0)] else [] := fun m j hm hm4 hj => by
    have := q_f_below h1 (m + 1 - (l + 1)) (4 * q_p m key + j) (by omega) (fun k hk9 => by
      rw [show l + 1 + (m + 1 - (l + 1)) = m + 1 by omega, q_p_s hm4] at hk9
      have h9 := q_d_lt m k
      have h10 : q_p m k = q_p m key := by omega
      exact q_p_up (m := l + 1) (m - (l + 1)) (by omega) (by rw [show l + 1 + (m - (l + 1)) = m by omega]; exact h10))
    rw [show l + 1 + (m + 1 - (l + 1)) = m + 1 by omega] at this
    exact this
  refine ⟨fun m p => ?_, fun m p a1 h9 => ?_⟩
  · by_cases hs : q_sc l key k0 m p
    · rw [q_sA_pos hs]
      obtain ⟨s1, s2, rfl, s4⟩ := hs
      refine ⟨fun _ => ⟨s2, q_p_lt s2 key, Or.inr ?_⟩, fun _ => ⟨_, rfl⟩⟩
      rw [hput, hway m s1 s2, if_pos s4, if_pos rfl]
      exact Nat.le_refl _
    · rw [q_sA_neg hs, hT.1 m p]
      refine and_congr_right fun hm4 => and_congr_right fun _ => ?_
      by_cases h00 : m = 0
      · exact ⟨fun _ => Or.inl h00, fun _ => Or.inl h00⟩
      refine or_congr_right ?_
      by_cases hp : p = q_p m key
      · subst hp
        by_cases hml : m ≤ l
        · obtain ⟨b, hb9⟩ := hT.upto ha m hml
          rw [q_put_len]
          refine ⟨fun z => by omega, fun z => ?_⟩
          rcases ((hT.1 _ _).mp ⟨b, hb9⟩).2.2 with z1 | z1
          · exact absurd z1 h00
          · exact z1
        · have s4 : ¬ q_p m k0 = q_p m key := fun z => hs ⟨by omega, hm4, rfl, z⟩
          rw [hput, hway m (by omega) hm4, if_neg s4, if_pos rfl]
          simp
      · rw [q_put_off hp]
  · by_cases hs : q_sc l key k0 m p
    · rw [q_sA_pos hs] at h9
      cases h9
      obtain ⟨s1, s2, rfl, s4⟩ := hs
      have hs : q_sc l key k0 m (q_p m key) := ⟨s1, s2, rfl, s4⟩
      have hch2 := h2.chain hl (m - (l + 1)) (by omega) (by rw [show l + 1 + (m - (l + 1)) = m by omega]; exact s4)
      rw [show l + 1 + (m - (l + 1)) = m by omega, show m - (l + 1) = m - l - 1 by omega] at hch2
      refine ⟨fun hm4 => ?_, fun hm4 => ?_⟩
      · rw [show 3 - l - (m - l - 1) = (3 - m) + 1 by omega] at hch2
        obtain ⟨es', ns', hN, hE⟩ := hch2
        refine ⟨es', ns', by rw [q_sB_pos hs]; exact hN, fun j hj => ?_⟩
        have hpk := q_p_s hm4 key
        have hpk0 := q_p_s hm4 k0
        have hj1 := q_d_lt m key
        have hj2 := q_d_lt m k0
        rw [hput, hch m j s1 hm4 hj]
        rcases hE with ⟨r1, r2, r3, -⟩ | ⟨r1, r2, r3⟩
        · rw [r2 j hj, r3 j hj]
          by_cases hjd : j = q_d m k0
          · subst hjd
            have hs' : q_sc l key k0 (m + 1) (4 * q_p m key + q_d m k0) := ⟨by omega, by omega, by rw [hpk, r1], by rw [hpk, hpk0, s4, r1]⟩
            rw [if_pos rfl, q_sA_pos hs', if_pos (by rw [hpk0, s4]), if_pos (by rw [hpk, r1])]
            exact ⟨by rw [show m + 1 - l - 1 = m - l - 1 + 1 by omega]; rfl, trivial⟩
          · have hs' : ¬ q_sc l key k0 (m + 1) (4 * q_p m key + j) := fun z => hjd (by have := z.2.2.1; omega)
            have hA0 : A (m + 1) (4 * q_p m key + j) = none := by
              cases hA9 : A (m + 1) (4 * q_p m key + j) with
              | none => rfl
              | some b =>
                rcases ((hT.1 _ _).mp ⟨b, hA9⟩).2.2 with z | z
                · omega
                · rw [hch m j s1 hm4 hj] at z
                  split at z <;> simp at z
            rw [if_neg hjd, q_sA_neg hs', hA0, if_neg (by omega), if_neg (by omega)]
            exact ⟨rfl, trivial⟩
        · have hs' : ¬ q_sc l key k0 (m + 1) (4 * q_p m key + j) := fun z => r1 (q_p_dn hm4 z.2.2.2).2
          have hA0 : A (m + 1) (4 * q_p m key + j) = none := by
            cases hA9 : A (m + 1) (4 * q_p m key + j) with
            | none => rfl
            | some b =>
              rcases ((hT.1 _ _).mp ⟨b, hA9⟩).2.2 with z | z
              · omega
              · rw [hch m j s1 hm4 hj] at z
                split at z <;> simp at z
          rw [r2 j hj, r3 j hj, q_sA_neg hs', hA0]
          refine ⟨rfl, ?_⟩
          by_cases hj2 : j = q_d m key
          · subst hj2
            rw [if_pos rfl, if_neg (by omega), if_pos (by omega)]
            exact he
          · rw [if_neg hj2]
            by_cases hj3 : j = q_d m k0
            · subst hj3
              rw [if_pos rfl, if_pos (by omega), if_neg (by omega)]
              exact he0
            · rw [if_neg hj3, if_neg (by omega), if_neg (by omega)]
              trivial
      · subst hm4
        rw [show 3 - l - (4 - l - 1) = 0 by omega] at hch2
        obtain ⟨es', ns', hN, r1, r2, r3⟩ := hch2
        refine ⟨es', ns', by rw [q_sB_pos hs]; exact hN, fun j hj => ?_⟩
        rw [hput, hway 4 s1 (by omega), if_pos s4, if_pos rfl]
        by_cases hj0 : j = 0
        · subst hj0
          rw [r1]
          exact he0
        · by_cases hj1 : j = 1
          · subst hj1
            rw [r2]
            exact he
          · rw [r3 j (by omega) hj]
            rw [List.getElem?_eq_none (by simp; omega)]
            trivial
    · rw [q_sA_neg hs] at h9
      by_cases hq : m = l ∧ p = q_p l key
      · obtain ⟨rfl, rfl⟩ := hq
        cases ha.symm.trans h9
        refine ⟨fun _ => ?_, fun z => by omega⟩
        obtain ⟨es9, ns9, hN9, hE9⟩ := (hT.2 _ _ a ha).1 hl
        obtain ⟨-, -, rfl, -, rfl⟩ := hN9.uniq hNa
        refine ⟨_, _, by rw [q_sB_neg hs]; exact hNa2, fun j hj => ?_⟩
        by_cases hjd : j = q_d m key
        · subst hjd
          have hs' : q_sc m key k0 (m + 1) (4 * q_p m key + q_d m key) := ⟨by omega, by omega, by rw [q_p_s hl], hp0⟩
          rw [va_up_self, va_up_self, q_sA_pos hs', ← q_p_s hl, hput, h1, if_pos rfl]
          exact ⟨by rw [show m + 1 - m - 1 = 0 by omega]; rfl, trivial⟩
        · have hs' : ¬ q_sc m key k0 (m + 1) (4 * q_p m key + j) := fun z => hjd (by have := z.2.2.1; rw [q_p_s hl] at this; omega)
          rw [va_up_ne _ _ hjd, va_up_ne _ _ hjd, q_sA_neg hs', q_put_off (q_p_ne hl hj (fun z => hjd z.2))]
          exact ⟨(hE9 j hj).1, (hE9 j hj).2.fo hF⟩
      · refine hT.keep hP ha hF h9 hq (fun hp => ?_) (q_sB_neg hs) (fun j hj hm4 hnw => q_sA_neg (fun z => ?_))
        · apply Classical.byContradiction
          intro z
          rw [hp, hnone m (by omega)] at h9
          cases h9
        · have h11 := z.2.2.1
          rw [q_p_s hm4] at h11
          have h12 := q_d_lt m key
          exact hnw ⟨by omega, by omega, by have := z.1; omega⟩
end SA
