/-! a key is put into a list, and into its trie -/
def q_put (ks : List KV) (key : Int32) (v : Int64) : List KV := if (q_get ks key).isSome then ks.map (fun x => if x.1 = key then (key, v) else x) else ks ++ [(key, v)]
section PA
variable {K : x_K} {d : Nat} {h f f2 : x_H} {A A2 : Nat → Nat → Option Nat} {ks ks2 : List KV} {bel bel2 : Nat → Nat → Int32} {t a a1 e : Nat} {g key : Int32} {v : Int64} {ps : Nat → Nat × Nat} {W : Nat → Prop}
theorem q_get_no : q_get ks key = none ↔ ∀ x ∈ ks, ¬ x.1 = key := by
  unfold q_get
  rw [List.find?_eq_none]
  simp
theorem l_put_map (P : Int32 → Bool) (key : Int32) (v : Int64) (ks : List KV) : (ks.map (fun x => if x.1 = key then (key, v) else x)).filter (fun x => P x.1) = (ks.filter (fun x => P x.1)).map (fun x => if x.1 = key then (key, v) else x) := by
  induction ks with
  | nil => rfl
  | cons x r ih =>
    rw [List.map_cons, List.filter_cons, List.filter_cons, ih]
    by_cases hx : x.1 = key
    · subst hx
      by_cases hp : P x.1 = true <;> simp [hp]
    · by_cases hp : P x.1 = true <;> simp [hp, hx]
theorem l_put_app (P : Int32 → Bool) (key : Int32) (v : Int64) (ks : List KV) : (ks ++ [(key, v)]).filter (fun x => P x.1) = ks.filter (fun x => P x.1) ++ (if P key = true then [(key, v)] else []) := by
  rw [List.filter_append]
  refine congrArg _ ?_
  by_cases hp : P key = true <;> simp [hp]
theorem q_put_f (l p : Nat) : q_f (q_put ks key v) l p = if (q_get ks key).isSome then (q_f ks l p).map (fun x => if x.1 = key then (key, v) else x) else q_f ks l p ++ (if q_p l key = p then [(key, v)] else []) := by
  unfold q_put
  split
  · exact l_put_map (fun k => q_p l k == p) key v ks
  · have := l_put_app (fun k => q_p l k == p) key v ks
    simp only [beq_iff_eq] at this
    exact this
theorem q_put_off {l p : Nat} (hp : ¬ p = q_p l key) : q_f (q_put ks key v) l p = q_f ks l p := by
  rw [q_put_f]
  split
  · conv => rhs; rw [← List.map_id (q_f ks l p)]
    apply List.map_congr_left
    intro x hx
    have := (q_f_mem.mp hx).2
    rw [if_neg]
    · rfl
    · intro e
      rw [e] at this
      exact hp this.symm
  · rw [if_neg (fun z => hp z.symm), List.append_nil]
theorem q_put_len (l : Nat) : (q_f (q_put ks key v) l (q_p l key)).length = (q_f ks l (q_p l key)).length + (if (q_get ks key).isSome then 0 else 1) := by
  rw [q_put_f]
  split <;> simp
theorem q_put_1 {l : Nat} {k0 : Int32} {v0 : Int64} (h1 : q_f ks l (q_p l key) = [(k0, v0)]) (hk : k0 ≠ key) : q_get ks key = none := by
  rw [← q_f_get ks l key, h1]
  simp [q_get, hk]
theorem q_put_0 {l : Nat} (h1 : q_f ks l (q_p l key) = []) : q_get ks key = none := by
  rw [← q_f_get ks l key, h1]
  rfl
theorem Ko.put (hK : Ko ks) (hr : (q_get ks key).isSome = true ∨ (ks.length < 60 ∧ (q_f ks 4 (q_p 4 key)).length < 6)) : Ko (q_put ks key v) := by
  refine ⟨?_, ?_, fun p => ?_⟩
  · unfold q_put
    split
    · rw [List.length_map]; exact hK.1
    · rename_i hn
      rcases hr with hr | hr
      · exact absurd hr hn
      · simp; omega
  · unfold q_put
    split
    · rw [List.map_map]
      have e : ks.map ((fun x => x.1) ∘ fun x => if x.1 = key then (key, v) else x) = ks.map (fun x => x.1) := by
        apply List.map_congr_left
        intro x _
        simp only [Function.comp]
        by_cases hx : x.1 = key <;> simp [hx]
      rw [e]
      exact hK.2.1
    · rename_i hn
      rw [List.map_append, List.nodup_append]
      refine ⟨hK.2.1, by simp, fun a ha b hb => ?_⟩
      simp at hb
      subst hb
      obtain ⟨x, hx, rfl⟩ := List.mem_map.mp ha
      have : q_get ks b = none := by
        cases hq : q_get ks b with
        | none => rfl
        | some y => rw [hq] at hn; exact absurd rfl hn
      exact q_get_no.mp this x hx
  · by_cases hp : p = q_p 4 key
    · subst hp
      rw [q_put_len]
      split
      · exact hK.2.2 _
      · rename_i hn
        rcases hr with hr | hr
        · exact absurd hr hn
        · omega
    · rw [q_put_off hp]
      exact hK.2.2 p
theorem Tn.off1 {l p : Nat} (hT : Tn f A ks bel l p a1) (hF : Fo W f f2) (hne : ¬ W a1) (hb : bel2 l p = bel l p) (hA : ∀ j, j < 4 → A2 (l + 1) (4 * p + j) = A (l + 1) (4 * p + j))
    (hq : ∀ j, j < 4 → q_1 (q_f ks2 (l + 1) (4 * p + j)) = q_1 (q_f ks (l + 1) (4 * p + j))) (hq4 : l = 4 → q_f ks2 4 p = q_f ks 4 p) : Tn f2 A2 ks2 bel2 l p a1 := by
  refine ⟨fun hl => ?_, fun hl => ?_⟩
  · obtain ⟨es, ns, hN, hE⟩ := hT.1 hl
    refine ⟨es, ns, by rw [hb]; exact hN.fo hF hne, fun j hj => ?_⟩
    rw [hA j hj, hq j hj]
    exact ⟨(hE j hj).1, (hE j hj).2.fo hF⟩
  · obtain ⟨es, ns, hN, hE⟩ := hT.2 hl
    refine ⟨es, ns, by rw [hb]; exact hN.fo hF hne, fun j hj => ?_⟩
    rw [hq4 hl]
    exact (hE j hj).fo hF
theorem q_1_two {L : List KV} (h : 2 ≤ L.length) : q_1 L = none := by
  match L, h with
  | _ :: _ :: _, _ => rfl
/-- the way ends at l -/
theorem Tr.upto (hT : Tr f A ks bel) {l : Nat} (ha : A l (q_p l key) = some a) : ∀ m, m ≤ l → ∃ b, A m (q_p m key) = some b := by
  intro m hm
  cases hA : A m (q_p m key) with
  | some b => exact ⟨b, rfl⟩
  | none =>
    have := hT.none_up key hA (l - m)
    rw [show m + (l - m) = l by omega, ha] at this
    cases this
theorem q_p_ne {l p j : Nat} (hl : l < 4) (hj : j < 4) (h : ¬ (p = q_p l key ∧ j = q_d l key)) : ¬ 4 * p + j = q_p (l + 1) key := by
  rw [q_p_s hl]
  have := q_d_lt l key
  omega
/-- nodes that the write at the way's end leaves -/
theorem Tr.keep (hT : Tr f A ks bel) (hP : Ps ps A) {l : Nat} (ha : A l (q_p l key) = some a) (hF : Fo (fun z => z = a) f f2) {l1 p1 : Nat} (h1 : A l1 p1 = some a1) (hne : ¬ (l1 = l ∧ p1 = q_p l key)) (hlast : p1 = q_p l1 key → l1 ≤ l)
    (hb : bel2 l1 p1 = bel l1 p1) (hA : ∀ j, j < 4 → l1 < 4 → ¬ (p1 = q_p l1 key ∧ j = q_d l1 key ∧ l ≤ l1) → A2 (l1 + 1) (4 * p1 + j) = A (l1 + 1) (4 * p1 + j)) : Tn f2 A2 (q_put ks key v) bel2 l1 p1 a1 := by
  have hl1 := ((hT.1 l1 p1).mp ⟨a1, h1⟩).1
  have haa : ¬ a1 = a := fun e9 => by
    subst e9
    have := (hP _ _ _ h1).symm.trans (hP _ _ _ ha)
    simp only [Prod.mk.injEq] at this
    exact hne this
  have hnl : ¬ (p1 = q_p l1 key ∧ l ≤ l1) := by
    intro z
    have h9 := hlast z.1
    have e9 : l1 = l := by omega
    exact hne ⟨e9, by rw [z.1, e9]⟩
  by_cases hl4 : l1 < 4
  · refine (hT.2 _ _ a1 h1).off1 hF haa hb (fun j hj => hA j hj hl4 (fun z => hnl ⟨z.1, z.2.2⟩)) (fun j hj => ?_) (fun h4 => by omega)
    by_cases hw : p1 = q_p l1 key ∧ j = q_d l1 key
    · obtain ⟨rfl, rfl⟩ := hw
      rw [← q_p_s hl4]
      have hlt : l1 < l := by
        apply Classical.byContradiction
        intro z
        exact hnl ⟨rfl, by omega⟩
      obtain ⟨b, hb9⟩ := hT.upto ha (l1 + 1) (by omega)
      have h2 : 2 ≤ (q_f ks (l1 + 1) (q_p (l1 + 1) key)).length := by
        rcases ((hT.1 _ _).mp ⟨b, hb9⟩).2.2 with z | z
        · omega
        · exact z
      rw [q_1_two h2, q_1_two (by rw [q_put_len]; omega)]
    · rw [q_put_off (q_p_ne hl4 hj hw)]
  · have h44 : l1 = 4 := by omega
    subst h44
    have hp4 : ¬ p1 = q_p 4 key := fun z => hnl ⟨z, by have := ((hT.1 l _).mp ⟨a, ha⟩).1; omega⟩
    have hoff : q_f (q_put ks key v) 4 p1 = q_f ks 4 p1 := q_put_off hp4
    refine ⟨fun z => by omega, fun _ => ?_⟩
    obtain ⟨es, ns, hN, hE⟩ := (hT.2 _ _ a1 h1).2 rfl
    refine ⟨es, ns, by rw [hb]; exact hN.fo hF haa, fun j hj => ?_⟩
    rw [hoff]
    exact (hE j hj).fo hF
/-- no node comes: one node of the way is written -/
theorem Tr.same (hT : Tr f A ks bel) (hP : Ps ps A) {l : Nat} (ha : A l (q_p l key) = some a) (hF : Fo (fun z => z = a) f f2) (hend : l = 4 ∨ (A (l + 1) (q_p (l + 1) key) = none ∧ (q_f (q_put ks key v) (l + 1) (q_p (l + 1) key)).length ≤ 1))
    (hTn : Tn f2 A (q_put ks key v) bel l (q_p l key) a) : Tr f2 A (q_put ks key v) bel := by
  have hl := ((hT.1 _ _).mp ⟨a, ha⟩).1
  have hnone : ∀ m, l < m → m ≤ 4 → A m (q_p m key) = none ∧ (q_f (q_put ks key v) m (q_p m key)).length ≤ 1 := by
    intro m hm hm4
    rcases hend with z | ⟨z1, z2⟩
    · omega
    · refine ⟨?_, ?_⟩
      · have := hT.none_up key z1 (m - (l + 1))
        rw [show l + 1 + (m - (l + 1)) = m by omega] at this
        exact this
      · have key2 : ∀ i, l + 1 + i ≤ 4 → (q_f (q_put ks key v) (l + 1 + i) (q_p (l + 1 + i) key)).length ≤ 1 := by
          intro i
          induction i with
          | zero => intro _; exact z2
          | succ i ih =>
            intro hi
            have := q_f_mono (q_put ks key v) key (l := l + 1 + i) (by omega)
            have h2 := ih (by omega)
            rw [show l + 1 + (i + 1) = l + 1 + i + 1 by omega]
            omega
        have := key2 (m - (l + 1)) (by omega)
        rw [show l + 1 + (m - (l + 1)) = m by omega] at this
        exact this
  refine ⟨fun l1 p1 => ?_, fun l1 p1 a1 h1 => ?_⟩
  · rw [hT.1 l1 p1]
    by_cases hp : p1 = q_p l1 key
    · subst hp
      refine and_congr_right fun hl1 => and_congr_right fun _ => ?_
      by_cases h00 : l1 = 0
      · exact ⟨fun _ => Or.inl h00, fun _ => Or.inl h00⟩
      refine or_congr_right ?_
      by_cases hll : l1 ≤ l
      · obtain ⟨b, hb9⟩ := hT.upto ha l1 hll
        rw [q_put_len]
        refine ⟨fun z => by omega, fun z => ?_⟩
        rcases ((hT.1 _ _).mp ⟨b, hb9⟩).2.2 with z1 | z1
        · exact absurd z1 h00
        · exact z1
      · have h2 := hnone l1 (by omega) hl1
        rw [q_put_len] at h2 ⊢
        omega
    · rw [q_put_off hp]
  · by_cases hq : l1 = l ∧ p1 = q_p l key
    · obtain ⟨rfl, rfl⟩ := hq
      cases ha.symm.trans h1
      exact hTn
    · refine hT.keep hP ha hF h1 hq (fun hp => ?_) rfl (fun _ _ _ _ => rfl)
      apply Classical.byContradiction
      intro z
      have := (hnone l1 (by omega) ((hT.1 l1 p1).mp ⟨a1, h1⟩).1).1
      rw [hp, this] at h1
      cases h1
end PA
