/-! a key is taken out -/
def q_del (ks : List KV) (key : Int32) : List KV := ks.filter (fun x => !(x.1 == key))
def q_dA (A : Nat → Nat → Option Nat) (ks : List KV) (l p : Nat) : Option Nat := if l = 0 ∨ 2 ≤ (q_f ks l p).length then A l p else none
theorem l_del_comm (P : Int32 → Bool) (key : Int32) (ks : List KV) : (ks.filter (fun x => !(x.1 == key))).filter (fun x => P x.1) = (ks.filter (fun x => P x.1)).filter (fun x => !(x.1 == key)) := by
  rw [List.filter_filter, List.filter_filter]
  apply List.filter_congr
  intro x _
  exact Bool.and_comm _ _
theorem l_del_at {key : Int32} : ∀ (L : List KV) (i : Nat) (x : KV), L[i]? = some x → x.1 = key → (L.map (fun x => x.1)).Nodup → L.filter (fun x => !(x.1 == key)) = L.eraseIdx i
  | [], i, x, h, _, _ => by cases h
  | y :: L, 0, x, h, hx, hn => by
    simp only [List.getElem?_cons_zero, Option.some.injEq] at h
    subst h
    rw [List.eraseIdx_cons_zero, List.filter_cons]
    simp only [hx, BEq.rfl, Bool.not_true, Bool.false_eq_true, if_false]
    rw [List.filter_eq_self]
    intro z hz
    rw [List.map_cons, List.nodup_cons] at hn
    have : ¬ z.1 = y.1 := fun e => hn.1 (by rw [← e]; exact List.mem_map.mpr ⟨z, hz, rfl⟩)
    rw [hx] at this
    simp [this]
  | y :: L, i + 1, x, h, hx, hn => by
    simp only [List.getElem?_cons_succ] at h
    rw [List.map_cons, List.nodup_cons] at hn
    have hy : ¬ y.1 = key := fun e => hn.1 (by rw [e, ← hx]; exact List.mem_map.mpr ⟨x, List.mem_of_getElem? h, rfl⟩)
    rw [List.eraseIdx_cons_succ, List.filter_cons, l_del_at L i x h hx hn.2]
    simp [hy]
theorem l_fm4 (G : Nat → Option KV) : [0, 1, 2, 3].filterMap G = (G 0).toList ++ ((G 1).toList ++ ((G 2).toList ++ (G 3).toList)) := by
  cases h0 : G 0 <;> cases h1 : G 1 <;> cases h2 : G 2 <;> cases h3 : G 3 <;> simp [h0, h1, h2, h3]
section RA
variable {K : x_K} {d : Nat} {h f f2 : x_H} {A A2 : Nat → Nat → Option Nat} {ks : List KV} {bel : Nat → Nat → Int32} {a : Nat} {key : Int32} {x0 : KV}
theorem q_del_f (l p : Nat) : q_f (q_del ks key) l p = (q_f ks l p).filter (fun x => !(x.1 == key)) := l_del_comm (fun k => q_p l k == p) key ks
theorem q_del_off {l p : Nat} (hp : ¬ p = q_p l key) : q_f (q_del ks key) l p = q_f ks l p := by
  rw [q_del_f, List.filter_eq_self]
  intro x hx
  have := (q_f_mem.mp hx).2
  have hne : ¬ x.1 = key := fun e => hp (by rw [← e]; exact this.symm)
  simp [hne]
theorem q_f_nodup (hK : Ko ks) (l p : Nat) : ((q_f ks l p).map (fun x => x.1)).Nodup := (List.Sublist.map _ List.filter_sublist).nodup hK.2.1
theorem q_del_len (hK : Ko ks) (hg : q_get ks key = some x0) (l : Nat) : (q_f (q_del ks key) l (q_p l key)).length + 1 = (q_f ks l (q_p l key)).length := by
  rw [q_del_f]
  have h1 := q_f_get ks l key
  rw [hg] at h1
  have h2 : x0 ∈ q_f ks l (q_p l key) := List.mem_of_find?_eq_some h1
  have h3 : x0.1 = key := by
    have := List.find?_some h1
    simpa using this
  obtain ⟨i, hi⟩ := List.getElem?_of_mem h2
  rw [l_del_at _ i x0 hi h3 (q_f_nodup hK l _), List.length_eraseIdx]
  have := (List.getElem?_eq_some_iff.mp hi).1
  rw [if_pos this]
  omega
theorem Ko.del (hK : Ko ks) : Ko (q_del ks key) := by
  refine ⟨Nat.le_trans (List.length_filter_le _ _) hK.1, (List.Sublist.map _ List.filter_sublist).nodup hK.2.1, fun p => ?_⟩
  rw [q_del_f]
  exact Nat.le_trans (List.length_filter_le _ _) (hK.2.2 p)
/-- the one entry of sparse places -/
theorem q_on_sp {F : Nat → Option KV} {es : Nat → Option Nat} : ∀ (r i : Nat), (∀ j, i ≤ j → j < i + r → Eo f (es j) (F j)) →
    Eo f (q_on es none r i) (q_1 ((List.range' i r).filterMap F)) ∧ ∀ e, q_on es (some e) r i = if (List.range' i r).filterMap F = [] then some e else none
  | 0, i, _ => ⟨trivial, fun e => rfl⟩
  | r + 1, i, hE => by
    have h0 := hE i (Nat.le_refl _) (by omega)
    obtain ⟨ih1, ih2⟩ := q_on_sp (F := F) (es := es) r (i + 1) (fun j h1 h2 => hE j (by omega) (by omega))
    rw [List.range'_succ, List.filterMap_cons]
    cases hF : F i with
    | none =>
      rw [hF] at h0
      have h1 := h0.none
      refine ⟨?_, fun e => ?_⟩
      · have e1 : q_on es none (r + 1) i = q_on es none r (i + 1) := by simp [q_on, h1]
        rw [e1]
        exact ih1
      · have e1 : q_on es (some e) (r + 1) i = q_on es (some e) r (i + 1) := by simp [q_on, h1]
        rw [e1]
        exact ih2 e
    | some kv =>
      rw [hF] at h0
      obtain ⟨e1, h1, h2⟩ := Eo.some (x := kv) h0
      refine ⟨?_, fun e => ?_⟩
      · have e2 : q_on es none (r + 1) i = q_on es (some e1) r (i + 1) := by simp [q_on, h1]
        rw [e2, ih2 e1]
        by_cases hL : (List.range' (i + 1) r).filterMap F = []
        · rw [if_pos hL, hL]
          exact h2
        · rw [if_neg hL]
          have : q_1 (kv :: (List.range' (i + 1) r).filterMap F) = none := by
            match hm : (List.range' (i + 1) r).filterMap F, hL with
            | y :: r', _ => rfl
          rw [this]
          trivial
      · have e2 : q_on es (some e) (r + 1) i = none := by simp [q_on, h1]
        rw [e2, if_neg (by simp)]
theorem l_fm_list (L : List KV) : ∀ (r i : Nat), L.length ≤ i + r → (List.range' i r).filterMap (fun j => L[j]?) = L.drop i
  | 0, i, h => by simp [List.drop_eq_nil_of_le (show L.length ≤ i by omega)]
  | r + 1, i, h => by
    rw [List.range'_succ, List.filterMap_cons, l_fm_list L r (i + 1) (by omega)]
    by_cases hi : i < L.length
    · rw [List.getElem?_eq_getElem hi, List.drop_eq_getElem_cons hi]
    · rw [List.getElem?_eq_none (by omega), List.drop_eq_nil_of_le (show L.length ≤ i + 1 by omega), List.drop_eq_nil_of_le (show L.length ≤ i by omega)]
theorem q_1_len {L : List KV} (h : ¬ L.length = 1) : q_1 L = none := by
  match L, h with
  | [], _ => rfl
  | _ :: _ :: _, _ => rfl
/-- what onlyEntry tells of a node -/
theorem Tn.only {l p : Nat} (hl : l ≤ 4) (hp : p < 4 ^ l) (hT : Tn f A ks bel l p a) (hK : Ko ks) (hex : ∀ j, j < 4 → l < 4 → ((∃ b, A (l + 1) (4 * p + j) = some b) ↔ 2 ≤ (q_f ks (l + 1) (4 * p + j)).length)) :
    ∃ n es k ns, Nd f a (bel l p) n es k ns ∧ n ≤ 6 ∧ k ≤ 6 ∧ Eo f (if q_ct ns k = 0 then q_on es none n 0 else none) (q_1 (q_f ks l p)) := by
  by_cases hl4 : l < 4
  · obtain ⟨es, ns, hN, hE⟩ := hT.1 hl4
    refine ⟨4, es, 4, ns, hN, by omega, by omega, ?_⟩
    have hlen := q_f_len4 ks hl4 p
    by_cases hct : q_ct ns 4 = 0
    · rw [if_pos hct]
      have h1 : ∀ j, j < 4 → (q_f ks (l + 1) (4 * p + j)).length ≤ 1 := by
        intro j hj
        apply Classical.byContradiction
        intro z
        obtain ⟨b, hb⟩ := (hex j hj hl4).mpr (by omega)
        have h2 := (hE j hj).1
        rw [hb] at h2
        have h3 : ∀ m, j < m → 1 ≤ q_ct ns m := by
          intro m
          induction m with
          | zero => intro z; omega
          | succ m ih =>
            intro z
            unfold q_ct
            by_cases hm : m = j
            · subst hm; rw [h2]; simp
            · have := ih (by omega); omega
        have := h3 4 hj
        omega
      obtain ⟨hon, -⟩ := q_on_sp (f := f) (F := fun j => q_1 (q_f ks (l + 1) (4 * p + j))) (es := es) 4 0 (fun j _ hj => (hE j (by omega)).2)
      have hfl : ∀ j, j < 4 → (q_1 (q_f ks (l + 1) (4 * p + j))).toList = q_f ks (l + 1) (4 * p + j) := by
        intro j hj
        have := h1 j hj
        match hL : q_f ks (l + 1) (4 * p + j), this with
        | [], _ => rfl
        | [x], _ => rfl
      have hG : (List.range' 0 4).filterMap (fun j => q_1 (q_f ks (l + 1) (4 * p + j))) = q_f ks (l + 1) (4 * p + 0) ++ (q_f ks (l + 1) (4 * p + 1) ++ (q_f ks (l + 1) (4 * p + 2) ++ q_f ks (l + 1) (4 * p + 3))) := by
        rw [show List.range' 0 4 = [0, 1, 2, 3] from rfl, l_fm4, hfl 0 (by omega), hfl 1 (by omega), hfl 2 (by omega), hfl 3 (by omega)]
      rw [hG] at hon
      by_cases h5 : (q_f ks l p).length = 1
      · match hL : q_f ks l p, h5 with
        | [x], _ =>
          have hx : x ∈ q_f ks l p := by rw [hL]; exact List.mem_cons_self
          obtain ⟨hx1, hx2⟩ := q_f_mem.mp hx
          have hd := q_d_lt l x.1
          have hps := q_p_s hl4 x.1
          rw [hx2] at hps
          have hxm : ∀ j, j = q_d l x.1 → x ∈ q_f ks (l + 1) (4 * p + j) := fun j hj => q_f_mem.mpr ⟨hx1, by rw [hj]; exact hps⟩
          rw [hL] at hlen
          simp only [List.length_cons, List.length_nil] at hlen
          have hG2 : q_f ks (l + 1) (4 * p + 0) ++ (q_f ks (l + 1) (4 * p + 1) ++ (q_f ks (l + 1) (4 * p + 2) ++ q_f ks (l + 1) (4 * p + 3))) = [x] := by
            have hlen2 : (q_f ks (l + 1) (4 * p + 0) ++ (q_f ks (l + 1) (4 * p + 1) ++ (q_f ks (l + 1) (4 * p + 2) ++ q_f ks (l + 1) (4 * p + 3)))).length = 1 := by
              simp only [List.length_append]
              omega
            have hmem : x ∈ q_f ks (l + 1) (4 * p + 0) ++ (q_f ks (l + 1) (4 * p + 1) ++ (q_f ks (l + 1) (4 * p + 2) ++ q_f ks (l + 1) (4 * p + 3))) := by
              simp only [List.mem_append]
              have h6 : q_d l x.1 = 0 ∨ q_d l x.1 = 1 ∨ q_d l x.1 = 2 ∨ q_d l x.1 = 3 := by omega
              rcases h6 with h6 | h6 | h6 | h6
              · exact Or.inl (hxm 0 h6.symm)
              · exact Or.inr (Or.inl (hxm 1 h6.symm))
              · exact Or.inr (Or.inr (Or.inl (hxm 2 h6.symm)))
              · exact Or.inr (Or.inr (Or.inr (hxm 3 h6.symm)))
            revert hlen2 hmem
            generalize q_f ks (l + 1) (4 * p + 0) ++ (q_f ks (l + 1) (4 * p + 1) ++ (q_f ks (l + 1) (4 * p + 2) ++ q_f ks (l + 1) (4 * p + 3))) = G
            intro hlen2 hmem
            match G, hlen2 with
            | [y], _ =>
              simp at hmem
              rw [hmem]
          rw [hG2] at hon
          exact hon
      · rw [q_1_len h5]
        rw [q_1_len (by simp only [List.length_append]; omega)] at hon
        exact hon
    · rw [if_neg hct]
      have h1 : 2 ≤ (q_f ks l p).length := by
        have h3 : ∃ j, j < 4 ∧ (ns j).isSome = true := by
          apply Classical.byContradiction
          intro z
          apply hct
          have h4 : ∀ m, m ≤ 4 → q_ct ns m = 0 := by
            intro m
            induction m with
            | zero => intro _; rfl
            | succ m ih =>
              intro hm
              have h5 : ¬ (ns m).isSome = true := fun y => z ⟨m, by omega, y⟩
              unfold q_ct
              rw [ih (by omega), if_neg h5]
          exact h4 4 (Nat.le_refl _)
        obtain ⟨j, hj, hs⟩ := h3
        rw [(hE j hj).1] at hs
        obtain ⟨b, hb⟩ := Option.isSome_iff_exists.mp hs
        have h6 := (hex j hj hl4).mp ⟨b, hb⟩
        have h7 : j = 0 ∨ j = 1 ∨ j = 2 ∨ j = 3 := by omega
        rcases h7 with rfl | rfl | rfl | rfl <;> omega
      rw [q_1_two h1]
      trivial
  · have h44 : l = 4 := by omega
    subst h44
    obtain ⟨es, ns, hN, hE⟩ := hT.2 rfl
    refine ⟨6, es, 0, ns, hN, by omega, by omega, ?_⟩
    have : q_ct ns 0 = 0 := rfl
    rw [if_pos this]
    obtain ⟨hon, -⟩ := q_on_sp (f := f) (F := fun j => (q_f ks 4 p)[j]?) (es := es) 6 0 (fun j _ hj => hE j (by omega))
    rw [l_fm_list _ 6 0 (by have := hK.2.2 p; omega), List.drop_zero] at hon
    exact hon
end RA
