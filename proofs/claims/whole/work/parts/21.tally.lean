/-! counting a trie's nodes -/
abbrev Ac : Type := Nat × Nat × Nat × Nat × Nat
def tl (g : Int32) (c : Ac) : x_C := .inr (3, [.int g, .int (nI c.1), .int (nI c.2.1), .int (nI c.2.2.1), .int (nI c.2.2.2.1), .int (nI c.2.2.2.2)])
def q_a1 (kc : Nat → Nat → Nat) (own : Nat → Nat → Prop) (l p : Nat) [Decidable (own l p)] (c : Ac) : Ac := (c.1 + kc l p, c.2.1 + 1, c.2.2.1 + (if l = 4 then 1 else 0), max c.2.2.2.1 (l + 1), c.2.2.2.2 + (if own l p then 1 else 0))
def q_au (A : Nat → Nat → Option Nat) (kc : Nat → Nat → Nat) (bel : Nat → Nat → Int32) (g : Int32) : Nat → Nat → Nat → Ac → Ac
  | 0, _, _, c => c
  | n + 1, l, p, c => match A l p with
    | none => c
    | some _ => (List.range 4).foldl (fun c j => q_au A kc bel g n (l + 1) (4 * p + j) c) (q_a1 kc (fun l p => bel l p = g) l p c)
/-- how many entries the node at l, p has -/
def q_kc (ks : List KV) (l p : Nat) : Nat := if l < 4 then ((List.range 4).map (fun j => if (q_f ks (l + 1) (4 * p + j)).length = 1 then 1 else 0)).sum else (q_f ks 4 p).length
/-- cells of nodes and entries -/
def x_nd : x_C → Bool
  | .inr (k, _) => k == 1 || k == 2
  | .inl (k, _) => k == 3 || k == 4
def Kp (h g : x_H) : Prop := ∀ b c, h.2.2 b = some c → x_nd c = true → g.2.2 b = some c
theorem Kp.rf (h : x_H) : Kp h h := fun _ _ hb _ => hb
theorem Kp.tr {h g f : x_H} (h1 : Kp h g) (h2 : Kp g f) : Kp h f := fun b c hb hc => h2 b c (h1 b c hb hc) hc
theorem Kp.up {h : x_H} {a : Nat} {c c' : x_C} (ha : h.2.2 a = some c) (hc : x_nd c = false) : Kp h (x_up h a c') := fun b x hb hx => by
  have hne : b ≠ a := fun e => by
    subst e
    rw [ha] at hb
    cases hb
    rw [hc] at hx
    cases hx
  rw [x_up_ne hne]
  exact hb
theorem Kp.nw {h : x_H} (hd : ∀ (a : Nat) (c : x_C), h.2.2 a = some c → a < h.1) (n : Nat) (c : x_C) : Kp h (x_nw h n c) := fun b x hb _ => by
  rw [x_nw_ne (Nat.ne_of_lt (hd b x hb))]
  exact hb
theorem Nd.kp {h g : x_H} {a : Nat} {ge : Int32} {n k : Nat} {es ns : Nat → Option Nat} (hN : Nd h a ge n es k ns) (hk : Kp h g) : Nd g a ge n es k ns := ⟨hk _ _ hN.1 rfl, hk _ _ hN.2.1 rfl, hk _ _ hN.2.2 rfl⟩
theorem Et.kp {h g : x_H} {e : Nat} {k : Int32} {v : Int64} (he : Et h e k v) (hk : Kp h g) : Et g e k v := hk _ _ he rfl
theorem Eo.kp {h g : x_H} {o : Option Nat} {x : Option KV} (he : Eo h o x) (hk : Kp h g) : Eo g o x := by
  cases o with
  | none => cases x with
    | none => trivial
    | some y => exact he.elim
  | some e => cases x with
    | none => exact he.elim
    | some y => exact Et.kp he hk
theorem Tr.kp {h g : x_H} {A : Nat → Nat → Option Nat} {ks : List KV} {bel : Nat → Nat → Int32} (hT : Tr h A ks bel) (hk : Kp h g) : Tr g A ks bel := by
  refine ⟨hT.1, fun l p a ha => ⟨fun hl => ?_, fun hl => ?_⟩⟩
  · obtain ⟨es, ns, hN, hE⟩ := (hT.2 l p a ha).1 hl
    exact ⟨es, ns, hN.kp hk, fun j hj => ⟨(hE j hj).1, (hE j hj).2.kp hk⟩⟩
  · obtain ⟨es, ns, hN, hE⟩ := (hT.2 l p a ha).2 hl
    exact ⟨es, ns, hN.kp hk, fun j hj => (hE j hj).kp hk⟩
theorem q_ct_sum (es : Nat → Option Nat) : ∀ n, q_ct es n = ((List.range n).map (fun j => if (es j).isSome then 1 else 0)).sum
  | 0 => rfl
  | n + 1 => by rw [List.range_succ, List.map_append, List.sum_append, ← q_ct_sum es n]; simp [q_ct]
theorem Eo.is {h : x_H} {o : Option Nat} {x : Option KV} (he : Eo h o x) : o.isSome = x.isSome := by
  cases o <;> cases x <;> first | rfl | exact he.elim
theorem q_1_is (L : List KV) : (q_1 L).isSome = decide (L.length = 1) := by
  match L with
  | [] => rfl
  | [x] => rfl
  | x :: y :: r => simp [q_1]
theorem q_ct_list {L : List KV} : ∀ (n : Nat) {es : Nat → Option Nat}, (∀ j, j < n → (es j).isSome = (L[j]?).isSome) → L.length ≤ n → q_ct es n = L.length := by
  intro n es hE hl
  have h1 : ∀ m, m ≤ n → q_ct es m = min m L.length := by
    intro m
    induction m with
    | zero => intro _; simp [q_ct]
    | succ m ih =>
      intro hm
      rw [q_ct, ih (by omega), hE m (by omega)]
      by_cases hml : m < L.length
      · rw [List.getElem?_eq_getElem hml]
        simp
        omega
      · rw [List.getElem?_eq_none (by omega)]
        simp
        omega
  rw [h1 n (Nat.le_refl _)]
  omega
section TB
variable {K : x_K} {d : Nat} {h : x_H} {A : Nat → Nat → Option Nat} {ks : List KV} {bel : Nat → Nat → Int32} {t a : Nat} {g : Int32}
theorem Tr.kc (hT : Tr h A ks bel) (hK : Ko ks) {l p : Nat} (ha : A l p = some a) : l ≤ 4 ∧ ∃ n es k ns, Nd h a (bel l p) n es k ns ∧ n ≤ 6 ∧ k = (if l < 4 then 4 else 0) ∧ q_ct es n = q_kc ks l p ∧ ∀ j, j < k → ns j = A (l + 1) (4 * p + j) := by
  have hl := ((hT.1 l p).mp ⟨a, ha⟩).1
  refine ⟨hl, ?_⟩
  by_cases hl4 : l < 4
  · obtain ⟨es, ns, hN, hE⟩ := (hT.2 l p a ha).1 hl4
    refine ⟨4, es, 4, ns, hN, by omega, by rw [if_pos hl4], ?_, fun j hj => (hE j hj).1⟩
    rw [q_ct_sum]
    unfold q_kc
    rw [if_pos hl4]
    congr 1
    apply List.map_congr_left
    intro j hj
    have h2 := (hE j (List.mem_range.mp hj)).2.is
    rw [h2, q_1_is]
    simp
  · have hl5 : l = 4 := by omega
    subst hl5
    obtain ⟨es, ns, hN, hE⟩ := (hT.2 4 p a ha).2 rfl
    refine ⟨6, es, 0, ns, hN, by omega, by rw [if_neg hl4], ?_, fun j hj => by omega⟩
    unfold q_kc
    rw [if_neg hl4]
    exact q_ct_list 6 (fun j hj => (hE j hj).is) (hK.2.2 p)
theorem s_Tal_add {n k : Nat} {es ns : Nat → Option Nat} {ge : Int32} (hN : Nd h a ge n es k ns) (hn : n ≤ 6) (c : Ac) (ht : h.2.2 t = some (tl g c)) {l : Nat} (hl : l ≤ 4) (hc : c.2.2.2.1 ≤ 5) (hd : 1 ≤ d) (kc : Nat → Nat → Nat) (p : Nat) (hkc : kc l p = q_ct es n) (bel : Nat → Nat → Int32) (hb : bel l p = ge) :
    Go K M_Tal_add d 0 [some (.ref t), some (.ref a), some (.int (nI l))] [] h (x_is none (x_up h t (tl g (q_a1 kc (fun l p => bel l p = g) l p c)))) := by
  have hN' := hN
  obtain ⟨h0, h1, h2⟩ := hN
  unfold tl at ht
  have hta : a ≠ t := fun e => by subst e; rw [h0] at ht; cases ht
  refine go_aload_n (pc' := 1) (i := 0) d_Tal_add_0 rfl rfl (by first | rfl | exact x_r_rf _) rfl ?_
  refine go_dup (pc' := 2) d_Tal_add_1 (by first | rfl | exact x_c_rf _) rfl ?_
  refine go_getfield (pc' := 5) d_Tal_add_2 c_Tal 1 (by decide) t_216 (by first | assumption | exact x_up_self _ _ _ | exact x_nw_self _ _ _ | (rw [x_up_ne (by first | omega | (simp only [x_up, x_nw]; omega))]; first | assumption | exact x_up_self _ _ _ | (rw [x_up_ne (by first | omega | (simp only [x_up, x_nw]; omega))]; first | assumption | exact x_up_self _ _ _)) | (rw [x_nw_ne (by first | omega | (simp only [x_up, x_nw]; omega))]; first | assumption | exact x_up_self _ _ _ | (rw [x_up_ne (by first | omega | (simp only [x_up, x_nw]; omega))]; assumption))) (by rfl) rfl ?_
  refine go_aload_n (pc' := 6) (i := 1) d_Tal_add_5 rfl rfl (by first | rfl | exact x_r_rf _) rfl ?_
  refine go_callV (pc' := 9) (M' := M_Nod_countEntries) (ci := 2) (r := (n_Nod, T_Nod, 3)) [] d_Tal_add_6 t_246 t_247 t_248 cd_Nod_countEntries nm_Nod_countEntries rfl (by rfl) (by first | assumption | exact x_up_self _ _ _ | exact x_nw_self _ _ _ | (rw [x_up_ne (by first | omega | (simp only [x_up, x_nw]; omega))]; first | assumption | exact x_up_self _ _ _ | (rw [x_up_ne (by first | omega | (simp only [x_up, x_nw]; omega))]; first | assumption | exact x_up_self _ _ _)) | (rw [x_nw_ne (by first | omega | (simp only [x_up, x_nw]; omega))]; first | assumption | exact x_up_self _ _ _ | (rw [x_up_ne (by first | omega | (simp only [x_up, x_nw]; omega))]; assumption))) rfl (Nat.le_of_ble_eq_true rfl) rfl (s_countEntries (d := d - 1) hN' hn) (by first | decide | omega) (Nat.le_of_ble_eq_true rfl) rfl (fun v hh hq => ?_) (fun q g hq => by cases hq.1)
  obtain ⟨e1, rfl⟩ := hq
  cases e1
  show Go K M_Tal_add d 9 _ (.int (nI (q_ct es n)) :: _) h _
  refine go_iadd (pc' := 10) d_Tal_add_9 rfl ?_
  rw [nI_add]
  refine go_putfield (pc' := 13) d_Tal_add_10 c_Tal 1 (by decide) rfl t_216 (by first | assumption | exact x_up_self _ _ _ | exact x_nw_self _ _ _ | (rw [x_up_ne (by first | omega | (simp only [x_up, x_nw]; omega))]; first | assumption | exact x_up_self _ _ _ | (rw [x_up_ne (by first | omega | (simp only [x_up, x_nw]; omega))]; first | assumption | exact x_up_self _ _ _)) | (rw [x_nw_ne (by first | omega | (simp only [x_up, x_nw]; omega))]; first | assumption | exact x_up_self _ _ _ | (rw [x_up_ne (by first | omega | (simp only [x_up, x_nw]; omega))]; assumption))) (by rfl) (by rfl) (by first | exact Nat.le_of_ble_eq_true rfl | simp) rfl ?_
  refine go_aload_n (pc' := 14) (i := 0) d_Tal_add_13 rfl rfl (by first | rfl | exact x_r_rf _) rfl ?_
  refine go_dup (pc' := 15) d_Tal_add_14 (by first | rfl | exact x_c_rf _) rfl ?_
  refine go_getfield (pc' := 18) d_Tal_add_15 c_Tal 2 (by decide) t_218 (by first | assumption | exact x_up_self _ _ _ | exact x_nw_self _ _ _ | (rw [x_up_ne (by first | omega | (simp only [x_up, x_nw]; omega))]; first | assumption | exact x_up_self _ _ _ | (rw [x_up_ne (by first | omega | (simp only [x_up, x_nw]; omega))]; first | assumption | exact x_up_self _ _ _)) | (rw [x_nw_ne (by first | omega | (simp only [x_up, x_nw]; omega))]; first | assumption | exact x_up_self _ _ _ | (rw [x_up_ne (by first | omega | (simp only [x_up, x_nw]; omega))]; assumption))) (by rfl) rfl ?_
  refine go_iconst (pc' := 19) (v := (nI 1)) d_Tal_add_18 (by decide) rfl ?_
  refine go_iadd (pc' := 20) d_Tal_add_19 rfl ?_
  rw [nI_add]
  refine go_putfield (pc' := 23) d_Tal_add_20 c_Tal 2 (by decide) rfl t_218 (by first | assumption | exact x_up_self _ _ _ | exact x_nw_self _ _ _ | (rw [x_up_ne (by first | omega | (simp only [x_up, x_nw]; omega))]; first | assumption | exact x_up_self _ _ _ | (rw [x_up_ne (by first | omega | (simp only [x_up, x_nw]; omega))]; first | assumption | exact x_up_self _ _ _)) | (rw [x_nw_ne (by first | omega | (simp only [x_up, x_nw]; omega))]; first | assumption | exact x_up_self _ _ _ | (rw [x_up_ne (by first | omega | (simp only [x_up, x_nw]; omega))]; assumption))) (by rfl) (by rfl) (by first | exact Nat.le_of_ble_eq_true rfl | simp) rfl ?_
  refine go_aload_n (pc' := 24) (i := 0) d_Tal_add_23 rfl rfl (by first | rfl | exact x_r_rf _) rfl ?_
  refine go_dup (pc' := 25) d_Tal_add_24 (by first | rfl | exact x_c_rf _) rfl ?_
  refine go_getfield (pc' := 28) d_Tal_add_25 c_Tal 3 (by decide) t_220 (by first | assumption | exact x_up_self _ _ _ | exact x_nw_self _ _ _ | (rw [x_up_ne (by first | omega | (simp only [x_up, x_nw]; omega))]; first | assumption | exact x_up_self _ _ _ | (rw [x_up_ne (by first | omega | (simp only [x_up, x_nw]; omega))]; first | assumption | exact x_up_self _ _ _)) | (rw [x_nw_ne (by first | omega | (simp only [x_up, x_nw]; omega))]; first | assumption | exact x_up_self _ _ _ | (rw [x_up_ne (by first | omega | (simp only [x_up, x_nw]; omega))]; assumption))) (by rfl) rfl ?_
  refine go_iload_n (pc' := 29) (i := 2) d_Tal_add_28 rfl rfl rfl ?_
  refine go_iconst (pc' := 30) (v := (nI 4)) d_Tal_add_29 (by decide) rfl ?_
  simp only [x_up_up, List.set_cons_zero, List.set_cons_succ]
  have fin : ∀ x : Nat, x = (if bel l p = g then 1 else 0) → Go K M_Tal_add d 77 [some (.ref t), some (.ref a), some (.int (nI l))] [.int (nI x), .int (nI c.2.2.2.2), .ref t]
      (x_up h t (.inr (3, [.int g, .int (nI (c.1 + q_ct es n)), .int (nI (c.2.1 + 1)), .int (nI (c.2.2.1 + (if l = 4 then 1 else 0))), .int (nI (max c.2.2.2.1 (l + 1))), .int (nI c.2.2.2.2)]))) (x_is none (x_up h t (tl g (q_a1 kc (fun l p => bel l p = g) l p c)))) := by
    intro x hx
    refine go_iadd (pc' := 78) d_Tal_add_77 rfl ?_
    rw [nI_add]
    refine go_putfield (pc' := 81) d_Tal_add_78 c_Tal 5 (by decide) rfl t_224 (by first | assumption | exact x_up_self _ _ _ | exact x_nw_self _ _ _ | (rw [x_up_ne (by first | omega | (simp only [x_up, x_nw]; omega))]; first | assumption | exact x_up_self _ _ _ | (rw [x_up_ne (by first | omega | (simp only [x_up, x_nw]; omega))]; first | assumption | exact x_up_self _ _ _)) | (rw [x_nw_ne (by first | omega | (simp only [x_up, x_nw]; omega))]; first | assumption | exact x_up_self _ _ _ | (rw [x_up_ne (by first | omega | (simp only [x_up, x_nw]; omega))]; assumption))) (by rfl) (by rfl) (by first | exact Nat.le_of_ble_eq_true rfl | simp) rfl ?_
    simp only [x_up_up, List.set_cons_zero, List.set_cons_succ]
    refine go_return d_Tal_add_81 rfl ?_
    subst hx
    refine ⟨rfl, ?_⟩
    unfold tl q_a1
    rw [hkc]
  have rest : ∀ x : Nat, x = (if l = 4 then 1 else 0) → Go K M_Tal_add d 38 [some (.ref t), some (.ref a), some (.int (nI l))] [.int (nI x), .int (nI c.2.2.1), .ref t]
      (x_up h t (.inr (3, [.int g, .int (nI (c.1 + q_ct es n)), .int (nI (c.2.1 + 1)), .int (nI c.2.2.1), .int (nI c.2.2.2.1), .int (nI c.2.2.2.2)]))) (x_is none (x_up h t (tl g (q_a1 kc (fun l p => bel l p = g) l p c)))) := by
    intro x hx
    refine go_iadd (pc' := 39) d_Tal_add_38 rfl ?_
    rw [nI_add]
    refine go_putfield (pc' := 42) d_Tal_add_39 c_Tal 3 (by decide) rfl t_220 (by first | assumption | exact x_up_self _ _ _ | exact x_nw_self _ _ _ | (rw [x_up_ne (by first | omega | (simp only [x_up, x_nw]; omega))]; first | assumption | exact x_up_self _ _ _ | (rw [x_up_ne (by first | omega | (simp only [x_up, x_nw]; omega))]; first | assumption | exact x_up_self _ _ _)) | (rw [x_nw_ne (by first | omega | (simp only [x_up, x_nw]; omega))]; first | assumption | exact x_up_self _ _ _ | (rw [x_up_ne (by first | omega | (simp only [x_up, x_nw]; omega))]; assumption))) (by rfl) (by rfl) (by first | exact Nat.le_of_ble_eq_true rfl | simp) rfl ?_
    refine go_aload_n (pc' := 43) (i := 0) d_Tal_add_42 rfl rfl (by first | rfl | exact x_r_rf _) rfl ?_
    refine go_aload_n (pc' := 44) (i := 0) d_Tal_add_43 rfl rfl (by first | rfl | exact x_r_rf _) rfl ?_
    refine go_getfield (pc' := 47) d_Tal_add_44 c_Tal 4 (by decide) t_222 (by first | assumption | exact x_up_self _ _ _ | exact x_nw_self _ _ _ | (rw [x_up_ne (by first | omega | (simp only [x_up, x_nw]; omega))]; first | assumption | exact x_up_self _ _ _ | (rw [x_up_ne (by first | omega | (simp only [x_up, x_nw]; omega))]; first | assumption | exact x_up_self _ _ _)) | (rw [x_nw_ne (by first | omega | (simp only [x_up, x_nw]; omega))]; first | assumption | exact x_up_self _ _ _ | (rw [x_up_ne (by first | omega | (simp only [x_up, x_nw]; omega))]; assumption))) (by rfl) rfl ?_
    refine go_iload_n (pc' := 48) (i := 2) d_Tal_add_47 rfl rfl rfl ?_
    refine go_iconst (pc' := 49) (v := (nI 1)) d_Tal_add_48 (by decide) rfl ?_
    simp only [x_up_up, List.set_cons_zero, List.set_cons_succ]
    refine go_iadd (pc' := 50) d_Tal_add_49 rfl ?_
    rw [nI_add]
    refine go_mmax (pc' := 53) d_Tal_add_50 t_250 t_251 t_11 t_252 (Nat.le_of_ble_eq_true rfl) rfl ?_
    have em : (if nI c.2.2.2.1 < nI (l + 1) then nI (l + 1) else nI c.2.2.2.1) = nI (max c.2.2.2.1 (l + 1)) := by
      by_cases hlt : c.2.2.2.1 < l + 1
      · rw [if_pos ((nI_ltI (by omega) (by omega)).mpr hlt), Nat.max_eq_right (by omega)]
      · rw [if_neg (fun z => hlt ((nI_ltI (by omega) (by omega)).mp z)), Nat.max_eq_left (by omega)]
    rw [em]
    refine go_putfield (pc' := 56) d_Tal_add_53 c_Tal 4 (by decide) rfl t_222 (by first | assumption | exact x_up_self _ _ _ | exact x_nw_self _ _ _ | (rw [x_up_ne (by first | omega | (simp only [x_up, x_nw]; omega))]; first | assumption | exact x_up_self _ _ _ | (rw [x_up_ne (by first | omega | (simp only [x_up, x_nw]; omega))]; first | assumption | exact x_up_self _ _ _)) | (rw [x_nw_ne (by first | omega | (simp only [x_up, x_nw]; omega))]; first | assumption | exact x_up_self _ _ _ | (rw [x_up_ne (by first | omega | (simp only [x_up, x_nw]; omega))]; assumption))) (by rfl) (by rfl) (by first | exact Nat.le_of_ble_eq_true rfl | simp) rfl ?_
    refine go_aload_n (pc' := 57) (i := 0) d_Tal_add_56 rfl rfl (by first | rfl | exact x_r_rf _) rfl ?_
    refine go_dup (pc' := 58) d_Tal_add_57 (by first | rfl | exact x_c_rf _) rfl ?_
    refine go_getfield (pc' := 61) d_Tal_add_58 c_Tal 5 (by decide) t_224 (by first | assumption | exact x_up_self _ _ _ | exact x_nw_self _ _ _ | (rw [x_up_ne (by first | omega | (simp only [x_up, x_nw]; omega))]; first | assumption | exact x_up_self _ _ _ | (rw [x_up_ne (by first | omega | (simp only [x_up, x_nw]; omega))]; first | assumption | exact x_up_self _ _ _)) | (rw [x_nw_ne (by first | omega | (simp only [x_up, x_nw]; omega))]; first | assumption | exact x_up_self _ _ _ | (rw [x_up_ne (by first | omega | (simp only [x_up, x_nw]; omega))]; assumption))) (by rfl) rfl ?_
    refine go_aload_n (pc' := 62) (i := 1) d_Tal_add_61 rfl rfl (by first | rfl | exact x_r_rf _) rfl ?_
    refine go_getfield (pc' := 65) d_Tal_add_62 c_Nod 0 (by decide) t_40 (by first | assumption | exact x_up_self _ _ _ | exact x_nw_self _ _ _ | (rw [x_up_ne (by first | omega | (simp only [x_up, x_nw]; omega))]; first | assumption | exact x_up_self _ _ _ | (rw [x_up_ne (by first | omega | (simp only [x_up, x_nw]; omega))]; first | assumption | exact x_up_self _ _ _)) | (rw [x_nw_ne (by first | omega | (simp only [x_up, x_nw]; omega))]; first | assumption | exact x_up_self _ _ _ | (rw [x_up_ne (by first | omega | (simp only [x_up, x_nw]; omega))]; assumption))) (by rfl) rfl ?_
    refine go_aload_n (pc' := 66) (i := 0) d_Tal_add_65 rfl rfl (by first | rfl | exact x_r_rf _) rfl ?_
    refine go_getfield (pc' := 69) d_Tal_add_66 c_Tal 0 (by decide) t_215 (by first | assumption | exact x_up_self _ _ _ | exact x_nw_self _ _ _ | (rw [x_up_ne (by first | omega | (simp only [x_up, x_nw]; omega))]; first | assumption | exact x_up_self _ _ _ | (rw [x_up_ne (by first | omega | (simp only [x_up, x_nw]; omega))]; first | assumption | exact x_up_self _ _ _)) | (rw [x_nw_ne (by first | omega | (simp only [x_up, x_nw]; omega))]; first | assumption | exact x_up_self _ _ _ | (rw [x_up_ne (by first | omega | (simp only [x_up, x_nw]; omega))]; assumption))) (by rfl) rfl ?_
    simp only [x_up_up, List.set_cons_zero, List.set_cons_succ]
    subst hx
    refine go_icmp_ne (tgt := 76) (pc' := 72) d_Tal_add_69 (by decide) rfl (fun hc => ?_) (fun hc => ?_)
    · refine go_iconst (pc' := 77) (v := (nI 0)) d_Tal_add_76 (by decide) rfl ?_
      exact fin 0 (by rw [if_neg (by rw [hb]; exact hc)])
    · refine go_iconst (pc' := 73) (v := (nI 1)) d_Tal_add_72 (by decide) rfl ?_
      refine go_goto (tgt := 77) d_Tal_add_73 (by decide) ?_
      exact fin 1 (by rw [if_pos (by rw [hb]; exact hc)])
  refine go_icmp_neN (tgt := 37) (pc' := 33) d_Tal_add_30 (by decide) rfl (by omega) (by omega) (fun hc => ?_) (fun hc => ?_)
  · refine go_iconst (pc' := 38) (v := (nI 0)) d_Tal_add_37 (by decide) rfl ?_
    exact rest 0 (by rw [if_neg hc])
  · refine go_iconst (pc' := 34) (v := (nI 1)) d_Tal_add_33 (by decide) rfl ?_
    refine go_goto (tgt := 38) d_Tal_add_34 (by decide) ?_
    exact rest 1 (by rw [if_pos hc])
theorem s_addUp0 {l : Nat} : Go K M_Tri_addUp d 0 [some .null, some (.int (nI l)), some (.ref t), none] [] h (x_is none h) := by
  refine go_aload_n (pc' := 1) (i := 0) d_Tri_addUp_0 rfl rfl (by first | rfl | exact x_r_rf _) rfl ?_
  refine go_ifnull_n (tgt := 9) d_Tri_addUp_1 (by decide) ?_
  refine go_return d_Tri_addUp_9 rfl ?_
  exact ⟨rfl, rfl⟩
theorem s_addUp (hT : Tr h A ks bel) (hK : Ko ks) : ∀ (r l p a : Nat) (c : Ac) (h' : x_H), l + r = 4 → A l p = some a → Kp h h' → h'.2.2 t = some (tl g c) → c.2.2.2.1 ≤ 5 →
    Go K M_Tri_addUp (r + 2) 0 [some (.ref a), some (.int (nI l)), some (.ref t), none] [] h' (x_is none (x_up h' t (tl g (q_au A (q_kc ks) bel g (r + 1) l p c)))) ∧ (q_au A (q_kc ks) bel g (r + 1) l p c).2.2.2.1 ≤ 5 := by
  intro r
  induction r with
  | zero =>
    intro l p a c h' hl ha hk ht hcb
    have hl4 : l = 4 := by omega
    subst hl4
    obtain ⟨-, n, es, k, ns, hN, hn, hkk, hct, hns⟩ := (hT.kp hk).kc hK ha
    have hk0 : k = 0 := by rw [hkk]; rfl
    subst hk0
    have hN' := hN
    obtain ⟨h0, h1, h2⟩ := hN
    have ht' := ht
    unfold tl at ht'
    have hta : a + 2 ≠ t := fun e => by rw [e, ht'] at h2; cases h2
    have hta2 : a ≠ t := fun e => by rw [e, ht'] at h0; cases h0
    have eq1 : q_au A (q_kc ks) bel g 1 4 p c = q_a1 (q_kc ks) (fun l p => bel l p = g) 4 p c := by
      simp only [q_au, ha]
      rfl
    rw [eq1]
    refine ⟨?_, by simp only [q_a1]; omega⟩
    refine go_aload_n (pc' := 1) (i := 0) d_Tri_addUp_0 rfl rfl (by first | rfl | exact x_r_rf _) rfl ?_
    refine go_ifnull_r (pc' := 4) d_Tri_addUp_1 rfl ?_
    refine go_iload_n (pc' := 5) (i := 1) d_Tri_addUp_4 rfl rfl rfl ?_
    refine go_iconst (pc' := 6) (v := (nI 4)) d_Tri_addUp_5 (by decide) rfl ?_
    refine go_icmp_leN (tgt := 10) (pc' := 9) d_Tri_addUp_6 (by decide) rfl (by omega) (by omega) (fun hc => ?_) (fun hc => ?_)
    · refine go_aload_n (pc' := 11) (i := 2) d_Tri_addUp_10 rfl rfl (by first | rfl | exact x_r_rf _) rfl ?_
      refine go_aload_n (pc' := 12) (i := 0) d_Tri_addUp_11 rfl rfl (by first | rfl | exact x_r_rf _) rfl ?_
      refine go_iload_n (pc' := 13) (i := 1) d_Tri_addUp_12 rfl rfl rfl ?_
      refine go_callV (pc' := 16) (M' := M_Tal_add) (ci := 3) (r := (n_Tal, T_Tal, 6)) [_, _] d_Tri_addUp_13 t_242 t_243 t_244 cd_Tal_add nm_Tal_add rfl (by rfl) (by first | assumption | exact x_up_self _ _ _ | exact x_nw_self _ _ _ | (rw [x_up_ne (by first | omega | (simp only [x_up, x_nw]; omega))]; first | assumption | exact x_up_self _ _ _ | (rw [x_up_ne (by first | omega | (simp only [x_up, x_nw]; omega))]; first | assumption | exact x_up_self _ _ _)) | (rw [x_nw_ne (by first | omega | (simp only [x_up, x_nw]; omega))]; first | assumption | exact x_up_self _ _ _ | (rw [x_up_ne (by first | omega | (simp only [x_up, x_nw]; omega))]; assumption))) rfl (Nat.le_of_ble_eq_true rfl) rfl (s_Tal_add (d := 1) hN' hn c ht (l := 4) (by omega) hcb (by omega) (q_kc ks) p hct.symm bel rfl) (by first | decide | omega) (Nat.le_of_ble_eq_true rfl) rfl (fun v hh hq => ?_) (fun q g hq => by cases hq.1)
      obtain ⟨e1, rfl⟩ := hq
      cases e1
      refine go_iconst (pc' := 17) (v := (nI 0)) d_Tri_addUp_16 (by decide) rfl ?_
      refine go_istore_n (pc' := 18) (i := 3) d_Tri_addUp_17 rfl (by decide) (x_s3 (by first | rfl | exact x_k_rf _)) rfl ?_
      refine go_iload_n (pc' := 19) (i := 3) d_Tri_addUp_18 rfl rfl rfl ?_
      refine go_aload_n (pc' := 20) (i := 0) d_Tri_addUp_19 rfl rfl (by first | rfl | exact x_r_rf _) rfl ?_
      refine go_getfield (pc' := 23) d_Tri_addUp_20 c_Nod 2 (by decide) t_46 (by first | assumption | exact x_up_self _ _ _ | exact x_nw_self _ _ _ | (rw [x_up_ne (by first | omega | (simp only [x_up, x_nw]; omega))]; first | assumption | exact x_up_self _ _ _ | (rw [x_up_ne (by first | omega | (simp only [x_up, x_nw]; omega))]; first | assumption | exact x_up_self _ _ _)) | (rw [x_nw_ne (by first | omega | (simp only [x_up, x_nw]; omega))]; first | assumption | exact x_up_self _ _ _ | (rw [x_up_ne (by first | omega | (simp only [x_up, x_nw]; omega))]; assumption))) (by rfl) rfl ?_
      refine go_alenN (pc' := 24) d_Tri_addUp_23 (by first | assumption | exact x_up_self _ _ _ | exact x_nw_self _ _ _ | (rw [x_up_ne (by first | omega | (simp only [x_up, x_nw]; omega))]; first | assumption | exact x_up_self _ _ _ | (rw [x_up_ne (by first | omega | (simp only [x_up, x_nw]; omega))]; first | assumption | exact x_up_self _ _ _)) | (rw [x_nw_ne (by first | omega | (simp only [x_up, x_nw]; omega))]; first | assumption | exact x_up_self _ _ _ | (rw [x_up_ne (by first | omega | (simp only [x_up, x_nw]; omega))]; assumption))) (by rfl) rfl ?_
      refine go_icmp_geN (tgt := 46) (pc' := 27) d_Tri_addUp_24 (by decide) rfl (by omega) (by omega) (fun hc => ?_) (fun hc => ?_)
      · refine go_return d_Tri_addUp_46 rfl ?_
        exact ⟨rfl, rfl⟩
      · omega
    · omega
  | succ r ih =>
    intro l p a c h' hl ha hk ht hcb
    have hl4 : l < 4 := by omega
    obtain ⟨-, n, es, k, ns, hN, hn, hkk, hct, hns⟩ := (hT.kp hk).kc hK ha
    have hk0 : k = 4 := by rw [hkk, if_pos hl4]
    subst hk0
    have hN' := hN
    obtain ⟨h0, h1, h2⟩ := hN
    have ht' := ht
    unfold tl at ht'
    have hta : a + 2 ≠ t := fun e => by rw [e, ht'] at h2; cases h2
    have hta2 : a ≠ t := fun e => by rw [e, ht'] at h0; cases h0
    obtain ⟨c1, hc1⟩ : ∃ z, z = q_a1 (q_kc ks) (fun l p => bel l p = g) l p c := ⟨_, rfl⟩
    obtain ⟨F, hF⟩ : ∃ F : Nat → Ac, F = fun i => (List.range i).foldl (fun c j => q_au A (q_kc ks) bel g (r + 1) (l + 1) (4 * p + j) c) c1 := ⟨_, rfl⟩
    have hF0 : F 0 = c1 := by rw [hF]; rfl
    have hFs : ∀ i, F (i + 1) = q_au A (q_kc ks) bel g (r + 1) (l + 1) (4 * p + i) (F i) := by
      intro i
      rw [hF]
      simp only [List.range_succ, List.foldl_append, List.foldl_cons, List.foldl_nil]
    have eq1 : q_au A (q_kc ks) bel g (r + 1 + 1) l p c = F 4 := by
      rw [hF, hc1, q_au, ha]
    have hb1 : c1.2.2.2.1 ≤ 5 := by
      rw [hc1]
      simp only [q_a1]
      omega
    have hkp : ∀ c', Kp h (x_up h' t (tl g c')) := fun c' => hk.tr (Kp.up ht rfl)
    have hFb : ∀ i, i ≤ 4 → (F i).2.2.2.1 ≤ 5 := by
      intro i
      induction i with
      | zero => intro _; rw [hF0]; exact hb1
      | succ i ihi =>
        intro hi
        rw [hFs]
        cases hA : A (l + 1) (4 * p + i) with
        | none => simp only [q_au, hA]; exact ihi (by omega)
        | some b => exact (ih (l + 1) (4 * p + i) b (F i) (x_up h' t (tl g (F i))) (by omega) hA (hkp _) (x_up_self _ _ _) (ihi (by omega))).2
    rw [eq1]
    refine ⟨?_, hFb 4 (by omega)⟩
    have loop : ∀ rr i, i + rr = 4 → Go K M_Tri_addUp (r + 1 + 2) 18 [some (.ref a), some (.int (nI l)), some (.ref t), some (.int (nI i))] [] (x_up h' t (tl g (F i))) (x_is none (x_up h' t (tl g (F 4)))) := by
      intro rr
      induction rr with
      | zero =>
        intro i hi
        have hi4 : i = 4 := by omega
        subst hi4
        refine go_iload_n (pc' := 19) (i := 3) d_Tri_addUp_18 rfl rfl rfl ?_
        refine go_aload_n (pc' := 20) (i := 0) d_Tri_addUp_19 rfl rfl (by first | rfl | exact x_r_rf _) rfl ?_
        refine go_getfield (pc' := 23) d_Tri_addUp_20 c_Nod 2 (by decide) t_46 (by first | assumption | exact x_up_self _ _ _ | exact x_nw_self _ _ _ | (rw [x_up_ne (by first | omega | (simp only [x_up, x_nw]; omega))]; first | assumption | exact x_up_self _ _ _ | (rw [x_up_ne (by first | omega | (simp only [x_up, x_nw]; omega))]; first | assumption | exact x_up_self _ _ _)) | (rw [x_nw_ne (by first | omega | (simp only [x_up, x_nw]; omega))]; first | assumption | exact x_up_self _ _ _ | (rw [x_up_ne (by first | omega | (simp only [x_up, x_nw]; omega))]; assumption))) (by rfl) rfl ?_
        refine go_alenN (pc' := 24) d_Tri_addUp_23 (by first | assumption | exact x_up_self _ _ _ | exact x_nw_self _ _ _ | (rw [x_up_ne (by first | omega | (simp only [x_up, x_nw]; omega))]; first | assumption | exact x_up_self _ _ _ | (rw [x_up_ne (by first | omega | (simp only [x_up, x_nw]; omega))]; first | assumption | exact x_up_self _ _ _)) | (rw [x_nw_ne (by first | omega | (simp only [x_up, x_nw]; omega))]; first | assumption | exact x_up_self _ _ _ | (rw [x_up_ne (by first | omega | (simp only [x_up, x_nw]; omega))]; assumption))) (by rfl) rfl ?_
        refine go_icmp_geN (tgt := 46) (pc' := 27) d_Tri_addUp_24 (by decide) rfl (by omega) (by omega) (fun hc => ?_) (fun hc => ?_)
        · refine go_return d_Tri_addUp_46 rfl ?_
          exact ⟨rfl, rfl⟩
        · omega
      | succ rr ihr =>
        intro i hi
        refine go_iload_n (pc' := 19) (i := 3) d_Tri_addUp_18 rfl rfl rfl ?_
        refine go_aload_n (pc' := 20) (i := 0) d_Tri_addUp_19 rfl rfl (by first | rfl | exact x_r_rf _) rfl ?_
        refine go_getfield (pc' := 23) d_Tri_addUp_20 c_Nod 2 (by decide) t_46 (by first | assumption | exact x_up_self _ _ _ | exact x_nw_self _ _ _ | (rw [x_up_ne (by first | omega | (simp only [x_up, x_nw]; omega))]; first | assumption | exact x_up_self _ _ _ | (rw [x_up_ne (by first | omega | (simp only [x_up, x_nw]; omega))]; first | assumption | exact x_up_self _ _ _)) | (rw [x_nw_ne (by first | omega | (simp only [x_up, x_nw]; omega))]; first | assumption | exact x_up_self _ _ _ | (rw [x_up_ne (by first | omega | (simp only [x_up, x_nw]; omega))]; assumption))) (by rfl) rfl ?_
        refine go_alenN (pc' := 24) d_Tri_addUp_23 (by first | assumption | exact x_up_self _ _ _ | exact x_nw_self _ _ _ | (rw [x_up_ne (by first | omega | (simp only [x_up, x_nw]; omega))]; first | assumption | exact x_up_self _ _ _ | (rw [x_up_ne (by first | omega | (simp only [x_up, x_nw]; omega))]; first | assumption | exact x_up_self _ _ _)) | (rw [x_nw_ne (by first | omega | (simp only [x_up, x_nw]; omega))]; first | assumption | exact x_up_self _ _ _ | (rw [x_up_ne (by first | omega | (simp only [x_up, x_nw]; omega))]; assumption))) (by rfl) rfl ?_
        refine go_icmp_geN (tgt := 46) (pc' := 27) d_Tri_addUp_24 (by decide) rfl (by omega) (by omega) (fun hc => ?_) (fun hc => ?_)
        · omega
        · refine go_aload_n (pc' := 28) (i := 0) d_Tri_addUp_27 rfl rfl (by first | rfl | exact x_r_rf _) rfl ?_
          refine go_getfield (pc' := 31) d_Tri_addUp_28 c_Nod 2 (by decide) t_46 (by first | assumption | exact x_up_self _ _ _ | exact x_nw_self _ _ _ | (rw [x_up_ne (by first | omega | (simp only [x_up, x_nw]; omega))]; first | assumption | exact x_up_self _ _ _ | (rw [x_up_ne (by first | omega | (simp only [x_up, x_nw]; omega))]; first | assumption | exact x_up_self _ _ _)) | (rw [x_nw_ne (by first | omega | (simp only [x_up, x_nw]; omega))]; first | assumption | exact x_up_self _ _ _ | (rw [x_up_ne (by first | omega | (simp only [x_up, x_nw]; omega))]; assumption))) (by rfl) rfl ?_
          refine go_iload_n (pc' := 32) (i := 3) d_Tri_addUp_31 rfl rfl rfl ?_
          refine go_aaldN (pc' := 33) d_Tri_addUp_32 (by first | assumption | exact x_up_self _ _ _ | exact x_nw_self _ _ _ | (rw [x_up_ne (by first | omega | (simp only [x_up, x_nw]; omega))]; first | assumption | exact x_up_self _ _ _ | (rw [x_up_ne (by first | omega | (simp only [x_up, x_nw]; omega))]; first | assumption | exact x_up_self _ _ _)) | (rw [x_nw_ne (by first | omega | (simp only [x_up, x_nw]; omega))]; first | assumption | exact x_up_self _ _ _ | (rw [x_up_ne (by first | omega | (simp only [x_up, x_nw]; omega))]; assumption))) (by rfl) (by first | assumption | omega | (simp only [x_up, x_nw]; omega)) (by first | assumption | omega | (simp only [x_up, x_nw]; omega)) rfl ?_
          refine go_iload_n (pc' := 34) (i := 1) d_Tri_addUp_33 rfl rfl rfl ?_
          refine go_iconst (pc' := 35) (v := (nI 1)) d_Tri_addUp_34 (by decide) rfl ?_
          refine go_iadd (pc' := 36) d_Tri_addUp_35 rfl ?_
          rw [nI_add, hns i (by omega)]
          refine go_aload_n (pc' := 37) (i := 2) d_Tri_addUp_36 rfl rfl (by first | rfl | exact x_r_rf _) rfl ?_
          cases hA : A (l + 1) (4 * p + i) with
          | none =>
            have e : F (i + 1) = F i := by rw [hFs]; simp only [q_au, hA]
            refine go_callS (pc' := 40) (M' := M_Tri_addUp) [_, _, _] d_Tri_addUp_37 t_239 t_240 t_1 cd_Tri_addUp nm_Tri_addUp rfl rfl (Nat.le_of_ble_eq_true rfl) rfl (s_addUp0 (d := r + 2)) (by first | decide | omega) (Nat.le_of_ble_eq_true rfl) rfl (fun v hh hq => ?_) (fun q g hq => by cases hq.1)
            obtain ⟨e1, rfl⟩ := hq
            cases e1
            refine go_iinc (pc' := 43) (i := 3) d_Tri_addUp_40 rfl (x_i1 _) (by decide) (x_s3 (by first | rfl | exact x_k_rf _)) rfl ?_
            refine go_goto (tgt := 18) d_Tri_addUp_43 (by decide) ?_
            rw [← e]
            exact ihr (i + 1) (by omega)
          | some b =>
            refine go_callS (pc' := 40) (M' := M_Tri_addUp) [_, _, _] d_Tri_addUp_37 t_239 t_240 t_1 cd_Tri_addUp nm_Tri_addUp rfl rfl (Nat.le_of_ble_eq_true rfl) rfl ((ih (l + 1) (4 * p + i) b (F i) (x_up h' t (tl g (F i))) (by omega) hA (hkp _) (x_up_self _ _ _) (hFb i (by omega))).1) (by first | decide | omega) (Nat.le_of_ble_eq_true rfl) rfl (fun v hh hq => ?_) (fun q g hq => by cases hq.1)
            obtain ⟨e1, rfl⟩ := hq
            cases e1
            rw [x_up_up, ← hFs]
            refine go_iinc (pc' := 43) (i := 3) d_Tri_addUp_40 rfl (x_i1 _) (by decide) (x_s3 (by first | rfl | exact x_k_rf _)) rfl ?_
            refine go_goto (tgt := 18) d_Tri_addUp_43 (by decide) ?_
            exact ihr (i + 1) (by omega)
    refine go_aload_n (pc' := 1) (i := 0) d_Tri_addUp_0 rfl rfl (by first | rfl | exact x_r_rf _) rfl ?_
    refine go_ifnull_r (pc' := 4) d_Tri_addUp_1 rfl ?_
    refine go_iload_n (pc' := 5) (i := 1) d_Tri_addUp_4 rfl rfl rfl ?_
    refine go_iconst (pc' := 6) (v := (nI 4)) d_Tri_addUp_5 (by decide) rfl ?_
    refine go_icmp_leN (tgt := 10) (pc' := 9) d_Tri_addUp_6 (by decide) rfl (by omega) (by omega) (fun hc => ?_) (fun hc => ?_)
    · refine go_aload_n (pc' := 11) (i := 2) d_Tri_addUp_10 rfl rfl (by first | rfl | exact x_r_rf _) rfl ?_
      refine go_aload_n (pc' := 12) (i := 0) d_Tri_addUp_11 rfl rfl (by first | rfl | exact x_r_rf _) rfl ?_
      refine go_iload_n (pc' := 13) (i := 1) d_Tri_addUp_12 rfl rfl rfl ?_
      refine go_callV (pc' := 16) (M' := M_Tal_add) (ci := 3) (r := (n_Tal, T_Tal, 6)) [_, _] d_Tri_addUp_13 t_242 t_243 t_244 cd_Tal_add nm_Tal_add rfl (by rfl) (by first | assumption | exact x_up_self _ _ _ | exact x_nw_self _ _ _ | (rw [x_up_ne (by first | omega | (simp only [x_up, x_nw]; omega))]; first | assumption | exact x_up_self _ _ _ | (rw [x_up_ne (by first | omega | (simp only [x_up, x_nw]; omega))]; first | assumption | exact x_up_self _ _ _)) | (rw [x_nw_ne (by first | omega | (simp only [x_up, x_nw]; omega))]; first | assumption | exact x_up_self _ _ _ | (rw [x_up_ne (by first | omega | (simp only [x_up, x_nw]; omega))]; assumption))) rfl (Nat.le_of_ble_eq_true rfl) rfl (s_Tal_add (d := r + 2) hN' hn c ht (l := l) (by omega) hcb (by omega) (q_kc ks) p hct.symm bel rfl) (by first | decide | omega) (Nat.le_of_ble_eq_true rfl) rfl (fun v hh hq => ?_) (fun q g hq => by cases hq.1)
      obtain ⟨e1, rfl⟩ := hq
      cases e1
      refine go_iconst (pc' := 17) (v := (nI 0)) d_Tri_addUp_16 (by decide) rfl ?_
      refine go_istore_n (pc' := 18) (i := 3) d_Tri_addUp_17 rfl (by decide) (x_s3 (by first | rfl | exact x_k_rf _)) rfl ?_
      have := loop 4 0 (by omega)
      rw [hF0, hc1] at this
      exact this
    · omega
end TB
