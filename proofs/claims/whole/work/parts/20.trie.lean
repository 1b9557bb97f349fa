/-! a map's keys as a list, and the trie that holds them -/
abbrev KV : Type := Int32 × Int64
def q_f (ks : List KV) (l p : Nat) : List KV := ks.filter (fun x => q_p l x.1 == p)
def q_1 (L : List KV) : Option KV := match L with
  | [x] => some x
  | _ => none
def q_get (ks : List KV) (key : Int32) : Option KV := ks.find? (fun x => x.1 == key)
def Eo (h : x_H) (o : Option Nat) (x : Option KV) : Prop := match o, x with
  | some e, some kv => Et h e kv.1 kv.2
  | none, none => True
  | _, _ => False
def Tn (h : x_H) (A : Nat → Nat → Option Nat) (ks : List KV) (bel : Nat → Nat → Int32) (l p a : Nat) : Prop :=
  (l < 4 → ∃ es ns, Nd h a (bel l p) 4 es 4 ns ∧ ∀ j, j < 4 → ns j = A (l + 1) (4 * p + j) ∧ Eo h (es j) (q_1 (q_f ks (l + 1) (4 * p + j)))) ∧
  (l = 4 → ∃ es ns, Nd h a (bel l p) 6 es 0 ns ∧ ∀ j, j < 6 → Eo h (es j) ((q_f ks 4 p)[j]?))
def Tr (h : x_H) (A : Nat → Nat → Option Nat) (ks : List KV) (bel : Nat → Nat → Int32) : Prop :=
  (∀ l p, (∃ a, A l p = some a) ↔ (l ≤ 4 ∧ p < 4 ^ l ∧ (l = 0 ∨ 2 ≤ (q_f ks l p).length))) ∧ ∀ l p a, A l p = some a → Tn h A ks bel l p a
def Ko (ks : List KV) : Prop := ks.length ≤ 60 ∧ (ks.map (fun x => x.1)).Nodup ∧ ∀ p, (q_f ks 4 p).length ≤ 6
theorem q_f_mem {ks : List KV} {l p : Nat} {x : KV} : x ∈ q_f ks l p ↔ x ∈ ks ∧ q_p l x.1 = p := by
  unfold q_f
  rw [List.mem_filter]
  simp
theorem q_f_get (ks : List KV) (l : Nat) (key : Int32) : q_get (q_f ks l (q_p l key)) key = q_get ks key := by
  unfold q_get q_f
  rw [List.find?_filter]
  congr 1
  funext x
  by_cases hx : x.1 = key
  · subst hx; simp
  · simp [hx]
theorem q_f_0 (ks : List KV) : q_f ks 0 0 = ks := by
  unfold q_f
  rw [List.filter_eq_self]
  intro x _
  simp [q_p_0]
/-- the key of an entry, off the heap -/
def kfh (h : x_H) (e : Nat) : Int32 := match h.2.2 e with
  | some (.inr (1, .int k :: _)) => k
  | _ => 0
theorem Et.kf {h : x_H} {e : Nat} {k : Int32} {v : Int64} (he : Et h e k v) : kfh h e = k := by
  unfold Et at he
  unfold kfh
  rw [he]
  rfl
theorem Eo.some {h : x_H} {o : Option Nat} {x : KV} (he : Eo h o (Option.some x)) : ∃ e, o = Option.some e ∧ Et h e x.1 x.2 := by
  cases o with
  | none => exact he.elim
  | some e => exact ⟨e, rfl, he⟩
theorem Eo.none {h : x_H} {o : Option Nat} (he : Eo h o Option.none) : o = Option.none := by
  cases o with
  | none => rfl
  | some e => exact he.elim
theorem Eo.to {h : x_H} {e : Nat} {x : Option KV} (he : Eo h (Option.some e) x) : ∃ kv, x = Option.some kv ∧ Et h e kv.1 kv.2 := by
  cases x with
  | none => exact he.elim
  | some kv => exact ⟨kv, rfl, he⟩
theorem Eo.to0 {h : x_H} {x : Option KV} (he : Eo h Option.none x) : x = Option.none := by
  cases x with
  | none => rfl
  | some kv => exact he.elim
theorem q_pl_find {h : x_H} {es : Nat → Option Nat} {key : Int32} : ∀ (r j : Nat) (L : List KV), (∀ i, i < r → Eo h (es (j + i)) (L[i]?)) → L.length ≤ r →
    match q_pl es (kfh h) key r j with
    | some i => j ≤ i ∧ ∃ e x, es i = some e ∧ q_get L key = some x ∧ Et h e x.1 x.2 ∧ L[i - j]? = some x ∧ ∀ m, m < i - j → ∀ y, L[m]? = some y → y.1 ≠ key
    | none => q_get L key = none
  | 0, j, L, hE, hl => by
    have : L = [] := List.length_eq_zero_iff.mp (by omega)
    subst this
    rfl
  | r + 1, j, [], hE, hl => by
    have h0 := (hE 0 (by omega)).none
    have ih := q_pl_find (h := h) (es := es) (key := key) r (j + 1) [] (fun i hi => by
      have := hE (i + 1) (by omega)
      rw [show j + 1 + i = j + (i + 1) by omega]
      simpa using this) (by simp)
    have e : q_pl es (kfh h) key (r + 1) j = q_pl es (kfh h) key r (j + 1) := by
      rw [Nat.add_zero] at h0
      simp [q_pl, h0]
    rw [e]
    cases hq : q_pl es (kfh h) key r (j + 1) with
    | none => rfl
    | some i =>
      rw [hq] at ih
      obtain ⟨-, e, x, -, h2, -⟩ := ih
      cases h2
  | r + 1, j, x :: L, hE, hl => by
    obtain ⟨e, h0, h1⟩ := Eo.some (x := x) (by simpa using hE 0 (by omega))
    by_cases hk : x.1 = key
    · have e1 : q_pl es (kfh h) key (r + 1) j = some j := by simp [q_pl, h0, h1.kf, hk]
      rw [e1]
      refine ⟨Nat.le_refl _, e, x, h0, by simp [q_get, hk], h1, by simp, fun m hm => by omega⟩
    · have e1 : q_pl es (kfh h) key (r + 1) j = q_pl es (kfh h) key r (j + 1) := by simp [q_pl, h0, h1.kf, hk]
      rw [e1]
      have ih := q_pl_find (h := h) (es := es) (key := key) r (j + 1) L (fun i hi => by
        have := hE (i + 1) (by omega)
        rw [show j + 1 + i = j + (i + 1) by omega]
        simpa using this) (by simpa using hl)
      have e2 : q_get (x :: L) key = q_get L key := by simp [q_get, hk]
      cases hq : q_pl es (kfh h) key r (j + 1) with
      | none => rw [hq] at ih; rw [e2]; exact ih
      | some i =>
        rw [hq] at ih
        obtain ⟨g1, e', x', g2, g3, g4, g5, g6⟩ := ih
        refine ⟨by omega, e', x', g2, by rw [e2]; exact g3, g4, ?_, ?_⟩
        · rw [show i - j = (i - (j + 1)) + 1 by omega]
          simpa using g5
        · intro m hm y hy
          cases m with
          | zero => simp at hy; subst hy; exact hk
          | succ m => exact g6 m (by omega) y (by simpa using hy)
theorem Eo.kfE {h : x_H} {es : Nat → Option Nat} {n : Nat} {F : Nat → Option KV} (hE : ∀ j, j < n → Eo h (es j) (F j)) : ∀ j, j < n → ∀ e, es j = Option.some e → ∃ v, Et h e (kfh h e) v := by
  intro j hj e he
  have := hE j hj
  rw [he] at this
  obtain ⟨kv, -, h2⟩ := Eo.to this
  exact ⟨kv.2, by rw [h2.kf]; exact h2⟩
section TA
variable {K : x_K} {d : Nat} {h : x_H} {A : Nat → Nat → Option Nat} {ks : List KV} {bel : Nat → Nat → Int32}
theorem Tr.no {l : Nat} {key : Int32} (hT : Tr h A ks bel) (hl : l < 4) (hn : A (l + 1) (q_p (l + 1) key) = none) : (q_f ks (l + 1) (q_p (l + 1) key)).length ≤ 1 := by
  apply Classical.byContradiction
  intro hc
  obtain ⟨a, ha⟩ := (hT.1 (l + 1) (q_p (l + 1) key)).mpr ⟨by omega, q_p_lt (by omega) key, Or.inr (by omega)⟩
  rw [hn] at ha
  cases ha
theorem s_find (hT : Tr h A ks bel) (hK : Ko ks) {root : Nat} (hr : A 0 0 = some root) (key : Int32) (hd : 1 ≤ d) :
    Go K M_Tri_find d 0 [some (.ref root), some (.int key), none, none, none, none, none] [] h (x_rt (fun v g => h = g ∧ ∃ o, v = some (va_rf o) ∧ Eo h o (q_get ks key))) := by
  have loop : ∀ r l a x4 x5 x6, l + r = 4 → A l (q_p l key) = some a → x_k x4 = x4 → x_k x5 = x5 → x_k x6 = x6 →
      Go K M_Tri_find d 4 [some (.ref root), some (.int key), some (.ref a), some (.int (nI l)), x4, x5, x6] [] h (x_rt (fun v g => h = g ∧ ∃ o, v = some (va_rf o) ∧ Eo h o (q_get ks key))) := by
    intro r
    induction r with
    | zero =>
      intro l a x4 x5 x6 hl ha k4 k5 k6
      have hl4 : l = 4 := by omega
      subst hl4
      obtain ⟨es, ns, hN, hE⟩ := (hT.2 4 _ a ha).2 rfl
      have hkE := Eo.kfE hE
      have hN' := hN
      obtain ⟨h0, h1, h2⟩ := hN
      refine go_iload_n (pc' := 5) (i := 3) d_Tri_find_4 rfl rfl rfl ?_
      refine go_iconst (pc' := 6) (v := (nI 4)) d_Tri_find_5 (by decide) rfl ?_
      refine go_icmp_geN (tgt := 69) (pc' := 9) d_Tri_find_6 (by decide) rfl (by omega) (by omega) (fun hc => ?_) (fun hc => ?_)
      · refine go_aload_n (pc' := 70) (i := 2) d_Tri_find_69 rfl rfl (by first | rfl | exact x_r_rf _) rfl ?_
        refine go_iload_n (pc' := 71) (i := 1) d_Tri_find_70 rfl rfl rfl ?_
        refine go_callV (pc' := 74) (M' := M_Nod_placeInBag) (ci := 2) (r := (n_Nod, T_Nod, 3)) [_] d_Tri_find_71 t_199 t_200 t_201 cd_Nod_placeInBag nm_Nod_placeInBag rfl (by rfl) (by first | assumption | exact x_up_self _ _ _ | exact x_nw_self _ _ _ | (rw [x_up_ne (by first | omega | (simp only [x_up, x_nw]; omega))]; first | assumption | exact x_up_self _ _ _ | (rw [x_up_ne (by first | omega | (simp only [x_up, x_nw]; omega))]; first | assumption | exact x_up_self _ _ _)) | (rw [x_nw_ne (by first | omega | (simp only [x_up, x_nw]; omega))]; first | assumption | exact x_up_self _ _ _ | (rw [x_up_ne (by first | omega | (simp only [x_up, x_nw]; omega))]; assumption))) rfl (Nat.le_of_ble_eq_true rfl) rfl (s_placeInBag (d := d - 1) hN' (by omega) hkE key) (by first | decide | omega) (Nat.le_of_ble_eq_true rfl) rfl (fun v hh hq => ?_) (fun q g hq => by cases hq.1)
        obtain ⟨e1, rfl⟩ := hq
        cases e1
        have hpf := q_pl_find (h := h) (es := es) (key := key) 6 0 (q_f ks 4 (q_p 4 key)) (fun i hi => by rw [Nat.zero_add]; exact hE i hi) (hK.2.2 _)
        rw [q_f_get] at hpf
        cases hq : q_pl es (kfh h) key 6 0 with
        | none =>
          rw [hq] at hpf
          show Go K M_Tri_find d 74 _ [.int (-1)] h _
          refine go_istore_n (pc' := 75) (i := 3) d_Tri_find_74 rfl (by decide) (x_s3 (by first | rfl | exact x_k_rf _)) rfl ?_
          refine go_iload_n (pc' := 76) (i := 3) d_Tri_find_75 rfl rfl rfl ?_
          refine go_iconst (pc' := 77) (v := (-1)) d_Tri_find_76 (by decide) rfl ?_
          refine go_icmp_ne (tgt := 84) (pc' := 80) d_Tri_find_77 (by decide) rfl (fun hc => ?_) (fun hc => ?_)
          · exact absurd rfl hc
          · refine go_null (pc' := 81) d_Tri_find_80 rfl ?_
            refine go_goto (tgt := 90) d_Tri_find_81 (by decide) ?_
            refine go_areturn d_Tri_find_90 rfl ⟨_, rfl⟩ (by first | rfl | exact x_r_rf _) ?_
            have hpf' : q_get ks key = none := hpf
            exact ⟨rfl, none, rfl, by rw [hpf']; trivial⟩
        | some i =>
          rw [hq] at hpf
          obtain ⟨-, e, x, g2, g3, g4, -⟩ := hpf
          have hi := q_pl_lt es (kfh h) key 6 0 i hq
          show Go K M_Tri_find d 74 _ [.int (nI i)] h _
          refine go_istore_n (pc' := 75) (i := 3) d_Tri_find_74 rfl (by decide) (x_s3 (by first | rfl | exact x_k_rf _)) rfl ?_
          refine go_iload_n (pc' := 76) (i := 3) d_Tri_find_75 rfl rfl rfl ?_
          refine go_iconst (pc' := 77) (v := (-1)) d_Tri_find_76 (by decide) rfl ?_
          refine go_icmp_ne (tgt := 84) (pc' := 80) d_Tri_find_77 (by decide) rfl (fun hc => ?_) (fun hc => ?_)
          · refine go_aload_n (pc' := 85) (i := 2) d_Tri_find_84 rfl rfl (by first | rfl | exact x_r_rf _) rfl ?_
            refine go_getfield (pc' := 88) d_Tri_find_85 c_Nod 1 (by decide) t_44 (by first | assumption | exact x_up_self _ _ _ | exact x_nw_self _ _ _ | (rw [x_up_ne (by first | omega | (simp only [x_up, x_nw]; omega))]; first | assumption | exact x_up_self _ _ _ | (rw [x_up_ne (by first | omega | (simp only [x_up, x_nw]; omega))]; first | assumption | exact x_up_self _ _ _)) | (rw [x_nw_ne (by first | omega | (simp only [x_up, x_nw]; omega))]; first | assumption | exact x_up_self _ _ _ | (rw [x_up_ne (by first | omega | (simp only [x_up, x_nw]; omega))]; assumption))) (by rfl) rfl ?_
            refine go_iload_n (pc' := 89) (i := 3) d_Tri_find_88 rfl rfl rfl ?_
            refine go_aaldN (pc' := 90) d_Tri_find_89 (by first | assumption | exact x_up_self _ _ _ | exact x_nw_self _ _ _ | (rw [x_up_ne (by first | omega | (simp only [x_up, x_nw]; omega))]; first | assumption | exact x_up_self _ _ _ | (rw [x_up_ne (by first | omega | (simp only [x_up, x_nw]; omega))]; first | assumption | exact x_up_self _ _ _)) | (rw [x_nw_ne (by first | omega | (simp only [x_up, x_nw]; omega))]; first | assumption | exact x_up_self _ _ _ | (rw [x_up_ne (by first | omega | (simp only [x_up, x_nw]; omega))]; assumption))) (by rfl) (by first | assumption | omega | (simp only [x_up, x_nw]; omega)) (by first | assumption | omega | (simp only [x_up, x_nw]; omega)) rfl ?_
            rw [g2]
            refine go_areturn d_Tri_find_90 rfl ⟨_, rfl⟩ (by first | rfl | exact x_r_rf _) ?_
            exact ⟨rfl, some e, rfl, by rw [g3]; exact g4⟩
          · exfalso
            have := congrArg Int32.toInt hc
            rw [nI_toInt (by omega)] at this
            have h2 : (-1 : Int32).toInt = -1 := by decide
            omega
      · omega
    | succ r ih =>
      intro l a x4 x5 x6 hl ha k4 k5 k6
      have hl4 : l < 4 := by omega
      obtain ⟨es, ns, hN, hE⟩ := (hT.2 l _ a ha).1 hl4
      have hd4 := q_d_lt l key
      obtain ⟨hns, hes⟩ := hE _ hd4
      rw [← q_p_s hl4] at hns hes
      obtain ⟨h0, h1, h2⟩ := hN
      refine go_iload_n (pc' := 5) (i := 3) d_Tri_find_4 rfl rfl rfl ?_
      refine go_iconst (pc' := 6) (v := (nI 4)) d_Tri_find_5 (by decide) rfl ?_
      refine go_icmp_geN (tgt := 69) (pc' := 9) d_Tri_find_6 (by decide) rfl (by omega) (by omega) (fun hc => ?_) (fun hc => ?_)
      · omega
      · refine go_iload_n (pc' := 10) (i := 1) d_Tri_find_9 rfl rfl rfl ?_
        refine go_iload_n (pc' := 11) (i := 3) d_Tri_find_10 rfl rfl rfl ?_
        refine go_callS (pc' := 14) (M' := M_Tri_digit) [_, _] d_Tri_find_11 t_195 t_196 t_1 cd_Tri_digit nm_Tri_digit rfl rfl (Nat.le_of_ble_eq_true rfl) rfl (s_digit (d := d - 1) key hl4) (by first | decide | omega) (Nat.le_of_ble_eq_true rfl) rfl (fun v hh hq => ?_) (fun q g hq => by cases hq.1)
        obtain ⟨e1, rfl⟩ := hq
        cases e1
        show Go K M_Tri_find d 14 _ [.int (nI (q_d l key))] h _
        refine go_istore (pc' := 16) (i := 4) d_Tri_find_14 (by decide) (x_s4 rfl) rfl ?_
        refine go_aload_n (pc' := 17) (i := 2) d_Tri_find_16 rfl rfl (by first | rfl | exact x_r_rf _) rfl ?_
        refine go_getfield (pc' := 20) d_Tri_find_17 c_Nod 2 (by decide) t_46 (by first | assumption | exact x_up_self _ _ _ | exact x_nw_self _ _ _ | (rw [x_up_ne (by first | omega | (simp only [x_up, x_nw]; omega))]; first | assumption | exact x_up_self _ _ _ | (rw [x_up_ne (by first | omega | (simp only [x_up, x_nw]; omega))]; first | assumption | exact x_up_self _ _ _)) | (rw [x_nw_ne (by first | omega | (simp only [x_up, x_nw]; omega))]; first | assumption | exact x_up_self _ _ _ | (rw [x_up_ne (by first | omega | (simp only [x_up, x_nw]; omega))]; assumption))) (by rfl) rfl ?_
        refine go_iload (pc' := 22) (i := 4) d_Tri_find_20 rfl rfl ?_
        refine go_aaldN (pc' := 23) d_Tri_find_22 (by first | assumption | exact x_up_self _ _ _ | exact x_nw_self _ _ _ | (rw [x_up_ne (by first | omega | (simp only [x_up, x_nw]; omega))]; first | assumption | exact x_up_self _ _ _ | (rw [x_up_ne (by first | omega | (simp only [x_up, x_nw]; omega))]; first | assumption | exact x_up_self _ _ _)) | (rw [x_nw_ne (by first | omega | (simp only [x_up, x_nw]; omega))]; first | assumption | exact x_up_self _ _ _ | (rw [x_up_ne (by first | omega | (simp only [x_up, x_nw]; omega))]; assumption))) (by rfl) (by first | assumption | omega | (simp only [x_up, x_nw]; omega)) (by first | assumption | omega | (simp only [x_up, x_nw]; omega)) rfl ?_
        rw [hns]
        refine go_astore (pc' := 25) (i := 5) d_Tri_find_23 (by decide) (x_r_rf _) (x_s5 rfl) rfl ?_
        refine go_aload (pc' := 27) (i := 5) d_Tri_find_25 rfl (by first | rfl | exact x_r_rf _) rfl ?_
        refine go_ifnonnull (tgt := 60) (pc' := 30) d_Tri_find_27 (by decide) rfl (fun b hc => ?_) (fun hc => ?_)
        · rw [hc]
          refine go_aload (pc' := 62) (i := 5) d_Tri_find_60 rfl (by first | rfl | exact x_r_rf _) rfl ?_
          refine go_astore_n (pc' := 63) (i := 2) d_Tri_find_62 rfl (by decide) (by first | rfl | exact x_r_rf _) (x_s2 (by first | rfl | exact x_k_rf _)) rfl ?_
          refine go_iinc (pc' := 66) (i := 3) d_Tri_find_63 rfl (x_i1 _) (by decide) (x_s3 (by first | rfl | exact x_k_rf _)) rfl ?_
          refine go_goto (tgt := 4) d_Tri_find_66 (by decide) ?_
          exact ih (l + 1) b _ _ _ (by omega) hc rfl rfl k6
        · have hlen := hT.no hl4 hc
          refine go_aload_n (pc' := 31) (i := 2) d_Tri_find_30 rfl rfl (by first | rfl | exact x_r_rf _) rfl ?_
          refine go_getfield (pc' := 34) d_Tri_find_31 c_Nod 1 (by decide) t_44 (by first | assumption | exact x_up_self _ _ _ | exact x_nw_self _ _ _ | (rw [x_up_ne (by first | omega | (simp only [x_up, x_nw]; omega))]; first | assumption | exact x_up_self _ _ _ | (rw [x_up_ne (by first | omega | (simp only [x_up, x_nw]; omega))]; first | assumption | exact x_up_self _ _ _)) | (rw [x_nw_ne (by first | omega | (simp only [x_up, x_nw]; omega))]; first | assumption | exact x_up_self _ _ _ | (rw [x_up_ne (by first | omega | (simp only [x_up, x_nw]; omega))]; assumption))) (by rfl) rfl ?_
          refine go_iload (pc' := 36) (i := 4) d_Tri_find_34 rfl rfl ?_
          refine go_aaldN (pc' := 37) d_Tri_find_36 (by first | assumption | exact x_up_self _ _ _ | exact x_nw_self _ _ _ | (rw [x_up_ne (by first | omega | (simp only [x_up, x_nw]; omega))]; first | assumption | exact x_up_self _ _ _ | (rw [x_up_ne (by first | omega | (simp only [x_up, x_nw]; omega))]; first | assumption | exact x_up_self _ _ _)) | (rw [x_nw_ne (by first | omega | (simp only [x_up, x_nw]; omega))]; first | assumption | exact x_up_self _ _ _ | (rw [x_up_ne (by first | omega | (simp only [x_up, x_nw]; omega))]; assumption))) (by rfl) (by first | assumption | omega | (simp only [x_up, x_nw]; omega)) (by first | assumption | omega | (simp only [x_up, x_nw]; omega)) rfl ?_
          refine go_astore (pc' := 39) (i := 6) d_Tri_find_37 (by decide) (x_r_rf _) (x_s6 (x_k_rf _)) rfl ?_
          refine go_aload (pc' := 41) (i := 6) d_Tri_find_39 rfl (by first | rfl | exact x_r_rf _) rfl ?_
          have hget := q_f_get ks (l + 1) key
          refine go_ifnull (tgt := 58) (pc' := 44) d_Tri_find_41 (by decide) rfl (fun hc => ?_) (fun b hc => ?_)
          · rw [hc] at hes
            refine go_null (pc' := 59) d_Tri_find_58 rfl ?_
            refine go_areturn d_Tri_find_59 rfl ⟨_, rfl⟩ (by first | rfl | exact x_r_rf _) ?_
            have h3 := hes.to0
            refine ⟨rfl, none, rfl, ?_⟩
            rw [← hget]
            match hLL : q_f ks (l + 1) (q_p (l + 1) key), hlen, h3 with
            | [], _, _ => trivial
            | [y], _, h3 => cases h3
          · rw [hc] at hes
            obtain ⟨kv, h3, h4⟩ := hes.to
            have hLL : q_f ks (l + 1) (q_p (l + 1) key) = [kv] := by
              match hLL : q_f ks (l + 1) (q_p (l + 1) key), hlen, h3 with
              | [y], _, h3 => cases h3; rfl
            rw [hLL] at hget
            have h4' := h4
            unfold Et at h4'
            rw [hc]
            refine go_aload (pc' := 46) (i := 6) d_Tri_find_44 rfl rfl rfl ?_
            refine go_getfield (pc' := 49) d_Tri_find_46 c_Ent 0 (by decide) t_277 (by first | assumption | exact x_up_self _ _ _ | exact x_nw_self _ _ _ | (rw [x_up_ne (by first | omega | (simp only [x_up, x_nw]; omega))]; first | assumption | exact x_up_self _ _ _ | (rw [x_up_ne (by first | omega | (simp only [x_up, x_nw]; omega))]; first | assumption | exact x_up_self _ _ _)) | (rw [x_nw_ne (by first | omega | (simp only [x_up, x_nw]; omega))]; first | assumption | exact x_up_self _ _ _ | (rw [x_up_ne (by first | omega | (simp only [x_up, x_nw]; omega))]; assumption))) (by rfl) rfl ?_
            refine go_iload_n (pc' := 50) (i := 1) d_Tri_find_49 rfl rfl rfl ?_
            refine go_icmp_ne (tgt := 58) (pc' := 53) d_Tri_find_50 (by decide) rfl (fun hc => ?_) (fun hc => ?_)
            · refine go_null (pc' := 59) d_Tri_find_58 rfl ?_
              refine go_areturn d_Tri_find_59 rfl ⟨_, rfl⟩ (by first | rfl | exact x_r_rf _) ?_
              refine ⟨rfl, none, rfl, ?_⟩
              rw [← hget]
              simp [q_get, hc, Eo, *]
            · refine go_aload (pc' := 55) (i := 6) d_Tri_find_53 rfl rfl rfl ?_
              refine go_goto (tgt := 59) d_Tri_find_55 (by decide) ?_
              refine go_areturn d_Tri_find_59 rfl ⟨_, rfl⟩ (by first | rfl | exact x_r_rf _) ?_
              refine ⟨rfl, some b, rfl, ?_⟩
              rw [← hget]
              have : q_get [kv] key = some kv := by simp [q_get, *]
              rw [this]
              exact h4
  refine go_aload_n (pc' := 1) (i := 0) d_Tri_find_0 rfl rfl (by first | rfl | exact x_r_rf _) rfl ?_
  refine go_astore_n (pc' := 2) (i := 2) d_Tri_find_1 rfl (by decide) (by first | rfl | exact x_r_rf _) (x_s2 (by first | rfl | exact x_k_rf _)) rfl ?_
  refine go_iconst (pc' := 3) (v := (nI 0)) d_Tri_find_2 (by decide) rfl ?_
  refine go_istore_n (pc' := 4) (i := 3) d_Tri_find_3 rfl (by decide) (x_s3 (by first | rfl | exact x_k_rf _)) rfl ?_
  exact loop 4 0 root none none none rfl (by rw [q_p_0]; exact hr) rfl rfl rfl
end TA
