/-! a write: the way's nodes become the map's own, then the key is put in or taken out -/
theorem q_ifc {α : Type} {p q : Prop} [Decidable p] [Decidable q] (h : p ↔ q) (a b : α) : (if p then a else b) = if q then a else b := by
  by_cases hp : p
  · rw [if_pos hp, if_pos (h.mp hp)]
  · rw [if_neg hp, if_neg (fun z => hp (h.mpr z))]
abbrev q_ex (ks : List KV) (l p : Nat) : Prop := l = 0 ∨ 2 ≤ (q_f ks l p).length
def q_bw (ks : List KV) (bl : Nat → Nat → Nat) (g : Nat) (key : Int32) : Nat → Nat → Nat := fun l p => if l < 5 ∧ p = q_p l key ∧ q_ex ks l p then g else bl l p
def q_ba (ks : List KV) (bl : Nat → Nat → Nat) (g : Nat) (key : Int32) : Nat → Nat → Nat := fun l p => if 1 ≤ l ∧ l < 5 ∧ p = q_p l key ∧ (q_f ks l p).length = 1 then g else bl l p
def q_cc (ks : List KV) (bl : Nat → Nat → Nat) (g : Nat) (key : Int32) : Nat → Nat
  | 0 => 0
  | n + 1 => q_cc ks bl g key n + (if q_ex ks n (q_p n key) ∧ ¬ bl n (q_p n key) = g then 1 else 0)
theorem q_cc_le (ks : List KV) (bl : Nat → Nat → Nat) (g : Nat) (key : Int32) : ∀ n, q_cc ks bl g key n ≤ n
  | 0 => Nat.le_refl _
  | n + 1 => by
    have := q_cc_le ks bl g key n
    unfold q_cc
    split <;> omega
section EB
variable {K : x_K} {d : Nat} {h f : x_H} {A A' : Nat → Nat → Option Nat} {ks : List KV} {bel bel' : Nat → Nat → Int32} {bl : Nat → Nat → Nat} {t a g lg x : Nat} {key : Int32} {ps ps' : Nat → Nat × Nat} {σ : Sg} {mp cu : Nat → Option Nat} {B FA : Nat → Nat → Nat → Option Nat} {fks : Nat → List KV} {fbl : Nat → Nat → Nat → Nat} {i : Nat}
theorem Tr.exi (hT : Tr h A ks bel) {l p : Nat} : (A l p).isSome = true ↔ l ≤ 4 ∧ p < 4 ^ l ∧ q_ex ks l p := by
  rw [← hT.1 l p]
  cases hA : A l p with
  | none => simp
  | some a => simp
theorem q_cn_cc (hT : Tr h A ks (nB bl)) (hb : ∀ l p a, A l p = some a → bl l p < 2 ^ 20) (hg : g < 2 ^ 20) : ∀ n, n ≤ 5 → q_cn A (nB bl) (nI g) key n = q_cc ks bl g key n
  | 0, _ => rfl
  | n + 1, hn => by
    unfold q_cn q_cc
    rw [q_cn_cc hT hb hg n (by omega)]
    congr 1
    refine q_ifc ?_ _ _
    rw [hT.exi]
    constructor
    · rintro ⟨⟨h1, h2, h3⟩, h4⟩
      exact ⟨h3, fun e => h4 (by unfold nB; rw [e])⟩
    · rintro ⟨h3, h4⟩
      have hx : n ≤ 4 ∧ q_p n key < 4 ^ n ∧ q_ex ks n (q_p n key) := ⟨by omega, q_p_lt (by omega) key, h3⟩
      refine ⟨hx, fun e => h4 ?_⟩
      obtain ⟨a, ha⟩ := (hT.1 _ _).mpr hx
      unfold nB at e
      have := hb _ _ _ ha
      exact (nI_eq (by omega) (by omega)).mp e
/-- after ownWay -/
theorem CS.ow (hdom : ∀ (a : Nat) (c : x_C), h.2.2 a = some c → a < h.1) (hM : Cm h σ mp B ps) (hC : Cc h σ cu ps FA fks fbl) (hlg : s_lg σ < 2 ^ 20) (hi : i < 6) (ht : mp i = some t) {root' : Nat}
    (hOw : Ow h f (B i) A' (s_ks σ i) (nB (s_bl σ i)) bel' ps ps' (nI (s_gn σ i)) key t 5) (hr : A' 0 0 = some root') (hft : f.2.2 t = some (.inr (4, [.ref root', .int (nI (s_gn σ i)), .int (s_ro σ i)]))) (lc : Nat) :
    Cm f (p_wr σ i (s_ks σ i) (q_bw (s_ks σ i) (s_bl σ i) (s_gn σ i) key) lc) mp (va_up B i A') ps' ∧ Cc f (p_wr σ i (s_ks σ i) (q_bw (s_ks σ i) (s_bl σ i) (s_gn σ i) key) lc) cu ps' FA fks fbl ∧ Kc h f := by
  obtain ⟨⟨root, hroot, htc⟩, hTi, hPi, hKi, hroi, hgi, hbi⟩ := hM.2.1 i t hi ht
  obtain ⟨o1, o2, o3, o4, o5, o6, o7⟩ := hOw
  have hW : Wf t (fun a => ∃ l p, B i l p = some a ∧ s_bl σ i l p = s_gn σ i) h f := by
    refine ⟨fun b c hb hne hw => ?_, fun a ⟨l, p, ha, hb⟩ => ?_⟩
    · rw [o7.2.2 b (hdom _ _ hb) (fun hs => ?_)]
      · exact hb
      · rcases hs with hs | ⟨l, a, ha, hba, hs⟩
        · exact hne hs
        · have h9 := hbi _ _ _ ha
          exact (hw a ⟨l, _, ha, (nI_eq (by omega) (by omega)).mp hba⟩).2 hs
    · obtain ⟨n, es, k, ns, hN, hk, -⟩ := hTi.nd ha
      exact ⟨_, n, es, k, ns, hN, by omega⟩
  have hbw : ∀ l p a, A' l p = some a → q_bw (s_ks σ i) (s_bl σ i) (s_gn σ i) key l p = (if l < 5 ∧ p = q_p l key ∧ (B i l p).isSome then s_gn σ i else s_bl σ i l p) := fun l p a ha => by
    unfold q_bw
    refine q_ifc ?_ _ _
    rw [hTi.exi]
    constructor
    · rintro ⟨h1, h2, h3⟩
      exact ⟨h1, h2, by omega, by rw [h2]; exact q_p_lt (by omega) key, h3⟩
    · rintro ⟨h1, h2, h3⟩
      exact ⟨h1, h2, h3.2.2⟩
  have hT' : Tr f A' (s_ks σ i) (nB (q_bw (s_ks σ i) (s_bl σ i) (s_gn σ i) key)) := o1.cg fun l p a ha => by
    unfold nB
    rw [hbw l p a ha, o4]
    split <;> rfl
  have hwr := CS.wr hdom hM hC hlg hi ht hW (fun a ha => ha) hT' o2 o3 hKi (fun l p a ha => by
    rw [hbw l p a ha]
    split
    · exact Or.inr rfl
    · rename_i hc
      refine Or.inl ⟨?_, rfl⟩
      have := (o6 l p).1 (by rw [o4, if_neg hc])
      rw [← this]; exact ha) hr hft lc
  exact ⟨hwr.1, hwr.2, hW.kc ⟨_, _, htc, Or.inl rfl⟩⟩
theorem q_bw_way (ks : List KV) (bl : Nat → Nat → Nat) (g : Nat) (key : Int32) {l p : Nat} (h1 : l < 5) (h2 : p = q_p l key) (h3 : q_ex ks l p) : q_bw ks bl g key l p = g := if_pos ⟨h1, h2, h3⟩
/-- nothing but the object itself changes: the maps and iterators stay -/
theorem Wf.none {x : Nat} (hk : ∀ b c, h.2.2 b = some c → b ≠ x → f.2.2 b = some c) : Wf x (fun _ => False) h f := ⟨fun b c hb hne _ => hk b c hb hne, fun _ hf => hf.elim⟩
theorem Cm.kx (hM : Cm h σ mp B ps) {vx : List Value} (hx : h.2.2 x = some (.inr (5, vx))) (hk : ∀ b c, h.2.2 b = some c → b ≠ x → f.2.2 b = some c) : Cm f σ mp B ps := by
  have hHi : Hi h x := ⟨_, _, hx, Or.inr rfl⟩
  obtain ⟨m1, m2, m3, m4⟩ := hM
  refine ⟨m1, fun i t hi ht => ?_, m3, m4⟩
  obtain ⟨⟨root, hroot, htc⟩, hTi, hq⟩ := m2 i t hi ht
  exact ⟨⟨root, hroot, hk _ _ htc (fun e => by rw [e, hx] at htc; cases htc)⟩, hTi.wf (Wf.none hk) hHi (fun _ _ _ _ z => z), hq⟩
theorem Cc.kx (hC : Cc h σ cu ps FA fks fbl) {vx : List Value} (hx : h.2.2 x = some (.inr (5, vx))) (hk : ∀ b c, h.2.2 b = some c → b ≠ x → f.2.2 b = some c) : Cc f σ cu ps FA fks fbl := by
  have hHi : Hi h x := ⟨_, _, hx, Or.inr rfl⟩
  obtain ⟨m1, m2, m3⟩ := hC
  refine ⟨m1, fun c q hc hq => ?_, m3⟩
  obtain ⟨d1, d2, d3⟩ := m2 c q hc hq
  exact ⟨d1.wf (Wf.none hk) hHi, d2.wf (Wf.none hk) hHi (fun _ _ _ _ z => z), d3⟩
theorem Kc.kx {vx : List Value} (hx : h.2.2 x = some (.inr (5, vx))) (hk : ∀ b c, h.2.2 b = some c → b ≠ x → f.2.2 b = some c) : Kc h f := (Wf.none hk).kc ⟨_, _, hx, Or.inr rfl⟩
end EB
