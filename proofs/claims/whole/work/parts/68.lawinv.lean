/-! the law: its script, what holds between its rounds -/
section LC
variable {K : x_K} {M : x_M} {d pc pc' N n b L x o m j : Nat} {lv : List (Option Value)} {st : List Value} {h f g : x_H} {σ : Sg} {ρ : Rt} {w : Nat → Int64} {xs : Nat → Int32} {Q : x_O → x_H → Prop}
theorem go_sld (hX : va_X b L xs (x_s K) (x_s K).heap) (hbB : b < x_B K) (hd : decode M.2.1 pc = .ok (.iaload, 1)) (hj : j < L) (hL : L < 2 ^ 31) (hp : pc + 1 = pc') (k : Go K M d pc' lv (.int (xs j) :: st) h Q) : Go K M d pc lv (.int (nI j) :: .ref b :: st) h Q := by
  subst hp
  intro R s m args below meth c H locs cells slots ls z0 q0 hF hx
  have hw := hF.w
  have hXs : va_X b L xs s H := (hX.moved hF.wm.alike).kept (hw.2.2.2 b hbB)
  refine va_sld hF.ex hF.cd (H0 := H) (A := fun q => x_B K ≤ q) hXs (by have h1 := hw.1; have h2 := hw.2.1; omega) (by omega) ⟨Nat.le_refl _, fun q _ _ => rfl, hF.lc⟩ (vp_in_nI hj hL) hd ?_
  rw [nI_clamp (by omega)]
  exact k R s m args below meth c H locs cells slots ls z0 q0 hF hx
theorem go_slen (hX : va_X b L xs (x_s K) (x_s K).heap) (hbB : b < x_B K) (hd : decode M.2.1 pc = .ok (.arraylength, 1)) (hp : pc + 1 = pc') (k : Go K M d pc' lv (.int (nI L) :: st) h Q) : Go K M d pc lv (.ref b :: st) h Q := by
  subst hp
  intro R s m args below meth c H locs cells slots ls z0 q0 hF hx
  have hw := hF.w
  have hXs : va_X b L xs s H := (hX.moved hF.wm.alike).kept (hw.2.2.2 b hbB)
  refine va_slen hF.ex hF.cd (H0 := H) (A := fun q => x_B K ≤ q) hXs (by have h1 := hw.1; have h2 := hw.2.1; omega) (by omega) ⟨Nat.le_refl _, fun q _ _ => rfl, hF.lc⟩ hd ?_
  exact k R s m args below meth c H locs cells slots ls z0 q0 hF hx
theorem lg_cmp_self (x : Int64) : lg_cmp x x = 0 := by
  unfold lg_cmp
  rw [if_neg (fun z => Int64.lt_irrefl z), if_pos rfl]
theorem x_i7 (a : Nat) : nI a + Int32.ofInt 7 = nI (a + 7) := nI_add a 7
theorem x_and15 (x : Int32) : ∃ k, k < 16 ∧ x &&& nI 15 = nI k := by
  refine ⟨(x &&& nI 15).toUInt32.toNat, ?_, ?_⟩
  · have e : (x &&& nI 15).toUInt32 = x.toUInt32 &&& 15 := rfl
    rw [e, UInt32.toNat_and]
    exact Nat.lt_of_le_of_lt Nat.and_le_right (by decide)
  · rw [← q_u32]
    exact (Int32.toInt32_toUInt32 _).symm
/-- between two rounds: n of N calls are made -/
def LI (K : x_K) (N n x m o : Nat) (σ : Sg) (h : x_H) : Prop := CS h x σ ∧ (∃ ρ, Rr σ ρ ∧ ∀ k, k < 13 → h.2.2 (m + k) = some (Rc m ρ k)) ∧ (∃ w, h.2.2 o = some (.inl (1, 1, .inr (.inl w)))) ∧ h.1 + 40 * (N - n) ≤ x_cap K ∧ h.2.1 + 200 * (N - n) ≤ x_cas K ∧ s_lg σ ≤ 1 + 2 * n
theorem Rh_of (hom : o < m ∨ m + 13 ≤ o) : (Rh g m ρ).2.2 o = g.2.2 o := by
  show (if m ≤ o ∧ o < m + 13 then _ else g.2.2 o) = _
  rw [if_neg (by omega)]
theorem Rh_in {k : Nat} (hk : k < 13) : (Rh g m ρ).2.2 (m + k) = some (Rc m ρ k) := by
  show (if m ≤ m + k ∧ m + k < m + 13 then some (Rc m ρ (m + k - m)) else g.2.2 _) = _
  rw [if_pos (by omega), show m + k - m = k by omega]
theorem Rc_kc (hm : ∀ k, k < 13 → h.2.2 (m + k) = some (Rc m ρ k)) (hom : o < m ∨ m + 13 ≤ o) (hk : ∀ b c, b ≠ o → h.2.2 b = some c → x_rc c = true → f.2.2 b = some c) : (∀ k, k < 13 → f.2.2 (m + k) = some (Rc m ρ k)) ∧ ∃ fs, f.2.2 m = some (.inr (6, fs)) := by
  have h1 : ∀ k, k < 13 → f.2.2 (m + k) = some (Rc m ρ k) := fun k hk' => hk _ _ (by omega) (hm k hk') (Rc_rc m ρ k hk')
  exact ⟨h1, _, h1 0 (by decide)⟩
theorem CS.rh (hS : CS f x σ) (hm : ∀ k, k < 13 → f.2.2 (m + k) = some (Rc m ρ k)) (ρ' : Rt) : CS (Rh f m ρ') x σ := by
  refine hS.rc fun b c hb hc => ?_
  by_cases hbm : m ≤ b ∧ b < m + 13
  · have := hm (b - m) (by omega)
    rw [show m + (b - m) = b by omega, hb] at this
    have e : c = Rc m ρ (b - m) := Option.some.inj this
    rw [e, Rc_rc m ρ _ (by omega)] at hc
    cases hc
  · rw [Rh_of (by omega)]
    exact hb
theorem LI.nx {ρ2 : Rt} (hS : CS f x σ) (hm : ∀ k, k < 13 → f.2.2 (m + k) = some (Rc m ρ k)) (ho : f.2.2 o = some (.inl (1, 1, .inr (.inl w)))) (hom : o < m ∨ m + 13 ≤ o) (hR : Rr σ ρ2) (hn : n < N) (h1 : f.1 + 40 * (N - (n + 1)) ≤ x_cap K) (h2 : f.2.1 + 200 * (N - (n + 1)) ≤ x_cas K) (h3 : s_lg σ ≤ 1 + 2 * (n + 1)) : LI K N (n + 1) x m o σ (Rh f m ρ2) :=
  ⟨hS.rh hm ρ2, ⟨ρ2, hR, fun k hk => Rh_in hk⟩, ⟨w, by rw [Rh_of hom]; exact ho⟩, h1, h2, h3⟩
end LC
