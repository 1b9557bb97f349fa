/-! the reference: a new one -/
theorem Rh_eq {f : x_H} {m : Nat} {ρ : Rt} (hc : ∀ k, k < 13 → f.2.2 (m + k) = some (Rc m ρ k)) : Rh f m ρ = f := by
  refine Prod.ext rfl (Prod.ext rfl (funext fun b => ?_))
  show (if m ≤ b ∧ b < m + 13 then some (Rc m ρ (b - m)) else f.2.2 b) = f.2.2 b
  by_cases hb : m ≤ b ∧ b < m + 13
  · rw [if_pos hb, ← hc (b - m) (by omega), show m + (b - m) = b by omega]
  · rw [if_neg hb]
/-- the arrays of a new one -/
def r_0 : Rt := (nI 0, nI 1, va_up (fun _ => 0) 0 1, fun _ => 0, va_up (fun _ => 0) 0 (nI 1), fun _ => 0, fun _ => 0, fun _ => 0, va_up (fun _ => 0) 0 (nI 1), nI 0, fun _ => 0, fun _ => 0, fun _ => 0, fun _ => 0, fun _ => 0, 0)
theorem Rr_0 : Rr s_0 r_0 := by
  refine ⟨rfl, fun i hi => ?_, fun i hi => rfl, fun i hi => ?_, fun i hi => ⟨rfl, Nat.zero_le _, fun j y hy => by cases hy⟩, fun i hi l p hl hp => ?_, rfl, fun c hc => rfl, fun c hc hu => (by cases hu), rfl, fun i l p hi => ?_, fun i hi => ?_, by decide, fun i hi => ⟨Nat.zero_le _, List.nodup_nil, fun p => Nat.zero_le _⟩⟩
  · show va_up (fun _ => (0 : Int32)) 0 1 i = if va_up (fun _ => false) 0 true i then 1 else 0
    by_cases h0 : i = 0
    · subst h0; rw [va_up_self, va_up_self]; rfl
    · rw [va_up_ne _ _ h0, va_up_ne _ _ h0]; rfl
  · show va_up (fun _ => (0 : Int32)) 0 (nI 1) i = nI (va_up (fun _ => 0) 0 1 i)
    by_cases h0 : i = 0
    · subst h0; rw [va_up_self, va_up_self]
    · rw [va_up_ne _ _ h0, va_up_ne _ _ h0]; rfl
  · show va_up (fun _ => (0 : Int32)) 0 (nI 1) (341 * i + (q_bf l + p)) = nI (if i = 0 ∧ l = 0 ∧ p = 0 then 1 else 0)
    by_cases h0 : i = 0 ∧ l = 0 ∧ p = 0
    · obtain ⟨rfl, rfl, rfl⟩ := h0
      rfl
    · rw [if_neg h0, va_up_ne]
      · rfl
      · intro e
        have h1 : q_bf l + p = q_bf 0 + 0 := by rw [show q_bf 0 + 0 = 0 from rfl]; omega
        obtain ⟨z1, z2⟩ := q_bf_ne hl (by omega) hp (by decide) h1
        exact h0 ⟨by omega, z1, z2⟩
  · show (if i = 0 ∧ l = 0 ∧ p = 0 then 1 else 0) ≤ 1
    split <;> omega
  · show va_up (fun _ => 0) 0 1 i ≤ 1
    by_cases h0 : i = 0
    · subst h0; rw [va_up_self]; exact Nat.le_refl 1
    · rw [va_up_ne _ _ h0]; exact Nat.zero_le 1
