/-! the law: what its calls share -/
def k_d (r : Sg × (Option Value ⊕ Nat)) (code : Nat → Nat) : Nat := match r.2 with
  | .inl _ => 0
  | .inr k => code k
def L_i : Option Value → Int64
  | some (.int z) => z.toInt64
  | _ => 0
def L_l : Option Value → Int64
  | some (.long z) => z
  | _ => 0
def L_z : Option Value → Int64
  | some (.int z) => if z = 0 then 0 else 1
  | _ => 0
/-- a call of the class through the law: its number, the cell of its answer -/
def Qw (h : x_H) (x o : Nat) (σ : Sg) (r : Sg × (Option Value ⊕ Nat)) (code : Nat → Nat) (L : Option Value → Int64) : x_O → x_H → Prop := x_rt (fun v f => v = some (.int (nI (k_d r code))) ∧ CS f x r.1 ∧ (∃ w, f.2.2 o = some (.inl (1, 1, .inr (.inl w))) ∧ ∀ u, r.2 = .inl u → w 0 = L u) ∧
  (∀ b c, b ≠ o → h.2.2 b = some c → x_rc c = true → f.2.2 b = some c) ∧ h.1 ≤ f.1 ∧ f.1 ≤ h.1 + 40 ∧ h.2.1 ≤ f.2.1 ∧ f.2.1 ≤ h.2.1 + 200 ∧ s_lg r.1 ≤ s_lg σ + 2)
section LA
variable {K : x_K} {d : Nat} {h f g : x_H} {x o m : Nat} {σ : Sg} {ρ : Rt} {r : Sg × (Option Value ⊕ Nat)} {code : Nat → Nat} {L : Option Value → Int64} {w : Nat → Int64} {u v : Option Value}
theorem CS.rc (hS : CS h x σ) (hk : ∀ b c, h.2.2 b = some c → x_rc c = false → f.2.2 b = some c) : CS f x σ := by
  obtain ⟨mp, cu, A, ps, FA, fks, fbl, hO, hM, hC, hl⟩ := hS
  have hkp : Kp h f := fun b c hb hc => hk b c hb (by
    cases c with
    | inl q =>
      simp only [x_nd, Bool.or_eq_true, beq_iff_eq] at hc
      have : q.1 = 3 ∨ q.1 = 4 := hc
      simp only [x_rc, Bool.or_eq_false_iff, Bool.and_eq_false_imp, beq_eq_false_iff_ne, beq_iff_eq]
      omega
    | inr q =>
      simp only [x_nd, Bool.or_eq_true, beq_iff_eq] at hc
      have : q.1 = 1 ∨ q.1 = 2 := hc
      simp only [x_rc, beq_eq_false_iff_ne]
      omega)
  refine ⟨mp, cu, A, ps, FA, fks, fbl, ⟨hk _ _ hO.1 rfl, hk _ _ hO.2.1 rfl, hk _ _ hO.2.2 rfl⟩, ?_, ?_, hl⟩
  · obtain ⟨m1, m2, m3, m4⟩ := hM
    refine ⟨m1, fun i t hi ht => ?_, m3, m4⟩
    obtain ⟨⟨root, hroot, htc⟩, hTi, hq⟩ := m2 i t hi ht
    exact ⟨⟨root, hroot, hk _ _ htc rfl⟩, hTi.kp hkp, hq⟩
  · obtain ⟨m1, m2, m3⟩ := hC
    refine ⟨m1, fun c q hc hq => ?_, m3⟩
    obtain ⟨d1, d2, d3⟩ := m2 c q hc hq
    refine ⟨?_, d2.kp hkp, d3⟩
    rcases d1 with ⟨L, way, pl, P, n, hC, hq⟩ | ⟨way, pl, hC, hf⟩
    · exact Or.inl ⟨L, way, pl, P, n, ⟨hk _ _ hC.1 rfl, hk _ _ hC.2.1 rfl, hk _ _ hC.2.2 rfl⟩, hq⟩
    · exact Or.inr ⟨way, pl, ⟨hk _ _ hC.1 rfl, hk _ _ hC.2.1 rfl, hk _ _ hC.2.2 rfl⟩, hf⟩
theorem CS.obj (hS : CS h x σ) : ∃ vx, h.2.2 x = some (.inr (5, vx)) := by
  obtain ⟨mp, cu, A, ps, FA, fks, fbl, hO, -⟩ := hS
  exact ⟨_, hO.1⟩
theorem Rc_rc (m : Nat) (ρ : Rt) : ∀ k, k < 13 → x_rc (Rc m ρ k) = true := l_13 rfl rfl rfl rfl rfl rfl rfl rfl rfl rfl rfl rfl rfl
theorem Qc_l (q : Qc h x σ r (.inl v) f) : r.2 = .inl v := by
  obtain ⟨-, -, -, -, -, -, -, q⟩ := q
  cases hr : r.2 with
  | inl u => rw [hr] at q; cases q; rfl
  | inr k => rw [hr] at q; obtain ⟨a, q⟩ := q; cases q
theorem Qc_r {e : Nat × Nat} (q : Qc h x σ r (.inr e) f) : r.2 = .inr e.1 := by
  obtain ⟨-, -, -, -, -, -, -, q⟩ := q
  cases hr : r.2 with
  | inl u => rw [hr] at q; cases q
  | inr k => rw [hr] at q; obtain ⟨a, q⟩ := q; cases q; rfl
theorem Qw.ok {z : Int64} (q : Qc h x σ r (.inl u) f) (ho : h.2.2 o = some (.inl (1, 1, .inr (.inl w)))) (hz : z = L u) : Qw h x o σ r code L (.inl (some (.int (nI 0)))) (x_up f o (.inl (1, 1, .inr (.inl (va_up w 0 z))))) := by
  have hr := (Qc_l q)
  obtain ⟨q1, q2, q3, q4, q5, q6, q7, -⟩ := q
  have ho' := q2 o _ ho rfl
  refine ⟨by unfold k_d; rw [hr], ?_, ⟨va_up w 0 z, x_up_self _ _ _, fun u' hu' => ?_⟩, fun b c hb hc hx => by rw [x_up_ne hb]; exact q2 b c hc hx, q3, q4, q5, q6, q7⟩
  · refine q1.rc fun b c hb hc => ?_
    have hne : b ≠ o := fun e => by
      rw [e, ho'] at hb
      cases hb
      cases hc
    rw [x_up_ne hne]
    exact hb
  · rw [hr] at hu'
    cases hu'
    rw [va_up_self]
    exact hz
theorem Qw.th {e : Nat × Nat} {n : Nat} (q : Qc h x σ r (.inr e) f) (ho : h.2.2 o = some (.inl (1, 1, .inr (.inl w)))) (hn : code e.1 = n) : Qw h x o σ r code L (.inl (some (.int (nI n)))) f := by
  have hr := Qc_r q
  obtain ⟨q1, q2, q3, q4, q5, q6, q7, -⟩ := q
  exact ⟨by unfold k_d; rw [hr, ← hn], q1, ⟨w, q2 o _ ho rfl, fun u hu => by rw [hr] at hu; cases hu⟩, fun b c _ hc hx => q2 b c hc hx, q3, q4, q5, q6, q7⟩
/-- the reference's answer -/
theorem Qm.out {w0 : Value} (q : Qm g m r code w0 (.inl v) f) : ∃ ρ', f = Rh g m ρ' ∧ Rr r.1 ρ' ∧ r_tw ρ' = nI (k_d r code) ∧ (∀ u, r.2 = .inl u → v = u) ∧ ∀ k, r.2 = .inr k → v = some w0 := by
  obtain ⟨ρ', e1, e2, e3⟩ := q
  refine ⟨ρ', e1, e2, ?_⟩
  unfold k_d
  cases hr : r.2 with
  | inl u => rw [hr] at e3; exact ⟨e3.1, fun u' hu' => (by cases hu'; exact e3.2), fun k hk => (by cases hk)⟩
  | inr k => rw [hr] at e3; exact ⟨e3.1, fun u' hu' => (by cases hu'), fun k _ => e3.2⟩
theorem q_ri (ht : ∀ u, r.2 = .inl u → ∃ z : Int32, u = some (.int z)) (h1 : ∀ u, r.2 = .inl u → v = u) (h2 : ∀ k, r.2 = .inr k → v = some (.int (nI 0))) : ∃ z : Int32, v = some (.int z) ∧ ∀ u, r.2 = .inl u → u = some (.int z) := by
  cases hr : r.2 with
  | inl u =>
    obtain ⟨z, hz⟩ := ht u hr
    exact ⟨z, (h1 u hr).trans hz, fun u' hu' => by cases hu'; exact hz⟩
  | inr k => exact ⟨_, h2 k hr, fun u' hu' => by cases hu'⟩
theorem q_rl (ht : ∀ u, r.2 = .inl u → ∃ z : Int64, u = some (.long z)) (h1 : ∀ u, r.2 = .inl u → v = u) (h2 : ∀ k, r.2 = .inr k → v = some (.long 0)) : ∃ z : Int64, v = some (.long z) ∧ ∀ u, r.2 = .inl u → u = some (.long z) := by
  cases hr : r.2 with
  | inl u =>
    obtain ⟨z, hz⟩ := ht u hr
    exact ⟨z, (h1 u hr).trans hz, fun u' hu' => by cases hu'; exact hz⟩
  | inr k => exact ⟨_, h2 k hr, fun u' hu' => by cases hu'⟩
theorem k_d0 (hcd : ∀ k, 1 ≤ code k) (h0 : k_d r code = 0) : ∃ u, r.2 = .inl u := by
  unfold k_d at h0
  cases hr : r.2 with
  | inl u => exact ⟨u, rfl⟩
  | inr k => rw [hr] at h0; have := hcd k; have h0' : code k = 0 := h0; omega
theorem k_d4 (hcd : ∀ k, code k < 4) : k_d r code < 4 := by
  unfold k_d
  cases r.2 with
  | inl u => exact (show 0 < 4 by decide)
  | inr k => exact hcd k
theorem c_1_b (k : Nat) : 1 ≤ c_1 k ∧ c_1 k < 4 := by unfold c_1; split <;> omega
theorem c_put_b (k : Nat) : 1 ≤ c_put k ∧ c_put k < 4 := by unfold c_put; split <;> (try split) <;> omega
theorem c_rem_b (k : Nat) : 1 ≤ c_rem k ∧ c_rem k < 4 := by unfold c_rem; split <;> (try split) <;> omega
-- what the calls answer
theorem t_Put {a k : Int32} {v : Int64} {u : Option Value} (h : (p_Put σ a k v).2 = .inl u) : u = some (.int 0) ∨ u = some (.int 1) := by
  unfold p_Put at h
  repeat' split at h
  all_goals (dsimp only at h; first | (cases h; first | exact Or.inl rfl | exact Or.inr rfl) | cases h)
theorem t_Rep {a k : Int32} {v v' : Int64} {u : Option Value} (h : (p_Rep σ a k v v').2 = .inl u) : u = some (.int 0) ∨ u = some (.int 1) := by
  unfold p_Rep at h
  repeat' split at h
  all_goals (dsimp only at h; first | (cases h; first | exact Or.inl rfl | exact Or.inr rfl) | cases h)
theorem t_Get {a k : Int32} {u : Option Value} (h : (p_Get σ a k).2 = .inl u) : ∃ z : Int64, u = some (.long z) := by
  unfold p_Get at h
  repeat' split at h
  all_goals (dsimp only at h; first | (cases h; exact ⟨_, rfl⟩) | cases h)
theorem t_Rem {a k : Int32} {u : Option Value} (h : (p_Rem σ a k).2 = .inl u) : ∃ z : Int64, u = some (.long z) := by
  unfold p_Rem at h
  repeat' split at h
  all_goals (dsimp only at h; first | (cases h; exact ⟨_, rfl⟩) | cases h)
theorem t_Snap {a b : Int32} {u : Option Value} (h : (p_Snap σ a b).2 = .inl u) : ∃ z : Int32, u = some (.int z) := by
  unfold p_Snap at h
  repeat' split at h
  all_goals (dsimp only at h; first | (cases h; exact ⟨_, rfl⟩) | cases h)
theorem t_Drop {a : Int32} {u : Option Value} (h : (p_Drop σ a).2 = .inl u) : ∃ z : Int32, u = some (.int z) := by
  unfold p_Drop at h
  repeat' split at h
  all_goals (dsimp only at h; first | (cases h; exact ⟨_, rfl⟩) | cases h)
theorem t_Iter {a : Int32} {u : Option Value} (h : (p_Iter σ a).2 = .inl u) : ∃ z : Int32, u = some (.int z) := by
  unfold p_Iter at h
  repeat' split at h
  all_goals (dsimp only at h; first | (cases h; exact ⟨_, rfl⟩) | cases h)
theorem t_Next {a : Int32} {u : Option Value} (h : (p_Next σ a).2 = .inl u) : ∃ z : Int32, u = some (.int z) := by
  unfold p_Next at h
  repeat' split at h
  all_goals (dsimp only at h; first | (cases h; exact ⟨_, rfl⟩) | cases h)
theorem t_Mea {a b : Int32} {u : Option Value} (h : (p_Mea σ a b).2 = .inl u) : ∃ z : Int32, u = some (.int z) := by
  unfold p_Mea at h
  repeat' split at h
  all_goals (dsimp only at h; first | (cases h; exact ⟨_, rfl⟩) | cases h)
theorem t_Com {a b : Int32} {u : Option Value} (h : (p_Com σ a b).2 = .inl u) : ∃ z : Int32, u = some (.int z) := by
  unfold p_Com at h
  repeat' split at h
  all_goals (dsimp only at h; first | (cases h; exact ⟨_, rfl⟩) | cases h)
theorem t_Gen {a : Int32} {u : Option Value} (h : (p_Gen σ a).2 = .inl u) : ∃ z : Int32, u = some (.int z) := by
  unfold p_Gen at h
  repeat' split at h
  all_goals (dsimp only at h; first | (cases h; exact ⟨_, rfl⟩) | cases h)
theorem k_Put {a k : Int32} {v : Int64} {e : Nat} (h : (p_Put σ a k v).2 = .inr e) : e = 11 ∨ e = 12 ∨ e = 13 := by
  unfold p_Put at h
  repeat' split at h
  all_goals (dsimp only at h; first | (cases h; decide) | cases h)
theorem k_Rep {a k : Int32} {v v' : Int64} {e : Nat} (h : (p_Rep σ a k v v').2 = .inr e) : e = 11 ∨ e = 12 := by
  unfold p_Rep at h
  repeat' split at h
  all_goals (dsimp only at h; first | (cases h; decide) | cases h)
theorem k_Get {a k : Int32} {e : Nat} (h : (p_Get σ a k).2 = .inr e) : e = 11 ∨ e = 14 := by
  unfold p_Get at h
  repeat' split at h
  all_goals (dsimp only at h; first | (cases h; decide) | cases h)
theorem k_Rem {a k : Int32} {e : Nat} (h : (p_Rem σ a k).2 = .inr e) : e = 11 ∨ e = 12 ∨ e = 14 := by
  unfold p_Rem at h
  repeat' split at h
  all_goals (dsimp only at h; first | (cases h; decide) | cases h)
theorem k_Snap {a b : Int32} {e : Nat} (h : (p_Snap σ a b).2 = .inr e) : e = 11 ∨ e = 13 := by
  unfold p_Snap at h
  repeat' split at h
  all_goals (dsimp only at h; first | (cases h; decide) | cases h)
theorem k_Drop {a : Int32} {e : Nat} (h : (p_Drop σ a).2 = .inr e) : e = 11 ∨ e = 13 := by
  unfold p_Drop at h
  repeat' split at h
  all_goals (dsimp only at h; first | (cases h; decide) | cases h)
theorem k_Iter {a : Int32} {e : Nat} (h : (p_Iter σ a).2 = .inr e) : e = 11 ∨ e = 13 := by
  unfold p_Iter at h
  repeat' split at h
  all_goals (dsimp only at h; first | (cases h; decide) | cases h)
theorem k_Next {a : Int32} {e : Nat} (h : (p_Next σ a).2 = .inr e) : e = 11 ∨ e = 14 := by
  unfold p_Next at h
  repeat' split at h
  all_goals (dsimp only at h; first | (cases h; decide) | cases h)
theorem k_Mea {a b : Int32} {e : Nat} (h : (p_Mea σ a b).2 = .inr e) : e = 11 := by
  unfold p_Mea at h
  repeat' split at h
  all_goals (dsimp only at h; first | (cases h; rfl) | cases h)
theorem k_Com {a b : Int32} {e : Nat} (h : (p_Com σ a b).2 = .inr e) : e = 11 := by
  unfold p_Com at h
  repeat' split at h
  all_goals (dsimp only at h; first | (cases h; rfl) | cases h)
theorem k_Gen {a : Int32} {e : Nat} (h : (p_Gen σ a).2 = .inr e) : e = 11 := by
  unfold p_Gen at h
  repeat' split at h
  all_goals (dsimp only at h; first | (cases h; rfl) | cases h)
end LA
