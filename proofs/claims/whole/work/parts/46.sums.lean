/-! what the class counts down the tree is what the reference counts level by level -/
def w_s (op : Nat → Nat → Nat) (F : Nat → Nat) (a : Nat) : Nat → Nat
  | 0 => 0
  | n + 1 => op (w_s op F a n) (F (a + n))
def w_t (op : Nat → Nat → Nat) (φ : Nat → Nat → Nat) : Nat → Nat → Nat → Nat
  | 0, _, _ => 0
  | r + 1, l, p => op (φ l p) (op (w_t op φ r (l + 1) (4 * p + 0)) (op (w_t op φ r (l + 1) (4 * p + 1)) (op (w_t op φ r (l + 1) (4 * p + 2)) (w_t op φ r (l + 1) (4 * p + 3)))))
section FA
variable {op : Nat → Nat → Nat} {F F' : Nat → Nat} {φ : Nat → Nat → Nat} {A : Nat → Nat → Option Nat}
theorem w_s_congr {a : Nat} : ∀ n, (∀ i, i < n → F (a + i) = F' (a + i)) → w_s op F a n = w_s op F' a n
  | 0, _ => rfl
  | n + 1, hF => by rw [w_s, w_s, w_s_congr n (fun i hi => hF i (by omega)), hF n (by omega)]
theorem w_s_add (ha : ∀ a b c, op (op a b) c = op a (op b c)) (h0 : ∀ a, op a 0 = a) (a n : Nat) : ∀ m, w_s op F a (n + m) = op (w_s op F a n) (w_s op F (a + n) m)
  | 0 => (h0 _).symm
  | m + 1 => by rw [show n + (m + 1) = n + m + 1 by omega, w_s, w_s_add ha h0 a n m, w_s, ha, show a + (n + m) = a + n + m by omega]
theorem w_s_sh (a : Nat) : ∀ n, w_s op F (a + 1) n = w_s op (fun i => F (i + 1)) a n
  | 0 => rfl
  | n + 1 => by rw [w_s, w_s, w_s_sh a n, show a + 1 + n = a + n + 1 by omega]
theorem w_t_lv (ha : ∀ a b c, op (op a b) c = op a (op b c)) (hc : ∀ a b, op a b = op b a) (h0 : ∀ a, op a 0 = a) : ∀ r l p, w_t op φ r l p = w_s op (fun m => w_s op (φ (l + m)) (p * 4 ^ m) (4 ^ m)) 0 r := by
  have h0' : ∀ a, op 0 a = a := fun a => by rw [hc, h0]
  intro r
  induction r with
  | zero => intro l p; rfl
  | succ r ih =>
    intro l p
    have := w_s_add (F := fun m => w_s op (φ (l + m)) (p * 4 ^ m) (4 ^ m)) ha h0 0 1 r
    rw [show r + 1 = 1 + r by omega, this, show w_s op (fun m => w_s op (φ (l + m)) (p * 4 ^ m) (4 ^ m)) 0 1 = φ l p by simp [w_s, h0'], w_s_sh, show 1 + r = r + 1 by omega, w_t, ih, ih, ih, ih]
    congr 1
    -- the four blocks
    have key : ∀ n, op (w_s op (fun m => w_s op (φ (l + 1 + m)) ((4 * p + 0) * 4 ^ m) (4 ^ m)) 0 n) (op (w_s op (fun m => w_s op (φ (l + 1 + m)) ((4 * p + 1) * 4 ^ m) (4 ^ m)) 0 n) (op (w_s op (fun m => w_s op (φ (l + 1 + m)) ((4 * p + 2) * 4 ^ m) (4 ^ m)) 0 n) (w_s op (fun m => w_s op (φ (l + 1 + m)) ((4 * p + 3) * 4 ^ m) (4 ^ m)) 0 n))) = w_s op (fun i => w_s op (φ (l + (i + 1))) (p * 4 ^ (i + 1)) (4 ^ (i + 1))) 0 n := by
      intro n
      induction n with
      | zero => simp [w_s, h0]
      | succ n ihn =>
        rw [w_s, w_s, w_s, w_s, w_s, ← ihn]
        have e : w_s op (φ (l + (0 + n + 1))) (p * 4 ^ (0 + n + 1)) (4 ^ (0 + n + 1)) = op (w_s op (φ (l + 1 + (0 + n))) ((4 * p + 0) * 4 ^ (0 + n)) (4 ^ (0 + n))) (op (w_s op (φ (l + 1 + (0 + n))) ((4 * p + 1) * 4 ^ (0 + n)) (4 ^ (0 + n))) (op (w_s op (φ (l + 1 + (0 + n))) ((4 * p + 2) * 4 ^ (0 + n)) (4 ^ (0 + n))) (w_s op (φ (l + 1 + (0 + n))) ((4 * p + 3) * 4 ^ (0 + n)) (4 ^ (0 + n))))) := by
          rw [Nat.zero_add, show l + (n + 1) = l + 1 + n by omega, Nat.pow_succ]
          obtain ⟨w, hw⟩ : ∃ w, w = 4 ^ n := ⟨_, rfl⟩
          rw [← hw, show w * 4 = w + (w + (w + w)) by omega, w_s_add ha h0, w_s_add ha h0, w_s_add ha h0, show (4 * p + 0) * w = p * (w + (w + (w + w))) by rw [show w + (w + (w + w)) = 4 * w by omega, Nat.add_zero, ← Nat.mul_assoc, Nat.mul_comm p 4],
            show (4 * p + 1) * w = p * (w + (w + (w + w))) + w by rw [show w + (w + (w + w)) = 4 * w by omega, Nat.add_mul, ← Nat.mul_assoc, Nat.mul_comm p 4, Nat.one_mul],
            show (4 * p + 2) * w = p * (w + (w + (w + w))) + w + w by rw [show w + (w + (w + w)) = 4 * w by omega, Nat.add_mul, ← Nat.mul_assoc, Nat.mul_comm p 4]; omega,
            show (4 * p + 3) * w = p * (w + (w + (w + w))) + w + w + w by rw [show w + (w + (w + w)) = 4 * w by omega, Nat.add_mul, ← Nat.mul_assoc, Nat.mul_comm p 4]; omega]
        rw [e]
        haveI : Std.Associative op := ⟨ha⟩
        haveI : Std.Commutative op := ⟨hc⟩
        ac_rfl
    exact key r
theorem w_t_all (ha : ∀ a b c, op (op a b) c = op a (op b c)) (hc : ∀ a b, op a b = op b a) (h0 : ∀ a, op a 0 = a) : w_t op φ 5 0 0 = w_s op (fun l => w_s op (φ l) 0 (4 ^ l)) 0 5 := by
  rw [w_t_lv ha hc h0]
  simp only [Nat.zero_add, Nat.zero_mul]
theorem w_t_0 (h0 : ∀ a, op a 0 = a) (hA : ∀ l p j, j < 4 → A l p = none → A (l + 1) (4 * p + j) = none) (hφ : ∀ l p, A l p = none → φ l p = 0) : ∀ r l p, A l p = none → w_t op φ r l p = 0
  | 0, _, _, _ => rfl
  | r + 1, l, p, hn => by
    rw [w_t, hφ _ _ hn, w_t_0 h0 hA hφ r _ _ (hA _ _ 0 (by omega) hn), w_t_0 h0 hA hφ r _ _ (hA _ _ 1 (by omega) hn), w_t_0 h0 hA hφ r _ _ (hA _ _ 2 (by omega) hn), w_t_0 h0 hA hφ r _ _ (hA _ _ 3 (by omega) hn)]
    simp only [h0]
/-- the four numbers beside the keys -/
theorem q_au_w (kc : Nat → Nat → Nat) (bel : Nat → Nat → Int32) (g : Int32) (hA : ∀ l p j, j < 4 → A l p = none → A (l + 1) (4 * p + j) = none) : ∀ r l p (c : Ac),
    (q_au A kc bel g r l p c).2.1 = c.2.1 + w_t (· + ·) (fun l p => if (A l p).isSome then 1 else 0) r l p ∧ (q_au A kc bel g r l p c).2.2.1 = c.2.2.1 + w_t (· + ·) (fun l p => if (A l p).isSome ∧ l = 4 then 1 else 0) r l p ∧
    (q_au A kc bel g r l p c).2.2.2.1 = max c.2.2.2.1 (w_t max (fun l p => if (A l p).isSome then l + 1 else 0) r l p) ∧ (q_au A kc bel g r l p c).2.2.2.2 = c.2.2.2.2 + w_t (· + ·) (fun l p => if (A l p).isSome ∧ bel l p = g then 1 else 0) r l p := by
  intro r
  induction r with
  | zero => intro l p c; simp [q_au, w_t]
  | succ r ih =>
    intro l p c
    cases hn : A l p with
    | none =>
      rw [w_t_0 (A := A) (fun a => Nat.add_zero a) hA (fun l p h => by rw [h]; rfl) _ _ _ hn, w_t_0 (A := A) (fun a => Nat.add_zero a) hA (fun l p h => by rw [h]; simp) _ _ _ hn, w_t_0 (A := A) (fun a => Nat.max_zero a) hA (fun l p h => by rw [h]; rfl) _ _ _ hn, w_t_0 (A := A) (fun a => Nat.add_zero a) hA (fun l p h => by rw [h]; simp) _ _ _ hn, q_au, hn]
      simp
    | some a =>
      have e : q_au A kc bel g (r + 1) l p c = q_au A kc bel g r (l + 1) (4 * p + 3) (q_au A kc bel g r (l + 1) (4 * p + 2) (q_au A kc bel g r (l + 1) (4 * p + 1) (q_au A kc bel g r (l + 1) (4 * p + 0) (q_a1 kc (fun l p => bel l p = g) l p c)))) := by
        rw [q_au, hn]
        rfl
      rw [e]
      have i0 := ih (l + 1) (4 * p + 0) (q_a1 kc (fun l p => bel l p = g) l p c)
      have i1 := ih (l + 1) (4 * p + 1) (q_au A kc bel g r (l + 1) (4 * p + 0) (q_a1 kc (fun l p => bel l p = g) l p c))
      have i2 := ih (l + 1) (4 * p + 2) (q_au A kc bel g r (l + 1) (4 * p + 1) (q_au A kc bel g r (l + 1) (4 * p + 0) (q_a1 kc (fun l p => bel l p = g) l p c)))
      have i3 := ih (l + 1) (4 * p + 3) (q_au A kc bel g r (l + 1) (4 * p + 2) (q_au A kc bel g r (l + 1) (4 * p + 1) (q_au A kc bel g r (l + 1) (4 * p + 0) (q_a1 kc (fun l p => bel l p = g) l p c))))
      refine ⟨?_, ?_, ?_, ?_⟩
      · rw [i3.1, i2.1, i1.1, i0.1, w_t]
        simp only [q_a1, hn, Option.isSome_some, if_true]
        omega
      · rw [i3.2.1, i2.2.1, i1.2.1, i0.2.1, w_t]
        simp only [q_a1, hn, Option.isSome_some, true_and]
        omega
      · rw [i3.2.2.1, i2.2.2.1, i1.2.2.1, i0.2.2.1, w_t]
        simp only [q_a1, hn, Option.isSome_some, if_true]
        omega
      · rw [i3.2.2.2, i2.2.2.2, i1.2.2.2, i0.2.2.2, w_t]
        simp only [q_a1, hn, Option.isSome_some, true_and]
        omega
theorem q_cs_w (B : Nat → Nat → Option Nat) (hA : ∀ l p j, j < 4 → A l p = none → A (l + 1) (4 * p + j) = none) (hB : ∀ l p j, j < 4 → B l p = none → B (l + 1) (4 * p + j) = none) : ∀ r l p, q_cs A B r l p = w_t (· + ·) (fun l p => if (A l p).isSome ∧ A l p = B l p then 1 else 0) r l p := by
  have z1 : ∀ r l p, A l p = none ∨ B l p = none → w_t (· + ·) (fun l p => if (A l p).isSome ∧ A l p = B l p then 1 else 0) r l p = 0 := by
    intro r
    induction r with
    | zero => intro l p _; rfl
    | succ r ih =>
      intro l p hn
      have hj : ∀ j, j < 4 → A (l + 1) (4 * p + j) = none ∨ B (l + 1) (4 * p + j) = none := fun j hj => hn.imp (hA l p j hj) (hB l p j hj)
      rw [w_t, ih _ _ (hj 0 (by omega)), ih _ _ (hj 1 (by omega)), ih _ _ (hj 2 (by omega)), ih _ _ (hj 3 (by omega)), if_neg]
      rintro ⟨h1, h2⟩
      rcases hn with hn | hn
      · rw [hn] at h1; cases h1
      · rw [h2, hn] at h1; cases h1
  intro r
  induction r with
  | zero => intro l p; rfl
  | succ r ih =>
    intro l p
    cases hn : A l p with
    | none => rw [z1 _ _ _ (Or.inl hn), q_cs, hn]
    | some a =>
      cases hm : B l p with
      | none => rw [z1 _ _ _ (Or.inr hm), q_cs, hn, hm]
      | some b =>
        rw [q_cs, hn, hm, w_t, hn, hm]
        simp only [q_r4, List.sum_cons, List.sum_nil, ih, Option.isSome_some, true_and, Option.some.injEq]
        omega
end FA
