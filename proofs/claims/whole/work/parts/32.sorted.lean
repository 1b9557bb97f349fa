/-! the order in which an iterator goes -/
def q_lt (ks : List KV) (H : Nat) : Nat := (ks.filter (fun x => decide (q_h x.1 < H))).length
def q_srt (ks : List KV) : List KV := (List.range 256).flatMap (fun H => q_f ks 4 H)
section CA2
variable {ks : List KV}
theorem l_lt_add (P Q : Int32 → Bool) (hd : ∀ k, ¬ (P k = true ∧ Q k = true)) : ∀ ks : List KV, (ks.filter (fun x => P x.1 || Q x.1)).length = (ks.filter (fun x => P x.1)).length + (ks.filter (fun x => Q x.1)).length
  | [] => rfl
  | x :: r => by
    have ih := l_lt_add P Q hd r
    have h1 := hd x.1
    rw [List.filter_cons, List.filter_cons, List.filter_cons]
    cases hp : P x.1 <;> cases hq : Q x.1 <;> simp [hp, hq, ih] <;> first | omega | exact absurd ⟨hp, hq⟩ h1
theorem q_lt_mul {n m : Nat} (hm : m ≤ 4) (k : Int32) : (q_p m k = n) ↔ (n * 4 ^ (4 - m) ≤ q_h k ∧ q_h k < (n + 1) * 4 ^ (4 - m)) := by
  unfold q_p
  have hpos : 0 < 4 ^ (4 - m) := Nat.pow_pos (by decide)
  rw [Nat.div_eq_iff hpos]
  have e : (n + 1) * 4 ^ (4 - m) = n * 4 ^ (4 - m) + 4 ^ (4 - m) := by rw [Nat.add_mul, Nat.one_mul]
  rw [e]
  omega
theorem q_lt_s {n m : Nat} (hm : m ≤ 4) : q_lt ks ((n + 1) * 4 ^ (4 - m)) = q_lt ks (n * 4 ^ (4 - m)) + (q_f ks m n).length := by
  unfold q_lt q_f
  have key := l_lt_add (fun k => decide (q_h k < n * 4 ^ (4 - m))) (fun k => q_p m k == n) (fun k hk => by
    simp only [decide_eq_true_eq, beq_iff_eq] at hk
    have := (q_lt_mul hm k).mp hk.2
    omega) ks
  rw [← key]
  congr 1
  apply List.filter_congr
  intro x _
  have h1 := q_lt_mul (n := n) hm x.1
  have e : (n + 1) * 4 ^ (4 - m) = n * 4 ^ (4 - m) + 4 ^ (4 - m) := by rw [Nat.add_mul, Nat.one_mul]
  by_cases h2 : q_h x.1 < n * 4 ^ (4 - m)
  · have hpos : 0 < 4 ^ (4 - m) := Nat.pow_pos (by decide)
    have h3 : q_h x.1 < (n + 1) * 4 ^ (4 - m) := by rw [e]; exact Nat.lt_of_lt_of_le h2 (Nat.le_add_right _ _)
    simp [h2, h3]
  · by_cases h4 : q_p m x.1 = n
    · have h3 := (h1.mp h4).2
      simp [h4, h3]
    · have h3 : ¬ q_h x.1 < (n + 1) * 4 ^ (4 - m) := fun z => h4 (h1.mpr ⟨by omega, z⟩)
      simp [h2, h3, h4]
theorem q_lt_0 : q_lt ks 0 = 0 := by
  unfold q_lt
  simp
theorem q_lt_all : q_lt ks 256 = ks.length := by
  unfold q_lt
  rw [List.filter_eq_self.mpr]
  intro x _
  simp [q_h_lt]
theorem q_lt_1 (H : Nat) : q_lt ks (H + 1) = q_lt ks H + (q_f ks 4 H).length := by
  have := q_lt_s (ks := ks) (n := H) (m := 4) (by omega)
  simpa using this
theorem q_srt_pre (n : Nat) : ((List.range n).flatMap (fun H => q_f ks 4 H)).length = q_lt ks n := by
  induction n with
  | zero => rw [q_lt_0]; rfl
  | succ n ih =>
    rw [List.range_succ, List.flatMap_append, List.length_append, ih, q_lt_1]
    simp
theorem q_srt_len : (q_srt ks).length = ks.length := by
  unfold q_srt
  rw [q_srt_pre, q_lt_all]
theorem q_srt_at {H i : Nat} (hH : H < 256) (hi : i < (q_f ks 4 H).length) : (q_srt ks)[q_lt ks H + i]? = (q_f ks 4 H)[i]? := by
  unfold q_srt
  have e : List.range 256 = List.range H ++ H :: List.range' (H + 1) (255 - H) := by
    have h1 : List.range 256 = List.range' 0 256 := List.range_eq_range'
    have h2 : List.range H = List.range' 0 H := List.range_eq_range'
    rw [h1, h2, show (256 : Nat) = H + (255 - H + 1) by omega, ← List.range'_append_1, Nat.zero_add]
    rfl
  rw [e, List.flatMap_append, List.flatMap_cons, List.getElem?_append_right (by rw [q_srt_pre]; omega), q_srt_pre, Nat.add_sub_cancel_left, List.getElem?_append_left hi]
/-- the only key below a place is the next one -/
theorem q_srt_one {m n : Nat} (hm : m ≤ 4) {x : KV} (h1 : q_f ks m n = [x]) : (q_srt ks)[q_lt ks (n * 4 ^ (4 - m))]? = some x := by
  have hx : x ∈ q_f ks m n := by rw [h1]; exact List.mem_cons_self
  obtain ⟨hx1, hx2⟩ := q_f_mem.mp hx
  have h2 := (q_lt_mul hm x.1).mp hx2
  have hxh : q_f ks 4 (q_h x.1) = [x] := by
    have e : q_f ks 4 (q_h x.1) = q_f (q_f ks m n) 4 (q_h x.1) := by
      unfold q_f
      rw [List.filter_filter]
      apply List.filter_congr
      intro y _
      by_cases hy : q_p 4 y.1 = q_h x.1
      · have hyn : q_p m y.1 = n := by
          rw [q_p_4] at hy
          rw [← hx2]
          unfold q_p
          rw [hy]
        simp [hy, hyn]
      · simp [hy]
    rw [e, h1]
    unfold q_f
    simp [q_p_4]
  have hmono : ∀ i, n * 4 ^ (4 - m) + i ≤ q_h x.1 → q_lt ks (n * 4 ^ (4 - m) + i) = q_lt ks (n * 4 ^ (4 - m)) := by
    intro i
    induction i with
    | zero => intro _; rfl
    | succ i ih =>
      intro hi
      rw [show n * 4 ^ (4 - m) + (i + 1) = n * 4 ^ (4 - m) + i + 1 by omega, q_lt_1, ih (by omega)]
      have : q_f ks 4 (n * 4 ^ (4 - m) + i) = [] := by
        rw [List.eq_nil_iff_forall_not_mem]
        intro y hy
        obtain ⟨hy1, hy2⟩ := q_f_mem.mp hy
        rw [q_p_4] at hy2
        have hyn : y ∈ q_f ks m n := q_f_mem.mpr ⟨hy1, (q_lt_mul hm y.1).mpr ⟨by omega, by omega⟩⟩
        rw [h1] at hyn
        simp at hyn
        rw [hyn] at hy2
        omega
      rw [this]
      rfl
  have h3 := hmono (q_h x.1 - n * 4 ^ (4 - m)) (by omega)
  rw [show n * 4 ^ (4 - m) + (q_h x.1 - n * 4 ^ (4 - m)) = q_h x.1 by omega] at h3
  rw [← h3]
  have h4 := q_srt_at (ks := ks) (H := q_h x.1) (i := 0) (q_h_lt x.1) (by rw [hxh]; simp)
  rw [hxh, Nat.add_zero] at h4
  exact h4
end CA2
