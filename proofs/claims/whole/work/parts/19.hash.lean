/-- a key's hash, its digit at a level, its digits down to a level as one number -/
def q_h (k : Int32) : Nat := ((k * (-1640531535)).toUInt32 >>> 24).toNat
def q_p (l : Nat) (k : Int32) : Nat := q_h k / 4 ^ (4 - l)
def q_d (l : Nat) (k : Int32) : Nat := q_h k / 4 ^ (3 - l) % 4
theorem q_h_lt (k : Int32) : q_h k < 256 := by
  unfold q_h
  rw [UInt32.toNat_shiftRight]
  have h := UInt32.toNat_lt (k * (-1640531535)).toUInt32
  have e : (24 : UInt32).toNat % 32 = 24 := by decide
  rw [e, Nat.shiftRight_eq_div_pow]
  omega
theorem q_u32 (x : UInt32) : x.toInt32 = nI x.toNat := by
  apply Int32.toBitVec_inj.mp
  simp [nI]
theorem q_h1 (k : Int32) : ((k * (-1640531535)).toUInt32 >>> ((nI 24).toUInt32 &&& Int32.toUInt32 31)).toInt32 = nI (q_h k) := by
  have e : (nI 24).toUInt32 &&& Int32.toUInt32 31 = 24 := by decide
  rw [e, q_u32]
  rfl
theorem q_dig : ∀ n, n < 256 → ∀ l, l < 4 → ((nI n).toUInt32 >>> ((nI 6 - nI (2 * l)).toUInt32 &&& Int32.toUInt32 31)).toInt32 &&& nI 3 = nI (n / 4 ^ (3 - l) % 4) := by decide +kernel
theorem q_d_lt (l : Nat) (k : Int32) : q_d l k < 4 := Nat.mod_lt _ (by decide)
theorem q_p_0 (k : Int32) : q_p 0 k = 0 := Nat.div_eq_of_lt (q_h_lt k)
theorem q_p_4 (k : Int32) : q_p 4 k = q_h k := Nat.div_one _
theorem q_p_s {l : Nat} (hl : l < 4) (k : Int32) : q_p (l + 1) k = 4 * q_p l k + q_d l k := by
  unfold q_p q_d
  have h1 : 4 - (l + 1) = 3 - l := by omega
  have h2 : 4 ^ (4 - l) = 4 ^ (3 - l) * 4 := by
    rw [show 4 - l = (3 - l) + 1 by omega, Nat.pow_succ]
  rw [h1, h2, ← Nat.div_div_eq_div_mul]
  omega
theorem q_p_lt {l : Nat} (hl : l ≤ 4) (k : Int32) : q_p l k < 4 ^ l := by
  unfold q_p
  have h := q_h_lt k
  rw [Nat.div_lt_iff_lt_mul (Nat.pow_pos (by decide)), ← Nat.pow_add, show l + (4 - l) = 4 by omega]
  exact h
section HA
variable {K : x_K} {d : Nat} {h : x_H}
theorem s_digit (key : Int32) {l : Nat} (hl : l < 4) : Go K M_Tri_digit d 0 [some (.int key), some (.int (nI l)), none] [] h (x_is (some (.int (nI (q_d l key)))) h) := by
  refine go_iload_n (pc' := 1) (i := 0) d_Tri_digit_0 rfl rfl rfl ?_
  refine go_ldc (pc' := 3) d_Tri_digit_1 t_198 rfl ?_
  refine go_imul (pc' := 4) d_Tri_digit_3 rfl ?_
  refine go_bipush (pc' := 6) (v := (nI 24)) d_Tri_digit_4 (by decide) rfl ?_
  refine go_iushr (pc' := 7) d_Tri_digit_6 (q_h1 key) rfl ?_
  refine go_istore_n (pc' := 8) (i := 2) d_Tri_digit_7 rfl (by decide) (x_s2 (by first | rfl | exact x_k_rf _)) rfl ?_
  refine go_iload_n (pc' := 9) (i := 2) d_Tri_digit_8 rfl rfl rfl ?_
  refine go_bipush (pc' := 11) (v := (nI 6)) d_Tri_digit_9 (by decide) rfl ?_
  refine go_iconst (pc' := 12) (v := (nI 2)) d_Tri_digit_11 (by decide) rfl ?_
  refine go_iload_n (pc' := 13) (i := 1) d_Tri_digit_12 rfl rfl rfl ?_
  refine go_imul (pc' := 14) d_Tri_digit_13 rfl ?_
  rw [x_mul]
  refine go_isub (pc' := 15) d_Tri_digit_14 rfl ?_
  refine go_iushr (pc' := 16) d_Tri_digit_15 rfl rfl ?_
  refine go_iconst (pc' := 17) (v := (nI 3)) d_Tri_digit_16 (by decide) rfl ?_
  refine go_iand (pc' := 18) d_Tri_digit_17 rfl ?_
  rw [q_dig (q_h key) (q_h_lt key) l hl]
  refine go_ireturn d_Tri_digit_18 rfl (by rfl) ?_
  exact ⟨rfl, rfl⟩
end HA
