theorem at_11 : x_atb "SnapshotTrie" 146 "java/lang/IllegalArgumentException" ["java/lang/RuntimeException", "java/lang/Exception"] = true := by decide +kernel
theorem at_12 : x_atb "SnapshotTrie" 157 "java/lang/UnsupportedOperationException" ["java/lang/RuntimeException", "java/lang/Exception"] = true := by decide +kernel
theorem at_13 : x_atb "SnapshotTrie" 51 "java/lang/IllegalStateException" ["java/lang/RuntimeException", "java/lang/Exception"] = true := by decide +kernel
theorem at_14 : x_atb "SnapshotTrie" 113 "java/util/NoSuchElementException" ["java/lang/RuntimeException", "java/lang/Exception"] = true := by decide +kernel
/-- a node: its generation, its entries, its nodes; its arrays lie behind it -/
def Nd (h : x_H) (a : Nat) (g : Int32) (n : Nat) (es : Nat → Option Nat) (k : Nat) (ns : Nat → Option Nat) : Prop :=
  h.2.2 a = some (.inr (2, [.int g, .ref (a + 1), .ref (a + 2)])) ∧ h.2.2 (a + 1) = some (.inl (3, n, .inr (.inr (.inr (.inr es))))) ∧ h.2.2 (a + 2) = some (.inl (4, k, .inr (.inr (.inr (.inr ns)))))
def Et (h : x_H) (e : Nat) (k : Int32) (v : Int64) : Prop := h.2.2 e = some (.inr (1, [.int k, .long v]))
/-- how many of the first n places hold something -/
def q_ct (es : Nat → Option Nat) : Nat → Nat
  | 0 => 0
  | n + 1 => q_ct es n + (if (es n).isSome then 1 else 0)
theorem q_ct_le (es : Nat → Option Nat) : ∀ n, q_ct es n ≤ n
  | 0 => Nat.le_refl _
  | n + 1 => by
    have := q_ct_le es n
    unfold q_ct
    split <;> omega
section NA
variable {K : x_K} {d : Nat} {h : x_H} {a : Nat} {g : Int32} {n k : Nat} {es ns : Nat → Option Nat}
theorem s_countEntries (hN : Nd h a g n es k ns) (hn : n ≤ 6) : Go K M_Nod_countEntries d 0 [some (.ref a), none, none] [] h (x_is (some (.int (nI (q_ct es n)))) h) := by
  obtain ⟨h0, h1, h2⟩ := hN
  have loop : ∀ r j, j + r = n → Go K M_Nod_countEntries d 4 [some (.ref a), some (.int (nI (q_ct es j))), some (.int (nI j))] [] h (x_is (some (.int (nI (q_ct es n)))) h) := by
    intro r
    induction r with
    | zero =>
      intro j hj
      have hjn : j = n := by omega
      subst hjn
      refine go_iload_n (pc' := 5) (i := 2) d_Nod_countEntries_4 rfl rfl rfl ?_
      refine go_aload_n (pc' := 6) (i := 0) d_Nod_countEntries_5 rfl rfl (by first | rfl | exact x_r_rf _) rfl ?_
      refine go_getfield (pc' := 9) d_Nod_countEntries_6 c_Nod 1 (by decide) t_42 (by first | assumption | exact x_up_self _ _ _ | exact x_nw_self _ _ _ | (rw [x_up_ne (by first | omega | (simp only [x_up, x_nw]; omega))]; first | assumption | exact x_up_self _ _ _ | (rw [x_up_ne (by first | omega | (simp only [x_up, x_nw]; omega))]; first | assumption | exact x_up_self _ _ _)) | (rw [x_nw_ne (by first | omega | (simp only [x_up, x_nw]; omega))]; first | assumption | exact x_up_self _ _ _ | (rw [x_up_ne (by first | omega | (simp only [x_up, x_nw]; omega))]; assumption))) (by rfl) rfl ?_
      refine go_alenN (pc' := 10) d_Nod_countEntries_9 (by first | assumption | exact x_up_self _ _ _ | exact x_nw_self _ _ _ | (rw [x_up_ne (by first | omega | (simp only [x_up, x_nw]; omega))]; first | assumption | exact x_up_self _ _ _ | (rw [x_up_ne (by first | omega | (simp only [x_up, x_nw]; omega))]; first | assumption | exact x_up_self _ _ _)) | (rw [x_nw_ne (by first | omega | (simp only [x_up, x_nw]; omega))]; first | assumption | exact x_up_self _ _ _ | (rw [x_up_ne (by first | omega | (simp only [x_up, x_nw]; omega))]; assumption))) (by rfl) rfl ?_
      refine go_icmp_geN (tgt := 31) (pc' := 13) d_Nod_countEntries_10 (by decide) rfl (by omega) (by omega) (fun hc => ?_) (fun hc => ?_)
      · refine go_iload_n (pc' := 32) (i := 1) d_Nod_countEntries_31 rfl rfl rfl ?_
        refine go_ireturn d_Nod_countEntries_32 rfl (by rfl) ?_
        exact ⟨rfl, rfl⟩
      · omega
    | succ r ih =>
      intro j hj
      refine go_iload_n (pc' := 5) (i := 2) d_Nod_countEntries_4 rfl rfl rfl ?_
      refine go_aload_n (pc' := 6) (i := 0) d_Nod_countEntries_5 rfl rfl (by first | rfl | exact x_r_rf _) rfl ?_
      refine go_getfield (pc' := 9) d_Nod_countEntries_6 c_Nod 1 (by decide) t_42 (by first | assumption | exact x_up_self _ _ _ | exact x_nw_self _ _ _ | (rw [x_up_ne (by first | omega | (simp only [x_up, x_nw]; omega))]; first | assumption | exact x_up_self _ _ _ | (rw [x_up_ne (by first | omega | (simp only [x_up, x_nw]; omega))]; first | assumption | exact x_up_self _ _ _)) | (rw [x_nw_ne (by first | omega | (simp only [x_up, x_nw]; omega))]; first | assumption | exact x_up_self _ _ _ | (rw [x_up_ne (by first | omega | (simp only [x_up, x_nw]; omega))]; assumption))) (by rfl) rfl ?_
      refine go_alenN (pc' := 10) d_Nod_countEntries_9 (by first | assumption | exact x_up_self _ _ _ | exact x_nw_self _ _ _ | (rw [x_up_ne (by first | omega | (simp only [x_up, x_nw]; omega))]; first | assumption | exact x_up_self _ _ _ | (rw [x_up_ne (by first | omega | (simp only [x_up, x_nw]; omega))]; first | assumption | exact x_up_self _ _ _)) | (rw [x_nw_ne (by first | omega | (simp only [x_up, x_nw]; omega))]; first | assumption | exact x_up_self _ _ _ | (rw [x_up_ne (by first | omega | (simp only [x_up, x_nw]; omega))]; assumption))) (by rfl) rfl ?_
      refine go_icmp_geN (tgt := 31) (pc' := 13) d_Nod_countEntries_10 (by decide) rfl (by omega) (by omega) (fun hc => ?_) (fun hc => ?_)
      · omega
      · refine go_aload_n (pc' := 14) (i := 0) d_Nod_countEntries_13 rfl rfl (by first | rfl | exact x_r_rf _) rfl ?_
        refine go_getfield (pc' := 17) d_Nod_countEntries_14 c_Nod 1 (by decide) t_42 (by first | assumption | exact x_up_self _ _ _ | exact x_nw_self _ _ _ | (rw [x_up_ne (by first | omega | (simp only [x_up, x_nw]; omega))]; first | assumption | exact x_up_self _ _ _ | (rw [x_up_ne (by first | omega | (simp only [x_up, x_nw]; omega))]; first | assumption | exact x_up_self _ _ _)) | (rw [x_nw_ne (by first | omega | (simp only [x_up, x_nw]; omega))]; first | assumption | exact x_up_self _ _ _ | (rw [x_up_ne (by first | omega | (simp only [x_up, x_nw]; omega))]; assumption))) (by rfl) rfl ?_
        refine go_iload_n (pc' := 18) (i := 2) d_Nod_countEntries_17 rfl rfl rfl ?_
        refine go_aaldN (pc' := 19) d_Nod_countEntries_18 (by first | assumption | exact x_up_self _ _ _ | exact x_nw_self _ _ _ | (rw [x_up_ne (by first | omega | (simp only [x_up, x_nw]; omega))]; first | assumption | exact x_up_self _ _ _ | (rw [x_up_ne (by first | omega | (simp only [x_up, x_nw]; omega))]; first | assumption | exact x_up_self _ _ _)) | (rw [x_nw_ne (by first | omega | (simp only [x_up, x_nw]; omega))]; first | assumption | exact x_up_self _ _ _ | (rw [x_up_ne (by first | omega | (simp only [x_up, x_nw]; omega))]; assumption))) (by rfl) (by first | assumption | omega | (simp only [x_up, x_nw]; omega)) (by first | assumption | omega | (simp only [x_up, x_nw]; omega)) rfl ?_
        refine go_ifnull (tgt := 25) (pc' := 22) d_Nod_countEntries_19 (by decide) rfl (fun hc => ?_) (fun b hc => ?_)
        · refine go_iinc (pc' := 28) (i := 2) d_Nod_countEntries_25 rfl (x_i1 _) (by decide) (x_s2 (by first | rfl | exact x_k_rf _)) rfl ?_
          refine go_goto (tgt := 4) d_Nod_countEntries_28 (by decide) ?_
          have e : q_ct es (j + 1) = q_ct es j := by simp [q_ct, hc]
          rw [← e]
          exact ih (j + 1) (by omega)
        · refine go_iinc (pc' := 25) (i := 1) d_Nod_countEntries_22 rfl (x_i1 _) (by decide) (x_s1 (by first | rfl | exact x_k_rf _)) rfl ?_
          refine go_iinc (pc' := 28) (i := 2) d_Nod_countEntries_25 rfl (x_i1 _) (by decide) (x_s2 (by first | rfl | exact x_k_rf _)) rfl ?_
          refine go_goto (tgt := 4) d_Nod_countEntries_28 (by decide) ?_
          have e : q_ct es (j + 1) = q_ct es j + 1 := by simp [q_ct, hc]
          rw [← e]
          exact ih (j + 1) (by omega)
  refine go_iconst (pc' := 1) (v := (nI 0)) d_Nod_countEntries_0 (by decide) rfl ?_
  refine go_istore_n (pc' := 2) (i := 1) d_Nod_countEntries_1 rfl (by decide) (x_s1 (by first | rfl | exact x_k_rf _)) rfl ?_
  refine go_iconst (pc' := 3) (v := (nI 0)) d_Nod_countEntries_2 (by decide) rfl ?_
  refine go_istore_n (pc' := 4) (i := 2) d_Nod_countEntries_3 rfl (by decide) (x_s2 (by first | rfl | exact x_k_rf _)) rfl ?_
  exact loop n 0 (by omega)
theorem s_entryAt (hN : Nd h a g n es k ns) (hn : n ≤ 6) {j : Nat} (hj : j < 100) : Go K M_Nod_entryAt d 0 [some (.ref a), some (.int (nI j))] [] h (x_is (some (va_rf (if j < n then es j else none))) h) := by
  obtain ⟨h0, h1, h2⟩ := hN
  refine go_iload_n (pc' := 1) (i := 1) d_Nod_entryAt_0 rfl rfl rfl ?_
  refine go_if_lt (tgt := 22) (pc' := 4) d_Nod_entryAt_1 (by decide) rfl (fun hc => ?_) (fun hc => ?_)
  · exfalso
    rw [show (0 : Int32) = nI 0 from rfl, nI_ltI (by omega) (by omega)] at hc
    omega
  · refine go_iload_n (pc' := 5) (i := 1) d_Nod_entryAt_4 rfl rfl rfl ?_
    refine go_aload_n (pc' := 6) (i := 0) d_Nod_entryAt_5 rfl rfl (by first | rfl | exact x_r_rf _) rfl ?_
    refine go_getfield (pc' := 9) d_Nod_entryAt_6 c_Nod 1 (by decide) t_42 (by first | assumption | exact x_up_self _ _ _ | exact x_nw_self _ _ _ | (rw [x_up_ne (by first | omega | (simp only [x_up, x_nw]; omega))]; first | assumption | exact x_up_self _ _ _ | (rw [x_up_ne (by first | omega | (simp only [x_up, x_nw]; omega))]; first | assumption | exact x_up_self _ _ _)) | (rw [x_nw_ne (by first | omega | (simp only [x_up, x_nw]; omega))]; first | assumption | exact x_up_self _ _ _ | (rw [x_up_ne (by first | omega | (simp only [x_up, x_nw]; omega))]; assumption))) (by rfl) rfl ?_
    refine go_alenN (pc' := 10) d_Nod_entryAt_9 (by first | assumption | exact x_up_self _ _ _ | exact x_nw_self _ _ _ | (rw [x_up_ne (by first | omega | (simp only [x_up, x_nw]; omega))]; first | assumption | exact x_up_self _ _ _ | (rw [x_up_ne (by first | omega | (simp only [x_up, x_nw]; omega))]; first | assumption | exact x_up_self _ _ _)) | (rw [x_nw_ne (by first | omega | (simp only [x_up, x_nw]; omega))]; first | assumption | exact x_up_self _ _ _ | (rw [x_up_ne (by first | omega | (simp only [x_up, x_nw]; omega))]; assumption))) (by rfl) rfl ?_
    refine go_icmp_geN (tgt := 22) (pc' := 13) d_Nod_entryAt_10 (by decide) rfl (by omega) (by omega) (fun hc => ?_) (fun hc => ?_)
    · refine go_null (pc' := 23) d_Nod_entryAt_22 rfl ?_
      rw [if_neg (by omega)]
      refine go_areturn d_Nod_entryAt_23 rfl ⟨_, rfl⟩ (by first | rfl | exact x_r_rf _) ?_
      exact ⟨rfl, rfl⟩
    · refine go_aload_n (pc' := 14) (i := 0) d_Nod_entryAt_13 rfl rfl (by first | rfl | exact x_r_rf _) rfl ?_
      refine go_getfield (pc' := 17) d_Nod_entryAt_14 c_Nod 1 (by decide) t_42 (by first | assumption | exact x_up_self _ _ _ | exact x_nw_self _ _ _ | (rw [x_up_ne (by first | omega | (simp only [x_up, x_nw]; omega))]; first | assumption | exact x_up_self _ _ _ | (rw [x_up_ne (by first | omega | (simp only [x_up, x_nw]; omega))]; first | assumption | exact x_up_self _ _ _)) | (rw [x_nw_ne (by first | omega | (simp only [x_up, x_nw]; omega))]; first | assumption | exact x_up_self _ _ _ | (rw [x_up_ne (by first | omega | (simp only [x_up, x_nw]; omega))]; assumption))) (by rfl) rfl ?_
      refine go_iload_n (pc' := 18) (i := 1) d_Nod_entryAt_17 rfl rfl rfl ?_
      refine go_aaldN (pc' := 19) d_Nod_entryAt_18 (by first | assumption | exact x_up_self _ _ _ | exact x_nw_self _ _ _ | (rw [x_up_ne (by first | omega | (simp only [x_up, x_nw]; omega))]; first | assumption | exact x_up_self _ _ _ | (rw [x_up_ne (by first | omega | (simp only [x_up, x_nw]; omega))]; first | assumption | exact x_up_self _ _ _)) | (rw [x_nw_ne (by first | omega | (simp only [x_up, x_nw]; omega))]; first | assumption | exact x_up_self _ _ _ | (rw [x_up_ne (by first | omega | (simp only [x_up, x_nw]; omega))]; assumption))) (by rfl) (by first | assumption | omega | (simp only [x_up, x_nw]; omega)) (by first | assumption | omega | (simp only [x_up, x_nw]; omega)) rfl ?_
      refine go_goto (tgt := 23) d_Nod_entryAt_19 (by decide) ?_
      rw [if_pos (by omega)]
      refine go_areturn d_Nod_entryAt_23 rfl ⟨_, rfl⟩ (by first | rfl | exact x_r_rf _) ?_
      exact ⟨rfl, rfl⟩
theorem s_nodeAt (hN : Nd h a g n es k ns) (hn : k ≤ 6) {j : Nat} (hj : j < 100) : Go K M_Nod_nodeAt d 0 [some (.ref a), some (.int (nI j))] [] h (x_is (some (va_rf (if j < k then ns j else none))) h) := by
  obtain ⟨h0, h1, h2⟩ := hN
  refine go_iload_n (pc' := 1) (i := 1) d_Nod_nodeAt_0 rfl rfl rfl ?_
  refine go_if_lt (tgt := 22) (pc' := 4) d_Nod_nodeAt_1 (by decide) rfl (fun hc => ?_) (fun hc => ?_)
  · exfalso
    rw [show (0 : Int32) = nI 0 from rfl, nI_ltI (by omega) (by omega)] at hc
    omega
  · refine go_iload_n (pc' := 5) (i := 1) d_Nod_nodeAt_4 rfl rfl rfl ?_
    refine go_aload_n (pc' := 6) (i := 0) d_Nod_nodeAt_5 rfl rfl (by first | rfl | exact x_r_rf _) rfl ?_
    refine go_getfield (pc' := 9) d_Nod_nodeAt_6 c_Nod 2 (by decide) t_45 (by first | assumption | exact x_up_self _ _ _ | exact x_nw_self _ _ _ | (rw [x_up_ne (by first | omega | (simp only [x_up, x_nw]; omega))]; first | assumption | exact x_up_self _ _ _ | (rw [x_up_ne (by first | omega | (simp only [x_up, x_nw]; omega))]; first | assumption | exact x_up_self _ _ _)) | (rw [x_nw_ne (by first | omega | (simp only [x_up, x_nw]; omega))]; first | assumption | exact x_up_self _ _ _ | (rw [x_up_ne (by first | omega | (simp only [x_up, x_nw]; omega))]; assumption))) (by rfl) rfl ?_
    refine go_alenN (pc' := 10) d_Nod_nodeAt_9 (by first | assumption | exact x_up_self _ _ _ | exact x_nw_self _ _ _ | (rw [x_up_ne (by first | omega | (simp only [x_up, x_nw]; omega))]; first | assumption | exact x_up_self _ _ _ | (rw [x_up_ne (by first | omega | (simp only [x_up, x_nw]; omega))]; first | assumption | exact x_up_self _ _ _)) | (rw [x_nw_ne (by first | omega | (simp only [x_up, x_nw]; omega))]; first | assumption | exact x_up_self _ _ _ | (rw [x_up_ne (by first | omega | (simp only [x_up, x_nw]; omega))]; assumption))) (by rfl) rfl ?_
    refine go_icmp_geN (tgt := 22) (pc' := 13) d_Nod_nodeAt_10 (by decide) rfl (by omega) (by omega) (fun hc => ?_) (fun hc => ?_)
    · refine go_null (pc' := 23) d_Nod_nodeAt_22 rfl ?_
      rw [if_neg (by omega)]
      refine go_areturn d_Nod_nodeAt_23 rfl ⟨_, rfl⟩ (by first | rfl | exact x_r_rf _) ?_
      exact ⟨rfl, rfl⟩
    · refine go_aload_n (pc' := 14) (i := 0) d_Nod_nodeAt_13 rfl rfl (by first | rfl | exact x_r_rf _) rfl ?_
      refine go_getfield (pc' := 17) d_Nod_nodeAt_14 c_Nod 2 (by decide) t_45 (by first | assumption | exact x_up_self _ _ _ | exact x_nw_self _ _ _ | (rw [x_up_ne (by first | omega | (simp only [x_up, x_nw]; omega))]; first | assumption | exact x_up_self _ _ _ | (rw [x_up_ne (by first | omega | (simp only [x_up, x_nw]; omega))]; first | assumption | exact x_up_self _ _ _)) | (rw [x_nw_ne (by first | omega | (simp only [x_up, x_nw]; omega))]; first | assumption | exact x_up_self _ _ _ | (rw [x_up_ne (by first | omega | (simp only [x_up, x_nw]; omega))]; assumption))) (by rfl) rfl ?_
      refine go_iload_n (pc' := 18) (i := 1) d_Nod_nodeAt_17 rfl rfl rfl ?_
      refine go_aaldN (pc' := 19) d_Nod_nodeAt_18 (by first | assumption | exact x_up_self _ _ _ | exact x_nw_self _ _ _ | (rw [x_up_ne (by first | omega | (simp only [x_up, x_nw]; omega))]; first | assumption | exact x_up_self _ _ _ | (rw [x_up_ne (by first | omega | (simp only [x_up, x_nw]; omega))]; first | assumption | exact x_up_self _ _ _)) | (rw [x_nw_ne (by first | omega | (simp only [x_up, x_nw]; omega))]; first | assumption | exact x_up_self _ _ _ | (rw [x_up_ne (by first | omega | (simp only [x_up, x_nw]; omega))]; assumption))) (by rfl) (by first | assumption | omega | (simp only [x_up, x_nw]; omega)) (by first | assumption | omega | (simp only [x_up, x_nw]; omega)) rfl ?_
      refine go_goto (tgt := 23) d_Nod_nodeAt_19 (by decide) ?_
      rw [if_pos (by omega)]
      refine go_areturn d_Nod_nodeAt_23 rfl ⟨_, rfl⟩ (by first | rfl | exact x_r_rf _) ?_
      exact ⟨rfl, rfl⟩
end NA
