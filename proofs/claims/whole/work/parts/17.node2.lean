/-- the first of r places from j on whose entry has this key -/
def q_pl (es : Nat → Option Nat) (kf : Nat → Int32) (key : Int32) : Nat → Nat → Option Nat
  | 0, _ => none
  | r + 1, j => match es j with
    | some e => if kf e = key then some j else q_pl es kf key r (j + 1)
    | none => q_pl es kf key r (j + 1)
theorem q_pl_lt (es : Nat → Option Nat) (kf : Nat → Int32) (key : Int32) : ∀ (r j i : Nat), q_pl es kf key r j = some i → j ≤ i ∧ i < j + r
  | 0, j, i, h => by cases h
  | r + 1, j, i, h => by
    unfold q_pl at h
    split at h
    · split at h
      · cases h; omega
      · have := q_pl_lt es kf key r (j + 1) i h
        omega
    · have := q_pl_lt es kf key r (j + 1) i h
      omega
def q_ix (o : Option Nat) : Int32 := match o with
  | some j => nI j
  | none => -1
/-- the one entry, if there is no more than one -/
def q_on (es : Nat → Option Nat) : Option Nat → Nat → Nat → Option Nat
  | acc, 0, _ => acc
  | acc, r + 1, j => match es j, acc with
    | some _, some _ => none
    | some e, none => q_on es (some e) r (j + 1)
    | none, acc => q_on es acc r (j + 1)
section NB
variable {K : x_K} {d : Nat} {h : x_H} {a : Nat} {g : Int32} {n k : Nat} {es ns : Nat → Option Nat}
theorem s_placeInBag (hN : Nd h a g n es k ns) (hn : n ≤ 6) {kf : Nat → Int32} (hE : ∀ j, j < n → ∀ e, es j = some e → ∃ v, Et h e (kf e) v) (key : Int32) :
    Go K M_Nod_placeInBag d 0 [some (.ref a), some (.int key), none] [] h (x_is (some (.int (q_ix (q_pl es kf key n 0)))) h) := by
  obtain ⟨h0, h1, h2⟩ := hN
  have loop : ∀ r j, j + r = n → Go K M_Nod_placeInBag d 2 [some (.ref a), some (.int key), some (.int (nI j))] [] h (x_is (some (.int (q_ix (q_pl es kf key r j)))) h) := by
    intro r
    induction r with
    | zero =>
      intro j hj
      refine go_iload_n (pc' := 3) (i := 2) d_Nod_placeInBag_2 rfl rfl rfl ?_
      refine go_aload_n (pc' := 4) (i := 0) d_Nod_placeInBag_3 rfl rfl (by first | rfl | exact x_r_rf _) rfl ?_
      refine go_getfield (pc' := 7) d_Nod_placeInBag_4 c_Nod 1 (by decide) t_42 (by first | assumption | exact x_up_self _ _ _ | exact x_nw_self _ _ _ | (rw [x_up_ne (by first | omega | (simp only [x_up, x_nw]; omega))]; first | assumption | exact x_up_self _ _ _ | (rw [x_up_ne (by first | omega | (simp only [x_up, x_nw]; omega))]; first | assumption | exact x_up_self _ _ _)) | (rw [x_nw_ne (by first | omega | (simp only [x_up, x_nw]; omega))]; first | assumption | exact x_up_self _ _ _ | (rw [x_up_ne (by first | omega | (simp only [x_up, x_nw]; omega))]; assumption))) (by rfl) rfl ?_
      refine go_alenN (pc' := 8) d_Nod_placeInBag_7 (by first | assumption | exact x_up_self _ _ _ | exact x_nw_self _ _ _ | (rw [x_up_ne (by first | omega | (simp only [x_up, x_nw]; omega))]; first | assumption | exact x_up_self _ _ _ | (rw [x_up_ne (by first | omega | (simp only [x_up, x_nw]; omega))]; first | assumption | exact x_up_self _ _ _)) | (rw [x_nw_ne (by first | omega | (simp only [x_up, x_nw]; omega))]; first | assumption | exact x_up_self _ _ _ | (rw [x_up_ne (by first | omega | (simp only [x_up, x_nw]; omega))]; assumption))) (by rfl) rfl ?_
      refine go_icmp_geN (tgt := 41) (pc' := 11) d_Nod_placeInBag_8 (by decide) rfl (by omega) (by omega) (fun hc => ?_) (fun hc => ?_)
      · refine go_iconst (pc' := 42) (v := (-1)) d_Nod_placeInBag_41 (by decide) rfl ?_
        refine go_ireturn d_Nod_placeInBag_42 rfl (by rfl) ?_
        exact ⟨rfl, rfl⟩
      · omega
    | succ r ih =>
      intro j hj
      refine go_iload_n (pc' := 3) (i := 2) d_Nod_placeInBag_2 rfl rfl rfl ?_
      refine go_aload_n (pc' := 4) (i := 0) d_Nod_placeInBag_3 rfl rfl (by first | rfl | exact x_r_rf _) rfl ?_
      refine go_getfield (pc' := 7) d_Nod_placeInBag_4 c_Nod 1 (by decide) t_42 (by first | assumption | exact x_up_self _ _ _ | exact x_nw_self _ _ _ | (rw [x_up_ne (by first | omega | (simp only [x_up, x_nw]; omega))]; first | assumption | exact x_up_self _ _ _ | (rw [x_up_ne (by first | omega | (simp only [x_up, x_nw]; omega))]; first | assumption | exact x_up_self _ _ _)) | (rw [x_nw_ne (by first | omega | (simp only [x_up, x_nw]; omega))]; first | assumption | exact x_up_self _ _ _ | (rw [x_up_ne (by first | omega | (simp only [x_up, x_nw]; omega))]; assumption))) (by rfl) rfl ?_
      refine go_alenN (pc' := 8) d_Nod_placeInBag_7 (by first | assumption | exact x_up_self _ _ _ | exact x_nw_self _ _ _ | (rw [x_up_ne (by first | omega | (simp only [x_up, x_nw]; omega))]; first | assumption | exact x_up_self _ _ _ | (rw [x_up_ne (by first | omega | (simp only [x_up, x_nw]; omega))]; first | assumption | exact x_up_self _ _ _)) | (rw [x_nw_ne (by first | omega | (simp only [x_up, x_nw]; omega))]; first | assumption | exact x_up_self _ _ _ | (rw [x_up_ne (by first | omega | (simp only [x_up, x_nw]; omega))]; assumption))) (by rfl) rfl ?_
      refine go_icmp_geN (tgt := 41) (pc' := 11) d_Nod_placeInBag_8 (by decide) rfl (by omega) (by omega) (fun hc => ?_) (fun hc => ?_)
      · omega
      · refine go_aload_n (pc' := 12) (i := 0) d_Nod_placeInBag_11 rfl rfl (by first | rfl | exact x_r_rf _) rfl ?_
        refine go_getfield (pc' := 15) d_Nod_placeInBag_12 c_Nod 1 (by decide) t_42 (by first | assumption | exact x_up_self _ _ _ | exact x_nw_self _ _ _ | (rw [x_up_ne (by first | omega | (simp only [x_up, x_nw]; omega))]; first | assumption | exact x_up_self _ _ _ | (rw [x_up_ne (by first | omega | (simp only [x_up, x_nw]; omega))]; first | assumption | exact x_up_self _ _ _)) | (rw [x_nw_ne (by first | omega | (simp only [x_up, x_nw]; omega))]; first | assumption | exact x_up_self _ _ _ | (rw [x_up_ne (by first | omega | (simp only [x_up, x_nw]; omega))]; assumption))) (by rfl) rfl ?_
        refine go_iload_n (pc' := 16) (i := 2) d_Nod_placeInBag_15 rfl rfl rfl ?_
        refine go_aaldN (pc' := 17) d_Nod_placeInBag_16 (by first | assumption | exact x_up_self _ _ _ | exact x_nw_self _ _ _ | (rw [x_up_ne (by first | omega | (simp only [x_up, x_nw]; omega))]; first | assumption | exact x_up_self _ _ _ | (rw [x_up_ne (by first | omega | (simp only [x_up, x_nw]; omega))]; first | assumption | exact x_up_self _ _ _)) | (rw [x_nw_ne (by first | omega | (simp only [x_up, x_nw]; omega))]; first | assumption | exact x_up_self _ _ _ | (rw [x_up_ne (by first | omega | (simp only [x_up, x_nw]; omega))]; assumption))) (by rfl) (by first | assumption | omega | (simp only [x_up, x_nw]; omega)) (by first | assumption | omega | (simp only [x_up, x_nw]; omega)) rfl ?_
        refine go_ifnull (tgt := 35) (pc' := 20) d_Nod_placeInBag_17 (by decide) rfl (fun hc => ?_) (fun b hc => ?_)
        · refine go_iinc (pc' := 38) (i := 2) d_Nod_placeInBag_35 rfl (x_i1 _) (by decide) (x_s2 (by first | rfl | exact x_k_rf _)) rfl ?_
          refine go_goto (tgt := 2) d_Nod_placeInBag_38 (by decide) ?_
          have e : q_pl es kf key (r + 1) j = q_pl es kf key r (j + 1) := by simp [q_pl, hc]
          rw [e]
          exact ih (j + 1) (by omega)
        · refine go_aload_n (pc' := 21) (i := 0) d_Nod_placeInBag_20 rfl rfl (by first | rfl | exact x_r_rf _) rfl ?_
          refine go_getfield (pc' := 24) d_Nod_placeInBag_21 c_Nod 1 (by decide) t_42 (by first | assumption | exact x_up_self _ _ _ | exact x_nw_self _ _ _ | (rw [x_up_ne (by first | omega | (simp only [x_up, x_nw]; omega))]; first | assumption | exact x_up_self _ _ _ | (rw [x_up_ne (by first | omega | (simp only [x_up, x_nw]; omega))]; first | assumption | exact x_up_self _ _ _)) | (rw [x_nw_ne (by first | omega | (simp only [x_up, x_nw]; omega))]; first | assumption | exact x_up_self _ _ _ | (rw [x_up_ne (by first | omega | (simp only [x_up, x_nw]; omega))]; assumption))) (by rfl) rfl ?_
          refine go_iload_n (pc' := 25) (i := 2) d_Nod_placeInBag_24 rfl rfl rfl ?_
          refine go_aaldN (pc' := 26) d_Nod_placeInBag_25 (by first | assumption | exact x_up_self _ _ _ | exact x_nw_self _ _ _ | (rw [x_up_ne (by first | omega | (simp only [x_up, x_nw]; omega))]; first | assumption | exact x_up_self _ _ _ | (rw [x_up_ne (by first | omega | (simp only [x_up, x_nw]; omega))]; first | assumption | exact x_up_self _ _ _)) | (rw [x_nw_ne (by first | omega | (simp only [x_up, x_nw]; omega))]; first | assumption | exact x_up_self _ _ _ | (rw [x_up_ne (by first | omega | (simp only [x_up, x_nw]; omega))]; assumption))) (by rfl) (by first | assumption | omega | (simp only [x_up, x_nw]; omega)) (by first | assumption | omega | (simp only [x_up, x_nw]; omega)) rfl ?_
          rw [hc]
          obtain ⟨v, hv⟩ := hE j (by omega) b hc
          unfold Et at hv
          show Go K M_Nod_placeInBag d 26 _ [.ref b] h _
          refine go_getfield (pc' := 29) d_Nod_placeInBag_26 c_Ent 0 (by decide) t_276 (by first | assumption | exact x_up_self _ _ _ | exact x_nw_self _ _ _ | (rw [x_up_ne (by first | omega | (simp only [x_up, x_nw]; omega))]; first | assumption | exact x_up_self _ _ _ | (rw [x_up_ne (by first | omega | (simp only [x_up, x_nw]; omega))]; first | assumption | exact x_up_self _ _ _)) | (rw [x_nw_ne (by first | omega | (simp only [x_up, x_nw]; omega))]; first | assumption | exact x_up_self _ _ _ | (rw [x_up_ne (by first | omega | (simp only [x_up, x_nw]; omega))]; assumption))) (by rfl) rfl ?_
          refine go_iload_n (pc' := 30) (i := 1) d_Nod_placeInBag_29 rfl rfl rfl ?_
          refine go_icmp_ne (tgt := 35) (pc' := 33) d_Nod_placeInBag_30 (by decide) rfl (fun hc => ?_) (fun hc => ?_)
          · refine go_iinc (pc' := 38) (i := 2) d_Nod_placeInBag_35 rfl (x_i1 _) (by decide) (x_s2 (by first | rfl | exact x_k_rf _)) rfl ?_
            refine go_goto (tgt := 2) d_Nod_placeInBag_38 (by decide) ?_
            have e : q_pl es kf key (r + 1) j = q_pl es kf key r (j + 1) := by simp [q_pl, hc, *]
            rw [e]
            exact ih (j + 1) (by omega)
          · refine go_iload_n (pc' := 34) (i := 2) d_Nod_placeInBag_33 rfl rfl rfl ?_
            have e : q_pl es kf key (r + 1) j = some j := by simp [q_pl, hc, *]
            rw [e]
            refine go_ireturn d_Nod_placeInBag_34 rfl (by rfl) ?_
            exact ⟨rfl, rfl⟩
  refine go_iconst (pc' := 1) (v := (nI 0)) d_Nod_placeInBag_0 (by decide) rfl ?_
  refine go_istore_n (pc' := 2) (i := 2) d_Nod_placeInBag_1 rfl (by decide) (x_s2 (by first | rfl | exact x_k_rf _)) rfl ?_
  exact loop n 0 (by omega)
theorem s_onlyEntry (hN : Nd h a g n es k ns) (hn : n ≤ 6) (hk : k ≤ 6) : Go K M_Nod_onlyEntry d 0 [some (.ref a), none, none] [] h
    (x_is (some (va_rf (if q_ct ns k = 0 then q_on es none n 0 else none))) h) := by
  obtain ⟨h0, h1, h2⟩ := hN
  have loop2 : ∀ r j acc, j + r = n → Go K M_Nod_onlyEntry d 32 [some (.ref a), some (va_rf acc), some (.int (nI j))] [] h (x_is (some (va_rf (q_on es acc r j))) h) := by
    intro r
    induction r with
    | zero =>
      intro j acc hj
      refine go_iload_n (pc' := 33) (i := 2) d_Nod_onlyEntry_32 rfl rfl rfl ?_
      refine go_aload_n (pc' := 34) (i := 0) d_Nod_onlyEntry_33 rfl rfl (by first | rfl | exact x_r_rf _) rfl ?_
      refine go_getfield (pc' := 37) d_Nod_onlyEntry_34 c_Nod 1 (by decide) t_42 (by first | assumption | exact x_up_self _ _ _ | exact x_nw_self _ _ _ | (rw [x_up_ne (by first | omega | (simp only [x_up, x_nw]; omega))]; first | assumption | exact x_up_self _ _ _ | (rw [x_up_ne (by first | omega | (simp only [x_up, x_nw]; omega))]; first | assumption | exact x_up_self _ _ _)) | (rw [x_nw_ne (by first | omega | (simp only [x_up, x_nw]; omega))]; first | assumption | exact x_up_self _ _ _ | (rw [x_up_ne (by first | omega | (simp only [x_up, x_nw]; omega))]; assumption))) (by rfl) rfl ?_
      refine go_alenN (pc' := 38) d_Nod_onlyEntry_37 (by first | assumption | exact x_up_self _ _ _ | exact x_nw_self _ _ _ | (rw [x_up_ne (by first | omega | (simp only [x_up, x_nw]; omega))]; first | assumption | exact x_up_self _ _ _ | (rw [x_up_ne (by first | omega | (simp only [x_up, x_nw]; omega))]; first | assumption | exact x_up_self _ _ _)) | (rw [x_nw_ne (by first | omega | (simp only [x_up, x_nw]; omega))]; first | assumption | exact x_up_self _ _ _ | (rw [x_up_ne (by first | omega | (simp only [x_up, x_nw]; omega))]; assumption))) (by rfl) rfl ?_
      refine go_icmp_geN (tgt := 82) (pc' := 41) d_Nod_onlyEntry_38 (by decide) rfl (by omega) (by omega) (fun hc => ?_) (fun hc => ?_)
      · refine go_aload_n (pc' := 83) (i := 1) d_Nod_onlyEntry_82 rfl rfl (by first | rfl | exact x_r_rf _) rfl ?_
        refine go_areturn d_Nod_onlyEntry_83 rfl ⟨_, rfl⟩ (by first | rfl | exact x_r_rf _) ?_
        exact ⟨rfl, rfl⟩
      · omega
    | succ r ih =>
      intro j acc hj
      refine go_iload_n (pc' := 33) (i := 2) d_Nod_onlyEntry_32 rfl rfl rfl ?_
      refine go_aload_n (pc' := 34) (i := 0) d_Nod_onlyEntry_33 rfl rfl (by first | rfl | exact x_r_rf _) rfl ?_
      refine go_getfield (pc' := 37) d_Nod_onlyEntry_34 c_Nod 1 (by decide) t_42 (by first | assumption | exact x_up_self _ _ _ | exact x_nw_self _ _ _ | (rw [x_up_ne (by first | omega | (simp only [x_up, x_nw]; omega))]; first | assumption | exact x_up_self _ _ _ | (rw [x_up_ne (by first | omega | (simp only [x_up, x_nw]; omega))]; first | assumption | exact x_up_self _ _ _)) | (rw [x_nw_ne (by first | omega | (simp only [x_up, x_nw]; omega))]; first | assumption | exact x_up_self _ _ _ | (rw [x_up_ne (by first | omega | (simp only [x_up, x_nw]; omega))]; assumption))) (by rfl) rfl ?_
      refine go_alenN (pc' := 38) d_Nod_onlyEntry_37 (by first | assumption | exact x_up_self _ _ _ | exact x_nw_self _ _ _ | (rw [x_up_ne (by first | omega | (simp only [x_up, x_nw]; omega))]; first | assumption | exact x_up_self _ _ _ | (rw [x_up_ne (by first | omega | (simp only [x_up, x_nw]; omega))]; first | assumption | exact x_up_self _ _ _)) | (rw [x_nw_ne (by first | omega | (simp only [x_up, x_nw]; omega))]; first | assumption | exact x_up_self _ _ _ | (rw [x_up_ne (by first | omega | (simp only [x_up, x_nw]; omega))]; assumption))) (by rfl) rfl ?_
      refine go_icmp_geN (tgt := 82) (pc' := 41) d_Nod_onlyEntry_38 (by decide) rfl (by omega) (by omega) (fun hc => ?_) (fun hc => ?_)
      · omega
      · refine go_aload_n (pc' := 42) (i := 0) d_Nod_onlyEntry_41 rfl rfl (by first | rfl | exact x_r_rf _) rfl ?_
        refine go_getfield (pc' := 45) d_Nod_onlyEntry_42 c_Nod 1 (by decide) t_42 (by first | assumption | exact x_up_self _ _ _ | exact x_nw_self _ _ _ | (rw [x_up_ne (by first | omega | (simp only [x_up, x_nw]; omega))]; first | assumption | exact x_up_self _ _ _ | (rw [x_up_ne (by first | omega | (simp only [x_up, x_nw]; omega))]; first | assumption | exact x_up_self _ _ _)) | (rw [x_nw_ne (by first | omega | (simp only [x_up, x_nw]; omega))]; first | assumption | exact x_up_self _ _ _ | (rw [x_up_ne (by first | omega | (simp only [x_up, x_nw]; omega))]; assumption))) (by rfl) rfl ?_
        refine go_iload_n (pc' := 46) (i := 2) d_Nod_onlyEntry_45 rfl rfl rfl ?_
        refine go_aaldN (pc' := 47) d_Nod_onlyEntry_46 (by first | assumption | exact x_up_self _ _ _ | exact x_nw_self _ _ _ | (rw [x_up_ne (by first | omega | (simp only [x_up, x_nw]; omega))]; first | assumption | exact x_up_self _ _ _ | (rw [x_up_ne (by first | omega | (simp only [x_up, x_nw]; omega))]; first | assumption | exact x_up_self _ _ _)) | (rw [x_nw_ne (by first | omega | (simp only [x_up, x_nw]; omega))]; first | assumption | exact x_up_self _ _ _ | (rw [x_up_ne (by first | omega | (simp only [x_up, x_nw]; omega))]; assumption))) (by rfl) (by first | assumption | omega | (simp only [x_up, x_nw]; omega)) (by first | assumption | omega | (simp only [x_up, x_nw]; omega)) rfl ?_
        refine go_ifnull (tgt := 56) (pc' := 50) d_Nod_onlyEntry_47 (by decide) rfl (fun hc => ?_) (fun b hc => ?_)
        · refine go_aload_n (pc' := 57) (i := 0) d_Nod_onlyEntry_56 rfl rfl (by first | rfl | exact x_r_rf _) rfl ?_
          refine go_getfield (pc' := 60) d_Nod_onlyEntry_57 c_Nod 1 (by decide) t_42 (by first | assumption | exact x_up_self _ _ _ | exact x_nw_self _ _ _ | (rw [x_up_ne (by first | omega | (simp only [x_up, x_nw]; omega))]; first | assumption | exact x_up_self _ _ _ | (rw [x_up_ne (by first | omega | (simp only [x_up, x_nw]; omega))]; first | assumption | exact x_up_self _ _ _)) | (rw [x_nw_ne (by first | omega | (simp only [x_up, x_nw]; omega))]; first | assumption | exact x_up_self _ _ _ | (rw [x_up_ne (by first | omega | (simp only [x_up, x_nw]; omega))]; assumption))) (by rfl) rfl ?_
          refine go_iload_n (pc' := 61) (i := 2) d_Nod_onlyEntry_60 rfl rfl rfl ?_
          refine go_aaldN (pc' := 62) d_Nod_onlyEntry_61 (by first | assumption | exact x_up_self _ _ _ | exact x_nw_self _ _ _ | (rw [x_up_ne (by first | omega | (simp only [x_up, x_nw]; omega))]; first | assumption | exact x_up_self _ _ _ | (rw [x_up_ne (by first | omega | (simp only [x_up, x_nw]; omega))]; first | assumption | exact x_up_self _ _ _)) | (rw [x_nw_ne (by first | omega | (simp only [x_up, x_nw]; omega))]; first | assumption | exact x_up_self _ _ _ | (rw [x_up_ne (by first | omega | (simp only [x_up, x_nw]; omega))]; assumption))) (by rfl) (by first | assumption | omega | (simp only [x_up, x_nw]; omega)) (by first | assumption | omega | (simp only [x_up, x_nw]; omega)) rfl ?_
          refine go_ifnull (tgt := 74) (pc' := 65) d_Nod_onlyEntry_62 (by decide) rfl (fun hc => ?_) (fun b hc => ?_)
          · refine go_aload_n (pc' := 75) (i := 1) d_Nod_onlyEntry_74 rfl rfl (by first | rfl | exact x_r_rf _) rfl ?_
            refine go_astore_n (pc' := 76) (i := 1) d_Nod_onlyEntry_75 rfl (by decide) (by first | rfl | exact x_r_rf _) (x_s1 (by first | rfl | exact x_k_rf _)) rfl ?_
            refine go_iinc (pc' := 79) (i := 2) d_Nod_onlyEntry_76 rfl (x_i1 _) (by decide) (x_s2 (by first | rfl | exact x_k_rf _)) rfl ?_
            refine go_goto (tgt := 32) d_Nod_onlyEntry_79 (by decide) ?_
            have e : q_on es acc (r + 1) j = q_on es acc r (j + 1) := by simp [q_on, hc]
            rw [e]
            exact ih (j + 1) acc (by omega)
          · simp_all
        · refine go_aload_n (pc' := 51) (i := 1) d_Nod_onlyEntry_50 rfl rfl (by first | rfl | exact x_r_rf _) rfl ?_
          cases acc with
          | none =>
            refine go_ifnull_n (tgt := 56) d_Nod_onlyEntry_51 (by decide) ?_
            refine go_aload_n (pc' := 57) (i := 0) d_Nod_onlyEntry_56 rfl rfl (by first | rfl | exact x_r_rf _) rfl ?_
            refine go_getfield (pc' := 60) d_Nod_onlyEntry_57 c_Nod 1 (by decide) t_42 (by first | assumption | exact x_up_self _ _ _ | exact x_nw_self _ _ _ | (rw [x_up_ne (by first | omega | (simp only [x_up, x_nw]; omega))]; first | assumption | exact x_up_self _ _ _ | (rw [x_up_ne (by first | omega | (simp only [x_up, x_nw]; omega))]; first | assumption | exact x_up_self _ _ _)) | (rw [x_nw_ne (by first | omega | (simp only [x_up, x_nw]; omega))]; first | assumption | exact x_up_self _ _ _ | (rw [x_up_ne (by first | omega | (simp only [x_up, x_nw]; omega))]; assumption))) (by rfl) rfl ?_
            refine go_iload_n (pc' := 61) (i := 2) d_Nod_onlyEntry_60 rfl rfl rfl ?_
            refine go_aaldN (pc' := 62) d_Nod_onlyEntry_61 (by first | assumption | exact x_up_self _ _ _ | exact x_nw_self _ _ _ | (rw [x_up_ne (by first | omega | (simp only [x_up, x_nw]; omega))]; first | assumption | exact x_up_self _ _ _ | (rw [x_up_ne (by first | omega | (simp only [x_up, x_nw]; omega))]; first | assumption | exact x_up_self _ _ _)) | (rw [x_nw_ne (by first | omega | (simp only [x_up, x_nw]; omega))]; first | assumption | exact x_up_self _ _ _ | (rw [x_up_ne (by first | omega | (simp only [x_up, x_nw]; omega))]; assumption))) (by rfl) (by first | assumption | omega | (simp only [x_up, x_nw]; omega)) (by first | assumption | omega | (simp only [x_up, x_nw]; omega)) rfl ?_
            rw [hc]
            refine go_ifnull_r (pc' := 65) d_Nod_onlyEntry_62 rfl ?_
            refine go_aload_n (pc' := 66) (i := 0) d_Nod_onlyEntry_65 rfl rfl (by first | rfl | exact x_r_rf _) rfl ?_
            refine go_getfield (pc' := 69) d_Nod_onlyEntry_66 c_Nod 1 (by decide) t_42 (by first | assumption | exact x_up_self _ _ _ | exact x_nw_self _ _ _ | (rw [x_up_ne (by first | omega | (simp only [x_up, x_nw]; omega))]; first | assumption | exact x_up_self _ _ _ | (rw [x_up_ne (by first | omega | (simp only [x_up, x_nw]; omega))]; first | assumption | exact x_up_self _ _ _)) | (rw [x_nw_ne (by first | omega | (simp only [x_up, x_nw]; omega))]; first | assumption | exact x_up_self _ _ _ | (rw [x_up_ne (by first | omega | (simp only [x_up, x_nw]; omega))]; assumption))) (by rfl) rfl ?_
            refine go_iload_n (pc' := 70) (i := 2) d_Nod_onlyEntry_69 rfl rfl rfl ?_
            refine go_aaldN (pc' := 71) d_Nod_onlyEntry_70 (by first | assumption | exact x_up_self _ _ _ | exact x_nw_self _ _ _ | (rw [x_up_ne (by first | omega | (simp only [x_up, x_nw]; omega))]; first | assumption | exact x_up_self _ _ _ | (rw [x_up_ne (by first | omega | (simp only [x_up, x_nw]; omega))]; first | assumption | exact x_up_self _ _ _)) | (rw [x_nw_ne (by first | omega | (simp only [x_up, x_nw]; omega))]; first | assumption | exact x_up_self _ _ _ | (rw [x_up_ne (by first | omega | (simp only [x_up, x_nw]; omega))]; assumption))) (by rfl) (by first | assumption | omega | (simp only [x_up, x_nw]; omega)) (by first | assumption | omega | (simp only [x_up, x_nw]; omega)) rfl ?_
            refine go_goto (tgt := 75) d_Nod_onlyEntry_71 (by decide) ?_
            rw [hc]
            refine go_astore_n (pc' := 76) (i := 1) d_Nod_onlyEntry_75 rfl (by decide) (by first | rfl | exact x_r_rf _) (x_s1 (by first | rfl | exact x_k_rf _)) rfl ?_
            refine go_iinc (pc' := 79) (i := 2) d_Nod_onlyEntry_76 rfl (x_i1 _) (by decide) (x_s2 (by first | rfl | exact x_k_rf _)) rfl ?_
            refine go_goto (tgt := 32) d_Nod_onlyEntry_79 (by decide) ?_
            have e : q_on es none (r + 1) j = q_on es (some b) r (j + 1) := by simp [q_on, hc]
            rw [e]
            exact ih (j + 1) (some b) (by omega)
          | some c =>
            refine go_ifnull_r (pc' := 54) d_Nod_onlyEntry_51 rfl ?_
            refine go_null (pc' := 55) d_Nod_onlyEntry_54 rfl ?_
            have e : q_on es (some c) (r + 1) j = none := by simp [q_on, hc]
            rw [e]
            refine go_areturn d_Nod_onlyEntry_55 rfl ⟨_, rfl⟩ (by first | rfl | exact x_r_rf _) ?_
            exact ⟨rfl, rfl⟩
  have loop1 : ∀ r j, j + r = k → q_ct ns j = 0 → Go K M_Nod_onlyEntry d 2 [some (.ref a), some (.int (nI j)), none] [] h (x_is (some (va_rf (if q_ct ns k = 0 then q_on es none n 0 else none))) h) := by
    intro r
    induction r with
    | zero =>
      intro j hj hz
      have hjk : j = k := by omega
      subst hjk
      refine go_iload_n (pc' := 3) (i := 1) d_Nod_onlyEntry_2 rfl rfl rfl ?_
      refine go_aload_n (pc' := 4) (i := 0) d_Nod_onlyEntry_3 rfl rfl (by first | rfl | exact x_r_rf _) rfl ?_
      refine go_getfield (pc' := 7) d_Nod_onlyEntry_4 c_Nod 2 (by decide) t_45 (by first | assumption | exact x_up_self _ _ _ | exact x_nw_self _ _ _ | (rw [x_up_ne (by first | omega | (simp only [x_up, x_nw]; omega))]; first | assumption | exact x_up_self _ _ _ | (rw [x_up_ne (by first | omega | (simp only [x_up, x_nw]; omega))]; first | assumption | exact x_up_self _ _ _)) | (rw [x_nw_ne (by first | omega | (simp only [x_up, x_nw]; omega))]; first | assumption | exact x_up_self _ _ _ | (rw [x_up_ne (by first | omega | (simp only [x_up, x_nw]; omega))]; assumption))) (by rfl) rfl ?_
      refine go_alenN (pc' := 8) d_Nod_onlyEntry_7 (by first | assumption | exact x_up_self _ _ _ | exact x_nw_self _ _ _ | (rw [x_up_ne (by first | omega | (simp only [x_up, x_nw]; omega))]; first | assumption | exact x_up_self _ _ _ | (rw [x_up_ne (by first | omega | (simp only [x_up, x_nw]; omega))]; first | assumption | exact x_up_self _ _ _)) | (rw [x_nw_ne (by first | omega | (simp only [x_up, x_nw]; omega))]; first | assumption | exact x_up_self _ _ _ | (rw [x_up_ne (by first | omega | (simp only [x_up, x_nw]; omega))]; assumption))) (by rfl) rfl ?_
      refine go_icmp_geN (tgt := 28) (pc' := 11) d_Nod_onlyEntry_8 (by decide) rfl (by omega) (by omega) (fun hc => ?_) (fun hc => ?_)
      · refine go_null (pc' := 29) d_Nod_onlyEntry_28 rfl ?_
        refine go_astore_n (pc' := 30) (i := 1) d_Nod_onlyEntry_29 rfl (by decide) (by first | rfl | exact x_r_rf _) (x_s1 (by first | rfl | exact x_k_rf _)) rfl ?_
        refine go_iconst (pc' := 31) (v := (nI 0)) d_Nod_onlyEntry_30 (by decide) rfl ?_
        refine go_istore_n (pc' := 32) (i := 2) d_Nod_onlyEntry_31 rfl (by decide) (x_s2 (by first | rfl | exact x_k_rf _)) rfl ?_
        rw [if_pos hz]
        exact loop2 n 0 none (by omega)
      · omega
    | succ r ih =>
      intro j hj hz
      refine go_iload_n (pc' := 3) (i := 1) d_Nod_onlyEntry_2 rfl rfl rfl ?_
      refine go_aload_n (pc' := 4) (i := 0) d_Nod_onlyEntry_3 rfl rfl (by first | rfl | exact x_r_rf _) rfl ?_
      refine go_getfield (pc' := 7) d_Nod_onlyEntry_4 c_Nod 2 (by decide) t_45 (by first | assumption | exact x_up_self _ _ _ | exact x_nw_self _ _ _ | (rw [x_up_ne (by first | omega | (simp only [x_up, x_nw]; omega))]; first | assumption | exact x_up_self _ _ _ | (rw [x_up_ne (by first | omega | (simp only [x_up, x_nw]; omega))]; first | assumption | exact x_up_self _ _ _)) | (rw [x_nw_ne (by first | omega | (simp only [x_up, x_nw]; omega))]; first | assumption | exact x_up_self _ _ _ | (rw [x_up_ne (by first | omega | (simp only [x_up, x_nw]; omega))]; assumption))) (by rfl) rfl ?_
      refine go_alenN (pc' := 8) d_Nod_onlyEntry_7 (by first | assumption | exact x_up_self _ _ _ | exact x_nw_self _ _ _ | (rw [x_up_ne (by first | omega | (simp only [x_up, x_nw]; omega))]; first | assumption | exact x_up_self _ _ _ | (rw [x_up_ne (by first | omega | (simp only [x_up, x_nw]; omega))]; first | assumption | exact x_up_self _ _ _)) | (rw [x_nw_ne (by first | omega | (simp only [x_up, x_nw]; omega))]; first | assumption | exact x_up_self _ _ _ | (rw [x_up_ne (by first | omega | (simp only [x_up, x_nw]; omega))]; assumption))) (by rfl) rfl ?_
      refine go_icmp_geN (tgt := 28) (pc' := 11) d_Nod_onlyEntry_8 (by decide) rfl (by omega) (by omega) (fun hc => ?_) (fun hc => ?_)
      · omega
      · refine go_aload_n (pc' := 12) (i := 0) d_Nod_onlyEntry_11 rfl rfl (by first | rfl | exact x_r_rf _) rfl ?_
        refine go_getfield (pc' := 15) d_Nod_onlyEntry_12 c_Nod 2 (by decide) t_45 (by first | assumption | exact x_up_self _ _ _ | exact x_nw_self _ _ _ | (rw [x_up_ne (by first | omega | (simp only [x_up, x_nw]; omega))]; first | assumption | exact x_up_self _ _ _ | (rw [x_up_ne (by first | omega | (simp only [x_up, x_nw]; omega))]; first | assumption | exact x_up_self _ _ _)) | (rw [x_nw_ne (by first | omega | (simp only [x_up, x_nw]; omega))]; first | assumption | exact x_up_self _ _ _ | (rw [x_up_ne (by first | omega | (simp only [x_up, x_nw]; omega))]; assumption))) (by rfl) rfl ?_
        refine go_iload_n (pc' := 16) (i := 1) d_Nod_onlyEntry_15 rfl rfl rfl ?_
        refine go_aaldN (pc' := 17) d_Nod_onlyEntry_16 (by first | assumption | exact x_up_self _ _ _ | exact x_nw_self _ _ _ | (rw [x_up_ne (by first | omega | (simp only [x_up, x_nw]; omega))]; first | assumption | exact x_up_self _ _ _ | (rw [x_up_ne (by first | omega | (simp only [x_up, x_nw]; omega))]; first | assumption | exact x_up_self _ _ _)) | (rw [x_nw_ne (by first | omega | (simp only [x_up, x_nw]; omega))]; first | assumption | exact x_up_self _ _ _ | (rw [x_up_ne (by first | omega | (simp only [x_up, x_nw]; omega))]; assumption))) (by rfl) (by first | assumption | omega | (simp only [x_up, x_nw]; omega)) (by first | assumption | omega | (simp only [x_up, x_nw]; omega)) rfl ?_
        refine go_ifnull (tgt := 22) (pc' := 20) d_Nod_onlyEntry_17 (by decide) rfl (fun hc => ?_) (fun b hc => ?_)
        · refine go_iinc (pc' := 25) (i := 1) d_Nod_onlyEntry_22 rfl (x_i1 _) (by decide) (x_s1 (by first | rfl | exact x_k_rf _)) rfl ?_
          refine go_goto (tgt := 2) d_Nod_onlyEntry_25 (by decide) ?_
          exact ih (j + 1) (by omega) (by simp [q_ct, hc, hz])
        · refine go_null (pc' := 21) d_Nod_onlyEntry_20 rfl ?_
          have hpos : ∀ m, j < m → q_ct ns m ≠ 0 := by
            intro m
            induction m with
            | zero => intro q; omega
            | succ m ihm =>
              intro q
              by_cases hm : m = j
              · subst hm; simp [q_ct, hc]
              · have := ihm (by omega)
                unfold q_ct
                omega
          rw [if_neg (hpos k (by omega))]
          refine go_areturn d_Nod_onlyEntry_21 rfl ⟨_, rfl⟩ (by first | rfl | exact x_r_rf _) ?_
          exact ⟨rfl, rfl⟩
  refine go_iconst (pc' := 1) (v := (nI 0)) d_Nod_onlyEntry_0 (by decide) rfl ?_
  refine go_istore_n (pc' := 2) (i := 1) d_Nod_onlyEntry_1 rfl (by decide) (x_s1 (by first | rfl | exact x_k_rf _)) rfl ?_
  exact loop1 k 0 (by omega) rfl
theorem s_putInBag (hN : Nd h a g n es k ns) (hn : n ≤ 6) {kf : Nat → Int32} (hE : ∀ j, j < n → ∀ e, es j = some e → ∃ v, Et h e (kf e) v) {e : Nat} {key : Int32} {v : Int64} (he : Et h e key v) (hd : 1 ≤ d)
    {i : Nat} (hi : i = (match q_pl es kf key n 0 with | some j => j | none => q_ct es n)) (hin : i < n) :
    Go K M_Nod_putInBag d 0 [some (.ref a), some (.ref e), none, none] [] h (x_is none (x_up h (a + 1) (.inl (3, n, .inr (.inr (.inr (.inr (va_up es i (some e))))))))) := by
  have hN' := hN
  obtain ⟨h0, h1, h2⟩ := hN
  have he' := he
  unfold Et at he
  refine go_aload_n (pc' := 1) (i := 0) d_Nod_putInBag_0 rfl rfl (by first | rfl | exact x_r_rf _) rfl ?_
  refine go_aload_n (pc' := 2) (i := 1) d_Nod_putInBag_1 rfl rfl (by first | rfl | exact x_r_rf _) rfl ?_
  refine go_getfield (pc' := 5) d_Nod_putInBag_2 c_Ent 0 (by decide) t_276 (by first | assumption | exact x_up_self _ _ _ | exact x_nw_self _ _ _ | (rw [x_up_ne (by first | omega | (simp only [x_up, x_nw]; omega))]; first | assumption | exact x_up_self _ _ _ | (rw [x_up_ne (by first | omega | (simp only [x_up, x_nw]; omega))]; first | assumption | exact x_up_self _ _ _)) | (rw [x_nw_ne (by first | omega | (simp only [x_up, x_nw]; omega))]; first | assumption | exact x_up_self _ _ _ | (rw [x_up_ne (by first | omega | (simp only [x_up, x_nw]; omega))]; assumption))) (by rfl) rfl ?_
  refine go_callV (pc' := 8) (M' := M_Nod_placeInBag) (ci := 2) (r := (n_Nod, T_Nod, 3)) [_] d_Nod_putInBag_5 t_316 t_200 t_201 cd_Nod_placeInBag nm_Nod_placeInBag rfl (by rfl) (by first | assumption | exact x_up_self _ _ _ | exact x_nw_self _ _ _ | (rw [x_up_ne (by first | omega | (simp only [x_up, x_nw]; omega))]; first | assumption | exact x_up_self _ _ _ | (rw [x_up_ne (by first | omega | (simp only [x_up, x_nw]; omega))]; first | assumption | exact x_up_self _ _ _)) | (rw [x_nw_ne (by first | omega | (simp only [x_up, x_nw]; omega))]; first | assumption | exact x_up_self _ _ _ | (rw [x_up_ne (by first | omega | (simp only [x_up, x_nw]; omega))]; assumption))) rfl (Nat.le_of_ble_eq_true rfl) rfl (s_placeInBag (d := d - 1) hN' hn hE key) (by first | decide | omega) (Nat.le_of_ble_eq_true rfl) rfl (fun v hh hq => ?_) (fun q g hq => by cases hq.1)
  obtain ⟨e1, rfl⟩ := hq
  cases e1
  have fin : ∀ lv2 : Option Value, x_k lv2 = lv2 → Go K M_Nod_putInBag d 22 [some (.ref a), some (.ref e), lv2, none] [.int (nI i)] h (x_is none (x_up h (a + 1) (.inl (3, n, .inr (.inr (.inr (.inr (va_up es i (some e))))))))) := by
    intro lv2 hl2
    refine go_istore_n (pc' := 23) (i := 3) d_Nod_putInBag_22 rfl (by decide) (x_s3 hl2) rfl ?_
    refine go_iload_n (pc' := 24) (i := 3) d_Nod_putInBag_23 rfl rfl rfl ?_
    refine go_aload_n (pc' := 25) (i := 0) d_Nod_putInBag_24 rfl rfl (by first | rfl | exact x_r_rf _) rfl ?_
    refine go_getfield (pc' := 28) d_Nod_putInBag_25 c_Nod 1 (by decide) t_42 (by first | assumption | exact x_up_self _ _ _ | exact x_nw_self _ _ _ | (rw [x_up_ne (by first | omega | (simp only [x_up, x_nw]; omega))]; first | assumption | exact x_up_self _ _ _ | (rw [x_up_ne (by first | omega | (simp only [x_up, x_nw]; omega))]; first | assumption | exact x_up_self _ _ _)) | (rw [x_nw_ne (by first | omega | (simp only [x_up, x_nw]; omega))]; first | assumption | exact x_up_self _ _ _ | (rw [x_up_ne (by first | omega | (simp only [x_up, x_nw]; omega))]; assumption))) (by rfl) rfl ?_
    refine go_alenN (pc' := 29) d_Nod_putInBag_28 (by first | assumption | exact x_up_self _ _ _ | exact x_nw_self _ _ _ | (rw [x_up_ne (by first | omega | (simp only [x_up, x_nw]; omega))]; first | assumption | exact x_up_self _ _ _ | (rw [x_up_ne (by first | omega | (simp only [x_up, x_nw]; omega))]; first | assumption | exact x_up_self _ _ _)) | (rw [x_nw_ne (by first | omega | (simp only [x_up, x_nw]; omega))]; first | assumption | exact x_up_self _ _ _ | (rw [x_up_ne (by first | omega | (simp only [x_up, x_nw]; omega))]; assumption))) (by rfl) rfl ?_
    refine go_icmp_geN (tgt := 39) (pc' := 32) d_Nod_putInBag_29 (by decide) rfl (by omega) (by omega) (fun hc => ?_) (fun hc => ?_)
    · omega
    · refine go_aload_n (pc' := 33) (i := 0) d_Nod_putInBag_32 rfl rfl (by first | rfl | exact x_r_rf _) rfl ?_
      refine go_getfield (pc' := 36) d_Nod_putInBag_33 c_Nod 1 (by decide) t_42 (by first | assumption | exact x_up_self _ _ _ | exact x_nw_self _ _ _ | (rw [x_up_ne (by first | omega | (simp only [x_up, x_nw]; omega))]; first | assumption | exact x_up_self _ _ _ | (rw [x_up_ne (by first | omega | (simp only [x_up, x_nw]; omega))]; first | assumption | exact x_up_self _ _ _)) | (rw [x_nw_ne (by first | omega | (simp only [x_up, x_nw]; omega))]; first | assumption | exact x_up_self _ _ _ | (rw [x_up_ne (by first | omega | (simp only [x_up, x_nw]; omega))]; assumption))) (by rfl) rfl ?_
      refine go_iload_n (pc' := 37) (i := 3) d_Nod_putInBag_36 rfl rfl rfl ?_
      refine go_aload_n (pc' := 38) (i := 1) d_Nod_putInBag_37 rfl rfl (by first | rfl | exact x_r_rf _) rfl ?_
      refine go_aastR (pc' := 39) d_Nod_putInBag_38 (by assumption) (by assumption) (by rfl) (by rfl) (by omega) (by omega) rfl ?_
      refine go_return d_Nod_putInBag_39 rfl ?_
      exact ⟨rfl, rfl⟩
  cases hp : q_pl es kf key n 0 with
  | none =>
    rw [hp] at hi
    show Go K M_Nod_putInBag d 8 _ [.int (-1)] h _
    refine go_istore_n (pc' := 9) (i := 2) d_Nod_putInBag_8 rfl (by decide) (x_s2 (by first | rfl | exact x_k_rf _)) rfl ?_
    refine go_iload_n (pc' := 10) (i := 2) d_Nod_putInBag_9 rfl rfl rfl ?_
    refine go_iconst (pc' := 11) (v := (-1)) d_Nod_putInBag_10 (by decide) rfl ?_
    refine go_icmp_eq (tgt := 18) (pc' := 14) d_Nod_putInBag_11 (by decide) rfl (fun hc => ?_) (fun hc => ?_)
    · refine go_aload_n (pc' := 19) (i := 0) d_Nod_putInBag_18 rfl rfl (by first | rfl | exact x_r_rf _) rfl ?_
      refine go_callV (pc' := 22) (M' := M_Nod_countEntries) (ci := 2) (r := (n_Nod, T_Nod, 3)) [] d_Nod_putInBag_19 t_317 t_247 t_248 cd_Nod_countEntries nm_Nod_countEntries rfl (by rfl) (by first | assumption | exact x_up_self _ _ _ | exact x_nw_self _ _ _ | (rw [x_up_ne (by first | omega | (simp only [x_up, x_nw]; omega))]; first | assumption | exact x_up_self _ _ _ | (rw [x_up_ne (by first | omega | (simp only [x_up, x_nw]; omega))]; first | assumption | exact x_up_self _ _ _)) | (rw [x_nw_ne (by first | omega | (simp only [x_up, x_nw]; omega))]; first | assumption | exact x_up_self _ _ _ | (rw [x_up_ne (by first | omega | (simp only [x_up, x_nw]; omega))]; assumption))) rfl (Nat.le_of_ble_eq_true rfl) rfl (s_countEntries (d := d - 1) hN' hn) (by first | decide | omega) (Nat.le_of_ble_eq_true rfl) rfl (fun v hh hq => ?_) (fun q g hq => by cases hq.1)
      obtain ⟨e1, rfl⟩ := hq
      cases e1
      subst hi
      exact fin _ rfl
    · exact absurd rfl hc
  | some j =>
    rw [hp] at hi
    have hj := q_pl_lt es kf key n 0 j hp
    show Go K M_Nod_putInBag d 8 _ [.int (nI j)] h _
    refine go_istore_n (pc' := 9) (i := 2) d_Nod_putInBag_8 rfl (by decide) (x_s2 (by first | rfl | exact x_k_rf _)) rfl ?_
    refine go_iload_n (pc' := 10) (i := 2) d_Nod_putInBag_9 rfl rfl rfl ?_
    refine go_iconst (pc' := 11) (v := (-1)) d_Nod_putInBag_10 (by decide) rfl ?_
    refine go_icmp_eq (tgt := 18) (pc' := 14) d_Nod_putInBag_11 (by decide) rfl (fun hc => ?_) (fun hc => ?_)
    · exfalso
      have := congrArg Int32.toInt hc
      rw [nI_toInt (by omega)] at this
      have h2 : (-1 : Int32).toInt = -1 := by decide
      omega
    · refine go_iload_n (pc' := 15) (i := 2) d_Nod_putInBag_14 rfl rfl rfl ?_
      refine go_goto (tgt := 22) d_Nod_putInBag_15 (by decide) ?_
      subst hi
      exact fin _ rfl
end NB
