/-! the reference: write, add -/
def Bs (B : Nat → Int32) (i : Nat) (bl : Nat → Nat → Nat) : Prop := ∀ l p, l < 5 → p < 4 ^ l → B (341 * i + (q_bf l + p)) = nI (bl l p)
theorem q_bf_lt : ∀ l, l < 5 → q_bf l + 4 ^ l ≤ 341 := by decide
theorem q_bf_inj : ∀ l, l < 5 → ∀ l', l' < 5 → l < l' → q_bf l + 4 ^ l ≤ q_bf l' := by decide
theorem q_bf_ne {l l' p p' : Nat} (hl : l < 5) (hl' : l' < 5) (hp : p < 4 ^ l) (hp' : p' < 4 ^ l') (he : q_bf l + p = q_bf l' + p') : l = l' ∧ p = p' := by
  rcases Nat.lt_trichotomy l l' with h | h | h
  · have := q_bf_inj l hl l' hl' h; omega
  · subst h; exact ⟨rfl, by omega⟩
  · have := q_bf_inj l' hl' l hl h; omega
theorem Bs.up {B : Nat → Int32} {i l p g : Nat} {bl : Nat → Nat → Nat} (hB : Bs B i bl) (hl : l < 5) (hp : p < 4 ^ l) : Bs (va_up B (341 * i + (q_bf l + p)) (nI g)) i (fun l' p' => if l' = l ∧ p' = p then g else bl l' p') := by
  intro l' p' hl' hp'
  by_cases he : q_bf l' + p' = q_bf l + p
  · obtain ⟨rfl, rfl⟩ := q_bf_ne hl' hl hp' hp he
    rw [va_up_self]
    simp
  · rw [va_up_ne _ _ (by omega), hB l' p' hl' hp']
    show _ = nI (if l' = l ∧ p' = p then g else bl l' p')
    rw [if_neg]
    rintro ⟨rfl, rfl⟩
    exact he rfl
theorem Bs.cg {B : Nat → Int32} {i : Nat} {bl bl' : Nat → Nat → Nat} (hB : Bs B i bl) (he : ∀ l p, l < 5 → p < 4 ^ l → bl' l p = bl l p) : Bs B i bl' := fun l p hl hp => by rw [hB l p hl hp, he l p hl hp]
section RD2
variable {K : x_K} {d : Nat} {h g : x_H} {m i : Nat} {ρ : Rt} {ks : List KV} {bl : Nat → Nat → Nat} {gn c0 : Nat}
set_option maxRecDepth 100000 in
theorem m_write (hL : Ls ρ i ks) (hi : i < 6) (hB : Bs (r_B ρ) i bl) (hb : ∀ l p, bl l p < 2 ^ 20) (hG : r_G ρ i = nI gn) (hg : gn < 2 ^ 20) (hc0 : r_lc ρ = nI c0) (key : Int32) (hd : 3 ≤ d) :
    Go K M_Mod_write d 0 [some (.ref m), some (.int (nI i)), some (.int (nI (q_h key))), none, none] [] (Rh g m ρ) (x_rt (fun v f => v = none ∧ ∃ B', f = Rh g m (ru_lc (ru_B ρ B') (nI (c0 + q_cc ks bl gn key 5))) ∧ Bs B' i (q_bw ks bl gn key) ∧ ∀ b, ¬ (341 * i ≤ b ∧ b < 341 * i + 341) → B' b = r_B ρ b)) := by
  have hqh := q_h_lt key
  have loop : ∀ r k x4 B', x_k x4 = x4 → k + r = 5 → Bs B' i (fun l p => if l < k ∧ p = q_p l key ∧ q_ex ks l p then gn else bl l p) → (∀ b, ¬ (341 * i ≤ b ∧ b < 341 * i + 341) → B' b = r_B ρ b) →
      Go K M_Mod_write d 2 [some (.ref m), some (.int (nI i)), some (.int (nI (q_h key))), some (.int (nI k)), x4] [] (Rh g m (ru_lc (ru_B ρ B') (nI (c0 + q_cc ks bl gn key k)))) (x_rt (fun v f => v = none ∧ ∃ B', f = Rh g m (ru_lc (ru_B ρ B') (nI (c0 + q_cc ks bl gn key 5))) ∧ Bs B' i (q_bw ks bl gn key) ∧ ∀ b, ¬ (341 * i ≤ b ∧ b < 341 * i + 341) → B' b = r_B ρ b)) := by
    intro r
    induction r with
    | zero =>
      intro k x4 B' hx hk hB' hF
      have : k = 5 := by omega
      subst this
      refine go_iload_n (pc' := 3) (i := 3) d_Mod_write_2 rfl rfl rfl ?_
      refine go_iconst (pc' := 4) (v := (nI 5)) d_Mod_write_3 (by decide) rfl ?_
      refine go_icmp_geN (tgt := 75) (pc' := 7) d_Mod_write_4 (by decide) rfl (by omega) (by omega) (fun hc => ?_) (fun hc => ?_)
      · refine go_return d_Mod_write_75 rfl ?_
        exact ⟨rfl, B', rfl, hB', hF⟩
      · omega
    | succ r ih =>
      intro k x4 B' hx hk hB' hF
      have hk5 : k < 5 := by omega
      have hbf := q_bf_lt k hk5
      have hpl : q_p k key < 4 ^ k := q_p_lt (by omega) key
      have hex : q_h key / 4 ^ (4 - k) = q_p k key := rfl
      refine go_iload_n (pc' := 3) (i := 3) d_Mod_write_2 rfl rfl rfl ?_
      refine go_iconst (pc' := 4) (v := (nI 5)) d_Mod_write_3 (by decide) rfl ?_
      refine go_icmp_geN (tgt := 75) (pc' := 7) d_Mod_write_4 (by decide) rfl (by omega) (by omega) (fun hc => ?_) (fun hc => ?_)
      · omega
      · refine go_sipush (pc' := 10) (v := (nI 341)) d_Mod_write_7 (by decide) rfl ?_
        refine go_iload_n (pc' := 11) (i := 1) d_Mod_write_10 rfl rfl rfl ?_
        refine go_imulN (pc' := 12) d_Mod_write_11 rfl ?_
        refine go_iload_n (pc' := 13) (i := 2) d_Mod_write_12 rfl rfl rfl ?_
        refine go_iload_n (pc' := 14) (i := 3) d_Mod_write_13 rfl rfl rfl ?_
        refine go_callS (pc' := 17) (M' := M_Mod_node) [_, _] d_Mod_write_14 t_558 t_559 t_4 cd_Mod_node nm_Mod_node rfl rfl (Nat.le_of_ble_eq_true rfl) rfl (m_node (d := d - 1) hqh hk5) (by first | decide | omega) (Nat.le_of_ble_eq_true rfl) rfl (fun v hh hq => ?_) (fun q g hq => by cases hq.1)
        obtain ⟨e1, e2⟩ := hq
        cases e1
        rw [← e2, hex]
        show Go K M_Mod_write d 17 _ [.int (nI (q_bf k + q_p k key)), _] _ _
        refine go_iaddN (pc' := 18) d_Mod_write_17 rfl ?_
        refine go_istore (pc' := 20) (i := 4) d_Mod_write_18 (by decide) (x_s4 (by first | rfl | exact x_k_rf _)) rfl ?_
        refine go_aload_n (pc' := 21) (i := 0) d_Mod_write_20 rfl rfl (by first | rfl | exact x_r_rf _) rfl ?_
        refine go_iload_n (pc' := 22) (i := 1) d_Mod_write_21 rfl rfl rfl ?_
        refine go_iload_n (pc' := 23) (i := 2) d_Mod_write_22 rfl rfl rfl ?_
        refine go_iload_n (pc' := 24) (i := 3) d_Mod_write_23 rfl rfl rfl ?_
        have hL' : Ls (ru_lc (ru_B ρ B') (nI (c0 + q_cc ks bl gn key k))) i ks := hL
        refine go_callV (pc' := 27) (M' := M_Mod_exists) (ci := 6) (r := (n_Mod, T_Mod, 16)) [_, _, _] d_Mod_write_24 t_561 t_563 sp_Mod_exists cd_Mod_exists nm_Mod_exists rfl (by rfl) (by first | assumption | exact Rh_0 _ _ _ | exact Rh_1 _ _ _ | exact Rh_2 _ _ _ | exact Rh_3 _ _ _ | exact Rh_4 _ _ _ | exact Rh_5 _ _ _ | exact Rh_6 _ _ _ | exact Rh_7 _ _ _ | exact Rh_8 _ _ _ | exact Rh_9 _ _ _ | exact Rh_10 _ _ _ | exact Rh_11 _ _ _ | exact Rh_12 _ _ _) rfl (Nat.le_of_ble_eq_true rfl) rfl (m_exists (d := d - 1) hL' hi hqh hk5 (by omega)) (by first | decide | omega) (Nat.le_of_ble_eq_true rfl) rfl (fun v h2 hq => ?_) (fun q g hq => by cases hq.1)
        obtain ⟨e1, e2'⟩ := hq
        cases e1
        rw [← e2', hex]
        show Go K M_Mod_write d 27 _ [_] _ _
        have hBk : B' (341 * i + (q_bf k + q_p k key)) = nI (bl k (q_p k key)) := by
          rw [hB' k _ hk5 hpl]
          show nI (if k < k ∧ q_p k key = q_p k key ∧ q_ex ks k (q_p k key) then gn else bl k (q_p k key)) = _
          rw [if_neg (fun z => Nat.lt_irrefl _ z.1)]
        -- the next level
        have nx : ∀ B'' n, Bs B'' i (fun l p => if l < k + 1 ∧ p = q_p l key ∧ q_ex ks l p then gn else bl l p) → (∀ b, ¬ (341 * i ≤ b ∧ b < 341 * i + 341) → B'' b = r_B ρ b) → n = c0 + q_cc ks bl gn key (k + 1) →
            Go K M_Mod_write d 69 [some (.ref m), some (.int (nI i)), some (.int (nI (q_h key))), some (.int (nI k)), some (.int (nI (341 * i + (q_bf k + q_p k key))))] [] (Rh g m (ru_lc (ru_B ρ B'') (nI n))) (x_rt (fun v f => v = none ∧ ∃ B', f = Rh g m (ru_lc (ru_B ρ B') (nI (c0 + q_cc ks bl gn key 5))) ∧ Bs B' i (q_bw ks bl gn key) ∧ ∀ b, ¬ (341 * i ≤ b ∧ b < 341 * i + 341) → B' b = r_B ρ b)) := by
          intro B'' n h1 h2 h3
          subst h3
          refine go_iinc (pc' := 72) (i := 3) d_Mod_write_69 rfl (x_i1 _) (by decide) (x_s3 (by first | rfl | exact x_k_rf _)) rfl ?_
          refine go_goto (tgt := 2) d_Mod_write_72 (by decide) ?_
          exact ih (k + 1) _ B'' rfl (by omega) h1 h2
        by_cases hx2 : q_ex ks k (q_p k key)
        · rw [if_pos hx2]
          refine go_if_eq (tgt := 69) (pc' := 30) d_Mod_write_27 (by decide) rfl (fun hc => ?_) (fun hc => ?_)
          · cases hc
          · refine go_aload_n (pc' := 31) (i := 0) d_Mod_write_30 rfl rfl (by first | rfl | exact x_r_rf _) rfl ?_
            refine go_getfield (pc' := 34) d_Mod_write_31 c_Mod 8 (by decide) t_479 (by first | assumption | exact Rh_0 _ _ _ | exact Rh_1 _ _ _ | exact Rh_2 _ _ _ | exact Rh_3 _ _ _ | exact Rh_4 _ _ _ | exact Rh_5 _ _ _ | exact Rh_6 _ _ _ | exact Rh_7 _ _ _ | exact Rh_8 _ _ _ | exact Rh_9 _ _ _ | exact Rh_10 _ _ _ | exact Rh_11 _ _ _ | exact Rh_12 _ _ _) (by rfl) rfl ?_
            refine go_iload (pc' := 36) (i := 4) d_Mod_write_34 rfl rfl ?_
            refine go_ialdN (pc' := 37) d_Mod_write_36 (by first | assumption | exact Rh_0 _ _ _ | exact Rh_1 _ _ _ | exact Rh_2 _ _ _ | exact Rh_3 _ _ _ | exact Rh_4 _ _ _ | exact Rh_5 _ _ _ | exact Rh_6 _ _ _ | exact Rh_7 _ _ _ | exact Rh_8 _ _ _ | exact Rh_9 _ _ _ | exact Rh_10 _ _ _ | exact Rh_11 _ _ _ | exact Rh_12 _ _ _) (by rfl) (by first | assumption | omega | (simp only [x_up, x_nw]; omega)) (by first | assumption | omega | (simp only [x_up, x_nw]; omega)) rfl ?_
            refine go_aload_n (pc' := 38) (i := 0) d_Mod_write_37 rfl rfl (by first | rfl | exact x_r_rf _) rfl ?_
            refine go_getfield (pc' := 41) d_Mod_write_38 c_Mod 4 (by decide) t_475 (by first | assumption | exact Rh_0 _ _ _ | exact Rh_1 _ _ _ | exact Rh_2 _ _ _ | exact Rh_3 _ _ _ | exact Rh_4 _ _ _ | exact Rh_5 _ _ _ | exact Rh_6 _ _ _ | exact Rh_7 _ _ _ | exact Rh_8 _ _ _ | exact Rh_9 _ _ _ | exact Rh_10 _ _ _ | exact Rh_11 _ _ _ | exact Rh_12 _ _ _) (by rfl) rfl ?_
            refine go_iload_n (pc' := 42) (i := 1) d_Mod_write_41 rfl rfl rfl ?_
            refine go_ialdN (pc' := 43) d_Mod_write_42 (by first | assumption | exact Rh_0 _ _ _ | exact Rh_1 _ _ _ | exact Rh_2 _ _ _ | exact Rh_3 _ _ _ | exact Rh_4 _ _ _ | exact Rh_5 _ _ _ | exact Rh_6 _ _ _ | exact Rh_7 _ _ _ | exact Rh_8 _ _ _ | exact Rh_9 _ _ _ | exact Rh_10 _ _ _ | exact Rh_11 _ _ _ | exact Rh_12 _ _ _) (by rfl) (by first | assumption | omega | (simp only [x_up, x_nw]; omega)) (by first | assumption | omega | (simp only [x_up, x_nw]; omega)) rfl ?_
            rw [show r_B (ru_lc (ru_B ρ B') (nI (c0 + q_cc ks bl gn key k))) = B' from rfl, hBk, show r_G (ru_lc (ru_B ρ B') (nI (c0 + q_cc ks bl gn key k))) = r_G ρ from rfl, hG]
            have hbk := hb k (q_p k key)
            refine go_icmp_eqN (tgt := 69) (pc' := 46) d_Mod_write_43 (by decide) rfl (by omega) (by omega) (fun hc => ?_) (fun hc => ?_)
            · refine nx B' _ (hB'.cg fun l p hl hp => ?_) hF ?_
              · by_cases hlk : l = k
                · subst hlk
                  by_cases hpk : p = q_p l key
                  · subst hpk
                    rw [if_pos ⟨by omega, rfl, hx2⟩, if_neg (by omega)]
                    exact hc.symm
                  · rw [if_neg (fun z => hpk z.2.1), if_neg (by omega)]
                · refine q_ifc ?_ _ _
                  constructor
                  · rintro ⟨z1, z2⟩; exact ⟨by omega, z2⟩
                  · rintro ⟨z1, z2⟩; exact ⟨by omega, z2⟩
              · rw [q_cc, if_neg (fun z => z.2 hc)]
                omega
            · refine go_aload_n (pc' := 47) (i := 0) d_Mod_write_46 rfl rfl (by first | rfl | exact x_r_rf _) rfl ?_
              refine go_getfield (pc' := 50) d_Mod_write_47 c_Mod 8 (by decide) t_479 (by first | assumption | exact Rh_0 _ _ _ | exact Rh_1 _ _ _ | exact Rh_2 _ _ _ | exact Rh_3 _ _ _ | exact Rh_4 _ _ _ | exact Rh_5 _ _ _ | exact Rh_6 _ _ _ | exact Rh_7 _ _ _ | exact Rh_8 _ _ _ | exact Rh_9 _ _ _ | exact Rh_10 _ _ _ | exact Rh_11 _ _ _ | exact Rh_12 _ _ _) (by rfl) rfl ?_
              refine go_iload (pc' := 52) (i := 4) d_Mod_write_50 rfl rfl ?_
              refine go_aload_n (pc' := 53) (i := 0) d_Mod_write_52 rfl rfl (by first | rfl | exact x_r_rf _) rfl ?_
              refine go_getfield (pc' := 56) d_Mod_write_53 c_Mod 4 (by decide) t_475 (by first | assumption | exact Rh_0 _ _ _ | exact Rh_1 _ _ _ | exact Rh_2 _ _ _ | exact Rh_3 _ _ _ | exact Rh_4 _ _ _ | exact Rh_5 _ _ _ | exact Rh_6 _ _ _ | exact Rh_7 _ _ _ | exact Rh_8 _ _ _ | exact Rh_9 _ _ _ | exact Rh_10 _ _ _ | exact Rh_11 _ _ _ | exact Rh_12 _ _ _) (by rfl) rfl ?_
              refine go_iload_n (pc' := 57) (i := 1) d_Mod_write_56 rfl rfl rfl ?_
              refine go_ialdN (pc' := 58) d_Mod_write_57 (by first | assumption | exact Rh_0 _ _ _ | exact Rh_1 _ _ _ | exact Rh_2 _ _ _ | exact Rh_3 _ _ _ | exact Rh_4 _ _ _ | exact Rh_5 _ _ _ | exact Rh_6 _ _ _ | exact Rh_7 _ _ _ | exact Rh_8 _ _ _ | exact Rh_9 _ _ _ | exact Rh_10 _ _ _ | exact Rh_11 _ _ _ | exact Rh_12 _ _ _) (by rfl) (by first | assumption | omega | (simp only [x_up, x_nw]; omega)) (by first | assumption | omega | (simp only [x_up, x_nw]; omega)) rfl ?_
              rw [show r_G (ru_lc (ru_B ρ B') (nI (c0 + q_cc ks bl gn key k))) = r_G ρ from rfl, hG]
              refine go_iastN (pc' := 59) d_Mod_write_58 (by first | assumption | exact Rh_0 _ _ _ | exact Rh_1 _ _ _ | exact Rh_2 _ _ _ | exact Rh_3 _ _ _ | exact Rh_4 _ _ _ | exact Rh_5 _ _ _ | exact Rh_6 _ _ _ | exact Rh_7 _ _ _ | exact Rh_8 _ _ _ | exact Rh_9 _ _ _ | exact Rh_10 _ _ _ | exact Rh_11 _ _ _ | exact Rh_12 _ _ _) (by rfl) (by first | assumption | omega | (simp only [x_up, x_nw]; omega)) (by first | assumption | omega | (simp only [x_up, x_nw]; omega)) rfl ?_
              rw [Rh_uB]
              refine go_aload_n (pc' := 60) (i := 0) d_Mod_write_59 rfl rfl (by first | rfl | exact x_r_rf _) rfl ?_
              refine go_dup (pc' := 61) d_Mod_write_60 (by first | rfl | exact x_c_rf _) rfl ?_
              refine go_getfield (pc' := 64) d_Mod_write_61 c_Mod 9 (by decide) t_480 (by first | assumption | exact Rh_0 _ _ _ | exact Rh_1 _ _ _ | exact Rh_2 _ _ _ | exact Rh_3 _ _ _ | exact Rh_4 _ _ _ | exact Rh_5 _ _ _ | exact Rh_6 _ _ _ | exact Rh_7 _ _ _ | exact Rh_8 _ _ _ | exact Rh_9 _ _ _ | exact Rh_10 _ _ _ | exact Rh_11 _ _ _ | exact Rh_12 _ _ _) (by rfl) rfl ?_
              refine go_iconst (pc' := 65) (v := (nI 1)) d_Mod_write_64 (by decide) rfl ?_
              refine go_iaddN (pc' := 66) d_Mod_write_65 rfl ?_
              refine go_putfield (pc' := 69) d_Mod_write_66 c_Mod 9 (by decide) rfl t_480 (by first | assumption | exact Rh_0 _ _ _ | exact Rh_1 _ _ _ | exact Rh_2 _ _ _ | exact Rh_3 _ _ _ | exact Rh_4 _ _ _ | exact Rh_5 _ _ _ | exact Rh_6 _ _ _ | exact Rh_7 _ _ _ | exact Rh_8 _ _ _ | exact Rh_9 _ _ _ | exact Rh_10 _ _ _ | exact Rh_11 _ _ _ | exact Rh_12 _ _ _) (by rfl) (by rfl) (by first | exact Nat.le_of_ble_eq_true rfl | simp) rfl ?_
              rw [Rh_ulc]
              show Go K M_Mod_write d 69 _ [] (Rh g m (ru_lc (ru_B ρ (va_up B' (341 * i + (q_bf k + q_p k key)) (nI gn))) (nI (c0 + q_cc ks bl gn key k + 1)))) _
              refine nx _ _ ((hB'.up (g := gn) hk5 hpl).cg fun l p hl hp => ?_) (fun b hb => ?_) ?_
              · by_cases hlk : l = k ∧ p = q_p k key
                · rw [if_pos hlk, if_pos]
                  obtain ⟨rfl, rfl⟩ := hlk
                  exact ⟨by omega, rfl, hx2⟩
                · rw [if_neg hlk]
                  refine q_ifc ?_ _ _
                  constructor
                  · rintro ⟨z1, z2, z3⟩
                    refine ⟨?_, z2, z3⟩
                    by_cases hlk2 : l = k
                    · subst hlk2; exact absurd ⟨rfl, z2⟩ hlk
                    · omega
                  · rintro ⟨z1, z2⟩; exact ⟨by omega, z2⟩
              · rw [va_up_ne _ _ (by omega)]
                exact hF b hb
              · rw [q_cc, if_pos ⟨hx2, hc⟩]
                omega
        · rw [if_neg hx2]
          refine go_if_eq (tgt := 69) (pc' := 30) d_Mod_write_27 (by decide) rfl (fun hc => ?_) (fun hc => ?_)
          · refine nx B' _ (hB'.cg fun l p hl hp => ?_) hF ?_
            · refine q_ifc ?_ _ _
              constructor
              · rintro ⟨z1, z2, z3⟩
                refine ⟨?_, z2, z3⟩
                by_cases hlk2 : l = k
                · subst hlk2; rw [z2] at z3; exact absurd z3 hx2
                · omega
              · rintro ⟨z1, z2⟩; exact ⟨by omega, z2⟩
            · rw [q_cc, if_neg (fun z => hx2 z.1)]
              omega
          · exact absurd rfl hc
  have e : Rh g m ρ = Rh g m (ru_lc (ru_B ρ (r_B ρ)) (nI (c0 + q_cc ks bl gn key 0))) := by
    rw [q_cc, Nat.add_zero, ← hc0]
    rfl
  refine go_iconst (pc' := 1) (v := (nI 0)) d_Mod_write_0 (by decide) rfl ?_
  refine go_istore_n (pc' := 2) (i := 3) d_Mod_write_1 rfl (by decide) (x_s3 (by first | rfl | exact x_k_rf _)) rfl ?_
  rw [e]
  exact loop 5 0 _ (r_B ρ) rfl (by omega) (hB.cg fun l p hl hp => by rw [if_neg (by omega)]) (fun b _ => rfl)
end RD2
