/-! the reference: put, replace, remove -/
section RG2
variable {K : x_K} {d : Nat} {h g : x_H} {m i j : Nat} {ρ ρ' : Rt} {ks : List KV} {bl : Nat → Nat → Nat} {σ : Sg} {y z : KV} {key : Int32} {v : Int64}
theorem nI_0le {n : Nat} (hn : n < 2 ^ 31) : (0 : Int32) ≤ nI n := by
  rw [show (0 : Int32) = nI 0 from rfl, nI_leI (by omega) hn]
  omega
theorem Ko.uq {a : Nat} (hK : Ko ks) (ha : ks[a]? = some z) (hy : ks[j]? = some y) (he : z.1 = y.1) : a = j := by
  obtain ⟨al, ae⟩ := List.getElem?_eq_some_iff.mp ha
  obtain ⟨jl, je⟩ := List.getElem?_eq_some_iff.mp hy
  have hpw := List.pairwise_iff_getElem.mp hK.2.1
  rcases Nat.lt_trichotomy a j with hlt | heq | hgt
  · have := hpw a j (by simpa using al) (by simpa using jl) hlt
    simp only [List.getElem_map] at this
    rw [ae, je, he] at this
    exact absurd rfl this
  · exact heq
  · have := hpw j a (by simpa using jl) (by simpa using al) hgt
    simp only [List.getElem_map] at this
    rw [ae, je, he] at this
    exact absurd rfl this
theorem Ls.set (hL : Ls ρ i ks) (hK : Ko ks) (hy : ks[j]? = some y) (hk : y.1 = key) (hK' : r_K ρ' = r_K ρ) (hS' : r_S ρ' = r_S ρ) (hV' : r_V ρ' = va_up (r_V ρ) (60 * i + j) v) : Ls ρ' i (q_put ks key v) := by
  unfold q_put
  rw [Ls.get hK hy hk]
  simp only [Option.isSome_some, if_true]
  refine ⟨by rw [hS', List.length_map]; exact hL.1, by rw [List.length_map]; exact hL.2.1, fun a z hz => ?_⟩
  rw [List.getElem?_map] at hz
  obtain ⟨w, hw, rfl⟩ := Option.map_eq_some_iff.mp hz
  have ha := (List.getElem?_eq_some_iff.mp hw).1
  have hj := (List.getElem?_eq_some_iff.mp hy).1
  have h60 := hL.2.1
  obtain ⟨q1, q2⟩ := hL.2.2 a w hw
  by_cases hwk : w.1 = key
  · have haj := hK.uq hw hy (hwk.trans hk.symm)
    subst haj
    rw [if_pos hwk, hK', hV', va_up_self]
    exact ⟨q1.trans hwk, rfl⟩
  · have haj : a ≠ j := fun e => by
      subst e
      rw [hw] at hy
      cases hy
      exact hwk hk
    rw [if_neg hwk, hK', hV', va_up_ne _ _ (by omega)]
    exact ⟨q1, q2⟩
theorem Ls.off2 {a : Nat} (hL : Ls ρ a ks) (hai : a ≠ i) (hj : j < 60) (hK' : r_K ρ' = r_K ρ) (hS' : r_S ρ' = r_S ρ) (hV' : r_V ρ' = va_up (r_V ρ) (60 * i + j) v) : Ls ρ' a ks := by
  refine ⟨by rw [hS']; exact hL.1, hL.2.1, fun b w hw => ?_⟩
  have hb := (List.getElem?_eq_some_iff.mp hw).1
  have := hL.2.1
  rw [hK', hV', va_up_ne _ _ (by omega)]
  exact hL.2.2 b w hw
/-- after write and the new value -/
theorem Rr.set {B1 : Nat → Int32} (hR : Rr σ ρ) (hi : i < 6) (hy : (s_ks σ i)[j]? = some y) (hk : y.1 = key) (hB1 : Bs B1 i (q_bw (s_ks σ i) (s_bl σ i) (s_gn σ i) key)) (hF1 : ∀ b, ¬ (341 * i ≤ b ∧ b < 341 * i + 341) → B1 b = r_B ρ b)
    (hρ' : ρ' = ru_V (ru_lc (ru_B ρ B1) (nI (q_cc (s_ks σ i) (s_bl σ i) (s_gn σ i) key 5))) (va_up (r_V ρ) (60 * i + j) v)) : Rr (p_put σ i key v) ρ' := by
  obtain ⟨a1, a2, a3, a4, a5, a6, a7, a8, a9, a10, a11, a12, a13, a14⟩ := id hR
  have hL := a5 i hi
  have hj := (List.getElem?_eq_some_iff.mp hy).1
  have h60 := hL.2.1
  have hgn := a12 i hi
  have hget := Ls.get (a14 i hi) hy hk
  have hpp : p_put σ i key v = p_wr σ i (q_put (s_ks σ i) key v) (q_bw (s_ks σ i) (s_bl σ i) (s_gn σ i) key) (q_cc (s_ks σ i) (s_bl σ i) (s_gn σ i) key 5) := by
    unfold p_put q_bp
    rw [hget]
    rfl
  rw [hpp]
  have hK' : r_K ρ' = r_K ρ := by rw [hρ']; rfl
  have hS' : r_S ρ' = r_S ρ := by rw [hρ']; rfl
  have hV' : r_V ρ' = va_up (r_V ρ) (60 * i + j) v := by rw [hρ']; rfl
  have hB' : r_B ρ' = B1 := by rw [hρ']; rfl
  exact hR.wr hi (by rw [hρ']; rfl) (by rw [hρ']; rfl) (by rw [hρ']; rfl) (by rw [hρ']; rfl) (by rw [hρ']; rfl) (by rw [hρ']; rfl) (by rw [hρ']; rfl) (by rw [hρ']; rfl) (by rw [hρ']; rfl) (by rw [hρ']; rfl) (hL.set (a14 i hi) hy hk hK' hS' hV') (fun a ha hai => (a5 a ha).off2 hai (by omega) hK' hS' hV') (by rw [hB']; exact hB1) (by rw [hB']; exact hF1) (by rw [hρ']; rfl) (q_bw_le (fun l p => a11 i l p hi) hgn) ((a14 i hi).put (Or.inl (by rw [hget]; rfl)))
theorem Rr.nc (hR : Rr σ ρ) : Rr (p_nc σ) (ru_lc ρ (nI 0)) := by
  obtain ⟨a1, a2, a3, a4, a5, a6, a7, a8⟩ := hR
  exact ⟨a1, a2, a3, a4, a5, a6, rfl, a8⟩
def c_put (k : Nat) : Nat := if k = 11 then 1 else if k = 12 then 2 else 3
set_option maxRecDepth 100000 in
theorem m_put (hR : Rr σ ρ) (mm key : Int32) (v : Int64) (hd : 8 ≤ d) : Go K M_Mod_put d 0 [some (.ref m), some (.int mm), some (.int key), some (.long v), none, none] [] (Rh g m ρ) (Qm g m (p_Put σ mm key v) c_put (.int (nI 0))) := by
  refine go_aload_n (pc' := 1) (i := 0) d_Mod_put_0 rfl rfl (by first | rfl | exact x_r_rf _) rfl ?_
  refine go_iconst (pc' := 2) (v := (nI 0)) d_Mod_put_1 (by decide) rfl ?_
  refine go_putfield (pc' := 5) d_Mod_put_2 c_Mod 0 (by decide) rfl t_471 (by first | assumption | exact Rh_0 _ _ _ | exact Rh_1 _ _ _ | exact Rh_2 _ _ _ | exact Rh_3 _ _ _ | exact Rh_4 _ _ _ | exact Rh_5 _ _ _ | exact Rh_6 _ _ _ | exact Rh_7 _ _ _ | exact Rh_8 _ _ _ | exact Rh_9 _ _ _ | exact Rh_10 _ _ _ | exact Rh_11 _ _ _ | exact Rh_12 _ _ _) (by rfl) (by rfl) (by first | exact Nat.le_of_ble_eq_true rfl | simp) rfl ?_
  rw [Rh_utw]
  obtain ⟨ρ1, hρ1⟩ : ∃ ρ1, ρ1 = ru_tw ρ (nI 0) := ⟨_, rfl⟩
  rw [← hρ1]
  have hR1 : Rr σ ρ1 := by rw [hρ1]; exact hR
  have htw : r_tw ρ1 = nI 0 := by rw [hρ1]; rfl
  refine go_aload_n (pc' := 6) (i := 0) d_Mod_put_5 rfl rfl (by first | rfl | exact x_r_rf _) rfl ?_
  refine go_iload_n (pc' := 7) (i := 1) d_Mod_put_6 rfl rfl rfl ?_
  refine go_callV (pc' := 10) (M' := M_Mod_none) (ci := 6) (r := (n_Mod, T_Mod, 16)) [_] d_Mod_put_7 t_530 t_532 sp_Mod_none cd_Mod_none nm_Mod_none rfl (by rfl) (by first | assumption | exact Rh_0 _ _ _ | exact Rh_1 _ _ _ | exact Rh_2 _ _ _ | exact Rh_3 _ _ _ | exact Rh_4 _ _ _ | exact Rh_5 _ _ _ | exact Rh_6 _ _ _ | exact Rh_7 _ _ _ | exact Rh_8 _ _ _ | exact Rh_9 _ _ _ | exact Rh_10 _ _ _ | exact Rh_11 _ _ _ | exact Rh_12 _ _ _) rfl (Nat.le_of_ble_eq_true rfl) rfl (m_none (d := d - 1) hR1.2.1 mm) (by first | decide | omega) (Nat.le_of_ble_eq_true rfl) rfl (fun v hh hq => ?_) (fun q g hq => by cases hq.1)
  obtain ⟨e1, e2⟩ := hq
  cases e1
  rw [← e2]
  show Go K M_Mod_put d 10 _ [_] _ _
  cases hp : p_map σ mm with
  | none =>
    refine go_if_eq (tgt := 27) (pc' := 13) d_Mod_put_10 (by decide) rfl (fun hc => ?_) (fun hc => ?_)
    · cases hc
    · refine go_aload_n (pc' := 14) (i := 0) d_Mod_put_13 rfl rfl (by first | rfl | exact x_r_rf _) rfl ?_
      refine go_iconst (pc' := 15) (v := (nI 1)) d_Mod_put_14 (by decide) rfl ?_
      refine go_callV (pc' := 18) (M' := M_Mod_fail) (ci := 6) (r := (n_Mod, T_Mod, 16)) [_] d_Mod_put_15 t_534 t_536 sp_Mod_fail cd_Mod_fail nm_Mod_fail rfl (by rfl) (by first | assumption | exact Rh_0 _ _ _ | exact Rh_1 _ _ _ | exact Rh_2 _ _ _ | exact Rh_3 _ _ _ | exact Rh_4 _ _ _ | exact Rh_5 _ _ _ | exact Rh_6 _ _ _ | exact Rh_7 _ _ _ | exact Rh_8 _ _ _ | exact Rh_9 _ _ _ | exact Rh_10 _ _ _ | exact Rh_11 _ _ _ | exact Rh_12 _ _ _) rfl (Nat.le_of_ble_eq_true rfl) rfl (m_fail (d := d - 1) (nI 1)) (by first | decide | omega) (Nat.le_of_ble_eq_true rfl) rfl (fun v hh hq => ?_) (fun q g hq => by cases hq.1)
      obtain ⟨e1, e2⟩ := hq
      cases e1
      rw [← e2]
      show Go K M_Mod_put d 18 _ [_] _ _
      refine go_if_le (tgt := 25) (pc' := 21) d_Mod_put_18 (by decide) rfl (fun hc => ?_) (fun hc => ?_)
      · refine go_iconst (pc' := 26) (v := (nI 0)) d_Mod_put_25 (by decide) rfl ?_
        refine go_ireturn d_Mod_put_26 rfl (by rfl) ?_
        unfold p_Put
        rw [hp]
        exact ⟨_, rfl, hR1, rfl, rfl⟩
      · exact absurd hc (by decide)
  | some i =>
    obtain ⟨rfl, hi, hth⟩ := p_map_inv hp
    have hL := hR1.2.2.2.2.1 i hi
    have hK := hR1.2.2.2.2.2.2.2.2.2.2.2.2.2 i hi
    refine go_if_eq (tgt := 27) (pc' := 13) d_Mod_put_10 (by decide) rfl (fun hc => ?_) (fun hc => ?_)
    · refine go_aload_n (pc' := 28) (i := 0) d_Mod_put_27 rfl rfl (by first | rfl | exact x_r_rf _) rfl ?_
      refine go_getfield (pc' := 31) d_Mod_put_28 c_Mod 3 (by decide) t_474 (by first | assumption | exact Rh_0 _ _ _ | exact Rh_1 _ _ _ | exact Rh_2 _ _ _ | exact Rh_3 _ _ _ | exact Rh_4 _ _ _ | exact Rh_5 _ _ _ | exact Rh_6 _ _ _ | exact Rh_7 _ _ _ | exact Rh_8 _ _ _ | exact Rh_9 _ _ _ | exact Rh_10 _ _ _ | exact Rh_11 _ _ _ | exact Rh_12 _ _ _) (by rfl) rfl ?_
      refine go_iload_n (pc' := 32) (i := 1) d_Mod_put_31 rfl rfl rfl ?_
      refine go_zaldN (pc' := 33) d_Mod_put_32 (by first | assumption | exact Rh_0 _ _ _ | exact Rh_1 _ _ _ | exact Rh_2 _ _ _ | exact Rh_3 _ _ _ | exact Rh_4 _ _ _ | exact Rh_5 _ _ _ | exact Rh_6 _ _ _ | exact Rh_7 _ _ _ | exact Rh_8 _ _ _ | exact Rh_9 _ _ _ | exact Rh_10 _ _ _ | exact Rh_11 _ _ _ | exact Rh_12 _ _ _) (by rfl) (by first | assumption | omega | (simp only [x_up, x_nw]; omega)) (by first | assumption | omega | (simp only [x_up, x_nw]; omega)) rfl ?_
      rw [hR1.2.2.1 i hi]
      refine go_if_eq (tgt := 50) (pc' := 36) d_Mod_put_33 (by decide) rfl (fun hc => ?_) (fun hc => ?_)
      · have hro := hc
        refine go_aload_n (pc' := 51) (i := 0) d_Mod_put_50 rfl rfl (by first | rfl | exact x_r_rf _) rfl ?_
        refine go_iload_n (pc' := 52) (i := 1) d_Mod_put_51 rfl rfl rfl ?_
        refine go_iload_n (pc' := 53) (i := 2) d_Mod_put_52 rfl rfl rfl ?_
        refine go_callV (pc' := 56) (M' := M_Mod_find) (ci := 6) (r := (n_Mod, T_Mod, 16)) [_, _] d_Mod_put_53 t_538 t_540 sp_Mod_find cd_Mod_find nm_Mod_find rfl (by rfl) (by first | assumption | exact Rh_0 _ _ _ | exact Rh_1 _ _ _ | exact Rh_2 _ _ _ | exact Rh_3 _ _ _ | exact Rh_4 _ _ _ | exact Rh_5 _ _ _ | exact Rh_6 _ _ _ | exact Rh_7 _ _ _ | exact Rh_8 _ _ _ | exact Rh_9 _ _ _ | exact Rh_10 _ _ _ | exact Rh_11 _ _ _ | exact Rh_12 _ _ _) rfl (Nat.le_of_ble_eq_true rfl) rfl (m_find (d := d - 1) hL hi key) (by first | decide | omega) (Nat.le_of_ble_eq_true rfl) rfl (fun v hh hq => ?_) (fun q g hq => hq.elim)
        obtain ⟨e2, hq⟩ := hq
        rw [← e2]
        -- copies become 0
        have hR2 := hR1.nc
        obtain ⟨ρ2, hρ2⟩ : ∃ ρ2, ρ2 = ru_lc ρ1 (nI 0) := ⟨_, rfl⟩
        rw [← hρ2] at hR2
        have htw2 : r_tw ρ2 = nI 0 := by rw [hρ2]; exact htw
        rcases hq with ⟨hno, rfl⟩ | ⟨j, y, hy, hk, rfl⟩
        · show Go K M_Mod_put d 56 _ [_] _ _
          have fl : p_Put σ (nI i) key v = (σ, .inr 13) → Go K M_Mod_put d 89 [some (.ref m), some (.int (nI i)), some (.int key), some (.long v), none, some (.int (-1))] [] (Rh g m ρ1) (Qm g m (p_Put σ (nI i) key v) c_put (.int (nI 0))) := by
            intro hpp
            refine go_aload_n (pc' := 90) (i := 0) d_Mod_put_89 rfl rfl (by first | rfl | exact x_r_rf _) rfl ?_
            refine go_iconst (pc' := 91) (v := (nI 3)) d_Mod_put_90 (by decide) rfl ?_
            refine go_callV (pc' := 94) (M' := M_Mod_fail) (ci := 6) (r := (n_Mod, T_Mod, 16)) [_] d_Mod_put_91 t_534 t_536 sp_Mod_fail cd_Mod_fail nm_Mod_fail rfl (by rfl) (by first | assumption | exact Rh_0 _ _ _ | exact Rh_1 _ _ _ | exact Rh_2 _ _ _ | exact Rh_3 _ _ _ | exact Rh_4 _ _ _ | exact Rh_5 _ _ _ | exact Rh_6 _ _ _ | exact Rh_7 _ _ _ | exact Rh_8 _ _ _ | exact Rh_9 _ _ _ | exact Rh_10 _ _ _ | exact Rh_11 _ _ _ | exact Rh_12 _ _ _) rfl (Nat.le_of_ble_eq_true rfl) rfl (m_fail (d := d - 1) (nI 3)) (by first | decide | omega) (Nat.le_of_ble_eq_true rfl) rfl (fun v hh hq => ?_) (fun q g hq => by cases hq.1)
            obtain ⟨e1, e2⟩ := hq
            cases e1
            rw [← e2]
            show Go K M_Mod_put d 94 _ [_] _ _
            refine go_if_le (tgt := 101) (pc' := 97) d_Mod_put_94 (by decide) rfl (fun hc => ?_) (fun hc => ?_)
            · refine go_iconst (pc' := 102) (v := (nI 0)) d_Mod_put_101 (by decide) rfl ?_
              refine go_ireturn d_Mod_put_102 rfl (by rfl) ?_
              rw [hpp]
              exact ⟨_, rfl, hR1, rfl, rfl⟩
            · exact absurd hc (by decide)
          have ok : (s_ks σ i).length < 60 ∧ (q_f (s_ks σ i) 4 (q_p 4 key)).length < 6 → Go K M_Mod_put d 103 [some (.ref m), some (.int (nI i)), some (.int key), some (.long v), none, some (.int (-1))] [] (Rh g m ρ1) (Qm g m (p_Put σ (nI i) key v) c_put (.int (nI 0))) := by
            intro hroom
            have hpp : p_Put σ (nI i) key v = (p_put σ i key v, .inl (some (.int 1))) := by
              unfold p_Put
              rw [hp]
              simp only [hro, hno, if_pos hroom]
              rfl
            refine go_aload_n (pc' := 104) (i := 0) d_Mod_put_103 rfl rfl (by first | rfl | exact x_r_rf _) rfl ?_
            refine go_iconst (pc' := 105) (v := (nI 0)) d_Mod_put_104 (by decide) rfl ?_
            refine go_putfield (pc' := 108) d_Mod_put_105 c_Mod 9 (by decide) rfl t_480 (by first | assumption | exact Rh_0 _ _ _ | exact Rh_1 _ _ _ | exact Rh_2 _ _ _ | exact Rh_3 _ _ _ | exact Rh_4 _ _ _ | exact Rh_5 _ _ _ | exact Rh_6 _ _ _ | exact Rh_7 _ _ _ | exact Rh_8 _ _ _ | exact Rh_9 _ _ _ | exact Rh_10 _ _ _ | exact Rh_11 _ _ _ | exact Rh_12 _ _ _) (by rfl) (by rfl) (by first | exact Nat.le_of_ble_eq_true rfl | simp) rfl ?_
            rw [Rh_ulc, ← hρ2]
            refine go_iload (pc' := 110) (i := 5) d_Mod_put_108 rfl rfl ?_
            refine go_if_ge (tgt := 123) (pc' := 113) d_Mod_put_110 (by decide) rfl (fun hc => ?_) (fun hc => ?_)
            · exact absurd hc (by decide)
            · refine go_aload_n (pc' := 114) (i := 0) d_Mod_put_113 rfl rfl (by first | rfl | exact x_r_rf _) rfl ?_
              refine go_iload_n (pc' := 115) (i := 1) d_Mod_put_114 rfl rfl rfl ?_
              refine go_iload_n (pc' := 116) (i := 2) d_Mod_put_115 rfl rfl rfl ?_
              refine go_lload_n (pc' := 117) (i := 3) d_Mod_put_116 rfl rfl rfl ?_
              refine go_callV (pc' := 120) (M' := M_Mod_add) (ci := 6) (r := (n_Mod, T_Mod, 16)) [_, _, _] d_Mod_put_117 t_550 t_552 sp_Mod_add cd_Mod_add nm_Mod_add rfl (by rfl) (by first | assumption | exact Rh_0 _ _ _ | exact Rh_1 _ _ _ | exact Rh_2 _ _ _ | exact Rh_3 _ _ _ | exact Rh_4 _ _ _ | exact Rh_5 _ _ _ | exact Rh_6 _ _ _ | exact Rh_7 _ _ _ | exact Rh_8 _ _ _ | exact Rh_9 _ _ _ | exact Rh_10 _ _ _ | exact Rh_11 _ _ _ | exact Rh_12 _ _ _) rfl (Nat.le_of_ble_eq_true rfl) rfl (m_add (d := d - 1) (σ := p_nc σ) hR2 hi rfl key v hno hroom (by omega)) (by first | decide | omega) (Nat.le_of_ble_eq_true rfl) rfl (fun v hh hq => ?_) (fun q g hq => hq.elim)
              obtain ⟨rfl, ρ3, rfl, hR3, htw3⟩ := hq
              show Go K M_Mod_put d 120 _ [] _ _
              refine go_goto (tgt := 140) d_Mod_put_120 (by decide) ?_
              refine go_iload (pc' := 142) (i := 5) d_Mod_put_140 rfl rfl ?_
              refine go_if_ge (tgt := 149) (pc' := 145) d_Mod_put_142 (by decide) rfl (fun hc => ?_) (fun hc => ?_)
              · exact absurd hc (by decide)
              · refine go_iconst (pc' := 146) (v := (nI 1)) d_Mod_put_145 (by decide) rfl ?_
                refine go_goto (tgt := 150) d_Mod_put_146 (by decide) ?_
                refine go_ireturn d_Mod_put_150 rfl (by rfl) ?_
                rw [hpp]
                exact ⟨_, rfl, hR3, htw3.trans htw2, rfl⟩
          refine go_istore (pc' := 58) (i := 5) d_Mod_put_56 (by decide) (x_s5 (by first | rfl | exact x_k_rf _)) rfl ?_
          refine go_iload (pc' := 60) (i := 5) d_Mod_put_58 rfl rfl ?_
          refine go_if_ge (tgt := 103) (pc' := 63) d_Mod_put_60 (by decide) rfl (fun hc => ?_) (fun hc => ?_)
          · exact absurd hc (by decide)
          · refine go_aload_n (pc' := 64) (i := 0) d_Mod_put_63 rfl rfl (by first | rfl | exact x_r_rf _) rfl ?_
            refine go_getfield (pc' := 67) d_Mod_put_64 c_Mod 5 (by decide) t_476 (by first | assumption | exact Rh_0 _ _ _ | exact Rh_1 _ _ _ | exact Rh_2 _ _ _ | exact Rh_3 _ _ _ | exact Rh_4 _ _ _ | exact Rh_5 _ _ _ | exact Rh_6 _ _ _ | exact Rh_7 _ _ _ | exact Rh_8 _ _ _ | exact Rh_9 _ _ _ | exact Rh_10 _ _ _ | exact Rh_11 _ _ _ | exact Rh_12 _ _ _) (by rfl) rfl ?_
            refine go_iload_n (pc' := 68) (i := 1) d_Mod_put_67 rfl rfl rfl ?_
            refine go_ialdN (pc' := 69) d_Mod_put_68 (by first | assumption | exact Rh_0 _ _ _ | exact Rh_1 _ _ _ | exact Rh_2 _ _ _ | exact Rh_3 _ _ _ | exact Rh_4 _ _ _ | exact Rh_5 _ _ _ | exact Rh_6 _ _ _ | exact Rh_7 _ _ _ | exact Rh_8 _ _ _ | exact Rh_9 _ _ _ | exact Rh_10 _ _ _ | exact Rh_11 _ _ _ | exact Rh_12 _ _ _) (by rfl) (by first | assumption | omega | (simp only [x_up, x_nw]; omega)) (by first | assumption | omega | (simp only [x_up, x_nw]; omega)) rfl ?_
            refine go_bipush (pc' := 71) (v := (nI 60)) d_Mod_put_69 (by decide) rfl ?_
            rw [hL.1]
            have h60 := hL.2.1
            refine go_icmp_eqN (tgt := 89) (pc' := 74) d_Mod_put_71 (by decide) rfl (by omega) (by omega) (fun hc => ?_) (fun hc => ?_)
            · refine fl ?_
              unfold p_Put
              rw [hp]
              simp only [hro, hno, not_true_eq_false, if_false, Option.isSome_none, Bool.false_eq_true]
              rw [if_neg (fun z => by omega)]
            · refine go_aload_n (pc' := 75) (i := 0) d_Mod_put_74 rfl rfl (by first | rfl | exact x_r_rf _) rfl ?_
              refine go_iload_n (pc' := 76) (i := 1) d_Mod_put_75 rfl rfl rfl ?_
              refine go_iload_n (pc' := 77) (i := 2) d_Mod_put_76 rfl rfl rfl ?_
              refine go_callS (pc' := 80) (M' := M_Mod_hash) [_] d_Mod_put_77 t_542 t_543 t_4 cd_Mod_hash nm_Mod_hash rfl rfl (Nat.le_of_ble_eq_true rfl) rfl (m_hash (d := d - 1) key) (by first | decide | omega) (Nat.le_of_ble_eq_true rfl) rfl (fun v hh hq => ?_) (fun q g hq => by cases hq.1)
              obtain ⟨e1, e2⟩ := hq
              cases e1
              rw [← e2]
              show Go K M_Mod_put d 80 _ [.int (nI (q_h key)), _, _] _ _
              refine go_iconst (pc' := 81) (v := (nI 4)) d_Mod_put_80 (by decide) rfl ?_
              refine go_callV (pc' := 84) (M' := M_Mod_sharing) (ci := 6) (r := (n_Mod, T_Mod, 16)) [_, _, _] d_Mod_put_81 t_546 t_548 sp_Mod_sharing cd_Mod_sharing nm_Mod_sharing rfl (by rfl) (by first | assumption | exact Rh_0 _ _ _ | exact Rh_1 _ _ _ | exact Rh_2 _ _ _ | exact Rh_3 _ _ _ | exact Rh_4 _ _ _ | exact Rh_5 _ _ _ | exact Rh_6 _ _ _ | exact Rh_7 _ _ _ | exact Rh_8 _ _ _ | exact Rh_9 _ _ _ | exact Rh_10 _ _ _ | exact Rh_11 _ _ _ | exact Rh_12 _ _ _) rfl (Nat.le_of_ble_eq_true rfl) rfl (m_sharing (d := d - 1) hL hi (q_h_lt key) (l := 4) (by omega) (by omega)) (by first | decide | omega) (Nat.le_of_ble_eq_true rfl) rfl (fun v hh hq => ?_) (fun q g hq => by cases hq.1)
              obtain ⟨e1, e2⟩ := hq
              cases e1
              rw [← e2, show q_h key / 4 ^ (4 - 4) = q_p 4 key from rfl]
              show Go K M_Mod_put d 84 _ [_] _ _
              have hle6 := hK.2.2 (q_p 4 key)
              refine go_bipush (pc' := 86) (v := (nI 6)) d_Mod_put_84 (by decide) rfl ?_
              refine go_icmp_neN (tgt := 103) (pc' := 89) d_Mod_put_86 (by decide) rfl (by omega) (by omega) (fun hc => ?_) (fun hc => ?_)
              · exact ok ⟨by omega, by omega⟩
              · refine fl ?_
                unfold p_Put
                rw [hp]
                simp only [hro, hno, not_true_eq_false, if_false, Option.isSome_none, Bool.false_eq_true]
                rw [if_neg (fun z => by omega)]
        · have hj := (List.getElem?_eq_some_iff.mp hy).1
          have h60 := hL.2.1
          have hget := Ls.get hK hy hk
          have hpp : p_Put σ (nI i) key v = (p_put σ i key v, .inl (some (.int 0))) := by
            unfold p_Put
            rw [hp]
            simp only [hro, hget]
            rfl
          show Go K M_Mod_put d 56 _ [_] _ _
          refine go_istore (pc' := 58) (i := 5) d_Mod_put_56 (by decide) (x_s5 (by first | rfl | exact x_k_rf _)) rfl ?_
          refine go_iload (pc' := 60) (i := 5) d_Mod_put_58 rfl rfl ?_
          refine go_if_ge (tgt := 103) (pc' := 63) d_Mod_put_60 (by decide) rfl (fun hc => ?_) (fun hc => ?_)
          · refine go_aload_n (pc' := 104) (i := 0) d_Mod_put_103 rfl rfl (by first | rfl | exact x_r_rf _) rfl ?_
            refine go_iconst (pc' := 105) (v := (nI 0)) d_Mod_put_104 (by decide) rfl ?_
            refine go_putfield (pc' := 108) d_Mod_put_105 c_Mod 9 (by decide) rfl t_480 (by first | assumption | exact Rh_0 _ _ _ | exact Rh_1 _ _ _ | exact Rh_2 _ _ _ | exact Rh_3 _ _ _ | exact Rh_4 _ _ _ | exact Rh_5 _ _ _ | exact Rh_6 _ _ _ | exact Rh_7 _ _ _ | exact Rh_8 _ _ _ | exact Rh_9 _ _ _ | exact Rh_10 _ _ _ | exact Rh_11 _ _ _ | exact Rh_12 _ _ _) (by rfl) (by rfl) (by first | exact Nat.le_of_ble_eq_true rfl | simp) rfl ?_
            rw [Rh_ulc, ← hρ2]
            refine go_iload (pc' := 110) (i := 5) d_Mod_put_108 rfl rfl ?_
            refine go_if_ge (tgt := 123) (pc' := 113) d_Mod_put_110 (by decide) rfl (fun hc => ?_) (fun hc => ?_)
            · refine go_aload_n (pc' := 124) (i := 0) d_Mod_put_123 rfl rfl (by first | rfl | exact x_r_rf _) rfl ?_
              refine go_iload_n (pc' := 125) (i := 1) d_Mod_put_124 rfl rfl rfl ?_
              refine go_iload_n (pc' := 126) (i := 2) d_Mod_put_125 rfl rfl rfl ?_
              refine go_callS (pc' := 129) (M' := M_Mod_hash) [_] d_Mod_put_126 t_542 t_543 t_4 cd_Mod_hash nm_Mod_hash rfl rfl (Nat.le_of_ble_eq_true rfl) rfl (m_hash (d := d - 1) key) (by first | decide | omega) (Nat.le_of_ble_eq_true rfl) rfl (fun v hh hq => ?_) (fun q g hq => by cases hq.1)
              obtain ⟨e1, e2⟩ := hq
              cases e1
              rw [← e2]
              show Go K M_Mod_put d 129 _ [.int (nI (q_h key)), _, _] _ _
              have hb11 := hR2.2.2.2.2.2.2.2.2.2.2.1
              have hg12 := hR2.2.2.2.2.2.2.2.2.2.2.2.1
              have hl13 := hR2.2.2.2.2.2.2.2.2.2.2.2.2.1
              refine go_callV (pc' := 132) (M' := M_Mod_write) (ci := 6) (r := (n_Mod, T_Mod, 16)) [_, _] d_Mod_put_129 t_554 t_556 sp_Mod_write cd_Mod_write nm_Mod_write rfl (by rfl) (by first | assumption | exact Rh_0 _ _ _ | exact Rh_1 _ _ _ | exact Rh_2 _ _ _ | exact Rh_3 _ _ _ | exact Rh_4 _ _ _ | exact Rh_5 _ _ _ | exact Rh_6 _ _ _ | exact Rh_7 _ _ _ | exact Rh_8 _ _ _ | exact Rh_9 _ _ _ | exact Rh_10 _ _ _ | exact Rh_11 _ _ _ | exact Rh_12 _ _ _) rfl (Nat.le_of_ble_eq_true rfl) rfl (m_write (d := d - 1) (c0 := 0) (hR2.2.2.2.2.1 i hi) hi (hR2.2.2.2.2.2.1 i hi) (fun l p => by have := hb11 i l p hi; omega) (hR2.2.2.2.1 i hi) (by have := hg12 i hi; omega) hR2.2.2.2.2.2.2.1 key (by omega)) (by first | decide | omega) (Nat.le_of_ble_eq_true rfl) rfl (fun v h5 hq => ?_) (fun q g hq => hq.elim)
              obtain ⟨rfl, B1, rfl, hB1, hF1⟩ := hq
              show Go K M_Mod_put d 132 _ [] _ _
              refine go_aload_n (pc' := 133) (i := 0) d_Mod_put_132 rfl rfl (by first | rfl | exact x_r_rf _) rfl ?_
              refine go_getfield (pc' := 136) d_Mod_put_133 c_Mod 7 (by decide) t_478 (by first | assumption | exact Rh_0 _ _ _ | exact Rh_1 _ _ _ | exact Rh_2 _ _ _ | exact Rh_3 _ _ _ | exact Rh_4 _ _ _ | exact Rh_5 _ _ _ | exact Rh_6 _ _ _ | exact Rh_7 _ _ _ | exact Rh_8 _ _ _ | exact Rh_9 _ _ _ | exact Rh_10 _ _ _ | exact Rh_11 _ _ _ | exact Rh_12 _ _ _) (by rfl) rfl ?_
              refine go_iload (pc' := 138) (i := 5) d_Mod_put_136 rfl rfl ?_
              refine go_lload_n (pc' := 139) (i := 3) d_Mod_put_138 rfl rfl rfl ?_
              refine go_lastN (pc' := 140) d_Mod_put_139 (by first | assumption | exact Rh_0 _ _ _ | exact Rh_1 _ _ _ | exact Rh_2 _ _ _ | exact Rh_3 _ _ _ | exact Rh_4 _ _ _ | exact Rh_5 _ _ _ | exact Rh_6 _ _ _ | exact Rh_7 _ _ _ | exact Rh_8 _ _ _ | exact Rh_9 _ _ _ | exact Rh_10 _ _ _ | exact Rh_11 _ _ _ | exact Rh_12 _ _ _) (by rfl) (by first | assumption | omega | (simp only [x_up, x_nw]; omega)) (by first | assumption | omega | (simp only [x_up, x_nw]; omega)) rfl ?_
              rw [Rh_uV, Nat.zero_add]
              refine go_iload (pc' := 142) (i := 5) d_Mod_put_140 rfl rfl ?_
              refine go_if_ge (tgt := 149) (pc' := 145) d_Mod_put_142 (by decide) rfl (fun hc => ?_) (fun hc => ?_)
              · refine go_iconst (pc' := 150) (v := (nI 0)) d_Mod_put_149 (by decide) rfl ?_
                refine go_ireturn d_Mod_put_150 rfl (by rfl) ?_
                rw [hpp]
                exact ⟨_, rfl, Rr.set (σ := p_nc σ) hR2 hi hy hk hB1 hF1 rfl, htw2, rfl⟩
              · exact absurd (nI_0le (by omega)) hc
            · exact absurd (nI_0le (by omega)) hc
          · exact absurd (nI_0le (by omega)) hc
      · have hro := hc
        refine go_aload_n (pc' := 37) (i := 0) d_Mod_put_36 rfl rfl (by first | rfl | exact x_r_rf _) rfl ?_
        refine go_iconst (pc' := 38) (v := (nI 2)) d_Mod_put_37 (by decide) rfl ?_
        refine go_callV (pc' := 41) (M' := M_Mod_fail) (ci := 6) (r := (n_Mod, T_Mod, 16)) [_] d_Mod_put_38 t_534 t_536 sp_Mod_fail cd_Mod_fail nm_Mod_fail rfl (by rfl) (by first | assumption | exact Rh_0 _ _ _ | exact Rh_1 _ _ _ | exact Rh_2 _ _ _ | exact Rh_3 _ _ _ | exact Rh_4 _ _ _ | exact Rh_5 _ _ _ | exact Rh_6 _ _ _ | exact Rh_7 _ _ _ | exact Rh_8 _ _ _ | exact Rh_9 _ _ _ | exact Rh_10 _ _ _ | exact Rh_11 _ _ _ | exact Rh_12 _ _ _) rfl (Nat.le_of_ble_eq_true rfl) rfl (m_fail (d := d - 1) (nI 2)) (by first | decide | omega) (Nat.le_of_ble_eq_true rfl) rfl (fun v hh hq => ?_) (fun q g hq => by cases hq.1)
        obtain ⟨e1, e2⟩ := hq
        cases e1
        rw [← e2]
        show Go K M_Mod_put d 41 _ [_] _ _
        refine go_if_le (tgt := 48) (pc' := 44) d_Mod_put_41 (by decide) rfl (fun hc => ?_) (fun hc => ?_)
        · refine go_iconst (pc' := 49) (v := (nI 0)) d_Mod_put_48 (by decide) rfl ?_
          refine go_ireturn d_Mod_put_49 rfl (by rfl) ?_
          unfold p_Put
          rw [hp]
          simp only [if_pos hro]
          exact ⟨_, rfl, hR1, rfl, rfl⟩
        · exact absurd hc (by decide)
    · exact absurd rfl hc
end RG2
