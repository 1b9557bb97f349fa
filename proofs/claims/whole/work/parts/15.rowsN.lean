section XN
variable {K : x_K} {M M' : x_M} {d d' pc pc' : Nat} {lv lv' lv0 : List (Option Value)} {st : List Value} {h : x_H} {Q Q' : x_O → x_H → Prop} {a : Nat}
theorem x_mul (a b : Nat) : nI a * nI b = nI (a * b) := (Int32.ofNat_mul a b).symm
theorem x_sub {a b : Nat} (h : b ≤ a) : nI a - nI b = nI (a - b) := by
  have : nI a = nI (a - b) + nI b := by rw [nI_add, Nat.sub_add_cancel h]
  rw [this, Int32.add_sub_cancel]
theorem x_i1 (a : Nat) : nI a + Int32.ofInt 1 = nI (a + 1) := nI_1 a
theorem x_im {a : Nat} (h : 1 ≤ a) : nI a + Int32.ofInt (-1) = nI (a - 1) := by
  have e : Int32.ofInt (-1) = -(nI 1) := by decide
  rw [← x_sub h, e, Int32.sub_eq_add_neg]
/-- a method that returns v and leaves the heap as it is -/
def x_is (v : Option Value) (h : x_H) : x_O → x_H → Prop := fun o g => o = .inl v ∧ h = g
/-- a method that returns -/
def x_rt (P : Option Value → x_H → Prop) : x_O → x_H → Prop := fun o g => match o with
  | .inl v => P v g
  | .inr _ => False
/-- a method that returns or throws -/
def x_rx (P : Option Value → x_H → Prop) (E : Nat × Nat → x_H → Prop) : x_O → x_H → Prop := fun o g => match o with
  | .inl v => P v g
  | .inr q => E q g
theorem go_icmp_ltN {a b : Nat} {off : Int} {tgt : Nat} (hd : decode M.2.1 pc = .ok (.if_icmp .lt off, 3)) (ht : (pc : Int) + off = (tgt : Int)) (hp : pc + 3 = pc') (ha : a < 2 ^ 31) (hb : b < 2 ^ 31) (kt : a < b → Go K M d tgt lv st h Q) (kf : b ≤ a → Go K M d pc' lv st h Q) : Go K M d pc lv (.int (nI b) :: .int (nI a) :: st) h Q :=
  go_icmp_lt hd ht hp (fun q => kt ((nI_ltI ha hb).mp q)) (fun q => kf (Nat.not_lt.mp fun z => q ((nI_ltI ha hb).mpr z)))
theorem go_icmp_geN {a b : Nat} {off : Int} {tgt : Nat} (hd : decode M.2.1 pc = .ok (.if_icmp .ge off, 3)) (ht : (pc : Int) + off = (tgt : Int)) (hp : pc + 3 = pc') (ha : a < 2 ^ 31) (hb : b < 2 ^ 31) (kt : b ≤ a → Go K M d tgt lv st h Q) (kf : a < b → Go K M d pc' lv st h Q) : Go K M d pc lv (.int (nI b) :: .int (nI a) :: st) h Q :=
  go_icmp_ge hd ht hp (fun q => kt ((nI_leI hb ha).mp q)) (fun q => kf (Nat.not_le.mp fun z => q ((nI_leI hb ha).mpr z)))
theorem go_icmp_gtN {a b : Nat} {off : Int} {tgt : Nat} (hd : decode M.2.1 pc = .ok (.if_icmp .gt off, 3)) (ht : (pc : Int) + off = (tgt : Int)) (hp : pc + 3 = pc') (ha : a < 2 ^ 31) (hb : b < 2 ^ 31) (kt : b < a → Go K M d tgt lv st h Q) (kf : a ≤ b → Go K M d pc' lv st h Q) : Go K M d pc lv (.int (nI b) :: .int (nI a) :: st) h Q :=
  go_icmp_gt hd ht hp (fun q => kt ((nI_ltI hb ha).mp q)) (fun q => kf (Nat.not_lt.mp fun z => q ((nI_ltI hb ha).mpr z)))
theorem go_icmp_leN {a b : Nat} {off : Int} {tgt : Nat} (hd : decode M.2.1 pc = .ok (.if_icmp .le off, 3)) (ht : (pc : Int) + off = (tgt : Int)) (hp : pc + 3 = pc') (ha : a < 2 ^ 31) (hb : b < 2 ^ 31) (kt : a ≤ b → Go K M d tgt lv st h Q) (kf : b < a → Go K M d pc' lv st h Q) : Go K M d pc lv (.int (nI b) :: .int (nI a) :: st) h Q :=
  go_icmp_le hd ht hp (fun q => kt ((nI_leI ha hb).mp q)) (fun q => kf (Nat.not_le.mp fun z => q ((nI_leI ha hb).mpr z)))
theorem go_icmp_eqN {a b : Nat} {off : Int} {tgt : Nat} (hd : decode M.2.1 pc = .ok (.if_icmp .eq off, 3)) (ht : (pc : Int) + off = (tgt : Int)) (hp : pc + 3 = pc') (ha : a < 2 ^ 31) (hb : b < 2 ^ 31) (kt : a = b → Go K M d tgt lv st h Q) (kf : ¬ a = b → Go K M d pc' lv st h Q) : Go K M d pc lv (.int (nI b) :: .int (nI a) :: st) h Q :=
  go_icmp_eq hd ht hp (fun q => kt ((nI_eq ha hb).mp q)) (fun q => kf (fun z => q ((nI_eq ha hb).mpr z)))
theorem go_icmp_neN {a b : Nat} {off : Int} {tgt : Nat} (hd : decode M.2.1 pc = .ok (.if_icmp .ne off, 3)) (ht : (pc : Int) + off = (tgt : Int)) (hp : pc + 3 = pc') (ha : a < 2 ^ 31) (hb : b < 2 ^ 31) (kt : ¬ a = b → Go K M d tgt lv st h Q) (kf : a = b → Go K M d pc' lv st h Q) : Go K M d pc lv (.int (nI b) :: .int (nI a) :: st) h Q :=
  go_icmp_ne hd ht hp (fun q => kt (fun z => q ((nI_eq ha hb).mpr z))) (fun q => kf ((nI_eq ha hb).mp q))
theorem go_ialdN {kd n j : Nat} {f : Nat → Int32} (hd : decode M.2.1 pc = .ok (.iaload, 1)) (hf : h.2.2 a = some (.inl (kd, n, .inl f))) (hk : x_ty kd = some .int) (hj : j < n) (hn : n < 2 ^ 31) (hp : pc + 1 = pc') (k : Go K M d pc' lv (.int (f j) :: st) h Q) : Go K M d pc lv (.int (nI j) :: .ref a :: st) h Q :=
  go_iald hd hf hk (vp_in_nI hj hn) (by rw [nI_clamp (by omega)]) hp k
theorem go_zaldN {kd n j : Nat} {f : Nat → Int32} (hd : decode M.2.1 pc = .ok (.baload, 1)) (hf : h.2.2 a = some (.inl (kd, n, .inl f))) (hk : x_ty kd = some .boolean) (hj : j < n) (hn : n < 2 ^ 31) (hp : pc + 1 = pc') (k : Go K M d pc' lv (.int (f j) :: st) h Q) : Go K M d pc lv (.int (nI j) :: .ref a :: st) h Q :=
  go_zald hd hf hk (vp_in_nI hj hn) (by rw [nI_clamp (by omega)]) hp k
theorem go_laldN {kd n j : Nat} {f : Nat → Int64} (hd : decode M.2.1 pc = .ok (.laload, 1)) (hf : h.2.2 a = some (.inl (kd, n, .inr (.inl f)))) (hk : x_ty kd = some .long) (hj : j < n) (hn : n < 2 ^ 31) (hp : pc + 1 = pc') (k : Go K M d pc' lv (.long (f j) :: st) h Q) : Go K M d pc lv (.int (nI j) :: .ref a :: st) h Q :=
  go_lald hd hf hk (vp_in_nI hj hn) (by rw [nI_clamp (by omega)]) hp k
theorem go_aaldN {kd n j : Nat} {E : String} {f : Nat → Option Nat} (hd : decode M.2.1 pc = .ok (.aaload, 1)) (hf : h.2.2 a = some (.inl (kd, n, .inr (.inr (.inr (.inr f)))))) (hk : x_ty kd = some (.object E)) (hj : j < n) (hn : n < 2 ^ 31) (hp : pc + 1 = pc') (k : Go K M d pc' lv (va_rf (f j) :: st) h Q) : Go K M d pc lv (.int (nI j) :: .ref a :: st) h Q :=
  go_aald hd hf hk (vp_in_nI hj hn) (by rw [nI_clamp (by omega)]) hp k
theorem go_iastN {kd n j : Nat} {f : Nat → Int32} {x : Int32} (hd : decode M.2.1 pc = .ok (.iastore, 1)) (hf : h.2.2 a = some (.inl (kd, n, .inl f))) (hk : x_ty kd = some .int) (hj : j < n) (hn : n < 2 ^ 31) (hp : pc + 1 = pc') (k : Go K M d pc' lv st (x_up h a (.inl (kd, n, .inl (va_up f j x)))) Q) : Go K M d pc lv (.int x :: .int (nI j) :: .ref a :: st) h Q :=
  go_iast hd hf hk (vp_in_nI hj hn) hp (by rw [nI_clamp (by omega)]; exact k)
theorem go_lastN {kd n j : Nat} {f : Nat → Int64} {x : Int64} (hd : decode M.2.1 pc = .ok (.lastore, 1)) (hf : h.2.2 a = some (.inl (kd, n, .inr (.inl f)))) (hk : x_ty kd = some .long) (hj : j < n) (hn : n < 2 ^ 31) (hp : pc + 1 = pc') (k : Go K M d pc' lv st (x_up h a (.inl (kd, n, .inr (.inl (va_up f j x))))) Q) : Go K M d pc lv (.long x :: .int (nI j) :: .ref a :: st) h Q :=
  go_last hd hf hk (vp_in_nI hj hn) hp (by rw [nI_clamp (by omega)]; exact k)
theorem go_zastN {kd n j : Nat} {f : Nat → Int32} {x : Int32} (hd : decode M.2.1 pc = .ok (.bastore, 1)) (hf : h.2.2 a = some (.inl (kd, n, .inl f))) (hk : x_ty kd = some .boolean) (hj : j < n) (hn : n < 2 ^ 31) (hx : vp_nar .boolean x = x) (hp : pc + 1 = pc') (k : Go K M d pc' lv st (x_up h a (.inl (kd, n, .inl (va_up f j x)))) Q) : Go K M d pc lv (.int x :: .int (nI j) :: .ref a :: st) h Q :=
  go_zast hd hf hk (vp_in_nI hj hn) hp (by rw [nI_clamp (by omega), hx]; exact k)
theorem go_aastN' {kd n j : Nat} {E : String} {f : Nat → Option Nat} (hd : decode M.2.1 pc = .ok (.aastore, 1)) (hf : h.2.2 a = some (.inl (kd, n, .inr (.inr (.inr (.inr f)))))) (hk : x_ty kd = some (.object E)) (hj : j < n) (hn : n < 2 ^ 31) (hp : pc + 1 = pc') (k : Go K M d pc' lv st (x_up h a (.inl (kd, n, .inr (.inr (.inr (.inr (va_up f j none))))))) Q) : Go K M d pc lv (.null :: .int (nI j) :: .ref a :: st) h Q :=
  go_aastN hd hf hk (vp_in_nI hj hn) hp (by rw [nI_clamp (by omega)]; exact k)
theorem go_aastR {kd n j b ci : Nat} {r : vw_C} {vs : List Value} {f : Nat → Option Nat} (hd : decode M.2.1 pc = .ok (.aastore, 1)) (hf : h.2.2 a = some (.inl (kd, n, .inr (.inr (.inr (.inr f)))))) (hv : h.2.2 b = some (.inr (ci, vs))) (hc : vwCl[ci]? = some r) (hk : x_ty kd = some (.object r.1)) (hj : j < n) (hn : n < 2 ^ 31) (hp : pc + 1 = pc') (k : Go K M d pc' lv st (x_up h a (.inl (kd, n, .inr (.inr (.inr (.inr (va_up f j (some b)))))))) Q) : Go K M d pc lv (.ref b :: .int (nI j) :: .ref a :: st) h Q :=
  go_aast hd hf hk hv hc (vp_in_nI hj hn) hp (by rw [nI_clamp (by omega)]; exact k)
theorem go_aastO' {kd n j ci : Nat} {o : Option Nat} {r : vw_C} {f : Nat → Option Nat} (hd : decode M.2.1 pc = .ok (.aastore, 1)) (hf : h.2.2 a = some (.inl (kd, n, .inr (.inr (.inr (.inr f)))))) (hv : ∀ b : Nat, o = some b → ∃ vs, h.2.2 b = some (.inr (ci, vs))) (hc : vwCl[ci]? = some r) (hk : x_ty kd = some (.object r.1)) (hj : j < n) (hn : n < 2 ^ 31) (hp : pc + 1 = pc') (k : Go K M d pc' lv st (x_up h a (.inl (kd, n, .inr (.inr (.inr (.inr (va_up f j o))))))) Q) : Go K M d pc lv (va_rf o :: .int (nI j) :: .ref a :: st) h Q :=
  go_aastO hd hf hk hv hc (vp_in_nI hj hn) hp (by rw [nI_clamp (by omega)]; exact k)
theorem go_alenN {kd n : Nat} {x : (Nat → Int32) ⊕ (Nat → Int64) ⊕ (Nat → UInt32) ⊕ (Nat → UInt64) ⊕ (Nat → Option Nat)} {t : FieldType} (hd : decode M.2.1 pc = .ok (.arraylength, 1)) (hf : h.2.2 a = some (.inl (kd, n, x))) (hk : x_ty kd = some t) (hp : pc + 1 = pc') (k : Go K M d pc' lv (.int (nI n) :: st) h Q) : Go K M d pc lv (.ref a :: st) h Q :=
  go_alen hd hf hk rfl hp k
theorem x_c_rf (o : Option Nat) : (va_rf o).category = 1 := by cases o <;> rfl
theorem x_up_self (h : x_H) (a : Nat) (c : x_C) : (x_up h a c).2.2 a = some c := va_up_self _ _ _
theorem x_up_ne {h : x_H} {a b : Nat} {c : x_C} (hne : b ≠ a) : (x_up h a c).2.2 b = h.2.2 b := va_up_ne _ _ hne
theorem x_nw_self (h : x_H) (n : Nat) (c : x_C) : (x_nw h n c).2.2 h.1 = some c := va_up_self _ _ _
theorem x_nw_ne {h : x_H} {n b : Nat} {c : x_C} (hne : b ≠ h.1) : (x_nw h n c).2.2 b = h.2.2 b := va_up_ne _ _ hne
theorem x_up_up (h : x_H) (a : Nat) (c c' : x_C) : x_up (x_up h a c) a c' = x_up h a c' := by
  unfold x_up
  simp only [Prod.mk.injEq, true_and]
  funext j
  by_cases hj : j = a <;> simp [va_up, hj]
/-- whatever is known of the heap lies below the next address -/
theorem go_dom (k : (∀ (a : Nat) (c : x_C), h.2.2 a = some c → a < h.1) → Go K M d pc lv st h Q) : Go K M d pc lv st h Q := fun R s m args below meth c H locs cells slots ls z0 q0 hF hx =>
  k (fun _ _ ha => hF.w.lt ha) R s m args below meth c H locs cells slots ls z0 q0 hF hx
/-- nothing has changed but at S, and behind the old cells -/
def Fr (S : Nat → Prop) (h g : x_H) : Prop := h.1 ≤ g.1 ∧ h.2.1 ≤ g.2.1 ∧ ∀ b : Nat, b < h.1 → ¬ S b → g.2.2 b = h.2.2 b
theorem Fr.rf (S : Nat → Prop) (h : x_H) : Fr S h h := ⟨Nat.le_refl _, Nat.le_refl _, fun _ _ _ => rfl⟩
theorem Fr.tr {S : Nat → Prop} {h g f : x_H} (h1 : Fr S h g) (h2 : Fr S g f) : Fr S h f := ⟨Nat.le_trans h1.1 h2.1, Nat.le_trans h1.2.1 h2.2.1, fun b hb hs => (h2.2.2 b (Nat.lt_of_lt_of_le hb h1.1) hs).trans (h1.2.2 b hb hs)⟩
theorem Fr.mono {S S' : Nat → Prop} {h g : x_H} (h1 : Fr S h g) (hs : ∀ b, b < h.1 → S b → S' b) : Fr S' h g := ⟨h1.1, h1.2.1, fun b hb hn => h1.2.2 b hb (fun z => hn (hs b hb z))⟩
theorem Fr.up {S : Nat → Prop} (h : x_H) {a : Nat} (c : x_C) (ha : a < h.1 → S a) : Fr S h (x_up h a c) := ⟨Nat.le_refl _, Nat.le_refl _, fun b hb hs => x_up_ne (fun e => hs (by rw [e] at hb ⊢; exact ha hb))⟩
theorem Fr.nw {S : Nat → Prop} (h : x_H) (n : Nat) (c : x_C) : Fr S h (x_nw h n c) := ⟨Nat.le_succ _, Nat.le_add_right _ _, fun b hb _ => x_nw_ne (Nat.ne_of_lt hb)⟩
theorem Fr.at {S : Nat → Prop} {h g : x_H} (hF : Fr S h g) (hd : ∀ (a : Nat) (c : x_C), h.2.2 a = some c → a < h.1) {b : Nat} {c : x_C} (hb : h.2.2 b = some c) (hs : ¬ S b) : g.2.2 b = some c := (hF.2.2 b (hd b c hb) hs).trans hb
end XN
