section XD
/-- what a callee finds in its locals -/
def x_ent : List Value → List (Option Value)
  | [] => []
  | .long v :: r => some (.long v) :: none :: x_ent r
  | .double v :: r => some (.double v) :: none :: x_ent r
  | v :: r => some v :: x_ent r
def x_en (As : List Value) (n : Nat) : List (Option Value) := x_ent As ++ List.replicate (n - (x_ent As).length) none
theorem x_ent_args : ∀ (As : List Value) (k i : Nat) (v : Value), (x_ent As)[i]? = some (some v) → (i + k, v) ∈ lv_args k As
  | [], k, i, v, h => by simp [x_ent] at h
  | u :: r, k, i, v, h => by
    by_cases hu : u.category = 2
    · have e1 : x_ent (u :: r) = some u :: none :: x_ent r := by cases u <;> first | rfl | cases hu
      have e2 : lv_args k (u :: r) = (k, u) :: lv_args (k + 2) r := by simp [lv_args, hu]
      rw [e1] at h
      rw [e2]
      match i, h with
      | 0, h =>
        simp at h
        subst h
        simp
      | 1, h => simp at h
      | i + 2, h =>
        refine List.mem_cons_of_mem _ ?_
        rw [show i + 2 + k = i + (k + 2) by omega]
        exact x_ent_args r (k + 2) i v (by simpa using h)
    · have e1 : x_ent (u :: r) = some u :: x_ent r := by cases u <;> first | rfl | exact absurd rfl hu
      have e2 : lv_args k (u :: r) = (k, u) :: lv_args (k + 1) r := by simp [lv_args, hu]
      rw [e1] at h
      rw [e2]
      match i, h with
      | 0, h =>
        simp at h
        subst h
        simp
      | i + 1, h =>
        refine List.mem_cons_of_mem _ ?_
        rw [show i + 1 + k = i + (k + 1) by omega]
        exact x_ent_args r (k + 1) i v (by simpa using h)
theorem x_ent_len : ∀ As : List Value, (lg_sl As).length = (x_ent As).length
  | [] => rfl
  | u :: r => by
    have ih := x_ent_len r
    by_cases hu : u.category = 2
    · have e1 : x_ent (u :: r) = some u :: none :: x_ent r := by cases u <;> first | rfl | cases hu
      rw [e1]
      simp [lg_sl, hu] at ih ⊢
      exact ih
    · have e1 : x_ent (u :: r) = some u :: x_ent r := by cases u <;> first | rfl | exact absurd rfl hu
      rw [e1]
      simp [lg_sl, hu] at ih ⊢
      exact ih
theorem x_en_l {As : List Value} {n : Nat} (h : (x_ent As).length ≤ n) : x_l ((lg_sl As ++ List.replicate (n - (lg_sl As).length) Slot.unset).toArray) n (x_en As n) := by
  have hl := lv_entry As (n := n) (by rw [x_ent_len]; exact h)
  refine ⟨hl.1, hl.2.1, fun i v hv => ?_⟩
  have h2 : (x_ent As)[i]? = some (some v) := by
    unfold x_en at hv
    by_cases hi : i < (x_ent As).length
    · rw [List.getElem?_append_left hi] at hv; exact hv
    · rw [List.getElem?_append_right (by omega), List.getElem?_replicate] at hv
      split at hv <;> cases hv
  exact hl.2.2 (i, v) (x_ent_args As 0 i v h2)
theorem x_cat : ∀ st : List Value, (st.map fun v => v.category).sum ≤ 2 * st.length
  | [] => Nat.le_refl _
  | u :: r => by
    have ih := x_cat r
    have h : u.category ≤ 2 := by cases u <;> simp [Value.category]
    simp only [List.map_cons, List.sum_cons, List.length_cons]
    omega
theorem x_weaken {tb : Tables} {e : Env} {g : Frame} {below : List Frame} {a b : State} (h : Steps tb e (g :: below) a b) : Steps tb e below a b := by
  obtain ⟨n, hn, w⟩ := h
  exact ⟨n, hn, fun k hk => Within.weaken (mid := [g]) (w k hk)⟩
/-- a method's code stands in the tables -/
def x_cd (M : x_M) : Prop := (M.2.2.2.2 = [] ∧ Cond.code M.1 M.2.1 M.2.2.1 M.2.2.2.1 ∈ lw_tbl) ∨ Cond.codeWith M.1 M.2.1 M.2.2.1 M.2.2.2.1 M.2.2.2.2 ∈ lw_tbl
def x_md (s : State) (M : x_M) (mk : MethodId) (methk : Method) (ck : Code) : Prop :=
  s.methodNamed? M.1 = some mk ∧ s.vm.method? mk = some methk ∧ methk.code = some ck ∧
  (ck.code = M.2.1 ∧ ck.maxLocals = M.2.2.1 ∧ methk.sig.returnType = M.2.2.2.1 ∧ methk.locks = false ∧ methk.name = M.1.name ∧ ck.exceptionTable.toList.map (fun x => (x.startPc, x.endPc, x.handlerPc, x.catchType)) = M.2.2.2.2) ∧
  parseMethodDescriptor M.1.desc = some methk.sig
variable {K : x_K} {M M' : x_M} {d d' pc pc' : Nat} {lv lv' lv0 : List (Option Value)} {st : List Value} {h : x_H} {Q Q' : x_O → x_H → Prop}
  {R : Room} {s : State} {m : MethodId} {args : Array Value} {below : List Frame} {meth : Method} {c : Code} {H : Heap} {locs : List Loc} {cells slots z0 q0 : Nat} {ls : Array Slot} {T : State}
theorem x_F.md (hF : x_F K M d R s m meth c H h locs cells slots z0 q0) (hc : x_cd M') : ∃ mk methk ck, x_md s M' mk methk ck := by
  rcases hc with ⟨h0, hc⟩ | hc
  · have hw := hF.wd hc (Or.inl (x_kco _ _ _ _)) #[]
    obtain ⟨mk, hn⟩ := Cond.code_named hw
    obtain ⟨methk, ck, f1, f2, f3, f4, f5, f6, f7, f8⟩ := Cond.code_spec hn hw
    refine ⟨mk, methk, ck, hn, f1, f2, ⟨f3, f4, f5, f6, (name_of_methodNamed hn f1).1, ?_⟩, f8⟩
    have : ck.exceptionTable = #[] := by simpa using f7
    rw [this, h0]; rfl
  · have hw := hF.wd hc (Or.inl (x_kcw _ _ _ _ _)) #[]
    obtain ⟨mk, methk, ck, hn, f1, f2, f3, f4, f5, f6, f7, f8⟩ := Cond.codeWith_spec hw
    exact ⟨mk, methk, ck, hn, f1, f2, ⟨f3, f4, f6, f7, (name_of_methodNamed hn f1).1, f5⟩, f8⟩
/-- what an exception that a call brings means in this frame -/
def x_T (K : x_K) (M : x_M) (d pc : Nat) (lv : List (Option Value)) (st : List Value) (Q : x_O → x_H → Prop) (q : Nat × Nat) (h : x_H) : Prop :=
  ∀ (R : Room) (s : State) (m : MethodId) (args : Array Value) (below : List Frame) (meth : Method) (c : Code) (H : Heap) (locs : List Loc) (cells slots : Nat) (ls : Array Slot) (z0 q0 : Nat) (T : State),
    x_F K M d R s m meth c H h locs cells slots z0 q0 → x_l ls M.2.2.1 lv → T.heap = H → (∃ cell : Cell, H[q.2]? = some cell ∧ cell.vm = .none ∧ cell.cls = x_ca K q.1) →
    Stand (x_p K) (x_n K) (x_e K) R s m args below meth c T locs cells slots →
    ∃ t, Steps (x_p K).tables (x_e K) below ((T.setTop (F0 m pc ls st)).pushFrame (.throwing q.2)) t ∧ x_Q K s below z0 q0 Q t
/-- no handlers: it goes on to the caller -/
theorem x_T.out {q : Nat × Nat} (hh : M.2.2.2.2 = []) (hq : Q (.inr q) h) : x_T K M d pc lv st Q q h := by
  intro R s m args below meth c H locs cells slots ls z0 q0 T hF hx hT hcell X
  have ht : c.exceptionTable.toList = [] := by
    have := hF.tb
    rw [hh] at this
    exact List.map_eq_nil_iff.mp this
  obtain ⟨a1, a2, a3, a4, a5⟩ := X.leaveThrown q.2 (g := F0 m pc ls st) rfl rfl rfl (fun x hx' => by rw [ht] at hx'; cases hx') hF.lk
  have hh2 : (T.setFrames (.throwing q.2 :: below)).heap = H := hT
  exact ⟨_, a1, .threw q.2, .inr q, h, a2, a3, a4, ⟨locs, cells, slots, a5, hF.lc, hF.cs.1, hF.cs.2.1⟩, ⟨rfl, by rw [hh2]; exact hcell⟩, by rw [hh2]; exact hF.w, hF.cs.2.2.1, hF.cs.2.2.2, hq⟩
set_option maxHeartbeats 1000000 in
theorem x_enter (hF : x_F K M d R s m meth c H h locs cells slots z0 q0) (hx : x_l ls M.2.2.1 lv) (hT : T.heap = H) (X : Stand (x_p K) (x_n K) (x_e K) R s m args below meth c T locs cells slots)
    {ig : Instr} {len : Nat} (hd : decode M.2.1 pc = .ok (ig, len)) {mk : MethodId} {methk : Method} {ck : Code} (hm : x_md s M' mk methk ck) (hpl : plainName M'.1.cls = true)
    (As : List Value) (hlen : (x_ent As).length ≤ M'.2.2.1) (he : x_en As M'.2.2.1 = lv0) (hg : Go K M' d' 0 lv0 [] h Q') (hd' : d' + 1 ≤ d) (hrm : 2 * st.length + M'.2.2.1 ≤ 80)
    (kr : ∀ v h', Q' (.inl v) h' → Go K M d (pc + len) lv (v.toList ++ st) h' Q) (kt : ∀ q h', Q' (.inr q) h' → x_T K M d pc lv st Q q h') :
    ∃ t, (∀ acts, Steps (x_p K).tables (x_e K) below (doInvoke (x_e K) (T.setTop (F0 m pc ls st)) acts mk As.toArray).1 t) ∧ x_Q K s below z0 q0 Q t := by
  obtain ⟨hn, hmk, hck, ⟨f1, f2, f3, f4, f5, f6⟩, -⟩ := hm
  have hsz : (F0 m pc ls st).locals.size = c.maxLocals := by rw [hF.ml]; exact hx.1
  have hcat := x_cat st
  have hmk' : T.vm.method? mk = some methk := by rw [X.warmed.alike.method?]; exact hmk
  have hnT : T.methodNamed? M'.1 = some mk := X.named hn
  have hpk : T.plainMethod mk := State.plainMethod.of_named (plainFor_of_name hpl) hnT hmk'
  have hdg : decode c.code (F0 m pc ls st).pc = .ok (ig, len) := by rw [hF.cd]; exact hd
  have hcs := hF.cs
  have hrr := hF.rm
  obtain ⟨Y, hdo⟩ := X.into (g := F0 m pc ls st) rfl hsz hdg As.toArray (R' := { frames := d' + 8, cells := x_cap K - h.1, slots := x_cas K - h.2.1, locals := 100 * d' + 300 }) hmk' hck f4 hpk
    (by show d' + 8 + 1 ≤ R.frames; omega) (by show 2 * 0 + (st.map fun v => v.category).sum + (ck.maxLocals + 11) + (100 * d' + 300) ≤ R.locals; rw [f2]; omega) (by show cells + (x_cap K - h.1) ≤ R.cells; omega) (by show slots + (x_cas K - h.2.1) ≤ R.slots; omega)
  have hFc : x_F K M' d' { frames := d' + 8, cells := x_cap K - h.1, slots := x_cas K - h.2.1, locals := 100 * d' + 300 } (T.calling (F0 m pc ls st) mk As.toArray) mk methk ck H h [] 0 0 h.1 h.2.1 :=
    ⟨hF.ok, State.WarmedH.trans hF.wm X.warmed, ⟨f1, f2, f3, f4, f5, f6⟩, findClass_of_methodNamed hnT, ⟨Nat.le_refl _, Nat.le_refl _, Nat.le_refl _, Nat.le_refl _⟩, ⟨by omega, by omega, hcs.2.2.1, hcs.2.2.2⟩, hF.w, fun q hq => by cases hq⟩
  have hent := x_en_l hlen
  rw [he] at hent
  obtain ⟨t, hst, o, xo, h', b1, b2, b3, ⟨L, k, n, hs1, hs2, hs3, hs4⟩, b5, b6, b7, b8, b9⟩ := hg _ (T.calling (F0 m pc ls st) mk As.toArray) mk As.toArray (.java (F0 m pc ls st) :: below) methk ck H [] 0 0 _ h.1 h.2.1 hFc hent
    ((T.setTop (F0 m pc ls st)).pushFrame (.java (entryFrame mk As.toArray ck.maxLocals))) hT Y
  have hent2 : entryFrame mk As.toArray ck.maxLocals = F0 mk 0 ((lg_sl As ++ List.replicate (M'.2.2.1 - (lg_sl As).length) Slot.unset).toArray) [] := by rw [f2]; exact lg_entry_eq mk As M'.2.2.1
  cases xo with
  | inl v =>
    have b5' : o = .returned v := b5
    subst b5'
    obtain ⟨T', X', hW', hB', ht⟩ := X.outOf rfl hdg b2 b3 hs1
    have hT' : T'.heap = t.heap := by rw [ht]; rfl
    have hF2 : x_F K M d R s m meth c t.heap h' (locs ++ L) (cells + k) (slots + n) z0 q0 := hF.mv b6 (fun q hq => by rcases List.mem_append.mp hq with hq | hq; exact hF.lc q hq; exact hs2 q hq) (by omega) (by omega) b7 b8
    obtain ⟨t2, st2, q2⟩ := kr v h' b9 R s m args below meth c t.heap (locs ++ L) (cells + k) (slots + n) ls z0 q0 hF2 hx T' hT' X'
    refine ⟨t2, fun acts => ?_, q2⟩
    rw [hdo acts]
    refine (x_weaken (g := .java (F0 m pc ls st)) ?_).trans st2
    have ht2 : t = T'.setTop (F0 m (pc + len) ls (v.toList ++ st)) := ht
    rw [← ht2, hent2]
    rw [hent2] at hst
    exact hst
  | inr q =>
    obtain ⟨b5', hcell⟩ := b5
    subst b5'
    obtain ⟨T', X', hW', hB', ht⟩ := X.outOfThrown rfl b2 b3 hs1
    have hT' : T'.heap = t.heap := by rw [ht]; rfl
    have hF2 : x_F K M d R s m meth c t.heap h' (locs ++ L) (cells + k) (slots + n) z0 q0 := hF.mv b6 (fun q hq => by rcases List.mem_append.mp hq with hq | hq; exact hF.lc q hq; exact hs2 q hq) (by omega) (by omega) b7 b8
    obtain ⟨t2, st2, q2⟩ := kt q h' b9 R s m args below meth c t.heap (locs ++ L) (cells + k) (slots + n) ls z0 q0 T' hF2 hx hT' hcell X'
    refine ⟨t2, fun acts => ?_, q2⟩
    rw [hdo acts]
    refine (x_weaken (g := .java (F0 m pc ls st)) ?_).trans st2
    rw [← ht, hent2]
    rw [hent2] at hst
    exact hst
/-- what a call asks of the callee's name -/
def x_nm (y : MethodName) (n : Nat) : Prop := plainName y.cls = true ∧ (y.cls ≠ "java/lang/invoke/MethodHandle" ∧ y.cls ≠ "java/lang/invoke/VarHandle") ∧ (parseMethodDescriptor y.desc).map (fun q => q.parameters.length) = some n
theorem x_nm.len {y : MethodName} {n : Nat} (h : x_nm y n) {sig : MethodDescriptor} (hs : parseMethodDescriptor y.desc = some sig) : n = sig.parameters.length := by
  have h2 := h.2.2
  rw [hs] at h2
  exact (Option.some.inj h2).symm
theorem go_callS {idx : Nat} (As : List Value) {n : Nat} (hd : decode M.2.1 pc = .ok (.invokestatic idx, 3)) (hw1 : Cond.methodLink M.1.cls idx M'.1 ∈ lw_tbl) (hw2 : Cond.static M'.1 ∈ lw_tbl) (hw3 : Cond.initialized M'.1.cls ∈ lw_tbl) (hw4 : x_cd M') (hy : x_nm M'.1 n) (hn : As.length = n)
    {st0 : List Value} (hs : st0 = As.reverse ++ st) (hlen : (x_ent As).length ≤ M'.2.2.1) (he : x_en As M'.2.2.1 = lv0) (hg : Go K M' d' 0 lv0 [] h Q') (hd' : d' + 1 ≤ d) (hrm : 2 * st.length + M'.2.2.1 ≤ 80) (hp : pc + 3 = pc')
    (kr : ∀ v h', Q' (.inl v) h' → Go K M d pc' lv (v.toList ++ st) h' Q) (kt : ∀ q h', Q' (.inr q) h' → x_T K M d pc lv st Q q h') : Go K M d pc lv st0 h Q := by
  subst hp
  subst hs
  intro R s m args below meth c H locs cells slots ls z0 q0 hF hx T hT X
  obtain ⟨mk, methk, ck, hm⟩ := hF.md hw4
  have hnamed := hm.1
  have hmeth := hm.2.1
  obtain ⟨kP, hkP, -⟩ := className_of_methodNamed hnamed
  obtain ⟨vm₁, X₁, hstep⟩ := X.invokestatic hF.ex hF.ow (hF.wd hw1 (Or.inl (x_kml _ _ _)) args) hnamed hmeth (Cond.static_spec hnamed hmeth (hF.wd hw2 (Or.inl (x_kst _)) args)) hkP (Cond.initialized_spec (findClass_of_methodNamed hnamed) hkP (hF.wd hw3 (Or.inl (x_kii _)) args)) hy.2.1
    (g := F0 m pc ls (As.reverse ++ st)) rfl (argsL := As) (rest := st) (hn.trans (hy.len hm.2.2.2.2)) rfl (by rw [hF.cd]; exact hd)
  obtain ⟨t, a1, a2⟩ := x_enter (T := T.setVm vm₁) hF hx hT X₁ hd hm hy.1 As hlen he hg hd' hrm kr kt
  exact ⟨t, hstep _ fun acts => a1 acts, a2⟩
theorem go_callV {idx ci a : Nat} {r : vw_C} {fs : List Value} (As : List Value) {n : Nat} (hd : decode M.2.1 pc = .ok (.invokevirtual idx, 3)) (hw1 : Cond.methodLink M.1.cls idx M'.1 ∈ lw_tbl) (hw2 : Cond.instanceMethod M'.1 ∈ lw_tbl) (hw3 : Cond.selects r.1 M'.1 M'.1 ∈ lw_tbl) (hw4 : x_cd M') (hy : x_nm M'.1 n) (hn : As.length = n)
    (hc : vwCl[ci]? = some r) (hf : h.2.2 a = some (.inr (ci, fs)))
    {st0 : List Value} (hs : st0 = As.reverse ++ .ref a :: st) (hlen : (x_ent (.ref a :: As)).length ≤ M'.2.2.1) (he : x_en (.ref a :: As) M'.2.2.1 = lv0) (hg : Go K M' d' 0 lv0 [] h Q') (hd' : d' + 1 ≤ d) (hrm : 2 * st.length + M'.2.2.1 ≤ 80) (hp : pc + 3 = pc')
    (kr : ∀ v h', Q' (.inl v) h' → Go K M d pc' lv (v.toList ++ st) h' Q) (kt : ∀ q h', Q' (.inr q) h' → x_T K M d pc lv st Q q h') : Go K M d pc lv st0 h Q := by
  subst hp
  subst hs
  intro R s m args below meth c H locs cells slots ls z0 q0 hF hx T hT X
  obtain ⟨mk, methk, ck, hm⟩ := hF.md hw4
  have hnamed := hm.1
  obtain ⟨cellB, g1, g2, g3⟩ := va_recv hF.kk (hF.w.P hf) hc (q0 := 0) rfl
  have hT1 : T.heap[a]? = some cellB := by rw [hT]; exact g1
  obtain ⟨mk', methM, hn2, hmethM, hstM, habM⟩ := Cond.instanceMethod_spec (hF.wd hw2 (Or.inl (x_kim _)) args)
  cases hnamed.symm.trans hn2
  have hsame : methM = methk := Option.some.inj (hmethM.symm.trans hm.2.1)
  subst hsame
  obtain ⟨c2, r2, m2, q1, q2, q3, q4, kP, hkP, hkPi⟩ := Cond.selects_spec (hF.wd hw3 (Or.inl (x_ksl _ _ _)) args)
  cases g3.symm.trans q1
  cases (State.methodFound?_of_named hnamed hy.2.1).symm.trans q2
  cases hnamed.symm.trans q3
  have hselP : selectMethod (x_e K).platform s.vm cellB.cls mk = .method mk := by rw [Launch.admits_selectMethod X.admits]; exact q4
  obtain ⟨vm₁, X₁, hstep⟩ := X.invokevirtual hF.ex hF.ow (hF.wd hw1 (Or.inl (x_kml _ _ _)) args) hnamed hmethM hstM hkP hkPi hy.2.1 (a := a) (cell := cellB) hT1
    (fun z h => by rw [h] at g2; cases g2) hselP hmethM habM hkP hkPi (g := F0 m pc ls (As.reverse ++ .ref a :: st)) rfl (argsL := As) (rest := st) (hn.trans (hy.len hm.2.2.2.2)) rfl (by rw [hF.cd]; exact hd)
  obtain ⟨t, a1, a2⟩ := x_enter (T := T.setVm vm₁) hF hx hT X₁ hd hm hy.1 (.ref a :: As) hlen he hg hd' hrm kr kt
  exact ⟨t, hstep _ fun acts => a1 acts, a2⟩
theorem go_callI {idx a : Nat} (As : List Value) {n : Nat} (hd : decode M.2.1 pc = .ok (.invokespecial idx, 3)) (hy1 : M'.1.name = "<init>") (hr : M'.2.2.2.1 = none) (hw1 : Cond.methodLink M.1.cls idx M'.1 ∈ lw_tbl) (hw2 : Cond.instanceMethod M'.1 ∈ lw_tbl) (hw4 : Cond.code M'.1 M'.2.1 M'.2.2.1 none ∈ lw_tbl) (hh' : M'.2.2.2.2 = []) (hy : x_nm M'.1 n) (hn : As.length = n)
    {st0 : List Value} (hs : st0 = As.reverse ++ .ref a :: st) (hlen : (x_ent (.ref a :: As)).length ≤ M'.2.2.1) (he : x_en (.ref a :: As) M'.2.2.1 = lv0) (hg : Go K M' d' 0 lv0 [] h Q') (hd' : d' + 1 ≤ d) (hrm : 2 * st.length + M'.2.2.1 ≤ 80) (hp : pc + 3 = pc')
    (kr : ∀ v h', Q' (.inl v) h' → Go K M d pc' lv (v.toList ++ st) h' Q) (kt : ∀ q h', Q' (.inr q) h' → x_T K M d pc lv st Q q h') : Go K M d pc lv st0 h Q := by
  subst hp
  subst hs
  intro R s m args below meth c H locs cells slots ls z0 q0 hF hx T hT X
  obtain ⟨mk, methk, ck, hm⟩ := hF.md (M' := M') (Or.inl ⟨hh', by rw [hr]; exact hw4⟩)
  have hpl : (x_e K).platform.magicAccessors = ({} : Platform).magicAccessors := by rw [X.admits.platform]
  obtain ⟨mk', methM, cM, kP, vm₁, hnamed, hmethM, hcodeM, -, hlocalsM, -, hkP, -, hW₁, hstep⟩ := Steps.initColdArgs (e := x_e K) X.here hF.ex X.warmed hpl hF.ow hy1 hy.2.1 (hF.wd hw1 (Or.inl (x_kml _ _ _)) args) (hF.wd hw2 (Or.inl (x_kim _)) args) (hF.wd hw4 (Or.inl (x_kco _ _ _ _)) args)
    (f := F0 m pc ls (As.reverse ++ .ref a :: st)) rfl (argsL := As) (rest := st) (fun sig hsig => hn.trans (hy.len hsig)) rfl (by rw [hF.cd]; exact hd)
  cases hm.1.symm.trans hnamed
  have X₁ := X.noted hW₁
  obtain ⟨t, a1, a2⟩ := x_enter (T := T.setVm vm₁) hF hx hT X₁ hd hm hy.1 (.ref a :: As) hlen he hg hd' hrm kr kt
  exact ⟨t, hstep _ fun acts => a1 acts, a2⟩
theorem go_objInit {idx a : Nat} (hd : decode M.2.1 pc = .ok (.invokespecial idx, 3)) (hw1 : Cond.methodLink M.1.cls idx Lib.objectInit ∈ lw_tbl) (hw2 : Cond.instanceMethod Lib.objectInit ∈ lw_tbl) (hw3 : Cond.code Lib.objectInit ⟨#[0xb1]⟩ 1 none ∈ lw_tbl) (hrm : 2 * st.length ≤ 80) (hp : pc + 3 = pc')
    (k : Go K M d pc' lv st h Q) : Go K M d pc lv (.ref a :: st) h Q := by
  subst hp
  intro R s m args below meth c H locs cells slots ls z0 q0 hF hx
  have hcat := x_cat st
  have hrr := hF.rm
  refine W.objInit hF.ex hF.cd hF.ow (hF.wd hw1 (Or.inl (x_kml _ _ _)) args) (hF.wd hw2 (Or.inl (x_kim _)) args) (hF.wd hw3 (Or.inl (x_kco _ _ _ _)) args) (g := F0 m pc ls (.ref a :: st)) rfl (by rw [hF.ml]; exact hx.1) rfl hd (by omega) (by show 2 * 0 + (st.map fun v => v.category).sum + 12 ≤ R.locals; omega) ?_
  exact k R s m args below meth c H locs cells slots ls z0 q0 hF hx
theorem go_mmax {idx : Nat} {x y : Int32} (hd : decode M.2.1 pc = .ok (.invokestatic idx, 3)) (hw1 : Cond.methodLink M.1.cls idx Lib.Math.max.name ∈ lw_tbl) (hw2 : Cond.static Lib.Math.max.name ∈ lw_tbl) (hw3 : Cond.initialized "java/lang/Math" ∈ lw_tbl) (hw4 : Cond.code Lib.Math.max.name Lib.Math.max.code 2 (some .int) ∈ lw_tbl) (hrm : 2 * st.length ≤ 80) (hp : pc + 3 = pc')
    (k : Go K M d pc' lv (.int (if x < y then y else x) :: st) h Q) : Go K M d pc lv (.int y :: .int x :: st) h Q := by
  subst hp
  intro R s m args below meth c H locs cells slots ls z0 q0 hF hx
  have hcat := x_cat st
  have hrr := hF.rm
  have hcs := hF.cs
  exact va_mmax hF.ex hF.cd (by rw [hF.ml]; exact hx.1.symm) hF.ow (hF.wd hw1 (Or.inl (x_kml _ _ _)) args) (hF.wd hw2 (Or.inl (x_kst _)) args) (hF.wd hw3 (Or.inl (x_kii _)) args) (hF.wd hw4 (Or.inl (x_kco _ _ _ _)) args) (by omega) (by omega) (by omega) (by omega) hd
    (k R s m args below meth c H locs cells slots ls z0 q0 hF hx)
end XD
