section XG
/-- the number of the exception that an entry of the law's pool names -/
def x_ct : Nat → Nat
  | 13 => 11
  | 15 => 12
  | 17 => 13
  | 23 => 14
  | _ => 0
def x_hd : List (Nat × Nat × Nat × Nat) → Nat → Nat → Option Nat
  | [], _, _ => none
  | q :: r, pc, k => if q.1 ≤ pc ∧ pc < q.2.1 ∧ x_ct q.2.2.2 = k then some q.2.2.1 else x_hd r pc k
abbrev x_en4 (x : ExceptionTableEntry) : Nat × Nat × Nat × Nat := (x.startPc, x.endPc, x.handlerPc, x.catchType)
section A
variable {Q : Handler → Pre} {E : CtlPost} {e : Env} {d : Bool} {acts : List Action} {s : State} {f : JFrame} {a : Addr}
theorem x_hgo {x : ExceptionTableEntry} {t : List ExceptionTableEntry} {c : ClassId} {cell : Cell} (hx : covers x f.pc = true) (h0 : x.catchType ≠ 0)
    (hl : s.vm.ClassLinks e.platform f.method.cls x.catchType c) (hcell : s.heap[a]? = some cell) (hobj : ∀ k, cell.vm ≠ .statics k)
    (hk : ∃ k, s.vm.classes[cell.cls]? = some k) (hc : ∃ k, s.vm.classes[c]? = some k) :
    wp (findHandler.go f a (x :: t)) Q E e d acts s ↔ (if s.vm.assignable cell.cls c = true then Q (.found x.handlerPc) d acts (s.setVm (s.vm.noted f.method.cls x.catchType (.cls c)))
      else wp (findHandler.go f a t) Q E e d acts (s.setVm (s.vm.noted f.method.cls x.catchType (.cls c)))) := by
  simp only [covers] at hx
  obtain ⟨ha, ht⟩ := (resolveClass_links e.toSetting hl).op (op := VmOp.resolveClass f.method.cls x.catchType) rfl
  have hal : s.vm.Alike (s.vm.noted f.method.cls x.catchType (.cls c)) := (Vm.Alike.refl s.vm).noted _ _ _
  obtain ⟨k1, hk1⟩ := hk
  obtain ⟨k2, hk2⟩ := hc
  obtain ⟨k1', hk1', -⟩ := hal.2.2 _ _ hk1
  obtain ⟨k2', hk2', -⟩ := hal.2.2 _ _ hk2
  have hfit : (s.vm.noted f.method.cls x.catchType (.cls c)).assignable cell.cls c = s.vm.assignable cell.cls c := hal.assignable _ _
  cases hq : s.vm.assignable cell.cls c <;> rw [hq] at hfit <;> simp [findHandler.go, hx, h0, ha, ht, hcell, hobj, hk1', hk2', hfit, VmOp.dirties, VmOp.acts]
end A
/-- an entry of the table, as the words tell it -/
def x_ey (pl : Platform) (s : State) (d : ClassId) (thrown : ClassId) (k : Nat) (y : ExceptionTableEntry) : Prop :=
  y.catchType ≠ 0 ∧ ∃ c, s.vm.ClassLinks pl d y.catchType c ∧ (s.vm.assignable thrown c = true ↔ x_ct y.catchType = k)
theorem x_hsearch {e : Env} {s : State} {f : JFrame} {a : Addr} {cell : Cell} {k tgt : Nat} (hobj : ∀ k, cell.vm ≠ .statics k) (hk0 : ∃ k, s.vm.classes[cell.cls]? = some k) :
    ∀ (tb : List ExceptionTableEntry) (S : State), s.WarmedH S.vm → S.heap[a]? = some cell → (∀ y ∈ tb, x_ey e.platform s f.method.cls cell.cls k y) → x_hd (tb.map x_en4) f.pc k = some tgt →
      ∃ vm', s.WarmedH vm' ∧ ∀ (Q : Handler → Pre) (E : CtlPost) (d : Bool) (acts : List Action), wp (findHandler.go f a tb) Q E e d acts S ↔ Q (.found tgt) d acts (S.setVm vm')
  | [], S, _, _, _, h => by cases h
  | y :: ys, S, hW, hcell, hy, h => by
    obtain ⟨k0, hk0'⟩ := hk0
    obtain ⟨k1, hk1, -⟩ := hW.alike.2.2 _ _ hk0'
    have hrest : ∀ z ∈ ys, x_ey e.platform s f.method.cls cell.cls k z := fun z hz => hy z (List.mem_cons_of_mem _ hz)
    by_cases hcov : covers y f.pc = true
    · obtain ⟨h0, c, hl, hfit⟩ := hy y List.mem_cons_self
      obtain ⟨dk, _, _, kt, hd, _, _, _, _, hkt, _, hopen⟩ := hl.here
      obtain ⟨kt', hkt', -⟩ := hW.alike.2.2 _ _ hkt
      have hW' := hW.noted hd hopen (State.rightAt_cls hl)
      have hcov' : y.startPc ≤ f.pc ∧ f.pc < y.endPc := by simpa [covers] using hcov
      have hgo := fun (Q : Handler → Pre) (E : CtlPost) (d : Bool) (acts : List Action) => x_hgo (Q := Q) (E := E) (e := e) (d := d) (acts := acts) (s := S) (f := f) (a := a) (x := y) (t := ys) hcov h0 (hW.classLinks hl) hcell hobj ⟨k1, hk1⟩ ⟨kt', hkt'⟩
      have hasg : S.vm.assignable cell.cls c = s.vm.assignable cell.cls c := hW.alike.assignable _ _
      by_cases hj : x_ct y.catchType = k
      · have h1 : x_hd ((y :: ys).map x_en4) f.pc k = some y.handlerPc := by
          show (if y.startPc ≤ f.pc ∧ f.pc < y.endPc ∧ x_ct y.catchType = k then some y.handlerPc else _) = _
          rw [if_pos ⟨hcov'.1, hcov'.2, hj⟩]
        have h2 : y.handlerPc = tgt := Option.some.inj (h1.symm.trans h)
        refine ⟨_, hW', fun Q E d acts => ?_⟩
        rw [hgo, if_pos (by rw [hasg]; exact hfit.mpr hj), h2]
      · have h1 : x_hd (ys.map x_en4) f.pc k = some tgt := by
          rw [← h]
          show _ = (if y.startPc ≤ f.pc ∧ f.pc < y.endPc ∧ x_ct y.catchType = k then some y.handlerPc else x_hd (ys.map x_en4) f.pc k)
          rw [if_neg (fun q => hj q.2.2)]
        obtain ⟨vm', hW2, hq⟩ := x_hsearch hobj ⟨k0, hk0'⟩ ys (S.setVm (S.vm.noted f.method.cls y.catchType (.cls c))) hW' hcell hrest h1
        refine ⟨vm', hW2, fun Q E d acts => ?_⟩
        rw [hgo, if_neg (by rw [hasg]; exact fun q => hj (hfit.mp q))]
        exact hq Q E d acts
    · have hcov' : ¬ (y.startPc ≤ f.pc ∧ f.pc < y.endPc) := by simpa [covers] using hcov
      have h1 : x_hd (ys.map x_en4) f.pc k = some tgt := by
        rw [← h]
        show _ = (if y.startPc ≤ f.pc ∧ f.pc < y.endPc ∧ x_ct y.catchType = k then some y.handlerPc else x_hd (ys.map x_en4) f.pc k)
        rw [if_neg (fun q => hcov' ⟨q.1, q.2.1⟩)]
      obtain ⟨vm', hW2, hq⟩ := x_hsearch hobj ⟨k0, hk0'⟩ ys S hW hcell hrest h1
      refine ⟨vm', hW2, fun Q E d acts => ?_⟩
      rw [Jvm.W.findHandler_go_skip (by simpa using hcov)]
      exact hq Q E d acts
theorem x_hstep {e : Env} {s : State} {a : Addr} {f : JFrame} {r : List Frame} {pc : Nat} {vm' : Vm} (hfind : ∀ (Q : Handler → Pre) (E : CtlPost) (d : Bool) (acts : List Action), wp (findHandler f a) Q E e d acts s ↔ Q (.found pc) d acts (s.setVm vm')) :
    (stepThrowing e s a (.java f :: r)).Is ((s.setVm vm').setFrames (.java { f with pc := pc, stack := [.ref a] } :: r)) [] := by
  simp only [stepThrowing, searchFrame, vmDo]
  generalize hr : Sem.go _ e false [] s = res
  obtain ⟨as, rfl, ha⟩ := Sem.eq_ok_of hr (a := Handler.found pc) (s' := s.setVm vm') (acts' := []) (by simp [hfind _ _ _ _])
  exact ⟨rfl, ha⟩
theorem x_hcaught {tb : Tables} {e : Env} {s target : State} {g : JFrame} {c : Code} {below : List Frame} {a : Addr} (h : At s g.method c below) {pc : Nat} {vm' : Vm}
    (hfind : ∀ (Q : Handler → Pre) (E : CtlPost) (d : Bool) (acts : List Action), wp (findHandler g a) Q E e d acts ((s.setTop g).pushFrame (.throwing a)) ↔ Q (.found pc) d acts (((s.setTop g).pushFrame (.throwing a)).setVm vm'))
    (hrest : Steps tb e below ((s.setVm vm').setTop { g with pc := pc, stack := [.ref a] }) target) : Steps tb e below ((s.setTop g).pushFrame (.throwing a)) target := by
  obtain ⟨hgo, hw⟩ := h.throwing a
  refine Steps.head hgo hw ?_
  rw [stepThread_throwing (frames_entered h.top _), (x_hstep (s := (s.setTop g).pushFrame (.throwing a)) hfind).1]
  obtain ⟨g₀, hg⟩ := Option.isSome_iff_exists.mp h.top
  obtain ⟨r, hr⟩ := State.topJava?_eq_some.mp hg
  have hr' : (s.setVm vm').frames = .java g₀ :: r := hr
  rw [State.setTop_of_frames _ hr'] at hrest
  have key : ∀ (F G : List Frame), ((s.setFrames F).setVm vm').setFrames G = (s.setVm vm').setFrames G := fun F G => by
    have h1 : (s.setFrames F).setVm vm' = (s.setVm vm').setFrames F := rfl
    rw [h1, State.setFrames_setFrames]
  rw [hr, List.tail_cons, State.pushFrame, State.setTop_of_frames _ hr, State.setFrames_setFrames, key]
  exact hrest
variable {K : x_K} {M M' : x_M} {d d' pc pc' : Nat} {lv lv' lv0 : List (Option Value)} {st : List Value} {h : x_H} {Q Q' : x_O → x_H → Prop}
/-- an exception that this frame catches -/
theorem x_T.catch {q : Nat × Nat} {nm : String} {tgt : Nat} (hk : x_ex q.1 = some nm) (hself : Cond.castable nm nm ∈ lw_tbl)
    (hcts : ∀ z ∈ M.2.2.2.2, z.2.2.2 ≠ 0 ∧ ∃ nz, x_ex (x_ct z.2.2.2) = some nz ∧ Cond.classLink M.1.cls z.2.2.2 nz ∈ lw_tbl) (ht : x_hd M.2.2.2.2 pc q.1 = some tgt)
    (k : Go K M d tgt lv [.ref q.2] h Q) : x_T K M d pc lv st Q q h := by
  intro R s m args below meth c H locs cells slots ls z0 q0 T hF hx hT hcell X
  obtain ⟨cell, g1, g2, g3⟩ := hcell
  have hpl : (x_e K).platform.magicAccessors = ({} : Platform).magicAccessors := by rw [X.admits.platform]
  have hcl : ∀ {j : Nat} {nj : String}, x_ex j = some nj → s.vm.findClass nj = some (x_ca K j) := fun hj => by rw [hF.wm.alike.findClass]; exact hF.ok.2.2.2.2.1 _ _ hj
  have hcast : (Cond.castable nm nm).before args s = true := x_wk_at hF.wm rfl (hF.ok.2.1 _ hself)
  obtain ⟨c3, c4, hc3, hc4, hasg⟩ := Cond.castable_spec hcast
  have e3 : c3 = x_ca K q.1 := Option.some.inj (hc3.symm.trans (hcl hk))
  have e4 : c4 = x_ca K q.1 := Option.some.inj (hc4.symm.trans (hcl hk))
  subst e3
  subst e4
  have htab := hF.tb
  have hrow : ∀ y ∈ c.exceptionTable.toList, x_ey (x_e K).platform s m.cls cell.cls q.1 y := by
    intro y hy
    have hz : x_en4 y ∈ M.2.2.2.2 := by rw [← htab]; exact List.mem_map.mpr ⟨y, hy, rfl⟩
    obtain ⟨h0, nz, hnz, hlk⟩ := hcts _ hz
    obtain ⟨c5, hc5, hcl5⟩ := Cond.classLink_spec hF.ow (hF.wd hlk (Or.inl (x_kcl _ _ _)) args) (x_e K).platform hpl
    have e5 : c5 = x_ca K (x_ct y.catchType) := Option.some.inj (hc5.symm.trans (hcl hnz))
    subst e5
    refine ⟨h0, _, hcl5, ?_⟩
    rw [g3]
    constructor
    · intro hyes
      by_cases hj : x_ct y.catchType = q.1
      · exact hj
      · exfalso
        obtain ⟨a8, b8, h1, h2, h3⟩ := va_Nc.moved hF.wm.alike (hF.ok.2.2.2.2.2.2.2.2.2 q.1 (x_ct y.catchType) nm nz hk hnz (Ne.symm hj))
        have ea : a8 = x_ca K q.1 := Option.some.inj (h1.symm.trans (hcl hk))
        have eb : b8 = x_ca K (x_ct y.catchType) := Option.some.inj (h2.symm.trans (hcl hnz))
        subst ea
        subst eb
        rw [h3] at hyes
        cases hyes
    · intro hj
      rw [hj]
      exact hasg
  have hobj : ∀ k, cell.vm ≠ .statics k := fun k hk => by rw [g2] at hk; cases hk
  have hk0 : ∃ k, s.vm.classes[cell.cls]? = some k := by
    rw [g3]
    obtain ⟨k9, h9, -⟩ := Vm.findClass_spec (hcl hk)
    exact ⟨k9, h9⟩
  have htab2 : c.exceptionTable.toList.map x_en4 = M.2.2.2.2 := htab
  obtain ⟨vm', hW', hq⟩ := x_hsearch (e := x_e K) (s := s) (f := F0 m pc ls st) (a := q.2) (cell := cell) (k := q.1) (tgt := tgt) hobj hk0 c.exceptionTable.toList ((T.setTop (F0 m pc ls st)).pushFrame (.throwing q.2)) X.warmed
    (by show T.heap[q.2]? = some cell; rw [hT]; exact g1) hrow (by rw [htab2]; exact ht)
  have X' := X.noted hW'
  obtain ⟨t, a1, b1⟩ := k R s m args below meth c H locs cells slots ls z0 q0 hF hx (T.setVm vm') hT X'
  exact ⟨t, x_hcaught (g := F0 m pc ls st) X.here (fun Q E d acts => by rw [Jvm.W.findHandler_eq (meth := meth) (code := c) X.method' X.code]; exact hq Q E d acts) a1, b1⟩
end XG
