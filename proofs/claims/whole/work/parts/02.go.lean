/-! statics of the start: rows of the printed names (claim/NAMES.whole.lean.txt), with Bundle spelled out -/
def xv_L (C n d : String) (A : Nat → Prop) (U : State) (H : Heap) : Prop := ∃ (c : ClassId) (k : Class) (i : Nat) (f : Field) (a : Nat) (cell : Cell), U.vm.findClass C = some c ∧ U.fieldFound? C n d = some (c, k, i, f) ∧ f.isStatic = true ∧ k.statics = some a ∧ H[a]? = some cell ∧ cell.vm.isStatics = true ∧ cell.cls = c ∧ f.slot < cell.slots.size ∧ k.staticTypes[f.slot]? = some f.type ∧ ¬ A a
theorem xv_L.moved {C n d : String} {A : Nat → Prop} {u U : State} {H : Heap} (hvm : u.vm.Alike U.vm) (h : xv_L C n d A u H) : xv_L C n d A U H := by
  obtain ⟨c, k, i, f, a, cell, h1, h2, h3, h4, h5, h6, h7, h8, h9, h10⟩ := h
  obtain ⟨k', hi', he⟩ := State.fieldFound?_setVm hvm h2
  exact ⟨c, k', i, f, a, cell, by rw [hvm.findClass]; exact h1, hi', h3, by rw [he]; exact h4, h5, h6, h7, h8, by rw [he]; exact h9, h10⟩
theorem xv_L.kept {C n d : String} {A : Nat → Prop} {U : State} {H H1 : Heap} (h : xv_L C n d A U H) (hq : ∀ a : Nat, a < H.size → ¬ A a → H1[a]? = H[a]?) : xv_L C n d A U H1 := by
  obtain ⟨c, k, i, f, a, cell, h1, h2, h3, h4, h5, h6, h7, h8, h9, h10⟩ := h
  exact ⟨c, k, i, f, a, cell, h1, h2, h3, h4, by rw [hq a (Array.getElem?_eq_some_iff.mp h5).1 h10]; exact h5, h6, h7, h8, h9, h10⟩
theorem xv_L.narrow {C n d : String} {A B : Nat → Prop} {U : State} {H : Heap} (h : xv_L C n d A U H) (hAB : ∀ q, B q → A q) : xv_L C n d B U H := by
  obtain ⟨c, k, i, f, a, cell, h1, h2, h3, h4, h5, h6, h7, h8, h9, h10⟩ := h
  exact ⟨c, k, i, f, a, cell, h1, h2, h3, h4, h5, h6, h7, h8, h9, fun z => h10 (hAB _ z)⟩
theorem xv_L.word {C n d : String} {A : Nat → Prop} {s : State} {args : Array Value} (h : xv_L C n d A s s.heap) : (Cond.laysStatic C n d).before args s = true := by
  obtain ⟨c, k, i, f, a, cell, h1, h2, h3, h4, h5, h6, h7, h8, h9, -⟩ := h
  show (Cond.laysStatic C n d).holds args s none s [] = true
  exact Cond.laysStatic_of h1 h2 h3 h4 h5 h6 h7 h8 h9
/-- .. and what it holds: null or some reference -/
def xv_Zq (C n d : String) (A : Nat → Prop) (U : State) (H : Heap) : Prop := va_Zq C n d A U H ∧ xv_L C n d A U H
theorem xv_Zq.moved {C n d : String} {A : Nat → Prop} {u U : State} {H : Heap} (hvm : u.vm.Alike U.vm) (h : xv_Zq C n d A u H) : xv_Zq C n d A U H := ⟨va_Zq.moved hvm h.1, xv_L.moved hvm h.2⟩
theorem xv_Zq.kept {C n d : String} {A : Nat → Prop} {U : State} {H H1 : Heap} (h : xv_Zq C n d A U H) (hq : ∀ a : Nat, a < H.size → ¬ A a → H1[a]? = H[a]?) : xv_Zq C n d A U H1 := ⟨va_Zq.kept h.1 hq, xv_L.kept h.2 hq⟩
theorem xv_Zq.narrow {C n d : String} {A B : Nat → Prop} {U : State} {H : Heap} (h : xv_Zq C n d A U H) (hAB : ∀ q, B q → A q) : xv_Zq C n d B U H := ⟨va_Zq.narrow h.1 hAB, xv_L.narrow h.2 hAB⟩
theorem xv_Zqof {args : Array Value} {s : State} {C n d : String} {A : Nat → Prop} (hl : (Cond.laysStatic C n d).before args s = true) (hini : (Cond.initialized C).before args s = true) (h : (Cond.isRef (.static C n d)).before args s = true) (hA : ∀ a : Nat, a < s.heap.size → ¬ A a) : xv_Zq C n d A s s.heap := by
  refine ⟨va_Zqof hl hini h hA, ?_⟩
  obtain ⟨c, k, i, f, a, cell, h1, h2, h3, h4, h5, h6, h7, h8, h9⟩ := Cond.laysStatic_spec hl
  exact ⟨c, k, i, f, a, cell, h1, h2, h3, h4, h5, h6, h7, h8, h9, hA a (Array.getElem?_eq_some_iff.mp h5).1⟩
theorem xv_isRef {C n d : String} {v : Value} {A : Nat → Prop} {s : State} {args : Array Value} (h : va_Z C n d v A s s.heap) (hv : v.isRef = true) : (Cond.isRef (.static C n d)).before args s = true := by
  obtain ⟨cf, kf, fi, f, a, cell, h1, h2, h3, h4, h5, h6, h7, -⟩ := h
  have he : (Term.static C n d).eval args s none [] s = some v := by
    simp [Term.eval, State.fieldNamed?, h1, h2, h4, h5, h6, h7]
  simp only [Cond.before, Cond.holds, Cond.value, he]
  cases v <;> simp_all [Value.isRef]
theorem xv_isRefq {C n d : String} {A : Nat → Prop} {s : State} {args : Array Value} (h : va_Zq C n d A s s.heap) : (Cond.isRef (.static C n d)).before args s = true := by
  rcases h with h | ⟨t, h⟩
  · exact xv_isRef h rfl
  · exact xv_isRef h rfl
/-! A method's frame over a world of cells, and how it goes on: 'Go', said once, whatever frame of the machine lies beneath. -/
-- a cell: an array (number of its kind, what it holds) or an object (number of its class, its fields)
abbrev x_C : Type := (Nat × vp_A) ⊕ (Nat × List Value)
-- a heap: the next address, the slots made so far, the cells that are known
abbrev x_H : Type := Nat × Nat × (Nat → Option x_C)
-- how a method ends: with a value or none; or by an exception (number of its class, its address)
abbrev x_O : Type := Option Value ⊕ (Nat × Nat)
-- a method: name, code, locals, what it returns, its handlers
abbrev x_M : Type := MethodName × ByteArray × Nat × Option FieldType × List (Nat × Nat × Nat × Nat)
-- what stays the same: program, launch, surroundings, first state, its arguments; classes and slots; classes of arrays and exceptions; base address; most cells; most slots
abbrev x_K : Type := (Program × Launch × Env × State × Array Value) × va_G × (Nat → ClassId) × Nat × Nat × Nat
abbrev x_p (K : x_K) : Program := K.1.1
abbrev x_n (K : x_K) : Launch := K.1.2.1
abbrev x_e (K : x_K) : Env := K.1.2.2.1
abbrev x_s (K : x_K) : State := K.1.2.2.2.1
abbrev x_a (K : x_K) : Array Value := K.1.2.2.2.2
abbrev x_D (K : x_K) : va_G := K.2.1
abbrev x_ca (K : x_K) : Nat → ClassId := K.2.2.1
abbrev x_B (K : x_K) : Nat := K.2.2.2.1
abbrev x_cap (K : x_K) : Nat := K.2.2.2.2.1
abbrev x_cas (K : x_K) : Nat := K.2.2.2.2.2
def x_E (K : x_K) (c : x_C) : va_E := match c with
  | .inl q => .inl (x_ca K q.1, q.2)
  | .inr o => .inr o
def x_ok (K : x_K) : Prop :=
  (x_p K).tables.exec = Jvm.exec ∧ (∀ w ∈ lw_tbl, w.before (x_a K) (x_s K) = true) ∧ va_K (x_D K) vwCl [] (x_s K) ∧
  (∀ (k : Nat) (ty : FieldType), x_ty k = some ty → ArrOfT (x_s K) (x_ca K k) ty ∧ va_RA (x_s K) (x_ca K k) ty) ∧
  (∀ (k : Nat) (nm : String), x_ex k = some nm → (x_s K).vm.findClass nm = some (x_ca K k)) ∧
  (x_e K).platform.stackTraces = false ∧ (x_s K).heap.size = x_B K ∧
  xv_Zq Bundle.tN "UNASSIGNED_STACK" Bundle.steD (fun q => x_B K ≤ q) (x_s K) (x_s K).heap ∧ xv_Zq Bundle.tN "SUPPRESSED_SENTINEL" Bundle.listD (fun q => x_B K ≤ q) (x_s K) (x_s K).heap ∧
  ∀ (i j : Nat) (a b : String), x_ex i = some a → x_ex j = some b → i ≠ j → va_Nc a b (x_s K)
def x_W (K : x_K) (h : x_H) (H : Heap) : Prop :=
  H.size = h.1 ∧ x_B K ≤ h.1 ∧ (∀ (a : Nat) (c : x_C), h.2.2 a = some c → x_B K ≤ a ∧ va_at (x_D K) vwCl (a, x_E K c) H) ∧
  ∀ q : Nat, q < x_B K → H[q]? = (x_s K).heap[q]?
def x_F (K : x_K) (M : x_M) (d : Nat) (R : Room) (s : State) (m : MethodId) (meth : Method) (c : Code) (H : Heap) (h : x_H) (locs : List Loc) (cells slots z0 q0 : Nat) : Prop :=
  x_ok K ∧ (x_s K).WarmedH s.vm ∧
  (c.code = M.2.1 ∧ c.maxLocals = M.2.2.1 ∧ meth.sig.returnType = M.2.2.2.1 ∧ meth.locks = false ∧ meth.name = M.1.name ∧ c.exceptionTable.toList.map (fun x => (x.startPc, x.endPc, x.handlerPc, x.catchType)) = M.2.2.2.2) ∧
  s.vm.findClass M.1.cls = some m.cls ∧
  (d + 8 ≤ R.frames ∧ 100 * d + 300 ≤ R.locals ∧ x_cap K - z0 ≤ R.cells ∧ x_cas K - q0 ≤ R.slots) ∧
  (cells + z0 ≤ h.1 ∧ slots + q0 ≤ h.2.1 ∧ h.1 ≤ x_cap K ∧ h.2.1 ≤ x_cas K) ∧ x_W K h H ∧ ∀ q ∈ locs, x_B K ≤ q.base
-- an outcome of the machine and ours
def x_oo (K : x_K) (t : State) (o : Outcome) (xo : x_O) : Prop := match xo with
  | .inl v => o = .returned v
  | .inr q => o = .threw q.2 ∧ ∃ cell : Cell, t.heap[q.2]? = some cell ∧ cell.vm = .none ∧ cell.cls = x_ca K q.1
def x_Q (K : x_K) (s : State) (below : List Frame) (z0 q0 : Nat) (Q : x_O → x_H → Prop) : State → Prop := fun t =>
  ∃ (o : Outcome) (xo : x_O) (h' : x_H), t.status = .running ∧ Ended t below o ∧ s.WarmedH t.vm ∧
    (∃ (L : List Loc) (k n : Nat), s.sameButNew ({ t with vm := s.vm } : State) L k n ∧ (∀ q ∈ L, x_B K ≤ q.base) ∧ k + z0 ≤ h'.1 ∧ n + q0 ≤ h'.2.1) ∧
    x_oo K t o xo ∧ x_W K h' t.heap ∧ h'.1 ≤ x_cap K ∧ h'.2.1 ≤ x_cas K ∧ Q xo h'
def x_l (ls : Array Slot) (n : Nat) (lv : List (Option Value)) : Prop := ls.size = n ∧ lv_wf ls ∧ ∀ (i : Nat) (v : Value), lv[i]? = some (some v) → ls[i]? = some (.val v)
def Go (K : x_K) (M : x_M) (d pc : Nat) (lv : List (Option Value)) (st : List Value) (h : x_H) (Q : x_O → x_H → Prop) : Prop :=
  ∀ (R : Room) (s : State) (m : MethodId) (args : Array Value) (below : List Frame) (meth : Method) (c : Code) (H : Heap) (locs : List Loc) (cells slots : Nat) (ls : Array Slot) (z0 q0 : Nat),
    x_F K M d R s m meth c H h locs cells slots z0 q0 → x_l ls M.2.2.1 lv →
    W (x_p K) (x_n K) (x_e K) R s m args below meth c H locs cells slots (x_Q K s below z0 q0 Q) (F0 m pc ls st)
section XA
variable {K : x_K} {M : x_M} {d : Nat} {R : Room} {s : State} {m : MethodId} {meth : Method} {c : Code} {H : Heap} {h : x_H} {locs : List Loc} {cells slots z0 q0 : Nat}
theorem x_F.ok (hF : x_F K M d R s m meth c H h locs cells slots z0 q0) : x_ok K := hF.1
theorem x_F.ex (hF : x_F K M d R s m meth c H h locs cells slots z0 q0) : (x_p K).tables.exec = Jvm.exec := hF.1.1
theorem x_F.wm (hF : x_F K M d R s m meth c H h locs cells slots z0 q0) : (x_s K).WarmedH s.vm := hF.2.1
theorem x_F.cd (hF : x_F K M d R s m meth c H h locs cells slots z0 q0) : c.code = M.2.1 := hF.2.2.1.1
theorem x_F.ml (hF : x_F K M d R s m meth c H h locs cells slots z0 q0) : c.maxLocals = M.2.2.1 := hF.2.2.1.2.1
theorem x_F.rt (hF : x_F K M d R s m meth c H h locs cells slots z0 q0) : meth.sig.returnType = M.2.2.2.1 := hF.2.2.1.2.2.1
theorem x_F.lk (hF : x_F K M d R s m meth c H h locs cells slots z0 q0) : meth.locks = false := hF.2.2.1.2.2.2.1
theorem x_F.nm (hF : x_F K M d R s m meth c H h locs cells slots z0 q0) : meth.name = M.1.name := hF.2.2.1.2.2.2.2.1
theorem x_F.tb (hF : x_F K M d R s m meth c H h locs cells slots z0 q0) : c.exceptionTable.toList.map (fun x => (x.startPc, x.endPc, x.handlerPc, x.catchType)) = M.2.2.2.2 := hF.2.2.1.2.2.2.2.2
theorem x_F.ow (hF : x_F K M d R s m meth c H h locs cells slots z0 q0) : s.vm.findClass M.1.cls = some m.cls := hF.2.2.2.1
theorem x_F.rm (hF : x_F K M d R s m meth c H h locs cells slots z0 q0) : d + 8 ≤ R.frames ∧ 100 * d + 300 ≤ R.locals ∧ x_cap K - z0 ≤ R.cells ∧ x_cas K - q0 ≤ R.slots := hF.2.2.2.2.1
theorem x_F.cs (hF : x_F K M d R s m meth c H h locs cells slots z0 q0) : cells + z0 ≤ h.1 ∧ slots + q0 ≤ h.2.1 ∧ h.1 ≤ x_cap K ∧ h.2.1 ≤ x_cas K := hF.2.2.2.2.2.1
theorem x_F.w (hF : x_F K M d R s m meth c H h locs cells slots z0 q0) : x_W K h H := hF.2.2.2.2.2.2.1
theorem x_F.lc (hF : x_F K M d R s m meth c H h locs cells slots z0 q0) : ∀ q ∈ locs, x_B K ≤ q.base := hF.2.2.2.2.2.2.2
theorem x_F.kk (hF : x_F K M d R s m meth c H h locs cells slots z0 q0) : va_K (x_D K) vwCl [] s := va_K.moved hF.wm.alike hF.ok.2.2.1
theorem x_F.ar (hF : x_F K M d R s m meth c H h locs cells slots z0 q0) {k : Nat} {ty : FieldType} (hk : x_ty k = some ty) : va_K (x_D K) vwCl [(x_ca K k, ty)] s := by
  refine ⟨hF.kk.1, fun j q hj => ?_⟩
  have hz : j < 1 := (List.getElem?_eq_some_iff.mp hj).1
  obtain rfl : j = 0 := by omega
  cases hj
  obtain ⟨h1, h2⟩ := hF.ok.2.2.2.1 k ty hk
  exact ⟨arrOfT_moved hF.wm.alike h1, h2.moved hF.wm.alike⟩
/-- a word of the tables holds in every frame -/
theorem x_F.wd (hF : x_F K M d R s m meth c H h locs cells slots z0 q0) {w : Cond} (hw : w ∈ lw_tbl) (hc : ((w.onTables && w.keeps) = true ∨ ∃ ty, w = .arrayClass ty)) (args : Array Value) : w.before args s = true :=
  word_at hF.wm hc (hF.ok.2.1 w hw)
/-- the frame after a step that moves the heap -/
theorem x_F.mv (hF : x_F K M d R s m meth c H h locs cells slots z0 q0) {H' : Heap} {h' : x_H} {locs' : List Loc} {cells' slots' : Nat} (hw : x_W K h' H') (hl : ∀ q ∈ locs', x_B K ≤ q.base) (hc : cells' + z0 ≤ h'.1) (hs : slots' + q0 ≤ h'.2.1) (h1 : h'.1 ≤ x_cap K) (h2 : h'.2.1 ≤ x_cas K) :
    x_F K M d R s m meth c H' h' locs' cells' slots' z0 q0 := ⟨hF.1, hF.2.1, hF.2.2.1, hF.2.2.2.1, hF.2.2.2.2.1, ⟨hc, hs, h1, h2⟩, hw, hl⟩
end XA
def x_up (h : x_H) (a : Nat) (c : x_C) : x_H := (h.1, h.2.1, va_up h.2.2 a (some c))
def x_nw (h : x_H) (n : Nat) (c : x_C) : x_H := (h.1 + 1, h.2.1 + n, va_up h.2.2 h.1 (some c))
theorem x_W.lt {K : x_K} {h : x_H} {H : Heap} (hw : x_W K h H) {a : Nat} {c : x_C} (ha : h.2.2 a = some c) : a < h.1 := by
  have := (hw.2.2.1 a c ha).2.lt
  rw [← hw.1]; exact this
theorem x_W.up {K : x_K} {h : x_H} {H H' : Heap} (hw : x_W K h H) {a : Nat} {c : x_C} (c' : x_C) (ha : h.2.2 a = some c) (e1 : va_at (x_D K) vwCl (a, x_E K c') H') (e2 : H'.size = H.size) (e3 : ∀ q, q ≠ a → H'[q]? = H[q]?) : x_W K (x_up h a c') H' := by
  obtain ⟨w1, w2, w3, w4⟩ := hw
  refine ⟨e2.trans w1, w2, fun b x hb => ?_, fun q hq => ?_⟩
  · by_cases hba : b = a
    · subst hba
      have hx : some c' = some x := by rw [← hb]; exact (va_up_self _ _ _).symm
      cases hx
      exact ⟨(w3 b c ha).1, e1⟩
    · have hx : h.2.2 b = some x := by rw [← hb]; exact (va_up_ne _ _ hba).symm
      exact ⟨(w3 b x hx).1, (w3 b x hx).2.kept (e3 b hba)⟩
  · have hne : q ≠ a := by
      have := (w3 a c ha).1
      omega
    rw [e3 q hne]; exact w4 q hq
theorem x_W.nw {K : x_K} {h : x_H} {H H' : Heap} (hw : x_W K h H) (n : Nat) (c' : x_C) (e1 : va_at (x_D K) vwCl (h.1, x_E K c') H') (e2 : H'.size = h.1 + 1) (e3 : ∀ q, q < h.1 → H'[q]? = H[q]?) : x_W K (x_nw h n c') H' := by
  have hlt : ∀ {a : Nat} {c : x_C}, h.2.2 a = some c → a < h.1 := fun ha => x_W.lt hw ha
  obtain ⟨w1, w2, w3, w4⟩ := hw
  refine ⟨e2, Nat.le_succ_of_le w2, fun b x hb => ?_, fun q hq => ?_⟩
  · by_cases hba : b = h.1
    · subst hba
      have hx : some c' = some x := by rw [← hb]; exact (va_up_self _ _ _).symm
      cases hx
      exact ⟨w2, e1⟩
    · have hx : h.2.2 b = some x := by rw [← hb]; exact (va_up_ne _ _ hba).symm
      exact ⟨(w3 b x hx).1, (w3 b x hx).2.kept (e3 b (hlt hx))⟩
  · rw [e3 q (by omega)]; exact w4 q hq
/-- a cell that isn't spoken of -/
theorem x_W.junk {K : x_K} {h : x_H} {H H' : Heap} (hw : x_W K h H) (n : Nat) (e2 : H'.size = h.1 + 1) (e3 : ∀ q, q < h.1 → H'[q]? = H[q]?) : x_W K (h.1 + 1, h.2.1 + n, h.2.2) H' := by
  have hlt : ∀ {a : Nat} {c : x_C}, h.2.2 a = some c → a < h.1 := fun ha => x_W.lt hw ha
  obtain ⟨w1, w2, w3, w4⟩ := hw
  refine ⟨e2, Nat.le_succ_of_le w2, fun b x hb => ⟨(w3 b x hb).1, (w3 b x hb).2.kept (e3 b (hlt hb))⟩, fun q hq => ?_⟩
  rw [e3 q (by omega)]; exact w4 q hq
theorem x_W.P {K : x_K} {h : x_H} {H : Heap} (hw : x_W K h H) {a : Nat} {c : x_C} (ha : h.2.2 a = some c) : va_P (x_D K) vwCl [(a, x_E K c)] H := by
  intro k q hk
  have hz : k < 1 := (List.getElem?_eq_some_iff.mp hk).1
  obtain rfl : k = 0 := by omega
  cases hk
  exact (hw.2.2.1 a c ha).2
-- locals: those that are known
def x_pr (lv : List (Option Value)) : List (Nat × Value) := (List.range lv.length).filterMap (fun i => match lv[i]? with
  | some (some v) => some (i, v)
  | _ => none)
theorem x_pr_mem {lv : List (Option Value)} {i : Nat} {v : Value} : (i, v) ∈ x_pr lv ↔ lv[i]? = some (some v) := by
  unfold x_pr
  rw [List.mem_filterMap]
  constructor
  · rintro ⟨j, -, hj⟩
    cases hl : lv[j]? with
    | none => rw [hl] at hj; cases hj
    | some o =>
      cases o with
      | none => rw [hl] at hj; cases hj
      | some w =>
        rw [hl] at hj
        cases hj
        exact hl
  · intro hl
    refine ⟨i, List.mem_range.mpr (List.getElem?_eq_some_iff.mp hl).1, ?_⟩
    rw [hl]
theorem x_l.has {ls : Array Slot} {n : Nat} {lv : List (Option Value)} (hl : x_l ls n lv) : lv_has ls n (x_pr lv) := ⟨hl.1, hl.2.1, fun q hq => hl.2.2 q.1 q.2 (x_pr_mem.mp hq)⟩
def x_k : Option Value → Option Value
  | some w => if w.category = 2 then none else some w
  | none => none
def x_st1 : List (Option Value) → Nat → Value → List (Option Value)
  | [], _, _ => []
  | _ :: r, 0, v => some v :: r
  | a :: r, i + 1, v => (if i = 0 then x_k a else a) :: x_st1 r i v
def x_st2 : List (Option Value) → Nat → Value → List (Option Value)
  | [], _, _ => []
  | _ :: [], 0, v => [some v]
  | _ :: _ :: r, 0, v => some v :: none :: r
  | a :: r, i + 1, v => (if i = 0 then x_k a else a) :: x_st2 r i v
theorem x_k_spec {o : Option Value} {w : Value} (h : x_k o = some w) : o = some w ∧ ¬ w.category = 2 := by
  cases o with
  | none => cases h
  | some u =>
    have h' : (if u.category = 2 then none else some u) = some w := h
    by_cases hc : u.category = 2
    · rw [if_pos hc] at h'; cases h'
    · rw [if_neg hc] at h'; cases h'; exact ⟨rfl, hc⟩
theorem x_st1_spec : ∀ (lv : List (Option Value)) (i : Nat) (v : Value) (j : Nat) (w : Value), (x_st1 lv i v)[j]? = some (some w) → (j = i ∧ w = v) ∨ (j ≠ i ∧ lv[j]? = some (some w) ∧ ¬ (j + 1 = i ∧ w.category = 2))
  | [], i, v, j, w, h => by simp [x_st1] at h
  | a :: r, 0, v, j, w, h => by
    cases j with
    | zero => simp [x_st1] at h; exact Or.inl ⟨rfl, h.symm⟩
    | succ j => simp [x_st1] at h; exact Or.inr ⟨by omega, by simpa using h, by omega⟩
  | a :: r, i + 1, v, j, w, h => by
    cases j with
    | zero =>
      simp only [x_st1, List.getElem?_cons_zero, Option.some.injEq] at h
      by_cases hi : i = 0
      · rw [if_pos hi] at h
        obtain ⟨h1, h2⟩ := x_k_spec h
        exact Or.inr ⟨by omega, by simpa using h1, fun q => h2 q.2⟩
      · rw [if_neg hi] at h
        exact Or.inr ⟨by omega, by simpa using h, by omega⟩
    | succ j =>
      simp only [x_st1, List.getElem?_cons_succ] at h
      rcases x_st1_spec r i v j w h with ⟨h1, h2⟩ | ⟨h1, h2, h3⟩
      · exact Or.inl ⟨by omega, h2⟩
      · exact Or.inr ⟨by omega, by simpa using h2, fun q => h3 ⟨by omega, q.2⟩⟩
theorem x_st2_spec : ∀ (lv : List (Option Value)) (i : Nat) (v : Value) (j : Nat) (w : Value), (x_st2 lv i v)[j]? = some (some w) → (j = i ∧ w = v) ∨ (j ≠ i ∧ j ≠ i + 1 ∧ lv[j]? = some (some w) ∧ ¬ (j + 1 = i ∧ w.category = 2))
  | [], i, v, j, w, h => by simp [x_st2] at h
  | [a], 0, v, j, w, h => by
    cases j with
    | zero => simp [x_st2] at h; exact Or.inl ⟨rfl, h.symm⟩
    | succ j => simp [x_st2] at h
  | a :: b :: r, 0, v, j, w, h => by
    cases j with
    | zero => simp [x_st2] at h; exact Or.inl ⟨rfl, h.symm⟩
    | succ j =>
      cases j with
      | zero => simp [x_st2] at h
      | succ j => simp [x_st2] at h; exact Or.inr ⟨by omega, by omega, by simpa using h, by omega⟩
  | a :: r, i + 1, v, j, w, h => by
    cases j with
    | zero =>
      simp only [x_st2, List.getElem?_cons_zero, Option.some.injEq] at h
      by_cases hi : i = 0
      · rw [if_pos hi] at h
        obtain ⟨h1, h2⟩ := x_k_spec h
        exact Or.inr ⟨by omega, by omega, by simpa using h1, fun q => h2 q.2⟩
      · rw [if_neg hi] at h
        exact Or.inr ⟨by omega, by omega, by simpa using h, by omega⟩
    | succ j =>
      simp only [x_st2, List.getElem?_cons_succ] at h
      rcases x_st2_spec r i v j w h with ⟨h1, h2⟩ | ⟨h1, h2, h3, h4⟩
      · exact Or.inl ⟨by omega, h2⟩
      · exact Or.inr ⟨by omega, by omega, by simpa using h3, fun q => h4 ⟨by omega, q.2⟩⟩
theorem x_l.of1 {ls : Array Slot} {n i : Nat} {v : Value} {lv lv' : List (Option Value)} (hl : lv_has ls n ((i, v) :: (x_pr lv).filter (fun q => !(q.1 == i) && !(q.1 + 1 == i && q.2.category == 2)))) (he : x_st1 lv i v = lv') : x_l ls n lv' := by
  refine ⟨hl.1, hl.2.1, fun j w hj => ?_⟩
  subst he
  rcases x_st1_spec lv i v j w hj with ⟨rfl, rfl⟩ | ⟨h1, h2, h3⟩
  · exact hl.2.2 _ List.mem_cons_self
  · refine hl.2.2 (j, w) (List.mem_cons_of_mem _ (List.mem_filter.mpr ⟨x_pr_mem.mpr h2, ?_⟩))
    simp only [Bool.and_eq_true, Bool.not_eq_true', beq_eq_false_iff_ne, Bool.and_eq_false_imp, beq_iff_eq]
    exact ⟨h1, fun a b => h3 ⟨a, b⟩⟩
theorem x_l.of2 {ls : Array Slot} {n i : Nat} {v : Value} {lv lv' : List (Option Value)} (hl : lv_has ls n ((i, v) :: (x_pr lv).filter (fun q => !(q.1 == i) && (!(q.1 == i + 1) && !(q.1 + 1 == i && q.2.category == 2))))) (he : x_st2 lv i v = lv') : x_l ls n lv' := by
  refine ⟨hl.1, hl.2.1, fun j w hj => ?_⟩
  subst he
  rcases x_st2_spec lv i v j w hj with ⟨rfl, rfl⟩ | ⟨h1, h2, h3, h4⟩
  · exact hl.2.2 _ List.mem_cons_self
  · refine hl.2.2 (j, w) (List.mem_cons_of_mem _ (List.mem_filter.mpr ⟨x_pr_mem.mpr h3, ?_⟩))
    simp only [Bool.and_eq_true, Bool.not_eq_true', beq_eq_false_iff_ne, Bool.and_eq_false_imp, beq_iff_eq]
    exact ⟨h1, h2, fun a b => h4 ⟨a, b⟩⟩
def x_r : Value → Bool
  | .ref _ => true
  | .null => true
  | _ => false
theorem x_r_rf (o : Option Nat) : x_r (va_rf o) = true := by cases o <;> rfl
theorem x_k_rf (o : Option Nat) : x_k (some (va_rf o)) = some (va_rf o) := by cases o <;> rfl
theorem x_r_cases {v : Value} (h : x_r v = true) : (∃ a : Nat, v = .ref a) ∨ v = .null := by
  cases v <;> first | exact Or.inl ⟨_, rfl⟩ | exact Or.inr rfl | cases h
