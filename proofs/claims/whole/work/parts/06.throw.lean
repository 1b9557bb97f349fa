section XE
variable {p : Program} {l : Launch} {e : Env} {R : Room} {s : State} {m : MethodId} {args : Array Value} {below : List Frame} {meth : Method} {c : Code} {H : Heap} {locs : List Loc} {cells slots : Nat}
theorem xv_frame {U : State} {k n : Nat} (h : s.sameButNew ({ U with vm := s.vm } : State) locs k n) : s.heap.size ≤ U.heap.size ∧ ∀ q : Nat, q < s.heap.size → (∀ z ∈ locs, z.base ≠ q) → U.heap[q]? = s.heap[q]? := by
  obtain ⟨-, h2, -, -, -, h6⟩ := h
  refine ⟨h2, fun q hq hz => ?_⟩
  obtain ⟨c9, e1, e2, e3, e4⟩ := h6 q _ (Array.getElem?_eq_getElem hq)
  have hs : c9.slots = (s.heap[q]).slots := Array.ext_getElem? fun i => e4 i fun hm => hz _ hm rfl
  have h9 : c9 = s.heap[q] := by
    rw [hs] at e2
    exact e2
  have e5 : U.heap[q]? = some c9 := e1
  rw [e5, h9, Array.getElem?_eq_getElem hq]
/-- the same frame, seen from here: as if the method were called anew in this heap -/
theorem xv_rebase {T : State} (X : Stand p l e R s m args below meth c T locs cells slots) {R' : Room} (hf : R'.frames ≤ R.frames) (hl : R'.locals ≤ R.locals) (hc : cells + R'.cells ≤ R.cells) (hs : slots + R'.slots ≤ R.slots) :
    Stand p l e R' ((T.setVm s.vm).setFrames (.invoking m args :: below)) m args below meth c T [] 0 0 := by
  have htop : (T.setVm s.vm).topJava?.isSome := X.here.top
  have hF : ((T.setVm s.vm).setFrames (.invoking m args :: below)).frames = .invoking m args :: below := State.frames_setFrames _ (State.cur_lt_of_top htop)
  obtain ⟨g₀, hg0⟩ := Option.isSome_iff_exists.mp htop
  obtain ⟨r, hr⟩ := State.topJava?_eq_some.mp hg0
  have hl9 : e.platform.stackLimits (T.setVm s.vm).me = e.platform.stackLimits s.me := X.limits
  have hb9 : (T.setVm s.vm).me.stackBytes = s.me.stackBytes := X.bytes
  refine ⟨X.admits, X.cas, X.clock, hF, ?_, X.hears, X.method, X.code, X.here, X.tail, X.warmed, ?_, ?_, ?_⟩
  · have h := X.room
    have hU : ((T.setVm s.vm).setFrames (.invoking m args :: below)).localsInUse = s.localsInUse := by
      rw [State.localsInUse_invoking hF (meth := meth) (c := c) X.method X.code, State.localsInUse_invoking X.frames X.method X.code]
    simp only [State.hasRoom, Bool.and_eq_true, decide_eq_true_eq] at h ⊢
    obtain ⟨⟨⟨⟨h1, h2, h3, h4, h5, h6⟩, h7⟩, h8⟩, h9⟩ := h
    rw [X.frames, List.length_cons] at h2 h3
    have q1 := X.heapSize
    have q2 := X.used
    simp only [hF, hU, List.length_cons, State.stackLimits_setFrames, State.stackBytes_setFrames, hl9, hb9]
    refine ⟨⟨⟨⟨by omega, by omega, by omega, by omega, by omega, h6⟩, ?_⟩, ?_⟩, X.book⟩
    · show T.heap.size + R'.cells ≤ e.platform.maxCells
      omega
    · show T.slotsUsed + R'.slots ≤ e.platform.maxSlots
      omega
  · rw [State.stackLimits_setFrames]; rfl
  · rw [State.stackBytes_setFrames]; rfl
  · refine ⟨?_, Nat.le_refl _, Nat.le_refl _, ?_, ?_, fun a c9 h9 => ⟨c9, h9, rfl, rfl, fun _ _ => rfl⟩⟩
    · obtain ⟨t, ht, -⟩ := State.frames_cons hr
      show T.setVm s.vm = { ((T.setVm s.vm).setFrames (.invoking m args :: below)).setFrames (T.setVm s.vm).frames with heap := T.heap, slotsUsed := T.slotsUsed }
      rw [State.setFrames_setFrames, State.setFrames_self ht]
      rfl
    · show T.slotsUsed = T.slotsUsed + ((T.heap.toList.drop T.heap.size).map (·.slots.size)).sum
      rw [List.drop_eq_nil_of_le (Nat.le_of_eq Array.length_toList)]
      rfl
    · show ((T.heap.toList.drop T.heap.size).map (·.slots.size)).sum ≤ 0
      rw [List.drop_eq_nil_of_le (Nat.le_of_eq Array.length_toList)]
      exact Nat.le_refl _
end XE
section XF
/-- words that hold in every frame: those that the tables alone decide -/
def x_dc : Cond → Bool
  | .declares _ => true
  | .castable _ _ => true
  | _ => false
def x_wk (w : Cond) : Bool := w.onTables && (w.keeps || x_dc w)
def x_sp (w : Cond) : Bool := decide (w = .isRef (.static Bundle.tN "UNASSIGNED_STACK" Bundle.steD)) || decide (w = .isRef (.static Bundle.tN "SUPPRESSED_SENTINEL" Bundle.listD)) || decide (w = .laysStatic Bundle.tN "UNASSIGNED_STACK" Bundle.steD) || decide (w = .laysStatic Bundle.tN "SUPPRESSED_SENTINEL" Bundle.listD)
def x_atb (own : String) (ic : Nat) (cls : String) (names : List String) : Bool := (Bundle.ownAtoms0 own ic cls names).all (fun w => x_sp w || (decide (w ∈ lw_tbl) && x_wk w))
theorem x_wk_at {args a' : Array Value} {s U : State} (hW : s.WarmedH U.vm) {w : Cond} (hw : x_wk w = true) (h : w.before args s = true) : w.before a' U = true := by
  unfold x_wk at hw
  rw [Bool.and_eq_true, Bool.or_eq_true] at hw
  obtain ⟨h1, h2 | h2⟩ := hw
  · exact word_at hW (Or.inl (by rw [h1, h2]; rfl)) h
  · cases w with
    | declares y => exact va_Nw.use rfl (va_Nw.warmD hW (va_Nw.of rfl h))
    | castable a b => exact va_Nw.use rfl (va_Nw.warmC hW (va_Nw.of rfl h))
    | _ => cases h2
variable {K : x_K} {M M' : x_M} {d d' pc pc' : Nat} {lv lv' lv0 : List (Option Value)} {st : List Value} {h : x_H} {Q Q' : x_O → x_H → Prop}
set_option maxHeartbeats 1000000 in
/-- 'throw new E()' in a method without handlers -/
theorem go_throw {ik ic kx : Nat} {cls : String} {names : List String} (d0 : decode M.2.1 pc = .ok (.new ik, 3)) (d3 : decode M.2.1 (pc + 3) = .ok (.dup, 1)) (d4 : decode M.2.1 (pc + 4) = .ok (.invokespecial ic, 3)) (d7 : decode M.2.1 (pc + 7) = .ok (.athrow, 1))
    (hk : x_ex kx = some cls) (hcls : Bundle.fit cls = true) (hnames : ∀ n ∈ names, Bundle.fit n = true) (hlen : names.length = 2) (hw1 : Cond.classLink M.1.cls ik cls ∈ lw_tbl) (hw2 : Cond.initialized cls ∈ lw_tbl) (hat : x_atb M.1.cls ic cls names = true) (hh : M.2.2.2.2 = []) (hst : 2 * st.length ≤ 80)
    (hz : h.1 + 1 ≤ x_cap K) (hq : h.2.1 + 6 ≤ x_cas K) (k : Q (.inr (kx, h.1)) (h.1 + 1, h.2.1 + 6, h.2.2)) : Go K M d pc lv st h Q := by
  intro R s m args below meth c H locs cells slots ls z0 q0 hF hx T hT X
  have hcs := hF.cs
  have hrr := hF.rm
  have hcat := x_cat st
  have hok := hF.ok
  have hexec := hF.ex
  have hb := hF.cd
  have htr : (x_e K).platform.stackTraces = false := hok.2.2.2.2.2.1
  have Y := xv_rebase X (R' := { frames := R.frames, locals := R.locals, cells := 1, slots := 6 }) (Nat.le_refl _) (Nat.le_refl _) (show cells + 1 ≤ R.cells by omega) (show slots + 6 ≤ R.slots by omega)
  obtain ⟨s', hA⟩ : ∃ z, z = (T.setVm s.vm).setFrames (.invoking m args :: below) := ⟨_, rfl⟩
  rw [← hA] at Y
  have hvm : s'.vm = s.vm := by rw [hA]; rfl
  have hhp : s'.heap = H := by rw [hA]; exact hT
  have hW0 : s.WarmedH s'.vm := by rw [hvm]; exact State.WarmedH.refl s
  have hW1 : (x_s K).WarmedH s'.vm := by rw [hvm]; exact hF.wm
  have hold : ∀ a : Nat, a < (x_s K).heap.size → ¬ (x_B K ≤ a) → H[a]? = (x_s K).heap[a]? := fun a _ ha => hF.w.2.2.2 a (by omega)
  have hU' : xv_Zq Bundle.tN "UNASSIGNED_STACK" Bundle.steD (fun q => x_B K ≤ q) s' s'.heap := by rw [hhp]; exact xv_Zq.moved hW1.alike (hok.2.2.2.2.2.2.2.1.kept hold)
  have hN' : xv_Zq Bundle.tN "SUPPRESSED_SENTINEL" Bundle.listD (fun q => x_B K ≤ q) s' s'.heap := by rw [hhp]; exact xv_Zq.moved hW1.alike (hok.2.2.2.2.2.2.2.2.1.kept hold)
  have hwd : ∀ w ∈ Bundle.ownAtoms0 M.1.cls ic cls names, w.before args s' = true := by
    intro w hw
    have h1 := List.all_eq_true.mp hat w hw
    rw [Bool.or_eq_true] at h1
    rcases h1 with h1 | h1
    · unfold x_sp at h1
      simp only [Bool.or_eq_true, decide_eq_true_eq] at h1
      rcases h1 with ((h1 | h1) | h1) | h1
      · rw [h1]; exact xv_isRefq hU'.1
      · rw [h1]; exact xv_isRefq hN'.1
      · rw [h1]; exact hU'.2.word
      · rw [h1]; exact hN'.2.word
    · rw [Bool.and_eq_true, decide_eq_true_eq] at h1
      exact x_wk_at hW1 h1.2 (hok.2.1 w h1.1)
  have hown' : s'.vm.findClass M.1.cls = some m.cls := by rw [hvm]; exact hF.ow
  have hins : (Cond.instantiable cls 6).before args s' = true := hwd _ (by simp [Bundle.ownAtoms0])
  have hk' : (Cond.classLink M.1.cls ik cls).before args s' = true := word_at hW1 (Or.inl (x_kcl _ _ _)) (hok.2.1 _ hw1)
  have hini' : (Cond.initialized cls).before args s' = true := word_at hW1 (Or.inl (x_kii _)) (hok.2.1 _ hw2)
  obtain ⟨vm₁, cX, kX, hfX, hkX, -, -, X₁, st1⟩ := Y.newCold hexec (own := M.1.cls) (C := cls) (index := ik) (n := 6) hown' hk' hins hini'
    (g := F0 m pc ls st) rfl (by rw [hb]; exact d0) (Nat.le_refl _) (Nat.le_refl _)
  generalize hT1 : (T.setVm vm₁).pushCell { cls := cX, slots := kX.instanceTypes.map defaultValue, vm := .none } = T1 at X₁ st1
  have hc1 : (Value.ref T.heap.size).category = 1 := rfl
  have hcellA : T1.heap[T.heap.size]? = some (freshCell cX kX) := by rw [← hT1]; exact State.heap_pushCell_size _ _
  have d3' : decode c.code (pc + 3) = .ok (.dup, 1) := by rw [hb]; exact d3
  have htab : c.exceptionTable.toList = [] := by
    have := hF.tb
    rw [hh] at this
    exact List.map_eq_nil_iff.mp this
  obtain ⟨U, hsteps, hrun, hend, hW, hsame, ce, hce, hO⟩ := X₁.ctorThrow0 hexec htr (own := M.1.cls) (cls := cls) (names := names) (ic := ic) hown' hcls hnames hwd (fun x hx => nomatch hx) hfX hkX hcellA (by rw [hhp, hT]; exact Nat.le_refl _)
    (g := { method := m, pc := pc + 4, locals := ls, stack := .ref T.heap.size :: .ref T.heap.size :: st, locked := none }) rfl (by rw [hF.ml]; exact hx.1) rfl rfl (rest := st) rfl
    (by rw [hb]; exact d4) (by rw [hb]; exact d7) (fun x hx' => by rw [htab] at hx'; cases hx') (by rw [hlen]; show 2 + 3 < R.frames; omega) (by rw [hlen]; simp only [List.map_cons, List.sum_cons, hc1]; show 2 * 0 + (1 + (st.map fun v => v.category).sum) + (13 * (2 + 1) + 41) ≤ R.locals; omega) hF.lk
  obtain ⟨f1, f2⟩ := xv_frame hsame
  rw [hhp] at f1 f2
  have hWs : s.WarmedH U.vm := State.WarmedH.trans hW0 hW
  have hall : s.sameButNew ({ U with vm := s.vm } : State) locs (cells + 1) (slots + 6) := by
    subst hA
    obtain ⟨e1, e2⟩ := hsame
    rw [State.setFrames_setFrames] at e1
    have h2 : (T.setVm s.vm).sameButNew ({ U with vm := s.vm } : State) [] (0 + 1) (0 + 6) := ⟨e1, e2⟩
    have h3 := X.same.trans h2
    rw [List.append_nil] at h3
    exact h3
  have hHs := hF.w.1
  have hTs : T.heap.size = h.1 := by rw [hT]; exact hHs
  have hUs : U.heap.size = h.1 + 1 := by
    have a1 : T.heap.size < U.heap.size := (Array.getElem?_eq_some_iff.mp hce).1
    have a2 : U.heap.size ≤ s'.heap.size + (0 + 1) := hsame.2.2.1
    rw [hhp] at a2
    omega
  have hcl : (x_s K).vm.findClass cls = some (x_ca K kx) := hok.2.2.2.2.1 kx cls hk
  have hcls2 : ce.cls = x_ca K kx := by
    have h9 := hO.cls
    rw [hvm, hF.wm.alike.findClass, hcl] at h9
    exact (Option.some.inj h9).symm
  refine ⟨U, ?_, .threw h.1, .inr (kx, h.1), (h.1 + 1, h.2.1 + 6, h.2.2), hrun, by rw [← hTs]; exact hend, hWs, ⟨locs, cells + 1, slots + 6, hall, hF.lc, by show cells + 1 + z0 ≤ h.1 + 1; omega, by show slots + 6 + q0 ≤ h.2.1 + 6; omega⟩,
    ⟨rfl, ce, by rw [← hTs]; exact hce, hO.vm, hcls2⟩, hF.w.junk 6 hUs (fun q hq => f2 q (by omega) (fun z hz => nomatch hz)), hz, hq, k⟩
  refine st1 _ ?_
  show Steps (x_p K).tables (x_e K) below (T1.setTop { method := m, pc := pc + 3, locals := ls, stack := .ref T.heap.size :: st, locked := none }) _
  jvm_step X₁.here [X₁.here.top, hexec, d3', Value.category]
  exact hsteps
end XF
