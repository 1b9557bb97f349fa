/-! THE CLAIM OUT OF ONE WALK OF THE LAW'S BODY. Your part is whole_start (and what it stands on); all else here is the same for every law, but numbers. -/
def R_law : String := "SnapshotTrieLaw"
def lw_P (b : Addr) (xs : List Int32) (args : Array Value) (s : State) : Prop := args = #[.ref b] ∧ s.IntsAt b xs ∧ xs.length ≤ 3584 ∧ (Jvm.Cond.and given_1 narrow_1).before args s = true
def lw_Q (_ : Array Value) (s : State) (o : Outcome) (t : State) : Prop := o = .returned (some (.int 1)) ∧ Framed s o t [] 776006 6768085
def lw_Z (below : List Frame) (a : Array Value) (s : State) : State → Prop := fun t => ∃ o, t.status = .running ∧ Ended t below o ∧ lw_Q a s o t
/-- the law's own end, with 1 on the stack, nothing written that was there before, its room as the claim has it -/
theorem lw_ret {p : Program} {l : Launch} {e : Env} {s : State} {m : MethodId} {below : List Frame} {meth : Method} {c : Code} {b : Nat} (hx : p.tables.exec = Jvm.exec) (hb : c.code = code) (hr : meth.sig.returnType = ret) (hlocks : meth.locks = false) {pc : Nat} {H : Heap} {ls : Array Slot} (hdg : decode code pc = .ok (.ireturn, 1)) : W p l e room_1 s m #[Value.ref b] below meth c H [] 776006 6768085 (lw_Z below #[Value.ref b] s) (F0 m pc ls [.int 1]) := by
  intro T hT X
  obtain ⟨fs, hret, hrun, hended, hW, hframe⟩ := X.leave (v := some (.int 1)) (hlocks := hlocks) (fun h => by rw [hr] at h; cases h)
  have hmeth' : T.vm.method? m = some meth := X.method'
  refine ⟨T.setFrames fs, ?_, .returned (some (.int 1)), hrun, hended, rfl, ⟨_, rfl⟩, hW, hframe⟩
  jvm_step X.here [X.here.top, hx, hb, hdg, hmeth', hr, ret, narrow_b1]
  (try refine ⟨rfl, ?_⟩); (try refine ⟨rfl, ?_⟩)
  first | (intro acts; rw [hret _ acts rfl rfl rfl]) | rw [hret _ _ rfl rfl rfl]
  exact Steps.refl _
/-- what holds at the law's entry: the machine, the code, the tables' words (any of lw_tbl by 'hts w (by decide +kernel)'), the script of L ints xs at the cell b, what the Statement gives of the start (any of its parts by flat_of_before) -/
def lw_At (p : Program) (s : State) (m : MethodId) (meth : Method) (c : Code) (b L : Nat) (xs : Nat → Int32) : Prop :=
  p.tables.exec = Jvm.exec ∧ c.code = code ∧ meth.sig.returnType = ret ∧ c.maxLocals = 8 ∧ s.vm.findClass R_law = some m.cls ∧ (∀ w ∈ lw_tbl, w.before #[Value.ref b] s = true) ∧ va_X b L xs s s.heap ∧ b < s.heap.size ∧ meth.locks = false ∧ (Jvm.Cond.and given_1 narrow_1).before #[Value.ref b] s = true
theorem ws_nc {args : Array Value} {s : State} (h : (Jvm.Cond.and given_1 narrow_1).before args s = true) (i j : Nat) (a b : String) (hi : x_ex i = some a) (hj : x_ex j = some b) (hij : i ≠ j) : va_Nc a b s := by
  have hs := flat_of_before _ h
  have key : ∀ C T, (C = "java/lang/IllegalArgumentException" ∨ C = "java/lang/UnsupportedOperationException" ∨ C = "java/lang/IllegalStateException" ∨ C = "java/util/NoSuchElementException") → (T = "java/lang/IllegalArgumentException" ∨ T = "java/lang/UnsupportedOperationException" ∨ T = "java/lang/IllegalStateException" ∨ T = "java/util/NoSuchElementException") → C ≠ T → va_Nc C T s := by
    intro C T hC hT hne
    refine va_Nc.of (args := args) (hs _ ?_)
    rcases hC with rfl | rfl | rfl | rfl <;> rcases hT with rfl | rfl | rfl | rfl <;> first | exact absurd rfl hne | decide +kernel
  have nm : ∀ k c, x_ex k = some c → (k = 11 ∧ c = "java/lang/IllegalArgumentException") ∨ (k = 12 ∧ c = "java/lang/UnsupportedOperationException") ∨ (k = 13 ∧ c = "java/lang/IllegalStateException") ∨ (k = 14 ∧ c = "java/util/NoSuchElementException") := by
    intro k c hk
    unfold x_ex at hk
    split at hk
    · exact Or.inl ⟨rfl, (Option.some.inj hk).symm⟩
    · exact Or.inr (Or.inl ⟨rfl, (Option.some.inj hk).symm⟩)
    · exact Or.inr (Or.inr (Or.inl ⟨rfl, (Option.some.inj hk).symm⟩))
    · exact Or.inr (Or.inr (Or.inr ⟨rfl, (Option.some.inj hk).symm⟩))
    · cases hk
  have ha := nm i a hi
  have hb := nm j b hj
  refine key a b (by rcases ha with ⟨-, e⟩ | ⟨-, e⟩ | ⟨-, e⟩ | ⟨-, e⟩ <;> simp [e]) (by rcases hb with ⟨-, e⟩ | ⟨-, e⟩ | ⟨-, e⟩ | ⟨-, e⟩ <;> simp [e]) ?_
  rcases ha with ⟨e1, e⟩ | ⟨e1, e⟩ | ⟨e1, e⟩ | ⟨e1, e⟩ <;> rcases hb with ⟨f1, f⟩ | ⟨f1, f⟩ | ⟨f1, f⟩ | ⟨f1, f⟩ <;> first | (exact absurd (e1.trans f1.symm) hij) | (rw [e, f]; decide)
theorem whole_start {p : Program} {e : Env} {s : State} {m : MethodId} {below : List Frame} {meth : Method} {c : Code} (l : Launch) (hl : l.stackTraces = false) {b L : Nat} {xs : Nat → Int32} (hL : L ≤ 3584) (C0 : lw_At p s m meth c b L xs) (hn : s.methodNamed? x = some m) (hcw : (Jvm.Cond.code x code maxLocals ret).before #[Value.ref b] s = true) : W p l e room_1 s m #[Value.ref b] below meth c s.heap [] 0 0 (lw_Z below #[Value.ref b] s) (entryFrame m ([Value.ref b] : List Value).toArray 8) := by
  obtain ⟨c1, c2, c3, c4, c5, c6, c7, c8, c9, c10⟩ := C0
  have hflat := flat_of_before _ c10
  rw [lg_entry_eq]
  intro T hT X
  have hpl : e.platform.stackTraces = false := by rw [X.admits.platform]; exact hl
  obtain ⟨meth', c', f1, f2, f3, f4, f5, f6, f7, f8⟩ := Cond.code_spec hn hcw
  have em : meth' = meth := Option.some.inj (f1.symm.trans X.method)
  subst em
  have ec : c' = c := Option.some.inj (f2.symm.trans X.code)
  subst ec
  have htab : c'.exceptionTable = #[] := by simpa using f7
  have kn := ws_known c6
  have ca := ws_ca c6
  obtain ⟨K, hK⟩ : ∃ K : x_K, K = ((p, l, e, s, #[Value.ref b]), (fun i => (Classical.choose (kn i)).1, fun i => (Classical.choose (kn i)).2), fun k => Classical.choose (ca k), s.heap.size, s.heap.size + 776006, 6768085) := ⟨_, rfl⟩
  have hB : x_B K = s.heap.size := by rw [hK]
  have hcap : x_cap K = s.heap.size + 776006 := by rw [hK]
  have hcas : x_cas K = 6768085 := by rw [hK]
  have hs : x_s K = s := by rw [hK]
  have hok : x_ok K := by
    rw [hK]
    exact ⟨c1, c6, ⟨fun i r hr => Classical.choose_spec (kn i) r hr, fun k q hk => by cases hk⟩, fun k ty hk => (Classical.choose_spec (ca k)).1 ty hk, fun k nm hk => (Classical.choose_spec (ca k)).2 nm hk, hpl, rfl,
      xv_Zqof (c6 _ (by decide +kernel)) (c6 _ (by decide +kernel)) (hflat _ (by decide +kernel)) (fun a ha => Nat.not_le.mpr ha), xv_Zqof (c6 _ (by decide +kernel)) (c6 _ (by decide +kernel)) (hflat _ (by decide +kernel)) (fun a ha => Nat.not_le.mpr ha), ws_nc c10⟩
  have G := w_law (K := K) (N := 512) (d := 13) (b := b) (L := L) (xs := xs) (h := (s.heap.size, 0, fun _ => none)) (by rw [hs]; exact c7) (by rw [hB]; exact c8) (by omega) (by omega) (by omega) (by omega) (by rw [hcap]; show s.heap.size + 100 + 40 * 512 ≤ _; omega) (by rw [hcas]; show 0 + 4000 + 200 * 512 ≤ 6768085; decide)
  have F : x_F K M_Law_law 13 room_1 s m meth' c' s.heap (s.heap.size, 0, fun _ => none) [] 0 0 s.heap.size 0 := by
    refine ⟨hok, by rw [hs]; exact State.WarmedH.refl s, ⟨c2, c4, c3, c9, (name_of_methodNamed hn f1).1, by rw [htab]; rfl⟩, c5, ⟨by decide, by decide, ?_, ?_⟩, ⟨?_, Nat.zero_le _, ?_, Nat.zero_le _⟩, ⟨rfl, ?_, fun a q h => (by cases h), fun q _ => (by rw [hs])⟩, fun q hq => (by cases hq)⟩
    · rw [hcap]
      show s.heap.size + 776006 - s.heap.size ≤ 776006
      omega
    · rw [hcas]
      decide
    · show 0 + s.heap.size ≤ s.heap.size
      omega
    · rw [hcap]
      show s.heap.size ≤ s.heap.size + 776006
      omega
    · rw [hB]
      exact Nat.le_refl _
  have hent : x_l ((lg_sl [Value.ref b] ++ List.replicate (8 - (lg_sl [Value.ref b]).length) Slot.unset).toArray) 8 [some (.ref b), none, none, none, none, none, none, none] := x_en_l (As := [Value.ref b]) (n := 8) (Nat.le_of_ble_eq_true rfl)
  have G' := G room_1 s m #[Value.ref b] below meth' c' s.heap [] 0 0 _ s.heap.size 0 F hent T hT
  rw [hK] at G'
  obtain ⟨t, hst, o, xo, h', b1, b2, b3, ⟨Lc, k, n, hs1, hs2, hs3, hs4⟩, b5, b6, b7, b8, b9⟩ := G' X
  have hs2' : ∀ q ∈ Lc, s.heap.size ≤ q.base := hs2
  have b7' : h'.1 ≤ s.heap.size + 776006 := b7
  have b8' : h'.2.1 ≤ 6768085 := b8
  refine ⟨t, hst, ?_⟩
  cases xo with
  | inr q => exact b9.elim
  | inl v =>
    have b9' : v = some (.int (nI 1)) := b9
    subst b9'
    have b5' : o = .returned (some (.int (nI 1))) := b5
    subst b5'
    exact ⟨_, b1, b2, rfl, ⟨_, rfl⟩, b3, hs1.weaken (fun q hq hlt => absurd (hs2' q hq) (Nat.not_le.mpr hlt)) (by omega) (by omega)⟩
set_option maxHeartbeats 4000000 in
theorem lw_walk (l : Launch) (hl : l.stackTraces = false) (b : Addr) (xs : List Int32) : MetFree l x (headSpec (Jvm.Cond.code x code maxLocals ret :: tables_1) room_1) (lw_P b xs) (fun _ _ _ _ _ => True) lw_Q := by
  refine MetFree.of_bodyS (code := code) (maxLocals := maxLocals) (ret := ret) (by decide) ?_ ?_
  · intro args s m h hn
    obtain ⟨meth, c, h1, h2, h3, h4, h5, h6, -, -⟩ := Cond.code_spec hn (atoms_spec (ws := Jvm.Cond.code x code maxLocals ret :: tables_1) h _ List.mem_cons_self)
    exact ⟨meth, c, h1, h2, h3, h4, h5, h6⟩
  · intro p e s m args below meth c s₁ B hml0 hP _
    obtain ⟨rfl, hx, hbd, hgv⟩ := hP
    obtain ⟨scr, harrAt, hlist, hof, hsmall⟩ := hx
    obtain ⟨hcb, hkn, -, -⟩ := State.arrayAt?_spec harrAt
    have hown : s.vm.findClass R_law = some m.cls := findClass_of_methodNamed B.named
    have hts0 : ∀ c ∈ (Jvm.Cond.code x code maxLocals ret :: tables_1), c.before #[Value.ref b] s = true := atoms_spec (ws := Jvm.Cond.code x code maxLocals ret :: tables_1) B.pre
    have hts : ∀ w ∈ lw_tbl, w.before #[Value.ref b] s = true := k2_hts_sels lw_privs (fun w hw => hts0 w (List.mem_cons_of_mem _ hw)) lw_privs_ok
    have hml : c.maxLocals = 8 := B.maxLocals_eq (hts0 _ List.mem_cons_self)
    have X₀ : Stand p l e room_1 s m #[Value.ref b] below meth c s₁ [] 0 0 := Stand.of_body B
    have hh0 : s₁.heap = s.heap := by rw [B.state]; rfl
    have hsz : scr.slots.size = xs.length := by rw [← Array.length_toList, hlist, List.length_map]
    have hval : ∀ j : Nat, j < xs.length → scr.slots[j]? = some (.int (xs.getD j 0)) := fun j hj => by
      rw [← Array.getElem?_toList, hlist]
      simp [hj]
    have hbl : b < s.heap.size := (Array.getElem?_eq_some_iff.mp hcb).1
    have hX : va_X b xs.length (fun j => xs.getD j 0) s s.heap := ⟨scr, hcb, hof, hkn, hsz, hval⟩
    have K : W p l e room_1 s m #[Value.ref b] below meth c s₁.heap [] 0 0 (lw_Z below #[Value.ref b] s) (entryFrame m ([Value.ref b] : List Value).toArray 8) := by
      rw [hh0]
      exact whole_start l hl hbd ⟨B.exec, B.bytes, B.returns, hml, hown, hts, hX, hbl, B.notSynchronized, hgv⟩ B.named (hts0 _ List.mem_cons_self)
    obtain ⟨t, a1, o, b1, b2, b3⟩ := K s₁ rfl X₀
    exact ⟨t, o, a1, b1, b2, b3⟩
theorem lw_pre_spec {args : Array Value} {s : State} (h : (Jvm.Cond.and given_1 narrow_1).before args s = true) (hr : rest_1_c.before args s = true) : ∃ (b : Addr) (xs : List Int32), lw_P b xs args s := by
  have hs := flat_of_before _ h
  have hq := flat_of_before _ hr
  have hc : (Cond.count 1).before args s = true := hs _ (by decide +kernel)
  have harr : (Cond.arrayOf (.arg 0) .int).before args s = true := hs _ (by decide +kernel)
  have hle : (Cond.le (.length (.arg 0)) (.int 3584)).before args s = true := hs _ (by decide +kernel)
  have hlen : (Cond.isInt (.length (.arg 0))).before args s = true := hq _ (by decide +kernel)
  have hall : (Cond.all (.arg 0) (.isInt (.elem (.arg 0) (.index 0)))).before args s = true := hq _ (by decide +kernel)
  obtain ⟨b, xs, hb, hx⟩ := State.ints_of_pre rfl harr hlen hall
  have hsm : xs.length < 2 ^ 31 := hx.choose_spec.2.2.2
  have hev : (Term.length (.arg 0)).eval args s none [] s = some (.int xs.length.toInt32) := hx.length_eval hb
  have hv := Cond.le_ints hev (show (Term.int 3584).eval args s none [] s = some (.int 3584) from rfl)
  have hd : xs.length.toInt32 ≤ 3584 := by
    simpa [Cond.before, Cond.holds, hv] using hle
  have hN : xs.length ≤ 3584 := (Int32.ofNat_le_ofNat hsm (by decide)).mp (show Int32.ofNat xs.length ≤ Int32.ofNat 3584 from hd)
  exact ⟨b, xs, Cond.one_arg hc (show args[0]? = some (.ref b) from hb), hx, hN, h⟩
theorem lw_comes (l : Launch) (hl : l.stackTraces = false) : Comes l x (Jvm.Cond.code x code maxLocals ret :: tables_1) room_1 (fun tb e args s => Calls_1 tb e args s ∧ rest_1 tb e args s ∧ Pre_1 tb e args s)
    (fun _ _ args s o t => lw_Q args s o t) := by
  intro p e ha hc hk s m args below hf hfit hheap happ hpre
  obtain ⟨b, xs, hP⟩ := lw_pre_spec hpre.2.2 hpre.2.1
  obtain ⟨k, o, h1, h2, h3, hQ⟩ := lw_walk l hl b xs p e ha hc hk s m args below hf ((Spec.applies_iff_loose hf).mp happ).1 hP trivial
  exact ⟨k, o, h1, h2, h3, hQ⟩
theorem lw_frame {s t : State} {o : Outcome} {args : Array Value} (h : Framed s o t [] 776006 6768085) :
    Framed s o t (fieldLocs frame_1_writes args s ++ arrayLocs frame_1_arrays args s ++ staticLocs frame_1_statics s) 776006 6768085 := h
theorem lw_limb (L : Cond) (hL : ∀ (args : Array Value) (s t : State), L.after args s (.returned (some (.int 1))) t = true) :
    ArmFor flags0 classFile x code maxLocals ret World_1 tables_1 room_1 Calls_1 rest_1 Pre_1
      (fun tb e a s o t => postC L tb e a s o t ∧ Framed s o t (fieldLocs frame_1_writes a s ++ arrayLocs frame_1_arrays a s ++ staticLocs frame_1_statics s) 776006 6768085) := by
  intro l hfl _ _ p e ha hc hk s m args below hf hfit hheap happ hpre
  obtain ⟨k, o, h1, h2, h3, rfl, hF⟩ := lw_comes l (by unfold Launch.stackTraces; rw [hfl]; decide +kernel) p e ha hc hk s m args below hf hfit hheap happ hpre
  exact ⟨k, _, h1, h2, h3, hL args s _, lw_frame hF⟩
theorem i_vc : Claimed_1_1 ∧ Claimed_1_2 := ⟨lw_limb limb_1_1 (fun args s t => by simp [limb_1_1, Cond.after, Cond.holds, Cond.value]), lw_limb limb_1_2 (fun args s t => Cond.after_iff.mpr (by
  first | (rw [show limb_1_2 = Cond.eq .result (.int 1) from rfl, Cond.eq_ints (x := 1) (y := 1) rfl rfl]; simp; done) | (simp [limb_1_2, Cond.value, Term.eval]; done)))⟩
