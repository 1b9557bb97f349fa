section
-- ===== PART A: goes FIRST, ahead of the names: the tables' words, and 'selects' of the private methods out of them =====
/-- a private method of a class that the tables say can be made, by its rows of tables_1 -/
def lw_okq (q : MethodName × Nat) : Prop := (q.1.cls ≠ "java/lang/invoke/MethodHandle" ∧ q.1.cls ≠ "java/lang/invoke/VarHandle") ∧ Cond.instantiable q.1.cls q.2 ∈ tables_1 ∧ Cond.privateMethod q.1 ∈ tables_1 ∧ Cond.instanceMethod q.1 ∈ tables_1
theorem lw_p0 : lw_okq (⟨"SnapshotTrie", "writableMap", "(I)LSnapshotTrie$TrieMap;"⟩, 5) := ⟨⟨by decide +kernel, by decide +kernel⟩, List.mem_of_getElem? (i := 17) (by decide +kernel), List.mem_of_getElem? (i := 106) (by decide +kernel), List.mem_of_getElem? (i := 107) (by decide +kernel)⟩
theorem lw_p1 : lw_okq (⟨"SnapshotTrie", "existingMap", "(I)LSnapshotTrie$TrieMap;"⟩, 5) := ⟨⟨by decide +kernel, by decide +kernel⟩, List.mem_of_getElem? (i := 17) (by decide +kernel), List.mem_of_getElem? (i := 110) (by decide +kernel), List.mem_of_getElem? (i := 111) (by decide +kernel)⟩
theorem lw_p2 : lw_okq (⟨"java/lang/Throwable", "fillInStackTrace", "(I)Ljava/lang/Throwable;"⟩, 6) := ⟨⟨by decide +kernel, by decide +kernel⟩, List.mem_of_getElem? (i := 153) (by decide +kernel), List.mem_of_getElem? (i := 151) (by decide +kernel), List.mem_of_getElem? (i := 152) (by decide +kernel)⟩
theorem lw_p3 : lw_okq (⟨"SnapshotTrie", "write", "(LSnapshotTrie$TrieMap;LSnapshotTrie$Entry;)V"⟩, 5) := ⟨⟨by decide +kernel, by decide +kernel⟩, List.mem_of_getElem? (i := 17) (by decide +kernel), List.mem_of_getElem? (i := 286) (by decide +kernel), List.mem_of_getElem? (i := 287) (by decide +kernel)⟩
theorem lw_p4 : lw_okq (⟨"SnapshotTrie", "leastMissingMap", "()I"⟩, 5) := ⟨⟨by decide +kernel, by decide +kernel⟩, List.mem_of_getElem? (i := 17) (by decide +kernel), List.mem_of_getElem? (i := 378) (by decide +kernel), List.mem_of_getElem? (i := 379) (by decide +kernel)⟩
theorem lw_p5 : lw_okq (⟨"SnapshotTrie", "newGeneration", "()I"⟩, 5) := ⟨⟨by decide +kernel, by decide +kernel⟩, List.mem_of_getElem? (i := 17) (by decide +kernel), List.mem_of_getElem? (i := 382) (by decide +kernel), List.mem_of_getElem? (i := 383) (by decide +kernel)⟩
theorem lw_p6 : lw_okq (⟨"SnapshotTrie", "leastFreeCursor", "()I"⟩, 5) := ⟨⟨by decide +kernel, by decide +kernel⟩, List.mem_of_getElem? (i := 17) (by decide +kernel), List.mem_of_getElem? (i := 400) (by decide +kernel), List.mem_of_getElem? (i := 401) (by decide +kernel)⟩
theorem lw_p7 : lw_okq (⟨"SnapshotTrie", "existingCursor", "(I)LSnapshotTrie$Cursor;"⟩, 5) := ⟨⟨by decide +kernel, by decide +kernel⟩, List.mem_of_getElem? (i := 17) (by decide +kernel), List.mem_of_getElem? (i := 428) (by decide +kernel), List.mem_of_getElem? (i := 429) (by decide +kernel)⟩
theorem lw_p8 : lw_okq (⟨"SnapshotTrie$Cursor", "goInto", "(LSnapshotTrie$Node;)V"⟩, 3) := ⟨⟨by decide +kernel, by decide +kernel⟩, List.mem_of_getElem? (i := 403) (by decide +kernel), List.mem_of_getElem? (i := 438) (by decide +kernel), List.mem_of_getElem? (i := 439) (by decide +kernel)⟩
theorem lw_p9 : lw_okq (⟨"SnapshotTrieModel", "none", "(I)Z"⟩, 16) := ⟨⟨by decide +kernel, by decide +kernel⟩, List.mem_of_getElem? (i := 466) (by decide +kernel), List.mem_of_getElem? (i := 531) (by decide +kernel), List.mem_of_getElem? (i := 532) (by decide +kernel)⟩
theorem lw_p10 : lw_okq (⟨"SnapshotTrieModel", "fail", "(I)I"⟩, 16) := ⟨⟨by decide +kernel, by decide +kernel⟩, List.mem_of_getElem? (i := 466) (by decide +kernel), List.mem_of_getElem? (i := 535) (by decide +kernel), List.mem_of_getElem? (i := 536) (by decide +kernel)⟩
theorem lw_p11 : lw_okq (⟨"SnapshotTrieModel", "find", "(II)I"⟩, 16) := ⟨⟨by decide +kernel, by decide +kernel⟩, List.mem_of_getElem? (i := 466) (by decide +kernel), List.mem_of_getElem? (i := 539) (by decide +kernel), List.mem_of_getElem? (i := 540) (by decide +kernel)⟩
theorem lw_p12 : lw_okq (⟨"SnapshotTrieModel", "sharing", "(III)I"⟩, 16) := ⟨⟨by decide +kernel, by decide +kernel⟩, List.mem_of_getElem? (i := 466) (by decide +kernel), List.mem_of_getElem? (i := 547) (by decide +kernel), List.mem_of_getElem? (i := 548) (by decide +kernel)⟩
theorem lw_p13 : lw_okq (⟨"SnapshotTrieModel", "add", "(IIJ)V"⟩, 16) := ⟨⟨by decide +kernel, by decide +kernel⟩, List.mem_of_getElem? (i := 466) (by decide +kernel), List.mem_of_getElem? (i := 551) (by decide +kernel), List.mem_of_getElem? (i := 552) (by decide +kernel)⟩
theorem lw_p14 : lw_okq (⟨"SnapshotTrieModel", "write", "(II)V"⟩, 16) := ⟨⟨by decide +kernel, by decide +kernel⟩, List.mem_of_getElem? (i := 466) (by decide +kernel), List.mem_of_getElem? (i := 555) (by decide +kernel), List.mem_of_getElem? (i := 556) (by decide +kernel)⟩
theorem lw_p15 : lw_okq (⟨"SnapshotTrieModel", "exists", "(III)Z"⟩, 16) := ⟨⟨by decide +kernel, by decide +kernel⟩, List.mem_of_getElem? (i := 466) (by decide +kernel), List.mem_of_getElem? (i := 562) (by decide +kernel), List.mem_of_getElem? (i := 563) (by decide +kernel)⟩
def lw_privs_1 : List (MethodName × Nat) := [(⟨"SnapshotTrie", "writableMap", "(I)LSnapshotTrie$TrieMap;"⟩, 5), (⟨"SnapshotTrie", "existingMap", "(I)LSnapshotTrie$TrieMap;"⟩, 5), (⟨"java/lang/Throwable", "fillInStackTrace", "(I)Ljava/lang/Throwable;"⟩, 6), (⟨"SnapshotTrie", "write", "(LSnapshotTrie$TrieMap;LSnapshotTrie$Entry;)V"⟩, 5), (⟨"SnapshotTrie", "leastMissingMap", "()I"⟩, 5), (⟨"SnapshotTrie", "newGeneration", "()I"⟩, 5), (⟨"SnapshotTrie", "leastFreeCursor", "()I"⟩, 5), (⟨"SnapshotTrie", "existingCursor", "(I)LSnapshotTrie$Cursor;"⟩, 5), (⟨"SnapshotTrie$Cursor", "goInto", "(LSnapshotTrie$Node;)V"⟩, 3), (⟨"SnapshotTrieModel", "none", "(I)Z"⟩, 16), (⟨"SnapshotTrieModel", "fail", "(I)I"⟩, 16), (⟨"SnapshotTrieModel", "find", "(II)I"⟩, 16), (⟨"SnapshotTrieModel", "sharing", "(III)I"⟩, 16), (⟨"SnapshotTrieModel", "add", "(IIJ)V"⟩, 16), (⟨"SnapshotTrieModel", "write", "(II)V"⟩, 16), (⟨"SnapshotTrieModel", "exists", "(III)Z"⟩, 16)]
theorem lw_r1 : ∀ q ∈ lw_privs_1, lw_okq q := List.forall_mem_cons.mpr ⟨lw_p0, List.forall_mem_cons.mpr ⟨lw_p1, List.forall_mem_cons.mpr ⟨lw_p2, List.forall_mem_cons.mpr ⟨lw_p3, List.forall_mem_cons.mpr ⟨lw_p4, List.forall_mem_cons.mpr ⟨lw_p5, List.forall_mem_cons.mpr ⟨lw_p6, List.forall_mem_cons.mpr ⟨lw_p7, List.forall_mem_cons.mpr ⟨lw_p8, List.forall_mem_cons.mpr ⟨lw_p9, List.forall_mem_cons.mpr ⟨lw_p10, List.forall_mem_cons.mpr ⟨lw_p11, List.forall_mem_cons.mpr ⟨lw_p12, List.forall_mem_cons.mpr ⟨lw_p13, List.forall_mem_cons.mpr ⟨lw_p14, List.forall_mem_cons.mpr ⟨lw_p15, fun _ h => absurd h List.not_mem_nil⟩⟩⟩⟩⟩⟩⟩⟩⟩⟩⟩⟩⟩⟩⟩⟩
theorem lw_p16 : lw_okq (⟨"SnapshotTrieModel", "fresh", "()I"⟩, 16) := ⟨⟨by decide +kernel, by decide +kernel⟩, List.mem_of_getElem? (i := 466) (by decide +kernel), List.mem_of_getElem? (i := 582) (by decide +kernel), List.mem_of_getElem? (i := 583) (by decide +kernel)⟩
theorem lw_p17 : lw_okq (⟨"SnapshotTrieModel", "has", "(III)Z"⟩, 16) := ⟨⟨by decide +kernel, by decide +kernel⟩, List.mem_of_getElem? (i := 466) (by decide +kernel), List.mem_of_getElem? (i := 610) (by decide +kernel), List.mem_of_getElem? (i := 611) (by decide +kernel)⟩
def lw_privs_2 : List (MethodName × Nat) := [(⟨"SnapshotTrieModel", "fresh", "()I"⟩, 16), (⟨"SnapshotTrieModel", "has", "(III)Z"⟩, 16)]
theorem lw_r2 : ∀ q ∈ lw_privs_2, lw_okq q := List.forall_mem_cons.mpr ⟨lw_p16, List.forall_mem_cons.mpr ⟨lw_p17, fun _ h => absurd h List.not_mem_nil⟩⟩
def lw_privs : List (MethodName × Nat) := lw_privs_1 ++ (lw_privs_2)
def lw_tbl : List Cond := k2_sels lw_privs ++ tables_1
theorem lw_privs_ok : ∀ q ∈ lw_privs, lw_okq q := by
  show ∀ q ∈ lw_privs_1 ++ (lw_privs_2), lw_okq q
  exact List.forall_mem_append.mpr ⟨lw_r1, lw_r2⟩
end
section
/-! classes, their fields in the order of the slots, their types (written by program out of the Statement) -/
def n_Cur : String := "SnapshotTrie$Cursor"
def T_Cur : u_T := fun k => match k with
  | 0 => ("SnapshotTrie$Cursor", "way", "[LSnapshotTrie$Node;", true)
  | 1 => ("SnapshotTrie$Cursor", "places", "[I", true)
  | _ => ("SnapshotTrie$Cursor", "level", "I", false)
def ty_Cur : Nat → FieldType := fun k => match k with
  | 0 => .array (.object "SnapshotTrie$Node")
  | 1 => .array .int
  | _ => .int
def n_Ent : String := "SnapshotTrie$Entry"
def T_Ent : u_T := fun k => match k with
  | 0 => ("SnapshotTrie$Entry", "key", "I", true)
  | _ => ("SnapshotTrie$Entry", "value", "J", true)
def ty_Ent : Nat → FieldType := fun k => match k with
  | 0 => .int
  | _ => .long
def n_Nod : String := "SnapshotTrie$Node"
def T_Nod : u_T := fun k => match k with
  | 0 => ("SnapshotTrie$Node", "generation", "I", true)
  | 1 => ("SnapshotTrie$Node", "entries", "[LSnapshotTrie$Entry;", true)
  | _ => ("SnapshotTrie$Node", "nodes", "[LSnapshotTrie$Node;", true)
def ty_Nod : Nat → FieldType := fun k => match k with
  | 0 => .int
  | 1 => .array (.object "SnapshotTrie$Entry")
  | _ => .array (.object "SnapshotTrie$Node")
def n_Tal : String := "SnapshotTrie$Tally"
def T_Tal : u_T := fun k => match k with
  | 0 => ("SnapshotTrie$Tally", "generation", "I", true)
  | 1 => ("SnapshotTrie$Tally", "keys", "I", false)
  | 2 => ("SnapshotTrie$Tally", "nodes", "I", false)
  | 3 => ("SnapshotTrie$Tally", "bags", "I", false)
  | 4 => ("SnapshotTrie$Tally", "levels", "I", false)
  | _ => ("SnapshotTrie$Tally", "ownNodes", "I", false)
def ty_Tal : Nat → FieldType := fun k => match k with
  | 0 => .int
  | 1 => .int
  | 2 => .int
  | 3 => .int
  | 4 => .int
  | _ => .int
def n_Map : String := "SnapshotTrie$TrieMap"
def T_Map : u_T := fun k => match k with
  | 0 => ("SnapshotTrie$TrieMap", "root", "LSnapshotTrie$Node;", false)
  | 1 => ("SnapshotTrie$TrieMap", "generation", "I", false)
  | _ => ("SnapshotTrie$TrieMap", "readOnly", "Z", true)
def ty_Map : Nat → FieldType := fun k => match k with
  | 0 => .object "SnapshotTrie$Node"
  | 1 => .int
  | _ => .boolean
def n_Tri : String := "SnapshotTrie"
def T_Tri : u_T := fun k => match k with
  | 0 => ("SnapshotTrie", "maps", "[LSnapshotTrie$TrieMap;", true)
  | 1 => ("SnapshotTrie", "cursors", "[LSnapshotTrie$Cursor;", true)
  | 2 => ("SnapshotTrie", "latestGeneration", "I", false)
  | 3 => ("SnapshotTrie", "latestCopies", "I", false)
  | _ => ("SnapshotTrie", "latestValue", "J", false)
def ty_Tri : Nat → FieldType := fun k => match k with
  | 0 => .array (.object "SnapshotTrie$TrieMap")
  | 1 => .array (.object "SnapshotTrie$Cursor")
  | 2 => .int
  | 3 => .int
  | _ => .long
def n_Mod : String := "SnapshotTrieModel"
def T_Mod : u_T := fun k => match k with
  | 0 => ("SnapshotTrieModel", "thrown", "I", false)
  | 1 => ("SnapshotTrieModel", "generations", "I", false)
  | 2 => ("SnapshotTrieModel", "there", "[Z", true)
  | 3 => ("SnapshotTrieModel", "readOnly", "[Z", true)
  | 4 => ("SnapshotTrieModel", "generation", "[I", true)
  | 5 => ("SnapshotTrieModel", "sizes", "[I", true)
  | 6 => ("SnapshotTrieModel", "keys", "[I", true)
  | 7 => ("SnapshotTrieModel", "values", "[J", true)
  | 8 => ("SnapshotTrieModel", "belongs", "[I", true)
  | 9 => ("SnapshotTrieModel", "copied", "I", false)
  | 10 => ("SnapshotTrieModel", "used", "[Z", true)
  | 11 => ("SnapshotTrieModel", "left", "[I", true)
  | 12 => ("SnapshotTrieModel", "far", "[I", true)
  | 13 => ("SnapshotTrieModel", "seen", "[I", true)
  | 14 => ("SnapshotTrieModel", "seenValues", "[J", true)
  | _ => ("SnapshotTrieModel", "value", "J", false)
def ty_Mod : Nat → FieldType := fun k => match k with
  | 0 => .int
  | 1 => .int
  | 2 => .array .boolean
  | 3 => .array .boolean
  | 4 => .array .int
  | 5 => .array .int
  | 6 => .array .int
  | 7 => .array .long
  | 8 => .array .int
  | 9 => .int
  | 10 => .array .boolean
  | 11 => .array .int
  | 12 => .array .int
  | 13 => .array .int
  | 14 => .array .long
  | _ => .long
abbrev vwCl : List vw_C := [(n_Cur, T_Cur, 3), (n_Ent, T_Ent, 2), (n_Nod, T_Nod, 3), (n_Tal, T_Tal, 6), (n_Map, T_Map, 3), (n_Tri, T_Tri, 5), (n_Mod, T_Mod, 16)]
-- arrays by the number of their kind, exceptions by the number of their class
def x_ty : Nat → Option FieldType
  | 0 => some .int
  | 1 => some .long
  | 2 => some .boolean
  | 3 => some (.object "SnapshotTrie$Entry")
  | 4 => some (.object "SnapshotTrie$Node")
  | 5 => some (.object "SnapshotTrie$TrieMap")
  | 6 => some (.object "SnapshotTrie$Cursor")
  | _ => none
def x_ex : Nat → Option String
  | 11 => some "java/lang/IllegalArgumentException"
  | 12 => some "java/lang/UnsupportedOperationException"
  | 13 => some "java/lang/IllegalStateException"
  | 14 => some "java/util/NoSuchElementException"
  | _ => none
end
section
/-! statics of the start: rows of the printed names (claim/NAMES.whole.lean.txt), with Bundle spelled out -/
def xv_L (C n d : String) (A : Nat → Prop) (U : State) (H : Heap) : Prop := ∃ (c : ClassId) (k : Class) (i : Nat) (f : Field) (a : Nat) (cell : Cell), U.vm.findClass C = some c ∧ U.fieldFound? C n d = some (c, k, i, f) ∧ f.isStatic = true ∧ k.statics = some a ∧ H[a]? = some cell ∧ cell.vm.isStatics = true ∧ cell.cls = c ∧ f.slot < cell.slots.size ∧ k.staticTypes[f.slot]? = some f.type ∧ ¬ A a
theorem xv_L.moved {C n d : String} {A : Nat → Prop} {u U : State} {H : Heap} (hvm : u.vm.Alike U.vm) (h : xv_L C n d A u H) : xv_L C n d A U H := by
  obtain ⟨c, k, i, f, a, cell, h1, h2, h3, h4, h5, h6, h7, h8, h9, h10⟩ := h
  obtain ⟨k', hi', he⟩ := State.fieldFound?_setVm hvm h2
  exact ⟨c, k', i, f, a, cell, by rw [hvm.findClass]; exact h1, hi', h3, by rw [he]; exact h4, h5, h6, h7, h8, by rw [he]; exact h9, h10⟩
theorem xv_L.kept {C n d : String} {A : Nat → Prop} {U : State} {H H1 : Heap} (h : xv_L C n d A U H) (hq : ∀ a : Nat, a < H.size → ¬ A a → H1[a]? = H[a]?) : xv_L C n d A U H1 := by
  obtain ⟨c, k, i, f, a, cell, h1, h2, h3, h4, h5, h6, h7, h8, h9, h10⟩ := h
  exact ⟨c, k, i, f, a, cell, h1, h2, h3, h4, by rw [hq a (Array.getElem?_eq_some_iff.mp h5).1 h10]; exact h5, h6, h7, h8, h9, h10⟩
theorem xv_L.narrow {C n d : String} {A B : Nat → Prop} {U : State} {H : Heap} (h : xv_L C n d A U H) (hAB : ∀ q, B q → A q) : xv_L C n d B U H := by
  obtain ⟨c, k, i, f, a, cell, h1, h2, h3, h4, h5, h6, h7, h8, h9, h10⟩ := h
  exact ⟨c, k, i, f, a, cell, h1, h2, h3, h4, h5, h6, h7, h8, h9, fun z => h10 (hAB _ z)⟩
theorem xv_L.word {C n d : String} {A : Nat → Prop} {s : State} {args : Array Value} (h : xv_L C n d A s s.heap) : (Cond.laysStatic C n d).before args s = true := by
  obtain ⟨c, k, i, f, a, cell, h1, h2, h3, h4, h5, h6, h7, h8, h9, -⟩ := h
  show (Cond.laysStatic C n d).holds args s none s [] = true
  exact Cond.laysStatic_of h1 h2 h3 h4 h5 h6 h7 h8 h9
/-- .. and what it holds: null or some reference -/
def xv_Zq (C n d : String) (A : Nat → Prop) (U : State) (H : Heap) : Prop := va_Zq C n d A U H ∧ xv_L C n d A U H
theorem xv_Zq.moved {C n d : String} {A : Nat → Prop} {u U : State} {H : Heap} (hvm : u.vm.Alike U.vm) (h : xv_Zq C n d A u H) : xv_Zq C n d A U H := ⟨va_Zq.moved hvm h.1, xv_L.moved hvm h.2⟩
theorem xv_Zq.kept {C n d : String} {A : Nat → Prop} {U : State} {H H1 : Heap} (h : xv_Zq C n d A U H) (hq : ∀ a : Nat, a < H.size → ¬ A a → H1[a]? = H[a]?) : xv_Zq C n d A U H1 := ⟨va_Zq.kept h.1 hq, xv_L.kept h.2 hq⟩
theorem xv_Zq.narrow {C n d : String} {A B : Nat → Prop} {U : State} {H : Heap} (h : xv_Zq C n d A U H) (hAB : ∀ q, B q → A q) : xv_Zq C n d B U H := ⟨va_Zq.narrow h.1 hAB, xv_L.narrow h.2 hAB⟩
theorem xv_Zqof {args : Array Value} {s : State} {C n d : String} {A : Nat → Prop} (hl : (Cond.laysStatic C n d).before args s = true) (hini : (Cond.initialized C).before args s = true) (h : (Cond.isRef (.static C n d)).before args s = true) (hA : ∀ a : Nat, a < s.heap.size → ¬ A a) : xv_Zq C n d A s s.heap := by
  refine ⟨va_Zqof hl hini h hA, ?_⟩
  obtain ⟨c, k, i, f, a, cell, h1, h2, h3, h4, h5, h6, h7, h8, h9⟩ := Cond.laysStatic_spec hl
  exact ⟨c, k, i, f, a, cell, h1, h2, h3, h4, h5, h6, h7, h8, h9, hA a (Array.getElem?_eq_some_iff.mp h5).1⟩
theorem xv_isRef {C n d : String} {v : Value} {A : Nat → Prop} {s : State} {args : Array Value} (h : va_Z C n d v A s s.heap) (hv : v.isRef = true) : (Cond.isRef (.static C n d)).before args s = true := by
  obtain ⟨cf, kf, fi, f, a, cell, h1, h2, h3, h4, h5, h6, h7, -⟩ := h
  have he : (Term.static C n d).eval args s none [] s = some v := by
    simp [Term.eval, State.fieldNamed?, h1, h2, h4, h5, h6, h7]
  simp only [Cond.before, Cond.holds, Cond.value, he]
  cases v <;> simp_all [Value.isRef]
theorem xv_isRefq {C n d : String} {A : Nat → Prop} {s : State} {args : Array Value} (h : va_Zq C n d A s s.heap) : (Cond.isRef (.static C n d)).before args s = true := by
  rcases h with h | ⟨t, h⟩
  · exact xv_isRef h rfl
  · exact xv_isRef h rfl
/-! A method's frame over a world of cells, and how it goes on: 'Go', said once, whatever frame of the machine lies beneath. -/
-- a cell: an array (number of its kind, what it holds) or an object (number of its class, its fields)
abbrev x_C : Type := (Nat × vp_A) ⊕ (Nat × List Value)
-- a heap: the next address, the slots made so far, the cells that are known
abbrev x_H : Type := Nat × Nat × (Nat → Option x_C)
-- how a method ends: with a value or none; or by an exception (number of its class, its address)
abbrev x_O : Type := Option Value ⊕ (Nat × Nat)
-- a method: name, code, locals, what it returns, its handlers
abbrev x_M : Type := MethodName × ByteArray × Nat × Option FieldType × List (Nat × Nat × Nat × Nat)
-- what stays the same: program, launch, surroundings, first state, its arguments; classes and slots; classes of arrays and exceptions; base address; most cells; most slots
abbrev x_K : Type := (Program × Launch × Env × State × Array Value) × va_G × (Nat → ClassId) × Nat × Nat × Nat
abbrev x_p (K : x_K) : Program := K.1.1
abbrev x_n (K : x_K) : Launch := K.1.2.1
abbrev x_e (K : x_K) : Env := K.1.2.2.1
abbrev x_s (K : x_K) : State := K.1.2.2.2.1
abbrev x_a (K : x_K) : Array Value := K.1.2.2.2.2
abbrev x_D (K : x_K) : va_G := K.2.1
abbrev x_ca (K : x_K) : Nat → ClassId := K.2.2.1
abbrev x_B (K : x_K) : Nat := K.2.2.2.1
abbrev x_cap (K : x_K) : Nat := K.2.2.2.2.1
abbrev x_cas (K : x_K) : Nat := K.2.2.2.2.2
def x_E (K : x_K) (c : x_C) : va_E := match c with
  | .inl q => .inl (x_ca K q.1, q.2)
  | .inr o => .inr o
def x_ok (K : x_K) : Prop :=
  (x_p K).tables.exec = Jvm.exec ∧ (∀ w ∈ lw_tbl, w.before (x_a K) (x_s K) = true) ∧ va_K (x_D K) vwCl [] (x_s K) ∧
  (∀ (k : Nat) (ty : FieldType), x_ty k = some ty → ArrOfT (x_s K) (x_ca K k) ty ∧ va_RA (x_s K) (x_ca K k) ty) ∧
  (∀ (k : Nat) (nm : String), x_ex k = some nm → (x_s K).vm.findClass nm = some (x_ca K k)) ∧
  (x_e K).platform.stackTraces = false ∧ (x_s K).heap.size = x_B K ∧
  xv_Zq Bundle.tN "UNASSIGNED_STACK" Bundle.steD (fun q => x_B K ≤ q) (x_s K) (x_s K).heap ∧ xv_Zq Bundle.tN "SUPPRESSED_SENTINEL" Bundle.listD (fun q => x_B K ≤ q) (x_s K) (x_s K).heap ∧
  ∀ (i j : Nat) (a b : String), x_ex i = some a → x_ex j = some b → i ≠ j → va_Nc a b (x_s K)
def x_W (K : x_K) (h : x_H) (H : Heap) : Prop :=
  H.size = h.1 ∧ x_B K ≤ h.1 ∧ (∀ (a : Nat) (c : x_C), h.2.2 a = some c → x_B K ≤ a ∧ va_at (x_D K) vwCl (a, x_E K c) H) ∧
  ∀ q : Nat, q < x_B K → H[q]? = (x_s K).heap[q]?
def x_F (K : x_K) (M : x_M) (d : Nat) (R : Room) (s : State) (m : MethodId) (meth : Method) (c : Code) (H : Heap) (h : x_H) (locs : List Loc) (cells slots z0 q0 : Nat) : Prop :=
  x_ok K ∧ (x_s K).WarmedH s.vm ∧
  (c.code = M.2.1 ∧ c.maxLocals = M.2.2.1 ∧ meth.sig.returnType = M.2.2.2.1 ∧ meth.locks = false ∧ meth.name = M.1.name ∧ c.exceptionTable.toList.map (fun x => (x.startPc, x.endPc, x.handlerPc, x.catchType)) = M.2.2.2.2) ∧
  s.vm.findClass M.1.cls = some m.cls ∧
  (d + 8 ≤ R.frames ∧ 100 * d + 300 ≤ R.locals ∧ x_cap K - z0 ≤ R.cells ∧ x_cas K - q0 ≤ R.slots) ∧
  (cells + z0 ≤ h.1 ∧ slots + q0 ≤ h.2.1 ∧ h.1 ≤ x_cap K ∧ h.2.1 ≤ x_cas K) ∧ x_W K h H ∧ ∀ q ∈ locs, x_B K ≤ q.base
-- an outcome of the machine and ours
def x_oo (K : x_K) (t : State) (o : Outcome) (xo : x_O) : Prop := match xo with
  | .inl v => o = .returned v
  | .inr q => o = .threw q.2 ∧ ∃ cell : Cell, t.heap[q.2]? = some cell ∧ cell.vm = .none ∧ cell.cls = x_ca K q.1
def x_Q (K : x_K) (s : State) (below : List Frame) (z0 q0 : Nat) (Q : x_O → x_H → Prop) : State → Prop := fun t =>
  ∃ (o : Outcome) (xo : x_O) (h' : x_H), t.status = .running ∧ Ended t below o ∧ s.WarmedH t.vm ∧
    (∃ (L : List Loc) (k n : Nat), s.sameButNew ({ t with vm := s.vm } : State) L k n ∧ (∀ q ∈ L, x_B K ≤ q.base) ∧ k + z0 ≤ h'.1 ∧ n + q0 ≤ h'.2.1) ∧
    x_oo K t o xo ∧ x_W K h' t.heap ∧ h'.1 ≤ x_cap K ∧ h'.2.1 ≤ x_cas K ∧ Q xo h'
def x_l (ls : Array Slot) (n : Nat) (lv : List (Option Value)) : Prop := ls.size = n ∧ lv_wf ls ∧ ∀ (i : Nat) (v : Value), lv[i]? = some (some v) → ls[i]? = some (.val v)
def Go (K : x_K) (M : x_M) (d pc : Nat) (lv : List (Option Value)) (st : List Value) (h : x_H) (Q : x_O → x_H → Prop) : Prop :=
  ∀ (R : Room) (s : State) (m : MethodId) (args : Array Value) (below : List Frame) (meth : Method) (c : Code) (H : Heap) (locs : List Loc) (cells slots : Nat) (ls : Array Slot) (z0 q0 : Nat),
    x_F K M d R s m meth c H h locs cells slots z0 q0 → x_l ls M.2.2.1 lv →
    W (x_p K) (x_n K) (x_e K) R s m args below meth c H locs cells slots (x_Q K s below z0 q0 Q) (F0 m pc ls st)
section XA
variable {K : x_K} {M : x_M} {d : Nat} {R : Room} {s : State} {m : MethodId} {meth : Method} {c : Code} {H : Heap} {h : x_H} {locs : List Loc} {cells slots z0 q0 : Nat}
theorem x_F.ok (hF : x_F K M d R s m meth c H h locs cells slots z0 q0) : x_ok K := hF.1
theorem x_F.ex (hF : x_F K M d R s m meth c H h locs cells slots z0 q0) : (x_p K).tables.exec = Jvm.exec := hF.1.1
theorem x_F.wm (hF : x_F K M d R s m meth c H h locs cells slots z0 q0) : (x_s K).WarmedH s.vm := hF.2.1
theorem x_F.cd (hF : x_F K M d R s m meth c H h locs cells slots z0 q0) : c.code = M.2.1 := hF.2.2.1.1
theorem x_F.ml (hF : x_F K M d R s m meth c H h locs cells slots z0 q0) : c.maxLocals = M.2.2.1 := hF.2.2.1.2.1
theorem x_F.rt (hF : x_F K M d R s m meth c H h locs cells slots z0 q0) : meth.sig.returnType = M.2.2.2.1 := hF.2.2.1.2.2.1
theorem x_F.lk (hF : x_F K M d R s m meth c H h locs cells slots z0 q0) : meth.locks = false := hF.2.2.1.2.2.2.1
theorem x_F.nm (hF : x_F K M d R s m meth c H h locs cells slots z0 q0) : meth.name = M.1.name := hF.2.2.1.2.2.2.2.1
theorem x_F.tb (hF : x_F K M d R s m meth c H h locs cells slots z0 q0) : c.exceptionTable.toList.map (fun x => (x.startPc, x.endPc, x.handlerPc, x.catchType)) = M.2.2.2.2 := hF.2.2.1.2.2.2.2.2
theorem x_F.ow (hF : x_F K M d R s m meth c H h locs cells slots z0 q0) : s.vm.findClass M.1.cls = some m.cls := hF.2.2.2.1
theorem x_F.rm (hF : x_F K M d R s m meth c H h locs cells slots z0 q0) : d + 8 ≤ R.frames ∧ 100 * d + 300 ≤ R.locals ∧ x_cap K - z0 ≤ R.cells ∧ x_cas K - q0 ≤ R.slots := hF.2.2.2.2.1
theorem x_F.cs (hF : x_F K M d R s m meth c H h locs cells slots z0 q0) : cells + z0 ≤ h.1 ∧ slots + q0 ≤ h.2.1 ∧ h.1 ≤ x_cap K ∧ h.2.1 ≤ x_cas K := hF.2.2.2.2.2.1
theorem x_F.w (hF : x_F K M d R s m meth c H h locs cells slots z0 q0) : x_W K h H := hF.2.2.2.2.2.2.1
theorem x_F.lc (hF : x_F K M d R s m meth c H h locs cells slots z0 q0) : ∀ q ∈ locs, x_B K ≤ q.base := hF.2.2.2.2.2.2.2
theorem x_F.kk (hF : x_F K M d R s m meth c H h locs cells slots z0 q0) : va_K (x_D K) vwCl [] s := va_K.moved hF.wm.alike hF.ok.2.2.1
theorem x_F.ar (hF : x_F K M d R s m meth c H h locs cells slots z0 q0) {k : Nat} {ty : FieldType} (hk : x_ty k = some ty) : va_K (x_D K) vwCl [(x_ca K k, ty)] s := by
  refine ⟨hF.kk.1, fun j q hj => ?_⟩
  have hz : j < 1 := (List.getElem?_eq_some_iff.mp hj).1
  obtain rfl : j = 0 := by omega
  cases hj
  obtain ⟨h1, h2⟩ := hF.ok.2.2.2.1 k ty hk
  exact ⟨arrOfT_moved hF.wm.alike h1, h2.moved hF.wm.alike⟩
/-- a word of the tables holds in every frame -/
theorem x_F.wd (hF : x_F K M d R s m meth c H h locs cells slots z0 q0) {w : Cond} (hw : w ∈ lw_tbl) (hc : ((w.onTables && w.keeps) = true ∨ ∃ ty, w = .arrayClass ty)) (args : Array Value) : w.before args s = true :=
  word_at hF.wm hc (hF.ok.2.1 w hw)
/-- the frame after a step that moves the heap -/
theorem x_F.mv (hF : x_F K M d R s m meth c H h locs cells slots z0 q0) {H' : Heap} {h' : x_H} {locs' : List Loc} {cells' slots' : Nat} (hw : x_W K h' H') (hl : ∀ q ∈ locs', x_B K ≤ q.base) (hc : cells' + z0 ≤ h'.1) (hs : slots' + q0 ≤ h'.2.1) (h1 : h'.1 ≤ x_cap K) (h2 : h'.2.1 ≤ x_cas K) :
    x_F K M d R s m meth c H' h' locs' cells' slots' z0 q0 := ⟨hF.1, hF.2.1, hF.2.2.1, hF.2.2.2.1, hF.2.2.2.2.1, ⟨hc, hs, h1, h2⟩, hw, hl⟩
end XA
def x_up (h : x_H) (a : Nat) (c : x_C) : x_H := (h.1, h.2.1, va_up h.2.2 a (some c))
def x_nw (h : x_H) (n : Nat) (c : x_C) : x_H := (h.1 + 1, h.2.1 + n, va_up h.2.2 h.1 (some c))
theorem x_W.lt {K : x_K} {h : x_H} {H : Heap} (hw : x_W K h H) {a : Nat} {c : x_C} (ha : h.2.2 a = some c) : a < h.1 := by
  have := (hw.2.2.1 a c ha).2.lt
  rw [← hw.1]; exact this
theorem x_W.up {K : x_K} {h : x_H} {H H' : Heap} (hw : x_W K h H) {a : Nat} {c : x_C} (c' : x_C) (ha : h.2.2 a = some c) (e1 : va_at (x_D K) vwCl (a, x_E K c') H') (e2 : H'.size = H.size) (e3 : ∀ q, q ≠ a → H'[q]? = H[q]?) : x_W K (x_up h a c') H' := by
  obtain ⟨w1, w2, w3, w4⟩ := hw
  refine ⟨e2.trans w1, w2, fun b x hb => ?_, fun q hq => ?_⟩
  · by_cases hba : b = a
    · subst hba
      have hx : some c' = some x := by rw [← hb]; exact (va_up_self _ _ _).symm
      cases hx
      exact ⟨(w3 b c ha).1, e1⟩
    · have hx : h.2.2 b = some x := by rw [← hb]; exact (va_up_ne _ _ hba).symm
      exact ⟨(w3 b x hx).1, (w3 b x hx).2.kept (e3 b hba)⟩
  · have hne : q ≠ a := by
      have := (w3 a c ha).1
      omega
    rw [e3 q hne]; exact w4 q hq
theorem x_W.nw {K : x_K} {h : x_H} {H H' : Heap} (hw : x_W K h H) (n : Nat) (c' : x_C) (e1 : va_at (x_D K) vwCl (h.1, x_E K c') H') (e2 : H'.size = h.1 + 1) (e3 : ∀ q, q < h.1 → H'[q]? = H[q]?) : x_W K (x_nw h n c') H' := by
  have hlt : ∀ {a : Nat} {c : x_C}, h.2.2 a = some c → a < h.1 := fun ha => x_W.lt hw ha
  obtain ⟨w1, w2, w3, w4⟩ := hw
  refine ⟨e2, Nat.le_succ_of_le w2, fun b x hb => ?_, fun q hq => ?_⟩
  · by_cases hba : b = h.1
    · subst hba
      have hx : some c' = some x := by rw [← hb]; exact (va_up_self _ _ _).symm
      cases hx
      exact ⟨w2, e1⟩
    · have hx : h.2.2 b = some x := by rw [← hb]; exact (va_up_ne _ _ hba).symm
      exact ⟨(w3 b x hx).1, (w3 b x hx).2.kept (e3 b (hlt hx))⟩
  · rw [e3 q (by omega)]; exact w4 q hq
/-- a cell that isn't spoken of -/
theorem x_W.junk {K : x_K} {h : x_H} {H H' : Heap} (hw : x_W K h H) (n : Nat) (e2 : H'.size = h.1 + 1) (e3 : ∀ q, q < h.1 → H'[q]? = H[q]?) : x_W K (h.1 + 1, h.2.1 + n, h.2.2) H' := by
  have hlt : ∀ {a : Nat} {c : x_C}, h.2.2 a = some c → a < h.1 := fun ha => x_W.lt hw ha
  obtain ⟨w1, w2, w3, w4⟩ := hw
  refine ⟨e2, Nat.le_succ_of_le w2, fun b x hb => ⟨(w3 b x hb).1, (w3 b x hb).2.kept (e3 b (hlt hb))⟩, fun q hq => ?_⟩
  rw [e3 q (by omega)]; exact w4 q hq
theorem x_W.P {K : x_K} {h : x_H} {H : Heap} (hw : x_W K h H) {a : Nat} {c : x_C} (ha : h.2.2 a = some c) : va_P (x_D K) vwCl [(a, x_E K c)] H := by
  intro k q hk
  have hz : k < 1 := (List.getElem?_eq_some_iff.mp hk).1
  obtain rfl : k = 0 := by omega
  cases hk
  exact (hw.2.2.1 a c ha).2
-- locals: those that are known
def x_pr (lv : List (Option Value)) : List (Nat × Value) := (List.range lv.length).filterMap (fun i => match lv[i]? with
  | some (some v) => some (i, v)
  | _ => none)
theorem x_pr_mem {lv : List (Option Value)} {i : Nat} {v : Value} : (i, v) ∈ x_pr lv ↔ lv[i]? = some (some v) := by
  unfold x_pr
  rw [List.mem_filterMap]
  constructor
  · rintro ⟨j, -, hj⟩
    cases hl : lv[j]? with
    | none => rw [hl] at hj; cases hj
    | some o =>
      cases o with
      | none => rw [hl] at hj; cases hj
      | some w =>
        rw [hl] at hj
        cases hj
        exact hl
  · intro hl
    refine ⟨i, List.mem_range.mpr (List.getElem?_eq_some_iff.mp hl).1, ?_⟩
    rw [hl]
theorem x_l.has {ls : Array Slot} {n : Nat} {lv : List (Option Value)} (hl : x_l ls n lv) : lv_has ls n (x_pr lv) := ⟨hl.1, hl.2.1, fun q hq => hl.2.2 q.1 q.2 (x_pr_mem.mp hq)⟩
def x_k : Option Value → Option Value
  | some w => if w.category = 2 then none else some w
  | none => none
def x_st1 : List (Option Value) → Nat → Value → List (Option Value)
  | [], _, _ => []
  | _ :: r, 0, v => some v :: r
  | a :: r, i + 1, v => (if i = 0 then x_k a else a) :: x_st1 r i v
def x_st2 : List (Option Value) → Nat → Value → List (Option Value)
  | [], _, _ => []
  | _ :: [], 0, v => [some v]
  | _ :: _ :: r, 0, v => some v :: none :: r
  | a :: r, i + 1, v => (if i = 0 then x_k a else a) :: x_st2 r i v
theorem x_k_spec {o : Option Value} {w : Value} (h : x_k o = some w) : o = some w ∧ ¬ w.category = 2 := by
  cases o with
  | none => cases h
  | some u =>
    have h' : (if u.category = 2 then none else some u) = some w := h
    by_cases hc : u.category = 2
    · rw [if_pos hc] at h'; cases h'
    · rw [if_neg hc] at h'; cases h'; exact ⟨rfl, hc⟩
theorem x_st1_spec : ∀ (lv : List (Option Value)) (i : Nat) (v : Value) (j : Nat) (w : Value), (x_st1 lv i v)[j]? = some (some w) → (j = i ∧ w = v) ∨ (j ≠ i ∧ lv[j]? = some (some w) ∧ ¬ (j + 1 = i ∧ w.category = 2))
  | [], i, v, j, w, h => by simp [x_st1] at h
  | a :: r, 0, v, j, w, h => by
    cases j with
    | zero => simp [x_st1] at h; exact Or.inl ⟨rfl, h.symm⟩
    | succ j => simp [x_st1] at h; exact Or.inr ⟨by omega, by simpa using h, by omega⟩
  | a :: r, i + 1, v, j, w, h => by
    cases j with
    | zero =>
      simp only [x_st1, List.getElem?_cons_zero, Option.some.injEq] at h
      by_cases hi : i = 0
      · rw [if_pos hi] at h
        obtain ⟨h1, h2⟩ := x_k_spec h
        exact Or.inr ⟨by omega, by simpa using h1, fun q => h2 q.2⟩
      · rw [if_neg hi] at h
        exact Or.inr ⟨by omega, by simpa using h, by omega⟩
    | succ j =>
      simp only [x_st1, List.getElem?_cons_succ] at h
      rcases x_st1_spec r i v j w h with ⟨h1, h2⟩ | ⟨h1, h2, h3⟩
      · exact Or.inl ⟨by omega, h2⟩
      · exact Or.inr ⟨by omega, by simpa using h2, fun q => h3 ⟨by omega, q.2⟩⟩
theorem x_st2_spec : ∀ (lv : List (Option Value)) (i : Nat) (v : Value) (j : Nat) (w : Value), (x_st2 lv i v)[j]? = some (some w) → (j = i ∧ w = v) ∨ (j ≠ i ∧ j ≠ i + 1 ∧ lv[j]? = some (some w) ∧ ¬ (j + 1 = i ∧ w.category = 2))
  | [], i, v, j, w, h => by simp [x_st2] at h
  | [a], 0, v, j, w, h => by
    cases j with
    | zero => simp [x_st2] at h; exact Or.inl ⟨rfl, h.symm⟩
    | succ j => simp [x_st2] at h
  | a :: b :: r, 0, v, j, w, h => by
    cases j with
    | zero => simp [x_st2] at h; exact Or.inl ⟨rfl, h.symm⟩
    | succ j =>
      cases j with
      | zero => simp [x_st2] at h
      | succ j => simp [x_st2] at h; exact Or.inr ⟨by omega, by omega, by simpa using h, by omega⟩
  | a :: r, i + 1, v, j, w, h => by
    cases j with
    | zero =>
      simp only [x_st2, List.getElem?_cons_zero, Option.some.injEq] at h
      by_cases hi : i = 0
      · rw [if_pos hi] at h
        obtain ⟨h1, h2⟩ := x_k_spec h
        exact Or.inr ⟨by omega, by omega, by simpa using h1, fun q => h2 q.2⟩
      · rw [if_neg hi] at h
        exact Or.inr ⟨by omega, by omega, by simpa using h, by omega⟩
    | succ j =>
      simp only [x_st2, List.getElem?_cons_succ] at h
      rcases x_st2_spec r i v j w h with ⟨h1, h2⟩ | ⟨h1, h2, h3, h4⟩
      · exact Or.inl ⟨by omega, h2⟩
      · exact Or.inr ⟨by omega, by omega, by simpa using h3, fun q => h4 ⟨by omega, q.2⟩⟩
theorem x_l.of1 {ls : Array Slot} {n i : Nat} {v : Value} {lv lv' : List (Option Value)} (hl : lv_has ls n ((i, v) :: (x_pr lv).filter (fun q => !(q.1 == i) && !(q.1 + 1 == i && q.2.category == 2)))) (he : x_st1 lv i v = lv') : x_l ls n lv' := by
  refine ⟨hl.1, hl.2.1, fun j w hj => ?_⟩
  subst he
  rcases x_st1_spec lv i v j w hj with ⟨rfl, rfl⟩ | ⟨h1, h2, h3⟩
  · exact hl.2.2 _ List.mem_cons_self
  · refine hl.2.2 (j, w) (List.mem_cons_of_mem _ (List.mem_filter.mpr ⟨x_pr_mem.mpr h2, ?_⟩))
    simp only [Bool.and_eq_true, Bool.not_eq_true', beq_eq_false_iff_ne, Bool.and_eq_false_imp, beq_iff_eq]
    exact ⟨h1, fun a b => h3 ⟨a, b⟩⟩
theorem x_l.of2 {ls : Array Slot} {n i : Nat} {v : Value} {lv lv' : List (Option Value)} (hl : lv_has ls n ((i, v) :: (x_pr lv).filter (fun q => !(q.1 == i) && (!(q.1 == i + 1) && !(q.1 + 1 == i && q.2.category == 2))))) (he : x_st2 lv i v = lv') : x_l ls n lv' := by
  refine ⟨hl.1, hl.2.1, fun j w hj => ?_⟩
  subst he
  rcases x_st2_spec lv i v j w hj with ⟨rfl, rfl⟩ | ⟨h1, h2, h3, h4⟩
  · exact hl.2.2 _ List.mem_cons_self
  · refine hl.2.2 (j, w) (List.mem_cons_of_mem _ (List.mem_filter.mpr ⟨x_pr_mem.mpr h3, ?_⟩))
    simp only [Bool.and_eq_true, Bool.not_eq_true', beq_eq_false_iff_ne, Bool.and_eq_false_imp, beq_iff_eq]
    exact ⟨h1, h2, fun a b => h4 ⟨a, b⟩⟩
def x_r : Value → Bool
  | .ref _ => true
  | .null => true
  | _ => false
theorem x_r_rf (o : Option Nat) : x_r (va_rf o) = true := by cases o <;> rfl
theorem x_k_rf (o : Option Nat) : x_k (some (va_rf o)) = some (va_rf o) := by cases o <;> rfl
theorem x_r_cases {v : Value} (h : x_r v = true) : (∃ a : Nat, v = .ref a) ∨ v = .null := by
  cases v <;> first | exact Or.inl ⟨_, rfl⟩ | exact Or.inr rfl | cases h
end
section
section XB
variable {K : x_K} {M : x_M} {d pc pc' : Nat} {lv lv' : List (Option Value)} {st : List Value} {h : x_H} {Q : x_O → x_H → Prop}
/-- what is known of locals may be forgotten -/
theorem go_wk (hl : ∀ (i : Nat) (v : Value), lv'[i]? = some (some v) → lv[i]? = some (some v)) (k : Go K M d pc lv' st h Q) : Go K M d pc lv st h Q := fun R s m args below meth c H locs cells slots ls z0 q0 hF hx =>
  k R s m args below meth c H locs cells slots ls z0 q0 hF ⟨hx.1, hx.2.1, fun i v hv => hx.2.2 i v (hl i v hv)⟩
theorem go_Q {Q' : x_O → x_H → Prop} (hq : ∀ o g, Q' o g → Q o g) (k : Go K M d pc lv st h Q') : Go K M d pc lv st h Q := by
  intro R s m args below meth c H locs cells slots ls z0 q0 hF hx T hT X
  obtain ⟨t, a, o, xo, g, b1, b2, b3, b4, b5, b6, b7, b8, b9⟩ := k R s m args below meth c H locs cells slots ls z0 q0 hF hx T hT X
  exact ⟨t, a, o, xo, g, b1, b2, b3, b4, b5, b6, b7, b8, hq _ _ b9⟩

theorem go_iconst {n : Int} {v : Int32} (hd : decode M.2.1 pc = .ok (.iconst n, 1)) (hv : Int32.ofInt n = v) (hp : pc + 1 = pc') (k : Go K M d pc' lv (.int v :: st) h Q) : Go K M d pc lv (st) h Q := by
  subst hp
  intro R s m args below meth c H locs cells slots ls z0 q0 hF hx
  exact lv_iconst hF.ex hF.cd hd hv (k R s m args below meth c H locs cells slots ls z0 q0 hF hx)
theorem go_bipush {n : Int} {v : Int32} (hd : decode M.2.1 pc = .ok (.bipush n, 2)) (hv : (Int8.ofInt n).toInt32 = v) (hp : pc + 2 = pc') (k : Go K M d pc' lv (.int v :: st) h Q) : Go K M d pc lv (st) h Q := by
  subst hp
  intro R s m args below meth c H locs cells slots ls z0 q0 hF hx
  exact lv_bipush hF.ex hF.cd hd hv (k R s m args below meth c H locs cells slots ls z0 q0 hF hx)
theorem go_sipush {n : Int} {v : Int32} (hd : decode M.2.1 pc = .ok (.sipush n, 3)) (hv : (Int16.ofInt n).toInt32 = v) (hp : pc + 3 = pc') (k : Go K M d pc' lv (.int v :: st) h Q) : Go K M d pc lv (st) h Q := by
  subst hp
  intro R s m args below meth c H locs cells slots ls z0 q0 hF hx
  exact lv_sipush hF.ex hF.cd hd hv (k R s m args below meth c H locs cells slots ls z0 q0 hF hx)
theorem go_lconst {n : Fin 2} {v : Int64} (hd : decode M.2.1 pc = .ok (.lconst n, 1)) (hv : Int64.ofNat (n : Nat) = v) (hp : pc + 1 = pc') (k : Go K M d pc' lv (.long v :: st) h Q) : Go K M d pc lv (st) h Q := by
  subst hp
  intro R s m args below meth c H locs cells slots ls z0 q0 hF hx
  exact lv_lconst hF.ex hF.cd hd hv (k R s m args below meth c H locs cells slots ls z0 q0 hF hx)
theorem go_null (hd : decode M.2.1 pc = .ok (.aconst_null, 1)) (hp : pc + 1 = pc') (k : Go K M d pc' lv (.null :: st) h Q) : Go K M d pc lv (st) h Q := by
  subst hp
  intro R s m args below meth c H locs cells slots ls z0 q0 hF hx
  exact lv_null hF.ex hF.cd hd (k R s m args below meth c H locs cells slots ls z0 q0 hF hx)
theorem go_iadd {x y : Int32} (hd : decode M.2.1 pc = .ok (.iadd, 1)) (hp : pc + 1 = pc') (k : Go K M d pc' lv (.int (x + y) :: st) h Q) : Go K M d pc lv (.int y :: .int x :: st) h Q := by
  subst hp
  intro R s m args below meth c H locs cells slots ls z0 q0 hF hx
  exact lv_iadd hF.ex hF.cd hd (k R s m args below meth c H locs cells slots ls z0 q0 hF hx)
theorem go_isub {x y : Int32} (hd : decode M.2.1 pc = .ok (.isub, 1)) (hp : pc + 1 = pc') (k : Go K M d pc' lv (.int (x - y) :: st) h Q) : Go K M d pc lv (.int y :: .int x :: st) h Q := by
  subst hp
  intro R s m args below meth c H locs cells slots ls z0 q0 hF hx
  exact lv_isub hF.ex hF.cd hd (k R s m args below meth c H locs cells slots ls z0 q0 hF hx)
theorem go_imul {x y : Int32} (hd : decode M.2.1 pc = .ok (.imul, 1)) (hp : pc + 1 = pc') (k : Go K M d pc' lv (.int (x * y) :: st) h Q) : Go K M d pc lv (.int y :: .int x :: st) h Q := by
  subst hp
  intro R s m args below meth c H locs cells slots ls z0 q0 hF hx
  exact lv_imul hF.ex hF.cd hd (k R s m args below meth c H locs cells slots ls z0 q0 hF hx)
theorem go_iand {x y : Int32} (hd : decode M.2.1 pc = .ok (.iand, 1)) (hp : pc + 1 = pc') (k : Go K M d pc' lv (.int (x &&& y) :: st) h Q) : Go K M d pc lv (.int y :: .int x :: st) h Q := by
  subst hp
  intro R s m args below meth c H locs cells slots ls z0 q0 hF hx
  exact lv_iand hF.ex hF.cd hd (k R s m args below meth c H locs cells slots ls z0 q0 hF hx)
theorem go_ior {x y : Int32} (hd : decode M.2.1 pc = .ok (.ior, 1)) (hp : pc + 1 = pc') (k : Go K M d pc' lv (.int (x ||| y) :: st) h Q) : Go K M d pc lv (.int y :: .int x :: st) h Q := by
  subst hp
  intro R s m args below meth c H locs cells slots ls z0 q0 hF hx
  exact lv_ior hF.ex hF.cd hd (k R s m args below meth c H locs cells slots ls z0 q0 hF hx)
theorem go_ixor {x y : Int32} (hd : decode M.2.1 pc = .ok (.ixor, 1)) (hp : pc + 1 = pc') (k : Go K M d pc' lv (.int (x ^^^ y) :: st) h Q) : Go K M d pc lv (.int y :: .int x :: st) h Q := by
  subst hp
  intro R s m args below meth c H locs cells slots ls z0 q0 hF hx
  exact lv_ixor hF.ex hF.cd hd (k R s m args below meth c H locs cells slots ls z0 q0 hF hx)
theorem go_ladd {x y : Int64} (hd : decode M.2.1 pc = .ok (.ladd, 1)) (hp : pc + 1 = pc') (k : Go K M d pc' lv (.long (x + y) :: st) h Q) : Go K M d pc lv (.long y :: .long x :: st) h Q := by
  subst hp
  intro R s m args below meth c H locs cells slots ls z0 q0 hF hx
  exact lv_ladd hF.ex hF.cd hd (k R s m args below meth c H locs cells slots ls z0 q0 hF hx)
theorem go_lsub {x y : Int64} (hd : decode M.2.1 pc = .ok (.lsub, 1)) (hp : pc + 1 = pc') (k : Go K M d pc' lv (.long (x - y) :: st) h Q) : Go K M d pc lv (.long y :: .long x :: st) h Q := by
  subst hp
  intro R s m args below meth c H locs cells slots ls z0 q0 hF hx
  exact lv_lsub hF.ex hF.cd hd (k R s m args below meth c H locs cells slots ls z0 q0 hF hx)
theorem go_lmul {x y : Int64} (hd : decode M.2.1 pc = .ok (.lmul, 1)) (hp : pc + 1 = pc') (k : Go K M d pc' lv (.long (x * y) :: st) h Q) : Go K M d pc lv (.long y :: .long x :: st) h Q := by
  subst hp
  intro R s m args below meth c H locs cells slots ls z0 q0 hF hx
  exact lv_lmul hF.ex hF.cd hd (k R s m args below meth c H locs cells slots ls z0 q0 hF hx)
theorem go_land {x y : Int64} (hd : decode M.2.1 pc = .ok (.land, 1)) (hp : pc + 1 = pc') (k : Go K M d pc' lv (.long (x &&& y) :: st) h Q) : Go K M d pc lv (.long y :: .long x :: st) h Q := by
  subst hp
  intro R s m args below meth c H locs cells slots ls z0 q0 hF hx
  exact lv_land hF.ex hF.cd hd (k R s m args below meth c H locs cells slots ls z0 q0 hF hx)
theorem go_lor {x y : Int64} (hd : decode M.2.1 pc = .ok (.lor, 1)) (hp : pc + 1 = pc') (k : Go K M d pc' lv (.long (x ||| y) :: st) h Q) : Go K M d pc lv (.long y :: .long x :: st) h Q := by
  subst hp
  intro R s m args below meth c H locs cells slots ls z0 q0 hF hx
  exact lv_lor hF.ex hF.cd hd (k R s m args below meth c H locs cells slots ls z0 q0 hF hx)
theorem go_lxor {x y : Int64} (hd : decode M.2.1 pc = .ok (.lxor, 1)) (hp : pc + 1 = pc') (k : Go K M d pc' lv (.long (x ^^^ y) :: st) h Q) : Go K M d pc lv (.long y :: .long x :: st) h Q := by
  subst hp
  intro R s m args below meth c H locs cells slots ls z0 q0 hF hx
  exact lv_lxor hF.ex hF.cd hd (k R s m args below meth c H locs cells slots ls z0 q0 hF hx)
theorem go_ineg {x : Int32} (hd : decode M.2.1 pc = .ok (.ineg, 1)) (hp : pc + 1 = pc') (k : Go K M d pc' lv (.int (-x) :: st) h Q) : Go K M d pc lv (.int x :: st) h Q := by
  subst hp
  intro R s m args below meth c H locs cells slots ls z0 q0 hF hx
  exact lv_ineg hF.ex hF.cd hd (k R s m args below meth c H locs cells slots ls z0 q0 hF hx)
theorem go_ishl {x y : Int32} (hd : decode M.2.1 pc = .ok (.ishl, 1)) (hp : pc + 1 = pc') (k : Go K M d pc' lv (.int (x <<< (y &&& 31)) :: st) h Q) : Go K M d pc lv (.int y :: .int x :: st) h Q := by
  subst hp
  intro R s m args below meth c H locs cells slots ls z0 q0 hF hx
  exact lv_ishl hF.ex hF.cd hd (k R s m args below meth c H locs cells slots ls z0 q0 hF hx)
theorem go_ishr {x y : Int32} (hd : decode M.2.1 pc = .ok (.ishr, 1)) (hp : pc + 1 = pc') (k : Go K M d pc' lv (.int (x >>> (y &&& 31)) :: st) h Q) : Go K M d pc lv (.int y :: .int x :: st) h Q := by
  subst hp
  intro R s m args below meth c H locs cells slots ls z0 q0 hF hx
  exact lv_ishr hF.ex hF.cd hd (k R s m args below meth c H locs cells slots ls z0 q0 hF hx)
theorem go_iushr {x y v : Int32} (hd : decode M.2.1 pc = .ok (.iushr, 1)) (hv : (x.toUInt32 >>> (y.toUInt32 &&& Int32.toUInt32 31)).toInt32 = v) (hp : pc + 1 = pc') (k : Go K M d pc' lv (.int v :: st) h Q) : Go K M d pc lv (.int y :: .int x :: st) h Q := by
  subst hp
  intro R s m args below meth c H locs cells slots ls z0 q0 hF hx
  exact lv_iushr hF.ex hF.cd hd hv (k R s m args below meth c H locs cells slots ls z0 q0 hF hx)
theorem go_lshl {x v : Int64} {y : Int32} (hd : decode M.2.1 pc = .ok (.lshl, 1)) (hv : x <<< (y.toInt64 &&& 63) = v) (hp : pc + 1 = pc') (k : Go K M d pc' lv (.long v :: st) h Q) : Go K M d pc lv (.int y :: .long x :: st) h Q := by
  subst hp
  intro R s m args below meth c H locs cells slots ls z0 q0 hF hx
  exact lv_lshl hF.ex hF.cd hd hv (k R s m args below meth c H locs cells slots ls z0 q0 hF hx)
theorem go_i2l {x : Int32} {v : Int64} (hd : decode M.2.1 pc = .ok (.i2l, 1)) (hv : x.toInt64 = v) (hp : pc + 1 = pc') (k : Go K M d pc' lv (.long v :: st) h Q) : Go K M d pc lv (.int x :: st) h Q := by
  subst hp
  intro R s m args below meth c H locs cells slots ls z0 q0 hF hx
  exact lv_i2l hF.ex hF.cd hd hv (k R s m args below meth c H locs cells slots ls z0 q0 hF hx)
theorem go_dup {va : Value} (hd : decode M.2.1 pc = .ok (.dup, 1)) (hc : va.category = 1) (hp : pc + 1 = pc') (k : Go K M d pc' lv (va :: va :: st) h Q) : Go K M d pc lv (va :: st) h Q := by
  subst hp
  intro R s m args below meth c H locs cells slots ls z0 q0 hF hx
  exact lv_dup hF.ex hF.cd hd hc (k R s m args below meth c H locs cells slots ls z0 q0 hF hx)
theorem go_pop {va : Value} (hd : decode M.2.1 pc = .ok (.pop, 1)) (hc : va.category = 1) (hp : pc + 1 = pc') (k : Go K M d pc' lv (st) h Q) : Go K M d pc lv (va :: st) h Q := by
  subst hp
  intro R s m args below meth c H locs cells slots ls z0 q0 hF hx
  exact lv_pop hF.ex hF.cd hd hc (k R s m args below meth c H locs cells slots ls z0 q0 hF hx)
theorem go_dup_x1 {va vb : Value} (hd : decode M.2.1 pc = .ok (.dup_x1, 1)) (hc : va.category = 1) (hc2 : vb.category = 1) (hp : pc + 1 = pc') (k : Go K M d pc' lv (va :: vb :: va :: st) h Q) : Go K M d pc lv (va :: vb :: st) h Q := by
  subst hp
  intro R s m args below meth c H locs cells slots ls z0 q0 hF hx
  exact lv_dup_x1 hF.ex hF.cd hd hc hc2 (k R s m args below meth c H locs cells slots ls z0 q0 hF hx)
theorem go_dup_x2 {va vb vd : Value} (hd : decode M.2.1 pc = .ok (.dup_x2, 1)) (hc : va.category = 1) (hc2 : vb.category = 1) (hc3 : vd.category = 1) (hp : pc + 1 = pc') (k : Go K M d pc' lv (va :: vb :: vd :: va :: st) h Q) : Go K M d pc lv (va :: vb :: vd :: st) h Q := by
  subst hp
  intro R s m args below meth c H locs cells slots ls z0 q0 hF hx
  exact lv_dup_x2 hF.ex hF.cd hd hc hc2 hc3 (k R s m args below meth c H locs cells slots ls z0 q0 hF hx)
theorem go_dup2 {va vb : Value} (hd : decode M.2.1 pc = .ok (.dup2, 1)) (hc : va.category = 1) (hc2 : vb.category = 1) (hp : pc + 1 = pc') (k : Go K M d pc' lv (va :: vb :: va :: vb :: st) h Q) : Go K M d pc lv (va :: vb :: st) h Q := by
  subst hp
  intro R s m args below meth c H locs cells slots ls z0 q0 hF hx
  exact lv_dup2_11 hF.ex hF.cd hd hc hc2 (k R s m args below meth c H locs cells slots ls z0 q0 hF hx)
theorem go_lcmp {x y : Int64} (hd : decode M.2.1 pc = .ok (.lcmp, 1)) (hp : pc + 1 = pc') (k : Go K M d pc' lv (.int (lg_cmp x y) :: st) h Q) : Go K M d pc lv (.long y :: .long x :: st) h Q := by
  subst hp
  intro R s m args below meth c H locs cells slots ls z0 q0 hF hx
  exact W.lcmp hF.ex hF.cd hd (k R s m args below meth c H locs cells slots ls z0 q0 hF hx)
theorem go_iload_n {j : Fin 4} {i : Nat} {x : Int32} (hd : decode M.2.1 pc = .ok (.iload_n j, 1)) (hi : (j : Nat) = i) (hl : lv[i]? = some (some (.int x))) (hp : pc + 1 = pc') (k : Go K M d pc' lv (.int x :: st) h Q) : Go K M d pc lv st h Q := by
  subst hp
  intro R s m args below meth c H locs cells slots ls z0 q0 hF hx
  exact lv_iload_n hF.ex hF.cd hd hi (hx.2.2 _ _ hl) (k R s m args below meth c H locs cells slots ls z0 q0 hF hx)
theorem go_iload {i : Nat} {x : Int32} (hd : decode M.2.1 pc = .ok (.iload i, 2)) (hl : lv[i]? = some (some (.int x))) (hp : pc + 2 = pc') (k : Go K M d pc' lv (.int x :: st) h Q) : Go K M d pc lv st h Q := by
  subst hp
  intro R s m args below meth c H locs cells slots ls z0 q0 hF hx
  exact lv_iload hF.ex hF.cd hd (hx.2.2 _ _ hl) (k R s m args below meth c H locs cells slots ls z0 q0 hF hx)
theorem go_lload_n {j : Fin 4} {i : Nat} {x : Int64} (hd : decode M.2.1 pc = .ok (.lload_n j, 1)) (hi : (j : Nat) = i) (hl : lv[i]? = some (some (.long x))) (hp : pc + 1 = pc') (k : Go K M d pc' lv (.long x :: st) h Q) : Go K M d pc lv st h Q := by
  subst hp
  intro R s m args below meth c H locs cells slots ls z0 q0 hF hx
  exact lv_lload_n hF.ex hF.cd hd hi (hx.2.2 _ _ hl) (k R s m args below meth c H locs cells slots ls z0 q0 hF hx)
theorem go_lload {i : Nat} {x : Int64} (hd : decode M.2.1 pc = .ok (.lload i, 2)) (hl : lv[i]? = some (some (.long x))) (hp : pc + 2 = pc') (k : Go K M d pc' lv (.long x :: st) h Q) : Go K M d pc lv st h Q := by
  subst hp
  intro R s m args below meth c H locs cells slots ls z0 q0 hF hx
  exact lv_lload hF.ex hF.cd hd (hx.2.2 _ _ hl) (k R s m args below meth c H locs cells slots ls z0 q0 hF hx)
theorem go_aload_n {j : Fin 4} {i : Nat} {v : Value} (hd : decode M.2.1 pc = .ok (.aload_n j, 1)) (hi : (j : Nat) = i) (hl : lv[i]? = some (some v)) (hr : x_r v = true) (hp : pc + 1 = pc') (k : Go K M d pc' lv (v :: st) h Q) : Go K M d pc lv st h Q := by
  subst hp
  intro R s m args below meth c H locs cells slots ls z0 q0 hF hx
  rcases x_r_cases hr with ⟨a, rfl⟩ | rfl
  · exact lv_aload_n hF.ex hF.cd hd hi (hx.2.2 _ _ hl) (k R s m args below meth c H locs cells slots ls z0 q0 hF hx)
  · exact lv_aload_nN hF.ex hF.cd hd hi (hx.2.2 _ _ hl) (k R s m args below meth c H locs cells slots ls z0 q0 hF hx)
theorem go_aload {i : Nat} {v : Value} (hd : decode M.2.1 pc = .ok (.aload i, 2)) (hl : lv[i]? = some (some v)) (hr : x_r v = true) (hp : pc + 2 = pc') (k : Go K M d pc' lv (v :: st) h Q) : Go K M d pc lv st h Q := by
  subst hp
  intro R s m args below meth c H locs cells slots ls z0 q0 hF hx
  rcases x_r_cases hr with ⟨a, rfl⟩ | rfl
  · exact lv_aload hF.ex hF.cd hd (hx.2.2 _ _ hl) (k R s m args below meth c H locs cells slots ls z0 q0 hF hx)
  · exact lv_aloadN hF.ex hF.cd hd (hx.2.2 _ _ hl) (k R s m args below meth c H locs cells slots ls z0 q0 hF hx)
theorem go_istore_n {j : Fin 4} {i : Nat} {x : Int32} (hd : decode M.2.1 pc = .ok (.istore_n j, 1)) (hi : (j : Nat) = i) (hn : i < M.2.2.1) (he : x_st1 lv i (.int x) = lv') (hp : pc + 1 = pc') (k : Go K M d pc' lv' st h Q) : Go K M d pc lv (.int x :: st) h Q := by
  subst hp
  intro R s m args below meth c H locs cells slots ls z0 q0 hF hx
  exact lv_istore_n hF.ex hF.cd hd hi hx.has hn rfl (fun ls' hl' => k R s m args below meth c H locs cells slots ls' z0 q0 hF (x_l.of1 hl' he))
theorem go_istore {i : Nat} {x : Int32} (hd : decode M.2.1 pc = .ok (.istore i, 2)) (hn : i < M.2.2.1) (he : x_st1 lv i (.int x) = lv') (hp : pc + 2 = pc') (k : Go K M d pc' lv' st h Q) : Go K M d pc lv (.int x :: st) h Q := by
  subst hp
  intro R s m args below meth c H locs cells slots ls z0 q0 hF hx
  exact lv_istore hF.ex hF.cd hd hx.has hn rfl (fun ls' hl' => k R s m args below meth c H locs cells slots ls' z0 q0 hF (x_l.of1 hl' he))
theorem go_lstore_n {j : Fin 4} {i : Nat} {x : Int64} (hd : decode M.2.1 pc = .ok (.lstore_n j, 1)) (hi : (j : Nat) = i) (hn : i + 1 < M.2.2.1) (he : x_st2 lv i (.long x) = lv') (hp : pc + 1 = pc') (k : Go K M d pc' lv' st h Q) : Go K M d pc lv (.long x :: st) h Q := by
  subst hp
  intro R s m args below meth c H locs cells slots ls z0 q0 hF hx
  exact lv_lstore_n hF.ex hF.cd hd hi hx.has hn rfl (fun ls' hl' => k R s m args below meth c H locs cells slots ls' z0 q0 hF (x_l.of2 hl' he))
theorem go_lstore {i : Nat} {x : Int64} (hd : decode M.2.1 pc = .ok (.lstore i, 2)) (hn : i + 1 < M.2.2.1) (he : x_st2 lv i (.long x) = lv') (hp : pc + 2 = pc') (k : Go K M d pc' lv' st h Q) : Go K M d pc lv (.long x :: st) h Q := by
  subst hp
  intro R s m args below meth c H locs cells slots ls z0 q0 hF hx
  exact lv_lstore hF.ex hF.cd hd hx.has hn rfl (fun ls' hl' => k R s m args below meth c H locs cells slots ls' z0 q0 hF (x_l.of2 hl' he))
theorem go_astore_n {j : Fin 4} {i : Nat} {v : Value} (hd : decode M.2.1 pc = .ok (.astore_n j, 1)) (hi : (j : Nat) = i) (hn : i < M.2.2.1) (hr : x_r v = true) (he : x_st1 lv i v = lv') (hp : pc + 1 = pc') (k : Go K M d pc' lv' st h Q) : Go K M d pc lv (v :: st) h Q := by
  subst hp
  intro R s m args below meth c H locs cells slots ls z0 q0 hF hx
  rcases x_r_cases hr with ⟨a, rfl⟩ | rfl
  · exact lv_astore_n hF.ex hF.cd hd hi hx.has hn rfl (fun ls' hl' => k R s m args below meth c H locs cells slots ls' z0 q0 hF (x_l.of1 hl' he))
  · exact lv_astore_nN hF.ex hF.cd hd hi hx.has hn rfl (fun ls' hl' => k R s m args below meth c H locs cells slots ls' z0 q0 hF (x_l.of1 hl' he))
theorem go_astore {i : Nat} {v : Value} (hd : decode M.2.1 pc = .ok (.astore i, 2)) (hn : i < M.2.2.1) (hr : x_r v = true) (he : x_st1 lv i v = lv') (hp : pc + 2 = pc') (k : Go K M d pc' lv' st h Q) : Go K M d pc lv (v :: st) h Q := by
  subst hp
  intro R s m args below meth c H locs cells slots ls z0 q0 hF hx
  rcases x_r_cases hr with ⟨a, rfl⟩ | rfl
  · exact lv_astore hF.ex hF.cd hd hx.has hn rfl (fun ls' hl' => k R s m args below meth c H locs cells slots ls' z0 q0 hF (x_l.of1 hl' he))
  · exact lv_astoreN hF.ex hF.cd hd hx.has hn rfl (fun ls' hl' => k R s m args below meth c H locs cells slots ls' z0 q0 hF (x_l.of1 hl' he))
theorem go_iinc {i : Nat} {n : Int} {x v : Int32} (hd : decode M.2.1 pc = .ok (.iinc i n, 3)) (hl : lv[i]? = some (some (.int x))) (hv : x + Int32.ofInt n = v) (hn : i < M.2.2.1) (he : x_st1 lv i (.int v) = lv') (hp : pc + 3 = pc') (k : Go K M d pc' lv' st h Q) : Go K M d pc lv st h Q := by
  subst hp
  intro R s m args below meth c H locs cells slots ls z0 q0 hF hx
  obtain ⟨j, hj⟩ := List.getElem?_of_mem (x_pr_mem.mpr hl)
  exact lv_iinc hF.ex hF.cd hd hx.has hj hv hn rfl (fun ls' hl' => k R s m args below meth c H locs cells slots ls' z0 q0 hF (x_l.of1 hl' he))
theorem go_ldc {i : Nat} {v : Int32} (hd : decode M.2.1 pc = .ok (.ldc i, 2)) (hw : Cond.constant M.1.cls i v ∈ lw_tbl) (hp : pc + 2 = pc') (k : Go K M d pc' lv (.int v :: st) h Q) : Go K M d pc lv st h Q := by
  subst hp
  intro R s m args below meth c H locs cells slots ls z0 q0 hF hx
  exact lv_ldc hF.ex hF.cd hF.ow (hF.wd hw (Or.inl rfl) args) hd (k R s m args below meth c H locs cells slots ls z0 q0 hF hx)
theorem go_ldc2 {i : Nat} {v : Int64} (hd : decode M.2.1 pc = .ok (.ldc2_w i, 3)) (hw : Cond.constantLong M.1.cls i v ∈ lw_tbl) (hp : pc + 3 = pc') (k : Go K M d pc' lv (.long v :: st) h Q) : Go K M d pc lv st h Q := by
  subst hp
  intro R s m args below meth c H locs cells slots ls z0 q0 hF hx
  exact lv_ldc2 hF.ex hF.cd hF.ow (hF.wd hw (Or.inl rfl) args) hd (k R s m args below meth c H locs cells slots ls z0 q0 hF hx)
theorem go_if_eq {x : Int32} {off : Int} {tgt : Nat} (hd : decode M.2.1 pc = .ok (.ifCond .eq off, 3)) (ht : (pc : Int) + off = (tgt : Int)) (hp : pc + 3 = pc') (kt : x = 0 → Go K M d tgt lv st h Q) (kf : ¬ x = 0 → Go K M d pc' lv st h Q) : Go K M d pc lv (.int x :: st) h Q := by
  subst hp
  intro R s m args below meth c H locs cells slots ls z0 q0 hF hx
  exact lv_if_eq hF.ex hF.cd hd ht (fun q => kt q R s m args below meth c H locs cells slots ls z0 q0 hF hx) (fun q => kf q R s m args below meth c H locs cells slots ls z0 q0 hF hx)
theorem go_icmp_eq {x y : Int32} {off : Int} {tgt : Nat} (hd : decode M.2.1 pc = .ok (.if_icmp .eq off, 3)) (ht : (pc : Int) + off = (tgt : Int)) (hp : pc + 3 = pc') (kt : x = y → Go K M d tgt lv st h Q) (kf : ¬ x = y → Go K M d pc' lv st h Q) : Go K M d pc lv (.int y :: .int x :: st) h Q := by
  subst hp
  intro R s m args below meth c H locs cells slots ls z0 q0 hF hx
  exact lv_icmp_eq hF.ex hF.cd hd ht (fun q => kt q R s m args below meth c H locs cells slots ls z0 q0 hF hx) (fun q => kf q R s m args below meth c H locs cells slots ls z0 q0 hF hx)
theorem go_if_ne {x : Int32} {off : Int} {tgt : Nat} (hd : decode M.2.1 pc = .ok (.ifCond .ne off, 3)) (ht : (pc : Int) + off = (tgt : Int)) (hp : pc + 3 = pc') (kt : ¬ x = 0 → Go K M d tgt lv st h Q) (kf : x = 0 → Go K M d pc' lv st h Q) : Go K M d pc lv (.int x :: st) h Q := by
  subst hp
  intro R s m args below meth c H locs cells slots ls z0 q0 hF hx
  exact lv_if_ne hF.ex hF.cd hd ht (fun q => kt q R s m args below meth c H locs cells slots ls z0 q0 hF hx) (fun q => kf q R s m args below meth c H locs cells slots ls z0 q0 hF hx)
theorem go_icmp_ne {x y : Int32} {off : Int} {tgt : Nat} (hd : decode M.2.1 pc = .ok (.if_icmp .ne off, 3)) (ht : (pc : Int) + off = (tgt : Int)) (hp : pc + 3 = pc') (kt : ¬ x = y → Go K M d tgt lv st h Q) (kf : x = y → Go K M d pc' lv st h Q) : Go K M d pc lv (.int y :: .int x :: st) h Q := by
  subst hp
  intro R s m args below meth c H locs cells slots ls z0 q0 hF hx
  exact lv_icmp_ne hF.ex hF.cd hd ht (fun q => kt q R s m args below meth c H locs cells slots ls z0 q0 hF hx) (fun q => kf q R s m args below meth c H locs cells slots ls z0 q0 hF hx)
theorem go_if_lt {x : Int32} {off : Int} {tgt : Nat} (hd : decode M.2.1 pc = .ok (.ifCond .lt off, 3)) (ht : (pc : Int) + off = (tgt : Int)) (hp : pc + 3 = pc') (kt : x < 0 → Go K M d tgt lv st h Q) (kf : ¬ x < 0 → Go K M d pc' lv st h Q) : Go K M d pc lv (.int x :: st) h Q := by
  subst hp
  intro R s m args below meth c H locs cells slots ls z0 q0 hF hx
  exact lv_if_lt hF.ex hF.cd hd ht (fun q => kt q R s m args below meth c H locs cells slots ls z0 q0 hF hx) (fun q => kf q R s m args below meth c H locs cells slots ls z0 q0 hF hx)
theorem go_icmp_lt {x y : Int32} {off : Int} {tgt : Nat} (hd : decode M.2.1 pc = .ok (.if_icmp .lt off, 3)) (ht : (pc : Int) + off = (tgt : Int)) (hp : pc + 3 = pc') (kt : x < y → Go K M d tgt lv st h Q) (kf : ¬ x < y → Go K M d pc' lv st h Q) : Go K M d pc lv (.int y :: .int x :: st) h Q := by
  subst hp
  intro R s m args below meth c H locs cells slots ls z0 q0 hF hx
  exact lv_icmp_lt hF.ex hF.cd hd ht (fun q => kt q R s m args below meth c H locs cells slots ls z0 q0 hF hx) (fun q => kf q R s m args below meth c H locs cells slots ls z0 q0 hF hx)
theorem go_if_ge {x : Int32} {off : Int} {tgt : Nat} (hd : decode M.2.1 pc = .ok (.ifCond .ge off, 3)) (ht : (pc : Int) + off = (tgt : Int)) (hp : pc + 3 = pc') (kt : 0 ≤ x → Go K M d tgt lv st h Q) (kf : ¬ 0 ≤ x → Go K M d pc' lv st h Q) : Go K M d pc lv (.int x :: st) h Q := by
  subst hp
  intro R s m args below meth c H locs cells slots ls z0 q0 hF hx
  exact lv_if_ge hF.ex hF.cd hd ht (fun q => kt q R s m args below meth c H locs cells slots ls z0 q0 hF hx) (fun q => kf q R s m args below meth c H locs cells slots ls z0 q0 hF hx)
theorem go_icmp_ge {x y : Int32} {off : Int} {tgt : Nat} (hd : decode M.2.1 pc = .ok (.if_icmp .ge off, 3)) (ht : (pc : Int) + off = (tgt : Int)) (hp : pc + 3 = pc') (kt : y ≤ x → Go K M d tgt lv st h Q) (kf : ¬ y ≤ x → Go K M d pc' lv st h Q) : Go K M d pc lv (.int y :: .int x :: st) h Q := by
  subst hp
  intro R s m args below meth c H locs cells slots ls z0 q0 hF hx
  exact lv_icmp_ge hF.ex hF.cd hd ht (fun q => kt q R s m args below meth c H locs cells slots ls z0 q0 hF hx) (fun q => kf q R s m args below meth c H locs cells slots ls z0 q0 hF hx)
theorem go_if_gt {x : Int32} {off : Int} {tgt : Nat} (hd : decode M.2.1 pc = .ok (.ifCond .gt off, 3)) (ht : (pc : Int) + off = (tgt : Int)) (hp : pc + 3 = pc') (kt : 0 < x → Go K M d tgt lv st h Q) (kf : ¬ 0 < x → Go K M d pc' lv st h Q) : Go K M d pc lv (.int x :: st) h Q := by
  subst hp
  intro R s m args below meth c H locs cells slots ls z0 q0 hF hx
  exact lv_if_gt hF.ex hF.cd hd ht (fun q => kt q R s m args below meth c H locs cells slots ls z0 q0 hF hx) (fun q => kf q R s m args below meth c H locs cells slots ls z0 q0 hF hx)
theorem go_icmp_gt {x y : Int32} {off : Int} {tgt : Nat} (hd : decode M.2.1 pc = .ok (.if_icmp .gt off, 3)) (ht : (pc : Int) + off = (tgt : Int)) (hp : pc + 3 = pc') (kt : y < x → Go K M d tgt lv st h Q) (kf : ¬ y < x → Go K M d pc' lv st h Q) : Go K M d pc lv (.int y :: .int x :: st) h Q := by
  subst hp
  intro R s m args below meth c H locs cells slots ls z0 q0 hF hx
  exact lv_icmp_gt hF.ex hF.cd hd ht (fun q => kt q R s m args below meth c H locs cells slots ls z0 q0 hF hx) (fun q => kf q R s m args below meth c H locs cells slots ls z0 q0 hF hx)
theorem go_if_le {x : Int32} {off : Int} {tgt : Nat} (hd : decode M.2.1 pc = .ok (.ifCond .le off, 3)) (ht : (pc : Int) + off = (tgt : Int)) (hp : pc + 3 = pc') (kt : x ≤ 0 → Go K M d tgt lv st h Q) (kf : ¬ x ≤ 0 → Go K M d pc' lv st h Q) : Go K M d pc lv (.int x :: st) h Q := by
  subst hp
  intro R s m args below meth c H locs cells slots ls z0 q0 hF hx
  exact lv_if_le hF.ex hF.cd hd ht (fun q => kt q R s m args below meth c H locs cells slots ls z0 q0 hF hx) (fun q => kf q R s m args below meth c H locs cells slots ls z0 q0 hF hx)
theorem go_icmp_le {x y : Int32} {off : Int} {tgt : Nat} (hd : decode M.2.1 pc = .ok (.if_icmp .le off, 3)) (ht : (pc : Int) + off = (tgt : Int)) (hp : pc + 3 = pc') (kt : x ≤ y → Go K M d tgt lv st h Q) (kf : ¬ x ≤ y → Go K M d pc' lv st h Q) : Go K M d pc lv (.int y :: .int x :: st) h Q := by
  subst hp
  intro R s m args below meth c H locs cells slots ls z0 q0 hF hx
  exact lv_icmp_le hF.ex hF.cd hd ht (fun q => kt q R s m args below meth c H locs cells slots ls z0 q0 hF hx) (fun q => kf q R s m args below meth c H locs cells slots ls z0 q0 hF hx)
theorem go_goto {off : Int} {tgt : Nat} (hd : decode M.2.1 pc = .ok (.goto off, 3)) (ht : (pc : Int) + off = (tgt : Int)) (k : Go K M d tgt lv st h Q) : Go K M d pc lv st h Q := by
  intro R s m args below meth c H locs cells slots ls z0 q0 hF hx
  exact lv_goto hF.ex hF.cd hd ht (k R s m args below meth c H locs cells slots ls z0 q0 hF hx)
theorem go_ifnull_r {a : Nat} {off : Int} (hd : decode M.2.1 pc = .ok (.ifnull off, 3)) (hp : pc + 3 = pc') (k : Go K M d pc' lv st h Q) : Go K M d pc lv (.ref a :: st) h Q := by
  subst hp
  intro R s m args below meth c H locs cells slots ls z0 q0 hF hx
  exact lv_ifnull hF.ex hF.cd hd (k R s m args below meth c H locs cells slots ls z0 q0 hF hx)
theorem go_ifnull_n {off : Int} {tgt : Nat} (hd : decode M.2.1 pc = .ok (.ifnull off, 3)) (ht : (pc : Int) + off = (tgt : Int)) (k : Go K M d tgt lv st h Q) : Go K M d pc lv (.null :: st) h Q := by
  intro R s m args below meth c H locs cells slots ls z0 q0 hF hx
  exact lv_ifnullN hF.ex hF.cd hd ht (k R s m args below meth c H locs cells slots ls z0 q0 hF hx)
theorem go_ifnull {o : Option Nat} {off : Int} {tgt : Nat} (hd : decode M.2.1 pc = .ok (.ifnull off, 3)) (ht : (pc : Int) + off = (tgt : Int)) (hp : pc + 3 = pc') (kt : o = none → Go K M d tgt lv st h Q) (kf : ∀ a : Nat, o = some a → Go K M d pc' lv st h Q) : Go K M d pc lv (va_rf o :: st) h Q := by
  cases o with
  | none => exact go_ifnull_n hd ht (kt rfl)
  | some a => exact go_ifnull_r hd hp (kf a rfl)
theorem go_ifnonnull_r {a : Nat} {off : Int} {tgt : Nat} (hd : decode M.2.1 pc = .ok (.ifnonnull off, 3)) (ht : (pc : Int) + off = (tgt : Int)) (k : Go K M d tgt lv st h Q) : Go K M d pc lv (.ref a :: st) h Q := by
  intro R s m args below meth c H locs cells slots ls z0 q0 hF hx
  exact lv_ifnonnull hF.ex hF.cd hd ht (k R s m args below meth c H locs cells slots ls z0 q0 hF hx)
theorem go_ifnonnull_n {off : Int} (hd : decode M.2.1 pc = .ok (.ifnonnull off, 3)) (hp : pc + 3 = pc') (k : Go K M d pc' lv st h Q) : Go K M d pc lv (.null :: st) h Q := by
  subst hp
  intro R s m args below meth c H locs cells slots ls z0 q0 hF hx
  exact lv_ifnonnullN hF.ex hF.cd hd (k R s m args below meth c H locs cells slots ls z0 q0 hF hx)
theorem go_ifnonnull {o : Option Nat} {off : Int} {tgt : Nat} (hd : decode M.2.1 pc = .ok (.ifnonnull off, 3)) (ht : (pc : Int) + off = (tgt : Int)) (hp : pc + 3 = pc') (kt : ∀ a : Nat, o = some a → Go K M d tgt lv st h Q) (kf : o = none → Go K M d pc' lv st h Q) : Go K M d pc lv (va_rf o :: st) h Q := by
  cases o with
  | none => exact go_ifnonnull_n hd hp (kf rfl)
  | some a => exact go_ifnonnull_r hd ht (kt a rfl)
theorem go_acmp_ne {x y : Nat} {off : Int} {tgt : Nat} (hd : decode M.2.1 pc = .ok (.if_acmp .ne off, 3)) (ht : (pc : Int) + off = (tgt : Int)) (hp : pc + 3 = pc') (kt : ¬ x = y → Go K M d tgt lv st h Q) (kf : x = y → Go K M d pc' lv st h Q) : Go K M d pc lv (.ref y :: .ref x :: st) h Q := by
  subst hp
  intro R s m args below meth c H locs cells slots ls z0 q0 hF hx
  exact lv_acmp_ne (rx := some x) (ry := some y) hF.ex hF.cd hd ht (fun q => kt (fun z => q (congrArg some z)) R s m args below meth c H locs cells slots ls z0 q0 hF hx) (fun q => kf (Option.some.inj q) R s m args below meth c H locs cells slots ls z0 q0 hF hx)
theorem go_tableOut {dflt lo hi : Int} {offs : Array Int} {len : Nat} {x : Int32} {tgt : Nat} (hd : decode M.2.1 pc = .ok (.tableswitch dflt lo hi offs, len)) (hb : x.toInt < lo ∨ hi < x.toInt) (ht : (pc : Int) + dflt = (tgt : Int)) (k : Go K M d tgt lv st h Q) : Go K M d pc lv (.int x :: st) h Q := by
  intro R s m args below meth c H locs cells slots ls z0 q0 hF hx
  exact lv_tableOut hF.ex hF.cd hd hb ht (k R s m args below meth c H locs cells slots ls z0 q0 hF hx)
theorem go_tableIn {dflt lo hi : Int} {offs : Array Int} {len : Nat} {x : Int32} {off : Int} {tgt : Nat} (hd : decode M.2.1 pc = .ok (.tableswitch dflt lo hi offs, len)) (h1 : ¬ x.toInt < lo) (h2 : ¬ hi < x.toInt) (ho : offs[(x.toInt - lo).toNat]? = some off) (ht : (pc : Int) + off = (tgt : Int)) (k : Go K M d tgt lv st h Q) : Go K M d pc lv (.int x :: st) h Q := by
  intro R s m args below meth c H locs cells slots ls z0 q0 hF hx
  exact lv_tableIn hF.ex hF.cd hd h1 h2 ho ht (k R s m args below meth c H locs cells slots ls z0 q0 hF hx)
theorem go_ireturn {v : Int32} {ty : FieldType} (hd : decode M.2.1 pc = .ok (.ireturn, 1)) (hr : M.2.2.2.1 = some ty) (hn : narrow ty (.int v) = .int v) (hq : Q (.inl (some (.int v))) h) : Go K M d pc lv [.int v] h Q := by
  intro R s m args below meth c H locs cells slots ls z0 q0 hF hx
  intro T hT X
  have hlocks : meth.locks = false := hF.lk
  have hexec := hF.ex
  have hb := hF.cd
  have hrt := hF.rt
  obtain ⟨fs, hret, hrun, hended, hW, hframe⟩ := X.leave (v := (some (.int v))) (fun q => by first | rfl | (rw [hrt, hr] at q; cases q))
  have hmeth' : T.vm.method? m = some meth := X.method'
  have hr' : meth.sig.returnType = some ty := hrt.trans hr
  refine ⟨T.setFrames fs, ?_, .returned (some (.int v)), .inl (some (.int v)), h, hrun, hended, hW, ⟨locs, cells, slots, hframe, hF.lc, hF.cs.1, hF.cs.2.1⟩, rfl, by (show x_W K h T.heap); rw [hT]; exact hF.w, hF.cs.2.2.1, hF.cs.2.2.2, hq⟩
  jvm_step X.here [X.here.top, hexec, hb, hd, hmeth', hr', hn]
  (try refine ⟨rfl, ?_⟩); (try refine ⟨rfl, ?_⟩)
  first | (intro acts; rw [hret _ acts rfl rfl rfl]) | rw [hret _ _ rfl rfl rfl]
  exact Steps.refl _
theorem go_lreturn {v : Int64} (hd : decode M.2.1 pc = .ok (.lreturn, 1)) (hr : M.2.2.2.1 = some .long) (hq : Q (.inl (some (.long v))) h) : Go K M d pc lv [.long v] h Q := by
  intro R s m args below meth c H locs cells slots ls z0 q0 hF hx
  intro T hT X
  have hlocks : meth.locks = false := hF.lk
  have hexec := hF.ex
  have hb := hF.cd
  have hrt := hF.rt
  obtain ⟨fs, hret, hrun, hended, hW, hframe⟩ := X.leave (v := (some (.long v))) (fun q => by first | rfl | (rw [hrt, hr] at q; cases q))
  have hmeth' : T.vm.method? m = some meth := X.method'
  have hr' : meth.sig.returnType = some .long := hrt.trans hr
  refine ⟨T.setFrames fs, ?_, .returned (some (.long v)), .inl (some (.long v)), h, hrun, hended, hW, ⟨locs, cells, slots, hframe, hF.lc, hF.cs.1, hF.cs.2.1⟩, rfl, by (show x_W K h T.heap); rw [hT]; exact hF.w, hF.cs.2.2.1, hF.cs.2.2.2, hq⟩
  jvm_step X.here [X.here.top, hexec, hb, hd, hmeth', hr']
  (try refine ⟨rfl, ?_⟩); (try refine ⟨rfl, ?_⟩)
  first | (intro acts; rw [hret _ acts rfl rfl rfl]) | rw [hret _ _ rfl rfl rfl]
  exact Steps.refl _
theorem go_return (hd : decode M.2.1 pc = .ok (.return_, 1)) (hr : M.2.2.2.1 = none) (hq : Q (.inl none) h) : Go K M d pc lv [] h Q := by
  intro R s m args below meth c H locs cells slots ls z0 q0 hF hx
  intro T hT X
  have hlocks : meth.locks = false := hF.lk
  have hexec := hF.ex
  have hb := hF.cd
  have hrt := hF.rt
  obtain ⟨fs, hret, hrun, hended, hW, hframe⟩ := X.leave (v := none) (fun q => by first | rfl | (rw [hrt, hr] at q; cases q))
  have hmeth' : T.vm.method? m = some meth := X.method'
  have hr' : meth.sig.returnType = none := hrt.trans hr
  refine ⟨T.setFrames fs, ?_, .returned none, .inl none, h, hrun, hended, hW, ⟨locs, cells, slots, hframe, hF.lc, hF.cs.1, hF.cs.2.1⟩, rfl, by (show x_W K h T.heap); rw [hT]; exact hF.w, hF.cs.2.2.1, hF.cs.2.2.2, hq⟩
  jvm_step X.here [X.here.top, hexec, hb, hd, hmeth', hr']
  (try refine ⟨rfl, ?_⟩); (try refine ⟨rfl, ?_⟩)
  first | (intro acts; rw [hret _ acts rfl rfl rfl]) | rw [hret _ _ rfl rfl rfl]
  exact Steps.refl _
end XB
theorem x_s0 { x : Option Value} {r : List (Option Value)} {v : Value} : x_st1 (x :: r) 0 v = some v :: r := by simp [x_st1]
theorem x_t0 { x y : Option Value} {r : List (Option Value)} {v : Value} : x_st2 (x :: y :: r) 0 v = some v :: none :: r := by simp [x_st2]
theorem x_s1 {a0 x : Option Value} {r : List (Option Value)} {v : Value} (hc : x_k a0 = a0) : x_st1 (a0 :: x :: r) 1 v = a0 :: some v :: r := by simp [x_st1, hc]
theorem x_t1 {a0 x y : Option Value} {r : List (Option Value)} {v : Value} (hc : x_k a0 = a0) : x_st2 (a0 :: x :: y :: r) 1 v = a0 :: some v :: none :: r := by simp [x_st2, hc]
theorem x_s2 {a0 a1 x : Option Value} {r : List (Option Value)} {v : Value} (hc : x_k a1 = a1) : x_st1 (a0 :: a1 :: x :: r) 2 v = a0 :: a1 :: some v :: r := by simp [x_st1, hc]
theorem x_t2 {a0 a1 x y : Option Value} {r : List (Option Value)} {v : Value} (hc : x_k a1 = a1) : x_st2 (a0 :: a1 :: x :: y :: r) 2 v = a0 :: a1 :: some v :: none :: r := by simp [x_st2, hc]
theorem x_s3 {a0 a1 a2 x : Option Value} {r : List (Option Value)} {v : Value} (hc : x_k a2 = a2) : x_st1 (a0 :: a1 :: a2 :: x :: r) 3 v = a0 :: a1 :: a2 :: some v :: r := by simp [x_st1, hc]
theorem x_t3 {a0 a1 a2 x y : Option Value} {r : List (Option Value)} {v : Value} (hc : x_k a2 = a2) : x_st2 (a0 :: a1 :: a2 :: x :: y :: r) 3 v = a0 :: a1 :: a2 :: some v :: none :: r := by simp [x_st2, hc]
theorem x_s4 {a0 a1 a2 a3 x : Option Value} {r : List (Option Value)} {v : Value} (hc : x_k a3 = a3) : x_st1 (a0 :: a1 :: a2 :: a3 :: x :: r) 4 v = a0 :: a1 :: a2 :: a3 :: some v :: r := by simp [x_st1, hc]
theorem x_t4 {a0 a1 a2 a3 x y : Option Value} {r : List (Option Value)} {v : Value} (hc : x_k a3 = a3) : x_st2 (a0 :: a1 :: a2 :: a3 :: x :: y :: r) 4 v = a0 :: a1 :: a2 :: a3 :: some v :: none :: r := by simp [x_st2, hc]
theorem x_s5 {a0 a1 a2 a3 a4 x : Option Value} {r : List (Option Value)} {v : Value} (hc : x_k a4 = a4) : x_st1 (a0 :: a1 :: a2 :: a3 :: a4 :: x :: r) 5 v = a0 :: a1 :: a2 :: a3 :: a4 :: some v :: r := by simp [x_st1, hc]
theorem x_t5 {a0 a1 a2 a3 a4 x y : Option Value} {r : List (Option Value)} {v : Value} (hc : x_k a4 = a4) : x_st2 (a0 :: a1 :: a2 :: a3 :: a4 :: x :: y :: r) 5 v = a0 :: a1 :: a2 :: a3 :: a4 :: some v :: none :: r := by simp [x_st2, hc]
theorem x_s6 {a0 a1 a2 a3 a4 a5 x : Option Value} {r : List (Option Value)} {v : Value} (hc : x_k a5 = a5) : x_st1 (a0 :: a1 :: a2 :: a3 :: a4 :: a5 :: x :: r) 6 v = a0 :: a1 :: a2 :: a3 :: a4 :: a5 :: some v :: r := by simp [x_st1, hc]
theorem x_t6 {a0 a1 a2 a3 a4 a5 x y : Option Value} {r : List (Option Value)} {v : Value} (hc : x_k a5 = a5) : x_st2 (a0 :: a1 :: a2 :: a3 :: a4 :: a5 :: x :: y :: r) 6 v = a0 :: a1 :: a2 :: a3 :: a4 :: a5 :: some v :: none :: r := by simp [x_st2, hc]
theorem x_s7 {a0 a1 a2 a3 a4 a5 a6 x : Option Value} {r : List (Option Value)} {v : Value} (hc : x_k a6 = a6) : x_st1 (a0 :: a1 :: a2 :: a3 :: a4 :: a5 :: a6 :: x :: r) 7 v = a0 :: a1 :: a2 :: a3 :: a4 :: a5 :: a6 :: some v :: r := by simp [x_st1, hc]
theorem x_t7 {a0 a1 a2 a3 a4 a5 a6 x y : Option Value} {r : List (Option Value)} {v : Value} (hc : x_k a6 = a6) : x_st2 (a0 :: a1 :: a2 :: a3 :: a4 :: a5 :: a6 :: x :: y :: r) 7 v = a0 :: a1 :: a2 :: a3 :: a4 :: a5 :: a6 :: some v :: none :: r := by simp [x_st2, hc]
theorem x_s8 {a0 a1 a2 a3 a4 a5 a6 a7 x : Option Value} {r : List (Option Value)} {v : Value} (hc : x_k a7 = a7) : x_st1 (a0 :: a1 :: a2 :: a3 :: a4 :: a5 :: a6 :: a7 :: x :: r) 8 v = a0 :: a1 :: a2 :: a3 :: a4 :: a5 :: a6 :: a7 :: some v :: r := by simp [x_st1, hc]
theorem x_t8 {a0 a1 a2 a3 a4 a5 a6 a7 x y : Option Value} {r : List (Option Value)} {v : Value} (hc : x_k a7 = a7) : x_st2 (a0 :: a1 :: a2 :: a3 :: a4 :: a5 :: a6 :: a7 :: x :: y :: r) 8 v = a0 :: a1 :: a2 :: a3 :: a4 :: a5 :: a6 :: a7 :: some v :: none :: r := by simp [x_st2, hc]
theorem x_s9 {a0 a1 a2 a3 a4 a5 a6 a7 a8 x : Option Value} {r : List (Option Value)} {v : Value} (hc : x_k a8 = a8) : x_st1 (a0 :: a1 :: a2 :: a3 :: a4 :: a5 :: a6 :: a7 :: a8 :: x :: r) 9 v = a0 :: a1 :: a2 :: a3 :: a4 :: a5 :: a6 :: a7 :: a8 :: some v :: r := by simp [x_st1, hc]
theorem x_t9 {a0 a1 a2 a3 a4 a5 a6 a7 a8 x y : Option Value} {r : List (Option Value)} {v : Value} (hc : x_k a8 = a8) : x_st2 (a0 :: a1 :: a2 :: a3 :: a4 :: a5 :: a6 :: a7 :: a8 :: x :: y :: r) 9 v = a0 :: a1 :: a2 :: a3 :: a4 :: a5 :: a6 :: a7 :: a8 :: some v :: none :: r := by simp [x_st2, hc]
theorem x_s10 {a0 a1 a2 a3 a4 a5 a6 a7 a8 a9 x : Option Value} {r : List (Option Value)} {v : Value} (hc : x_k a9 = a9) : x_st1 (a0 :: a1 :: a2 :: a3 :: a4 :: a5 :: a6 :: a7 :: a8 :: a9 :: x :: r) 10 v = a0 :: a1 :: a2 :: a3 :: a4 :: a5 :: a6 :: a7 :: a8 :: a9 :: some v :: r := by simp [x_st1, hc]
theorem x_t10 {a0 a1 a2 a3 a4 a5 a6 a7 a8 a9 x y : Option Value} {r : List (Option Value)} {v : Value} (hc : x_k a9 = a9) : x_st2 (a0 :: a1 :: a2 :: a3 :: a4 :: a5 :: a6 :: a7 :: a8 :: a9 :: x :: y :: r) 10 v = a0 :: a1 :: a2 :: a3 :: a4 :: a5 :: a6 :: a7 :: a8 :: a9 :: some v :: none :: r := by simp [x_st2, hc]
theorem x_s11 {a0 a1 a2 a3 a4 a5 a6 a7 a8 a9 a10 x : Option Value} {r : List (Option Value)} {v : Value} (hc : x_k a10 = a10) : x_st1 (a0 :: a1 :: a2 :: a3 :: a4 :: a5 :: a6 :: a7 :: a8 :: a9 :: a10 :: x :: r) 11 v = a0 :: a1 :: a2 :: a3 :: a4 :: a5 :: a6 :: a7 :: a8 :: a9 :: a10 :: some v :: r := by simp [x_st1, hc]
theorem x_t11 {a0 a1 a2 a3 a4 a5 a6 a7 a8 a9 a10 x y : Option Value} {r : List (Option Value)} {v : Value} (hc : x_k a10 = a10) : x_st2 (a0 :: a1 :: a2 :: a3 :: a4 :: a5 :: a6 :: a7 :: a8 :: a9 :: a10 :: x :: y :: r) 11 v = a0 :: a1 :: a2 :: a3 :: a4 :: a5 :: a6 :: a7 :: a8 :: a9 :: a10 :: some v :: none :: r := by simp [x_st2, hc]
theorem x_s12 {a0 a1 a2 a3 a4 a5 a6 a7 a8 a9 a10 a11 x : Option Value} {r : List (Option Value)} {v : Value} (hc : x_k a11 = a11) : x_st1 (a0 :: a1 :: a2 :: a3 :: a4 :: a5 :: a6 :: a7 :: a8 :: a9 :: a10 :: a11 :: x :: r) 12 v = a0 :: a1 :: a2 :: a3 :: a4 :: a5 :: a6 :: a7 :: a8 :: a9 :: a10 :: a11 :: some v :: r := by simp [x_st1, hc]
theorem x_t12 {a0 a1 a2 a3 a4 a5 a6 a7 a8 a9 a10 a11 x y : Option Value} {r : List (Option Value)} {v : Value} (hc : x_k a11 = a11) : x_st2 (a0 :: a1 :: a2 :: a3 :: a4 :: a5 :: a6 :: a7 :: a8 :: a9 :: a10 :: a11 :: x :: y :: r) 12 v = a0 :: a1 :: a2 :: a3 :: a4 :: a5 :: a6 :: a7 :: a8 :: a9 :: a10 :: a11 :: some v :: none :: r := by simp [x_st2, hc]
theorem x_s13 {a0 a1 a2 a3 a4 a5 a6 a7 a8 a9 a10 a11 a12 x : Option Value} {r : List (Option Value)} {v : Value} (hc : x_k a12 = a12) : x_st1 (a0 :: a1 :: a2 :: a3 :: a4 :: a5 :: a6 :: a7 :: a8 :: a9 :: a10 :: a11 :: a12 :: x :: r) 13 v = a0 :: a1 :: a2 :: a3 :: a4 :: a5 :: a6 :: a7 :: a8 :: a9 :: a10 :: a11 :: a12 :: some v :: r := by simp [x_st1, hc]
theorem x_t13 {a0 a1 a2 a3 a4 a5 a6 a7 a8 a9 a10 a11 a12 x y : Option Value} {r : List (Option Value)} {v : Value} (hc : x_k a12 = a12) : x_st2 (a0 :: a1 :: a2 :: a3 :: a4 :: a5 :: a6 :: a7 :: a8 :: a9 :: a10 :: a11 :: a12 :: x :: y :: r) 13 v = a0 :: a1 :: a2 :: a3 :: a4 :: a5 :: a6 :: a7 :: a8 :: a9 :: a10 :: a11 :: a12 :: some v :: none :: r := by simp [x_st2, hc]
theorem x_s14 {a0 a1 a2 a3 a4 a5 a6 a7 a8 a9 a10 a11 a12 a13 x : Option Value} {r : List (Option Value)} {v : Value} (hc : x_k a13 = a13) : x_st1 (a0 :: a1 :: a2 :: a3 :: a4 :: a5 :: a6 :: a7 :: a8 :: a9 :: a10 :: a11 :: a12 :: a13 :: x :: r) 14 v = a0 :: a1 :: a2 :: a3 :: a4 :: a5 :: a6 :: a7 :: a8 :: a9 :: a10 :: a11 :: a12 :: a13 :: some v :: r := by simp [x_st1, hc]
theorem x_t14 {a0 a1 a2 a3 a4 a5 a6 a7 a8 a9 a10 a11 a12 a13 x y : Option Value} {r : List (Option Value)} {v : Value} (hc : x_k a13 = a13) : x_st2 (a0 :: a1 :: a2 :: a3 :: a4 :: a5 :: a6 :: a7 :: a8 :: a9 :: a10 :: a11 :: a12 :: a13 :: x :: y :: r) 14 v = a0 :: a1 :: a2 :: a3 :: a4 :: a5 :: a6 :: a7 :: a8 :: a9 :: a10 :: a11 :: a12 :: a13 :: some v :: none :: r := by simp [x_st2, hc]
theorem x_s15 {a0 a1 a2 a3 a4 a5 a6 a7 a8 a9 a10 a11 a12 a13 a14 x : Option Value} {r : List (Option Value)} {v : Value} (hc : x_k a14 = a14) : x_st1 (a0 :: a1 :: a2 :: a3 :: a4 :: a5 :: a6 :: a7 :: a8 :: a9 :: a10 :: a11 :: a12 :: a13 :: a14 :: x :: r) 15 v = a0 :: a1 :: a2 :: a3 :: a4 :: a5 :: a6 :: a7 :: a8 :: a9 :: a10 :: a11 :: a12 :: a13 :: a14 :: some v :: r := by simp [x_st1, hc]
theorem x_t15 {a0 a1 a2 a3 a4 a5 a6 a7 a8 a9 a10 a11 a12 a13 a14 x y : Option Value} {r : List (Option Value)} {v : Value} (hc : x_k a14 = a14) : x_st2 (a0 :: a1 :: a2 :: a3 :: a4 :: a5 :: a6 :: a7 :: a8 :: a9 :: a10 :: a11 :: a12 :: a13 :: a14 :: x :: y :: r) 15 v = a0 :: a1 :: a2 :: a3 :: a4 :: a5 :: a6 :: a7 :: a8 :: a9 :: a10 :: a11 :: a12 :: a13 :: a14 :: some v :: none :: r := by simp [x_st2, hc]
theorem x_s16 {a0 a1 a2 a3 a4 a5 a6 a7 a8 a9 a10 a11 a12 a13 a14 a15 x : Option Value} {r : List (Option Value)} {v : Value} (hc : x_k a15 = a15) : x_st1 (a0 :: a1 :: a2 :: a3 :: a4 :: a5 :: a6 :: a7 :: a8 :: a9 :: a10 :: a11 :: a12 :: a13 :: a14 :: a15 :: x :: r) 16 v = a0 :: a1 :: a2 :: a3 :: a4 :: a5 :: a6 :: a7 :: a8 :: a9 :: a10 :: a11 :: a12 :: a13 :: a14 :: a15 :: some v :: r := by simp [x_st1, hc]
theorem x_t16 {a0 a1 a2 a3 a4 a5 a6 a7 a8 a9 a10 a11 a12 a13 a14 a15 x y : Option Value} {r : List (Option Value)} {v : Value} (hc : x_k a15 = a15) : x_st2 (a0 :: a1 :: a2 :: a3 :: a4 :: a5 :: a6 :: a7 :: a8 :: a9 :: a10 :: a11 :: a12 :: a13 :: a14 :: a15 :: x :: y :: r) 16 v = a0 :: a1 :: a2 :: a3 :: a4 :: a5 :: a6 :: a7 :: a8 :: a9 :: a10 :: a11 :: a12 :: a13 :: a14 :: a15 :: some v :: none :: r := by simp [x_st2, hc]
theorem x_s17 {a0 a1 a2 a3 a4 a5 a6 a7 a8 a9 a10 a11 a12 a13 a14 a15 a16 x : Option Value} {r : List (Option Value)} {v : Value} (hc : x_k a16 = a16) : x_st1 (a0 :: a1 :: a2 :: a3 :: a4 :: a5 :: a6 :: a7 :: a8 :: a9 :: a10 :: a11 :: a12 :: a13 :: a14 :: a15 :: a16 :: x :: r) 17 v = a0 :: a1 :: a2 :: a3 :: a4 :: a5 :: a6 :: a7 :: a8 :: a9 :: a10 :: a11 :: a12 :: a13 :: a14 :: a15 :: a16 :: some v :: r := by simp [x_st1, hc]
theorem x_t17 {a0 a1 a2 a3 a4 a5 a6 a7 a8 a9 a10 a11 a12 a13 a14 a15 a16 x y : Option Value} {r : List (Option Value)} {v : Value} (hc : x_k a16 = a16) : x_st2 (a0 :: a1 :: a2 :: a3 :: a4 :: a5 :: a6 :: a7 :: a8 :: a9 :: a10 :: a11 :: a12 :: a13 :: a14 :: a15 :: a16 :: x :: y :: r) 17 v = a0 :: a1 :: a2 :: a3 :: a4 :: a5 :: a6 :: a7 :: a8 :: a9 :: a10 :: a11 :: a12 :: a13 :: a14 :: a15 :: a16 :: some v :: none :: r := by simp [x_st2, hc]
theorem x_s18 {a0 a1 a2 a3 a4 a5 a6 a7 a8 a9 a10 a11 a12 a13 a14 a15 a16 a17 x : Option Value} {r : List (Option Value)} {v : Value} (hc : x_k a17 = a17) : x_st1 (a0 :: a1 :: a2 :: a3 :: a4 :: a5 :: a6 :: a7 :: a8 :: a9 :: a10 :: a11 :: a12 :: a13 :: a14 :: a15 :: a16 :: a17 :: x :: r) 18 v = a0 :: a1 :: a2 :: a3 :: a4 :: a5 :: a6 :: a7 :: a8 :: a9 :: a10 :: a11 :: a12 :: a13 :: a14 :: a15 :: a16 :: a17 :: some v :: r := by simp [x_st1, hc]
theorem x_t18 {a0 a1 a2 a3 a4 a5 a6 a7 a8 a9 a10 a11 a12 a13 a14 a15 a16 a17 x y : Option Value} {r : List (Option Value)} {v : Value} (hc : x_k a17 = a17) : x_st2 (a0 :: a1 :: a2 :: a3 :: a4 :: a5 :: a6 :: a7 :: a8 :: a9 :: a10 :: a11 :: a12 :: a13 :: a14 :: a15 :: a16 :: a17 :: x :: y :: r) 18 v = a0 :: a1 :: a2 :: a3 :: a4 :: a5 :: a6 :: a7 :: a8 :: a9 :: a10 :: a11 :: a12 :: a13 :: a14 :: a15 :: a16 :: a17 :: some v :: none :: r := by simp [x_st2, hc]
theorem x_s19 {a0 a1 a2 a3 a4 a5 a6 a7 a8 a9 a10 a11 a12 a13 a14 a15 a16 a17 a18 x : Option Value} {r : List (Option Value)} {v : Value} (hc : x_k a18 = a18) : x_st1 (a0 :: a1 :: a2 :: a3 :: a4 :: a5 :: a6 :: a7 :: a8 :: a9 :: a10 :: a11 :: a12 :: a13 :: a14 :: a15 :: a16 :: a17 :: a18 :: x :: r) 19 v = a0 :: a1 :: a2 :: a3 :: a4 :: a5 :: a6 :: a7 :: a8 :: a9 :: a10 :: a11 :: a12 :: a13 :: a14 :: a15 :: a16 :: a17 :: a18 :: some v :: r := by simp [x_st1, hc]
theorem x_t19 {a0 a1 a2 a3 a4 a5 a6 a7 a8 a9 a10 a11 a12 a13 a14 a15 a16 a17 a18 x y : Option Value} {r : List (Option Value)} {v : Value} (hc : x_k a18 = a18) : x_st2 (a0 :: a1 :: a2 :: a3 :: a4 :: a5 :: a6 :: a7 :: a8 :: a9 :: a10 :: a11 :: a12 :: a13 :: a14 :: a15 :: a16 :: a17 :: a18 :: x :: y :: r) 19 v = a0 :: a1 :: a2 :: a3 :: a4 :: a5 :: a6 :: a7 :: a8 :: a9 :: a10 :: a11 :: a12 :: a13 :: a14 :: a15 :: a16 :: a17 :: a18 :: some v :: none :: r := by simp [x_st2, hc]
theorem x_s20 {a0 a1 a2 a3 a4 a5 a6 a7 a8 a9 a10 a11 a12 a13 a14 a15 a16 a17 a18 a19 x : Option Value} {r : List (Option Value)} {v : Value} (hc : x_k a19 = a19) : x_st1 (a0 :: a1 :: a2 :: a3 :: a4 :: a5 :: a6 :: a7 :: a8 :: a9 :: a10 :: a11 :: a12 :: a13 :: a14 :: a15 :: a16 :: a17 :: a18 :: a19 :: x :: r) 20 v = a0 :: a1 :: a2 :: a3 :: a4 :: a5 :: a6 :: a7 :: a8 :: a9 :: a10 :: a11 :: a12 :: a13 :: a14 :: a15 :: a16 :: a17 :: a18 :: a19 :: some v :: r := by simp [x_st1, hc]
theorem x_t20 {a0 a1 a2 a3 a4 a5 a6 a7 a8 a9 a10 a11 a12 a13 a14 a15 a16 a17 a18 a19 x y : Option Value} {r : List (Option Value)} {v : Value} (hc : x_k a19 = a19) : x_st2 (a0 :: a1 :: a2 :: a3 :: a4 :: a5 :: a6 :: a7 :: a8 :: a9 :: a10 :: a11 :: a12 :: a13 :: a14 :: a15 :: a16 :: a17 :: a18 :: a19 :: x :: y :: r) 20 v = a0 :: a1 :: a2 :: a3 :: a4 :: a5 :: a6 :: a7 :: a8 :: a9 :: a10 :: a11 :: a12 :: a13 :: a14 :: a15 :: a16 :: a17 :: a18 :: a19 :: some v :: none :: r := by simp [x_st2, hc]
theorem x_s21 {a0 a1 a2 a3 a4 a5 a6 a7 a8 a9 a10 a11 a12 a13 a14 a15 a16 a17 a18 a19 a20 x : Option Value} {r : List (Option Value)} {v : Value} (hc : x_k a20 = a20) : x_st1 (a0 :: a1 :: a2 :: a3 :: a4 :: a5 :: a6 :: a7 :: a8 :: a9 :: a10 :: a11 :: a12 :: a13 :: a14 :: a15 :: a16 :: a17 :: a18 :: a19 :: a20 :: x :: r) 21 v = a0 :: a1 :: a2 :: a3 :: a4 :: a5 :: a6 :: a7 :: a8 :: a9 :: a10 :: a11 :: a12 :: a13 :: a14 :: a15 :: a16 :: a17 :: a18 :: a19 :: a20 :: some v :: r := by simp [x_st1, hc]
theorem x_t21 {a0 a1 a2 a3 a4 a5 a6 a7 a8 a9 a10 a11 a12 a13 a14 a15 a16 a17 a18 a19 a20 x y : Option Value} {r : List (Option Value)} {v : Value} (hc : x_k a20 = a20) : x_st2 (a0 :: a1 :: a2 :: a3 :: a4 :: a5 :: a6 :: a7 :: a8 :: a9 :: a10 :: a11 :: a12 :: a13 :: a14 :: a15 :: a16 :: a17 :: a18 :: a19 :: a20 :: x :: y :: r) 21 v = a0 :: a1 :: a2 :: a3 :: a4 :: a5 :: a6 :: a7 :: a8 :: a9 :: a10 :: a11 :: a12 :: a13 :: a14 :: a15 :: a16 :: a17 :: a18 :: a19 :: a20 :: some v :: none :: r := by simp [x_st2, hc]
end
section
section XC
theorem x_kfl (a : String) (i : Nat) (b n t : String) : ((Cond.fieldLink a i b n t).onTables && (Cond.fieldLink a i b n t).keeps) = true := by first | rfl | simp [Cond.onTables, Cond.keeps, Cond.steady]
theorem x_kcl (a : String) (i : Nat) (b : String) : ((Cond.classLink a i b).onTables && (Cond.classLink a i b).keeps) = true := by first | rfl | simp [Cond.onTables, Cond.keeps, Cond.steady]
theorem x_kin (a : String) (n : Nat) : ((Cond.instantiable a n).onTables && (Cond.instantiable a n).keeps) = true := by first | rfl | simp [Cond.onTables, Cond.keeps, Cond.steady]
theorem x_kii (a : String) : ((Cond.initialized a).onTables && (Cond.initialized a).keeps) = true := by first | rfl | simp [Cond.onTables, Cond.keeps, Cond.steady]
theorem x_kml (a : String) (i : Nat) (y : MethodName) : ((Cond.methodLink a i y).onTables && (Cond.methodLink a i y).keeps) = true := by first | rfl | simp [Cond.onTables, Cond.keeps, Cond.steady]
theorem x_kst (y : MethodName) : ((Cond.static y).onTables && (Cond.static y).keeps) = true := by first | rfl | simp [Cond.onTables, Cond.keeps, Cond.steady]
theorem x_kim (y : MethodName) : ((Cond.instanceMethod y).onTables && (Cond.instanceMethod y).keeps) = true := by first | rfl | simp [Cond.onTables, Cond.keeps, Cond.steady]
theorem x_ksl (C : String) (x y : MethodName) : ((Cond.selects C x y).onTables && (Cond.selects C x y).keeps) = true := by first | rfl | simp [Cond.onTables, Cond.keeps, Cond.steady]
theorem x_kco (y : MethodName) (b : ByteArray) (n : Nat) (t : Option FieldType) : ((Cond.code y b n t).onTables && (Cond.code y b n t).keeps) = true := by first | rfl | simp [Cond.onTables, Cond.keeps, Cond.steady]
theorem x_kcw (y : MethodName) (b : ByteArray) (n : Nat) (t : Option FieldType) (l : List (Nat × Nat × Nat × Nat)) : ((Cond.codeWith y b n t l).onTables && (Cond.codeWith y b n t l).keeps) = true := by first | rfl | simp [Cond.onTables, Cond.keeps, Cond.steady]
theorem x_kla {C : String} {T : u_T} {N : Nat} : ∀ w ∈ u_ws C T N, (w.onTables && w.keeps) = true := by
  intro w hw
  obtain ⟨k, -, rfl⟩ := List.mem_map.mp hw
  unfold u_lay
  split <;> first | rfl | simp [Cond.onTables, Cond.keeps, Cond.steady]
/-- what is known of a class: its place, its words, its fields' types and names -/
def x_cl (ci : Nat) (C : String) (T : u_T) (N : Nat) (ty : Nat → FieldType) : Prop :=
  vwCl[ci]? = some (C, T, N) ∧ (∀ w ∈ u_ws C T N, w ∈ lw_tbl) ∧ (∀ k, k < N → parseFieldDescriptor (T k).2.2.1 = some (ty k)) ∧ ∀ a, a < N → ∀ b, b < N → a ≠ b → (T a).2.1 ≠ (T b).2.1
variable {K : x_K} {M : x_M} {d pc pc' : Nat} {lv lv' : List (Option Value)} {st : List Value} {h : x_H} {Q : x_O → x_H → Prop}
  {C : String} {T : u_T} {N ci : Nat} {ty : Nat → FieldType} {fs : List Value} {a : Nat} {v : Value}
theorem go_getfield {idx : Nat} (hd : decode M.2.1 pc = .ok (.getfield idx, 3)) (hc : x_cl ci C T N ty) (j : Nat) (hj : j < N) (hw : Cond.fieldLink M.1.cls idx (T j).1 (T j).2.1 (T j).2.2.1 ∈ lw_tbl) (hf : h.2.2 a = some (.inr (ci, fs))) (hv : fs[j]? = some v) (hp : pc + 3 = pc')
    (k : Go K M d pc' lv (v :: st) h Q) : Go K M d pc lv (.ref a :: st) h Q := by
  subst hp
  intro R s m args below meth c H locs cells slots ls z0 q0 hF hx
  exact va_get (ref := (T j).1) (Ts := u_ws C T N) hF.ex hF.cd (fun w hw' => hF.wd (hc.2.1 w hw') (Or.inl (x_kla w hw')) args) (fun w h => h) hF.ow hF.kk (hF.w.P hf) 0 rfl hc.1 j hj (hF.wd hw (Or.inl (x_kfl _ _ _ _ _)) args) (fun x h => h) hv hd
    (k R s m args below meth c H locs cells slots ls z0 q0 hF hx)
theorem go_putfield {idx : Nat} (hd : decode M.2.1 pc = .ok (.putfield idx, 3)) (hc : x_cl ci C T N ty) (j : Nat) (hj : j < N) (hfin : (T j).2.2.2 = false) (hw : Cond.fieldLink M.1.cls idx (T j).1 (T j).2.1 (T j).2.2.1 ∈ lw_tbl) (hf : h.2.2 a = some (.inr (ci, fs))) (hn : narrow (ty j) v = v) (hfit : fits (ty j) v = true) (hl : j < fs.length) (hp : pc + 3 = pc')
    (k : Go K M d pc' lv st (x_up h a (.inr (ci, fs.set j v))) Q) : Go K M d pc lv (v :: .ref a :: st) h Q := by
  subst hp
  intro R s m args below meth c H locs cells slots ls z0 q0 hF hx
  have hts : ∀ w ∈ u_ws C T N, w.before args s = true := fun w hw' => hF.wd (hc.2.1 w hw') (Or.inl (x_kla w hw')) args
  have hap := va_apart (own := M.1.cls) hts (fun w h => h) ty hc.2.2.1 hc.2.2.2 hF.kk hc.1
  obtain ⟨hB, r, h1, cell, q1, q2, q3, q4⟩ := hF.w.2.2.1 a _ hf
  obtain rfl : r = (C, T, N) := Option.some.inj (h1.symm.trans hc.1)
  obtain ⟨hS, hfc, kC, hkC, hkind⟩ := hF.kk.1 ci _ hc.1
  obtain ⟨cf, kf, fi, f, hi, hsl⟩ := hS j hj
  have hlay := hts _ (u_in_lay hj)
  unfold u_lay at hlay
  rw [if_neg (by rw [hfin]; decide)] at hlay
  have hst := (u_facts hfc hkC (u_lays hts (fun w h => h) hj) hi).1
  have h6 := u_store hfc hkC hkind hlay hi (hc.2.2.1 j hj) hn hfit
  refine W.putK hF.ex hF.cd (f := f) ⟨hF.ow, hF.wd hw (Or.inl (x_kfl _ _ _ _ _)) args, ⟨_, _, _, hi⟩, hst⟩ (by rw [q2]; exact h6) q1 q3 (by rw [hsl]; exact k2_hasslot (q4 j hj)) rfl rfl hd fun H' e1 e2 e3 => ?_
  rw [hsl] at e1
  exact k R s m args below meth c H' _ cells slots ls z0 q0 (hF.mv (hF.w.up (.inr (ci, fs.set j v)) hf ⟨_, hc.1, t_OB.to (V := updV (vp_V fs) j v) ⟨_, e1, q2, q3, t_set q4 hap hj v⟩ (fun i _ => vp_updV_set hl v i)⟩ e2 e3)
    (fun q hq => by rcases List.mem_append.mp hq with hq | hq; exact hF.lc q hq; rw [List.mem_singleton.mp hq]; exact hB) hF.cs.1 hF.cs.2.1 hF.cs.2.2.1 hF.cs.2.2.2) hx
theorem go_putfinal {idx : Nat} (hd : decode M.2.1 pc = .ok (.putfield idx, 3)) (hc : x_cl ci C T N ty) (j : Nat) (hj : j < N) (hfin : (T j).2.2.2 = true) (hin2 : M.1.name = "<init>") (hdecl : (T j).1 = M.1.cls) (hw : Cond.fieldLink M.1.cls idx (T j).1 (T j).2.1 (T j).2.2.1 ∈ lw_tbl) (hf : h.2.2 a = some (.inr (ci, fs))) (hn : narrow (ty j) v = v) (hfit : fits (ty j) v = true) (hl : j < fs.length) (hp : pc + 3 = pc')
    (k : Go K M d pc' lv st (x_up h a (.inr (ci, fs.set j v))) Q) : Go K M d pc lv (v :: .ref a :: st) h Q := by
  subst hp
  intro R s m args below meth c H locs cells slots ls z0 q0 hF hx
  have hts : ∀ w ∈ u_ws C T N, w.before args s = true := fun w hw' => hF.wd (hc.2.1 w hw') (Or.inl (x_kla w hw')) args
  have hap := va_apart (own := M.1.cls) hts (fun w h => h) ty hc.2.2.1 hc.2.2.2 hF.kk hc.1
  obtain ⟨hB, r, h1, cell, q1, q2, q3, q4⟩ := hF.w.2.2.1 a _ hf
  obtain rfl : r = (C, T, N) := Option.some.inj (h1.symm.trans hc.1)
  obtain ⟨hS, hfc, kC, hkC, hkind⟩ := hF.kk.1 ci _ hc.1
  obtain ⟨cf, kf, fi, f, hi, hsl⟩ := hS j hj
  have hlay := hts _ (u_in_lay hj)
  unfold u_lay at hlay
  rw [if_pos hfin] at hlay
  have hst := (u_facts hfc hkC (u_lays hts (fun w h => h) hj) hi).1
  have hcf : m.cls = cf := by
    obtain ⟨_, _, c', _, _, _, -, -, hf', -, -, -, hown2, -⟩ := Cond.laysFinal_spec hlay
    have e1 : c' = cf := by have := hi.symm.trans hf'; simp at this; exact this.1.symm
    rw [hdecl] at hown2
    rw [← e1]; exact Option.some.inj (hF.ow.symm.trans hown2)
  have h6 := u_fits hfc hkC hkind (Or.inr hlay) hi (hc.2.2.1 j hj) hn hfit
  refine W.putFinK hF.ex hF.cd hF.ow (hF.wd hw (Or.inl (x_kfl _ _ _ _ _)) args) hi hst hcf (hF.nm.trans hin2) (by rw [q2]; exact h6) q1 q3 (by rw [hsl]; exact k2_hasslot (q4 j hj)) rfl rfl hd fun H' e1 e2 e3 => ?_
  rw [hsl] at e1
  exact k R s m args below meth c H' _ cells slots ls z0 q0 (hF.mv (hF.w.up (.inr (ci, fs.set j v)) hf ⟨_, hc.1, t_OB.to (V := updV (vp_V fs) j v) ⟨_, e1, q2, q3, t_set q4 hap hj v⟩ (fun i _ => vp_updV_set hl v i)⟩ e2 e3)
    (fun q hq => by rcases List.mem_append.mp hq with hq | hq; exact hF.lc q hq; rw [List.mem_singleton.mp hq]; exact hB) hF.cs.1 hF.cs.2.1 hF.cs.2.2.1 hF.cs.2.2.2) hx
theorem go_new {idx : Nat} (hd : decode M.2.1 pc = .ok (.new idx, 3)) (hc : x_cl ci C T N ty) (hw1 : Cond.classLink M.1.cls idx C ∈ lw_tbl) (hw2 : Cond.instantiable C N ∈ lw_tbl) (hw3 : Cond.initialized C ∈ lw_tbl) (hfs : ∀ j, j < N → defaultValue (ty j) = vp_V fs j) (hz : h.1 + 1 ≤ x_cap K) (hq : h.2.1 + N ≤ x_cas K) (hp : pc + 3 = pc')
    (k : Go K M d pc' lv (.ref h.1 :: st) (x_nw h N (.inr (ci, fs))) Q) : Go K M d pc lv st h Q := by
  subst hp
  intro R s m args below meth c H locs cells slots ls z0 q0 hF hx
  have hts : ∀ w ∈ u_ws C T N, w.before args s = true := fun w hw' => hF.wd (hc.2.1 w hw') (Or.inl (x_kla w hw')) args
  have hKn := hF.kk.1 ci _ hc.1
  have hcs := hF.cs
  have hrm := hF.rm
  refine W.newcK hF.ex hF.cd hF.ow (hF.wd hw1 (Or.inl (x_kcl _ _ _)) args) (hF.wd hw2 (Or.inl (x_kin _ _)) args) (hF.wd hw3 (Or.inl (x_kii _)) args) rfl hd (by omega) (by omega) hKn.2.1 hF.w.1 fun H1 kC hkC e1 z1 o1 => ?_
  exact k R s m args below meth c H1 locs (cells + 1) (slots + N) ls z0 q0 (hF.mv (hF.w.nw N (.inr (ci, fs)) ⟨_, hc.1, (u_born ty hts (fun w h => h) hKn hkC e1 hc.2.2.1).to hfs⟩ z1 o1) hF.lc (by show cells + 1 + z0 ≤ h.1 + 1; omega) (by show slots + N + q0 ≤ h.2.1 + N; omega) hz hq) hx
theorem x_arr {K : x_K} {M : x_M} {d : Nat} {R : Room} {s : State} {m : MethodId} {meth : Method} {c : Code} {H : Heap} {h : x_H} {locs : List Loc} {cells slots z0 q0 : Nat} (hF : x_F K M d R s m meth c H h locs cells slots z0 q0) {k : Nat} {ty : FieldType} (hk : x_ty k = some ty) : ArrOfT s (x_ca K k) ty := arrOfT_moved hF.wm.alike (hF.ok.2.2.2.1 k ty hk).1
theorem x_ra {K : x_K} {M : x_M} {d : Nat} {R : Room} {s : State} {m : MethodId} {meth : Method} {c : Code} {H : Heap} {h : x_H} {locs : List Loc} {cells slots z0 q0 : Nat} (hF : x_F K M d R s m meth c H h locs cells slots z0 q0) {k : Nat} {ty : FieldType} (hk : x_ty k = some ty) : va_RA s (x_ca K k) ty := ((hF.ok.2.2.2.1 k ty hk).2).moved hF.wm.alike
theorem go_newarray {atype : ArrayType} {kd : Nat} {n : Int32} {N' : Nat} {a0 : vp_A} (hd : decode M.2.1 pc = .ok (.newarray atype, 2)) (hw : Cond.arrayClass (newarray.typeOf atype) ∈ lw_tbl) (hk : x_ty kd = some (newarray.typeOf atype)) (ha : ∀ cA : ClassId, vp_cell cA a0 = arrV cA N' (fun _ => defaultValue (newarray.typeOf atype)))
    (hn : ¬ n < 0) (hN : n.toNatClampNeg = N') (hb : N' * componentBytes (newarray.typeOf atype) ≤ 536870912) (hz : h.1 + 1 ≤ x_cap K) (hq : h.2.1 + N' ≤ x_cas K) (hp : pc + 2 = pc')
    (k : Go K M d pc' lv (.ref h.1 :: st) (x_nw h N' (.inl (kd, a0))) Q) : Go K M d pc lv (.int n :: st) h Q := by
  subst hp
  intro R s m args below meth c H locs cells slots ls z0 q0 hF hx
  have hcs := hF.cs
  have hrm := hF.rm
  refine va_newaK hF.ex hF.cd (hF.wd hw (Or.inr ⟨_, rfl⟩) args) rfl hd rfl hn hN hb (by omega) (by omega) hF.w.1 fun H1 cA e1 z1 o1 hAr hNm => ?_
  have hra := x_ra hF hk
  have hcA : x_ca K kd = cA := by
    have h2 : s.vm.findClass ("[" ++ (newarray.typeOf atype).toString) = some (x_ca K kd) := by
      cases atype <;> exact hra
    exact Option.some.inj (h2.symm.trans hNm)
  refine k R s m args below meth c H1 locs (cells + 1) (slots + N') ls z0 q0 (hF.mv (hF.w.nw N' (.inl (kd, a0)) ?_ z1 o1) hF.lc (by show cells + 1 + z0 ≤ h.1 + 1; omega) (by show slots + N' + q0 ≤ h.2.1 + N'; omega) hz hq) hx
  show H1[h.1]? = some (vp_cell (x_ca K kd) a0)
  rw [ha, hcA]
  exact e1
theorem go_anewarray {idx kd : Nat} {E : String} {n : Int32} {N' : Nat} (hd : decode M.2.1 pc = .ok (.anewarray idx, 3)) (hw1 : Cond.classLink M.1.cls idx E ∈ lw_tbl) (hw2 : Cond.arrayOver (.object E) ∈ lw_tbl) (hk : x_ty kd = some (.object E))
    (hn : ¬ n < 0) (hN : n.toNatClampNeg = N') (hb : N' * 4 ≤ 536870912) (hz : h.1 + 1 ≤ x_cap K) (hq : h.2.1 + N' ≤ x_cas K) (hp : pc + 3 = pc')
    (k : Go K M d pc' lv (.ref h.1 :: st) (x_nw h N' (.inl (kd, N', .inr (.inr (.inr (.inr (fun _ => none))))))) Q) : Go K M d pc lv (.int n :: st) h Q := by
  subst hp
  subst hN
  intro R s m args below meth c H locs cells slots ls z0 q0 hF hx
  have hcs := hF.cs
  have hrm := hF.rm
  have hao : va_AO E s := va_AO.moved hF.wm.alike (va_AO.of (hF.ok.2.1 _ hw2))
  refine W.anew hF.ex hF.cd hF.ow (hF.wd hw1 (Or.inl (x_kcl _ _ _)) args) (va_AO.use hao) rfl hd rfl hn hb (by omega) (by omega) fun cA kA comp f1 f2 f3 f4 => ?_
  generalize hH1 : H.push ({ cls := cA, slots := Array.replicate n.toNatClampNeg .null, vm := .none } : Cell) = H1
  have hs := hF.w.1
  have z1 : H1.size = h.1 + 1 := by rw [← hH1, Array.size_push, hs]
  have e1 : H1[h.1]? = some (arrV cA n.toNatClampNeg (fun _ => .null)) := by rw [← hH1, ← hs, Array.getElem?_push_size, ← arrV_new]
  have o1 : ∀ q : Nat, q < h.1 → H1[q]? = H[q]? := fun q hq => by rw [← hH1, Array.getElem?_push, if_neg (by omega)]
  obtain ⟨kA', comp', -, -, -, hra⟩ := x_ra hF hk
  have hcA : x_ca K kd = cA := Option.some.inj (hra.symm.trans f1)
  rw [hs]
  refine k R s m args below meth c H1 locs (cells + 1) (slots + n.toNatClampNeg) ls z0 q0 (hF.mv (hF.w.nw n.toNatClampNeg (.inl (kd, n.toNatClampNeg, .inr (.inr (.inr (.inr (fun _ => none)))))) ?_ z1 o1) hF.lc (by show cells + 1 + z0 ≤ h.1 + 1; omega) (by show slots + n.toNatClampNeg + q0 ≤ h.2.1 + n.toNatClampNeg; omega) hz hq) hx
  show H1[h.1]? = some (vp_cell (x_ca K kd) _)
  rw [vp_cell_q, hcA]
  exact e1
theorem go_alen {kd : Nat} {x : vp_A} {t : FieldType} {w : Int32} (hd : decode M.2.1 pc = .ok (.arraylength, 1)) (hf : h.2.2 a = some (.inl (kd, x))) (hk : x_ty kd = some t) (hw : Int32.ofNat x.1 = w) (hp : pc + 1 = pc')
    (k : Go K M d pc' lv (.int w :: st) h Q) : Go K M d pc lv (.ref a :: st) h Q := by
  subst hp
  intro R s m args below meth c H locs cells slots ls z0 q0 hF hx
  exact va_alen hF.ex hF.cd (hF.ar hk) (hF.w.P hf) 0 0 rfl rfl hw hd (k R s m args below meth c H locs cells slots ls z0 q0 hF hx)
theorem go_iald {kd n : Nat} {f : Nat → Int32} {i w : Int32} (hd : decode M.2.1 pc = .ok (.iaload, 1)) (hf : h.2.2 a = some (.inl (kd, n, .inl f))) (hk : x_ty kd = some .int) (hin : vp_in i n) (hw : f i.toNatClampNeg = w) (hp : pc + 1 = pc')
    (k : Go K M d pc' lv (.int w :: st) h Q) : Go K M d pc lv (.int i :: .ref a :: st) h Q := by
  subst hp
  subst hw
  intro R s m args below meth c H locs cells slots ls z0 q0 hF hx
  exact va_iald hF.ex hF.cd (hF.ar hk) (hF.w.P hf) 0 0 rfl rfl hin hd (k R s m args below meth c H locs cells slots ls z0 q0 hF hx)
theorem go_zald {kd n : Nat} {f : Nat → Int32} {i w : Int32} (hd : decode M.2.1 pc = .ok (.baload, 1)) (hf : h.2.2 a = some (.inl (kd, n, .inl f))) (hk : x_ty kd = some .boolean) (hin : vp_in i n) (hw : f i.toNatClampNeg = w) (hp : pc + 1 = pc')
    (k : Go K M d pc' lv (.int w :: st) h Q) : Go K M d pc lv (.int i :: .ref a :: st) h Q := by
  subst hp
  subst hw
  intro R s m args below meth c H locs cells slots ls z0 q0 hF hx
  exact va_zald hF.ex hF.cd (hF.ar hk) (hF.w.P hf) 0 0 rfl rfl hin hd (k R s m args below meth c H locs cells slots ls z0 q0 hF hx)
theorem go_lald {kd n : Nat} {f : Nat → Int64} {i : Int32} {w : Int64} (hd : decode M.2.1 pc = .ok (.laload, 1)) (hf : h.2.2 a = some (.inl (kd, n, .inr (.inl f)))) (hk : x_ty kd = some .long) (hin : vp_in i n) (hw : f i.toNatClampNeg = w) (hp : pc + 1 = pc')
    (k : Go K M d pc' lv (.long w :: st) h Q) : Go K M d pc lv (.int i :: .ref a :: st) h Q := by
  subst hp
  subst hw
  intro R s m args below meth c H locs cells slots ls z0 q0 hF hx
  exact va_lald hF.ex hF.cd (hF.ar hk) (hF.w.P hf) 0 0 rfl rfl hin hd (k R s m args below meth c H locs cells slots ls z0 q0 hF hx)
theorem go_aald {kd n : Nat} {E : String} {f : Nat → Option Nat} {i : Int32} {o : Option Nat} (hd : decode M.2.1 pc = .ok (.aaload, 1)) (hf : h.2.2 a = some (.inl (kd, n, .inr (.inr (.inr (.inr f)))))) (hk : x_ty kd = some (.object E)) (hin : vp_in i n) (hw : f i.toNatClampNeg = o) (hp : pc + 1 = pc')
    (k : Go K M d pc' lv (va_rf o :: st) h Q) : Go K M d pc lv (.int i :: .ref a :: st) h Q := by
  subst hp
  subst hw
  intro R s m args below meth c H locs cells slots ls z0 q0 hF hx
  exact va_aldq hF.ex hF.cd (hF.ar hk) (hF.w.P hf) 0 0 rfl rfl hin hd (k R s m args below meth c H locs cells slots ls z0 q0 hF hx)
theorem x_lc {locs : List Loc} {B a j : Nat} (h1 : ∀ q ∈ locs, B ≤ q.base) (h2 : B ≤ a) : ∀ q ∈ locs ++ [⟨a, j⟩], B ≤ q.base := fun q hq => by
  rcases List.mem_append.mp hq with hq | hq
  · exact h1 q hq
  · rw [List.mem_singleton.mp hq]; exact h2
theorem go_iast {kd n : Nat} {f : Nat → Int32} {i x : Int32} (hd : decode M.2.1 pc = .ok (.iastore, 1)) (hf : h.2.2 a = some (.inl (kd, n, .inl f))) (hk : x_ty kd = some .int) (hin : vp_in i n) (hp : pc + 1 = pc')
    (k : Go K M d pc' lv st (x_up h a (.inl (kd, n, .inl (va_up f i.toNatClampNeg x)))) Q) : Go K M d pc lv (.int x :: .int i :: .ref a :: st) h Q := by
  subst hp
  intro R s m args below meth c H locs cells slots ls z0 q0 hF hx
  obtain ⟨hB, hat⟩ := hF.w.2.2.1 a _ hf
  refine W.iast hF.ex hF.cd hat (x_arr hF hk n (fun j => .int (f j))) (fun q => by cases q) (by show ¬ (i < 0 ∨ (arrV _ _ _).slots.size ≤ _); rw [arrV_size]; exact hin) rfl rfl hd fun H1 e z oq => ?_
  refine k R s m args below meth c H1 _ cells slots ls z0 q0 (hF.mv (hF.w.up _ hf ?_ z oq) (x_lc hF.lc hB) hF.cs.1 hF.cs.2.1 hF.cs.2.2.1 hF.cs.2.2.2) hx
  show H1[a]? = some (vp_cell _ _)
  rw [e]
  show some ((arrV _ _ _).setSlot _ _) = _
  rw [vp_cell_i, arrV_store]
  congr 2
  funext q
  by_cases hq : q = i.toNatClampNeg <;> simp [updV, va_up, hq]
theorem go_zast {kd n : Nat} {f : Nat → Int32} {i x : Int32} (hd : decode M.2.1 pc = .ok (.bastore, 1)) (hf : h.2.2 a = some (.inl (kd, n, .inl f))) (hk : x_ty kd = some .boolean) (hin : vp_in i n) (hp : pc + 1 = pc')
    (k : Go K M d pc' lv st (x_up h a (.inl (kd, n, .inl (va_up f i.toNatClampNeg (vp_nar .boolean x))))) Q) : Go K M d pc lv (.int x :: .int i :: .ref a :: st) h Q := by
  subst hp
  intro R s m args below meth c H locs cells slots ls z0 q0 hF hx
  obtain ⟨hB, hat⟩ := hF.w.2.2.1 a _ hf
  refine W.zast hF.ex hF.cd hat (x_arr hF hk n (fun j => .int (f j))) (fun q => by cases q) (by show ¬ (i < 0 ∨ (arrV _ _ _).slots.size ≤ _); rw [arrV_size]; exact hin) rfl rfl hd fun H1 e z oq => ?_
  refine k R s m args below meth c H1 _ cells slots ls z0 q0 (hF.mv (hF.w.up _ hf ?_ z oq) (x_lc hF.lc hB) hF.cs.1 hF.cs.2.1 hF.cs.2.2.1 hF.cs.2.2.2) hx
  show H1[a]? = some (vp_cell _ _)
  rw [e]
  show some ((arrV _ _ _).setSlot _ _) = _
  rw [vp_cell_i, arrV_store]
  congr 2
  funext q
  by_cases hq : q = i.toNatClampNeg
  · subst hq
    simp [updV, va_up, vp_nar]
    try rfl
  · simp [updV, va_up, hq]
theorem go_last {kd n : Nat} {f : Nat → Int64} {i : Int32} {x : Int64} (hd : decode M.2.1 pc = .ok (.lastore, 1)) (hf : h.2.2 a = some (.inl (kd, n, .inr (.inl f)))) (hk : x_ty kd = some .long) (hin : vp_in i n) (hp : pc + 1 = pc')
    (k : Go K M d pc' lv st (x_up h a (.inl (kd, n, .inr (.inl (va_up f i.toNatClampNeg x))))) Q) : Go K M d pc lv (.long x :: .int i :: .ref a :: st) h Q := by
  subst hp
  intro R s m args below meth c H locs cells slots ls z0 q0 hF hx
  obtain ⟨hB, hat⟩ := hF.w.2.2.1 a _ hf
  refine W.last hF.ex hF.cd hat (x_arr hF hk n (fun j => .long (f j))) (fun q => by cases q) (by show ¬ (i < 0 ∨ (arrV _ _ _).slots.size ≤ _); rw [arrV_size]; exact hin) rfl rfl hd fun H1 e z oq => ?_
  refine k R s m args below meth c H1 _ cells slots ls z0 q0 (hF.mv (hF.w.up _ hf ?_ z oq) (x_lc hF.lc hB) hF.cs.1 hF.cs.2.1 hF.cs.2.2.1 hF.cs.2.2.2) hx
  show H1[a]? = some (vp_cell _ _)
  rw [e]
  show some ((arrV _ _ _).setSlot _ _) = _
  rw [vp_cell_l, arrV_store]
  congr 2
  funext q
  by_cases hq : q = i.toNatClampNeg <;> simp [updV, va_up, hq]
theorem go_aast {kd n b : Nat} {r : vw_C} {vs : List Value} {f : Nat → Option Nat} {i : Int32} (hd : decode M.2.1 pc = .ok (.aastore, 1)) (hf : h.2.2 a = some (.inl (kd, n, .inr (.inr (.inr (.inr f)))))) (hk : x_ty kd = some (.object r.1)) (hv : h.2.2 b = some (.inr (ci, vs))) (hc : vwCl[ci]? = some r) (hin : vp_in i n) (hp : pc + 1 = pc')
    (k : Go K M d pc' lv st (x_up h a (.inl (kd, n, .inr (.inr (.inr (.inr (va_up f i.toNatClampNeg (some b)))))))) Q) : Go K M d pc lv (.ref b :: .int i :: .ref a :: st) h Q := by
  subst hp
  intro R s m args below meth c H locs cells slots ls z0 q0 hF hx
  have hlt : i.toNatClampNeg < n := Nat.not_le.mp fun q => hin (Or.inr q)
  have h0 : ¬ i < 0 := fun q => hin (Or.inl q)
  obtain ⟨hB, hat⟩ := hF.w.2.2.1 a _ hf
  obtain ⟨-, r', hr', cellV, g1, g2, g3, -⟩ := hF.w.2.2.1 b _ hv
  have hcls := (hF.kk.1 ci r hc).2
  obtain ⟨kA, comp, k1, k2, k3, -⟩ := x_ra hF hk
  obtain rfl : comp = (x_D K).1 ci := Option.some.inj (k3.symm.trans hcls.1)
  obtain ⟨kC, hkC, -⟩ := hcls.2
  refine W.aast hF.ex hF.cd hat (fun q h => by cases h) (fun h => by cases h) k1 k2 rfl hkC ⟨h0, by show _ < (arrV _ _ _).slots.size; rw [arrV_size]; exact hlt⟩ g1 (fun q h => by rw [g3] at h; cases h) (by rw [g2]; exact hkC) (by rw [g2]; exact va_assign hcls) rfl rfl hd fun H1 e z oq => ?_
  refine k R s m args below meth c H1 _ cells slots ls z0 q0 (hF.mv (hF.w.up _ hf ?_ z oq) (x_lc hF.lc hB) hF.cs.1 hF.cs.2.1 hF.cs.2.2.1 hF.cs.2.2.2) hx
  show H1[a]? = some (vp_cell _ _)
  rw [e]
  show some ((arrV _ _ _).setSlot _ _) = _
  rw [vp_cell_q, arrV_store]
  congr 2
  funext q
  by_cases hq : q = i.toNatClampNeg <;> simp [updV, va_up, hq, va_rf]
theorem go_aastN {kd n : Nat} {E : String} {f : Nat → Option Nat} {i : Int32} (hd : decode M.2.1 pc = .ok (.aastore, 1)) (hf : h.2.2 a = some (.inl (kd, n, .inr (.inr (.inr (.inr f)))))) (hk : x_ty kd = some (.object E)) (hin : vp_in i n) (hp : pc + 1 = pc')
    (k : Go K M d pc' lv st (x_up h a (.inl (kd, n, .inr (.inr (.inr (.inr (va_up f i.toNatClampNeg none))))))) Q) : Go K M d pc lv (.null :: .int i :: .ref a :: st) h Q := by
  subst hp
  intro R s m args below meth c H locs cells slots ls z0 q0 hF hx
  obtain ⟨hB, hat⟩ := hF.w.2.2.1 a _ hf
  refine va_WaastN (C := E) hF.ex hF.cd hat (x_arr hF hk n (fun j => va_rf (f j))) (fun h => by cases h) (by show ¬ (i < 0 ∨ (arrV _ _ _).slots.size ≤ _); rw [arrV_size]; exact hin) rfl rfl hd fun H1 e z oq => ?_
  refine k R s m args below meth c H1 _ cells slots ls z0 q0 (hF.mv (hF.w.up _ hf ?_ z oq) (x_lc hF.lc hB) hF.cs.1 hF.cs.2.1 hF.cs.2.2.1 hF.cs.2.2.2) hx
  show H1[a]? = some (vp_cell _ _)
  rw [e]
  show some ((arrV _ _ _).setSlot _ _) = _
  rw [vp_cell_q, arrV_store]
  congr 2
  funext q
  by_cases hq : q = i.toNatClampNeg <;> simp [updV, va_up, hq, va_rf]
/-- a store of a reference that may be null, of one class -/
theorem go_aastO {kd n : Nat} {o : Option Nat} {r : vw_C} {f : Nat → Option Nat} {i : Int32} (hd : decode M.2.1 pc = .ok (.aastore, 1)) (hf : h.2.2 a = some (.inl (kd, n, .inr (.inr (.inr (.inr f)))))) (hk : x_ty kd = some (.object r.1)) (hv : ∀ b : Nat, o = some b → ∃ vs, h.2.2 b = some (.inr (ci, vs))) (hc : vwCl[ci]? = some r) (hin : vp_in i n) (hp : pc + 1 = pc')
    (k : Go K M d pc' lv st (x_up h a (.inl (kd, n, .inr (.inr (.inr (.inr (va_up f i.toNatClampNeg o))))))) Q) : Go K M d pc lv (va_rf o :: .int i :: .ref a :: st) h Q := by
  cases o with
  | none => exact go_aastN hd hf hk hin hp k
  | some b =>
    obtain ⟨vs, hvs⟩ := hv b rfl
    exact go_aast hd hf hk hvs hc hin hp k
theorem go_areturn {v : Value} {t : FieldType} (hd : decode M.2.1 pc = .ok (.areturn, 1)) (hr : M.2.2.2.1 = some t) (ht : ∃ n, t = .object n) (hv : x_r v = true) (hq : Q (.inl (some v)) h) : Go K M d pc lv [v] h Q := by
  intro R s m args below meth c H locs cells slots ls z0 q0 hF hx
  intro T hT X
  have hlocks : meth.locks = false := hF.lk
  have hexec := hF.ex
  have hb := hF.cd
  have hrt := hF.rt
  obtain ⟨fs, hret, hrun, hended, hW, hframe⟩ := X.leave (v := some v) (fun q => by rw [hrt, hr] at q; cases q)
  have hmeth' : T.vm.method? m = some meth := X.method'
  obtain ⟨n, rfl⟩ := ht
  have hr' : meth.sig.returnType = some (.object n) := hrt.trans hr
  refine ⟨T.setFrames fs, ?_, .returned (some v), .inl (some v), h, hrun, hended, hW, ⟨locs, cells, slots, hframe, hF.lc, hF.cs.1, hF.cs.2.1⟩, rfl, by (show x_W K h T.heap); rw [hT]; exact hF.w, hF.cs.2.2.1, hF.cs.2.2.2, hq⟩
  rcases x_r_cases hv with ⟨a, rfl⟩ | rfl <;>
    (jvm_step X.here [X.here.top, hexec, hb, hd, hmeth', hr']
     (try refine ⟨rfl, ?_⟩); (try refine ⟨rfl, ?_⟩)
     first | (intro acts; rw [hret _ acts rfl rfl rfl]) | rw [hret _ _ rfl rfl rfl]
     exact Steps.refl _)
end XC
end
section
section XD
/-- what a callee finds in its locals -/
def x_ent : List Value → List (Option Value)
  | [] => []
  | .long v :: r => some (.long v) :: none :: x_ent r
  | .double v :: r => some (.double v) :: none :: x_ent r
  | v :: r => some v :: x_ent r
def x_en (As : List Value) (n : Nat) : List (Option Value) := x_ent As ++ List.replicate (n - (x_ent As).length) none
theorem x_ent_args : ∀ (As : List Value) (k i : Nat) (v : Value), (x_ent As)[i]? = some (some v) → (i + k, v) ∈ lv_args k As
  | [], k, i, v, h => by simp [x_ent] at h
  | u :: r, k, i, v, h => by
    by_cases hu : u.category = 2
    · have e1 : x_ent (u :: r) = some u :: none :: x_ent r := by cases u <;> first | rfl | cases hu
      have e2 : lv_args k (u :: r) = (k, u) :: lv_args (k + 2) r := by simp [lv_args, hu]
      rw [e1] at h
      rw [e2]
      match i, h with
      | 0, h =>
        simp at h
        subst h
        simp
      | 1, h => simp at h
      | i + 2, h =>
        refine List.mem_cons_of_mem _ ?_
        rw [show i + 2 + k = i + (k + 2) by omega]
        exact x_ent_args r (k + 2) i v (by simpa using h)
    · have e1 : x_ent (u :: r) = some u :: x_ent r := by cases u <;> first | rfl | exact absurd rfl hu
      have e2 : lv_args k (u :: r) = (k, u) :: lv_args (k + 1) r := by simp [lv_args, hu]
      rw [e1] at h
      rw [e2]
      match i, h with
      | 0, h =>
        simp at h
        subst h
        simp
      | i + 1, h =>
        refine List.mem_cons_of_mem _ ?_
        rw [show i + 1 + k = i + (k + 1) by omega]
        exact x_ent_args r (k + 1) i v (by simpa using h)
theorem x_ent_len : ∀ As : List Value, (lg_sl As).length = (x_ent As).length
  | [] => rfl
  | u :: r => by
    have ih := x_ent_len r
    by_cases hu : u.category = 2
    · have e1 : x_ent (u :: r) = some u :: none :: x_ent r := by cases u <;> first | rfl | cases hu
      rw [e1]
      simp [lg_sl, hu] at ih ⊢
      exact ih
    · have e1 : x_ent (u :: r) = some u :: x_ent r := by cases u <;> first | rfl | exact absurd rfl hu
      rw [e1]
      simp [lg_sl, hu] at ih ⊢
      exact ih
theorem x_en_l {As : List Value} {n : Nat} (h : (x_ent As).length ≤ n) : x_l ((lg_sl As ++ List.replicate (n - (lg_sl As).length) Slot.unset).toArray) n (x_en As n) := by
  have hl := lv_entry As (n := n) (by rw [x_ent_len]; exact h)
  refine ⟨hl.1, hl.2.1, fun i v hv => ?_⟩
  have h2 : (x_ent As)[i]? = some (some v) := by
    unfold x_en at hv
    by_cases hi : i < (x_ent As).length
    · rw [List.getElem?_append_left hi] at hv; exact hv
    · rw [List.getElem?_append_right (by omega), List.getElem?_replicate] at hv
      split at hv <;> cases hv
  exact hl.2.2 (i, v) (x_ent_args As 0 i v h2)
theorem x_cat : ∀ st : List Value, (st.map fun v => v.category).sum ≤ 2 * st.length
  | [] => Nat.le_refl _
  | u :: r => by
    have ih := x_cat r
    have h : u.category ≤ 2 := by cases u <;> simp [Value.category]
    simp only [List.map_cons, List.sum_cons, List.length_cons]
    omega
theorem x_weaken {tb : Tables} {e : Env} {g : Frame} {below : List Frame} {a b : State} (h : Steps tb e (g :: below) a b) : Steps tb e below a b := by
  obtain ⟨n, hn, w⟩ := h
  exact ⟨n, hn, fun k hk => Within.weaken (mid := [g]) (w k hk)⟩
/-- a method's code stands in the tables -/
def x_cd (M : x_M) : Prop := (M.2.2.2.2 = [] ∧ Cond.code M.1 M.2.1 M.2.2.1 M.2.2.2.1 ∈ lw_tbl) ∨ Cond.codeWith M.1 M.2.1 M.2.2.1 M.2.2.2.1 M.2.2.2.2 ∈ lw_tbl
def x_md (s : State) (M : x_M) (mk : MethodId) (methk : Method) (ck : Code) : Prop :=
  s.methodNamed? M.1 = some mk ∧ s.vm.method? mk = some methk ∧ methk.code = some ck ∧
  (ck.code = M.2.1 ∧ ck.maxLocals = M.2.2.1 ∧ methk.sig.returnType = M.2.2.2.1 ∧ methk.locks = false ∧ methk.name = M.1.name ∧ ck.exceptionTable.toList.map (fun x => (x.startPc, x.endPc, x.handlerPc, x.catchType)) = M.2.2.2.2) ∧
  parseMethodDescriptor M.1.desc = some methk.sig
variable {K : x_K} {M M' : x_M} {d d' pc pc' : Nat} {lv lv' lv0 : List (Option Value)} {st : List Value} {h : x_H} {Q Q' : x_O → x_H → Prop}
  {R : Room} {s : State} {m : MethodId} {args : Array Value} {below : List Frame} {meth : Method} {c : Code} {H : Heap} {locs : List Loc} {cells slots z0 q0 : Nat} {ls : Array Slot} {T : State}
theorem x_F.md (hF : x_F K M d R s m meth c H h locs cells slots z0 q0) (hc : x_cd M') : ∃ mk methk ck, x_md s M' mk methk ck := by
  rcases hc with ⟨h0, hc⟩ | hc
  · have hw := hF.wd hc (Or.inl (x_kco _ _ _ _)) #[]
    obtain ⟨mk, hn⟩ := Cond.code_named hw
    obtain ⟨methk, ck, f1, f2, f3, f4, f5, f6, f7, f8⟩ := Cond.code_spec hn hw
    refine ⟨mk, methk, ck, hn, f1, f2, ⟨f3, f4, f5, f6, (name_of_methodNamed hn f1).1, ?_⟩, f8⟩
    have : ck.exceptionTable = #[] := by simpa using f7
    rw [this, h0]; rfl
  · have hw := hF.wd hc (Or.inl (x_kcw _ _ _ _ _)) #[]
    obtain ⟨mk, methk, ck, hn, f1, f2, f3, f4, f5, f6, f7, f8⟩ := Cond.codeWith_spec hw
    exact ⟨mk, methk, ck, hn, f1, f2, ⟨f3, f4, f6, f7, (name_of_methodNamed hn f1).1, f5⟩, f8⟩
/-- what an exception that a call brings means in this frame -/
def x_T (K : x_K) (M : x_M) (d pc : Nat) (lv : List (Option Value)) (st : List Value) (Q : x_O → x_H → Prop) (q : Nat × Nat) (h : x_H) : Prop :=
  ∀ (R : Room) (s : State) (m : MethodId) (args : Array Value) (below : List Frame) (meth : Method) (c : Code) (H : Heap) (locs : List Loc) (cells slots : Nat) (ls : Array Slot) (z0 q0 : Nat) (T : State),
    x_F K M d R s m meth c H h locs cells slots z0 q0 → x_l ls M.2.2.1 lv → T.heap = H → (∃ cell : Cell, H[q.2]? = some cell ∧ cell.vm = .none ∧ cell.cls = x_ca K q.1) →
    Stand (x_p K) (x_n K) (x_e K) R s m args below meth c T locs cells slots →
    ∃ t, Steps (x_p K).tables (x_e K) below ((T.setTop (F0 m pc ls st)).pushFrame (.throwing q.2)) t ∧ x_Q K s below z0 q0 Q t
/-- no handlers: it goes on to the caller -/
theorem x_T.out {q : Nat × Nat} (hh : M.2.2.2.2 = []) (hq : Q (.inr q) h) : x_T K M d pc lv st Q q h := by
  intro R s m args below meth c H locs cells slots ls z0 q0 T hF hx hT hcell X
  have ht : c.exceptionTable.toList = [] := by
    have := hF.tb
    rw [hh] at this
    exact List.map_eq_nil_iff.mp this
  obtain ⟨a1, a2, a3, a4, a5⟩ := X.leaveThrown q.2 (g := F0 m pc ls st) rfl rfl rfl (fun x hx' => by rw [ht] at hx'; cases hx') hF.lk
  have hh2 : (T.setFrames (.throwing q.2 :: below)).heap = H := hT
  exact ⟨_, a1, .threw q.2, .inr q, h, a2, a3, a4, ⟨locs, cells, slots, a5, hF.lc, hF.cs.1, hF.cs.2.1⟩, ⟨rfl, by rw [hh2]; exact hcell⟩, by rw [hh2]; exact hF.w, hF.cs.2.2.1, hF.cs.2.2.2, hq⟩
set_option maxHeartbeats 1000000 in
theorem x_enter (hF : x_F K M d R s m meth c H h locs cells slots z0 q0) (hx : x_l ls M.2.2.1 lv) (hT : T.heap = H) (X : Stand (x_p K) (x_n K) (x_e K) R s m args below meth c T locs cells slots)
    {ig : Instr} {len : Nat} (hd : decode M.2.1 pc = .ok (ig, len)) {mk : MethodId} {methk : Method} {ck : Code} (hm : x_md s M' mk methk ck) (hpl : plainName M'.1.cls = true)
    (As : List Value) (hlen : (x_ent As).length ≤ M'.2.2.1) (he : x_en As M'.2.2.1 = lv0) (hg : Go K M' d' 0 lv0 [] h Q') (hd' : d' + 1 ≤ d) (hrm : 2 * st.length + M'.2.2.1 ≤ 80)
    (kr : ∀ v h', Q' (.inl v) h' → Go K M d (pc + len) lv (v.toList ++ st) h' Q) (kt : ∀ q h', Q' (.inr q) h' → x_T K M d pc lv st Q q h') :
    ∃ t, (∀ acts, Steps (x_p K).tables (x_e K) below (doInvoke (x_e K) (T.setTop (F0 m pc ls st)) acts mk As.toArray).1 t) ∧ x_Q K s below z0 q0 Q t := by
  obtain ⟨hn, hmk, hck, ⟨f1, f2, f3, f4, f5, f6⟩, -⟩ := hm
  have hsz : (F0 m pc ls st).locals.size = c.maxLocals := by rw [hF.ml]; exact hx.1
  have hcat := x_cat st
  have hmk' : T.vm.method? mk = some methk := by rw [X.warmed.alike.method?]; exact hmk
  have hnT : T.methodNamed? M'.1 = some mk := X.named hn
  have hpk : T.plainMethod mk := State.plainMethod.of_named (plainFor_of_name hpl) hnT hmk'
  have hdg : decode c.code (F0 m pc ls st).pc = .ok (ig, len) := by rw [hF.cd]; exact hd
  have hcs := hF.cs
  have hrr := hF.rm
  obtain ⟨Y, hdo⟩ := X.into (g := F0 m pc ls st) rfl hsz hdg As.toArray (R' := { frames := d' + 8, cells := x_cap K - h.1, slots := x_cas K - h.2.1, locals := 100 * d' + 300 }) hmk' hck f4 hpk
    (by show d' + 8 + 1 ≤ R.frames; omega) (by show 2 * 0 + (st.map fun v => v.category).sum + (ck.maxLocals + 11) + (100 * d' + 300) ≤ R.locals; rw [f2]; omega) (by show cells + (x_cap K - h.1) ≤ R.cells; omega) (by show slots + (x_cas K - h.2.1) ≤ R.slots; omega)
  have hFc : x_F K M' d' { frames := d' + 8, cells := x_cap K - h.1, slots := x_cas K - h.2.1, locals := 100 * d' + 300 } (T.calling (F0 m pc ls st) mk As.toArray) mk methk ck H h [] 0 0 h.1 h.2.1 :=
    ⟨hF.ok, State.WarmedH.trans hF.wm X.warmed, ⟨f1, f2, f3, f4, f5, f6⟩, findClass_of_methodNamed hnT, ⟨Nat.le_refl _, Nat.le_refl _, Nat.le_refl _, Nat.le_refl _⟩, ⟨by omega, by omega, hcs.2.2.1, hcs.2.2.2⟩, hF.w, fun q hq => by cases hq⟩
  have hent := x_en_l hlen
  rw [he] at hent
  obtain ⟨t, hst, o, xo, h', b1, b2, b3, ⟨L, k, n, hs1, hs2, hs3, hs4⟩, b5, b6, b7, b8, b9⟩ := hg _ (T.calling (F0 m pc ls st) mk As.toArray) mk As.toArray (.java (F0 m pc ls st) :: below) methk ck H [] 0 0 _ h.1 h.2.1 hFc hent
    ((T.setTop (F0 m pc ls st)).pushFrame (.java (entryFrame mk As.toArray ck.maxLocals))) hT Y
  have hent2 : entryFrame mk As.toArray ck.maxLocals = F0 mk 0 ((lg_sl As ++ List.replicate (M'.2.2.1 - (lg_sl As).length) Slot.unset).toArray) [] := by rw [f2]; exact lg_entry_eq mk As M'.2.2.1
  cases xo with
  | inl v =>
    have b5' : o = .returned v := b5
    subst b5'
    obtain ⟨T', X', hW', hB', ht⟩ := X.outOf rfl hdg b2 b3 hs1
    have hT' : T'.heap = t.heap := by rw [ht]; rfl
    have hF2 : x_F K M d R s m meth c t.heap h' (locs ++ L) (cells + k) (slots + n) z0 q0 := hF.mv b6 (fun q hq => by rcases List.mem_append.mp hq with hq | hq; exact hF.lc q hq; exact hs2 q hq) (by omega) (by omega) b7 b8
    obtain ⟨t2, st2, q2⟩ := kr v h' b9 R s m args below meth c t.heap (locs ++ L) (cells + k) (slots + n) ls z0 q0 hF2 hx T' hT' X'
    refine ⟨t2, fun acts => ?_, q2⟩
    rw [hdo acts]
    refine (x_weaken (g := .java (F0 m pc ls st)) ?_).trans st2
    have ht2 : t = T'.setTop (F0 m (pc + len) ls (v.toList ++ st)) := ht
    rw [← ht2, hent2]
    rw [hent2] at hst
    exact hst
  | inr q =>
    obtain ⟨b5', hcell⟩ := b5
    subst b5'
    obtain ⟨T', X', hW', hB', ht⟩ := X.outOfThrown rfl b2 b3 hs1
    have hT' : T'.heap = t.heap := by rw [ht]; rfl
    have hF2 : x_F K M d R s m meth c t.heap h' (locs ++ L) (cells + k) (slots + n) z0 q0 := hF.mv b6 (fun q hq => by rcases List.mem_append.mp hq with hq | hq; exact hF.lc q hq; exact hs2 q hq) (by omega) (by omega) b7 b8
    obtain ⟨t2, st2, q2⟩ := kt q h' b9 R s m args below meth c t.heap (locs ++ L) (cells + k) (slots + n) ls z0 q0 T' hF2 hx hT' hcell X'
    refine ⟨t2, fun acts => ?_, q2⟩
    rw [hdo acts]
    refine (x_weaken (g := .java (F0 m pc ls st)) ?_).trans st2
    rw [← ht, hent2]
    rw [hent2] at hst
    exact hst
/-- what a call asks of the callee's name -/
def x_nm (y : MethodName) (n : Nat) : Prop := plainName y.cls = true ∧ (y.cls ≠ "java/lang/invoke/MethodHandle" ∧ y.cls ≠ "java/lang/invoke/VarHandle") ∧ (parseMethodDescriptor y.desc).map (fun q => q.parameters.length) = some n
theorem x_nm.len {y : MethodName} {n : Nat} (h : x_nm y n) {sig : MethodDescriptor} (hs : parseMethodDescriptor y.desc = some sig) : n = sig.parameters.length := by
  have h2 := h.2.2
  rw [hs] at h2
  exact (Option.some.inj h2).symm
theorem go_callS {idx : Nat} (As : List Value) {n : Nat} (hd : decode M.2.1 pc = .ok (.invokestatic idx, 3)) (hw1 : Cond.methodLink M.1.cls idx M'.1 ∈ lw_tbl) (hw2 : Cond.static M'.1 ∈ lw_tbl) (hw3 : Cond.initialized M'.1.cls ∈ lw_tbl) (hw4 : x_cd M') (hy : x_nm M'.1 n) (hn : As.length = n)
    {st0 : List Value} (hs : st0 = As.reverse ++ st) (hlen : (x_ent As).length ≤ M'.2.2.1) (he : x_en As M'.2.2.1 = lv0) (hg : Go K M' d' 0 lv0 [] h Q') (hd' : d' + 1 ≤ d) (hrm : 2 * st.length + M'.2.2.1 ≤ 80) (hp : pc + 3 = pc')
    (kr : ∀ v h', Q' (.inl v) h' → Go K M d pc' lv (v.toList ++ st) h' Q) (kt : ∀ q h', Q' (.inr q) h' → x_T K M d pc lv st Q q h') : Go K M d pc lv st0 h Q := by
  subst hp
  subst hs
  intro R s m args below meth c H locs cells slots ls z0 q0 hF hx T hT X
  obtain ⟨mk, methk, ck, hm⟩ := hF.md hw4
  have hnamed := hm.1
  have hmeth := hm.2.1
  obtain ⟨kP, hkP, -⟩ := className_of_methodNamed hnamed
  obtain ⟨vm₁, X₁, hstep⟩ := X.invokestatic hF.ex hF.ow (hF.wd hw1 (Or.inl (x_kml _ _ _)) args) hnamed hmeth (Cond.static_spec hnamed hmeth (hF.wd hw2 (Or.inl (x_kst _)) args)) hkP (Cond.initialized_spec (findClass_of_methodNamed hnamed) hkP (hF.wd hw3 (Or.inl (x_kii _)) args)) hy.2.1
    (g := F0 m pc ls (As.reverse ++ st)) rfl (argsL := As) (rest := st) (hn.trans (hy.len hm.2.2.2.2)) rfl (by rw [hF.cd]; exact hd)
  obtain ⟨t, a1, a2⟩ := x_enter (T := T.setVm vm₁) hF hx hT X₁ hd hm hy.1 As hlen he hg hd' hrm kr kt
  exact ⟨t, hstep _ fun acts => a1 acts, a2⟩
theorem go_callV {idx ci a : Nat} {r : vw_C} {fs : List Value} (As : List Value) {n : Nat} (hd : decode M.2.1 pc = .ok (.invokevirtual idx, 3)) (hw1 : Cond.methodLink M.1.cls idx M'.1 ∈ lw_tbl) (hw2 : Cond.instanceMethod M'.1 ∈ lw_tbl) (hw3 : Cond.selects r.1 M'.1 M'.1 ∈ lw_tbl) (hw4 : x_cd M') (hy : x_nm M'.1 n) (hn : As.length = n)
    (hc : vwCl[ci]? = some r) (hf : h.2.2 a = some (.inr (ci, fs)))
    {st0 : List Value} (hs : st0 = As.reverse ++ .ref a :: st) (hlen : (x_ent (.ref a :: As)).length ≤ M'.2.2.1) (he : x_en (.ref a :: As) M'.2.2.1 = lv0) (hg : Go K M' d' 0 lv0 [] h Q') (hd' : d' + 1 ≤ d) (hrm : 2 * st.length + M'.2.2.1 ≤ 80) (hp : pc + 3 = pc')
    (kr : ∀ v h', Q' (.inl v) h' → Go K M d pc' lv (v.toList ++ st) h' Q) (kt : ∀ q h', Q' (.inr q) h' → x_T K M d pc lv st Q q h') : Go K M d pc lv st0 h Q := by
  subst hp
  subst hs
  intro R s m args below meth c H locs cells slots ls z0 q0 hF hx T hT X
  obtain ⟨mk, methk, ck, hm⟩ := hF.md hw4
  have hnamed := hm.1
  obtain ⟨cellB, g1, g2, g3⟩ := va_recv hF.kk (hF.w.P hf) hc (q0 := 0) rfl
  have hT1 : T.heap[a]? = some cellB := by rw [hT]; exact g1
  obtain ⟨mk', methM, hn2, hmethM, hstM, habM⟩ := Cond.instanceMethod_spec (hF.wd hw2 (Or.inl (x_kim _)) args)
  cases hnamed.symm.trans hn2
  have hsame : methM = methk := Option.some.inj (hmethM.symm.trans hm.2.1)
  subst hsame
  obtain ⟨c2, r2, m2, q1, q2, q3, q4, kP, hkP, hkPi⟩ := Cond.selects_spec (hF.wd hw3 (Or.inl (x_ksl _ _ _)) args)
  cases g3.symm.trans q1
  cases (State.methodFound?_of_named hnamed hy.2.1).symm.trans q2
  cases hnamed.symm.trans q3
  have hselP : selectMethod (x_e K).platform s.vm cellB.cls mk = .method mk := by rw [Launch.admits_selectMethod X.admits]; exact q4
  obtain ⟨vm₁, X₁, hstep⟩ := X.invokevirtual hF.ex hF.ow (hF.wd hw1 (Or.inl (x_kml _ _ _)) args) hnamed hmethM hstM hkP hkPi hy.2.1 (a := a) (cell := cellB) hT1
    (fun z h => by rw [h] at g2; cases g2) hselP hmethM habM hkP hkPi (g := F0 m pc ls (As.reverse ++ .ref a :: st)) rfl (argsL := As) (rest := st) (hn.trans (hy.len hm.2.2.2.2)) rfl (by rw [hF.cd]; exact hd)
  obtain ⟨t, a1, a2⟩ := x_enter (T := T.setVm vm₁) hF hx hT X₁ hd hm hy.1 (.ref a :: As) hlen he hg hd' hrm kr kt
  exact ⟨t, hstep _ fun acts => a1 acts, a2⟩
theorem go_callI {idx a : Nat} (As : List Value) {n : Nat} (hd : decode M.2.1 pc = .ok (.invokespecial idx, 3)) (hy1 : M'.1.name = "<init>") (hr : M'.2.2.2.1 = none) (hw1 : Cond.methodLink M.1.cls idx M'.1 ∈ lw_tbl) (hw2 : Cond.instanceMethod M'.1 ∈ lw_tbl) (hw4 : Cond.code M'.1 M'.2.1 M'.2.2.1 none ∈ lw_tbl) (hh' : M'.2.2.2.2 = []) (hy : x_nm M'.1 n) (hn : As.length = n)
    {st0 : List Value} (hs : st0 = As.reverse ++ .ref a :: st) (hlen : (x_ent (.ref a :: As)).length ≤ M'.2.2.1) (he : x_en (.ref a :: As) M'.2.2.1 = lv0) (hg : Go K M' d' 0 lv0 [] h Q') (hd' : d' + 1 ≤ d) (hrm : 2 * st.length + M'.2.2.1 ≤ 80) (hp : pc + 3 = pc')
    (kr : ∀ v h', Q' (.inl v) h' → Go K M d pc' lv (v.toList ++ st) h' Q) (kt : ∀ q h', Q' (.inr q) h' → x_T K M d pc lv st Q q h') : Go K M d pc lv st0 h Q := by
  subst hp
  subst hs
  intro R s m args below meth c H locs cells slots ls z0 q0 hF hx T hT X
  obtain ⟨mk, methk, ck, hm⟩ := hF.md (M' := M') (Or.inl ⟨hh', by rw [hr]; exact hw4⟩)
  have hpl : (x_e K).platform.magicAccessors = ({} : Platform).magicAccessors := by rw [X.admits.platform]
  obtain ⟨mk', methM, cM, kP, vm₁, hnamed, hmethM, hcodeM, -, hlocalsM, -, hkP, -, hW₁, hstep⟩ := Steps.initColdArgs (e := x_e K) X.here hF.ex X.warmed hpl hF.ow hy1 hy.2.1 (hF.wd hw1 (Or.inl (x_kml _ _ _)) args) (hF.wd hw2 (Or.inl (x_kim _)) args) (hF.wd hw4 (Or.inl (x_kco _ _ _ _)) args)
    (f := F0 m pc ls (As.reverse ++ .ref a :: st)) rfl (argsL := As) (rest := st) (fun sig hsig => hn.trans (hy.len hsig)) rfl (by rw [hF.cd]; exact hd)
  cases hm.1.symm.trans hnamed
  have X₁ := X.noted hW₁
  obtain ⟨t, a1, a2⟩ := x_enter (T := T.setVm vm₁) hF hx hT X₁ hd hm hy.1 (.ref a :: As) hlen he hg hd' hrm kr kt
  exact ⟨t, hstep _ fun acts => a1 acts, a2⟩
theorem go_objInit {idx a : Nat} (hd : decode M.2.1 pc = .ok (.invokespecial idx, 3)) (hw1 : Cond.methodLink M.1.cls idx Lib.objectInit ∈ lw_tbl) (hw2 : Cond.instanceMethod Lib.objectInit ∈ lw_tbl) (hw3 : Cond.code Lib.objectInit ⟨#[0xb1]⟩ 1 none ∈ lw_tbl) (hrm : 2 * st.length ≤ 80) (hp : pc + 3 = pc')
    (k : Go K M d pc' lv st h Q) : Go K M d pc lv (.ref a :: st) h Q := by
  subst hp
  intro R s m args below meth c H locs cells slots ls z0 q0 hF hx
  have hcat := x_cat st
  have hrr := hF.rm
  refine W.objInit hF.ex hF.cd hF.ow (hF.wd hw1 (Or.inl (x_kml _ _ _)) args) (hF.wd hw2 (Or.inl (x_kim _)) args) (hF.wd hw3 (Or.inl (x_kco _ _ _ _)) args) (g := F0 m pc ls (.ref a :: st)) rfl (by rw [hF.ml]; exact hx.1) rfl hd (by omega) (by show 2 * 0 + (st.map fun v => v.category).sum + 12 ≤ R.locals; omega) ?_
  exact k R s m args below meth c H locs cells slots ls z0 q0 hF hx
theorem go_mmax {idx : Nat} {x y : Int32} (hd : decode M.2.1 pc = .ok (.invokestatic idx, 3)) (hw1 : Cond.methodLink M.1.cls idx Lib.Math.max.name ∈ lw_tbl) (hw2 : Cond.static Lib.Math.max.name ∈ lw_tbl) (hw3 : Cond.initialized "java/lang/Math" ∈ lw_tbl) (hw4 : Cond.code Lib.Math.max.name Lib.Math.max.code 2 (some .int) ∈ lw_tbl) (hrm : 2 * st.length ≤ 80) (hp : pc + 3 = pc')
    (k : Go K M d pc' lv (.int (if x < y then y else x) :: st) h Q) : Go K M d pc lv (.int y :: .int x :: st) h Q := by
  subst hp
  intro R s m args below meth c H locs cells slots ls z0 q0 hF hx
  have hcat := x_cat st
  have hrr := hF.rm
  have hcs := hF.cs
  exact va_mmax hF.ex hF.cd (by rw [hF.ml]; exact hx.1.symm) hF.ow (hF.wd hw1 (Or.inl (x_kml _ _ _)) args) (hF.wd hw2 (Or.inl (x_kst _)) args) (hF.wd hw3 (Or.inl (x_kii _)) args) (hF.wd hw4 (Or.inl (x_kco _ _ _ _)) args) (by omega) (by omega) (by omega) (by omega) hd
    (k R s m args below meth c H locs cells slots ls z0 q0 hF hx)
end XD
end
section
section XE
variable {p : Program} {l : Launch} {e : Env} {R : Room} {s : State} {m : MethodId} {args : Array Value} {below : List Frame} {meth : Method} {c : Code} {H : Heap} {locs : List Loc} {cells slots : Nat}
theorem xv_frame {U : State} {k n : Nat} (h : s.sameButNew ({ U with vm := s.vm } : State) locs k n) : s.heap.size ≤ U.heap.size ∧ ∀ q : Nat, q < s.heap.size → (∀ z ∈ locs, z.base ≠ q) → U.heap[q]? = s.heap[q]? := by
  obtain ⟨-, h2, -, -, -, h6⟩ := h
  refine ⟨h2, fun q hq hz => ?_⟩
  obtain ⟨c9, e1, e2, e3, e4⟩ := h6 q _ (Array.getElem?_eq_getElem hq)
  have hs : c9.slots = (s.heap[q]).slots := Array.ext_getElem? fun i => e4 i fun hm => hz _ hm rfl
  have h9 : c9 = s.heap[q] := by
    rw [hs] at e2
    exact e2
  have e5 : U.heap[q]? = some c9 := e1
  rw [e5, h9, Array.getElem?_eq_getElem hq]
/-- the same frame, seen from here: as if the method were called anew in this heap -/
theorem xv_rebase {T : State} (X : Stand p l e R s m args below meth c T locs cells slots) {R' : Room} (hf : R'.frames ≤ R.frames) (hl : R'.locals ≤ R.locals) (hc : cells + R'.cells ≤ R.cells) (hs : slots + R'.slots ≤ R.slots) :
    Stand p l e R' ((T.setVm s.vm).setFrames (.invoking m args :: below)) m args below meth c T [] 0 0 := by
  have htop : (T.setVm s.vm).topJava?.isSome := X.here.top
  have hF : ((T.setVm s.vm).setFrames (.invoking m args :: below)).frames = .invoking m args :: below := State.frames_setFrames _ (State.cur_lt_of_top htop)
  obtain ⟨g₀, hg0⟩ := Option.isSome_iff_exists.mp htop
  obtain ⟨r, hr⟩ := State.topJava?_eq_some.mp hg0
  have hl9 : e.platform.stackLimits (T.setVm s.vm).me = e.platform.stackLimits s.me := X.limits
  have hb9 : (T.setVm s.vm).me.stackBytes = s.me.stackBytes := X.bytes
  refine ⟨X.admits, X.cas, X.clock, hF, ?_, X.hears, X.method, X.code, X.here, X.tail, X.warmed, ?_, ?_, ?_⟩
  · have h := X.room
    have hU : ((T.setVm s.vm).setFrames (.invoking m args :: below)).localsInUse = s.localsInUse := by
      rw [State.localsInUse_invoking hF (meth := meth) (c := c) X.method X.code, State.localsInUse_invoking X.frames X.method X.code]
    simp only [State.hasRoom, Bool.and_eq_true, decide_eq_true_eq] at h ⊢
    obtain ⟨⟨⟨⟨h1, h2, h3, h4, h5, h6⟩, h7⟩, h8⟩, h9⟩ := h
    rw [X.frames, List.length_cons] at h2 h3
    have q1 := X.heapSize
    have q2 := X.used
    simp only [hF, hU, List.length_cons, State.stackLimits_setFrames, State.stackBytes_setFrames, hl9, hb9]
    refine ⟨⟨⟨⟨by omega, by omega, by omega, by omega, by omega, h6⟩, ?_⟩, ?_⟩, X.book⟩
    · show T.heap.size + R'.cells ≤ e.platform.maxCells
      omega
    · show T.slotsUsed + R'.slots ≤ e.platform.maxSlots
      omega
  · rw [State.stackLimits_setFrames]; rfl
  · rw [State.stackBytes_setFrames]; rfl
  · refine ⟨?_, Nat.le_refl _, Nat.le_refl _, ?_, ?_, fun a c9 h9 => ⟨c9, h9, rfl, rfl, fun _ _ => rfl⟩⟩
    · obtain ⟨t, ht, -⟩ := State.frames_cons hr
      show T.setVm s.vm = { ((T.setVm s.vm).setFrames (.invoking m args :: below)).setFrames (T.setVm s.vm).frames with heap := T.heap, slotsUsed := T.slotsUsed }
      rw [State.setFrames_setFrames, State.setFrames_self ht]
      rfl
    · show T.slotsUsed = T.slotsUsed + ((T.heap.toList.drop T.heap.size).map (·.slots.size)).sum
      rw [List.drop_eq_nil_of_le (Nat.le_of_eq Array.length_toList)]
      rfl
    · show ((T.heap.toList.drop T.heap.size).map (·.slots.size)).sum ≤ 0
      rw [List.drop_eq_nil_of_le (Nat.le_of_eq Array.length_toList)]
      exact Nat.le_refl _
end XE
section XF
/-- words that hold in every frame: those that the tables alone decide -/
def x_dc : Cond → Bool
  | .declares _ => true
  | .castable _ _ => true
  | _ => false
def x_wk (w : Cond) : Bool := w.onTables && (w.keeps || x_dc w)
def x_sp (w : Cond) : Bool := decide (w = .isRef (.static Bundle.tN "UNASSIGNED_STACK" Bundle.steD)) || decide (w = .isRef (.static Bundle.tN "SUPPRESSED_SENTINEL" Bundle.listD)) || decide (w = .laysStatic Bundle.tN "UNASSIGNED_STACK" Bundle.steD) || decide (w = .laysStatic Bundle.tN "SUPPRESSED_SENTINEL" Bundle.listD)
def x_atb (own : String) (ic : Nat) (cls : String) (names : List String) : Bool := (Bundle.ownAtoms0 own ic cls names).all (fun w => x_sp w || (decide (w ∈ lw_tbl) && x_wk w))
theorem x_wk_at {args a' : Array Value} {s U : State} (hW : s.WarmedH U.vm) {w : Cond} (hw : x_wk w = true) (h : w.before args s = true) : w.before a' U = true := by
  unfold x_wk at hw
  rw [Bool.and_eq_true, Bool.or_eq_true] at hw
  obtain ⟨h1, h2 | h2⟩ := hw
  · exact word_at hW (Or.inl (by rw [h1, h2]; rfl)) h
  · cases w with
    | declares y => exact va_Nw.use rfl (va_Nw.warmD hW (va_Nw.of rfl h))
    | castable a b => exact va_Nw.use rfl (va_Nw.warmC hW (va_Nw.of rfl h))
    | _ => cases h2
variable {K : x_K} {M M' : x_M} {d d' pc pc' : Nat} {lv lv' lv0 : List (Option Value)} {st : List Value} {h : x_H} {Q Q' : x_O → x_H → Prop}
set_option maxHeartbeats 1000000 in
/-- 'throw new E()' in a method without handlers -/
theorem go_throw {ik ic kx : Nat} {cls : String} {names : List String} (d0 : decode M.2.1 pc = .ok (.new ik, 3)) (d3 : decode M.2.1 (pc + 3) = .ok (.dup, 1)) (d4 : decode M.2.1 (pc + 4) = .ok (.invokespecial ic, 3)) (d7 : decode M.2.1 (pc + 7) = .ok (.athrow, 1))
    (hk : x_ex kx = some cls) (hcls : Bundle.fit cls = true) (hnames : ∀ n ∈ names, Bundle.fit n = true) (hlen : names.length = 2) (hw1 : Cond.classLink M.1.cls ik cls ∈ lw_tbl) (hw2 : Cond.initialized cls ∈ lw_tbl) (hat : x_atb M.1.cls ic cls names = true) (hh : M.2.2.2.2 = []) (hst : 2 * st.length ≤ 80)
    (hz : h.1 + 1 ≤ x_cap K) (hq : h.2.1 + 6 ≤ x_cas K) (k : Q (.inr (kx, h.1)) (h.1 + 1, h.2.1 + 6, h.2.2)) : Go K M d pc lv st h Q := by
  intro R s m args below meth c H locs cells slots ls z0 q0 hF hx T hT X
  have hcs := hF.cs
  have hrr := hF.rm
  have hcat := x_cat st
  have hok := hF.ok
  have hexec := hF.ex
  have hb := hF.cd
  have htr : (x_e K).platform.stackTraces = false := hok.2.2.2.2.2.1
  have Y := xv_rebase X (R' := { frames := R.frames, locals := R.locals, cells := 1, slots := 6 }) (Nat.le_refl _) (Nat.le_refl _) (show cells + 1 ≤ R.cells by omega) (show slots + 6 ≤ R.slots by omega)
  obtain ⟨s', hA⟩ : ∃ z, z = (T.setVm s.vm).setFrames (.invoking m args :: below) := ⟨_, rfl⟩
  rw [← hA] at Y
  have hvm : s'.vm = s.vm := by rw [hA]; rfl
  have hhp : s'.heap = H := by rw [hA]; exact hT
  have hW0 : s.WarmedH s'.vm := by rw [hvm]; exact State.WarmedH.refl s
  have hW1 : (x_s K).WarmedH s'.vm := by rw [hvm]; exact hF.wm
  have hold : ∀ a : Nat, a < (x_s K).heap.size → ¬ (x_B K ≤ a) → H[a]? = (x_s K).heap[a]? := fun a _ ha => hF.w.2.2.2 a (by omega)
  have hU' : xv_Zq Bundle.tN "UNASSIGNED_STACK" Bundle.steD (fun q => x_B K ≤ q) s' s'.heap := by rw [hhp]; exact xv_Zq.moved hW1.alike (hok.2.2.2.2.2.2.2.1.kept hold)
  have hN' : xv_Zq Bundle.tN "SUPPRESSED_SENTINEL" Bundle.listD (fun q => x_B K ≤ q) s' s'.heap := by rw [hhp]; exact xv_Zq.moved hW1.alike (hok.2.2.2.2.2.2.2.2.1.kept hold)
  have hwd : ∀ w ∈ Bundle.ownAtoms0 M.1.cls ic cls names, w.before args s' = true := by
    intro w hw
    have h1 := List.all_eq_true.mp hat w hw
    rw [Bool.or_eq_true] at h1
    rcases h1 with h1 | h1
    · unfold x_sp at h1
      simp only [Bool.or_eq_true, decide_eq_true_eq] at h1
      rcases h1 with ((h1 | h1) | h1) | h1
      · rw [h1]; exact xv_isRefq hU'.1
      · rw [h1]; exact xv_isRefq hN'.1
      · rw [h1]; exact hU'.2.word
      · rw [h1]; exact hN'.2.word
    · rw [Bool.and_eq_true, decide_eq_true_eq] at h1
      exact x_wk_at hW1 h1.2 (hok.2.1 w h1.1)
  have hown' : s'.vm.findClass M.1.cls = some m.cls := by rw [hvm]; exact hF.ow
  have hins : (Cond.instantiable cls 6).before args s' = true := hwd _ (by simp [Bundle.ownAtoms0])
  have hk' : (Cond.classLink M.1.cls ik cls).before args s' = true := word_at hW1 (Or.inl (x_kcl _ _ _)) (hok.2.1 _ hw1)
  have hini' : (Cond.initialized cls).before args s' = true := word_at hW1 (Or.inl (x_kii _)) (hok.2.1 _ hw2)
  obtain ⟨vm₁, cX, kX, hfX, hkX, -, -, X₁, st1⟩ := Y.newCold hexec (own := M.1.cls) (C := cls) (index := ik) (n := 6) hown' hk' hins hini'
    (g := F0 m pc ls st) rfl (by rw [hb]; exact d0) (Nat.le_refl _) (Nat.le_refl _)
  generalize hT1 : (T.setVm vm₁).pushCell { cls := cX, slots := kX.instanceTypes.map defaultValue, vm := .none } = T1 at X₁ st1
  have hc1 : (Value.ref T.heap.size).category = 1 := rfl
  have hcellA : T1.heap[T.heap.size]? = some (freshCell cX kX) := by rw [← hT1]; exact State.heap_pushCell_size _ _
  have d3' : decode c.code (pc + 3) = .ok (.dup, 1) := by rw [hb]; exact d3
  have htab : c.exceptionTable.toList = [] := by
    have := hF.tb
    rw [hh] at this
    exact List.map_eq_nil_iff.mp this
  obtain ⟨U, hsteps, hrun, hend, hW, hsame, ce, hce, hO⟩ := X₁.ctorThrow0 hexec htr (own := M.1.cls) (cls := cls) (names := names) (ic := ic) hown' hcls hnames hwd (fun x hx => nomatch hx) hfX hkX hcellA (by rw [hhp, hT]; exact Nat.le_refl _)
    (g := { method := m, pc := pc + 4, locals := ls, stack := .ref T.heap.size :: .ref T.heap.size :: st, locked := none }) rfl (by rw [hF.ml]; exact hx.1) rfl rfl (rest := st) rfl
    (by rw [hb]; exact d4) (by rw [hb]; exact d7) (fun x hx' => by rw [htab] at hx'; cases hx') (by rw [hlen]; show 2 + 3 < R.frames; omega) (by rw [hlen]; simp only [List.map_cons, List.sum_cons, hc1]; show 2 * 0 + (1 + (st.map fun v => v.category).sum) + (13 * (2 + 1) + 41) ≤ R.locals; omega) hF.lk
  obtain ⟨f1, f2⟩ := xv_frame hsame
  rw [hhp] at f1 f2
  have hWs : s.WarmedH U.vm := State.WarmedH.trans hW0 hW
  have hall : s.sameButNew ({ U with vm := s.vm } : State) locs (cells + 1) (slots + 6) := by
    subst hA
    obtain ⟨e1, e2⟩ := hsame
    rw [State.setFrames_setFrames] at e1
    have h2 : (T.setVm s.vm).sameButNew ({ U with vm := s.vm } : State) [] (0 + 1) (0 + 6) := ⟨e1, e2⟩
    have h3 := X.same.trans h2
    rw [List.append_nil] at h3
    exact h3
  have hHs := hF.w.1
  have hTs : T.heap.size = h.1 := by rw [hT]; exact hHs
  have hUs : U.heap.size = h.1 + 1 := by
    have a1 : T.heap.size < U.heap.size := (Array.getElem?_eq_some_iff.mp hce).1
    have a2 : U.heap.size ≤ s'.heap.size + (0 + 1) := hsame.2.2.1
    rw [hhp] at a2
    omega
  have hcl : (x_s K).vm.findClass cls = some (x_ca K kx) := hok.2.2.2.2.1 kx cls hk
  have hcls2 : ce.cls = x_ca K kx := by
    have h9 := hO.cls
    rw [hvm, hF.wm.alike.findClass, hcl] at h9
    exact (Option.some.inj h9).symm
  refine ⟨U, ?_, .threw h.1, .inr (kx, h.1), (h.1 + 1, h.2.1 + 6, h.2.2), hrun, by rw [← hTs]; exact hend, hWs, ⟨locs, cells + 1, slots + 6, hall, hF.lc, by show cells + 1 + z0 ≤ h.1 + 1; omega, by show slots + 6 + q0 ≤ h.2.1 + 6; omega⟩,
    ⟨rfl, ce, by rw [← hTs]; exact hce, hO.vm, hcls2⟩, hF.w.junk 6 hUs (fun q hq => f2 q (by omega) (fun z hz => nomatch hz)), hz, hq, k⟩
  refine st1 _ ?_
  show Steps (x_p K).tables (x_e K) below (T1.setTop { method := m, pc := pc + 3, locals := ls, stack := .ref T.heap.size :: st, locked := none }) _
  jvm_step X₁.here [X₁.here.top, hexec, d3', Value.category]
  exact hsteps
end XF
end
section
section XG
/-- the number of the exception that an entry of the law's pool names -/
def x_ct : Nat → Nat
  | 13 => 11
  | 15 => 12
  | 17 => 13
  | 23 => 14
  | _ => 0
def x_hd : List (Nat × Nat × Nat × Nat) → Nat → Nat → Option Nat
  | [], _, _ => none
  | q :: r, pc, k => if q.1 ≤ pc ∧ pc < q.2.1 ∧ x_ct q.2.2.2 = k then some q.2.2.1 else x_hd r pc k
abbrev x_en4 (x : ExceptionTableEntry) : Nat × Nat × Nat × Nat := (x.startPc, x.endPc, x.handlerPc, x.catchType)
section A
variable {Q : Handler → Pre} {E : CtlPost} {e : Env} {d : Bool} {acts : List Action} {s : State} {f : JFrame} {a : Addr}
theorem x_hgo {x : ExceptionTableEntry} {t : List ExceptionTableEntry} {c : ClassId} {cell : Cell} (hx : covers x f.pc = true) (h0 : x.catchType ≠ 0)
    (hl : s.vm.ClassLinks e.platform f.method.cls x.catchType c) (hcell : s.heap[a]? = some cell) (hobj : ∀ k, cell.vm ≠ .statics k)
    (hk : ∃ k, s.vm.classes[cell.cls]? = some k) (hc : ∃ k, s.vm.classes[c]? = some k) :
    wp (findHandler.go f a (x :: t)) Q E e d acts s ↔ (if s.vm.assignable cell.cls c = true then Q (.found x.handlerPc) d acts (s.setVm (s.vm.noted f.method.cls x.catchType (.cls c)))
      else wp (findHandler.go f a t) Q E e d acts (s.setVm (s.vm.noted f.method.cls x.catchType (.cls c)))) := by
  simp only [covers] at hx
  obtain ⟨ha, ht⟩ := (resolveClass_links e.toSetting hl).op (op := VmOp.resolveClass f.method.cls x.catchType) rfl
  have hal : s.vm.Alike (s.vm.noted f.method.cls x.catchType (.cls c)) := (Vm.Alike.refl s.vm).noted _ _ _
  obtain ⟨k1, hk1⟩ := hk
  obtain ⟨k2, hk2⟩ := hc
  obtain ⟨k1', hk1', -⟩ := hal.2.2 _ _ hk1
  obtain ⟨k2', hk2', -⟩ := hal.2.2 _ _ hk2
  have hfit : (s.vm.noted f.method.cls x.catchType (.cls c)).assignable cell.cls c = s.vm.assignable cell.cls c := hal.assignable _ _
  cases hq : s.vm.assignable cell.cls c <;> rw [hq] at hfit <;> simp [findHandler.go, hx, h0, ha, ht, hcell, hobj, hk1', hk2', hfit, VmOp.dirties, VmOp.acts]
end A
/-- an entry of the table, as the words tell it -/
def x_ey (pl : Platform) (s : State) (d : ClassId) (thrown : ClassId) (k : Nat) (y : ExceptionTableEntry) : Prop :=
  y.catchType ≠ 0 ∧ ∃ c, s.vm.ClassLinks pl d y.catchType c ∧ (s.vm.assignable thrown c = true ↔ x_ct y.catchType = k)
theorem x_hsearch {e : Env} {s : State} {f : JFrame} {a : Addr} {cell : Cell} {k tgt : Nat} (hobj : ∀ k, cell.vm ≠ .statics k) (hk0 : ∃ k, s.vm.classes[cell.cls]? = some k) :
    ∀ (tb : List ExceptionTableEntry) (S : State), s.WarmedH S.vm → S.heap[a]? = some cell → (∀ y ∈ tb, x_ey e.platform s f.method.cls cell.cls k y) → x_hd (tb.map x_en4) f.pc k = some tgt →
      ∃ vm', s.WarmedH vm' ∧ ∀ (Q : Handler → Pre) (E : CtlPost) (d : Bool) (acts : List Action), wp (findHandler.go f a tb) Q E e d acts S ↔ Q (.found tgt) d acts (S.setVm vm')
  | [], S, _, _, _, h => by cases h
  | y :: ys, S, hW, hcell, hy, h => by
    obtain ⟨k0, hk0'⟩ := hk0
    obtain ⟨k1, hk1, -⟩ := hW.alike.2.2 _ _ hk0'
    have hrest : ∀ z ∈ ys, x_ey e.platform s f.method.cls cell.cls k z := fun z hz => hy z (List.mem_cons_of_mem _ hz)
    by_cases hcov : covers y f.pc = true
    · obtain ⟨h0, c, hl, hfit⟩ := hy y List.mem_cons_self
      obtain ⟨dk, _, _, kt, hd, _, _, _, _, hkt, _, hopen⟩ := hl.here
      obtain ⟨kt', hkt', -⟩ := hW.alike.2.2 _ _ hkt
      have hW' := hW.noted hd hopen (State.rightAt_cls hl)
      have hcov' : y.startPc ≤ f.pc ∧ f.pc < y.endPc := by simpa [covers] using hcov
      have hgo := fun (Q : Handler → Pre) (E : CtlPost) (d : Bool) (acts : List Action) => x_hgo (Q := Q) (E := E) (e := e) (d := d) (acts := acts) (s := S) (f := f) (a := a) (x := y) (t := ys) hcov h0 (hW.classLinks hl) hcell hobj ⟨k1, hk1⟩ ⟨kt', hkt'⟩
      have hasg : S.vm.assignable cell.cls c = s.vm.assignable cell.cls c := hW.alike.assignable _ _
      by_cases hj : x_ct y.catchType = k
      · have h1 : x_hd ((y :: ys).map x_en4) f.pc k = some y.handlerPc := by
          show (if y.startPc ≤ f.pc ∧ f.pc < y.endPc ∧ x_ct y.catchType = k then some y.handlerPc else _) = _
          rw [if_pos ⟨hcov'.1, hcov'.2, hj⟩]
        have h2 : y.handlerPc = tgt := Option.some.inj (h1.symm.trans h)
        refine ⟨_, hW', fun Q E d acts => ?_⟩
        rw [hgo, if_pos (by rw [hasg]; exact hfit.mpr hj), h2]
      · have h1 : x_hd (ys.map x_en4) f.pc k = some tgt := by
          rw [← h]
          show _ = (if y.startPc ≤ f.pc ∧ f.pc < y.endPc ∧ x_ct y.catchType = k then some y.handlerPc else x_hd (ys.map x_en4) f.pc k)
          rw [if_neg (fun q => hj q.2.2)]
        obtain ⟨vm', hW2, hq⟩ := x_hsearch hobj ⟨k0, hk0'⟩ ys (S.setVm (S.vm.noted f.method.cls y.catchType (.cls c))) hW' hcell hrest h1
        refine ⟨vm', hW2, fun Q E d acts => ?_⟩
        rw [hgo, if_neg (by rw [hasg]; exact fun q => hj (hfit.mp q))]
        exact hq Q E d acts
    · have hcov' : ¬ (y.startPc ≤ f.pc ∧ f.pc < y.endPc) := by simpa [covers] using hcov
      have h1 : x_hd (ys.map x_en4) f.pc k = some tgt := by
        rw [← h]
        show _ = (if y.startPc ≤ f.pc ∧ f.pc < y.endPc ∧ x_ct y.catchType = k then some y.handlerPc else x_hd (ys.map x_en4) f.pc k)
        rw [if_neg (fun q => hcov' ⟨q.1, q.2.1⟩)]
      obtain ⟨vm', hW2, hq⟩ := x_hsearch hobj ⟨k0, hk0'⟩ ys S hW hcell hrest h1
      refine ⟨vm', hW2, fun Q E d acts => ?_⟩
      rw [Jvm.W.findHandler_go_skip (by simpa using hcov)]
      exact hq Q E d acts
theorem x_hstep {e : Env} {s : State} {a : Addr} {f : JFrame} {r : List Frame} {pc : Nat} {vm' : Vm} (hfind : ∀ (Q : Handler → Pre) (E : CtlPost) (d : Bool) (acts : List Action), wp (findHandler f a) Q E e d acts s ↔ Q (.found pc) d acts (s.setVm vm')) :
    (stepThrowing e s a (.java f :: r)).Is ((s.setVm vm').setFrames (.java { f with pc := pc, stack := [.ref a] } :: r)) [] := by
  simp only [stepThrowing, searchFrame, vmDo]
  generalize hr : Sem.go _ e false [] s = res
  obtain ⟨as, rfl, ha⟩ := Sem.eq_ok_of hr (a := Handler.found pc) (s' := s.setVm vm') (acts' := []) (by simp [hfind _ _ _ _])
  exact ⟨rfl, ha⟩
theorem x_hcaught {tb : Tables} {e : Env} {s target : State} {g : JFrame} {c : Code} {below : List Frame} {a : Addr} (h : At s g.method c below) {pc : Nat} {vm' : Vm}
    (hfind : ∀ (Q : Handler → Pre) (E : CtlPost) (d : Bool) (acts : List Action), wp (findHandler g a) Q E e d acts ((s.setTop g).pushFrame (.throwing a)) ↔ Q (.found pc) d acts (((s.setTop g).pushFrame (.throwing a)).setVm vm'))
    (hrest : Steps tb e below ((s.setVm vm').setTop { g with pc := pc, stack := [.ref a] }) target) : Steps tb e below ((s.setTop g).pushFrame (.throwing a)) target := by
  obtain ⟨hgo, hw⟩ := h.throwing a
  refine Steps.head hgo hw ?_
  rw [stepThread_throwing (frames_entered h.top _), (x_hstep (s := (s.setTop g).pushFrame (.throwing a)) hfind).1]
  obtain ⟨g₀, hg⟩ := Option.isSome_iff_exists.mp h.top
  obtain ⟨r, hr⟩ := State.topJava?_eq_some.mp hg
  have hr' : (s.setVm vm').frames = .java g₀ :: r := hr
  rw [State.setTop_of_frames _ hr'] at hrest
  have key : ∀ (F G : List Frame), ((s.setFrames F).setVm vm').setFrames G = (s.setVm vm').setFrames G := fun F G => by
    have h1 : (s.setFrames F).setVm vm' = (s.setVm vm').setFrames F := rfl
    rw [h1, State.setFrames_setFrames]
  rw [hr, List.tail_cons, State.pushFrame, State.setTop_of_frames _ hr, State.setFrames_setFrames, key]
  exact hrest
variable {K : x_K} {M M' : x_M} {d d' pc pc' : Nat} {lv lv' lv0 : List (Option Value)} {st : List Value} {h : x_H} {Q Q' : x_O → x_H → Prop}
/-- an exception that this frame catches -/
theorem x_T.catch {q : Nat × Nat} {nm : String} {tgt : Nat} (hk : x_ex q.1 = some nm) (hself : Cond.castable nm nm ∈ lw_tbl)
    (hcts : ∀ z ∈ M.2.2.2.2, z.2.2.2 ≠ 0 ∧ ∃ nz, x_ex (x_ct z.2.2.2) = some nz ∧ Cond.classLink M.1.cls z.2.2.2 nz ∈ lw_tbl) (ht : x_hd M.2.2.2.2 pc q.1 = some tgt)
    (k : Go K M d tgt lv [.ref q.2] h Q) : x_T K M d pc lv st Q q h := by
  intro R s m args below meth c H locs cells slots ls z0 q0 T hF hx hT hcell X
  obtain ⟨cell, g1, g2, g3⟩ := hcell
  have hpl : (x_e K).platform.magicAccessors = ({} : Platform).magicAccessors := by rw [X.admits.platform]
  have hcl : ∀ {j : Nat} {nj : String}, x_ex j = some nj → s.vm.findClass nj = some (x_ca K j) := fun hj => by rw [hF.wm.alike.findClass]; exact hF.ok.2.2.2.2.1 _ _ hj
  have hcast : (Cond.castable nm nm).before args s = true := x_wk_at hF.wm rfl (hF.ok.2.1 _ hself)
  obtain ⟨c3, c4, hc3, hc4, hasg⟩ := Cond.castable_spec hcast
  have e3 : c3 = x_ca K q.1 := Option.some.inj (hc3.symm.trans (hcl hk))
  have e4 : c4 = x_ca K q.1 := Option.some.inj (hc4.symm.trans (hcl hk))
  subst e3
  subst e4
  have htab := hF.tb
  have hrow : ∀ y ∈ c.exceptionTable.toList, x_ey (x_e K).platform s m.cls cell.cls q.1 y := by
    intro y hy
    have hz : x_en4 y ∈ M.2.2.2.2 := by rw [← htab]; exact List.mem_map.mpr ⟨y, hy, rfl⟩
    obtain ⟨h0, nz, hnz, hlk⟩ := hcts _ hz
    obtain ⟨c5, hc5, hcl5⟩ := Cond.classLink_spec hF.ow (hF.wd hlk (Or.inl (x_kcl _ _ _)) args) (x_e K).platform hpl
    have e5 : c5 = x_ca K (x_ct y.catchType) := Option.some.inj (hc5.symm.trans (hcl hnz))
    subst e5
    refine ⟨h0, _, hcl5, ?_⟩
    rw [g3]
    constructor
    · intro hyes
      by_cases hj : x_ct y.catchType = q.1
      · exact hj
      · exfalso
        obtain ⟨a8, b8, h1, h2, h3⟩ := va_Nc.moved hF.wm.alike (hF.ok.2.2.2.2.2.2.2.2.2 q.1 (x_ct y.catchType) nm nz hk hnz (Ne.symm hj))
        have ea : a8 = x_ca K q.1 := Option.some.inj (h1.symm.trans (hcl hk))
        have eb : b8 = x_ca K (x_ct y.catchType) := Option.some.inj (h2.symm.trans (hcl hnz))
        subst ea
        subst eb
        rw [h3] at hyes
        cases hyes
    · intro hj
      rw [hj]
      exact hasg
  have hobj : ∀ k, cell.vm ≠ .statics k := fun k hk => by rw [g2] at hk; cases hk
  have hk0 : ∃ k, s.vm.classes[cell.cls]? = some k := by
    rw [g3]
    obtain ⟨k9, h9, -⟩ := Vm.findClass_spec (hcl hk)
    exact ⟨k9, h9⟩
  have htab2 : c.exceptionTable.toList.map x_en4 = M.2.2.2.2 := htab
  obtain ⟨vm', hW', hq⟩ := x_hsearch (e := x_e K) (s := s) (f := F0 m pc ls st) (a := q.2) (cell := cell) (k := q.1) (tgt := tgt) hobj hk0 c.exceptionTable.toList ((T.setTop (F0 m pc ls st)).pushFrame (.throwing q.2)) X.warmed
    (by show T.heap[q.2]? = some cell; rw [hT]; exact g1) hrow (by rw [htab2]; exact ht)
  have X' := X.noted hW'
  obtain ⟨t, a1, b1⟩ := k R s m args below meth c H locs cells slots ls z0 q0 hF hx (T.setVm vm') hT X'
  exact ⟨t, x_hcaught (g := F0 m pc ls st) X.here (fun Q E d acts => by rw [Jvm.W.findHandler_eq (meth := meth) (code := c) X.method' X.code]; exact hq Q E d acts) a1, b1⟩
end XG
end
section
theorem x_tin {w : Cond} {i : Nat} (h : tables_1[i]? = some w) : w ∈ lw_tbl := List.mem_append_right _ (List.mem_of_getElem? h)
theorem x_pin {y : MethodName} {i n : Nat} (h : lw_privs[i]? = some (y, n)) : Cond.selects y.cls y y ∈ lw_tbl := List.mem_append_left _ (List.mem_map.mpr ⟨(y, n), List.mem_of_getElem? h, rfl⟩)
theorem t_0 : (Cond.initialized "SnapshotTrieLaw") ∈ lw_tbl := x_tin (i := 0) (by decide +kernel)
theorem t_1 : (Cond.initialized "SnapshotTrie") ∈ lw_tbl := x_tin (i := 1) (by decide +kernel)
theorem t_2 : (Cond.initialized "SnapshotTrie$TrieMap") ∈ lw_tbl := x_tin (i := 2) (by decide +kernel)
theorem t_3 : (Cond.initialized "SnapshotTrie$Node") ∈ lw_tbl := x_tin (i := 3) (by decide +kernel)
theorem t_4 : (Cond.initialized "SnapshotTrieModel") ∈ lw_tbl := x_tin (i := 4) (by decide +kernel)
theorem t_5 : (Cond.initialized "java/lang/Throwable") ∈ lw_tbl := x_tin (i := 5) (by decide +kernel)
theorem t_6 : (Cond.initialized "java/lang/Exception") ∈ lw_tbl := x_tin (i := 6) (by decide +kernel)
theorem t_7 : (Cond.initialized "java/lang/RuntimeException") ∈ lw_tbl := x_tin (i := 7) (by decide +kernel)
theorem t_8 : (Cond.initialized "java/lang/IllegalArgumentException") ∈ lw_tbl := x_tin (i := 8) (by decide +kernel)
theorem t_9 : (Cond.initialized "java/lang/UnsupportedOperationException") ∈ lw_tbl := x_tin (i := 9) (by decide +kernel)
theorem t_10 : (Cond.initialized "SnapshotTrie$Tally") ∈ lw_tbl := x_tin (i := 10) (by decide +kernel)
theorem t_11 : (Cond.initialized "java/lang/Math") ∈ lw_tbl := x_tin (i := 11) (by decide +kernel)
theorem t_12 : (Cond.initialized "java/lang/IllegalStateException") ∈ lw_tbl := x_tin (i := 12) (by decide +kernel)
theorem t_13 : (Cond.initialized "SnapshotTrie$Entry") ∈ lw_tbl := x_tin (i := 13) (by decide +kernel)
theorem t_14 : (Cond.initialized "java/util/NoSuchElementException") ∈ lw_tbl := x_tin (i := 14) (by decide +kernel)
theorem t_15 : (Cond.initialized "SnapshotTrie$Cursor") ∈ lw_tbl := x_tin (i := 15) (by decide +kernel)
theorem t_16 : (Cond.classLink "SnapshotTrieLaw" 8 "SnapshotTrie") ∈ lw_tbl := x_tin (i := 16) (by decide +kernel)
theorem t_17 : (Cond.instantiable "SnapshotTrie" 5) ∈ lw_tbl := x_tin (i := 17) (by decide +kernel)
theorem t_18 : (Cond.methodLink "SnapshotTrieLaw" 56 ({ cls := "SnapshotTrie", name := "<init>", desc := "()V" } : MethodName)) ∈ lw_tbl := x_tin (i := 18) (by decide +kernel)
theorem t_19 : (Cond.instanceMethod ({ cls := "SnapshotTrie", name := "<init>", desc := "()V" } : MethodName)) ∈ lw_tbl := x_tin (i := 19) (by decide +kernel)
theorem t_20 : (Cond.code ({ cls := "SnapshotTrie", name := "<init>", desc := "()V" } : MethodName) prog_1_method_1_code 1 none) ∈ lw_tbl := x_tin (i := 20) (by decide +kernel)
theorem t_21 : (Cond.methodLink "SnapshotTrie" 1 ({ cls := "java/lang/Object", name := "<init>", desc := "()V" } : MethodName)) ∈ lw_tbl := x_tin (i := 21) (by decide +kernel)
theorem t_22 : (Cond.instanceMethod ({ cls := "java/lang/Object", name := "<init>", desc := "()V" } : MethodName)) ∈ lw_tbl := x_tin (i := 22) (by decide +kernel)
theorem t_23 : (Cond.code ({ cls := "java/lang/Object", name := "<init>", desc := "()V" } : MethodName) object_method_1_code 1 none) ∈ lw_tbl := x_tin (i := 23) (by decide +kernel)
theorem t_24 : (Cond.classLink "SnapshotTrie" 9 "SnapshotTrie$TrieMap") ∈ lw_tbl := x_tin (i := 24) (by decide +kernel)
theorem t_25 : (Cond.arrayOver (FieldType.object "SnapshotTrie$TrieMap")) ∈ lw_tbl := x_tin (i := 25) (by decide +kernel)
theorem t_26 : (Cond.classLink "SnapshotTrie" 15 "SnapshotTrie$Cursor") ∈ lw_tbl := x_tin (i := 26) (by decide +kernel)
theorem t_27 : (Cond.arrayOver (FieldType.object "SnapshotTrie$Cursor")) ∈ lw_tbl := x_tin (i := 27) (by decide +kernel)
theorem t_28 : (Cond.instantiable "SnapshotTrie$TrieMap" 3) ∈ lw_tbl := x_tin (i := 28) (by decide +kernel)
theorem t_29 : (Cond.classLink "SnapshotTrie" 25 "SnapshotTrie$Node") ∈ lw_tbl := x_tin (i := 29) (by decide +kernel)
theorem t_30 : (Cond.instantiable "SnapshotTrie$Node" 3) ∈ lw_tbl := x_tin (i := 30) (by decide +kernel)
theorem t_31 : (Cond.methodLink "SnapshotTrie" 27 ({ cls := "SnapshotTrie$Node", name := "<init>", desc := "(II)V" } : MethodName)) ∈ lw_tbl := x_tin (i := 31) (by decide +kernel)
theorem t_32 : (Cond.instanceMethod ({ cls := "SnapshotTrie$Node", name := "<init>", desc := "(II)V" } : MethodName)) ∈ lw_tbl := x_tin (i := 32) (by decide +kernel)
theorem t_33 : (Cond.code ({ cls := "SnapshotTrie$Node", name := "<init>", desc := "(II)V" } : MethodName) prog_4_method_1_code 4 none) ∈ lw_tbl := x_tin (i := 33) (by decide +kernel)
theorem t_34 : (Cond.methodLink "SnapshotTrie$Node" 3 ({ cls := "java/lang/Object", name := "<init>", desc := "()V" } : MethodName)) ∈ lw_tbl := x_tin (i := 34) (by decide +kernel)
theorem t_35 : (Cond.classLink "SnapshotTrie$Node" 15 "SnapshotTrie$Entry") ∈ lw_tbl := x_tin (i := 35) (by decide +kernel)
theorem t_36 : (Cond.arrayOver (FieldType.object "SnapshotTrie$Entry")) ∈ lw_tbl := x_tin (i := 36) (by decide +kernel)
theorem t_37 : (Cond.classLink "SnapshotTrie$Node" 10 "SnapshotTrie$Node") ∈ lw_tbl := x_tin (i := 37) (by decide +kernel)
theorem t_38 : (Cond.arrayOver (FieldType.object "SnapshotTrie$Node")) ∈ lw_tbl := x_tin (i := 38) (by decide +kernel)
theorem t_39 : (Cond.fieldLink "SnapshotTrie$Node" 9 "SnapshotTrie$Node" "generation" "I") ∈ lw_tbl := x_tin (i := 39) (by decide +kernel)
theorem t_40 : (Cond.fieldLink "SnapshotTrie$Tally" 42 "SnapshotTrie$Node" "generation" "I") ∈ lw_tbl := x_tin (i := 40) (by decide +kernel)
theorem t_41 : (Cond.fieldLink "SnapshotTrie" 181 "SnapshotTrie$Node" "generation" "I") ∈ lw_tbl := x_tin (i := 41) (by decide +kernel)
theorem t_42 : (Cond.fieldLink "SnapshotTrie$Node" 17 "SnapshotTrie$Node" "entries" "[LSnapshotTrie$Entry;") ∈ lw_tbl := x_tin (i := 42) (by decide +kernel)
theorem t_43 : (Cond.fieldLink "SnapshotTrie$Cursor" 26 "SnapshotTrie$Node" "entries" "[LSnapshotTrie$Entry;") ∈ lw_tbl := x_tin (i := 43) (by decide +kernel)
theorem t_44 : (Cond.fieldLink "SnapshotTrie" 170 "SnapshotTrie$Node" "entries" "[LSnapshotTrie$Entry;") ∈ lw_tbl := x_tin (i := 44) (by decide +kernel)
theorem t_45 : (Cond.fieldLink "SnapshotTrie$Node" 21 "SnapshotTrie$Node" "nodes" "[LSnapshotTrie$Node;") ∈ lw_tbl := x_tin (i := 45) (by decide +kernel)
theorem t_46 : (Cond.fieldLink "SnapshotTrie" 167 "SnapshotTrie$Node" "nodes" "[LSnapshotTrie$Node;") ∈ lw_tbl := x_tin (i := 46) (by decide +kernel)
theorem t_54 : (Cond.methodLink "SnapshotTrie" 30 ({ cls := "SnapshotTrie$TrieMap", name := "<init>", desc := "(LSnapshotTrie$Node;IZ)V" } : MethodName)) ∈ lw_tbl := x_tin (i := 54) (by decide +kernel)
theorem t_55 : (Cond.instanceMethod ({ cls := "SnapshotTrie$TrieMap", name := "<init>", desc := "(LSnapshotTrie$Node;IZ)V" } : MethodName)) ∈ lw_tbl := x_tin (i := 55) (by decide +kernel)
theorem t_56 : (Cond.code ({ cls := "SnapshotTrie$TrieMap", name := "<init>", desc := "(LSnapshotTrie$Node;IZ)V" } : MethodName) prog_6_method_1_code 4 none) ∈ lw_tbl := x_tin (i := 56) (by decide +kernel)
theorem t_57 : (Cond.methodLink "SnapshotTrie$TrieMap" 1 ({ cls := "java/lang/Object", name := "<init>", desc := "()V" } : MethodName)) ∈ lw_tbl := x_tin (i := 57) (by decide +kernel)
theorem t_58 : (Cond.fieldLink "SnapshotTrie$TrieMap" 7 "SnapshotTrie$TrieMap" "root" "LSnapshotTrie$Node;") ∈ lw_tbl := x_tin (i := 58) (by decide +kernel)
theorem t_59 : (Cond.fieldLink "SnapshotTrie" 37 "SnapshotTrie$TrieMap" "root" "LSnapshotTrie$Node;") ∈ lw_tbl := x_tin (i := 59) (by decide +kernel)
theorem t_60 : (Cond.fieldLink "SnapshotTrie$TrieMap" 13 "SnapshotTrie$TrieMap" "generation" "I") ∈ lw_tbl := x_tin (i := 60) (by decide +kernel)
theorem t_61 : (Cond.fieldLink "SnapshotTrie" 90 "SnapshotTrie$TrieMap" "generation" "I") ∈ lw_tbl := x_tin (i := 61) (by decide +kernel)
theorem t_62 : (Cond.fieldLink "SnapshotTrie$TrieMap" 17 "SnapshotTrie$TrieMap" "readOnly" "Z") ∈ lw_tbl := x_tin (i := 62) (by decide +kernel)
theorem t_63 : (Cond.fieldLink "SnapshotTrie" 151 "SnapshotTrie$TrieMap" "readOnly" "Z") ∈ lw_tbl := x_tin (i := 63) (by decide +kernel)
theorem t_71 : (Cond.fieldLink "SnapshotTrie" 11 "SnapshotTrie" "maps" "[LSnapshotTrie$TrieMap;") ∈ lw_tbl := x_tin (i := 71) (by decide +kernel)
theorem t_72 : (Cond.fieldLink "SnapshotTrie" 17 "SnapshotTrie" "cursors" "[LSnapshotTrie$Cursor;") ∈ lw_tbl := x_tin (i := 72) (by decide +kernel)
theorem t_73 : (Cond.fieldLink "SnapshotTrie" 21 "SnapshotTrie" "latestGeneration" "I") ∈ lw_tbl := x_tin (i := 73) (by decide +kernel)
theorem t_74 : (Cond.fieldLink "SnapshotTrie" 76 "SnapshotTrie" "latestCopies" "I") ∈ lw_tbl := x_tin (i := 74) (by decide +kernel)
theorem t_75 : (Cond.fieldLink "SnapshotTrie" 114 "SnapshotTrie" "latestValue" "J") ∈ lw_tbl := x_tin (i := 75) (by decide +kernel)
theorem t_87 : (Cond.methodLink "SnapshotTrieLaw" 97 ({ cls := "SnapshotTrie", name := "value", desc := "()J" } : MethodName)) ∈ lw_tbl := x_tin (i := 87) (by decide +kernel)
theorem t_88 : (Cond.instanceMethod ({ cls := "SnapshotTrie", name := "value", desc := "()J" } : MethodName)) ∈ lw_tbl := x_tin (i := 88) (by decide +kernel)
theorem t_89 : (Cond.selects "SnapshotTrie" ({ cls := "SnapshotTrie", name := "value", desc := "()J" } : MethodName) ({ cls := "SnapshotTrie", name := "value", desc := "()J" } : MethodName)) ∈ lw_tbl := x_tin (i := 89) (by decide +kernel)
theorem t_90 : (Cond.code ({ cls := "SnapshotTrie", name := "value", desc := "()J" } : MethodName) prog_1_method_10_code 1 (Option.some FieldType.long)) ∈ lw_tbl := x_tin (i := 90) (by decide +kernel)
theorem t_91 : (Cond.methodLink "SnapshotTrieLaw" 102 ({ cls := "SnapshotTrie", name := "copied", desc := "()I" } : MethodName)) ∈ lw_tbl := x_tin (i := 91) (by decide +kernel)
theorem t_92 : (Cond.instanceMethod ({ cls := "SnapshotTrie", name := "copied", desc := "()I" } : MethodName)) ∈ lw_tbl := x_tin (i := 92) (by decide +kernel)
theorem t_93 : (Cond.selects "SnapshotTrie" ({ cls := "SnapshotTrie", name := "copied", desc := "()I" } : MethodName) ({ cls := "SnapshotTrie", name := "copied", desc := "()I" } : MethodName)) ∈ lw_tbl := x_tin (i := 93) (by decide +kernel)
theorem t_94 : (Cond.code ({ cls := "SnapshotTrie", name := "copied", desc := "()I" } : MethodName) prog_1_method_11_code 1 (Option.some FieldType.int)) ∈ lw_tbl := x_tin (i := 94) (by decide +kernel)
theorem t_95 : (Cond.methodLink "SnapshotTrieLaw" 62 ({ cls := "SnapshotTrieLaw", name := "put", desc := "(LSnapshotTrie;IIJ[J)I" } : MethodName)) ∈ lw_tbl := x_tin (i := 95) (by decide +kernel)
theorem t_96 : (Cond.static ({ cls := "SnapshotTrieLaw", name := "put", desc := "(LSnapshotTrie;IIJ[J)I" } : MethodName)) ∈ lw_tbl := x_tin (i := 96) (by decide +kernel)
theorem t_97 : (Cond.codeWith ({ cls := "SnapshotTrieLaw", name := "put", desc := "(LSnapshotTrie;IIJ[J)I" } : MethodName) method_3_code 7 (Option.some FieldType.int) [(0, 19, 22, 13), (0, 19, 26, 15), (0, 19, 30, 17)]) ∈ lw_tbl := x_tin (i := 97) (by decide +kernel)
theorem t_98 : (Cond.classLink "SnapshotTrieLaw" 13 "java/lang/IllegalArgumentException") ∈ lw_tbl := x_tin (i := 98) (by decide +kernel)
theorem t_99 : (Cond.classLink "SnapshotTrieLaw" 15 "java/lang/UnsupportedOperationException") ∈ lw_tbl := x_tin (i := 99) (by decide +kernel)
theorem t_100 : (Cond.classLink "SnapshotTrieLaw" 17 "java/lang/IllegalStateException") ∈ lw_tbl := x_tin (i := 100) (by decide +kernel)
theorem t_101 : (Cond.methodLink "SnapshotTrieLaw" 7 ({ cls := "SnapshotTrie", name := "put", desc := "(IIJ)Z" } : MethodName)) ∈ lw_tbl := x_tin (i := 101) (by decide +kernel)
theorem t_102 : (Cond.instanceMethod ({ cls := "SnapshotTrie", name := "put", desc := "(IIJ)Z" } : MethodName)) ∈ lw_tbl := x_tin (i := 102) (by decide +kernel)
theorem t_103 : (Cond.selects "SnapshotTrie" ({ cls := "SnapshotTrie", name := "put", desc := "(IIJ)Z" } : MethodName) ({ cls := "SnapshotTrie", name := "put", desc := "(IIJ)Z" } : MethodName)) ∈ lw_tbl := x_tin (i := 103) (by decide +kernel)
theorem t_104 : (Cond.code ({ cls := "SnapshotTrie", name := "put", desc := "(IIJ)Z" } : MethodName) prog_1_method_2_code 7 (Option.some FieldType.boolean)) ∈ lw_tbl := x_tin (i := 104) (by decide +kernel)
theorem t_105 : (Cond.methodLink "SnapshotTrie" 33 ({ cls := "SnapshotTrie", name := "writableMap", desc := "(I)LSnapshotTrie$TrieMap;" } : MethodName)) ∈ lw_tbl := x_tin (i := 105) (by decide +kernel)
theorem t_107 : (Cond.instanceMethod ({ cls := "SnapshotTrie", name := "writableMap", desc := "(I)LSnapshotTrie$TrieMap;" } : MethodName)) ∈ lw_tbl := x_tin (i := 107) (by decide +kernel)
theorem t_108 : (Cond.code ({ cls := "SnapshotTrie", name := "writableMap", desc := "(I)LSnapshotTrie$TrieMap;" } : MethodName) prog_1_method_16_code 3 (Option.some (FieldType.object "SnapshotTrie$TrieMap"))) ∈ lw_tbl := x_tin (i := 108) (by decide +kernel)
theorem t_109 : (Cond.methodLink "SnapshotTrie" 61 ({ cls := "SnapshotTrie", name := "existingMap", desc := "(I)LSnapshotTrie$TrieMap;" } : MethodName)) ∈ lw_tbl := x_tin (i := 109) (by decide +kernel)
theorem t_111 : (Cond.instanceMethod ({ cls := "SnapshotTrie", name := "existingMap", desc := "(I)LSnapshotTrie$TrieMap;" } : MethodName)) ∈ lw_tbl := x_tin (i := 111) (by decide +kernel)
theorem t_112 : (Cond.code ({ cls := "SnapshotTrie", name := "existingMap", desc := "(I)LSnapshotTrie$TrieMap;" } : MethodName) prog_1_method_15_code 2 (Option.some (FieldType.object "SnapshotTrie$TrieMap"))) ∈ lw_tbl := x_tin (i := 112) (by decide +kernel)
theorem t_113 : (Cond.classLink "SnapshotTrie" 144 "java/lang/IllegalArgumentException") ∈ lw_tbl := x_tin (i := 113) (by decide +kernel)
theorem t_114 : (Cond.instantiable "java/lang/IllegalArgumentException" 6) ∈ lw_tbl := x_tin (i := 114) (by decide +kernel)
theorem t_115 : (Cond.castable "java/lang/IllegalArgumentException" "java/lang/IllegalArgumentException") ∈ lw_tbl := x_tin (i := 115) (by decide +kernel)
theorem t_122 : (Cond.selects "java/lang/IllegalArgumentException" ({ cls := "java/lang/Throwable", name := "fillInStackTrace", desc := "(I)Ljava/lang/Throwable;" } : MethodName) ({ cls := "java/lang/Throwable", name := "fillInStackTrace", desc := "(I)Ljava/lang/Throwable;" } : MethodName)) ∈ lw_tbl := x_tin (i := 122) (by decide +kernel)
theorem t_123 : (Cond.selects "java/lang/IllegalArgumentException" ({ cls := "java/lang/Throwable", name := "fillInStackTrace", desc := "()Ljava/lang/Throwable;" } : MethodName) ({ cls := "java/lang/Throwable", name := "fillInStackTrace", desc := "()Ljava/lang/Throwable;" } : MethodName)) ∈ lw_tbl := x_tin (i := 123) (by decide +kernel)
theorem t_134 : (Cond.fieldLink "java/lang/Throwable" 198 "java/lang/Throwable" "backtrace" "Ljava/lang/Object;") ∈ lw_tbl := x_tin (i := 134) (by decide +kernel)
theorem t_136 : (Cond.instanceMethod ({ cls := "java/lang/Throwable", name := "<init>", desc := "()V" } : MethodName)) ∈ lw_tbl := x_tin (i := 136) (by decide +kernel)
theorem t_137 : (Cond.code ({ cls := "java/lang/Throwable", name := "<init>", desc := "()V" } : MethodName) prog_14_method_1_code 1 none) ∈ lw_tbl := x_tin (i := 137) (by decide +kernel)
theorem t_138 : (Cond.methodLink "java/lang/Throwable" 1 ({ cls := "java/lang/Object", name := "<init>", desc := "()V" } : MethodName)) ∈ lw_tbl := x_tin (i := 138) (by decide +kernel)
theorem t_139 : (Cond.fieldLink "java/lang/Throwable" 13 "java/lang/Throwable" "UNASSIGNED_STACK" "[Ljava/lang/StackTraceElement;") ∈ lw_tbl := x_tin (i := 139) (by decide +kernel)
theorem t_141 : (Cond.fieldLink "java/lang/Throwable" 20 "java/lang/Throwable" "SUPPRESSED_SENTINEL" "Ljava/util/List;") ∈ lw_tbl := x_tin (i := 141) (by decide +kernel)
theorem t_143 : (Cond.methodLink "java/lang/Throwable" 27 ({ cls := "java/lang/Throwable", name := "fillInStackTrace", desc := "()Ljava/lang/Throwable;" } : MethodName)) ∈ lw_tbl := x_tin (i := 143) (by decide +kernel)
theorem t_144 : (Cond.instanceMethod ({ cls := "java/lang/Throwable", name := "fillInStackTrace", desc := "()Ljava/lang/Throwable;" } : MethodName)) ∈ lw_tbl := x_tin (i := 144) (by decide +kernel)
theorem t_146 : (Cond.selects "java/lang/IllegalStateException" ({ cls := "java/lang/Throwable", name := "fillInStackTrace", desc := "()Ljava/lang/Throwable;" } : MethodName) ({ cls := "java/lang/Throwable", name := "fillInStackTrace", desc := "()Ljava/lang/Throwable;" } : MethodName)) ∈ lw_tbl := x_tin (i := 146) (by decide +kernel)
theorem t_147 : (Cond.selects "java/lang/UnsupportedOperationException" ({ cls := "java/lang/Throwable", name := "fillInStackTrace", desc := "()Ljava/lang/Throwable;" } : MethodName) ({ cls := "java/lang/Throwable", name := "fillInStackTrace", desc := "()Ljava/lang/Throwable;" } : MethodName)) ∈ lw_tbl := x_tin (i := 147) (by decide +kernel)
theorem t_148 : (Cond.selects "java/util/NoSuchElementException" ({ cls := "java/lang/Throwable", name := "fillInStackTrace", desc := "()Ljava/lang/Throwable;" } : MethodName) ({ cls := "java/lang/Throwable", name := "fillInStackTrace", desc := "()Ljava/lang/Throwable;" } : MethodName)) ∈ lw_tbl := x_tin (i := 148) (by decide +kernel)
theorem t_150 : (Cond.methodLink "java/lang/Throwable" 202 ({ cls := "java/lang/Throwable", name := "fillInStackTrace", desc := "(I)Ljava/lang/Throwable;" } : MethodName)) ∈ lw_tbl := x_tin (i := 150) (by decide +kernel)
theorem t_152 : (Cond.instanceMethod ({ cls := "java/lang/Throwable", name := "fillInStackTrace", desc := "(I)Ljava/lang/Throwable;" } : MethodName)) ∈ lw_tbl := x_tin (i := 152) (by decide +kernel)
theorem t_153 : (Cond.instantiable "java/lang/Throwable" 6) ∈ lw_tbl := x_tin (i := 153) (by decide +kernel)
theorem t_155 : (Cond.methodLink "SnapshotTrie" 146 ({ cls := "java/lang/IllegalArgumentException", name := "<init>", desc := "()V" } : MethodName)) ∈ lw_tbl := x_tin (i := 155) (by decide +kernel)
theorem t_156 : (Cond.instanceMethod ({ cls := "java/lang/IllegalArgumentException", name := "<init>", desc := "()V" } : MethodName)) ∈ lw_tbl := x_tin (i := 156) (by decide +kernel)
theorem t_157 : (Cond.code ({ cls := "java/lang/IllegalArgumentException", name := "<init>", desc := "()V" } : MethodName) prog_10_method_1_code 1 none) ∈ lw_tbl := x_tin (i := 157) (by decide +kernel)
theorem t_158 : (Cond.methodLink "java/lang/IllegalArgumentException" 1 ({ cls := "java/lang/RuntimeException", name := "<init>", desc := "()V" } : MethodName)) ∈ lw_tbl := x_tin (i := 158) (by decide +kernel)
theorem t_159 : (Cond.instanceMethod ({ cls := "java/lang/RuntimeException", name := "<init>", desc := "()V" } : MethodName)) ∈ lw_tbl := x_tin (i := 159) (by decide +kernel)
theorem t_160 : (Cond.code ({ cls := "java/lang/RuntimeException", name := "<init>", desc := "()V" } : MethodName) prog_13_method_1_code 1 none) ∈ lw_tbl := x_tin (i := 160) (by decide +kernel)
theorem t_161 : (Cond.methodLink "java/lang/RuntimeException" 1 ({ cls := "java/lang/Exception", name := "<init>", desc := "()V" } : MethodName)) ∈ lw_tbl := x_tin (i := 161) (by decide +kernel)
theorem t_162 : (Cond.instanceMethod ({ cls := "java/lang/Exception", name := "<init>", desc := "()V" } : MethodName)) ∈ lw_tbl := x_tin (i := 162) (by decide +kernel)
theorem t_163 : (Cond.code ({ cls := "java/lang/Exception", name := "<init>", desc := "()V" } : MethodName) prog_9_method_1_code 1 none) ∈ lw_tbl := x_tin (i := 163) (by decide +kernel)
theorem t_164 : (Cond.methodLink "java/lang/Exception" 1 ({ cls := "java/lang/Throwable", name := "<init>", desc := "()V" } : MethodName)) ∈ lw_tbl := x_tin (i := 164) (by decide +kernel)
theorem t_165 : (Cond.fieldLink "java/lang/Throwable" 198 "java/lang/Throwable" "backtrace" "Ljava/lang/Object;") ∈ lw_tbl := x_tin (i := 165) (by decide +kernel)
theorem t_166 : (Cond.fieldLink "java/lang/Throwable" 7 "java/lang/Throwable" "cause" "Ljava/lang/Throwable;") ∈ lw_tbl := x_tin (i := 166) (by decide +kernel)
theorem t_167 : (Cond.fieldLink "java/lang/Throwable" 17 "java/lang/Throwable" "stackTrace" "[Ljava/lang/StackTraceElement;") ∈ lw_tbl := x_tin (i := 167) (by decide +kernel)
theorem t_168 : (Cond.fieldLink "java/lang/Throwable" 24 "java/lang/Throwable" "suppressedExceptions" "Ljava/util/List;") ∈ lw_tbl := x_tin (i := 168) (by decide +kernel)
theorem t_177 : (Cond.classLink "SnapshotTrie" 155 "java/lang/UnsupportedOperationException") ∈ lw_tbl := x_tin (i := 177) (by decide +kernel)
theorem t_178 : (Cond.instantiable "java/lang/UnsupportedOperationException" 6) ∈ lw_tbl := x_tin (i := 178) (by decide +kernel)
theorem t_179 : (Cond.castable "java/lang/UnsupportedOperationException" "java/lang/UnsupportedOperationException") ∈ lw_tbl := x_tin (i := 179) (by decide +kernel)
theorem t_180 : (Cond.selects "java/lang/UnsupportedOperationException" ({ cls := "java/lang/Throwable", name := "fillInStackTrace", desc := "(I)Ljava/lang/Throwable;" } : MethodName) ({ cls := "java/lang/Throwable", name := "fillInStackTrace", desc := "(I)Ljava/lang/Throwable;" } : MethodName)) ∈ lw_tbl := x_tin (i := 180) (by decide +kernel)
theorem t_186 : (Cond.methodLink "SnapshotTrie" 157 ({ cls := "java/lang/UnsupportedOperationException", name := "<init>", desc := "()V" } : MethodName)) ∈ lw_tbl := x_tin (i := 186) (by decide +kernel)
theorem t_187 : (Cond.instanceMethod ({ cls := "java/lang/UnsupportedOperationException", name := "<init>", desc := "()V" } : MethodName)) ∈ lw_tbl := x_tin (i := 187) (by decide +kernel)
theorem t_188 : (Cond.code ({ cls := "java/lang/UnsupportedOperationException", name := "<init>", desc := "()V" } : MethodName) prog_15_method_1_code 1 none) ∈ lw_tbl := x_tin (i := 188) (by decide +kernel)
theorem t_189 : (Cond.methodLink "java/lang/UnsupportedOperationException" 1 ({ cls := "java/lang/RuntimeException", name := "<init>", desc := "()V" } : MethodName)) ∈ lw_tbl := x_tin (i := 189) (by decide +kernel)
theorem t_192 : (Cond.methodLink "SnapshotTrie" 41 ({ cls := "SnapshotTrie", name := "find", desc := "(LSnapshotTrie$Node;I)LSnapshotTrie$Entry;" } : MethodName)) ∈ lw_tbl := x_tin (i := 192) (by decide +kernel)
theorem t_193 : (Cond.static ({ cls := "SnapshotTrie", name := "find", desc := "(LSnapshotTrie$Node;I)LSnapshotTrie$Entry;" } : MethodName)) ∈ lw_tbl := x_tin (i := 193) (by decide +kernel)
theorem t_194 : (Cond.code ({ cls := "SnapshotTrie", name := "find", desc := "(LSnapshotTrie$Node;I)LSnapshotTrie$Entry;" } : MethodName) prog_1_method_24_code 7 (Option.some (FieldType.object "SnapshotTrie$Entry"))) ∈ lw_tbl := x_tin (i := 194) (by decide +kernel)
theorem t_195 : (Cond.methodLink "SnapshotTrie" 163 ({ cls := "SnapshotTrie", name := "digit", desc := "(II)I" } : MethodName)) ∈ lw_tbl := x_tin (i := 195) (by decide +kernel)
theorem t_196 : (Cond.static ({ cls := "SnapshotTrie", name := "digit", desc := "(II)I" } : MethodName)) ∈ lw_tbl := x_tin (i := 196) (by decide +kernel)
theorem t_197 : (Cond.code ({ cls := "SnapshotTrie", name := "digit", desc := "(II)I" } : MethodName) prog_1_method_22_code 3 (Option.some FieldType.int)) ∈ lw_tbl := x_tin (i := 197) (by decide +kernel)
theorem t_198 : (Cond.constant "SnapshotTrie" 162 (-1640531535 : Int32)) ∈ lw_tbl := x_tin (i := 198) (by decide +kernel)
theorem t_199 : (Cond.methodLink "SnapshotTrie" 174 ({ cls := "SnapshotTrie$Node", name := "placeInBag", desc := "(I)I" } : MethodName)) ∈ lw_tbl := x_tin (i := 199) (by decide +kernel)
theorem t_200 : (Cond.instanceMethod ({ cls := "SnapshotTrie$Node", name := "placeInBag", desc := "(I)I" } : MethodName)) ∈ lw_tbl := x_tin (i := 200) (by decide +kernel)
theorem t_201 : (Cond.selects "SnapshotTrie$Node" ({ cls := "SnapshotTrie$Node", name := "placeInBag", desc := "(I)I" } : MethodName) ({ cls := "SnapshotTrie$Node", name := "placeInBag", desc := "(I)I" } : MethodName)) ∈ lw_tbl := x_tin (i := 201) (by decide +kernel)
theorem t_202 : (Cond.code ({ cls := "SnapshotTrie$Node", name := "placeInBag", desc := "(I)I" } : MethodName) prog_4_method_6_code 3 (Option.some FieldType.int)) ∈ lw_tbl := x_tin (i := 202) (by decide +kernel)
theorem t_203 : (Cond.methodLink "SnapshotTrie" 45 ({ cls := "SnapshotTrie", name := "hasRoomFor", desc := "(LSnapshotTrie$Node;I)Z" } : MethodName)) ∈ lw_tbl := x_tin (i := 203) (by decide +kernel)
theorem t_204 : (Cond.static ({ cls := "SnapshotTrie", name := "hasRoomFor", desc := "(LSnapshotTrie$Node;I)Z" } : MethodName)) ∈ lw_tbl := x_tin (i := 204) (by decide +kernel)
theorem t_205 : (Cond.code ({ cls := "SnapshotTrie", name := "hasRoomFor", desc := "(LSnapshotTrie$Node;I)Z" } : MethodName) prog_1_method_25_code 4 (Option.some FieldType.boolean)) ∈ lw_tbl := x_tin (i := 205) (by decide +kernel)
theorem t_206 : (Cond.methodLink "SnapshotTrie" 93 ({ cls := "SnapshotTrie", name := "countKeys", desc := "(LSnapshotTrie$Node;)I" } : MethodName)) ∈ lw_tbl := x_tin (i := 206) (by decide +kernel)
theorem t_207 : (Cond.static ({ cls := "SnapshotTrie", name := "countKeys", desc := "(LSnapshotTrie$Node;)I" } : MethodName)) ∈ lw_tbl := x_tin (i := 207) (by decide +kernel)
theorem t_208 : (Cond.code ({ cls := "SnapshotTrie", name := "countKeys", desc := "(LSnapshotTrie$Node;)I" } : MethodName) prog_1_method_32_code 2 (Option.some FieldType.int)) ∈ lw_tbl := x_tin (i := 208) (by decide +kernel)
theorem t_209 : (Cond.classLink "SnapshotTrie" 120 "SnapshotTrie$Tally") ∈ lw_tbl := x_tin (i := 209) (by decide +kernel)
theorem t_210 : (Cond.instantiable "SnapshotTrie$Tally" 6) ∈ lw_tbl := x_tin (i := 210) (by decide +kernel)
theorem t_211 : (Cond.methodLink "SnapshotTrie" 122 ({ cls := "SnapshotTrie$Tally", name := "<init>", desc := "(I)V" } : MethodName)) ∈ lw_tbl := x_tin (i := 211) (by decide +kernel)
theorem t_212 : (Cond.instanceMethod ({ cls := "SnapshotTrie$Tally", name := "<init>", desc := "(I)V" } : MethodName)) ∈ lw_tbl := x_tin (i := 212) (by decide +kernel)
theorem t_213 : (Cond.code ({ cls := "SnapshotTrie$Tally", name := "<init>", desc := "(I)V" } : MethodName) prog_5_method_1_code 2 none) ∈ lw_tbl := x_tin (i := 213) (by decide +kernel)
theorem t_214 : (Cond.methodLink "SnapshotTrie$Tally" 3 ({ cls := "java/lang/Object", name := "<init>", desc := "()V" } : MethodName)) ∈ lw_tbl := x_tin (i := 214) (by decide +kernel)
theorem t_215 : (Cond.fieldLink "SnapshotTrie$Tally" 9 "SnapshotTrie$Tally" "generation" "I") ∈ lw_tbl := x_tin (i := 215) (by decide +kernel)
theorem t_216 : (Cond.fieldLink "SnapshotTrie$Tally" 15 "SnapshotTrie$Tally" "keys" "I") ∈ lw_tbl := x_tin (i := 216) (by decide +kernel)
theorem t_217 : (Cond.fieldLink "SnapshotTrie" 129 "SnapshotTrie$Tally" "keys" "I") ∈ lw_tbl := x_tin (i := 217) (by decide +kernel)
theorem t_218 : (Cond.fieldLink "SnapshotTrie$Tally" 24 "SnapshotTrie$Tally" "nodes" "I") ∈ lw_tbl := x_tin (i := 218) (by decide +kernel)
theorem t_219 : (Cond.fieldLink "SnapshotTrie" 132 "SnapshotTrie$Tally" "nodes" "I") ∈ lw_tbl := x_tin (i := 219) (by decide +kernel)
theorem t_220 : (Cond.fieldLink "SnapshotTrie$Tally" 27 "SnapshotTrie$Tally" "bags" "I") ∈ lw_tbl := x_tin (i := 220) (by decide +kernel)
theorem t_221 : (Cond.fieldLink "SnapshotTrie" 135 "SnapshotTrie$Tally" "bags" "I") ∈ lw_tbl := x_tin (i := 221) (by decide +kernel)
theorem t_222 : (Cond.fieldLink "SnapshotTrie$Tally" 30 "SnapshotTrie$Tally" "levels" "I") ∈ lw_tbl := x_tin (i := 222) (by decide +kernel)
theorem t_223 : (Cond.fieldLink "SnapshotTrie" 138 "SnapshotTrie$Tally" "levels" "I") ∈ lw_tbl := x_tin (i := 223) (by decide +kernel)
theorem t_224 : (Cond.fieldLink "SnapshotTrie$Tally" 39 "SnapshotTrie$Tally" "ownNodes" "I") ∈ lw_tbl := x_tin (i := 224) (by decide +kernel)
theorem t_225 : (Cond.fieldLink "SnapshotTrie" 141 "SnapshotTrie$Tally" "ownNodes" "I") ∈ lw_tbl := x_tin (i := 225) (by decide +kernel)
theorem t_239 : (Cond.methodLink "SnapshotTrie" 125 ({ cls := "SnapshotTrie", name := "addUp", desc := "(LSnapshotTrie$Node;ILSnapshotTrie$Tally;)V" } : MethodName)) ∈ lw_tbl := x_tin (i := 239) (by decide +kernel)
theorem t_240 : (Cond.static ({ cls := "SnapshotTrie", name := "addUp", desc := "(LSnapshotTrie$Node;ILSnapshotTrie$Tally;)V" } : MethodName)) ∈ lw_tbl := x_tin (i := 240) (by decide +kernel)
theorem t_241 : (Cond.code ({ cls := "SnapshotTrie", name := "addUp", desc := "(LSnapshotTrie$Node;ILSnapshotTrie$Tally;)V" } : MethodName) prog_1_method_33_code 4 none) ∈ lw_tbl := x_tin (i := 241) (by decide +kernel)
theorem t_242 : (Cond.methodLink "SnapshotTrie" 212 ({ cls := "SnapshotTrie$Tally", name := "add", desc := "(LSnapshotTrie$Node;I)V" } : MethodName)) ∈ lw_tbl := x_tin (i := 242) (by decide +kernel)
theorem t_243 : (Cond.instanceMethod ({ cls := "SnapshotTrie$Tally", name := "add", desc := "(LSnapshotTrie$Node;I)V" } : MethodName)) ∈ lw_tbl := x_tin (i := 243) (by decide +kernel)
theorem t_244 : (Cond.selects "SnapshotTrie$Tally" ({ cls := "SnapshotTrie$Tally", name := "add", desc := "(LSnapshotTrie$Node;I)V" } : MethodName) ({ cls := "SnapshotTrie$Tally", name := "add", desc := "(LSnapshotTrie$Node;I)V" } : MethodName)) ∈ lw_tbl := x_tin (i := 244) (by decide +kernel)
theorem t_245 : (Cond.code ({ cls := "SnapshotTrie$Tally", name := "add", desc := "(LSnapshotTrie$Node;I)V" } : MethodName) prog_5_method_2_code 3 none) ∈ lw_tbl := x_tin (i := 245) (by decide +kernel)
theorem t_246 : (Cond.methodLink "SnapshotTrie$Tally" 18 ({ cls := "SnapshotTrie$Node", name := "countEntries", desc := "()I" } : MethodName)) ∈ lw_tbl := x_tin (i := 246) (by decide +kernel)
theorem t_247 : (Cond.instanceMethod ({ cls := "SnapshotTrie$Node", name := "countEntries", desc := "()I" } : MethodName)) ∈ lw_tbl := x_tin (i := 247) (by decide +kernel)
theorem t_248 : (Cond.selects "SnapshotTrie$Node" ({ cls := "SnapshotTrie$Node", name := "countEntries", desc := "()I" } : MethodName) ({ cls := "SnapshotTrie$Node", name := "countEntries", desc := "()I" } : MethodName)) ∈ lw_tbl := x_tin (i := 248) (by decide +kernel)
theorem t_249 : (Cond.code ({ cls := "SnapshotTrie$Node", name := "countEntries", desc := "()I" } : MethodName) prog_4_method_4_code 3 (Option.some FieldType.int)) ∈ lw_tbl := x_tin (i := 249) (by decide +kernel)
theorem t_250 : (Cond.methodLink "SnapshotTrie$Tally" 33 ({ cls := "java/lang/Math", name := "max", desc := "(II)I" } : MethodName)) ∈ lw_tbl := x_tin (i := 250) (by decide +kernel)
theorem t_251 : (Cond.static ({ cls := "java/lang/Math", name := "max", desc := "(II)I" } : MethodName)) ∈ lw_tbl := x_tin (i := 251) (by decide +kernel)
theorem t_252 : (Cond.code ({ cls := "java/lang/Math", name := "max", desc := "(II)I" } : MethodName) prog_12_method_65_code 2 (Option.some FieldType.int)) ∈ lw_tbl := x_tin (i := 252) (by decide +kernel)
theorem t_253 : (Cond.methodLink "SnapshotTrie" 178 ({ cls := "SnapshotTrie$Node", name := "countEntries", desc := "()I" } : MethodName)) ∈ lw_tbl := x_tin (i := 253) (by decide +kernel)
theorem t_254 : (Cond.classLink "SnapshotTrie" 49 "java/lang/IllegalStateException") ∈ lw_tbl := x_tin (i := 254) (by decide +kernel)
theorem t_255 : (Cond.instantiable "java/lang/IllegalStateException" 6) ∈ lw_tbl := x_tin (i := 255) (by decide +kernel)
theorem t_256 : (Cond.castable "java/lang/IllegalStateException" "java/lang/IllegalStateException") ∈ lw_tbl := x_tin (i := 256) (by decide +kernel)
theorem t_257 : (Cond.selects "java/lang/IllegalStateException" ({ cls := "java/lang/Throwable", name := "fillInStackTrace", desc := "(I)Ljava/lang/Throwable;" } : MethodName) ({ cls := "java/lang/Throwable", name := "fillInStackTrace", desc := "(I)Ljava/lang/Throwable;" } : MethodName)) ∈ lw_tbl := x_tin (i := 257) (by decide +kernel)
theorem t_263 : (Cond.methodLink "SnapshotTrie" 51 ({ cls := "java/lang/IllegalStateException", name := "<init>", desc := "()V" } : MethodName)) ∈ lw_tbl := x_tin (i := 263) (by decide +kernel)
theorem t_264 : (Cond.instanceMethod ({ cls := "java/lang/IllegalStateException", name := "<init>", desc := "()V" } : MethodName)) ∈ lw_tbl := x_tin (i := 264) (by decide +kernel)
theorem t_265 : (Cond.code ({ cls := "java/lang/IllegalStateException", name := "<init>", desc := "()V" } : MethodName) prog_11_method_1_code 1 none) ∈ lw_tbl := x_tin (i := 265) (by decide +kernel)
theorem t_266 : (Cond.methodLink "java/lang/IllegalStateException" 1 ({ cls := "java/lang/RuntimeException", name := "<init>", desc := "()V" } : MethodName)) ∈ lw_tbl := x_tin (i := 266) (by decide +kernel)
theorem t_269 : (Cond.classLink "SnapshotTrie" 52 "SnapshotTrie$Entry") ∈ lw_tbl := x_tin (i := 269) (by decide +kernel)
theorem t_270 : (Cond.instantiable "SnapshotTrie$Entry" 2) ∈ lw_tbl := x_tin (i := 270) (by decide +kernel)
theorem t_271 : (Cond.methodLink "SnapshotTrie" 54 ({ cls := "SnapshotTrie$Entry", name := "<init>", desc := "(IJ)V" } : MethodName)) ∈ lw_tbl := x_tin (i := 271) (by decide +kernel)
theorem t_272 : (Cond.instanceMethod ({ cls := "SnapshotTrie$Entry", name := "<init>", desc := "(IJ)V" } : MethodName)) ∈ lw_tbl := x_tin (i := 272) (by decide +kernel)
theorem t_273 : (Cond.code ({ cls := "SnapshotTrie$Entry", name := "<init>", desc := "(IJ)V" } : MethodName) prog_3_method_1_code 4 none) ∈ lw_tbl := x_tin (i := 273) (by decide +kernel)
theorem t_274 : (Cond.methodLink "SnapshotTrie$Entry" 1 ({ cls := "java/lang/Object", name := "<init>", desc := "()V" } : MethodName)) ∈ lw_tbl := x_tin (i := 274) (by decide +kernel)
theorem t_275 : (Cond.fieldLink "SnapshotTrie$Entry" 7 "SnapshotTrie$Entry" "key" "I") ∈ lw_tbl := x_tin (i := 275) (by decide +kernel)
theorem t_276 : (Cond.fieldLink "SnapshotTrie$Node" 25 "SnapshotTrie$Entry" "key" "I") ∈ lw_tbl := x_tin (i := 276) (by decide +kernel)
theorem t_277 : (Cond.fieldLink "SnapshotTrie" 117 "SnapshotTrie$Entry" "key" "I") ∈ lw_tbl := x_tin (i := 277) (by decide +kernel)
theorem t_278 : (Cond.fieldLink "SnapshotTrie$Entry" 13 "SnapshotTrie$Entry" "value" "J") ∈ lw_tbl := x_tin (i := 278) (by decide +kernel)
theorem t_279 : (Cond.fieldLink "SnapshotTrie" 68 "SnapshotTrie$Entry" "value" "J") ∈ lw_tbl := x_tin (i := 279) (by decide +kernel)
theorem t_285 : (Cond.methodLink "SnapshotTrie" 57 ({ cls := "SnapshotTrie", name := "write", desc := "(LSnapshotTrie$TrieMap;LSnapshotTrie$Entry;)V" } : MethodName)) ∈ lw_tbl := x_tin (i := 285) (by decide +kernel)
theorem t_287 : (Cond.instanceMethod ({ cls := "SnapshotTrie", name := "write", desc := "(LSnapshotTrie$TrieMap;LSnapshotTrie$Entry;)V" } : MethodName)) ∈ lw_tbl := x_tin (i := 287) (by decide +kernel)
theorem t_288 : (Cond.code ({ cls := "SnapshotTrie", name := "write", desc := "(LSnapshotTrie$TrieMap;LSnapshotTrie$Entry;)V" } : MethodName) prog_1_method_21_code 3 none) ∈ lw_tbl := x_tin (i := 288) (by decide +kernel)
theorem t_289 : (Cond.methodLink "SnapshotTrie" 72 ({ cls := "SnapshotTrie", name := "ownWay", desc := "(LSnapshotTrie$TrieMap;I)I" } : MethodName)) ∈ lw_tbl := x_tin (i := 289) (by decide +kernel)
theorem t_290 : (Cond.static ({ cls := "SnapshotTrie", name := "ownWay", desc := "(LSnapshotTrie$TrieMap;I)I" } : MethodName)) ∈ lw_tbl := x_tin (i := 290) (by decide +kernel)
theorem t_291 : (Cond.code ({ cls := "SnapshotTrie", name := "ownWay", desc := "(LSnapshotTrie$TrieMap;I)I" } : MethodName) prog_1_method_26_code 7 (Option.some FieldType.int)) ∈ lw_tbl := x_tin (i := 291) (by decide +kernel)
theorem t_292 : (Cond.methodLink "SnapshotTrie" 182 ({ cls := "SnapshotTrie", name := "copyOf", desc := "(LSnapshotTrie$Node;II)LSnapshotTrie$Node;" } : MethodName)) ∈ lw_tbl := x_tin (i := 292) (by decide +kernel)
theorem t_293 : (Cond.static ({ cls := "SnapshotTrie", name := "copyOf", desc := "(LSnapshotTrie$Node;II)LSnapshotTrie$Node;" } : MethodName)) ∈ lw_tbl := x_tin (i := 293) (by decide +kernel)
theorem t_294 : (Cond.code ({ cls := "SnapshotTrie", name := "copyOf", desc := "(LSnapshotTrie$Node;II)LSnapshotTrie$Node;" } : MethodName) prog_1_method_27_code 5 (Option.some (FieldType.object "SnapshotTrie$Node"))) ∈ lw_tbl := x_tin (i := 294) (by decide +kernel)
theorem t_295 : (Cond.methodLink "SnapshotTrie" 186 ({ cls := "SnapshotTrie$Node", name := "entryAt", desc := "(I)LSnapshotTrie$Entry;" } : MethodName)) ∈ lw_tbl := x_tin (i := 295) (by decide +kernel)
theorem t_296 : (Cond.instanceMethod ({ cls := "SnapshotTrie$Node", name := "entryAt", desc := "(I)LSnapshotTrie$Entry;" } : MethodName)) ∈ lw_tbl := x_tin (i := 296) (by decide +kernel)
theorem t_297 : (Cond.selects "SnapshotTrie$Node" ({ cls := "SnapshotTrie$Node", name := "entryAt", desc := "(I)LSnapshotTrie$Entry;" } : MethodName) ({ cls := "SnapshotTrie$Node", name := "entryAt", desc := "(I)LSnapshotTrie$Entry;" } : MethodName)) ∈ lw_tbl := x_tin (i := 297) (by decide +kernel)
theorem t_298 : (Cond.code ({ cls := "SnapshotTrie$Node", name := "entryAt", desc := "(I)LSnapshotTrie$Entry;" } : MethodName) prog_4_method_2_code 2 (Option.some (FieldType.object "SnapshotTrie$Entry"))) ∈ lw_tbl := x_tin (i := 298) (by decide +kernel)
theorem t_299 : (Cond.methodLink "SnapshotTrie" 190 ({ cls := "SnapshotTrie$Node", name := "nodeAt", desc := "(I)LSnapshotTrie$Node;" } : MethodName)) ∈ lw_tbl := x_tin (i := 299) (by decide +kernel)
theorem t_300 : (Cond.instanceMethod ({ cls := "SnapshotTrie$Node", name := "nodeAt", desc := "(I)LSnapshotTrie$Node;" } : MethodName)) ∈ lw_tbl := x_tin (i := 300) (by decide +kernel)
theorem t_301 : (Cond.selects "SnapshotTrie$Node" ({ cls := "SnapshotTrie$Node", name := "nodeAt", desc := "(I)LSnapshotTrie$Node;" } : MethodName) ({ cls := "SnapshotTrie$Node", name := "nodeAt", desc := "(I)LSnapshotTrie$Node;" } : MethodName)) ∈ lw_tbl := x_tin (i := 301) (by decide +kernel)
theorem t_302 : (Cond.code ({ cls := "SnapshotTrie$Node", name := "nodeAt", desc := "(I)LSnapshotTrie$Node;" } : MethodName) prog_4_method_3_code 2 (Option.some (FieldType.object "SnapshotTrie$Node"))) ∈ lw_tbl := x_tin (i := 302) (by decide +kernel)
theorem t_303 : (Cond.methodLink "SnapshotTrie" 158 ({ cls := "SnapshotTrie", name := "putIn", desc := "(LSnapshotTrie$Node;LSnapshotTrie$Entry;I)V" } : MethodName)) ∈ lw_tbl := x_tin (i := 303) (by decide +kernel)
theorem t_304 : (Cond.static ({ cls := "SnapshotTrie", name := "putIn", desc := "(LSnapshotTrie$Node;LSnapshotTrie$Entry;I)V" } : MethodName)) ∈ lw_tbl := x_tin (i := 304) (by decide +kernel)
theorem t_305 : (Cond.code ({ cls := "SnapshotTrie", name := "putIn", desc := "(LSnapshotTrie$Node;LSnapshotTrie$Entry;I)V" } : MethodName) prog_1_method_28_code 7 none) ∈ lw_tbl := x_tin (i := 305) (by decide +kernel)
theorem t_306 : (Cond.methodLink "SnapshotTrie" 194 ({ cls := "SnapshotTrie", name := "putAt", desc := "(LSnapshotTrie$Node;IILSnapshotTrie$Entry;I)V" } : MethodName)) ∈ lw_tbl := x_tin (i := 306) (by decide +kernel)
theorem t_307 : (Cond.static ({ cls := "SnapshotTrie", name := "putAt", desc := "(LSnapshotTrie$Node;IILSnapshotTrie$Entry;I)V" } : MethodName)) ∈ lw_tbl := x_tin (i := 307) (by decide +kernel)
theorem t_308 : (Cond.code ({ cls := "SnapshotTrie", name := "putAt", desc := "(LSnapshotTrie$Node;IILSnapshotTrie$Entry;I)V" } : MethodName) prog_1_method_29_code 6 none) ∈ lw_tbl := x_tin (i := 308) (by decide +kernel)
theorem t_309 : (Cond.methodLink "SnapshotTrie" 202 ({ cls := "SnapshotTrie", name := "nodeOfTwo", desc := "(LSnapshotTrie$Entry;LSnapshotTrie$Entry;II)LSnapshotTrie$Node;" } : MethodName)) ∈ lw_tbl := x_tin (i := 309) (by decide +kernel)
theorem t_310 : (Cond.static ({ cls := "SnapshotTrie", name := "nodeOfTwo", desc := "(LSnapshotTrie$Entry;LSnapshotTrie$Entry;II)LSnapshotTrie$Node;" } : MethodName)) ∈ lw_tbl := x_tin (i := 310) (by decide +kernel)
theorem t_311 : (Cond.code ({ cls := "SnapshotTrie", name := "nodeOfTwo", desc := "(LSnapshotTrie$Entry;LSnapshotTrie$Entry;II)LSnapshotTrie$Node;" } : MethodName) prog_1_method_30_code 7 (Option.some (FieldType.object "SnapshotTrie$Node"))) ∈ lw_tbl := x_tin (i := 311) (by decide +kernel)
theorem t_312 : (Cond.methodLink "SnapshotTrie" 198 ({ cls := "SnapshotTrie$Node", name := "putInBag", desc := "(LSnapshotTrie$Entry;)V" } : MethodName)) ∈ lw_tbl := x_tin (i := 312) (by decide +kernel)
theorem t_313 : (Cond.instanceMethod ({ cls := "SnapshotTrie$Node", name := "putInBag", desc := "(LSnapshotTrie$Entry;)V" } : MethodName)) ∈ lw_tbl := x_tin (i := 313) (by decide +kernel)
theorem t_314 : (Cond.selects "SnapshotTrie$Node" ({ cls := "SnapshotTrie$Node", name := "putInBag", desc := "(LSnapshotTrie$Entry;)V" } : MethodName) ({ cls := "SnapshotTrie$Node", name := "putInBag", desc := "(LSnapshotTrie$Entry;)V" } : MethodName)) ∈ lw_tbl := x_tin (i := 314) (by decide +kernel)
theorem t_315 : (Cond.code ({ cls := "SnapshotTrie$Node", name := "putInBag", desc := "(LSnapshotTrie$Entry;)V" } : MethodName) prog_4_method_7_code 4 none) ∈ lw_tbl := x_tin (i := 315) (by decide +kernel)
theorem t_316 : (Cond.methodLink "SnapshotTrie$Node" 28 ({ cls := "SnapshotTrie$Node", name := "placeInBag", desc := "(I)I" } : MethodName)) ∈ lw_tbl := x_tin (i := 316) (by decide +kernel)
theorem t_317 : (Cond.methodLink "SnapshotTrie$Node" 32 ({ cls := "SnapshotTrie$Node", name := "countEntries", desc := "()I" } : MethodName)) ∈ lw_tbl := x_tin (i := 317) (by decide +kernel)
theorem t_318 : (Cond.methodLink "SnapshotTrieLaw" 72 ({ cls := "SnapshotTrieLaw", name := "get", desc := "(LSnapshotTrie;II[J)I" } : MethodName)) ∈ lw_tbl := x_tin (i := 318) (by decide +kernel)
theorem t_319 : (Cond.static ({ cls := "SnapshotTrieLaw", name := "get", desc := "(LSnapshotTrie;II[J)I" } : MethodName)) ∈ lw_tbl := x_tin (i := 319) (by decide +kernel)
theorem t_320 : (Cond.codeWith ({ cls := "SnapshotTrieLaw", name := "get", desc := "(LSnapshotTrie;II[J)I" } : MethodName) method_4_code 5 (Option.some FieldType.int) [(0, 9, 12, 13), (0, 9, 16, 23)]) ∈ lw_tbl := x_tin (i := 320) (by decide +kernel)
theorem t_321 : (Cond.classLink "SnapshotTrieLaw" 23 "java/util/NoSuchElementException") ∈ lw_tbl := x_tin (i := 321) (by decide +kernel)
theorem t_322 : (Cond.methodLink "SnapshotTrieLaw" 19 ({ cls := "SnapshotTrie", name := "get", desc := "(II)J" } : MethodName)) ∈ lw_tbl := x_tin (i := 322) (by decide +kernel)
theorem t_323 : (Cond.instanceMethod ({ cls := "SnapshotTrie", name := "get", desc := "(II)J" } : MethodName)) ∈ lw_tbl := x_tin (i := 323) (by decide +kernel)
theorem t_324 : (Cond.selects "SnapshotTrie" ({ cls := "SnapshotTrie", name := "get", desc := "(II)J" } : MethodName) ({ cls := "SnapshotTrie", name := "get", desc := "(II)J" } : MethodName)) ∈ lw_tbl := x_tin (i := 324) (by decide +kernel)
theorem t_325 : (Cond.code ({ cls := "SnapshotTrie", name := "get", desc := "(II)J" } : MethodName) prog_1_method_3_code 3 (Option.some FieldType.long)) ∈ lw_tbl := x_tin (i := 325) (by decide +kernel)
theorem t_326 : (Cond.methodLink "SnapshotTrie" 64 ({ cls := "SnapshotTrie", name := "presentEntry", desc := "(LSnapshotTrie$TrieMap;I)LSnapshotTrie$Entry;" } : MethodName)) ∈ lw_tbl := x_tin (i := 326) (by decide +kernel)
theorem t_327 : (Cond.static ({ cls := "SnapshotTrie", name := "presentEntry", desc := "(LSnapshotTrie$TrieMap;I)LSnapshotTrie$Entry;" } : MethodName)) ∈ lw_tbl := x_tin (i := 327) (by decide +kernel)
theorem t_328 : (Cond.code ({ cls := "SnapshotTrie", name := "presentEntry", desc := "(LSnapshotTrie$TrieMap;I)LSnapshotTrie$Entry;" } : MethodName) prog_1_method_23_code 3 (Option.some (FieldType.object "SnapshotTrie$Entry"))) ∈ lw_tbl := x_tin (i := 328) (by decide +kernel)
theorem t_329 : (Cond.classLink "SnapshotTrie" 111 "java/util/NoSuchElementException") ∈ lw_tbl := x_tin (i := 329) (by decide +kernel)
theorem t_330 : (Cond.instantiable "java/util/NoSuchElementException" 6) ∈ lw_tbl := x_tin (i := 330) (by decide +kernel)
theorem t_331 : (Cond.castable "java/util/NoSuchElementException" "java/util/NoSuchElementException") ∈ lw_tbl := x_tin (i := 331) (by decide +kernel)
theorem t_332 : (Cond.selects "java/util/NoSuchElementException" ({ cls := "java/lang/Throwable", name := "fillInStackTrace", desc := "(I)Ljava/lang/Throwable;" } : MethodName) ({ cls := "java/lang/Throwable", name := "fillInStackTrace", desc := "(I)Ljava/lang/Throwable;" } : MethodName)) ∈ lw_tbl := x_tin (i := 332) (by decide +kernel)
theorem t_338 : (Cond.methodLink "SnapshotTrie" 113 ({ cls := "java/util/NoSuchElementException", name := "<init>", desc := "()V" } : MethodName)) ∈ lw_tbl := x_tin (i := 338) (by decide +kernel)
theorem t_339 : (Cond.instanceMethod ({ cls := "java/util/NoSuchElementException", name := "<init>", desc := "()V" } : MethodName)) ∈ lw_tbl := x_tin (i := 339) (by decide +kernel)
theorem t_340 : (Cond.code ({ cls := "java/util/NoSuchElementException", name := "<init>", desc := "()V" } : MethodName) prog_16_method_1_code 1 none) ∈ lw_tbl := x_tin (i := 340) (by decide +kernel)
theorem t_341 : (Cond.methodLink "java/util/NoSuchElementException" 1 ({ cls := "java/lang/RuntimeException", name := "<init>", desc := "()V" } : MethodName)) ∈ lw_tbl := x_tin (i := 341) (by decide +kernel)
theorem t_344 : (Cond.methodLink "SnapshotTrieLaw" 76 ({ cls := "SnapshotTrieLaw", name := "remove", desc := "(LSnapshotTrie;II[J)I" } : MethodName)) ∈ lw_tbl := x_tin (i := 344) (by decide +kernel)
theorem t_345 : (Cond.static ({ cls := "SnapshotTrieLaw", name := "remove", desc := "(LSnapshotTrie;II[J)I" } : MethodName)) ∈ lw_tbl := x_tin (i := 345) (by decide +kernel)
theorem t_346 : (Cond.codeWith ({ cls := "SnapshotTrieLaw", name := "remove", desc := "(LSnapshotTrie;II[J)I" } : MethodName) method_5_code 5 (Option.some FieldType.int) [(0, 9, 12, 13), (0, 9, 16, 15), (0, 9, 20, 23)]) ∈ lw_tbl := x_tin (i := 346) (by decide +kernel)
theorem t_347 : (Cond.methodLink "SnapshotTrieLaw" 25 ({ cls := "SnapshotTrie", name := "remove", desc := "(II)J" } : MethodName)) ∈ lw_tbl := x_tin (i := 347) (by decide +kernel)
theorem t_348 : (Cond.instanceMethod ({ cls := "SnapshotTrie", name := "remove", desc := "(II)J" } : MethodName)) ∈ lw_tbl := x_tin (i := 348) (by decide +kernel)
theorem t_349 : (Cond.selects "SnapshotTrie" ({ cls := "SnapshotTrie", name := "remove", desc := "(II)J" } : MethodName) ({ cls := "SnapshotTrie", name := "remove", desc := "(II)J" } : MethodName)) ∈ lw_tbl := x_tin (i := 349) (by decide +kernel)
theorem t_350 : (Cond.code ({ cls := "SnapshotTrie", name := "remove", desc := "(II)J" } : MethodName) prog_1_method_4_code 5 (Option.some FieldType.long)) ∈ lw_tbl := x_tin (i := 350) (by decide +kernel)
theorem t_351 : (Cond.methodLink "SnapshotTrie" 79 ({ cls := "SnapshotTrie", name := "takeOut", desc := "(LSnapshotTrie$Node;II)V" } : MethodName)) ∈ lw_tbl := x_tin (i := 351) (by decide +kernel)
theorem t_352 : (Cond.static ({ cls := "SnapshotTrie", name := "takeOut", desc := "(LSnapshotTrie$Node;II)V" } : MethodName)) ∈ lw_tbl := x_tin (i := 352) (by decide +kernel)
theorem t_353 : (Cond.code ({ cls := "SnapshotTrie", name := "takeOut", desc := "(LSnapshotTrie$Node;II)V" } : MethodName) prog_1_method_31_code 6 none) ∈ lw_tbl := x_tin (i := 353) (by decide +kernel)
theorem t_354 : (Cond.methodLink "SnapshotTrie" 206 ({ cls := "SnapshotTrie$Node", name := "takeOutOfBag", desc := "(I)V" } : MethodName)) ∈ lw_tbl := x_tin (i := 354) (by decide +kernel)
theorem t_355 : (Cond.instanceMethod ({ cls := "SnapshotTrie$Node", name := "takeOutOfBag", desc := "(I)V" } : MethodName)) ∈ lw_tbl := x_tin (i := 355) (by decide +kernel)
theorem t_356 : (Cond.selects "SnapshotTrie$Node" ({ cls := "SnapshotTrie$Node", name := "takeOutOfBag", desc := "(I)V" } : MethodName) ({ cls := "SnapshotTrie$Node", name := "takeOutOfBag", desc := "(I)V" } : MethodName)) ∈ lw_tbl := x_tin (i := 356) (by decide +kernel)
theorem t_357 : (Cond.code ({ cls := "SnapshotTrie$Node", name := "takeOutOfBag", desc := "(I)V" } : MethodName) prog_4_method_8_code 4 none) ∈ lw_tbl := x_tin (i := 357) (by decide +kernel)
theorem t_358 : (Cond.methodLink "SnapshotTrie$Node" 36 ({ cls := "SnapshotTrie$Node", name := "entryAt", desc := "(I)LSnapshotTrie$Entry;" } : MethodName)) ∈ lw_tbl := x_tin (i := 358) (by decide +kernel)
theorem t_359 : (Cond.methodLink "SnapshotTrie" 209 ({ cls := "SnapshotTrie$Node", name := "onlyEntry", desc := "()LSnapshotTrie$Entry;" } : MethodName)) ∈ lw_tbl := x_tin (i := 359) (by decide +kernel)
theorem t_360 : (Cond.instanceMethod ({ cls := "SnapshotTrie$Node", name := "onlyEntry", desc := "()LSnapshotTrie$Entry;" } : MethodName)) ∈ lw_tbl := x_tin (i := 360) (by decide +kernel)
theorem t_361 : (Cond.selects "SnapshotTrie$Node" ({ cls := "SnapshotTrie$Node", name := "onlyEntry", desc := "()LSnapshotTrie$Entry;" } : MethodName) ({ cls := "SnapshotTrie$Node", name := "onlyEntry", desc := "()LSnapshotTrie$Entry;" } : MethodName)) ∈ lw_tbl := x_tin (i := 361) (by decide +kernel)
theorem t_362 : (Cond.code ({ cls := "SnapshotTrie$Node", name := "onlyEntry", desc := "()LSnapshotTrie$Entry;" } : MethodName) prog_4_method_5_code 3 (Option.some (FieldType.object "SnapshotTrie$Entry"))) ∈ lw_tbl := x_tin (i := 362) (by decide +kernel)
theorem t_363 : (Cond.methodLink "SnapshotTrieLaw" 79 ({ cls := "SnapshotTrieLaw", name := "replace", desc := "(LSnapshotTrie;IIJJ[J)I" } : MethodName)) ∈ lw_tbl := x_tin (i := 363) (by decide +kernel)
theorem t_364 : (Cond.static ({ cls := "SnapshotTrieLaw", name := "replace", desc := "(LSnapshotTrie;IIJJ[J)I" } : MethodName)) ∈ lw_tbl := x_tin (i := 364) (by decide +kernel)
theorem t_365 : (Cond.codeWith ({ cls := "SnapshotTrieLaw", name := "replace", desc := "(LSnapshotTrie;IIJJ[J)I" } : MethodName) method_6_code 9 (Option.some FieldType.int) [(0, 21, 24, 13), (0, 21, 28, 15)]) ∈ lw_tbl := x_tin (i := 365) (by decide +kernel)
theorem t_366 : (Cond.methodLink "SnapshotTrieLaw" 28 ({ cls := "SnapshotTrie", name := "replace", desc := "(IIJJ)Z" } : MethodName)) ∈ lw_tbl := x_tin (i := 366) (by decide +kernel)
theorem t_367 : (Cond.instanceMethod ({ cls := "SnapshotTrie", name := "replace", desc := "(IIJJ)Z" } : MethodName)) ∈ lw_tbl := x_tin (i := 367) (by decide +kernel)
theorem t_368 : (Cond.selects "SnapshotTrie" ({ cls := "SnapshotTrie", name := "replace", desc := "(IIJJ)Z" } : MethodName) ({ cls := "SnapshotTrie", name := "replace", desc := "(IIJJ)Z" } : MethodName)) ∈ lw_tbl := x_tin (i := 368) (by decide +kernel)
theorem t_369 : (Cond.code ({ cls := "SnapshotTrie", name := "replace", desc := "(IIJJ)Z" } : MethodName) prog_1_method_5_code 9 (Option.some FieldType.boolean)) ∈ lw_tbl := x_tin (i := 369) (by decide +kernel)
theorem t_370 : (Cond.methodLink "SnapshotTrieLaw" 83 ({ cls := "SnapshotTrieLaw", name := "snapshot", desc := "(LSnapshotTrie;IZ[J)I" } : MethodName)) ∈ lw_tbl := x_tin (i := 370) (by decide +kernel)
theorem t_371 : (Cond.static ({ cls := "SnapshotTrieLaw", name := "snapshot", desc := "(LSnapshotTrie;IZ[J)I" } : MethodName)) ∈ lw_tbl := x_tin (i := 371) (by decide +kernel)
theorem t_372 : (Cond.codeWith ({ cls := "SnapshotTrieLaw", name := "snapshot", desc := "(LSnapshotTrie;IZ[J)I" } : MethodName) method_7_code 5 (Option.some FieldType.int) [(0, 10, 13, 13), (0, 10, 17, 17)]) ∈ lw_tbl := x_tin (i := 372) (by decide +kernel)
theorem t_373 : (Cond.methodLink "SnapshotTrieLaw" 32 ({ cls := "SnapshotTrie", name := "snapshot", desc := "(IZ)I" } : MethodName)) ∈ lw_tbl := x_tin (i := 373) (by decide +kernel)
theorem t_374 : (Cond.instanceMethod ({ cls := "SnapshotTrie", name := "snapshot", desc := "(IZ)I" } : MethodName)) ∈ lw_tbl := x_tin (i := 374) (by decide +kernel)
theorem t_375 : (Cond.selects "SnapshotTrie" ({ cls := "SnapshotTrie", name := "snapshot", desc := "(IZ)I" } : MethodName) ({ cls := "SnapshotTrie", name := "snapshot", desc := "(IZ)I" } : MethodName)) ∈ lw_tbl := x_tin (i := 375) (by decide +kernel)
theorem t_376 : (Cond.code ({ cls := "SnapshotTrie", name := "snapshot", desc := "(IZ)I" } : MethodName) prog_1_method_6_code 5 (Option.some FieldType.int)) ∈ lw_tbl := x_tin (i := 376) (by decide +kernel)
theorem t_377 : (Cond.methodLink "SnapshotTrie" 83 ({ cls := "SnapshotTrie", name := "leastMissingMap", desc := "()I" } : MethodName)) ∈ lw_tbl := x_tin (i := 377) (by decide +kernel)
theorem t_379 : (Cond.instanceMethod ({ cls := "SnapshotTrie", name := "leastMissingMap", desc := "()I" } : MethodName)) ∈ lw_tbl := x_tin (i := 379) (by decide +kernel)
theorem t_380 : (Cond.code ({ cls := "SnapshotTrie", name := "leastMissingMap", desc := "()I" } : MethodName) prog_1_method_18_code 2 (Option.some FieldType.int)) ∈ lw_tbl := x_tin (i := 380) (by decide +kernel)
theorem t_381 : (Cond.methodLink "SnapshotTrie" 87 ({ cls := "SnapshotTrie", name := "newGeneration", desc := "()I" } : MethodName)) ∈ lw_tbl := x_tin (i := 381) (by decide +kernel)
theorem t_383 : (Cond.instanceMethod ({ cls := "SnapshotTrie", name := "newGeneration", desc := "()I" } : MethodName)) ∈ lw_tbl := x_tin (i := 383) (by decide +kernel)
theorem t_384 : (Cond.code ({ cls := "SnapshotTrie", name := "newGeneration", desc := "()I" } : MethodName) prog_1_method_20_code 1 (Option.some FieldType.int)) ∈ lw_tbl := x_tin (i := 384) (by decide +kernel)
theorem t_385 : (Cond.methodLink "SnapshotTrieLaw" 87 ({ cls := "SnapshotTrieLaw", name := "drop", desc := "(LSnapshotTrie;I[J)I" } : MethodName)) ∈ lw_tbl := x_tin (i := 385) (by decide +kernel)
theorem t_386 : (Cond.static ({ cls := "SnapshotTrieLaw", name := "drop", desc := "(LSnapshotTrie;I[J)I" } : MethodName)) ∈ lw_tbl := x_tin (i := 386) (by decide +kernel)
theorem t_387 : (Cond.codeWith ({ cls := "SnapshotTrieLaw", name := "drop", desc := "(LSnapshotTrie;I[J)I" } : MethodName) method_8_code 4 (Option.some FieldType.int) [(0, 9, 12, 13), (0, 9, 15, 17)]) ∈ lw_tbl := x_tin (i := 387) (by decide +kernel)
theorem t_388 : (Cond.methodLink "SnapshotTrieLaw" 36 ({ cls := "SnapshotTrie", name := "drop", desc := "(I)I" } : MethodName)) ∈ lw_tbl := x_tin (i := 388) (by decide +kernel)
theorem t_389 : (Cond.instanceMethod ({ cls := "SnapshotTrie", name := "drop", desc := "(I)I" } : MethodName)) ∈ lw_tbl := x_tin (i := 389) (by decide +kernel)
theorem t_390 : (Cond.selects "SnapshotTrie" ({ cls := "SnapshotTrie", name := "drop", desc := "(I)I" } : MethodName) ({ cls := "SnapshotTrie", name := "drop", desc := "(I)I" } : MethodName)) ∈ lw_tbl := x_tin (i := 390) (by decide +kernel)
theorem t_391 : (Cond.code ({ cls := "SnapshotTrie", name := "drop", desc := "(I)I" } : MethodName) prog_1_method_7_code 3 (Option.some FieldType.int)) ∈ lw_tbl := x_tin (i := 391) (by decide +kernel)
theorem t_392 : (Cond.methodLink "SnapshotTrieLaw" 91 ({ cls := "SnapshotTrieLaw", name := "iterate", desc := "(LSnapshotTrie;I[J)I" } : MethodName)) ∈ lw_tbl := x_tin (i := 392) (by decide +kernel)
theorem t_393 : (Cond.static ({ cls := "SnapshotTrieLaw", name := "iterate", desc := "(LSnapshotTrie;I[J)I" } : MethodName)) ∈ lw_tbl := x_tin (i := 393) (by decide +kernel)
theorem t_394 : (Cond.codeWith ({ cls := "SnapshotTrieLaw", name := "iterate", desc := "(LSnapshotTrie;I[J)I" } : MethodName) method_9_code 4 (Option.some FieldType.int) [(0, 9, 12, 13), (0, 9, 15, 17)]) ∈ lw_tbl := x_tin (i := 394) (by decide +kernel)
theorem t_395 : (Cond.methodLink "SnapshotTrieLaw" 40 ({ cls := "SnapshotTrie", name := "iterate", desc := "(I)I" } : MethodName)) ∈ lw_tbl := x_tin (i := 395) (by decide +kernel)
theorem t_396 : (Cond.instanceMethod ({ cls := "SnapshotTrie", name := "iterate", desc := "(I)I" } : MethodName)) ∈ lw_tbl := x_tin (i := 396) (by decide +kernel)
theorem t_397 : (Cond.selects "SnapshotTrie" ({ cls := "SnapshotTrie", name := "iterate", desc := "(I)I" } : MethodName) ({ cls := "SnapshotTrie", name := "iterate", desc := "(I)I" } : MethodName)) ∈ lw_tbl := x_tin (i := 397) (by decide +kernel)
theorem t_398 : (Cond.code ({ cls := "SnapshotTrie", name := "iterate", desc := "(I)I" } : MethodName) prog_1_method_8_code 4 (Option.some FieldType.int)) ∈ lw_tbl := x_tin (i := 398) (by decide +kernel)
theorem t_399 : (Cond.methodLink "SnapshotTrie" 97 ({ cls := "SnapshotTrie", name := "leastFreeCursor", desc := "()I" } : MethodName)) ∈ lw_tbl := x_tin (i := 399) (by decide +kernel)
theorem t_401 : (Cond.instanceMethod ({ cls := "SnapshotTrie", name := "leastFreeCursor", desc := "()I" } : MethodName)) ∈ lw_tbl := x_tin (i := 401) (by decide +kernel)
theorem t_402 : (Cond.code ({ cls := "SnapshotTrie", name := "leastFreeCursor", desc := "()I" } : MethodName) prog_1_method_19_code 2 (Option.some FieldType.int)) ∈ lw_tbl := x_tin (i := 402) (by decide +kernel)
theorem t_403 : (Cond.instantiable "SnapshotTrie$Cursor" 3) ∈ lw_tbl := x_tin (i := 403) (by decide +kernel)
theorem t_404 : (Cond.methodLink "SnapshotTrie" 100 ({ cls := "SnapshotTrie$Cursor", name := "<init>", desc := "(LSnapshotTrie$Node;)V" } : MethodName)) ∈ lw_tbl := x_tin (i := 404) (by decide +kernel)
theorem t_405 : (Cond.instanceMethod ({ cls := "SnapshotTrie$Cursor", name := "<init>", desc := "(LSnapshotTrie$Node;)V" } : MethodName)) ∈ lw_tbl := x_tin (i := 405) (by decide +kernel)
theorem t_406 : (Cond.code ({ cls := "SnapshotTrie$Cursor", name := "<init>", desc := "(LSnapshotTrie$Node;)V" } : MethodName) prog_2_method_1_code 2 none) ∈ lw_tbl := x_tin (i := 406) (by decide +kernel)
theorem t_407 : (Cond.methodLink "SnapshotTrie$Cursor" 3 ({ cls := "java/lang/Object", name := "<init>", desc := "()V" } : MethodName)) ∈ lw_tbl := x_tin (i := 407) (by decide +kernel)
theorem t_408 : (Cond.classLink "SnapshotTrie$Cursor" 9 "SnapshotTrie$Node") ∈ lw_tbl := x_tin (i := 408) (by decide +kernel)
theorem t_409 : (Cond.fieldLink "SnapshotTrie$Cursor" 11 "SnapshotTrie$Cursor" "way" "[LSnapshotTrie$Node;") ∈ lw_tbl := x_tin (i := 409) (by decide +kernel)
theorem t_410 : (Cond.fieldLink "SnapshotTrie$Cursor" 17 "SnapshotTrie$Cursor" "places" "[I") ∈ lw_tbl := x_tin (i := 410) (by decide +kernel)
theorem t_411 : (Cond.fieldLink "SnapshotTrie$Cursor" 21 "SnapshotTrie$Cursor" "level" "I") ∈ lw_tbl := x_tin (i := 411) (by decide +kernel)
theorem t_419 : (Cond.arrayClass FieldType.int) ∈ lw_tbl := x_tin (i := 419) (by decide +kernel)
theorem t_420 : (Cond.methodLink "SnapshotTrieLaw" 94 ({ cls := "SnapshotTrieLaw", name := "next", desc := "(LSnapshotTrie;I[J)I" } : MethodName)) ∈ lw_tbl := x_tin (i := 420) (by decide +kernel)
theorem t_421 : (Cond.static ({ cls := "SnapshotTrieLaw", name := "next", desc := "(LSnapshotTrie;I[J)I" } : MethodName)) ∈ lw_tbl := x_tin (i := 421) (by decide +kernel)
theorem t_422 : (Cond.codeWith ({ cls := "SnapshotTrieLaw", name := "next", desc := "(LSnapshotTrie;I[J)I" } : MethodName) method_10_code 4 (Option.some FieldType.int) [(0, 9, 12, 13), (0, 9, 15, 23)]) ∈ lw_tbl := x_tin (i := 422) (by decide +kernel)
theorem t_423 : (Cond.methodLink "SnapshotTrieLaw" 43 ({ cls := "SnapshotTrie", name := "next", desc := "(I)I" } : MethodName)) ∈ lw_tbl := x_tin (i := 423) (by decide +kernel)
theorem t_424 : (Cond.instanceMethod ({ cls := "SnapshotTrie", name := "next", desc := "(I)I" } : MethodName)) ∈ lw_tbl := x_tin (i := 424) (by decide +kernel)
theorem t_425 : (Cond.selects "SnapshotTrie" ({ cls := "SnapshotTrie", name := "next", desc := "(I)I" } : MethodName) ({ cls := "SnapshotTrie", name := "next", desc := "(I)I" } : MethodName)) ∈ lw_tbl := x_tin (i := 425) (by decide +kernel)
theorem t_426 : (Cond.code ({ cls := "SnapshotTrie", name := "next", desc := "(I)I" } : MethodName) prog_1_method_9_code 3 (Option.some FieldType.int)) ∈ lw_tbl := x_tin (i := 426) (by decide +kernel)
theorem t_427 : (Cond.methodLink "SnapshotTrie" 103 ({ cls := "SnapshotTrie", name := "existingCursor", desc := "(I)LSnapshotTrie$Cursor;" } : MethodName)) ∈ lw_tbl := x_tin (i := 427) (by decide +kernel)
theorem t_429 : (Cond.instanceMethod ({ cls := "SnapshotTrie", name := "existingCursor", desc := "(I)LSnapshotTrie$Cursor;" } : MethodName)) ∈ lw_tbl := x_tin (i := 429) (by decide +kernel)
theorem t_430 : (Cond.code ({ cls := "SnapshotTrie", name := "existingCursor", desc := "(I)LSnapshotTrie$Cursor;" } : MethodName) prog_1_method_17_code 2 (Option.some (FieldType.object "SnapshotTrie$Cursor"))) ∈ lw_tbl := x_tin (i := 430) (by decide +kernel)
theorem t_431 : (Cond.methodLink "SnapshotTrie" 107 ({ cls := "SnapshotTrie$Cursor", name := "advance", desc := "()LSnapshotTrie$Entry;" } : MethodName)) ∈ lw_tbl := x_tin (i := 431) (by decide +kernel)
theorem t_432 : (Cond.instanceMethod ({ cls := "SnapshotTrie$Cursor", name := "advance", desc := "()LSnapshotTrie$Entry;" } : MethodName)) ∈ lw_tbl := x_tin (i := 432) (by decide +kernel)
theorem t_433 : (Cond.selects "SnapshotTrie$Cursor" ({ cls := "SnapshotTrie$Cursor", name := "advance", desc := "()LSnapshotTrie$Entry;" } : MethodName) ({ cls := "SnapshotTrie$Cursor", name := "advance", desc := "()LSnapshotTrie$Entry;" } : MethodName)) ∈ lw_tbl := x_tin (i := 433) (by decide +kernel)
theorem t_434 : (Cond.code ({ cls := "SnapshotTrie$Cursor", name := "advance", desc := "()LSnapshotTrie$Entry;" } : MethodName) prog_2_method_2_code 4 (Option.some (FieldType.object "SnapshotTrie$Entry"))) ∈ lw_tbl := x_tin (i := 434) (by decide +kernel)
theorem t_435 : (Cond.constant "SnapshotTrie$Cursor" 25 (1000000 : Int32)) ∈ lw_tbl := x_tin (i := 435) (by decide +kernel)
theorem t_436 : (Cond.methodLink "SnapshotTrie$Cursor" 30 ({ cls := "SnapshotTrie$Node", name := "nodeAt", desc := "(I)LSnapshotTrie$Node;" } : MethodName)) ∈ lw_tbl := x_tin (i := 436) (by decide +kernel)
theorem t_437 : (Cond.methodLink "SnapshotTrie$Cursor" 34 ({ cls := "SnapshotTrie$Cursor", name := "goInto", desc := "(LSnapshotTrie$Node;)V" } : MethodName)) ∈ lw_tbl := x_tin (i := 437) (by decide +kernel)
theorem t_439 : (Cond.instanceMethod ({ cls := "SnapshotTrie$Cursor", name := "goInto", desc := "(LSnapshotTrie$Node;)V" } : MethodName)) ∈ lw_tbl := x_tin (i := 439) (by decide +kernel)
theorem t_440 : (Cond.code ({ cls := "SnapshotTrie$Cursor", name := "goInto", desc := "(LSnapshotTrie$Node;)V" } : MethodName) prog_2_method_3_code 2 none) ∈ lw_tbl := x_tin (i := 440) (by decide +kernel)
theorem t_441 : (Cond.methodLink "SnapshotTrieLaw" 106 ({ cls := "SnapshotTrieLaw", name := "measure", desc := "(LSnapshotTrie;II[J)I" } : MethodName)) ∈ lw_tbl := x_tin (i := 441) (by decide +kernel)
theorem t_442 : (Cond.static ({ cls := "SnapshotTrieLaw", name := "measure", desc := "(LSnapshotTrie;II[J)I" } : MethodName)) ∈ lw_tbl := x_tin (i := 442) (by decide +kernel)
theorem t_443 : (Cond.codeWith ({ cls := "SnapshotTrieLaw", name := "measure", desc := "(LSnapshotTrie;II[J)I" } : MethodName) method_11_code 5 (Option.some FieldType.int) [(0, 10, 13, 13)]) ∈ lw_tbl := x_tin (i := 443) (by decide +kernel)
theorem t_444 : (Cond.methodLink "SnapshotTrieLaw" 46 ({ cls := "SnapshotTrie", name := "measure", desc := "(II)I" } : MethodName)) ∈ lw_tbl := x_tin (i := 444) (by decide +kernel)
theorem t_445 : (Cond.instanceMethod ({ cls := "SnapshotTrie", name := "measure", desc := "(II)I" } : MethodName)) ∈ lw_tbl := x_tin (i := 445) (by decide +kernel)
theorem t_446 : (Cond.selects "SnapshotTrie" ({ cls := "SnapshotTrie", name := "measure", desc := "(II)I" } : MethodName) ({ cls := "SnapshotTrie", name := "measure", desc := "(II)I" } : MethodName)) ∈ lw_tbl := x_tin (i := 446) (by decide +kernel)
theorem t_447 : (Cond.code ({ cls := "SnapshotTrie", name := "measure", desc := "(II)I" } : MethodName) prog_1_method_12_code 5 (Option.some FieldType.int)) ∈ lw_tbl := x_tin (i := 447) (by decide +kernel)
theorem t_448 : (Cond.methodLink "SnapshotTrieLaw" 109 ({ cls := "SnapshotTrieLaw", name := "common", desc := "(LSnapshotTrie;II[J)I" } : MethodName)) ∈ lw_tbl := x_tin (i := 448) (by decide +kernel)
theorem t_449 : (Cond.static ({ cls := "SnapshotTrieLaw", name := "common", desc := "(LSnapshotTrie;II[J)I" } : MethodName)) ∈ lw_tbl := x_tin (i := 449) (by decide +kernel)
theorem t_450 : (Cond.codeWith ({ cls := "SnapshotTrieLaw", name := "common", desc := "(LSnapshotTrie;II[J)I" } : MethodName) method_12_code 5 (Option.some FieldType.int) [(0, 10, 13, 13)]) ∈ lw_tbl := x_tin (i := 450) (by decide +kernel)
theorem t_451 : (Cond.methodLink "SnapshotTrieLaw" 50 ({ cls := "SnapshotTrie", name := "common", desc := "(II)I" } : MethodName)) ∈ lw_tbl := x_tin (i := 451) (by decide +kernel)
theorem t_452 : (Cond.instanceMethod ({ cls := "SnapshotTrie", name := "common", desc := "(II)I" } : MethodName)) ∈ lw_tbl := x_tin (i := 452) (by decide +kernel)
theorem t_453 : (Cond.selects "SnapshotTrie" ({ cls := "SnapshotTrie", name := "common", desc := "(II)I" } : MethodName) ({ cls := "SnapshotTrie", name := "common", desc := "(II)I" } : MethodName)) ∈ lw_tbl := x_tin (i := 453) (by decide +kernel)
theorem t_454 : (Cond.code ({ cls := "SnapshotTrie", name := "common", desc := "(II)I" } : MethodName) prog_1_method_13_code 3 (Option.some FieldType.int)) ∈ lw_tbl := x_tin (i := 454) (by decide +kernel)
theorem t_455 : (Cond.methodLink "SnapshotTrie" 147 ({ cls := "SnapshotTrie", name := "countShared", desc := "(LSnapshotTrie$Node;LSnapshotTrie$Node;I)I" } : MethodName)) ∈ lw_tbl := x_tin (i := 455) (by decide +kernel)
theorem t_456 : (Cond.static ({ cls := "SnapshotTrie", name := "countShared", desc := "(LSnapshotTrie$Node;LSnapshotTrie$Node;I)I" } : MethodName)) ∈ lw_tbl := x_tin (i := 456) (by decide +kernel)
theorem t_457 : (Cond.code ({ cls := "SnapshotTrie", name := "countShared", desc := "(LSnapshotTrie$Node;LSnapshotTrie$Node;I)I" } : MethodName) prog_1_method_34_code 5 (Option.some FieldType.int)) ∈ lw_tbl := x_tin (i := 457) (by decide +kernel)
theorem t_458 : (Cond.methodLink "SnapshotTrieLaw" 112 ({ cls := "SnapshotTrieLaw", name := "generation", desc := "(LSnapshotTrie;I[J)I" } : MethodName)) ∈ lw_tbl := x_tin (i := 458) (by decide +kernel)
theorem t_459 : (Cond.static ({ cls := "SnapshotTrieLaw", name := "generation", desc := "(LSnapshotTrie;I[J)I" } : MethodName)) ∈ lw_tbl := x_tin (i := 459) (by decide +kernel)
theorem t_460 : (Cond.codeWith ({ cls := "SnapshotTrieLaw", name := "generation", desc := "(LSnapshotTrie;I[J)I" } : MethodName) method_13_code 4 (Option.some FieldType.int) [(0, 9, 12, 13)]) ∈ lw_tbl := x_tin (i := 460) (by decide +kernel)
theorem t_461 : (Cond.methodLink "SnapshotTrieLaw" 53 ({ cls := "SnapshotTrie", name := "generation", desc := "(I)I" } : MethodName)) ∈ lw_tbl := x_tin (i := 461) (by decide +kernel)
theorem t_462 : (Cond.instanceMethod ({ cls := "SnapshotTrie", name := "generation", desc := "(I)I" } : MethodName)) ∈ lw_tbl := x_tin (i := 462) (by decide +kernel)
theorem t_463 : (Cond.selects "SnapshotTrie" ({ cls := "SnapshotTrie", name := "generation", desc := "(I)I" } : MethodName) ({ cls := "SnapshotTrie", name := "generation", desc := "(I)I" } : MethodName)) ∈ lw_tbl := x_tin (i := 463) (by decide +kernel)
theorem t_464 : (Cond.code ({ cls := "SnapshotTrie", name := "generation", desc := "(I)I" } : MethodName) prog_1_method_14_code 2 (Option.some FieldType.int)) ∈ lw_tbl := x_tin (i := 464) (by decide +kernel)
theorem t_465 : (Cond.classLink "SnapshotTrieLaw" 57 "SnapshotTrieModel") ∈ lw_tbl := x_tin (i := 465) (by decide +kernel)
theorem t_466 : (Cond.instantiable "SnapshotTrieModel" 16) ∈ lw_tbl := x_tin (i := 466) (by decide +kernel)
theorem t_467 : (Cond.methodLink "SnapshotTrieLaw" 59 ({ cls := "SnapshotTrieModel", name := "<init>", desc := "()V" } : MethodName)) ∈ lw_tbl := x_tin (i := 467) (by decide +kernel)
theorem t_468 : (Cond.instanceMethod ({ cls := "SnapshotTrieModel", name := "<init>", desc := "()V" } : MethodName)) ∈ lw_tbl := x_tin (i := 468) (by decide +kernel)
theorem t_469 : (Cond.code ({ cls := "SnapshotTrieModel", name := "<init>", desc := "()V" } : MethodName) prog_8_method_1_code 1 none) ∈ lw_tbl := x_tin (i := 469) (by decide +kernel)
theorem t_470 : (Cond.methodLink "SnapshotTrieModel" 1 ({ cls := "java/lang/Object", name := "<init>", desc := "()V" } : MethodName)) ∈ lw_tbl := x_tin (i := 470) (by decide +kernel)
theorem t_471 : (Cond.fieldLink "SnapshotTrieModel" 52 "SnapshotTrieModel" "thrown" "I") ∈ lw_tbl := x_tin (i := 471) (by decide +kernel)
theorem t_472 : (Cond.fieldLink "SnapshotTrieModel" 7 "SnapshotTrieModel" "generations" "I") ∈ lw_tbl := x_tin (i := 472) (by decide +kernel)
theorem t_473 : (Cond.fieldLink "SnapshotTrieModel" 13 "SnapshotTrieModel" "there" "[Z") ∈ lw_tbl := x_tin (i := 473) (by decide +kernel)
theorem t_474 : (Cond.fieldLink "SnapshotTrieModel" 17 "SnapshotTrieModel" "readOnly" "[Z") ∈ lw_tbl := x_tin (i := 474) (by decide +kernel)
theorem t_475 : (Cond.fieldLink "SnapshotTrieModel" 20 "SnapshotTrieModel" "generation" "[I") ∈ lw_tbl := x_tin (i := 475) (by decide +kernel)
theorem t_476 : (Cond.fieldLink "SnapshotTrieModel" 24 "SnapshotTrieModel" "sizes" "[I") ∈ lw_tbl := x_tin (i := 476) (by decide +kernel)
theorem t_477 : (Cond.fieldLink "SnapshotTrieModel" 27 "SnapshotTrieModel" "keys" "[I") ∈ lw_tbl := x_tin (i := 477) (by decide +kernel)
theorem t_478 : (Cond.fieldLink "SnapshotTrieModel" 30 "SnapshotTrieModel" "values" "[J") ∈ lw_tbl := x_tin (i := 478) (by decide +kernel)
theorem t_479 : (Cond.fieldLink "SnapshotTrieModel" 34 "SnapshotTrieModel" "belongs" "[I") ∈ lw_tbl := x_tin (i := 479) (by decide +kernel)
theorem t_480 : (Cond.fieldLink "SnapshotTrieModel" 72 "SnapshotTrieModel" "copied" "I") ∈ lw_tbl := x_tin (i := 480) (by decide +kernel)
theorem t_481 : (Cond.fieldLink "SnapshotTrieModel" 37 "SnapshotTrieModel" "used" "[Z") ∈ lw_tbl := x_tin (i := 481) (by decide +kernel)
theorem t_482 : (Cond.fieldLink "SnapshotTrieModel" 40 "SnapshotTrieModel" "left" "[I") ∈ lw_tbl := x_tin (i := 482) (by decide +kernel)
theorem t_483 : (Cond.fieldLink "SnapshotTrieModel" 43 "SnapshotTrieModel" "far" "[I") ∈ lw_tbl := x_tin (i := 483) (by decide +kernel)
theorem t_484 : (Cond.fieldLink "SnapshotTrieModel" 46 "SnapshotTrieModel" "seen" "[I") ∈ lw_tbl := x_tin (i := 484) (by decide +kernel)
theorem t_485 : (Cond.fieldLink "SnapshotTrieModel" 49 "SnapshotTrieModel" "seenValues" "[J") ∈ lw_tbl := x_tin (i := 485) (by decide +kernel)
theorem t_486 : (Cond.fieldLink "SnapshotTrieModel" 97 "SnapshotTrieModel" "value" "J") ∈ lw_tbl := x_tin (i := 486) (by decide +kernel)
theorem t_520 : (Cond.arrayClass FieldType.boolean) ∈ lw_tbl := x_tin (i := 520) (by decide +kernel)
theorem t_521 : (Cond.arrayClass FieldType.long) ∈ lw_tbl := x_tin (i := 521) (by decide +kernel)
theorem t_522 : (Cond.methodLink "SnapshotTrieLaw" 68 ({ cls := "SnapshotTrieModel", name := "thrown", desc := "()I" } : MethodName)) ∈ lw_tbl := x_tin (i := 522) (by decide +kernel)
theorem t_523 : (Cond.instanceMethod ({ cls := "SnapshotTrieModel", name := "thrown", desc := "()I" } : MethodName)) ∈ lw_tbl := x_tin (i := 523) (by decide +kernel)
theorem t_524 : (Cond.selects "SnapshotTrieModel" ({ cls := "SnapshotTrieModel", name := "thrown", desc := "()I" } : MethodName) ({ cls := "SnapshotTrieModel", name := "thrown", desc := "()I" } : MethodName)) ∈ lw_tbl := x_tin (i := 524) (by decide +kernel)
theorem t_525 : (Cond.code ({ cls := "SnapshotTrieModel", name := "thrown", desc := "()I" } : MethodName) prog_8_method_2_code 1 (Option.some FieldType.int)) ∈ lw_tbl := x_tin (i := 525) (by decide +kernel)
theorem t_526 : (Cond.methodLink "SnapshotTrieLaw" 67 ({ cls := "SnapshotTrieModel", name := "put", desc := "(IIJ)Z" } : MethodName)) ∈ lw_tbl := x_tin (i := 526) (by decide +kernel)
theorem t_527 : (Cond.instanceMethod ({ cls := "SnapshotTrieModel", name := "put", desc := "(IIJ)Z" } : MethodName)) ∈ lw_tbl := x_tin (i := 527) (by decide +kernel)
theorem t_528 : (Cond.selects "SnapshotTrieModel" ({ cls := "SnapshotTrieModel", name := "put", desc := "(IIJ)Z" } : MethodName) ({ cls := "SnapshotTrieModel", name := "put", desc := "(IIJ)Z" } : MethodName)) ∈ lw_tbl := x_tin (i := 528) (by decide +kernel)
theorem t_529 : (Cond.code ({ cls := "SnapshotTrieModel", name := "put", desc := "(IIJ)Z" } : MethodName) prog_8_method_12_code 6 (Option.some FieldType.boolean)) ∈ lw_tbl := x_tin (i := 529) (by decide +kernel)
theorem t_530 : (Cond.methodLink "SnapshotTrieModel" 79 ({ cls := "SnapshotTrieModel", name := "none", desc := "(I)Z" } : MethodName)) ∈ lw_tbl := x_tin (i := 530) (by decide +kernel)
theorem t_532 : (Cond.instanceMethod ({ cls := "SnapshotTrieModel", name := "none", desc := "(I)Z" } : MethodName)) ∈ lw_tbl := x_tin (i := 532) (by decide +kernel)
theorem t_533 : (Cond.code ({ cls := "SnapshotTrieModel", name := "none", desc := "(I)Z" } : MethodName) prog_8_method_4_code 2 (Option.some FieldType.boolean)) ∈ lw_tbl := x_tin (i := 533) (by decide +kernel)
theorem t_534 : (Cond.methodLink "SnapshotTrieModel" 83 ({ cls := "SnapshotTrieModel", name := "fail", desc := "(I)I" } : MethodName)) ∈ lw_tbl := x_tin (i := 534) (by decide +kernel)
theorem t_536 : (Cond.instanceMethod ({ cls := "SnapshotTrieModel", name := "fail", desc := "(I)I" } : MethodName)) ∈ lw_tbl := x_tin (i := 536) (by decide +kernel)
theorem t_537 : (Cond.code ({ cls := "SnapshotTrieModel", name := "fail", desc := "(I)I" } : MethodName) prog_8_method_3_code 2 (Option.some FieldType.int)) ∈ lw_tbl := x_tin (i := 537) (by decide +kernel)
theorem t_538 : (Cond.methodLink "SnapshotTrieModel" 86 ({ cls := "SnapshotTrieModel", name := "find", desc := "(II)I" } : MethodName)) ∈ lw_tbl := x_tin (i := 538) (by decide +kernel)
theorem t_540 : (Cond.instanceMethod ({ cls := "SnapshotTrieModel", name := "find", desc := "(II)I" } : MethodName)) ∈ lw_tbl := x_tin (i := 540) (by decide +kernel)
theorem t_541 : (Cond.code ({ cls := "SnapshotTrieModel", name := "find", desc := "(II)I" } : MethodName) prog_8_method_10_code 5 (Option.some FieldType.int)) ∈ lw_tbl := x_tin (i := 541) (by decide +kernel)
theorem t_542 : (Cond.methodLink "SnapshotTrieModel" 56 ({ cls := "SnapshotTrieModel", name := "hash", desc := "(I)I" } : MethodName)) ∈ lw_tbl := x_tin (i := 542) (by decide +kernel)
theorem t_543 : (Cond.static ({ cls := "SnapshotTrieModel", name := "hash", desc := "(I)I" } : MethodName)) ∈ lw_tbl := x_tin (i := 543) (by decide +kernel)
theorem t_544 : (Cond.code ({ cls := "SnapshotTrieModel", name := "hash", desc := "(I)I" } : MethodName) prog_8_method_5_code 1 (Option.some FieldType.int)) ∈ lw_tbl := x_tin (i := 544) (by decide +kernel)
theorem t_545 : (Cond.constant "SnapshotTrieModel" 55 (-1640531535 : Int32)) ∈ lw_tbl := x_tin (i := 545) (by decide +kernel)
theorem t_546 : (Cond.methodLink "SnapshotTrieModel" 60 ({ cls := "SnapshotTrieModel", name := "sharing", desc := "(III)I" } : MethodName)) ∈ lw_tbl := x_tin (i := 546) (by decide +kernel)
theorem t_548 : (Cond.instanceMethod ({ cls := "SnapshotTrieModel", name := "sharing", desc := "(III)I" } : MethodName)) ∈ lw_tbl := x_tin (i := 548) (by decide +kernel)
theorem t_549 : (Cond.code ({ cls := "SnapshotTrieModel", name := "sharing", desc := "(III)I" } : MethodName) prog_8_method_7_code 6 (Option.some FieldType.int)) ∈ lw_tbl := x_tin (i := 549) (by decide +kernel)
theorem t_550 : (Cond.methodLink "SnapshotTrieModel" 89 ({ cls := "SnapshotTrieModel", name := "add", desc := "(IIJ)V" } : MethodName)) ∈ lw_tbl := x_tin (i := 550) (by decide +kernel)
theorem t_552 : (Cond.instanceMethod ({ cls := "SnapshotTrieModel", name := "add", desc := "(IIJ)V" } : MethodName)) ∈ lw_tbl := x_tin (i := 552) (by decide +kernel)
theorem t_553 : (Cond.code ({ cls := "SnapshotTrieModel", name := "add", desc := "(IIJ)V" } : MethodName) prog_8_method_11_code 8 none) ∈ lw_tbl := x_tin (i := 553) (by decide +kernel)
theorem t_554 : (Cond.methodLink "SnapshotTrieModel" 75 ({ cls := "SnapshotTrieModel", name := "write", desc := "(II)V" } : MethodName)) ∈ lw_tbl := x_tin (i := 554) (by decide +kernel)
theorem t_556 : (Cond.instanceMethod ({ cls := "SnapshotTrieModel", name := "write", desc := "(II)V" } : MethodName)) ∈ lw_tbl := x_tin (i := 556) (by decide +kernel)
theorem t_557 : (Cond.code ({ cls := "SnapshotTrieModel", name := "write", desc := "(II)V" } : MethodName) prog_8_method_9_code 5 none) ∈ lw_tbl := x_tin (i := 557) (by decide +kernel)
theorem t_558 : (Cond.methodLink "SnapshotTrieModel" 64 ({ cls := "SnapshotTrieModel", name := "node", desc := "(II)I" } : MethodName)) ∈ lw_tbl := x_tin (i := 558) (by decide +kernel)
theorem t_559 : (Cond.static ({ cls := "SnapshotTrieModel", name := "node", desc := "(II)I" } : MethodName)) ∈ lw_tbl := x_tin (i := 559) (by decide +kernel)
theorem t_560 : (Cond.code ({ cls := "SnapshotTrieModel", name := "node", desc := "(II)I" } : MethodName) prog_8_method_6_code 3 (Option.some FieldType.int)) ∈ lw_tbl := x_tin (i := 560) (by decide +kernel)
theorem t_561 : (Cond.methodLink "SnapshotTrieModel" 68 ({ cls := "SnapshotTrieModel", name := "exists", desc := "(III)Z" } : MethodName)) ∈ lw_tbl := x_tin (i := 561) (by decide +kernel)
theorem t_563 : (Cond.instanceMethod ({ cls := "SnapshotTrieModel", name := "exists", desc := "(III)Z" } : MethodName)) ∈ lw_tbl := x_tin (i := 563) (by decide +kernel)
theorem t_564 : (Cond.code ({ cls := "SnapshotTrieModel", name := "exists", desc := "(III)Z" } : MethodName) prog_8_method_8_code 4 (Option.some FieldType.boolean)) ∈ lw_tbl := x_tin (i := 564) (by decide +kernel)
theorem t_565 : (Cond.methodLink "SnapshotTrieLaw" 75 ({ cls := "SnapshotTrieModel", name := "get", desc := "(II)J" } : MethodName)) ∈ lw_tbl := x_tin (i := 565) (by decide +kernel)
theorem t_566 : (Cond.instanceMethod ({ cls := "SnapshotTrieModel", name := "get", desc := "(II)J" } : MethodName)) ∈ lw_tbl := x_tin (i := 566) (by decide +kernel)
theorem t_567 : (Cond.selects "SnapshotTrieModel" ({ cls := "SnapshotTrieModel", name := "get", desc := "(II)J" } : MethodName) ({ cls := "SnapshotTrieModel", name := "get", desc := "(II)J" } : MethodName)) ∈ lw_tbl := x_tin (i := 567) (by decide +kernel)
theorem t_568 : (Cond.code ({ cls := "SnapshotTrieModel", name := "get", desc := "(II)J" } : MethodName) prog_8_method_13_code 4 (Option.some FieldType.long)) ∈ lw_tbl := x_tin (i := 568) (by decide +kernel)
theorem t_569 : (Cond.methodLink "SnapshotTrieLaw" 78 ({ cls := "SnapshotTrieModel", name := "remove", desc := "(II)J" } : MethodName)) ∈ lw_tbl := x_tin (i := 569) (by decide +kernel)
theorem t_570 : (Cond.instanceMethod ({ cls := "SnapshotTrieModel", name := "remove", desc := "(II)J" } : MethodName)) ∈ lw_tbl := x_tin (i := 570) (by decide +kernel)
theorem t_571 : (Cond.selects "SnapshotTrieModel" ({ cls := "SnapshotTrieModel", name := "remove", desc := "(II)J" } : MethodName) ({ cls := "SnapshotTrieModel", name := "remove", desc := "(II)J" } : MethodName)) ∈ lw_tbl := x_tin (i := 571) (by decide +kernel)
theorem t_572 : (Cond.code ({ cls := "SnapshotTrieModel", name := "remove", desc := "(II)J" } : MethodName) prog_8_method_14_code 7 (Option.some FieldType.long)) ∈ lw_tbl := x_tin (i := 572) (by decide +kernel)
theorem t_573 : (Cond.methodLink "SnapshotTrieLaw" 82 ({ cls := "SnapshotTrieModel", name := "replace", desc := "(IIJJ)Z" } : MethodName)) ∈ lw_tbl := x_tin (i := 573) (by decide +kernel)
theorem t_574 : (Cond.instanceMethod ({ cls := "SnapshotTrieModel", name := "replace", desc := "(IIJJ)Z" } : MethodName)) ∈ lw_tbl := x_tin (i := 574) (by decide +kernel)
theorem t_575 : (Cond.selects "SnapshotTrieModel" ({ cls := "SnapshotTrieModel", name := "replace", desc := "(IIJJ)Z" } : MethodName) ({ cls := "SnapshotTrieModel", name := "replace", desc := "(IIJJ)Z" } : MethodName)) ∈ lw_tbl := x_tin (i := 575) (by decide +kernel)
theorem t_576 : (Cond.code ({ cls := "SnapshotTrieModel", name := "replace", desc := "(IIJJ)Z" } : MethodName) prog_8_method_15_code 8 (Option.some FieldType.boolean)) ∈ lw_tbl := x_tin (i := 576) (by decide +kernel)
theorem t_577 : (Cond.methodLink "SnapshotTrieLaw" 86 ({ cls := "SnapshotTrieModel", name := "snapshot", desc := "(IZ)I" } : MethodName)) ∈ lw_tbl := x_tin (i := 577) (by decide +kernel)
theorem t_578 : (Cond.instanceMethod ({ cls := "SnapshotTrieModel", name := "snapshot", desc := "(IZ)I" } : MethodName)) ∈ lw_tbl := x_tin (i := 578) (by decide +kernel)
theorem t_579 : (Cond.selects "SnapshotTrieModel" ({ cls := "SnapshotTrieModel", name := "snapshot", desc := "(IZ)I" } : MethodName) ({ cls := "SnapshotTrieModel", name := "snapshot", desc := "(IZ)I" } : MethodName)) ∈ lw_tbl := x_tin (i := 579) (by decide +kernel)
theorem t_580 : (Cond.code ({ cls := "SnapshotTrieModel", name := "snapshot", desc := "(IZ)I" } : MethodName) prog_8_method_17_code 5 (Option.some FieldType.int)) ∈ lw_tbl := x_tin (i := 580) (by decide +kernel)
theorem t_581 : (Cond.methodLink "SnapshotTrieModel" 93 ({ cls := "SnapshotTrieModel", name := "fresh", desc := "()I" } : MethodName)) ∈ lw_tbl := x_tin (i := 581) (by decide +kernel)
theorem t_583 : (Cond.instanceMethod ({ cls := "SnapshotTrieModel", name := "fresh", desc := "()I" } : MethodName)) ∈ lw_tbl := x_tin (i := 583) (by decide +kernel)
theorem t_584 : (Cond.code ({ cls := "SnapshotTrieModel", name := "fresh", desc := "()I" } : MethodName) prog_8_method_16_code 1 (Option.some FieldType.int)) ∈ lw_tbl := x_tin (i := 584) (by decide +kernel)
theorem t_585 : (Cond.methodLink "SnapshotTrieLaw" 90 ({ cls := "SnapshotTrieModel", name := "drop", desc := "(I)I" } : MethodName)) ∈ lw_tbl := x_tin (i := 585) (by decide +kernel)
theorem t_586 : (Cond.instanceMethod ({ cls := "SnapshotTrieModel", name := "drop", desc := "(I)I" } : MethodName)) ∈ lw_tbl := x_tin (i := 586) (by decide +kernel)
theorem t_587 : (Cond.selects "SnapshotTrieModel" ({ cls := "SnapshotTrieModel", name := "drop", desc := "(I)I" } : MethodName) ({ cls := "SnapshotTrieModel", name := "drop", desc := "(I)I" } : MethodName)) ∈ lw_tbl := x_tin (i := 587) (by decide +kernel)
theorem t_588 : (Cond.code ({ cls := "SnapshotTrieModel", name := "drop", desc := "(I)I" } : MethodName) prog_8_method_18_code 2 (Option.some FieldType.int)) ∈ lw_tbl := x_tin (i := 588) (by decide +kernel)
theorem t_589 : (Cond.methodLink "SnapshotTrieLaw" 93 ({ cls := "SnapshotTrieModel", name := "iterate", desc := "(I)I" } : MethodName)) ∈ lw_tbl := x_tin (i := 589) (by decide +kernel)
theorem t_590 : (Cond.instanceMethod ({ cls := "SnapshotTrieModel", name := "iterate", desc := "(I)I" } : MethodName)) ∈ lw_tbl := x_tin (i := 590) (by decide +kernel)
theorem t_591 : (Cond.selects "SnapshotTrieModel" ({ cls := "SnapshotTrieModel", name := "iterate", desc := "(I)I" } : MethodName) ({ cls := "SnapshotTrieModel", name := "iterate", desc := "(I)I" } : MethodName)) ∈ lw_tbl := x_tin (i := 591) (by decide +kernel)
theorem t_592 : (Cond.code ({ cls := "SnapshotTrieModel", name := "iterate", desc := "(I)I" } : MethodName) prog_8_method_19_code 5 (Option.some FieldType.int)) ∈ lw_tbl := x_tin (i := 592) (by decide +kernel)
theorem t_593 : (Cond.methodLink "SnapshotTrieLaw" 96 ({ cls := "SnapshotTrieModel", name := "next", desc := "(I)I" } : MethodName)) ∈ lw_tbl := x_tin (i := 593) (by decide +kernel)
theorem t_594 : (Cond.instanceMethod ({ cls := "SnapshotTrieModel", name := "next", desc := "(I)I" } : MethodName)) ∈ lw_tbl := x_tin (i := 594) (by decide +kernel)
theorem t_595 : (Cond.selects "SnapshotTrieModel" ({ cls := "SnapshotTrieModel", name := "next", desc := "(I)I" } : MethodName) ({ cls := "SnapshotTrieModel", name := "next", desc := "(I)I" } : MethodName)) ∈ lw_tbl := x_tin (i := 595) (by decide +kernel)
theorem t_596 : (Cond.code ({ cls := "SnapshotTrieModel", name := "next", desc := "(I)I" } : MethodName) prog_8_method_20_code 2 (Option.some FieldType.int)) ∈ lw_tbl := x_tin (i := 596) (by decide +kernel)
theorem t_597 : (Cond.methodLink "SnapshotTrieLaw" 101 ({ cls := "SnapshotTrieModel", name := "value", desc := "()J" } : MethodName)) ∈ lw_tbl := x_tin (i := 597) (by decide +kernel)
theorem t_598 : (Cond.instanceMethod ({ cls := "SnapshotTrieModel", name := "value", desc := "()J" } : MethodName)) ∈ lw_tbl := x_tin (i := 598) (by decide +kernel)
theorem t_599 : (Cond.selects "SnapshotTrieModel" ({ cls := "SnapshotTrieModel", name := "value", desc := "()J" } : MethodName) ({ cls := "SnapshotTrieModel", name := "value", desc := "()J" } : MethodName)) ∈ lw_tbl := x_tin (i := 599) (by decide +kernel)
theorem t_600 : (Cond.code ({ cls := "SnapshotTrieModel", name := "value", desc := "()J" } : MethodName) prog_8_method_21_code 1 (Option.some FieldType.long)) ∈ lw_tbl := x_tin (i := 600) (by decide +kernel)
theorem t_601 : (Cond.methodLink "SnapshotTrieLaw" 105 ({ cls := "SnapshotTrieModel", name := "copied", desc := "()I" } : MethodName)) ∈ lw_tbl := x_tin (i := 601) (by decide +kernel)
theorem t_602 : (Cond.instanceMethod ({ cls := "SnapshotTrieModel", name := "copied", desc := "()I" } : MethodName)) ∈ lw_tbl := x_tin (i := 602) (by decide +kernel)
theorem t_603 : (Cond.selects "SnapshotTrieModel" ({ cls := "SnapshotTrieModel", name := "copied", desc := "()I" } : MethodName) ({ cls := "SnapshotTrieModel", name := "copied", desc := "()I" } : MethodName)) ∈ lw_tbl := x_tin (i := 603) (by decide +kernel)
theorem t_604 : (Cond.code ({ cls := "SnapshotTrieModel", name := "copied", desc := "()I" } : MethodName) prog_8_method_22_code 1 (Option.some FieldType.int)) ∈ lw_tbl := x_tin (i := 604) (by decide +kernel)
theorem t_605 : (Cond.methodLink "SnapshotTrieLaw" 108 ({ cls := "SnapshotTrieModel", name := "measure", desc := "(II)I" } : MethodName)) ∈ lw_tbl := x_tin (i := 605) (by decide +kernel)
theorem t_606 : (Cond.instanceMethod ({ cls := "SnapshotTrieModel", name := "measure", desc := "(II)I" } : MethodName)) ∈ lw_tbl := x_tin (i := 606) (by decide +kernel)
theorem t_607 : (Cond.selects "SnapshotTrieModel" ({ cls := "SnapshotTrieModel", name := "measure", desc := "(II)I" } : MethodName) ({ cls := "SnapshotTrieModel", name := "measure", desc := "(II)I" } : MethodName)) ∈ lw_tbl := x_tin (i := 607) (by decide +kernel)
theorem t_608 : (Cond.code ({ cls := "SnapshotTrieModel", name := "measure", desc := "(II)I" } : MethodName) prog_8_method_24_code 9 (Option.some FieldType.int)) ∈ lw_tbl := x_tin (i := 608) (by decide +kernel)
theorem t_609 : (Cond.methodLink "SnapshotTrieModel" 101 ({ cls := "SnapshotTrieModel", name := "has", desc := "(III)Z" } : MethodName)) ∈ lw_tbl := x_tin (i := 609) (by decide +kernel)
theorem t_611 : (Cond.instanceMethod ({ cls := "SnapshotTrieModel", name := "has", desc := "(III)Z" } : MethodName)) ∈ lw_tbl := x_tin (i := 611) (by decide +kernel)
theorem t_612 : (Cond.code ({ cls := "SnapshotTrieModel", name := "has", desc := "(III)Z" } : MethodName) prog_8_method_23_code 4 (Option.some FieldType.boolean)) ∈ lw_tbl := x_tin (i := 612) (by decide +kernel)
theorem t_613 : (Cond.methodLink "SnapshotTrieLaw" 111 ({ cls := "SnapshotTrieModel", name := "common", desc := "(II)I" } : MethodName)) ∈ lw_tbl := x_tin (i := 613) (by decide +kernel)
theorem t_614 : (Cond.instanceMethod ({ cls := "SnapshotTrieModel", name := "common", desc := "(II)I" } : MethodName)) ∈ lw_tbl := x_tin (i := 614) (by decide +kernel)
theorem t_615 : (Cond.selects "SnapshotTrieModel" ({ cls := "SnapshotTrieModel", name := "common", desc := "(II)I" } : MethodName) ({ cls := "SnapshotTrieModel", name := "common", desc := "(II)I" } : MethodName)) ∈ lw_tbl := x_tin (i := 615) (by decide +kernel)
theorem t_616 : (Cond.code ({ cls := "SnapshotTrieModel", name := "common", desc := "(II)I" } : MethodName) prog_8_method_25_code 7 (Option.some FieldType.int)) ∈ lw_tbl := x_tin (i := 616) (by decide +kernel)
theorem t_617 : (Cond.methodLink "SnapshotTrieLaw" 114 ({ cls := "SnapshotTrieModel", name := "generation", desc := "(I)I" } : MethodName)) ∈ lw_tbl := x_tin (i := 617) (by decide +kernel)
theorem t_618 : (Cond.instanceMethod ({ cls := "SnapshotTrieModel", name := "generation", desc := "(I)I" } : MethodName)) ∈ lw_tbl := x_tin (i := 618) (by decide +kernel)
theorem t_619 : (Cond.selects "SnapshotTrieModel" ({ cls := "SnapshotTrieModel", name := "generation", desc := "(I)I" } : MethodName) ({ cls := "SnapshotTrieModel", name := "generation", desc := "(I)I" } : MethodName)) ∈ lw_tbl := x_tin (i := 619) (by decide +kernel)
theorem t_620 : (Cond.code ({ cls := "SnapshotTrieModel", name := "generation", desc := "(I)I" } : MethodName) prog_8_method_26_code 2 (Option.some FieldType.int)) ∈ lw_tbl := x_tin (i := 620) (by decide +kernel)
theorem t_621 : (Cond.constantLong "SnapshotTrieLaw" 60 (4294967295 : Int64)) ∈ lw_tbl := x_tin (i := 621) (by decide +kernel)
theorem sp_Tri_writableMap : Cond.selects "SnapshotTrie" ⟨"SnapshotTrie", "writableMap", "(I)LSnapshotTrie$TrieMap;"⟩ ⟨"SnapshotTrie", "writableMap", "(I)LSnapshotTrie$TrieMap;"⟩ ∈ lw_tbl := x_pin (y := ⟨"SnapshotTrie", "writableMap", "(I)LSnapshotTrie$TrieMap;"⟩) (i := 0) (n := 5) (by decide +kernel)
theorem sp_Tri_existingMap : Cond.selects "SnapshotTrie" ⟨"SnapshotTrie", "existingMap", "(I)LSnapshotTrie$TrieMap;"⟩ ⟨"SnapshotTrie", "existingMap", "(I)LSnapshotTrie$TrieMap;"⟩ ∈ lw_tbl := x_pin (y := ⟨"SnapshotTrie", "existingMap", "(I)LSnapshotTrie$TrieMap;"⟩) (i := 1) (n := 5) (by decide +kernel)
theorem sp_Tri_write : Cond.selects "SnapshotTrie" ⟨"SnapshotTrie", "write", "(LSnapshotTrie$TrieMap;LSnapshotTrie$Entry;)V"⟩ ⟨"SnapshotTrie", "write", "(LSnapshotTrie$TrieMap;LSnapshotTrie$Entry;)V"⟩ ∈ lw_tbl := x_pin (y := ⟨"SnapshotTrie", "write", "(LSnapshotTrie$TrieMap;LSnapshotTrie$Entry;)V"⟩) (i := 3) (n := 5) (by decide +kernel)
theorem sp_Tri_leastMissingMap : Cond.selects "SnapshotTrie" ⟨"SnapshotTrie", "leastMissingMap", "()I"⟩ ⟨"SnapshotTrie", "leastMissingMap", "()I"⟩ ∈ lw_tbl := x_pin (y := ⟨"SnapshotTrie", "leastMissingMap", "()I"⟩) (i := 4) (n := 5) (by decide +kernel)
theorem sp_Tri_newGeneration : Cond.selects "SnapshotTrie" ⟨"SnapshotTrie", "newGeneration", "()I"⟩ ⟨"SnapshotTrie", "newGeneration", "()I"⟩ ∈ lw_tbl := x_pin (y := ⟨"SnapshotTrie", "newGeneration", "()I"⟩) (i := 5) (n := 5) (by decide +kernel)
theorem sp_Tri_leastFreeCursor : Cond.selects "SnapshotTrie" ⟨"SnapshotTrie", "leastFreeCursor", "()I"⟩ ⟨"SnapshotTrie", "leastFreeCursor", "()I"⟩ ∈ lw_tbl := x_pin (y := ⟨"SnapshotTrie", "leastFreeCursor", "()I"⟩) (i := 6) (n := 5) (by decide +kernel)
theorem sp_Tri_existingCursor : Cond.selects "SnapshotTrie" ⟨"SnapshotTrie", "existingCursor", "(I)LSnapshotTrie$Cursor;"⟩ ⟨"SnapshotTrie", "existingCursor", "(I)LSnapshotTrie$Cursor;"⟩ ∈ lw_tbl := x_pin (y := ⟨"SnapshotTrie", "existingCursor", "(I)LSnapshotTrie$Cursor;"⟩) (i := 7) (n := 5) (by decide +kernel)
theorem sp_Cur_goInto : Cond.selects "SnapshotTrie$Cursor" ⟨"SnapshotTrie$Cursor", "goInto", "(LSnapshotTrie$Node;)V"⟩ ⟨"SnapshotTrie$Cursor", "goInto", "(LSnapshotTrie$Node;)V"⟩ ∈ lw_tbl := x_pin (y := ⟨"SnapshotTrie$Cursor", "goInto", "(LSnapshotTrie$Node;)V"⟩) (i := 8) (n := 3) (by decide +kernel)
theorem sp_Mod_none : Cond.selects "SnapshotTrieModel" ⟨"SnapshotTrieModel", "none", "(I)Z"⟩ ⟨"SnapshotTrieModel", "none", "(I)Z"⟩ ∈ lw_tbl := x_pin (y := ⟨"SnapshotTrieModel", "none", "(I)Z"⟩) (i := 9) (n := 16) (by decide +kernel)
theorem sp_Mod_fail : Cond.selects "SnapshotTrieModel" ⟨"SnapshotTrieModel", "fail", "(I)I"⟩ ⟨"SnapshotTrieModel", "fail", "(I)I"⟩ ∈ lw_tbl := x_pin (y := ⟨"SnapshotTrieModel", "fail", "(I)I"⟩) (i := 10) (n := 16) (by decide +kernel)
theorem sp_Mod_find : Cond.selects "SnapshotTrieModel" ⟨"SnapshotTrieModel", "find", "(II)I"⟩ ⟨"SnapshotTrieModel", "find", "(II)I"⟩ ∈ lw_tbl := x_pin (y := ⟨"SnapshotTrieModel", "find", "(II)I"⟩) (i := 11) (n := 16) (by decide +kernel)
theorem sp_Mod_sharing : Cond.selects "SnapshotTrieModel" ⟨"SnapshotTrieModel", "sharing", "(III)I"⟩ ⟨"SnapshotTrieModel", "sharing", "(III)I"⟩ ∈ lw_tbl := x_pin (y := ⟨"SnapshotTrieModel", "sharing", "(III)I"⟩) (i := 12) (n := 16) (by decide +kernel)
theorem sp_Mod_add : Cond.selects "SnapshotTrieModel" ⟨"SnapshotTrieModel", "add", "(IIJ)V"⟩ ⟨"SnapshotTrieModel", "add", "(IIJ)V"⟩ ∈ lw_tbl := x_pin (y := ⟨"SnapshotTrieModel", "add", "(IIJ)V"⟩) (i := 13) (n := 16) (by decide +kernel)
theorem sp_Mod_write : Cond.selects "SnapshotTrieModel" ⟨"SnapshotTrieModel", "write", "(II)V"⟩ ⟨"SnapshotTrieModel", "write", "(II)V"⟩ ∈ lw_tbl := x_pin (y := ⟨"SnapshotTrieModel", "write", "(II)V"⟩) (i := 14) (n := 16) (by decide +kernel)
theorem sp_Mod_exists : Cond.selects "SnapshotTrieModel" ⟨"SnapshotTrieModel", "exists", "(III)Z"⟩ ⟨"SnapshotTrieModel", "exists", "(III)Z"⟩ ∈ lw_tbl := x_pin (y := ⟨"SnapshotTrieModel", "exists", "(III)Z"⟩) (i := 15) (n := 16) (by decide +kernel)
theorem sp_Mod_fresh : Cond.selects "SnapshotTrieModel" ⟨"SnapshotTrieModel", "fresh", "()I"⟩ ⟨"SnapshotTrieModel", "fresh", "()I"⟩ ∈ lw_tbl := x_pin (y := ⟨"SnapshotTrieModel", "fresh", "()I"⟩) (i := 16) (n := 16) (by decide +kernel)
theorem sp_Mod_has : Cond.selects "SnapshotTrieModel" ⟨"SnapshotTrieModel", "has", "(III)Z"⟩ ⟨"SnapshotTrieModel", "has", "(III)Z"⟩ ∈ lw_tbl := x_pin (y := ⟨"SnapshotTrieModel", "has", "(III)Z"⟩) (i := 17) (n := 16) (by decide +kernel)
theorem c_Cur : x_cl 0 n_Cur T_Cur 3 ty_Cur := ⟨rfl, by decide +kernel, by decide +kernel, by decide +kernel⟩
theorem c_Ent : x_cl 1 n_Ent T_Ent 2 ty_Ent := ⟨rfl, by decide +kernel, by decide +kernel, by decide +kernel⟩
theorem c_Nod : x_cl 2 n_Nod T_Nod 3 ty_Nod := ⟨rfl, by decide +kernel, by decide +kernel, by decide +kernel⟩
theorem c_Tal : x_cl 3 n_Tal T_Tal 6 ty_Tal := ⟨rfl, by decide +kernel, by decide +kernel, by decide +kernel⟩
theorem c_Map : x_cl 4 n_Map T_Map 3 ty_Map := ⟨rfl, by decide +kernel, by decide +kernel, by decide +kernel⟩
theorem c_Tri : x_cl 5 n_Tri T_Tri 5 ty_Tri := ⟨rfl, by decide +kernel, by decide +kernel, by decide +kernel⟩
theorem c_Mod : x_cl 6 n_Mod T_Mod 16 ty_Mod := ⟨rfl, by decide +kernel, by decide +kernel, by decide +kernel⟩
end
section
abbrev M_Tri_init : x_M := (⟨"SnapshotTrie", "<init>", "()V"⟩, prog_1_method_1_code, 1, none, [])
abbrev M_Tri_put : x_M := (⟨"SnapshotTrie", "put", "(IIJ)Z"⟩, prog_1_method_2_code, 7, (some FieldType.boolean), [])
abbrev M_Tri_get : x_M := (⟨"SnapshotTrie", "get", "(II)J"⟩, prog_1_method_3_code, 3, (some FieldType.long), [])
abbrev M_Tri_remove : x_M := (⟨"SnapshotTrie", "remove", "(II)J"⟩, prog_1_method_4_code, 5, (some FieldType.long), [])
abbrev M_Tri_replace : x_M := (⟨"SnapshotTrie", "replace", "(IIJJ)Z"⟩, prog_1_method_5_code, 9, (some FieldType.boolean), [])
abbrev M_Tri_snapshot : x_M := (⟨"SnapshotTrie", "snapshot", "(IZ)I"⟩, prog_1_method_6_code, 5, (some FieldType.int), [])
abbrev M_Tri_drop : x_M := (⟨"SnapshotTrie", "drop", "(I)I"⟩, prog_1_method_7_code, 3, (some FieldType.int), [])
abbrev M_Tri_iterate : x_M := (⟨"SnapshotTrie", "iterate", "(I)I"⟩, prog_1_method_8_code, 4, (some FieldType.int), [])
abbrev M_Tri_next : x_M := (⟨"SnapshotTrie", "next", "(I)I"⟩, prog_1_method_9_code, 3, (some FieldType.int), [])
abbrev M_Tri_value : x_M := (⟨"SnapshotTrie", "value", "()J"⟩, prog_1_method_10_code, 1, (some FieldType.long), [])
abbrev M_Tri_copied : x_M := (⟨"SnapshotTrie", "copied", "()I"⟩, prog_1_method_11_code, 1, (some FieldType.int), [])
abbrev M_Tri_measure : x_M := (⟨"SnapshotTrie", "measure", "(II)I"⟩, prog_1_method_12_code, 5, (some FieldType.int), [])
abbrev M_Tri_common : x_M := (⟨"SnapshotTrie", "common", "(II)I"⟩, prog_1_method_13_code, 3, (some FieldType.int), [])
abbrev M_Tri_generation : x_M := (⟨"SnapshotTrie", "generation", "(I)I"⟩, prog_1_method_14_code, 2, (some FieldType.int), [])
abbrev M_Tri_existingMap : x_M := (⟨"SnapshotTrie", "existingMap", "(I)LSnapshotTrie$TrieMap;"⟩, prog_1_method_15_code, 2, (some (FieldType.object "SnapshotTrie$TrieMap")), [])
abbrev M_Tri_writableMap : x_M := (⟨"SnapshotTrie", "writableMap", "(I)LSnapshotTrie$TrieMap;"⟩, prog_1_method_16_code, 3, (some (FieldType.object "SnapshotTrie$TrieMap")), [])
abbrev M_Tri_existingCursor : x_M := (⟨"SnapshotTrie", "existingCursor", "(I)LSnapshotTrie$Cursor;"⟩, prog_1_method_17_code, 2, (some (FieldType.object "SnapshotTrie$Cursor")), [])
abbrev M_Tri_leastMissingMap : x_M := (⟨"SnapshotTrie", "leastMissingMap", "()I"⟩, prog_1_method_18_code, 2, (some FieldType.int), [])
abbrev M_Tri_leastFreeCursor : x_M := (⟨"SnapshotTrie", "leastFreeCursor", "()I"⟩, prog_1_method_19_code, 2, (some FieldType.int), [])
abbrev M_Tri_newGeneration : x_M := (⟨"SnapshotTrie", "newGeneration", "()I"⟩, prog_1_method_20_code, 1, (some FieldType.int), [])
abbrev M_Tri_write : x_M := (⟨"SnapshotTrie", "write", "(LSnapshotTrie$TrieMap;LSnapshotTrie$Entry;)V"⟩, prog_1_method_21_code, 3, none, [])
abbrev M_Tri_digit : x_M := (⟨"SnapshotTrie", "digit", "(II)I"⟩, prog_1_method_22_code, 3, (some FieldType.int), [])
abbrev M_Tri_presentEntry : x_M := (⟨"SnapshotTrie", "presentEntry", "(LSnapshotTrie$TrieMap;I)LSnapshotTrie$Entry;"⟩, prog_1_method_23_code, 3, (some (FieldType.object "SnapshotTrie$Entry")), [])
abbrev M_Tri_find : x_M := (⟨"SnapshotTrie", "find", "(LSnapshotTrie$Node;I)LSnapshotTrie$Entry;"⟩, prog_1_method_24_code, 7, (some (FieldType.object "SnapshotTrie$Entry")), [])
abbrev M_Tri_hasRoomFor : x_M := (⟨"SnapshotTrie", "hasRoomFor", "(LSnapshotTrie$Node;I)Z"⟩, prog_1_method_25_code, 4, (some FieldType.boolean), [])
abbrev M_Tri_ownWay : x_M := (⟨"SnapshotTrie", "ownWay", "(LSnapshotTrie$TrieMap;I)I"⟩, prog_1_method_26_code, 7, (some FieldType.int), [])
abbrev M_Tri_copyOf : x_M := (⟨"SnapshotTrie", "copyOf", "(LSnapshotTrie$Node;II)LSnapshotTrie$Node;"⟩, prog_1_method_27_code, 5, (some (FieldType.object "SnapshotTrie$Node")), [])
abbrev M_Tri_putIn : x_M := (⟨"SnapshotTrie", "putIn", "(LSnapshotTrie$Node;LSnapshotTrie$Entry;I)V"⟩, prog_1_method_28_code, 7, none, [])
abbrev M_Tri_putAt : x_M := (⟨"SnapshotTrie", "putAt", "(LSnapshotTrie$Node;IILSnapshotTrie$Entry;I)V"⟩, prog_1_method_29_code, 6, none, [])
abbrev M_Tri_nodeOfTwo : x_M := (⟨"SnapshotTrie", "nodeOfTwo", "(LSnapshotTrie$Entry;LSnapshotTrie$Entry;II)LSnapshotTrie$Node;"⟩, prog_1_method_30_code, 7, (some (FieldType.object "SnapshotTrie$Node")), [])
abbrev M_Tri_takeOut : x_M := (⟨"SnapshotTrie", "takeOut", "(LSnapshotTrie$Node;II)V"⟩, prog_1_method_31_code, 6, none, [])
abbrev M_Tri_countKeys : x_M := (⟨"SnapshotTrie", "countKeys", "(LSnapshotTrie$Node;)I"⟩, prog_1_method_32_code, 2, (some FieldType.int), [])
abbrev M_Tri_addUp : x_M := (⟨"SnapshotTrie", "addUp", "(LSnapshotTrie$Node;ILSnapshotTrie$Tally;)V"⟩, prog_1_method_33_code, 4, none, [])
abbrev M_Tri_countShared : x_M := (⟨"SnapshotTrie", "countShared", "(LSnapshotTrie$Node;LSnapshotTrie$Node;I)I"⟩, prog_1_method_34_code, 5, (some FieldType.int), [])
abbrev M_Mod_init : x_M := (⟨"SnapshotTrieModel", "<init>", "()V"⟩, prog_8_method_1_code, 1, none, [])
abbrev M_Mod_thrown : x_M := (⟨"SnapshotTrieModel", "thrown", "()I"⟩, prog_8_method_2_code, 1, (some FieldType.int), [])
abbrev M_Mod_fail : x_M := (⟨"SnapshotTrieModel", "fail", "(I)I"⟩, prog_8_method_3_code, 2, (some FieldType.int), [])
abbrev M_Mod_none : x_M := (⟨"SnapshotTrieModel", "none", "(I)Z"⟩, prog_8_method_4_code, 2, (some FieldType.boolean), [])
abbrev M_Mod_hash : x_M := (⟨"SnapshotTrieModel", "hash", "(I)I"⟩, prog_8_method_5_code, 1, (some FieldType.int), [])
abbrev M_Mod_node : x_M := (⟨"SnapshotTrieModel", "node", "(II)I"⟩, prog_8_method_6_code, 3, (some FieldType.int), [])
abbrev M_Mod_sharing : x_M := (⟨"SnapshotTrieModel", "sharing", "(III)I"⟩, prog_8_method_7_code, 6, (some FieldType.int), [])
abbrev M_Mod_exists : x_M := (⟨"SnapshotTrieModel", "exists", "(III)Z"⟩, prog_8_method_8_code, 4, (some FieldType.boolean), [])
abbrev M_Mod_write : x_M := (⟨"SnapshotTrieModel", "write", "(II)V"⟩, prog_8_method_9_code, 5, none, [])
abbrev M_Mod_find : x_M := (⟨"SnapshotTrieModel", "find", "(II)I"⟩, prog_8_method_10_code, 5, (some FieldType.int), [])
abbrev M_Mod_add : x_M := (⟨"SnapshotTrieModel", "add", "(IIJ)V"⟩, prog_8_method_11_code, 8, none, [])
abbrev M_Mod_put : x_M := (⟨"SnapshotTrieModel", "put", "(IIJ)Z"⟩, prog_8_method_12_code, 6, (some FieldType.boolean), [])
abbrev M_Mod_get : x_M := (⟨"SnapshotTrieModel", "get", "(II)J"⟩, prog_8_method_13_code, 4, (some FieldType.long), [])
abbrev M_Mod_remove : x_M := (⟨"SnapshotTrieModel", "remove", "(II)J"⟩, prog_8_method_14_code, 7, (some FieldType.long), [])
abbrev M_Mod_replace : x_M := (⟨"SnapshotTrieModel", "replace", "(IIJJ)Z"⟩, prog_8_method_15_code, 8, (some FieldType.boolean), [])
abbrev M_Mod_fresh : x_M := (⟨"SnapshotTrieModel", "fresh", "()I"⟩, prog_8_method_16_code, 1, (some FieldType.int), [])
abbrev M_Mod_snapshot : x_M := (⟨"SnapshotTrieModel", "snapshot", "(IZ)I"⟩, prog_8_method_17_code, 5, (some FieldType.int), [])
abbrev M_Mod_drop : x_M := (⟨"SnapshotTrieModel", "drop", "(I)I"⟩, prog_8_method_18_code, 2, (some FieldType.int), [])
abbrev M_Mod_iterate : x_M := (⟨"SnapshotTrieModel", "iterate", "(I)I"⟩, prog_8_method_19_code, 5, (some FieldType.int), [])
abbrev M_Mod_next : x_M := (⟨"SnapshotTrieModel", "next", "(I)I"⟩, prog_8_method_20_code, 2, (some FieldType.int), [])
abbrev M_Mod_value : x_M := (⟨"SnapshotTrieModel", "value", "()J"⟩, prog_8_method_21_code, 1, (some FieldType.long), [])
abbrev M_Mod_copied : x_M := (⟨"SnapshotTrieModel", "copied", "()I"⟩, prog_8_method_22_code, 1, (some FieldType.int), [])
abbrev M_Mod_has : x_M := (⟨"SnapshotTrieModel", "has", "(III)Z"⟩, prog_8_method_23_code, 4, (some FieldType.boolean), [])
abbrev M_Mod_measure : x_M := (⟨"SnapshotTrieModel", "measure", "(II)I"⟩, prog_8_method_24_code, 9, (some FieldType.int), [])
abbrev M_Mod_common : x_M := (⟨"SnapshotTrieModel", "common", "(II)I"⟩, prog_8_method_25_code, 7, (some FieldType.int), [])
abbrev M_Mod_generation : x_M := (⟨"SnapshotTrieModel", "generation", "(I)I"⟩, prog_8_method_26_code, 2, (some FieldType.int), [])
abbrev M_Cur_init : x_M := (⟨"SnapshotTrie$Cursor", "<init>", "(LSnapshotTrie$Node;)V"⟩, prog_2_method_1_code, 2, none, [])
abbrev M_Cur_advance : x_M := (⟨"SnapshotTrie$Cursor", "advance", "()LSnapshotTrie$Entry;"⟩, prog_2_method_2_code, 4, (some (FieldType.object "SnapshotTrie$Entry")), [])
abbrev M_Cur_goInto : x_M := (⟨"SnapshotTrie$Cursor", "goInto", "(LSnapshotTrie$Node;)V"⟩, prog_2_method_3_code, 2, none, [])
abbrev M_Ent_init : x_M := (⟨"SnapshotTrie$Entry", "<init>", "(IJ)V"⟩, prog_3_method_1_code, 4, none, [])
abbrev M_Nod_init : x_M := (⟨"SnapshotTrie$Node", "<init>", "(II)V"⟩, prog_4_method_1_code, 4, none, [])
abbrev M_Nod_entryAt : x_M := (⟨"SnapshotTrie$Node", "entryAt", "(I)LSnapshotTrie$Entry;"⟩, prog_4_method_2_code, 2, (some (FieldType.object "SnapshotTrie$Entry")), [])
abbrev M_Nod_nodeAt : x_M := (⟨"SnapshotTrie$Node", "nodeAt", "(I)LSnapshotTrie$Node;"⟩, prog_4_method_3_code, 2, (some (FieldType.object "SnapshotTrie$Node")), [])
abbrev M_Nod_countEntries : x_M := (⟨"SnapshotTrie$Node", "countEntries", "()I"⟩, prog_4_method_4_code, 3, (some FieldType.int), [])
abbrev M_Nod_onlyEntry : x_M := (⟨"SnapshotTrie$Node", "onlyEntry", "()LSnapshotTrie$Entry;"⟩, prog_4_method_5_code, 3, (some (FieldType.object "SnapshotTrie$Entry")), [])
abbrev M_Nod_placeInBag : x_M := (⟨"SnapshotTrie$Node", "placeInBag", "(I)I"⟩, prog_4_method_6_code, 3, (some FieldType.int), [])
abbrev M_Nod_putInBag : x_M := (⟨"SnapshotTrie$Node", "putInBag", "(LSnapshotTrie$Entry;)V"⟩, prog_4_method_7_code, 4, none, [])
abbrev M_Nod_takeOutOfBag : x_M := (⟨"SnapshotTrie$Node", "takeOutOfBag", "(I)V"⟩, prog_4_method_8_code, 4, none, [])
abbrev M_Tal_init : x_M := (⟨"SnapshotTrie$Tally", "<init>", "(I)V"⟩, prog_5_method_1_code, 2, none, [])
abbrev M_Tal_add : x_M := (⟨"SnapshotTrie$Tally", "add", "(LSnapshotTrie$Node;I)V"⟩, prog_5_method_2_code, 3, none, [])
abbrev M_Map_init : x_M := (⟨"SnapshotTrie$TrieMap", "<init>", "(LSnapshotTrie$Node;IZ)V"⟩, prog_6_method_1_code, 4, none, [])
abbrev M_Law_put : x_M := (⟨"SnapshotTrieLaw", "put", "(LSnapshotTrie;IIJ[J)I"⟩, method_3_code, 7, (some FieldType.int), [(0, 19, 22, 13), (0, 19, 26, 15), (0, 19, 30, 17)])
abbrev M_Law_get : x_M := (⟨"SnapshotTrieLaw", "get", "(LSnapshotTrie;II[J)I"⟩, method_4_code, 5, (some FieldType.int), [(0, 9, 12, 13), (0, 9, 16, 23)])
abbrev M_Law_remove : x_M := (⟨"SnapshotTrieLaw", "remove", "(LSnapshotTrie;II[J)I"⟩, method_5_code, 5, (some FieldType.int), [(0, 9, 12, 13), (0, 9, 16, 15), (0, 9, 20, 23)])
abbrev M_Law_replace : x_M := (⟨"SnapshotTrieLaw", "replace", "(LSnapshotTrie;IIJJ[J)I"⟩, method_6_code, 9, (some FieldType.int), [(0, 21, 24, 13), (0, 21, 28, 15)])
abbrev M_Law_snapshot : x_M := (⟨"SnapshotTrieLaw", "snapshot", "(LSnapshotTrie;IZ[J)I"⟩, method_7_code, 5, (some FieldType.int), [(0, 10, 13, 13), (0, 10, 17, 17)])
abbrev M_Law_drop : x_M := (⟨"SnapshotTrieLaw", "drop", "(LSnapshotTrie;I[J)I"⟩, method_8_code, 4, (some FieldType.int), [(0, 9, 12, 13), (0, 9, 15, 17)])
abbrev M_Law_iterate : x_M := (⟨"SnapshotTrieLaw", "iterate", "(LSnapshotTrie;I[J)I"⟩, method_9_code, 4, (some FieldType.int), [(0, 9, 12, 13), (0, 9, 15, 17)])
abbrev M_Law_next : x_M := (⟨"SnapshotTrieLaw", "next", "(LSnapshotTrie;I[J)I"⟩, method_10_code, 4, (some FieldType.int), [(0, 9, 12, 13), (0, 9, 15, 23)])
abbrev M_Law_measure : x_M := (⟨"SnapshotTrieLaw", "measure", "(LSnapshotTrie;II[J)I"⟩, method_11_code, 5, (some FieldType.int), [(0, 10, 13, 13)])
abbrev M_Law_common : x_M := (⟨"SnapshotTrieLaw", "common", "(LSnapshotTrie;II[J)I"⟩, method_12_code, 5, (some FieldType.int), [(0, 10, 13, 13)])
abbrev M_Law_generation : x_M := (⟨"SnapshotTrieLaw", "generation", "(LSnapshotTrie;I[J)I"⟩, method_13_code, 4, (some FieldType.int), [(0, 9, 12, 13)])
abbrev M_Law_law : x_M := (⟨"SnapshotTrieLaw", "law", "([I)Z"⟩, code, 8, (some FieldType.boolean), [])
theorem cd_Tri_init : x_cd M_Tri_init := Or.inl ⟨rfl, t_20⟩
theorem nm_Tri_init : x_nm M_Tri_init.1 0 := ⟨by decide +kernel, ⟨by decide +kernel, by decide +kernel⟩, by decide +kernel⟩
theorem cd_Tri_put : x_cd M_Tri_put := Or.inl ⟨rfl, t_104⟩
theorem nm_Tri_put : x_nm M_Tri_put.1 3 := ⟨by decide +kernel, ⟨by decide +kernel, by decide +kernel⟩, by decide +kernel⟩
theorem cd_Tri_get : x_cd M_Tri_get := Or.inl ⟨rfl, t_325⟩
theorem nm_Tri_get : x_nm M_Tri_get.1 2 := ⟨by decide +kernel, ⟨by decide +kernel, by decide +kernel⟩, by decide +kernel⟩
theorem cd_Tri_remove : x_cd M_Tri_remove := Or.inl ⟨rfl, t_350⟩
theorem nm_Tri_remove : x_nm M_Tri_remove.1 2 := ⟨by decide +kernel, ⟨by decide +kernel, by decide +kernel⟩, by decide +kernel⟩
theorem cd_Tri_replace : x_cd M_Tri_replace := Or.inl ⟨rfl, t_369⟩
theorem nm_Tri_replace : x_nm M_Tri_replace.1 4 := ⟨by decide +kernel, ⟨by decide +kernel, by decide +kernel⟩, by decide +kernel⟩
theorem cd_Tri_snapshot : x_cd M_Tri_snapshot := Or.inl ⟨rfl, t_376⟩
theorem nm_Tri_snapshot : x_nm M_Tri_snapshot.1 2 := ⟨by decide +kernel, ⟨by decide +kernel, by decide +kernel⟩, by decide +kernel⟩
theorem cd_Tri_drop : x_cd M_Tri_drop := Or.inl ⟨rfl, t_391⟩
theorem nm_Tri_drop : x_nm M_Tri_drop.1 1 := ⟨by decide +kernel, ⟨by decide +kernel, by decide +kernel⟩, by decide +kernel⟩
theorem cd_Tri_iterate : x_cd M_Tri_iterate := Or.inl ⟨rfl, t_398⟩
theorem nm_Tri_iterate : x_nm M_Tri_iterate.1 1 := ⟨by decide +kernel, ⟨by decide +kernel, by decide +kernel⟩, by decide +kernel⟩
theorem cd_Tri_next : x_cd M_Tri_next := Or.inl ⟨rfl, t_426⟩
theorem nm_Tri_next : x_nm M_Tri_next.1 1 := ⟨by decide +kernel, ⟨by decide +kernel, by decide +kernel⟩, by decide +kernel⟩
theorem cd_Tri_value : x_cd M_Tri_value := Or.inl ⟨rfl, t_90⟩
theorem nm_Tri_value : x_nm M_Tri_value.1 0 := ⟨by decide +kernel, ⟨by decide +kernel, by decide +kernel⟩, by decide +kernel⟩
theorem cd_Tri_copied : x_cd M_Tri_copied := Or.inl ⟨rfl, t_94⟩
theorem nm_Tri_copied : x_nm M_Tri_copied.1 0 := ⟨by decide +kernel, ⟨by decide +kernel, by decide +kernel⟩, by decide +kernel⟩
theorem cd_Tri_measure : x_cd M_Tri_measure := Or.inl ⟨rfl, t_447⟩
theorem nm_Tri_measure : x_nm M_Tri_measure.1 2 := ⟨by decide +kernel, ⟨by decide +kernel, by decide +kernel⟩, by decide +kernel⟩
theorem cd_Tri_common : x_cd M_Tri_common := Or.inl ⟨rfl, t_454⟩
theorem nm_Tri_common : x_nm M_Tri_common.1 2 := ⟨by decide +kernel, ⟨by decide +kernel, by decide +kernel⟩, by decide +kernel⟩
theorem cd_Tri_generation : x_cd M_Tri_generation := Or.inl ⟨rfl, t_464⟩
theorem nm_Tri_generation : x_nm M_Tri_generation.1 1 := ⟨by decide +kernel, ⟨by decide +kernel, by decide +kernel⟩, by decide +kernel⟩
theorem cd_Tri_existingMap : x_cd M_Tri_existingMap := Or.inl ⟨rfl, t_112⟩
theorem nm_Tri_existingMap : x_nm M_Tri_existingMap.1 1 := ⟨by decide +kernel, ⟨by decide +kernel, by decide +kernel⟩, by decide +kernel⟩
theorem cd_Tri_writableMap : x_cd M_Tri_writableMap := Or.inl ⟨rfl, t_108⟩
theorem nm_Tri_writableMap : x_nm M_Tri_writableMap.1 1 := ⟨by decide +kernel, ⟨by decide +kernel, by decide +kernel⟩, by decide +kernel⟩
theorem cd_Tri_existingCursor : x_cd M_Tri_existingCursor := Or.inl ⟨rfl, t_430⟩
theorem nm_Tri_existingCursor : x_nm M_Tri_existingCursor.1 1 := ⟨by decide +kernel, ⟨by decide +kernel, by decide +kernel⟩, by decide +kernel⟩
theorem cd_Tri_leastMissingMap : x_cd M_Tri_leastMissingMap := Or.inl ⟨rfl, t_380⟩
theorem nm_Tri_leastMissingMap : x_nm M_Tri_leastMissingMap.1 0 := ⟨by decide +kernel, ⟨by decide +kernel, by decide +kernel⟩, by decide +kernel⟩
theorem cd_Tri_leastFreeCursor : x_cd M_Tri_leastFreeCursor := Or.inl ⟨rfl, t_402⟩
theorem nm_Tri_leastFreeCursor : x_nm M_Tri_leastFreeCursor.1 0 := ⟨by decide +kernel, ⟨by decide +kernel, by decide +kernel⟩, by decide +kernel⟩
theorem cd_Tri_newGeneration : x_cd M_Tri_newGeneration := Or.inl ⟨rfl, t_384⟩
theorem nm_Tri_newGeneration : x_nm M_Tri_newGeneration.1 0 := ⟨by decide +kernel, ⟨by decide +kernel, by decide +kernel⟩, by decide +kernel⟩
theorem cd_Tri_write : x_cd M_Tri_write := Or.inl ⟨rfl, t_288⟩
theorem nm_Tri_write : x_nm M_Tri_write.1 2 := ⟨by decide +kernel, ⟨by decide +kernel, by decide +kernel⟩, by decide +kernel⟩
theorem cd_Tri_digit : x_cd M_Tri_digit := Or.inl ⟨rfl, t_197⟩
theorem nm_Tri_digit : x_nm M_Tri_digit.1 2 := ⟨by decide +kernel, ⟨by decide +kernel, by decide +kernel⟩, by decide +kernel⟩
theorem cd_Tri_presentEntry : x_cd M_Tri_presentEntry := Or.inl ⟨rfl, t_328⟩
theorem nm_Tri_presentEntry : x_nm M_Tri_presentEntry.1 2 := ⟨by decide +kernel, ⟨by decide +kernel, by decide +kernel⟩, by decide +kernel⟩
theorem cd_Tri_find : x_cd M_Tri_find := Or.inl ⟨rfl, t_194⟩
theorem nm_Tri_find : x_nm M_Tri_find.1 2 := ⟨by decide +kernel, ⟨by decide +kernel, by decide +kernel⟩, by decide +kernel⟩
theorem cd_Tri_hasRoomFor : x_cd M_Tri_hasRoomFor := Or.inl ⟨rfl, t_205⟩
theorem nm_Tri_hasRoomFor : x_nm M_Tri_hasRoomFor.1 2 := ⟨by decide +kernel, ⟨by decide +kernel, by decide +kernel⟩, by decide +kernel⟩
theorem cd_Tri_ownWay : x_cd M_Tri_ownWay := Or.inl ⟨rfl, t_291⟩
theorem nm_Tri_ownWay : x_nm M_Tri_ownWay.1 2 := ⟨by decide +kernel, ⟨by decide +kernel, by decide +kernel⟩, by decide +kernel⟩
theorem cd_Tri_copyOf : x_cd M_Tri_copyOf := Or.inl ⟨rfl, t_294⟩
theorem nm_Tri_copyOf : x_nm M_Tri_copyOf.1 3 := ⟨by decide +kernel, ⟨by decide +kernel, by decide +kernel⟩, by decide +kernel⟩
theorem cd_Tri_putIn : x_cd M_Tri_putIn := Or.inl ⟨rfl, t_305⟩
theorem nm_Tri_putIn : x_nm M_Tri_putIn.1 3 := ⟨by decide +kernel, ⟨by decide +kernel, by decide +kernel⟩, by decide +kernel⟩
theorem cd_Tri_putAt : x_cd M_Tri_putAt := Or.inl ⟨rfl, t_308⟩
theorem nm_Tri_putAt : x_nm M_Tri_putAt.1 5 := ⟨by decide +kernel, ⟨by decide +kernel, by decide +kernel⟩, by decide +kernel⟩
theorem cd_Tri_nodeOfTwo : x_cd M_Tri_nodeOfTwo := Or.inl ⟨rfl, t_311⟩
theorem nm_Tri_nodeOfTwo : x_nm M_Tri_nodeOfTwo.1 4 := ⟨by decide +kernel, ⟨by decide +kernel, by decide +kernel⟩, by decide +kernel⟩
theorem cd_Tri_takeOut : x_cd M_Tri_takeOut := Or.inl ⟨rfl, t_353⟩
theorem nm_Tri_takeOut : x_nm M_Tri_takeOut.1 3 := ⟨by decide +kernel, ⟨by decide +kernel, by decide +kernel⟩, by decide +kernel⟩
theorem cd_Tri_countKeys : x_cd M_Tri_countKeys := Or.inl ⟨rfl, t_208⟩
theorem nm_Tri_countKeys : x_nm M_Tri_countKeys.1 1 := ⟨by decide +kernel, ⟨by decide +kernel, by decide +kernel⟩, by decide +kernel⟩
theorem cd_Tri_addUp : x_cd M_Tri_addUp := Or.inl ⟨rfl, t_241⟩
theorem nm_Tri_addUp : x_nm M_Tri_addUp.1 3 := ⟨by decide +kernel, ⟨by decide +kernel, by decide +kernel⟩, by decide +kernel⟩
theorem cd_Tri_countShared : x_cd M_Tri_countShared := Or.inl ⟨rfl, t_457⟩
theorem nm_Tri_countShared : x_nm M_Tri_countShared.1 3 := ⟨by decide +kernel, ⟨by decide +kernel, by decide +kernel⟩, by decide +kernel⟩
theorem cd_Mod_init : x_cd M_Mod_init := Or.inl ⟨rfl, t_469⟩
theorem nm_Mod_init : x_nm M_Mod_init.1 0 := ⟨by decide +kernel, ⟨by decide +kernel, by decide +kernel⟩, by decide +kernel⟩
theorem cd_Mod_thrown : x_cd M_Mod_thrown := Or.inl ⟨rfl, t_525⟩
theorem nm_Mod_thrown : x_nm M_Mod_thrown.1 0 := ⟨by decide +kernel, ⟨by decide +kernel, by decide +kernel⟩, by decide +kernel⟩
theorem cd_Mod_fail : x_cd M_Mod_fail := Or.inl ⟨rfl, t_537⟩
theorem nm_Mod_fail : x_nm M_Mod_fail.1 1 := ⟨by decide +kernel, ⟨by decide +kernel, by decide +kernel⟩, by decide +kernel⟩
theorem cd_Mod_none : x_cd M_Mod_none := Or.inl ⟨rfl, t_533⟩
theorem nm_Mod_none : x_nm M_Mod_none.1 1 := ⟨by decide +kernel, ⟨by decide +kernel, by decide +kernel⟩, by decide +kernel⟩
theorem cd_Mod_hash : x_cd M_Mod_hash := Or.inl ⟨rfl, t_544⟩
theorem nm_Mod_hash : x_nm M_Mod_hash.1 1 := ⟨by decide +kernel, ⟨by decide +kernel, by decide +kernel⟩, by decide +kernel⟩
theorem cd_Mod_node : x_cd M_Mod_node := Or.inl ⟨rfl, t_560⟩
theorem nm_Mod_node : x_nm M_Mod_node.1 2 := ⟨by decide +kernel, ⟨by decide +kernel, by decide +kernel⟩, by decide +kernel⟩
theorem cd_Mod_sharing : x_cd M_Mod_sharing := Or.inl ⟨rfl, t_549⟩
theorem nm_Mod_sharing : x_nm M_Mod_sharing.1 3 := ⟨by decide +kernel, ⟨by decide +kernel, by decide +kernel⟩, by decide +kernel⟩
theorem cd_Mod_exists : x_cd M_Mod_exists := Or.inl ⟨rfl, t_564⟩
theorem nm_Mod_exists : x_nm M_Mod_exists.1 3 := ⟨by decide +kernel, ⟨by decide +kernel, by decide +kernel⟩, by decide +kernel⟩
theorem cd_Mod_write : x_cd M_Mod_write := Or.inl ⟨rfl, t_557⟩
theorem nm_Mod_write : x_nm M_Mod_write.1 2 := ⟨by decide +kernel, ⟨by decide +kernel, by decide +kernel⟩, by decide +kernel⟩
theorem cd_Mod_find : x_cd M_Mod_find := Or.inl ⟨rfl, t_541⟩
theorem nm_Mod_find : x_nm M_Mod_find.1 2 := ⟨by decide +kernel, ⟨by decide +kernel, by decide +kernel⟩, by decide +kernel⟩
theorem cd_Mod_add : x_cd M_Mod_add := Or.inl ⟨rfl, t_553⟩
theorem nm_Mod_add : x_nm M_Mod_add.1 3 := ⟨by decide +kernel, ⟨by decide +kernel, by decide +kernel⟩, by decide +kernel⟩
theorem cd_Mod_put : x_cd M_Mod_put := Or.inl ⟨rfl, t_529⟩
theorem nm_Mod_put : x_nm M_Mod_put.1 3 := ⟨by decide +kernel, ⟨by decide +kernel, by decide +kernel⟩, by decide +kernel⟩
theorem cd_Mod_get : x_cd M_Mod_get := Or.inl ⟨rfl, t_568⟩
theorem nm_Mod_get : x_nm M_Mod_get.1 2 := ⟨by decide +kernel, ⟨by decide +kernel, by decide +kernel⟩, by decide +kernel⟩
theorem cd_Mod_remove : x_cd M_Mod_remove := Or.inl ⟨rfl, t_572⟩
theorem nm_Mod_remove : x_nm M_Mod_remove.1 2 := ⟨by decide +kernel, ⟨by decide +kernel, by decide +kernel⟩, by decide +kernel⟩
theorem cd_Mod_replace : x_cd M_Mod_replace := Or.inl ⟨rfl, t_576⟩
theorem nm_Mod_replace : x_nm M_Mod_replace.1 4 := ⟨by decide +kernel, ⟨by decide +kernel, by decide +kernel⟩, by decide +kernel⟩
theorem cd_Mod_fresh : x_cd M_Mod_fresh := Or.inl ⟨rfl, t_584⟩
theorem nm_Mod_fresh : x_nm M_Mod_fresh.1 0 := ⟨by decide +kernel, ⟨by decide +kernel, by decide +kernel⟩, by decide +kernel⟩
theorem cd_Mod_snapshot : x_cd M_Mod_snapshot := Or.inl ⟨rfl, t_580⟩
theorem nm_Mod_snapshot : x_nm M_Mod_snapshot.1 2 := ⟨by decide +kernel, ⟨by decide +kernel, by decide +kernel⟩, by decide +kernel⟩
theorem cd_Mod_drop : x_cd M_Mod_drop := Or.inl ⟨rfl, t_588⟩
theorem nm_Mod_drop : x_nm M_Mod_drop.1 1 := ⟨by decide +kernel, ⟨by decide +kernel, by decide +kernel⟩, by decide +kernel⟩
theorem cd_Mod_iterate : x_cd M_Mod_iterate := Or.inl ⟨rfl, t_592⟩
theorem nm_Mod_iterate : x_nm M_Mod_iterate.1 1 := ⟨by decide +kernel, ⟨by decide +kernel, by decide +kernel⟩, by decide +kernel⟩
theorem cd_Mod_next : x_cd M_Mod_next := Or.inl ⟨rfl, t_596⟩
theorem nm_Mod_next : x_nm M_Mod_next.1 1 := ⟨by decide +kernel, ⟨by decide +kernel, by decide +kernel⟩, by decide +kernel⟩
theorem cd_Mod_value : x_cd M_Mod_value := Or.inl ⟨rfl, t_600⟩
theorem nm_Mod_value : x_nm M_Mod_value.1 0 := ⟨by decide +kernel, ⟨by decide +kernel, by decide +kernel⟩, by decide +kernel⟩
theorem cd_Mod_copied : x_cd M_Mod_copied := Or.inl ⟨rfl, t_604⟩
theorem nm_Mod_copied : x_nm M_Mod_copied.1 0 := ⟨by decide +kernel, ⟨by decide +kernel, by decide +kernel⟩, by decide +kernel⟩
theorem cd_Mod_has : x_cd M_Mod_has := Or.inl ⟨rfl, t_612⟩
theorem nm_Mod_has : x_nm M_Mod_has.1 3 := ⟨by decide +kernel, ⟨by decide +kernel, by decide +kernel⟩, by decide +kernel⟩
theorem cd_Mod_measure : x_cd M_Mod_measure := Or.inl ⟨rfl, t_608⟩
theorem nm_Mod_measure : x_nm M_Mod_measure.1 2 := ⟨by decide +kernel, ⟨by decide +kernel, by decide +kernel⟩, by decide +kernel⟩
theorem cd_Mod_common : x_cd M_Mod_common := Or.inl ⟨rfl, t_616⟩
theorem nm_Mod_common : x_nm M_Mod_common.1 2 := ⟨by decide +kernel, ⟨by decide +kernel, by decide +kernel⟩, by decide +kernel⟩
theorem cd_Mod_generation : x_cd M_Mod_generation := Or.inl ⟨rfl, t_620⟩
theorem nm_Mod_generation : x_nm M_Mod_generation.1 1 := ⟨by decide +kernel, ⟨by decide +kernel, by decide +kernel⟩, by decide +kernel⟩
theorem cd_Cur_init : x_cd M_Cur_init := Or.inl ⟨rfl, t_406⟩
theorem nm_Cur_init : x_nm M_Cur_init.1 1 := ⟨by decide +kernel, ⟨by decide +kernel, by decide +kernel⟩, by decide +kernel⟩
theorem cd_Cur_advance : x_cd M_Cur_advance := Or.inl ⟨rfl, t_434⟩
theorem nm_Cur_advance : x_nm M_Cur_advance.1 0 := ⟨by decide +kernel, ⟨by decide +kernel, by decide +kernel⟩, by decide +kernel⟩
theorem cd_Cur_goInto : x_cd M_Cur_goInto := Or.inl ⟨rfl, t_440⟩
theorem nm_Cur_goInto : x_nm M_Cur_goInto.1 1 := ⟨by decide +kernel, ⟨by decide +kernel, by decide +kernel⟩, by decide +kernel⟩
theorem cd_Ent_init : x_cd M_Ent_init := Or.inl ⟨rfl, t_273⟩
theorem nm_Ent_init : x_nm M_Ent_init.1 2 := ⟨by decide +kernel, ⟨by decide +kernel, by decide +kernel⟩, by decide +kernel⟩
theorem cd_Nod_init : x_cd M_Nod_init := Or.inl ⟨rfl, t_33⟩
theorem nm_Nod_init : x_nm M_Nod_init.1 2 := ⟨by decide +kernel, ⟨by decide +kernel, by decide +kernel⟩, by decide +kernel⟩
theorem cd_Nod_entryAt : x_cd M_Nod_entryAt := Or.inl ⟨rfl, t_298⟩
theorem nm_Nod_entryAt : x_nm M_Nod_entryAt.1 1 := ⟨by decide +kernel, ⟨by decide +kernel, by decide +kernel⟩, by decide +kernel⟩
theorem cd_Nod_nodeAt : x_cd M_Nod_nodeAt := Or.inl ⟨rfl, t_302⟩
theorem nm_Nod_nodeAt : x_nm M_Nod_nodeAt.1 1 := ⟨by decide +kernel, ⟨by decide +kernel, by decide +kernel⟩, by decide +kernel⟩
theorem cd_Nod_countEntries : x_cd M_Nod_countEntries := Or.inl ⟨rfl, t_249⟩
theorem nm_Nod_countEntries : x_nm M_Nod_countEntries.1 0 := ⟨by decide +kernel, ⟨by decide +kernel, by decide +kernel⟩, by decide +kernel⟩
theorem cd_Nod_onlyEntry : x_cd M_Nod_onlyEntry := Or.inl ⟨rfl, t_362⟩
theorem nm_Nod_onlyEntry : x_nm M_Nod_onlyEntry.1 0 := ⟨by decide +kernel, ⟨by decide +kernel, by decide +kernel⟩, by decide +kernel⟩
theorem cd_Nod_placeInBag : x_cd M_Nod_placeInBag := Or.inl ⟨rfl, t_202⟩
theorem nm_Nod_placeInBag : x_nm M_Nod_placeInBag.1 1 := ⟨by decide +kernel, ⟨by decide +kernel, by decide +kernel⟩, by decide +kernel⟩
theorem cd_Nod_putInBag : x_cd M_Nod_putInBag := Or.inl ⟨rfl, t_315⟩
theorem nm_Nod_putInBag : x_nm M_Nod_putInBag.1 1 := ⟨by decide +kernel, ⟨by decide +kernel, by decide +kernel⟩, by decide +kernel⟩
theorem cd_Nod_takeOutOfBag : x_cd M_Nod_takeOutOfBag := Or.inl ⟨rfl, t_357⟩
theorem nm_Nod_takeOutOfBag : x_nm M_Nod_takeOutOfBag.1 1 := ⟨by decide +kernel, ⟨by decide +kernel, by decide +kernel⟩, by decide +kernel⟩
theorem cd_Tal_init : x_cd M_Tal_init := Or.inl ⟨rfl, t_213⟩
theorem nm_Tal_init : x_nm M_Tal_init.1 1 := ⟨by decide +kernel, ⟨by decide +kernel, by decide +kernel⟩, by decide +kernel⟩
theorem cd_Tal_add : x_cd M_Tal_add := Or.inl ⟨rfl, t_245⟩
theorem nm_Tal_add : x_nm M_Tal_add.1 2 := ⟨by decide +kernel, ⟨by decide +kernel, by decide +kernel⟩, by decide +kernel⟩
theorem cd_Map_init : x_cd M_Map_init := Or.inl ⟨rfl, t_56⟩
theorem nm_Map_init : x_nm M_Map_init.1 3 := ⟨by decide +kernel, ⟨by decide +kernel, by decide +kernel⟩, by decide +kernel⟩
theorem cd_Law_put : x_cd M_Law_put := Or.inr t_97
theorem nm_Law_put : x_nm M_Law_put.1 5 := ⟨by decide +kernel, ⟨by decide +kernel, by decide +kernel⟩, by decide +kernel⟩
theorem cd_Law_get : x_cd M_Law_get := Or.inr t_320
theorem nm_Law_get : x_nm M_Law_get.1 4 := ⟨by decide +kernel, ⟨by decide +kernel, by decide +kernel⟩, by decide +kernel⟩
theorem cd_Law_remove : x_cd M_Law_remove := Or.inr t_346
theorem nm_Law_remove : x_nm M_Law_remove.1 4 := ⟨by decide +kernel, ⟨by decide +kernel, by decide +kernel⟩, by decide +kernel⟩
theorem cd_Law_replace : x_cd M_Law_replace := Or.inr t_365
theorem nm_Law_replace : x_nm M_Law_replace.1 6 := ⟨by decide +kernel, ⟨by decide +kernel, by decide +kernel⟩, by decide +kernel⟩
theorem cd_Law_snapshot : x_cd M_Law_snapshot := Or.inr t_372
theorem nm_Law_snapshot : x_nm M_Law_snapshot.1 4 := ⟨by decide +kernel, ⟨by decide +kernel, by decide +kernel⟩, by decide +kernel⟩
theorem cd_Law_drop : x_cd M_Law_drop := Or.inr t_387
theorem nm_Law_drop : x_nm M_Law_drop.1 3 := ⟨by decide +kernel, ⟨by decide +kernel, by decide +kernel⟩, by decide +kernel⟩
theorem cd_Law_iterate : x_cd M_Law_iterate := Or.inr t_394
theorem nm_Law_iterate : x_nm M_Law_iterate.1 3 := ⟨by decide +kernel, ⟨by decide +kernel, by decide +kernel⟩, by decide +kernel⟩
theorem cd_Law_next : x_cd M_Law_next := Or.inr t_422
theorem nm_Law_next : x_nm M_Law_next.1 3 := ⟨by decide +kernel, ⟨by decide +kernel, by decide +kernel⟩, by decide +kernel⟩
theorem cd_Law_measure : x_cd M_Law_measure := Or.inr t_443
theorem nm_Law_measure : x_nm M_Law_measure.1 4 := ⟨by decide +kernel, ⟨by decide +kernel, by decide +kernel⟩, by decide +kernel⟩
theorem cd_Law_common : x_cd M_Law_common := Or.inr t_450
theorem nm_Law_common : x_nm M_Law_common.1 4 := ⟨by decide +kernel, ⟨by decide +kernel, by decide +kernel⟩, by decide +kernel⟩
theorem cd_Law_generation : x_cd M_Law_generation := Or.inr t_460
theorem nm_Law_generation : x_nm M_Law_generation.1 3 := ⟨by decide +kernel, ⟨by decide +kernel, by decide +kernel⟩, by decide +kernel⟩
end
section
theorem d_Cur_init_0 : decode prog_2_method_1_code 0 = .ok (.aload_n 0, 1) := by decide +kernel
theorem d_Cur_init_1 : decode prog_2_method_1_code 1 = .ok (.invokespecial 3, 3) := by decide +kernel
theorem d_Cur_init_4 : decode prog_2_method_1_code 4 = .ok (.aload_n 0, 1) := by decide +kernel
theorem d_Cur_init_5 : decode prog_2_method_1_code 5 = .ok (.iconst 5, 1) := by decide +kernel
theorem d_Cur_init_6 : decode prog_2_method_1_code 6 = .ok (.anewarray 9, 3) := by decide +kernel
theorem d_Cur_init_9 : decode prog_2_method_1_code 9 = .ok (.putfield 11, 3) := by decide +kernel
theorem d_Cur_init_12 : decode prog_2_method_1_code 12 = .ok (.aload_n 0, 1) := by decide +kernel
theorem d_Cur_init_13 : decode prog_2_method_1_code 13 = .ok (.iconst 5, 1) := by decide +kernel
theorem d_Cur_init_14 : decode prog_2_method_1_code 14 = .ok (.newarray .int, 2) := by decide +kernel
theorem d_Cur_init_16 : decode prog_2_method_1_code 16 = .ok (.putfield 17, 3) := by decide +kernel
theorem d_Cur_init_19 : decode prog_2_method_1_code 19 = .ok (.aload_n 0, 1) := by decide +kernel
theorem d_Cur_init_20 : decode prog_2_method_1_code 20 = .ok (.getfield 11, 3) := by decide +kernel
theorem d_Cur_init_23 : decode prog_2_method_1_code 23 = .ok (.iconst 0, 1) := by decide +kernel
theorem d_Cur_init_24 : decode prog_2_method_1_code 24 = .ok (.aload_n 1, 1) := by decide +kernel
theorem d_Cur_init_25 : decode prog_2_method_1_code 25 = .ok (.aastore, 1) := by decide +kernel
theorem d_Cur_init_26 : decode prog_2_method_1_code 26 = .ok (.aload_n 0, 1) := by decide +kernel
theorem d_Cur_init_27 : decode prog_2_method_1_code 27 = .ok (.iconst 0, 1) := by decide +kernel
theorem d_Cur_init_28 : decode prog_2_method_1_code 28 = .ok (.putfield 21, 3) := by decide +kernel
theorem d_Cur_init_31 : decode prog_2_method_1_code 31 = .ok (.return_, 1) := by decide +kernel
theorem d_Cur_advance_0 : decode prog_2_method_2_code 0 = .ok (.iconst 0, 1) := by decide +kernel
theorem d_Cur_advance_1 : decode prog_2_method_2_code 1 = .ok (.istore_n 1, 1) := by decide +kernel
theorem d_Cur_advance_2 : decode prog_2_method_2_code 2 = .ok (.iload_n 1, 1) := by decide +kernel
theorem d_Cur_advance_3 : decode prog_2_method_2_code 3 = .ok (.ldc 25, 2) := by decide +kernel
theorem d_Cur_advance_5 : decode prog_2_method_2_code 5 = .ok (.if_icmp .ge 99, 3) := by decide +kernel
theorem d_Cur_advance_8 : decode prog_2_method_2_code 8 = .ok (.aload_n 0, 1) := by decide +kernel
theorem d_Cur_advance_9 : decode prog_2_method_2_code 9 = .ok (.getfield 21, 3) := by decide +kernel
theorem d_Cur_advance_12 : decode prog_2_method_2_code 12 = .ok (.ifCond .lt 92, 3) := by decide +kernel
theorem d_Cur_advance_15 : decode prog_2_method_2_code 15 = .ok (.aload_n 0, 1) := by decide +kernel
theorem d_Cur_advance_16 : decode prog_2_method_2_code 16 = .ok (.getfield 11, 3) := by decide +kernel
theorem d_Cur_advance_19 : decode prog_2_method_2_code 19 = .ok (.aload_n 0, 1) := by decide +kernel
theorem d_Cur_advance_20 : decode prog_2_method_2_code 20 = .ok (.getfield 21, 3) := by decide +kernel
theorem d_Cur_advance_23 : decode prog_2_method_2_code 23 = .ok (.aaload, 1) := by decide +kernel
theorem d_Cur_advance_24 : decode prog_2_method_2_code 24 = .ok (.astore_n 2, 1) := by decide +kernel
theorem d_Cur_advance_25 : decode prog_2_method_2_code 25 = .ok (.aload_n 0, 1) := by decide +kernel
theorem d_Cur_advance_26 : decode prog_2_method_2_code 26 = .ok (.getfield 17, 3) := by decide +kernel
theorem d_Cur_advance_29 : decode prog_2_method_2_code 29 = .ok (.aload_n 0, 1) := by decide +kernel
theorem d_Cur_advance_30 : decode prog_2_method_2_code 30 = .ok (.getfield 21, 3) := by decide +kernel
theorem d_Cur_advance_33 : decode prog_2_method_2_code 33 = .ok (.iaload, 1) := by decide +kernel
theorem d_Cur_advance_34 : decode prog_2_method_2_code 34 = .ok (.istore_n 3, 1) := by decide +kernel
theorem d_Cur_advance_35 : decode prog_2_method_2_code 35 = .ok (.aload_n 2, 1) := by decide +kernel
theorem d_Cur_advance_36 : decode prog_2_method_2_code 36 = .ok (.ifnull 12, 3) := by decide +kernel
theorem d_Cur_advance_39 : decode prog_2_method_2_code 39 = .ok (.iload_n 3, 1) := by decide +kernel
theorem d_Cur_advance_40 : decode prog_2_method_2_code 40 = .ok (.aload_n 2, 1) := by decide +kernel
theorem d_Cur_advance_41 : decode prog_2_method_2_code 41 = .ok (.getfield 26, 3) := by decide +kernel
theorem d_Cur_advance_44 : decode prog_2_method_2_code 44 = .ok (.arraylength, 1) := by decide +kernel
theorem d_Cur_advance_45 : decode prog_2_method_2_code 45 = .ok (.if_icmp .lt 16, 3) := by decide +kernel
theorem d_Cur_advance_48 : decode prog_2_method_2_code 48 = .ok (.aload_n 0, 1) := by decide +kernel
theorem d_Cur_advance_49 : decode prog_2_method_2_code 49 = .ok (.dup, 1) := by decide +kernel
theorem d_Cur_advance_50 : decode prog_2_method_2_code 50 = .ok (.getfield 21, 3) := by decide +kernel
theorem d_Cur_advance_53 : decode prog_2_method_2_code 53 = .ok (.iconst 1, 1) := by decide +kernel
theorem d_Cur_advance_54 : decode prog_2_method_2_code 54 = .ok (.isub, 1) := by decide +kernel
theorem d_Cur_advance_55 : decode prog_2_method_2_code 55 = .ok (.putfield 21, 3) := by decide +kernel
theorem d_Cur_advance_58 : decode prog_2_method_2_code 58 = .ok (.goto 40, 3) := by decide +kernel
theorem d_Cur_advance_61 : decode prog_2_method_2_code 61 = .ok (.aload_n 0, 1) := by decide +kernel
theorem d_Cur_advance_62 : decode prog_2_method_2_code 62 = .ok (.getfield 17, 3) := by decide +kernel
theorem d_Cur_advance_65 : decode prog_2_method_2_code 65 = .ok (.aload_n 0, 1) := by decide +kernel
theorem d_Cur_advance_66 : decode prog_2_method_2_code 66 = .ok (.getfield 21, 3) := by decide +kernel
theorem d_Cur_advance_69 : decode prog_2_method_2_code 69 = .ok (.iload_n 3, 1) := by decide +kernel
theorem d_Cur_advance_70 : decode prog_2_method_2_code 70 = .ok (.iconst 1, 1) := by decide +kernel
theorem d_Cur_advance_71 : decode prog_2_method_2_code 71 = .ok (.iadd, 1) := by decide +kernel
theorem d_Cur_advance_72 : decode prog_2_method_2_code 72 = .ok (.iastore, 1) := by decide +kernel
theorem d_Cur_advance_73 : decode prog_2_method_2_code 73 = .ok (.aload_n 2, 1) := by decide +kernel
theorem d_Cur_advance_74 : decode prog_2_method_2_code 74 = .ok (.getfield 26, 3) := by decide +kernel
theorem d_Cur_advance_77 : decode prog_2_method_2_code 77 = .ok (.iload_n 3, 1) := by decide +kernel
theorem d_Cur_advance_78 : decode prog_2_method_2_code 78 = .ok (.aaload, 1) := by decide +kernel
theorem d_Cur_advance_79 : decode prog_2_method_2_code 79 = .ok (.ifnull 10, 3) := by decide +kernel
theorem d_Cur_advance_82 : decode prog_2_method_2_code 82 = .ok (.aload_n 2, 1) := by decide +kernel
theorem d_Cur_advance_83 : decode prog_2_method_2_code 83 = .ok (.getfield 26, 3) := by decide +kernel
theorem d_Cur_advance_86 : decode prog_2_method_2_code 86 = .ok (.iload_n 3, 1) := by decide +kernel
theorem d_Cur_advance_87 : decode prog_2_method_2_code 87 = .ok (.aaload, 1) := by decide +kernel
theorem d_Cur_advance_88 : decode prog_2_method_2_code 88 = .ok (.areturn, 1) := by decide +kernel
theorem d_Cur_advance_89 : decode prog_2_method_2_code 89 = .ok (.aload_n 0, 1) := by decide +kernel
theorem d_Cur_advance_90 : decode prog_2_method_2_code 90 = .ok (.aload_n 2, 1) := by decide +kernel
theorem d_Cur_advance_91 : decode prog_2_method_2_code 91 = .ok (.iload_n 3, 1) := by decide +kernel
theorem d_Cur_advance_92 : decode prog_2_method_2_code 92 = .ok (.invokevirtual 30, 3) := by decide +kernel
theorem d_Cur_advance_95 : decode prog_2_method_2_code 95 = .ok (.invokevirtual 34, 3) := by decide +kernel
theorem d_Cur_advance_98 : decode prog_2_method_2_code 98 = .ok (.iinc 1 1, 3) := by decide +kernel
theorem d_Cur_advance_101 : decode prog_2_method_2_code 101 = .ok (.goto (-99), 3) := by decide +kernel
theorem d_Cur_advance_104 : decode prog_2_method_2_code 104 = .ok (.aconst_null, 1) := by decide +kernel
theorem d_Cur_advance_105 : decode prog_2_method_2_code 105 = .ok (.areturn, 1) := by decide +kernel
theorem d_Cur_goInto_0 : decode prog_2_method_3_code 0 = .ok (.aload_n 1, 1) := by decide +kernel
theorem d_Cur_goInto_1 : decode prog_2_method_3_code 1 = .ok (.ifnull 41, 3) := by decide +kernel
theorem d_Cur_goInto_4 : decode prog_2_method_3_code 4 = .ok (.aload_n 0, 1) := by decide +kernel
theorem d_Cur_goInto_5 : decode prog_2_method_3_code 5 = .ok (.getfield 21, 3) := by decide +kernel
theorem d_Cur_goInto_8 : decode prog_2_method_3_code 8 = .ok (.iconst 4, 1) := by decide +kernel
theorem d_Cur_goInto_9 : decode prog_2_method_3_code 9 = .ok (.if_icmp .ge 33, 3) := by decide +kernel
theorem d_Cur_goInto_12 : decode prog_2_method_3_code 12 = .ok (.aload_n 0, 1) := by decide +kernel
theorem d_Cur_goInto_13 : decode prog_2_method_3_code 13 = .ok (.dup, 1) := by decide +kernel
theorem d_Cur_goInto_14 : decode prog_2_method_3_code 14 = .ok (.getfield 21, 3) := by decide +kernel
theorem d_Cur_goInto_17 : decode prog_2_method_3_code 17 = .ok (.iconst 1, 1) := by decide +kernel
theorem d_Cur_goInto_18 : decode prog_2_method_3_code 18 = .ok (.iadd, 1) := by decide +kernel
theorem d_Cur_goInto_19 : decode prog_2_method_3_code 19 = .ok (.putfield 21, 3) := by decide +kernel
theorem d_Cur_goInto_22 : decode prog_2_method_3_code 22 = .ok (.aload_n 0, 1) := by decide +kernel
theorem d_Cur_goInto_23 : decode prog_2_method_3_code 23 = .ok (.getfield 11, 3) := by decide +kernel
theorem d_Cur_goInto_26 : decode prog_2_method_3_code 26 = .ok (.aload_n 0, 1) := by decide +kernel
theorem d_Cur_goInto_27 : decode prog_2_method_3_code 27 = .ok (.getfield 21, 3) := by decide +kernel
theorem d_Cur_goInto_30 : decode prog_2_method_3_code 30 = .ok (.aload_n 1, 1) := by decide +kernel
theorem d_Cur_goInto_31 : decode prog_2_method_3_code 31 = .ok (.aastore, 1) := by decide +kernel
theorem d_Cur_goInto_32 : decode prog_2_method_3_code 32 = .ok (.aload_n 0, 1) := by decide +kernel
theorem d_Cur_goInto_33 : decode prog_2_method_3_code 33 = .ok (.getfield 17, 3) := by decide +kernel
theorem d_Cur_goInto_36 : decode prog_2_method_3_code 36 = .ok (.aload_n 0, 1) := by decide +kernel
theorem d_Cur_goInto_37 : decode prog_2_method_3_code 37 = .ok (.getfield 21, 3) := by decide +kernel
theorem d_Cur_goInto_40 : decode prog_2_method_3_code 40 = .ok (.iconst 0, 1) := by decide +kernel
theorem d_Cur_goInto_41 : decode prog_2_method_3_code 41 = .ok (.iastore, 1) := by decide +kernel
theorem d_Cur_goInto_42 : decode prog_2_method_3_code 42 = .ok (.return_, 1) := by decide +kernel
theorem d_Ent_init_0 : decode prog_3_method_1_code 0 = .ok (.aload_n 0, 1) := by decide +kernel
theorem d_Ent_init_1 : decode prog_3_method_1_code 1 = .ok (.invokespecial 1, 3) := by decide +kernel
theorem d_Ent_init_4 : decode prog_3_method_1_code 4 = .ok (.aload_n 0, 1) := by decide +kernel
theorem d_Ent_init_5 : decode prog_3_method_1_code 5 = .ok (.iload_n 1, 1) := by decide +kernel
theorem d_Ent_init_6 : decode prog_3_method_1_code 6 = .ok (.putfield 7, 3) := by decide +kernel
theorem d_Ent_init_9 : decode prog_3_method_1_code 9 = .ok (.aload_n 0, 1) := by decide +kernel
theorem d_Ent_init_10 : decode prog_3_method_1_code 10 = .ok (.lload_n 2, 1) := by decide +kernel
theorem d_Ent_init_11 : decode prog_3_method_1_code 11 = .ok (.putfield 13, 3) := by decide +kernel
theorem d_Ent_init_14 : decode prog_3_method_1_code 14 = .ok (.return_, 1) := by decide +kernel
theorem d_Nod_init_0 : decode prog_4_method_1_code 0 = .ok (.aload_n 0, 1) := by decide +kernel
theorem d_Nod_init_1 : decode prog_4_method_1_code 1 = .ok (.invokespecial 3, 3) := by decide +kernel
theorem d_Nod_init_4 : decode prog_4_method_1_code 4 = .ok (.iload_n 2, 1) := by decide +kernel
theorem d_Nod_init_5 : decode prog_4_method_1_code 5 = .ok (.iconst 4, 1) := by decide +kernel
theorem d_Nod_init_6 : decode prog_4_method_1_code 6 = .ok (.if_icmp .lt 7, 3) := by decide +kernel
theorem d_Nod_init_9 : decode prog_4_method_1_code 9 = .ok (.iconst 1, 1) := by decide +kernel
theorem d_Nod_init_10 : decode prog_4_method_1_code 10 = .ok (.goto 4, 3) := by decide +kernel
theorem d_Nod_init_13 : decode prog_4_method_1_code 13 = .ok (.iconst 0, 1) := by decide +kernel
theorem d_Nod_init_14 : decode prog_4_method_1_code 14 = .ok (.istore_n 3, 1) := by decide +kernel
theorem d_Nod_init_15 : decode prog_4_method_1_code 15 = .ok (.aload_n 0, 1) := by decide +kernel
theorem d_Nod_init_16 : decode prog_4_method_1_code 16 = .ok (.iload_n 1, 1) := by decide +kernel
theorem d_Nod_init_17 : decode prog_4_method_1_code 17 = .ok (.putfield 9, 3) := by decide +kernel
theorem d_Nod_init_20 : decode prog_4_method_1_code 20 = .ok (.aload_n 0, 1) := by decide +kernel
theorem d_Nod_init_21 : decode prog_4_method_1_code 21 = .ok (.iload_n 3, 1) := by decide +kernel
theorem d_Nod_init_22 : decode prog_4_method_1_code 22 = .ok (.ifCond .eq 8, 3) := by decide +kernel
theorem d_Nod_init_25 : decode prog_4_method_1_code 25 = .ok (.bipush 6, 2) := by decide +kernel
theorem d_Nod_init_27 : decode prog_4_method_1_code 27 = .ok (.goto 4, 3) := by decide +kernel
theorem d_Nod_init_30 : decode prog_4_method_1_code 30 = .ok (.iconst 4, 1) := by decide +kernel
theorem d_Nod_init_31 : decode prog_4_method_1_code 31 = .ok (.anewarray 15, 3) := by decide +kernel
theorem d_Nod_init_34 : decode prog_4_method_1_code 34 = .ok (.putfield 17, 3) := by decide +kernel
theorem d_Nod_init_37 : decode prog_4_method_1_code 37 = .ok (.aload_n 0, 1) := by decide +kernel
theorem d_Nod_init_38 : decode prog_4_method_1_code 38 = .ok (.iload_n 3, 1) := by decide +kernel
theorem d_Nod_init_39 : decode prog_4_method_1_code 39 = .ok (.ifCond .eq 7, 3) := by decide +kernel
theorem d_Nod_init_42 : decode prog_4_method_1_code 42 = .ok (.iconst 0, 1) := by decide +kernel
theorem d_Nod_init_43 : decode prog_4_method_1_code 43 = .ok (.goto 4, 3) := by decide +kernel
theorem d_Nod_init_46 : decode prog_4_method_1_code 46 = .ok (.iconst 4, 1) := by decide +kernel
theorem d_Nod_init_47 : decode prog_4_method_1_code 47 = .ok (.anewarray 10, 3) := by decide +kernel
theorem d_Nod_init_50 : decode prog_4_method_1_code 50 = .ok (.putfield 21, 3) := by decide +kernel
theorem d_Nod_init_53 : decode prog_4_method_1_code 53 = .ok (.return_, 1) := by decide +kernel
theorem d_Nod_entryAt_0 : decode prog_4_method_2_code 0 = .ok (.iload_n 1, 1) := by decide +kernel
theorem d_Nod_entryAt_1 : decode prog_4_method_2_code 1 = .ok (.ifCond .lt 21, 3) := by decide +kernel
theorem d_Nod_entryAt_4 : decode prog_4_method_2_code 4 = .ok (.iload_n 1, 1) := by decide +kernel
theorem d_Nod_entryAt_5 : decode prog_4_method_2_code 5 = .ok (.aload_n 0, 1) := by decide +kernel
theorem d_Nod_entryAt_6 : decode prog_4_method_2_code 6 = .ok (.getfield 17, 3) := by decide +kernel
theorem d_Nod_entryAt_9 : decode prog_4_method_2_code 9 = .ok (.arraylength, 1) := by decide +kernel
theorem d_Nod_entryAt_10 : decode prog_4_method_2_code 10 = .ok (.if_icmp .ge 12, 3) := by decide +kernel
theorem d_Nod_entryAt_13 : decode prog_4_method_2_code 13 = .ok (.aload_n 0, 1) := by decide +kernel
theorem d_Nod_entryAt_14 : decode prog_4_method_2_code 14 = .ok (.getfield 17, 3) := by decide +kernel
theorem d_Nod_entryAt_17 : decode prog_4_method_2_code 17 = .ok (.iload_n 1, 1) := by decide +kernel
theorem d_Nod_entryAt_18 : decode prog_4_method_2_code 18 = .ok (.aaload, 1) := by decide +kernel
theorem d_Nod_entryAt_19 : decode prog_4_method_2_code 19 = .ok (.goto 4, 3) := by decide +kernel
theorem d_Nod_entryAt_22 : decode prog_4_method_2_code 22 = .ok (.aconst_null, 1) := by decide +kernel
theorem d_Nod_entryAt_23 : decode prog_4_method_2_code 23 = .ok (.areturn, 1) := by decide +kernel
theorem d_Nod_nodeAt_0 : decode prog_4_method_3_code 0 = .ok (.iload_n 1, 1) := by decide +kernel
theorem d_Nod_nodeAt_1 : decode prog_4_method_3_code 1 = .ok (.ifCond .lt 21, 3) := by decide +kernel
theorem d_Nod_nodeAt_4 : decode prog_4_method_3_code 4 = .ok (.iload_n 1, 1) := by decide +kernel
theorem d_Nod_nodeAt_5 : decode prog_4_method_3_code 5 = .ok (.aload_n 0, 1) := by decide +kernel
theorem d_Nod_nodeAt_6 : decode prog_4_method_3_code 6 = .ok (.getfield 21, 3) := by decide +kernel
theorem d_Nod_nodeAt_9 : decode prog_4_method_3_code 9 = .ok (.arraylength, 1) := by decide +kernel
theorem d_Nod_nodeAt_10 : decode prog_4_method_3_code 10 = .ok (.if_icmp .ge 12, 3) := by decide +kernel
theorem d_Nod_nodeAt_13 : decode prog_4_method_3_code 13 = .ok (.aload_n 0, 1) := by decide +kernel
theorem d_Nod_nodeAt_14 : decode prog_4_method_3_code 14 = .ok (.getfield 21, 3) := by decide +kernel
theorem d_Nod_nodeAt_17 : decode prog_4_method_3_code 17 = .ok (.iload_n 1, 1) := by decide +kernel
theorem d_Nod_nodeAt_18 : decode prog_4_method_3_code 18 = .ok (.aaload, 1) := by decide +kernel
theorem d_Nod_nodeAt_19 : decode prog_4_method_3_code 19 = .ok (.goto 4, 3) := by decide +kernel
theorem d_Nod_nodeAt_22 : decode prog_4_method_3_code 22 = .ok (.aconst_null, 1) := by decide +kernel
theorem d_Nod_nodeAt_23 : decode prog_4_method_3_code 23 = .ok (.areturn, 1) := by decide +kernel
theorem d_Nod_countEntries_0 : decode prog_4_method_4_code 0 = .ok (.iconst 0, 1) := by decide +kernel
theorem d_Nod_countEntries_1 : decode prog_4_method_4_code 1 = .ok (.istore_n 1, 1) := by decide +kernel
theorem d_Nod_countEntries_2 : decode prog_4_method_4_code 2 = .ok (.iconst 0, 1) := by decide +kernel
theorem d_Nod_countEntries_3 : decode prog_4_method_4_code 3 = .ok (.istore_n 2, 1) := by decide +kernel
theorem d_Nod_countEntries_4 : decode prog_4_method_4_code 4 = .ok (.iload_n 2, 1) := by decide +kernel
theorem d_Nod_countEntries_5 : decode prog_4_method_4_code 5 = .ok (.aload_n 0, 1) := by decide +kernel
theorem d_Nod_countEntries_6 : decode prog_4_method_4_code 6 = .ok (.getfield 17, 3) := by decide +kernel
theorem d_Nod_countEntries_9 : decode prog_4_method_4_code 9 = .ok (.arraylength, 1) := by decide +kernel
theorem d_Nod_countEntries_10 : decode prog_4_method_4_code 10 = .ok (.if_icmp .ge 21, 3) := by decide +kernel
theorem d_Nod_countEntries_13 : decode prog_4_method_4_code 13 = .ok (.aload_n 0, 1) := by decide +kernel
theorem d_Nod_countEntries_14 : decode prog_4_method_4_code 14 = .ok (.getfield 17, 3) := by decide +kernel
theorem d_Nod_countEntries_17 : decode prog_4_method_4_code 17 = .ok (.iload_n 2, 1) := by decide +kernel
theorem d_Nod_countEntries_18 : decode prog_4_method_4_code 18 = .ok (.aaload, 1) := by decide +kernel
theorem d_Nod_countEntries_19 : decode prog_4_method_4_code 19 = .ok (.ifnull 6, 3) := by decide +kernel
theorem d_Nod_countEntries_22 : decode prog_4_method_4_code 22 = .ok (.iinc 1 1, 3) := by decide +kernel
theorem d_Nod_countEntries_25 : decode prog_4_method_4_code 25 = .ok (.iinc 2 1, 3) := by decide +kernel
theorem d_Nod_countEntries_28 : decode prog_4_method_4_code 28 = .ok (.goto (-24), 3) := by decide +kernel
theorem d_Nod_countEntries_31 : decode prog_4_method_4_code 31 = .ok (.iload_n 1, 1) := by decide +kernel
theorem d_Nod_countEntries_32 : decode prog_4_method_4_code 32 = .ok (.ireturn, 1) := by decide +kernel
theorem d_Nod_onlyEntry_0 : decode prog_4_method_5_code 0 = .ok (.iconst 0, 1) := by decide +kernel
theorem d_Nod_onlyEntry_1 : decode prog_4_method_5_code 1 = .ok (.istore_n 1, 1) := by decide +kernel
theorem d_Nod_onlyEntry_2 : decode prog_4_method_5_code 2 = .ok (.iload_n 1, 1) := by decide +kernel
theorem d_Nod_onlyEntry_3 : decode prog_4_method_5_code 3 = .ok (.aload_n 0, 1) := by decide +kernel
theorem d_Nod_onlyEntry_4 : decode prog_4_method_5_code 4 = .ok (.getfield 21, 3) := by decide +kernel
theorem d_Nod_onlyEntry_7 : decode prog_4_method_5_code 7 = .ok (.arraylength, 1) := by decide +kernel
theorem d_Nod_onlyEntry_8 : decode prog_4_method_5_code 8 = .ok (.if_icmp .ge 20, 3) := by decide +kernel
theorem d_Nod_onlyEntry_11 : decode prog_4_method_5_code 11 = .ok (.aload_n 0, 1) := by decide +kernel
theorem d_Nod_onlyEntry_12 : decode prog_4_method_5_code 12 = .ok (.getfield 21, 3) := by decide +kernel
theorem d_Nod_onlyEntry_15 : decode prog_4_method_5_code 15 = .ok (.iload_n 1, 1) := by decide +kernel
theorem d_Nod_onlyEntry_16 : decode prog_4_method_5_code 16 = .ok (.aaload, 1) := by decide +kernel
theorem d_Nod_onlyEntry_17 : decode prog_4_method_5_code 17 = .ok (.ifnull 5, 3) := by decide +kernel
theorem d_Nod_onlyEntry_20 : decode prog_4_method_5_code 20 = .ok (.aconst_null, 1) := by decide +kernel
theorem d_Nod_onlyEntry_21 : decode prog_4_method_5_code 21 = .ok (.areturn, 1) := by decide +kernel
theorem d_Nod_onlyEntry_22 : decode prog_4_method_5_code 22 = .ok (.iinc 1 1, 3) := by decide +kernel
theorem d_Nod_onlyEntry_25 : decode prog_4_method_5_code 25 = .ok (.goto (-23), 3) := by decide +kernel
theorem d_Nod_onlyEntry_28 : decode prog_4_method_5_code 28 = .ok (.aconst_null, 1) := by decide +kernel
theorem d_Nod_onlyEntry_29 : decode prog_4_method_5_code 29 = .ok (.astore_n 1, 1) := by decide +kernel
theorem d_Nod_onlyEntry_30 : decode prog_4_method_5_code 30 = .ok (.iconst 0, 1) := by decide +kernel
theorem d_Nod_onlyEntry_31 : decode prog_4_method_5_code 31 = .ok (.istore_n 2, 1) := by decide +kernel
theorem d_Nod_onlyEntry_32 : decode prog_4_method_5_code 32 = .ok (.iload_n 2, 1) := by decide +kernel
theorem d_Nod_onlyEntry_33 : decode prog_4_method_5_code 33 = .ok (.aload_n 0, 1) := by decide +kernel
theorem d_Nod_onlyEntry_34 : decode prog_4_method_5_code 34 = .ok (.getfield 17, 3) := by decide +kernel
theorem d_Nod_onlyEntry_37 : decode prog_4_method_5_code 37 = .ok (.arraylength, 1) := by decide +kernel
theorem d_Nod_onlyEntry_38 : decode prog_4_method_5_code 38 = .ok (.if_icmp .ge 44, 3) := by decide +kernel
theorem d_Nod_onlyEntry_41 : decode prog_4_method_5_code 41 = .ok (.aload_n 0, 1) := by decide +kernel
theorem d_Nod_onlyEntry_42 : decode prog_4_method_5_code 42 = .ok (.getfield 17, 3) := by decide +kernel
theorem d_Nod_onlyEntry_45 : decode prog_4_method_5_code 45 = .ok (.iload_n 2, 1) := by decide +kernel
theorem d_Nod_onlyEntry_46 : decode prog_4_method_5_code 46 = .ok (.aaload, 1) := by decide +kernel
theorem d_Nod_onlyEntry_47 : decode prog_4_method_5_code 47 = .ok (.ifnull 9, 3) := by decide +kernel
theorem d_Nod_onlyEntry_50 : decode prog_4_method_5_code 50 = .ok (.aload_n 1, 1) := by decide +kernel
theorem d_Nod_onlyEntry_51 : decode prog_4_method_5_code 51 = .ok (.ifnull 5, 3) := by decide +kernel
theorem d_Nod_onlyEntry_54 : decode prog_4_method_5_code 54 = .ok (.aconst_null, 1) := by decide +kernel
theorem d_Nod_onlyEntry_55 : decode prog_4_method_5_code 55 = .ok (.areturn, 1) := by decide +kernel
theorem d_Nod_onlyEntry_56 : decode prog_4_method_5_code 56 = .ok (.aload_n 0, 1) := by decide +kernel
theorem d_Nod_onlyEntry_57 : decode prog_4_method_5_code 57 = .ok (.getfield 17, 3) := by decide +kernel
theorem d_Nod_onlyEntry_60 : decode prog_4_method_5_code 60 = .ok (.iload_n 2, 1) := by decide +kernel
theorem d_Nod_onlyEntry_61 : decode prog_4_method_5_code 61 = .ok (.aaload, 1) := by decide +kernel
theorem d_Nod_onlyEntry_62 : decode prog_4_method_5_code 62 = .ok (.ifnull 12, 3) := by decide +kernel
theorem d_Nod_onlyEntry_65 : decode prog_4_method_5_code 65 = .ok (.aload_n 0, 1) := by decide +kernel
theorem d_Nod_onlyEntry_66 : decode prog_4_method_5_code 66 = .ok (.getfield 17, 3) := by decide +kernel
theorem d_Nod_onlyEntry_69 : decode prog_4_method_5_code 69 = .ok (.iload_n 2, 1) := by decide +kernel
theorem d_Nod_onlyEntry_70 : decode prog_4_method_5_code 70 = .ok (.aaload, 1) := by decide +kernel
theorem d_Nod_onlyEntry_71 : decode prog_4_method_5_code 71 = .ok (.goto 4, 3) := by decide +kernel
theorem d_Nod_onlyEntry_74 : decode prog_4_method_5_code 74 = .ok (.aload_n 1, 1) := by decide +kernel
theorem d_Nod_onlyEntry_75 : decode prog_4_method_5_code 75 = .ok (.astore_n 1, 1) := by decide +kernel
theorem d_Nod_onlyEntry_76 : decode prog_4_method_5_code 76 = .ok (.iinc 2 1, 3) := by decide +kernel
theorem d_Nod_onlyEntry_79 : decode prog_4_method_5_code 79 = .ok (.goto (-47), 3) := by decide +kernel
theorem d_Nod_onlyEntry_82 : decode prog_4_method_5_code 82 = .ok (.aload_n 1, 1) := by decide +kernel
theorem d_Nod_onlyEntry_83 : decode prog_4_method_5_code 83 = .ok (.areturn, 1) := by decide +kernel
theorem d_Nod_placeInBag_0 : decode prog_4_method_6_code 0 = .ok (.iconst 0, 1) := by decide +kernel
theorem d_Nod_placeInBag_1 : decode prog_4_method_6_code 1 = .ok (.istore_n 2, 1) := by decide +kernel
theorem d_Nod_placeInBag_2 : decode prog_4_method_6_code 2 = .ok (.iload_n 2, 1) := by decide +kernel
theorem d_Nod_placeInBag_3 : decode prog_4_method_6_code 3 = .ok (.aload_n 0, 1) := by decide +kernel
theorem d_Nod_placeInBag_4 : decode prog_4_method_6_code 4 = .ok (.getfield 17, 3) := by decide +kernel
theorem d_Nod_placeInBag_7 : decode prog_4_method_6_code 7 = .ok (.arraylength, 1) := by decide +kernel
theorem d_Nod_placeInBag_8 : decode prog_4_method_6_code 8 = .ok (.if_icmp .ge 33, 3) := by decide +kernel
theorem d_Nod_placeInBag_11 : decode prog_4_method_6_code 11 = .ok (.aload_n 0, 1) := by decide +kernel
theorem d_Nod_placeInBag_12 : decode prog_4_method_6_code 12 = .ok (.getfield 17, 3) := by decide +kernel
theorem d_Nod_placeInBag_15 : decode prog_4_method_6_code 15 = .ok (.iload_n 2, 1) := by decide +kernel
theorem d_Nod_placeInBag_16 : decode prog_4_method_6_code 16 = .ok (.aaload, 1) := by decide +kernel
theorem d_Nod_placeInBag_17 : decode prog_4_method_6_code 17 = .ok (.ifnull 18, 3) := by decide +kernel
theorem d_Nod_placeInBag_20 : decode prog_4_method_6_code 20 = .ok (.aload_n 0, 1) := by decide +kernel
theorem d_Nod_placeInBag_21 : decode prog_4_method_6_code 21 = .ok (.getfield 17, 3) := by decide +kernel
theorem d_Nod_placeInBag_24 : decode prog_4_method_6_code 24 = .ok (.iload_n 2, 1) := by decide +kernel
theorem d_Nod_placeInBag_25 : decode prog_4_method_6_code 25 = .ok (.aaload, 1) := by decide +kernel
theorem d_Nod_placeInBag_26 : decode prog_4_method_6_code 26 = .ok (.getfield 25, 3) := by decide +kernel
theorem d_Nod_placeInBag_29 : decode prog_4_method_6_code 29 = .ok (.iload_n 1, 1) := by decide +kernel
theorem d_Nod_placeInBag_30 : decode prog_4_method_6_code 30 = .ok (.if_icmp .ne 5, 3) := by decide +kernel
theorem d_Nod_placeInBag_33 : decode prog_4_method_6_code 33 = .ok (.iload_n 2, 1) := by decide +kernel
theorem d_Nod_placeInBag_34 : decode prog_4_method_6_code 34 = .ok (.ireturn, 1) := by decide +kernel
theorem d_Nod_placeInBag_35 : decode prog_4_method_6_code 35 = .ok (.iinc 2 1, 3) := by decide +kernel
theorem d_Nod_placeInBag_38 : decode prog_4_method_6_code 38 = .ok (.goto (-36), 3) := by decide +kernel
theorem d_Nod_placeInBag_41 : decode prog_4_method_6_code 41 = .ok (.iconst (-1), 1) := by decide +kernel
theorem d_Nod_placeInBag_42 : decode prog_4_method_6_code 42 = .ok (.ireturn, 1) := by decide +kernel
theorem d_Nod_putInBag_0 : decode prog_4_method_7_code 0 = .ok (.aload_n 0, 1) := by decide +kernel
theorem d_Nod_putInBag_1 : decode prog_4_method_7_code 1 = .ok (.aload_n 1, 1) := by decide +kernel
theorem d_Nod_putInBag_2 : decode prog_4_method_7_code 2 = .ok (.getfield 25, 3) := by decide +kernel
theorem d_Nod_putInBag_5 : decode prog_4_method_7_code 5 = .ok (.invokevirtual 28, 3) := by decide +kernel
theorem d_Nod_putInBag_8 : decode prog_4_method_7_code 8 = .ok (.istore_n 2, 1) := by decide +kernel
theorem d_Nod_putInBag_9 : decode prog_4_method_7_code 9 = .ok (.iload_n 2, 1) := by decide +kernel
theorem d_Nod_putInBag_10 : decode prog_4_method_7_code 10 = .ok (.iconst (-1), 1) := by decide +kernel
theorem d_Nod_putInBag_11 : decode prog_4_method_7_code 11 = .ok (.if_icmp .eq 7, 3) := by decide +kernel
theorem d_Nod_putInBag_14 : decode prog_4_method_7_code 14 = .ok (.iload_n 2, 1) := by decide +kernel
theorem d_Nod_putInBag_15 : decode prog_4_method_7_code 15 = .ok (.goto 7, 3) := by decide +kernel
theorem d_Nod_putInBag_18 : decode prog_4_method_7_code 18 = .ok (.aload_n 0, 1) := by decide +kernel
theorem d_Nod_putInBag_19 : decode prog_4_method_7_code 19 = .ok (.invokevirtual 32, 3) := by decide +kernel
theorem d_Nod_putInBag_22 : decode prog_4_method_7_code 22 = .ok (.istore_n 3, 1) := by decide +kernel
theorem d_Nod_putInBag_23 : decode prog_4_method_7_code 23 = .ok (.iload_n 3, 1) := by decide +kernel
theorem d_Nod_putInBag_24 : decode prog_4_method_7_code 24 = .ok (.aload_n 0, 1) := by decide +kernel
theorem d_Nod_putInBag_25 : decode prog_4_method_7_code 25 = .ok (.getfield 17, 3) := by decide +kernel
theorem d_Nod_putInBag_28 : decode prog_4_method_7_code 28 = .ok (.arraylength, 1) := by decide +kernel
theorem d_Nod_putInBag_29 : decode prog_4_method_7_code 29 = .ok (.if_icmp .ge 10, 3) := by decide +kernel
theorem d_Nod_putInBag_32 : decode prog_4_method_7_code 32 = .ok (.aload_n 0, 1) := by decide +kernel
theorem d_Nod_putInBag_33 : decode prog_4_method_7_code 33 = .ok (.getfield 17, 3) := by decide +kernel
theorem d_Nod_putInBag_36 : decode prog_4_method_7_code 36 = .ok (.iload_n 3, 1) := by decide +kernel
theorem d_Nod_putInBag_37 : decode prog_4_method_7_code 37 = .ok (.aload_n 1, 1) := by decide +kernel
theorem d_Nod_putInBag_38 : decode prog_4_method_7_code 38 = .ok (.aastore, 1) := by decide +kernel
theorem d_Nod_putInBag_39 : decode prog_4_method_7_code 39 = .ok (.return_, 1) := by decide +kernel
theorem d_Nod_takeOutOfBag_0 : decode prog_4_method_8_code 0 = .ok (.aload_n 0, 1) := by decide +kernel
theorem d_Nod_takeOutOfBag_1 : decode prog_4_method_8_code 1 = .ok (.iload_n 1, 1) := by decide +kernel
theorem d_Nod_takeOutOfBag_2 : decode prog_4_method_8_code 2 = .ok (.invokevirtual 28, 3) := by decide +kernel
theorem d_Nod_takeOutOfBag_5 : decode prog_4_method_8_code 5 = .ok (.istore_n 2, 1) := by decide +kernel
theorem d_Nod_takeOutOfBag_6 : decode prog_4_method_8_code 6 = .ok (.iload_n 2, 1) := by decide +kernel
theorem d_Nod_takeOutOfBag_7 : decode prog_4_method_8_code 7 = .ok (.iconst (-1), 1) := by decide +kernel
theorem d_Nod_takeOutOfBag_8 : decode prog_4_method_8_code 8 = .ok (.if_icmp .ne 4, 3) := by decide +kernel
theorem d_Nod_takeOutOfBag_11 : decode prog_4_method_8_code 11 = .ok (.return_, 1) := by decide +kernel
theorem d_Nod_takeOutOfBag_12 : decode prog_4_method_8_code 12 = .ok (.iload_n 2, 1) := by decide +kernel
theorem d_Nod_takeOutOfBag_13 : decode prog_4_method_8_code 13 = .ok (.istore_n 3, 1) := by decide +kernel
theorem d_Nod_takeOutOfBag_14 : decode prog_4_method_8_code 14 = .ok (.iload_n 3, 1) := by decide +kernel
theorem d_Nod_takeOutOfBag_15 : decode prog_4_method_8_code 15 = .ok (.aload_n 0, 1) := by decide +kernel
theorem d_Nod_takeOutOfBag_16 : decode prog_4_method_8_code 16 = .ok (.getfield 17, 3) := by decide +kernel
theorem d_Nod_takeOutOfBag_19 : decode prog_4_method_8_code 19 = .ok (.arraylength, 1) := by decide +kernel
theorem d_Nod_takeOutOfBag_20 : decode prog_4_method_8_code 20 = .ok (.if_icmp .ge 22, 3) := by decide +kernel
theorem d_Nod_takeOutOfBag_23 : decode prog_4_method_8_code 23 = .ok (.aload_n 0, 1) := by decide +kernel
theorem d_Nod_takeOutOfBag_24 : decode prog_4_method_8_code 24 = .ok (.getfield 17, 3) := by decide +kernel
theorem d_Nod_takeOutOfBag_27 : decode prog_4_method_8_code 27 = .ok (.iload_n 3, 1) := by decide +kernel
theorem d_Nod_takeOutOfBag_28 : decode prog_4_method_8_code 28 = .ok (.aload_n 0, 1) := by decide +kernel
theorem d_Nod_takeOutOfBag_29 : decode prog_4_method_8_code 29 = .ok (.iload_n 3, 1) := by decide +kernel
theorem d_Nod_takeOutOfBag_30 : decode prog_4_method_8_code 30 = .ok (.iconst 1, 1) := by decide +kernel
theorem d_Nod_takeOutOfBag_31 : decode prog_4_method_8_code 31 = .ok (.iadd, 1) := by decide +kernel
theorem d_Nod_takeOutOfBag_32 : decode prog_4_method_8_code 32 = .ok (.invokevirtual 36, 3) := by decide +kernel
theorem d_Nod_takeOutOfBag_35 : decode prog_4_method_8_code 35 = .ok (.aastore, 1) := by decide +kernel
theorem d_Nod_takeOutOfBag_36 : decode prog_4_method_8_code 36 = .ok (.iinc 3 1, 3) := by decide +kernel
theorem d_Nod_takeOutOfBag_39 : decode prog_4_method_8_code 39 = .ok (.goto (-25), 3) := by decide +kernel
theorem d_Nod_takeOutOfBag_42 : decode prog_4_method_8_code 42 = .ok (.return_, 1) := by decide +kernel
theorem d_Tal_init_0 : decode prog_5_method_1_code 0 = .ok (.aload_n 0, 1) := by decide +kernel
theorem d_Tal_init_1 : decode prog_5_method_1_code 1 = .ok (.invokespecial 3, 3) := by decide +kernel
theorem d_Tal_init_4 : decode prog_5_method_1_code 4 = .ok (.aload_n 0, 1) := by decide +kernel
theorem d_Tal_init_5 : decode prog_5_method_1_code 5 = .ok (.iload_n 1, 1) := by decide +kernel
theorem d_Tal_init_6 : decode prog_5_method_1_code 6 = .ok (.putfield 9, 3) := by decide +kernel
theorem d_Tal_init_9 : decode prog_5_method_1_code 9 = .ok (.return_, 1) := by decide +kernel
theorem d_Tal_add_0 : decode prog_5_method_2_code 0 = .ok (.aload_n 0, 1) := by decide +kernel
theorem d_Tal_add_1 : decode prog_5_method_2_code 1 = .ok (.dup, 1) := by decide +kernel
theorem d_Tal_add_2 : decode prog_5_method_2_code 2 = .ok (.getfield 15, 3) := by decide +kernel
theorem d_Tal_add_5 : decode prog_5_method_2_code 5 = .ok (.aload_n 1, 1) := by decide +kernel
theorem d_Tal_add_6 : decode prog_5_method_2_code 6 = .ok (.invokevirtual 18, 3) := by decide +kernel
theorem d_Tal_add_9 : decode prog_5_method_2_code 9 = .ok (.iadd, 1) := by decide +kernel
theorem d_Tal_add_10 : decode prog_5_method_2_code 10 = .ok (.putfield 15, 3) := by decide +kernel
theorem d_Tal_add_13 : decode prog_5_method_2_code 13 = .ok (.aload_n 0, 1) := by decide +kernel
theorem d_Tal_add_14 : decode prog_5_method_2_code 14 = .ok (.dup, 1) := by decide +kernel
theorem d_Tal_add_15 : decode prog_5_method_2_code 15 = .ok (.getfield 24, 3) := by decide +kernel
theorem d_Tal_add_18 : decode prog_5_method_2_code 18 = .ok (.iconst 1, 1) := by decide +kernel
theorem d_Tal_add_19 : decode prog_5_method_2_code 19 = .ok (.iadd, 1) := by decide +kernel
theorem d_Tal_add_20 : decode prog_5_method_2_code 20 = .ok (.putfield 24, 3) := by decide +kernel
theorem d_Tal_add_23 : decode prog_5_method_2_code 23 = .ok (.aload_n 0, 1) := by decide +kernel
theorem d_Tal_add_24 : decode prog_5_method_2_code 24 = .ok (.dup, 1) := by decide +kernel
theorem d_Tal_add_25 : decode prog_5_method_2_code 25 = .ok (.getfield 27, 3) := by decide +kernel
theorem d_Tal_add_28 : decode prog_5_method_2_code 28 = .ok (.iload_n 2, 1) := by decide +kernel
theorem d_Tal_add_29 : decode prog_5_method_2_code 29 = .ok (.iconst 4, 1) := by decide +kernel
theorem d_Tal_add_30 : decode prog_5_method_2_code 30 = .ok (.if_icmp .ne 7, 3) := by decide +kernel
theorem d_Tal_add_33 : decode prog_5_method_2_code 33 = .ok (.iconst 1, 1) := by decide +kernel
theorem d_Tal_add_34 : decode prog_5_method_2_code 34 = .ok (.goto 4, 3) := by decide +kernel
theorem d_Tal_add_37 : decode prog_5_method_2_code 37 = .ok (.iconst 0, 1) := by decide +kernel
theorem d_Tal_add_38 : decode prog_5_method_2_code 38 = .ok (.iadd, 1) := by decide +kernel
theorem d_Tal_add_39 : decode prog_5_method_2_code 39 = .ok (.putfield 27, 3) := by decide +kernel
theorem d_Tal_add_42 : decode prog_5_method_2_code 42 = .ok (.aload_n 0, 1) := by decide +kernel
theorem d_Tal_add_43 : decode prog_5_method_2_code 43 = .ok (.aload_n 0, 1) := by decide +kernel
theorem d_Tal_add_44 : decode prog_5_method_2_code 44 = .ok (.getfield 30, 3) := by decide +kernel
theorem d_Tal_add_47 : decode prog_5_method_2_code 47 = .ok (.iload_n 2, 1) := by decide +kernel
theorem d_Tal_add_48 : decode prog_5_method_2_code 48 = .ok (.iconst 1, 1) := by decide +kernel
theorem d_Tal_add_49 : decode prog_5_method_2_code 49 = .ok (.iadd, 1) := by decide +kernel
theorem d_Tal_add_50 : decode prog_5_method_2_code 50 = .ok (.invokestatic 33, 3) := by decide +kernel
theorem d_Tal_add_53 : decode prog_5_method_2_code 53 = .ok (.putfield 30, 3) := by decide +kernel
theorem d_Tal_add_56 : decode prog_5_method_2_code 56 = .ok (.aload_n 0, 1) := by decide +kernel
theorem d_Tal_add_57 : decode prog_5_method_2_code 57 = .ok (.dup, 1) := by decide +kernel
theorem d_Tal_add_58 : decode prog_5_method_2_code 58 = .ok (.getfield 39, 3) := by decide +kernel
theorem d_Tal_add_61 : decode prog_5_method_2_code 61 = .ok (.aload_n 1, 1) := by decide +kernel
theorem d_Tal_add_62 : decode prog_5_method_2_code 62 = .ok (.getfield 42, 3) := by decide +kernel
theorem d_Tal_add_65 : decode prog_5_method_2_code 65 = .ok (.aload_n 0, 1) := by decide +kernel
theorem d_Tal_add_66 : decode prog_5_method_2_code 66 = .ok (.getfield 9, 3) := by decide +kernel
theorem d_Tal_add_69 : decode prog_5_method_2_code 69 = .ok (.if_icmp .ne 7, 3) := by decide +kernel
theorem d_Tal_add_72 : decode prog_5_method_2_code 72 = .ok (.iconst 1, 1) := by decide +kernel
theorem d_Tal_add_73 : decode prog_5_method_2_code 73 = .ok (.goto 4, 3) := by decide +kernel
theorem d_Tal_add_76 : decode prog_5_method_2_code 76 = .ok (.iconst 0, 1) := by decide +kernel
theorem d_Tal_add_77 : decode prog_5_method_2_code 77 = .ok (.iadd, 1) := by decide +kernel
theorem d_Tal_add_78 : decode prog_5_method_2_code 78 = .ok (.putfield 39, 3) := by decide +kernel
theorem d_Tal_add_81 : decode prog_5_method_2_code 81 = .ok (.return_, 1) := by decide +kernel
theorem d_Map_init_0 : decode prog_6_method_1_code 0 = .ok (.aload_n 0, 1) := by decide +kernel
theorem d_Map_init_1 : decode prog_6_method_1_code 1 = .ok (.invokespecial 1, 3) := by decide +kernel
theorem d_Map_init_4 : decode prog_6_method_1_code 4 = .ok (.aload_n 0, 1) := by decide +kernel
theorem d_Map_init_5 : decode prog_6_method_1_code 5 = .ok (.aload_n 1, 1) := by decide +kernel
theorem d_Map_init_6 : decode prog_6_method_1_code 6 = .ok (.putfield 7, 3) := by decide +kernel
theorem d_Map_init_9 : decode prog_6_method_1_code 9 = .ok (.aload_n 0, 1) := by decide +kernel
theorem d_Map_init_10 : decode prog_6_method_1_code 10 = .ok (.iload_n 2, 1) := by decide +kernel
theorem d_Map_init_11 : decode prog_6_method_1_code 11 = .ok (.putfield 13, 3) := by decide +kernel
theorem d_Map_init_14 : decode prog_6_method_1_code 14 = .ok (.aload_n 0, 1) := by decide +kernel
theorem d_Map_init_15 : decode prog_6_method_1_code 15 = .ok (.iload_n 3, 1) := by decide +kernel
theorem d_Map_init_16 : decode prog_6_method_1_code 16 = .ok (.putfield 17, 3) := by decide +kernel
theorem d_Map_init_19 : decode prog_6_method_1_code 19 = .ok (.return_, 1) := by decide +kernel
end
section
theorem d_Tri_init_0 : decode prog_1_method_1_code 0 = .ok (.aload_n 0, 1) := by decide +kernel
theorem d_Tri_init_1 : decode prog_1_method_1_code 1 = .ok (.invokespecial 1, 3) := by decide +kernel
theorem d_Tri_init_4 : decode prog_1_method_1_code 4 = .ok (.aload_n 0, 1) := by decide +kernel
theorem d_Tri_init_5 : decode prog_1_method_1_code 5 = .ok (.bipush 6, 2) := by decide +kernel
theorem d_Tri_init_7 : decode prog_1_method_1_code 7 = .ok (.anewarray 9, 3) := by decide +kernel
theorem d_Tri_init_10 : decode prog_1_method_1_code 10 = .ok (.putfield 11, 3) := by decide +kernel
theorem d_Tri_init_13 : decode prog_1_method_1_code 13 = .ok (.aload_n 0, 1) := by decide +kernel
theorem d_Tri_init_14 : decode prog_1_method_1_code 14 = .ok (.iconst 4, 1) := by decide +kernel
theorem d_Tri_init_15 : decode prog_1_method_1_code 15 = .ok (.anewarray 15, 3) := by decide +kernel
theorem d_Tri_init_18 : decode prog_1_method_1_code 18 = .ok (.putfield 17, 3) := by decide +kernel
theorem d_Tri_init_21 : decode prog_1_method_1_code 21 = .ok (.aload_n 0, 1) := by decide +kernel
theorem d_Tri_init_22 : decode prog_1_method_1_code 22 = .ok (.iconst 1, 1) := by decide +kernel
theorem d_Tri_init_23 : decode prog_1_method_1_code 23 = .ok (.putfield 21, 3) := by decide +kernel
theorem d_Tri_init_26 : decode prog_1_method_1_code 26 = .ok (.aload_n 0, 1) := by decide +kernel
theorem d_Tri_init_27 : decode prog_1_method_1_code 27 = .ok (.getfield 11, 3) := by decide +kernel
theorem d_Tri_init_30 : decode prog_1_method_1_code 30 = .ok (.iconst 0, 1) := by decide +kernel
theorem d_Tri_init_31 : decode prog_1_method_1_code 31 = .ok (.new 9, 3) := by decide +kernel
theorem d_Tri_init_34 : decode prog_1_method_1_code 34 = .ok (.dup, 1) := by decide +kernel
theorem d_Tri_init_35 : decode prog_1_method_1_code 35 = .ok (.new 25, 3) := by decide +kernel
theorem d_Tri_init_38 : decode prog_1_method_1_code 38 = .ok (.dup, 1) := by decide +kernel
theorem d_Tri_init_39 : decode prog_1_method_1_code 39 = .ok (.aload_n 0, 1) := by decide +kernel
theorem d_Tri_init_40 : decode prog_1_method_1_code 40 = .ok (.getfield 21, 3) := by decide +kernel
theorem d_Tri_init_43 : decode prog_1_method_1_code 43 = .ok (.iconst 0, 1) := by decide +kernel
theorem d_Tri_init_44 : decode prog_1_method_1_code 44 = .ok (.invokespecial 27, 3) := by decide +kernel
theorem d_Tri_init_47 : decode prog_1_method_1_code 47 = .ok (.aload_n 0, 1) := by decide +kernel
theorem d_Tri_init_48 : decode prog_1_method_1_code 48 = .ok (.getfield 21, 3) := by decide +kernel
theorem d_Tri_init_51 : decode prog_1_method_1_code 51 = .ok (.iconst 0, 1) := by decide +kernel
theorem d_Tri_init_52 : decode prog_1_method_1_code 52 = .ok (.invokespecial 30, 3) := by decide +kernel
theorem d_Tri_init_55 : decode prog_1_method_1_code 55 = .ok (.aastore, 1) := by decide +kernel
theorem d_Tri_init_56 : decode prog_1_method_1_code 56 = .ok (.return_, 1) := by decide +kernel
theorem d_Tri_put_0 : decode prog_1_method_2_code 0 = .ok (.aload_n 0, 1) := by decide +kernel
theorem d_Tri_put_1 : decode prog_1_method_2_code 1 = .ok (.iload_n 1, 1) := by decide +kernel
theorem d_Tri_put_2 : decode prog_1_method_2_code 2 = .ok (.invokevirtual 33, 3) := by decide +kernel
theorem d_Tri_put_5 : decode prog_1_method_2_code 5 = .ok (.astore 5, 2) := by decide +kernel
theorem d_Tri_put_7 : decode prog_1_method_2_code 7 = .ok (.aload 5, 2) := by decide +kernel
theorem d_Tri_put_9 : decode prog_1_method_2_code 9 = .ok (.getfield 37, 3) := by decide +kernel
theorem d_Tri_put_12 : decode prog_1_method_2_code 12 = .ok (.iload_n 2, 1) := by decide +kernel
theorem d_Tri_put_13 : decode prog_1_method_2_code 13 = .ok (.invokestatic 41, 3) := by decide +kernel
theorem d_Tri_put_16 : decode prog_1_method_2_code 16 = .ok (.ifnonnull 7, 3) := by decide +kernel
theorem d_Tri_put_19 : decode prog_1_method_2_code 19 = .ok (.iconst 1, 1) := by decide +kernel
theorem d_Tri_put_20 : decode prog_1_method_2_code 20 = .ok (.goto 4, 3) := by decide +kernel
theorem d_Tri_put_23 : decode prog_1_method_2_code 23 = .ok (.iconst 0, 1) := by decide +kernel
theorem d_Tri_put_24 : decode prog_1_method_2_code 24 = .ok (.istore 6, 2) := by decide +kernel
theorem d_Tri_put_26 : decode prog_1_method_2_code 26 = .ok (.iload 6, 2) := by decide +kernel
theorem d_Tri_put_28 : decode prog_1_method_2_code 28 = .ok (.ifCond .eq 23, 3) := by decide +kernel
theorem d_Tri_put_31 : decode prog_1_method_2_code 31 = .ok (.aload 5, 2) := by decide +kernel
theorem d_Tri_put_33 : decode prog_1_method_2_code 33 = .ok (.getfield 37, 3) := by decide +kernel
theorem d_Tri_put_36 : decode prog_1_method_2_code 36 = .ok (.iload_n 2, 1) := by decide +kernel
theorem d_Tri_put_37 : decode prog_1_method_2_code 37 = .ok (.invokestatic 45, 3) := by decide +kernel
theorem d_Tri_put_40 : decode prog_1_method_2_code 40 = .ok (.ifCond .ne 11, 3) := by decide +kernel
theorem d_Tri_put_43 : decode prog_1_method_2_code 43 = .ok (.new 49, 3) := by decide +kernel
theorem d_Tri_put_46 : decode prog_1_method_2_code 46 = .ok (.dup, 1) := by decide +kernel
theorem d_Tri_put_47 : decode prog_1_method_2_code 47 = .ok (.invokespecial 51, 3) := by decide +kernel
theorem d_Tri_put_50 : decode prog_1_method_2_code 50 = .ok (.athrow, 1) := by decide +kernel
theorem d_Tri_put_51 : decode prog_1_method_2_code 51 = .ok (.aload_n 0, 1) := by decide +kernel
theorem d_Tri_put_52 : decode prog_1_method_2_code 52 = .ok (.aload 5, 2) := by decide +kernel
theorem d_Tri_put_54 : decode prog_1_method_2_code 54 = .ok (.new 52, 3) := by decide +kernel
theorem d_Tri_put_57 : decode prog_1_method_2_code 57 = .ok (.dup, 1) := by decide +kernel
theorem d_Tri_put_58 : decode prog_1_method_2_code 58 = .ok (.iload_n 2, 1) := by decide +kernel
theorem d_Tri_put_59 : decode prog_1_method_2_code 59 = .ok (.lload_n 3, 1) := by decide +kernel
theorem d_Tri_put_60 : decode prog_1_method_2_code 60 = .ok (.invokespecial 54, 3) := by decide +kernel
theorem d_Tri_put_63 : decode prog_1_method_2_code 63 = .ok (.invokevirtual 57, 3) := by decide +kernel
theorem d_Tri_put_66 : decode prog_1_method_2_code 66 = .ok (.iload 6, 2) := by decide +kernel
theorem d_Tri_put_68 : decode prog_1_method_2_code 68 = .ok (.ireturn, 1) := by decide +kernel
theorem d_Tri_get_0 : decode prog_1_method_3_code 0 = .ok (.aload_n 0, 1) := by decide +kernel
theorem d_Tri_get_1 : decode prog_1_method_3_code 1 = .ok (.iload_n 1, 1) := by decide +kernel
theorem d_Tri_get_2 : decode prog_1_method_3_code 2 = .ok (.invokevirtual 61, 3) := by decide +kernel
theorem d_Tri_get_5 : decode prog_1_method_3_code 5 = .ok (.iload_n 2, 1) := by decide +kernel
theorem d_Tri_get_6 : decode prog_1_method_3_code 6 = .ok (.invokestatic 64, 3) := by decide +kernel
theorem d_Tri_get_9 : decode prog_1_method_3_code 9 = .ok (.getfield 68, 3) := by decide +kernel
theorem d_Tri_get_12 : decode prog_1_method_3_code 12 = .ok (.lreturn, 1) := by decide +kernel
theorem d_Tri_remove_0 : decode prog_1_method_4_code 0 = .ok (.aload_n 0, 1) := by decide +kernel
theorem d_Tri_remove_1 : decode prog_1_method_4_code 1 = .ok (.iload_n 1, 1) := by decide +kernel
theorem d_Tri_remove_2 : decode prog_1_method_4_code 2 = .ok (.invokevirtual 33, 3) := by decide +kernel
theorem d_Tri_remove_5 : decode prog_1_method_4_code 5 = .ok (.astore_n 3, 1) := by decide +kernel
theorem d_Tri_remove_6 : decode prog_1_method_4_code 6 = .ok (.aload_n 3, 1) := by decide +kernel
theorem d_Tri_remove_7 : decode prog_1_method_4_code 7 = .ok (.iload_n 2, 1) := by decide +kernel
theorem d_Tri_remove_8 : decode prog_1_method_4_code 8 = .ok (.invokestatic 64, 3) := by decide +kernel
theorem d_Tri_remove_11 : decode prog_1_method_4_code 11 = .ok (.astore 4, 2) := by decide +kernel
theorem d_Tri_remove_13 : decode prog_1_method_4_code 13 = .ok (.aload_n 0, 1) := by decide +kernel
theorem d_Tri_remove_14 : decode prog_1_method_4_code 14 = .ok (.aload_n 3, 1) := by decide +kernel
theorem d_Tri_remove_15 : decode prog_1_method_4_code 15 = .ok (.iload_n 2, 1) := by decide +kernel
theorem d_Tri_remove_16 : decode prog_1_method_4_code 16 = .ok (.invokestatic 72, 3) := by decide +kernel
theorem d_Tri_remove_19 : decode prog_1_method_4_code 19 = .ok (.putfield 76, 3) := by decide +kernel
theorem d_Tri_remove_22 : decode prog_1_method_4_code 22 = .ok (.aload_n 3, 1) := by decide +kernel
theorem d_Tri_remove_23 : decode prog_1_method_4_code 23 = .ok (.getfield 37, 3) := by decide +kernel
theorem d_Tri_remove_26 : decode prog_1_method_4_code 26 = .ok (.iconst 0, 1) := by decide +kernel
theorem d_Tri_remove_27 : decode prog_1_method_4_code 27 = .ok (.iload_n 2, 1) := by decide +kernel
theorem d_Tri_remove_28 : decode prog_1_method_4_code 28 = .ok (.invokestatic 79, 3) := by decide +kernel
theorem d_Tri_remove_31 : decode prog_1_method_4_code 31 = .ok (.aload 4, 2) := by decide +kernel
theorem d_Tri_remove_33 : decode prog_1_method_4_code 33 = .ok (.getfield 68, 3) := by decide +kernel
theorem d_Tri_remove_36 : decode prog_1_method_4_code 36 = .ok (.lreturn, 1) := by decide +kernel
theorem d_Tri_replace_0 : decode prog_1_method_5_code 0 = .ok (.aload_n 0, 1) := by decide +kernel
theorem d_Tri_replace_1 : decode prog_1_method_5_code 1 = .ok (.iload_n 1, 1) := by decide +kernel
theorem d_Tri_replace_2 : decode prog_1_method_5_code 2 = .ok (.invokevirtual 33, 3) := by decide +kernel
theorem d_Tri_replace_5 : decode prog_1_method_5_code 5 = .ok (.astore 7, 2) := by decide +kernel
theorem d_Tri_replace_7 : decode prog_1_method_5_code 7 = .ok (.aload 7, 2) := by decide +kernel
theorem d_Tri_replace_9 : decode prog_1_method_5_code 9 = .ok (.getfield 37, 3) := by decide +kernel
theorem d_Tri_replace_12 : decode prog_1_method_5_code 12 = .ok (.iload_n 2, 1) := by decide +kernel
theorem d_Tri_replace_13 : decode prog_1_method_5_code 13 = .ok (.invokestatic 41, 3) := by decide +kernel
theorem d_Tri_replace_16 : decode prog_1_method_5_code 16 = .ok (.astore 8, 2) := by decide +kernel
theorem d_Tri_replace_18 : decode prog_1_method_5_code 18 = .ok (.aload 8, 2) := by decide +kernel
theorem d_Tri_replace_20 : decode prog_1_method_5_code 20 = .ok (.ifnull 13, 3) := by decide +kernel
theorem d_Tri_replace_23 : decode prog_1_method_5_code 23 = .ok (.aload 8, 2) := by decide +kernel
theorem d_Tri_replace_25 : decode prog_1_method_5_code 25 = .ok (.getfield 68, 3) := by decide +kernel
theorem d_Tri_replace_28 : decode prog_1_method_5_code 28 = .ok (.lload_n 3, 1) := by decide +kernel
theorem d_Tri_replace_29 : decode prog_1_method_5_code 29 = .ok (.lcmp, 1) := by decide +kernel
theorem d_Tri_replace_30 : decode prog_1_method_5_code 30 = .ok (.ifCond .eq 10, 3) := by decide +kernel
theorem d_Tri_replace_33 : decode prog_1_method_5_code 33 = .ok (.aload_n 0, 1) := by decide +kernel
theorem d_Tri_replace_34 : decode prog_1_method_5_code 34 = .ok (.iconst 0, 1) := by decide +kernel
theorem d_Tri_replace_35 : decode prog_1_method_5_code 35 = .ok (.putfield 76, 3) := by decide +kernel
theorem d_Tri_replace_38 : decode prog_1_method_5_code 38 = .ok (.iconst 0, 1) := by decide +kernel
theorem d_Tri_replace_39 : decode prog_1_method_5_code 39 = .ok (.ireturn, 1) := by decide +kernel
theorem d_Tri_replace_40 : decode prog_1_method_5_code 40 = .ok (.aload_n 0, 1) := by decide +kernel
theorem d_Tri_replace_41 : decode prog_1_method_5_code 41 = .ok (.aload 7, 2) := by decide +kernel
theorem d_Tri_replace_43 : decode prog_1_method_5_code 43 = .ok (.new 52, 3) := by decide +kernel
theorem d_Tri_replace_46 : decode prog_1_method_5_code 46 = .ok (.dup, 1) := by decide +kernel
theorem d_Tri_replace_47 : decode prog_1_method_5_code 47 = .ok (.iload_n 2, 1) := by decide +kernel
theorem d_Tri_replace_48 : decode prog_1_method_5_code 48 = .ok (.lload 5, 2) := by decide +kernel
theorem d_Tri_replace_50 : decode prog_1_method_5_code 50 = .ok (.invokespecial 54, 3) := by decide +kernel
theorem d_Tri_replace_53 : decode prog_1_method_5_code 53 = .ok (.invokevirtual 57, 3) := by decide +kernel
theorem d_Tri_replace_56 : decode prog_1_method_5_code 56 = .ok (.iconst 1, 1) := by decide +kernel
theorem d_Tri_replace_57 : decode prog_1_method_5_code 57 = .ok (.ireturn, 1) := by decide +kernel
theorem d_Tri_snapshot_0 : decode prog_1_method_6_code 0 = .ok (.aload_n 0, 1) := by decide +kernel
theorem d_Tri_snapshot_1 : decode prog_1_method_6_code 1 = .ok (.iload_n 1, 1) := by decide +kernel
theorem d_Tri_snapshot_2 : decode prog_1_method_6_code 2 = .ok (.invokevirtual 61, 3) := by decide +kernel
theorem d_Tri_snapshot_5 : decode prog_1_method_6_code 5 = .ok (.astore_n 3, 1) := by decide +kernel
theorem d_Tri_snapshot_6 : decode prog_1_method_6_code 6 = .ok (.aload_n 0, 1) := by decide +kernel
theorem d_Tri_snapshot_7 : decode prog_1_method_6_code 7 = .ok (.invokevirtual 83, 3) := by decide +kernel
theorem d_Tri_snapshot_10 : decode prog_1_method_6_code 10 = .ok (.istore 4, 2) := by decide +kernel
theorem d_Tri_snapshot_12 : decode prog_1_method_6_code 12 = .ok (.iload 4, 2) := by decide +kernel
theorem d_Tri_snapshot_14 : decode prog_1_method_6_code 14 = .ok (.iconst (-1), 1) := by decide +kernel
theorem d_Tri_snapshot_15 : decode prog_1_method_6_code 15 = .ok (.if_icmp .ne 11, 3) := by decide +kernel
theorem d_Tri_snapshot_18 : decode prog_1_method_6_code 18 = .ok (.new 49, 3) := by decide +kernel
theorem d_Tri_snapshot_21 : decode prog_1_method_6_code 21 = .ok (.dup, 1) := by decide +kernel
theorem d_Tri_snapshot_22 : decode prog_1_method_6_code 22 = .ok (.invokespecial 51, 3) := by decide +kernel
theorem d_Tri_snapshot_25 : decode prog_1_method_6_code 25 = .ok (.athrow, 1) := by decide +kernel
theorem d_Tri_snapshot_26 : decode prog_1_method_6_code 26 = .ok (.aload_n 3, 1) := by decide +kernel
theorem d_Tri_snapshot_27 : decode prog_1_method_6_code 27 = .ok (.aload_n 0, 1) := by decide +kernel
theorem d_Tri_snapshot_28 : decode prog_1_method_6_code 28 = .ok (.invokevirtual 87, 3) := by decide +kernel
theorem d_Tri_snapshot_31 : decode prog_1_method_6_code 31 = .ok (.putfield 90, 3) := by decide +kernel
theorem d_Tri_snapshot_34 : decode prog_1_method_6_code 34 = .ok (.aload_n 0, 1) := by decide +kernel
theorem d_Tri_snapshot_35 : decode prog_1_method_6_code 35 = .ok (.getfield 11, 3) := by decide +kernel
theorem d_Tri_snapshot_38 : decode prog_1_method_6_code 38 = .ok (.iload 4, 2) := by decide +kernel
theorem d_Tri_snapshot_40 : decode prog_1_method_6_code 40 = .ok (.new 9, 3) := by decide +kernel
theorem d_Tri_snapshot_43 : decode prog_1_method_6_code 43 = .ok (.dup, 1) := by decide +kernel
theorem d_Tri_snapshot_44 : decode prog_1_method_6_code 44 = .ok (.aload_n 3, 1) := by decide +kernel
theorem d_Tri_snapshot_45 : decode prog_1_method_6_code 45 = .ok (.getfield 37, 3) := by decide +kernel
theorem d_Tri_snapshot_48 : decode prog_1_method_6_code 48 = .ok (.aload_n 0, 1) := by decide +kernel
theorem d_Tri_snapshot_49 : decode prog_1_method_6_code 49 = .ok (.invokevirtual 87, 3) := by decide +kernel
theorem d_Tri_snapshot_52 : decode prog_1_method_6_code 52 = .ok (.iload_n 2, 1) := by decide +kernel
theorem d_Tri_snapshot_53 : decode prog_1_method_6_code 53 = .ok (.invokespecial 30, 3) := by decide +kernel
theorem d_Tri_snapshot_56 : decode prog_1_method_6_code 56 = .ok (.aastore, 1) := by decide +kernel
theorem d_Tri_snapshot_57 : decode prog_1_method_6_code 57 = .ok (.iload 4, 2) := by decide +kernel
theorem d_Tri_snapshot_59 : decode prog_1_method_6_code 59 = .ok (.ireturn, 1) := by decide +kernel
theorem d_Tri_drop_0 : decode prog_1_method_7_code 0 = .ok (.aload_n 0, 1) := by decide +kernel
theorem d_Tri_drop_1 : decode prog_1_method_7_code 1 = .ok (.iload_n 1, 1) := by decide +kernel
theorem d_Tri_drop_2 : decode prog_1_method_7_code 2 = .ok (.invokevirtual 61, 3) := by decide +kernel
theorem d_Tri_drop_5 : decode prog_1_method_7_code 5 = .ok (.astore_n 2, 1) := by decide +kernel
theorem d_Tri_drop_6 : decode prog_1_method_7_code 6 = .ok (.iload_n 1, 1) := by decide +kernel
theorem d_Tri_drop_7 : decode prog_1_method_7_code 7 = .ok (.ifCond .ne 11, 3) := by decide +kernel
theorem d_Tri_drop_10 : decode prog_1_method_7_code 10 = .ok (.new 49, 3) := by decide +kernel
theorem d_Tri_drop_13 : decode prog_1_method_7_code 13 = .ok (.dup, 1) := by decide +kernel
theorem d_Tri_drop_14 : decode prog_1_method_7_code 14 = .ok (.invokespecial 51, 3) := by decide +kernel
theorem d_Tri_drop_17 : decode prog_1_method_7_code 17 = .ok (.athrow, 1) := by decide +kernel
theorem d_Tri_drop_18 : decode prog_1_method_7_code 18 = .ok (.aload_n 0, 1) := by decide +kernel
theorem d_Tri_drop_19 : decode prog_1_method_7_code 19 = .ok (.getfield 11, 3) := by decide +kernel
theorem d_Tri_drop_22 : decode prog_1_method_7_code 22 = .ok (.iload_n 1, 1) := by decide +kernel
theorem d_Tri_drop_23 : decode prog_1_method_7_code 23 = .ok (.aconst_null, 1) := by decide +kernel
theorem d_Tri_drop_24 : decode prog_1_method_7_code 24 = .ok (.aastore, 1) := by decide +kernel
theorem d_Tri_drop_25 : decode prog_1_method_7_code 25 = .ok (.aload_n 2, 1) := by decide +kernel
theorem d_Tri_drop_26 : decode prog_1_method_7_code 26 = .ok (.getfield 37, 3) := by decide +kernel
theorem d_Tri_drop_29 : decode prog_1_method_7_code 29 = .ok (.invokestatic 93, 3) := by decide +kernel
theorem d_Tri_drop_32 : decode prog_1_method_7_code 32 = .ok (.ireturn, 1) := by decide +kernel
theorem d_Tri_iterate_0 : decode prog_1_method_8_code 0 = .ok (.aload_n 0, 1) := by decide +kernel
theorem d_Tri_iterate_1 : decode prog_1_method_8_code 1 = .ok (.iload_n 1, 1) := by decide +kernel
theorem d_Tri_iterate_2 : decode prog_1_method_8_code 2 = .ok (.invokevirtual 61, 3) := by decide +kernel
theorem d_Tri_iterate_5 : decode prog_1_method_8_code 5 = .ok (.astore_n 2, 1) := by decide +kernel
theorem d_Tri_iterate_6 : decode prog_1_method_8_code 6 = .ok (.aload_n 0, 1) := by decide +kernel
theorem d_Tri_iterate_7 : decode prog_1_method_8_code 7 = .ok (.invokevirtual 97, 3) := by decide +kernel
theorem d_Tri_iterate_10 : decode prog_1_method_8_code 10 = .ok (.istore_n 3, 1) := by decide +kernel
theorem d_Tri_iterate_11 : decode prog_1_method_8_code 11 = .ok (.iload_n 3, 1) := by decide +kernel
theorem d_Tri_iterate_12 : decode prog_1_method_8_code 12 = .ok (.iconst (-1), 1) := by decide +kernel
theorem d_Tri_iterate_13 : decode prog_1_method_8_code 13 = .ok (.if_icmp .ne 11, 3) := by decide +kernel
theorem d_Tri_iterate_16 : decode prog_1_method_8_code 16 = .ok (.new 49, 3) := by decide +kernel
theorem d_Tri_iterate_19 : decode prog_1_method_8_code 19 = .ok (.dup, 1) := by decide +kernel
theorem d_Tri_iterate_20 : decode prog_1_method_8_code 20 = .ok (.invokespecial 51, 3) := by decide +kernel
theorem d_Tri_iterate_23 : decode prog_1_method_8_code 23 = .ok (.athrow, 1) := by decide +kernel
theorem d_Tri_iterate_24 : decode prog_1_method_8_code 24 = .ok (.aload_n 2, 1) := by decide +kernel
theorem d_Tri_iterate_25 : decode prog_1_method_8_code 25 = .ok (.aload_n 0, 1) := by decide +kernel
theorem d_Tri_iterate_26 : decode prog_1_method_8_code 26 = .ok (.invokevirtual 87, 3) := by decide +kernel
theorem d_Tri_iterate_29 : decode prog_1_method_8_code 29 = .ok (.putfield 90, 3) := by decide +kernel
theorem d_Tri_iterate_32 : decode prog_1_method_8_code 32 = .ok (.aload_n 0, 1) := by decide +kernel
theorem d_Tri_iterate_33 : decode prog_1_method_8_code 33 = .ok (.getfield 17, 3) := by decide +kernel
theorem d_Tri_iterate_36 : decode prog_1_method_8_code 36 = .ok (.iload_n 3, 1) := by decide +kernel
theorem d_Tri_iterate_37 : decode prog_1_method_8_code 37 = .ok (.new 15, 3) := by decide +kernel
theorem d_Tri_iterate_40 : decode prog_1_method_8_code 40 = .ok (.dup, 1) := by decide +kernel
theorem d_Tri_iterate_41 : decode prog_1_method_8_code 41 = .ok (.aload_n 2, 1) := by decide +kernel
theorem d_Tri_iterate_42 : decode prog_1_method_8_code 42 = .ok (.getfield 37, 3) := by decide +kernel
theorem d_Tri_iterate_45 : decode prog_1_method_8_code 45 = .ok (.invokespecial 100, 3) := by decide +kernel
theorem d_Tri_iterate_48 : decode prog_1_method_8_code 48 = .ok (.aastore, 1) := by decide +kernel
theorem d_Tri_iterate_49 : decode prog_1_method_8_code 49 = .ok (.iload_n 3, 1) := by decide +kernel
theorem d_Tri_iterate_50 : decode prog_1_method_8_code 50 = .ok (.ireturn, 1) := by decide +kernel
theorem d_Tri_next_0 : decode prog_1_method_9_code 0 = .ok (.aload_n 0, 1) := by decide +kernel
theorem d_Tri_next_1 : decode prog_1_method_9_code 1 = .ok (.iload_n 1, 1) := by decide +kernel
theorem d_Tri_next_2 : decode prog_1_method_9_code 2 = .ok (.invokevirtual 103, 3) := by decide +kernel
theorem d_Tri_next_5 : decode prog_1_method_9_code 5 = .ok (.invokevirtual 107, 3) := by decide +kernel
theorem d_Tri_next_8 : decode prog_1_method_9_code 8 = .ok (.astore_n 2, 1) := by decide +kernel
theorem d_Tri_next_9 : decode prog_1_method_9_code 9 = .ok (.aload_n 2, 1) := by decide +kernel
theorem d_Tri_next_10 : decode prog_1_method_9_code 10 = .ok (.ifnonnull 18, 3) := by decide +kernel
theorem d_Tri_next_13 : decode prog_1_method_9_code 13 = .ok (.aload_n 0, 1) := by decide +kernel
theorem d_Tri_next_14 : decode prog_1_method_9_code 14 = .ok (.getfield 17, 3) := by decide +kernel
theorem d_Tri_next_17 : decode prog_1_method_9_code 17 = .ok (.iload_n 1, 1) := by decide +kernel
theorem d_Tri_next_18 : decode prog_1_method_9_code 18 = .ok (.aconst_null, 1) := by decide +kernel
theorem d_Tri_next_19 : decode prog_1_method_9_code 19 = .ok (.aastore, 1) := by decide +kernel
theorem d_Tri_next_20 : decode prog_1_method_9_code 20 = .ok (.new 111, 3) := by decide +kernel
theorem d_Tri_next_23 : decode prog_1_method_9_code 23 = .ok (.dup, 1) := by decide +kernel
theorem d_Tri_next_24 : decode prog_1_method_9_code 24 = .ok (.invokespecial 113, 3) := by decide +kernel
theorem d_Tri_next_27 : decode prog_1_method_9_code 27 = .ok (.athrow, 1) := by decide +kernel
theorem d_Tri_next_28 : decode prog_1_method_9_code 28 = .ok (.aload_n 0, 1) := by decide +kernel
theorem d_Tri_next_29 : decode prog_1_method_9_code 29 = .ok (.aload_n 2, 1) := by decide +kernel
theorem d_Tri_next_30 : decode prog_1_method_9_code 30 = .ok (.getfield 68, 3) := by decide +kernel
theorem d_Tri_next_33 : decode prog_1_method_9_code 33 = .ok (.putfield 114, 3) := by decide +kernel
theorem d_Tri_next_36 : decode prog_1_method_9_code 36 = .ok (.aload_n 2, 1) := by decide +kernel
theorem d_Tri_next_37 : decode prog_1_method_9_code 37 = .ok (.getfield 117, 3) := by decide +kernel
theorem d_Tri_next_40 : decode prog_1_method_9_code 40 = .ok (.ireturn, 1) := by decide +kernel
theorem d_Tri_value_0 : decode prog_1_method_10_code 0 = .ok (.aload_n 0, 1) := by decide +kernel
theorem d_Tri_value_1 : decode prog_1_method_10_code 1 = .ok (.getfield 114, 3) := by decide +kernel
theorem d_Tri_value_4 : decode prog_1_method_10_code 4 = .ok (.lreturn, 1) := by decide +kernel
theorem d_Tri_copied_0 : decode prog_1_method_11_code 0 = .ok (.aload_n 0, 1) := by decide +kernel
theorem d_Tri_copied_1 : decode prog_1_method_11_code 1 = .ok (.getfield 76, 3) := by decide +kernel
theorem d_Tri_copied_4 : decode prog_1_method_11_code 4 = .ok (.ireturn, 1) := by decide +kernel
theorem d_Tri_measure_0 : decode prog_1_method_12_code 0 = .ok (.aload_n 0, 1) := by decide +kernel
theorem d_Tri_measure_1 : decode prog_1_method_12_code 1 = .ok (.iload_n 1, 1) := by decide +kernel
theorem d_Tri_measure_2 : decode prog_1_method_12_code 2 = .ok (.invokevirtual 61, 3) := by decide +kernel
theorem d_Tri_measure_5 : decode prog_1_method_12_code 5 = .ok (.astore_n 3, 1) := by decide +kernel
theorem d_Tri_measure_6 : decode prog_1_method_12_code 6 = .ok (.new 120, 3) := by decide +kernel
theorem d_Tri_measure_9 : decode prog_1_method_12_code 9 = .ok (.dup, 1) := by decide +kernel
theorem d_Tri_measure_10 : decode prog_1_method_12_code 10 = .ok (.aload_n 3, 1) := by decide +kernel
theorem d_Tri_measure_11 : decode prog_1_method_12_code 11 = .ok (.getfield 90, 3) := by decide +kernel
theorem d_Tri_measure_14 : decode prog_1_method_12_code 14 = .ok (.invokespecial 122, 3) := by decide +kernel
theorem d_Tri_measure_17 : decode prog_1_method_12_code 17 = .ok (.astore 4, 2) := by decide +kernel
theorem d_Tri_measure_19 : decode prog_1_method_12_code 19 = .ok (.aload_n 3, 1) := by decide +kernel
theorem d_Tri_measure_20 : decode prog_1_method_12_code 20 = .ok (.getfield 37, 3) := by decide +kernel
theorem d_Tri_measure_23 : decode prog_1_method_12_code 23 = .ok (.iconst 0, 1) := by decide +kernel
theorem d_Tri_measure_24 : decode prog_1_method_12_code 24 = .ok (.aload 4, 2) := by decide +kernel
theorem d_Tri_measure_26 : decode prog_1_method_12_code 26 = .ok (.invokestatic 125, 3) := by decide +kernel
theorem d_Tri_measure_29 : decode prog_1_method_12_code 29 = .ok (.iload_n 2, 1) := by decide +kernel
theorem d_Tri_measure_30 : decode prog_1_method_12_code 30 = .ok (.tableswitch 64 0 4 #[34, 40, 46, 52, 58], 34) := by decide +kernel
theorem d_Tri_measure_64 : decode prog_1_method_12_code 64 = .ok (.aload 4, 2) := by decide +kernel
theorem d_Tri_measure_66 : decode prog_1_method_12_code 66 = .ok (.getfield 129, 3) := by decide +kernel
theorem d_Tri_measure_69 : decode prog_1_method_12_code 69 = .ok (.ireturn, 1) := by decide +kernel
theorem d_Tri_measure_70 : decode prog_1_method_12_code 70 = .ok (.aload 4, 2) := by decide +kernel
theorem d_Tri_measure_72 : decode prog_1_method_12_code 72 = .ok (.getfield 132, 3) := by decide +kernel
theorem d_Tri_measure_75 : decode prog_1_method_12_code 75 = .ok (.ireturn, 1) := by decide +kernel
theorem d_Tri_measure_76 : decode prog_1_method_12_code 76 = .ok (.aload 4, 2) := by decide +kernel
theorem d_Tri_measure_78 : decode prog_1_method_12_code 78 = .ok (.getfield 135, 3) := by decide +kernel
theorem d_Tri_measure_81 : decode prog_1_method_12_code 81 = .ok (.ireturn, 1) := by decide +kernel
theorem d_Tri_measure_82 : decode prog_1_method_12_code 82 = .ok (.aload 4, 2) := by decide +kernel
theorem d_Tri_measure_84 : decode prog_1_method_12_code 84 = .ok (.getfield 138, 3) := by decide +kernel
theorem d_Tri_measure_87 : decode prog_1_method_12_code 87 = .ok (.ireturn, 1) := by decide +kernel
theorem d_Tri_measure_88 : decode prog_1_method_12_code 88 = .ok (.aload 4, 2) := by decide +kernel
theorem d_Tri_measure_90 : decode prog_1_method_12_code 90 = .ok (.getfield 141, 3) := by decide +kernel
theorem d_Tri_measure_93 : decode prog_1_method_12_code 93 = .ok (.ireturn, 1) := by decide +kernel
theorem d_Tri_measure_94 : decode prog_1_method_12_code 94 = .ok (.new 144, 3) := by decide +kernel
theorem d_Tri_measure_97 : decode prog_1_method_12_code 97 = .ok (.dup, 1) := by decide +kernel
theorem d_Tri_measure_98 : decode prog_1_method_12_code 98 = .ok (.invokespecial 146, 3) := by decide +kernel
theorem d_Tri_measure_101 : decode prog_1_method_12_code 101 = .ok (.athrow, 1) := by decide +kernel
theorem d_Tri_common_0 : decode prog_1_method_13_code 0 = .ok (.aload_n 0, 1) := by decide +kernel
theorem d_Tri_common_1 : decode prog_1_method_13_code 1 = .ok (.iload_n 1, 1) := by decide +kernel
theorem d_Tri_common_2 : decode prog_1_method_13_code 2 = .ok (.invokevirtual 61, 3) := by decide +kernel
theorem d_Tri_common_5 : decode prog_1_method_13_code 5 = .ok (.getfield 37, 3) := by decide +kernel
theorem d_Tri_common_8 : decode prog_1_method_13_code 8 = .ok (.aload_n 0, 1) := by decide +kernel
theorem d_Tri_common_9 : decode prog_1_method_13_code 9 = .ok (.iload_n 2, 1) := by decide +kernel
theorem d_Tri_common_10 : decode prog_1_method_13_code 10 = .ok (.invokevirtual 61, 3) := by decide +kernel
theorem d_Tri_common_13 : decode prog_1_method_13_code 13 = .ok (.getfield 37, 3) := by decide +kernel
theorem d_Tri_common_16 : decode prog_1_method_13_code 16 = .ok (.iconst 0, 1) := by decide +kernel
theorem d_Tri_common_17 : decode prog_1_method_13_code 17 = .ok (.invokestatic 147, 3) := by decide +kernel
theorem d_Tri_common_20 : decode prog_1_method_13_code 20 = .ok (.ireturn, 1) := by decide +kernel
theorem d_Tri_generation_0 : decode prog_1_method_14_code 0 = .ok (.aload_n 0, 1) := by decide +kernel
theorem d_Tri_generation_1 : decode prog_1_method_14_code 1 = .ok (.iload_n 1, 1) := by decide +kernel
theorem d_Tri_generation_2 : decode prog_1_method_14_code 2 = .ok (.invokevirtual 61, 3) := by decide +kernel
theorem d_Tri_generation_5 : decode prog_1_method_14_code 5 = .ok (.getfield 90, 3) := by decide +kernel
theorem d_Tri_generation_8 : decode prog_1_method_14_code 8 = .ok (.ireturn, 1) := by decide +kernel
theorem d_Tri_existingMap_0 : decode prog_1_method_15_code 0 = .ok (.iload_n 1, 1) := by decide +kernel
theorem d_Tri_existingMap_1 : decode prog_1_method_15_code 1 = .ok (.ifCond .lt 21, 3) := by decide +kernel
theorem d_Tri_existingMap_4 : decode prog_1_method_15_code 4 = .ok (.iload_n 1, 1) := by decide +kernel
theorem d_Tri_existingMap_5 : decode prog_1_method_15_code 5 = .ok (.aload_n 0, 1) := by decide +kernel
theorem d_Tri_existingMap_6 : decode prog_1_method_15_code 6 = .ok (.getfield 11, 3) := by decide +kernel
theorem d_Tri_existingMap_9 : decode prog_1_method_15_code 9 = .ok (.arraylength, 1) := by decide +kernel
theorem d_Tri_existingMap_10 : decode prog_1_method_15_code 10 = .ok (.if_icmp .ge 12, 3) := by decide +kernel
theorem d_Tri_existingMap_13 : decode prog_1_method_15_code 13 = .ok (.aload_n 0, 1) := by decide +kernel
theorem d_Tri_existingMap_14 : decode prog_1_method_15_code 14 = .ok (.getfield 11, 3) := by decide +kernel
theorem d_Tri_existingMap_17 : decode prog_1_method_15_code 17 = .ok (.iload_n 1, 1) := by decide +kernel
theorem d_Tri_existingMap_18 : decode prog_1_method_15_code 18 = .ok (.aaload, 1) := by decide +kernel
theorem d_Tri_existingMap_19 : decode prog_1_method_15_code 19 = .ok (.ifnonnull 11, 3) := by decide +kernel
theorem d_Tri_existingMap_22 : decode prog_1_method_15_code 22 = .ok (.new 144, 3) := by decide +kernel
theorem d_Tri_existingMap_25 : decode prog_1_method_15_code 25 = .ok (.dup, 1) := by decide +kernel
theorem d_Tri_existingMap_26 : decode prog_1_method_15_code 26 = .ok (.invokespecial 146, 3) := by decide +kernel
theorem d_Tri_existingMap_29 : decode prog_1_method_15_code 29 = .ok (.athrow, 1) := by decide +kernel
theorem d_Tri_existingMap_30 : decode prog_1_method_15_code 30 = .ok (.aload_n 0, 1) := by decide +kernel
theorem d_Tri_existingMap_31 : decode prog_1_method_15_code 31 = .ok (.getfield 11, 3) := by decide +kernel
theorem d_Tri_existingMap_34 : decode prog_1_method_15_code 34 = .ok (.iload_n 1, 1) := by decide +kernel
theorem d_Tri_existingMap_35 : decode prog_1_method_15_code 35 = .ok (.aaload, 1) := by decide +kernel
theorem d_Tri_existingMap_36 : decode prog_1_method_15_code 36 = .ok (.areturn, 1) := by decide +kernel
theorem d_Tri_writableMap_0 : decode prog_1_method_16_code 0 = .ok (.aload_n 0, 1) := by decide +kernel
theorem d_Tri_writableMap_1 : decode prog_1_method_16_code 1 = .ok (.iload_n 1, 1) := by decide +kernel
theorem d_Tri_writableMap_2 : decode prog_1_method_16_code 2 = .ok (.invokevirtual 61, 3) := by decide +kernel
theorem d_Tri_writableMap_5 : decode prog_1_method_16_code 5 = .ok (.astore_n 2, 1) := by decide +kernel
theorem d_Tri_writableMap_6 : decode prog_1_method_16_code 6 = .ok (.aload_n 2, 1) := by decide +kernel
theorem d_Tri_writableMap_7 : decode prog_1_method_16_code 7 = .ok (.getfield 151, 3) := by decide +kernel
theorem d_Tri_writableMap_10 : decode prog_1_method_16_code 10 = .ok (.ifCond .eq 11, 3) := by decide +kernel
theorem d_Tri_writableMap_13 : decode prog_1_method_16_code 13 = .ok (.new 155, 3) := by decide +kernel
theorem d_Tri_writableMap_16 : decode prog_1_method_16_code 16 = .ok (.dup, 1) := by decide +kernel
theorem d_Tri_writableMap_17 : decode prog_1_method_16_code 17 = .ok (.invokespecial 157, 3) := by decide +kernel
theorem d_Tri_writableMap_20 : decode prog_1_method_16_code 20 = .ok (.athrow, 1) := by decide +kernel
theorem d_Tri_writableMap_21 : decode prog_1_method_16_code 21 = .ok (.aload_n 2, 1) := by decide +kernel
theorem d_Tri_writableMap_22 : decode prog_1_method_16_code 22 = .ok (.areturn, 1) := by decide +kernel
theorem d_Tri_existingCursor_0 : decode prog_1_method_17_code 0 = .ok (.iload_n 1, 1) := by decide +kernel
theorem d_Tri_existingCursor_1 : decode prog_1_method_17_code 1 = .ok (.ifCond .lt 21, 3) := by decide +kernel
theorem d_Tri_existingCursor_4 : decode prog_1_method_17_code 4 = .ok (.iload_n 1, 1) := by decide +kernel
theorem d_Tri_existingCursor_5 : decode prog_1_method_17_code 5 = .ok (.aload_n 0, 1) := by decide +kernel
theorem d_Tri_existingCursor_6 : decode prog_1_method_17_code 6 = .ok (.getfield 17, 3) := by decide +kernel
theorem d_Tri_existingCursor_9 : decode prog_1_method_17_code 9 = .ok (.arraylength, 1) := by decide +kernel
theorem d_Tri_existingCursor_10 : decode prog_1_method_17_code 10 = .ok (.if_icmp .ge 12, 3) := by decide +kernel
theorem d_Tri_existingCursor_13 : decode prog_1_method_17_code 13 = .ok (.aload_n 0, 1) := by decide +kernel
theorem d_Tri_existingCursor_14 : decode prog_1_method_17_code 14 = .ok (.getfield 17, 3) := by decide +kernel
theorem d_Tri_existingCursor_17 : decode prog_1_method_17_code 17 = .ok (.iload_n 1, 1) := by decide +kernel
theorem d_Tri_existingCursor_18 : decode prog_1_method_17_code 18 = .ok (.aaload, 1) := by decide +kernel
theorem d_Tri_existingCursor_19 : decode prog_1_method_17_code 19 = .ok (.ifnonnull 11, 3) := by decide +kernel
theorem d_Tri_existingCursor_22 : decode prog_1_method_17_code 22 = .ok (.new 144, 3) := by decide +kernel
theorem d_Tri_existingCursor_25 : decode prog_1_method_17_code 25 = .ok (.dup, 1) := by decide +kernel
theorem d_Tri_existingCursor_26 : decode prog_1_method_17_code 26 = .ok (.invokespecial 146, 3) := by decide +kernel
theorem d_Tri_existingCursor_29 : decode prog_1_method_17_code 29 = .ok (.athrow, 1) := by decide +kernel
theorem d_Tri_existingCursor_30 : decode prog_1_method_17_code 30 = .ok (.aload_n 0, 1) := by decide +kernel
theorem d_Tri_existingCursor_31 : decode prog_1_method_17_code 31 = .ok (.getfield 17, 3) := by decide +kernel
theorem d_Tri_existingCursor_34 : decode prog_1_method_17_code 34 = .ok (.iload_n 1, 1) := by decide +kernel
theorem d_Tri_existingCursor_35 : decode prog_1_method_17_code 35 = .ok (.aaload, 1) := by decide +kernel
theorem d_Tri_existingCursor_36 : decode prog_1_method_17_code 36 = .ok (.areturn, 1) := by decide +kernel
theorem d_Tri_leastMissingMap_0 : decode prog_1_method_18_code 0 = .ok (.iconst 0, 1) := by decide +kernel
theorem d_Tri_leastMissingMap_1 : decode prog_1_method_18_code 1 = .ok (.istore_n 1, 1) := by decide +kernel
theorem d_Tri_leastMissingMap_2 : decode prog_1_method_18_code 2 = .ok (.iload_n 1, 1) := by decide +kernel
theorem d_Tri_leastMissingMap_3 : decode prog_1_method_18_code 3 = .ok (.aload_n 0, 1) := by decide +kernel
theorem d_Tri_leastMissingMap_4 : decode prog_1_method_18_code 4 = .ok (.getfield 11, 3) := by decide +kernel
theorem d_Tri_leastMissingMap_7 : decode prog_1_method_18_code 7 = .ok (.arraylength, 1) := by decide +kernel
theorem d_Tri_leastMissingMap_8 : decode prog_1_method_18_code 8 = .ok (.if_icmp .ge 20, 3) := by decide +kernel
theorem d_Tri_leastMissingMap_11 : decode prog_1_method_18_code 11 = .ok (.aload_n 0, 1) := by decide +kernel
theorem d_Tri_leastMissingMap_12 : decode prog_1_method_18_code 12 = .ok (.getfield 11, 3) := by decide +kernel
theorem d_Tri_leastMissingMap_15 : decode prog_1_method_18_code 15 = .ok (.iload_n 1, 1) := by decide +kernel
theorem d_Tri_leastMissingMap_16 : decode prog_1_method_18_code 16 = .ok (.aaload, 1) := by decide +kernel
theorem d_Tri_leastMissingMap_17 : decode prog_1_method_18_code 17 = .ok (.ifnonnull 5, 3) := by decide +kernel
theorem d_Tri_leastMissingMap_20 : decode prog_1_method_18_code 20 = .ok (.iload_n 1, 1) := by decide +kernel
theorem d_Tri_leastMissingMap_21 : decode prog_1_method_18_code 21 = .ok (.ireturn, 1) := by decide +kernel
theorem d_Tri_leastMissingMap_22 : decode prog_1_method_18_code 22 = .ok (.iinc 1 1, 3) := by decide +kernel
theorem d_Tri_leastMissingMap_25 : decode prog_1_method_18_code 25 = .ok (.goto (-23), 3) := by decide +kernel
theorem d_Tri_leastMissingMap_28 : decode prog_1_method_18_code 28 = .ok (.iconst (-1), 1) := by decide +kernel
theorem d_Tri_leastMissingMap_29 : decode prog_1_method_18_code 29 = .ok (.ireturn, 1) := by decide +kernel
theorem d_Tri_leastFreeCursor_0 : decode prog_1_method_19_code 0 = .ok (.iconst 0, 1) := by decide +kernel
theorem d_Tri_leastFreeCursor_1 : decode prog_1_method_19_code 1 = .ok (.istore_n 1, 1) := by decide +kernel
theorem d_Tri_leastFreeCursor_2 : decode prog_1_method_19_code 2 = .ok (.iload_n 1, 1) := by decide +kernel
theorem d_Tri_leastFreeCursor_3 : decode prog_1_method_19_code 3 = .ok (.aload_n 0, 1) := by decide +kernel
theorem d_Tri_leastFreeCursor_4 : decode prog_1_method_19_code 4 = .ok (.getfield 17, 3) := by decide +kernel
theorem d_Tri_leastFreeCursor_7 : decode prog_1_method_19_code 7 = .ok (.arraylength, 1) := by decide +kernel
theorem d_Tri_leastFreeCursor_8 : decode prog_1_method_19_code 8 = .ok (.if_icmp .ge 20, 3) := by decide +kernel
theorem d_Tri_leastFreeCursor_11 : decode prog_1_method_19_code 11 = .ok (.aload_n 0, 1) := by decide +kernel
theorem d_Tri_leastFreeCursor_12 : decode prog_1_method_19_code 12 = .ok (.getfield 17, 3) := by decide +kernel
theorem d_Tri_leastFreeCursor_15 : decode prog_1_method_19_code 15 = .ok (.iload_n 1, 1) := by decide +kernel
theorem d_Tri_leastFreeCursor_16 : decode prog_1_method_19_code 16 = .ok (.aaload, 1) := by decide +kernel
theorem d_Tri_leastFreeCursor_17 : decode prog_1_method_19_code 17 = .ok (.ifnonnull 5, 3) := by decide +kernel
theorem d_Tri_leastFreeCursor_20 : decode prog_1_method_19_code 20 = .ok (.iload_n 1, 1) := by decide +kernel
theorem d_Tri_leastFreeCursor_21 : decode prog_1_method_19_code 21 = .ok (.ireturn, 1) := by decide +kernel
theorem d_Tri_leastFreeCursor_22 : decode prog_1_method_19_code 22 = .ok (.iinc 1 1, 3) := by decide +kernel
theorem d_Tri_leastFreeCursor_25 : decode prog_1_method_19_code 25 = .ok (.goto (-23), 3) := by decide +kernel
theorem d_Tri_leastFreeCursor_28 : decode prog_1_method_19_code 28 = .ok (.iconst (-1), 1) := by decide +kernel
theorem d_Tri_leastFreeCursor_29 : decode prog_1_method_19_code 29 = .ok (.ireturn, 1) := by decide +kernel
theorem d_Tri_newGeneration_0 : decode prog_1_method_20_code 0 = .ok (.aload_n 0, 1) := by decide +kernel
theorem d_Tri_newGeneration_1 : decode prog_1_method_20_code 1 = .ok (.dup, 1) := by decide +kernel
theorem d_Tri_newGeneration_2 : decode prog_1_method_20_code 2 = .ok (.getfield 21, 3) := by decide +kernel
theorem d_Tri_newGeneration_5 : decode prog_1_method_20_code 5 = .ok (.iconst 1, 1) := by decide +kernel
theorem d_Tri_newGeneration_6 : decode prog_1_method_20_code 6 = .ok (.iadd, 1) := by decide +kernel
theorem d_Tri_newGeneration_7 : decode prog_1_method_20_code 7 = .ok (.putfield 21, 3) := by decide +kernel
theorem d_Tri_newGeneration_10 : decode prog_1_method_20_code 10 = .ok (.aload_n 0, 1) := by decide +kernel
theorem d_Tri_newGeneration_11 : decode prog_1_method_20_code 11 = .ok (.getfield 21, 3) := by decide +kernel
theorem d_Tri_newGeneration_14 : decode prog_1_method_20_code 14 = .ok (.ireturn, 1) := by decide +kernel
theorem d_Tri_write_0 : decode prog_1_method_21_code 0 = .ok (.aload_n 0, 1) := by decide +kernel
theorem d_Tri_write_1 : decode prog_1_method_21_code 1 = .ok (.aload_n 1, 1) := by decide +kernel
theorem d_Tri_write_2 : decode prog_1_method_21_code 2 = .ok (.aload_n 2, 1) := by decide +kernel
theorem d_Tri_write_3 : decode prog_1_method_21_code 3 = .ok (.getfield 117, 3) := by decide +kernel
theorem d_Tri_write_6 : decode prog_1_method_21_code 6 = .ok (.invokestatic 72, 3) := by decide +kernel
theorem d_Tri_write_9 : decode prog_1_method_21_code 9 = .ok (.putfield 76, 3) := by decide +kernel
theorem d_Tri_write_12 : decode prog_1_method_21_code 12 = .ok (.aload_n 1, 1) := by decide +kernel
theorem d_Tri_write_13 : decode prog_1_method_21_code 13 = .ok (.getfield 37, 3) := by decide +kernel
theorem d_Tri_write_16 : decode prog_1_method_21_code 16 = .ok (.aload_n 2, 1) := by decide +kernel
theorem d_Tri_write_17 : decode prog_1_method_21_code 17 = .ok (.aload_n 1, 1) := by decide +kernel
theorem d_Tri_write_18 : decode prog_1_method_21_code 18 = .ok (.getfield 90, 3) := by decide +kernel
theorem d_Tri_write_21 : decode prog_1_method_21_code 21 = .ok (.invokestatic 158, 3) := by decide +kernel
theorem d_Tri_write_24 : decode prog_1_method_21_code 24 = .ok (.return_, 1) := by decide +kernel
theorem d_Tri_digit_0 : decode prog_1_method_22_code 0 = .ok (.iload_n 0, 1) := by decide +kernel
theorem d_Tri_digit_1 : decode prog_1_method_22_code 1 = .ok (.ldc 162, 2) := by decide +kernel
theorem d_Tri_digit_3 : decode prog_1_method_22_code 3 = .ok (.imul, 1) := by decide +kernel
theorem d_Tri_digit_4 : decode prog_1_method_22_code 4 = .ok (.bipush 24, 2) := by decide +kernel
theorem d_Tri_digit_6 : decode prog_1_method_22_code 6 = .ok (.iushr, 1) := by decide +kernel
theorem d_Tri_digit_7 : decode prog_1_method_22_code 7 = .ok (.istore_n 2, 1) := by decide +kernel
theorem d_Tri_digit_8 : decode prog_1_method_22_code 8 = .ok (.iload_n 2, 1) := by decide +kernel
theorem d_Tri_digit_9 : decode prog_1_method_22_code 9 = .ok (.bipush 6, 2) := by decide +kernel
theorem d_Tri_digit_11 : decode prog_1_method_22_code 11 = .ok (.iconst 2, 1) := by decide +kernel
theorem d_Tri_digit_12 : decode prog_1_method_22_code 12 = .ok (.iload_n 1, 1) := by decide +kernel
theorem d_Tri_digit_13 : decode prog_1_method_22_code 13 = .ok (.imul, 1) := by decide +kernel
theorem d_Tri_digit_14 : decode prog_1_method_22_code 14 = .ok (.isub, 1) := by decide +kernel
theorem d_Tri_digit_15 : decode prog_1_method_22_code 15 = .ok (.iushr, 1) := by decide +kernel
theorem d_Tri_digit_16 : decode prog_1_method_22_code 16 = .ok (.iconst 3, 1) := by decide +kernel
theorem d_Tri_digit_17 : decode prog_1_method_22_code 17 = .ok (.iand, 1) := by decide +kernel
theorem d_Tri_digit_18 : decode prog_1_method_22_code 18 = .ok (.ireturn, 1) := by decide +kernel
theorem d_Tri_presentEntry_0 : decode prog_1_method_23_code 0 = .ok (.aload_n 0, 1) := by decide +kernel
theorem d_Tri_presentEntry_1 : decode prog_1_method_23_code 1 = .ok (.getfield 37, 3) := by decide +kernel
theorem d_Tri_presentEntry_4 : decode prog_1_method_23_code 4 = .ok (.iload_n 1, 1) := by decide +kernel
theorem d_Tri_presentEntry_5 : decode prog_1_method_23_code 5 = .ok (.invokestatic 41, 3) := by decide +kernel
theorem d_Tri_presentEntry_8 : decode prog_1_method_23_code 8 = .ok (.astore_n 2, 1) := by decide +kernel
theorem d_Tri_presentEntry_9 : decode prog_1_method_23_code 9 = .ok (.aload_n 2, 1) := by decide +kernel
theorem d_Tri_presentEntry_10 : decode prog_1_method_23_code 10 = .ok (.ifnonnull 11, 3) := by decide +kernel
theorem d_Tri_presentEntry_13 : decode prog_1_method_23_code 13 = .ok (.new 111, 3) := by decide +kernel
theorem d_Tri_presentEntry_16 : decode prog_1_method_23_code 16 = .ok (.dup, 1) := by decide +kernel
theorem d_Tri_presentEntry_17 : decode prog_1_method_23_code 17 = .ok (.invokespecial 113, 3) := by decide +kernel
theorem d_Tri_presentEntry_20 : decode prog_1_method_23_code 20 = .ok (.athrow, 1) := by decide +kernel
theorem d_Tri_presentEntry_21 : decode prog_1_method_23_code 21 = .ok (.aload_n 2, 1) := by decide +kernel
theorem d_Tri_presentEntry_22 : decode prog_1_method_23_code 22 = .ok (.areturn, 1) := by decide +kernel
theorem d_Tri_find_0 : decode prog_1_method_24_code 0 = .ok (.aload_n 0, 1) := by decide +kernel
theorem d_Tri_find_1 : decode prog_1_method_24_code 1 = .ok (.astore_n 2, 1) := by decide +kernel
theorem d_Tri_find_2 : decode prog_1_method_24_code 2 = .ok (.iconst 0, 1) := by decide +kernel
theorem d_Tri_find_3 : decode prog_1_method_24_code 3 = .ok (.istore_n 3, 1) := by decide +kernel
theorem d_Tri_find_4 : decode prog_1_method_24_code 4 = .ok (.iload_n 3, 1) := by decide +kernel
theorem d_Tri_find_5 : decode prog_1_method_24_code 5 = .ok (.iconst 4, 1) := by decide +kernel
theorem d_Tri_find_6 : decode prog_1_method_24_code 6 = .ok (.if_icmp .ge 63, 3) := by decide +kernel
theorem d_Tri_find_9 : decode prog_1_method_24_code 9 = .ok (.iload_n 1, 1) := by decide +kernel
theorem d_Tri_find_10 : decode prog_1_method_24_code 10 = .ok (.iload_n 3, 1) := by decide +kernel
theorem d_Tri_find_11 : decode prog_1_method_24_code 11 = .ok (.invokestatic 163, 3) := by decide +kernel
theorem d_Tri_find_14 : decode prog_1_method_24_code 14 = .ok (.istore 4, 2) := by decide +kernel
theorem d_Tri_find_16 : decode prog_1_method_24_code 16 = .ok (.aload_n 2, 1) := by decide +kernel
theorem d_Tri_find_17 : decode prog_1_method_24_code 17 = .ok (.getfield 167, 3) := by decide +kernel
theorem d_Tri_find_20 : decode prog_1_method_24_code 20 = .ok (.iload 4, 2) := by decide +kernel
theorem d_Tri_find_22 : decode prog_1_method_24_code 22 = .ok (.aaload, 1) := by decide +kernel
theorem d_Tri_find_23 : decode prog_1_method_24_code 23 = .ok (.astore 5, 2) := by decide +kernel
theorem d_Tri_find_25 : decode prog_1_method_24_code 25 = .ok (.aload 5, 2) := by decide +kernel
theorem d_Tri_find_27 : decode prog_1_method_24_code 27 = .ok (.ifnonnull 33, 3) := by decide +kernel
theorem d_Tri_find_30 : decode prog_1_method_24_code 30 = .ok (.aload_n 2, 1) := by decide +kernel
theorem d_Tri_find_31 : decode prog_1_method_24_code 31 = .ok (.getfield 170, 3) := by decide +kernel
theorem d_Tri_find_34 : decode prog_1_method_24_code 34 = .ok (.iload 4, 2) := by decide +kernel
theorem d_Tri_find_36 : decode prog_1_method_24_code 36 = .ok (.aaload, 1) := by decide +kernel
theorem d_Tri_find_37 : decode prog_1_method_24_code 37 = .ok (.astore 6, 2) := by decide +kernel
theorem d_Tri_find_39 : decode prog_1_method_24_code 39 = .ok (.aload 6, 2) := by decide +kernel
theorem d_Tri_find_41 : decode prog_1_method_24_code 41 = .ok (.ifnull 17, 3) := by decide +kernel
theorem d_Tri_find_44 : decode prog_1_method_24_code 44 = .ok (.aload 6, 2) := by decide +kernel
theorem d_Tri_find_46 : decode prog_1_method_24_code 46 = .ok (.getfield 117, 3) := by decide +kernel
theorem d_Tri_find_49 : decode prog_1_method_24_code 49 = .ok (.iload_n 1, 1) := by decide +kernel
theorem d_Tri_find_50 : decode prog_1_method_24_code 50 = .ok (.if_icmp .ne 8, 3) := by decide +kernel
theorem d_Tri_find_53 : decode prog_1_method_24_code 53 = .ok (.aload 6, 2) := by decide +kernel
theorem d_Tri_find_55 : decode prog_1_method_24_code 55 = .ok (.goto 4, 3) := by decide +kernel
theorem d_Tri_find_58 : decode prog_1_method_24_code 58 = .ok (.aconst_null, 1) := by decide +kernel
theorem d_Tri_find_59 : decode prog_1_method_24_code 59 = .ok (.areturn, 1) := by decide +kernel
theorem d_Tri_find_60 : decode prog_1_method_24_code 60 = .ok (.aload 5, 2) := by decide +kernel
theorem d_Tri_find_62 : decode prog_1_method_24_code 62 = .ok (.astore_n 2, 1) := by decide +kernel
theorem d_Tri_find_63 : decode prog_1_method_24_code 63 = .ok (.iinc 3 1, 3) := by decide +kernel
theorem d_Tri_find_66 : decode prog_1_method_24_code 66 = .ok (.goto (-62), 3) := by decide +kernel
theorem d_Tri_find_69 : decode prog_1_method_24_code 69 = .ok (.aload_n 2, 1) := by decide +kernel
theorem d_Tri_find_70 : decode prog_1_method_24_code 70 = .ok (.iload_n 1, 1) := by decide +kernel
theorem d_Tri_find_71 : decode prog_1_method_24_code 71 = .ok (.invokevirtual 174, 3) := by decide +kernel
theorem d_Tri_find_74 : decode prog_1_method_24_code 74 = .ok (.istore_n 3, 1) := by decide +kernel
theorem d_Tri_find_75 : decode prog_1_method_24_code 75 = .ok (.iload_n 3, 1) := by decide +kernel
theorem d_Tri_find_76 : decode prog_1_method_24_code 76 = .ok (.iconst (-1), 1) := by decide +kernel
theorem d_Tri_find_77 : decode prog_1_method_24_code 77 = .ok (.if_icmp .ne 7, 3) := by decide +kernel
theorem d_Tri_find_80 : decode prog_1_method_24_code 80 = .ok (.aconst_null, 1) := by decide +kernel
theorem d_Tri_find_81 : decode prog_1_method_24_code 81 = .ok (.goto 9, 3) := by decide +kernel
theorem d_Tri_find_84 : decode prog_1_method_24_code 84 = .ok (.aload_n 2, 1) := by decide +kernel
theorem d_Tri_find_85 : decode prog_1_method_24_code 85 = .ok (.getfield 170, 3) := by decide +kernel
theorem d_Tri_find_88 : decode prog_1_method_24_code 88 = .ok (.iload_n 3, 1) := by decide +kernel
theorem d_Tri_find_89 : decode prog_1_method_24_code 89 = .ok (.aaload, 1) := by decide +kernel
theorem d_Tri_find_90 : decode prog_1_method_24_code 90 = .ok (.areturn, 1) := by decide +kernel
theorem d_Tri_hasRoomFor_0 : decode prog_1_method_25_code 0 = .ok (.aload_n 0, 1) := by decide +kernel
theorem d_Tri_hasRoomFor_1 : decode prog_1_method_25_code 1 = .ok (.invokestatic 93, 3) := by decide +kernel
theorem d_Tri_hasRoomFor_4 : decode prog_1_method_25_code 4 = .ok (.bipush 60, 2) := by decide +kernel
theorem d_Tri_hasRoomFor_6 : decode prog_1_method_25_code 6 = .ok (.if_icmp .lt 5, 3) := by decide +kernel
theorem d_Tri_hasRoomFor_9 : decode prog_1_method_25_code 9 = .ok (.iconst 0, 1) := by decide +kernel
theorem d_Tri_hasRoomFor_10 : decode prog_1_method_25_code 10 = .ok (.ireturn, 1) := by decide +kernel
theorem d_Tri_hasRoomFor_11 : decode prog_1_method_25_code 11 = .ok (.aload_n 0, 1) := by decide +kernel
theorem d_Tri_hasRoomFor_12 : decode prog_1_method_25_code 12 = .ok (.astore_n 2, 1) := by decide +kernel
theorem d_Tri_hasRoomFor_13 : decode prog_1_method_25_code 13 = .ok (.iconst 0, 1) := by decide +kernel
theorem d_Tri_hasRoomFor_14 : decode prog_1_method_25_code 14 = .ok (.istore_n 3, 1) := by decide +kernel
theorem d_Tri_hasRoomFor_15 : decode prog_1_method_25_code 15 = .ok (.iload_n 3, 1) := by decide +kernel
theorem d_Tri_hasRoomFor_16 : decode prog_1_method_25_code 16 = .ok (.iconst 4, 1) := by decide +kernel
theorem d_Tri_hasRoomFor_17 : decode prog_1_method_25_code 17 = .ok (.if_icmp .ge 26, 3) := by decide +kernel
theorem d_Tri_hasRoomFor_20 : decode prog_1_method_25_code 20 = .ok (.aload_n 2, 1) := by decide +kernel
theorem d_Tri_hasRoomFor_21 : decode prog_1_method_25_code 21 = .ok (.getfield 167, 3) := by decide +kernel
theorem d_Tri_hasRoomFor_24 : decode prog_1_method_25_code 24 = .ok (.iload_n 1, 1) := by decide +kernel
theorem d_Tri_hasRoomFor_25 : decode prog_1_method_25_code 25 = .ok (.iload_n 3, 1) := by decide +kernel
theorem d_Tri_hasRoomFor_26 : decode prog_1_method_25_code 26 = .ok (.invokestatic 163, 3) := by decide +kernel
theorem d_Tri_hasRoomFor_29 : decode prog_1_method_25_code 29 = .ok (.aaload, 1) := by decide +kernel
theorem d_Tri_hasRoomFor_30 : decode prog_1_method_25_code 30 = .ok (.astore_n 2, 1) := by decide +kernel
theorem d_Tri_hasRoomFor_31 : decode prog_1_method_25_code 31 = .ok (.aload_n 2, 1) := by decide +kernel
theorem d_Tri_hasRoomFor_32 : decode prog_1_method_25_code 32 = .ok (.ifnonnull 5, 3) := by decide +kernel
theorem d_Tri_hasRoomFor_35 : decode prog_1_method_25_code 35 = .ok (.iconst 1, 1) := by decide +kernel
theorem d_Tri_hasRoomFor_36 : decode prog_1_method_25_code 36 = .ok (.ireturn, 1) := by decide +kernel
theorem d_Tri_hasRoomFor_37 : decode prog_1_method_25_code 37 = .ok (.iinc 3 1, 3) := by decide +kernel
theorem d_Tri_hasRoomFor_40 : decode prog_1_method_25_code 40 = .ok (.goto (-25), 3) := by decide +kernel
theorem d_Tri_hasRoomFor_43 : decode prog_1_method_25_code 43 = .ok (.aload_n 2, 1) := by decide +kernel
theorem d_Tri_hasRoomFor_44 : decode prog_1_method_25_code 44 = .ok (.invokevirtual 178, 3) := by decide +kernel
theorem d_Tri_hasRoomFor_47 : decode prog_1_method_25_code 47 = .ok (.bipush 6, 2) := by decide +kernel
theorem d_Tri_hasRoomFor_49 : decode prog_1_method_25_code 49 = .ok (.if_icmp .ge 7, 3) := by decide +kernel
theorem d_Tri_hasRoomFor_52 : decode prog_1_method_25_code 52 = .ok (.iconst 1, 1) := by decide +kernel
theorem d_Tri_hasRoomFor_53 : decode prog_1_method_25_code 53 = .ok (.goto 4, 3) := by decide +kernel
theorem d_Tri_hasRoomFor_56 : decode prog_1_method_25_code 56 = .ok (.iconst 0, 1) := by decide +kernel
theorem d_Tri_hasRoomFor_57 : decode prog_1_method_25_code 57 = .ok (.ireturn, 1) := by decide +kernel
theorem d_Tri_ownWay_0 : decode prog_1_method_26_code 0 = .ok (.iconst 0, 1) := by decide +kernel
theorem d_Tri_ownWay_1 : decode prog_1_method_26_code 1 = .ok (.istore_n 2, 1) := by decide +kernel
theorem d_Tri_ownWay_2 : decode prog_1_method_26_code 2 = .ok (.aload_n 0, 1) := by decide +kernel
theorem d_Tri_ownWay_3 : decode prog_1_method_26_code 3 = .ok (.getfield 37, 3) := by decide +kernel
theorem d_Tri_ownWay_6 : decode prog_1_method_26_code 6 = .ok (.getfield 181, 3) := by decide +kernel
theorem d_Tri_ownWay_9 : decode prog_1_method_26_code 9 = .ok (.aload_n 0, 1) := by decide +kernel
theorem d_Tri_ownWay_10 : decode prog_1_method_26_code 10 = .ok (.getfield 90, 3) := by decide +kernel
theorem d_Tri_ownWay_13 : decode prog_1_method_26_code 13 = .ok (.if_icmp .eq 22, 3) := by decide +kernel
theorem d_Tri_ownWay_16 : decode prog_1_method_26_code 16 = .ok (.aload_n 0, 1) := by decide +kernel
theorem d_Tri_ownWay_17 : decode prog_1_method_26_code 17 = .ok (.aload_n 0, 1) := by decide +kernel
theorem d_Tri_ownWay_18 : decode prog_1_method_26_code 18 = .ok (.getfield 37, 3) := by decide +kernel
theorem d_Tri_ownWay_21 : decode prog_1_method_26_code 21 = .ok (.aload_n 0, 1) := by decide +kernel
theorem d_Tri_ownWay_22 : decode prog_1_method_26_code 22 = .ok (.getfield 90, 3) := by decide +kernel
theorem d_Tri_ownWay_25 : decode prog_1_method_26_code 25 = .ok (.iconst 0, 1) := by decide +kernel
theorem d_Tri_ownWay_26 : decode prog_1_method_26_code 26 = .ok (.invokestatic 182, 3) := by decide +kernel
theorem d_Tri_ownWay_29 : decode prog_1_method_26_code 29 = .ok (.putfield 37, 3) := by decide +kernel
theorem d_Tri_ownWay_32 : decode prog_1_method_26_code 32 = .ok (.iinc 2 1, 3) := by decide +kernel
theorem d_Tri_ownWay_35 : decode prog_1_method_26_code 35 = .ok (.aload_n 0, 1) := by decide +kernel
theorem d_Tri_ownWay_36 : decode prog_1_method_26_code 36 = .ok (.getfield 37, 3) := by decide +kernel
theorem d_Tri_ownWay_39 : decode prog_1_method_26_code 39 = .ok (.astore_n 3, 1) := by decide +kernel
theorem d_Tri_ownWay_40 : decode prog_1_method_26_code 40 = .ok (.iconst 0, 1) := by decide +kernel
theorem d_Tri_ownWay_41 : decode prog_1_method_26_code 41 = .ok (.istore 4, 2) := by decide +kernel
theorem d_Tri_ownWay_43 : decode prog_1_method_26_code 43 = .ok (.iload 4, 2) := by decide +kernel
theorem d_Tri_ownWay_45 : decode prog_1_method_26_code 45 = .ok (.iconst 4, 1) := by decide +kernel
theorem d_Tri_ownWay_46 : decode prog_1_method_26_code 46 = .ok (.if_icmp .ge 76, 3) := by decide +kernel
theorem d_Tri_ownWay_49 : decode prog_1_method_26_code 49 = .ok (.iload_n 1, 1) := by decide +kernel
theorem d_Tri_ownWay_50 : decode prog_1_method_26_code 50 = .ok (.iload 4, 2) := by decide +kernel
theorem d_Tri_ownWay_52 : decode prog_1_method_26_code 52 = .ok (.invokestatic 163, 3) := by decide +kernel
theorem d_Tri_ownWay_55 : decode prog_1_method_26_code 55 = .ok (.istore 5, 2) := by decide +kernel
theorem d_Tri_ownWay_57 : decode prog_1_method_26_code 57 = .ok (.aload_n 3, 1) := by decide +kernel
theorem d_Tri_ownWay_58 : decode prog_1_method_26_code 58 = .ok (.getfield 167, 3) := by decide +kernel
theorem d_Tri_ownWay_61 : decode prog_1_method_26_code 61 = .ok (.iload 5, 2) := by decide +kernel
theorem d_Tri_ownWay_63 : decode prog_1_method_26_code 63 = .ok (.aaload, 1) := by decide +kernel
theorem d_Tri_ownWay_64 : decode prog_1_method_26_code 64 = .ok (.astore 6, 2) := by decide +kernel
theorem d_Tri_ownWay_66 : decode prog_1_method_26_code 66 = .ok (.aload 6, 2) := by decide +kernel
theorem d_Tri_ownWay_68 : decode prog_1_method_26_code 68 = .ok (.ifnonnull 6, 3) := by decide +kernel
theorem d_Tri_ownWay_71 : decode prog_1_method_26_code 71 = .ok (.goto 51, 3) := by decide +kernel
theorem d_Tri_ownWay_74 : decode prog_1_method_26_code 74 = .ok (.aload 6, 2) := by decide +kernel
theorem d_Tri_ownWay_76 : decode prog_1_method_26_code 76 = .ok (.getfield 181, 3) := by decide +kernel
theorem d_Tri_ownWay_79 : decode prog_1_method_26_code 79 = .ok (.aload_n 0, 1) := by decide +kernel
theorem d_Tri_ownWay_80 : decode prog_1_method_26_code 80 = .ok (.getfield 90, 3) := by decide +kernel
theorem d_Tri_ownWay_83 : decode prog_1_method_26_code 83 = .ok (.if_icmp .eq 30, 3) := by decide +kernel
theorem d_Tri_ownWay_86 : decode prog_1_method_26_code 86 = .ok (.aload 6, 2) := by decide +kernel
theorem d_Tri_ownWay_88 : decode prog_1_method_26_code 88 = .ok (.aload_n 0, 1) := by decide +kernel
theorem d_Tri_ownWay_89 : decode prog_1_method_26_code 89 = .ok (.getfield 90, 3) := by decide +kernel
theorem d_Tri_ownWay_92 : decode prog_1_method_26_code 92 = .ok (.iload 4, 2) := by decide +kernel
theorem d_Tri_ownWay_94 : decode prog_1_method_26_code 94 = .ok (.iconst 1, 1) := by decide +kernel
theorem d_Tri_ownWay_95 : decode prog_1_method_26_code 95 = .ok (.iadd, 1) := by decide +kernel
theorem d_Tri_ownWay_96 : decode prog_1_method_26_code 96 = .ok (.invokestatic 182, 3) := by decide +kernel
theorem d_Tri_ownWay_99 : decode prog_1_method_26_code 99 = .ok (.astore 6, 2) := by decide +kernel
theorem d_Tri_ownWay_101 : decode prog_1_method_26_code 101 = .ok (.aload_n 3, 1) := by decide +kernel
theorem d_Tri_ownWay_102 : decode prog_1_method_26_code 102 = .ok (.getfield 167, 3) := by decide +kernel
theorem d_Tri_ownWay_105 : decode prog_1_method_26_code 105 = .ok (.iload 5, 2) := by decide +kernel
theorem d_Tri_ownWay_107 : decode prog_1_method_26_code 107 = .ok (.aload 6, 2) := by decide +kernel
theorem d_Tri_ownWay_109 : decode prog_1_method_26_code 109 = .ok (.aastore, 1) := by decide +kernel
theorem d_Tri_ownWay_110 : decode prog_1_method_26_code 110 = .ok (.iinc 2 1, 3) := by decide +kernel
theorem d_Tri_ownWay_113 : decode prog_1_method_26_code 113 = .ok (.aload 6, 2) := by decide +kernel
theorem d_Tri_ownWay_115 : decode prog_1_method_26_code 115 = .ok (.astore_n 3, 1) := by decide +kernel
theorem d_Tri_ownWay_116 : decode prog_1_method_26_code 116 = .ok (.iinc 4 1, 3) := by decide +kernel
theorem d_Tri_ownWay_119 : decode prog_1_method_26_code 119 = .ok (.goto (-76), 3) := by decide +kernel
theorem d_Tri_ownWay_122 : decode prog_1_method_26_code 122 = .ok (.iload_n 2, 1) := by decide +kernel
theorem d_Tri_ownWay_123 : decode prog_1_method_26_code 123 = .ok (.ireturn, 1) := by decide +kernel
theorem d_Tri_copyOf_0 : decode prog_1_method_27_code 0 = .ok (.new 25, 3) := by decide +kernel
theorem d_Tri_copyOf_3 : decode prog_1_method_27_code 3 = .ok (.dup, 1) := by decide +kernel
theorem d_Tri_copyOf_4 : decode prog_1_method_27_code 4 = .ok (.iload_n 1, 1) := by decide +kernel
theorem d_Tri_copyOf_5 : decode prog_1_method_27_code 5 = .ok (.iload_n 2, 1) := by decide +kernel
theorem d_Tri_copyOf_6 : decode prog_1_method_27_code 6 = .ok (.invokespecial 27, 3) := by decide +kernel
theorem d_Tri_copyOf_9 : decode prog_1_method_27_code 9 = .ok (.astore_n 3, 1) := by decide +kernel
theorem d_Tri_copyOf_10 : decode prog_1_method_27_code 10 = .ok (.iconst 0, 1) := by decide +kernel
theorem d_Tri_copyOf_11 : decode prog_1_method_27_code 11 = .ok (.istore 4, 2) := by decide +kernel
theorem d_Tri_copyOf_13 : decode prog_1_method_27_code 13 = .ok (.iload 4, 2) := by decide +kernel
theorem d_Tri_copyOf_15 : decode prog_1_method_27_code 15 = .ok (.aload_n 3, 1) := by decide +kernel
theorem d_Tri_copyOf_16 : decode prog_1_method_27_code 16 = .ok (.getfield 170, 3) := by decide +kernel
theorem d_Tri_copyOf_19 : decode prog_1_method_27_code 19 = .ok (.arraylength, 1) := by decide +kernel
theorem d_Tri_copyOf_20 : decode prog_1_method_27_code 20 = .ok (.if_icmp .ge 22, 3) := by decide +kernel
theorem d_Tri_copyOf_23 : decode prog_1_method_27_code 23 = .ok (.aload_n 3, 1) := by decide +kernel
theorem d_Tri_copyOf_24 : decode prog_1_method_27_code 24 = .ok (.getfield 170, 3) := by decide +kernel
theorem d_Tri_copyOf_27 : decode prog_1_method_27_code 27 = .ok (.iload 4, 2) := by decide +kernel
theorem d_Tri_copyOf_29 : decode prog_1_method_27_code 29 = .ok (.aload_n 0, 1) := by decide +kernel
theorem d_Tri_copyOf_30 : decode prog_1_method_27_code 30 = .ok (.iload 4, 2) := by decide +kernel
theorem d_Tri_copyOf_32 : decode prog_1_method_27_code 32 = .ok (.invokevirtual 186, 3) := by decide +kernel
theorem d_Tri_copyOf_35 : decode prog_1_method_27_code 35 = .ok (.aastore, 1) := by decide +kernel
theorem d_Tri_copyOf_36 : decode prog_1_method_27_code 36 = .ok (.iinc 4 1, 3) := by decide +kernel
theorem d_Tri_copyOf_39 : decode prog_1_method_27_code 39 = .ok (.goto (-26), 3) := by decide +kernel
theorem d_Tri_copyOf_42 : decode prog_1_method_27_code 42 = .ok (.iconst 0, 1) := by decide +kernel
theorem d_Tri_copyOf_43 : decode prog_1_method_27_code 43 = .ok (.istore 4, 2) := by decide +kernel
theorem d_Tri_copyOf_45 : decode prog_1_method_27_code 45 = .ok (.iload 4, 2) := by decide +kernel
theorem d_Tri_copyOf_47 : decode prog_1_method_27_code 47 = .ok (.aload_n 3, 1) := by decide +kernel
theorem d_Tri_copyOf_48 : decode prog_1_method_27_code 48 = .ok (.getfield 167, 3) := by decide +kernel
theorem d_Tri_copyOf_51 : decode prog_1_method_27_code 51 = .ok (.arraylength, 1) := by decide +kernel
theorem d_Tri_copyOf_52 : decode prog_1_method_27_code 52 = .ok (.if_icmp .ge 22, 3) := by decide +kernel
theorem d_Tri_copyOf_55 : decode prog_1_method_27_code 55 = .ok (.aload_n 3, 1) := by decide +kernel
theorem d_Tri_copyOf_56 : decode prog_1_method_27_code 56 = .ok (.getfield 167, 3) := by decide +kernel
theorem d_Tri_copyOf_59 : decode prog_1_method_27_code 59 = .ok (.iload 4, 2) := by decide +kernel
theorem d_Tri_copyOf_61 : decode prog_1_method_27_code 61 = .ok (.aload_n 0, 1) := by decide +kernel
theorem d_Tri_copyOf_62 : decode prog_1_method_27_code 62 = .ok (.iload 4, 2) := by decide +kernel
theorem d_Tri_copyOf_64 : decode prog_1_method_27_code 64 = .ok (.invokevirtual 190, 3) := by decide +kernel
theorem d_Tri_copyOf_67 : decode prog_1_method_27_code 67 = .ok (.aastore, 1) := by decide +kernel
theorem d_Tri_copyOf_68 : decode prog_1_method_27_code 68 = .ok (.iinc 4 1, 3) := by decide +kernel
theorem d_Tri_copyOf_71 : decode prog_1_method_27_code 71 = .ok (.goto (-26), 3) := by decide +kernel
theorem d_Tri_copyOf_74 : decode prog_1_method_27_code 74 = .ok (.aload_n 3, 1) := by decide +kernel
theorem d_Tri_copyOf_75 : decode prog_1_method_27_code 75 = .ok (.areturn, 1) := by decide +kernel
theorem d_Tri_putIn_0 : decode prog_1_method_28_code 0 = .ok (.aload_n 0, 1) := by decide +kernel
theorem d_Tri_putIn_1 : decode prog_1_method_28_code 1 = .ok (.astore_n 3, 1) := by decide +kernel
theorem d_Tri_putIn_2 : decode prog_1_method_28_code 2 = .ok (.iconst 0, 1) := by decide +kernel
theorem d_Tri_putIn_3 : decode prog_1_method_28_code 3 = .ok (.istore 4, 2) := by decide +kernel
theorem d_Tri_putIn_5 : decode prog_1_method_28_code 5 = .ok (.iload 4, 2) := by decide +kernel
theorem d_Tri_putIn_7 : decode prog_1_method_28_code 7 = .ok (.iconst 4, 1) := by decide +kernel
theorem d_Tri_putIn_8 : decode prog_1_method_28_code 8 = .ok (.if_icmp .ge 48, 3) := by decide +kernel
theorem d_Tri_putIn_11 : decode prog_1_method_28_code 11 = .ok (.aload_n 1, 1) := by decide +kernel
theorem d_Tri_putIn_12 : decode prog_1_method_28_code 12 = .ok (.getfield 117, 3) := by decide +kernel
theorem d_Tri_putIn_15 : decode prog_1_method_28_code 15 = .ok (.iload 4, 2) := by decide +kernel
theorem d_Tri_putIn_17 : decode prog_1_method_28_code 17 = .ok (.invokestatic 163, 3) := by decide +kernel
theorem d_Tri_putIn_20 : decode prog_1_method_28_code 20 = .ok (.istore 5, 2) := by decide +kernel
theorem d_Tri_putIn_22 : decode prog_1_method_28_code 22 = .ok (.aload_n 3, 1) := by decide +kernel
theorem d_Tri_putIn_23 : decode prog_1_method_28_code 23 = .ok (.getfield 167, 3) := by decide +kernel
theorem d_Tri_putIn_26 : decode prog_1_method_28_code 26 = .ok (.iload 5, 2) := by decide +kernel
theorem d_Tri_putIn_28 : decode prog_1_method_28_code 28 = .ok (.aaload, 1) := by decide +kernel
theorem d_Tri_putIn_29 : decode prog_1_method_28_code 29 = .ok (.astore 6, 2) := by decide +kernel
theorem d_Tri_putIn_31 : decode prog_1_method_28_code 31 = .ok (.aload 6, 2) := by decide +kernel
theorem d_Tri_putIn_33 : decode prog_1_method_28_code 33 = .ok (.ifnonnull 14, 3) := by decide +kernel
theorem d_Tri_putIn_36 : decode prog_1_method_28_code 36 = .ok (.aload_n 3, 1) := by decide +kernel
theorem d_Tri_putIn_37 : decode prog_1_method_28_code 37 = .ok (.iload 5, 2) := by decide +kernel
theorem d_Tri_putIn_39 : decode prog_1_method_28_code 39 = .ok (.iload 4, 2) := by decide +kernel
theorem d_Tri_putIn_41 : decode prog_1_method_28_code 41 = .ok (.aload_n 1, 1) := by decide +kernel
theorem d_Tri_putIn_42 : decode prog_1_method_28_code 42 = .ok (.iload_n 2, 1) := by decide +kernel
theorem d_Tri_putIn_43 : decode prog_1_method_28_code 43 = .ok (.invokestatic 194, 3) := by decide +kernel
theorem d_Tri_putIn_46 : decode prog_1_method_28_code 46 = .ok (.return_, 1) := by decide +kernel
theorem d_Tri_putIn_47 : decode prog_1_method_28_code 47 = .ok (.aload 6, 2) := by decide +kernel
theorem d_Tri_putIn_49 : decode prog_1_method_28_code 49 = .ok (.astore_n 3, 1) := by decide +kernel
theorem d_Tri_putIn_50 : decode prog_1_method_28_code 50 = .ok (.iinc 4 1, 3) := by decide +kernel
theorem d_Tri_putIn_53 : decode prog_1_method_28_code 53 = .ok (.goto (-48), 3) := by decide +kernel
theorem d_Tri_putIn_56 : decode prog_1_method_28_code 56 = .ok (.aload_n 3, 1) := by decide +kernel
theorem d_Tri_putIn_57 : decode prog_1_method_28_code 57 = .ok (.aload_n 1, 1) := by decide +kernel
theorem d_Tri_putIn_58 : decode prog_1_method_28_code 58 = .ok (.invokevirtual 198, 3) := by decide +kernel
theorem d_Tri_putIn_61 : decode prog_1_method_28_code 61 = .ok (.return_, 1) := by decide +kernel
theorem d_Tri_putAt_0 : decode prog_1_method_29_code 0 = .ok (.aload_n 0, 1) := by decide +kernel
theorem d_Tri_putAt_1 : decode prog_1_method_29_code 1 = .ok (.getfield 170, 3) := by decide +kernel
theorem d_Tri_putAt_4 : decode prog_1_method_29_code 4 = .ok (.iload_n 1, 1) := by decide +kernel
theorem d_Tri_putAt_5 : decode prog_1_method_29_code 5 = .ok (.aaload, 1) := by decide +kernel
theorem d_Tri_putAt_6 : decode prog_1_method_29_code 6 = .ok (.astore 5, 2) := by decide +kernel
theorem d_Tri_putAt_8 : decode prog_1_method_29_code 8 = .ok (.aload 5, 2) := by decide +kernel
theorem d_Tri_putAt_10 : decode prog_1_method_29_code 10 = .ok (.ifnull 15, 3) := by decide +kernel
theorem d_Tri_putAt_13 : decode prog_1_method_29_code 13 = .ok (.aload 5, 2) := by decide +kernel
theorem d_Tri_putAt_15 : decode prog_1_method_29_code 15 = .ok (.getfield 117, 3) := by decide +kernel
theorem d_Tri_putAt_18 : decode prog_1_method_29_code 18 = .ok (.aload_n 3, 1) := by decide +kernel
theorem d_Tri_putAt_19 : decode prog_1_method_29_code 19 = .ok (.getfield 117, 3) := by decide +kernel
theorem d_Tri_putAt_22 : decode prog_1_method_29_code 22 = .ok (.if_icmp .ne 11, 3) := by decide +kernel
theorem d_Tri_putAt_25 : decode prog_1_method_29_code 25 = .ok (.aload_n 0, 1) := by decide +kernel
theorem d_Tri_putAt_26 : decode prog_1_method_29_code 26 = .ok (.getfield 170, 3) := by decide +kernel
theorem d_Tri_putAt_29 : decode prog_1_method_29_code 29 = .ok (.iload_n 1, 1) := by decide +kernel
theorem d_Tri_putAt_30 : decode prog_1_method_29_code 30 = .ok (.aload_n 3, 1) := by decide +kernel
theorem d_Tri_putAt_31 : decode prog_1_method_29_code 31 = .ok (.aastore, 1) := by decide +kernel
theorem d_Tri_putAt_32 : decode prog_1_method_29_code 32 = .ok (.return_, 1) := by decide +kernel
theorem d_Tri_putAt_33 : decode prog_1_method_29_code 33 = .ok (.aload_n 0, 1) := by decide +kernel
theorem d_Tri_putAt_34 : decode prog_1_method_29_code 34 = .ok (.getfield 170, 3) := by decide +kernel
theorem d_Tri_putAt_37 : decode prog_1_method_29_code 37 = .ok (.iload_n 1, 1) := by decide +kernel
theorem d_Tri_putAt_38 : decode prog_1_method_29_code 38 = .ok (.aconst_null, 1) := by decide +kernel
theorem d_Tri_putAt_39 : decode prog_1_method_29_code 39 = .ok (.aastore, 1) := by decide +kernel
theorem d_Tri_putAt_40 : decode prog_1_method_29_code 40 = .ok (.aload_n 0, 1) := by decide +kernel
theorem d_Tri_putAt_41 : decode prog_1_method_29_code 41 = .ok (.getfield 167, 3) := by decide +kernel
theorem d_Tri_putAt_44 : decode prog_1_method_29_code 44 = .ok (.iload_n 1, 1) := by decide +kernel
theorem d_Tri_putAt_45 : decode prog_1_method_29_code 45 = .ok (.aload 5, 2) := by decide +kernel
theorem d_Tri_putAt_47 : decode prog_1_method_29_code 47 = .ok (.aload_n 3, 1) := by decide +kernel
theorem d_Tri_putAt_48 : decode prog_1_method_29_code 48 = .ok (.iload 4, 2) := by decide +kernel
theorem d_Tri_putAt_50 : decode prog_1_method_29_code 50 = .ok (.iload_n 2, 1) := by decide +kernel
theorem d_Tri_putAt_51 : decode prog_1_method_29_code 51 = .ok (.iconst 1, 1) := by decide +kernel
theorem d_Tri_putAt_52 : decode prog_1_method_29_code 52 = .ok (.iadd, 1) := by decide +kernel
theorem d_Tri_putAt_53 : decode prog_1_method_29_code 53 = .ok (.invokestatic 202, 3) := by decide +kernel
theorem d_Tri_putAt_56 : decode prog_1_method_29_code 56 = .ok (.aastore, 1) := by decide +kernel
theorem d_Tri_putAt_57 : decode prog_1_method_29_code 57 = .ok (.return_, 1) := by decide +kernel
theorem d_Tri_nodeOfTwo_0 : decode prog_1_method_30_code 0 = .ok (.new 25, 3) := by decide +kernel
theorem d_Tri_nodeOfTwo_3 : decode prog_1_method_30_code 3 = .ok (.dup, 1) := by decide +kernel
theorem d_Tri_nodeOfTwo_4 : decode prog_1_method_30_code 4 = .ok (.iload_n 2, 1) := by decide +kernel
theorem d_Tri_nodeOfTwo_5 : decode prog_1_method_30_code 5 = .ok (.iload_n 3, 1) := by decide +kernel
theorem d_Tri_nodeOfTwo_6 : decode prog_1_method_30_code 6 = .ok (.invokespecial 27, 3) := by decide +kernel
theorem d_Tri_nodeOfTwo_9 : decode prog_1_method_30_code 9 = .ok (.astore 4, 2) := by decide +kernel
theorem d_Tri_nodeOfTwo_11 : decode prog_1_method_30_code 11 = .ok (.iload_n 3, 1) := by decide +kernel
theorem d_Tri_nodeOfTwo_12 : decode prog_1_method_30_code 12 = .ok (.iconst 4, 1) := by decide +kernel
theorem d_Tri_nodeOfTwo_13 : decode prog_1_method_30_code 13 = .ok (.if_icmp .lt 18, 3) := by decide +kernel
theorem d_Tri_nodeOfTwo_16 : decode prog_1_method_30_code 16 = .ok (.aload 4, 2) := by decide +kernel
theorem d_Tri_nodeOfTwo_18 : decode prog_1_method_30_code 18 = .ok (.aload_n 0, 1) := by decide +kernel
theorem d_Tri_nodeOfTwo_19 : decode prog_1_method_30_code 19 = .ok (.invokevirtual 198, 3) := by decide +kernel
theorem d_Tri_nodeOfTwo_22 : decode prog_1_method_30_code 22 = .ok (.aload 4, 2) := by decide +kernel
theorem d_Tri_nodeOfTwo_24 : decode prog_1_method_30_code 24 = .ok (.aload_n 1, 1) := by decide +kernel
theorem d_Tri_nodeOfTwo_25 : decode prog_1_method_30_code 25 = .ok (.invokevirtual 198, 3) := by decide +kernel
theorem d_Tri_nodeOfTwo_28 : decode prog_1_method_30_code 28 = .ok (.aload 4, 2) := by decide +kernel
theorem d_Tri_nodeOfTwo_30 : decode prog_1_method_30_code 30 = .ok (.areturn, 1) := by decide +kernel
theorem d_Tri_nodeOfTwo_31 : decode prog_1_method_30_code 31 = .ok (.aload_n 0, 1) := by decide +kernel
theorem d_Tri_nodeOfTwo_32 : decode prog_1_method_30_code 32 = .ok (.getfield 117, 3) := by decide +kernel
theorem d_Tri_nodeOfTwo_35 : decode prog_1_method_30_code 35 = .ok (.iload_n 3, 1) := by decide +kernel
theorem d_Tri_nodeOfTwo_36 : decode prog_1_method_30_code 36 = .ok (.invokestatic 163, 3) := by decide +kernel
theorem d_Tri_nodeOfTwo_39 : decode prog_1_method_30_code 39 = .ok (.istore 5, 2) := by decide +kernel
theorem d_Tri_nodeOfTwo_41 : decode prog_1_method_30_code 41 = .ok (.aload_n 1, 1) := by decide +kernel
theorem d_Tri_nodeOfTwo_42 : decode prog_1_method_30_code 42 = .ok (.getfield 117, 3) := by decide +kernel
theorem d_Tri_nodeOfTwo_45 : decode prog_1_method_30_code 45 = .ok (.iload_n 3, 1) := by decide +kernel
theorem d_Tri_nodeOfTwo_46 : decode prog_1_method_30_code 46 = .ok (.invokestatic 163, 3) := by decide +kernel
theorem d_Tri_nodeOfTwo_49 : decode prog_1_method_30_code 49 = .ok (.istore 6, 2) := by decide +kernel
theorem d_Tri_nodeOfTwo_51 : decode prog_1_method_30_code 51 = .ok (.iload 5, 2) := by decide +kernel
theorem d_Tri_nodeOfTwo_53 : decode prog_1_method_30_code 53 = .ok (.iload 6, 2) := by decide +kernel
theorem d_Tri_nodeOfTwo_55 : decode prog_1_method_30_code 55 = .ok (.if_icmp .ne 23, 3) := by decide +kernel
theorem d_Tri_nodeOfTwo_58 : decode prog_1_method_30_code 58 = .ok (.aload 4, 2) := by decide +kernel
theorem d_Tri_nodeOfTwo_60 : decode prog_1_method_30_code 60 = .ok (.getfield 167, 3) := by decide +kernel
theorem d_Tri_nodeOfTwo_63 : decode prog_1_method_30_code 63 = .ok (.iload 5, 2) := by decide +kernel
theorem d_Tri_nodeOfTwo_65 : decode prog_1_method_30_code 65 = .ok (.aload_n 0, 1) := by decide +kernel
theorem d_Tri_nodeOfTwo_66 : decode prog_1_method_30_code 66 = .ok (.aload_n 1, 1) := by decide +kernel
theorem d_Tri_nodeOfTwo_67 : decode prog_1_method_30_code 67 = .ok (.iload_n 2, 1) := by decide +kernel
theorem d_Tri_nodeOfTwo_68 : decode prog_1_method_30_code 68 = .ok (.iload_n 3, 1) := by decide +kernel
theorem d_Tri_nodeOfTwo_69 : decode prog_1_method_30_code 69 = .ok (.iconst 1, 1) := by decide +kernel
theorem d_Tri_nodeOfTwo_70 : decode prog_1_method_30_code 70 = .ok (.iadd, 1) := by decide +kernel
theorem d_Tri_nodeOfTwo_71 : decode prog_1_method_30_code 71 = .ok (.invokestatic 202, 3) := by decide +kernel
theorem d_Tri_nodeOfTwo_74 : decode prog_1_method_30_code 74 = .ok (.aastore, 1) := by decide +kernel
theorem d_Tri_nodeOfTwo_75 : decode prog_1_method_30_code 75 = .ok (.goto 21, 3) := by decide +kernel
theorem d_Tri_nodeOfTwo_78 : decode prog_1_method_30_code 78 = .ok (.aload 4, 2) := by decide +kernel
theorem d_Tri_nodeOfTwo_80 : decode prog_1_method_30_code 80 = .ok (.getfield 170, 3) := by decide +kernel
theorem d_Tri_nodeOfTwo_83 : decode prog_1_method_30_code 83 = .ok (.iload 5, 2) := by decide +kernel
theorem d_Tri_nodeOfTwo_85 : decode prog_1_method_30_code 85 = .ok (.aload_n 0, 1) := by decide +kernel
theorem d_Tri_nodeOfTwo_86 : decode prog_1_method_30_code 86 = .ok (.aastore, 1) := by decide +kernel
theorem d_Tri_nodeOfTwo_87 : decode prog_1_method_30_code 87 = .ok (.aload 4, 2) := by decide +kernel
theorem d_Tri_nodeOfTwo_89 : decode prog_1_method_30_code 89 = .ok (.getfield 170, 3) := by decide +kernel
theorem d_Tri_nodeOfTwo_92 : decode prog_1_method_30_code 92 = .ok (.iload 6, 2) := by decide +kernel
theorem d_Tri_nodeOfTwo_94 : decode prog_1_method_30_code 94 = .ok (.aload_n 1, 1) := by decide +kernel
theorem d_Tri_nodeOfTwo_95 : decode prog_1_method_30_code 95 = .ok (.aastore, 1) := by decide +kernel
theorem d_Tri_nodeOfTwo_96 : decode prog_1_method_30_code 96 = .ok (.aload 4, 2) := by decide +kernel
theorem d_Tri_nodeOfTwo_98 : decode prog_1_method_30_code 98 = .ok (.areturn, 1) := by decide +kernel
theorem d_Tri_takeOut_0 : decode prog_1_method_31_code 0 = .ok (.iload_n 1, 1) := by decide +kernel
theorem d_Tri_takeOut_1 : decode prog_1_method_31_code 1 = .ok (.iconst 4, 1) := by decide +kernel
theorem d_Tri_takeOut_2 : decode prog_1_method_31_code 2 = .ok (.if_icmp .lt 9, 3) := by decide +kernel
theorem d_Tri_takeOut_5 : decode prog_1_method_31_code 5 = .ok (.aload_n 0, 1) := by decide +kernel
theorem d_Tri_takeOut_6 : decode prog_1_method_31_code 6 = .ok (.iload_n 2, 1) := by decide +kernel
theorem d_Tri_takeOut_7 : decode prog_1_method_31_code 7 = .ok (.invokevirtual 206, 3) := by decide +kernel
theorem d_Tri_takeOut_10 : decode prog_1_method_31_code 10 = .ok (.return_, 1) := by decide +kernel
theorem d_Tri_takeOut_11 : decode prog_1_method_31_code 11 = .ok (.iload_n 2, 1) := by decide +kernel
theorem d_Tri_takeOut_12 : decode prog_1_method_31_code 12 = .ok (.iload_n 1, 1) := by decide +kernel
theorem d_Tri_takeOut_13 : decode prog_1_method_31_code 13 = .ok (.invokestatic 163, 3) := by decide +kernel
theorem d_Tri_takeOut_16 : decode prog_1_method_31_code 16 = .ok (.istore_n 3, 1) := by decide +kernel
theorem d_Tri_takeOut_17 : decode prog_1_method_31_code 17 = .ok (.aload_n 0, 1) := by decide +kernel
theorem d_Tri_takeOut_18 : decode prog_1_method_31_code 18 = .ok (.getfield 167, 3) := by decide +kernel
theorem d_Tri_takeOut_21 : decode prog_1_method_31_code 21 = .ok (.iload_n 3, 1) := by decide +kernel
theorem d_Tri_takeOut_22 : decode prog_1_method_31_code 22 = .ok (.aaload, 1) := by decide +kernel
theorem d_Tri_takeOut_23 : decode prog_1_method_31_code 23 = .ok (.astore 4, 2) := by decide +kernel
theorem d_Tri_takeOut_25 : decode prog_1_method_31_code 25 = .ok (.aload 4, 2) := by decide +kernel
theorem d_Tri_takeOut_27 : decode prog_1_method_31_code 27 = .ok (.ifnonnull 11, 3) := by decide +kernel
theorem d_Tri_takeOut_30 : decode prog_1_method_31_code 30 = .ok (.aload_n 0, 1) := by decide +kernel
theorem d_Tri_takeOut_31 : decode prog_1_method_31_code 31 = .ok (.getfield 170, 3) := by decide +kernel
theorem d_Tri_takeOut_34 : decode prog_1_method_31_code 34 = .ok (.iload_n 3, 1) := by decide +kernel
theorem d_Tri_takeOut_35 : decode prog_1_method_31_code 35 = .ok (.aconst_null, 1) := by decide +kernel
theorem d_Tri_takeOut_36 : decode prog_1_method_31_code 36 = .ok (.aastore, 1) := by decide +kernel
theorem d_Tri_takeOut_37 : decode prog_1_method_31_code 37 = .ok (.return_, 1) := by decide +kernel
theorem d_Tri_takeOut_38 : decode prog_1_method_31_code 38 = .ok (.aload 4, 2) := by decide +kernel
theorem d_Tri_takeOut_40 : decode prog_1_method_31_code 40 = .ok (.iload_n 1, 1) := by decide +kernel
theorem d_Tri_takeOut_41 : decode prog_1_method_31_code 41 = .ok (.iconst 1, 1) := by decide +kernel
theorem d_Tri_takeOut_42 : decode prog_1_method_31_code 42 = .ok (.iadd, 1) := by decide +kernel
theorem d_Tri_takeOut_43 : decode prog_1_method_31_code 43 = .ok (.iload_n 2, 1) := by decide +kernel
theorem d_Tri_takeOut_44 : decode prog_1_method_31_code 44 = .ok (.invokestatic 79, 3) := by decide +kernel
theorem d_Tri_takeOut_47 : decode prog_1_method_31_code 47 = .ok (.aload 4, 2) := by decide +kernel
theorem d_Tri_takeOut_49 : decode prog_1_method_31_code 49 = .ok (.invokevirtual 209, 3) := by decide +kernel
theorem d_Tri_takeOut_52 : decode prog_1_method_31_code 52 = .ok (.astore 5, 2) := by decide +kernel
theorem d_Tri_takeOut_54 : decode prog_1_method_31_code 54 = .ok (.aload 5, 2) := by decide +kernel
theorem d_Tri_takeOut_56 : decode prog_1_method_31_code 56 = .ok (.ifnull 18, 3) := by decide +kernel
theorem d_Tri_takeOut_59 : decode prog_1_method_31_code 59 = .ok (.aload_n 0, 1) := by decide +kernel
theorem d_Tri_takeOut_60 : decode prog_1_method_31_code 60 = .ok (.getfield 167, 3) := by decide +kernel
theorem d_Tri_takeOut_63 : decode prog_1_method_31_code 63 = .ok (.iload_n 3, 1) := by decide +kernel
theorem d_Tri_takeOut_64 : decode prog_1_method_31_code 64 = .ok (.aconst_null, 1) := by decide +kernel
theorem d_Tri_takeOut_65 : decode prog_1_method_31_code 65 = .ok (.aastore, 1) := by decide +kernel
theorem d_Tri_takeOut_66 : decode prog_1_method_31_code 66 = .ok (.aload_n 0, 1) := by decide +kernel
theorem d_Tri_takeOut_67 : decode prog_1_method_31_code 67 = .ok (.getfield 170, 3) := by decide +kernel
theorem d_Tri_takeOut_70 : decode prog_1_method_31_code 70 = .ok (.iload_n 3, 1) := by decide +kernel
theorem d_Tri_takeOut_71 : decode prog_1_method_31_code 71 = .ok (.aload 5, 2) := by decide +kernel
theorem d_Tri_takeOut_73 : decode prog_1_method_31_code 73 = .ok (.aastore, 1) := by decide +kernel
theorem d_Tri_takeOut_74 : decode prog_1_method_31_code 74 = .ok (.return_, 1) := by decide +kernel
theorem d_Tri_countKeys_0 : decode prog_1_method_32_code 0 = .ok (.new 120, 3) := by decide +kernel
theorem d_Tri_countKeys_3 : decode prog_1_method_32_code 3 = .ok (.dup, 1) := by decide +kernel
theorem d_Tri_countKeys_4 : decode prog_1_method_32_code 4 = .ok (.iconst (-1), 1) := by decide +kernel
theorem d_Tri_countKeys_5 : decode prog_1_method_32_code 5 = .ok (.invokespecial 122, 3) := by decide +kernel
theorem d_Tri_countKeys_8 : decode prog_1_method_32_code 8 = .ok (.astore_n 1, 1) := by decide +kernel
theorem d_Tri_countKeys_9 : decode prog_1_method_32_code 9 = .ok (.aload_n 0, 1) := by decide +kernel
theorem d_Tri_countKeys_10 : decode prog_1_method_32_code 10 = .ok (.iconst 0, 1) := by decide +kernel
theorem d_Tri_countKeys_11 : decode prog_1_method_32_code 11 = .ok (.aload_n 1, 1) := by decide +kernel
theorem d_Tri_countKeys_12 : decode prog_1_method_32_code 12 = .ok (.invokestatic 125, 3) := by decide +kernel
theorem d_Tri_countKeys_15 : decode prog_1_method_32_code 15 = .ok (.aload_n 1, 1) := by decide +kernel
theorem d_Tri_countKeys_16 : decode prog_1_method_32_code 16 = .ok (.getfield 129, 3) := by decide +kernel
theorem d_Tri_countKeys_19 : decode prog_1_method_32_code 19 = .ok (.ireturn, 1) := by decide +kernel
theorem d_Tri_addUp_0 : decode prog_1_method_33_code 0 = .ok (.aload_n 0, 1) := by decide +kernel
theorem d_Tri_addUp_1 : decode prog_1_method_33_code 1 = .ok (.ifnull 8, 3) := by decide +kernel
theorem d_Tri_addUp_4 : decode prog_1_method_33_code 4 = .ok (.iload_n 1, 1) := by decide +kernel
theorem d_Tri_addUp_5 : decode prog_1_method_33_code 5 = .ok (.iconst 4, 1) := by decide +kernel
theorem d_Tri_addUp_6 : decode prog_1_method_33_code 6 = .ok (.if_icmp .le 4, 3) := by decide +kernel
theorem d_Tri_addUp_9 : decode prog_1_method_33_code 9 = .ok (.return_, 1) := by decide +kernel
theorem d_Tri_addUp_10 : decode prog_1_method_33_code 10 = .ok (.aload_n 2, 1) := by decide +kernel
theorem d_Tri_addUp_11 : decode prog_1_method_33_code 11 = .ok (.aload_n 0, 1) := by decide +kernel
theorem d_Tri_addUp_12 : decode prog_1_method_33_code 12 = .ok (.iload_n 1, 1) := by decide +kernel
theorem d_Tri_addUp_13 : decode prog_1_method_33_code 13 = .ok (.invokevirtual 212, 3) := by decide +kernel
theorem d_Tri_addUp_16 : decode prog_1_method_33_code 16 = .ok (.iconst 0, 1) := by decide +kernel
theorem d_Tri_addUp_17 : decode prog_1_method_33_code 17 = .ok (.istore_n 3, 1) := by decide +kernel
theorem d_Tri_addUp_18 : decode prog_1_method_33_code 18 = .ok (.iload_n 3, 1) := by decide +kernel
theorem d_Tri_addUp_19 : decode prog_1_method_33_code 19 = .ok (.aload_n 0, 1) := by decide +kernel
theorem d_Tri_addUp_20 : decode prog_1_method_33_code 20 = .ok (.getfield 167, 3) := by decide +kernel
theorem d_Tri_addUp_23 : decode prog_1_method_33_code 23 = .ok (.arraylength, 1) := by decide +kernel
theorem d_Tri_addUp_24 : decode prog_1_method_33_code 24 = .ok (.if_icmp .ge 22, 3) := by decide +kernel
theorem d_Tri_addUp_27 : decode prog_1_method_33_code 27 = .ok (.aload_n 0, 1) := by decide +kernel
theorem d_Tri_addUp_28 : decode prog_1_method_33_code 28 = .ok (.getfield 167, 3) := by decide +kernel
theorem d_Tri_addUp_31 : decode prog_1_method_33_code 31 = .ok (.iload_n 3, 1) := by decide +kernel
theorem d_Tri_addUp_32 : decode prog_1_method_33_code 32 = .ok (.aaload, 1) := by decide +kernel
theorem d_Tri_addUp_33 : decode prog_1_method_33_code 33 = .ok (.iload_n 1, 1) := by decide +kernel
theorem d_Tri_addUp_34 : decode prog_1_method_33_code 34 = .ok (.iconst 1, 1) := by decide +kernel
theorem d_Tri_addUp_35 : decode prog_1_method_33_code 35 = .ok (.iadd, 1) := by decide +kernel
theorem d_Tri_addUp_36 : decode prog_1_method_33_code 36 = .ok (.aload_n 2, 1) := by decide +kernel
theorem d_Tri_addUp_37 : decode prog_1_method_33_code 37 = .ok (.invokestatic 125, 3) := by decide +kernel
theorem d_Tri_addUp_40 : decode prog_1_method_33_code 40 = .ok (.iinc 3 1, 3) := by decide +kernel
theorem d_Tri_addUp_43 : decode prog_1_method_33_code 43 = .ok (.goto (-25), 3) := by decide +kernel
theorem d_Tri_addUp_46 : decode prog_1_method_33_code 46 = .ok (.return_, 1) := by decide +kernel
theorem d_Tri_countShared_0 : decode prog_1_method_34_code 0 = .ok (.aload_n 0, 1) := by decide +kernel
theorem d_Tri_countShared_1 : decode prog_1_method_34_code 1 = .ok (.ifnull 12, 3) := by decide +kernel
theorem d_Tri_countShared_4 : decode prog_1_method_34_code 4 = .ok (.aload_n 1, 1) := by decide +kernel
theorem d_Tri_countShared_5 : decode prog_1_method_34_code 5 = .ok (.ifnull 8, 3) := by decide +kernel
theorem d_Tri_countShared_8 : decode prog_1_method_34_code 8 = .ok (.iload_n 2, 1) := by decide +kernel
theorem d_Tri_countShared_9 : decode prog_1_method_34_code 9 = .ok (.iconst 4, 1) := by decide +kernel
theorem d_Tri_countShared_10 : decode prog_1_method_34_code 10 = .ok (.if_icmp .le 5, 3) := by decide +kernel
theorem d_Tri_countShared_13 : decode prog_1_method_34_code 13 = .ok (.iconst 0, 1) := by decide +kernel
theorem d_Tri_countShared_14 : decode prog_1_method_34_code 14 = .ok (.ireturn, 1) := by decide +kernel
theorem d_Tri_countShared_15 : decode prog_1_method_34_code 15 = .ok (.aload_n 0, 1) := by decide +kernel
theorem d_Tri_countShared_16 : decode prog_1_method_34_code 16 = .ok (.aload_n 1, 1) := by decide +kernel
theorem d_Tri_countShared_17 : decode prog_1_method_34_code 17 = .ok (.if_acmp .ne 7, 3) := by decide +kernel
theorem d_Tri_countShared_20 : decode prog_1_method_34_code 20 = .ok (.iconst 1, 1) := by decide +kernel
theorem d_Tri_countShared_21 : decode prog_1_method_34_code 21 = .ok (.goto 4, 3) := by decide +kernel
theorem d_Tri_countShared_24 : decode prog_1_method_34_code 24 = .ok (.iconst 0, 1) := by decide +kernel
theorem d_Tri_countShared_25 : decode prog_1_method_34_code 25 = .ok (.istore_n 3, 1) := by decide +kernel
theorem d_Tri_countShared_26 : decode prog_1_method_34_code 26 = .ok (.iconst 0, 1) := by decide +kernel
theorem d_Tri_countShared_27 : decode prog_1_method_34_code 27 = .ok (.istore 4, 2) := by decide +kernel
theorem d_Tri_countShared_29 : decode prog_1_method_34_code 29 = .ok (.iload 4, 2) := by decide +kernel
theorem d_Tri_countShared_31 : decode prog_1_method_34_code 31 = .ok (.aload_n 0, 1) := by decide +kernel
theorem d_Tri_countShared_32 : decode prog_1_method_34_code 32 = .ok (.getfield 167, 3) := by decide +kernel
theorem d_Tri_countShared_35 : decode prog_1_method_34_code 35 = .ok (.arraylength, 1) := by decide +kernel
theorem d_Tri_countShared_36 : decode prog_1_method_34_code 36 = .ok (.if_icmp .ge 31, 3) := by decide +kernel
theorem d_Tri_countShared_39 : decode prog_1_method_34_code 39 = .ok (.iload_n 3, 1) := by decide +kernel
theorem d_Tri_countShared_40 : decode prog_1_method_34_code 40 = .ok (.aload_n 0, 1) := by decide +kernel
theorem d_Tri_countShared_41 : decode prog_1_method_34_code 41 = .ok (.getfield 167, 3) := by decide +kernel
theorem d_Tri_countShared_44 : decode prog_1_method_34_code 44 = .ok (.iload 4, 2) := by decide +kernel
theorem d_Tri_countShared_46 : decode prog_1_method_34_code 46 = .ok (.aaload, 1) := by decide +kernel
theorem d_Tri_countShared_47 : decode prog_1_method_34_code 47 = .ok (.aload_n 1, 1) := by decide +kernel
theorem d_Tri_countShared_48 : decode prog_1_method_34_code 48 = .ok (.iload 4, 2) := by decide +kernel
theorem d_Tri_countShared_50 : decode prog_1_method_34_code 50 = .ok (.invokevirtual 190, 3) := by decide +kernel
theorem d_Tri_countShared_53 : decode prog_1_method_34_code 53 = .ok (.iload_n 2, 1) := by decide +kernel
theorem d_Tri_countShared_54 : decode prog_1_method_34_code 54 = .ok (.iconst 1, 1) := by decide +kernel
theorem d_Tri_countShared_55 : decode prog_1_method_34_code 55 = .ok (.iadd, 1) := by decide +kernel
theorem d_Tri_countShared_56 : decode prog_1_method_34_code 56 = .ok (.invokestatic 147, 3) := by decide +kernel
theorem d_Tri_countShared_59 : decode prog_1_method_34_code 59 = .ok (.iadd, 1) := by decide +kernel
theorem d_Tri_countShared_60 : decode prog_1_method_34_code 60 = .ok (.istore_n 3, 1) := by decide +kernel
theorem d_Tri_countShared_61 : decode prog_1_method_34_code 61 = .ok (.iinc 4 1, 3) := by decide +kernel
theorem d_Tri_countShared_64 : decode prog_1_method_34_code 64 = .ok (.goto (-35), 3) := by decide +kernel
theorem d_Tri_countShared_67 : decode prog_1_method_34_code 67 = .ok (.iload_n 3, 1) := by decide +kernel
theorem d_Tri_countShared_68 : decode prog_1_method_34_code 68 = .ok (.ireturn, 1) := by decide +kernel
end
section
theorem d_Mod_init_0 : decode prog_8_method_1_code 0 = .ok (.aload_n 0, 1) := by decide +kernel
theorem d_Mod_init_1 : decode prog_8_method_1_code 1 = .ok (.invokespecial 1, 3) := by decide +kernel
theorem d_Mod_init_4 : decode prog_8_method_1_code 4 = .ok (.aload_n 0, 1) := by decide +kernel
theorem d_Mod_init_5 : decode prog_8_method_1_code 5 = .ok (.iconst 1, 1) := by decide +kernel
theorem d_Mod_init_6 : decode prog_8_method_1_code 6 = .ok (.putfield 7, 3) := by decide +kernel
theorem d_Mod_init_9 : decode prog_8_method_1_code 9 = .ok (.aload_n 0, 1) := by decide +kernel
theorem d_Mod_init_10 : decode prog_8_method_1_code 10 = .ok (.bipush 6, 2) := by decide +kernel
theorem d_Mod_init_12 : decode prog_8_method_1_code 12 = .ok (.newarray .boolean, 2) := by decide +kernel
theorem d_Mod_init_14 : decode prog_8_method_1_code 14 = .ok (.putfield 13, 3) := by decide +kernel
theorem d_Mod_init_17 : decode prog_8_method_1_code 17 = .ok (.aload_n 0, 1) := by decide +kernel
theorem d_Mod_init_18 : decode prog_8_method_1_code 18 = .ok (.bipush 6, 2) := by decide +kernel
theorem d_Mod_init_20 : decode prog_8_method_1_code 20 = .ok (.newarray .boolean, 2) := by decide +kernel
theorem d_Mod_init_22 : decode prog_8_method_1_code 22 = .ok (.putfield 17, 3) := by decide +kernel
theorem d_Mod_init_25 : decode prog_8_method_1_code 25 = .ok (.aload_n 0, 1) := by decide +kernel
theorem d_Mod_init_26 : decode prog_8_method_1_code 26 = .ok (.bipush 6, 2) := by decide +kernel
theorem d_Mod_init_28 : decode prog_8_method_1_code 28 = .ok (.newarray .int, 2) := by decide +kernel
theorem d_Mod_init_30 : decode prog_8_method_1_code 30 = .ok (.putfield 20, 3) := by decide +kernel
theorem d_Mod_init_33 : decode prog_8_method_1_code 33 = .ok (.aload_n 0, 1) := by decide +kernel
theorem d_Mod_init_34 : decode prog_8_method_1_code 34 = .ok (.bipush 6, 2) := by decide +kernel
theorem d_Mod_init_36 : decode prog_8_method_1_code 36 = .ok (.newarray .int, 2) := by decide +kernel
theorem d_Mod_init_38 : decode prog_8_method_1_code 38 = .ok (.putfield 24, 3) := by decide +kernel
theorem d_Mod_init_41 : decode prog_8_method_1_code 41 = .ok (.aload_n 0, 1) := by decide +kernel
theorem d_Mod_init_42 : decode prog_8_method_1_code 42 = .ok (.sipush 360, 3) := by decide +kernel
theorem d_Mod_init_45 : decode prog_8_method_1_code 45 = .ok (.newarray .int, 2) := by decide +kernel
theorem d_Mod_init_47 : decode prog_8_method_1_code 47 = .ok (.putfield 27, 3) := by decide +kernel
theorem d_Mod_init_50 : decode prog_8_method_1_code 50 = .ok (.aload_n 0, 1) := by decide +kernel
theorem d_Mod_init_51 : decode prog_8_method_1_code 51 = .ok (.sipush 360, 3) := by decide +kernel
theorem d_Mod_init_54 : decode prog_8_method_1_code 54 = .ok (.newarray .long, 2) := by decide +kernel
theorem d_Mod_init_56 : decode prog_8_method_1_code 56 = .ok (.putfield 30, 3) := by decide +kernel
theorem d_Mod_init_59 : decode prog_8_method_1_code 59 = .ok (.aload_n 0, 1) := by decide +kernel
theorem d_Mod_init_60 : decode prog_8_method_1_code 60 = .ok (.sipush 2046, 3) := by decide +kernel
theorem d_Mod_init_63 : decode prog_8_method_1_code 63 = .ok (.newarray .int, 2) := by decide +kernel
theorem d_Mod_init_65 : decode prog_8_method_1_code 65 = .ok (.putfield 34, 3) := by decide +kernel
theorem d_Mod_init_68 : decode prog_8_method_1_code 68 = .ok (.aload_n 0, 1) := by decide +kernel
theorem d_Mod_init_69 : decode prog_8_method_1_code 69 = .ok (.iconst 4, 1) := by decide +kernel
theorem d_Mod_init_70 : decode prog_8_method_1_code 70 = .ok (.newarray .boolean, 2) := by decide +kernel
theorem d_Mod_init_72 : decode prog_8_method_1_code 72 = .ok (.putfield 37, 3) := by decide +kernel
theorem d_Mod_init_75 : decode prog_8_method_1_code 75 = .ok (.aload_n 0, 1) := by decide +kernel
theorem d_Mod_init_76 : decode prog_8_method_1_code 76 = .ok (.iconst 4, 1) := by decide +kernel
theorem d_Mod_init_77 : decode prog_8_method_1_code 77 = .ok (.newarray .int, 2) := by decide +kernel
theorem d_Mod_init_79 : decode prog_8_method_1_code 79 = .ok (.putfield 40, 3) := by decide +kernel
theorem d_Mod_init_82 : decode prog_8_method_1_code 82 = .ok (.aload_n 0, 1) := by decide +kernel
theorem d_Mod_init_83 : decode prog_8_method_1_code 83 = .ok (.iconst 4, 1) := by decide +kernel
theorem d_Mod_init_84 : decode prog_8_method_1_code 84 = .ok (.newarray .int, 2) := by decide +kernel
theorem d_Mod_init_86 : decode prog_8_method_1_code 86 = .ok (.putfield 43, 3) := by decide +kernel
theorem d_Mod_init_89 : decode prog_8_method_1_code 89 = .ok (.aload_n 0, 1) := by decide +kernel
theorem d_Mod_init_90 : decode prog_8_method_1_code 90 = .ok (.sipush 240, 3) := by decide +kernel
theorem d_Mod_init_93 : decode prog_8_method_1_code 93 = .ok (.newarray .int, 2) := by decide +kernel
theorem d_Mod_init_95 : decode prog_8_method_1_code 95 = .ok (.putfield 46, 3) := by decide +kernel
theorem d_Mod_init_98 : decode prog_8_method_1_code 98 = .ok (.aload_n 0, 1) := by decide +kernel
theorem d_Mod_init_99 : decode prog_8_method_1_code 99 = .ok (.sipush 240, 3) := by decide +kernel
theorem d_Mod_init_102 : decode prog_8_method_1_code 102 = .ok (.newarray .long, 2) := by decide +kernel
theorem d_Mod_init_104 : decode prog_8_method_1_code 104 = .ok (.putfield 49, 3) := by decide +kernel
theorem d_Mod_init_107 : decode prog_8_method_1_code 107 = .ok (.aload_n 0, 1) := by decide +kernel
theorem d_Mod_init_108 : decode prog_8_method_1_code 108 = .ok (.getfield 13, 3) := by decide +kernel
theorem d_Mod_init_111 : decode prog_8_method_1_code 111 = .ok (.iconst 0, 1) := by decide +kernel
theorem d_Mod_init_112 : decode prog_8_method_1_code 112 = .ok (.iconst 1, 1) := by decide +kernel
theorem d_Mod_init_113 : decode prog_8_method_1_code 113 = .ok (.bastore, 1) := by decide +kernel
theorem d_Mod_init_114 : decode prog_8_method_1_code 114 = .ok (.aload_n 0, 1) := by decide +kernel
theorem d_Mod_init_115 : decode prog_8_method_1_code 115 = .ok (.getfield 20, 3) := by decide +kernel
theorem d_Mod_init_118 : decode prog_8_method_1_code 118 = .ok (.iconst 0, 1) := by decide +kernel
theorem d_Mod_init_119 : decode prog_8_method_1_code 119 = .ok (.iconst 1, 1) := by decide +kernel
theorem d_Mod_init_120 : decode prog_8_method_1_code 120 = .ok (.iastore, 1) := by decide +kernel
theorem d_Mod_init_121 : decode prog_8_method_1_code 121 = .ok (.aload_n 0, 1) := by decide +kernel
theorem d_Mod_init_122 : decode prog_8_method_1_code 122 = .ok (.getfield 34, 3) := by decide +kernel
theorem d_Mod_init_125 : decode prog_8_method_1_code 125 = .ok (.iconst 0, 1) := by decide +kernel
theorem d_Mod_init_126 : decode prog_8_method_1_code 126 = .ok (.iconst 1, 1) := by decide +kernel
theorem d_Mod_init_127 : decode prog_8_method_1_code 127 = .ok (.iastore, 1) := by decide +kernel
theorem d_Mod_init_128 : decode prog_8_method_1_code 128 = .ok (.return_, 1) := by decide +kernel
theorem d_Mod_thrown_0 : decode prog_8_method_2_code 0 = .ok (.aload_n 0, 1) := by decide +kernel
theorem d_Mod_thrown_1 : decode prog_8_method_2_code 1 = .ok (.getfield 52, 3) := by decide +kernel
theorem d_Mod_thrown_4 : decode prog_8_method_2_code 4 = .ok (.ireturn, 1) := by decide +kernel
theorem d_Mod_fail_0 : decode prog_8_method_3_code 0 = .ok (.aload_n 0, 1) := by decide +kernel
theorem d_Mod_fail_1 : decode prog_8_method_3_code 1 = .ok (.iload_n 1, 1) := by decide +kernel
theorem d_Mod_fail_2 : decode prog_8_method_3_code 2 = .ok (.putfield 52, 3) := by decide +kernel
theorem d_Mod_fail_5 : decode prog_8_method_3_code 5 = .ok (.iconst 0, 1) := by decide +kernel
theorem d_Mod_fail_6 : decode prog_8_method_3_code 6 = .ok (.ireturn, 1) := by decide +kernel
theorem d_Mod_none_0 : decode prog_8_method_4_code 0 = .ok (.iload_n 1, 1) := by decide +kernel
theorem d_Mod_none_1 : decode prog_8_method_4_code 1 = .ok (.ifCond .lt 18, 3) := by decide +kernel
theorem d_Mod_none_4 : decode prog_8_method_4_code 4 = .ok (.iload_n 1, 1) := by decide +kernel
theorem d_Mod_none_5 : decode prog_8_method_4_code 5 = .ok (.bipush 6, 2) := by decide +kernel
theorem d_Mod_none_7 : decode prog_8_method_4_code 7 = .ok (.if_icmp .ge 12, 3) := by decide +kernel
theorem d_Mod_none_10 : decode prog_8_method_4_code 10 = .ok (.aload_n 0, 1) := by decide +kernel
theorem d_Mod_none_11 : decode prog_8_method_4_code 11 = .ok (.getfield 13, 3) := by decide +kernel
theorem d_Mod_none_14 : decode prog_8_method_4_code 14 = .ok (.iload_n 1, 1) := by decide +kernel
theorem d_Mod_none_15 : decode prog_8_method_4_code 15 = .ok (.baload, 1) := by decide +kernel
theorem d_Mod_none_16 : decode prog_8_method_4_code 16 = .ok (.ifCond .ne 7, 3) := by decide +kernel
theorem d_Mod_none_19 : decode prog_8_method_4_code 19 = .ok (.iconst 1, 1) := by decide +kernel
theorem d_Mod_none_20 : decode prog_8_method_4_code 20 = .ok (.goto 4, 3) := by decide +kernel
theorem d_Mod_none_23 : decode prog_8_method_4_code 23 = .ok (.iconst 0, 1) := by decide +kernel
theorem d_Mod_none_24 : decode prog_8_method_4_code 24 = .ok (.ireturn, 1) := by decide +kernel
theorem d_Mod_hash_0 : decode prog_8_method_5_code 0 = .ok (.iload_n 0, 1) := by decide +kernel
theorem d_Mod_hash_1 : decode prog_8_method_5_code 1 = .ok (.ldc 55, 2) := by decide +kernel
theorem d_Mod_hash_3 : decode prog_8_method_5_code 3 = .ok (.imul, 1) := by decide +kernel
theorem d_Mod_hash_4 : decode prog_8_method_5_code 4 = .ok (.bipush 24, 2) := by decide +kernel
theorem d_Mod_hash_6 : decode prog_8_method_5_code 6 = .ok (.iushr, 1) := by decide +kernel
theorem d_Mod_hash_7 : decode prog_8_method_5_code 7 = .ok (.ireturn, 1) := by decide +kernel
theorem d_Mod_node_0 : decode prog_8_method_6_code 0 = .ok (.iload_n 1, 1) := by decide +kernel
theorem d_Mod_node_1 : decode prog_8_method_6_code 1 = .ok (.ifCond .ne 7, 3) := by decide +kernel
theorem d_Mod_node_4 : decode prog_8_method_6_code 4 = .ok (.iconst 0, 1) := by decide +kernel
theorem d_Mod_node_5 : decode prog_8_method_6_code 5 = .ok (.goto 33, 3) := by decide +kernel
theorem d_Mod_node_8 : decode prog_8_method_6_code 8 = .ok (.iload_n 1, 1) := by decide +kernel
theorem d_Mod_node_9 : decode prog_8_method_6_code 9 = .ok (.iconst 1, 1) := by decide +kernel
theorem d_Mod_node_10 : decode prog_8_method_6_code 10 = .ok (.if_icmp .ne 7, 3) := by decide +kernel
theorem d_Mod_node_13 : decode prog_8_method_6_code 13 = .ok (.iconst 1, 1) := by decide +kernel
theorem d_Mod_node_14 : decode prog_8_method_6_code 14 = .ok (.goto 24, 3) := by decide +kernel
theorem d_Mod_node_17 : decode prog_8_method_6_code 17 = .ok (.iload_n 1, 1) := by decide +kernel
theorem d_Mod_node_18 : decode prog_8_method_6_code 18 = .ok (.iconst 2, 1) := by decide +kernel
theorem d_Mod_node_19 : decode prog_8_method_6_code 19 = .ok (.if_icmp .ne 7, 3) := by decide +kernel
theorem d_Mod_node_22 : decode prog_8_method_6_code 22 = .ok (.iconst 5, 1) := by decide +kernel
theorem d_Mod_node_23 : decode prog_8_method_6_code 23 = .ok (.goto 15, 3) := by decide +kernel
theorem d_Mod_node_26 : decode prog_8_method_6_code 26 = .ok (.iload_n 1, 1) := by decide +kernel
theorem d_Mod_node_27 : decode prog_8_method_6_code 27 = .ok (.iconst 3, 1) := by decide +kernel
theorem d_Mod_node_28 : decode prog_8_method_6_code 28 = .ok (.if_icmp .ne 8, 3) := by decide +kernel
theorem d_Mod_node_31 : decode prog_8_method_6_code 31 = .ok (.bipush 21, 2) := by decide +kernel
theorem d_Mod_node_33 : decode prog_8_method_6_code 33 = .ok (.goto 5, 3) := by decide +kernel
theorem d_Mod_node_36 : decode prog_8_method_6_code 36 = .ok (.bipush 85, 2) := by decide +kernel
theorem d_Mod_node_38 : decode prog_8_method_6_code 38 = .ok (.istore_n 2, 1) := by decide +kernel
theorem d_Mod_node_39 : decode prog_8_method_6_code 39 = .ok (.iload_n 2, 1) := by decide +kernel
theorem d_Mod_node_40 : decode prog_8_method_6_code 40 = .ok (.iload_n 0, 1) := by decide +kernel
theorem d_Mod_node_41 : decode prog_8_method_6_code 41 = .ok (.bipush 8, 2) := by decide +kernel
theorem d_Mod_node_43 : decode prog_8_method_6_code 43 = .ok (.iconst 2, 1) := by decide +kernel
theorem d_Mod_node_44 : decode prog_8_method_6_code 44 = .ok (.iload_n 1, 1) := by decide +kernel
theorem d_Mod_node_45 : decode prog_8_method_6_code 45 = .ok (.imul, 1) := by decide +kernel
theorem d_Mod_node_46 : decode prog_8_method_6_code 46 = .ok (.isub, 1) := by decide +kernel
theorem d_Mod_node_47 : decode prog_8_method_6_code 47 = .ok (.ishr, 1) := by decide +kernel
theorem d_Mod_node_48 : decode prog_8_method_6_code 48 = .ok (.iadd, 1) := by decide +kernel
theorem d_Mod_node_49 : decode prog_8_method_6_code 49 = .ok (.ireturn, 1) := by decide +kernel
theorem d_Mod_sharing_0 : decode prog_8_method_7_code 0 = .ok (.iconst 0, 1) := by decide +kernel
theorem d_Mod_sharing_1 : decode prog_8_method_7_code 1 = .ok (.istore 4, 2) := by decide +kernel
theorem d_Mod_sharing_3 : decode prog_8_method_7_code 3 = .ok (.iconst 0, 1) := by decide +kernel
theorem d_Mod_sharing_4 : decode prog_8_method_7_code 4 = .ok (.istore 5, 2) := by decide +kernel
theorem d_Mod_sharing_6 : decode prog_8_method_7_code 6 = .ok (.iload 5, 2) := by decide +kernel
theorem d_Mod_sharing_8 : decode prog_8_method_7_code 8 = .ok (.aload_n 0, 1) := by decide +kernel
theorem d_Mod_sharing_9 : decode prog_8_method_7_code 9 = .ok (.getfield 24, 3) := by decide +kernel
theorem d_Mod_sharing_12 : decode prog_8_method_7_code 12 = .ok (.iload_n 1, 1) := by decide +kernel
theorem d_Mod_sharing_13 : decode prog_8_method_7_code 13 = .ok (.iaload, 1) := by decide +kernel
theorem d_Mod_sharing_14 : decode prog_8_method_7_code 14 = .ok (.if_icmp .ge 52, 3) := by decide +kernel
theorem d_Mod_sharing_17 : decode prog_8_method_7_code 17 = .ok (.iload 4, 2) := by decide +kernel
theorem d_Mod_sharing_19 : decode prog_8_method_7_code 19 = .ok (.aload_n 0, 1) := by decide +kernel
theorem d_Mod_sharing_20 : decode prog_8_method_7_code 20 = .ok (.getfield 27, 3) := by decide +kernel
theorem d_Mod_sharing_23 : decode prog_8_method_7_code 23 = .ok (.bipush 60, 2) := by decide +kernel
theorem d_Mod_sharing_25 : decode prog_8_method_7_code 25 = .ok (.iload_n 1, 1) := by decide +kernel
theorem d_Mod_sharing_26 : decode prog_8_method_7_code 26 = .ok (.imul, 1) := by decide +kernel
theorem d_Mod_sharing_27 : decode prog_8_method_7_code 27 = .ok (.iload 5, 2) := by decide +kernel
theorem d_Mod_sharing_29 : decode prog_8_method_7_code 29 = .ok (.iadd, 1) := by decide +kernel
theorem d_Mod_sharing_30 : decode prog_8_method_7_code 30 = .ok (.iaload, 1) := by decide +kernel
theorem d_Mod_sharing_31 : decode prog_8_method_7_code 31 = .ok (.invokestatic 56, 3) := by decide +kernel
theorem d_Mod_sharing_34 : decode prog_8_method_7_code 34 = .ok (.bipush 8, 2) := by decide +kernel
theorem d_Mod_sharing_36 : decode prog_8_method_7_code 36 = .ok (.iconst 2, 1) := by decide +kernel
theorem d_Mod_sharing_37 : decode prog_8_method_7_code 37 = .ok (.iload_n 3, 1) := by decide +kernel
theorem d_Mod_sharing_38 : decode prog_8_method_7_code 38 = .ok (.imul, 1) := by decide +kernel
theorem d_Mod_sharing_39 : decode prog_8_method_7_code 39 = .ok (.isub, 1) := by decide +kernel
theorem d_Mod_sharing_40 : decode prog_8_method_7_code 40 = .ok (.ishr, 1) := by decide +kernel
theorem d_Mod_sharing_41 : decode prog_8_method_7_code 41 = .ok (.iload_n 2, 1) := by decide +kernel
theorem d_Mod_sharing_42 : decode prog_8_method_7_code 42 = .ok (.bipush 8, 2) := by decide +kernel
theorem d_Mod_sharing_44 : decode prog_8_method_7_code 44 = .ok (.iconst 2, 1) := by decide +kernel
theorem d_Mod_sharing_45 : decode prog_8_method_7_code 45 = .ok (.iload_n 3, 1) := by decide +kernel
theorem d_Mod_sharing_46 : decode prog_8_method_7_code 46 = .ok (.imul, 1) := by decide +kernel
theorem d_Mod_sharing_47 : decode prog_8_method_7_code 47 = .ok (.isub, 1) := by decide +kernel
theorem d_Mod_sharing_48 : decode prog_8_method_7_code 48 = .ok (.ishr, 1) := by decide +kernel
theorem d_Mod_sharing_49 : decode prog_8_method_7_code 49 = .ok (.if_icmp .ne 7, 3) := by decide +kernel
theorem d_Mod_sharing_52 : decode prog_8_method_7_code 52 = .ok (.iconst 1, 1) := by decide +kernel
theorem d_Mod_sharing_53 : decode prog_8_method_7_code 53 = .ok (.goto 4, 3) := by decide +kernel
theorem d_Mod_sharing_56 : decode prog_8_method_7_code 56 = .ok (.iconst 0, 1) := by decide +kernel
theorem d_Mod_sharing_57 : decode prog_8_method_7_code 57 = .ok (.iadd, 1) := by decide +kernel
theorem d_Mod_sharing_58 : decode prog_8_method_7_code 58 = .ok (.istore 4, 2) := by decide +kernel
theorem d_Mod_sharing_60 : decode prog_8_method_7_code 60 = .ok (.iinc 5 1, 3) := by decide +kernel
theorem d_Mod_sharing_63 : decode prog_8_method_7_code 63 = .ok (.goto (-57), 3) := by decide +kernel
theorem d_Mod_sharing_66 : decode prog_8_method_7_code 66 = .ok (.iload 4, 2) := by decide +kernel
theorem d_Mod_sharing_68 : decode prog_8_method_7_code 68 = .ok (.ireturn, 1) := by decide +kernel
theorem d_Mod_exists_0 : decode prog_8_method_8_code 0 = .ok (.iload_n 3, 1) := by decide +kernel
theorem d_Mod_exists_1 : decode prog_8_method_8_code 1 = .ok (.ifCond .eq 14, 3) := by decide +kernel
theorem d_Mod_exists_4 : decode prog_8_method_8_code 4 = .ok (.aload_n 0, 1) := by decide +kernel
theorem d_Mod_exists_5 : decode prog_8_method_8_code 5 = .ok (.iload_n 1, 1) := by decide +kernel
theorem d_Mod_exists_6 : decode prog_8_method_8_code 6 = .ok (.iload_n 2, 1) := by decide +kernel
theorem d_Mod_exists_7 : decode prog_8_method_8_code 7 = .ok (.iload_n 3, 1) := by decide +kernel
theorem d_Mod_exists_8 : decode prog_8_method_8_code 8 = .ok (.invokevirtual 60, 3) := by decide +kernel
theorem d_Mod_exists_11 : decode prog_8_method_8_code 11 = .ok (.iconst 1, 1) := by decide +kernel
theorem d_Mod_exists_12 : decode prog_8_method_8_code 12 = .ok (.if_icmp .le 7, 3) := by decide +kernel
theorem d_Mod_exists_15 : decode prog_8_method_8_code 15 = .ok (.iconst 1, 1) := by decide +kernel
theorem d_Mod_exists_16 : decode prog_8_method_8_code 16 = .ok (.goto 4, 3) := by decide +kernel
theorem d_Mod_exists_19 : decode prog_8_method_8_code 19 = .ok (.iconst 0, 1) := by decide +kernel
theorem d_Mod_exists_20 : decode prog_8_method_8_code 20 = .ok (.ireturn, 1) := by decide +kernel
theorem d_Mod_write_0 : decode prog_8_method_9_code 0 = .ok (.iconst 0, 1) := by decide +kernel
theorem d_Mod_write_1 : decode prog_8_method_9_code 1 = .ok (.istore_n 3, 1) := by decide +kernel
theorem d_Mod_write_2 : decode prog_8_method_9_code 2 = .ok (.iload_n 3, 1) := by decide +kernel
theorem d_Mod_write_3 : decode prog_8_method_9_code 3 = .ok (.iconst 5, 1) := by decide +kernel
theorem d_Mod_write_4 : decode prog_8_method_9_code 4 = .ok (.if_icmp .ge 71, 3) := by decide +kernel
theorem d_Mod_write_7 : decode prog_8_method_9_code 7 = .ok (.sipush 341, 3) := by decide +kernel
theorem d_Mod_write_10 : decode prog_8_method_9_code 10 = .ok (.iload_n 1, 1) := by decide +kernel
theorem d_Mod_write_11 : decode prog_8_method_9_code 11 = .ok (.imul, 1) := by decide +kernel
theorem d_Mod_write_12 : decode prog_8_method_9_code 12 = .ok (.iload_n 2, 1) := by decide +kernel
theorem d_Mod_write_13 : decode prog_8_method_9_code 13 = .ok (.iload_n 3, 1) := by decide +kernel
theorem d_Mod_write_14 : decode prog_8_method_9_code 14 = .ok (.invokestatic 64, 3) := by decide +kernel
theorem d_Mod_write_17 : decode prog_8_method_9_code 17 = .ok (.iadd, 1) := by decide +kernel
theorem d_Mod_write_18 : decode prog_8_method_9_code 18 = .ok (.istore 4, 2) := by decide +kernel
theorem d_Mod_write_20 : decode prog_8_method_9_code 20 = .ok (.aload_n 0, 1) := by decide +kernel
theorem d_Mod_write_21 : decode prog_8_method_9_code 21 = .ok (.iload_n 1, 1) := by decide +kernel
theorem d_Mod_write_22 : decode prog_8_method_9_code 22 = .ok (.iload_n 2, 1) := by decide +kernel
theorem d_Mod_write_23 : decode prog_8_method_9_code 23 = .ok (.iload_n 3, 1) := by decide +kernel
theorem d_Mod_write_24 : decode prog_8_method_9_code 24 = .ok (.invokevirtual 68, 3) := by decide +kernel
theorem d_Mod_write_27 : decode prog_8_method_9_code 27 = .ok (.ifCond .eq 42, 3) := by decide +kernel
theorem d_Mod_write_30 : decode prog_8_method_9_code 30 = .ok (.aload_n 0, 1) := by decide +kernel
theorem d_Mod_write_31 : decode prog_8_method_9_code 31 = .ok (.getfield 34, 3) := by decide +kernel
theorem d_Mod_write_34 : decode prog_8_method_9_code 34 = .ok (.iload 4, 2) := by decide +kernel
theorem d_Mod_write_36 : decode prog_8_method_9_code 36 = .ok (.iaload, 1) := by decide +kernel
theorem d_Mod_write_37 : decode prog_8_method_9_code 37 = .ok (.aload_n 0, 1) := by decide +kernel
theorem d_Mod_write_38 : decode prog_8_method_9_code 38 = .ok (.getfield 20, 3) := by decide +kernel
theorem d_Mod_write_41 : decode prog_8_method_9_code 41 = .ok (.iload_n 1, 1) := by decide +kernel
theorem d_Mod_write_42 : decode prog_8_method_9_code 42 = .ok (.iaload, 1) := by decide +kernel
theorem d_Mod_write_43 : decode prog_8_method_9_code 43 = .ok (.if_icmp .eq 26, 3) := by decide +kernel
theorem d_Mod_write_46 : decode prog_8_method_9_code 46 = .ok (.aload_n 0, 1) := by decide +kernel
theorem d_Mod_write_47 : decode prog_8_method_9_code 47 = .ok (.getfield 34, 3) := by decide +kernel
theorem d_Mod_write_50 : decode prog_8_method_9_code 50 = .ok (.iload 4, 2) := by decide +kernel
theorem d_Mod_write_52 : decode prog_8_method_9_code 52 = .ok (.aload_n 0, 1) := by decide +kernel
theorem d_Mod_write_53 : decode prog_8_method_9_code 53 = .ok (.getfield 20, 3) := by decide +kernel
theorem d_Mod_write_56 : decode prog_8_method_9_code 56 = .ok (.iload_n 1, 1) := by decide +kernel
theorem d_Mod_write_57 : decode prog_8_method_9_code 57 = .ok (.iaload, 1) := by decide +kernel
theorem d_Mod_write_58 : decode prog_8_method_9_code 58 = .ok (.iastore, 1) := by decide +kernel
theorem d_Mod_write_59 : decode prog_8_method_9_code 59 = .ok (.aload_n 0, 1) := by decide +kernel
theorem d_Mod_write_60 : decode prog_8_method_9_code 60 = .ok (.dup, 1) := by decide +kernel
theorem d_Mod_write_61 : decode prog_8_method_9_code 61 = .ok (.getfield 72, 3) := by decide +kernel
theorem d_Mod_write_64 : decode prog_8_method_9_code 64 = .ok (.iconst 1, 1) := by decide +kernel
theorem d_Mod_write_65 : decode prog_8_method_9_code 65 = .ok (.iadd, 1) := by decide +kernel
theorem d_Mod_write_66 : decode prog_8_method_9_code 66 = .ok (.putfield 72, 3) := by decide +kernel
theorem d_Mod_write_69 : decode prog_8_method_9_code 69 = .ok (.iinc 3 1, 3) := by decide +kernel
theorem d_Mod_write_72 : decode prog_8_method_9_code 72 = .ok (.goto (-70), 3) := by decide +kernel
theorem d_Mod_write_75 : decode prog_8_method_9_code 75 = .ok (.return_, 1) := by decide +kernel
theorem d_Mod_find_0 : decode prog_8_method_10_code 0 = .ok (.iconst (-1), 1) := by decide +kernel
theorem d_Mod_find_1 : decode prog_8_method_10_code 1 = .ok (.istore_n 3, 1) := by decide +kernel
theorem d_Mod_find_2 : decode prog_8_method_10_code 2 = .ok (.iconst 0, 1) := by decide +kernel
theorem d_Mod_find_3 : decode prog_8_method_10_code 3 = .ok (.istore 4, 2) := by decide +kernel
theorem d_Mod_find_5 : decode prog_8_method_10_code 5 = .ok (.iload 4, 2) := by decide +kernel
theorem d_Mod_find_7 : decode prog_8_method_10_code 7 = .ok (.aload_n 0, 1) := by decide +kernel
theorem d_Mod_find_8 : decode prog_8_method_10_code 8 = .ok (.getfield 24, 3) := by decide +kernel
theorem d_Mod_find_11 : decode prog_8_method_10_code 11 = .ok (.iload_n 1, 1) := by decide +kernel
theorem d_Mod_find_12 : decode prog_8_method_10_code 12 = .ok (.iaload, 1) := by decide +kernel
theorem d_Mod_find_13 : decode prog_8_method_10_code 13 = .ok (.if_icmp .ge 37, 3) := by decide +kernel
theorem d_Mod_find_16 : decode prog_8_method_10_code 16 = .ok (.aload_n 0, 1) := by decide +kernel
theorem d_Mod_find_17 : decode prog_8_method_10_code 17 = .ok (.getfield 27, 3) := by decide +kernel
theorem d_Mod_find_20 : decode prog_8_method_10_code 20 = .ok (.bipush 60, 2) := by decide +kernel
theorem d_Mod_find_22 : decode prog_8_method_10_code 22 = .ok (.iload_n 1, 1) := by decide +kernel
theorem d_Mod_find_23 : decode prog_8_method_10_code 23 = .ok (.imul, 1) := by decide +kernel
theorem d_Mod_find_24 : decode prog_8_method_10_code 24 = .ok (.iload 4, 2) := by decide +kernel
theorem d_Mod_find_26 : decode prog_8_method_10_code 26 = .ok (.iadd, 1) := by decide +kernel
theorem d_Mod_find_27 : decode prog_8_method_10_code 27 = .ok (.iaload, 1) := by decide +kernel
theorem d_Mod_find_28 : decode prog_8_method_10_code 28 = .ok (.iload_n 2, 1) := by decide +kernel
theorem d_Mod_find_29 : decode prog_8_method_10_code 29 = .ok (.if_icmp .ne 13, 3) := by decide +kernel
theorem d_Mod_find_32 : decode prog_8_method_10_code 32 = .ok (.bipush 60, 2) := by decide +kernel
theorem d_Mod_find_34 : decode prog_8_method_10_code 34 = .ok (.iload_n 1, 1) := by decide +kernel
theorem d_Mod_find_35 : decode prog_8_method_10_code 35 = .ok (.imul, 1) := by decide +kernel
theorem d_Mod_find_36 : decode prog_8_method_10_code 36 = .ok (.iload 4, 2) := by decide +kernel
theorem d_Mod_find_38 : decode prog_8_method_10_code 38 = .ok (.iadd, 1) := by decide +kernel
theorem d_Mod_find_39 : decode prog_8_method_10_code 39 = .ok (.goto 4, 3) := by decide +kernel
theorem d_Mod_find_42 : decode prog_8_method_10_code 42 = .ok (.iload_n 3, 1) := by decide +kernel
theorem d_Mod_find_43 : decode prog_8_method_10_code 43 = .ok (.istore_n 3, 1) := by decide +kernel
theorem d_Mod_find_44 : decode prog_8_method_10_code 44 = .ok (.iinc 4 1, 3) := by decide +kernel
theorem d_Mod_find_47 : decode prog_8_method_10_code 47 = .ok (.goto (-42), 3) := by decide +kernel
theorem d_Mod_find_50 : decode prog_8_method_10_code 50 = .ok (.iload_n 3, 1) := by decide +kernel
theorem d_Mod_find_51 : decode prog_8_method_10_code 51 = .ok (.ireturn, 1) := by decide +kernel
theorem d_Mod_add_0 : decode prog_8_method_11_code 0 = .ok (.iload_n 2, 1) := by decide +kernel
theorem d_Mod_add_1 : decode prog_8_method_11_code 1 = .ok (.invokestatic 56, 3) := by decide +kernel
theorem d_Mod_add_4 : decode prog_8_method_11_code 4 = .ok (.istore 5, 2) := by decide +kernel
theorem d_Mod_add_6 : decode prog_8_method_11_code 6 = .ok (.aload_n 0, 1) := by decide +kernel
theorem d_Mod_add_7 : decode prog_8_method_11_code 7 = .ok (.iload_n 1, 1) := by decide +kernel
theorem d_Mod_add_8 : decode prog_8_method_11_code 8 = .ok (.iload 5, 2) := by decide +kernel
theorem d_Mod_add_10 : decode prog_8_method_11_code 10 = .ok (.invokevirtual 75, 3) := by decide +kernel
theorem d_Mod_add_13 : decode prog_8_method_11_code 13 = .ok (.bipush 60, 2) := by decide +kernel
theorem d_Mod_add_15 : decode prog_8_method_11_code 15 = .ok (.iload_n 1, 1) := by decide +kernel
theorem d_Mod_add_16 : decode prog_8_method_11_code 16 = .ok (.imul, 1) := by decide +kernel
theorem d_Mod_add_17 : decode prog_8_method_11_code 17 = .ok (.aload_n 0, 1) := by decide +kernel
theorem d_Mod_add_18 : decode prog_8_method_11_code 18 = .ok (.getfield 24, 3) := by decide +kernel
theorem d_Mod_add_21 : decode prog_8_method_11_code 21 = .ok (.iload_n 1, 1) := by decide +kernel
theorem d_Mod_add_22 : decode prog_8_method_11_code 22 = .ok (.iaload, 1) := by decide +kernel
theorem d_Mod_add_23 : decode prog_8_method_11_code 23 = .ok (.iadd, 1) := by decide +kernel
theorem d_Mod_add_24 : decode prog_8_method_11_code 24 = .ok (.istore 6, 2) := by decide +kernel
theorem d_Mod_add_26 : decode prog_8_method_11_code 26 = .ok (.aload_n 0, 1) := by decide +kernel
theorem d_Mod_add_27 : decode prog_8_method_11_code 27 = .ok (.getfield 27, 3) := by decide +kernel
theorem d_Mod_add_30 : decode prog_8_method_11_code 30 = .ok (.iload 6, 2) := by decide +kernel
theorem d_Mod_add_32 : decode prog_8_method_11_code 32 = .ok (.iload_n 2, 1) := by decide +kernel
theorem d_Mod_add_33 : decode prog_8_method_11_code 33 = .ok (.iastore, 1) := by decide +kernel
theorem d_Mod_add_34 : decode prog_8_method_11_code 34 = .ok (.aload_n 0, 1) := by decide +kernel
theorem d_Mod_add_35 : decode prog_8_method_11_code 35 = .ok (.getfield 30, 3) := by decide +kernel
theorem d_Mod_add_38 : decode prog_8_method_11_code 38 = .ok (.iload 6, 2) := by decide +kernel
theorem d_Mod_add_40 : decode prog_8_method_11_code 40 = .ok (.lload_n 3, 1) := by decide +kernel
theorem d_Mod_add_41 : decode prog_8_method_11_code 41 = .ok (.lastore, 1) := by decide +kernel
theorem d_Mod_add_42 : decode prog_8_method_11_code 42 = .ok (.iconst 1, 1) := by decide +kernel
theorem d_Mod_add_43 : decode prog_8_method_11_code 43 = .ok (.istore 7, 2) := by decide +kernel
theorem d_Mod_add_45 : decode prog_8_method_11_code 45 = .ok (.iload 7, 2) := by decide +kernel
theorem d_Mod_add_47 : decode prog_8_method_11_code 47 = .ok (.iconst 5, 1) := by decide +kernel
theorem d_Mod_add_48 : decode prog_8_method_11_code 48 = .ok (.if_icmp .ge 46, 3) := by decide +kernel
theorem d_Mod_add_51 : decode prog_8_method_11_code 51 = .ok (.aload_n 0, 1) := by decide +kernel
theorem d_Mod_add_52 : decode prog_8_method_11_code 52 = .ok (.iload_n 1, 1) := by decide +kernel
theorem d_Mod_add_53 : decode prog_8_method_11_code 53 = .ok (.iload 5, 2) := by decide +kernel
theorem d_Mod_add_55 : decode prog_8_method_11_code 55 = .ok (.iload 7, 2) := by decide +kernel
theorem d_Mod_add_57 : decode prog_8_method_11_code 57 = .ok (.invokevirtual 60, 3) := by decide +kernel
theorem d_Mod_add_60 : decode prog_8_method_11_code 60 = .ok (.iconst 1, 1) := by decide +kernel
theorem d_Mod_add_61 : decode prog_8_method_11_code 61 = .ok (.if_icmp .ne 27, 3) := by decide +kernel
theorem d_Mod_add_64 : decode prog_8_method_11_code 64 = .ok (.aload_n 0, 1) := by decide +kernel
theorem d_Mod_add_65 : decode prog_8_method_11_code 65 = .ok (.getfield 34, 3) := by decide +kernel
theorem d_Mod_add_68 : decode prog_8_method_11_code 68 = .ok (.sipush 341, 3) := by decide +kernel
theorem d_Mod_add_71 : decode prog_8_method_11_code 71 = .ok (.iload_n 1, 1) := by decide +kernel
theorem d_Mod_add_72 : decode prog_8_method_11_code 72 = .ok (.imul, 1) := by decide +kernel
theorem d_Mod_add_73 : decode prog_8_method_11_code 73 = .ok (.iload 5, 2) := by decide +kernel
theorem d_Mod_add_75 : decode prog_8_method_11_code 75 = .ok (.iload 7, 2) := by decide +kernel
theorem d_Mod_add_77 : decode prog_8_method_11_code 77 = .ok (.invokestatic 64, 3) := by decide +kernel
theorem d_Mod_add_80 : decode prog_8_method_11_code 80 = .ok (.iadd, 1) := by decide +kernel
theorem d_Mod_add_81 : decode prog_8_method_11_code 81 = .ok (.aload_n 0, 1) := by decide +kernel
theorem d_Mod_add_82 : decode prog_8_method_11_code 82 = .ok (.getfield 20, 3) := by decide +kernel
theorem d_Mod_add_85 : decode prog_8_method_11_code 85 = .ok (.iload_n 1, 1) := by decide +kernel
theorem d_Mod_add_86 : decode prog_8_method_11_code 86 = .ok (.iaload, 1) := by decide +kernel
theorem d_Mod_add_87 : decode prog_8_method_11_code 87 = .ok (.iastore, 1) := by decide +kernel
theorem d_Mod_add_88 : decode prog_8_method_11_code 88 = .ok (.iinc 7 1, 3) := by decide +kernel
theorem d_Mod_add_91 : decode prog_8_method_11_code 91 = .ok (.goto (-46), 3) := by decide +kernel
theorem d_Mod_add_94 : decode prog_8_method_11_code 94 = .ok (.aload_n 0, 1) := by decide +kernel
theorem d_Mod_add_95 : decode prog_8_method_11_code 95 = .ok (.getfield 24, 3) := by decide +kernel
theorem d_Mod_add_98 : decode prog_8_method_11_code 98 = .ok (.iload_n 1, 1) := by decide +kernel
theorem d_Mod_add_99 : decode prog_8_method_11_code 99 = .ok (.dup2, 1) := by decide +kernel
theorem d_Mod_add_100 : decode prog_8_method_11_code 100 = .ok (.iaload, 1) := by decide +kernel
theorem d_Mod_add_101 : decode prog_8_method_11_code 101 = .ok (.iconst 1, 1) := by decide +kernel
theorem d_Mod_add_102 : decode prog_8_method_11_code 102 = .ok (.iadd, 1) := by decide +kernel
theorem d_Mod_add_103 : decode prog_8_method_11_code 103 = .ok (.iastore, 1) := by decide +kernel
theorem d_Mod_add_104 : decode prog_8_method_11_code 104 = .ok (.return_, 1) := by decide +kernel
theorem d_Mod_put_0 : decode prog_8_method_12_code 0 = .ok (.aload_n 0, 1) := by decide +kernel
theorem d_Mod_put_1 : decode prog_8_method_12_code 1 = .ok (.iconst 0, 1) := by decide +kernel
theorem d_Mod_put_2 : decode prog_8_method_12_code 2 = .ok (.putfield 52, 3) := by decide +kernel
theorem d_Mod_put_5 : decode prog_8_method_12_code 5 = .ok (.aload_n 0, 1) := by decide +kernel
theorem d_Mod_put_6 : decode prog_8_method_12_code 6 = .ok (.iload_n 1, 1) := by decide +kernel
theorem d_Mod_put_7 : decode prog_8_method_12_code 7 = .ok (.invokevirtual 79, 3) := by decide +kernel
theorem d_Mod_put_10 : decode prog_8_method_12_code 10 = .ok (.ifCond .eq 17, 3) := by decide +kernel
theorem d_Mod_put_13 : decode prog_8_method_12_code 13 = .ok (.aload_n 0, 1) := by decide +kernel
theorem d_Mod_put_14 : decode prog_8_method_12_code 14 = .ok (.iconst 1, 1) := by decide +kernel
theorem d_Mod_put_15 : decode prog_8_method_12_code 15 = .ok (.invokevirtual 83, 3) := by decide +kernel
theorem d_Mod_put_18 : decode prog_8_method_12_code 18 = .ok (.ifCond .le 7, 3) := by decide +kernel
theorem d_Mod_put_21 : decode prog_8_method_12_code 21 = .ok (.iconst 1, 1) := by decide +kernel
theorem d_Mod_put_22 : decode prog_8_method_12_code 22 = .ok (.goto 4, 3) := by decide +kernel
theorem d_Mod_put_25 : decode prog_8_method_12_code 25 = .ok (.iconst 0, 1) := by decide +kernel
theorem d_Mod_put_26 : decode prog_8_method_12_code 26 = .ok (.ireturn, 1) := by decide +kernel
theorem d_Mod_put_27 : decode prog_8_method_12_code 27 = .ok (.aload_n 0, 1) := by decide +kernel
theorem d_Mod_put_28 : decode prog_8_method_12_code 28 = .ok (.getfield 17, 3) := by decide +kernel
theorem d_Mod_put_31 : decode prog_8_method_12_code 31 = .ok (.iload_n 1, 1) := by decide +kernel
theorem d_Mod_put_32 : decode prog_8_method_12_code 32 = .ok (.baload, 1) := by decide +kernel
theorem d_Mod_put_33 : decode prog_8_method_12_code 33 = .ok (.ifCond .eq 17, 3) := by decide +kernel
theorem d_Mod_put_36 : decode prog_8_method_12_code 36 = .ok (.aload_n 0, 1) := by decide +kernel
theorem d_Mod_put_37 : decode prog_8_method_12_code 37 = .ok (.iconst 2, 1) := by decide +kernel
theorem d_Mod_put_38 : decode prog_8_method_12_code 38 = .ok (.invokevirtual 83, 3) := by decide +kernel
theorem d_Mod_put_41 : decode prog_8_method_12_code 41 = .ok (.ifCond .le 7, 3) := by decide +kernel
theorem d_Mod_put_44 : decode prog_8_method_12_code 44 = .ok (.iconst 1, 1) := by decide +kernel
theorem d_Mod_put_45 : decode prog_8_method_12_code 45 = .ok (.goto 4, 3) := by decide +kernel
theorem d_Mod_put_48 : decode prog_8_method_12_code 48 = .ok (.iconst 0, 1) := by decide +kernel
theorem d_Mod_put_49 : decode prog_8_method_12_code 49 = .ok (.ireturn, 1) := by decide +kernel
theorem d_Mod_put_50 : decode prog_8_method_12_code 50 = .ok (.aload_n 0, 1) := by decide +kernel
theorem d_Mod_put_51 : decode prog_8_method_12_code 51 = .ok (.iload_n 1, 1) := by decide +kernel
theorem d_Mod_put_52 : decode prog_8_method_12_code 52 = .ok (.iload_n 2, 1) := by decide +kernel
theorem d_Mod_put_53 : decode prog_8_method_12_code 53 = .ok (.invokevirtual 86, 3) := by decide +kernel
theorem d_Mod_put_56 : decode prog_8_method_12_code 56 = .ok (.istore 5, 2) := by decide +kernel
theorem d_Mod_put_58 : decode prog_8_method_12_code 58 = .ok (.iload 5, 2) := by decide +kernel
theorem d_Mod_put_60 : decode prog_8_method_12_code 60 = .ok (.ifCond .ge 43, 3) := by decide +kernel
theorem d_Mod_put_63 : decode prog_8_method_12_code 63 = .ok (.aload_n 0, 1) := by decide +kernel
theorem d_Mod_put_64 : decode prog_8_method_12_code 64 = .ok (.getfield 24, 3) := by decide +kernel
theorem d_Mod_put_67 : decode prog_8_method_12_code 67 = .ok (.iload_n 1, 1) := by decide +kernel
theorem d_Mod_put_68 : decode prog_8_method_12_code 68 = .ok (.iaload, 1) := by decide +kernel
theorem d_Mod_put_69 : decode prog_8_method_12_code 69 = .ok (.bipush 60, 2) := by decide +kernel
theorem d_Mod_put_71 : decode prog_8_method_12_code 71 = .ok (.if_icmp .eq 18, 3) := by decide +kernel
theorem d_Mod_put_74 : decode prog_8_method_12_code 74 = .ok (.aload_n 0, 1) := by decide +kernel
theorem d_Mod_put_75 : decode prog_8_method_12_code 75 = .ok (.iload_n 1, 1) := by decide +kernel
theorem d_Mod_put_76 : decode prog_8_method_12_code 76 = .ok (.iload_n 2, 1) := by decide +kernel
theorem d_Mod_put_77 : decode prog_8_method_12_code 77 = .ok (.invokestatic 56, 3) := by decide +kernel
theorem d_Mod_put_80 : decode prog_8_method_12_code 80 = .ok (.iconst 4, 1) := by decide +kernel
theorem d_Mod_put_81 : decode prog_8_method_12_code 81 = .ok (.invokevirtual 60, 3) := by decide +kernel
theorem d_Mod_put_84 : decode prog_8_method_12_code 84 = .ok (.bipush 6, 2) := by decide +kernel
theorem d_Mod_put_86 : decode prog_8_method_12_code 86 = .ok (.if_icmp .ne 17, 3) := by decide +kernel
theorem d_Mod_put_89 : decode prog_8_method_12_code 89 = .ok (.aload_n 0, 1) := by decide +kernel
theorem d_Mod_put_90 : decode prog_8_method_12_code 90 = .ok (.iconst 3, 1) := by decide +kernel
theorem d_Mod_put_91 : decode prog_8_method_12_code 91 = .ok (.invokevirtual 83, 3) := by decide +kernel
theorem d_Mod_put_94 : decode prog_8_method_12_code 94 = .ok (.ifCond .le 7, 3) := by decide +kernel
theorem d_Mod_put_97 : decode prog_8_method_12_code 97 = .ok (.iconst 1, 1) := by decide +kernel
theorem d_Mod_put_98 : decode prog_8_method_12_code 98 = .ok (.goto 4, 3) := by decide +kernel
theorem d_Mod_put_101 : decode prog_8_method_12_code 101 = .ok (.iconst 0, 1) := by decide +kernel
theorem d_Mod_put_102 : decode prog_8_method_12_code 102 = .ok (.ireturn, 1) := by decide +kernel
theorem d_Mod_put_103 : decode prog_8_method_12_code 103 = .ok (.aload_n 0, 1) := by decide +kernel
theorem d_Mod_put_104 : decode prog_8_method_12_code 104 = .ok (.iconst 0, 1) := by decide +kernel
theorem d_Mod_put_105 : decode prog_8_method_12_code 105 = .ok (.putfield 72, 3) := by decide +kernel
theorem d_Mod_put_108 : decode prog_8_method_12_code 108 = .ok (.iload 5, 2) := by decide +kernel
theorem d_Mod_put_110 : decode prog_8_method_12_code 110 = .ok (.ifCond .ge 13, 3) := by decide +kernel
theorem d_Mod_put_113 : decode prog_8_method_12_code 113 = .ok (.aload_n 0, 1) := by decide +kernel
theorem d_Mod_put_114 : decode prog_8_method_12_code 114 = .ok (.iload_n 1, 1) := by decide +kernel
theorem d_Mod_put_115 : decode prog_8_method_12_code 115 = .ok (.iload_n 2, 1) := by decide +kernel
theorem d_Mod_put_116 : decode prog_8_method_12_code 116 = .ok (.lload_n 3, 1) := by decide +kernel
theorem d_Mod_put_117 : decode prog_8_method_12_code 117 = .ok (.invokevirtual 89, 3) := by decide +kernel
theorem d_Mod_put_120 : decode prog_8_method_12_code 120 = .ok (.goto 20, 3) := by decide +kernel
theorem d_Mod_put_123 : decode prog_8_method_12_code 123 = .ok (.aload_n 0, 1) := by decide +kernel
theorem d_Mod_put_124 : decode prog_8_method_12_code 124 = .ok (.iload_n 1, 1) := by decide +kernel
theorem d_Mod_put_125 : decode prog_8_method_12_code 125 = .ok (.iload_n 2, 1) := by decide +kernel
theorem d_Mod_put_126 : decode prog_8_method_12_code 126 = .ok (.invokestatic 56, 3) := by decide +kernel
theorem d_Mod_put_129 : decode prog_8_method_12_code 129 = .ok (.invokevirtual 75, 3) := by decide +kernel
theorem d_Mod_put_132 : decode prog_8_method_12_code 132 = .ok (.aload_n 0, 1) := by decide +kernel
theorem d_Mod_put_133 : decode prog_8_method_12_code 133 = .ok (.getfield 30, 3) := by decide +kernel
theorem d_Mod_put_136 : decode prog_8_method_12_code 136 = .ok (.iload 5, 2) := by decide +kernel
theorem d_Mod_put_138 : decode prog_8_method_12_code 138 = .ok (.lload_n 3, 1) := by decide +kernel
theorem d_Mod_put_139 : decode prog_8_method_12_code 139 = .ok (.lastore, 1) := by decide +kernel
theorem d_Mod_put_140 : decode prog_8_method_12_code 140 = .ok (.iload 5, 2) := by decide +kernel
theorem d_Mod_put_142 : decode prog_8_method_12_code 142 = .ok (.ifCond .ge 7, 3) := by decide +kernel
theorem d_Mod_put_145 : decode prog_8_method_12_code 145 = .ok (.iconst 1, 1) := by decide +kernel
theorem d_Mod_put_146 : decode prog_8_method_12_code 146 = .ok (.goto 4, 3) := by decide +kernel
theorem d_Mod_put_149 : decode prog_8_method_12_code 149 = .ok (.iconst 0, 1) := by decide +kernel
theorem d_Mod_put_150 : decode prog_8_method_12_code 150 = .ok (.ireturn, 1) := by decide +kernel
theorem d_Mod_get_0 : decode prog_8_method_13_code 0 = .ok (.aload_n 0, 1) := by decide +kernel
theorem d_Mod_get_1 : decode prog_8_method_13_code 1 = .ok (.iconst 0, 1) := by decide +kernel
theorem d_Mod_get_2 : decode prog_8_method_13_code 2 = .ok (.putfield 52, 3) := by decide +kernel
theorem d_Mod_get_5 : decode prog_8_method_13_code 5 = .ok (.aload_n 0, 1) := by decide +kernel
theorem d_Mod_get_6 : decode prog_8_method_13_code 6 = .ok (.iload_n 1, 1) := by decide +kernel
theorem d_Mod_get_7 : decode prog_8_method_13_code 7 = .ok (.invokevirtual 79, 3) := by decide +kernel
theorem d_Mod_get_10 : decode prog_8_method_13_code 10 = .ok (.ifCond .eq 10, 3) := by decide +kernel
theorem d_Mod_get_13 : decode prog_8_method_13_code 13 = .ok (.aload_n 0, 1) := by decide +kernel
theorem d_Mod_get_14 : decode prog_8_method_13_code 14 = .ok (.iconst 1, 1) := by decide +kernel
theorem d_Mod_get_15 : decode prog_8_method_13_code 15 = .ok (.invokevirtual 83, 3) := by decide +kernel
theorem d_Mod_get_18 : decode prog_8_method_13_code 18 = .ok (.i2l, 1) := by decide +kernel
theorem d_Mod_get_19 : decode prog_8_method_13_code 19 = .ok (.lreturn, 1) := by decide +kernel
theorem d_Mod_get_20 : decode prog_8_method_13_code 20 = .ok (.aload_n 0, 1) := by decide +kernel
theorem d_Mod_get_21 : decode prog_8_method_13_code 21 = .ok (.iload_n 1, 1) := by decide +kernel
theorem d_Mod_get_22 : decode prog_8_method_13_code 22 = .ok (.iload_n 2, 1) := by decide +kernel
theorem d_Mod_get_23 : decode prog_8_method_13_code 23 = .ok (.invokevirtual 86, 3) := by decide +kernel
theorem d_Mod_get_26 : decode prog_8_method_13_code 26 = .ok (.istore_n 3, 1) := by decide +kernel
theorem d_Mod_get_27 : decode prog_8_method_13_code 27 = .ok (.iload_n 3, 1) := by decide +kernel
theorem d_Mod_get_28 : decode prog_8_method_13_code 28 = .ok (.ifCond .ge 12, 3) := by decide +kernel
theorem d_Mod_get_31 : decode prog_8_method_13_code 31 = .ok (.aload_n 0, 1) := by decide +kernel
theorem d_Mod_get_32 : decode prog_8_method_13_code 32 = .ok (.iconst 2, 1) := by decide +kernel
theorem d_Mod_get_33 : decode prog_8_method_13_code 33 = .ok (.invokevirtual 83, 3) := by decide +kernel
theorem d_Mod_get_36 : decode prog_8_method_13_code 36 = .ok (.i2l, 1) := by decide +kernel
theorem d_Mod_get_37 : decode prog_8_method_13_code 37 = .ok (.goto 9, 3) := by decide +kernel
theorem d_Mod_get_40 : decode prog_8_method_13_code 40 = .ok (.aload_n 0, 1) := by decide +kernel
theorem d_Mod_get_41 : decode prog_8_method_13_code 41 = .ok (.getfield 30, 3) := by decide +kernel
theorem d_Mod_get_44 : decode prog_8_method_13_code 44 = .ok (.iload_n 3, 1) := by decide +kernel
theorem d_Mod_get_45 : decode prog_8_method_13_code 45 = .ok (.laload, 1) := by decide +kernel
theorem d_Mod_get_46 : decode prog_8_method_13_code 46 = .ok (.lreturn, 1) := by decide +kernel
theorem d_Mod_remove_0 : decode prog_8_method_14_code 0 = .ok (.aload_n 0, 1) := by decide +kernel
theorem d_Mod_remove_1 : decode prog_8_method_14_code 1 = .ok (.iconst 0, 1) := by decide +kernel
theorem d_Mod_remove_2 : decode prog_8_method_14_code 2 = .ok (.putfield 52, 3) := by decide +kernel
theorem d_Mod_remove_5 : decode prog_8_method_14_code 5 = .ok (.aload_n 0, 1) := by decide +kernel
theorem d_Mod_remove_6 : decode prog_8_method_14_code 6 = .ok (.iload_n 1, 1) := by decide +kernel
theorem d_Mod_remove_7 : decode prog_8_method_14_code 7 = .ok (.invokevirtual 79, 3) := by decide +kernel
theorem d_Mod_remove_10 : decode prog_8_method_14_code 10 = .ok (.ifCond .eq 10, 3) := by decide +kernel
theorem d_Mod_remove_13 : decode prog_8_method_14_code 13 = .ok (.aload_n 0, 1) := by decide +kernel
theorem d_Mod_remove_14 : decode prog_8_method_14_code 14 = .ok (.iconst 1, 1) := by decide +kernel
theorem d_Mod_remove_15 : decode prog_8_method_14_code 15 = .ok (.invokevirtual 83, 3) := by decide +kernel
theorem d_Mod_remove_18 : decode prog_8_method_14_code 18 = .ok (.i2l, 1) := by decide +kernel
theorem d_Mod_remove_19 : decode prog_8_method_14_code 19 = .ok (.lreturn, 1) := by decide +kernel
theorem d_Mod_remove_20 : decode prog_8_method_14_code 20 = .ok (.aload_n 0, 1) := by decide +kernel
theorem d_Mod_remove_21 : decode prog_8_method_14_code 21 = .ok (.getfield 17, 3) := by decide +kernel
theorem d_Mod_remove_24 : decode prog_8_method_14_code 24 = .ok (.iload_n 1, 1) := by decide +kernel
theorem d_Mod_remove_25 : decode prog_8_method_14_code 25 = .ok (.baload, 1) := by decide +kernel
theorem d_Mod_remove_26 : decode prog_8_method_14_code 26 = .ok (.ifCond .eq 10, 3) := by decide +kernel
theorem d_Mod_remove_29 : decode prog_8_method_14_code 29 = .ok (.aload_n 0, 1) := by decide +kernel
theorem d_Mod_remove_30 : decode prog_8_method_14_code 30 = .ok (.iconst 2, 1) := by decide +kernel
theorem d_Mod_remove_31 : decode prog_8_method_14_code 31 = .ok (.invokevirtual 83, 3) := by decide +kernel
theorem d_Mod_remove_34 : decode prog_8_method_14_code 34 = .ok (.i2l, 1) := by decide +kernel
theorem d_Mod_remove_35 : decode prog_8_method_14_code 35 = .ok (.lreturn, 1) := by decide +kernel
theorem d_Mod_remove_36 : decode prog_8_method_14_code 36 = .ok (.aload_n 0, 1) := by decide +kernel
theorem d_Mod_remove_37 : decode prog_8_method_14_code 37 = .ok (.iload_n 1, 1) := by decide +kernel
theorem d_Mod_remove_38 : decode prog_8_method_14_code 38 = .ok (.iload_n 2, 1) := by decide +kernel
theorem d_Mod_remove_39 : decode prog_8_method_14_code 39 = .ok (.invokevirtual 86, 3) := by decide +kernel
theorem d_Mod_remove_42 : decode prog_8_method_14_code 42 = .ok (.istore_n 3, 1) := by decide +kernel
theorem d_Mod_remove_43 : decode prog_8_method_14_code 43 = .ok (.iload_n 3, 1) := by decide +kernel
theorem d_Mod_remove_44 : decode prog_8_method_14_code 44 = .ok (.ifCond .ge 10, 3) := by decide +kernel
theorem d_Mod_remove_47 : decode prog_8_method_14_code 47 = .ok (.aload_n 0, 1) := by decide +kernel
theorem d_Mod_remove_48 : decode prog_8_method_14_code 48 = .ok (.iconst 3, 1) := by decide +kernel
theorem d_Mod_remove_49 : decode prog_8_method_14_code 49 = .ok (.invokevirtual 83, 3) := by decide +kernel
theorem d_Mod_remove_52 : decode prog_8_method_14_code 52 = .ok (.i2l, 1) := by decide +kernel
theorem d_Mod_remove_53 : decode prog_8_method_14_code 53 = .ok (.lreturn, 1) := by decide +kernel
theorem d_Mod_remove_54 : decode prog_8_method_14_code 54 = .ok (.aload_n 0, 1) := by decide +kernel
theorem d_Mod_remove_55 : decode prog_8_method_14_code 55 = .ok (.iconst 0, 1) := by decide +kernel
theorem d_Mod_remove_56 : decode prog_8_method_14_code 56 = .ok (.putfield 72, 3) := by decide +kernel
theorem d_Mod_remove_59 : decode prog_8_method_14_code 59 = .ok (.aload_n 0, 1) := by decide +kernel
theorem d_Mod_remove_60 : decode prog_8_method_14_code 60 = .ok (.iload_n 1, 1) := by decide +kernel
theorem d_Mod_remove_61 : decode prog_8_method_14_code 61 = .ok (.iload_n 2, 1) := by decide +kernel
theorem d_Mod_remove_62 : decode prog_8_method_14_code 62 = .ok (.invokestatic 56, 3) := by decide +kernel
theorem d_Mod_remove_65 : decode prog_8_method_14_code 65 = .ok (.invokevirtual 75, 3) := by decide +kernel
theorem d_Mod_remove_68 : decode prog_8_method_14_code 68 = .ok (.aload_n 0, 1) := by decide +kernel
theorem d_Mod_remove_69 : decode prog_8_method_14_code 69 = .ok (.getfield 30, 3) := by decide +kernel
theorem d_Mod_remove_72 : decode prog_8_method_14_code 72 = .ok (.iload_n 3, 1) := by decide +kernel
theorem d_Mod_remove_73 : decode prog_8_method_14_code 73 = .ok (.laload, 1) := by decide +kernel
theorem d_Mod_remove_74 : decode prog_8_method_14_code 74 = .ok (.lstore 4, 2) := by decide +kernel
theorem d_Mod_remove_76 : decode prog_8_method_14_code 76 = .ok (.aload_n 0, 1) := by decide +kernel
theorem d_Mod_remove_77 : decode prog_8_method_14_code 77 = .ok (.getfield 24, 3) := by decide +kernel
theorem d_Mod_remove_80 : decode prog_8_method_14_code 80 = .ok (.iload_n 1, 1) := by decide +kernel
theorem d_Mod_remove_81 : decode prog_8_method_14_code 81 = .ok (.dup2, 1) := by decide +kernel
theorem d_Mod_remove_82 : decode prog_8_method_14_code 82 = .ok (.iaload, 1) := by decide +kernel
theorem d_Mod_remove_83 : decode prog_8_method_14_code 83 = .ok (.iconst 1, 1) := by decide +kernel
theorem d_Mod_remove_84 : decode prog_8_method_14_code 84 = .ok (.isub, 1) := by decide +kernel
theorem d_Mod_remove_85 : decode prog_8_method_14_code 85 = .ok (.iastore, 1) := by decide +kernel
theorem d_Mod_remove_86 : decode prog_8_method_14_code 86 = .ok (.iload_n 3, 1) := by decide +kernel
theorem d_Mod_remove_87 : decode prog_8_method_14_code 87 = .ok (.istore 6, 2) := by decide +kernel
theorem d_Mod_remove_89 : decode prog_8_method_14_code 89 = .ok (.iload 6, 2) := by decide +kernel
theorem d_Mod_remove_91 : decode prog_8_method_14_code 91 = .ok (.bipush 60, 2) := by decide +kernel
theorem d_Mod_remove_93 : decode prog_8_method_14_code 93 = .ok (.iload_n 1, 1) := by decide +kernel
theorem d_Mod_remove_94 : decode prog_8_method_14_code 94 = .ok (.imul, 1) := by decide +kernel
theorem d_Mod_remove_95 : decode prog_8_method_14_code 95 = .ok (.aload_n 0, 1) := by decide +kernel
theorem d_Mod_remove_96 : decode prog_8_method_14_code 96 = .ok (.getfield 24, 3) := by decide +kernel
theorem d_Mod_remove_99 : decode prog_8_method_14_code 99 = .ok (.iload_n 1, 1) := by decide +kernel
theorem d_Mod_remove_100 : decode prog_8_method_14_code 100 = .ok (.iaload, 1) := by decide +kernel
theorem d_Mod_remove_101 : decode prog_8_method_14_code 101 = .ok (.iadd, 1) := by decide +kernel
theorem d_Mod_remove_102 : decode prog_8_method_14_code 102 = .ok (.if_icmp .ge 41, 3) := by decide +kernel
theorem d_Mod_remove_105 : decode prog_8_method_14_code 105 = .ok (.aload_n 0, 1) := by decide +kernel
theorem d_Mod_remove_106 : decode prog_8_method_14_code 106 = .ok (.getfield 27, 3) := by decide +kernel
theorem d_Mod_remove_109 : decode prog_8_method_14_code 109 = .ok (.iload 6, 2) := by decide +kernel
theorem d_Mod_remove_111 : decode prog_8_method_14_code 111 = .ok (.aload_n 0, 1) := by decide +kernel
theorem d_Mod_remove_112 : decode prog_8_method_14_code 112 = .ok (.getfield 27, 3) := by decide +kernel
theorem d_Mod_remove_115 : decode prog_8_method_14_code 115 = .ok (.iload 6, 2) := by decide +kernel
theorem d_Mod_remove_117 : decode prog_8_method_14_code 117 = .ok (.iconst 1, 1) := by decide +kernel
theorem d_Mod_remove_118 : decode prog_8_method_14_code 118 = .ok (.iadd, 1) := by decide +kernel
theorem d_Mod_remove_119 : decode prog_8_method_14_code 119 = .ok (.iaload, 1) := by decide +kernel
theorem d_Mod_remove_120 : decode prog_8_method_14_code 120 = .ok (.iastore, 1) := by decide +kernel
theorem d_Mod_remove_121 : decode prog_8_method_14_code 121 = .ok (.aload_n 0, 1) := by decide +kernel
theorem d_Mod_remove_122 : decode prog_8_method_14_code 122 = .ok (.getfield 30, 3) := by decide +kernel
theorem d_Mod_remove_125 : decode prog_8_method_14_code 125 = .ok (.iload 6, 2) := by decide +kernel
theorem d_Mod_remove_127 : decode prog_8_method_14_code 127 = .ok (.aload_n 0, 1) := by decide +kernel
theorem d_Mod_remove_128 : decode prog_8_method_14_code 128 = .ok (.getfield 30, 3) := by decide +kernel
theorem d_Mod_remove_131 : decode prog_8_method_14_code 131 = .ok (.iload 6, 2) := by decide +kernel
theorem d_Mod_remove_133 : decode prog_8_method_14_code 133 = .ok (.iconst 1, 1) := by decide +kernel
theorem d_Mod_remove_134 : decode prog_8_method_14_code 134 = .ok (.iadd, 1) := by decide +kernel
theorem d_Mod_remove_135 : decode prog_8_method_14_code 135 = .ok (.laload, 1) := by decide +kernel
theorem d_Mod_remove_136 : decode prog_8_method_14_code 136 = .ok (.lastore, 1) := by decide +kernel
theorem d_Mod_remove_137 : decode prog_8_method_14_code 137 = .ok (.iinc 6 1, 3) := by decide +kernel
theorem d_Mod_remove_140 : decode prog_8_method_14_code 140 = .ok (.goto (-51), 3) := by decide +kernel
theorem d_Mod_remove_143 : decode prog_8_method_14_code 143 = .ok (.lload 4, 2) := by decide +kernel
theorem d_Mod_remove_145 : decode prog_8_method_14_code 145 = .ok (.lreturn, 1) := by decide +kernel
theorem d_Mod_replace_0 : decode prog_8_method_15_code 0 = .ok (.aload_n 0, 1) := by decide +kernel
theorem d_Mod_replace_1 : decode prog_8_method_15_code 1 = .ok (.iconst 0, 1) := by decide +kernel
theorem d_Mod_replace_2 : decode prog_8_method_15_code 2 = .ok (.putfield 52, 3) := by decide +kernel
theorem d_Mod_replace_5 : decode prog_8_method_15_code 5 = .ok (.aload_n 0, 1) := by decide +kernel
theorem d_Mod_replace_6 : decode prog_8_method_15_code 6 = .ok (.iload_n 1, 1) := by decide +kernel
theorem d_Mod_replace_7 : decode prog_8_method_15_code 7 = .ok (.invokevirtual 79, 3) := by decide +kernel
theorem d_Mod_replace_10 : decode prog_8_method_15_code 10 = .ok (.ifCond .eq 17, 3) := by decide +kernel
theorem d_Mod_replace_13 : decode prog_8_method_15_code 13 = .ok (.aload_n 0, 1) := by decide +kernel
theorem d_Mod_replace_14 : decode prog_8_method_15_code 14 = .ok (.iconst 1, 1) := by decide +kernel
theorem d_Mod_replace_15 : decode prog_8_method_15_code 15 = .ok (.invokevirtual 83, 3) := by decide +kernel
theorem d_Mod_replace_18 : decode prog_8_method_15_code 18 = .ok (.ifCond .le 7, 3) := by decide +kernel
theorem d_Mod_replace_21 : decode prog_8_method_15_code 21 = .ok (.iconst 1, 1) := by decide +kernel
theorem d_Mod_replace_22 : decode prog_8_method_15_code 22 = .ok (.goto 4, 3) := by decide +kernel
theorem d_Mod_replace_25 : decode prog_8_method_15_code 25 = .ok (.iconst 0, 1) := by decide +kernel
theorem d_Mod_replace_26 : decode prog_8_method_15_code 26 = .ok (.ireturn, 1) := by decide +kernel
theorem d_Mod_replace_27 : decode prog_8_method_15_code 27 = .ok (.aload_n 0, 1) := by decide +kernel
theorem d_Mod_replace_28 : decode prog_8_method_15_code 28 = .ok (.getfield 17, 3) := by decide +kernel
theorem d_Mod_replace_31 : decode prog_8_method_15_code 31 = .ok (.iload_n 1, 1) := by decide +kernel
theorem d_Mod_replace_32 : decode prog_8_method_15_code 32 = .ok (.baload, 1) := by decide +kernel
theorem d_Mod_replace_33 : decode prog_8_method_15_code 33 = .ok (.ifCond .eq 17, 3) := by decide +kernel
theorem d_Mod_replace_36 : decode prog_8_method_15_code 36 = .ok (.aload_n 0, 1) := by decide +kernel
theorem d_Mod_replace_37 : decode prog_8_method_15_code 37 = .ok (.iconst 2, 1) := by decide +kernel
theorem d_Mod_replace_38 : decode prog_8_method_15_code 38 = .ok (.invokevirtual 83, 3) := by decide +kernel
theorem d_Mod_replace_41 : decode prog_8_method_15_code 41 = .ok (.ifCond .le 7, 3) := by decide +kernel
theorem d_Mod_replace_44 : decode prog_8_method_15_code 44 = .ok (.iconst 1, 1) := by decide +kernel
theorem d_Mod_replace_45 : decode prog_8_method_15_code 45 = .ok (.goto 4, 3) := by decide +kernel
theorem d_Mod_replace_48 : decode prog_8_method_15_code 48 = .ok (.iconst 0, 1) := by decide +kernel
theorem d_Mod_replace_49 : decode prog_8_method_15_code 49 = .ok (.ireturn, 1) := by decide +kernel
theorem d_Mod_replace_50 : decode prog_8_method_15_code 50 = .ok (.aload_n 0, 1) := by decide +kernel
theorem d_Mod_replace_51 : decode prog_8_method_15_code 51 = .ok (.iconst 0, 1) := by decide +kernel
theorem d_Mod_replace_52 : decode prog_8_method_15_code 52 = .ok (.putfield 72, 3) := by decide +kernel
theorem d_Mod_replace_55 : decode prog_8_method_15_code 55 = .ok (.aload_n 0, 1) := by decide +kernel
theorem d_Mod_replace_56 : decode prog_8_method_15_code 56 = .ok (.iload_n 1, 1) := by decide +kernel
theorem d_Mod_replace_57 : decode prog_8_method_15_code 57 = .ok (.iload_n 2, 1) := by decide +kernel
theorem d_Mod_replace_58 : decode prog_8_method_15_code 58 = .ok (.invokevirtual 86, 3) := by decide +kernel
theorem d_Mod_replace_61 : decode prog_8_method_15_code 61 = .ok (.istore 7, 2) := by decide +kernel
theorem d_Mod_replace_63 : decode prog_8_method_15_code 63 = .ok (.iload 7, 2) := by decide +kernel
theorem d_Mod_replace_65 : decode prog_8_method_15_code 65 = .ok (.ifCond .lt 15, 3) := by decide +kernel
theorem d_Mod_replace_68 : decode prog_8_method_15_code 68 = .ok (.aload_n 0, 1) := by decide +kernel
theorem d_Mod_replace_69 : decode prog_8_method_15_code 69 = .ok (.getfield 30, 3) := by decide +kernel
theorem d_Mod_replace_72 : decode prog_8_method_15_code 72 = .ok (.iload 7, 2) := by decide +kernel
theorem d_Mod_replace_74 : decode prog_8_method_15_code 74 = .ok (.laload, 1) := by decide +kernel
theorem d_Mod_replace_75 : decode prog_8_method_15_code 75 = .ok (.lload_n 3, 1) := by decide +kernel
theorem d_Mod_replace_76 : decode prog_8_method_15_code 76 = .ok (.lcmp, 1) := by decide +kernel
theorem d_Mod_replace_77 : decode prog_8_method_15_code 77 = .ok (.ifCond .eq 5, 3) := by decide +kernel
theorem d_Mod_replace_80 : decode prog_8_method_15_code 80 = .ok (.iconst 0, 1) := by decide +kernel
theorem d_Mod_replace_81 : decode prog_8_method_15_code 81 = .ok (.ireturn, 1) := by decide +kernel
theorem d_Mod_replace_82 : decode prog_8_method_15_code 82 = .ok (.aload_n 0, 1) := by decide +kernel
theorem d_Mod_replace_83 : decode prog_8_method_15_code 83 = .ok (.iload_n 1, 1) := by decide +kernel
theorem d_Mod_replace_84 : decode prog_8_method_15_code 84 = .ok (.iload_n 2, 1) := by decide +kernel
theorem d_Mod_replace_85 : decode prog_8_method_15_code 85 = .ok (.invokestatic 56, 3) := by decide +kernel
theorem d_Mod_replace_88 : decode prog_8_method_15_code 88 = .ok (.invokevirtual 75, 3) := by decide +kernel
theorem d_Mod_replace_91 : decode prog_8_method_15_code 91 = .ok (.aload_n 0, 1) := by decide +kernel
theorem d_Mod_replace_92 : decode prog_8_method_15_code 92 = .ok (.getfield 30, 3) := by decide +kernel
theorem d_Mod_replace_95 : decode prog_8_method_15_code 95 = .ok (.iload 7, 2) := by decide +kernel
theorem d_Mod_replace_97 : decode prog_8_method_15_code 97 = .ok (.lload 5, 2) := by decide +kernel
theorem d_Mod_replace_99 : decode prog_8_method_15_code 99 = .ok (.lastore, 1) := by decide +kernel
theorem d_Mod_replace_100 : decode prog_8_method_15_code 100 = .ok (.iconst 1, 1) := by decide +kernel
theorem d_Mod_replace_101 : decode prog_8_method_15_code 101 = .ok (.ireturn, 1) := by decide +kernel
theorem d_Mod_fresh_0 : decode prog_8_method_16_code 0 = .ok (.aload_n 0, 1) := by decide +kernel
theorem d_Mod_fresh_1 : decode prog_8_method_16_code 1 = .ok (.dup, 1) := by decide +kernel
theorem d_Mod_fresh_2 : decode prog_8_method_16_code 2 = .ok (.getfield 7, 3) := by decide +kernel
theorem d_Mod_fresh_5 : decode prog_8_method_16_code 5 = .ok (.iconst 1, 1) := by decide +kernel
theorem d_Mod_fresh_6 : decode prog_8_method_16_code 6 = .ok (.iadd, 1) := by decide +kernel
theorem d_Mod_fresh_7 : decode prog_8_method_16_code 7 = .ok (.putfield 7, 3) := by decide +kernel
theorem d_Mod_fresh_10 : decode prog_8_method_16_code 10 = .ok (.aload_n 0, 1) := by decide +kernel
theorem d_Mod_fresh_11 : decode prog_8_method_16_code 11 = .ok (.getfield 7, 3) := by decide +kernel
theorem d_Mod_fresh_14 : decode prog_8_method_16_code 14 = .ok (.ireturn, 1) := by decide +kernel
theorem d_Mod_snapshot_0 : decode prog_8_method_17_code 0 = .ok (.aload_n 0, 1) := by decide +kernel
theorem d_Mod_snapshot_1 : decode prog_8_method_17_code 1 = .ok (.iconst 0, 1) := by decide +kernel
theorem d_Mod_snapshot_2 : decode prog_8_method_17_code 2 = .ok (.putfield 52, 3) := by decide +kernel
theorem d_Mod_snapshot_5 : decode prog_8_method_17_code 5 = .ok (.aload_n 0, 1) := by decide +kernel
theorem d_Mod_snapshot_6 : decode prog_8_method_17_code 6 = .ok (.iload_n 1, 1) := by decide +kernel
theorem d_Mod_snapshot_7 : decode prog_8_method_17_code 7 = .ok (.invokevirtual 79, 3) := by decide +kernel
theorem d_Mod_snapshot_10 : decode prog_8_method_17_code 10 = .ok (.ifCond .eq 9, 3) := by decide +kernel
theorem d_Mod_snapshot_13 : decode prog_8_method_17_code 13 = .ok (.aload_n 0, 1) := by decide +kernel
theorem d_Mod_snapshot_14 : decode prog_8_method_17_code 14 = .ok (.iconst 1, 1) := by decide +kernel
theorem d_Mod_snapshot_15 : decode prog_8_method_17_code 15 = .ok (.invokevirtual 83, 3) := by decide +kernel
theorem d_Mod_snapshot_18 : decode prog_8_method_17_code 18 = .ok (.ireturn, 1) := by decide +kernel
theorem d_Mod_snapshot_19 : decode prog_8_method_17_code 19 = .ok (.iconst (-1), 1) := by decide +kernel
theorem d_Mod_snapshot_20 : decode prog_8_method_17_code 20 = .ok (.istore_n 3, 1) := by decide +kernel
theorem d_Mod_snapshot_21 : decode prog_8_method_17_code 21 = .ok (.iconst 5, 1) := by decide +kernel
theorem d_Mod_snapshot_22 : decode prog_8_method_17_code 22 = .ok (.istore 4, 2) := by decide +kernel
theorem d_Mod_snapshot_24 : decode prog_8_method_17_code 24 = .ok (.iload 4, 2) := by decide +kernel
theorem d_Mod_snapshot_26 : decode prog_8_method_17_code 26 = .ok (.ifCond .lt 26, 3) := by decide +kernel
theorem d_Mod_snapshot_29 : decode prog_8_method_17_code 29 = .ok (.aload_n 0, 1) := by decide +kernel
theorem d_Mod_snapshot_30 : decode prog_8_method_17_code 30 = .ok (.getfield 13, 3) := by decide +kernel
theorem d_Mod_snapshot_33 : decode prog_8_method_17_code 33 = .ok (.iload 4, 2) := by decide +kernel
theorem d_Mod_snapshot_35 : decode prog_8_method_17_code 35 = .ok (.baload, 1) := by decide +kernel
theorem d_Mod_snapshot_36 : decode prog_8_method_17_code 36 = .ok (.ifCond .eq 7, 3) := by decide +kernel
theorem d_Mod_snapshot_39 : decode prog_8_method_17_code 39 = .ok (.iload_n 3, 1) := by decide +kernel
theorem d_Mod_snapshot_40 : decode prog_8_method_17_code 40 = .ok (.goto 5, 3) := by decide +kernel
theorem d_Mod_snapshot_43 : decode prog_8_method_17_code 43 = .ok (.iload 4, 2) := by decide +kernel
theorem d_Mod_snapshot_45 : decode prog_8_method_17_code 45 = .ok (.istore_n 3, 1) := by decide +kernel
theorem d_Mod_snapshot_46 : decode prog_8_method_17_code 46 = .ok (.iinc 4 (-1), 3) := by decide +kernel
theorem d_Mod_snapshot_49 : decode prog_8_method_17_code 49 = .ok (.goto (-25), 3) := by decide +kernel
theorem d_Mod_snapshot_52 : decode prog_8_method_17_code 52 = .ok (.iload_n 3, 1) := by decide +kernel
theorem d_Mod_snapshot_53 : decode prog_8_method_17_code 53 = .ok (.ifCond .ge 9, 3) := by decide +kernel
theorem d_Mod_snapshot_56 : decode prog_8_method_17_code 56 = .ok (.aload_n 0, 1) := by decide +kernel
theorem d_Mod_snapshot_57 : decode prog_8_method_17_code 57 = .ok (.iconst 2, 1) := by decide +kernel
theorem d_Mod_snapshot_58 : decode prog_8_method_17_code 58 = .ok (.invokevirtual 83, 3) := by decide +kernel
theorem d_Mod_snapshot_61 : decode prog_8_method_17_code 61 = .ok (.ireturn, 1) := by decide +kernel
theorem d_Mod_snapshot_62 : decode prog_8_method_17_code 62 = .ok (.aload_n 0, 1) := by decide +kernel
theorem d_Mod_snapshot_63 : decode prog_8_method_17_code 63 = .ok (.getfield 13, 3) := by decide +kernel
theorem d_Mod_snapshot_66 : decode prog_8_method_17_code 66 = .ok (.iload_n 3, 1) := by decide +kernel
theorem d_Mod_snapshot_67 : decode prog_8_method_17_code 67 = .ok (.iconst 1, 1) := by decide +kernel
theorem d_Mod_snapshot_68 : decode prog_8_method_17_code 68 = .ok (.bastore, 1) := by decide +kernel
theorem d_Mod_snapshot_69 : decode prog_8_method_17_code 69 = .ok (.aload_n 0, 1) := by decide +kernel
theorem d_Mod_snapshot_70 : decode prog_8_method_17_code 70 = .ok (.getfield 17, 3) := by decide +kernel
theorem d_Mod_snapshot_73 : decode prog_8_method_17_code 73 = .ok (.iload_n 3, 1) := by decide +kernel
theorem d_Mod_snapshot_74 : decode prog_8_method_17_code 74 = .ok (.iload_n 2, 1) := by decide +kernel
theorem d_Mod_snapshot_75 : decode prog_8_method_17_code 75 = .ok (.bastore, 1) := by decide +kernel
theorem d_Mod_snapshot_76 : decode prog_8_method_17_code 76 = .ok (.aload_n 0, 1) := by decide +kernel
theorem d_Mod_snapshot_77 : decode prog_8_method_17_code 77 = .ok (.getfield 24, 3) := by decide +kernel
theorem d_Mod_snapshot_80 : decode prog_8_method_17_code 80 = .ok (.iload_n 3, 1) := by decide +kernel
theorem d_Mod_snapshot_81 : decode prog_8_method_17_code 81 = .ok (.aload_n 0, 1) := by decide +kernel
theorem d_Mod_snapshot_82 : decode prog_8_method_17_code 82 = .ok (.getfield 24, 3) := by decide +kernel
theorem d_Mod_snapshot_85 : decode prog_8_method_17_code 85 = .ok (.iload_n 1, 1) := by decide +kernel
theorem d_Mod_snapshot_86 : decode prog_8_method_17_code 86 = .ok (.iaload, 1) := by decide +kernel
theorem d_Mod_snapshot_87 : decode prog_8_method_17_code 87 = .ok (.iastore, 1) := by decide +kernel
theorem d_Mod_snapshot_88 : decode prog_8_method_17_code 88 = .ok (.iconst 0, 1) := by decide +kernel
theorem d_Mod_snapshot_89 : decode prog_8_method_17_code 89 = .ok (.istore 4, 2) := by decide +kernel
theorem d_Mod_snapshot_91 : decode prog_8_method_17_code 91 = .ok (.iload 4, 2) := by decide +kernel
theorem d_Mod_snapshot_93 : decode prog_8_method_17_code 93 = .ok (.aload_n 0, 1) := by decide +kernel
theorem d_Mod_snapshot_94 : decode prog_8_method_17_code 94 = .ok (.getfield 24, 3) := by decide +kernel
theorem d_Mod_snapshot_97 : decode prog_8_method_17_code 97 = .ok (.iload_n 3, 1) := by decide +kernel
theorem d_Mod_snapshot_98 : decode prog_8_method_17_code 98 = .ok (.iaload, 1) := by decide +kernel
theorem d_Mod_snapshot_99 : decode prog_8_method_17_code 99 = .ok (.if_icmp .ge 57, 3) := by decide +kernel
theorem d_Mod_snapshot_102 : decode prog_8_method_17_code 102 = .ok (.aload_n 0, 1) := by decide +kernel
theorem d_Mod_snapshot_103 : decode prog_8_method_17_code 103 = .ok (.getfield 27, 3) := by decide +kernel
theorem d_Mod_snapshot_106 : decode prog_8_method_17_code 106 = .ok (.bipush 60, 2) := by decide +kernel
theorem d_Mod_snapshot_108 : decode prog_8_method_17_code 108 = .ok (.iload_n 3, 1) := by decide +kernel
theorem d_Mod_snapshot_109 : decode prog_8_method_17_code 109 = .ok (.imul, 1) := by decide +kernel
theorem d_Mod_snapshot_110 : decode prog_8_method_17_code 110 = .ok (.iload 4, 2) := by decide +kernel
theorem d_Mod_snapshot_112 : decode prog_8_method_17_code 112 = .ok (.iadd, 1) := by decide +kernel
theorem d_Mod_snapshot_113 : decode prog_8_method_17_code 113 = .ok (.aload_n 0, 1) := by decide +kernel
theorem d_Mod_snapshot_114 : decode prog_8_method_17_code 114 = .ok (.getfield 27, 3) := by decide +kernel
theorem d_Mod_snapshot_117 : decode prog_8_method_17_code 117 = .ok (.bipush 60, 2) := by decide +kernel
theorem d_Mod_snapshot_119 : decode prog_8_method_17_code 119 = .ok (.iload_n 1, 1) := by decide +kernel
theorem d_Mod_snapshot_120 : decode prog_8_method_17_code 120 = .ok (.imul, 1) := by decide +kernel
theorem d_Mod_snapshot_121 : decode prog_8_method_17_code 121 = .ok (.iload 4, 2) := by decide +kernel
theorem d_Mod_snapshot_123 : decode prog_8_method_17_code 123 = .ok (.iadd, 1) := by decide +kernel
theorem d_Mod_snapshot_124 : decode prog_8_method_17_code 124 = .ok (.iaload, 1) := by decide +kernel
theorem d_Mod_snapshot_125 : decode prog_8_method_17_code 125 = .ok (.iastore, 1) := by decide +kernel
theorem d_Mod_snapshot_126 : decode prog_8_method_17_code 126 = .ok (.aload_n 0, 1) := by decide +kernel
theorem d_Mod_snapshot_127 : decode prog_8_method_17_code 127 = .ok (.getfield 30, 3) := by decide +kernel
theorem d_Mod_snapshot_130 : decode prog_8_method_17_code 130 = .ok (.bipush 60, 2) := by decide +kernel
theorem d_Mod_snapshot_132 : decode prog_8_method_17_code 132 = .ok (.iload_n 3, 1) := by decide +kernel
theorem d_Mod_snapshot_133 : decode prog_8_method_17_code 133 = .ok (.imul, 1) := by decide +kernel
theorem d_Mod_snapshot_134 : decode prog_8_method_17_code 134 = .ok (.iload 4, 2) := by decide +kernel
theorem d_Mod_snapshot_136 : decode prog_8_method_17_code 136 = .ok (.iadd, 1) := by decide +kernel
theorem d_Mod_snapshot_137 : decode prog_8_method_17_code 137 = .ok (.aload_n 0, 1) := by decide +kernel
theorem d_Mod_snapshot_138 : decode prog_8_method_17_code 138 = .ok (.getfield 30, 3) := by decide +kernel
theorem d_Mod_snapshot_141 : decode prog_8_method_17_code 141 = .ok (.bipush 60, 2) := by decide +kernel
theorem d_Mod_snapshot_143 : decode prog_8_method_17_code 143 = .ok (.iload_n 1, 1) := by decide +kernel
theorem d_Mod_snapshot_144 : decode prog_8_method_17_code 144 = .ok (.imul, 1) := by decide +kernel
theorem d_Mod_snapshot_145 : decode prog_8_method_17_code 145 = .ok (.iload 4, 2) := by decide +kernel
theorem d_Mod_snapshot_147 : decode prog_8_method_17_code 147 = .ok (.iadd, 1) := by decide +kernel
theorem d_Mod_snapshot_148 : decode prog_8_method_17_code 148 = .ok (.laload, 1) := by decide +kernel
theorem d_Mod_snapshot_149 : decode prog_8_method_17_code 149 = .ok (.lastore, 1) := by decide +kernel
theorem d_Mod_snapshot_150 : decode prog_8_method_17_code 150 = .ok (.iinc 4 1, 3) := by decide +kernel
theorem d_Mod_snapshot_153 : decode prog_8_method_17_code 153 = .ok (.goto (-62), 3) := by decide +kernel
theorem d_Mod_snapshot_156 : decode prog_8_method_17_code 156 = .ok (.iconst 0, 1) := by decide +kernel
theorem d_Mod_snapshot_157 : decode prog_8_method_17_code 157 = .ok (.istore 4, 2) := by decide +kernel
theorem d_Mod_snapshot_159 : decode prog_8_method_17_code 159 = .ok (.iload 4, 2) := by decide +kernel
theorem d_Mod_snapshot_161 : decode prog_8_method_17_code 161 = .ok (.sipush 341, 3) := by decide +kernel
theorem d_Mod_snapshot_164 : decode prog_8_method_17_code 164 = .ok (.if_icmp .ge 35, 3) := by decide +kernel
theorem d_Mod_snapshot_167 : decode prog_8_method_17_code 167 = .ok (.aload_n 0, 1) := by decide +kernel
theorem d_Mod_snapshot_168 : decode prog_8_method_17_code 168 = .ok (.getfield 34, 3) := by decide +kernel
theorem d_Mod_snapshot_171 : decode prog_8_method_17_code 171 = .ok (.sipush 341, 3) := by decide +kernel
theorem d_Mod_snapshot_174 : decode prog_8_method_17_code 174 = .ok (.iload_n 3, 1) := by decide +kernel
theorem d_Mod_snapshot_175 : decode prog_8_method_17_code 175 = .ok (.imul, 1) := by decide +kernel
theorem d_Mod_snapshot_176 : decode prog_8_method_17_code 176 = .ok (.iload 4, 2) := by decide +kernel
theorem d_Mod_snapshot_178 : decode prog_8_method_17_code 178 = .ok (.iadd, 1) := by decide +kernel
theorem d_Mod_snapshot_179 : decode prog_8_method_17_code 179 = .ok (.aload_n 0, 1) := by decide +kernel
theorem d_Mod_snapshot_180 : decode prog_8_method_17_code 180 = .ok (.getfield 34, 3) := by decide +kernel
theorem d_Mod_snapshot_183 : decode prog_8_method_17_code 183 = .ok (.sipush 341, 3) := by decide +kernel
theorem d_Mod_snapshot_186 : decode prog_8_method_17_code 186 = .ok (.iload_n 1, 1) := by decide +kernel
theorem d_Mod_snapshot_187 : decode prog_8_method_17_code 187 = .ok (.imul, 1) := by decide +kernel
theorem d_Mod_snapshot_188 : decode prog_8_method_17_code 188 = .ok (.iload 4, 2) := by decide +kernel
theorem d_Mod_snapshot_190 : decode prog_8_method_17_code 190 = .ok (.iadd, 1) := by decide +kernel
theorem d_Mod_snapshot_191 : decode prog_8_method_17_code 191 = .ok (.iaload, 1) := by decide +kernel
theorem d_Mod_snapshot_192 : decode prog_8_method_17_code 192 = .ok (.iastore, 1) := by decide +kernel
theorem d_Mod_snapshot_193 : decode prog_8_method_17_code 193 = .ok (.iinc 4 1, 3) := by decide +kernel
theorem d_Mod_snapshot_196 : decode prog_8_method_17_code 196 = .ok (.goto (-37), 3) := by decide +kernel
theorem d_Mod_snapshot_199 : decode prog_8_method_17_code 199 = .ok (.aload_n 0, 1) := by decide +kernel
theorem d_Mod_snapshot_200 : decode prog_8_method_17_code 200 = .ok (.getfield 20, 3) := by decide +kernel
theorem d_Mod_snapshot_203 : decode prog_8_method_17_code 203 = .ok (.iload_n 1, 1) := by decide +kernel
theorem d_Mod_snapshot_204 : decode prog_8_method_17_code 204 = .ok (.aload_n 0, 1) := by decide +kernel
theorem d_Mod_snapshot_205 : decode prog_8_method_17_code 205 = .ok (.invokevirtual 93, 3) := by decide +kernel
theorem d_Mod_snapshot_208 : decode prog_8_method_17_code 208 = .ok (.iastore, 1) := by decide +kernel
theorem d_Mod_snapshot_209 : decode prog_8_method_17_code 209 = .ok (.aload_n 0, 1) := by decide +kernel
theorem d_Mod_snapshot_210 : decode prog_8_method_17_code 210 = .ok (.getfield 20, 3) := by decide +kernel
theorem d_Mod_snapshot_213 : decode prog_8_method_17_code 213 = .ok (.iload_n 3, 1) := by decide +kernel
theorem d_Mod_snapshot_214 : decode prog_8_method_17_code 214 = .ok (.aload_n 0, 1) := by decide +kernel
theorem d_Mod_snapshot_215 : decode prog_8_method_17_code 215 = .ok (.invokevirtual 93, 3) := by decide +kernel
theorem d_Mod_snapshot_218 : decode prog_8_method_17_code 218 = .ok (.iastore, 1) := by decide +kernel
theorem d_Mod_snapshot_219 : decode prog_8_method_17_code 219 = .ok (.iload_n 3, 1) := by decide +kernel
theorem d_Mod_snapshot_220 : decode prog_8_method_17_code 220 = .ok (.ireturn, 1) := by decide +kernel
theorem d_Mod_drop_0 : decode prog_8_method_18_code 0 = .ok (.aload_n 0, 1) := by decide +kernel
theorem d_Mod_drop_1 : decode prog_8_method_18_code 1 = .ok (.iconst 0, 1) := by decide +kernel
theorem d_Mod_drop_2 : decode prog_8_method_18_code 2 = .ok (.putfield 52, 3) := by decide +kernel
theorem d_Mod_drop_5 : decode prog_8_method_18_code 5 = .ok (.aload_n 0, 1) := by decide +kernel
theorem d_Mod_drop_6 : decode prog_8_method_18_code 6 = .ok (.iload_n 1, 1) := by decide +kernel
theorem d_Mod_drop_7 : decode prog_8_method_18_code 7 = .ok (.invokevirtual 79, 3) := by decide +kernel
theorem d_Mod_drop_10 : decode prog_8_method_18_code 10 = .ok (.ifCond .eq 9, 3) := by decide +kernel
theorem d_Mod_drop_13 : decode prog_8_method_18_code 13 = .ok (.aload_n 0, 1) := by decide +kernel
theorem d_Mod_drop_14 : decode prog_8_method_18_code 14 = .ok (.iconst 1, 1) := by decide +kernel
theorem d_Mod_drop_15 : decode prog_8_method_18_code 15 = .ok (.invokevirtual 83, 3) := by decide +kernel
theorem d_Mod_drop_18 : decode prog_8_method_18_code 18 = .ok (.ireturn, 1) := by decide +kernel
theorem d_Mod_drop_19 : decode prog_8_method_18_code 19 = .ok (.iload_n 1, 1) := by decide +kernel
theorem d_Mod_drop_20 : decode prog_8_method_18_code 20 = .ok (.ifCond .ne 9, 3) := by decide +kernel
theorem d_Mod_drop_23 : decode prog_8_method_18_code 23 = .ok (.aload_n 0, 1) := by decide +kernel
theorem d_Mod_drop_24 : decode prog_8_method_18_code 24 = .ok (.iconst 2, 1) := by decide +kernel
theorem d_Mod_drop_25 : decode prog_8_method_18_code 25 = .ok (.invokevirtual 83, 3) := by decide +kernel
theorem d_Mod_drop_28 : decode prog_8_method_18_code 28 = .ok (.ireturn, 1) := by decide +kernel
theorem d_Mod_drop_29 : decode prog_8_method_18_code 29 = .ok (.aload_n 0, 1) := by decide +kernel
theorem d_Mod_drop_30 : decode prog_8_method_18_code 30 = .ok (.getfield 13, 3) := by decide +kernel
theorem d_Mod_drop_33 : decode prog_8_method_18_code 33 = .ok (.iload_n 1, 1) := by decide +kernel
theorem d_Mod_drop_34 : decode prog_8_method_18_code 34 = .ok (.iconst 0, 1) := by decide +kernel
theorem d_Mod_drop_35 : decode prog_8_method_18_code 35 = .ok (.bastore, 1) := by decide +kernel
theorem d_Mod_drop_36 : decode prog_8_method_18_code 36 = .ok (.aload_n 0, 1) := by decide +kernel
theorem d_Mod_drop_37 : decode prog_8_method_18_code 37 = .ok (.getfield 24, 3) := by decide +kernel
theorem d_Mod_drop_40 : decode prog_8_method_18_code 40 = .ok (.iload_n 1, 1) := by decide +kernel
theorem d_Mod_drop_41 : decode prog_8_method_18_code 41 = .ok (.iaload, 1) := by decide +kernel
theorem d_Mod_drop_42 : decode prog_8_method_18_code 42 = .ok (.ireturn, 1) := by decide +kernel
theorem d_Mod_iterate_0 : decode prog_8_method_19_code 0 = .ok (.aload_n 0, 1) := by decide +kernel
theorem d_Mod_iterate_1 : decode prog_8_method_19_code 1 = .ok (.iconst 0, 1) := by decide +kernel
theorem d_Mod_iterate_2 : decode prog_8_method_19_code 2 = .ok (.putfield 52, 3) := by decide +kernel
theorem d_Mod_iterate_5 : decode prog_8_method_19_code 5 = .ok (.aload_n 0, 1) := by decide +kernel
theorem d_Mod_iterate_6 : decode prog_8_method_19_code 6 = .ok (.iload_n 1, 1) := by decide +kernel
theorem d_Mod_iterate_7 : decode prog_8_method_19_code 7 = .ok (.invokevirtual 79, 3) := by decide +kernel
theorem d_Mod_iterate_10 : decode prog_8_method_19_code 10 = .ok (.ifCond .eq 9, 3) := by decide +kernel
theorem d_Mod_iterate_13 : decode prog_8_method_19_code 13 = .ok (.aload_n 0, 1) := by decide +kernel
theorem d_Mod_iterate_14 : decode prog_8_method_19_code 14 = .ok (.iconst 1, 1) := by decide +kernel
theorem d_Mod_iterate_15 : decode prog_8_method_19_code 15 = .ok (.invokevirtual 83, 3) := by decide +kernel
theorem d_Mod_iterate_18 : decode prog_8_method_19_code 18 = .ok (.ireturn, 1) := by decide +kernel
theorem d_Mod_iterate_19 : decode prog_8_method_19_code 19 = .ok (.iconst (-1), 1) := by decide +kernel
theorem d_Mod_iterate_20 : decode prog_8_method_19_code 20 = .ok (.istore_n 2, 1) := by decide +kernel
theorem d_Mod_iterate_21 : decode prog_8_method_19_code 21 = .ok (.iconst 3, 1) := by decide +kernel
theorem d_Mod_iterate_22 : decode prog_8_method_19_code 22 = .ok (.istore_n 3, 1) := by decide +kernel
theorem d_Mod_iterate_23 : decode prog_8_method_19_code 23 = .ok (.iload_n 3, 1) := by decide +kernel
theorem d_Mod_iterate_24 : decode prog_8_method_19_code 24 = .ok (.ifCond .lt 24, 3) := by decide +kernel
theorem d_Mod_iterate_27 : decode prog_8_method_19_code 27 = .ok (.aload_n 0, 1) := by decide +kernel
theorem d_Mod_iterate_28 : decode prog_8_method_19_code 28 = .ok (.getfield 37, 3) := by decide +kernel
theorem d_Mod_iterate_31 : decode prog_8_method_19_code 31 = .ok (.iload_n 3, 1) := by decide +kernel
theorem d_Mod_iterate_32 : decode prog_8_method_19_code 32 = .ok (.baload, 1) := by decide +kernel
theorem d_Mod_iterate_33 : decode prog_8_method_19_code 33 = .ok (.ifCond .eq 7, 3) := by decide +kernel
theorem d_Mod_iterate_36 : decode prog_8_method_19_code 36 = .ok (.iload_n 2, 1) := by decide +kernel
theorem d_Mod_iterate_37 : decode prog_8_method_19_code 37 = .ok (.goto 4, 3) := by decide +kernel
theorem d_Mod_iterate_40 : decode prog_8_method_19_code 40 = .ok (.iload_n 3, 1) := by decide +kernel
theorem d_Mod_iterate_41 : decode prog_8_method_19_code 41 = .ok (.istore_n 2, 1) := by decide +kernel
theorem d_Mod_iterate_42 : decode prog_8_method_19_code 42 = .ok (.iinc 3 (-1), 3) := by decide +kernel
theorem d_Mod_iterate_45 : decode prog_8_method_19_code 45 = .ok (.goto (-22), 3) := by decide +kernel
theorem d_Mod_iterate_48 : decode prog_8_method_19_code 48 = .ok (.iload_n 2, 1) := by decide +kernel
theorem d_Mod_iterate_49 : decode prog_8_method_19_code 49 = .ok (.ifCond .ge 9, 3) := by decide +kernel
theorem d_Mod_iterate_52 : decode prog_8_method_19_code 52 = .ok (.aload_n 0, 1) := by decide +kernel
theorem d_Mod_iterate_53 : decode prog_8_method_19_code 53 = .ok (.iconst 2, 1) := by decide +kernel
theorem d_Mod_iterate_54 : decode prog_8_method_19_code 54 = .ok (.invokevirtual 83, 3) := by decide +kernel
theorem d_Mod_iterate_57 : decode prog_8_method_19_code 57 = .ok (.ireturn, 1) := by decide +kernel
theorem d_Mod_iterate_58 : decode prog_8_method_19_code 58 = .ok (.aload_n 0, 1) := by decide +kernel
theorem d_Mod_iterate_59 : decode prog_8_method_19_code 59 = .ok (.getfield 37, 3) := by decide +kernel
theorem d_Mod_iterate_62 : decode prog_8_method_19_code 62 = .ok (.iload_n 2, 1) := by decide +kernel
theorem d_Mod_iterate_63 : decode prog_8_method_19_code 63 = .ok (.iconst 1, 1) := by decide +kernel
theorem d_Mod_iterate_64 : decode prog_8_method_19_code 64 = .ok (.bastore, 1) := by decide +kernel
theorem d_Mod_iterate_65 : decode prog_8_method_19_code 65 = .ok (.aload_n 0, 1) := by decide +kernel
theorem d_Mod_iterate_66 : decode prog_8_method_19_code 66 = .ok (.getfield 43, 3) := by decide +kernel
theorem d_Mod_iterate_69 : decode prog_8_method_19_code 69 = .ok (.iload_n 2, 1) := by decide +kernel
theorem d_Mod_iterate_70 : decode prog_8_method_19_code 70 = .ok (.iconst 0, 1) := by decide +kernel
theorem d_Mod_iterate_71 : decode prog_8_method_19_code 71 = .ok (.iastore, 1) := by decide +kernel
theorem d_Mod_iterate_72 : decode prog_8_method_19_code 72 = .ok (.aload_n 0, 1) := by decide +kernel
theorem d_Mod_iterate_73 : decode prog_8_method_19_code 73 = .ok (.getfield 40, 3) := by decide +kernel
theorem d_Mod_iterate_76 : decode prog_8_method_19_code 76 = .ok (.iload_n 2, 1) := by decide +kernel
theorem d_Mod_iterate_77 : decode prog_8_method_19_code 77 = .ok (.iconst 0, 1) := by decide +kernel
theorem d_Mod_iterate_78 : decode prog_8_method_19_code 78 = .ok (.iastore, 1) := by decide +kernel
theorem d_Mod_iterate_79 : decode prog_8_method_19_code 79 = .ok (.iconst 0, 1) := by decide +kernel
theorem d_Mod_iterate_80 : decode prog_8_method_19_code 80 = .ok (.istore_n 3, 1) := by decide +kernel
theorem d_Mod_iterate_81 : decode prog_8_method_19_code 81 = .ok (.iload_n 3, 1) := by decide +kernel
theorem d_Mod_iterate_82 : decode prog_8_method_19_code 82 = .ok (.sipush 256, 3) := by decide +kernel
theorem d_Mod_iterate_85 : decode prog_8_method_19_code 85 = .ok (.if_icmp .ge 107, 3) := by decide +kernel
theorem d_Mod_iterate_88 : decode prog_8_method_19_code 88 = .ok (.bipush 60, 2) := by decide +kernel
theorem d_Mod_iterate_90 : decode prog_8_method_19_code 90 = .ok (.iload_n 1, 1) := by decide +kernel
theorem d_Mod_iterate_91 : decode prog_8_method_19_code 91 = .ok (.imul, 1) := by decide +kernel
theorem d_Mod_iterate_92 : decode prog_8_method_19_code 92 = .ok (.istore 4, 2) := by decide +kernel
theorem d_Mod_iterate_94 : decode prog_8_method_19_code 94 = .ok (.iload 4, 2) := by decide +kernel
theorem d_Mod_iterate_96 : decode prog_8_method_19_code 96 = .ok (.bipush 60, 2) := by decide +kernel
theorem d_Mod_iterate_98 : decode prog_8_method_19_code 98 = .ok (.iload_n 1, 1) := by decide +kernel
theorem d_Mod_iterate_99 : decode prog_8_method_19_code 99 = .ok (.imul, 1) := by decide +kernel
theorem d_Mod_iterate_100 : decode prog_8_method_19_code 100 = .ok (.aload_n 0, 1) := by decide +kernel
theorem d_Mod_iterate_101 : decode prog_8_method_19_code 101 = .ok (.getfield 24, 3) := by decide +kernel
theorem d_Mod_iterate_104 : decode prog_8_method_19_code 104 = .ok (.iload_n 1, 1) := by decide +kernel
theorem d_Mod_iterate_105 : decode prog_8_method_19_code 105 = .ok (.iaload, 1) := by decide +kernel
theorem d_Mod_iterate_106 : decode prog_8_method_19_code 106 = .ok (.iadd, 1) := by decide +kernel
theorem d_Mod_iterate_107 : decode prog_8_method_19_code 107 = .ok (.if_icmp .ge 79, 3) := by decide +kernel
theorem d_Mod_iterate_110 : decode prog_8_method_19_code 110 = .ok (.aload_n 0, 1) := by decide +kernel
theorem d_Mod_iterate_111 : decode prog_8_method_19_code 111 = .ok (.getfield 27, 3) := by decide +kernel
theorem d_Mod_iterate_114 : decode prog_8_method_19_code 114 = .ok (.iload 4, 2) := by decide +kernel
theorem d_Mod_iterate_116 : decode prog_8_method_19_code 116 = .ok (.iaload, 1) := by decide +kernel
theorem d_Mod_iterate_117 : decode prog_8_method_19_code 117 = .ok (.invokestatic 56, 3) := by decide +kernel
theorem d_Mod_iterate_120 : decode prog_8_method_19_code 120 = .ok (.iload_n 3, 1) := by decide +kernel
theorem d_Mod_iterate_121 : decode prog_8_method_19_code 121 = .ok (.if_icmp .ne 59, 3) := by decide +kernel
theorem d_Mod_iterate_124 : decode prog_8_method_19_code 124 = .ok (.aload_n 0, 1) := by decide +kernel
theorem d_Mod_iterate_125 : decode prog_8_method_19_code 125 = .ok (.getfield 46, 3) := by decide +kernel
theorem d_Mod_iterate_128 : decode prog_8_method_19_code 128 = .ok (.bipush 60, 2) := by decide +kernel
theorem d_Mod_iterate_130 : decode prog_8_method_19_code 130 = .ok (.iload_n 2, 1) := by decide +kernel
theorem d_Mod_iterate_131 : decode prog_8_method_19_code 131 = .ok (.imul, 1) := by decide +kernel
theorem d_Mod_iterate_132 : decode prog_8_method_19_code 132 = .ok (.aload_n 0, 1) := by decide +kernel
theorem d_Mod_iterate_133 : decode prog_8_method_19_code 133 = .ok (.getfield 40, 3) := by decide +kernel
theorem d_Mod_iterate_136 : decode prog_8_method_19_code 136 = .ok (.iload_n 2, 1) := by decide +kernel
theorem d_Mod_iterate_137 : decode prog_8_method_19_code 137 = .ok (.iaload, 1) := by decide +kernel
theorem d_Mod_iterate_138 : decode prog_8_method_19_code 138 = .ok (.iadd, 1) := by decide +kernel
theorem d_Mod_iterate_139 : decode prog_8_method_19_code 139 = .ok (.aload_n 0, 1) := by decide +kernel
theorem d_Mod_iterate_140 : decode prog_8_method_19_code 140 = .ok (.getfield 27, 3) := by decide +kernel
theorem d_Mod_iterate_143 : decode prog_8_method_19_code 143 = .ok (.iload 4, 2) := by decide +kernel
theorem d_Mod_iterate_145 : decode prog_8_method_19_code 145 = .ok (.iaload, 1) := by decide +kernel
theorem d_Mod_iterate_146 : decode prog_8_method_19_code 146 = .ok (.iastore, 1) := by decide +kernel
theorem d_Mod_iterate_147 : decode prog_8_method_19_code 147 = .ok (.aload_n 0, 1) := by decide +kernel
theorem d_Mod_iterate_148 : decode prog_8_method_19_code 148 = .ok (.getfield 49, 3) := by decide +kernel
theorem d_Mod_iterate_151 : decode prog_8_method_19_code 151 = .ok (.bipush 60, 2) := by decide +kernel
theorem d_Mod_iterate_153 : decode prog_8_method_19_code 153 = .ok (.iload_n 2, 1) := by decide +kernel
theorem d_Mod_iterate_154 : decode prog_8_method_19_code 154 = .ok (.imul, 1) := by decide +kernel
theorem d_Mod_iterate_155 : decode prog_8_method_19_code 155 = .ok (.aload_n 0, 1) := by decide +kernel
theorem d_Mod_iterate_156 : decode prog_8_method_19_code 156 = .ok (.getfield 40, 3) := by decide +kernel
theorem d_Mod_iterate_159 : decode prog_8_method_19_code 159 = .ok (.iload_n 2, 1) := by decide +kernel
theorem d_Mod_iterate_160 : decode prog_8_method_19_code 160 = .ok (.iaload, 1) := by decide +kernel
theorem d_Mod_iterate_161 : decode prog_8_method_19_code 161 = .ok (.iadd, 1) := by decide +kernel
theorem d_Mod_iterate_162 : decode prog_8_method_19_code 162 = .ok (.aload_n 0, 1) := by decide +kernel
theorem d_Mod_iterate_163 : decode prog_8_method_19_code 163 = .ok (.getfield 30, 3) := by decide +kernel
theorem d_Mod_iterate_166 : decode prog_8_method_19_code 166 = .ok (.iload 4, 2) := by decide +kernel
theorem d_Mod_iterate_168 : decode prog_8_method_19_code 168 = .ok (.laload, 1) := by decide +kernel
theorem d_Mod_iterate_169 : decode prog_8_method_19_code 169 = .ok (.lastore, 1) := by decide +kernel
theorem d_Mod_iterate_170 : decode prog_8_method_19_code 170 = .ok (.aload_n 0, 1) := by decide +kernel
theorem d_Mod_iterate_171 : decode prog_8_method_19_code 171 = .ok (.getfield 40, 3) := by decide +kernel
theorem d_Mod_iterate_174 : decode prog_8_method_19_code 174 = .ok (.iload_n 2, 1) := by decide +kernel
theorem d_Mod_iterate_175 : decode prog_8_method_19_code 175 = .ok (.dup2, 1) := by decide +kernel
theorem d_Mod_iterate_176 : decode prog_8_method_19_code 176 = .ok (.iaload, 1) := by decide +kernel
theorem d_Mod_iterate_177 : decode prog_8_method_19_code 177 = .ok (.iconst 1, 1) := by decide +kernel
theorem d_Mod_iterate_178 : decode prog_8_method_19_code 178 = .ok (.iadd, 1) := by decide +kernel
theorem d_Mod_iterate_179 : decode prog_8_method_19_code 179 = .ok (.iastore, 1) := by decide +kernel
theorem d_Mod_iterate_180 : decode prog_8_method_19_code 180 = .ok (.iinc 4 1, 3) := by decide +kernel
theorem d_Mod_iterate_183 : decode prog_8_method_19_code 183 = .ok (.goto (-89), 3) := by decide +kernel
theorem d_Mod_iterate_186 : decode prog_8_method_19_code 186 = .ok (.iinc 3 1, 3) := by decide +kernel
theorem d_Mod_iterate_189 : decode prog_8_method_19_code 189 = .ok (.goto (-108), 3) := by decide +kernel
theorem d_Mod_iterate_192 : decode prog_8_method_19_code 192 = .ok (.aload_n 0, 1) := by decide +kernel
theorem d_Mod_iterate_193 : decode prog_8_method_19_code 193 = .ok (.getfield 20, 3) := by decide +kernel
theorem d_Mod_iterate_196 : decode prog_8_method_19_code 196 = .ok (.iload_n 1, 1) := by decide +kernel
theorem d_Mod_iterate_197 : decode prog_8_method_19_code 197 = .ok (.aload_n 0, 1) := by decide +kernel
theorem d_Mod_iterate_198 : decode prog_8_method_19_code 198 = .ok (.invokevirtual 93, 3) := by decide +kernel
theorem d_Mod_iterate_201 : decode prog_8_method_19_code 201 = .ok (.iastore, 1) := by decide +kernel
theorem d_Mod_iterate_202 : decode prog_8_method_19_code 202 = .ok (.iload_n 2, 1) := by decide +kernel
theorem d_Mod_iterate_203 : decode prog_8_method_19_code 203 = .ok (.ireturn, 1) := by decide +kernel
theorem d_Mod_next_0 : decode prog_8_method_20_code 0 = .ok (.aload_n 0, 1) := by decide +kernel
theorem d_Mod_next_1 : decode prog_8_method_20_code 1 = .ok (.iconst 0, 1) := by decide +kernel
theorem d_Mod_next_2 : decode prog_8_method_20_code 2 = .ok (.putfield 52, 3) := by decide +kernel
theorem d_Mod_next_5 : decode prog_8_method_20_code 5 = .ok (.iload_n 1, 1) := by decide +kernel
theorem d_Mod_next_6 : decode prog_8_method_20_code 6 = .ok (.ifCond .lt 17, 3) := by decide +kernel
theorem d_Mod_next_9 : decode prog_8_method_20_code 9 = .ok (.iload_n 1, 1) := by decide +kernel
theorem d_Mod_next_10 : decode prog_8_method_20_code 10 = .ok (.iconst 4, 1) := by decide +kernel
theorem d_Mod_next_11 : decode prog_8_method_20_code 11 = .ok (.if_icmp .ge 12, 3) := by decide +kernel
theorem d_Mod_next_14 : decode prog_8_method_20_code 14 = .ok (.aload_n 0, 1) := by decide +kernel
theorem d_Mod_next_15 : decode prog_8_method_20_code 15 = .ok (.getfield 37, 3) := by decide +kernel
theorem d_Mod_next_18 : decode prog_8_method_20_code 18 = .ok (.iload_n 1, 1) := by decide +kernel
theorem d_Mod_next_19 : decode prog_8_method_20_code 19 = .ok (.baload, 1) := by decide +kernel
theorem d_Mod_next_20 : decode prog_8_method_20_code 20 = .ok (.ifCond .ne 9, 3) := by decide +kernel
theorem d_Mod_next_23 : decode prog_8_method_20_code 23 = .ok (.aload_n 0, 1) := by decide +kernel
theorem d_Mod_next_24 : decode prog_8_method_20_code 24 = .ok (.iconst 1, 1) := by decide +kernel
theorem d_Mod_next_25 : decode prog_8_method_20_code 25 = .ok (.invokevirtual 83, 3) := by decide +kernel
theorem d_Mod_next_28 : decode prog_8_method_20_code 28 = .ok (.ireturn, 1) := by decide +kernel
theorem d_Mod_next_29 : decode prog_8_method_20_code 29 = .ok (.aload_n 0, 1) := by decide +kernel
theorem d_Mod_next_30 : decode prog_8_method_20_code 30 = .ok (.getfield 43, 3) := by decide +kernel
theorem d_Mod_next_33 : decode prog_8_method_20_code 33 = .ok (.iload_n 1, 1) := by decide +kernel
theorem d_Mod_next_34 : decode prog_8_method_20_code 34 = .ok (.iaload, 1) := by decide +kernel
theorem d_Mod_next_35 : decode prog_8_method_20_code 35 = .ok (.aload_n 0, 1) := by decide +kernel
theorem d_Mod_next_36 : decode prog_8_method_20_code 36 = .ok (.getfield 40, 3) := by decide +kernel
theorem d_Mod_next_39 : decode prog_8_method_20_code 39 = .ok (.iload_n 1, 1) := by decide +kernel
theorem d_Mod_next_40 : decode prog_8_method_20_code 40 = .ok (.iaload, 1) := by decide +kernel
theorem d_Mod_next_41 : decode prog_8_method_20_code 41 = .ok (.if_icmp .ne 16, 3) := by decide +kernel
theorem d_Mod_next_44 : decode prog_8_method_20_code 44 = .ok (.aload_n 0, 1) := by decide +kernel
theorem d_Mod_next_45 : decode prog_8_method_20_code 45 = .ok (.getfield 37, 3) := by decide +kernel
theorem d_Mod_next_48 : decode prog_8_method_20_code 48 = .ok (.iload_n 1, 1) := by decide +kernel
theorem d_Mod_next_49 : decode prog_8_method_20_code 49 = .ok (.iconst 0, 1) := by decide +kernel
theorem d_Mod_next_50 : decode prog_8_method_20_code 50 = .ok (.bastore, 1) := by decide +kernel
theorem d_Mod_next_51 : decode prog_8_method_20_code 51 = .ok (.aload_n 0, 1) := by decide +kernel
theorem d_Mod_next_52 : decode prog_8_method_20_code 52 = .ok (.iconst 2, 1) := by decide +kernel
theorem d_Mod_next_53 : decode prog_8_method_20_code 53 = .ok (.invokevirtual 83, 3) := by decide +kernel
theorem d_Mod_next_56 : decode prog_8_method_20_code 56 = .ok (.ireturn, 1) := by decide +kernel
theorem d_Mod_next_57 : decode prog_8_method_20_code 57 = .ok (.aload_n 0, 1) := by decide +kernel
theorem d_Mod_next_58 : decode prog_8_method_20_code 58 = .ok (.aload_n 0, 1) := by decide +kernel
theorem d_Mod_next_59 : decode prog_8_method_20_code 59 = .ok (.getfield 49, 3) := by decide +kernel
theorem d_Mod_next_62 : decode prog_8_method_20_code 62 = .ok (.bipush 60, 2) := by decide +kernel
theorem d_Mod_next_64 : decode prog_8_method_20_code 64 = .ok (.iload_n 1, 1) := by decide +kernel
theorem d_Mod_next_65 : decode prog_8_method_20_code 65 = .ok (.imul, 1) := by decide +kernel
theorem d_Mod_next_66 : decode prog_8_method_20_code 66 = .ok (.aload_n 0, 1) := by decide +kernel
theorem d_Mod_next_67 : decode prog_8_method_20_code 67 = .ok (.getfield 43, 3) := by decide +kernel
theorem d_Mod_next_70 : decode prog_8_method_20_code 70 = .ok (.iload_n 1, 1) := by decide +kernel
theorem d_Mod_next_71 : decode prog_8_method_20_code 71 = .ok (.iaload, 1) := by decide +kernel
theorem d_Mod_next_72 : decode prog_8_method_20_code 72 = .ok (.iadd, 1) := by decide +kernel
theorem d_Mod_next_73 : decode prog_8_method_20_code 73 = .ok (.laload, 1) := by decide +kernel
theorem d_Mod_next_74 : decode prog_8_method_20_code 74 = .ok (.putfield 97, 3) := by decide +kernel
theorem d_Mod_next_77 : decode prog_8_method_20_code 77 = .ok (.aload_n 0, 1) := by decide +kernel
theorem d_Mod_next_78 : decode prog_8_method_20_code 78 = .ok (.getfield 43, 3) := by decide +kernel
theorem d_Mod_next_81 : decode prog_8_method_20_code 81 = .ok (.iload_n 1, 1) := by decide +kernel
theorem d_Mod_next_82 : decode prog_8_method_20_code 82 = .ok (.dup2, 1) := by decide +kernel
theorem d_Mod_next_83 : decode prog_8_method_20_code 83 = .ok (.iaload, 1) := by decide +kernel
theorem d_Mod_next_84 : decode prog_8_method_20_code 84 = .ok (.iconst 1, 1) := by decide +kernel
theorem d_Mod_next_85 : decode prog_8_method_20_code 85 = .ok (.iadd, 1) := by decide +kernel
theorem d_Mod_next_86 : decode prog_8_method_20_code 86 = .ok (.iastore, 1) := by decide +kernel
theorem d_Mod_next_87 : decode prog_8_method_20_code 87 = .ok (.aload_n 0, 1) := by decide +kernel
theorem d_Mod_next_88 : decode prog_8_method_20_code 88 = .ok (.getfield 46, 3) := by decide +kernel
theorem d_Mod_next_91 : decode prog_8_method_20_code 91 = .ok (.bipush 60, 2) := by decide +kernel
theorem d_Mod_next_93 : decode prog_8_method_20_code 93 = .ok (.iload_n 1, 1) := by decide +kernel
theorem d_Mod_next_94 : decode prog_8_method_20_code 94 = .ok (.imul, 1) := by decide +kernel
theorem d_Mod_next_95 : decode prog_8_method_20_code 95 = .ok (.aload_n 0, 1) := by decide +kernel
theorem d_Mod_next_96 : decode prog_8_method_20_code 96 = .ok (.getfield 43, 3) := by decide +kernel
theorem d_Mod_next_99 : decode prog_8_method_20_code 99 = .ok (.iload_n 1, 1) := by decide +kernel
theorem d_Mod_next_100 : decode prog_8_method_20_code 100 = .ok (.iaload, 1) := by decide +kernel
theorem d_Mod_next_101 : decode prog_8_method_20_code 101 = .ok (.iadd, 1) := by decide +kernel
theorem d_Mod_next_102 : decode prog_8_method_20_code 102 = .ok (.iconst 1, 1) := by decide +kernel
theorem d_Mod_next_103 : decode prog_8_method_20_code 103 = .ok (.isub, 1) := by decide +kernel
theorem d_Mod_next_104 : decode prog_8_method_20_code 104 = .ok (.iaload, 1) := by decide +kernel
theorem d_Mod_next_105 : decode prog_8_method_20_code 105 = .ok (.ireturn, 1) := by decide +kernel
theorem d_Mod_value_0 : decode prog_8_method_21_code 0 = .ok (.aload_n 0, 1) := by decide +kernel
theorem d_Mod_value_1 : decode prog_8_method_21_code 1 = .ok (.iconst 0, 1) := by decide +kernel
theorem d_Mod_value_2 : decode prog_8_method_21_code 2 = .ok (.putfield 52, 3) := by decide +kernel
theorem d_Mod_value_5 : decode prog_8_method_21_code 5 = .ok (.aload_n 0, 1) := by decide +kernel
theorem d_Mod_value_6 : decode prog_8_method_21_code 6 = .ok (.getfield 97, 3) := by decide +kernel
theorem d_Mod_value_9 : decode prog_8_method_21_code 9 = .ok (.lreturn, 1) := by decide +kernel
theorem d_Mod_copied_0 : decode prog_8_method_22_code 0 = .ok (.aload_n 0, 1) := by decide +kernel
theorem d_Mod_copied_1 : decode prog_8_method_22_code 1 = .ok (.iconst 0, 1) := by decide +kernel
theorem d_Mod_copied_2 : decode prog_8_method_22_code 2 = .ok (.putfield 52, 3) := by decide +kernel
theorem d_Mod_copied_5 : decode prog_8_method_22_code 5 = .ok (.aload_n 0, 1) := by decide +kernel
theorem d_Mod_copied_6 : decode prog_8_method_22_code 6 = .ok (.getfield 72, 3) := by decide +kernel
theorem d_Mod_copied_9 : decode prog_8_method_22_code 9 = .ok (.ireturn, 1) := by decide +kernel
theorem d_Mod_has_0 : decode prog_8_method_23_code 0 = .ok (.aload_n 0, 1) := by decide +kernel
theorem d_Mod_has_1 : decode prog_8_method_23_code 1 = .ok (.iload_n 1, 1) := by decide +kernel
theorem d_Mod_has_2 : decode prog_8_method_23_code 2 = .ok (.iload_n 3, 1) := by decide +kernel
theorem d_Mod_has_3 : decode prog_8_method_23_code 3 = .ok (.bipush 8, 2) := by decide +kernel
theorem d_Mod_has_5 : decode prog_8_method_23_code 5 = .ok (.iconst 2, 1) := by decide +kernel
theorem d_Mod_has_6 : decode prog_8_method_23_code 6 = .ok (.iload_n 2, 1) := by decide +kernel
theorem d_Mod_has_7 : decode prog_8_method_23_code 7 = .ok (.imul, 1) := by decide +kernel
theorem d_Mod_has_8 : decode prog_8_method_23_code 8 = .ok (.isub, 1) := by decide +kernel
theorem d_Mod_has_9 : decode prog_8_method_23_code 9 = .ok (.ishl, 1) := by decide +kernel
theorem d_Mod_has_10 : decode prog_8_method_23_code 10 = .ok (.iload_n 2, 1) := by decide +kernel
theorem d_Mod_has_11 : decode prog_8_method_23_code 11 = .ok (.invokevirtual 68, 3) := by decide +kernel
theorem d_Mod_has_14 : decode prog_8_method_23_code 14 = .ok (.ireturn, 1) := by decide +kernel
theorem d_Mod_measure_0 : decode prog_8_method_24_code 0 = .ok (.aload_n 0, 1) := by decide +kernel
theorem d_Mod_measure_1 : decode prog_8_method_24_code 1 = .ok (.iconst 0, 1) := by decide +kernel
theorem d_Mod_measure_2 : decode prog_8_method_24_code 2 = .ok (.putfield 52, 3) := by decide +kernel
theorem d_Mod_measure_5 : decode prog_8_method_24_code 5 = .ok (.aload_n 0, 1) := by decide +kernel
theorem d_Mod_measure_6 : decode prog_8_method_24_code 6 = .ok (.iload_n 1, 1) := by decide +kernel
theorem d_Mod_measure_7 : decode prog_8_method_24_code 7 = .ok (.invokevirtual 79, 3) := by decide +kernel
theorem d_Mod_measure_10 : decode prog_8_method_24_code 10 = .ok (.ifCond .ne 12, 3) := by decide +kernel
theorem d_Mod_measure_13 : decode prog_8_method_24_code 13 = .ok (.iload_n 2, 1) := by decide +kernel
theorem d_Mod_measure_14 : decode prog_8_method_24_code 14 = .ok (.ifCond .lt 8, 3) := by decide +kernel
theorem d_Mod_measure_17 : decode prog_8_method_24_code 17 = .ok (.iload_n 2, 1) := by decide +kernel
theorem d_Mod_measure_18 : decode prog_8_method_24_code 18 = .ok (.iconst 4, 1) := by decide +kernel
theorem d_Mod_measure_19 : decode prog_8_method_24_code 19 = .ok (.if_icmp .le 9, 3) := by decide +kernel
theorem d_Mod_measure_22 : decode prog_8_method_24_code 22 = .ok (.aload_n 0, 1) := by decide +kernel
theorem d_Mod_measure_23 : decode prog_8_method_24_code 23 = .ok (.iconst 1, 1) := by decide +kernel
theorem d_Mod_measure_24 : decode prog_8_method_24_code 24 = .ok (.invokevirtual 83, 3) := by decide +kernel
theorem d_Mod_measure_27 : decode prog_8_method_24_code 27 = .ok (.ireturn, 1) := by decide +kernel
theorem d_Mod_measure_28 : decode prog_8_method_24_code 28 = .ok (.iconst 0, 1) := by decide +kernel
theorem d_Mod_measure_29 : decode prog_8_method_24_code 29 = .ok (.istore_n 3, 1) := by decide +kernel
theorem d_Mod_measure_30 : decode prog_8_method_24_code 30 = .ok (.iconst 0, 1) := by decide +kernel
theorem d_Mod_measure_31 : decode prog_8_method_24_code 31 = .ok (.istore 4, 2) := by decide +kernel
theorem d_Mod_measure_33 : decode prog_8_method_24_code 33 = .ok (.iconst 0, 1) := by decide +kernel
theorem d_Mod_measure_34 : decode prog_8_method_24_code 34 = .ok (.istore 5, 2) := by decide +kernel
theorem d_Mod_measure_36 : decode prog_8_method_24_code 36 = .ok (.iconst 0, 1) := by decide +kernel
theorem d_Mod_measure_37 : decode prog_8_method_24_code 37 = .ok (.istore 6, 2) := by decide +kernel
theorem d_Mod_measure_39 : decode prog_8_method_24_code 39 = .ok (.iconst 0, 1) := by decide +kernel
theorem d_Mod_measure_40 : decode prog_8_method_24_code 40 = .ok (.istore 7, 2) := by decide +kernel
theorem d_Mod_measure_42 : decode prog_8_method_24_code 42 = .ok (.iload 7, 2) := by decide +kernel
theorem d_Mod_measure_44 : decode prog_8_method_24_code 44 = .ok (.iconst 5, 1) := by decide +kernel
theorem d_Mod_measure_45 : decode prog_8_method_24_code 45 = .ok (.if_icmp .ge 111, 3) := by decide +kernel
theorem d_Mod_measure_48 : decode prog_8_method_24_code 48 = .ok (.iconst 0, 1) := by decide +kernel
theorem d_Mod_measure_49 : decode prog_8_method_24_code 49 = .ok (.istore 8, 2) := by decide +kernel
theorem d_Mod_measure_51 : decode prog_8_method_24_code 51 = .ok (.iload 8, 2) := by decide +kernel
theorem d_Mod_measure_53 : decode prog_8_method_24_code 53 = .ok (.iconst 1, 1) := by decide +kernel
theorem d_Mod_measure_54 : decode prog_8_method_24_code 54 = .ok (.iconst 2, 1) := by decide +kernel
theorem d_Mod_measure_55 : decode prog_8_method_24_code 55 = .ok (.iload 7, 2) := by decide +kernel
theorem d_Mod_measure_57 : decode prog_8_method_24_code 57 = .ok (.imul, 1) := by decide +kernel
theorem d_Mod_measure_58 : decode prog_8_method_24_code 58 = .ok (.ishl, 1) := by decide +kernel
theorem d_Mod_measure_59 : decode prog_8_method_24_code 59 = .ok (.if_icmp .ge 91, 3) := by decide +kernel
theorem d_Mod_measure_62 : decode prog_8_method_24_code 62 = .ok (.aload_n 0, 1) := by decide +kernel
theorem d_Mod_measure_63 : decode prog_8_method_24_code 63 = .ok (.iload_n 1, 1) := by decide +kernel
theorem d_Mod_measure_64 : decode prog_8_method_24_code 64 = .ok (.iload 7, 2) := by decide +kernel
theorem d_Mod_measure_66 : decode prog_8_method_24_code 66 = .ok (.iload 8, 2) := by decide +kernel
theorem d_Mod_measure_68 : decode prog_8_method_24_code 68 = .ok (.invokevirtual 101, 3) := by decide +kernel
theorem d_Mod_measure_71 : decode prog_8_method_24_code 71 = .ok (.ifCond .eq 73, 3) := by decide +kernel
theorem d_Mod_measure_74 : decode prog_8_method_24_code 74 = .ok (.iinc 3 1, 3) := by decide +kernel
theorem d_Mod_measure_77 : decode prog_8_method_24_code 77 = .ok (.iload 4, 2) := by decide +kernel
theorem d_Mod_measure_79 : decode prog_8_method_24_code 79 = .ok (.iload 7, 2) := by decide +kernel
theorem d_Mod_measure_81 : decode prog_8_method_24_code 81 = .ok (.iconst 4, 1) := by decide +kernel
theorem d_Mod_measure_82 : decode prog_8_method_24_code 82 = .ok (.if_icmp .ne 7, 3) := by decide +kernel
theorem d_Mod_measure_85 : decode prog_8_method_24_code 85 = .ok (.iconst 1, 1) := by decide +kernel
theorem d_Mod_measure_86 : decode prog_8_method_24_code 86 = .ok (.goto 4, 3) := by decide +kernel
theorem d_Mod_measure_89 : decode prog_8_method_24_code 89 = .ok (.iconst 0, 1) := by decide +kernel
theorem d_Mod_measure_90 : decode prog_8_method_24_code 90 = .ok (.iadd, 1) := by decide +kernel
theorem d_Mod_measure_91 : decode prog_8_method_24_code 91 = .ok (.istore 4, 2) := by decide +kernel
theorem d_Mod_measure_93 : decode prog_8_method_24_code 93 = .ok (.iload 7, 2) := by decide +kernel
theorem d_Mod_measure_95 : decode prog_8_method_24_code 95 = .ok (.iconst 1, 1) := by decide +kernel
theorem d_Mod_measure_96 : decode prog_8_method_24_code 96 = .ok (.iadd, 1) := by decide +kernel
theorem d_Mod_measure_97 : decode prog_8_method_24_code 97 = .ok (.istore 5, 2) := by decide +kernel
theorem d_Mod_measure_99 : decode prog_8_method_24_code 99 = .ok (.iload 6, 2) := by decide +kernel
theorem d_Mod_measure_101 : decode prog_8_method_24_code 101 = .ok (.aload_n 0, 1) := by decide +kernel
theorem d_Mod_measure_102 : decode prog_8_method_24_code 102 = .ok (.getfield 34, 3) := by decide +kernel
theorem d_Mod_measure_105 : decode prog_8_method_24_code 105 = .ok (.sipush 341, 3) := by decide +kernel
theorem d_Mod_measure_108 : decode prog_8_method_24_code 108 = .ok (.iload_n 1, 1) := by decide +kernel
theorem d_Mod_measure_109 : decode prog_8_method_24_code 109 = .ok (.imul, 1) := by decide +kernel
theorem d_Mod_measure_110 : decode prog_8_method_24_code 110 = .ok (.iload 8, 2) := by decide +kernel
theorem d_Mod_measure_112 : decode prog_8_method_24_code 112 = .ok (.bipush 8, 2) := by decide +kernel
theorem d_Mod_measure_114 : decode prog_8_method_24_code 114 = .ok (.iconst 2, 1) := by decide +kernel
theorem d_Mod_measure_115 : decode prog_8_method_24_code 115 = .ok (.iload 7, 2) := by decide +kernel
theorem d_Mod_measure_117 : decode prog_8_method_24_code 117 = .ok (.imul, 1) := by decide +kernel
theorem d_Mod_measure_118 : decode prog_8_method_24_code 118 = .ok (.isub, 1) := by decide +kernel
theorem d_Mod_measure_119 : decode prog_8_method_24_code 119 = .ok (.ishl, 1) := by decide +kernel
theorem d_Mod_measure_120 : decode prog_8_method_24_code 120 = .ok (.iload 7, 2) := by decide +kernel
theorem d_Mod_measure_122 : decode prog_8_method_24_code 122 = .ok (.invokestatic 64, 3) := by decide +kernel
theorem d_Mod_measure_125 : decode prog_8_method_24_code 125 = .ok (.iadd, 1) := by decide +kernel
theorem d_Mod_measure_126 : decode prog_8_method_24_code 126 = .ok (.iaload, 1) := by decide +kernel
theorem d_Mod_measure_127 : decode prog_8_method_24_code 127 = .ok (.aload_n 0, 1) := by decide +kernel
theorem d_Mod_measure_128 : decode prog_8_method_24_code 128 = .ok (.getfield 20, 3) := by decide +kernel
theorem d_Mod_measure_131 : decode prog_8_method_24_code 131 = .ok (.iload_n 1, 1) := by decide +kernel
theorem d_Mod_measure_132 : decode prog_8_method_24_code 132 = .ok (.iaload, 1) := by decide +kernel
theorem d_Mod_measure_133 : decode prog_8_method_24_code 133 = .ok (.if_icmp .ne 7, 3) := by decide +kernel
theorem d_Mod_measure_136 : decode prog_8_method_24_code 136 = .ok (.iconst 1, 1) := by decide +kernel
theorem d_Mod_measure_137 : decode prog_8_method_24_code 137 = .ok (.goto 4, 3) := by decide +kernel
theorem d_Mod_measure_140 : decode prog_8_method_24_code 140 = .ok (.iconst 0, 1) := by decide +kernel
theorem d_Mod_measure_141 : decode prog_8_method_24_code 141 = .ok (.iadd, 1) := by decide +kernel
theorem d_Mod_measure_142 : decode prog_8_method_24_code 142 = .ok (.istore 6, 2) := by decide +kernel
theorem d_Mod_measure_144 : decode prog_8_method_24_code 144 = .ok (.iinc 8 1, 3) := by decide +kernel
theorem d_Mod_measure_147 : decode prog_8_method_24_code 147 = .ok (.goto (-96), 3) := by decide +kernel
theorem d_Mod_measure_150 : decode prog_8_method_24_code 150 = .ok (.iinc 7 1, 3) := by decide +kernel
theorem d_Mod_measure_153 : decode prog_8_method_24_code 153 = .ok (.goto (-111), 3) := by decide +kernel
theorem d_Mod_measure_156 : decode prog_8_method_24_code 156 = .ok (.iload_n 2, 1) := by decide +kernel
theorem d_Mod_measure_157 : decode prog_8_method_24_code 157 = .ok (.iconst 3, 1) := by decide +kernel
theorem d_Mod_measure_158 : decode prog_8_method_24_code 158 = .ok (.if_icmp .ge 28, 3) := by decide +kernel
theorem d_Mod_measure_161 : decode prog_8_method_24_code 161 = .ok (.iload_n 2, 1) := by decide +kernel
theorem d_Mod_measure_162 : decode prog_8_method_24_code 162 = .ok (.ifCond .ne 12, 3) := by decide +kernel
theorem d_Mod_measure_165 : decode prog_8_method_24_code 165 = .ok (.aload_n 0, 1) := by decide +kernel
theorem d_Mod_measure_166 : decode prog_8_method_24_code 166 = .ok (.getfield 24, 3) := by decide +kernel
theorem d_Mod_measure_169 : decode prog_8_method_24_code 169 = .ok (.iload_n 1, 1) := by decide +kernel
theorem d_Mod_measure_170 : decode prog_8_method_24_code 170 = .ok (.iaload, 1) := by decide +kernel
theorem d_Mod_measure_171 : decode prog_8_method_24_code 171 = .ok (.goto 14, 3) := by decide +kernel
theorem d_Mod_measure_174 : decode prog_8_method_24_code 174 = .ok (.iload_n 2, 1) := by decide +kernel
theorem d_Mod_measure_175 : decode prog_8_method_24_code 175 = .ok (.iconst 1, 1) := by decide +kernel
theorem d_Mod_measure_176 : decode prog_8_method_24_code 176 = .ok (.if_icmp .ne 7, 3) := by decide +kernel
theorem d_Mod_measure_179 : decode prog_8_method_24_code 179 = .ok (.iload_n 3, 1) := by decide +kernel
theorem d_Mod_measure_180 : decode prog_8_method_24_code 180 = .ok (.goto 5, 3) := by decide +kernel
theorem d_Mod_measure_183 : decode prog_8_method_24_code 183 = .ok (.iload 4, 2) := by decide +kernel
theorem d_Mod_measure_185 : decode prog_8_method_24_code 185 = .ok (.ireturn, 1) := by decide +kernel
theorem d_Mod_measure_186 : decode prog_8_method_24_code 186 = .ok (.iload_n 2, 1) := by decide +kernel
theorem d_Mod_measure_187 : decode prog_8_method_24_code 187 = .ok (.iconst 3, 1) := by decide +kernel
theorem d_Mod_measure_188 : decode prog_8_method_24_code 188 = .ok (.if_icmp .ne 8, 3) := by decide +kernel
theorem d_Mod_measure_191 : decode prog_8_method_24_code 191 = .ok (.iload 5, 2) := by decide +kernel
theorem d_Mod_measure_193 : decode prog_8_method_24_code 193 = .ok (.goto 5, 3) := by decide +kernel
theorem d_Mod_measure_196 : decode prog_8_method_24_code 196 = .ok (.iload 6, 2) := by decide +kernel
theorem d_Mod_measure_198 : decode prog_8_method_24_code 198 = .ok (.ireturn, 1) := by decide +kernel
theorem d_Mod_common_0 : decode prog_8_method_25_code 0 = .ok (.aload_n 0, 1) := by decide +kernel
theorem d_Mod_common_1 : decode prog_8_method_25_code 1 = .ok (.iconst 0, 1) := by decide +kernel
theorem d_Mod_common_2 : decode prog_8_method_25_code 2 = .ok (.putfield 52, 3) := by decide +kernel
theorem d_Mod_common_5 : decode prog_8_method_25_code 5 = .ok (.aload_n 0, 1) := by decide +kernel
theorem d_Mod_common_6 : decode prog_8_method_25_code 6 = .ok (.iload_n 1, 1) := by decide +kernel
theorem d_Mod_common_7 : decode prog_8_method_25_code 7 = .ok (.invokevirtual 79, 3) := by decide +kernel
theorem d_Mod_common_10 : decode prog_8_method_25_code 10 = .ok (.ifCond .ne 11, 3) := by decide +kernel
theorem d_Mod_common_13 : decode prog_8_method_25_code 13 = .ok (.aload_n 0, 1) := by decide +kernel
theorem d_Mod_common_14 : decode prog_8_method_25_code 14 = .ok (.iload_n 2, 1) := by decide +kernel
theorem d_Mod_common_15 : decode prog_8_method_25_code 15 = .ok (.invokevirtual 79, 3) := by decide +kernel
theorem d_Mod_common_18 : decode prog_8_method_25_code 18 = .ok (.ifCond .eq 9, 3) := by decide +kernel
theorem d_Mod_common_21 : decode prog_8_method_25_code 21 = .ok (.aload_n 0, 1) := by decide +kernel
theorem d_Mod_common_22 : decode prog_8_method_25_code 22 = .ok (.iconst 1, 1) := by decide +kernel
theorem d_Mod_common_23 : decode prog_8_method_25_code 23 = .ok (.invokevirtual 83, 3) := by decide +kernel
theorem d_Mod_common_26 : decode prog_8_method_25_code 26 = .ok (.ireturn, 1) := by decide +kernel
theorem d_Mod_common_27 : decode prog_8_method_25_code 27 = .ok (.iconst 0, 1) := by decide +kernel
theorem d_Mod_common_28 : decode prog_8_method_25_code 28 = .ok (.istore_n 3, 1) := by decide +kernel
theorem d_Mod_common_29 : decode prog_8_method_25_code 29 = .ok (.iconst 0, 1) := by decide +kernel
theorem d_Mod_common_30 : decode prog_8_method_25_code 30 = .ok (.istore 4, 2) := by decide +kernel
theorem d_Mod_common_32 : decode prog_8_method_25_code 32 = .ok (.iload 4, 2) := by decide +kernel
theorem d_Mod_common_34 : decode prog_8_method_25_code 34 = .ok (.iconst 5, 1) := by decide +kernel
theorem d_Mod_common_35 : decode prog_8_method_25_code 35 = .ok (.if_icmp .ge 107, 3) := by decide +kernel
theorem d_Mod_common_38 : decode prog_8_method_25_code 38 = .ok (.iconst 0, 1) := by decide +kernel
theorem d_Mod_common_39 : decode prog_8_method_25_code 39 = .ok (.istore 5, 2) := by decide +kernel
theorem d_Mod_common_41 : decode prog_8_method_25_code 41 = .ok (.iload 5, 2) := by decide +kernel
theorem d_Mod_common_43 : decode prog_8_method_25_code 43 = .ok (.iconst 1, 1) := by decide +kernel
theorem d_Mod_common_44 : decode prog_8_method_25_code 44 = .ok (.iconst 2, 1) := by decide +kernel
theorem d_Mod_common_45 : decode prog_8_method_25_code 45 = .ok (.iload 4, 2) := by decide +kernel
theorem d_Mod_common_47 : decode prog_8_method_25_code 47 = .ok (.imul, 1) := by decide +kernel
theorem d_Mod_common_48 : decode prog_8_method_25_code 48 = .ok (.ishl, 1) := by decide +kernel
theorem d_Mod_common_49 : decode prog_8_method_25_code 49 = .ok (.if_icmp .ge 87, 3) := by decide +kernel
theorem d_Mod_common_52 : decode prog_8_method_25_code 52 = .ok (.iload 5, 2) := by decide +kernel
theorem d_Mod_common_54 : decode prog_8_method_25_code 54 = .ok (.bipush 8, 2) := by decide +kernel
theorem d_Mod_common_56 : decode prog_8_method_25_code 56 = .ok (.iconst 2, 1) := by decide +kernel
theorem d_Mod_common_57 : decode prog_8_method_25_code 57 = .ok (.iload 4, 2) := by decide +kernel
theorem d_Mod_common_59 : decode prog_8_method_25_code 59 = .ok (.imul, 1) := by decide +kernel
theorem d_Mod_common_60 : decode prog_8_method_25_code 60 = .ok (.isub, 1) := by decide +kernel
theorem d_Mod_common_61 : decode prog_8_method_25_code 61 = .ok (.ishl, 1) := by decide +kernel
theorem d_Mod_common_62 : decode prog_8_method_25_code 62 = .ok (.iload 4, 2) := by decide +kernel
theorem d_Mod_common_64 : decode prog_8_method_25_code 64 = .ok (.invokestatic 64, 3) := by decide +kernel
theorem d_Mod_common_67 : decode prog_8_method_25_code 67 = .ok (.istore 6, 2) := by decide +kernel
theorem d_Mod_common_69 : decode prog_8_method_25_code 69 = .ok (.iload_n 3, 1) := by decide +kernel
theorem d_Mod_common_70 : decode prog_8_method_25_code 70 = .ok (.aload_n 0, 1) := by decide +kernel
theorem d_Mod_common_71 : decode prog_8_method_25_code 71 = .ok (.iload_n 1, 1) := by decide +kernel
theorem d_Mod_common_72 : decode prog_8_method_25_code 72 = .ok (.iload 4, 2) := by decide +kernel
theorem d_Mod_common_74 : decode prog_8_method_25_code 74 = .ok (.iload 5, 2) := by decide +kernel
theorem d_Mod_common_76 : decode prog_8_method_25_code 76 = .ok (.invokevirtual 101, 3) := by decide +kernel
theorem d_Mod_common_79 : decode prog_8_method_25_code 79 = .ok (.ifCond .eq 48, 3) := by decide +kernel
theorem d_Mod_common_82 : decode prog_8_method_25_code 82 = .ok (.aload_n 0, 1) := by decide +kernel
theorem d_Mod_common_83 : decode prog_8_method_25_code 83 = .ok (.iload_n 2, 1) := by decide +kernel
theorem d_Mod_common_84 : decode prog_8_method_25_code 84 = .ok (.iload 4, 2) := by decide +kernel
theorem d_Mod_common_86 : decode prog_8_method_25_code 86 = .ok (.iload 5, 2) := by decide +kernel
theorem d_Mod_common_88 : decode prog_8_method_25_code 88 = .ok (.invokevirtual 101, 3) := by decide +kernel
theorem d_Mod_common_91 : decode prog_8_method_25_code 91 = .ok (.ifCond .eq 36, 3) := by decide +kernel
theorem d_Mod_common_94 : decode prog_8_method_25_code 94 = .ok (.aload_n 0, 1) := by decide +kernel
theorem d_Mod_common_95 : decode prog_8_method_25_code 95 = .ok (.getfield 34, 3) := by decide +kernel
theorem d_Mod_common_98 : decode prog_8_method_25_code 98 = .ok (.sipush 341, 3) := by decide +kernel
theorem d_Mod_common_101 : decode prog_8_method_25_code 101 = .ok (.iload_n 1, 1) := by decide +kernel
theorem d_Mod_common_102 : decode prog_8_method_25_code 102 = .ok (.imul, 1) := by decide +kernel
theorem d_Mod_common_103 : decode prog_8_method_25_code 103 = .ok (.iload 6, 2) := by decide +kernel
theorem d_Mod_common_105 : decode prog_8_method_25_code 105 = .ok (.iadd, 1) := by decide +kernel
theorem d_Mod_common_106 : decode prog_8_method_25_code 106 = .ok (.iaload, 1) := by decide +kernel
theorem d_Mod_common_107 : decode prog_8_method_25_code 107 = .ok (.aload_n 0, 1) := by decide +kernel
theorem d_Mod_common_108 : decode prog_8_method_25_code 108 = .ok (.getfield 34, 3) := by decide +kernel
theorem d_Mod_common_111 : decode prog_8_method_25_code 111 = .ok (.sipush 341, 3) := by decide +kernel
theorem d_Mod_common_114 : decode prog_8_method_25_code 114 = .ok (.iload_n 2, 1) := by decide +kernel
theorem d_Mod_common_115 : decode prog_8_method_25_code 115 = .ok (.imul, 1) := by decide +kernel
theorem d_Mod_common_116 : decode prog_8_method_25_code 116 = .ok (.iload 6, 2) := by decide +kernel
theorem d_Mod_common_118 : decode prog_8_method_25_code 118 = .ok (.iadd, 1) := by decide +kernel
theorem d_Mod_common_119 : decode prog_8_method_25_code 119 = .ok (.iaload, 1) := by decide +kernel
theorem d_Mod_common_120 : decode prog_8_method_25_code 120 = .ok (.if_icmp .ne 7, 3) := by decide +kernel
theorem d_Mod_common_123 : decode prog_8_method_25_code 123 = .ok (.iconst 1, 1) := by decide +kernel
theorem d_Mod_common_124 : decode prog_8_method_25_code 124 = .ok (.goto 4, 3) := by decide +kernel
theorem d_Mod_common_127 : decode prog_8_method_25_code 127 = .ok (.iconst 0, 1) := by decide +kernel
theorem d_Mod_common_128 : decode prog_8_method_25_code 128 = .ok (.iadd, 1) := by decide +kernel
theorem d_Mod_common_129 : decode prog_8_method_25_code 129 = .ok (.istore_n 3, 1) := by decide +kernel
theorem d_Mod_common_130 : decode prog_8_method_25_code 130 = .ok (.iinc 5 1, 3) := by decide +kernel
theorem d_Mod_common_133 : decode prog_8_method_25_code 133 = .ok (.goto (-92), 3) := by decide +kernel
theorem d_Mod_common_136 : decode prog_8_method_25_code 136 = .ok (.iinc 4 1, 3) := by decide +kernel
theorem d_Mod_common_139 : decode prog_8_method_25_code 139 = .ok (.goto (-107), 3) := by decide +kernel
theorem d_Mod_common_142 : decode prog_8_method_25_code 142 = .ok (.iload_n 3, 1) := by decide +kernel
theorem d_Mod_common_143 : decode prog_8_method_25_code 143 = .ok (.ireturn, 1) := by decide +kernel
theorem d_Mod_generation_0 : decode prog_8_method_26_code 0 = .ok (.aload_n 0, 1) := by decide +kernel
theorem d_Mod_generation_1 : decode prog_8_method_26_code 1 = .ok (.iconst 0, 1) := by decide +kernel
theorem d_Mod_generation_2 : decode prog_8_method_26_code 2 = .ok (.putfield 52, 3) := by decide +kernel
theorem d_Mod_generation_5 : decode prog_8_method_26_code 5 = .ok (.aload_n 0, 1) := by decide +kernel
theorem d_Mod_generation_6 : decode prog_8_method_26_code 6 = .ok (.iload_n 1, 1) := by decide +kernel
theorem d_Mod_generation_7 : decode prog_8_method_26_code 7 = .ok (.invokevirtual 79, 3) := by decide +kernel
theorem d_Mod_generation_10 : decode prog_8_method_26_code 10 = .ok (.ifCond .eq 11, 3) := by decide +kernel
theorem d_Mod_generation_13 : decode prog_8_method_26_code 13 = .ok (.aload_n 0, 1) := by decide +kernel
theorem d_Mod_generation_14 : decode prog_8_method_26_code 14 = .ok (.iconst 1, 1) := by decide +kernel
theorem d_Mod_generation_15 : decode prog_8_method_26_code 15 = .ok (.invokevirtual 83, 3) := by decide +kernel
theorem d_Mod_generation_18 : decode prog_8_method_26_code 18 = .ok (.goto 9, 3) := by decide +kernel
theorem d_Mod_generation_21 : decode prog_8_method_26_code 21 = .ok (.aload_n 0, 1) := by decide +kernel
theorem d_Mod_generation_22 : decode prog_8_method_26_code 22 = .ok (.getfield 20, 3) := by decide +kernel
theorem d_Mod_generation_25 : decode prog_8_method_26_code 25 = .ok (.iload_n 1, 1) := by decide +kernel
theorem d_Mod_generation_26 : decode prog_8_method_26_code 26 = .ok (.iaload, 1) := by decide +kernel
theorem d_Mod_generation_27 : decode prog_8_method_26_code 27 = .ok (.ireturn, 1) := by decide +kernel
end
section
theorem d_Law_put_0 : decode method_3_code 0 = .ok (.aload 5, 2) := by decide +kernel
theorem d_Law_put_2 : decode method_3_code 2 = .ok (.iconst 0, 1) := by decide +kernel
theorem d_Law_put_3 : decode method_3_code 3 = .ok (.aload_n 0, 1) := by decide +kernel
theorem d_Law_put_4 : decode method_3_code 4 = .ok (.iload_n 1, 1) := by decide +kernel
theorem d_Law_put_5 : decode method_3_code 5 = .ok (.iload_n 2, 1) := by decide +kernel
theorem d_Law_put_6 : decode method_3_code 6 = .ok (.lload_n 3, 1) := by decide +kernel
theorem d_Law_put_7 : decode method_3_code 7 = .ok (.invokevirtual 7, 3) := by decide +kernel
theorem d_Law_put_10 : decode method_3_code 10 = .ok (.ifCond .eq 7, 3) := by decide +kernel
theorem d_Law_put_13 : decode method_3_code 13 = .ok (.lconst 1, 1) := by decide +kernel
theorem d_Law_put_14 : decode method_3_code 14 = .ok (.goto 4, 3) := by decide +kernel
theorem d_Law_put_17 : decode method_3_code 17 = .ok (.lconst 0, 1) := by decide +kernel
theorem d_Law_put_18 : decode method_3_code 18 = .ok (.lastore, 1) := by decide +kernel
theorem d_Law_put_19 : decode method_3_code 19 = .ok (.goto 15, 3) := by decide +kernel
theorem d_Law_put_22 : decode method_3_code 22 = .ok (.astore 6, 2) := by decide +kernel
theorem d_Law_put_24 : decode method_3_code 24 = .ok (.iconst 1, 1) := by decide +kernel
theorem d_Law_put_25 : decode method_3_code 25 = .ok (.ireturn, 1) := by decide +kernel
theorem d_Law_put_26 : decode method_3_code 26 = .ok (.astore 6, 2) := by decide +kernel
theorem d_Law_put_28 : decode method_3_code 28 = .ok (.iconst 2, 1) := by decide +kernel
theorem d_Law_put_29 : decode method_3_code 29 = .ok (.ireturn, 1) := by decide +kernel
theorem d_Law_put_30 : decode method_3_code 30 = .ok (.astore 6, 2) := by decide +kernel
theorem d_Law_put_32 : decode method_3_code 32 = .ok (.iconst 3, 1) := by decide +kernel
theorem d_Law_put_33 : decode method_3_code 33 = .ok (.ireturn, 1) := by decide +kernel
theorem d_Law_put_34 : decode method_3_code 34 = .ok (.iconst 0, 1) := by decide +kernel
theorem d_Law_put_35 : decode method_3_code 35 = .ok (.ireturn, 1) := by decide +kernel
theorem d_Law_get_0 : decode method_4_code 0 = .ok (.aload_n 3, 1) := by decide +kernel
theorem d_Law_get_1 : decode method_4_code 1 = .ok (.iconst 0, 1) := by decide +kernel
theorem d_Law_get_2 : decode method_4_code 2 = .ok (.aload_n 0, 1) := by decide +kernel
theorem d_Law_get_3 : decode method_4_code 3 = .ok (.iload_n 1, 1) := by decide +kernel
theorem d_Law_get_4 : decode method_4_code 4 = .ok (.iload_n 2, 1) := by decide +kernel
theorem d_Law_get_5 : decode method_4_code 5 = .ok (.invokevirtual 19, 3) := by decide +kernel
theorem d_Law_get_8 : decode method_4_code 8 = .ok (.lastore, 1) := by decide +kernel
theorem d_Law_get_9 : decode method_4_code 9 = .ok (.goto 11, 3) := by decide +kernel
theorem d_Law_get_12 : decode method_4_code 12 = .ok (.astore 4, 2) := by decide +kernel
theorem d_Law_get_14 : decode method_4_code 14 = .ok (.iconst 1, 1) := by decide +kernel
theorem d_Law_get_15 : decode method_4_code 15 = .ok (.ireturn, 1) := by decide +kernel
theorem d_Law_get_16 : decode method_4_code 16 = .ok (.astore 4, 2) := by decide +kernel
theorem d_Law_get_18 : decode method_4_code 18 = .ok (.iconst 2, 1) := by decide +kernel
theorem d_Law_get_19 : decode method_4_code 19 = .ok (.ireturn, 1) := by decide +kernel
theorem d_Law_get_20 : decode method_4_code 20 = .ok (.iconst 0, 1) := by decide +kernel
theorem d_Law_get_21 : decode method_4_code 21 = .ok (.ireturn, 1) := by decide +kernel
theorem d_Law_remove_0 : decode method_5_code 0 = .ok (.aload_n 3, 1) := by decide +kernel
theorem d_Law_remove_1 : decode method_5_code 1 = .ok (.iconst 0, 1) := by decide +kernel
theorem d_Law_remove_2 : decode method_5_code 2 = .ok (.aload_n 0, 1) := by decide +kernel
theorem d_Law_remove_3 : decode method_5_code 3 = .ok (.iload_n 1, 1) := by decide +kernel
theorem d_Law_remove_4 : decode method_5_code 4 = .ok (.iload_n 2, 1) := by decide +kernel
theorem d_Law_remove_5 : decode method_5_code 5 = .ok (.invokevirtual 25, 3) := by decide +kernel
theorem d_Law_remove_8 : decode method_5_code 8 = .ok (.lastore, 1) := by decide +kernel
theorem d_Law_remove_9 : decode method_5_code 9 = .ok (.goto 15, 3) := by decide +kernel
theorem d_Law_remove_12 : decode method_5_code 12 = .ok (.astore 4, 2) := by decide +kernel
theorem d_Law_remove_14 : decode method_5_code 14 = .ok (.iconst 1, 1) := by decide +kernel
theorem d_Law_remove_15 : decode method_5_code 15 = .ok (.ireturn, 1) := by decide +kernel
theorem d_Law_remove_16 : decode method_5_code 16 = .ok (.astore 4, 2) := by decide +kernel
theorem d_Law_remove_18 : decode method_5_code 18 = .ok (.iconst 2, 1) := by decide +kernel
theorem d_Law_remove_19 : decode method_5_code 19 = .ok (.ireturn, 1) := by decide +kernel
theorem d_Law_remove_20 : decode method_5_code 20 = .ok (.astore 4, 2) := by decide +kernel
theorem d_Law_remove_22 : decode method_5_code 22 = .ok (.iconst 3, 1) := by decide +kernel
theorem d_Law_remove_23 : decode method_5_code 23 = .ok (.ireturn, 1) := by decide +kernel
theorem d_Law_remove_24 : decode method_5_code 24 = .ok (.iconst 0, 1) := by decide +kernel
theorem d_Law_remove_25 : decode method_5_code 25 = .ok (.ireturn, 1) := by decide +kernel
theorem d_Law_replace_0 : decode method_6_code 0 = .ok (.aload 7, 2) := by decide +kernel
theorem d_Law_replace_2 : decode method_6_code 2 = .ok (.iconst 0, 1) := by decide +kernel
theorem d_Law_replace_3 : decode method_6_code 3 = .ok (.aload_n 0, 1) := by decide +kernel
theorem d_Law_replace_4 : decode method_6_code 4 = .ok (.iload_n 1, 1) := by decide +kernel
theorem d_Law_replace_5 : decode method_6_code 5 = .ok (.iload_n 2, 1) := by decide +kernel
theorem d_Law_replace_6 : decode method_6_code 6 = .ok (.lload_n 3, 1) := by decide +kernel
theorem d_Law_replace_7 : decode method_6_code 7 = .ok (.lload 5, 2) := by decide +kernel
theorem d_Law_replace_9 : decode method_6_code 9 = .ok (.invokevirtual 28, 3) := by decide +kernel
theorem d_Law_replace_12 : decode method_6_code 12 = .ok (.ifCond .eq 7, 3) := by decide +kernel
theorem d_Law_replace_15 : decode method_6_code 15 = .ok (.lconst 1, 1) := by decide +kernel
theorem d_Law_replace_16 : decode method_6_code 16 = .ok (.goto 4, 3) := by decide +kernel
theorem d_Law_replace_19 : decode method_6_code 19 = .ok (.lconst 0, 1) := by decide +kernel
theorem d_Law_replace_20 : decode method_6_code 20 = .ok (.lastore, 1) := by decide +kernel
theorem d_Law_replace_21 : decode method_6_code 21 = .ok (.goto 11, 3) := by decide +kernel
theorem d_Law_replace_24 : decode method_6_code 24 = .ok (.astore 8, 2) := by decide +kernel
theorem d_Law_replace_26 : decode method_6_code 26 = .ok (.iconst 1, 1) := by decide +kernel
theorem d_Law_replace_27 : decode method_6_code 27 = .ok (.ireturn, 1) := by decide +kernel
theorem d_Law_replace_28 : decode method_6_code 28 = .ok (.astore 8, 2) := by decide +kernel
theorem d_Law_replace_30 : decode method_6_code 30 = .ok (.iconst 2, 1) := by decide +kernel
theorem d_Law_replace_31 : decode method_6_code 31 = .ok (.ireturn, 1) := by decide +kernel
theorem d_Law_replace_32 : decode method_6_code 32 = .ok (.iconst 0, 1) := by decide +kernel
theorem d_Law_replace_33 : decode method_6_code 33 = .ok (.ireturn, 1) := by decide +kernel
theorem d_Law_snapshot_0 : decode method_7_code 0 = .ok (.aload_n 3, 1) := by decide +kernel
theorem d_Law_snapshot_1 : decode method_7_code 1 = .ok (.iconst 0, 1) := by decide +kernel
theorem d_Law_snapshot_2 : decode method_7_code 2 = .ok (.aload_n 0, 1) := by decide +kernel
theorem d_Law_snapshot_3 : decode method_7_code 3 = .ok (.iload_n 1, 1) := by decide +kernel
theorem d_Law_snapshot_4 : decode method_7_code 4 = .ok (.iload_n 2, 1) := by decide +kernel
theorem d_Law_snapshot_5 : decode method_7_code 5 = .ok (.invokevirtual 32, 3) := by decide +kernel
theorem d_Law_snapshot_8 : decode method_7_code 8 = .ok (.i2l, 1) := by decide +kernel
theorem d_Law_snapshot_9 : decode method_7_code 9 = .ok (.lastore, 1) := by decide +kernel
theorem d_Law_snapshot_10 : decode method_7_code 10 = .ok (.goto 11, 3) := by decide +kernel
theorem d_Law_snapshot_13 : decode method_7_code 13 = .ok (.astore 4, 2) := by decide +kernel
theorem d_Law_snapshot_15 : decode method_7_code 15 = .ok (.iconst 1, 1) := by decide +kernel
theorem d_Law_snapshot_16 : decode method_7_code 16 = .ok (.ireturn, 1) := by decide +kernel
theorem d_Law_snapshot_17 : decode method_7_code 17 = .ok (.astore 4, 2) := by decide +kernel
theorem d_Law_snapshot_19 : decode method_7_code 19 = .ok (.iconst 2, 1) := by decide +kernel
theorem d_Law_snapshot_20 : decode method_7_code 20 = .ok (.ireturn, 1) := by decide +kernel
theorem d_Law_snapshot_21 : decode method_7_code 21 = .ok (.iconst 0, 1) := by decide +kernel
theorem d_Law_snapshot_22 : decode method_7_code 22 = .ok (.ireturn, 1) := by decide +kernel
theorem d_Law_drop_0 : decode method_8_code 0 = .ok (.aload_n 2, 1) := by decide +kernel
theorem d_Law_drop_1 : decode method_8_code 1 = .ok (.iconst 0, 1) := by decide +kernel
theorem d_Law_drop_2 : decode method_8_code 2 = .ok (.aload_n 0, 1) := by decide +kernel
theorem d_Law_drop_3 : decode method_8_code 3 = .ok (.iload_n 1, 1) := by decide +kernel
theorem d_Law_drop_4 : decode method_8_code 4 = .ok (.invokevirtual 36, 3) := by decide +kernel
theorem d_Law_drop_7 : decode method_8_code 7 = .ok (.i2l, 1) := by decide +kernel
theorem d_Law_drop_8 : decode method_8_code 8 = .ok (.lastore, 1) := by decide +kernel
theorem d_Law_drop_9 : decode method_8_code 9 = .ok (.goto 9, 3) := by decide +kernel
theorem d_Law_drop_12 : decode method_8_code 12 = .ok (.astore_n 3, 1) := by decide +kernel
theorem d_Law_drop_13 : decode method_8_code 13 = .ok (.iconst 1, 1) := by decide +kernel
theorem d_Law_drop_14 : decode method_8_code 14 = .ok (.ireturn, 1) := by decide +kernel
theorem d_Law_drop_15 : decode method_8_code 15 = .ok (.astore_n 3, 1) := by decide +kernel
theorem d_Law_drop_16 : decode method_8_code 16 = .ok (.iconst 2, 1) := by decide +kernel
theorem d_Law_drop_17 : decode method_8_code 17 = .ok (.ireturn, 1) := by decide +kernel
theorem d_Law_drop_18 : decode method_8_code 18 = .ok (.iconst 0, 1) := by decide +kernel
theorem d_Law_drop_19 : decode method_8_code 19 = .ok (.ireturn, 1) := by decide +kernel
theorem d_Law_iterate_0 : decode method_9_code 0 = .ok (.aload_n 2, 1) := by decide +kernel
theorem d_Law_iterate_1 : decode method_9_code 1 = .ok (.iconst 0, 1) := by decide +kernel
theorem d_Law_iterate_2 : decode method_9_code 2 = .ok (.aload_n 0, 1) := by decide +kernel
theorem d_Law_iterate_3 : decode method_9_code 3 = .ok (.iload_n 1, 1) := by decide +kernel
theorem d_Law_iterate_4 : decode method_9_code 4 = .ok (.invokevirtual 40, 3) := by decide +kernel
theorem d_Law_iterate_7 : decode method_9_code 7 = .ok (.i2l, 1) := by decide +kernel
theorem d_Law_iterate_8 : decode method_9_code 8 = .ok (.lastore, 1) := by decide +kernel
theorem d_Law_iterate_9 : decode method_9_code 9 = .ok (.goto 9, 3) := by decide +kernel
theorem d_Law_iterate_12 : decode method_9_code 12 = .ok (.astore_n 3, 1) := by decide +kernel
theorem d_Law_iterate_13 : decode method_9_code 13 = .ok (.iconst 1, 1) := by decide +kernel
theorem d_Law_iterate_14 : decode method_9_code 14 = .ok (.ireturn, 1) := by decide +kernel
theorem d_Law_iterate_15 : decode method_9_code 15 = .ok (.astore_n 3, 1) := by decide +kernel
theorem d_Law_iterate_16 : decode method_9_code 16 = .ok (.iconst 2, 1) := by decide +kernel
theorem d_Law_iterate_17 : decode method_9_code 17 = .ok (.ireturn, 1) := by decide +kernel
theorem d_Law_iterate_18 : decode method_9_code 18 = .ok (.iconst 0, 1) := by decide +kernel
theorem d_Law_iterate_19 : decode method_9_code 19 = .ok (.ireturn, 1) := by decide +kernel
theorem d_Law_next_0 : decode method_10_code 0 = .ok (.aload_n 2, 1) := by decide +kernel
theorem d_Law_next_1 : decode method_10_code 1 = .ok (.iconst 0, 1) := by decide +kernel
theorem d_Law_next_2 : decode method_10_code 2 = .ok (.aload_n 0, 1) := by decide +kernel
theorem d_Law_next_3 : decode method_10_code 3 = .ok (.iload_n 1, 1) := by decide +kernel
theorem d_Law_next_4 : decode method_10_code 4 = .ok (.invokevirtual 43, 3) := by decide +kernel
theorem d_Law_next_7 : decode method_10_code 7 = .ok (.i2l, 1) := by decide +kernel
theorem d_Law_next_8 : decode method_10_code 8 = .ok (.lastore, 1) := by decide +kernel
theorem d_Law_next_9 : decode method_10_code 9 = .ok (.goto 9, 3) := by decide +kernel
theorem d_Law_next_12 : decode method_10_code 12 = .ok (.astore_n 3, 1) := by decide +kernel
theorem d_Law_next_13 : decode method_10_code 13 = .ok (.iconst 1, 1) := by decide +kernel
theorem d_Law_next_14 : decode method_10_code 14 = .ok (.ireturn, 1) := by decide +kernel
theorem d_Law_next_15 : decode method_10_code 15 = .ok (.astore_n 3, 1) := by decide +kernel
theorem d_Law_next_16 : decode method_10_code 16 = .ok (.iconst 2, 1) := by decide +kernel
theorem d_Law_next_17 : decode method_10_code 17 = .ok (.ireturn, 1) := by decide +kernel
theorem d_Law_next_18 : decode method_10_code 18 = .ok (.iconst 0, 1) := by decide +kernel
theorem d_Law_next_19 : decode method_10_code 19 = .ok (.ireturn, 1) := by decide +kernel
theorem d_Law_measure_0 : decode method_11_code 0 = .ok (.aload_n 3, 1) := by decide +kernel
theorem d_Law_measure_1 : decode method_11_code 1 = .ok (.iconst 0, 1) := by decide +kernel
theorem d_Law_measure_2 : decode method_11_code 2 = .ok (.aload_n 0, 1) := by decide +kernel
theorem d_Law_measure_3 : decode method_11_code 3 = .ok (.iload_n 1, 1) := by decide +kernel
theorem d_Law_measure_4 : decode method_11_code 4 = .ok (.iload_n 2, 1) := by decide +kernel
theorem d_Law_measure_5 : decode method_11_code 5 = .ok (.invokevirtual 46, 3) := by decide +kernel
theorem d_Law_measure_8 : decode method_11_code 8 = .ok (.i2l, 1) := by decide +kernel
theorem d_Law_measure_9 : decode method_11_code 9 = .ok (.lastore, 1) := by decide +kernel
theorem d_Law_measure_10 : decode method_11_code 10 = .ok (.goto 7, 3) := by decide +kernel
theorem d_Law_measure_13 : decode method_11_code 13 = .ok (.astore 4, 2) := by decide +kernel
theorem d_Law_measure_15 : decode method_11_code 15 = .ok (.iconst 1, 1) := by decide +kernel
theorem d_Law_measure_16 : decode method_11_code 16 = .ok (.ireturn, 1) := by decide +kernel
theorem d_Law_measure_17 : decode method_11_code 17 = .ok (.iconst 0, 1) := by decide +kernel
theorem d_Law_measure_18 : decode method_11_code 18 = .ok (.ireturn, 1) := by decide +kernel
theorem d_Law_common_0 : decode method_12_code 0 = .ok (.aload_n 3, 1) := by decide +kernel
theorem d_Law_common_1 : decode method_12_code 1 = .ok (.iconst 0, 1) := by decide +kernel
theorem d_Law_common_2 : decode method_12_code 2 = .ok (.aload_n 0, 1) := by decide +kernel
theorem d_Law_common_3 : decode method_12_code 3 = .ok (.iload_n 1, 1) := by decide +kernel
theorem d_Law_common_4 : decode method_12_code 4 = .ok (.iload_n 2, 1) := by decide +kernel
theorem d_Law_common_5 : decode method_12_code 5 = .ok (.invokevirtual 50, 3) := by decide +kernel
theorem d_Law_common_8 : decode method_12_code 8 = .ok (.i2l, 1) := by decide +kernel
theorem d_Law_common_9 : decode method_12_code 9 = .ok (.lastore, 1) := by decide +kernel
theorem d_Law_common_10 : decode method_12_code 10 = .ok (.goto 7, 3) := by decide +kernel
theorem d_Law_common_13 : decode method_12_code 13 = .ok (.astore 4, 2) := by decide +kernel
theorem d_Law_common_15 : decode method_12_code 15 = .ok (.iconst 1, 1) := by decide +kernel
theorem d_Law_common_16 : decode method_12_code 16 = .ok (.ireturn, 1) := by decide +kernel
theorem d_Law_common_17 : decode method_12_code 17 = .ok (.iconst 0, 1) := by decide +kernel
theorem d_Law_common_18 : decode method_12_code 18 = .ok (.ireturn, 1) := by decide +kernel
theorem d_Law_generation_0 : decode method_13_code 0 = .ok (.aload_n 2, 1) := by decide +kernel
theorem d_Law_generation_1 : decode method_13_code 1 = .ok (.iconst 0, 1) := by decide +kernel
theorem d_Law_generation_2 : decode method_13_code 2 = .ok (.aload_n 0, 1) := by decide +kernel
theorem d_Law_generation_3 : decode method_13_code 3 = .ok (.iload_n 1, 1) := by decide +kernel
theorem d_Law_generation_4 : decode method_13_code 4 = .ok (.invokevirtual 53, 3) := by decide +kernel
theorem d_Law_generation_7 : decode method_13_code 7 = .ok (.i2l, 1) := by decide +kernel
theorem d_Law_generation_8 : decode method_13_code 8 = .ok (.lastore, 1) := by decide +kernel
theorem d_Law_generation_9 : decode method_13_code 9 = .ok (.goto 6, 3) := by decide +kernel
theorem d_Law_generation_12 : decode method_13_code 12 = .ok (.astore_n 3, 1) := by decide +kernel
theorem d_Law_generation_13 : decode method_13_code 13 = .ok (.iconst 1, 1) := by decide +kernel
theorem d_Law_generation_14 : decode method_13_code 14 = .ok (.ireturn, 1) := by decide +kernel
theorem d_Law_generation_15 : decode method_13_code 15 = .ok (.iconst 0, 1) := by decide +kernel
theorem d_Law_generation_16 : decode method_13_code 16 = .ok (.ireturn, 1) := by decide +kernel
end
section
theorem d_Law_law_0 : decode code 0 = .ok (.new 8, 3) := by decide +kernel
theorem d_Law_law_3 : decode code 3 = .ok (.dup, 1) := by decide +kernel
theorem d_Law_law_4 : decode code 4 = .ok (.invokespecial 56, 3) := by decide +kernel
theorem d_Law_law_7 : decode code 7 = .ok (.astore_n 1, 1) := by decide +kernel
theorem d_Law_law_8 : decode code 8 = .ok (.new 57, 3) := by decide +kernel
theorem d_Law_law_11 : decode code 11 = .ok (.dup, 1) := by decide +kernel
theorem d_Law_law_12 : decode code 12 = .ok (.invokespecial 59, 3) := by decide +kernel
theorem d_Law_law_15 : decode code 15 = .ok (.astore_n 2, 1) := by decide +kernel
theorem d_Law_law_16 : decode code 16 = .ok (.iconst 1, 1) := by decide +kernel
theorem d_Law_law_17 : decode code 17 = .ok (.newarray .long, 2) := by decide +kernel
theorem d_Law_law_19 : decode code 19 = .ok (.astore_n 3, 1) := by decide +kernel
theorem d_Law_law_20 : decode code 20 = .ok (.iconst 0, 1) := by decide +kernel
theorem d_Law_law_21 : decode code 21 = .ok (.istore 4, 2) := by decide +kernel
theorem d_Law_law_23 : decode code 23 = .ok (.iload 4, 2) := by decide +kernel
theorem d_Law_law_25 : decode code 25 = .ok (.aload_n 0, 1) := by decide +kernel
theorem d_Law_law_26 : decode code 26 = .ok (.arraylength, 1) := by decide +kernel
theorem d_Law_law_27 : decode code 27 = .ok (.bipush 7, 2) := by decide +kernel
theorem d_Law_law_29 : decode code 29 = .ok (.isub, 1) := by decide +kernel
theorem d_Law_law_30 : decode code 30 = .ok (.if_icmp .gt 973, 3) := by decide +kernel
theorem d_Law_law_33 : decode code 33 = .ok (.aload_n 0, 1) := by decide +kernel
theorem d_Law_law_34 : decode code 34 = .ok (.iload 4, 2) := by decide +kernel
theorem d_Law_law_36 : decode code 36 = .ok (.iaload, 1) := by decide +kernel
theorem d_Law_law_37 : decode code 37 = .ok (.bipush 15, 2) := by decide +kernel
theorem d_Law_law_39 : decode code 39 = .ok (.iand, 1) := by decide +kernel
theorem d_Law_law_40 : decode code 40 = .ok (.tableswitch 957 0 12 #[68, 187, 254, 321, 486, 570, 626, 682, 738, 752, 765, 833, 901], 68) := by decide +kernel
theorem d_Law_law_108 : decode code 108 = .ok (.aload_n 1, 1) := by decide +kernel
theorem d_Law_law_109 : decode code 109 = .ok (.aload_n 0, 1) := by decide +kernel
theorem d_Law_law_110 : decode code 110 = .ok (.iload 4, 2) := by decide +kernel
theorem d_Law_law_112 : decode code 112 = .ok (.iconst 1, 1) := by decide +kernel
theorem d_Law_law_113 : decode code 113 = .ok (.iadd, 1) := by decide +kernel
theorem d_Law_law_114 : decode code 114 = .ok (.iaload, 1) := by decide +kernel
theorem d_Law_law_115 : decode code 115 = .ok (.aload_n 0, 1) := by decide +kernel
theorem d_Law_law_116 : decode code 116 = .ok (.iload 4, 2) := by decide +kernel
theorem d_Law_law_118 : decode code 118 = .ok (.iconst 2, 1) := by decide +kernel
theorem d_Law_law_119 : decode code 119 = .ok (.iadd, 1) := by decide +kernel
theorem d_Law_law_120 : decode code 120 = .ok (.iaload, 1) := by decide +kernel
theorem d_Law_law_121 : decode code 121 = .ok (.aload_n 0, 1) := by decide +kernel
theorem d_Law_law_122 : decode code 122 = .ok (.iload 4, 2) := by decide +kernel
theorem d_Law_law_124 : decode code 124 = .ok (.iconst 3, 1) := by decide +kernel
theorem d_Law_law_125 : decode code 125 = .ok (.iadd, 1) := by decide +kernel
theorem d_Law_law_126 : decode code 126 = .ok (.iaload, 1) := by decide +kernel
theorem d_Law_law_127 : decode code 127 = .ok (.i2l, 1) := by decide +kernel
theorem d_Law_law_128 : decode code 128 = .ok (.bipush 32, 2) := by decide +kernel
theorem d_Law_law_130 : decode code 130 = .ok (.lshl, 1) := by decide +kernel
theorem d_Law_law_131 : decode code 131 = .ok (.aload_n 0, 1) := by decide +kernel
theorem d_Law_law_132 : decode code 132 = .ok (.iload 4, 2) := by decide +kernel
theorem d_Law_law_134 : decode code 134 = .ok (.iconst 4, 1) := by decide +kernel
theorem d_Law_law_135 : decode code 135 = .ok (.iadd, 1) := by decide +kernel
theorem d_Law_law_136 : decode code 136 = .ok (.iaload, 1) := by decide +kernel
theorem d_Law_law_137 : decode code 137 = .ok (.i2l, 1) := by decide +kernel
theorem d_Law_law_138 : decode code 138 = .ok (.ldc2_w 60, 3) := by decide +kernel
theorem d_Law_law_141 : decode code 141 = .ok (.land, 1) := by decide +kernel
theorem d_Law_law_142 : decode code 142 = .ok (.lor, 1) := by decide +kernel
theorem d_Law_law_143 : decode code 143 = .ok (.aload_n 3, 1) := by decide +kernel
theorem d_Law_law_144 : decode code 144 = .ok (.invokestatic 62, 3) := by decide +kernel
theorem d_Law_law_147 : decode code 147 = .ok (.istore 5, 2) := by decide +kernel
theorem d_Law_law_149 : decode code 149 = .ok (.aload_n 2, 1) := by decide +kernel
theorem d_Law_law_150 : decode code 150 = .ok (.aload_n 0, 1) := by decide +kernel
theorem d_Law_law_151 : decode code 151 = .ok (.iload 4, 2) := by decide +kernel
theorem d_Law_law_153 : decode code 153 = .ok (.iconst 1, 1) := by decide +kernel
theorem d_Law_law_154 : decode code 154 = .ok (.iadd, 1) := by decide +kernel
theorem d_Law_law_155 : decode code 155 = .ok (.iaload, 1) := by decide +kernel
theorem d_Law_law_156 : decode code 156 = .ok (.aload_n 0, 1) := by decide +kernel
theorem d_Law_law_157 : decode code 157 = .ok (.iload 4, 2) := by decide +kernel
theorem d_Law_law_159 : decode code 159 = .ok (.iconst 2, 1) := by decide +kernel
theorem d_Law_law_160 : decode code 160 = .ok (.iadd, 1) := by decide +kernel
theorem d_Law_law_161 : decode code 161 = .ok (.iaload, 1) := by decide +kernel
theorem d_Law_law_162 : decode code 162 = .ok (.aload_n 0, 1) := by decide +kernel
theorem d_Law_law_163 : decode code 163 = .ok (.iload 4, 2) := by decide +kernel
theorem d_Law_law_165 : decode code 165 = .ok (.iconst 3, 1) := by decide +kernel
theorem d_Law_law_166 : decode code 166 = .ok (.iadd, 1) := by decide +kernel
theorem d_Law_law_167 : decode code 167 = .ok (.iaload, 1) := by decide +kernel
theorem d_Law_law_168 : decode code 168 = .ok (.i2l, 1) := by decide +kernel
theorem d_Law_law_169 : decode code 169 = .ok (.bipush 32, 2) := by decide +kernel
theorem d_Law_law_171 : decode code 171 = .ok (.lshl, 1) := by decide +kernel
theorem d_Law_law_172 : decode code 172 = .ok (.aload_n 0, 1) := by decide +kernel
theorem d_Law_law_173 : decode code 173 = .ok (.iload 4, 2) := by decide +kernel
theorem d_Law_law_175 : decode code 175 = .ok (.iconst 4, 1) := by decide +kernel
theorem d_Law_law_176 : decode code 176 = .ok (.iadd, 1) := by decide +kernel
theorem d_Law_law_177 : decode code 177 = .ok (.iaload, 1) := by decide +kernel
theorem d_Law_law_178 : decode code 178 = .ok (.i2l, 1) := by decide +kernel
theorem d_Law_law_179 : decode code 179 = .ok (.ldc2_w 60, 3) := by decide +kernel
theorem d_Law_law_182 : decode code 182 = .ok (.land, 1) := by decide +kernel
theorem d_Law_law_183 : decode code 183 = .ok (.lor, 1) := by decide +kernel
theorem d_Law_law_184 : decode code 184 = .ok (.invokevirtual 67, 3) := by decide +kernel
theorem d_Law_law_187 : decode code 187 = .ok (.istore 6, 2) := by decide +kernel
theorem d_Law_law_189 : decode code 189 = .ok (.aload_n 2, 1) := by decide +kernel
theorem d_Law_law_190 : decode code 190 = .ok (.invokevirtual 68, 3) := by decide +kernel
theorem d_Law_law_193 : decode code 193 = .ok (.iload 5, 2) := by decide +kernel
theorem d_Law_law_195 : decode code 195 = .ok (.if_icmp .eq 5, 3) := by decide +kernel
theorem d_Law_law_198 : decode code 198 = .ok (.iconst 0, 1) := by decide +kernel
theorem d_Law_law_199 : decode code 199 = .ok (.ireturn, 1) := by decide +kernel
theorem d_Law_law_200 : decode code 200 = .ok (.iload 5, 2) := by decide +kernel
theorem d_Law_law_202 : decode code 202 = .ok (.ifCond .ne 22, 3) := by decide +kernel
theorem d_Law_law_205 : decode code 205 = .ok (.aload_n 3, 1) := by decide +kernel
theorem d_Law_law_206 : decode code 206 = .ok (.iconst 0, 1) := by decide +kernel
theorem d_Law_law_207 : decode code 207 = .ok (.laload, 1) := by decide +kernel
theorem d_Law_law_208 : decode code 208 = .ok (.iload 6, 2) := by decide +kernel
theorem d_Law_law_210 : decode code 210 = .ok (.ifCond .eq 7, 3) := by decide +kernel
theorem d_Law_law_213 : decode code 213 = .ok (.lconst 1, 1) := by decide +kernel
theorem d_Law_law_214 : decode code 214 = .ok (.goto 4, 3) := by decide +kernel
theorem d_Law_law_217 : decode code 217 = .ok (.lconst 0, 1) := by decide +kernel
theorem d_Law_law_218 : decode code 218 = .ok (.lcmp, 1) := by decide +kernel
theorem d_Law_law_219 : decode code 219 = .ok (.ifCond .eq 5, 3) := by decide +kernel
theorem d_Law_law_222 : decode code 222 = .ok (.iconst 0, 1) := by decide +kernel
theorem d_Law_law_223 : decode code 223 = .ok (.ireturn, 1) := by decide +kernel
theorem d_Law_law_224 : decode code 224 = .ok (.goto 773, 3) := by decide +kernel
theorem d_Law_law_227 : decode code 227 = .ok (.aload_n 1, 1) := by decide +kernel
theorem d_Law_law_228 : decode code 228 = .ok (.aload_n 0, 1) := by decide +kernel
theorem d_Law_law_229 : decode code 229 = .ok (.iload 4, 2) := by decide +kernel
theorem d_Law_law_231 : decode code 231 = .ok (.iconst 1, 1) := by decide +kernel
theorem d_Law_law_232 : decode code 232 = .ok (.iadd, 1) := by decide +kernel
theorem d_Law_law_233 : decode code 233 = .ok (.iaload, 1) := by decide +kernel
theorem d_Law_law_234 : decode code 234 = .ok (.aload_n 0, 1) := by decide +kernel
theorem d_Law_law_235 : decode code 235 = .ok (.iload 4, 2) := by decide +kernel
theorem d_Law_law_237 : decode code 237 = .ok (.iconst 2, 1) := by decide +kernel
theorem d_Law_law_238 : decode code 238 = .ok (.iadd, 1) := by decide +kernel
theorem d_Law_law_239 : decode code 239 = .ok (.iaload, 1) := by decide +kernel
theorem d_Law_law_240 : decode code 240 = .ok (.aload_n 3, 1) := by decide +kernel
theorem d_Law_law_241 : decode code 241 = .ok (.invokestatic 72, 3) := by decide +kernel
theorem d_Law_law_244 : decode code 244 = .ok (.istore 5, 2) := by decide +kernel
theorem d_Law_law_246 : decode code 246 = .ok (.aload_n 2, 1) := by decide +kernel
theorem d_Law_law_247 : decode code 247 = .ok (.aload_n 0, 1) := by decide +kernel
theorem d_Law_law_248 : decode code 248 = .ok (.iload 4, 2) := by decide +kernel
theorem d_Law_law_250 : decode code 250 = .ok (.iconst 1, 1) := by decide +kernel
theorem d_Law_law_251 : decode code 251 = .ok (.iadd, 1) := by decide +kernel
theorem d_Law_law_252 : decode code 252 = .ok (.iaload, 1) := by decide +kernel
theorem d_Law_law_253 : decode code 253 = .ok (.aload_n 0, 1) := by decide +kernel
theorem d_Law_law_254 : decode code 254 = .ok (.iload 4, 2) := by decide +kernel
theorem d_Law_law_256 : decode code 256 = .ok (.iconst 2, 1) := by decide +kernel
theorem d_Law_law_257 : decode code 257 = .ok (.iadd, 1) := by decide +kernel
theorem d_Law_law_258 : decode code 258 = .ok (.iaload, 1) := by decide +kernel
theorem d_Law_law_259 : decode code 259 = .ok (.invokevirtual 75, 3) := by decide +kernel
theorem d_Law_law_262 : decode code 262 = .ok (.lstore 6, 2) := by decide +kernel
theorem d_Law_law_264 : decode code 264 = .ok (.aload_n 2, 1) := by decide +kernel
theorem d_Law_law_265 : decode code 265 = .ok (.invokevirtual 68, 3) := by decide +kernel
theorem d_Law_law_268 : decode code 268 = .ok (.iload 5, 2) := by decide +kernel
theorem d_Law_law_270 : decode code 270 = .ok (.if_icmp .eq 5, 3) := by decide +kernel
theorem d_Law_law_273 : decode code 273 = .ok (.iconst 0, 1) := by decide +kernel
theorem d_Law_law_274 : decode code 274 = .ok (.ireturn, 1) := by decide +kernel
theorem d_Law_law_275 : decode code 275 = .ok (.iload 5, 2) := by decide +kernel
theorem d_Law_law_277 : decode code 277 = .ok (.ifCond .ne 14, 3) := by decide +kernel
theorem d_Law_law_280 : decode code 280 = .ok (.aload_n 3, 1) := by decide +kernel
theorem d_Law_law_281 : decode code 281 = .ok (.iconst 0, 1) := by decide +kernel
theorem d_Law_law_282 : decode code 282 = .ok (.laload, 1) := by decide +kernel
theorem d_Law_law_283 : decode code 283 = .ok (.lload 6, 2) := by decide +kernel
theorem d_Law_law_285 : decode code 285 = .ok (.lcmp, 1) := by decide +kernel
theorem d_Law_law_286 : decode code 286 = .ok (.ifCond .eq 5, 3) := by decide +kernel
theorem d_Law_law_289 : decode code 289 = .ok (.iconst 0, 1) := by decide +kernel
theorem d_Law_law_290 : decode code 290 = .ok (.ireturn, 1) := by decide +kernel
theorem d_Law_law_291 : decode code 291 = .ok (.goto 706, 3) := by decide +kernel
theorem d_Law_law_294 : decode code 294 = .ok (.aload_n 1, 1) := by decide +kernel
theorem d_Law_law_295 : decode code 295 = .ok (.aload_n 0, 1) := by decide +kernel
theorem d_Law_law_296 : decode code 296 = .ok (.iload 4, 2) := by decide +kernel
end
section
theorem d_Law_law_298 : decode code 298 = .ok (.iconst 1, 1) := by decide +kernel
theorem d_Law_law_299 : decode code 299 = .ok (.iadd, 1) := by decide +kernel
theorem d_Law_law_300 : decode code 300 = .ok (.iaload, 1) := by decide +kernel
theorem d_Law_law_301 : decode code 301 = .ok (.aload_n 0, 1) := by decide +kernel
theorem d_Law_law_302 : decode code 302 = .ok (.iload 4, 2) := by decide +kernel
theorem d_Law_law_304 : decode code 304 = .ok (.iconst 2, 1) := by decide +kernel
theorem d_Law_law_305 : decode code 305 = .ok (.iadd, 1) := by decide +kernel
theorem d_Law_law_306 : decode code 306 = .ok (.iaload, 1) := by decide +kernel
theorem d_Law_law_307 : decode code 307 = .ok (.aload_n 3, 1) := by decide +kernel
theorem d_Law_law_308 : decode code 308 = .ok (.invokestatic 76, 3) := by decide +kernel
theorem d_Law_law_311 : decode code 311 = .ok (.istore 5, 2) := by decide +kernel
theorem d_Law_law_313 : decode code 313 = .ok (.aload_n 2, 1) := by decide +kernel
theorem d_Law_law_314 : decode code 314 = .ok (.aload_n 0, 1) := by decide +kernel
theorem d_Law_law_315 : decode code 315 = .ok (.iload 4, 2) := by decide +kernel
theorem d_Law_law_317 : decode code 317 = .ok (.iconst 1, 1) := by decide +kernel
theorem d_Law_law_318 : decode code 318 = .ok (.iadd, 1) := by decide +kernel
theorem d_Law_law_319 : decode code 319 = .ok (.iaload, 1) := by decide +kernel
theorem d_Law_law_320 : decode code 320 = .ok (.aload_n 0, 1) := by decide +kernel
theorem d_Law_law_321 : decode code 321 = .ok (.iload 4, 2) := by decide +kernel
theorem d_Law_law_323 : decode code 323 = .ok (.iconst 2, 1) := by decide +kernel
theorem d_Law_law_324 : decode code 324 = .ok (.iadd, 1) := by decide +kernel
theorem d_Law_law_325 : decode code 325 = .ok (.iaload, 1) := by decide +kernel
theorem d_Law_law_326 : decode code 326 = .ok (.invokevirtual 78, 3) := by decide +kernel
theorem d_Law_law_329 : decode code 329 = .ok (.lstore 6, 2) := by decide +kernel
theorem d_Law_law_331 : decode code 331 = .ok (.aload_n 2, 1) := by decide +kernel
theorem d_Law_law_332 : decode code 332 = .ok (.invokevirtual 68, 3) := by decide +kernel
theorem d_Law_law_335 : decode code 335 = .ok (.iload 5, 2) := by decide +kernel
theorem d_Law_law_337 : decode code 337 = .ok (.if_icmp .eq 5, 3) := by decide +kernel
theorem d_Law_law_340 : decode code 340 = .ok (.iconst 0, 1) := by decide +kernel
theorem d_Law_law_341 : decode code 341 = .ok (.ireturn, 1) := by decide +kernel
theorem d_Law_law_342 : decode code 342 = .ok (.iload 5, 2) := by decide +kernel
theorem d_Law_law_344 : decode code 344 = .ok (.ifCond .ne 14, 3) := by decide +kernel
theorem d_Law_law_347 : decode code 347 = .ok (.aload_n 3, 1) := by decide +kernel
theorem d_Law_law_348 : decode code 348 = .ok (.iconst 0, 1) := by decide +kernel
theorem d_Law_law_349 : decode code 349 = .ok (.laload, 1) := by decide +kernel
theorem d_Law_law_350 : decode code 350 = .ok (.lload 6, 2) := by decide +kernel
theorem d_Law_law_352 : decode code 352 = .ok (.lcmp, 1) := by decide +kernel
theorem d_Law_law_353 : decode code 353 = .ok (.ifCond .eq 5, 3) := by decide +kernel
theorem d_Law_law_356 : decode code 356 = .ok (.iconst 0, 1) := by decide +kernel
theorem d_Law_law_357 : decode code 357 = .ok (.ireturn, 1) := by decide +kernel
theorem d_Law_law_358 : decode code 358 = .ok (.goto 639, 3) := by decide +kernel
theorem d_Law_law_361 : decode code 361 = .ok (.aload_n 1, 1) := by decide +kernel
theorem d_Law_law_362 : decode code 362 = .ok (.aload_n 0, 1) := by decide +kernel
theorem d_Law_law_363 : decode code 363 = .ok (.iload 4, 2) := by decide +kernel
theorem d_Law_law_365 : decode code 365 = .ok (.iconst 1, 1) := by decide +kernel
theorem d_Law_law_366 : decode code 366 = .ok (.iadd, 1) := by decide +kernel
theorem d_Law_law_367 : decode code 367 = .ok (.iaload, 1) := by decide +kernel
theorem d_Law_law_368 : decode code 368 = .ok (.aload_n 0, 1) := by decide +kernel
theorem d_Law_law_369 : decode code 369 = .ok (.iload 4, 2) := by decide +kernel
theorem d_Law_law_371 : decode code 371 = .ok (.iconst 2, 1) := by decide +kernel
theorem d_Law_law_372 : decode code 372 = .ok (.iadd, 1) := by decide +kernel
theorem d_Law_law_373 : decode code 373 = .ok (.iaload, 1) := by decide +kernel
theorem d_Law_law_374 : decode code 374 = .ok (.aload_n 0, 1) := by decide +kernel
theorem d_Law_law_375 : decode code 375 = .ok (.iload 4, 2) := by decide +kernel
theorem d_Law_law_377 : decode code 377 = .ok (.iconst 3, 1) := by decide +kernel
theorem d_Law_law_378 : decode code 378 = .ok (.iadd, 1) := by decide +kernel
theorem d_Law_law_379 : decode code 379 = .ok (.iaload, 1) := by decide +kernel
theorem d_Law_law_380 : decode code 380 = .ok (.i2l, 1) := by decide +kernel
theorem d_Law_law_381 : decode code 381 = .ok (.bipush 32, 2) := by decide +kernel
theorem d_Law_law_383 : decode code 383 = .ok (.lshl, 1) := by decide +kernel
theorem d_Law_law_384 : decode code 384 = .ok (.aload_n 0, 1) := by decide +kernel
theorem d_Law_law_385 : decode code 385 = .ok (.iload 4, 2) := by decide +kernel
theorem d_Law_law_387 : decode code 387 = .ok (.iconst 4, 1) := by decide +kernel
theorem d_Law_law_388 : decode code 388 = .ok (.iadd, 1) := by decide +kernel
theorem d_Law_law_389 : decode code 389 = .ok (.iaload, 1) := by decide +kernel
theorem d_Law_law_390 : decode code 390 = .ok (.i2l, 1) := by decide +kernel
theorem d_Law_law_391 : decode code 391 = .ok (.ldc2_w 60, 3) := by decide +kernel
theorem d_Law_law_394 : decode code 394 = .ok (.land, 1) := by decide +kernel
theorem d_Law_law_395 : decode code 395 = .ok (.lor, 1) := by decide +kernel
theorem d_Law_law_396 : decode code 396 = .ok (.aload_n 0, 1) := by decide +kernel
theorem d_Law_law_397 : decode code 397 = .ok (.iload 4, 2) := by decide +kernel
theorem d_Law_law_399 : decode code 399 = .ok (.iconst 5, 1) := by decide +kernel
theorem d_Law_law_400 : decode code 400 = .ok (.iadd, 1) := by decide +kernel
theorem d_Law_law_401 : decode code 401 = .ok (.iaload, 1) := by decide +kernel
theorem d_Law_law_402 : decode code 402 = .ok (.i2l, 1) := by decide +kernel
theorem d_Law_law_403 : decode code 403 = .ok (.bipush 32, 2) := by decide +kernel
theorem d_Law_law_405 : decode code 405 = .ok (.lshl, 1) := by decide +kernel
theorem d_Law_law_406 : decode code 406 = .ok (.aload_n 0, 1) := by decide +kernel
theorem d_Law_law_407 : decode code 407 = .ok (.iload 4, 2) := by decide +kernel
theorem d_Law_law_409 : decode code 409 = .ok (.bipush 6, 2) := by decide +kernel
theorem d_Law_law_411 : decode code 411 = .ok (.iadd, 1) := by decide +kernel
theorem d_Law_law_412 : decode code 412 = .ok (.iaload, 1) := by decide +kernel
theorem d_Law_law_413 : decode code 413 = .ok (.i2l, 1) := by decide +kernel
theorem d_Law_law_414 : decode code 414 = .ok (.ldc2_w 60, 3) := by decide +kernel
theorem d_Law_law_417 : decode code 417 = .ok (.land, 1) := by decide +kernel
theorem d_Law_law_418 : decode code 418 = .ok (.lor, 1) := by decide +kernel
theorem d_Law_law_419 : decode code 419 = .ok (.aload_n 3, 1) := by decide +kernel
theorem d_Law_law_420 : decode code 420 = .ok (.invokestatic 79, 3) := by decide +kernel
theorem d_Law_law_423 : decode code 423 = .ok (.istore 5, 2) := by decide +kernel
theorem d_Law_law_425 : decode code 425 = .ok (.aload_n 2, 1) := by decide +kernel
theorem d_Law_law_426 : decode code 426 = .ok (.aload_n 0, 1) := by decide +kernel
theorem d_Law_law_427 : decode code 427 = .ok (.iload 4, 2) := by decide +kernel
theorem d_Law_law_429 : decode code 429 = .ok (.iconst 1, 1) := by decide +kernel
theorem d_Law_law_430 : decode code 430 = .ok (.iadd, 1) := by decide +kernel
theorem d_Law_law_431 : decode code 431 = .ok (.iaload, 1) := by decide +kernel
theorem d_Law_law_432 : decode code 432 = .ok (.aload_n 0, 1) := by decide +kernel
theorem d_Law_law_433 : decode code 433 = .ok (.iload 4, 2) := by decide +kernel
theorem d_Law_law_435 : decode code 435 = .ok (.iconst 2, 1) := by decide +kernel
theorem d_Law_law_436 : decode code 436 = .ok (.iadd, 1) := by decide +kernel
theorem d_Law_law_437 : decode code 437 = .ok (.iaload, 1) := by decide +kernel
theorem d_Law_law_438 : decode code 438 = .ok (.aload_n 0, 1) := by decide +kernel
theorem d_Law_law_439 : decode code 439 = .ok (.iload 4, 2) := by decide +kernel
theorem d_Law_law_441 : decode code 441 = .ok (.iconst 3, 1) := by decide +kernel
theorem d_Law_law_442 : decode code 442 = .ok (.iadd, 1) := by decide +kernel
theorem d_Law_law_443 : decode code 443 = .ok (.iaload, 1) := by decide +kernel
theorem d_Law_law_444 : decode code 444 = .ok (.i2l, 1) := by decide +kernel
theorem d_Law_law_445 : decode code 445 = .ok (.bipush 32, 2) := by decide +kernel
theorem d_Law_law_447 : decode code 447 = .ok (.lshl, 1) := by decide +kernel
theorem d_Law_law_448 : decode code 448 = .ok (.aload_n 0, 1) := by decide +kernel
theorem d_Law_law_449 : decode code 449 = .ok (.iload 4, 2) := by decide +kernel
theorem d_Law_law_451 : decode code 451 = .ok (.iconst 4, 1) := by decide +kernel
theorem d_Law_law_452 : decode code 452 = .ok (.iadd, 1) := by decide +kernel
theorem d_Law_law_453 : decode code 453 = .ok (.iaload, 1) := by decide +kernel
theorem d_Law_law_454 : decode code 454 = .ok (.i2l, 1) := by decide +kernel
theorem d_Law_law_455 : decode code 455 = .ok (.ldc2_w 60, 3) := by decide +kernel
theorem d_Law_law_458 : decode code 458 = .ok (.land, 1) := by decide +kernel
theorem d_Law_law_459 : decode code 459 = .ok (.lor, 1) := by decide +kernel
theorem d_Law_law_460 : decode code 460 = .ok (.aload_n 0, 1) := by decide +kernel
theorem d_Law_law_461 : decode code 461 = .ok (.iload 4, 2) := by decide +kernel
theorem d_Law_law_463 : decode code 463 = .ok (.iconst 5, 1) := by decide +kernel
theorem d_Law_law_464 : decode code 464 = .ok (.iadd, 1) := by decide +kernel
theorem d_Law_law_465 : decode code 465 = .ok (.iaload, 1) := by decide +kernel
theorem d_Law_law_466 : decode code 466 = .ok (.i2l, 1) := by decide +kernel
theorem d_Law_law_467 : decode code 467 = .ok (.bipush 32, 2) := by decide +kernel
theorem d_Law_law_469 : decode code 469 = .ok (.lshl, 1) := by decide +kernel
theorem d_Law_law_470 : decode code 470 = .ok (.aload_n 0, 1) := by decide +kernel
theorem d_Law_law_471 : decode code 471 = .ok (.iload 4, 2) := by decide +kernel
theorem d_Law_law_473 : decode code 473 = .ok (.bipush 6, 2) := by decide +kernel
theorem d_Law_law_475 : decode code 475 = .ok (.iadd, 1) := by decide +kernel
theorem d_Law_law_476 : decode code 476 = .ok (.iaload, 1) := by decide +kernel
theorem d_Law_law_477 : decode code 477 = .ok (.i2l, 1) := by decide +kernel
theorem d_Law_law_478 : decode code 478 = .ok (.ldc2_w 60, 3) := by decide +kernel
theorem d_Law_law_481 : decode code 481 = .ok (.land, 1) := by decide +kernel
theorem d_Law_law_482 : decode code 482 = .ok (.lor, 1) := by decide +kernel
theorem d_Law_law_483 : decode code 483 = .ok (.invokevirtual 82, 3) := by decide +kernel
theorem d_Law_law_486 : decode code 486 = .ok (.istore 6, 2) := by decide +kernel
theorem d_Law_law_488 : decode code 488 = .ok (.aload_n 2, 1) := by decide +kernel
theorem d_Law_law_489 : decode code 489 = .ok (.invokevirtual 68, 3) := by decide +kernel
theorem d_Law_law_492 : decode code 492 = .ok (.iload 5, 2) := by decide +kernel
theorem d_Law_law_494 : decode code 494 = .ok (.if_icmp .eq 5, 3) := by decide +kernel
theorem d_Law_law_497 : decode code 497 = .ok (.iconst 0, 1) := by decide +kernel
theorem d_Law_law_498 : decode code 498 = .ok (.ireturn, 1) := by decide +kernel
theorem d_Law_law_499 : decode code 499 = .ok (.iload 5, 2) := by decide +kernel
theorem d_Law_law_501 : decode code 501 = .ok (.ifCond .ne 22, 3) := by decide +kernel
theorem d_Law_law_504 : decode code 504 = .ok (.aload_n 3, 1) := by decide +kernel
theorem d_Law_law_505 : decode code 505 = .ok (.iconst 0, 1) := by decide +kernel
theorem d_Law_law_506 : decode code 506 = .ok (.laload, 1) := by decide +kernel
theorem d_Law_law_507 : decode code 507 = .ok (.iload 6, 2) := by decide +kernel
theorem d_Law_law_509 : decode code 509 = .ok (.ifCond .eq 7, 3) := by decide +kernel
theorem d_Law_law_512 : decode code 512 = .ok (.lconst 1, 1) := by decide +kernel
theorem d_Law_law_513 : decode code 513 = .ok (.goto 4, 3) := by decide +kernel
theorem d_Law_law_516 : decode code 516 = .ok (.lconst 0, 1) := by decide +kernel
theorem d_Law_law_517 : decode code 517 = .ok (.lcmp, 1) := by decide +kernel
theorem d_Law_law_518 : decode code 518 = .ok (.ifCond .eq 5, 3) := by decide +kernel
end
section
theorem d_Law_law_521 : decode code 521 = .ok (.iconst 0, 1) := by decide +kernel
theorem d_Law_law_522 : decode code 522 = .ok (.ireturn, 1) := by decide +kernel
theorem d_Law_law_523 : decode code 523 = .ok (.goto 474, 3) := by decide +kernel
theorem d_Law_law_526 : decode code 526 = .ok (.aload_n 1, 1) := by decide +kernel
theorem d_Law_law_527 : decode code 527 = .ok (.aload_n 0, 1) := by decide +kernel
theorem d_Law_law_528 : decode code 528 = .ok (.iload 4, 2) := by decide +kernel
theorem d_Law_law_530 : decode code 530 = .ok (.iconst 1, 1) := by decide +kernel
theorem d_Law_law_531 : decode code 531 = .ok (.iadd, 1) := by decide +kernel
theorem d_Law_law_532 : decode code 532 = .ok (.iaload, 1) := by decide +kernel
theorem d_Law_law_533 : decode code 533 = .ok (.aload_n 0, 1) := by decide +kernel
theorem d_Law_law_534 : decode code 534 = .ok (.iload 4, 2) := by decide +kernel
theorem d_Law_law_536 : decode code 536 = .ok (.iconst 2, 1) := by decide +kernel
theorem d_Law_law_537 : decode code 537 = .ok (.iadd, 1) := by decide +kernel
theorem d_Law_law_538 : decode code 538 = .ok (.iaload, 1) := by decide +kernel
theorem d_Law_law_539 : decode code 539 = .ok (.ifCond .eq 7, 3) := by decide +kernel
theorem d_Law_law_542 : decode code 542 = .ok (.iconst 1, 1) := by decide +kernel
theorem d_Law_law_543 : decode code 543 = .ok (.goto 4, 3) := by decide +kernel
theorem d_Law_law_546 : decode code 546 = .ok (.iconst 0, 1) := by decide +kernel
theorem d_Law_law_547 : decode code 547 = .ok (.aload_n 3, 1) := by decide +kernel
theorem d_Law_law_548 : decode code 548 = .ok (.invokestatic 83, 3) := by decide +kernel
theorem d_Law_law_551 : decode code 551 = .ok (.istore 5, 2) := by decide +kernel
theorem d_Law_law_553 : decode code 553 = .ok (.aload_n 2, 1) := by decide +kernel
theorem d_Law_law_554 : decode code 554 = .ok (.aload_n 0, 1) := by decide +kernel
theorem d_Law_law_555 : decode code 555 = .ok (.iload 4, 2) := by decide +kernel
theorem d_Law_law_557 : decode code 557 = .ok (.iconst 1, 1) := by decide +kernel
theorem d_Law_law_558 : decode code 558 = .ok (.iadd, 1) := by decide +kernel
theorem d_Law_law_559 : decode code 559 = .ok (.iaload, 1) := by decide +kernel
theorem d_Law_law_560 : decode code 560 = .ok (.aload_n 0, 1) := by decide +kernel
theorem d_Law_law_561 : decode code 561 = .ok (.iload 4, 2) := by decide +kernel
theorem d_Law_law_563 : decode code 563 = .ok (.iconst 2, 1) := by decide +kernel
theorem d_Law_law_564 : decode code 564 = .ok (.iadd, 1) := by decide +kernel
theorem d_Law_law_565 : decode code 565 = .ok (.iaload, 1) := by decide +kernel
theorem d_Law_law_566 : decode code 566 = .ok (.ifCond .eq 7, 3) := by decide +kernel
theorem d_Law_law_569 : decode code 569 = .ok (.iconst 1, 1) := by decide +kernel
theorem d_Law_law_570 : decode code 570 = .ok (.goto 4, 3) := by decide +kernel
theorem d_Law_law_573 : decode code 573 = .ok (.iconst 0, 1) := by decide +kernel
theorem d_Law_law_574 : decode code 574 = .ok (.invokevirtual 86, 3) := by decide +kernel
theorem d_Law_law_577 : decode code 577 = .ok (.istore 6, 2) := by decide +kernel
theorem d_Law_law_579 : decode code 579 = .ok (.aload_n 2, 1) := by decide +kernel
theorem d_Law_law_580 : decode code 580 = .ok (.invokevirtual 68, 3) := by decide +kernel
theorem d_Law_law_583 : decode code 583 = .ok (.iload 5, 2) := by decide +kernel
theorem d_Law_law_585 : decode code 585 = .ok (.if_icmp .eq 5, 3) := by decide +kernel
theorem d_Law_law_588 : decode code 588 = .ok (.iconst 0, 1) := by decide +kernel
theorem d_Law_law_589 : decode code 589 = .ok (.ireturn, 1) := by decide +kernel
theorem d_Law_law_590 : decode code 590 = .ok (.iload 5, 2) := by decide +kernel
theorem d_Law_law_592 : decode code 592 = .ok (.ifCond .ne 15, 3) := by decide +kernel
theorem d_Law_law_595 : decode code 595 = .ok (.aload_n 3, 1) := by decide +kernel
theorem d_Law_law_596 : decode code 596 = .ok (.iconst 0, 1) := by decide +kernel
theorem d_Law_law_597 : decode code 597 = .ok (.laload, 1) := by decide +kernel
theorem d_Law_law_598 : decode code 598 = .ok (.iload 6, 2) := by decide +kernel
theorem d_Law_law_600 : decode code 600 = .ok (.i2l, 1) := by decide +kernel
theorem d_Law_law_601 : decode code 601 = .ok (.lcmp, 1) := by decide +kernel
theorem d_Law_law_602 : decode code 602 = .ok (.ifCond .eq 5, 3) := by decide +kernel
theorem d_Law_law_605 : decode code 605 = .ok (.iconst 0, 1) := by decide +kernel
theorem d_Law_law_606 : decode code 606 = .ok (.ireturn, 1) := by decide +kernel
theorem d_Law_law_607 : decode code 607 = .ok (.goto 390, 3) := by decide +kernel
theorem d_Law_law_610 : decode code 610 = .ok (.aload_n 1, 1) := by decide +kernel
theorem d_Law_law_611 : decode code 611 = .ok (.aload_n 0, 1) := by decide +kernel
theorem d_Law_law_612 : decode code 612 = .ok (.iload 4, 2) := by decide +kernel
theorem d_Law_law_614 : decode code 614 = .ok (.iconst 1, 1) := by decide +kernel
theorem d_Law_law_615 : decode code 615 = .ok (.iadd, 1) := by decide +kernel
theorem d_Law_law_616 : decode code 616 = .ok (.iaload, 1) := by decide +kernel
theorem d_Law_law_617 : decode code 617 = .ok (.aload_n 3, 1) := by decide +kernel
theorem d_Law_law_618 : decode code 618 = .ok (.invokestatic 87, 3) := by decide +kernel
theorem d_Law_law_621 : decode code 621 = .ok (.istore 5, 2) := by decide +kernel
theorem d_Law_law_623 : decode code 623 = .ok (.aload_n 2, 1) := by decide +kernel
theorem d_Law_law_624 : decode code 624 = .ok (.aload_n 0, 1) := by decide +kernel
theorem d_Law_law_625 : decode code 625 = .ok (.iload 4, 2) := by decide +kernel
theorem d_Law_law_627 : decode code 627 = .ok (.iconst 1, 1) := by decide +kernel
theorem d_Law_law_628 : decode code 628 = .ok (.iadd, 1) := by decide +kernel
theorem d_Law_law_629 : decode code 629 = .ok (.iaload, 1) := by decide +kernel
theorem d_Law_law_630 : decode code 630 = .ok (.invokevirtual 90, 3) := by decide +kernel
theorem d_Law_law_633 : decode code 633 = .ok (.istore 6, 2) := by decide +kernel
theorem d_Law_law_635 : decode code 635 = .ok (.aload_n 2, 1) := by decide +kernel
theorem d_Law_law_636 : decode code 636 = .ok (.invokevirtual 68, 3) := by decide +kernel
theorem d_Law_law_639 : decode code 639 = .ok (.iload 5, 2) := by decide +kernel
theorem d_Law_law_641 : decode code 641 = .ok (.if_icmp .eq 5, 3) := by decide +kernel
theorem d_Law_law_644 : decode code 644 = .ok (.iconst 0, 1) := by decide +kernel
theorem d_Law_law_645 : decode code 645 = .ok (.ireturn, 1) := by decide +kernel
theorem d_Law_law_646 : decode code 646 = .ok (.iload 5, 2) := by decide +kernel
theorem d_Law_law_648 : decode code 648 = .ok (.ifCond .ne 15, 3) := by decide +kernel
theorem d_Law_law_651 : decode code 651 = .ok (.aload_n 3, 1) := by decide +kernel
theorem d_Law_law_652 : decode code 652 = .ok (.iconst 0, 1) := by decide +kernel
theorem d_Law_law_653 : decode code 653 = .ok (.laload, 1) := by decide +kernel
theorem d_Law_law_654 : decode code 654 = .ok (.iload 6, 2) := by decide +kernel
theorem d_Law_law_656 : decode code 656 = .ok (.i2l, 1) := by decide +kernel
theorem d_Law_law_657 : decode code 657 = .ok (.lcmp, 1) := by decide +kernel
theorem d_Law_law_658 : decode code 658 = .ok (.ifCond .eq 5, 3) := by decide +kernel
theorem d_Law_law_661 : decode code 661 = .ok (.iconst 0, 1) := by decide +kernel
theorem d_Law_law_662 : decode code 662 = .ok (.ireturn, 1) := by decide +kernel
theorem d_Law_law_663 : decode code 663 = .ok (.goto 334, 3) := by decide +kernel
theorem d_Law_law_666 : decode code 666 = .ok (.aload_n 1, 1) := by decide +kernel
theorem d_Law_law_667 : decode code 667 = .ok (.aload_n 0, 1) := by decide +kernel
theorem d_Law_law_668 : decode code 668 = .ok (.iload 4, 2) := by decide +kernel
theorem d_Law_law_670 : decode code 670 = .ok (.iconst 1, 1) := by decide +kernel
theorem d_Law_law_671 : decode code 671 = .ok (.iadd, 1) := by decide +kernel
theorem d_Law_law_672 : decode code 672 = .ok (.iaload, 1) := by decide +kernel
theorem d_Law_law_673 : decode code 673 = .ok (.aload_n 3, 1) := by decide +kernel
theorem d_Law_law_674 : decode code 674 = .ok (.invokestatic 91, 3) := by decide +kernel
theorem d_Law_law_677 : decode code 677 = .ok (.istore 5, 2) := by decide +kernel
theorem d_Law_law_679 : decode code 679 = .ok (.aload_n 2, 1) := by decide +kernel
theorem d_Law_law_680 : decode code 680 = .ok (.aload_n 0, 1) := by decide +kernel
theorem d_Law_law_681 : decode code 681 = .ok (.iload 4, 2) := by decide +kernel
theorem d_Law_law_683 : decode code 683 = .ok (.iconst 1, 1) := by decide +kernel
theorem d_Law_law_684 : decode code 684 = .ok (.iadd, 1) := by decide +kernel
theorem d_Law_law_685 : decode code 685 = .ok (.iaload, 1) := by decide +kernel
theorem d_Law_law_686 : decode code 686 = .ok (.invokevirtual 93, 3) := by decide +kernel
theorem d_Law_law_689 : decode code 689 = .ok (.istore 6, 2) := by decide +kernel
theorem d_Law_law_691 : decode code 691 = .ok (.aload_n 2, 1) := by decide +kernel
theorem d_Law_law_692 : decode code 692 = .ok (.invokevirtual 68, 3) := by decide +kernel
theorem d_Law_law_695 : decode code 695 = .ok (.iload 5, 2) := by decide +kernel
theorem d_Law_law_697 : decode code 697 = .ok (.if_icmp .eq 5, 3) := by decide +kernel
theorem d_Law_law_700 : decode code 700 = .ok (.iconst 0, 1) := by decide +kernel
theorem d_Law_law_701 : decode code 701 = .ok (.ireturn, 1) := by decide +kernel
theorem d_Law_law_702 : decode code 702 = .ok (.iload 5, 2) := by decide +kernel
theorem d_Law_law_704 : decode code 704 = .ok (.ifCond .ne 15, 3) := by decide +kernel
theorem d_Law_law_707 : decode code 707 = .ok (.aload_n 3, 1) := by decide +kernel
theorem d_Law_law_708 : decode code 708 = .ok (.iconst 0, 1) := by decide +kernel
theorem d_Law_law_709 : decode code 709 = .ok (.laload, 1) := by decide +kernel
theorem d_Law_law_710 : decode code 710 = .ok (.iload 6, 2) := by decide +kernel
theorem d_Law_law_712 : decode code 712 = .ok (.i2l, 1) := by decide +kernel
theorem d_Law_law_713 : decode code 713 = .ok (.lcmp, 1) := by decide +kernel
theorem d_Law_law_714 : decode code 714 = .ok (.ifCond .eq 5, 3) := by decide +kernel
theorem d_Law_law_717 : decode code 717 = .ok (.iconst 0, 1) := by decide +kernel
theorem d_Law_law_718 : decode code 718 = .ok (.ireturn, 1) := by decide +kernel
theorem d_Law_law_719 : decode code 719 = .ok (.goto 278, 3) := by decide +kernel
theorem d_Law_law_722 : decode code 722 = .ok (.aload_n 1, 1) := by decide +kernel
theorem d_Law_law_723 : decode code 723 = .ok (.aload_n 0, 1) := by decide +kernel
theorem d_Law_law_724 : decode code 724 = .ok (.iload 4, 2) := by decide +kernel
theorem d_Law_law_726 : decode code 726 = .ok (.iconst 1, 1) := by decide +kernel
theorem d_Law_law_727 : decode code 727 = .ok (.iadd, 1) := by decide +kernel
theorem d_Law_law_728 : decode code 728 = .ok (.iaload, 1) := by decide +kernel
theorem d_Law_law_729 : decode code 729 = .ok (.aload_n 3, 1) := by decide +kernel
theorem d_Law_law_730 : decode code 730 = .ok (.invokestatic 94, 3) := by decide +kernel
theorem d_Law_law_733 : decode code 733 = .ok (.istore 5, 2) := by decide +kernel
theorem d_Law_law_735 : decode code 735 = .ok (.aload_n 2, 1) := by decide +kernel
theorem d_Law_law_736 : decode code 736 = .ok (.aload_n 0, 1) := by decide +kernel
theorem d_Law_law_737 : decode code 737 = .ok (.iload 4, 2) := by decide +kernel
theorem d_Law_law_739 : decode code 739 = .ok (.iconst 1, 1) := by decide +kernel
theorem d_Law_law_740 : decode code 740 = .ok (.iadd, 1) := by decide +kernel
theorem d_Law_law_741 : decode code 741 = .ok (.iaload, 1) := by decide +kernel
theorem d_Law_law_742 : decode code 742 = .ok (.invokevirtual 96, 3) := by decide +kernel
theorem d_Law_law_745 : decode code 745 = .ok (.istore 6, 2) := by decide +kernel
theorem d_Law_law_747 : decode code 747 = .ok (.aload_n 2, 1) := by decide +kernel
theorem d_Law_law_748 : decode code 748 = .ok (.invokevirtual 68, 3) := by decide +kernel
theorem d_Law_law_751 : decode code 751 = .ok (.iload 5, 2) := by decide +kernel
theorem d_Law_law_753 : decode code 753 = .ok (.if_icmp .eq 5, 3) := by decide +kernel
theorem d_Law_law_756 : decode code 756 = .ok (.iconst 0, 1) := by decide +kernel
theorem d_Law_law_757 : decode code 757 = .ok (.ireturn, 1) := by decide +kernel
theorem d_Law_law_758 : decode code 758 = .ok (.iload 5, 2) := by decide +kernel
theorem d_Law_law_760 : decode code 760 = .ok (.ifCond .ne 15, 3) := by decide +kernel
theorem d_Law_law_763 : decode code 763 = .ok (.aload_n 3, 1) := by decide +kernel
theorem d_Law_law_764 : decode code 764 = .ok (.iconst 0, 1) := by decide +kernel
theorem d_Law_law_765 : decode code 765 = .ok (.laload, 1) := by decide +kernel
end
section
theorem d_Law_law_766 : decode code 766 = .ok (.iload 6, 2) := by decide +kernel
theorem d_Law_law_768 : decode code 768 = .ok (.i2l, 1) := by decide +kernel
theorem d_Law_law_769 : decode code 769 = .ok (.lcmp, 1) := by decide +kernel
theorem d_Law_law_770 : decode code 770 = .ok (.ifCond .eq 5, 3) := by decide +kernel
theorem d_Law_law_773 : decode code 773 = .ok (.iconst 0, 1) := by decide +kernel
theorem d_Law_law_774 : decode code 774 = .ok (.ireturn, 1) := by decide +kernel
theorem d_Law_law_775 : decode code 775 = .ok (.goto 222, 3) := by decide +kernel
theorem d_Law_law_778 : decode code 778 = .ok (.aload_n 1, 1) := by decide +kernel
theorem d_Law_law_779 : decode code 779 = .ok (.invokevirtual 97, 3) := by decide +kernel
theorem d_Law_law_782 : decode code 782 = .ok (.aload_n 2, 1) := by decide +kernel
theorem d_Law_law_783 : decode code 783 = .ok (.invokevirtual 101, 3) := by decide +kernel
theorem d_Law_law_786 : decode code 786 = .ok (.lcmp, 1) := by decide +kernel
theorem d_Law_law_787 : decode code 787 = .ok (.ifCond .eq 210, 3) := by decide +kernel
theorem d_Law_law_790 : decode code 790 = .ok (.iconst 0, 1) := by decide +kernel
theorem d_Law_law_791 : decode code 791 = .ok (.ireturn, 1) := by decide +kernel
theorem d_Law_law_792 : decode code 792 = .ok (.aload_n 1, 1) := by decide +kernel
theorem d_Law_law_793 : decode code 793 = .ok (.invokevirtual 102, 3) := by decide +kernel
theorem d_Law_law_796 : decode code 796 = .ok (.aload_n 2, 1) := by decide +kernel
theorem d_Law_law_797 : decode code 797 = .ok (.invokevirtual 105, 3) := by decide +kernel
theorem d_Law_law_800 : decode code 800 = .ok (.if_icmp .eq 197, 3) := by decide +kernel
theorem d_Law_law_803 : decode code 803 = .ok (.iconst 0, 1) := by decide +kernel
theorem d_Law_law_804 : decode code 804 = .ok (.ireturn, 1) := by decide +kernel
theorem d_Law_law_805 : decode code 805 = .ok (.aload_n 1, 1) := by decide +kernel
theorem d_Law_law_806 : decode code 806 = .ok (.aload_n 0, 1) := by decide +kernel
theorem d_Law_law_807 : decode code 807 = .ok (.iload 4, 2) := by decide +kernel
theorem d_Law_law_809 : decode code 809 = .ok (.iconst 1, 1) := by decide +kernel
theorem d_Law_law_810 : decode code 810 = .ok (.iadd, 1) := by decide +kernel
theorem d_Law_law_811 : decode code 811 = .ok (.iaload, 1) := by decide +kernel
theorem d_Law_law_812 : decode code 812 = .ok (.aload_n 0, 1) := by decide +kernel
theorem d_Law_law_813 : decode code 813 = .ok (.iload 4, 2) := by decide +kernel
theorem d_Law_law_815 : decode code 815 = .ok (.iconst 2, 1) := by decide +kernel
theorem d_Law_law_816 : decode code 816 = .ok (.iadd, 1) := by decide +kernel
theorem d_Law_law_817 : decode code 817 = .ok (.iaload, 1) := by decide +kernel
theorem d_Law_law_818 : decode code 818 = .ok (.aload_n 3, 1) := by decide +kernel
theorem d_Law_law_819 : decode code 819 = .ok (.invokestatic 106, 3) := by decide +kernel
theorem d_Law_law_822 : decode code 822 = .ok (.istore 5, 2) := by decide +kernel
theorem d_Law_law_824 : decode code 824 = .ok (.aload_n 2, 1) := by decide +kernel
theorem d_Law_law_825 : decode code 825 = .ok (.aload_n 0, 1) := by decide +kernel
theorem d_Law_law_826 : decode code 826 = .ok (.iload 4, 2) := by decide +kernel
theorem d_Law_law_828 : decode code 828 = .ok (.iconst 1, 1) := by decide +kernel
theorem d_Law_law_829 : decode code 829 = .ok (.iadd, 1) := by decide +kernel
theorem d_Law_law_830 : decode code 830 = .ok (.iaload, 1) := by decide +kernel
theorem d_Law_law_831 : decode code 831 = .ok (.aload_n 0, 1) := by decide +kernel
theorem d_Law_law_832 : decode code 832 = .ok (.iload 4, 2) := by decide +kernel
theorem d_Law_law_834 : decode code 834 = .ok (.iconst 2, 1) := by decide +kernel
theorem d_Law_law_835 : decode code 835 = .ok (.iadd, 1) := by decide +kernel
theorem d_Law_law_836 : decode code 836 = .ok (.iaload, 1) := by decide +kernel
theorem d_Law_law_837 : decode code 837 = .ok (.invokevirtual 108, 3) := by decide +kernel
theorem d_Law_law_840 : decode code 840 = .ok (.istore 6, 2) := by decide +kernel
theorem d_Law_law_842 : decode code 842 = .ok (.aload_n 2, 1) := by decide +kernel
theorem d_Law_law_843 : decode code 843 = .ok (.invokevirtual 68, 3) := by decide +kernel
theorem d_Law_law_846 : decode code 846 = .ok (.iload 5, 2) := by decide +kernel
theorem d_Law_law_848 : decode code 848 = .ok (.if_icmp .eq 5, 3) := by decide +kernel
theorem d_Law_law_851 : decode code 851 = .ok (.iconst 0, 1) := by decide +kernel
theorem d_Law_law_852 : decode code 852 = .ok (.ireturn, 1) := by decide +kernel
theorem d_Law_law_853 : decode code 853 = .ok (.iload 5, 2) := by decide +kernel
theorem d_Law_law_855 : decode code 855 = .ok (.ifCond .ne 15, 3) := by decide +kernel
theorem d_Law_law_858 : decode code 858 = .ok (.aload_n 3, 1) := by decide +kernel
theorem d_Law_law_859 : decode code 859 = .ok (.iconst 0, 1) := by decide +kernel
theorem d_Law_law_860 : decode code 860 = .ok (.laload, 1) := by decide +kernel
theorem d_Law_law_861 : decode code 861 = .ok (.iload 6, 2) := by decide +kernel
theorem d_Law_law_863 : decode code 863 = .ok (.i2l, 1) := by decide +kernel
theorem d_Law_law_864 : decode code 864 = .ok (.lcmp, 1) := by decide +kernel
theorem d_Law_law_865 : decode code 865 = .ok (.ifCond .eq 5, 3) := by decide +kernel
theorem d_Law_law_868 : decode code 868 = .ok (.iconst 0, 1) := by decide +kernel
theorem d_Law_law_869 : decode code 869 = .ok (.ireturn, 1) := by decide +kernel
theorem d_Law_law_870 : decode code 870 = .ok (.goto 127, 3) := by decide +kernel
theorem d_Law_law_873 : decode code 873 = .ok (.aload_n 1, 1) := by decide +kernel
theorem d_Law_law_874 : decode code 874 = .ok (.aload_n 0, 1) := by decide +kernel
theorem d_Law_law_875 : decode code 875 = .ok (.iload 4, 2) := by decide +kernel
theorem d_Law_law_877 : decode code 877 = .ok (.iconst 1, 1) := by decide +kernel
theorem d_Law_law_878 : decode code 878 = .ok (.iadd, 1) := by decide +kernel
theorem d_Law_law_879 : decode code 879 = .ok (.iaload, 1) := by decide +kernel
theorem d_Law_law_880 : decode code 880 = .ok (.aload_n 0, 1) := by decide +kernel
theorem d_Law_law_881 : decode code 881 = .ok (.iload 4, 2) := by decide +kernel
theorem d_Law_law_883 : decode code 883 = .ok (.iconst 2, 1) := by decide +kernel
theorem d_Law_law_884 : decode code 884 = .ok (.iadd, 1) := by decide +kernel
theorem d_Law_law_885 : decode code 885 = .ok (.iaload, 1) := by decide +kernel
theorem d_Law_law_886 : decode code 886 = .ok (.aload_n 3, 1) := by decide +kernel
theorem d_Law_law_887 : decode code 887 = .ok (.invokestatic 109, 3) := by decide +kernel
theorem d_Law_law_890 : decode code 890 = .ok (.istore 5, 2) := by decide +kernel
theorem d_Law_law_892 : decode code 892 = .ok (.aload_n 2, 1) := by decide +kernel
theorem d_Law_law_893 : decode code 893 = .ok (.aload_n 0, 1) := by decide +kernel
theorem d_Law_law_894 : decode code 894 = .ok (.iload 4, 2) := by decide +kernel
theorem d_Law_law_896 : decode code 896 = .ok (.iconst 1, 1) := by decide +kernel
theorem d_Law_law_897 : decode code 897 = .ok (.iadd, 1) := by decide +kernel
theorem d_Law_law_898 : decode code 898 = .ok (.iaload, 1) := by decide +kernel
theorem d_Law_law_899 : decode code 899 = .ok (.aload_n 0, 1) := by decide +kernel
theorem d_Law_law_900 : decode code 900 = .ok (.iload 4, 2) := by decide +kernel
theorem d_Law_law_902 : decode code 902 = .ok (.iconst 2, 1) := by decide +kernel
theorem d_Law_law_903 : decode code 903 = .ok (.iadd, 1) := by decide +kernel
theorem d_Law_law_904 : decode code 904 = .ok (.iaload, 1) := by decide +kernel
theorem d_Law_law_905 : decode code 905 = .ok (.invokevirtual 111, 3) := by decide +kernel
theorem d_Law_law_908 : decode code 908 = .ok (.istore 6, 2) := by decide +kernel
theorem d_Law_law_910 : decode code 910 = .ok (.aload_n 2, 1) := by decide +kernel
theorem d_Law_law_911 : decode code 911 = .ok (.invokevirtual 68, 3) := by decide +kernel
theorem d_Law_law_914 : decode code 914 = .ok (.iload 5, 2) := by decide +kernel
theorem d_Law_law_916 : decode code 916 = .ok (.if_icmp .eq 5, 3) := by decide +kernel
theorem d_Law_law_919 : decode code 919 = .ok (.iconst 0, 1) := by decide +kernel
theorem d_Law_law_920 : decode code 920 = .ok (.ireturn, 1) := by decide +kernel
theorem d_Law_law_921 : decode code 921 = .ok (.iload 5, 2) := by decide +kernel
theorem d_Law_law_923 : decode code 923 = .ok (.ifCond .ne 15, 3) := by decide +kernel
theorem d_Law_law_926 : decode code 926 = .ok (.aload_n 3, 1) := by decide +kernel
theorem d_Law_law_927 : decode code 927 = .ok (.iconst 0, 1) := by decide +kernel
theorem d_Law_law_928 : decode code 928 = .ok (.laload, 1) := by decide +kernel
theorem d_Law_law_929 : decode code 929 = .ok (.iload 6, 2) := by decide +kernel
theorem d_Law_law_931 : decode code 931 = .ok (.i2l, 1) := by decide +kernel
theorem d_Law_law_932 : decode code 932 = .ok (.lcmp, 1) := by decide +kernel
theorem d_Law_law_933 : decode code 933 = .ok (.ifCond .eq 5, 3) := by decide +kernel
theorem d_Law_law_936 : decode code 936 = .ok (.iconst 0, 1) := by decide +kernel
theorem d_Law_law_937 : decode code 937 = .ok (.ireturn, 1) := by decide +kernel
theorem d_Law_law_938 : decode code 938 = .ok (.goto 59, 3) := by decide +kernel
theorem d_Law_law_941 : decode code 941 = .ok (.aload_n 1, 1) := by decide +kernel
theorem d_Law_law_942 : decode code 942 = .ok (.aload_n 0, 1) := by decide +kernel
theorem d_Law_law_943 : decode code 943 = .ok (.iload 4, 2) := by decide +kernel
theorem d_Law_law_945 : decode code 945 = .ok (.iconst 1, 1) := by decide +kernel
theorem d_Law_law_946 : decode code 946 = .ok (.iadd, 1) := by decide +kernel
theorem d_Law_law_947 : decode code 947 = .ok (.iaload, 1) := by decide +kernel
theorem d_Law_law_948 : decode code 948 = .ok (.aload_n 3, 1) := by decide +kernel
theorem d_Law_law_949 : decode code 949 = .ok (.invokestatic 112, 3) := by decide +kernel
theorem d_Law_law_952 : decode code 952 = .ok (.istore 5, 2) := by decide +kernel
theorem d_Law_law_954 : decode code 954 = .ok (.aload_n 2, 1) := by decide +kernel
theorem d_Law_law_955 : decode code 955 = .ok (.aload_n 0, 1) := by decide +kernel
theorem d_Law_law_956 : decode code 956 = .ok (.iload 4, 2) := by decide +kernel
theorem d_Law_law_958 : decode code 958 = .ok (.iconst 1, 1) := by decide +kernel
theorem d_Law_law_959 : decode code 959 = .ok (.iadd, 1) := by decide +kernel
theorem d_Law_law_960 : decode code 960 = .ok (.iaload, 1) := by decide +kernel
theorem d_Law_law_961 : decode code 961 = .ok (.invokevirtual 114, 3) := by decide +kernel
theorem d_Law_law_964 : decode code 964 = .ok (.istore 6, 2) := by decide +kernel
theorem d_Law_law_966 : decode code 966 = .ok (.aload_n 2, 1) := by decide +kernel
theorem d_Law_law_967 : decode code 967 = .ok (.invokevirtual 68, 3) := by decide +kernel
theorem d_Law_law_970 : decode code 970 = .ok (.iload 5, 2) := by decide +kernel
theorem d_Law_law_972 : decode code 972 = .ok (.if_icmp .eq 5, 3) := by decide +kernel
theorem d_Law_law_975 : decode code 975 = .ok (.iconst 0, 1) := by decide +kernel
theorem d_Law_law_976 : decode code 976 = .ok (.ireturn, 1) := by decide +kernel
theorem d_Law_law_977 : decode code 977 = .ok (.iload 5, 2) := by decide +kernel
theorem d_Law_law_979 : decode code 979 = .ok (.ifCond .ne 15, 3) := by decide +kernel
theorem d_Law_law_982 : decode code 982 = .ok (.aload_n 3, 1) := by decide +kernel
theorem d_Law_law_983 : decode code 983 = .ok (.iconst 0, 1) := by decide +kernel
theorem d_Law_law_984 : decode code 984 = .ok (.laload, 1) := by decide +kernel
theorem d_Law_law_985 : decode code 985 = .ok (.iload 6, 2) := by decide +kernel
theorem d_Law_law_987 : decode code 987 = .ok (.i2l, 1) := by decide +kernel
theorem d_Law_law_988 : decode code 988 = .ok (.lcmp, 1) := by decide +kernel
theorem d_Law_law_989 : decode code 989 = .ok (.ifCond .eq 5, 3) := by decide +kernel
theorem d_Law_law_992 : decode code 992 = .ok (.iconst 0, 1) := by decide +kernel
theorem d_Law_law_993 : decode code 993 = .ok (.ireturn, 1) := by decide +kernel
theorem d_Law_law_994 : decode code 994 = .ok (.goto 3, 3) := by decide +kernel
theorem d_Law_law_997 : decode code 997 = .ok (.iinc 4 7, 3) := by decide +kernel
theorem d_Law_law_1000 : decode code 1000 = .ok (.goto (-977), 3) := by decide +kernel
theorem d_Law_law_1003 : decode code 1003 = .ok (.iconst 1, 1) := by decide +kernel
theorem d_Law_law_1004 : decode code 1004 = .ok (.ireturn, 1) := by decide +kernel
end
section
section XN
variable {K : x_K} {M M' : x_M} {d d' pc pc' : Nat} {lv lv' lv0 : List (Option Value)} {st : List Value} {h : x_H} {Q Q' : x_O → x_H → Prop} {a : Nat}
theorem x_mul (a b : Nat) : nI a * nI b = nI (a * b) := (Int32.ofNat_mul a b).symm
theorem x_sub {a b : Nat} (h : b ≤ a) : nI a - nI b = nI (a - b) := by
  have : nI a = nI (a - b) + nI b := by rw [nI_add, Nat.sub_add_cancel h]
  rw [this, Int32.add_sub_cancel]
theorem x_i1 (a : Nat) : nI a + Int32.ofInt 1 = nI (a + 1) := nI_1 a
theorem x_im {a : Nat} (h : 1 ≤ a) : nI a + Int32.ofInt (-1) = nI (a - 1) := by
  have e : Int32.ofInt (-1) = -(nI 1) := by decide
  rw [← x_sub h, e, Int32.sub_eq_add_neg]
/-- a method that returns v and leaves the heap as it is -/
def x_is (v : Option Value) (h : x_H) : x_O → x_H → Prop := fun o g => o = .inl v ∧ h = g
/-- a method that returns -/
def x_rt (P : Option Value → x_H → Prop) : x_O → x_H → Prop := fun o g => match o with
  | .inl v => P v g
  | .inr _ => False
/-- a method that returns or throws -/
def x_rx (P : Option Value → x_H → Prop) (E : Nat × Nat → x_H → Prop) : x_O → x_H → Prop := fun o g => match o with
  | .inl v => P v g
  | .inr q => E q g
theorem go_icmp_ltN {a b : Nat} {off : Int} {tgt : Nat} (hd : decode M.2.1 pc = .ok (.if_icmp .lt off, 3)) (ht : (pc : Int) + off = (tgt : Int)) (hp : pc + 3 = pc') (ha : a < 2 ^ 31) (hb : b < 2 ^ 31) (kt : a < b → Go K M d tgt lv st h Q) (kf : b ≤ a → Go K M d pc' lv st h Q) : Go K M d pc lv (.int (nI b) :: .int (nI a) :: st) h Q :=
  go_icmp_lt hd ht hp (fun q => kt ((nI_ltI ha hb).mp q)) (fun q => kf (Nat.not_lt.mp fun z => q ((nI_ltI ha hb).mpr z)))
theorem go_icmp_geN {a b : Nat} {off : Int} {tgt : Nat} (hd : decode M.2.1 pc = .ok (.if_icmp .ge off, 3)) (ht : (pc : Int) + off = (tgt : Int)) (hp : pc + 3 = pc') (ha : a < 2 ^ 31) (hb : b < 2 ^ 31) (kt : b ≤ a → Go K M d tgt lv st h Q) (kf : a < b → Go K M d pc' lv st h Q) : Go K M d pc lv (.int (nI b) :: .int (nI a) :: st) h Q :=
  go_icmp_ge hd ht hp (fun q => kt ((nI_leI hb ha).mp q)) (fun q => kf (Nat.not_le.mp fun z => q ((nI_leI hb ha).mpr z)))
theorem go_icmp_gtN {a b : Nat} {off : Int} {tgt : Nat} (hd : decode M.2.1 pc = .ok (.if_icmp .gt off, 3)) (ht : (pc : Int) + off = (tgt : Int)) (hp : pc + 3 = pc') (ha : a < 2 ^ 31) (hb : b < 2 ^ 31) (kt : b < a → Go K M d tgt lv st h Q) (kf : a ≤ b → Go K M d pc' lv st h Q) : Go K M d pc lv (.int (nI b) :: .int (nI a) :: st) h Q :=
  go_icmp_gt hd ht hp (fun q => kt ((nI_ltI hb ha).mp q)) (fun q => kf (Nat.not_lt.mp fun z => q ((nI_ltI hb ha).mpr z)))
theorem go_icmp_leN {a b : Nat} {off : Int} {tgt : Nat} (hd : decode M.2.1 pc = .ok (.if_icmp .le off, 3)) (ht : (pc : Int) + off = (tgt : Int)) (hp : pc + 3 = pc') (ha : a < 2 ^ 31) (hb : b < 2 ^ 31) (kt : a ≤ b → Go K M d tgt lv st h Q) (kf : b < a → Go K M d pc' lv st h Q) : Go K M d pc lv (.int (nI b) :: .int (nI a) :: st) h Q :=
  go_icmp_le hd ht hp (fun q => kt ((nI_leI ha hb).mp q)) (fun q => kf (Nat.not_le.mp fun z => q ((nI_leI ha hb).mpr z)))
theorem go_icmp_eqN {a b : Nat} {off : Int} {tgt : Nat} (hd : decode M.2.1 pc = .ok (.if_icmp .eq off, 3)) (ht : (pc : Int) + off = (tgt : Int)) (hp : pc + 3 = pc') (ha : a < 2 ^ 31) (hb : b < 2 ^ 31) (kt : a = b → Go K M d tgt lv st h Q) (kf : ¬ a = b → Go K M d pc' lv st h Q) : Go K M d pc lv (.int (nI b) :: .int (nI a) :: st) h Q :=
  go_icmp_eq hd ht hp (fun q => kt ((nI_eq ha hb).mp q)) (fun q => kf (fun z => q ((nI_eq ha hb).mpr z)))
theorem go_icmp_neN {a b : Nat} {off : Int} {tgt : Nat} (hd : decode M.2.1 pc = .ok (.if_icmp .ne off, 3)) (ht : (pc : Int) + off = (tgt : Int)) (hp : pc + 3 = pc') (ha : a < 2 ^ 31) (hb : b < 2 ^ 31) (kt : ¬ a = b → Go K M d tgt lv st h Q) (kf : a = b → Go K M d pc' lv st h Q) : Go K M d pc lv (.int (nI b) :: .int (nI a) :: st) h Q :=
  go_icmp_ne hd ht hp (fun q => kt (fun z => q ((nI_eq ha hb).mpr z))) (fun q => kf ((nI_eq ha hb).mp q))
theorem go_ialdN {kd n j : Nat} {f : Nat → Int32} (hd : decode M.2.1 pc = .ok (.iaload, 1)) (hf : h.2.2 a = some (.inl (kd, n, .inl f))) (hk : x_ty kd = some .int) (hj : j < n) (hn : n < 2 ^ 31) (hp : pc + 1 = pc') (k : Go K M d pc' lv (.int (f j) :: st) h Q) : Go K M d pc lv (.int (nI j) :: .ref a :: st) h Q :=
  go_iald hd hf hk (vp_in_nI hj hn) (by rw [nI_clamp (by omega)]) hp k
theorem go_zaldN {kd n j : Nat} {f : Nat → Int32} (hd : decode M.2.1 pc = .ok (.baload, 1)) (hf : h.2.2 a = some (.inl (kd, n, .inl f))) (hk : x_ty kd = some .boolean) (hj : j < n) (hn : n < 2 ^ 31) (hp : pc + 1 = pc') (k : Go K M d pc' lv (.int (f j) :: st) h Q) : Go K M d pc lv (.int (nI j) :: .ref a :: st) h Q :=
  go_zald hd hf hk (vp_in_nI hj hn) (by rw [nI_clamp (by omega)]) hp k
theorem go_laldN {kd n j : Nat} {f : Nat → Int64} (hd : decode M.2.1 pc = .ok (.laload, 1)) (hf : h.2.2 a = some (.inl (kd, n, .inr (.inl f)))) (hk : x_ty kd = some .long) (hj : j < n) (hn : n < 2 ^ 31) (hp : pc + 1 = pc') (k : Go K M d pc' lv (.long (f j) :: st) h Q) : Go K M d pc lv (.int (nI j) :: .ref a :: st) h Q :=
  go_lald hd hf hk (vp_in_nI hj hn) (by rw [nI_clamp (by omega)]) hp k
theorem go_aaldN {kd n j : Nat} {E : String} {f : Nat → Option Nat} (hd : decode M.2.1 pc = .ok (.aaload, 1)) (hf : h.2.2 a = some (.inl (kd, n, .inr (.inr (.inr (.inr f)))))) (hk : x_ty kd = some (.object E)) (hj : j < n) (hn : n < 2 ^ 31) (hp : pc + 1 = pc') (k : Go K M d pc' lv (va_rf (f j) :: st) h Q) : Go K M d pc lv (.int (nI j) :: .ref a :: st) h Q :=
  go_aald hd hf hk (vp_in_nI hj hn) (by rw [nI_clamp (by omega)]) hp k
theorem go_iastN {kd n j : Nat} {f : Nat → Int32} {x : Int32} (hd : decode M.2.1 pc = .ok (.iastore, 1)) (hf : h.2.2 a = some (.inl (kd, n, .inl f))) (hk : x_ty kd = some .int) (hj : j < n) (hn : n < 2 ^ 31) (hp : pc + 1 = pc') (k : Go K M d pc' lv st (x_up h a (.inl (kd, n, .inl (va_up f j x)))) Q) : Go K M d pc lv (.int x :: .int (nI j) :: .ref a :: st) h Q :=
  go_iast hd hf hk (vp_in_nI hj hn) hp (by rw [nI_clamp (by omega)]; exact k)
theorem go_lastN {kd n j : Nat} {f : Nat → Int64} {x : Int64} (hd : decode M.2.1 pc = .ok (.lastore, 1)) (hf : h.2.2 a = some (.inl (kd, n, .inr (.inl f)))) (hk : x_ty kd = some .long) (hj : j < n) (hn : n < 2 ^ 31) (hp : pc + 1 = pc') (k : Go K M d pc' lv st (x_up h a (.inl (kd, n, .inr (.inl (va_up f j x))))) Q) : Go K M d pc lv (.long x :: .int (nI j) :: .ref a :: st) h Q :=
  go_last hd hf hk (vp_in_nI hj hn) hp (by rw [nI_clamp (by omega)]; exact k)
theorem go_zastN {kd n j : Nat} {f : Nat → Int32} {x : Int32} (hd : decode M.2.1 pc = .ok (.bastore, 1)) (hf : h.2.2 a = some (.inl (kd, n, .inl f))) (hk : x_ty kd = some .boolean) (hj : j < n) (hn : n < 2 ^ 31) (hx : vp_nar .boolean x = x) (hp : pc + 1 = pc') (k : Go K M d pc' lv st (x_up h a (.inl (kd, n, .inl (va_up f j x)))) Q) : Go K M d pc lv (.int x :: .int (nI j) :: .ref a :: st) h Q :=
  go_zast hd hf hk (vp_in_nI hj hn) hp (by rw [nI_clamp (by omega), hx]; exact k)
theorem go_aastN' {kd n j : Nat} {E : String} {f : Nat → Option Nat} (hd : decode M.2.1 pc = .ok (.aastore, 1)) (hf : h.2.2 a = some (.inl (kd, n, .inr (.inr (.inr (.inr f)))))) (hk : x_ty kd = some (.object E)) (hj : j < n) (hn : n < 2 ^ 31) (hp : pc + 1 = pc') (k : Go K M d pc' lv st (x_up h a (.inl (kd, n, .inr (.inr (.inr (.inr (va_up f j none))))))) Q) : Go K M d pc lv (.null :: .int (nI j) :: .ref a :: st) h Q :=
  go_aastN hd hf hk (vp_in_nI hj hn) hp (by rw [nI_clamp (by omega)]; exact k)
theorem go_aastR {kd n j b ci : Nat} {r : vw_C} {vs : List Value} {f : Nat → Option Nat} (hd : decode M.2.1 pc = .ok (.aastore, 1)) (hf : h.2.2 a = some (.inl (kd, n, .inr (.inr (.inr (.inr f)))))) (hv : h.2.2 b = some (.inr (ci, vs))) (hc : vwCl[ci]? = some r) (hk : x_ty kd = some (.object r.1)) (hj : j < n) (hn : n < 2 ^ 31) (hp : pc + 1 = pc') (k : Go K M d pc' lv st (x_up h a (.inl (kd, n, .inr (.inr (.inr (.inr (va_up f j (some b)))))))) Q) : Go K M d pc lv (.ref b :: .int (nI j) :: .ref a :: st) h Q :=
  go_aast hd hf hk hv hc (vp_in_nI hj hn) hp (by rw [nI_clamp (by omega)]; exact k)
theorem go_aastO' {kd n j ci : Nat} {o : Option Nat} {r : vw_C} {f : Nat → Option Nat} (hd : decode M.2.1 pc = .ok (.aastore, 1)) (hf : h.2.2 a = some (.inl (kd, n, .inr (.inr (.inr (.inr f)))))) (hv : ∀ b : Nat, o = some b → ∃ vs, h.2.2 b = some (.inr (ci, vs))) (hc : vwCl[ci]? = some r) (hk : x_ty kd = some (.object r.1)) (hj : j < n) (hn : n < 2 ^ 31) (hp : pc + 1 = pc') (k : Go K M d pc' lv st (x_up h a (.inl (kd, n, .inr (.inr (.inr (.inr (va_up f j o))))))) Q) : Go K M d pc lv (va_rf o :: .int (nI j) :: .ref a :: st) h Q :=
  go_aastO hd hf hk hv hc (vp_in_nI hj hn) hp (by rw [nI_clamp (by omega)]; exact k)
theorem go_alenN {kd n : Nat} {x : (Nat → Int32) ⊕ (Nat → Int64) ⊕ (Nat → UInt32) ⊕ (Nat → UInt64) ⊕ (Nat → Option Nat)} {t : FieldType} (hd : decode M.2.1 pc = .ok (.arraylength, 1)) (hf : h.2.2 a = some (.inl (kd, n, x))) (hk : x_ty kd = some t) (hp : pc + 1 = pc') (k : Go K M d pc' lv (.int (nI n) :: st) h Q) : Go K M d pc lv (.ref a :: st) h Q :=
  go_alen hd hf hk rfl hp k
theorem x_c_rf (o : Option Nat) : (va_rf o).category = 1 := by cases o <;> rfl
theorem x_up_self (h : x_H) (a : Nat) (c : x_C) : (x_up h a c).2.2 a = some c := va_up_self _ _ _
theorem x_up_ne {h : x_H} {a b : Nat} {c : x_C} (hne : b ≠ a) : (x_up h a c).2.2 b = h.2.2 b := va_up_ne _ _ hne
theorem x_nw_self (h : x_H) (n : Nat) (c : x_C) : (x_nw h n c).2.2 h.1 = some c := va_up_self _ _ _
theorem x_nw_ne {h : x_H} {n b : Nat} {c : x_C} (hne : b ≠ h.1) : (x_nw h n c).2.2 b = h.2.2 b := va_up_ne _ _ hne
theorem x_up_up (h : x_H) (a : Nat) (c c' : x_C) : x_up (x_up h a c) a c' = x_up h a c' := by
  unfold x_up
  simp only [Prod.mk.injEq, true_and]
  funext j
  by_cases hj : j = a <;> simp [va_up, hj]
/-- whatever is known of the heap lies below the next address -/
theorem go_dom (k : (∀ (a : Nat) (c : x_C), h.2.2 a = some c → a < h.1) → Go K M d pc lv st h Q) : Go K M d pc lv st h Q := fun R s m args below meth c H locs cells slots ls z0 q0 hF hx =>
  k (fun _ _ ha => hF.w.lt ha) R s m args below meth c H locs cells slots ls z0 q0 hF hx
/-- nothing has changed but at S, and behind the old cells -/
def Fr (S : Nat → Prop) (h g : x_H) : Prop := h.1 ≤ g.1 ∧ h.2.1 ≤ g.2.1 ∧ ∀ b : Nat, b < h.1 → ¬ S b → g.2.2 b = h.2.2 b
theorem Fr.rf (S : Nat → Prop) (h : x_H) : Fr S h h := ⟨Nat.le_refl _, Nat.le_refl _, fun _ _ _ => rfl⟩
theorem Fr.tr {S : Nat → Prop} {h g f : x_H} (h1 : Fr S h g) (h2 : Fr S g f) : Fr S h f := ⟨Nat.le_trans h1.1 h2.1, Nat.le_trans h1.2.1 h2.2.1, fun b hb hs => (h2.2.2 b (Nat.lt_of_lt_of_le hb h1.1) hs).trans (h1.2.2 b hb hs)⟩
theorem Fr.mono {S S' : Nat → Prop} {h g : x_H} (h1 : Fr S h g) (hs : ∀ b, b < h.1 → S b → S' b) : Fr S' h g := ⟨h1.1, h1.2.1, fun b hb hn => h1.2.2 b hb (fun z => hn (hs b hb z))⟩
theorem Fr.up {S : Nat → Prop} (h : x_H) {a : Nat} (c : x_C) (ha : a < h.1 → S a) : Fr S h (x_up h a c) := ⟨Nat.le_refl _, Nat.le_refl _, fun b hb hs => x_up_ne (fun e => hs (by rw [e] at hb ⊢; exact ha hb))⟩
theorem Fr.nw {S : Nat → Prop} (h : x_H) (n : Nat) (c : x_C) : Fr S h (x_nw h n c) := ⟨Nat.le_succ _, Nat.le_add_right _ _, fun b hb _ => x_nw_ne (Nat.ne_of_lt hb)⟩
theorem Fr.at {S : Nat → Prop} {h g : x_H} (hF : Fr S h g) (hd : ∀ (a : Nat) (c : x_C), h.2.2 a = some c → a < h.1) {b : Nat} {c : x_C} (hb : h.2.2 b = some c) (hs : ¬ S b) : g.2.2 b = some c := (hF.2.2 b (hd b c hb) hs).trans hb
end XN
end
section
theorem at_11 : x_atb "SnapshotTrie" 146 "java/lang/IllegalArgumentException" ["java/lang/RuntimeException", "java/lang/Exception"] = true := by decide +kernel
theorem at_12 : x_atb "SnapshotTrie" 157 "java/lang/UnsupportedOperationException" ["java/lang/RuntimeException", "java/lang/Exception"] = true := by decide +kernel
theorem at_13 : x_atb "SnapshotTrie" 51 "java/lang/IllegalStateException" ["java/lang/RuntimeException", "java/lang/Exception"] = true := by decide +kernel
theorem at_14 : x_atb "SnapshotTrie" 113 "java/util/NoSuchElementException" ["java/lang/RuntimeException", "java/lang/Exception"] = true := by decide +kernel
/-- a node: its generation, its entries, its nodes; its arrays lie behind it -/
def Nd (h : x_H) (a : Nat) (g : Int32) (n : Nat) (es : Nat → Option Nat) (k : Nat) (ns : Nat → Option Nat) : Prop :=
  h.2.2 a = some (.inr (2, [.int g, .ref (a + 1), .ref (a + 2)])) ∧ h.2.2 (a + 1) = some (.inl (3, n, .inr (.inr (.inr (.inr es))))) ∧ h.2.2 (a + 2) = some (.inl (4, k, .inr (.inr (.inr (.inr ns)))))
def Et (h : x_H) (e : Nat) (k : Int32) (v : Int64) : Prop := h.2.2 e = some (.inr (1, [.int k, .long v]))
/-- how many of the first n places hold something -/
def q_ct (es : Nat → Option Nat) : Nat → Nat
  | 0 => 0
  | n + 1 => q_ct es n + (if (es n).isSome then 1 else 0)
theorem q_ct_le (es : Nat → Option Nat) : ∀ n, q_ct es n ≤ n
  | 0 => Nat.le_refl _
  | n + 1 => by
    have := q_ct_le es n
    unfold q_ct
    split <;> omega
section NA
variable {K : x_K} {d : Nat} {h : x_H} {a : Nat} {g : Int32} {n k : Nat} {es ns : Nat → Option Nat}
theorem s_countEntries (hN : Nd h a g n es k ns) (hn : n ≤ 6) : Go K M_Nod_countEntries d 0 [some (.ref a), none, none] [] h (x_is (some (.int (nI (q_ct es n)))) h) := by
  obtain ⟨h0, h1, h2⟩ := hN
  have loop : ∀ r j, j + r = n → Go K M_Nod_countEntries d 4 [some (.ref a), some (.int (nI (q_ct es j))), some (.int (nI j))] [] h (x_is (some (.int (nI (q_ct es n)))) h) := by
    intro r
    induction r with
    | zero =>
      intro j hj
      have hjn : j = n := by omega
      subst hjn
      refine go_iload_n (pc' := 5) (i := 2) d_Nod_countEntries_4 rfl rfl rfl ?_
      refine go_aload_n (pc' := 6) (i := 0) d_Nod_countEntries_5 rfl rfl (by first | rfl | exact x_r_rf _) rfl ?_
      refine go_getfield (pc' := 9) d_Nod_countEntries_6 c_Nod 1 (by decide) t_42 (by first | assumption | exact x_up_self _ _ _ | exact x_nw_self _ _ _ | (rw [x_up_ne (by first | omega | (simp only [x_up, x_nw]; omega))]; first | assumption | exact x_up_self _ _ _ | (rw [x_up_ne (by first | omega | (simp only [x_up, x_nw]; omega))]; first | assumption | exact x_up_self _ _ _)) | (rw [x_nw_ne (by first | omega | (simp only [x_up, x_nw]; omega))]; first | assumption | exact x_up_self _ _ _ | (rw [x_up_ne (by first | omega | (simp only [x_up, x_nw]; omega))]; assumption))) (by rfl) rfl ?_
      refine go_alenN (pc' := 10) d_Nod_countEntries_9 (by first | assumption | exact x_up_self _ _ _ | exact x_nw_self _ _ _ | (rw [x_up_ne (by first | omega | (simp only [x_up, x_nw]; omega))]; first | assumption | exact x_up_self _ _ _ | (rw [x_up_ne (by first | omega | (simp only [x_up, x_nw]; omega))]; first | assumption | exact x_up_self _ _ _)) | (rw [x_nw_ne (by first | omega | (simp only [x_up, x_nw]; omega))]; first | assumption | exact x_up_self _ _ _ | (rw [x_up_ne (by first | omega | (simp only [x_up, x_nw]; omega))]; assumption))) (by rfl) rfl ?_
      refine go_icmp_geN (tgt := 31) (pc' := 13) d_Nod_countEntries_10 (by decide) rfl (by omega) (by omega) (fun hc => ?_) (fun hc => ?_)
      · refine go_iload_n (pc' := 32) (i := 1) d_Nod_countEntries_31 rfl rfl rfl ?_
        refine go_ireturn d_Nod_countEntries_32 rfl (by rfl) ?_
        exact ⟨rfl, rfl⟩
      · omega
    | succ r ih =>
      intro j hj
      refine go_iload_n (pc' := 5) (i := 2) d_Nod_countEntries_4 rfl rfl rfl ?_
      refine go_aload_n (pc' := 6) (i := 0) d_Nod_countEntries_5 rfl rfl (by first | rfl | exact x_r_rf _) rfl ?_
      refine go_getfield (pc' := 9) d_Nod_countEntries_6 c_Nod 1 (by decide) t_42 (by first | assumption | exact x_up_self _ _ _ | exact x_nw_self _ _ _ | (rw [x_up_ne (by first | omega | (simp only [x_up, x_nw]; omega))]; first | assumption | exact x_up_self _ _ _ | (rw [x_up_ne (by first | omega | (simp only [x_up, x_nw]; omega))]; first | assumption | exact x_up_self _ _ _)) | (rw [x_nw_ne (by first | omega | (simp only [x_up, x_nw]; omega))]; first | assumption | exact x_up_self _ _ _ | (rw [x_up_ne (by first | omega | (simp only [x_up, x_nw]; omega))]; assumption))) (by rfl) rfl ?_
      refine go_alenN (pc' := 10) d_Nod_countEntries_9 (by first | assumption | exact x_up_self _ _ _ | exact x_nw_self _ _ _ | (rw [x_up_ne (by first | omega | (simp only [x_up, x_nw]; omega))]; first | assumption | exact x_up_self _ _ _ | (rw [x_up_ne (by first | omega | (simp only [x_up, x_nw]; omega))]; first | assumption | exact x_up_self _ _ _)) | (rw [x_nw_ne (by first | omega | (simp only [x_up, x_nw]; omega))]; first | assumption | exact x_up_self _ _ _ | (rw [x_up_ne (by first | omega | (simp only [x_up, x_nw]; omega))]; assumption))) (by rfl) rfl ?_
      refine go_icmp_geN (tgt := 31) (pc' := 13) d_Nod_countEntries_10 (by decide) rfl (by omega) (by omega) (fun hc => ?_) (fun hc => ?_)
      · omega
      · refine go_aload_n (pc' := 14) (i := 0) d_Nod_countEntries_13 rfl rfl (by first | rfl | exact x_r_rf _) rfl ?_
        refine go_getfield (pc' := 17) d_Nod_countEntries_14 c_Nod 1 (by decide) t_42 (by first | assumption | exact x_up_self _ _ _ | exact x_nw_self _ _ _ | (rw [x_up_ne (by first | omega | (simp only [x_up, x_nw]; omega))]; first | assumption | exact x_up_self _ _ _ | (rw [x_up_ne (by first | omega | (simp only [x_up, x_nw]; omega))]; first | assumption | exact x_up_self _ _ _)) | (rw [x_nw_ne (by first | omega | (simp only [x_up, x_nw]; omega))]; first | assumption | exact x_up_self _ _ _ | (rw [x_up_ne (by first | omega | (simp only [x_up, x_nw]; omega))]; assumption))) (by rfl) rfl ?_
        refine go_iload_n (pc' := 18) (i := 2) d_Nod_countEntries_17 rfl rfl rfl ?_
        refine go_aaldN (pc' := 19) d_Nod_countEntries_18 (by first | assumption | exact x_up_self _ _ _ | exact x_nw_self _ _ _ | (rw [x_up_ne (by first | omega | (simp only [x_up, x_nw]; omega))]; first | assumption | exact x_up_self _ _ _ | (rw [x_up_ne (by first | omega | (simp only [x_up, x_nw]; omega))]; first | assumption | exact x_up_self _ _ _)) | (rw [x_nw_ne (by first | omega | (simp only [x_up, x_nw]; omega))]; first | assumption | exact x_up_self _ _ _ | (rw [x_up_ne (by first | omega | (simp only [x_up, x_nw]; omega))]; assumption))) (by rfl) (by first | assumption | omega | (simp only [x_up, x_nw]; omega)) (by first | assumption | omega | (simp only [x_up, x_nw]; omega)) rfl ?_
        refine go_ifnull (tgt := 25) (pc' := 22) d_Nod_countEntries_19 (by decide) rfl (fun hc => ?_) (fun b hc => ?_)
        · refine go_iinc (pc' := 28) (i := 2) d_Nod_countEntries_25 rfl (x_i1 _) (by decide) (x_s2 (by first | rfl | exact x_k_rf _)) rfl ?_
          refine go_goto (tgt := 4) d_Nod_countEntries_28 (by decide) ?_
          have e : q_ct es (j + 1) = q_ct es j := by simp [q_ct, hc]
          rw [← e]
          exact ih (j + 1) (by omega)
        · refine go_iinc (pc' := 25) (i := 1) d_Nod_countEntries_22 rfl (x_i1 _) (by decide) (x_s1 (by first | rfl | exact x_k_rf _)) rfl ?_
          refine go_iinc (pc' := 28) (i := 2) d_Nod_countEntries_25 rfl (x_i1 _) (by decide) (x_s2 (by first | rfl | exact x_k_rf _)) rfl ?_
          refine go_goto (tgt := 4) d_Nod_countEntries_28 (by decide) ?_
          have e : q_ct es (j + 1) = q_ct es j + 1 := by simp [q_ct, hc]
          rw [← e]
          exact ih (j + 1) (by omega)
  refine go_iconst (pc' := 1) (v := (nI 0)) d_Nod_countEntries_0 (by decide) rfl ?_
  refine go_istore_n (pc' := 2) (i := 1) d_Nod_countEntries_1 rfl (by decide) (x_s1 (by first | rfl | exact x_k_rf _)) rfl ?_
  refine go_iconst (pc' := 3) (v := (nI 0)) d_Nod_countEntries_2 (by decide) rfl ?_
  refine go_istore_n (pc' := 4) (i := 2) d_Nod_countEntries_3 rfl (by decide) (x_s2 (by first | rfl | exact x_k_rf _)) rfl ?_
  exact loop n 0 (by omega)
theorem s_entryAt (hN : Nd h a g n es k ns) (hn : n ≤ 6) {j : Nat} (hj : j < 100) : Go K M_Nod_entryAt d 0 [some (.ref a), some (.int (nI j))] [] h (x_is (some (va_rf (if j < n then es j else none))) h) := by
  obtain ⟨h0, h1, h2⟩ := hN
  refine go_iload_n (pc' := 1) (i := 1) d_Nod_entryAt_0 rfl rfl rfl ?_
  refine go_if_lt (tgt := 22) (pc' := 4) d_Nod_entryAt_1 (by decide) rfl (fun hc => ?_) (fun hc => ?_)
  · exfalso
    rw [show (0 : Int32) = nI 0 from rfl, nI_ltI (by omega) (by omega)] at hc
    omega
  · refine go_iload_n (pc' := 5) (i := 1) d_Nod_entryAt_4 rfl rfl rfl ?_
    refine go_aload_n (pc' := 6) (i := 0) d_Nod_entryAt_5 rfl rfl (by first | rfl | exact x_r_rf _) rfl ?_
    refine go_getfield (pc' := 9) d_Nod_entryAt_6 c_Nod 1 (by decide) t_42 (by first | assumption | exact x_up_self _ _ _ | exact x_nw_self _ _ _ | (rw [x_up_ne (by first | omega | (simp only [x_up, x_nw]; omega))]; first | assumption | exact x_up_self _ _ _ | (rw [x_up_ne (by first | omega | (simp only [x_up, x_nw]; omega))]; first | assumption | exact x_up_self _ _ _)) | (rw [x_nw_ne (by first | omega | (simp only [x_up, x_nw]; omega))]; first | assumption | exact x_up_self _ _ _ | (rw [x_up_ne (by first | omega | (simp only [x_up, x_nw]; omega))]; assumption))) (by rfl) rfl ?_
    refine go_alenN (pc' := 10) d_Nod_entryAt_9 (by first | assumption | exact x_up_self _ _ _ | exact x_nw_self _ _ _ | (rw [x_up_ne (by first | omega | (simp only [x_up, x_nw]; omega))]; first | assumption | exact x_up_self _ _ _ | (rw [x_up_ne (by first | omega | (simp only [x_up, x_nw]; omega))]; first | assumption | exact x_up_self _ _ _)) | (rw [x_nw_ne (by first | omega | (simp only [x_up, x_nw]; omega))]; first | assumption | exact x_up_self _ _ _ | (rw [x_up_ne (by first | omega | (simp only [x_up, x_nw]; omega))]; assumption))) (by rfl) rfl ?_
    refine go_icmp_geN (tgt := 22) (pc' := 13) d_Nod_entryAt_10 (by decide) rfl (by omega) (by omega) (fun hc => ?_) (fun hc => ?_)
    · refine go_null (pc' := 23) d_Nod_entryAt_22 rfl ?_
      rw [if_neg (by omega)]
      refine go_areturn d_Nod_entryAt_23 rfl ⟨_, rfl⟩ (by first | rfl | exact x_r_rf _) ?_
      exact ⟨rfl, rfl⟩
    · refine go_aload_n (pc' := 14) (i := 0) d_Nod_entryAt_13 rfl rfl (by first | rfl | exact x_r_rf _) rfl ?_
      refine go_getfield (pc' := 17) d_Nod_entryAt_14 c_Nod 1 (by decide) t_42 (by first | assumption | exact x_up_self _ _ _ | exact x_nw_self _ _ _ | (rw [x_up_ne (by first | omega | (simp only [x_up, x_nw]; omega))]; first | assumption | exact x_up_self _ _ _ | (rw [x_up_ne (by first | omega | (simp only [x_up, x_nw]; omega))]; first | assumption | exact x_up_self _ _ _)) | (rw [x_nw_ne (by first | omega | (simp only [x_up, x_nw]; omega))]; first | assumption | exact x_up_self _ _ _ | (rw [x_up_ne (by first | omega | (simp only [x_up, x_nw]; omega))]; assumption))) (by rfl) rfl ?_
      refine go_iload_n (pc' := 18) (i := 1) d_Nod_entryAt_17 rfl rfl rfl ?_
      refine go_aaldN (pc' := 19) d_Nod_entryAt_18 (by first | assumption | exact x_up_self _ _ _ | exact x_nw_self _ _ _ | (rw [x_up_ne (by first | omega | (simp only [x_up, x_nw]; omega))]; first | assumption | exact x_up_self _ _ _ | (rw [x_up_ne (by first | omega | (simp only [x_up, x_nw]; omega))]; first | assumption | exact x_up_self _ _ _)) | (rw [x_nw_ne (by first | omega | (simp only [x_up, x_nw]; omega))]; first | assumption | exact x_up_self _ _ _ | (rw [x_up_ne (by first | omega | (simp only [x_up, x_nw]; omega))]; assumption))) (by rfl) (by first | assumption | omega | (simp only [x_up, x_nw]; omega)) (by first | assumption | omega | (simp only [x_up, x_nw]; omega)) rfl ?_
      refine go_goto (tgt := 23) d_Nod_entryAt_19 (by decide) ?_
      rw [if_pos (by omega)]
      refine go_areturn d_Nod_entryAt_23 rfl ⟨_, rfl⟩ (by first | rfl | exact x_r_rf _) ?_
      exact ⟨rfl, rfl⟩
theorem s_nodeAt (hN : Nd h a g n es k ns) (hn : k ≤ 6) {j : Nat} (hj : j < 100) : Go K M_Nod_nodeAt d 0 [some (.ref a), some (.int (nI j))] [] h (x_is (some (va_rf (if j < k then ns j else none))) h) := by
  obtain ⟨h0, h1, h2⟩ := hN
  refine go_iload_n (pc' := 1) (i := 1) d_Nod_nodeAt_0 rfl rfl rfl ?_
  refine go_if_lt (tgt := 22) (pc' := 4) d_Nod_nodeAt_1 (by decide) rfl (fun hc => ?_) (fun hc => ?_)
  · exfalso
    rw [show (0 : Int32) = nI 0 from rfl, nI_ltI (by omega) (by omega)] at hc
    omega
  · refine go_iload_n (pc' := 5) (i := 1) d_Nod_nodeAt_4 rfl rfl rfl ?_
    refine go_aload_n (pc' := 6) (i := 0) d_Nod_nodeAt_5 rfl rfl (by first | rfl | exact x_r_rf _) rfl ?_
    refine go_getfield (pc' := 9) d_Nod_nodeAt_6 c_Nod 2 (by decide) t_45 (by first | assumption | exact x_up_self _ _ _ | exact x_nw_self _ _ _ | (rw [x_up_ne (by first | omega | (simp only [x_up, x_nw]; omega))]; first | assumption | exact x_up_self _ _ _ | (rw [x_up_ne (by first | omega | (simp only [x_up, x_nw]; omega))]; first | assumption | exact x_up_self _ _ _)) | (rw [x_nw_ne (by first | omega | (simp only [x_up, x_nw]; omega))]; first | assumption | exact x_up_self _ _ _ | (rw [x_up_ne (by first | omega | (simp only [x_up, x_nw]; omega))]; assumption))) (by rfl) rfl ?_
    refine go_alenN (pc' := 10) d_Nod_nodeAt_9 (by first | assumption | exact x_up_self _ _ _ | exact x_nw_self _ _ _ | (rw [x_up_ne (by first | omega | (simp only [x_up, x_nw]; omega))]; first | assumption | exact x_up_self _ _ _ | (rw [x_up_ne (by first | omega | (simp only [x_up, x_nw]; omega))]; first | assumption | exact x_up_self _ _ _)) | (rw [x_nw_ne (by first | omega | (simp only [x_up, x_nw]; omega))]; first | assumption | exact x_up_self _ _ _ | (rw [x_up_ne (by first | omega | (simp only [x_up, x_nw]; omega))]; assumption))) (by rfl) rfl ?_
    refine go_icmp_geN (tgt := 22) (pc' := 13) d_Nod_nodeAt_10 (by decide) rfl (by omega) (by omega) (fun hc => ?_) (fun hc => ?_)
    · refine go_null (pc' := 23) d_Nod_nodeAt_22 rfl ?_
      rw [if_neg (by omega)]
      refine go_areturn d_Nod_nodeAt_23 rfl ⟨_, rfl⟩ (by first | rfl | exact x_r_rf _) ?_
      exact ⟨rfl, rfl⟩
    · refine go_aload_n (pc' := 14) (i := 0) d_Nod_nodeAt_13 rfl rfl (by first | rfl | exact x_r_rf _) rfl ?_
      refine go_getfield (pc' := 17) d_Nod_nodeAt_14 c_Nod 2 (by decide) t_45 (by first | assumption | exact x_up_self _ _ _ | exact x_nw_self _ _ _ | (rw [x_up_ne (by first | omega | (simp only [x_up, x_nw]; omega))]; first | assumption | exact x_up_self _ _ _ | (rw [x_up_ne (by first | omega | (simp only [x_up, x_nw]; omega))]; first | assumption | exact x_up_self _ _ _)) | (rw [x_nw_ne (by first | omega | (simp only [x_up, x_nw]; omega))]; first | assumption | exact x_up_self _ _ _ | (rw [x_up_ne (by first | omega | (simp only [x_up, x_nw]; omega))]; assumption))) (by rfl) rfl ?_
      refine go_iload_n (pc' := 18) (i := 1) d_Nod_nodeAt_17 rfl rfl rfl ?_
      refine go_aaldN (pc' := 19) d_Nod_nodeAt_18 (by first | assumption | exact x_up_self _ _ _ | exact x_nw_self _ _ _ | (rw [x_up_ne (by first | omega | (simp only [x_up, x_nw]; omega))]; first | assumption | exact x_up_self _ _ _ | (rw [x_up_ne (by first | omega | (simp only [x_up, x_nw]; omega))]; first | assumption | exact x_up_self _ _ _)) | (rw [x_nw_ne (by first | omega | (simp only [x_up, x_nw]; omega))]; first | assumption | exact x_up_self _ _ _ | (rw [x_up_ne (by first | omega | (simp only [x_up, x_nw]; omega))]; assumption))) (by rfl) (by first | assumption | omega | (simp only [x_up, x_nw]; omega)) (by first | assumption | omega | (simp only [x_up, x_nw]; omega)) rfl ?_
      refine go_goto (tgt := 23) d_Nod_nodeAt_19 (by decide) ?_
      rw [if_pos (by omega)]
      refine go_areturn d_Nod_nodeAt_23 rfl ⟨_, rfl⟩ (by first | rfl | exact x_r_rf _) ?_
      exact ⟨rfl, rfl⟩
end NA
end
section
/-- the first of r places from j on whose entry has this key -/
def q_pl (es : Nat → Option Nat) (kf : Nat → Int32) (key : Int32) : Nat → Nat → Option Nat
  | 0, _ => none
  | r + 1, j => match es j with
    | some e => if kf e = key then some j else q_pl es kf key r (j + 1)
    | none => q_pl es kf key r (j + 1)
theorem q_pl_lt (es : Nat → Option Nat) (kf : Nat → Int32) (key : Int32) : ∀ (r j i : Nat), q_pl es kf key r j = some i → j ≤ i ∧ i < j + r
  | 0, j, i, h => by cases h
  | r + 1, j, i, h => by
    unfold q_pl at h
    split at h
    · split at h
      · cases h; omega
      · have := q_pl_lt es kf key r (j + 1) i h
        omega
    · have := q_pl_lt es kf key r (j + 1) i h
      omega
def q_ix (o : Option Nat) : Int32 := match o with
  | some j => nI j
  | none => -1
/-- the one entry, if there is no more than one -/
def q_on (es : Nat → Option Nat) : Option Nat → Nat → Nat → Option Nat
  | acc, 0, _ => acc
  | acc, r + 1, j => match es j, acc with
    | some _, some _ => none
    | some e, none => q_on es (some e) r (j + 1)
    | none, acc => q_on es acc r (j + 1)
section NB
variable {K : x_K} {d : Nat} {h : x_H} {a : Nat} {g : Int32} {n k : Nat} {es ns : Nat → Option Nat}
theorem s_placeInBag (hN : Nd h a g n es k ns) (hn : n ≤ 6) {kf : Nat → Int32} (hE : ∀ j, j < n → ∀ e, es j = some e → ∃ v, Et h e (kf e) v) (key : Int32) :
    Go K M_Nod_placeInBag d 0 [some (.ref a), some (.int key), none] [] h (x_is (some (.int (q_ix (q_pl es kf key n 0)))) h) := by
  obtain ⟨h0, h1, h2⟩ := hN
  have loop : ∀ r j, j + r = n → Go K M_Nod_placeInBag d 2 [some (.ref a), some (.int key), some (.int (nI j))] [] h (x_is (some (.int (q_ix (q_pl es kf key r j)))) h) := by
    intro r
    induction r with
    | zero =>
      intro j hj
      refine go_iload_n (pc' := 3) (i := 2) d_Nod_placeInBag_2 rfl rfl rfl ?_
      refine go_aload_n (pc' := 4) (i := 0) d_Nod_placeInBag_3 rfl rfl (by first | rfl | exact x_r_rf _) rfl ?_
      refine go_getfield (pc' := 7) d_Nod_placeInBag_4 c_Nod 1 (by decide) t_42 (by first | assumption | exact x_up_self _ _ _ | exact x_nw_self _ _ _ | (rw [x_up_ne (by first | omega | (simp only [x_up, x_nw]; omega))]; first | assumption | exact x_up_self _ _ _ | (rw [x_up_ne (by first | omega | (simp only [x_up, x_nw]; omega))]; first | assumption | exact x_up_self _ _ _)) | (rw [x_nw_ne (by first | omega | (simp only [x_up, x_nw]; omega))]; first | assumption | exact x_up_self _ _ _ | (rw [x_up_ne (by first | omega | (simp only [x_up, x_nw]; omega))]; assumption))) (by rfl) rfl ?_
      refine go_alenN (pc' := 8) d_Nod_placeInBag_7 (by first | assumption | exact x_up_self _ _ _ | exact x_nw_self _ _ _ | (rw [x_up_ne (by first | omega | (simp only [x_up, x_nw]; omega))]; first | assumption | exact x_up_self _ _ _ | (rw [x_up_ne (by first | omega | (simp only [x_up, x_nw]; omega))]; first | assumption | exact x_up_self _ _ _)) | (rw [x_nw_ne (by first | omega | (simp only [x_up, x_nw]; omega))]; first | assumption | exact x_up_self _ _ _ | (rw [x_up_ne (by first | omega | (simp only [x_up, x_nw]; omega))]; assumption))) (by rfl) rfl ?_
      refine go_icmp_geN (tgt := 41) (pc' := 11) d_Nod_placeInBag_8 (by decide) rfl (by omega) (by omega) (fun hc => ?_) (fun hc => ?_)
      · refine go_iconst (pc' := 42) (v := (-1)) d_Nod_placeInBag_41 (by decide) rfl ?_
        refine go_ireturn d_Nod_placeInBag_42 rfl (by rfl) ?_
        exact ⟨rfl, rfl⟩
      · omega
    | succ r ih =>
      intro j hj
      refine go_iload_n (pc' := 3) (i := 2) d_Nod_placeInBag_2 rfl rfl rfl ?_
      refine go_aload_n (pc' := 4) (i := 0) d_Nod_placeInBag_3 rfl rfl (by first | rfl | exact x_r_rf _) rfl ?_
      refine go_getfield (pc' := 7) d_Nod_placeInBag_4 c_Nod 1 (by decide) t_42 (by first | assumption | exact x_up_self _ _ _ | exact x_nw_self _ _ _ | (rw [x_up_ne (by first | omega | (simp only [x_up, x_nw]; omega))]; first | assumption | exact x_up_self _ _ _ | (rw [x_up_ne (by first | omega | (simp only [x_up, x_nw]; omega))]; first | assumption | exact x_up_self _ _ _)) | (rw [x_nw_ne (by first | omega | (simp only [x_up, x_nw]; omega))]; first | assumption | exact x_up_self _ _ _ | (rw [x_up_ne (by first | omega | (simp only [x_up, x_nw]; omega))]; assumption))) (by rfl) rfl ?_
      refine go_alenN (pc' := 8) d_Nod_placeInBag_7 (by first | assumption | exact x_up_self _ _ _ | exact x_nw_self _ _ _ | (rw [x_up_ne (by first | omega | (simp only [x_up, x_nw]; omega))]; first | assumption | exact x_up_self _ _ _ | (rw [x_up_ne (by first | omega | (simp only [x_up, x_nw]; omega))]; first | assumption | exact x_up_self _ _ _)) | (rw [x_nw_ne (by first | omega | (simp only [x_up, x_nw]; omega))]; first | assumption | exact x_up_self _ _ _ | (rw [x_up_ne (by first | omega | (simp only [x_up, x_nw]; omega))]; assumption))) (by rfl) rfl ?_
      refine go_icmp_geN (tgt := 41) (pc' := 11) d_Nod_placeInBag_8 (by decide) rfl (by omega) (by omega) (fun hc => ?_) (fun hc => ?_)
      · omega
      · refine go_aload_n (pc' := 12) (i := 0) d_Nod_placeInBag_11 rfl rfl (by first | rfl | exact x_r_rf _) rfl ?_
        refine go_getfield (pc' := 15) d_Nod_placeInBag_12 c_Nod 1 (by decide) t_42 (by first | assumption | exact x_up_self _ _ _ | exact x_nw_self _ _ _ | (rw [x_up_ne (by first | omega | (simp only [x_up, x_nw]; omega))]; first | assumption | exact x_up_self _ _ _ | (rw [x_up_ne (by first | omega | (simp only [x_up, x_nw]; omega))]; first | assumption | exact x_up_self _ _ _)) | (rw [x_nw_ne (by first | omega | (simp only [x_up, x_nw]; omega))]; first | assumption | exact x_up_self _ _ _ | (rw [x_up_ne (by first | omega | (simp only [x_up, x_nw]; omega))]; assumption))) (by rfl) rfl ?_
        refine go_iload_n (pc' := 16) (i := 2) d_Nod_placeInBag_15 rfl rfl rfl ?_
        refine go_aaldN (pc' := 17) d_Nod_placeInBag_16 (by first | assumption | exact x_up_self _ _ _ | exact x_nw_self _ _ _ | (rw [x_up_ne (by first | omega | (simp only [x_up, x_nw]; omega))]; first | assumption | exact x_up_self _ _ _ | (rw [x_up_ne (by first | omega | (simp only [x_up, x_nw]; omega))]; first | assumption | exact x_up_self _ _ _)) | (rw [x_nw_ne (by first | omega | (simp only [x_up, x_nw]; omega))]; first | assumption | exact x_up_self _ _ _ | (rw [x_up_ne (by first | omega | (simp only [x_up, x_nw]; omega))]; assumption))) (by rfl) (by first | assumption | omega | (simp only [x_up, x_nw]; omega)) (by first | assumption | omega | (simp only [x_up, x_nw]; omega)) rfl ?_
        refine go_ifnull (tgt := 35) (pc' := 20) d_Nod_placeInBag_17 (by decide) rfl (fun hc => ?_) (fun b hc => ?_)
        · refine go_iinc (pc' := 38) (i := 2) d_Nod_placeInBag_35 rfl (x_i1 _) (by decide) (x_s2 (by first | rfl | exact x_k_rf _)) rfl ?_
          refine go_goto (tgt := 2) d_Nod_placeInBag_38 (by decide) ?_
          have e : q_pl es kf key (r + 1) j = q_pl es kf key r (j + 1) := by simp [q_pl, hc]
          rw [e]
          exact ih (j + 1) (by omega)
        · refine go_aload_n (pc' := 21) (i := 0) d_Nod_placeInBag_20 rfl rfl (by first | rfl | exact x_r_rf _) rfl ?_
          refine go_getfield (pc' := 24) d_Nod_placeInBag_21 c_Nod 1 (by decide) t_42 (by first | assumption | exact x_up_self _ _ _ | exact x_nw_self _ _ _ | (rw [x_up_ne (by first | omega | (simp only [x_up, x_nw]; omega))]; first | assumption | exact x_up_self _ _ _ | (rw [x_up_ne (by first | omega | (simp only [x_up, x_nw]; omega))]; first | assumption | exact x_up_self _ _ _)) | (rw [x_nw_ne (by first | omega | (simp only [x_up, x_nw]; omega))]; first | assumption | exact x_up_self _ _ _ | (rw [x_up_ne (by first | omega | (simp only [x_up, x_nw]; omega))]; assumption))) (by rfl) rfl ?_
          refine go_iload_n (pc' := 25) (i := 2) d_Nod_placeInBag_24 rfl rfl rfl ?_
          refine go_aaldN (pc' := 26) d_Nod_placeInBag_25 (by first | assumption | exact x_up_self _ _ _ | exact x_nw_self _ _ _ | (rw [x_up_ne (by first | omega | (simp only [x_up, x_nw]; omega))]; first | assumption | exact x_up_self _ _ _ | (rw [x_up_ne (by first | omega | (simp only [x_up, x_nw]; omega))]; first | assumption | exact x_up_self _ _ _)) | (rw [x_nw_ne (by first | omega | (simp only [x_up, x_nw]; omega))]; first | assumption | exact x_up_self _ _ _ | (rw [x_up_ne (by first | omega | (simp only [x_up, x_nw]; omega))]; assumption))) (by rfl) (by first | assumption | omega | (simp only [x_up, x_nw]; omega)) (by first | assumption | omega | (simp only [x_up, x_nw]; omega)) rfl ?_
          rw [hc]
          obtain ⟨v, hv⟩ := hE j (by omega) b hc
          unfold Et at hv
          show Go K M_Nod_placeInBag d 26 _ [.ref b] h _
          refine go_getfield (pc' := 29) d_Nod_placeInBag_26 c_Ent 0 (by decide) t_276 (by first | assumption | exact x_up_self _ _ _ | exact x_nw_self _ _ _ | (rw [x_up_ne (by first | omega | (simp only [x_up, x_nw]; omega))]; first | assumption | exact x_up_self _ _ _ | (rw [x_up_ne (by first | omega | (simp only [x_up, x_nw]; omega))]; first | assumption | exact x_up_self _ _ _)) | (rw [x_nw_ne (by first | omega | (simp only [x_up, x_nw]; omega))]; first | assumption | exact x_up_self _ _ _ | (rw [x_up_ne (by first | omega | (simp only [x_up, x_nw]; omega))]; assumption))) (by rfl) rfl ?_
          refine go_iload_n (pc' := 30) (i := 1) d_Nod_placeInBag_29 rfl rfl rfl ?_
          refine go_icmp_ne (tgt := 35) (pc' := 33) d_Nod_placeInBag_30 (by decide) rfl (fun hc => ?_) (fun hc => ?_)
          · refine go_iinc (pc' := 38) (i := 2) d_Nod_placeInBag_35 rfl (x_i1 _) (by decide) (x_s2 (by first | rfl | exact x_k_rf _)) rfl ?_
            refine go_goto (tgt := 2) d_Nod_placeInBag_38 (by decide) ?_
            have e : q_pl es kf key (r + 1) j = q_pl es kf key r (j + 1) := by simp [q_pl, hc, *]
            rw [e]
            exact ih (j + 1) (by omega)
          · refine go_iload_n (pc' := 34) (i := 2) d_Nod_placeInBag_33 rfl rfl rfl ?_
            have e : q_pl es kf key (r + 1) j = some j := by simp [q_pl, hc, *]
            rw [e]
            refine go_ireturn d_Nod_placeInBag_34 rfl (by rfl) ?_
            exact ⟨rfl, rfl⟩
  refine go_iconst (pc' := 1) (v := (nI 0)) d_Nod_placeInBag_0 (by decide) rfl ?_
  refine go_istore_n (pc' := 2) (i := 2) d_Nod_placeInBag_1 rfl (by decide) (x_s2 (by first | rfl | exact x_k_rf _)) rfl ?_
  exact loop n 0 (by omega)
theorem s_onlyEntry (hN : Nd h a g n es k ns) (hn : n ≤ 6) (hk : k ≤ 6) : Go K M_Nod_onlyEntry d 0 [some (.ref a), none, none] [] h
    (x_is (some (va_rf (if q_ct ns k = 0 then q_on es none n 0 else none))) h) := by
  obtain ⟨h0, h1, h2⟩ := hN
  have loop2 : ∀ r j acc, j + r = n → Go K M_Nod_onlyEntry d 32 [some (.ref a), some (va_rf acc), some (.int (nI j))] [] h (x_is (some (va_rf (q_on es acc r j))) h) := by
    intro r
    induction r with
    | zero =>
      intro j acc hj
      refine go_iload_n (pc' := 33) (i := 2) d_Nod_onlyEntry_32 rfl rfl rfl ?_
      refine go_aload_n (pc' := 34) (i := 0) d_Nod_onlyEntry_33 rfl rfl (by first | rfl | exact x_r_rf _) rfl ?_
      refine go_getfield (pc' := 37) d_Nod_onlyEntry_34 c_Nod 1 (by decide) t_42 (by first | assumption | exact x_up_self _ _ _ | exact x_nw_self _ _ _ | (rw [x_up_ne (by first | omega | (simp only [x_up, x_nw]; omega))]; first | assumption | exact x_up_self _ _ _ | (rw [x_up_ne (by first | omega | (simp only [x_up, x_nw]; omega))]; first | assumption | exact x_up_self _ _ _)) | (rw [x_nw_ne (by first | omega | (simp only [x_up, x_nw]; omega))]; first | assumption | exact x_up_self _ _ _ | (rw [x_up_ne (by first | omega | (simp only [x_up, x_nw]; omega))]; assumption))) (by rfl) rfl ?_
      refine go_alenN (pc' := 38) d_Nod_onlyEntry_37 (by first | assumption | exact x_up_self _ _ _ | exact x_nw_self _ _ _ | (rw [x_up_ne (by first | omega | (simp only [x_up, x_nw]; omega))]; first | assumption | exact x_up_self _ _ _ | (rw [x_up_ne (by first | omega | (simp only [x_up, x_nw]; omega))]; first | assumption | exact x_up_self _ _ _)) | (rw [x_nw_ne (by first | omega | (simp only [x_up, x_nw]; omega))]; first | assumption | exact x_up_self _ _ _ | (rw [x_up_ne (by first | omega | (simp only [x_up, x_nw]; omega))]; assumption))) (by rfl) rfl ?_
      refine go_icmp_geN (tgt := 82) (pc' := 41) d_Nod_onlyEntry_38 (by decide) rfl (by omega) (by omega) (fun hc => ?_) (fun hc => ?_)
      · refine go_aload_n (pc' := 83) (i := 1) d_Nod_onlyEntry_82 rfl rfl (by first | rfl | exact x_r_rf _) rfl ?_
        refine go_areturn d_Nod_onlyEntry_83 rfl ⟨_, rfl⟩ (by first | rfl | exact x_r_rf _) ?_
        exact ⟨rfl, rfl⟩
      · omega
    | succ r ih =>
      intro j acc hj
      refine go_iload_n (pc' := 33) (i := 2) d_Nod_onlyEntry_32 rfl rfl rfl ?_
      refine go_aload_n (pc' := 34) (i := 0) d_Nod_onlyEntry_33 rfl rfl (by first | rfl | exact x_r_rf _) rfl ?_
      refine go_getfield (pc' := 37) d_Nod_onlyEntry_34 c_Nod 1 (by decide) t_42 (by first | assumption | exact x_up_self _ _ _ | exact x_nw_self _ _ _ | (rw [x_up_ne (by first | omega | (simp only [x_up, x_nw]; omega))]; first | assumption | exact x_up_self _ _ _ | (rw [x_up_ne (by first | omega | (simp only [x_up, x_nw]; omega))]; first | assumption | exact x_up_self _ _ _)) | (rw [x_nw_ne (by first | omega | (simp only [x_up, x_nw]; omega))]; first | assumption | exact x_up_self _ _ _ | (rw [x_up_ne (by first | omega | (simp only [x_up, x_nw]; omega))]; assumption))) (by rfl) rfl ?_
      refine go_alenN (pc' := 38) d_Nod_onlyEntry_37 (by first | assumption | exact x_up_self _ _ _ | exact x_nw_self _ _ _ | (rw [x_up_ne (by first | omega | (simp only [x_up, x_nw]; omega))]; first | assumption | exact x_up_self _ _ _ | (rw [x_up_ne (by first | omega | (simp only [x_up, x_nw]; omega))]; first | assumption | exact x_up_self _ _ _)) | (rw [x_nw_ne (by first | omega | (simp only [x_up, x_nw]; omega))]; first | assumption | exact x_up_self _ _ _ | (rw [x_up_ne (by first | omega | (simp only [x_up, x_nw]; omega))]; assumption))) (by rfl) rfl ?_
      refine go_icmp_geN (tgt := 82) (pc' := 41) d_Nod_onlyEntry_38 (by decide) rfl (by omega) (by omega) (fun hc => ?_) (fun hc => ?_)
      · omega
      · refine go_aload_n (pc' := 42) (i := 0) d_Nod_onlyEntry_41 rfl rfl (by first | rfl | exact x_r_rf _) rfl ?_
        refine go_getfield (pc' := 45) d_Nod_onlyEntry_42 c_Nod 1 (by decide) t_42 (by first | assumption | exact x_up_self _ _ _ | exact x_nw_self _ _ _ | (rw [x_up_ne (by first | omega | (simp only [x_up, x_nw]; omega))]; first | assumption | exact x_up_self _ _ _ | (rw [x_up_ne (by first | omega | (simp only [x_up, x_nw]; omega))]; first | assumption | exact x_up_self _ _ _)) | (rw [x_nw_ne (by first | omega | (simp only [x_up, x_nw]; omega))]; first | assumption | exact x_up_self _ _ _ | (rw [x_up_ne (by first | omega | (simp only [x_up, x_nw]; omega))]; assumption))) (by rfl) rfl ?_
        refine go_iload_n (pc' := 46) (i := 2) d_Nod_onlyEntry_45 rfl rfl rfl ?_
        refine go_aaldN (pc' := 47) d_Nod_onlyEntry_46 (by first | assumption | exact x_up_self _ _ _ | exact x_nw_self _ _ _ | (rw [x_up_ne (by first | omega | (simp only [x_up, x_nw]; omega))]; first | assumption | exact x_up_self _ _ _ | (rw [x_up_ne (by first | omega | (simp only [x_up, x_nw]; omega))]; first | assumption | exact x_up_self _ _ _)) | (rw [x_nw_ne (by first | omega | (simp only [x_up, x_nw]; omega))]; first | assumption | exact x_up_self _ _ _ | (rw [x_up_ne (by first | omega | (simp only [x_up, x_nw]; omega))]; assumption))) (by rfl) (by first | assumption | omega | (simp only [x_up, x_nw]; omega)) (by first | assumption | omega | (simp only [x_up, x_nw]; omega)) rfl ?_
        refine go_ifnull (tgt := 56) (pc' := 50) d_Nod_onlyEntry_47 (by decide) rfl (fun hc => ?_) (fun b hc => ?_)
        · refine go_aload_n (pc' := 57) (i := 0) d_Nod_onlyEntry_56 rfl rfl (by first | rfl | exact x_r_rf _) rfl ?_
          refine go_getfield (pc' := 60) d_Nod_onlyEntry_57 c_Nod 1 (by decide) t_42 (by first | assumption | exact x_up_self _ _ _ | exact x_nw_self _ _ _ | (rw [x_up_ne (by first | omega | (simp only [x_up, x_nw]; omega))]; first | assumption | exact x_up_self _ _ _ | (rw [x_up_ne (by first | omega | (simp only [x_up, x_nw]; omega))]; first | assumption | exact x_up_self _ _ _)) | (rw [x_nw_ne (by first | omega | (simp only [x_up, x_nw]; omega))]; first | assumption | exact x_up_self _ _ _ | (rw [x_up_ne (by first | omega | (simp only [x_up, x_nw]; omega))]; assumption))) (by rfl) rfl ?_
          refine go_iload_n (pc' := 61) (i := 2) d_Nod_onlyEntry_60 rfl rfl rfl ?_
          refine go_aaldN (pc' := 62) d_Nod_onlyEntry_61 (by first | assumption | exact x_up_self _ _ _ | exact x_nw_self _ _ _ | (rw [x_up_ne (by first | omega | (simp only [x_up, x_nw]; omega))]; first | assumption | exact x_up_self _ _ _ | (rw [x_up_ne (by first | omega | (simp only [x_up, x_nw]; omega))]; first | assumption | exact x_up_self _ _ _)) | (rw [x_nw_ne (by first | omega | (simp only [x_up, x_nw]; omega))]; first | assumption | exact x_up_self _ _ _ | (rw [x_up_ne (by first | omega | (simp only [x_up, x_nw]; omega))]; assumption))) (by rfl) (by first | assumption | omega | (simp only [x_up, x_nw]; omega)) (by first | assumption | omega | (simp only [x_up, x_nw]; omega)) rfl ?_
          refine go_ifnull (tgt := 74) (pc' := 65) d_Nod_onlyEntry_62 (by decide) rfl (fun hc => ?_) (fun b hc => ?_)
          · refine go_aload_n (pc' := 75) (i := 1) d_Nod_onlyEntry_74 rfl rfl (by first | rfl | exact x_r_rf _) rfl ?_
            refine go_astore_n (pc' := 76) (i := 1) d_Nod_onlyEntry_75 rfl (by decide) (by first | rfl | exact x_r_rf _) (x_s1 (by first | rfl | exact x_k_rf _)) rfl ?_
            refine go_iinc (pc' := 79) (i := 2) d_Nod_onlyEntry_76 rfl (x_i1 _) (by decide) (x_s2 (by first | rfl | exact x_k_rf _)) rfl ?_
            refine go_goto (tgt := 32) d_Nod_onlyEntry_79 (by decide) ?_
            have e : q_on es acc (r + 1) j = q_on es acc r (j + 1) := by simp [q_on, hc]
            rw [e]
            exact ih (j + 1) acc (by omega)
          · simp_all
        · refine go_aload_n (pc' := 51) (i := 1) d_Nod_onlyEntry_50 rfl rfl (by first | rfl | exact x_r_rf _) rfl ?_
          cases acc with
          | none =>
            refine go_ifnull_n (tgt := 56) d_Nod_onlyEntry_51 (by decide) ?_
            refine go_aload_n (pc' := 57) (i := 0) d_Nod_onlyEntry_56 rfl rfl (by first | rfl | exact x_r_rf _) rfl ?_
            refine go_getfield (pc' := 60) d_Nod_onlyEntry_57 c_Nod 1 (by decide) t_42 (by first | assumption | exact x_up_self _ _ _ | exact x_nw_self _ _ _ | (rw [x_up_ne (by first | omega | (simp only [x_up, x_nw]; omega))]; first | assumption | exact x_up_self _ _ _ | (rw [x_up_ne (by first | omega | (simp only [x_up, x_nw]; omega))]; first | assumption | exact x_up_self _ _ _)) | (rw [x_nw_ne (by first | omega | (simp only [x_up, x_nw]; omega))]; first | assumption | exact x_up_self _ _ _ | (rw [x_up_ne (by first | omega | (simp only [x_up, x_nw]; omega))]; assumption))) (by rfl) rfl ?_
            refine go_iload_n (pc' := 61) (i := 2) d_Nod_onlyEntry_60 rfl rfl rfl ?_
            refine go_aaldN (pc' := 62) d_Nod_onlyEntry_61 (by first | assumption | exact x_up_self _ _ _ | exact x_nw_self _ _ _ | (rw [x_up_ne (by first | omega | (simp only [x_up, x_nw]; omega))]; first | assumption | exact x_up_self _ _ _ | (rw [x_up_ne (by first | omega | (simp only [x_up, x_nw]; omega))]; first | assumption | exact x_up_self _ _ _)) | (rw [x_nw_ne (by first | omega | (simp only [x_up, x_nw]; omega))]; first | assumption | exact x_up_self _ _ _ | (rw [x_up_ne (by first | omega | (simp only [x_up, x_nw]; omega))]; assumption))) (by rfl) (by first | assumption | omega | (simp only [x_up, x_nw]; omega)) (by first | assumption | omega | (simp only [x_up, x_nw]; omega)) rfl ?_
            rw [hc]
            refine go_ifnull_r (pc' := 65) d_Nod_onlyEntry_62 rfl ?_
            refine go_aload_n (pc' := 66) (i := 0) d_Nod_onlyEntry_65 rfl rfl (by first | rfl | exact x_r_rf _) rfl ?_
            refine go_getfield (pc' := 69) d_Nod_onlyEntry_66 c_Nod 1 (by decide) t_42 (by first | assumption | exact x_up_self _ _ _ | exact x_nw_self _ _ _ | (rw [x_up_ne (by first | omega | (simp only [x_up, x_nw]; omega))]; first | assumption | exact x_up_self _ _ _ | (rw [x_up_ne (by first | omega | (simp only [x_up, x_nw]; omega))]; first | assumption | exact x_up_self _ _ _)) | (rw [x_nw_ne (by first | omega | (simp only [x_up, x_nw]; omega))]; first | assumption | exact x_up_self _ _ _ | (rw [x_up_ne (by first | omega | (simp only [x_up, x_nw]; omega))]; assumption))) (by rfl) rfl ?_
            refine go_iload_n (pc' := 70) (i := 2) d_Nod_onlyEntry_69 rfl rfl rfl ?_
            refine go_aaldN (pc' := 71) d_Nod_onlyEntry_70 (by first | assumption | exact x_up_self _ _ _ | exact x_nw_self _ _ _ | (rw [x_up_ne (by first | omega | (simp only [x_up, x_nw]; omega))]; first | assumption | exact x_up_self _ _ _ | (rw [x_up_ne (by first | omega | (simp only [x_up, x_nw]; omega))]; first | assumption | exact x_up_self _ _ _)) | (rw [x_nw_ne (by first | omega | (simp only [x_up, x_nw]; omega))]; first | assumption | exact x_up_self _ _ _ | (rw [x_up_ne (by first | omega | (simp only [x_up, x_nw]; omega))]; assumption))) (by rfl) (by first | assumption | omega | (simp only [x_up, x_nw]; omega)) (by first | assumption | omega | (simp only [x_up, x_nw]; omega)) rfl ?_
            refine go_goto (tgt := 75) d_Nod_onlyEntry_71 (by decide) ?_
            rw [hc]
            refine go_astore_n (pc' := 76) (i := 1) d_Nod_onlyEntry_75 rfl (by decide) (by first | rfl | exact x_r_rf _) (x_s1 (by first | rfl | exact x_k_rf _)) rfl ?_
            refine go_iinc (pc' := 79) (i := 2) d_Nod_onlyEntry_76 rfl (x_i1 _) (by decide) (x_s2 (by first | rfl | exact x_k_rf _)) rfl ?_
            refine go_goto (tgt := 32) d_Nod_onlyEntry_79 (by decide) ?_
            have e : q_on es none (r + 1) j = q_on es (some b) r (j + 1) := by simp [q_on, hc]
            rw [e]
            exact ih (j + 1) (some b) (by omega)
          | some c =>
            refine go_ifnull_r (pc' := 54) d_Nod_onlyEntry_51 rfl ?_
            refine go_null (pc' := 55) d_Nod_onlyEntry_54 rfl ?_
            have e : q_on es (some c) (r + 1) j = none := by simp [q_on, hc]
            rw [e]
            refine go_areturn d_Nod_onlyEntry_55 rfl ⟨_, rfl⟩ (by first | rfl | exact x_r_rf _) ?_
            exact ⟨rfl, rfl⟩
  have loop1 : ∀ r j, j + r = k → q_ct ns j = 0 → Go K M_Nod_onlyEntry d 2 [some (.ref a), some (.int (nI j)), none] [] h (x_is (some (va_rf (if q_ct ns k = 0 then q_on es none n 0 else none))) h) := by
    intro r
    induction r with
    | zero =>
      intro j hj hz
      have hjk : j = k := by omega
      subst hjk
      refine go_iload_n (pc' := 3) (i := 1) d_Nod_onlyEntry_2 rfl rfl rfl ?_
      refine go_aload_n (pc' := 4) (i := 0) d_Nod_onlyEntry_3 rfl rfl (by first | rfl | exact x_r_rf _) rfl ?_
      refine go_getfield (pc' := 7) d_Nod_onlyEntry_4 c_Nod 2 (by decide) t_45 (by first | assumption | exact x_up_self _ _ _ | exact x_nw_self _ _ _ | (rw [x_up_ne (by first | omega | (simp only [x_up, x_nw]; omega))]; first | assumption | exact x_up_self _ _ _ | (rw [x_up_ne (by first | omega | (simp only [x_up, x_nw]; omega))]; first | assumption | exact x_up_self _ _ _)) | (rw [x_nw_ne (by first | omega | (simp only [x_up, x_nw]; omega))]; first | assumption | exact x_up_self _ _ _ | (rw [x_up_ne (by first | omega | (simp only [x_up, x_nw]; omega))]; assumption))) (by rfl) rfl ?_
      refine go_alenN (pc' := 8) d_Nod_onlyEntry_7 (by first | assumption | exact x_up_self _ _ _ | exact x_nw_self _ _ _ | (rw [x_up_ne (by first | omega | (simp only [x_up, x_nw]; omega))]; first | assumption | exact x_up_self _ _ _ | (rw [x_up_ne (by first | omega | (simp only [x_up, x_nw]; omega))]; first | assumption | exact x_up_self _ _ _)) | (rw [x_nw_ne (by first | omega | (simp only [x_up, x_nw]; omega))]; first | assumption | exact x_up_self _ _ _ | (rw [x_up_ne (by first | omega | (simp only [x_up, x_nw]; omega))]; assumption))) (by rfl) rfl ?_
      refine go_icmp_geN (tgt := 28) (pc' := 11) d_Nod_onlyEntry_8 (by decide) rfl (by omega) (by omega) (fun hc => ?_) (fun hc => ?_)
      · refine go_null (pc' := 29) d_Nod_onlyEntry_28 rfl ?_
        refine go_astore_n (pc' := 30) (i := 1) d_Nod_onlyEntry_29 rfl (by decide) (by first | rfl | exact x_r_rf _) (x_s1 (by first | rfl | exact x_k_rf _)) rfl ?_
        refine go_iconst (pc' := 31) (v := (nI 0)) d_Nod_onlyEntry_30 (by decide) rfl ?_
        refine go_istore_n (pc' := 32) (i := 2) d_Nod_onlyEntry_31 rfl (by decide) (x_s2 (by first | rfl | exact x_k_rf _)) rfl ?_
        rw [if_pos hz]
        exact loop2 n 0 none (by omega)
      · omega
    | succ r ih =>
      intro j hj hz
      refine go_iload_n (pc' := 3) (i := 1) d_Nod_onlyEntry_2 rfl rfl rfl ?_
      refine go_aload_n (pc' := 4) (i := 0) d_Nod_onlyEntry_3 rfl rfl (by first | rfl | exact x_r_rf _) rfl ?_
      refine go_getfield (pc' := 7) d_Nod_onlyEntry_4 c_Nod 2 (by decide) t_45 (by first | assumption | exact x_up_self _ _ _ | exact x_nw_self _ _ _ | (rw [x_up_ne (by first | omega | (simp only [x_up, x_nw]; omega))]; first | assumption | exact x_up_self _ _ _ | (rw [x_up_ne (by first | omega | (simp only [x_up, x_nw]; omega))]; first | assumption | exact x_up_self _ _ _)) | (rw [x_nw_ne (by first | omega | (simp only [x_up, x_nw]; omega))]; first | assumption | exact x_up_self _ _ _ | (rw [x_up_ne (by first | omega | (simp only [x_up, x_nw]; omega))]; assumption))) (by rfl) rfl ?_
      refine go_alenN (pc' := 8) d_Nod_onlyEntry_7 (by first | assumption | exact x_up_self _ _ _ | exact x_nw_self _ _ _ | (rw [x_up_ne (by first | omega | (simp only [x_up, x_nw]; omega))]; first | assumption | exact x_up_self _ _ _ | (rw [x_up_ne (by first | omega | (simp only [x_up, x_nw]; omega))]; first | assumption | exact x_up_self _ _ _)) | (rw [x_nw_ne (by first | omega | (simp only [x_up, x_nw]; omega))]; first | assumption | exact x_up_self _ _ _ | (rw [x_up_ne (by first | omega | (simp only [x_up, x_nw]; omega))]; assumption))) (by rfl) rfl ?_
      refine go_icmp_geN (tgt := 28) (pc' := 11) d_Nod_onlyEntry_8 (by decide) rfl (by omega) (by omega) (fun hc => ?_) (fun hc => ?_)
      · omega
      · refine go_aload_n (pc' := 12) (i := 0) d_Nod_onlyEntry_11 rfl rfl (by first | rfl | exact x_r_rf _) rfl ?_
        refine go_getfield (pc' := 15) d_Nod_onlyEntry_12 c_Nod 2 (by decide) t_45 (by first | assumption | exact x_up_self _ _ _ | exact x_nw_self _ _ _ | (rw [x_up_ne (by first | omega | (simp only [x_up, x_nw]; omega))]; first | assumption | exact x_up_self _ _ _ | (rw [x_up_ne (by first | omega | (simp only [x_up, x_nw]; omega))]; first | assumption | exact x_up_self _ _ _)) | (rw [x_nw_ne (by first | omega | (simp only [x_up, x_nw]; omega))]; first | assumption | exact x_up_self _ _ _ | (rw [x_up_ne (by first | omega | (simp only [x_up, x_nw]; omega))]; assumption))) (by rfl) rfl ?_
        refine go_iload_n (pc' := 16) (i := 1) d_Nod_onlyEntry_15 rfl rfl rfl ?_
        refine go_aaldN (pc' := 17) d_Nod_onlyEntry_16 (by first | assumption | exact x_up_self _ _ _ | exact x_nw_self _ _ _ | (rw [x_up_ne (by first | omega | (simp only [x_up, x_nw]; omega))]; first | assumption | exact x_up_self _ _ _ | (rw [x_up_ne (by first | omega | (simp only [x_up, x_nw]; omega))]; first | assumption | exact x_up_self _ _ _)) | (rw [x_nw_ne (by first | omega | (simp only [x_up, x_nw]; omega))]; first | assumption | exact x_up_self _ _ _ | (rw [x_up_ne (by first | omega | (simp only [x_up, x_nw]; omega))]; assumption))) (by rfl) (by first | assumption | omega | (simp only [x_up, x_nw]; omega)) (by first | assumption | omega | (simp only [x_up, x_nw]; omega)) rfl ?_
        refine go_ifnull (tgt := 22) (pc' := 20) d_Nod_onlyEntry_17 (by decide) rfl (fun hc => ?_) (fun b hc => ?_)
        · refine go_iinc (pc' := 25) (i := 1) d_Nod_onlyEntry_22 rfl (x_i1 _) (by decide) (x_s1 (by first | rfl | exact x_k_rf _)) rfl ?_
          refine go_goto (tgt := 2) d_Nod_onlyEntry_25 (by decide) ?_
          exact ih (j + 1) (by omega) (by simp [q_ct, hc, hz])
        · refine go_null (pc' := 21) d_Nod_onlyEntry_20 rfl ?_
          have hpos : ∀ m, j < m → q_ct ns m ≠ 0 := by
            intro m
            induction m with
            | zero => intro q; omega
            | succ m ihm =>
              intro q
              by_cases hm : m = j
              · subst hm; simp [q_ct, hc]
              · have := ihm (by omega)
                unfold q_ct
                omega
          rw [if_neg (hpos k (by omega))]
          refine go_areturn d_Nod_onlyEntry_21 rfl ⟨_, rfl⟩ (by first | rfl | exact x_r_rf _) ?_
          exact ⟨rfl, rfl⟩
  refine go_iconst (pc' := 1) (v := (nI 0)) d_Nod_onlyEntry_0 (by decide) rfl ?_
  refine go_istore_n (pc' := 2) (i := 1) d_Nod_onlyEntry_1 rfl (by decide) (x_s1 (by first | rfl | exact x_k_rf _)) rfl ?_
  exact loop1 k 0 (by omega) rfl
theorem s_putInBag (hN : Nd h a g n es k ns) (hn : n ≤ 6) {kf : Nat → Int32} (hE : ∀ j, j < n → ∀ e, es j = some e → ∃ v, Et h e (kf e) v) {e : Nat} {key : Int32} {v : Int64} (he : Et h e key v) (hd : 1 ≤ d)
    {i : Nat} (hi : i = (match q_pl es kf key n 0 with | some j => j | none => q_ct es n)) (hin : i < n) :
    Go K M_Nod_putInBag d 0 [some (.ref a), some (.ref e), none, none] [] h (x_is none (x_up h (a + 1) (.inl (3, n, .inr (.inr (.inr (.inr (va_up es i (some e))))))))) := by
  have hN' := hN
  obtain ⟨h0, h1, h2⟩ := hN
  have he' := he
  unfold Et at he
  refine go_aload_n (pc' := 1) (i := 0) d_Nod_putInBag_0 rfl rfl (by first | rfl | exact x_r_rf _) rfl ?_
  refine go_aload_n (pc' := 2) (i := 1) d_Nod_putInBag_1 rfl rfl (by first | rfl | exact x_r_rf _) rfl ?_
  refine go_getfield (pc' := 5) d_Nod_putInBag_2 c_Ent 0 (by decide) t_276 (by first | assumption | exact x_up_self _ _ _ | exact x_nw_self _ _ _ | (rw [x_up_ne (by first | omega | (simp only [x_up, x_nw]; omega))]; first | assumption | exact x_up_self _ _ _ | (rw [x_up_ne (by first | omega | (simp only [x_up, x_nw]; omega))]; first | assumption | exact x_up_self _ _ _)) | (rw [x_nw_ne (by first | omega | (simp only [x_up, x_nw]; omega))]; first | assumption | exact x_up_self _ _ _ | (rw [x_up_ne (by first | omega | (simp only [x_up, x_nw]; omega))]; assumption))) (by rfl) rfl ?_
  refine go_callV (pc' := 8) (M' := M_Nod_placeInBag) (ci := 2) (r := (n_Nod, T_Nod, 3)) [_] d_Nod_putInBag_5 t_316 t_200 t_201 cd_Nod_placeInBag nm_Nod_placeInBag rfl (by rfl) (by first | assumption | exact x_up_self _ _ _ | exact x_nw_self _ _ _ | (rw [x_up_ne (by first | omega | (simp only [x_up, x_nw]; omega))]; first | assumption | exact x_up_self _ _ _ | (rw [x_up_ne (by first | omega | (simp only [x_up, x_nw]; omega))]; first | assumption | exact x_up_self _ _ _)) | (rw [x_nw_ne (by first | omega | (simp only [x_up, x_nw]; omega))]; first | assumption | exact x_up_self _ _ _ | (rw [x_up_ne (by first | omega | (simp only [x_up, x_nw]; omega))]; assumption))) rfl (Nat.le_of_ble_eq_true rfl) rfl (s_placeInBag (d := d - 1) hN' hn hE key) (by first | decide | omega) (Nat.le_of_ble_eq_true rfl) rfl (fun v hh hq => ?_) (fun q g hq => by cases hq.1)
  obtain ⟨e1, rfl⟩ := hq
  cases e1
  have fin : ∀ lv2 : Option Value, x_k lv2 = lv2 → Go K M_Nod_putInBag d 22 [some (.ref a), some (.ref e), lv2, none] [.int (nI i)] h (x_is none (x_up h (a + 1) (.inl (3, n, .inr (.inr (.inr (.inr (va_up es i (some e))))))))) := by
    intro lv2 hl2
    refine go_istore_n (pc' := 23) (i := 3) d_Nod_putInBag_22 rfl (by decide) (x_s3 hl2) rfl ?_
    refine go_iload_n (pc' := 24) (i := 3) d_Nod_putInBag_23 rfl rfl rfl ?_
    refine go_aload_n (pc' := 25) (i := 0) d_Nod_putInBag_24 rfl rfl (by first | rfl | exact x_r_rf _) rfl ?_
    refine go_getfield (pc' := 28) d_Nod_putInBag_25 c_Nod 1 (by decide) t_42 (by first | assumption | exact x_up_self _ _ _ | exact x_nw_self _ _ _ | (rw [x_up_ne (by first | omega | (simp only [x_up, x_nw]; omega))]; first | assumption | exact x_up_self _ _ _ | (rw [x_up_ne (by first | omega | (simp only [x_up, x_nw]; omega))]; first | assumption | exact x_up_self _ _ _)) | (rw [x_nw_ne (by first | omega | (simp only [x_up, x_nw]; omega))]; first | assumption | exact x_up_self _ _ _ | (rw [x_up_ne (by first | omega | (simp only [x_up, x_nw]; omega))]; assumption))) (by rfl) rfl ?_
    refine go_alenN (pc' := 29) d_Nod_putInBag_28 (by first | assumption | exact x_up_self _ _ _ | exact x_nw_self _ _ _ | (rw [x_up_ne (by first | omega | (simp only [x_up, x_nw]; omega))]; first | assumption | exact x_up_self _ _ _ | (rw [x_up_ne (by first | omega | (simp only [x_up, x_nw]; omega))]; first | assumption | exact x_up_self _ _ _)) | (rw [x_nw_ne (by first | omega | (simp only [x_up, x_nw]; omega))]; first | assumption | exact x_up_self _ _ _ | (rw [x_up_ne (by first | omega | (simp only [x_up, x_nw]; omega))]; assumption))) (by rfl) rfl ?_
    refine go_icmp_geN (tgt := 39) (pc' := 32) d_Nod_putInBag_29 (by decide) rfl (by omega) (by omega) (fun hc => ?_) (fun hc => ?_)
    · omega
    · refine go_aload_n (pc' := 33) (i := 0) d_Nod_putInBag_32 rfl rfl (by first | rfl | exact x_r_rf _) rfl ?_
      refine go_getfield (pc' := 36) d_Nod_putInBag_33 c_Nod 1 (by decide) t_42 (by first | assumption | exact x_up_self _ _ _ | exact x_nw_self _ _ _ | (rw [x_up_ne (by first | omega | (simp only [x_up, x_nw]; omega))]; first | assumption | exact x_up_self _ _ _ | (rw [x_up_ne (by first | omega | (simp only [x_up, x_nw]; omega))]; first | assumption | exact x_up_self _ _ _)) | (rw [x_nw_ne (by first | omega | (simp only [x_up, x_nw]; omega))]; first | assumption | exact x_up_self _ _ _ | (rw [x_up_ne (by first | omega | (simp only [x_up, x_nw]; omega))]; assumption))) (by rfl) rfl ?_
      refine go_iload_n (pc' := 37) (i := 3) d_Nod_putInBag_36 rfl rfl rfl ?_
      refine go_aload_n (pc' := 38) (i := 1) d_Nod_putInBag_37 rfl rfl (by first | rfl | exact x_r_rf _) rfl ?_
      refine go_aastR (pc' := 39) d_Nod_putInBag_38 (by assumption) (by assumption) (by rfl) (by rfl) (by omega) (by omega) rfl ?_
      refine go_return d_Nod_putInBag_39 rfl ?_
      exact ⟨rfl, rfl⟩
  cases hp : q_pl es kf key n 0 with
  | none =>
    rw [hp] at hi
    show Go K M_Nod_putInBag d 8 _ [.int (-1)] h _
    refine go_istore_n (pc' := 9) (i := 2) d_Nod_putInBag_8 rfl (by decide) (x_s2 (by first | rfl | exact x_k_rf _)) rfl ?_
    refine go_iload_n (pc' := 10) (i := 2) d_Nod_putInBag_9 rfl rfl rfl ?_
    refine go_iconst (pc' := 11) (v := (-1)) d_Nod_putInBag_10 (by decide) rfl ?_
    refine go_icmp_eq (tgt := 18) (pc' := 14) d_Nod_putInBag_11 (by decide) rfl (fun hc => ?_) (fun hc => ?_)
    · refine go_aload_n (pc' := 19) (i := 0) d_Nod_putInBag_18 rfl rfl (by first | rfl | exact x_r_rf _) rfl ?_
      refine go_callV (pc' := 22) (M' := M_Nod_countEntries) (ci := 2) (r := (n_Nod, T_Nod, 3)) [] d_Nod_putInBag_19 t_317 t_247 t_248 cd_Nod_countEntries nm_Nod_countEntries rfl (by rfl) (by first | assumption | exact x_up_self _ _ _ | exact x_nw_self _ _ _ | (rw [x_up_ne (by first | omega | (simp only [x_up, x_nw]; omega))]; first | assumption | exact x_up_self _ _ _ | (rw [x_up_ne (by first | omega | (simp only [x_up, x_nw]; omega))]; first | assumption | exact x_up_self _ _ _)) | (rw [x_nw_ne (by first | omega | (simp only [x_up, x_nw]; omega))]; first | assumption | exact x_up_self _ _ _ | (rw [x_up_ne (by first | omega | (simp only [x_up, x_nw]; omega))]; assumption))) rfl (Nat.le_of_ble_eq_true rfl) rfl (s_countEntries (d := d - 1) hN' hn) (by first | decide | omega) (Nat.le_of_ble_eq_true rfl) rfl (fun v hh hq => ?_) (fun q g hq => by cases hq.1)
      obtain ⟨e1, rfl⟩ := hq
      cases e1
      subst hi
      exact fin _ rfl
    · exact absurd rfl hc
  | some j =>
    rw [hp] at hi
    have hj := q_pl_lt es kf key n 0 j hp
    show Go K M_Nod_putInBag d 8 _ [.int (nI j)] h _
    refine go_istore_n (pc' := 9) (i := 2) d_Nod_putInBag_8 rfl (by decide) (x_s2 (by first | rfl | exact x_k_rf _)) rfl ?_
    refine go_iload_n (pc' := 10) (i := 2) d_Nod_putInBag_9 rfl rfl rfl ?_
    refine go_iconst (pc' := 11) (v := (-1)) d_Nod_putInBag_10 (by decide) rfl ?_
    refine go_icmp_eq (tgt := 18) (pc' := 14) d_Nod_putInBag_11 (by decide) rfl (fun hc => ?_) (fun hc => ?_)
    · exfalso
      have := congrArg Int32.toInt hc
      rw [nI_toInt (by omega)] at this
      have h2 : (-1 : Int32).toInt = -1 := by decide
      omega
    · refine go_iload_n (pc' := 15) (i := 2) d_Nod_putInBag_14 rfl rfl rfl ?_
      refine go_goto (tgt := 22) d_Nod_putInBag_15 (by decide) ?_
      subst hi
      exact fin _ rfl
end NB
end
section
section CA
variable {K : x_K} {d : Nat} {h : x_H} {a : Nat} {g : Int32} {n k : Nat} {es ns : Nat → Option Nat}
/-- a bag's entries when those from 'fr' up to 'at' have moved up -/
def q_sh (es : Nat → Option Nat) (n fr i : Nat) : Nat → Option Nat := fun j => if fr ≤ j ∧ j < i then (if j + 1 < n then es (j + 1) else none) else es j
theorem s_takeOutOfBag (hN : Nd h a g n es k ns) (hn : n ≤ 6) {kf : Nat → Int32} (hE : ∀ j, j < n → ∀ e, es j = some e → ∃ v, Et h e (kf e) v) (key : Int32) (hd : 1 ≤ d) {fr : Nat} (hfr : q_pl es kf key n 0 = some fr) :
    Go K M_Nod_takeOutOfBag d 0 [some (.ref a), some (.int key), none, none] [] h (x_is none (x_up h (a + 1) (.inl (3, n, .inr (.inr (.inr (.inr (q_sh es n fr n)))))))) := by
  have hN' := hN
  obtain ⟨h0, h1, h2⟩ := hN
  have hl := q_pl_lt es kf key n 0 fr hfr
  refine go_aload_n (pc' := 1) (i := 0) d_Nod_takeOutOfBag_0 rfl rfl (by first | rfl | exact x_r_rf _) rfl ?_
  refine go_iload_n (pc' := 2) (i := 1) d_Nod_takeOutOfBag_1 rfl rfl rfl ?_
  refine go_callV (pc' := 5) (M' := M_Nod_placeInBag) (ci := 2) (r := (n_Nod, T_Nod, 3)) [_] d_Nod_takeOutOfBag_2 t_316 t_200 t_201 cd_Nod_placeInBag nm_Nod_placeInBag rfl (by rfl) (by first | assumption | exact x_up_self _ _ _ | exact x_nw_self _ _ _ | (rw [x_up_ne (by first | omega | (simp only [x_up, x_nw]; omega))]; first | assumption | exact x_up_self _ _ _ | (rw [x_up_ne (by first | omega | (simp only [x_up, x_nw]; omega))]; first | assumption | exact x_up_self _ _ _)) | (rw [x_nw_ne (by first | omega | (simp only [x_up, x_nw]; omega))]; first | assumption | exact x_up_self _ _ _ | (rw [x_up_ne (by first | omega | (simp only [x_up, x_nw]; omega))]; assumption))) rfl (Nat.le_of_ble_eq_true rfl) rfl (s_placeInBag (d := d - 1) hN' hn hE key) (by first | decide | omega) (Nat.le_of_ble_eq_true rfl) rfl (fun v hh hq => ?_) (fun q g hq => by cases hq.1)
  obtain ⟨e1, rfl⟩ := hq
  cases e1
  rw [hfr]
  show Go K M_Nod_takeOutOfBag d 5 _ [.int (nI fr)] h _
  refine go_istore_n (pc' := 6) (i := 2) d_Nod_takeOutOfBag_5 rfl (by decide) (x_s2 (by first | rfl | exact x_k_rf _)) rfl ?_
  refine go_iload_n (pc' := 7) (i := 2) d_Nod_takeOutOfBag_6 rfl rfl rfl ?_
  refine go_iconst (pc' := 8) (v := (-1)) d_Nod_takeOutOfBag_7 (by decide) rfl ?_
  refine go_icmp_ne (tgt := 12) (pc' := 11) d_Nod_takeOutOfBag_8 (by decide) rfl (fun hc => ?_) (fun hc => ?_)
  · refine go_iload_n (pc' := 13) (i := 2) d_Nod_takeOutOfBag_12 rfl rfl rfl ?_
    refine go_istore_n (pc' := 14) (i := 3) d_Nod_takeOutOfBag_13 rfl (by decide) (x_s3 (by first | rfl | exact x_k_rf _)) rfl ?_
    have loop : ∀ r i, i + r = n → fr ≤ i → Go K M_Nod_takeOutOfBag d 14 [some (.ref a), some (.int key), some (.int (nI fr)), some (.int (nI i))] [] (x_up h (a + 1) (.inl (3, n, .inr (.inr (.inr (.inr (q_sh es n fr i)))))))
        (x_is none (x_up h (a + 1) (.inl (3, n, .inr (.inr (.inr (.inr (q_sh es n fr n)))))))) := by
      intro r
      induction r with
      | zero =>
        intro i hi hf
        have hin : i = n := by omega
        subst hin
        refine go_iload_n (pc' := 15) (i := 3) d_Nod_takeOutOfBag_14 rfl rfl rfl ?_
        refine go_aload_n (pc' := 16) (i := 0) d_Nod_takeOutOfBag_15 rfl rfl (by first | rfl | exact x_r_rf _) rfl ?_
        refine go_getfield (pc' := 19) d_Nod_takeOutOfBag_16 c_Nod 1 (by decide) t_42 (by first | assumption | exact x_up_self _ _ _ | exact x_nw_self _ _ _ | (rw [x_up_ne (by first | omega | (simp only [x_up, x_nw]; omega))]; first | assumption | exact x_up_self _ _ _ | (rw [x_up_ne (by first | omega | (simp only [x_up, x_nw]; omega))]; first | assumption | exact x_up_self _ _ _)) | (rw [x_nw_ne (by first | omega | (simp only [x_up, x_nw]; omega))]; first | assumption | exact x_up_self _ _ _ | (rw [x_up_ne (by first | omega | (simp only [x_up, x_nw]; omega))]; assumption))) (by rfl) rfl ?_
        refine go_alenN (pc' := 20) d_Nod_takeOutOfBag_19 (by first | assumption | exact x_up_self _ _ _ | exact x_nw_self _ _ _ | (rw [x_up_ne (by first | omega | (simp only [x_up, x_nw]; omega))]; first | assumption | exact x_up_self _ _ _ | (rw [x_up_ne (by first | omega | (simp only [x_up, x_nw]; omega))]; first | assumption | exact x_up_self _ _ _)) | (rw [x_nw_ne (by first | omega | (simp only [x_up, x_nw]; omega))]; first | assumption | exact x_up_self _ _ _ | (rw [x_up_ne (by first | omega | (simp only [x_up, x_nw]; omega))]; assumption))) (by rfl) rfl ?_
        refine go_icmp_geN (tgt := 42) (pc' := 23) d_Nod_takeOutOfBag_20 (by decide) rfl (by omega) (by omega) (fun hc => ?_) (fun hc => ?_)
        · refine go_return d_Nod_takeOutOfBag_42 rfl ?_
          exact ⟨rfl, rfl⟩
        · omega
      | succ r ih =>
        intro i hi hf
        refine go_iload_n (pc' := 15) (i := 3) d_Nod_takeOutOfBag_14 rfl rfl rfl ?_
        refine go_aload_n (pc' := 16) (i := 0) d_Nod_takeOutOfBag_15 rfl rfl (by first | rfl | exact x_r_rf _) rfl ?_
        refine go_getfield (pc' := 19) d_Nod_takeOutOfBag_16 c_Nod 1 (by decide) t_42 (by first | assumption | exact x_up_self _ _ _ | exact x_nw_self _ _ _ | (rw [x_up_ne (by first | omega | (simp only [x_up, x_nw]; omega))]; first | assumption | exact x_up_self _ _ _ | (rw [x_up_ne (by first | omega | (simp only [x_up, x_nw]; omega))]; first | assumption | exact x_up_self _ _ _)) | (rw [x_nw_ne (by first | omega | (simp only [x_up, x_nw]; omega))]; first | assumption | exact x_up_self _ _ _ | (rw [x_up_ne (by first | omega | (simp only [x_up, x_nw]; omega))]; assumption))) (by rfl) rfl ?_
        refine go_alenN (pc' := 20) d_Nod_takeOutOfBag_19 (by first | assumption | exact x_up_self _ _ _ | exact x_nw_self _ _ _ | (rw [x_up_ne (by first | omega | (simp only [x_up, x_nw]; omega))]; first | assumption | exact x_up_self _ _ _ | (rw [x_up_ne (by first | omega | (simp only [x_up, x_nw]; omega))]; first | assumption | exact x_up_self _ _ _)) | (rw [x_nw_ne (by first | omega | (simp only [x_up, x_nw]; omega))]; first | assumption | exact x_up_self _ _ _ | (rw [x_up_ne (by first | omega | (simp only [x_up, x_nw]; omega))]; assumption))) (by rfl) rfl ?_
        refine go_icmp_geN (tgt := 42) (pc' := 23) d_Nod_takeOutOfBag_20 (by decide) rfl (by omega) (by omega) (fun hc => ?_) (fun hc => ?_)
        · omega
        · refine go_aload_n (pc' := 24) (i := 0) d_Nod_takeOutOfBag_23 rfl rfl (by first | rfl | exact x_r_rf _) rfl ?_
          refine go_getfield (pc' := 27) d_Nod_takeOutOfBag_24 c_Nod 1 (by decide) t_42 (by first | assumption | exact x_up_self _ _ _ | exact x_nw_self _ _ _ | (rw [x_up_ne (by first | omega | (simp only [x_up, x_nw]; omega))]; first | assumption | exact x_up_self _ _ _ | (rw [x_up_ne (by first | omega | (simp only [x_up, x_nw]; omega))]; first | assumption | exact x_up_self _ _ _)) | (rw [x_nw_ne (by first | omega | (simp only [x_up, x_nw]; omega))]; first | assumption | exact x_up_self _ _ _ | (rw [x_up_ne (by first | omega | (simp only [x_up, x_nw]; omega))]; assumption))) (by rfl) rfl ?_
          refine go_iload_n (pc' := 28) (i := 3) d_Nod_takeOutOfBag_27 rfl rfl rfl ?_
          refine go_aload_n (pc' := 29) (i := 0) d_Nod_takeOutOfBag_28 rfl rfl (by first | rfl | exact x_r_rf _) rfl ?_
          refine go_iload_n (pc' := 30) (i := 3) d_Nod_takeOutOfBag_29 rfl rfl rfl ?_
          refine go_iconst (pc' := 31) (v := (nI 1)) d_Nod_takeOutOfBag_30 (by decide) rfl ?_
          refine go_iadd (pc' := 32) d_Nod_takeOutOfBag_31 rfl ?_
          rw [nI_add]
          have hNu : Nd (x_up h (a + 1) (.inl (3, n, .inr (.inr (.inr (.inr (q_sh es n fr i))))))) a _ n (q_sh es n fr i) k ns :=
            ⟨(x_up_ne (by omega)).trans h0, x_up_self _ _ _, (x_up_ne (by omega)).trans h2⟩
          refine go_callV (pc' := 35) (M' := M_Nod_entryAt) (ci := 2) (r := (n_Nod, T_Nod, 3)) [_] d_Nod_takeOutOfBag_32 t_358 t_296 t_297 cd_Nod_entryAt nm_Nod_entryAt rfl (by rfl) (by first | assumption | exact x_up_self _ _ _ | exact x_nw_self _ _ _ | (rw [x_up_ne (by first | omega | (simp only [x_up, x_nw]; omega))]; first | assumption | exact x_up_self _ _ _ | (rw [x_up_ne (by first | omega | (simp only [x_up, x_nw]; omega))]; first | assumption | exact x_up_self _ _ _)) | (rw [x_nw_ne (by first | omega | (simp only [x_up, x_nw]; omega))]; first | assumption | exact x_up_self _ _ _ | (rw [x_up_ne (by first | omega | (simp only [x_up, x_nw]; omega))]; assumption))) rfl (Nat.le_of_ble_eq_true rfl) rfl (s_entryAt (d := d - 1) hNu hn (j := i + 1) (by omega)) (by first | decide | omega) (Nat.le_of_ble_eq_true rfl) rfl (fun v hh hq => ?_) (fun q g hq => by cases hq.1)
          obtain ⟨e1, rfl⟩ := hq
          cases e1
          refine go_aastO' (pc' := 36) (ci := 1) (r := (n_Ent, T_Ent, 2)) d_Nod_takeOutOfBag_35 (x_up_self _ _ _) ?_ (by rfl) (by rfl) (by omega) (by omega) rfl ?_
          · intro b hb
            by_cases hlt : i + 1 < n
            · rw [if_pos hlt] at hb
              have hb' : es (i + 1) = some b := by
                unfold q_sh at hb
                rw [if_neg (by omega)] at hb
                exact hb
              obtain ⟨v, hv⟩ := hE (i + 1) hlt b hb'
              exact ⟨_, (x_up_ne (fun z => by rw [z] at hv; unfold Et at hv; rw [h1] at hv; cases hv)).trans hv⟩
            · rw [if_neg hlt] at hb; cases hb
          · rw [x_up_up]
            have e : va_up (q_sh es n fr i) i (if i + 1 < n then q_sh es n fr i (i + 1) else none) = q_sh es n fr (i + 1) := by
              funext j
              unfold va_up q_sh
              by_cases hj : j = i
              · subst hj
                have h4 : fr ≤ j ∧ j < j + 1 := ⟨hf, by omega⟩
                have h5 : ¬ (fr ≤ j + 1 ∧ j + 1 < j) := by omega
                simp only [h4, h5, if_true, if_false, and_self]
              · by_cases h3 : fr ≤ j ∧ j < i
                · have h4 : fr ≤ j ∧ j < i + 1 := ⟨h3.1, by omega⟩
                  simp only [hj, h3, h4, if_true, if_false, and_self]
                · have h4 : ¬ (fr ≤ j ∧ j < i + 1) := by omega
                  simp only [hj, h3, h4, if_false]
            rw [e]
            refine go_iinc (pc' := 39) (i := 3) d_Nod_takeOutOfBag_36 rfl (x_i1 _) (by decide) (x_s3 (by first | rfl | exact x_k_rf _)) rfl ?_
            refine go_goto (tgt := 14) d_Nod_takeOutOfBag_39 (by decide) ?_
            exact ih (i + 1) (by omega) (by omega)
    have e0 : x_up h (a + 1) (.inl (3, n, .inr (.inr (.inr (.inr (q_sh es n fr fr)))))) = h := by
      have e1 : q_sh es n fr fr = es := by
        funext j
        unfold q_sh
        rw [if_neg (by omega)]
      rw [e1]
      unfold x_up
      refine Prod.ext rfl (Prod.ext rfl ?_)
      funext j
      by_cases hj : j = a + 1
      · subst hj; simp [va_up, h1]
      · simp [va_up, hj]
    have hh := loop (n - fr) fr (by omega) (Nat.le_refl _)
    rw [e0] at hh
    exact hh
  · exfalso
    have := congrArg Int32.toInt hc
    rw [nI_toInt (by omega)] at this
    have h2 : (-1 : Int32).toInt = -1 := by decide
    omega
theorem s_Ent_init (h0 : h.2.2 a = some (.inr (1, [.int 0, .long 0]))) (key : Int32) (v : Int64) : Go K M_Ent_init d 0 [some (.ref a), some (.int key), some (.long v), none] [] h (x_is none (x_up h a (.inr (1, [.int key, .long v])))) := by
  refine go_aload_n (pc' := 1) (i := 0) d_Ent_init_0 rfl rfl (by first | rfl | exact x_r_rf _) rfl ?_
  refine go_objInit (pc' := 4) d_Ent_init_1 t_274 t_22 t_23 (Nat.le_of_ble_eq_true rfl) rfl ?_
  refine go_aload_n (pc' := 5) (i := 0) d_Ent_init_4 rfl rfl (by first | rfl | exact x_r_rf _) rfl ?_
  refine go_iload_n (pc' := 6) (i := 1) d_Ent_init_5 rfl rfl rfl ?_
  refine go_putfinal (pc' := 9) d_Ent_init_6 c_Ent 0 (by decide) rfl rfl rfl t_275 (by first | assumption | exact x_up_self _ _ _ | exact x_nw_self _ _ _ | (rw [x_up_ne (by first | omega | (simp only [x_up, x_nw]; omega))]; first | assumption | exact x_up_self _ _ _ | (rw [x_up_ne (by first | omega | (simp only [x_up, x_nw]; omega))]; first | assumption | exact x_up_self _ _ _)) | (rw [x_nw_ne (by first | omega | (simp only [x_up, x_nw]; omega))]; first | assumption | exact x_up_self _ _ _ | (rw [x_up_ne (by first | omega | (simp only [x_up, x_nw]; omega))]; assumption))) (by rfl) (by rfl) (by first | exact Nat.le_of_ble_eq_true rfl | simp) rfl ?_
  refine go_aload_n (pc' := 10) (i := 0) d_Ent_init_9 rfl rfl (by first | rfl | exact x_r_rf _) rfl ?_
  refine go_lload_n (pc' := 11) (i := 2) d_Ent_init_10 rfl rfl rfl ?_
  refine go_putfinal (pc' := 14) d_Ent_init_11 c_Ent 1 (by decide) rfl rfl rfl t_278 (by first | assumption | exact x_up_self _ _ _ | exact x_nw_self _ _ _ | (rw [x_up_ne (by first | omega | (simp only [x_up, x_nw]; omega))]; first | assumption | exact x_up_self _ _ _ | (rw [x_up_ne (by first | omega | (simp only [x_up, x_nw]; omega))]; first | assumption | exact x_up_self _ _ _)) | (rw [x_nw_ne (by first | omega | (simp only [x_up, x_nw]; omega))]; first | assumption | exact x_up_self _ _ _ | (rw [x_up_ne (by first | omega | (simp only [x_up, x_nw]; omega))]; assumption))) (by rfl) (by rfl) (by first | exact Nat.le_of_ble_eq_true rfl | simp) rfl ?_
  refine go_return d_Ent_init_14 rfl ?_
  exact ⟨rfl, (x_up_up _ _ _ _).symm⟩
theorem s_Map_init (h0 : h.2.2 a = some (.inr (4, [.null, .int 0, .int 0]))) (r : Nat) (g ro : Int32) (hro : narrow .boolean (.int ro) = .int ro) (hfit : fits .boolean (.int ro) = true) : Go K M_Map_init d 0 [some (.ref a), some (.ref r), some (.int g), some (.int ro)] [] h (x_is none (x_up h a (.inr (4, [.ref r, .int g, .int ro])))) := by
  refine go_aload_n (pc' := 1) (i := 0) d_Map_init_0 rfl rfl (by first | rfl | exact x_r_rf _) rfl ?_
  refine go_objInit (pc' := 4) d_Map_init_1 t_57 t_22 t_23 (Nat.le_of_ble_eq_true rfl) rfl ?_
  refine go_aload_n (pc' := 5) (i := 0) d_Map_init_4 rfl rfl (by first | rfl | exact x_r_rf _) rfl ?_
  refine go_aload_n (pc' := 6) (i := 1) d_Map_init_5 rfl rfl (by first | rfl | exact x_r_rf _) rfl ?_
  refine go_putfield (pc' := 9) d_Map_init_6 c_Map 0 (by decide) rfl t_58 (by first | assumption | exact x_up_self _ _ _ | exact x_nw_self _ _ _ | (rw [x_up_ne (by first | omega | (simp only [x_up, x_nw]; omega))]; first | assumption | exact x_up_self _ _ _ | (rw [x_up_ne (by first | omega | (simp only [x_up, x_nw]; omega))]; first | assumption | exact x_up_self _ _ _)) | (rw [x_nw_ne (by first | omega | (simp only [x_up, x_nw]; omega))]; first | assumption | exact x_up_self _ _ _ | (rw [x_up_ne (by first | omega | (simp only [x_up, x_nw]; omega))]; assumption))) (by rfl) (by rfl) (by first | exact Nat.le_of_ble_eq_true rfl | simp) rfl ?_
  refine go_aload_n (pc' := 10) (i := 0) d_Map_init_9 rfl rfl (by first | rfl | exact x_r_rf _) rfl ?_
  refine go_iload_n (pc' := 11) (i := 2) d_Map_init_10 rfl rfl rfl ?_
  refine go_putfield (pc' := 14) d_Map_init_11 c_Map 1 (by decide) rfl t_60 (by first | assumption | exact x_up_self _ _ _ | exact x_nw_self _ _ _ | (rw [x_up_ne (by first | omega | (simp only [x_up, x_nw]; omega))]; first | assumption | exact x_up_self _ _ _ | (rw [x_up_ne (by first | omega | (simp only [x_up, x_nw]; omega))]; first | assumption | exact x_up_self _ _ _)) | (rw [x_nw_ne (by first | omega | (simp only [x_up, x_nw]; omega))]; first | assumption | exact x_up_self _ _ _ | (rw [x_up_ne (by first | omega | (simp only [x_up, x_nw]; omega))]; assumption))) (by rfl) (by rfl) (by first | exact Nat.le_of_ble_eq_true rfl | simp) rfl ?_
  refine go_aload_n (pc' := 15) (i := 0) d_Map_init_14 rfl rfl (by first | rfl | exact x_r_rf _) rfl ?_
  refine go_iload_n (pc' := 16) (i := 3) d_Map_init_15 rfl rfl rfl ?_
  refine go_putfinal (pc' := 19) d_Map_init_16 c_Map 2 (by decide) rfl rfl rfl t_62 (x_up_self _ _ _) hro hfit (by exact Nat.le_of_ble_eq_true rfl) rfl ?_
  refine go_return d_Map_init_19 rfl ?_
  exact ⟨rfl, by rw [x_up_up, x_up_up]; rfl⟩
theorem s_Tal_init (h0 : h.2.2 a = some (.inr (3, [.int 0, .int 0, .int 0, .int 0, .int 0, .int 0]))) (g : Int32) : Go K M_Tal_init d 0 [some (.ref a), some (.int g)] [] h (x_is none (x_up h a (.inr (3, [.int g, .int 0, .int 0, .int 0, .int 0, .int 0])))) := by
  refine go_aload_n (pc' := 1) (i := 0) d_Tal_init_0 rfl rfl (by first | rfl | exact x_r_rf _) rfl ?_
  refine go_objInit (pc' := 4) d_Tal_init_1 t_214 t_22 t_23 (Nat.le_of_ble_eq_true rfl) rfl ?_
  refine go_aload_n (pc' := 5) (i := 0) d_Tal_init_4 rfl rfl (by first | rfl | exact x_r_rf _) rfl ?_
  refine go_iload_n (pc' := 6) (i := 1) d_Tal_init_5 rfl rfl rfl ?_
  refine go_putfinal (pc' := 9) d_Tal_init_6 c_Tal 0 (by decide) rfl rfl rfl t_215 (by first | assumption | exact x_up_self _ _ _ | exact x_nw_self _ _ _ | (rw [x_up_ne (by first | omega | (simp only [x_up, x_nw]; omega))]; first | assumption | exact x_up_self _ _ _ | (rw [x_up_ne (by first | omega | (simp only [x_up, x_nw]; omega))]; first | assumption | exact x_up_self _ _ _)) | (rw [x_nw_ne (by first | omega | (simp only [x_up, x_nw]; omega))]; first | assumption | exact x_up_self _ _ _ | (rw [x_up_ne (by first | omega | (simp only [x_up, x_nw]; omega))]; assumption))) (by rfl) (by rfl) (by first | exact Nat.le_of_ble_eq_true rfl | simp) rfl ?_
  refine go_return d_Tal_init_9 rfl ?_
  exact ⟨rfl, rfl⟩
theorem q_ext {h g : x_H} (h1 : g.1 = h.1) (h2 : g.2.1 = h.2.1) (h3 : ∀ b, g.2.2 b = h.2.2 b) : g = h := Prod.ext h1 (Prod.ext h2 (funext h3))
theorem s_Nod_init (hz : h.1 = a + 1) (h0 : h.2.2 a = some (.inr (2, [.int 0, .null, .null]))) (g : Int32) {l : Nat} (hl : l < 4) (hc1 : h.1 + 2 ≤ x_cap K) (hc2 : h.2.1 + 8 ≤ x_cas K) :
    Go K M_Nod_init d 0 [some (.ref a), some (.int g), some (.int (nI l)), none] [] h (x_rt (fun v f => v = none ∧ f.1 = a + 3 ∧ f.2.1 = h.2.1 + 8 ∧ Nd f a g 4 (fun _ => none) 4 (fun _ => none) ∧ ∀ b, b < a → f.2.2 b = h.2.2 b)) := by
  obtain ⟨z, q, f⟩ := h
  have hz' : z = a + 1 := hz
  subst hz'
  dsimp only at hc1 hc2
  refine go_aload_n (pc' := 1) (i := 0) d_Nod_init_0 rfl rfl (by first | rfl | exact x_r_rf _) rfl ?_
  refine go_objInit (pc' := 4) d_Nod_init_1 t_34 t_22 t_23 (Nat.le_of_ble_eq_true rfl) rfl ?_
  refine go_iload_n (pc' := 5) (i := 2) d_Nod_init_4 rfl rfl rfl ?_
  refine go_iconst (pc' := 6) (v := (nI 4)) d_Nod_init_5 (by decide) rfl ?_
  refine go_icmp_ltN (tgt := 13) (pc' := 9) d_Nod_init_6 (by decide) rfl (by omega) (by omega) (fun hc => ?_) (fun hc => ?_)
  · refine go_iconst (pc' := 14) (v := (nI 0)) d_Nod_init_13 (by decide) rfl ?_
    refine go_istore_n (pc' := 15) (i := 3) d_Nod_init_14 rfl (by decide) (x_s3 (by first | rfl | exact x_k_rf _)) rfl ?_
    refine go_aload_n (pc' := 16) (i := 0) d_Nod_init_15 rfl rfl (by first | rfl | exact x_r_rf _) rfl ?_
    refine go_iload_n (pc' := 17) (i := 1) d_Nod_init_16 rfl rfl rfl ?_
    refine go_putfinal (pc' := 20) d_Nod_init_17 c_Nod 0 (by decide) rfl rfl rfl t_39 (by first | assumption | exact x_up_self _ _ _ | exact x_nw_self _ _ _ | (rw [x_up_ne (by first | omega | (simp only [x_up, x_nw]; omega))]; first | assumption | exact x_up_self _ _ _ | (rw [x_up_ne (by first | omega | (simp only [x_up, x_nw]; omega))]; first | assumption | exact x_up_self _ _ _)) | (rw [x_nw_ne (by first | omega | (simp only [x_up, x_nw]; omega))]; first | assumption | exact x_up_self _ _ _ | (rw [x_up_ne (by first | omega | (simp only [x_up, x_nw]; omega))]; assumption))) (by rfl) (by rfl) (by first | exact Nat.le_of_ble_eq_true rfl | simp) rfl ?_
    refine go_aload_n (pc' := 21) (i := 0) d_Nod_init_20 rfl rfl (by first | rfl | exact x_r_rf _) rfl ?_
    refine go_iload_n (pc' := 22) (i := 3) d_Nod_init_21 rfl rfl rfl ?_
    refine go_if_eq (tgt := 30) (pc' := 25) d_Nod_init_22 (by decide) rfl (fun hc => ?_) (fun hc => ?_)
    · refine go_iconst (pc' := 31) (v := (nI 4)) d_Nod_init_30 (by decide) rfl ?_
      refine go_anewarray (pc' := 34) (kd := 3) (N' := 4) d_Nod_init_31 t_35 t_36 rfl (by decide) (by decide) (by decide) (by first | assumption | omega | (simp only [x_up, x_nw]; omega)) (by first | assumption | omega | (simp only [x_up, x_nw]; omega)) rfl ?_
      refine go_putfinal (pc' := 37) d_Nod_init_34 c_Nod 1 (by decide) rfl rfl rfl t_42 (by first | assumption | exact x_up_self _ _ _ | exact x_nw_self _ _ _ | (rw [x_up_ne (by first | omega | (simp only [x_up, x_nw]; omega))]; first | assumption | exact x_up_self _ _ _ | (rw [x_up_ne (by first | omega | (simp only [x_up, x_nw]; omega))]; first | assumption | exact x_up_self _ _ _)) | (rw [x_nw_ne (by first | omega | (simp only [x_up, x_nw]; omega))]; first | assumption | exact x_up_self _ _ _ | (rw [x_up_ne (by first | omega | (simp only [x_up, x_nw]; omega))]; assumption))) (by rfl) (by rfl) (by first | exact Nat.le_of_ble_eq_true rfl | simp) rfl ?_
      refine go_aload_n (pc' := 38) (i := 0) d_Nod_init_37 rfl rfl (by first | rfl | exact x_r_rf _) rfl ?_
      refine go_iload_n (pc' := 39) (i := 3) d_Nod_init_38 rfl rfl rfl ?_
      refine go_if_eq (tgt := 46) (pc' := 42) d_Nod_init_39 (by decide) rfl (fun hc => ?_) (fun hc => ?_)
      · refine go_iconst (pc' := 47) (v := (nI 4)) d_Nod_init_46 (by decide) rfl ?_
        refine go_anewarray (pc' := 50) (kd := 4) (N' := 4) d_Nod_init_47 t_37 t_38 rfl (by decide) (by decide) (by decide) (by first | assumption | omega | (simp only [x_up, x_nw]; omega)) (by first | assumption | omega | (simp only [x_up, x_nw]; omega)) rfl ?_
        refine go_putfinal (pc' := 53) d_Nod_init_50 c_Nod 2 (by decide) rfl rfl rfl t_45 (by first | assumption | exact x_up_self _ _ _ | exact x_nw_self _ _ _ | (rw [x_up_ne (by first | omega | (simp only [x_up, x_nw]; omega))]; first | assumption | exact x_up_self _ _ _ | (rw [x_up_ne (by first | omega | (simp only [x_up, x_nw]; omega))]; first | assumption | exact x_up_self _ _ _)) | (rw [x_nw_ne (by first | omega | (simp only [x_up, x_nw]; omega))]; first | assumption | exact x_up_self _ _ _ | (rw [x_up_ne (by first | omega | (simp only [x_up, x_nw]; omega))]; assumption))) (by rfl) (by rfl) (by first | exact Nat.le_of_ble_eq_true rfl | simp) rfl ?_
        refine go_return d_Nod_init_53 rfl ?_
        refine ⟨rfl, rfl, rfl, ⟨x_up_self _ _ _, ?_, ?_⟩, fun b hb => ?_⟩
        · rw [x_up_ne (by omega), x_nw_ne (show a + 1 ≠ a + 2 by omega), x_up_ne (by omega)]
          exact x_nw_self _ _ _
        · rw [x_up_ne (by omega)]
          exact x_nw_self _ _ _
        · rw [x_up_ne (by omega), x_nw_ne (show b ≠ a + 2 by omega), x_up_ne (by omega), x_nw_ne (show b ≠ a + 1 by omega), x_up_ne (by omega)]
      · exact absurd rfl hc
    · exact absurd rfl hc
  · omega
theorem s_Nod_bag (hz : h.1 = a + 1) (h0 : h.2.2 a = some (.inr (2, [.int 0, .null, .null]))) (g : Int32) {l : Nat} (hl : l = 4) (hc1 : h.1 + 2 ≤ x_cap K) (hc2 : h.2.1 + 8 ≤ x_cas K) :
    Go K M_Nod_init d 0 [some (.ref a), some (.int g), some (.int (nI l)), none] [] h (x_rt (fun v f => v = none ∧ f.1 = a + 3 ∧ f.2.1 = h.2.1 + 6 ∧ Nd f a g 6 (fun _ => none) 0 (fun _ => none) ∧ ∀ b, b < a → f.2.2 b = h.2.2 b)) := by
  obtain ⟨z, q, f⟩ := h
  have hz' : z = a + 1 := hz
  subst hz'
  subst hl
  dsimp only at hc1 hc2
  refine go_aload_n (pc' := 1) (i := 0) d_Nod_init_0 rfl rfl (by first | rfl | exact x_r_rf _) rfl ?_
  refine go_objInit (pc' := 4) d_Nod_init_1 t_34 t_22 t_23 (Nat.le_of_ble_eq_true rfl) rfl ?_
  refine go_iload_n (pc' := 5) (i := 2) d_Nod_init_4 rfl rfl rfl ?_
  refine go_iconst (pc' := 6) (v := (nI 4)) d_Nod_init_5 (by decide) rfl ?_
  refine go_icmp_ltN (tgt := 13) (pc' := 9) d_Nod_init_6 (by decide) rfl (by omega) (by omega) (fun hc => ?_) (fun hc => ?_)
  · omega
  · refine go_iconst (pc' := 10) (v := (nI 1)) d_Nod_init_9 (by decide) rfl ?_
    refine go_goto (tgt := 14) d_Nod_init_10 (by decide) ?_
    refine go_istore_n (pc' := 15) (i := 3) d_Nod_init_14 rfl (by decide) (x_s3 (by first | rfl | exact x_k_rf _)) rfl ?_
    refine go_aload_n (pc' := 16) (i := 0) d_Nod_init_15 rfl rfl (by first | rfl | exact x_r_rf _) rfl ?_
    refine go_iload_n (pc' := 17) (i := 1) d_Nod_init_16 rfl rfl rfl ?_
    refine go_putfinal (pc' := 20) d_Nod_init_17 c_Nod 0 (by decide) rfl rfl rfl t_39 (by first | assumption | exact x_up_self _ _ _ | exact x_nw_self _ _ _ | (rw [x_up_ne (by first | omega | (simp only [x_up, x_nw]; omega))]; first | assumption | exact x_up_self _ _ _ | (rw [x_up_ne (by first | omega | (simp only [x_up, x_nw]; omega))]; first | assumption | exact x_up_self _ _ _)) | (rw [x_nw_ne (by first | omega | (simp only [x_up, x_nw]; omega))]; first | assumption | exact x_up_self _ _ _ | (rw [x_up_ne (by first | omega | (simp only [x_up, x_nw]; omega))]; assumption))) (by rfl) (by rfl) (by first | exact Nat.le_of_ble_eq_true rfl | simp) rfl ?_
    refine go_aload_n (pc' := 21) (i := 0) d_Nod_init_20 rfl rfl (by first | rfl | exact x_r_rf _) rfl ?_
    refine go_iload_n (pc' := 22) (i := 3) d_Nod_init_21 rfl rfl rfl ?_
    refine go_if_eq (tgt := 30) (pc' := 25) d_Nod_init_22 (by decide) rfl (fun hc => ?_) (fun hc => ?_)
    · exact absurd hc (by decide)
    · refine go_bipush (pc' := 27) (v := (nI 6)) d_Nod_init_25 (by decide) rfl ?_
      refine go_goto (tgt := 31) d_Nod_init_27 (by decide) ?_
      refine go_anewarray (pc' := 34) (kd := 3) (N' := 6) d_Nod_init_31 t_35 t_36 rfl (by decide) (by decide) (by decide) (by first | assumption | omega | (simp only [x_up, x_nw]; omega)) (by first | assumption | omega | (simp only [x_up, x_nw]; omega)) rfl ?_
      refine go_putfinal (pc' := 37) d_Nod_init_34 c_Nod 1 (by decide) rfl rfl rfl t_42 (by first | assumption | exact x_up_self _ _ _ | exact x_nw_self _ _ _ | (rw [x_up_ne (by first | omega | (simp only [x_up, x_nw]; omega))]; first | assumption | exact x_up_self _ _ _ | (rw [x_up_ne (by first | omega | (simp only [x_up, x_nw]; omega))]; first | assumption | exact x_up_self _ _ _)) | (rw [x_nw_ne (by first | omega | (simp only [x_up, x_nw]; omega))]; first | assumption | exact x_up_self _ _ _ | (rw [x_up_ne (by first | omega | (simp only [x_up, x_nw]; omega))]; assumption))) (by rfl) (by rfl) (by first | exact Nat.le_of_ble_eq_true rfl | simp) rfl ?_
      refine go_aload_n (pc' := 38) (i := 0) d_Nod_init_37 rfl rfl (by first | rfl | exact x_r_rf _) rfl ?_
      refine go_iload_n (pc' := 39) (i := 3) d_Nod_init_38 rfl rfl rfl ?_
      refine go_if_eq (tgt := 46) (pc' := 42) d_Nod_init_39 (by decide) rfl (fun hc => ?_) (fun hc => ?_)
      · exact absurd hc (by decide)
      · refine go_iconst (pc' := 43) (v := (nI 0)) d_Nod_init_42 (by decide) rfl ?_
        refine go_goto (tgt := 47) d_Nod_init_43 (by decide) ?_
        refine go_anewarray (pc' := 50) (kd := 4) (N' := 0) d_Nod_init_47 t_37 t_38 rfl (by decide) (by decide) (by decide) (by first | assumption | omega | (simp only [x_up, x_nw]; omega)) (by first | assumption | omega | (simp only [x_up, x_nw]; omega)) rfl ?_
        refine go_putfinal (pc' := 53) d_Nod_init_50 c_Nod 2 (by decide) rfl rfl rfl t_45 (by first | assumption | exact x_up_self _ _ _ | exact x_nw_self _ _ _ | (rw [x_up_ne (by first | omega | (simp only [x_up, x_nw]; omega))]; first | assumption | exact x_up_self _ _ _ | (rw [x_up_ne (by first | omega | (simp only [x_up, x_nw]; omega))]; first | assumption | exact x_up_self _ _ _)) | (rw [x_nw_ne (by first | omega | (simp only [x_up, x_nw]; omega))]; first | assumption | exact x_up_self _ _ _ | (rw [x_up_ne (by first | omega | (simp only [x_up, x_nw]; omega))]; assumption))) (by rfl) (by rfl) (by first | exact Nat.le_of_ble_eq_true rfl | simp) rfl ?_
        refine go_return d_Nod_init_53 rfl ?_
        refine ⟨rfl, rfl, rfl, ⟨x_up_self _ _ _, ?_, ?_⟩, fun b hb => ?_⟩
        · rw [x_up_ne (by omega), x_nw_ne (show a + 1 ≠ a + 2 by omega), x_up_ne (by omega)]
          exact x_nw_self _ _ _
        · rw [x_up_ne (by omega)]
          exact x_nw_self _ _ _
        · rw [x_up_ne (by omega), x_nw_ne (show b ≠ a + 2 by omega), x_up_ne (by omega), x_nw_ne (show b ≠ a + 1 by omega), x_up_ne (by omega)]
end CA
end
section
/-- a key's hash, its digit at a level, its digits down to a level as one number -/
def q_h (k : Int32) : Nat := ((k * (-1640531535)).toUInt32 >>> 24).toNat
def q_p (l : Nat) (k : Int32) : Nat := q_h k / 4 ^ (4 - l)
def q_d (l : Nat) (k : Int32) : Nat := q_h k / 4 ^ (3 - l) % 4
theorem q_h_lt (k : Int32) : q_h k < 256 := by
  unfold q_h
  rw [UInt32.toNat_shiftRight]
  have h := UInt32.toNat_lt (k * (-1640531535)).toUInt32
  have e : (24 : UInt32).toNat % 32 = 24 := by decide
  rw [e, Nat.shiftRight_eq_div_pow]
  omega
theorem q_u32 (x : UInt32) : x.toInt32 = nI x.toNat := by
  apply Int32.toBitVec_inj.mp
  simp [nI]
theorem q_h1 (k : Int32) : ((k * (-1640531535)).toUInt32 >>> ((nI 24).toUInt32 &&& Int32.toUInt32 31)).toInt32 = nI (q_h k) := by
  have e : (nI 24).toUInt32 &&& Int32.toUInt32 31 = 24 := by decide
  rw [e, q_u32]
  rfl
theorem q_dig : ∀ n, n < 256 → ∀ l, l < 4 → ((nI n).toUInt32 >>> ((nI 6 - nI (2 * l)).toUInt32 &&& Int32.toUInt32 31)).toInt32 &&& nI 3 = nI (n / 4 ^ (3 - l) % 4) := by decide +kernel
theorem q_d_lt (l : Nat) (k : Int32) : q_d l k < 4 := Nat.mod_lt _ (by decide)
theorem q_p_0 (k : Int32) : q_p 0 k = 0 := Nat.div_eq_of_lt (q_h_lt k)
theorem q_p_4 (k : Int32) : q_p 4 k = q_h k := Nat.div_one _
theorem q_p_s {l : Nat} (hl : l < 4) (k : Int32) : q_p (l + 1) k = 4 * q_p l k + q_d l k := by
  unfold q_p q_d
  have h1 : 4 - (l + 1) = 3 - l := by omega
  have h2 : 4 ^ (4 - l) = 4 ^ (3 - l) * 4 := by
    rw [show 4 - l = (3 - l) + 1 by omega, Nat.pow_succ]
  rw [h1, h2, ← Nat.div_div_eq_div_mul]
  omega
theorem q_p_lt {l : Nat} (hl : l ≤ 4) (k : Int32) : q_p l k < 4 ^ l := by
  unfold q_p
  have h := q_h_lt k
  rw [Nat.div_lt_iff_lt_mul (Nat.pow_pos (by decide)), ← Nat.pow_add, show l + (4 - l) = 4 by omega]
  exact h
section HA
variable {K : x_K} {d : Nat} {h : x_H}
theorem s_digit (key : Int32) {l : Nat} (hl : l < 4) : Go K M_Tri_digit d 0 [some (.int key), some (.int (nI l)), none] [] h (x_is (some (.int (nI (q_d l key)))) h) := by
  refine go_iload_n (pc' := 1) (i := 0) d_Tri_digit_0 rfl rfl rfl ?_
  refine go_ldc (pc' := 3) d_Tri_digit_1 t_198 rfl ?_
  refine go_imul (pc' := 4) d_Tri_digit_3 rfl ?_
  refine go_bipush (pc' := 6) (v := (nI 24)) d_Tri_digit_4 (by decide) rfl ?_
  refine go_iushr (pc' := 7) d_Tri_digit_6 (q_h1 key) rfl ?_
  refine go_istore_n (pc' := 8) (i := 2) d_Tri_digit_7 rfl (by decide) (x_s2 (by first | rfl | exact x_k_rf _)) rfl ?_
  refine go_iload_n (pc' := 9) (i := 2) d_Tri_digit_8 rfl rfl rfl ?_
  refine go_bipush (pc' := 11) (v := (nI 6)) d_Tri_digit_9 (by decide) rfl ?_
  refine go_iconst (pc' := 12) (v := (nI 2)) d_Tri_digit_11 (by decide) rfl ?_
  refine go_iload_n (pc' := 13) (i := 1) d_Tri_digit_12 rfl rfl rfl ?_
  refine go_imul (pc' := 14) d_Tri_digit_13 rfl ?_
  rw [x_mul]
  refine go_isub (pc' := 15) d_Tri_digit_14 rfl ?_
  refine go_iushr (pc' := 16) d_Tri_digit_15 rfl rfl ?_
  refine go_iconst (pc' := 17) (v := (nI 3)) d_Tri_digit_16 (by decide) rfl ?_
  refine go_iand (pc' := 18) d_Tri_digit_17 rfl ?_
  rw [q_dig (q_h key) (q_h_lt key) l hl]
  refine go_ireturn d_Tri_digit_18 rfl (by rfl) ?_
  exact ⟨rfl, rfl⟩
end HA
end
section
/-! a map's keys as a list, and the trie that holds them -/
abbrev KV : Type := Int32 × Int64
def q_f (ks : List KV) (l p : Nat) : List KV := ks.filter (fun x => q_p l x.1 == p)
def q_1 (L : List KV) : Option KV := match L with
  | [x] => some x
  | _ => none
def q_get (ks : List KV) (key : Int32) : Option KV := ks.find? (fun x => x.1 == key)
def Eo (h : x_H) (o : Option Nat) (x : Option KV) : Prop := match o, x with
  | some e, some kv => Et h e kv.1 kv.2
  | none, none => True
  | _, _ => False
def Tn (h : x_H) (A : Nat → Nat → Option Nat) (ks : List KV) (bel : Nat → Nat → Int32) (l p a : Nat) : Prop :=
  (l < 4 → ∃ es ns, Nd h a (bel l p) 4 es 4 ns ∧ ∀ j, j < 4 → ns j = A (l + 1) (4 * p + j) ∧ Eo h (es j) (q_1 (q_f ks (l + 1) (4 * p + j)))) ∧
  (l = 4 → ∃ es ns, Nd h a (bel l p) 6 es 0 ns ∧ ∀ j, j < 6 → Eo h (es j) ((q_f ks 4 p)[j]?))
def Tr (h : x_H) (A : Nat → Nat → Option Nat) (ks : List KV) (bel : Nat → Nat → Int32) : Prop :=
  (∀ l p, (∃ a, A l p = some a) ↔ (l ≤ 4 ∧ p < 4 ^ l ∧ (l = 0 ∨ 2 ≤ (q_f ks l p).length))) ∧ ∀ l p a, A l p = some a → Tn h A ks bel l p a
def Ko (ks : List KV) : Prop := ks.length ≤ 60 ∧ (ks.map (fun x => x.1)).Nodup ∧ ∀ p, (q_f ks 4 p).length ≤ 6
theorem q_f_mem {ks : List KV} {l p : Nat} {x : KV} : x ∈ q_f ks l p ↔ x ∈ ks ∧ q_p l x.1 = p := by
  unfold q_f
  rw [List.mem_filter]
  simp
theorem q_f_get (ks : List KV) (l : Nat) (key : Int32) : q_get (q_f ks l (q_p l key)) key = q_get ks key := by
  unfold q_get q_f
  rw [List.find?_filter]
  congr 1
  funext x
  by_cases hx : x.1 = key
  · subst hx; simp
  · simp [hx]
theorem q_f_0 (ks : List KV) : q_f ks 0 0 = ks := by
  unfold q_f
  rw [List.filter_eq_self]
  intro x _
  simp [q_p_0]
/-- the key of an entry, off the heap -/
def kfh (h : x_H) (e : Nat) : Int32 := match h.2.2 e with
  | some (.inr (1, .int k :: _)) => k
  | _ => 0
theorem Et.kf {h : x_H} {e : Nat} {k : Int32} {v : Int64} (he : Et h e k v) : kfh h e = k := by
  unfold Et at he
  unfold kfh
  rw [he]
  rfl
theorem Eo.some {h : x_H} {o : Option Nat} {x : KV} (he : Eo h o (Option.some x)) : ∃ e, o = Option.some e ∧ Et h e x.1 x.2 := by
  cases o with
  | none => exact he.elim
  | some e => exact ⟨e, rfl, he⟩
theorem Eo.none {h : x_H} {o : Option Nat} (he : Eo h o Option.none) : o = Option.none := by
  cases o with
  | none => rfl
  | some e => exact he.elim
theorem Eo.to {h : x_H} {e : Nat} {x : Option KV} (he : Eo h (Option.some e) x) : ∃ kv, x = Option.some kv ∧ Et h e kv.1 kv.2 := by
  cases x with
  | none => exact he.elim
  | some kv => exact ⟨kv, rfl, he⟩
theorem Eo.to0 {h : x_H} {x : Option KV} (he : Eo h Option.none x) : x = Option.none := by
  cases x with
  | none => rfl
  | some kv => exact he.elim
theorem q_pl_find {h : x_H} {es : Nat → Option Nat} {key : Int32} : ∀ (r j : Nat) (L : List KV), (∀ i, i < r → Eo h (es (j + i)) (L[i]?)) → L.length ≤ r →
    match q_pl es (kfh h) key r j with
    | some i => j ≤ i ∧ ∃ e x, es i = some e ∧ q_get L key = some x ∧ Et h e x.1 x.2 ∧ L[i - j]? = some x ∧ ∀ m, m < i - j → ∀ y, L[m]? = some y → y.1 ≠ key
    | none => q_get L key = none
  | 0, j, L, hE, hl => by
    have : L = [] := List.length_eq_zero_iff.mp (by omega)
    subst this
    rfl
  | r + 1, j, [], hE, hl => by
    have h0 := (hE 0 (by omega)).none
    have ih := q_pl_find (h := h) (es := es) (key := key) r (j + 1) [] (fun i hi => by
      have := hE (i + 1) (by omega)
      rw [show j + 1 + i = j + (i + 1) by omega]
      simpa using this) (by simp)
    have e : q_pl es (kfh h) key (r + 1) j = q_pl es (kfh h) key r (j + 1) := by
      rw [Nat.add_zero] at h0
      simp [q_pl, h0]
    rw [e]
    cases hq : q_pl es (kfh h) key r (j + 1) with
    | none => rfl
    | some i =>
      rw [hq] at ih
      obtain ⟨-, e, x, -, h2, -⟩ := ih
      cases h2
  | r + 1, j, x :: L, hE, hl => by
    obtain ⟨e, h0, h1⟩ := Eo.some (x := x) (by simpa using hE 0 (by omega))
    by_cases hk : x.1 = key
    · have e1 : q_pl es (kfh h) key (r + 1) j = some j := by simp [q_pl, h0, h1.kf, hk]
      rw [e1]
      refine ⟨Nat.le_refl _, e, x, h0, by simp [q_get, hk], h1, by simp, fun m hm => by omega⟩
    · have e1 : q_pl es (kfh h) key (r + 1) j = q_pl es (kfh h) key r (j + 1) := by simp [q_pl, h0, h1.kf, hk]
      rw [e1]
      have ih := q_pl_find (h := h) (es := es) (key := key) r (j + 1) L (fun i hi => by
        have := hE (i + 1) (by omega)
        rw [show j + 1 + i = j + (i + 1) by omega]
        simpa using this) (by simpa using hl)
      have e2 : q_get (x :: L) key = q_get L key := by simp [q_get, hk]
      cases hq : q_pl es (kfh h) key r (j + 1) with
      | none => rw [hq] at ih; rw [e2]; exact ih
      | some i =>
        rw [hq] at ih
        obtain ⟨g1, e', x', g2, g3, g4, g5, g6⟩ := ih
        refine ⟨by omega, e', x', g2, by rw [e2]; exact g3, g4, ?_, ?_⟩
        · rw [show i - j = (i - (j + 1)) + 1 by omega]
          simpa using g5
        · intro m hm y hy
          cases m with
          | zero => simp at hy; subst hy; exact hk
          | succ m => exact g6 m (by omega) y (by simpa using hy)
theorem Eo.kfE {h : x_H} {es : Nat → Option Nat} {n : Nat} {F : Nat → Option KV} (hE : ∀ j, j < n → Eo h (es j) (F j)) : ∀ j, j < n → ∀ e, es j = Option.some e → ∃ v, Et h e (kfh h e) v := by
  intro j hj e he
  have := hE j hj
  rw [he] at this
  obtain ⟨kv, -, h2⟩ := Eo.to this
  exact ⟨kv.2, by rw [h2.kf]; exact h2⟩
section TA
variable {K : x_K} {d : Nat} {h : x_H} {A : Nat → Nat → Option Nat} {ks : List KV} {bel : Nat → Nat → Int32}
theorem Tr.no {l : Nat} {key : Int32} (hT : Tr h A ks bel) (hl : l < 4) (hn : A (l + 1) (q_p (l + 1) key) = none) : (q_f ks (l + 1) (q_p (l + 1) key)).length ≤ 1 := by
  apply Classical.byContradiction
  intro hc
  obtain ⟨a, ha⟩ := (hT.1 (l + 1) (q_p (l + 1) key)).mpr ⟨by omega, q_p_lt (by omega) key, Or.inr (by omega)⟩
  rw [hn] at ha
  cases ha
theorem s_find (hT : Tr h A ks bel) (hK : Ko ks) {root : Nat} (hr : A 0 0 = some root) (key : Int32) (hd : 1 ≤ d) :
    Go K M_Tri_find d 0 [some (.ref root), some (.int key), none, none, none, none, none] [] h (x_rt (fun v g => h = g ∧ ∃ o, v = some (va_rf o) ∧ Eo h o (q_get ks key))) := by
  have loop : ∀ r l a x4 x5 x6, l + r = 4 → A l (q_p l key) = some a → x_k x4 = x4 → x_k x5 = x5 → x_k x6 = x6 →
      Go K M_Tri_find d 4 [some (.ref root), some (.int key), some (.ref a), some (.int (nI l)), x4, x5, x6] [] h (x_rt (fun v g => h = g ∧ ∃ o, v = some (va_rf o) ∧ Eo h o (q_get ks key))) := by
    intro r
    induction r with
    | zero =>
      intro l a x4 x5 x6 hl ha k4 k5 k6
      have hl4 : l = 4 := by omega
      subst hl4
      obtain ⟨es, ns, hN, hE⟩ := (hT.2 4 _ a ha).2 rfl
      have hkE := Eo.kfE hE
      have hN' := hN
      obtain ⟨h0, h1, h2⟩ := hN
      refine go_iload_n (pc' := 5) (i := 3) d_Tri_find_4 rfl rfl rfl ?_
      refine go_iconst (pc' := 6) (v := (nI 4)) d_Tri_find_5 (by decide) rfl ?_
      refine go_icmp_geN (tgt := 69) (pc' := 9) d_Tri_find_6 (by decide) rfl (by omega) (by omega) (fun hc => ?_) (fun hc => ?_)
      · refine go_aload_n (pc' := 70) (i := 2) d_Tri_find_69 rfl rfl (by first | rfl | exact x_r_rf _) rfl ?_
        refine go_iload_n (pc' := 71) (i := 1) d_Tri_find_70 rfl rfl rfl ?_
        refine go_callV (pc' := 74) (M' := M_Nod_placeInBag) (ci := 2) (r := (n_Nod, T_Nod, 3)) [_] d_Tri_find_71 t_199 t_200 t_201 cd_Nod_placeInBag nm_Nod_placeInBag rfl (by rfl) (by first | assumption | exact x_up_self _ _ _ | exact x_nw_self _ _ _ | (rw [x_up_ne (by first | omega | (simp only [x_up, x_nw]; omega))]; first | assumption | exact x_up_self _ _ _ | (rw [x_up_ne (by first | omega | (simp only [x_up, x_nw]; omega))]; first | assumption | exact x_up_self _ _ _)) | (rw [x_nw_ne (by first | omega | (simp only [x_up, x_nw]; omega))]; first | assumption | exact x_up_self _ _ _ | (rw [x_up_ne (by first | omega | (simp only [x_up, x_nw]; omega))]; assumption))) rfl (Nat.le_of_ble_eq_true rfl) rfl (s_placeInBag (d := d - 1) hN' (by omega) hkE key) (by first | decide | omega) (Nat.le_of_ble_eq_true rfl) rfl (fun v hh hq => ?_) (fun q g hq => by cases hq.1)
        obtain ⟨e1, rfl⟩ := hq
        cases e1
        have hpf := q_pl_find (h := h) (es := es) (key := key) 6 0 (q_f ks 4 (q_p 4 key)) (fun i hi => by rw [Nat.zero_add]; exact hE i hi) (hK.2.2 _)
        rw [q_f_get] at hpf
        cases hq : q_pl es (kfh h) key 6 0 with
        | none =>
          rw [hq] at hpf
          show Go K M_Tri_find d 74 _ [.int (-1)] h _
          refine go_istore_n (pc' := 75) (i := 3) d_Tri_find_74 rfl (by decide) (x_s3 (by first | rfl | exact x_k_rf _)) rfl ?_
          refine go_iload_n (pc' := 76) (i := 3) d_Tri_find_75 rfl rfl rfl ?_
          refine go_iconst (pc' := 77) (v := (-1)) d_Tri_find_76 (by decide) rfl ?_
          refine go_icmp_ne (tgt := 84) (pc' := 80) d_Tri_find_77 (by decide) rfl (fun hc => ?_) (fun hc => ?_)
          · exact absurd rfl hc
          · refine go_null (pc' := 81) d_Tri_find_80 rfl ?_
            refine go_goto (tgt := 90) d_Tri_find_81 (by decide) ?_
            refine go_areturn d_Tri_find_90 rfl ⟨_, rfl⟩ (by first | rfl | exact x_r_rf _) ?_
            have hpf' : q_get ks key = none := hpf
            exact ⟨rfl, none, rfl, by rw [hpf']; trivial⟩
        | some i =>
          rw [hq] at hpf
          obtain ⟨-, e, x, g2, g3, g4, -⟩ := hpf
          have hi := q_pl_lt es (kfh h) key 6 0 i hq
          show Go K M_Tri_find d 74 _ [.int (nI i)] h _
          refine go_istore_n (pc' := 75) (i := 3) d_Tri_find_74 rfl (by decide) (x_s3 (by first | rfl | exact x_k_rf _)) rfl ?_
          refine go_iload_n (pc' := 76) (i := 3) d_Tri_find_75 rfl rfl rfl ?_
          refine go_iconst (pc' := 77) (v := (-1)) d_Tri_find_76 (by decide) rfl ?_
          refine go_icmp_ne (tgt := 84) (pc' := 80) d_Tri_find_77 (by decide) rfl (fun hc => ?_) (fun hc => ?_)
          · refine go_aload_n (pc' := 85) (i := 2) d_Tri_find_84 rfl rfl (by first | rfl | exact x_r_rf _) rfl ?_
            refine go_getfield (pc' := 88) d_Tri_find_85 c_Nod 1 (by decide) t_44 (by first | assumption | exact x_up_self _ _ _ | exact x_nw_self _ _ _ | (rw [x_up_ne (by first | omega | (simp only [x_up, x_nw]; omega))]; first | assumption | exact x_up_self _ _ _ | (rw [x_up_ne (by first | omega | (simp only [x_up, x_nw]; omega))]; first | assumption | exact x_up_self _ _ _)) | (rw [x_nw_ne (by first | omega | (simp only [x_up, x_nw]; omega))]; first | assumption | exact x_up_self _ _ _ | (rw [x_up_ne (by first | omega | (simp only [x_up, x_nw]; omega))]; assumption))) (by rfl) rfl ?_
            refine go_iload_n (pc' := 89) (i := 3) d_Tri_find_88 rfl rfl rfl ?_
            refine go_aaldN (pc' := 90) d_Tri_find_89 (by first | assumption | exact x_up_self _ _ _ | exact x_nw_self _ _ _ | (rw [x_up_ne (by first | omega | (simp only [x_up, x_nw]; omega))]; first | assumption | exact x_up_self _ _ _ | (rw [x_up_ne (by first | omega | (simp only [x_up, x_nw]; omega))]; first | assumption | exact x_up_self _ _ _)) | (rw [x_nw_ne (by first | omega | (simp only [x_up, x_nw]; omega))]; first | assumption | exact x_up_self _ _ _ | (rw [x_up_ne (by first | omega | (simp only [x_up, x_nw]; omega))]; assumption))) (by rfl) (by first | assumption | omega | (simp only [x_up, x_nw]; omega)) (by first | assumption | omega | (simp only [x_up, x_nw]; omega)) rfl ?_
            rw [g2]
            refine go_areturn d_Tri_find_90 rfl ⟨_, rfl⟩ (by first | rfl | exact x_r_rf _) ?_
            exact ⟨rfl, some e, rfl, by rw [g3]; exact g4⟩
          · exfalso
            have := congrArg Int32.toInt hc
            rw [nI_toInt (by omega)] at this
            have h2 : (-1 : Int32).toInt = -1 := by decide
            omega
      · omega
    | succ r ih =>
      intro l a x4 x5 x6 hl ha k4 k5 k6
      have hl4 : l < 4 := by omega
      obtain ⟨es, ns, hN, hE⟩ := (hT.2 l _ a ha).1 hl4
      have hd4 := q_d_lt l key
      obtain ⟨hns, hes⟩ := hE _ hd4
      rw [← q_p_s hl4] at hns hes
      obtain ⟨h0, h1, h2⟩ := hN
      refine go_iload_n (pc' := 5) (i := 3) d_Tri_find_4 rfl rfl rfl ?_
      refine go_iconst (pc' := 6) (v := (nI 4)) d_Tri_find_5 (by decide) rfl ?_
      refine go_icmp_geN (tgt := 69) (pc' := 9) d_Tri_find_6 (by decide) rfl (by omega) (by omega) (fun hc => ?_) (fun hc => ?_)
      · omega
      · refine go_iload_n (pc' := 10) (i := 1) d_Tri_find_9 rfl rfl rfl ?_
        refine go_iload_n (pc' := 11) (i := 3) d_Tri_find_10 rfl rfl rfl ?_
        refine go_callS (pc' := 14) (M' := M_Tri_digit) [_, _] d_Tri_find_11 t_195 t_196 t_1 cd_Tri_digit nm_Tri_digit rfl rfl (Nat.le_of_ble_eq_true rfl) rfl (s_digit (d := d - 1) key hl4) (by first | decide | omega) (Nat.le_of_ble_eq_true rfl) rfl (fun v hh hq => ?_) (fun q g hq => by cases hq.1)
        obtain ⟨e1, rfl⟩ := hq
        cases e1
        show Go K M_Tri_find d 14 _ [.int (nI (q_d l key))] h _
        refine go_istore (pc' := 16) (i := 4) d_Tri_find_14 (by decide) (x_s4 rfl) rfl ?_
        refine go_aload_n (pc' := 17) (i := 2) d_Tri_find_16 rfl rfl (by first | rfl | exact x_r_rf _) rfl ?_
        refine go_getfield (pc' := 20) d_Tri_find_17 c_Nod 2 (by decide) t_46 (by first | assumption | exact x_up_self _ _ _ | exact x_nw_self _ _ _ | (rw [x_up_ne (by first | omega | (simp only [x_up, x_nw]; omega))]; first | assumption | exact x_up_self _ _ _ | (rw [x_up_ne (by first | omega | (simp only [x_up, x_nw]; omega))]; first | assumption | exact x_up_self _ _ _)) | (rw [x_nw_ne (by first | omega | (simp only [x_up, x_nw]; omega))]; first | assumption | exact x_up_self _ _ _ | (rw [x_up_ne (by first | omega | (simp only [x_up, x_nw]; omega))]; assumption))) (by rfl) rfl ?_
        refine go_iload (pc' := 22) (i := 4) d_Tri_find_20 rfl rfl ?_
        refine go_aaldN (pc' := 23) d_Tri_find_22 (by first | assumption | exact x_up_self _ _ _ | exact x_nw_self _ _ _ | (rw [x_up_ne (by first | omega | (simp only [x_up, x_nw]; omega))]; first | assumption | exact x_up_self _ _ _ | (rw [x_up_ne (by first | omega | (simp only [x_up, x_nw]; omega))]; first | assumption | exact x_up_self _ _ _)) | (rw [x_nw_ne (by first | omega | (simp only [x_up, x_nw]; omega))]; first | assumption | exact x_up_self _ _ _ | (rw [x_up_ne (by first | omega | (simp only [x_up, x_nw]; omega))]; assumption))) (by rfl) (by first | assumption | omega | (simp only [x_up, x_nw]; omega)) (by first | assumption | omega | (simp only [x_up, x_nw]; omega)) rfl ?_
        rw [hns]
        refine go_astore (pc' := 25) (i := 5) d_Tri_find_23 (by decide) (x_r_rf _) (x_s5 rfl) rfl ?_
        refine go_aload (pc' := 27) (i := 5) d_Tri_find_25 rfl (by first | rfl | exact x_r_rf _) rfl ?_
        refine go_ifnonnull (tgt := 60) (pc' := 30) d_Tri_find_27 (by decide) rfl (fun b hc => ?_) (fun hc => ?_)
        · rw [hc]
          refine go_aload (pc' := 62) (i := 5) d_Tri_find_60 rfl (by first | rfl | exact x_r_rf _) rfl ?_
          refine go_astore_n (pc' := 63) (i := 2) d_Tri_find_62 rfl (by decide) (by first | rfl | exact x_r_rf _) (x_s2 (by first | rfl | exact x_k_rf _)) rfl ?_
          refine go_iinc (pc' := 66) (i := 3) d_Tri_find_63 rfl (x_i1 _) (by decide) (x_s3 (by first | rfl | exact x_k_rf _)) rfl ?_
          refine go_goto (tgt := 4) d_Tri_find_66 (by decide) ?_
          exact ih (l + 1) b _ _ _ (by omega) hc rfl rfl k6
        · have hlen := hT.no hl4 hc
          refine go_aload_n (pc' := 31) (i := 2) d_Tri_find_30 rfl rfl (by first | rfl | exact x_r_rf _) rfl ?_
          refine go_getfield (pc' := 34) d_Tri_find_31 c_Nod 1 (by decide) t_44 (by first | assumption | exact x_up_self _ _ _ | exact x_nw_self _ _ _ | (rw [x_up_ne (by first | omega | (simp only [x_up, x_nw]; omega))]; first | assumption | exact x_up_self _ _ _ | (rw [x_up_ne (by first | omega | (simp only [x_up, x_nw]; omega))]; first | assumption | exact x_up_self _ _ _)) | (rw [x_nw_ne (by first | omega | (simp only [x_up, x_nw]; omega))]; first | assumption | exact x_up_self _ _ _ | (rw [x_up_ne (by first | omega | (simp only [x_up, x_nw]; omega))]; assumption))) (by rfl) rfl ?_
          refine go_iload (pc' := 36) (i := 4) d_Tri_find_34 rfl rfl ?_
          refine go_aaldN (pc' := 37) d_Tri_find_36 (by first | assumption | exact x_up_self _ _ _ | exact x_nw_self _ _ _ | (rw [x_up_ne (by first | omega | (simp only [x_up, x_nw]; omega))]; first | assumption | exact x_up_self _ _ _ | (rw [x_up_ne (by first | omega | (simp only [x_up, x_nw]; omega))]; first | assumption | exact x_up_self _ _ _)) | (rw [x_nw_ne (by first | omega | (simp only [x_up, x_nw]; omega))]; first | assumption | exact x_up_self _ _ _ | (rw [x_up_ne (by first | omega | (simp only [x_up, x_nw]; omega))]; assumption))) (by rfl) (by first | assumption | omega | (simp only [x_up, x_nw]; omega)) (by first | assumption | omega | (simp only [x_up, x_nw]; omega)) rfl ?_
          refine go_astore (pc' := 39) (i := 6) d_Tri_find_37 (by decide) (x_r_rf _) (x_s6 (x_k_rf _)) rfl ?_
          refine go_aload (pc' := 41) (i := 6) d_Tri_find_39 rfl (by first | rfl | exact x_r_rf _) rfl ?_
          have hget := q_f_get ks (l + 1) key
          refine go_ifnull (tgt := 58) (pc' := 44) d_Tri_find_41 (by decide) rfl (fun hc => ?_) (fun b hc => ?_)
          · rw [hc] at hes
            refine go_null (pc' := 59) d_Tri_find_58 rfl ?_
            refine go_areturn d_Tri_find_59 rfl ⟨_, rfl⟩ (by first | rfl | exact x_r_rf _) ?_
            have h3 := hes.to0
            refine ⟨rfl, none, rfl, ?_⟩
            rw [← hget]
            match hLL : q_f ks (l + 1) (q_p (l + 1) key), hlen, h3 with
            | [], _, _ => trivial
            | [y], _, h3 => cases h3
          · rw [hc] at hes
            obtain ⟨kv, h3, h4⟩ := hes.to
            have hLL : q_f ks (l + 1) (q_p (l + 1) key) = [kv] := by
              match hLL : q_f ks (l + 1) (q_p (l + 1) key), hlen, h3 with
              | [y], _, h3 => cases h3; rfl
            rw [hLL] at hget
            have h4' := h4
            unfold Et at h4'
            rw [hc]
            refine go_aload (pc' := 46) (i := 6) d_Tri_find_44 rfl rfl rfl ?_
            refine go_getfield (pc' := 49) d_Tri_find_46 c_Ent 0 (by decide) t_277 (by first | assumption | exact x_up_self _ _ _ | exact x_nw_self _ _ _ | (rw [x_up_ne (by first | omega | (simp only [x_up, x_nw]; omega))]; first | assumption | exact x_up_self _ _ _ | (rw [x_up_ne (by first | omega | (simp only [x_up, x_nw]; omega))]; first | assumption | exact x_up_self _ _ _)) | (rw [x_nw_ne (by first | omega | (simp only [x_up, x_nw]; omega))]; first | assumption | exact x_up_self _ _ _ | (rw [x_up_ne (by first | omega | (simp only [x_up, x_nw]; omega))]; assumption))) (by rfl) rfl ?_
            refine go_iload_n (pc' := 50) (i := 1) d_Tri_find_49 rfl rfl rfl ?_
            refine go_icmp_ne (tgt := 58) (pc' := 53) d_Tri_find_50 (by decide) rfl (fun hc => ?_) (fun hc => ?_)
            · refine go_null (pc' := 59) d_Tri_find_58 rfl ?_
              refine go_areturn d_Tri_find_59 rfl ⟨_, rfl⟩ (by first | rfl | exact x_r_rf _) ?_
              refine ⟨rfl, none, rfl, ?_⟩
              rw [← hget]
              simp [q_get, hc, Eo, *]
            · refine go_aload (pc' := 55) (i := 6) d_Tri_find_53 rfl rfl rfl ?_
              refine go_goto (tgt := 59) d_Tri_find_55 (by decide) ?_
              refine go_areturn d_Tri_find_59 rfl ⟨_, rfl⟩ (by first | rfl | exact x_r_rf _) ?_
              refine ⟨rfl, some b, rfl, ?_⟩
              rw [← hget]
              have : q_get [kv] key = some kv := by simp [q_get, *]
              rw [this]
              exact h4
  refine go_aload_n (pc' := 1) (i := 0) d_Tri_find_0 rfl rfl (by first | rfl | exact x_r_rf _) rfl ?_
  refine go_astore_n (pc' := 2) (i := 2) d_Tri_find_1 rfl (by decide) (by first | rfl | exact x_r_rf _) (x_s2 (by first | rfl | exact x_k_rf _)) rfl ?_
  refine go_iconst (pc' := 3) (v := (nI 0)) d_Tri_find_2 (by decide) rfl ?_
  refine go_istore_n (pc' := 4) (i := 3) d_Tri_find_3 rfl (by decide) (x_s3 (by first | rfl | exact x_k_rf _)) rfl ?_
  exact loop 4 0 root none none none rfl (by rw [q_p_0]; exact hr) rfl rfl rfl
end TA
end
section
/-! counting a trie's nodes -/
abbrev Ac : Type := Nat × Nat × Nat × Nat × Nat
def tl (g : Int32) (c : Ac) : x_C := .inr (3, [.int g, .int (nI c.1), .int (nI c.2.1), .int (nI c.2.2.1), .int (nI c.2.2.2.1), .int (nI c.2.2.2.2)])
def q_a1 (kc : Nat → Nat → Nat) (own : Nat → Nat → Prop) (l p : Nat) [Decidable (own l p)] (c : Ac) : Ac := (c.1 + kc l p, c.2.1 + 1, c.2.2.1 + (if l = 4 then 1 else 0), max c.2.2.2.1 (l + 1), c.2.2.2.2 + (if own l p then 1 else 0))
def q_au (A : Nat → Nat → Option Nat) (kc : Nat → Nat → Nat) (bel : Nat → Nat → Int32) (g : Int32) : Nat → Nat → Nat → Ac → Ac
  | 0, _, _, c => c
  | n + 1, l, p, c => match A l p with
    | none => c
    | some _ => (List.range 4).foldl (fun c j => q_au A kc bel g n (l + 1) (4 * p + j) c) (q_a1 kc (fun l p => bel l p = g) l p c)
/-- how many entries the node at l, p has -/
def q_kc (ks : List KV) (l p : Nat) : Nat := if l < 4 then ((List.range 4).map (fun j => if (q_f ks (l + 1) (4 * p + j)).length = 1 then 1 else 0)).sum else (q_f ks 4 p).length
/-- cells of nodes and entries -/
def x_nd : x_C → Bool
  | .inr (k, _) => k == 1 || k == 2
  | .inl (k, _) => k == 3 || k == 4
def Kp (h g : x_H) : Prop := ∀ b c, h.2.2 b = some c → x_nd c = true → g.2.2 b = some c
theorem Kp.rf (h : x_H) : Kp h h := fun _ _ hb _ => hb
theorem Kp.tr {h g f : x_H} (h1 : Kp h g) (h2 : Kp g f) : Kp h f := fun b c hb hc => h2 b c (h1 b c hb hc) hc
theorem Kp.up {h : x_H} {a : Nat} {c c' : x_C} (ha : h.2.2 a = some c) (hc : x_nd c = false) : Kp h (x_up h a c') := fun b x hb hx => by
  have hne : b ≠ a := fun e => by
    subst e
    rw [ha] at hb
    cases hb
    rw [hc] at hx
    cases hx
  rw [x_up_ne hne]
  exact hb
theorem Kp.nw {h : x_H} (hd : ∀ (a : Nat) (c : x_C), h.2.2 a = some c → a < h.1) (n : Nat) (c : x_C) : Kp h (x_nw h n c) := fun b x hb _ => by
  rw [x_nw_ne (Nat.ne_of_lt (hd b x hb))]
  exact hb
theorem Nd.kp {h g : x_H} {a : Nat} {ge : Int32} {n k : Nat} {es ns : Nat → Option Nat} (hN : Nd h a ge n es k ns) (hk : Kp h g) : Nd g a ge n es k ns := ⟨hk _ _ hN.1 rfl, hk _ _ hN.2.1 rfl, hk _ _ hN.2.2 rfl⟩
theorem Et.kp {h g : x_H} {e : Nat} {k : Int32} {v : Int64} (he : Et h e k v) (hk : Kp h g) : Et g e k v := hk _ _ he rfl
theorem Eo.kp {h g : x_H} {o : Option Nat} {x : Option KV} (he : Eo h o x) (hk : Kp h g) : Eo g o x := by
  cases o with
  | none => cases x with
    | none => trivial
    | some y => exact he.elim
  | some e => cases x with
    | none => exact he.elim
    | some y => exact Et.kp he hk
theorem Tr.kp {h g : x_H} {A : Nat → Nat → Option Nat} {ks : List KV} {bel : Nat → Nat → Int32} (hT : Tr h A ks bel) (hk : Kp h g) : Tr g A ks bel := by
  refine ⟨hT.1, fun l p a ha => ⟨fun hl => ?_, fun hl => ?_⟩⟩
  · obtain ⟨es, ns, hN, hE⟩ := (hT.2 l p a ha).1 hl
    exact ⟨es, ns, hN.kp hk, fun j hj => ⟨(hE j hj).1, (hE j hj).2.kp hk⟩⟩
  · obtain ⟨es, ns, hN, hE⟩ := (hT.2 l p a ha).2 hl
    exact ⟨es, ns, hN.kp hk, fun j hj => (hE j hj).kp hk⟩
theorem q_ct_sum (es : Nat → Option Nat) : ∀ n, q_ct es n = ((List.range n).map (fun j => if (es j).isSome then 1 else 0)).sum
  | 0 => rfl
  | n + 1 => by rw [List.range_succ, List.map_append, List.sum_append, ← q_ct_sum es n]; simp [q_ct]
theorem Eo.is {h : x_H} {o : Option Nat} {x : Option KV} (he : Eo h o x) : o.isSome = x.isSome := by
  cases o <;> cases x <;> first | rfl | exact he.elim
theorem q_1_is (L : List KV) : (q_1 L).isSome = decide (L.length = 1) := by
  match L with
  | [] => rfl
  | [x] => rfl
  | x :: y :: r => simp [q_1]
theorem q_ct_list {L : List KV} : ∀ (n : Nat) {es : Nat → Option Nat}, (∀ j, j < n → (es j).isSome = (L[j]?).isSome) → L.length ≤ n → q_ct es n = L.length := by
  intro n es hE hl
  have h1 : ∀ m, m ≤ n → q_ct es m = min m L.length := by
    intro m
    induction m with
    | zero => intro _; simp [q_ct]
    | succ m ih =>
      intro hm
      rw [q_ct, ih (by omega), hE m (by omega)]
      by_cases hml : m < L.length
      · rw [List.getElem?_eq_getElem hml]
        simp
        omega
      · rw [List.getElem?_eq_none (by omega)]
        simp
        omega
  rw [h1 n (Nat.le_refl _)]
  omega
section TB
variable {K : x_K} {d : Nat} {h : x_H} {A : Nat → Nat → Option Nat} {ks : List KV} {bel : Nat → Nat → Int32} {t a : Nat} {g : Int32}
theorem Tr.kc (hT : Tr h A ks bel) (hK : Ko ks) {l p : Nat} (ha : A l p = some a) : l ≤ 4 ∧ ∃ n es k ns, Nd h a (bel l p) n es k ns ∧ n ≤ 6 ∧ k = (if l < 4 then 4 else 0) ∧ q_ct es n = q_kc ks l p ∧ ∀ j, j < k → ns j = A (l + 1) (4 * p + j) := by
  have hl := ((hT.1 l p).mp ⟨a, ha⟩).1
  refine ⟨hl, ?_⟩
  by_cases hl4 : l < 4
  · obtain ⟨es, ns, hN, hE⟩ := (hT.2 l p a ha).1 hl4
    refine ⟨4, es, 4, ns, hN, by omega, by rw [if_pos hl4], ?_, fun j hj => (hE j hj).1⟩
    rw [q_ct_sum]
    unfold q_kc
    rw [if_pos hl4]
    congr 1
    apply List.map_congr_left
    intro j hj
    have h2 := (hE j (List.mem_range.mp hj)).2.is
    rw [h2, q_1_is]
    simp
  · have hl5 : l = 4 := by omega
    subst hl5
    obtain ⟨es, ns, hN, hE⟩ := (hT.2 4 p a ha).2 rfl
    refine ⟨6, es, 0, ns, hN, by omega, by rw [if_neg hl4], ?_, fun j hj => by omega⟩
    unfold q_kc
    rw [if_neg hl4]
    exact q_ct_list 6 (fun j hj => (hE j hj).is) (hK.2.2 p)
theorem s_Tal_add {n k : Nat} {es ns : Nat → Option Nat} {ge : Int32} (hN : Nd h a ge n es k ns) (hn : n ≤ 6) (c : Ac) (ht : h.2.2 t = some (tl g c)) {l : Nat} (hl : l ≤ 4) (hc : c.2.2.2.1 ≤ 5) (hd : 1 ≤ d) (kc : Nat → Nat → Nat) (p : Nat) (hkc : kc l p = q_ct es n) (bel : Nat → Nat → Int32) (hb : bel l p = ge) :
    Go K M_Tal_add d 0 [some (.ref t), some (.ref a), some (.int (nI l))] [] h (x_is none (x_up h t (tl g (q_a1 kc (fun l p => bel l p = g) l p c)))) := by
  have hN' := hN
  obtain ⟨h0, h1, h2⟩ := hN
  unfold tl at ht
  have hta : a ≠ t := fun e => by subst e; rw [h0] at ht; cases ht
  refine go_aload_n (pc' := 1) (i := 0) d_Tal_add_0 rfl rfl (by first | rfl | exact x_r_rf _) rfl ?_
  refine go_dup (pc' := 2) d_Tal_add_1 (by first | rfl | exact x_c_rf _) rfl ?_
  refine go_getfield (pc' := 5) d_Tal_add_2 c_Tal 1 (by decide) t_216 (by first | assumption | exact x_up_self _ _ _ | exact x_nw_self _ _ _ | (rw [x_up_ne (by first | omega | (simp only [x_up, x_nw]; omega))]; first | assumption | exact x_up_self _ _ _ | (rw [x_up_ne (by first | omega | (simp only [x_up, x_nw]; omega))]; first | assumption | exact x_up_self _ _ _)) | (rw [x_nw_ne (by first | omega | (simp only [x_up, x_nw]; omega))]; first | assumption | exact x_up_self _ _ _ | (rw [x_up_ne (by first | omega | (simp only [x_up, x_nw]; omega))]; assumption))) (by rfl) rfl ?_
  refine go_aload_n (pc' := 6) (i := 1) d_Tal_add_5 rfl rfl (by first | rfl | exact x_r_rf _) rfl ?_
  refine go_callV (pc' := 9) (M' := M_Nod_countEntries) (ci := 2) (r := (n_Nod, T_Nod, 3)) [] d_Tal_add_6 t_246 t_247 t_248 cd_Nod_countEntries nm_Nod_countEntries rfl (by rfl) (by first | assumption | exact x_up_self _ _ _ | exact x_nw_self _ _ _ | (rw [x_up_ne (by first | omega | (simp only [x_up, x_nw]; omega))]; first | assumption | exact x_up_self _ _ _ | (rw [x_up_ne (by first | omega | (simp only [x_up, x_nw]; omega))]; first | assumption | exact x_up_self _ _ _)) | (rw [x_nw_ne (by first | omega | (simp only [x_up, x_nw]; omega))]; first | assumption | exact x_up_self _ _ _ | (rw [x_up_ne (by first | omega | (simp only [x_up, x_nw]; omega))]; assumption))) rfl (Nat.le_of_ble_eq_true rfl) rfl (s_countEntries (d := d - 1) hN' hn) (by first | decide | omega) (Nat.le_of_ble_eq_true rfl) rfl (fun v hh hq => ?_) (fun q g hq => by cases hq.1)
  obtain ⟨e1, rfl⟩ := hq
  cases e1
  show Go K M_Tal_add d 9 _ (.int (nI (q_ct es n)) :: _) h _
  refine go_iadd (pc' := 10) d_Tal_add_9 rfl ?_
  rw [nI_add]
  refine go_putfield (pc' := 13) d_Tal_add_10 c_Tal 1 (by decide) rfl t_216 (by first | assumption | exact x_up_self _ _ _ | exact x_nw_self _ _ _ | (rw [x_up_ne (by first | omega | (simp only [x_up, x_nw]; omega))]; first | assumption | exact x_up_self _ _ _ | (rw [x_up_ne (by first | omega | (simp only [x_up, x_nw]; omega))]; first | assumption | exact x_up_self _ _ _)) | (rw [x_nw_ne (by first | omega | (simp only [x_up, x_nw]; omega))]; first | assumption | exact x_up_self _ _ _ | (rw [x_up_ne (by first | omega | (simp only [x_up, x_nw]; omega))]; assumption))) (by rfl) (by rfl) (by first | exact Nat.le_of_ble_eq_true rfl | simp) rfl ?_
  refine go_aload_n (pc' := 14) (i := 0) d_Tal_add_13 rfl rfl (by first | rfl | exact x_r_rf _) rfl ?_
  refine go_dup (pc' := 15) d_Tal_add_14 (by first | rfl | exact x_c_rf _) rfl ?_
  refine go_getfield (pc' := 18) d_Tal_add_15 c_Tal 2 (by decide) t_218 (by first | assumption | exact x_up_self _ _ _ | exact x_nw_self _ _ _ | (rw [x_up_ne (by first | omega | (simp only [x_up, x_nw]; omega))]; first | assumption | exact x_up_self _ _ _ | (rw [x_up_ne (by first | omega | (simp only [x_up, x_nw]; omega))]; first | assumption | exact x_up_self _ _ _)) | (rw [x_nw_ne (by first | omega | (simp only [x_up, x_nw]; omega))]; first | assumption | exact x_up_self _ _ _ | (rw [x_up_ne (by first | omega | (simp only [x_up, x_nw]; omega))]; assumption))) (by rfl) rfl ?_
  refine go_iconst (pc' := 19) (v := (nI 1)) d_Tal_add_18 (by decide) rfl ?_
  refine go_iadd (pc' := 20) d_Tal_add_19 rfl ?_
  rw [nI_add]
  refine go_putfield (pc' := 23) d_Tal_add_20 c_Tal 2 (by decide) rfl t_218 (by first | assumption | exact x_up_self _ _ _ | exact x_nw_self _ _ _ | (rw [x_up_ne (by first | omega | (simp only [x_up, x_nw]; omega))]; first | assumption | exact x_up_self _ _ _ | (rw [x_up_ne (by first | omega | (simp only [x_up, x_nw]; omega))]; first | assumption | exact x_up_self _ _ _)) | (rw [x_nw_ne (by first | omega | (simp only [x_up, x_nw]; omega))]; first | assumption | exact x_up_self _ _ _ | (rw [x_up_ne (by first | omega | (simp only [x_up, x_nw]; omega))]; assumption))) (by rfl) (by rfl) (by first | exact Nat.le_of_ble_eq_true rfl | simp) rfl ?_
  refine go_aload_n (pc' := 24) (i := 0) d_Tal_add_23 rfl rfl (by first | rfl | exact x_r_rf _) rfl ?_
  refine go_dup (pc' := 25) d_Tal_add_24 (by first | rfl | exact x_c_rf _) rfl ?_
  refine go_getfield (pc' := 28) d_Tal_add_25 c_Tal 3 (by decide) t_220 (by first | assumption | exact x_up_self _ _ _ | exact x_nw_self _ _ _ | (rw [x_up_ne (by first | omega | (simp only [x_up, x_nw]; omega))]; first | assumption | exact x_up_self _ _ _ | (rw [x_up_ne (by first | omega | (simp only [x_up, x_nw]; omega))]; first | assumption | exact x_up_self _ _ _)) | (rw [x_nw_ne (by first | omega | (simp only [x_up, x_nw]; omega))]; first | assumption | exact x_up_self _ _ _ | (rw [x_up_ne (by first | omega | (simp only [x_up, x_nw]; omega))]; assumption))) (by rfl) rfl ?_
  refine go_iload_n (pc' := 29) (i := 2) d_Tal_add_28 rfl rfl rfl ?_
  refine go_iconst (pc' := 30) (v := (nI 4)) d_Tal_add_29 (by decide) rfl ?_
  simp only [x_up_up, List.set_cons_zero, List.set_cons_succ]
  have fin : ∀ x : Nat, x = (if bel l p = g then 1 else 0) → Go K M_Tal_add d 77 [some (.ref t), some (.ref a), some (.int (nI l))] [.int (nI x), .int (nI c.2.2.2.2), .ref t]
      (x_up h t (.inr (3, [.int g, .int (nI (c.1 + q_ct es n)), .int (nI (c.2.1 + 1)), .int (nI (c.2.2.1 + (if l = 4 then 1 else 0))), .int (nI (max c.2.2.2.1 (l + 1))), .int (nI c.2.2.2.2)]))) (x_is none (x_up h t (tl g (q_a1 kc (fun l p => bel l p = g) l p c)))) := by
    intro x hx
    refine go_iadd (pc' := 78) d_Tal_add_77 rfl ?_
    rw [nI_add]
    refine go_putfield (pc' := 81) d_Tal_add_78 c_Tal 5 (by decide) rfl t_224 (by first | assumption | exact x_up_self _ _ _ | exact x_nw_self _ _ _ | (rw [x_up_ne (by first | omega | (simp only [x_up, x_nw]; omega))]; first | assumption | exact x_up_self _ _ _ | (rw [x_up_ne (by first | omega | (simp only [x_up, x_nw]; omega))]; first | assumption | exact x_up_self _ _ _)) | (rw [x_nw_ne (by first | omega | (simp only [x_up, x_nw]; omega))]; first | assumption | exact x_up_self _ _ _ | (rw [x_up_ne (by first | omega | (simp only [x_up, x_nw]; omega))]; assumption))) (by rfl) (by rfl) (by first | exact Nat.le_of_ble_eq_true rfl | simp) rfl ?_
    simp only [x_up_up, List.set_cons_zero, List.set_cons_succ]
    refine go_return d_Tal_add_81 rfl ?_
    subst hx
    refine ⟨rfl, ?_⟩
    unfold tl q_a1
    rw [hkc]
  have rest : ∀ x : Nat, x = (if l = 4 then 1 else 0) → Go K M_Tal_add d 38 [some (.ref t), some (.ref a), some (.int (nI l))] [.int (nI x), .int (nI c.2.2.1), .ref t]
      (x_up h t (.inr (3, [.int g, .int (nI (c.1 + q_ct es n)), .int (nI (c.2.1 + 1)), .int (nI c.2.2.1), .int (nI c.2.2.2.1), .int (nI c.2.2.2.2)]))) (x_is none (x_up h t (tl g (q_a1 kc (fun l p => bel l p = g) l p c)))) := by
    intro x hx
    refine go_iadd (pc' := 39) d_Tal_add_38 rfl ?_
    rw [nI_add]
    refine go_putfield (pc' := 42) d_Tal_add_39 c_Tal 3 (by decide) rfl t_220 (by first | assumption | exact x_up_self _ _ _ | exact x_nw_self _ _ _ | (rw [x_up_ne (by first | omega | (simp only [x_up, x_nw]; omega))]; first | assumption | exact x_up_self _ _ _ | (rw [x_up_ne (by first | omega | (simp only [x_up, x_nw]; omega))]; first | assumption | exact x_up_self _ _ _)) | (rw [x_nw_ne (by first | omega | (simp only [x_up, x_nw]; omega))]; first | assumption | exact x_up_self _ _ _ | (rw [x_up_ne (by first | omega | (simp only [x_up, x_nw]; omega))]; assumption))) (by rfl) (by rfl) (by first | exact Nat.le_of_ble_eq_true rfl | simp) rfl ?_
    refine go_aload_n (pc' := 43) (i := 0) d_Tal_add_42 rfl rfl (by first | rfl | exact x_r_rf _) rfl ?_
    refine go_aload_n (pc' := 44) (i := 0) d_Tal_add_43 rfl rfl (by first | rfl | exact x_r_rf _) rfl ?_
    refine go_getfield (pc' := 47) d_Tal_add_44 c_Tal 4 (by decide) t_222 (by first | assumption | exact x_up_self _ _ _ | exact x_nw_self _ _ _ | (rw [x_up_ne (by first | omega | (simp only [x_up, x_nw]; omega))]; first | assumption | exact x_up_self _ _ _ | (rw [x_up_ne (by first | omega | (simp only [x_up, x_nw]; omega))]; first | assumption | exact x_up_self _ _ _)) | (rw [x_nw_ne (by first | omega | (simp only [x_up, x_nw]; omega))]; first | assumption | exact x_up_self _ _ _ | (rw [x_up_ne (by first | omega | (simp only [x_up, x_nw]; omega))]; assumption))) (by rfl) rfl ?_
    refine go_iload_n (pc' := 48) (i := 2) d_Tal_add_47 rfl rfl rfl ?_
    refine go_iconst (pc' := 49) (v := (nI 1)) d_Tal_add_48 (by decide) rfl ?_
    simp only [x_up_up, List.set_cons_zero, List.set_cons_succ]
    refine go_iadd (pc' := 50) d_Tal_add_49 rfl ?_
    rw [nI_add]
    refine go_mmax (pc' := 53) d_Tal_add_50 t_250 t_251 t_11 t_252 (Nat.le_of_ble_eq_true rfl) rfl ?_
    have em : (if nI c.2.2.2.1 < nI (l + 1) then nI (l + 1) else nI c.2.2.2.1) = nI (max c.2.2.2.1 (l + 1)) := by
      by_cases hlt : c.2.2.2.1 < l + 1
      · rw [if_pos ((nI_ltI (by omega) (by omega)).mpr hlt), Nat.max_eq_right (by omega)]
      · rw [if_neg (fun z => hlt ((nI_ltI (by omega) (by omega)).mp z)), Nat.max_eq_left (by omega)]
    rw [em]
    refine go_putfield (pc' := 56) d_Tal_add_53 c_Tal 4 (by decide) rfl t_222 (by first | assumption | exact x_up_self _ _ _ | exact x_nw_self _ _ _ | (rw [x_up_ne (by first | omega | (simp only [x_up, x_nw]; omega))]; first | assumption | exact x_up_self _ _ _ | (rw [x_up_ne (by first | omega | (simp only [x_up, x_nw]; omega))]; first | assumption | exact x_up_self _ _ _)) | (rw [x_nw_ne (by first | omega | (simp only [x_up, x_nw]; omega))]; first | assumption | exact x_up_self _ _ _ | (rw [x_up_ne (by first | omega | (simp only [x_up, x_nw]; omega))]; assumption))) (by rfl) (by rfl) (by first | exact Nat.le_of_ble_eq_true rfl | simp) rfl ?_
    refine go_aload_n (pc' := 57) (i := 0) d_Tal_add_56 rfl rfl (by first | rfl | exact x_r_rf _) rfl ?_
    refine go_dup (pc' := 58) d_Tal_add_57 (by first | rfl | exact x_c_rf _) rfl ?_
    refine go_getfield (pc' := 61) d_Tal_add_58 c_Tal 5 (by decide) t_224 (by first | assumption | exact x_up_self _ _ _ | exact x_nw_self _ _ _ | (rw [x_up_ne (by first | omega | (simp only [x_up, x_nw]; omega))]; first | assumption | exact x_up_self _ _ _ | (rw [x_up_ne (by first | omega | (simp only [x_up, x_nw]; omega))]; first | assumption | exact x_up_self _ _ _)) | (rw [x_nw_ne (by first | omega | (simp only [x_up, x_nw]; omega))]; first | assumption | exact x_up_self _ _ _ | (rw [x_up_ne (by first | omega | (simp only [x_up, x_nw]; omega))]; assumption))) (by rfl) rfl ?_
    refine go_aload_n (pc' := 62) (i := 1) d_Tal_add_61 rfl rfl (by first | rfl | exact x_r_rf _) rfl ?_
    refine go_getfield (pc' := 65) d_Tal_add_62 c_Nod 0 (by decide) t_40 (by first | assumption | exact x_up_self _ _ _ | exact x_nw_self _ _ _ | (rw [x_up_ne (by first | omega | (simp only [x_up, x_nw]; omega))]; first | assumption | exact x_up_self _ _ _ | (rw [x_up_ne (by first | omega | (simp only [x_up, x_nw]; omega))]; first | assumption | exact x_up_self _ _ _)) | (rw [x_nw_ne (by first | omega | (simp only [x_up, x_nw]; omega))]; first | assumption | exact x_up_self _ _ _ | (rw [x_up_ne (by first | omega | (simp only [x_up, x_nw]; omega))]; assumption))) (by rfl) rfl ?_
    refine go_aload_n (pc' := 66) (i := 0) d_Tal_add_65 rfl rfl (by first | rfl | exact x_r_rf _) rfl ?_
    refine go_getfield (pc' := 69) d_Tal_add_66 c_Tal 0 (by decide) t_215 (by first | assumption | exact x_up_self _ _ _ | exact x_nw_self _ _ _ | (rw [x_up_ne (by first | omega | (simp only [x_up, x_nw]; omega))]; first | assumption | exact x_up_self _ _ _ | (rw [x_up_ne (by first | omega | (simp only [x_up, x_nw]; omega))]; first | assumption | exact x_up_self _ _ _)) | (rw [x_nw_ne (by first | omega | (simp only [x_up, x_nw]; omega))]; first | assumption | exact x_up_self _ _ _ | (rw [x_up_ne (by first | omega | (simp only [x_up, x_nw]; omega))]; assumption))) (by rfl) rfl ?_
    simp only [x_up_up, List.set_cons_zero, List.set_cons_succ]
    subst hx
    refine go_icmp_ne (tgt := 76) (pc' := 72) d_Tal_add_69 (by decide) rfl (fun hc => ?_) (fun hc => ?_)
    · refine go_iconst (pc' := 77) (v := (nI 0)) d_Tal_add_76 (by decide) rfl ?_
      exact fin 0 (by rw [if_neg (by rw [hb]; exact hc)])
    · refine go_iconst (pc' := 73) (v := (nI 1)) d_Tal_add_72 (by decide) rfl ?_
      refine go_goto (tgt := 77) d_Tal_add_73 (by decide) ?_
      exact fin 1 (by rw [if_pos (by rw [hb]; exact hc)])
  refine go_icmp_neN (tgt := 37) (pc' := 33) d_Tal_add_30 (by decide) rfl (by omega) (by omega) (fun hc => ?_) (fun hc => ?_)
  · refine go_iconst (pc' := 38) (v := (nI 0)) d_Tal_add_37 (by decide) rfl ?_
    exact rest 0 (by rw [if_neg hc])
  · refine go_iconst (pc' := 34) (v := (nI 1)) d_Tal_add_33 (by decide) rfl ?_
    refine go_goto (tgt := 38) d_Tal_add_34 (by decide) ?_
    exact rest 1 (by rw [if_pos hc])
theorem s_addUp0 {l : Nat} : Go K M_Tri_addUp d 0 [some .null, some (.int (nI l)), some (.ref t), none] [] h (x_is none h) := by
  refine go_aload_n (pc' := 1) (i := 0) d_Tri_addUp_0 rfl rfl (by first | rfl | exact x_r_rf _) rfl ?_
  refine go_ifnull_n (tgt := 9) d_Tri_addUp_1 (by decide) ?_
  refine go_return d_Tri_addUp_9 rfl ?_
  exact ⟨rfl, rfl⟩
theorem s_addUp (hT : Tr h A ks bel) (hK : Ko ks) : ∀ (r l p a : Nat) (c : Ac) (h' : x_H), l + r = 4 → A l p = some a → Kp h h' → h'.2.2 t = some (tl g c) → c.2.2.2.1 ≤ 5 →
    Go K M_Tri_addUp (r + 2) 0 [some (.ref a), some (.int (nI l)), some (.ref t), none] [] h' (x_is none (x_up h' t (tl g (q_au A (q_kc ks) bel g (r + 1) l p c)))) ∧ (q_au A (q_kc ks) bel g (r + 1) l p c).2.2.2.1 ≤ 5 := by
  intro r
  induction r with
  | zero =>
    intro l p a c h' hl ha hk ht hcb
    have hl4 : l = 4 := by omega
    subst hl4
    obtain ⟨-, n, es, k, ns, hN, hn, hkk, hct, hns⟩ := (hT.kp hk).kc hK ha
    have hk0 : k = 0 := by rw [hkk]; rfl
    subst hk0
    have hN' := hN
    obtain ⟨h0, h1, h2⟩ := hN
    have ht' := ht
    unfold tl at ht'
    have hta : a + 2 ≠ t := fun e => by rw [e, ht'] at h2; cases h2
    have hta2 : a ≠ t := fun e => by rw [e, ht'] at h0; cases h0
    have eq1 : q_au A (q_kc ks) bel g 1 4 p c = q_a1 (q_kc ks) (fun l p => bel l p = g) 4 p c := by
      simp only [q_au, ha]
      rfl
    rw [eq1]
    refine ⟨?_, by simp only [q_a1]; omega⟩
    refine go_aload_n (pc' := 1) (i := 0) d_Tri_addUp_0 rfl rfl (by first | rfl | exact x_r_rf _) rfl ?_
    refine go_ifnull_r (pc' := 4) d_Tri_addUp_1 rfl ?_
    refine go_iload_n (pc' := 5) (i := 1) d_Tri_addUp_4 rfl rfl rfl ?_
    refine go_iconst (pc' := 6) (v := (nI 4)) d_Tri_addUp_5 (by decide) rfl ?_
    refine go_icmp_leN (tgt := 10) (pc' := 9) d_Tri_addUp_6 (by decide) rfl (by omega) (by omega) (fun hc => ?_) (fun hc => ?_)
    · refine go_aload_n (pc' := 11) (i := 2) d_Tri_addUp_10 rfl rfl (by first | rfl | exact x_r_rf _) rfl ?_
      refine go_aload_n (pc' := 12) (i := 0) d_Tri_addUp_11 rfl rfl (by first | rfl | exact x_r_rf _) rfl ?_
      refine go_iload_n (pc' := 13) (i := 1) d_Tri_addUp_12 rfl rfl rfl ?_
      refine go_callV (pc' := 16) (M' := M_Tal_add) (ci := 3) (r := (n_Tal, T_Tal, 6)) [_, _] d_Tri_addUp_13 t_242 t_243 t_244 cd_Tal_add nm_Tal_add rfl (by rfl) (by first | assumption | exact x_up_self _ _ _ | exact x_nw_self _ _ _ | (rw [x_up_ne (by first | omega | (simp only [x_up, x_nw]; omega))]; first | assumption | exact x_up_self _ _ _ | (rw [x_up_ne (by first | omega | (simp only [x_up, x_nw]; omega))]; first | assumption | exact x_up_self _ _ _)) | (rw [x_nw_ne (by first | omega | (simp only [x_up, x_nw]; omega))]; first | assumption | exact x_up_self _ _ _ | (rw [x_up_ne (by first | omega | (simp only [x_up, x_nw]; omega))]; assumption))) rfl (Nat.le_of_ble_eq_true rfl) rfl (s_Tal_add (d := 1) hN' hn c ht (l := 4) (by omega) hcb (by omega) (q_kc ks) p hct.symm bel rfl) (by first | decide | omega) (Nat.le_of_ble_eq_true rfl) rfl (fun v hh hq => ?_) (fun q g hq => by cases hq.1)
      obtain ⟨e1, rfl⟩ := hq
      cases e1
      refine go_iconst (pc' := 17) (v := (nI 0)) d_Tri_addUp_16 (by decide) rfl ?_
      refine go_istore_n (pc' := 18) (i := 3) d_Tri_addUp_17 rfl (by decide) (x_s3 (by first | rfl | exact x_k_rf _)) rfl ?_
      refine go_iload_n (pc' := 19) (i := 3) d_Tri_addUp_18 rfl rfl rfl ?_
      refine go_aload_n (pc' := 20) (i := 0) d_Tri_addUp_19 rfl rfl (by first | rfl | exact x_r_rf _) rfl ?_
      refine go_getfield (pc' := 23) d_Tri_addUp_20 c_Nod 2 (by decide) t_46 (by first | assumption | exact x_up_self _ _ _ | exact x_nw_self _ _ _ | (rw [x_up_ne (by first | omega | (simp only [x_up, x_nw]; omega))]; first | assumption | exact x_up_self _ _ _ | (rw [x_up_ne (by first | omega | (simp only [x_up, x_nw]; omega))]; first | assumption | exact x_up_self _ _ _)) | (rw [x_nw_ne (by first | omega | (simp only [x_up, x_nw]; omega))]; first | assumption | exact x_up_self _ _ _ | (rw [x_up_ne (by first | omega | (simp only [x_up, x_nw]; omega))]; assumption))) (by rfl) rfl ?_
      refine go_alenN (pc' := 24) d_Tri_addUp_23 (by first | assumption | exact x_up_self _ _ _ | exact x_nw_self _ _ _ | (rw [x_up_ne (by first | omega | (simp only [x_up, x_nw]; omega))]; first | assumption | exact x_up_self _ _ _ | (rw [x_up_ne (by first | omega | (simp only [x_up, x_nw]; omega))]; first | assumption | exact x_up_self _ _ _)) | (rw [x_nw_ne (by first | omega | (simp only [x_up, x_nw]; omega))]; first | assumption | exact x_up_self _ _ _ | (rw [x_up_ne (by first | omega | (simp only [x_up, x_nw]; omega))]; assumption))) (by rfl) rfl ?_
      refine go_icmp_geN (tgt := 46) (pc' := 27) d_Tri_addUp_24 (by decide) rfl (by omega) (by omega) (fun hc => ?_) (fun hc => ?_)
      · refine go_return d_Tri_addUp_46 rfl ?_
        exact ⟨rfl, rfl⟩
      · omega
    · omega
  | succ r ih =>
    intro l p a c h' hl ha hk ht hcb
    have hl4 : l < 4 := by omega
    obtain ⟨-, n, es, k, ns, hN, hn, hkk, hct, hns⟩ := (hT.kp hk).kc hK ha
    have hk0 : k = 4 := by rw [hkk, if_pos hl4]
    subst hk0
    have hN' := hN
    obtain ⟨h0, h1, h2⟩ := hN
    have ht' := ht
    unfold tl at ht'
    have hta : a + 2 ≠ t := fun e => by rw [e, ht'] at h2; cases h2
    have hta2 : a ≠ t := fun e => by rw [e, ht'] at h0; cases h0
    obtain ⟨c1, hc1⟩ : ∃ z, z = q_a1 (q_kc ks) (fun l p => bel l p = g) l p c := ⟨_, rfl⟩
    obtain ⟨F, hF⟩ : ∃ F : Nat → Ac, F = fun i => (List.range i).foldl (fun c j => q_au A (q_kc ks) bel g (r + 1) (l + 1) (4 * p + j) c) c1 := ⟨_, rfl⟩
    have hF0 : F 0 = c1 := by rw [hF]; rfl
    have hFs : ∀ i, F (i + 1) = q_au A (q_kc ks) bel g (r + 1) (l + 1) (4 * p + i) (F i) := by
      intro i
      rw [hF]
      simp only [List.range_succ, List.foldl_append, List.foldl_cons, List.foldl_nil]
    have eq1 : q_au A (q_kc ks) bel g (r + 1 + 1) l p c = F 4 := by
      rw [hF, hc1, q_au, ha]
    have hb1 : c1.2.2.2.1 ≤ 5 := by
      rw [hc1]
      simp only [q_a1]
      omega
    have hkp : ∀ c', Kp h (x_up h' t (tl g c')) := fun c' => hk.tr (Kp.up ht rfl)
    have hFb : ∀ i, i ≤ 4 → (F i).2.2.2.1 ≤ 5 := by
      intro i
      induction i with
      | zero => intro _; rw [hF0]; exact hb1
      | succ i ihi =>
        intro hi
        rw [hFs]
        cases hA : A (l + 1) (4 * p + i) with
        | none => simp only [q_au, hA]; exact ihi (by omega)
        | some b => exact (ih (l + 1) (4 * p + i) b (F i) (x_up h' t (tl g (F i))) (by omega) hA (hkp _) (x_up_self _ _ _) (ihi (by omega))).2
    rw [eq1]
    refine ⟨?_, hFb 4 (by omega)⟩
    have loop : ∀ rr i, i + rr = 4 → Go K M_Tri_addUp (r + 1 + 2) 18 [some (.ref a), some (.int (nI l)), some (.ref t), some (.int (nI i))] [] (x_up h' t (tl g (F i))) (x_is none (x_up h' t (tl g (F 4)))) := by
      intro rr
      induction rr with
      | zero =>
        intro i hi
        have hi4 : i = 4 := by omega
        subst hi4
        refine go_iload_n (pc' := 19) (i := 3) d_Tri_addUp_18 rfl rfl rfl ?_
        refine go_aload_n (pc' := 20) (i := 0) d_Tri_addUp_19 rfl rfl (by first | rfl | exact x_r_rf _) rfl ?_
        refine go_getfield (pc' := 23) d_Tri_addUp_20 c_Nod 2 (by decide) t_46 (by first | assumption | exact x_up_self _ _ _ | exact x_nw_self _ _ _ | (rw [x_up_ne (by first | omega | (simp only [x_up, x_nw]; omega))]; first | assumption | exact x_up_self _ _ _ | (rw [x_up_ne (by first | omega | (simp only [x_up, x_nw]; omega))]; first | assumption | exact x_up_self _ _ _)) | (rw [x_nw_ne (by first | omega | (simp only [x_up, x_nw]; omega))]; first | assumption | exact x_up_self _ _ _ | (rw [x_up_ne (by first | omega | (simp only [x_up, x_nw]; omega))]; assumption))) (by rfl) rfl ?_
        refine go_alenN (pc' := 24) d_Tri_addUp_23 (by first | assumption | exact x_up_self _ _ _ | exact x_nw_self _ _ _ | (rw [x_up_ne (by first | omega | (simp only [x_up, x_nw]; omega))]; first | assumption | exact x_up_self _ _ _ | (rw [x_up_ne (by first | omega | (simp only [x_up, x_nw]; omega))]; first | assumption | exact x_up_self _ _ _)) | (rw [x_nw_ne (by first | omega | (simp only [x_up, x_nw]; omega))]; first | assumption | exact x_up_self _ _ _ | (rw [x_up_ne (by first | omega | (simp only [x_up, x_nw]; omega))]; assumption))) (by rfl) rfl ?_
        refine go_icmp_geN (tgt := 46) (pc' := 27) d_Tri_addUp_24 (by decide) rfl (by omega) (by omega) (fun hc => ?_) (fun hc => ?_)
        · refine go_return d_Tri_addUp_46 rfl ?_
          exact ⟨rfl, rfl⟩
        · omega
      | succ rr ihr =>
        intro i hi
        refine go_iload_n (pc' := 19) (i := 3) d_Tri_addUp_18 rfl rfl rfl ?_
        refine go_aload_n (pc' := 20) (i := 0) d_Tri_addUp_19 rfl rfl (by first | rfl | exact x_r_rf _) rfl ?_
        refine go_getfield (pc' := 23) d_Tri_addUp_20 c_Nod 2 (by decide) t_46 (by first | assumption | exact x_up_self _ _ _ | exact x_nw_self _ _ _ | (rw [x_up_ne (by first | omega | (simp only [x_up, x_nw]; omega))]; first | assumption | exact x_up_self _ _ _ | (rw [x_up_ne (by first | omega | (simp only [x_up, x_nw]; omega))]; first | assumption | exact x_up_self _ _ _)) | (rw [x_nw_ne (by first | omega | (simp only [x_up, x_nw]; omega))]; first | assumption | exact x_up_self _ _ _ | (rw [x_up_ne (by first | omega | (simp only [x_up, x_nw]; omega))]; assumption))) (by rfl) rfl ?_
        refine go_alenN (pc' := 24) d_Tri_addUp_23 (by first | assumption | exact x_up_self _ _ _ | exact x_nw_self _ _ _ | (rw [x_up_ne (by first | omega | (simp only [x_up, x_nw]; omega))]; first | assumption | exact x_up_self _ _ _ | (rw [x_up_ne (by first | omega | (simp only [x_up, x_nw]; omega))]; first | assumption | exact x_up_self _ _ _)) | (rw [x_nw_ne (by first | omega | (simp only [x_up, x_nw]; omega))]; first | assumption | exact x_up_self _ _ _ | (rw [x_up_ne (by first | omega | (simp only [x_up, x_nw]; omega))]; assumption))) (by rfl) rfl ?_
        refine go_icmp_geN (tgt := 46) (pc' := 27) d_Tri_addUp_24 (by decide) rfl (by omega) (by omega) (fun hc => ?_) (fun hc => ?_)
        · omega
        · refine go_aload_n (pc' := 28) (i := 0) d_Tri_addUp_27 rfl rfl (by first | rfl | exact x_r_rf _) rfl ?_
          refine go_getfield (pc' := 31) d_Tri_addUp_28 c_Nod 2 (by decide) t_46 (by first | assumption | exact x_up_self _ _ _ | exact x_nw_self _ _ _ | (rw [x_up_ne (by first | omega | (simp only [x_up, x_nw]; omega))]; first | assumption | exact x_up_self _ _ _ | (rw [x_up_ne (by first | omega | (simp only [x_up, x_nw]; omega))]; first | assumption | exact x_up_self _ _ _)) | (rw [x_nw_ne (by first | omega | (simp only [x_up, x_nw]; omega))]; first | assumption | exact x_up_self _ _ _ | (rw [x_up_ne (by first | omega | (simp only [x_up, x_nw]; omega))]; assumption))) (by rfl) rfl ?_
          refine go_iload_n (pc' := 32) (i := 3) d_Tri_addUp_31 rfl rfl rfl ?_
          refine go_aaldN (pc' := 33) d_Tri_addUp_32 (by first | assumption | exact x_up_self _ _ _ | exact x_nw_self _ _ _ | (rw [x_up_ne (by first | omega | (simp only [x_up, x_nw]; omega))]; first | assumption | exact x_up_self _ _ _ | (rw [x_up_ne (by first | omega | (simp only [x_up, x_nw]; omega))]; first | assumption | exact x_up_self _ _ _)) | (rw [x_nw_ne (by first | omega | (simp only [x_up, x_nw]; omega))]; first | assumption | exact x_up_self _ _ _ | (rw [x_up_ne (by first | omega | (simp only [x_up, x_nw]; omega))]; assumption))) (by rfl) (by first | assumption | omega | (simp only [x_up, x_nw]; omega)) (by first | assumption | omega | (simp only [x_up, x_nw]; omega)) rfl ?_
          refine go_iload_n (pc' := 34) (i := 1) d_Tri_addUp_33 rfl rfl rfl ?_
          refine go_iconst (pc' := 35) (v := (nI 1)) d_Tri_addUp_34 (by decide) rfl ?_
          refine go_iadd (pc' := 36) d_Tri_addUp_35 rfl ?_
          rw [nI_add, hns i (by omega)]
          refine go_aload_n (pc' := 37) (i := 2) d_Tri_addUp_36 rfl rfl (by first | rfl | exact x_r_rf _) rfl ?_
          cases hA : A (l + 1) (4 * p + i) with
          | none =>
            have e : F (i + 1) = F i := by rw [hFs]; simp only [q_au, hA]
            refine go_callS (pc' := 40) (M' := M_Tri_addUp) [_, _, _] d_Tri_addUp_37 t_239 t_240 t_1 cd_Tri_addUp nm_Tri_addUp rfl rfl (Nat.le_of_ble_eq_true rfl) rfl (s_addUp0 (d := r + 2)) (by first | decide | omega) (Nat.le_of_ble_eq_true rfl) rfl (fun v hh hq => ?_) (fun q g hq => by cases hq.1)
            obtain ⟨e1, rfl⟩ := hq
            cases e1
            refine go_iinc (pc' := 43) (i := 3) d_Tri_addUp_40 rfl (x_i1 _) (by decide) (x_s3 (by first | rfl | exact x_k_rf _)) rfl ?_
            refine go_goto (tgt := 18) d_Tri_addUp_43 (by decide) ?_
            rw [← e]
            exact ihr (i + 1) (by omega)
          | some b =>
            refine go_callS (pc' := 40) (M' := M_Tri_addUp) [_, _, _] d_Tri_addUp_37 t_239 t_240 t_1 cd_Tri_addUp nm_Tri_addUp rfl rfl (Nat.le_of_ble_eq_true rfl) rfl ((ih (l + 1) (4 * p + i) b (F i) (x_up h' t (tl g (F i))) (by omega) hA (hkp _) (x_up_self _ _ _) (hFb i (by omega))).1) (by first | decide | omega) (Nat.le_of_ble_eq_true rfl) rfl (fun v hh hq => ?_) (fun q g hq => by cases hq.1)
            obtain ⟨e1, rfl⟩ := hq
            cases e1
            rw [x_up_up, ← hFs]
            refine go_iinc (pc' := 43) (i := 3) d_Tri_addUp_40 rfl (x_i1 _) (by decide) (x_s3 (by first | rfl | exact x_k_rf _)) rfl ?_
            refine go_goto (tgt := 18) d_Tri_addUp_43 (by decide) ?_
            exact ihr (i + 1) (by omega)
    refine go_aload_n (pc' := 1) (i := 0) d_Tri_addUp_0 rfl rfl (by first | rfl | exact x_r_rf _) rfl ?_
    refine go_ifnull_r (pc' := 4) d_Tri_addUp_1 rfl ?_
    refine go_iload_n (pc' := 5) (i := 1) d_Tri_addUp_4 rfl rfl rfl ?_
    refine go_iconst (pc' := 6) (v := (nI 4)) d_Tri_addUp_5 (by decide) rfl ?_
    refine go_icmp_leN (tgt := 10) (pc' := 9) d_Tri_addUp_6 (by decide) rfl (by omega) (by omega) (fun hc => ?_) (fun hc => ?_)
    · refine go_aload_n (pc' := 11) (i := 2) d_Tri_addUp_10 rfl rfl (by first | rfl | exact x_r_rf _) rfl ?_
      refine go_aload_n (pc' := 12) (i := 0) d_Tri_addUp_11 rfl rfl (by first | rfl | exact x_r_rf _) rfl ?_
      refine go_iload_n (pc' := 13) (i := 1) d_Tri_addUp_12 rfl rfl rfl ?_
      refine go_callV (pc' := 16) (M' := M_Tal_add) (ci := 3) (r := (n_Tal, T_Tal, 6)) [_, _] d_Tri_addUp_13 t_242 t_243 t_244 cd_Tal_add nm_Tal_add rfl (by rfl) (by first | assumption | exact x_up_self _ _ _ | exact x_nw_self _ _ _ | (rw [x_up_ne (by first | omega | (simp only [x_up, x_nw]; omega))]; first | assumption | exact x_up_self _ _ _ | (rw [x_up_ne (by first | omega | (simp only [x_up, x_nw]; omega))]; first | assumption | exact x_up_self _ _ _)) | (rw [x_nw_ne (by first | omega | (simp only [x_up, x_nw]; omega))]; first | assumption | exact x_up_self _ _ _ | (rw [x_up_ne (by first | omega | (simp only [x_up, x_nw]; omega))]; assumption))) rfl (Nat.le_of_ble_eq_true rfl) rfl (s_Tal_add (d := r + 2) hN' hn c ht (l := l) (by omega) hcb (by omega) (q_kc ks) p hct.symm bel rfl) (by first | decide | omega) (Nat.le_of_ble_eq_true rfl) rfl (fun v hh hq => ?_) (fun q g hq => by cases hq.1)
      obtain ⟨e1, rfl⟩ := hq
      cases e1
      refine go_iconst (pc' := 17) (v := (nI 0)) d_Tri_addUp_16 (by decide) rfl ?_
      refine go_istore_n (pc' := 18) (i := 3) d_Tri_addUp_17 rfl (by decide) (x_s3 (by first | rfl | exact x_k_rf _)) rfl ?_
      have := loop 4 0 (by omega)
      rw [hF0, hc1] at this
      exact this
    · omega
end TB
end
section
section TC
variable {K : x_K} {d : Nat} {h : x_H} {A B : Nat → Nat → Option Nat} {ks ks' : List KV} {bel bel' : Nat → Nat → Int32} {t a : Nat} {g : Int32}
theorem q_one4 : ∀ dd : Nat, dd < 4 → (if dd = 0 then 1 else 0) + ((if dd = 1 then 1 else 0) + ((if dd = 2 then 1 else 0) + (if dd = 3 then 1 else 0))) = 1 := by decide
theorem q_f_cons (x : KV) (r : List KV) (l p : Nat) : (q_f (x :: r) l p).length = (q_f r l p).length + (if q_p l x.1 = p then 1 else 0) := by
  unfold q_f
  rw [List.filter_cons]
  by_cases hx : q_p l x.1 = p <;> simp [hx]
theorem q_r4 {α : Type} (f : Nat → α) : (List.range 4).map f = [f 0, f 1, f 2, f 3] := rfl
theorem q_f_len4 (ks : List KV) {l : Nat} (hl : l < 4) (p : Nat) : (q_f ks l p).length = (q_f ks (l + 1) (4 * p + 0)).length + ((q_f ks (l + 1) (4 * p + 1)).length + ((q_f ks (l + 1) (4 * p + 2)).length + (q_f ks (l + 1) (4 * p + 3)).length)) := by
  induction ks with
  | nil => simp [q_f]
  | cons x r ih =>
    rw [q_f_cons, q_f_cons, q_f_cons, q_f_cons, q_f_cons, ih]
    have h1 := q_p_s hl x.1
    have h2 := q_d_lt l x.1
    by_cases hx : q_p l x.1 = p
    · have k : ∀ j, (if q_p (l + 1) x.1 = 4 * p + j then 1 else 0) = (if q_d l x.1 = j then 1 else 0) := by
        intro j
        by_cases hj : q_d l x.1 = j
        · rw [if_pos hj, if_pos (by omega)]
        · rw [if_neg hj, if_neg (by omega)]
      have hs := q_one4 _ h2
      rw [k 0, k 1, k 2, k 3, if_pos hx]
      omega
    · have hne : ∀ j, j < 4 → ¬ q_p (l + 1) x.1 = 4 * p + j := fun j hj => by omega
      rw [if_neg hx, if_neg (hne 0 (by omega)), if_neg (hne 1 (by omega)), if_neg (hne 2 (by omega)), if_neg (hne 3 (by omega))]
      omega
theorem q_f_len (ks : List KV) {l : Nat} (hl : l < 4) (p : Nat) : (q_f ks l p).length = ((List.range 4).map (fun j => (q_f ks (l + 1) (4 * p + j)).length)).sum := by
  rw [q_r4, q_f_len4 ks hl p]
  rfl
/-- the keys that addUp counts -/
theorem q_au_keys (hT : Tr h A ks bel) : ∀ (r l p : Nat) (c : Ac), l + r = 4 → p < 4 ^ l → (q_au A (q_kc ks) bel g (r + 1) l p c).1 = c.1 + (if (A l p).isSome then (q_f ks l p).length else 0) := by
  intro r
  induction r with
  | zero =>
    intro l p c hl hp
    have hl4 : l = 4 := by omega
    subst hl4
    cases hA : A 4 p with
    | none => simp [q_au, hA]
    | some a =>
      have e : q_au A (q_kc ks) bel g (0 + 1) 4 p c = q_a1 (q_kc ks) (fun l p => bel l p = g) 4 p c := by
        simp only [q_au, hA]
        rfl
      rw [e]
      simp [q_a1, q_kc]
  | succ r ih =>
    intro l p c hl hp
    have hl4 : l < 4 := by omega
    cases hA : A l p with
    | none => simp [q_au, hA]
    | some a =>
      have hpj : ∀ j, j < 4 → 4 * p + j < 4 ^ (l + 1) := fun j hj => by rw [Nat.pow_succ]; omega
      have hkc : q_kc ks l p + ((List.range 4).map (fun j => if (A (l + 1) (4 * p + j)).isSome then (q_f ks (l + 1) (4 * p + j)).length else 0)).sum = (q_f ks l p).length := by
        rw [q_f_len ks hl4 p]
        unfold q_kc
        rw [if_pos hl4]
        have key : ∀ j, j < 4 → (if (q_f ks (l + 1) (4 * p + j)).length = 1 then 1 else 0) + (if (A (l + 1) (4 * p + j)).isSome then (q_f ks (l + 1) (4 * p + j)).length else 0) = (q_f ks (l + 1) (4 * p + j)).length := by
          intro j hj
          have hex := hT.1 (l + 1) (4 * p + j)
          cases hB : A (l + 1) (4 * p + j) with
          | none =>
            have : ¬ 2 ≤ (q_f ks (l + 1) (4 * p + j)).length := fun z => by
              obtain ⟨b, hb⟩ := hex.mpr ⟨by omega, hpj j hj, Or.inr z⟩
              rw [hB] at hb
              cases hb
            simp only [Option.isSome_none]
            split <;> simp <;> omega
          | some b =>
            have h2 := (hex.mp ⟨b, hB⟩).2.2
            simp only [Option.isSome_some, if_true]
            rw [if_neg (by omega)]
            omega
        simp only [q_r4, List.sum_cons, List.sum_nil]
        have k0 := key 0 (by omega)
        have k1 := key 1 (by omega)
        have k2 := key 2 (by omega)
        have k3 := key 3 (by omega)
        omega
      have hq : ∀ (js : List Nat) (c : Ac), (∀ j ∈ js, j < 4) → (js.foldl (fun c j => q_au A (q_kc ks) bel g (r + 1) (l + 1) (4 * p + j) c) c).1 = c.1 + (js.map (fun j => if (A (l + 1) (4 * p + j)).isSome then (q_f ks (l + 1) (4 * p + j)).length else 0)).sum := by
        intro js
        induction js with
        | nil => intro c _; simp
        | cons j js ihj =>
          intro c hj
          rw [List.foldl_cons, ihj _ (fun z hz => hj z (List.mem_cons_of_mem _ hz)), ih (l + 1) (4 * p + j) c (by omega) (hpj j (hj j List.mem_cons_self)), List.map_cons, List.sum_cons]
          omega
      have e : q_au A (q_kc ks) bel g (r + 1 + 1) l p c = (List.range 4).foldl (fun c j => q_au A (q_kc ks) bel g (r + 1) (l + 1) (4 * p + j) c) (q_a1 (q_kc ks) (fun l p => bel l p = g) l p c) := by
        rw [q_au, hA]
      rw [e, hq _ _ (fun j hj => List.mem_range.mp hj)]
      simp only [q_a1, Option.isSome_some, if_true]
      omega
theorem q_au_all (hT : Tr h A ks bel) : (q_au A (q_kc ks) bel g 5 0 0 (0, 0, 0, 0, 0)).1 = ks.length := by
  obtain ⟨a, ha⟩ := (hT.1 0 0).mpr ⟨by omega, by decide, Or.inl rfl⟩
  rw [q_au_keys hT 4 0 0 _ (by omega) (by decide), ha, q_f_0]
  simp
theorem s_countKeys (hT : Tr h A ks bel) (hK : Ko ks) {root : Nat} (hr : A 0 0 = some root) (hd : 7 ≤ d) (hc1 : h.1 + 1 ≤ x_cap K) (hc2 : h.2.1 + 6 ≤ x_cas K) :
    Go K M_Tri_countKeys d 0 [some (.ref root), none] [] h (x_rt (fun v f => v = some (.int (nI ks.length)) ∧ f.1 = h.1 + 1 ∧ f.2.1 = h.2.1 + 6 ∧ ∀ b, b < h.1 → f.2.2 b = h.2.2 b)) := by
  refine go_dom fun hdom => ?_
  refine go_new (pc' := 3) (fs := [.int 0, .int 0, .int 0, .int 0, .int 0, .int 0]) d_Tri_countKeys_0 c_Tal t_209 t_210 t_10 (by decide +kernel) (by first | assumption | omega | (simp only [x_up, x_nw]; omega)) (by first | assumption | omega | (simp only [x_up, x_nw]; omega)) rfl ?_
  refine go_dup (pc' := 4) d_Tri_countKeys_3 (by first | rfl | exact x_c_rf _) rfl ?_
  refine go_iconst (pc' := 5) (v := (-1)) d_Tri_countKeys_4 (by decide) rfl ?_
  refine go_callI (pc' := 8) (M' := M_Tal_init) [_] d_Tri_countKeys_5 rfl rfl t_211 t_212 t_213 rfl nm_Tal_init rfl rfl (Nat.le_of_ble_eq_true rfl) rfl (s_Tal_init (d := d - 1) (x_nw_self _ _ _) (-1)) (by first | decide | omega) (Nat.le_of_ble_eq_true rfl) rfl (fun v hh hq => ?_) (fun q g hq => by cases hq.1)
  obtain ⟨e1, rfl⟩ := hq
  cases e1
  show Go K M_Tri_countKeys d 8 _ [.ref h.1] _ _
  refine go_astore_n (pc' := 9) (i := 1) d_Tri_countKeys_8 rfl (by decide) (by first | rfl | exact x_r_rf _) (x_s1 (by first | rfl | exact x_k_rf _)) rfl ?_
  refine go_aload_n (pc' := 10) (i := 0) d_Tri_countKeys_9 rfl rfl (by first | rfl | exact x_r_rf _) rfl ?_
  refine go_iconst (pc' := 11) (v := (nI 0)) d_Tri_countKeys_10 (by decide) rfl ?_
  refine go_aload_n (pc' := 12) (i := 1) d_Tri_countKeys_11 rfl rfl (by first | rfl | exact x_r_rf _) rfl ?_
  have hk : Kp h (x_up (x_nw h 6 (.inr (3, [.int 0, .int 0, .int 0, .int 0, .int 0, .int 0]))) h.1 (.inr (3, [.int (-1), .int 0, .int 0, .int 0, .int 0, .int 0]))) := (Kp.nw hdom _ _).tr (Kp.up (x_nw_self _ _ _) rfl)
  obtain ⟨hg, -⟩ := s_addUp (K := K) (t := h.1) (g := -1) hT hK 4 0 0 root (0, 0, 0, 0, 0) _ rfl hr hk (x_up_self _ _ _) (by decide)
  refine go_callS (pc' := 15) (M' := M_Tri_addUp) [_, _, _] d_Tri_countKeys_12 t_239 t_240 t_1 cd_Tri_addUp nm_Tri_addUp rfl rfl (Nat.le_of_ble_eq_true rfl) rfl (hg) (by first | decide | omega) (Nat.le_of_ble_eq_true rfl) rfl (fun v hh hq => ?_) (fun q g hq => by cases hq.1)
  obtain ⟨e1, rfl⟩ := hq
  cases e1
  show Go K M_Tri_countKeys d 15 _ [] _ _
  have hf := x_up_self (x_up (x_nw h 6 (.inr (3, [.int 0, .int 0, .int 0, .int 0, .int 0, .int 0]))) h.1 (.inr (3, [.int (-1), .int 0, .int 0, .int 0, .int 0, .int 0]))) h.1 (tl (-1) (q_au A (q_kc ks) bel (-1) 5 0 0 (0, 0, 0, 0, 0)))
  unfold tl at hf
  refine go_aload_n (pc' := 16) (i := 1) d_Tri_countKeys_15 rfl rfl (by first | rfl | exact x_r_rf _) rfl ?_
  refine go_getfield (pc' := 19) d_Tri_countKeys_16 c_Tal 1 (by decide) t_217 (by first | assumption | exact x_up_self _ _ _ | exact x_nw_self _ _ _ | (rw [x_up_ne (by first | omega | (simp only [x_up, x_nw]; omega))]; first | assumption | exact x_up_self _ _ _ | (rw [x_up_ne (by first | omega | (simp only [x_up, x_nw]; omega))]; first | assumption | exact x_up_self _ _ _)) | (rw [x_nw_ne (by first | omega | (simp only [x_up, x_nw]; omega))]; first | assumption | exact x_up_self _ _ _ | (rw [x_up_ne (by first | omega | (simp only [x_up, x_nw]; omega))]; assumption))) (by rfl) rfl ?_
  refine go_ireturn d_Tri_countKeys_19 rfl (by rfl) ?_
  refine ⟨by rw [q_au_all hT], rfl, rfl, fun b hb => ?_⟩
  rw [x_up_ne (by omega), x_up_ne (by omega), x_nw_ne (by omega)]
/-- the nodes that two tries have in common -/
def q_cs (A B : Nat → Nat → Option Nat) : Nat → Nat → Nat → Nat
  | 0, _, _ => 0
  | n + 1, l, p => match A l p, B l p with
    | some a, some b => (if a = b then 1 else 0) + ((List.range 4).map (fun j => q_cs A B n (l + 1) (4 * p + j))).sum
    | _, _ => 0
theorem s_cs0 {l : Nat} {v : Value} (hv : x_r v = true) : Go K M_Tri_countShared d 0 [some .null, some v, some (.int (nI l)), none, none] [] h (x_is (some (.int (nI 0))) h) := by
  refine go_aload_n (pc' := 1) (i := 0) d_Tri_countShared_0 rfl rfl (by first | rfl | exact x_r_rf _) rfl ?_
  refine go_ifnull_n (tgt := 13) d_Tri_countShared_1 (by decide) ?_
  refine go_iconst (pc' := 14) (v := (nI 0)) d_Tri_countShared_13 (by decide) rfl ?_
  refine go_ireturn d_Tri_countShared_14 rfl (by rfl) ?_
  exact ⟨rfl, rfl⟩
theorem s_cs1 {l : Nat} : Go K M_Tri_countShared d 0 [some (.ref a), some .null, some (.int (nI l)), none, none] [] h (x_is (some (.int (nI 0))) h) := by
  refine go_aload_n (pc' := 1) (i := 0) d_Tri_countShared_0 rfl rfl (by first | rfl | exact x_r_rf _) rfl ?_
  refine go_ifnull_r (pc' := 4) d_Tri_countShared_1 rfl ?_
  refine go_aload_n (pc' := 5) (i := 1) d_Tri_countShared_4 rfl rfl (by first | rfl | exact x_r_rf _) rfl ?_
  refine go_ifnull_n (tgt := 13) d_Tri_countShared_5 (by decide) ?_
  refine go_iconst (pc' := 14) (v := (nI 0)) d_Tri_countShared_13 (by decide) rfl ?_
  refine go_ireturn d_Tri_countShared_14 rfl (by rfl) ?_
  exact ⟨rfl, rfl⟩
theorem s_countShared (hT : Tr h A ks bel) (hK : Ko ks) (hT' : Tr h B ks' bel') (hK' : Ko ks') : ∀ (r l p a b : Nat), l + r = 4 → A l p = some a → B l p = some b →
    Go K M_Tri_countShared (r + 2) 0 [some (.ref a), some (.ref b), some (.int (nI l)), none, none] [] h (x_is (some (.int (nI (q_cs A B (r + 1) l p)))) h) := by
  intro r
  induction r with
  | zero =>
    intro l p a b hl ha hb
    have hl4 : l = 4 := by omega
    subst hl4
    obtain ⟨-, n, es, k, ns, hN, hn, hkk, hct, hns⟩ := hT.kc hK ha
    have hk0 : k = 0 := by rw [hkk]; rfl
    subst hk0
    obtain ⟨h0, h1, h2⟩ := hN
    have eq1 : q_cs A B (0 + 1) 4 p = (if a = b then 1 else 0) := by
      simp only [q_cs, ha, hb]
      rfl
    rw [eq1]
    refine go_aload_n (pc' := 1) (i := 0) d_Tri_countShared_0 rfl rfl (by first | rfl | exact x_r_rf _) rfl ?_
    refine go_ifnull_r (pc' := 4) d_Tri_countShared_1 rfl ?_
    refine go_aload_n (pc' := 5) (i := 1) d_Tri_countShared_4 rfl rfl (by first | rfl | exact x_r_rf _) rfl ?_
    refine go_ifnull_r (pc' := 8) d_Tri_countShared_5 rfl ?_
    refine go_iload_n (pc' := 9) (i := 2) d_Tri_countShared_8 rfl rfl rfl ?_
    refine go_iconst (pc' := 10) (v := (nI 4)) d_Tri_countShared_9 (by decide) rfl ?_
    have fin : ∀ x : Nat, x = (if a = b then 1 else 0) → Go K M_Tri_countShared (0 + 2) 25 [some (.ref a), some (.ref b), some (.int (nI 4)), none, none] [.int (nI x)] h (x_is (some (.int (nI (if a = b then 1 else 0)))) h) := by
      intro x hx
      subst hx
      refine go_istore_n (pc' := 26) (i := 3) d_Tri_countShared_25 rfl (by decide) (x_s3 (by first | rfl | exact x_k_rf _)) rfl ?_
      refine go_iconst (pc' := 27) (v := (nI 0)) d_Tri_countShared_26 (by decide) rfl ?_
      refine go_istore (pc' := 29) (i := 4) d_Tri_countShared_27 (by decide) (x_s4 (by first | rfl | exact x_k_rf _)) rfl ?_
      refine go_iload (pc' := 31) (i := 4) d_Tri_countShared_29 rfl rfl ?_
      refine go_aload_n (pc' := 32) (i := 0) d_Tri_countShared_31 rfl rfl (by first | rfl | exact x_r_rf _) rfl ?_
      refine go_getfield (pc' := 35) d_Tri_countShared_32 c_Nod 2 (by decide) t_46 (by first | assumption | exact x_up_self _ _ _ | exact x_nw_self _ _ _ | (rw [x_up_ne (by first | omega | (simp only [x_up, x_nw]; omega))]; first | assumption | exact x_up_self _ _ _ | (rw [x_up_ne (by first | omega | (simp only [x_up, x_nw]; omega))]; first | assumption | exact x_up_self _ _ _)) | (rw [x_nw_ne (by first | omega | (simp only [x_up, x_nw]; omega))]; first | assumption | exact x_up_self _ _ _ | (rw [x_up_ne (by first | omega | (simp only [x_up, x_nw]; omega))]; assumption))) (by rfl) rfl ?_
      refine go_alenN (pc' := 36) d_Tri_countShared_35 (by first | assumption | exact x_up_self _ _ _ | exact x_nw_self _ _ _ | (rw [x_up_ne (by first | omega | (simp only [x_up, x_nw]; omega))]; first | assumption | exact x_up_self _ _ _ | (rw [x_up_ne (by first | omega | (simp only [x_up, x_nw]; omega))]; first | assumption | exact x_up_self _ _ _)) | (rw [x_nw_ne (by first | omega | (simp only [x_up, x_nw]; omega))]; first | assumption | exact x_up_self _ _ _ | (rw [x_up_ne (by first | omega | (simp only [x_up, x_nw]; omega))]; assumption))) (by rfl) rfl ?_
      refine go_icmp_geN (tgt := 67) (pc' := 39) d_Tri_countShared_36 (by decide) rfl (by omega) (by omega) (fun hc => ?_) (fun hc => ?_)
      · refine go_iload_n (pc' := 68) (i := 3) d_Tri_countShared_67 rfl rfl rfl ?_
        refine go_ireturn d_Tri_countShared_68 rfl (by rfl) ?_
        exact ⟨rfl, rfl⟩
      · omega
    refine go_icmp_leN (tgt := 15) (pc' := 13) d_Tri_countShared_10 (by decide) rfl (by omega) (by omega) (fun hc => ?_) (fun hc => ?_)
    · refine go_aload_n (pc' := 16) (i := 0) d_Tri_countShared_15 rfl rfl (by first | rfl | exact x_r_rf _) rfl ?_
      refine go_aload_n (pc' := 17) (i := 1) d_Tri_countShared_16 rfl rfl (by first | rfl | exact x_r_rf _) rfl ?_
      refine go_acmp_ne (tgt := 24) (pc' := 20) d_Tri_countShared_17 (by decide) rfl (fun hc => ?_) (fun hc => ?_)
      · refine go_iconst (pc' := 25) (v := (nI 0)) d_Tri_countShared_24 (by decide) rfl ?_
        exact fin 0 (by rw [if_neg hc])
      · refine go_iconst (pc' := 21) (v := (nI 1)) d_Tri_countShared_20 (by decide) rfl ?_
        refine go_goto (tgt := 25) d_Tri_countShared_21 (by decide) ?_
        exact fin 1 (by rw [if_pos hc])
    · omega
  | succ r ih =>
    intro l p a b hl ha hb
    have hl4 : l < 4 := by omega
    obtain ⟨-, n, es, k, ns, hN, hn, hkk, hct, hns⟩ := hT.kc hK ha
    have hk0 : k = 4 := by rw [hkk, if_pos hl4]
    subst hk0
    obtain ⟨h0, h1, h2⟩ := hN
    obtain ⟨-, n', es', k', ns', hN2, hn', hkk', hct', hns'⟩ := hT'.kc hK' hb
    have hk0 : k' = 4 := by rw [hkk', if_pos hl4]
    subst hk0
    have hb0 := hN2.1
    obtain ⟨z0, hz0⟩ : ∃ z : Nat, z = (if a = b then 1 else 0) := ⟨_, rfl⟩
    obtain ⟨F, hF⟩ : ∃ F : Nat → Nat, F = fun i => z0 + ((List.range i).map (fun j => q_cs A B (r + 1) (l + 1) (4 * p + j))).sum := ⟨_, rfl⟩
    have hF0 : F 0 = z0 := by rw [hF]; simp
    have hFs : ∀ i, F (i + 1) = F i + q_cs A B (r + 1) (l + 1) (4 * p + i) := by
      intro i
      rw [hF]
      simp only [List.range_succ, List.map_append, List.sum_append, List.map_cons, List.map_nil, List.sum_cons, List.sum_nil]
      omega
    have eq1 : q_cs A B (r + 1 + 1) l p = F 4 := by
      rw [hF, hz0, q_cs, ha, hb]
    rw [eq1]
    have loop : ∀ rr i, i + rr = 4 → Go K M_Tri_countShared (r + 1 + 2) 29 [some (.ref a), some (.ref b), some (.int (nI l)), some (.int (nI (F i))), some (.int (nI i))] [] h (x_is (some (.int (nI (F 4)))) h) := by
      intro rr
      induction rr with
      | zero =>
        intro i hi
        have hi4 : i = 4 := by omega
        subst hi4
        refine go_iload (pc' := 31) (i := 4) d_Tri_countShared_29 rfl rfl ?_
        refine go_aload_n (pc' := 32) (i := 0) d_Tri_countShared_31 rfl rfl (by first | rfl | exact x_r_rf _) rfl ?_
        refine go_getfield (pc' := 35) d_Tri_countShared_32 c_Nod 2 (by decide) t_46 (by first | assumption | exact x_up_self _ _ _ | exact x_nw_self _ _ _ | (rw [x_up_ne (by first | omega | (simp only [x_up, x_nw]; omega))]; first | assumption | exact x_up_self _ _ _ | (rw [x_up_ne (by first | omega | (simp only [x_up, x_nw]; omega))]; first | assumption | exact x_up_self _ _ _)) | (rw [x_nw_ne (by first | omega | (simp only [x_up, x_nw]; omega))]; first | assumption | exact x_up_self _ _ _ | (rw [x_up_ne (by first | omega | (simp only [x_up, x_nw]; omega))]; assumption))) (by rfl) rfl ?_
        refine go_alenN (pc' := 36) d_Tri_countShared_35 (by first | assumption | exact x_up_self _ _ _ | exact x_nw_self _ _ _ | (rw [x_up_ne (by first | omega | (simp only [x_up, x_nw]; omega))]; first | assumption | exact x_up_self _ _ _ | (rw [x_up_ne (by first | omega | (simp only [x_up, x_nw]; omega))]; first | assumption | exact x_up_self _ _ _)) | (rw [x_nw_ne (by first | omega | (simp only [x_up, x_nw]; omega))]; first | assumption | exact x_up_self _ _ _ | (rw [x_up_ne (by first | omega | (simp only [x_up, x_nw]; omega))]; assumption))) (by rfl) rfl ?_
        refine go_icmp_geN (tgt := 67) (pc' := 39) d_Tri_countShared_36 (by decide) rfl (by omega) (by omega) (fun hc => ?_) (fun hc => ?_)
        · refine go_iload_n (pc' := 68) (i := 3) d_Tri_countShared_67 rfl rfl rfl ?_
          refine go_ireturn d_Tri_countShared_68 rfl (by rfl) ?_
          exact ⟨rfl, rfl⟩
        · omega
      | succ rr ihr =>
        intro i hi
        refine go_iload (pc' := 31) (i := 4) d_Tri_countShared_29 rfl rfl ?_
        refine go_aload_n (pc' := 32) (i := 0) d_Tri_countShared_31 rfl rfl (by first | rfl | exact x_r_rf _) rfl ?_
        refine go_getfield (pc' := 35) d_Tri_countShared_32 c_Nod 2 (by decide) t_46 (by first | assumption | exact x_up_self _ _ _ | exact x_nw_self _ _ _ | (rw [x_up_ne (by first | omega | (simp only [x_up, x_nw]; omega))]; first | assumption | exact x_up_self _ _ _ | (rw [x_up_ne (by first | omega | (simp only [x_up, x_nw]; omega))]; first | assumption | exact x_up_self _ _ _)) | (rw [x_nw_ne (by first | omega | (simp only [x_up, x_nw]; omega))]; first | assumption | exact x_up_self _ _ _ | (rw [x_up_ne (by first | omega | (simp only [x_up, x_nw]; omega))]; assumption))) (by rfl) rfl ?_
        refine go_alenN (pc' := 36) d_Tri_countShared_35 (by first | assumption | exact x_up_self _ _ _ | exact x_nw_self _ _ _ | (rw [x_up_ne (by first | omega | (simp only [x_up, x_nw]; omega))]; first | assumption | exact x_up_self _ _ _ | (rw [x_up_ne (by first | omega | (simp only [x_up, x_nw]; omega))]; first | assumption | exact x_up_self _ _ _)) | (rw [x_nw_ne (by first | omega | (simp only [x_up, x_nw]; omega))]; first | assumption | exact x_up_self _ _ _ | (rw [x_up_ne (by first | omega | (simp only [x_up, x_nw]; omega))]; assumption))) (by rfl) rfl ?_
        refine go_icmp_geN (tgt := 67) (pc' := 39) d_Tri_countShared_36 (by decide) rfl (by omega) (by omega) (fun hc => ?_) (fun hc => ?_)
        · omega
        · refine go_iload_n (pc' := 40) (i := 3) d_Tri_countShared_39 rfl rfl rfl ?_
          refine go_aload_n (pc' := 41) (i := 0) d_Tri_countShared_40 rfl rfl (by first | rfl | exact x_r_rf _) rfl ?_
          refine go_getfield (pc' := 44) d_Tri_countShared_41 c_Nod 2 (by decide) t_46 (by first | assumption | exact x_up_self _ _ _ | exact x_nw_self _ _ _ | (rw [x_up_ne (by first | omega | (simp only [x_up, x_nw]; omega))]; first | assumption | exact x_up_self _ _ _ | (rw [x_up_ne (by first | omega | (simp only [x_up, x_nw]; omega))]; first | assumption | exact x_up_self _ _ _)) | (rw [x_nw_ne (by first | omega | (simp only [x_up, x_nw]; omega))]; first | assumption | exact x_up_self _ _ _ | (rw [x_up_ne (by first | omega | (simp only [x_up, x_nw]; omega))]; assumption))) (by rfl) rfl ?_
          refine go_iload (pc' := 46) (i := 4) d_Tri_countShared_44 rfl rfl ?_
          refine go_aaldN (pc' := 47) d_Tri_countShared_46 (by first | assumption | exact x_up_self _ _ _ | exact x_nw_self _ _ _ | (rw [x_up_ne (by first | omega | (simp only [x_up, x_nw]; omega))]; first | assumption | exact x_up_self _ _ _ | (rw [x_up_ne (by first | omega | (simp only [x_up, x_nw]; omega))]; first | assumption | exact x_up_self _ _ _)) | (rw [x_nw_ne (by first | omega | (simp only [x_up, x_nw]; omega))]; first | assumption | exact x_up_self _ _ _ | (rw [x_up_ne (by first | omega | (simp only [x_up, x_nw]; omega))]; assumption))) (by rfl) (by first | assumption | omega | (simp only [x_up, x_nw]; omega)) (by first | assumption | omega | (simp only [x_up, x_nw]; omega)) rfl ?_
          refine go_aload_n (pc' := 48) (i := 1) d_Tri_countShared_47 rfl rfl (by first | rfl | exact x_r_rf _) rfl ?_
          refine go_iload (pc' := 50) (i := 4) d_Tri_countShared_48 rfl rfl ?_
          rw [hns i (by omega)]
          refine go_callV (pc' := 53) (M' := M_Nod_nodeAt) (ci := 2) (r := (n_Nod, T_Nod, 3)) [_] d_Tri_countShared_50 t_299 t_300 t_301 cd_Nod_nodeAt nm_Nod_nodeAt rfl (by rfl) (by first | assumption | exact x_up_self _ _ _ | exact x_nw_self _ _ _ | (rw [x_up_ne (by first | omega | (simp only [x_up, x_nw]; omega))]; first | assumption | exact x_up_self _ _ _ | (rw [x_up_ne (by first | omega | (simp only [x_up, x_nw]; omega))]; first | assumption | exact x_up_self _ _ _)) | (rw [x_nw_ne (by first | omega | (simp only [x_up, x_nw]; omega))]; first | assumption | exact x_up_self _ _ _ | (rw [x_up_ne (by first | omega | (simp only [x_up, x_nw]; omega))]; assumption))) rfl (Nat.le_of_ble_eq_true rfl) rfl (s_nodeAt (d := r + 2) hN2 (by omega) (j := i) (by omega)) (by first | decide | omega) (Nat.le_of_ble_eq_true rfl) rfl (fun v hh hq => ?_) (fun q g hq => by cases hq.1)
          obtain ⟨e1, rfl⟩ := hq
          cases e1
          rw [if_pos (by omega), hns' i (by omega)]
          show Go K M_Tri_countShared (r + 1 + 2) 53 _ [va_rf (B (l + 1) (4 * p + i)), va_rf (A (l + 1) (4 * p + i)), .int (nI (F i))] h _
          refine go_iload_n (pc' := 54) (i := 2) d_Tri_countShared_53 rfl rfl rfl ?_
          refine go_iconst (pc' := 55) (v := (nI 1)) d_Tri_countShared_54 (by decide) rfl ?_
          refine go_iadd (pc' := 56) d_Tri_countShared_55 rfl ?_
          rw [nI_add]
          have cont : ∀ x : Nat, x = q_cs A B (r + 1) (l + 1) (4 * p + i) → Go K M_Tri_countShared (r + 1 + 2) 59 [some (.ref a), some (.ref b), some (.int (nI l)), some (.int (nI (F i))), some (.int (nI i))] [.int (nI x), .int (nI (F i))] h (x_is (some (.int (nI (F 4)))) h) := by
            intro x hx
            refine go_iadd (pc' := 60) d_Tri_countShared_59 rfl ?_
            rw [nI_add, hx, ← hFs]
            refine go_istore_n (pc' := 61) (i := 3) d_Tri_countShared_60 rfl (by decide) (x_s3 (by first | rfl | exact x_k_rf _)) rfl ?_
            refine go_iinc (pc' := 64) (i := 4) d_Tri_countShared_61 rfl (x_i1 _) (by decide) (x_s4 (by first | rfl | exact x_k_rf _)) rfl ?_
            refine go_goto (tgt := 29) d_Tri_countShared_64 (by decide) ?_
            exact ihr (i + 1) (by omega)
          cases hA : A (l + 1) (4 * p + i) with
          | none =>
            cases hB : B (l + 1) (4 * p + i) with
            | none =>
              refine go_callS (pc' := 59) (M' := M_Tri_countShared) [_, _, _] d_Tri_countShared_56 t_455 t_456 t_1 cd_Tri_countShared nm_Tri_countShared rfl rfl (Nat.le_of_ble_eq_true rfl) rfl (s_cs0 (d := r + 2) (v := .null) rfl) (by first | decide | omega) (Nat.le_of_ble_eq_true rfl) rfl (fun v hh hq => ?_) (fun q g hq => by cases hq.1)
              obtain ⟨e1, rfl⟩ := hq
              cases e1
              exact cont 0 (by simp only [q_cs, hA])
            | some b' =>
              refine go_callS (pc' := 59) (M' := M_Tri_countShared) [_, _, _] d_Tri_countShared_56 t_455 t_456 t_1 cd_Tri_countShared nm_Tri_countShared rfl rfl (Nat.le_of_ble_eq_true rfl) rfl (s_cs0 (d := r + 2) (v := .ref b') rfl) (by first | decide | omega) (Nat.le_of_ble_eq_true rfl) rfl (fun v hh hq => ?_) (fun q g hq => by cases hq.1)
              obtain ⟨e1, rfl⟩ := hq
              cases e1
              exact cont 0 (by simp only [q_cs, hA])
          | some a' =>
            cases hB : B (l + 1) (4 * p + i) with
            | none =>
              refine go_callS (pc' := 59) (M' := M_Tri_countShared) [_, _, _] d_Tri_countShared_56 t_455 t_456 t_1 cd_Tri_countShared nm_Tri_countShared rfl rfl (Nat.le_of_ble_eq_true rfl) rfl (s_cs1 (d := r + 2)) (by first | decide | omega) (Nat.le_of_ble_eq_true rfl) rfl (fun v hh hq => ?_) (fun q g hq => by cases hq.1)
              obtain ⟨e1, rfl⟩ := hq
              cases e1
              exact cont 0 (by simp only [q_cs, hA, hB])
            | some b' =>
              refine go_callS (pc' := 59) (M' := M_Tri_countShared) [_, _, _] d_Tri_countShared_56 t_455 t_456 t_1 cd_Tri_countShared nm_Tri_countShared rfl rfl (Nat.le_of_ble_eq_true rfl) rfl (ih (l + 1) (4 * p + i) a' b' (by omega) hA hB) (by first | decide | omega) (Nat.le_of_ble_eq_true rfl) rfl (fun v hh hq => ?_) (fun q g hq => by cases hq.1)
              obtain ⟨e1, rfl⟩ := hq
              cases e1
              exact cont _ rfl
    refine go_aload_n (pc' := 1) (i := 0) d_Tri_countShared_0 rfl rfl (by first | rfl | exact x_r_rf _) rfl ?_
    refine go_ifnull_r (pc' := 4) d_Tri_countShared_1 rfl ?_
    refine go_aload_n (pc' := 5) (i := 1) d_Tri_countShared_4 rfl rfl (by first | rfl | exact x_r_rf _) rfl ?_
    refine go_ifnull_r (pc' := 8) d_Tri_countShared_5 rfl ?_
    refine go_iload_n (pc' := 9) (i := 2) d_Tri_countShared_8 rfl rfl rfl ?_
    refine go_iconst (pc' := 10) (v := (nI 4)) d_Tri_countShared_9 (by decide) rfl ?_
    have fin : ∀ x : Nat, x = (if a = b then 1 else 0) → Go K M_Tri_countShared (r + 1 + 2) 25 [some (.ref a), some (.ref b), some (.int (nI l)), none, none] [.int (nI x)] h (x_is (some (.int (nI (F 4)))) h) := by
      intro x hx
      refine go_istore_n (pc' := 26) (i := 3) d_Tri_countShared_25 rfl (by decide) (x_s3 (by first | rfl | exact x_k_rf _)) rfl ?_
      refine go_iconst (pc' := 27) (v := (nI 0)) d_Tri_countShared_26 (by decide) rfl ?_
      refine go_istore (pc' := 29) (i := 4) d_Tri_countShared_27 (by decide) (x_s4 (by first | rfl | exact x_k_rf _)) rfl ?_
      have := loop 4 0 (by omega)
      rw [hF0, hz0, ← hx] at this
      exact this
    refine go_icmp_leN (tgt := 15) (pc' := 13) d_Tri_countShared_10 (by decide) rfl (by omega) (by omega) (fun hc => ?_) (fun hc => ?_)
    · refine go_aload_n (pc' := 16) (i := 0) d_Tri_countShared_15 rfl rfl (by first | rfl | exact x_r_rf _) rfl ?_
      refine go_aload_n (pc' := 17) (i := 1) d_Tri_countShared_16 rfl rfl (by first | rfl | exact x_r_rf _) rfl ?_
      refine go_acmp_ne (tgt := 24) (pc' := 20) d_Tri_countShared_17 (by decide) rfl (fun hc => ?_) (fun hc => ?_)
      · refine go_iconst (pc' := 25) (v := (nI 0)) d_Tri_countShared_24 (by decide) rfl ?_
        exact fin 0 (by rw [if_neg hc])
      · refine go_iconst (pc' := 21) (v := (nI 1)) d_Tri_countShared_20 (by decide) rfl ?_
        refine go_goto (tgt := 25) d_Tri_countShared_21 (by decide) ?_
        exact fin 1 (by rw [if_pos hc])
    · omega
end TC
end
section
section TD
variable {K : x_K} {d : Nat} {h : x_H} {A : Nat → Nat → Option Nat} {ks : List KV} {bel : Nat → Nat → Int32} {t a : Nat} {g : Int32}
def q_cp (es : Nat → Option Nat) (i : Nat) : Nat → Option Nat := fun j => if j < i then es j else none
theorem q_cp_s (es : Nat → Option Nat) (i : Nat) : va_up (q_cp es i) i (es i) = q_cp es (i + 1) := by
  funext j
  unfold va_up q_cp
  by_cases hj : j = i
  · subst hj
    rw [if_pos rfl, if_pos (by omega)]
  · rw [if_neg hj]
    by_cases h2 : j < i
    · rw [if_pos h2, if_pos (by omega)]
    · rw [if_neg h2, if_neg (by omega)]
theorem q_cp_0 (es : Nat → Option Nat) : q_cp es 0 = fun _ => none := by
  funext j
  unfold q_cp
  rw [if_neg (by omega)]
theorem x_up_same {h : x_H} {a : Nat} {c : x_C} (ha : h.2.2 a = some c) : x_up h a c = h := by
  refine Prod.ext rfl (Prod.ext rfl ?_)
  funext j
  by_cases hj : j = a
  · subst hj; simp [x_up, va_up, ha]
  · simp [x_up, va_up, hj]
theorem s_copyOf {n k : Nat} {es ns : Nat → Option Nat} {g0 : Int32} (hN : Nd h a g0 n es k ns) (g : Int32) {l : Nat} (hl : (l < 4 ∧ n = 4 ∧ k = 4) ∨ (l = 4 ∧ n = 6 ∧ k = 0))
    (hE : ∀ j, j < n → ∀ e, es j = some e → ∃ vs, h.2.2 e = some (.inr (1, vs))) (hM : ∀ j, j < k → ∀ b, ns j = some b → ∃ vs, h.2.2 b = some (.inr (2, vs)))
    (hc1 : h.1 + 3 ≤ x_cap K) (hc2 : h.2.1 + 11 ≤ x_cas K) (hd : 1 ≤ d) :
    Go K M_Tri_copyOf d 0 [some (.ref a), some (.int g), some (.int (nI l)), none, none] [] h (x_rt (fun v f => v = some (.ref h.1) ∧ f.1 = h.1 + 3 ∧ h.2.1 ≤ f.2.1 ∧ f.2.1 ≤ h.2.1 + 11 ∧
      (∃ es' ns', Nd f h.1 g n es' k ns' ∧ (∀ j, j < n → es' j = es j) ∧ ∀ j, j < k → ns' j = ns j) ∧ ∀ b, b < h.1 → f.2.2 b = h.2.2 b)) := by
  refine go_dom fun hdom => ?_
  have hlt : a + 2 < h.1 := hdom _ _ hN.2.2
  have hn6 : n ≤ 6 ∧ k ≤ 6 := by omega
  refine go_new (pc' := 3) (fs := [.int 0, .null, .null]) d_Tri_copyOf_0 c_Nod t_29 t_30 t_3 (by decide +kernel) (by first | assumption | omega | (simp only [x_up, x_nw]; omega)) (by first | assumption | omega | (simp only [x_up, x_nw]; omega)) rfl ?_
  refine go_dup (pc' := 4) d_Tri_copyOf_3 (by first | rfl | exact x_c_rf _) rfl ?_
  refine go_iload_n (pc' := 5) (i := 1) d_Tri_copyOf_4 rfl rfl rfl ?_
  refine go_iload_n (pc' := 6) (i := 2) d_Tri_copyOf_5 rfl rfl rfl ?_
  have hg : Go K M_Nod_init (d - 1) 0 [some (.ref h.1), some (.int g), some (.int (nI l)), none] [] (x_nw h 3 (.inr (2, [.int 0, .null, .null]))) (x_rt (fun v f => v = none ∧ f.1 = h.1 + 3 ∧ h.2.1 + 3 ≤ f.2.1 ∧ f.2.1 ≤ h.2.1 + 11 ∧ Nd f h.1 g n (fun _ => none) k (fun _ => none) ∧ ∀ b, b < h.1 → f.2.2 b = h.2.2 b)) := by
    rcases hl with ⟨h1, rfl, rfl⟩ | ⟨h1, rfl, rfl⟩
    · refine go_Q ?_ (s_Nod_init (a := h.1) rfl (x_nw_self _ _ _) g h1 (by simp only [x_nw]; omega) (by simp only [x_nw]; omega))
      intro o f hq
      cases o with
      | inr q => exact hq.elim
      | inl v =>
        obtain ⟨q1, q2, q3, q4, q5⟩ := hq
        simp only [x_nw] at q3
        exact ⟨q1, q2, by omega, by omega, q4, fun b hb => (q5 b hb).trans (x_nw_ne (by omega))⟩
    · refine go_Q ?_ (s_Nod_bag (a := h.1) rfl (x_nw_self _ _ _) g h1 (by simp only [x_nw]; omega) (by simp only [x_nw]; omega))
      intro o f hq
      cases o with
      | inr q => exact hq.elim
      | inl v =>
        obtain ⟨q1, q2, q3, q4, q5⟩ := hq
        simp only [x_nw] at q3
        exact ⟨q1, q2, by omega, by omega, q4, fun b hb => (q5 b hb).trans (x_nw_ne (by omega))⟩
  refine go_callI (pc' := 9) (M' := M_Nod_init) [_, _] d_Tri_copyOf_6 rfl rfl t_31 t_32 t_33 rfl nm_Nod_init rfl rfl (Nat.le_of_ble_eq_true rfl) rfl (hg) (by first | decide | omega) (Nat.le_of_ble_eq_true rfl) rfl (fun v hh hq => ?_) (fun q g hq => hq.elim)
  obtain ⟨rfl, f1, f2, f3, hNc, hold⟩ := hq
  show Go K M_Tri_copyOf d 9 _ [.ref h.1] hh _
  obtain ⟨n0, n1, n2⟩ := hNc
  have hNa : ∀ f : x_H, (∀ b, b < h.1 → f.2.2 b = h.2.2 b) → Nd f a g0 n es k ns := fun f hf => ⟨(hf _ (by omega)).trans hN.1, (hf _ (by omega)).trans hN.2.1, (hf _ (by omega)).trans hN.2.2⟩
  have loop2 : ∀ r i, i + r = k → Go K M_Tri_copyOf d 45 [some (.ref a), some (.int g), some (.int (nI l)), some (.ref h.1), some (.int (nI i))] []
      (x_up (x_up hh (h.1 + 1) (.inl (3, n, .inr (.inr (.inr (.inr (q_cp es n))))))) (h.1 + 2) (.inl (4, k, .inr (.inr (.inr (.inr (q_cp ns i)))))))
      (x_rt (fun v f => v = some (.ref h.1) ∧ f.1 = h.1 + 3 ∧ h.2.1 ≤ f.2.1 ∧ f.2.1 ≤ h.2.1 + 11 ∧ (∃ es' ns', Nd f h.1 g n es' k ns' ∧ (∀ j, j < n → es' j = es j) ∧ ∀ j, j < k → ns' j = ns j) ∧ ∀ b, b < h.1 → f.2.2 b = h.2.2 b)) := by
    intro r
    induction r with
    | zero =>
      intro i hi
      have hik : i = k := by omega
      subst hik
      have c0 : (x_up (x_up hh (h.1 + 1) (.inl (3, n, .inr (.inr (.inr (.inr (q_cp es n))))))) (h.1 + 2) (.inl (4, i, .inr (.inr (.inr (.inr (q_cp ns i))))))).2.2 h.1 = some (.inr (2, [.int g, .ref (h.1 + 1), .ref (h.1 + 2)])) := by
        rw [x_up_ne (by omega), x_up_ne (by omega)]
        exact n0
      refine go_iload (pc' := 47) (i := 4) d_Tri_copyOf_45 rfl rfl ?_
      refine go_aload_n (pc' := 48) (i := 3) d_Tri_copyOf_47 rfl rfl (by first | rfl | exact x_r_rf _) rfl ?_
      refine go_getfield (pc' := 51) d_Tri_copyOf_48 c_Nod 2 (by decide) t_46 (by first | assumption | exact x_up_self _ _ _ | exact x_nw_self _ _ _ | (rw [x_up_ne (by first | omega | (simp only [x_up, x_nw]; omega))]; first | assumption | exact x_up_self _ _ _ | (rw [x_up_ne (by first | omega | (simp only [x_up, x_nw]; omega))]; first | assumption | exact x_up_self _ _ _)) | (rw [x_nw_ne (by first | omega | (simp only [x_up, x_nw]; omega))]; first | assumption | exact x_up_self _ _ _ | (rw [x_up_ne (by first | omega | (simp only [x_up, x_nw]; omega))]; assumption))) (by rfl) rfl ?_
      refine go_alenN (pc' := 52) d_Tri_copyOf_51 (by first | assumption | exact x_up_self _ _ _ | exact x_nw_self _ _ _ | (rw [x_up_ne (by first | omega | (simp only [x_up, x_nw]; omega))]; first | assumption | exact x_up_self _ _ _ | (rw [x_up_ne (by first | omega | (simp only [x_up, x_nw]; omega))]; first | assumption | exact x_up_self _ _ _)) | (rw [x_nw_ne (by first | omega | (simp only [x_up, x_nw]; omega))]; first | assumption | exact x_up_self _ _ _ | (rw [x_up_ne (by first | omega | (simp only [x_up, x_nw]; omega))]; assumption))) (by rfl) rfl ?_
      refine go_icmp_geN (tgt := 74) (pc' := 55) d_Tri_copyOf_52 (by decide) rfl (by omega) (by omega) (fun hc => ?_) (fun hc => ?_)
      · refine go_aload_n (pc' := 75) (i := 3) d_Tri_copyOf_74 rfl rfl (by first | rfl | exact x_r_rf _) rfl ?_
        refine go_areturn d_Tri_copyOf_75 rfl ⟨_, rfl⟩ (by first | rfl | exact x_r_rf _) ?_
        refine ⟨rfl, f1, by simp only [x_up]; omega, by simp only [x_up]; omega, ⟨q_cp es n, q_cp ns i, ⟨c0, ?_, x_up_self _ _ _⟩, fun j hj => ?_, fun j hj => ?_⟩, fun b hb => ?_⟩
        · rw [x_up_ne (by omega)]
          exact x_up_self _ _ _
        · unfold q_cp
          rw [if_pos hj]
        · unfold q_cp
          rw [if_pos hj]
        · rw [x_up_ne (by omega), x_up_ne (by omega)]
          exact hold b hb
      · omega
    | succ r ih =>
      intro i hi
      have c0 : (x_up (x_up hh (h.1 + 1) (.inl (3, n, .inr (.inr (.inr (.inr (q_cp es n))))))) (h.1 + 2) (.inl (4, k, .inr (.inr (.inr (.inr (q_cp ns i))))))).2.2 h.1 = some (.inr (2, [.int g, .ref (h.1 + 1), .ref (h.1 + 2)])) := by
        rw [x_up_ne (by omega), x_up_ne (by omega)]
        exact n0
      refine go_iload (pc' := 47) (i := 4) d_Tri_copyOf_45 rfl rfl ?_
      refine go_aload_n (pc' := 48) (i := 3) d_Tri_copyOf_47 rfl rfl (by first | rfl | exact x_r_rf _) rfl ?_
      refine go_getfield (pc' := 51) d_Tri_copyOf_48 c_Nod 2 (by decide) t_46 (by first | assumption | exact x_up_self _ _ _ | exact x_nw_self _ _ _ | (rw [x_up_ne (by first | omega | (simp only [x_up, x_nw]; omega))]; first | assumption | exact x_up_self _ _ _ | (rw [x_up_ne (by first | omega | (simp only [x_up, x_nw]; omega))]; first | assumption | exact x_up_self _ _ _)) | (rw [x_nw_ne (by first | omega | (simp only [x_up, x_nw]; omega))]; first | assumption | exact x_up_self _ _ _ | (rw [x_up_ne (by first | omega | (simp only [x_up, x_nw]; omega))]; assumption))) (by rfl) rfl ?_
      refine go_alenN (pc' := 52) d_Tri_copyOf_51 (by first | assumption | exact x_up_self _ _ _ | exact x_nw_self _ _ _ | (rw [x_up_ne (by first | omega | (simp only [x_up, x_nw]; omega))]; first | assumption | exact x_up_self _ _ _ | (rw [x_up_ne (by first | omega | (simp only [x_up, x_nw]; omega))]; first | assumption | exact x_up_self _ _ _)) | (rw [x_nw_ne (by first | omega | (simp only [x_up, x_nw]; omega))]; first | assumption | exact x_up_self _ _ _ | (rw [x_up_ne (by first | omega | (simp only [x_up, x_nw]; omega))]; assumption))) (by rfl) rfl ?_
      refine go_icmp_geN (tgt := 74) (pc' := 55) d_Tri_copyOf_52 (by decide) rfl (by omega) (by omega) (fun hc => ?_) (fun hc => ?_)
      · omega
      · refine go_aload_n (pc' := 56) (i := 3) d_Tri_copyOf_55 rfl rfl (by first | rfl | exact x_r_rf _) rfl ?_
        refine go_getfield (pc' := 59) d_Tri_copyOf_56 c_Nod 2 (by decide) t_46 (by first | assumption | exact x_up_self _ _ _ | exact x_nw_self _ _ _ | (rw [x_up_ne (by first | omega | (simp only [x_up, x_nw]; omega))]; first | assumption | exact x_up_self _ _ _ | (rw [x_up_ne (by first | omega | (simp only [x_up, x_nw]; omega))]; first | assumption | exact x_up_self _ _ _)) | (rw [x_nw_ne (by first | omega | (simp only [x_up, x_nw]; omega))]; first | assumption | exact x_up_self _ _ _ | (rw [x_up_ne (by first | omega | (simp only [x_up, x_nw]; omega))]; assumption))) (by rfl) rfl ?_
        refine go_iload (pc' := 61) (i := 4) d_Tri_copyOf_59 rfl rfl ?_
        refine go_aload_n (pc' := 62) (i := 0) d_Tri_copyOf_61 rfl rfl (by first | rfl | exact x_r_rf _) rfl ?_
        refine go_iload (pc' := 64) (i := 4) d_Tri_copyOf_62 rfl rfl ?_
        have hNu := hNa (x_up (x_up hh (h.1 + 1) (.inl (3, n, .inr (.inr (.inr (.inr (q_cp es n))))))) (h.1 + 2) (.inl (4, k, .inr (.inr (.inr (.inr (q_cp ns i))))))) (fun b hb => by rw [x_up_ne (by omega), x_up_ne (by omega)]; exact hold b hb)
        have hNu0 := hNu.1
        refine go_callV (pc' := 67) (M' := M_Nod_nodeAt) (ci := 2) (r := (n_Nod, T_Nod, 3)) [_] d_Tri_copyOf_64 t_299 t_300 t_301 cd_Nod_nodeAt nm_Nod_nodeAt rfl (by rfl) (by first | assumption | exact x_up_self _ _ _ | exact x_nw_self _ _ _ | (rw [x_up_ne (by first | omega | (simp only [x_up, x_nw]; omega))]; first | assumption | exact x_up_self _ _ _ | (rw [x_up_ne (by first | omega | (simp only [x_up, x_nw]; omega))]; first | assumption | exact x_up_self _ _ _)) | (rw [x_nw_ne (by first | omega | (simp only [x_up, x_nw]; omega))]; first | assumption | exact x_up_self _ _ _ | (rw [x_up_ne (by first | omega | (simp only [x_up, x_nw]; omega))]; assumption))) rfl (Nat.le_of_ble_eq_true rfl) rfl (s_nodeAt (d := d - 1) hNu (by omega) (j := i) (by omega)) (by first | decide | omega) (Nat.le_of_ble_eq_true rfl) rfl (fun v hh hq => ?_) (fun q g hq => by cases hq.1)
        obtain ⟨e1, rfl⟩ := hq
        cases e1
        rw [if_pos (by omega)]
        refine go_aastO' (pc' := 68) (ci := 2) (r := (n_Nod, T_Nod, 3)) d_Tri_copyOf_67 (x_up_self _ _ _) ?_ (by rfl) (by rfl) (by omega) (by omega) rfl ?_
        · intro b hb
          obtain ⟨vs, hvs⟩ := hM i (by omega) b hb
          have := hdom _ _ hvs
          exact ⟨vs, by rw [x_up_ne (by omega), x_up_ne (by omega), hold b this]; exact hvs⟩
        · rw [x_up_up, q_cp_s]
          refine go_iinc (pc' := 71) (i := 4) d_Tri_copyOf_68 rfl (x_i1 _) (by decide) (x_s4 (by first | rfl | exact x_k_rf _)) rfl ?_
          refine go_goto (tgt := 45) d_Tri_copyOf_71 (by decide) ?_
          exact ih (i + 1) (by omega)
  have loop1 : ∀ r i, i + r = n → Go K M_Tri_copyOf d 13 [some (.ref a), some (.int g), some (.int (nI l)), some (.ref h.1), some (.int (nI i))] []
      (x_up hh (h.1 + 1) (.inl (3, n, .inr (.inr (.inr (.inr (q_cp es i)))))))
      (x_rt (fun v f => v = some (.ref h.1) ∧ f.1 = h.1 + 3 ∧ h.2.1 ≤ f.2.1 ∧ f.2.1 ≤ h.2.1 + 11 ∧ (∃ es' ns', Nd f h.1 g n es' k ns' ∧ (∀ j, j < n → es' j = es j) ∧ ∀ j, j < k → ns' j = ns j) ∧ ∀ b, b < h.1 → f.2.2 b = h.2.2 b)) := by
    intro r
    induction r with
    | zero =>
      intro i hi
      have hin : i = n := by omega
      subst hin
      have c0 : (x_up hh (h.1 + 1) (.inl (3, i, .inr (.inr (.inr (.inr (q_cp es i))))))).2.2 h.1 = some (.inr (2, [.int g, .ref (h.1 + 1), .ref (h.1 + 2)])) := by
        rw [x_up_ne (by omega)]
        exact n0
      refine go_iload (pc' := 15) (i := 4) d_Tri_copyOf_13 rfl rfl ?_
      refine go_aload_n (pc' := 16) (i := 3) d_Tri_copyOf_15 rfl rfl (by first | rfl | exact x_r_rf _) rfl ?_
      refine go_getfield (pc' := 19) d_Tri_copyOf_16 c_Nod 1 (by decide) t_44 (by first | assumption | exact x_up_self _ _ _ | exact x_nw_self _ _ _ | (rw [x_up_ne (by first | omega | (simp only [x_up, x_nw]; omega))]; first | assumption | exact x_up_self _ _ _ | (rw [x_up_ne (by first | omega | (simp only [x_up, x_nw]; omega))]; first | assumption | exact x_up_self _ _ _)) | (rw [x_nw_ne (by first | omega | (simp only [x_up, x_nw]; omega))]; first | assumption | exact x_up_self _ _ _ | (rw [x_up_ne (by first | omega | (simp only [x_up, x_nw]; omega))]; assumption))) (by rfl) rfl ?_
      refine go_alenN (pc' := 20) d_Tri_copyOf_19 (by first | assumption | exact x_up_self _ _ _ | exact x_nw_self _ _ _ | (rw [x_up_ne (by first | omega | (simp only [x_up, x_nw]; omega))]; first | assumption | exact x_up_self _ _ _ | (rw [x_up_ne (by first | omega | (simp only [x_up, x_nw]; omega))]; first | assumption | exact x_up_self _ _ _)) | (rw [x_nw_ne (by first | omega | (simp only [x_up, x_nw]; omega))]; first | assumption | exact x_up_self _ _ _ | (rw [x_up_ne (by first | omega | (simp only [x_up, x_nw]; omega))]; assumption))) (by rfl) rfl ?_
      refine go_icmp_geN (tgt := 42) (pc' := 23) d_Tri_copyOf_20 (by decide) rfl (by omega) (by omega) (fun hc => ?_) (fun hc => ?_)
      · refine go_iconst (pc' := 43) (v := (nI 0)) d_Tri_copyOf_42 (by decide) rfl ?_
        refine go_istore (pc' := 45) (i := 4) d_Tri_copyOf_43 (by decide) (x_s4 (by first | rfl | exact x_k_rf _)) rfl ?_
        have := loop2 k 0 (by omega)
        rw [q_cp_0, x_up_same ((x_up_ne (by omega)).trans n2)] at this
        exact this
      · omega
    | succ r ih =>
      intro i hi
      have c0 : (x_up hh (h.1 + 1) (.inl (3, n, .inr (.inr (.inr (.inr (q_cp es i))))))).2.2 h.1 = some (.inr (2, [.int g, .ref (h.1 + 1), .ref (h.1 + 2)])) := by
        rw [x_up_ne (by omega)]
        exact n0
      refine go_iload (pc' := 15) (i := 4) d_Tri_copyOf_13 rfl rfl ?_
      refine go_aload_n (pc' := 16) (i := 3) d_Tri_copyOf_15 rfl rfl (by first | rfl | exact x_r_rf _) rfl ?_
      refine go_getfield (pc' := 19) d_Tri_copyOf_16 c_Nod 1 (by decide) t_44 (by first | assumption | exact x_up_self _ _ _ | exact x_nw_self _ _ _ | (rw [x_up_ne (by first | omega | (simp only [x_up, x_nw]; omega))]; first | assumption | exact x_up_self _ _ _ | (rw [x_up_ne (by first | omega | (simp only [x_up, x_nw]; omega))]; first | assumption | exact x_up_self _ _ _)) | (rw [x_nw_ne (by first | omega | (simp only [x_up, x_nw]; omega))]; first | assumption | exact x_up_self _ _ _ | (rw [x_up_ne (by first | omega | (simp only [x_up, x_nw]; omega))]; assumption))) (by rfl) rfl ?_
      refine go_alenN (pc' := 20) d_Tri_copyOf_19 (by first | assumption | exact x_up_self _ _ _ | exact x_nw_self _ _ _ | (rw [x_up_ne (by first | omega | (simp only [x_up, x_nw]; omega))]; first | assumption | exact x_up_self _ _ _ | (rw [x_up_ne (by first | omega | (simp only [x_up, x_nw]; omega))]; first | assumption | exact x_up_self _ _ _)) | (rw [x_nw_ne (by first | omega | (simp only [x_up, x_nw]; omega))]; first | assumption | exact x_up_self _ _ _ | (rw [x_up_ne (by first | omega | (simp only [x_up, x_nw]; omega))]; assumption))) (by rfl) rfl ?_
      refine go_icmp_geN (tgt := 42) (pc' := 23) d_Tri_copyOf_20 (by decide) rfl (by omega) (by omega) (fun hc => ?_) (fun hc => ?_)
      · omega
      · refine go_aload_n (pc' := 24) (i := 3) d_Tri_copyOf_23 rfl rfl (by first | rfl | exact x_r_rf _) rfl ?_
        refine go_getfield (pc' := 27) d_Tri_copyOf_24 c_Nod 1 (by decide) t_44 (by first | assumption | exact x_up_self _ _ _ | exact x_nw_self _ _ _ | (rw [x_up_ne (by first | omega | (simp only [x_up, x_nw]; omega))]; first | assumption | exact x_up_self _ _ _ | (rw [x_up_ne (by first | omega | (simp only [x_up, x_nw]; omega))]; first | assumption | exact x_up_self _ _ _)) | (rw [x_nw_ne (by first | omega | (simp only [x_up, x_nw]; omega))]; first | assumption | exact x_up_self _ _ _ | (rw [x_up_ne (by first | omega | (simp only [x_up, x_nw]; omega))]; assumption))) (by rfl) rfl ?_
        refine go_iload (pc' := 29) (i := 4) d_Tri_copyOf_27 rfl rfl ?_
        refine go_aload_n (pc' := 30) (i := 0) d_Tri_copyOf_29 rfl rfl (by first | rfl | exact x_r_rf _) rfl ?_
        refine go_iload (pc' := 32) (i := 4) d_Tri_copyOf_30 rfl rfl ?_
        have hNu := hNa (x_up hh (h.1 + 1) (.inl (3, n, .inr (.inr (.inr (.inr (q_cp es i))))))) (fun b hb => by rw [x_up_ne (by omega)]; exact hold b hb)
        have hNu0 := hNu.1
        refine go_callV (pc' := 35) (M' := M_Nod_entryAt) (ci := 2) (r := (n_Nod, T_Nod, 3)) [_] d_Tri_copyOf_32 t_295 t_296 t_297 cd_Nod_entryAt nm_Nod_entryAt rfl (by rfl) (by first | assumption | exact x_up_self _ _ _ | exact x_nw_self _ _ _ | (rw [x_up_ne (by first | omega | (simp only [x_up, x_nw]; omega))]; first | assumption | exact x_up_self _ _ _ | (rw [x_up_ne (by first | omega | (simp only [x_up, x_nw]; omega))]; first | assumption | exact x_up_self _ _ _)) | (rw [x_nw_ne (by first | omega | (simp only [x_up, x_nw]; omega))]; first | assumption | exact x_up_self _ _ _ | (rw [x_up_ne (by first | omega | (simp only [x_up, x_nw]; omega))]; assumption))) rfl (Nat.le_of_ble_eq_true rfl) rfl (s_entryAt (d := d - 1) hNu (by omega) (j := i) (by omega)) (by first | decide | omega) (Nat.le_of_ble_eq_true rfl) rfl (fun v hh hq => ?_) (fun q g hq => by cases hq.1)
        obtain ⟨e1, rfl⟩ := hq
        cases e1
        rw [if_pos (by omega)]
        refine go_aastO' (pc' := 36) (ci := 1) (r := (n_Ent, T_Ent, 2)) d_Tri_copyOf_35 (x_up_self _ _ _) ?_ (by rfl) (by rfl) (by omega) (by omega) rfl ?_
        · intro b hb
          obtain ⟨vs, hvs⟩ := hE i (by omega) b hb
          have := hdom _ _ hvs
          exact ⟨vs, by rw [x_up_ne (by omega), hold b this]; exact hvs⟩
        · rw [x_up_up, q_cp_s]
          refine go_iinc (pc' := 39) (i := 4) d_Tri_copyOf_36 rfl (x_i1 _) (by decide) (x_s4 (by first | rfl | exact x_k_rf _)) rfl ?_
          refine go_goto (tgt := 13) d_Tri_copyOf_39 (by decide) ?_
          exact ih (i + 1) (by omega)
  refine go_astore_n (pc' := 10) (i := 3) d_Tri_copyOf_9 rfl (by decide) (by first | rfl | exact x_r_rf _) (x_s3 (by first | rfl | exact x_k_rf _)) rfl ?_
  refine go_iconst (pc' := 11) (v := (nI 0)) d_Tri_copyOf_10 (by decide) rfl ?_
  refine go_istore (pc' := 13) (i := 4) d_Tri_copyOf_11 (by decide) (x_s4 (by first | rfl | exact x_k_rf _)) rfl ?_
  have := loop1 n 0 (by omega)
  rw [q_cp_0, x_up_same n1] at this
  exact this
theorem s_presentEntry (hT : Tr h A ks bel) (hK : Ko ks) {root : Nat} (hr : A 0 0 = some root) {gm ro : Int32} (ht : h.2.2 t = some (.inr (4, [.ref root, .int gm, .int ro]))) (key : Int32) (hd : 2 ≤ d) (hc1 : h.1 + 1 ≤ x_cap K) (hc2 : h.2.1 + 6 ≤ x_cas K) :
    Go K M_Tri_presentEntry d 0 [some (.ref t), some (.int key), none] [] h (x_rx (fun v f => h = f ∧ ∃ e x, v = some (.ref e) ∧ q_get ks key = some x ∧ Et h e x.1 x.2) (fun q f => q = (14, h.1) ∧ f = (h.1 + 1, h.2.1 + 6, h.2.2) ∧ q_get ks key = none)) := by
  refine go_aload_n (pc' := 1) (i := 0) d_Tri_presentEntry_0 rfl rfl (by first | rfl | exact x_r_rf _) rfl ?_
  refine go_getfield (pc' := 4) d_Tri_presentEntry_1 c_Map 0 (by decide) t_59 (by first | assumption | exact x_up_self _ _ _ | exact x_nw_self _ _ _ | (rw [x_up_ne (by first | omega | (simp only [x_up, x_nw]; omega))]; first | assumption | exact x_up_self _ _ _ | (rw [x_up_ne (by first | omega | (simp only [x_up, x_nw]; omega))]; first | assumption | exact x_up_self _ _ _)) | (rw [x_nw_ne (by first | omega | (simp only [x_up, x_nw]; omega))]; first | assumption | exact x_up_self _ _ _ | (rw [x_up_ne (by first | omega | (simp only [x_up, x_nw]; omega))]; assumption))) (by rfl) rfl ?_
  refine go_iload_n (pc' := 5) (i := 1) d_Tri_presentEntry_4 rfl rfl rfl ?_
  refine go_callS (pc' := 8) (M' := M_Tri_find) [_, _] d_Tri_presentEntry_5 t_192 t_193 t_1 cd_Tri_find nm_Tri_find rfl rfl (Nat.le_of_ble_eq_true rfl) rfl (s_find (d := d - 1) hT hK hr key (by omega)) (by first | decide | omega) (Nat.le_of_ble_eq_true rfl) rfl (fun v hh hq => ?_) (fun q g hq => hq.elim)
  obtain ⟨rfl, o, rfl, ho⟩ := hq
  show Go K M_Tri_presentEntry d 8 _ [va_rf o] h _
  refine go_astore_n (pc' := 9) (i := 2) d_Tri_presentEntry_8 rfl (by decide) (by first | rfl | exact x_r_rf _) (x_s2 (by first | rfl | exact x_k_rf _)) rfl ?_
  refine go_aload_n (pc' := 10) (i := 2) d_Tri_presentEntry_9 rfl rfl (by first | rfl | exact x_r_rf _) rfl ?_
  cases o with
  | none =>
    refine go_ifnonnull_n (pc' := 13) d_Tri_presentEntry_10 rfl ?_
    exact go_throw (kx := 14) d_Tri_presentEntry_13 d_Tri_presentEntry_16 d_Tri_presentEntry_17 d_Tri_presentEntry_20 rfl (by decide +kernel) (by decide +kernel) rfl t_329 t_14 at_14 rfl (Nat.le_of_ble_eq_true rfl) (by first | assumption | omega | (simp only [x_up, x_nw]; omega)) (by first | assumption | omega | (simp only [x_up, x_nw]; omega)) (⟨rfl, rfl, ho.to0⟩)
  | some e =>
    refine go_ifnonnull_r (tgt := 21) d_Tri_presentEntry_10 (by decide) ?_
    refine go_aload_n (pc' := 22) (i := 2) d_Tri_presentEntry_21 rfl rfl (by first | rfl | exact x_r_rf _) rfl ?_
    refine go_areturn d_Tri_presentEntry_22 rfl ⟨_, rfl⟩ (by first | rfl | exact x_r_rf _) ?_
    obtain ⟨kv, h3, h4⟩ := ho.to
    exact ⟨rfl, e, kv, rfl, h3, h4⟩
theorem s_hasRoomFor (hT : Tr h A ks bel) (hK : Ko ks) {root : Nat} (hr : A 0 0 = some root) (key : Int32) (hd : 8 ≤ d) (hc1 : h.1 + 1 ≤ x_cap K) (hc2 : h.2.1 + 6 ≤ x_cas K) :
    Go K M_Tri_hasRoomFor d 0 [some (.ref root), some (.int key), none, none] [] h (x_rt (fun v f => v = some (.int (if ks.length < 60 ∧ (q_f ks 4 (q_p 4 key)).length < 6 then 1 else 0)) ∧ f.1 = h.1 + 1 ∧ f.2.1 = h.2.1 + 6 ∧ ∀ b, b < h.1 → f.2.2 b = h.2.2 b)) := by
  refine go_dom fun hdom => ?_
  refine go_aload_n (pc' := 1) (i := 0) d_Tri_hasRoomFor_0 rfl rfl (by first | rfl | exact x_r_rf _) rfl ?_
  refine go_callS (pc' := 4) (M' := M_Tri_countKeys) [_] d_Tri_hasRoomFor_1 t_206 t_207 t_1 cd_Tri_countKeys nm_Tri_countKeys rfl rfl (Nat.le_of_ble_eq_true rfl) rfl (s_countKeys (d := d - 1) hT hK hr (by omega) hc1 hc2) (by first | decide | omega) (Nat.le_of_ble_eq_true rfl) rfl (fun v hh hq => ?_) (fun q g hq => hq.elim)
  obtain ⟨rfl, f1, f2, f3⟩ := hq
  have hkp : Kp h hh := fun b c hb _ => (f3 b (hdom b c hb)).trans hb
  have hT2 := hT.kp hkp
  have hlen := hK.1
  show Go K M_Tri_hasRoomFor d 4 _ [.int (nI ks.length)] hh _
  refine go_bipush (pc' := 6) (v := (nI 60)) d_Tri_hasRoomFor_4 (by decide) rfl ?_
  refine go_icmp_ltN (tgt := 11) (pc' := 9) d_Tri_hasRoomFor_6 (by decide) rfl (by omega) (by omega) (fun hc => ?_) (fun hc => ?_)
  · refine go_aload_n (pc' := 12) (i := 0) d_Tri_hasRoomFor_11 rfl rfl (by first | rfl | exact x_r_rf _) rfl ?_
    refine go_astore_n (pc' := 13) (i := 2) d_Tri_hasRoomFor_12 rfl (by decide) (by first | rfl | exact x_r_rf _) (x_s2 (by first | rfl | exact x_k_rf _)) rfl ?_
    refine go_iconst (pc' := 14) (v := (nI 0)) d_Tri_hasRoomFor_13 (by decide) rfl ?_
    refine go_istore_n (pc' := 15) (i := 3) d_Tri_hasRoomFor_14 rfl (by decide) (x_s3 (by first | rfl | exact x_k_rf _)) rfl ?_
    have loop : ∀ r l a, l + r = 4 → A l (q_p l key) = some a → Go K M_Tri_hasRoomFor d 15 [some (.ref root), some (.int key), some (.ref a), some (.int (nI l))] [] hh (x_rt (fun v f => v = some (.int (if ks.length < 60 ∧ (q_f ks 4 (q_p 4 key)).length < 6 then 1 else 0)) ∧ f.1 = h.1 + 1 ∧ f.2.1 = h.2.1 + 6 ∧ ∀ b, b < h.1 → f.2.2 b = h.2.2 b)) := by
      intro r
      induction r with
      | zero =>
        intro l a hl ha
        have hl4 : l = 4 := by omega
        subst hl4
        obtain ⟨es, ns, hN, hE⟩ := (hT2.2 4 _ a ha).2 rfl
        have hN0 := hN.1
        have hct := q_ct_list 6 (fun j hj => (hE j hj).is) (hK.2.2 _)
        refine go_iload_n (pc' := 16) (i := 3) d_Tri_hasRoomFor_15 rfl rfl rfl ?_
        refine go_iconst (pc' := 17) (v := (nI 4)) d_Tri_hasRoomFor_16 (by decide) rfl ?_
        refine go_icmp_geN (tgt := 43) (pc' := 20) d_Tri_hasRoomFor_17 (by decide) rfl (by omega) (by omega) (fun hc => ?_) (fun hc => ?_)
        · refine go_aload_n (pc' := 44) (i := 2) d_Tri_hasRoomFor_43 rfl rfl (by first | rfl | exact x_r_rf _) rfl ?_
          refine go_callV (pc' := 47) (M' := M_Nod_countEntries) (ci := 2) (r := (n_Nod, T_Nod, 3)) [] d_Tri_hasRoomFor_44 t_253 t_247 t_248 cd_Nod_countEntries nm_Nod_countEntries rfl (by rfl) (by first | assumption | exact x_up_self _ _ _ | exact x_nw_self _ _ _ | (rw [x_up_ne (by first | omega | (simp only [x_up, x_nw]; omega))]; first | assumption | exact x_up_self _ _ _ | (rw [x_up_ne (by first | omega | (simp only [x_up, x_nw]; omega))]; first | assumption | exact x_up_self _ _ _)) | (rw [x_nw_ne (by first | omega | (simp only [x_up, x_nw]; omega))]; first | assumption | exact x_up_self _ _ _ | (rw [x_up_ne (by first | omega | (simp only [x_up, x_nw]; omega))]; assumption))) rfl (Nat.le_of_ble_eq_true rfl) rfl (s_countEntries (d := d - 1) hN (by omega)) (by first | decide | omega) (Nat.le_of_ble_eq_true rfl) rfl (fun v hh hq => ?_) (fun q g hq => by cases hq.1)
          obtain ⟨e1, rfl⟩ := hq
          cases e1
          rw [hct]
          show Go K M_Tri_hasRoomFor d 47 _ [.int (nI (q_f ks 4 (q_p 4 key)).length)] hh _
          have h6 := hK.2.2 (q_p 4 key)
          refine go_bipush (pc' := 49) (v := (nI 6)) d_Tri_hasRoomFor_47 (by decide) rfl ?_
          refine go_icmp_geN (tgt := 56) (pc' := 52) d_Tri_hasRoomFor_49 (by decide) rfl (by omega) (by omega) (fun hc => ?_) (fun hc => ?_)
          · refine go_iconst (pc' := 57) (v := (nI 0)) d_Tri_hasRoomFor_56 (by decide) rfl ?_
            refine go_ireturn d_Tri_hasRoomFor_57 rfl (by rfl) ?_
            exact ⟨by rw [if_neg (by omega)]; rfl, f1, f2, f3⟩
          · refine go_iconst (pc' := 53) (v := (nI 1)) d_Tri_hasRoomFor_52 (by decide) rfl ?_
            refine go_goto (tgt := 57) d_Tri_hasRoomFor_53 (by decide) ?_
            refine go_ireturn d_Tri_hasRoomFor_57 rfl (by rfl) ?_
            exact ⟨by rw [if_pos (by omega)]; rfl, f1, f2, f3⟩
        · omega
      | succ r ih =>
        intro l a hl ha
        have hl4 : l < 4 := by omega
        obtain ⟨es, ns, hN, hE⟩ := (hT2.2 l _ a ha).1 hl4
        have hd4 := q_d_lt l key
        obtain ⟨hns, hes⟩ := hE _ hd4
        rw [← q_p_s hl4] at hns hes
        obtain ⟨h0, h1, h2⟩ := hN
        refine go_iload_n (pc' := 16) (i := 3) d_Tri_hasRoomFor_15 rfl rfl rfl ?_
        refine go_iconst (pc' := 17) (v := (nI 4)) d_Tri_hasRoomFor_16 (by decide) rfl ?_
        refine go_icmp_geN (tgt := 43) (pc' := 20) d_Tri_hasRoomFor_17 (by decide) rfl (by omega) (by omega) (fun hc => ?_) (fun hc => ?_)
        · omega
        · refine go_aload_n (pc' := 21) (i := 2) d_Tri_hasRoomFor_20 rfl rfl (by first | rfl | exact x_r_rf _) rfl ?_
          refine go_getfield (pc' := 24) d_Tri_hasRoomFor_21 c_Nod 2 (by decide) t_46 (by first | assumption | exact x_up_self _ _ _ | exact x_nw_self _ _ _ | (rw [x_up_ne (by first | omega | (simp only [x_up, x_nw]; omega))]; first | assumption | exact x_up_self _ _ _ | (rw [x_up_ne (by first | omega | (simp only [x_up, x_nw]; omega))]; first | assumption | exact x_up_self _ _ _)) | (rw [x_nw_ne (by first | omega | (simp only [x_up, x_nw]; omega))]; first | assumption | exact x_up_self _ _ _ | (rw [x_up_ne (by first | omega | (simp only [x_up, x_nw]; omega))]; assumption))) (by rfl) rfl ?_
          refine go_iload_n (pc' := 25) (i := 1) d_Tri_hasRoomFor_24 rfl rfl rfl ?_
          refine go_iload_n (pc' := 26) (i := 3) d_Tri_hasRoomFor_25 rfl rfl rfl ?_
          refine go_callS (pc' := 29) (M' := M_Tri_digit) [_, _] d_Tri_hasRoomFor_26 t_195 t_196 t_1 cd_Tri_digit nm_Tri_digit rfl rfl (Nat.le_of_ble_eq_true rfl) rfl (s_digit (d := d - 1) key hl4) (by first | decide | omega) (Nat.le_of_ble_eq_true rfl) rfl (fun v hh hq => ?_) (fun q g hq => by cases hq.1)
          obtain ⟨e1, rfl⟩ := hq
          cases e1
          show Go K M_Tri_hasRoomFor d 29 _ [.int (nI (q_d l key)), .ref (a + 2)] hh _
          refine go_aaldN (pc' := 30) d_Tri_hasRoomFor_29 (by first | assumption | exact x_up_self _ _ _ | exact x_nw_self _ _ _ | (rw [x_up_ne (by first | omega | (simp only [x_up, x_nw]; omega))]; first | assumption | exact x_up_self _ _ _ | (rw [x_up_ne (by first | omega | (simp only [x_up, x_nw]; omega))]; first | assumption | exact x_up_self _ _ _)) | (rw [x_nw_ne (by first | omega | (simp only [x_up, x_nw]; omega))]; first | assumption | exact x_up_self _ _ _ | (rw [x_up_ne (by first | omega | (simp only [x_up, x_nw]; omega))]; assumption))) (by rfl) (by first | assumption | omega | (simp only [x_up, x_nw]; omega)) (by first | assumption | omega | (simp only [x_up, x_nw]; omega)) rfl ?_
          rw [hns]
          refine go_astore_n (pc' := 31) (i := 2) d_Tri_hasRoomFor_30 rfl (by decide) (by first | rfl | exact x_r_rf _) (x_s2 (by first | rfl | exact x_k_rf _)) rfl ?_
          refine go_aload_n (pc' := 32) (i := 2) d_Tri_hasRoomFor_31 rfl rfl (by first | rfl | exact x_r_rf _) rfl ?_
          refine go_ifnonnull (tgt := 37) (pc' := 35) d_Tri_hasRoomFor_32 (by decide) rfl (fun b hc => ?_) (fun hc => ?_)
          · rw [hc]
            refine go_iinc (pc' := 40) (i := 3) d_Tri_hasRoomFor_37 rfl (x_i1 _) (by decide) (x_s3 (by first | rfl | exact x_k_rf _)) rfl ?_
            refine go_goto (tgt := 15) d_Tri_hasRoomFor_40 (by decide) ?_
            exact ih (l + 1) b (by omega) hc
          · refine go_iconst (pc' := 36) (v := (nI 1)) d_Tri_hasRoomFor_35 (by decide) rfl ?_
            refine go_ireturn d_Tri_hasRoomFor_36 rfl (by rfl) ?_
            refine ⟨?_, f1, f2, f3⟩
            have hno : (q_f ks 4 (q_p 4 key)).length ≤ 1 := by
              have h1 := hT2.no hl4 hc
              have key2 : ∀ m, (q_f ks (l + 1 + m) (q_p (l + 1 + m) key)).length ≤ 1 ∨ 4 < l + 1 + m := by
                intro m
                induction m with
                | zero => exact Or.inl h1
                | succ m ihm =>
                  by_cases hlm : l + 1 + m < 4
                  · left
                    rcases ihm with h3 | h3
                    · rw [q_f_len4 ks hlm] at h3
                      have h4 := q_p_s hlm key
                      have h5 := q_d_lt (l + 1 + m) key
                      rw [show l + 1 + (m + 1) = l + 1 + m + 1 by omega, h4]
                      have h6 : q_d (l + 1 + m) key = 0 ∨ q_d (l + 1 + m) key = 1 ∨ q_d (l + 1 + m) key = 2 ∨ q_d (l + 1 + m) key = 3 := by omega
                      rcases h6 with h6 | h6 | h6 | h6 <;> rw [h6] <;> omega
                    · omega
                  · right; omega
              rcases key2 (3 - l) with h3 | h3
              · rw [show l + 1 + (3 - l) = 4 by omega] at h3
                exact h3
              · omega
            rw [if_pos (by omega)]
            rfl
    exact loop 4 0 root (by omega) (by rw [q_p_0]; exact hr)
  · refine go_iconst (pc' := 10) (v := (nI 0)) d_Tri_hasRoomFor_9 (by decide) rfl ?_
    refine go_ireturn d_Tri_hasRoomFor_10 rfl (by rfl) ?_
    exact ⟨by rw [if_neg (by omega)]; rfl, f1, f2, f3⟩
end TD
end
section
/-! writing along a key's way -/
/-- only the arrays of the nodes in W have changed -/
def Fo (W : Nat → Prop) (f f2 : x_H) : Prop := (∀ a, W a → ∃ g n es k ns, Nd f a g n es k ns) ∧ ∀ b c, f.2.2 b = some c → (∀ a, W a → b ≠ a + 1 ∧ b ≠ a + 2) → f2.2.2 b = some c
def Ps (ps : Nat → Nat × Nat) (A : Nat → Nat → Option Nat) : Prop := ∀ l p a, A l p = some a → ps a = (l, p)
def q_u2 {α : Type} (A : Nat → Nat → α) (l p : Nat) (x : α) : Nat → Nat → α := fun l' p' => if l' = l ∧ p' = p then x else A l' p'
theorem q_u2_self {α : Type} (A : Nat → Nat → α) (l p : Nat) (x : α) : q_u2 A l p x l p = x := by simp [q_u2]
theorem q_u2_ne {α : Type} (A : Nat → Nat → α) {l p l' p' : Nat} (x : α) (h : ¬ (l' = l ∧ p' = p)) : q_u2 A l p x l' p' = A l' p' := by simp [q_u2, h]
section TE
variable {K : x_K} {d : Nat} {h f f2 : x_H} {A A2 : Nat → Nat → Option Nat} {ks ks2 : List KV} {bel bel2 : Nat → Nat → Int32} {t a a1 : Nat} {g : Int32} {W : Nat → Prop}
theorem Nd.fo (hF : Fo W f f2) {g : Int32} {n k : Nat} {es ns : Nat → Option Nat} (hN : Nd f a1 g n es k ns) (hne : ¬ W a1) : Nd f2 a1 g n es k ns := by
  have hobj : ∀ a, W a → a1 ≠ a + 1 ∧ a1 ≠ a + 2 := fun a ha => by
    obtain ⟨g', n', es', k', ns', q1, q2, q3⟩ := hF.1 a ha
    refine ⟨fun e => ?_, fun e => ?_⟩
    · rw [← e, hN.1] at q2; cases q2
    · rw [← e, hN.1] at q3; cases q3
  refine ⟨hF.2 _ _ hN.1 hobj, hF.2 _ _ hN.2.1 fun a ha => ?_, hF.2 _ _ hN.2.2 fun a ha => ?_⟩
  · have := hobj a ha
    exact ⟨fun e => hne (by rw [show a1 = a by omega]; exact ha), fun e => this.1 (by omega)⟩
  · have := hobj a ha
    obtain ⟨g', n', es', k', ns', q1, q2, q3⟩ := hF.1 a ha
    refine ⟨fun e => ?_, fun e => hne (by rw [show a1 = a by omega]; exact ha)⟩
    have h1 : a1 + 1 = a := by omega
    have h2 := hN.2.1
    rw [h1, q1] at h2
    cases h2
theorem Et.fo (hF : Fo W f f2) {e : Nat} {k : Int32} {v : Int64} (he : Et f e k v) : Et f2 e k v := by
  refine hF.2 _ _ he fun a ha => ?_
  obtain ⟨g', n', es', k', ns', q1, q2, q3⟩ := hF.1 a ha
  unfold Et at he
  refine ⟨fun e1 => ?_, fun e1 => ?_⟩
  · rw [e1, q2] at he; cases he
  · rw [e1, q3] at he; cases he
theorem Eo.fo (hF : Fo W f f2) {o : Option Nat} {x : Option KV} (he : Eo f o x) : Eo f2 o x := by
  cases o with
  | none => cases x with
    | none => trivial
    | some y => exact he.elim
  | some e => cases x with
    | none => exact he.elim
    | some y => exact Et.fo hF he
theorem Tn.off {l p : Nat} (hT : Tn f A ks bel l p a1) (hF : Fo W f f2) (hne : ¬ W a1) (hb : bel2 l p = bel l p) (hA : ∀ j, j < 4 → A2 (l + 1) (4 * p + j) = A (l + 1) (4 * p + j))
    (hq : ∀ j, j < 4 → q_f ks2 (l + 1) (4 * p + j) = q_f ks (l + 1) (4 * p + j)) (hq4 : l = 4 → q_f ks2 4 p = q_f ks 4 p) : Tn f2 A2 ks2 bel2 l p a1 := by
  refine ⟨fun hl => ?_, fun hl => ?_⟩
  · obtain ⟨es, ns, hN, hE⟩ := hT.1 hl
    refine ⟨es, ns, by rw [hb]; exact hN.fo hF hne, fun j hj => ?_⟩
    rw [hA j hj, hq j hj]
    exact ⟨(hE j hj).1, (hE j hj).2.fo hF⟩
  · obtain ⟨es, ns, hN, hE⟩ := hT.2 hl
    refine ⟨es, ns, by rw [hb]; exact hN.fo hF hne, fun j hj => ?_⟩
    rw [hq4 hl]
    exact (hE j hj).fo hF
/-- a child is put in the place of another, of the same content -/
theorem Tr.child (hT : Tr f A ks bel) {ps : Nat → Nat × Nat} (hP : Ps ps A) {l p j a b c : Nat} (hl : l < 4) (hj : j < 4) (ha : A l p = some a) (hb : A (l + 1) (4 * p + j) = some b) (hF : Fo (fun z => z = a) f f2)
    {es ns : Nat → Option Nat} (hNa : Nd f a (bel l p) 4 es 4 ns) (hNa2 : Nd f2 a (bel l p) 4 es 4 (va_up ns j (some c))) (g : Int32)
    (hc : ∀ n esb k nsb gb, Nd f b gb n esb k nsb → ∃ es' ns', Nd f2 c g n es' k ns' ∧ (∀ i, i < n → es' i = esb i) ∧ ∀ i, i < k → ns' i = nsb i) :
    Tr f2 (q_u2 A (l + 1) (4 * p + j) (some c)) ks (q_u2 bel (l + 1) (4 * p + j) g) := by
  refine ⟨fun l1 p1 => ?_, fun l1 p1 a1 h1 => ?_⟩
  · rw [← hT.1 l1 p1]
    by_cases hq : l1 = l + 1 ∧ p1 = 4 * p + j
    · obtain ⟨rfl, rfl⟩ := hq
      rw [q_u2_self]
      exact ⟨fun _ => ⟨b, hb⟩, fun _ => ⟨c, rfl⟩⟩
    · rw [q_u2_ne _ _ hq]
  · by_cases hq : l1 = l + 1 ∧ p1 = 4 * p + j
    · obtain ⟨rfl, rfl⟩ := hq
      rw [q_u2_self] at h1
      cases h1
      refine ⟨fun h4 => ?_, fun h4 => ?_⟩
      · obtain ⟨esb, nsb, hNb, hEb⟩ := (hT.2 _ _ b hb).1 h4
        obtain ⟨es', ns', q1, q2, q3⟩ := hc _ _ _ _ _ hNb
        refine ⟨es', ns', by rw [q_u2_self]; exact q1, fun i hi => ?_⟩
        rw [q2 i hi, q3 i hi, q_u2_ne _ _ (by omega)]
        exact ⟨(hEb i hi).1, (hEb i hi).2.fo hF⟩
      · obtain ⟨esb, nsb, hNb, hEb⟩ := (hT.2 _ _ b hb).2 h4
        obtain ⟨es', ns', q1, q2, q3⟩ := hc _ _ _ _ _ hNb
        refine ⟨es', ns', by rw [q_u2_self]; exact q1, fun i hi => ?_⟩
        rw [q2 i hi]
        exact (hEb i hi).fo hF
    · rw [q_u2_ne _ _ hq] at h1
      by_cases hq2 : l1 = l ∧ p1 = p
      · obtain ⟨rfl, rfl⟩ := hq2
        cases ha.symm.trans h1
        refine ⟨fun h4 => ?_, fun h4 => by omega⟩
        obtain ⟨es0, ns0, hN0, hE0⟩ := (hT.2 _ _ a ha).1 hl
        have e1 : es0 = es ∧ ns0 = ns := by
          have := hN0.2.1.symm.trans hNa.2.1
          have h2 := hN0.2.2.symm.trans hNa.2.2
          simp only [Option.some.injEq, Sum.inl.injEq, Prod.mk.injEq, Sum.inr.injEq] at this h2
          exact ⟨this.2.2, h2.2.2⟩
        obtain ⟨rfl, rfl⟩ := e1
        refine ⟨es0, va_up ns0 j (some c), by rw [q_u2_ne _ _ (by omega)]; exact hNa2, fun i hi => ⟨?_, (hE0 i hi).2.fo hF⟩⟩
        by_cases hij : i = j
        · subst hij
          rw [va_up_self, q_u2_self]
        · rw [va_up_ne _ _ hij, q_u2_ne _ _ (by omega)]
          exact (hE0 i hi).1
      · refine (hT.2 _ _ a1 h1).off hF (fun e => ?_) (q_u2_ne _ _ hq) (fun i hi => q_u2_ne _ _ ?_) (fun _ _ => rfl) (fun _ => rfl)
        · have e' : a1 = a := e
          subst e'
          have := (hP _ _ _ h1).symm.trans (hP _ _ _ ha)
          simp only [Prod.mk.injEq] at this
          exact hq2 this
        · intro z
          exact hq2 ⟨by omega, by omega⟩
end TE
end
section
section TF
variable {K : x_K} {d : Nat} {h f f2 : x_H} {A A' : Nat → Nat → Option Nat} {ks : List KV} {bel bel' : Nat → Nat → Int32} {t a : Nat} {g key : Int32} {ps ps' : Nat → Nat × Nat}
theorem Nd.uniq {a : Nat} {g g' : Int32} {n n' k k' : Nat} {es es' ns ns' : Nat → Option Nat} (h1 : Nd f a g n es k ns) (h2 : Nd f a g' n' es' k' ns') : g = g' ∧ n = n' ∧ es = es' ∧ k = k' ∧ ns = ns' := by
  have e0 := h1.1.symm.trans h2.1
  have e1 := h1.2.1.symm.trans h2.2.1
  have e2 := h1.2.2.symm.trans h2.2.2
  simp only [Option.some.injEq, Sum.inl.injEq, Sum.inr.injEq, Prod.mk.injEq, List.cons.injEq, Value.int.injEq, true_and, and_true] at e0 e1 e2
  exact ⟨e0, e1.1, e1.2, e2.1, e2.2⟩
theorem Tr.nd (hT : Tr f A ks bel) {l p : Nat} (ha : A l p = some a) : ∃ n es k ns, Nd f a (bel l p) n es k ns ∧ ((l < 4 ∧ n = 4 ∧ k = 4) ∨ (l = 4 ∧ n = 6 ∧ k = 0)) ∧
    (∀ j, j < n → ∀ e, es j = some e → ∃ vs, f.2.2 e = some (.inr (1, vs))) ∧ (∀ j, j < k → ∀ b, ns j = some b → ∃ vs, f.2.2 b = some (.inr (2, vs))) ∧ (l < 4 → ∀ j, j < 4 → ns j = A (l + 1) (4 * p + j)) := by
  have hl := ((hT.1 l p).mp ⟨a, ha⟩).1
  by_cases hl4 : l < 4
  · obtain ⟨es, ns, hN, hE⟩ := (hT.2 l p a ha).1 hl4
    refine ⟨4, es, 4, ns, hN, Or.inl ⟨hl4, rfl, rfl⟩, fun j hj e he => ?_, fun j hj b hb => ?_, fun _ j hj => (hE j hj).1⟩
    · have := (hE j hj).2
      rw [he] at this
      obtain ⟨kv, -, h2⟩ := this.to
      exact ⟨_, h2⟩
    · have := (hE j hj).1
      rw [hb] at this
      obtain ⟨es', ns', hN'⟩ : ∃ n es k ns, Nd f b (bel (l + 1) (4 * p + j)) n es k ns := by
        by_cases h3 : l + 1 < 4
        · obtain ⟨x, y, z, -⟩ := (hT.2 _ _ b this.symm).1 h3
          exact ⟨_, _, _, _, z⟩
        · obtain ⟨x, y, z, -⟩ := (hT.2 _ _ b this.symm).2 (by omega)
          exact ⟨_, _, _, _, z⟩
      obtain ⟨k', ns'', hN''⟩ := hN'
      exact ⟨_, hN''.1⟩
  · have hl5 : l = 4 := by omega
    subst hl5
    obtain ⟨es, ns, hN, hE⟩ := (hT.2 4 p a ha).2 rfl
    refine ⟨6, es, 0, ns, hN, Or.inr ⟨rfl, rfl, rfl⟩, fun j hj e he => ?_, fun j hj => by omega, fun h4 => by omega⟩
    have := hE j hj
    rw [he] at this
    obtain ⟨kv, -, h2⟩ := this.to
    exact ⟨_, h2⟩
theorem Tr.root (hT : Tr f A ks bel) (hk : Kp f f2) {r c : Nat} (hr : A 0 0 = some r) (g : Int32) (hc : ∀ n esb k nsb gb, Nd f r gb n esb k nsb → ∃ es' ns', Nd f2 c g n es' k ns' ∧ (∀ i, i < n → es' i = esb i) ∧ ∀ i, i < k → ns' i = nsb i) :
    Tr f2 (q_u2 A 0 0 (some c)) ks (q_u2 bel 0 0 g) := by
  refine ⟨fun l1 p1 => ?_, fun l1 p1 a1 h1 => ?_⟩
  · rw [← hT.1 l1 p1]
    by_cases hq : l1 = 0 ∧ p1 = 0
    · obtain ⟨rfl, rfl⟩ := hq
      rw [q_u2_self]
      exact ⟨fun _ => ⟨r, hr⟩, fun _ => ⟨c, rfl⟩⟩
    · rw [q_u2_ne _ _ hq]
  · by_cases hq : l1 = 0 ∧ p1 = 0
    · obtain ⟨rfl, rfl⟩ := hq
      rw [q_u2_self] at h1
      cases h1
      refine ⟨fun h4 => ?_, fun h4 => by omega⟩
      obtain ⟨esb, nsb, hNb, hEb⟩ := (hT.2 _ _ r hr).1 h4
      obtain ⟨es', ns', q1, q2, q3⟩ := hc _ _ _ _ _ hNb
      refine ⟨es', ns', by rw [q_u2_self]; exact q1, fun i hi => ?_⟩
      rw [q2 i hi, q3 i hi, q_u2_ne _ _ (by omega)]
      exact ⟨(hEb i hi).1, (hEb i hi).2.kp hk⟩
    · rw [q_u2_ne _ _ hq] at h1
      refine ⟨fun h4 => ?_, fun h4 => ?_⟩
      · obtain ⟨es, ns, hN, hE⟩ := (hT.2 _ _ a1 h1).1 h4
        refine ⟨es, ns, by rw [q_u2_ne _ _ hq]; exact hN.kp hk, fun j hj => ?_⟩
        rw [q_u2_ne _ _ (by omega)]
        exact ⟨(hE j hj).1, (hE j hj).2.kp hk⟩
      · obtain ⟨es, ns, hN, hE⟩ := (hT.2 _ _ a1 h1).2 h4
        exact ⟨es, ns, by rw [q_u2_ne _ _ hq]; exact hN.kp hk, fun j hj => (hE j hj).kp hk⟩
theorem q_f_mono (ks : List KV) (key : Int32) {l : Nat} (hl : l < 4) : (q_f ks (l + 1) (q_p (l + 1) key)).length ≤ (q_f ks l (q_p l key)).length := by
  rw [q_f_len4 ks hl (q_p l key), q_p_s hl key]
  have h5 := q_d_lt l key
  have h6 : q_d l key = 0 ∨ q_d l key = 1 ∨ q_d l key = 2 ∨ q_d l key = 3 := by omega
  rcases h6 with h6 | h6 | h6 | h6 <;> rw [h6] <;> omega
theorem Tr.none_up (hT : Tr f A ks bel) (key : Int32) {l : Nat} (hn : A l (q_p l key) = none) : ∀ m, A (l + m) (q_p (l + m) key) = none := by
  intro m
  induction m with
  | zero => exact hn
  | succ m ih =>
    cases hA : A (l + (m + 1)) (q_p (l + (m + 1)) key) with
    | none => rfl
    | some b =>
      exfalso
      have h1 := (hT.1 _ _).mp ⟨b, hA⟩
      have h2 : l + m < 4 := by omega
      have h3 := q_f_mono ks key h2
      have h4 : 2 ≤ (q_f ks (l + m + 1) (q_p (l + m + 1) key)).length := by
        rcases h1.2.2 with h4 | h4
        · omega
        · exact h4
      obtain ⟨c, hc⟩ := (hT.1 (l + m) (q_p (l + m) key)).mpr ⟨by omega, q_p_lt (by omega) key, Or.inr (by omega)⟩
      rw [ih] at hc
      cases hc
def q_cn (A : Nat → Nat → Option Nat) (bel : Nat → Nat → Int32) (g key : Int32) : Nat → Nat
  | 0 => 0
  | n + 1 => q_cn A bel g key n + (if (A n (q_p n key)).isSome ∧ ¬ bel n (q_p n key) = g then 1 else 0)
theorem q_cn_up {n : Nat} : ∀ m, (∀ i, i < m → A (n + i) (q_p (n + i) key) = none) → q_cn A bel g key (n + m) = q_cn A bel g key n
  | 0, _ => rfl
  | m + 1, h => by
    rw [show n + (m + 1) = n + m + 1 by omega, q_cn, q_cn_up m (fun i hi => h i (by omega)), h m (by omega)]
    simp
theorem q_cn_le : ∀ n, q_cn A bel g key n ≤ n
  | 0 => Nat.le_refl _
  | n + 1 => by
    have := q_cn_le n
    unfold q_cn
    split <;> omega
/-- the first n nodes of the key's way are the map's own -/
def Ow (h f : x_H) (A A' : Nat → Nat → Option Nat) (ks : List KV) (bel bel' : Nat → Nat → Int32) (ps ps' : Nat → Nat × Nat) (g key : Int32) (t n : Nat) : Prop :=
  Tr f A' ks bel' ∧ Ps ps' A' ∧ (∀ b, b < h.1 → ps' b = ps b) ∧ (∀ l p, bel' l p = if l < n ∧ p = q_p l key ∧ (A l p).isSome then g else bel l p) ∧ (∀ l p, (A' l p).isSome = (A l p).isSome) ∧
  (∀ l p, (bel' l p = bel l p → A' l p = A l p) ∧ (bel' l p ≠ bel l p → ∀ a, A' l p = some a → h.1 ≤ a)) ∧
  Fr (fun b => b = t ∨ ∃ l a, A l (q_p l key) = some a ∧ bel l (q_p l key) = g ∧ b = a + 2) h f
theorem Ow.up {n : Nat} (ho : Ow h f A A' ks bel bel' ps ps' g key t n) {m : Nat} (hn : ∀ i, i < m → A (n + i) (q_p (n + i) key) = none) : Ow h f A A' ks bel bel' ps ps' g key t (n + m) := by
  obtain ⟨h1, h2, h3, h4, h5⟩ := ho
  refine ⟨h1, h2, h3, fun l p => ?_, h5⟩
  rw [h4]
  by_cases hq : l < n ∧ p = q_p l key ∧ (A l p).isSome
  · rw [if_pos hq, if_pos ⟨by omega, hq.2⟩]
  · rw [if_neg hq, if_neg]
    intro z
    apply hq
    refine ⟨?_, z.2⟩
    apply Classical.byContradiction
    intro h6
    have := hn (l - n) (by omega)
    rw [show n + (l - n) = l by omega, ← z.2.1] at this
    rw [this] at z
    exact absurd z.2.2 (by simp)
set_option maxRecDepth 100000 in
theorem s_ownWay (hT : Tr h A ks bel) (hP : Ps ps A) {root : Nat} (hr : A 0 0 = some root) {ro : Int32} (ht : h.2.2 t = some (.inr (4, [.ref root, .int g, .int ro]))) (key : Int32) (hd : 2 ≤ d) (hc1 : h.1 + 15 ≤ x_cap K) (hc2 : h.2.1 + 55 ≤ x_cas K) :
    Go K M_Tri_ownWay d 0 [some (.ref t), some (.int key), none, none, none, none, none] [] h (x_rt (fun v f' => ∃ A'' bel'' ps'' root'', v = some (.int (nI (q_cn A bel g key 5))) ∧ Ow h f' A A'' ks bel bel'' ps ps'' g key t 5 ∧ A'' 0 0 = some root'' ∧
      f'.2.2 t = some (.inr (4, [.ref root'', .int g, .int ro])) ∧ f'.1 ≤ h.1 + 15 ∧ f'.2.1 ≤ h.2.1 + 55)) := by
  obtain ⟨Q, hQ⟩ : ∃ Q : x_O → x_H → Prop, Q = (x_rt (fun v f' => ∃ A'' bel'' ps'' root'', v = some (.int (nI (q_cn A bel g key 5))) ∧ Ow h f' A A'' ks bel bel'' ps ps'' g key t 5 ∧ A'' 0 0 = some root'' ∧
      f'.2.2 t = some (.inr (4, [.ref root'', .int g, .int ro])) ∧ f'.1 ≤ h.1 + 15 ∧ f'.2.1 ≤ h.2.1 + 55)) := ⟨_, rfl⟩
  rw [← hQ]
  have fin : ∀ f A' bel' ps' root' cnt x3 x4 x5 x6, Ow h f A A' ks bel bel' ps ps' g key t 5 → A' 0 0 = some root' → f.2.2 t = some (.inr (4, [.ref root', .int g, .int ro])) → cnt = q_cn A bel g key 5 → f.1 ≤ h.1 + 15 → f.2.1 ≤ h.2.1 + 55 →
      Go K M_Tri_ownWay d 122 [some (.ref t), some (.int key), some (.int (nI cnt)), x3, x4, x5, x6] [] f Q := by
    intro f A' bel' ps' root' cnt x3 x4 x5 x6 ho hr' ht' hcnt hb1 hb2
    subst hcnt
    refine go_iload_n (pc' := 123) (i := 2) d_Tri_ownWay_122 rfl rfl rfl ?_
    refine go_ireturn d_Tri_ownWay_123 rfl (by rfl) ?_
    rw [hQ]
    exact ⟨A', bel', ps', root', rfl, ho, hr', ht', hb1, hb2⟩
  have loop : ∀ r l f A' bel' ps' root' a cnt x5 x6, l + r = 4 → Ow h f A A' ks bel bel' ps ps' g key t (l + 1) → A' l (q_p l key) = some a → A' 0 0 = some root' → f.2.2 t = some (.inr (4, [.ref root', .int g, .int ro])) → cnt = q_cn A bel g key (l + 1) →
      f.1 ≤ h.1 + 3 * (l + 1) → f.2.1 ≤ h.2.1 + 11 * (l + 1) → x_k x5 = x5 → x_k x6 = x6 → Go K M_Tri_ownWay d 43 [some (.ref t), some (.int key), some (.int (nI cnt)), some (.ref a), some (.int (nI l)), x5, x6] [] f Q := by
    intro r
    induction r with
    | zero =>
      intro l f A' bel' ps' root' a cnt x5 x6 hl ho ha hr' ht' hcnt hb1 hb2 k5 k6
      have hl4 : l = 4 := by omega
      subst hl4
      refine go_iload (pc' := 45) (i := 4) d_Tri_ownWay_43 rfl rfl ?_
      refine go_iconst (pc' := 46) (v := (nI 4)) d_Tri_ownWay_45 (by decide) rfl ?_
      refine go_icmp_geN (tgt := 122) (pc' := 49) d_Tri_ownWay_46 (by decide) rfl (by omega) (by omega) (fun hc => ?_) (fun hc => ?_)
      · exact fin f A' bel' ps' root' cnt _ _ _ _ ho hr' ht' hcnt (by omega) (by omega)
      · omega
    | succ r ih =>
      intro l f A' bel' ps' root' a cnt x5 x6 hl ho ha hr' ht' hcnt hb1 hb2 k5 k6
      have hl4 : l < 4 := by omega
      refine go_dom fun hdom => ?_
      obtain ⟨hT', hP', hps, hbel, hsome, hsame, hfr⟩ := ho
      obtain ⟨es, ns, hN, hE⟩ := (hT'.2 l _ a ha).1 hl4
      have hd4 := q_d_lt l key
      have hns := (hE _ hd4).1
      rw [← q_p_s hl4] at hns
      have hN' := hN
      obtain ⟨h0, h1, h2⟩ := hN
      have hcl := q_cn_le (A := A) (bel := bel) (g := g) (key := key) (l + 1)
      refine go_iload (pc' := 45) (i := 4) d_Tri_ownWay_43 rfl rfl ?_
      refine go_iconst (pc' := 46) (v := (nI 4)) d_Tri_ownWay_45 (by decide) rfl ?_
      refine go_icmp_geN (tgt := 122) (pc' := 49) d_Tri_ownWay_46 (by decide) rfl (by omega) (by omega) (fun hc => ?_) (fun hc => ?_)
      · omega
      · refine go_iload_n (pc' := 50) (i := 1) d_Tri_ownWay_49 rfl rfl rfl ?_
        refine go_iload (pc' := 52) (i := 4) d_Tri_ownWay_50 rfl rfl ?_
        refine go_callS (pc' := 55) (M' := M_Tri_digit) [_, _] d_Tri_ownWay_52 t_195 t_196 t_1 cd_Tri_digit nm_Tri_digit rfl rfl (Nat.le_of_ble_eq_true rfl) rfl (s_digit (d := d - 1) key hl4) (by first | decide | omega) (Nat.le_of_ble_eq_true rfl) rfl (fun v hh hq => ?_) (fun q g hq => by cases hq.1)
        obtain ⟨e1, rfl⟩ := hq
        cases e1
        show Go K M_Tri_ownWay d 55 _ [.int (nI (q_d l key))] f _
        refine go_istore (pc' := 57) (i := 5) d_Tri_ownWay_55 (by decide) (x_s5 rfl) rfl ?_
        refine go_aload_n (pc' := 58) (i := 3) d_Tri_ownWay_57 rfl rfl (by first | rfl | exact x_r_rf _) rfl ?_
        refine go_getfield (pc' := 61) d_Tri_ownWay_58 c_Nod 2 (by decide) t_46 (by first | assumption | exact x_up_self _ _ _ | exact x_nw_self _ _ _ | (rw [x_up_ne (by first | omega | (simp only [x_up, x_nw]; omega))]; first | assumption | exact x_up_self _ _ _ | (rw [x_up_ne (by first | omega | (simp only [x_up, x_nw]; omega))]; first | assumption | exact x_up_self _ _ _)) | (rw [x_nw_ne (by first | omega | (simp only [x_up, x_nw]; omega))]; first | assumption | exact x_up_self _ _ _ | (rw [x_up_ne (by first | omega | (simp only [x_up, x_nw]; omega))]; assumption))) (by rfl) rfl ?_
        refine go_iload (pc' := 63) (i := 5) d_Tri_ownWay_61 rfl rfl ?_
        refine go_aaldN (pc' := 64) d_Tri_ownWay_63 (by first | assumption | exact x_up_self _ _ _ | exact x_nw_self _ _ _ | (rw [x_up_ne (by first | omega | (simp only [x_up, x_nw]; omega))]; first | assumption | exact x_up_self _ _ _ | (rw [x_up_ne (by first | omega | (simp only [x_up, x_nw]; omega))]; first | assumption | exact x_up_self _ _ _)) | (rw [x_nw_ne (by first | omega | (simp only [x_up, x_nw]; omega))]; first | assumption | exact x_up_self _ _ _ | (rw [x_up_ne (by first | omega | (simp only [x_up, x_nw]; omega))]; assumption))) (by rfl) (by first | assumption | omega | (simp only [x_up, x_nw]; omega)) (by first | assumption | omega | (simp only [x_up, x_nw]; omega)) rfl ?_
        rw [hns]
        refine go_astore (pc' := 66) (i := 6) d_Tri_ownWay_64 (by decide) (x_r_rf _) (x_s6 rfl) rfl ?_
        refine go_aload (pc' := 68) (i := 6) d_Tri_ownWay_66 rfl (by first | rfl | exact x_r_rf _) rfl ?_
        have hbn : bel' (l + 1) (q_p (l + 1) key) = bel (l + 1) (q_p (l + 1) key) := by rw [hbel, if_neg (by omega)]
        have hAn := (hsame (l + 1) (q_p (l + 1) key)).1 hbn
        refine go_ifnonnull (tgt := 74) (pc' := 71) d_Tri_ownWay_68 (by decide) rfl (fun b hc => ?_) (fun hc => ?_)
        · have hcA := hc
          rw [hc]
          obtain ⟨nb, esb, kb, nsb, hNb, hlb, hEb, hMb, hcb⟩ := hT'.nd hc
          have hAb : A (l + 1) (q_p (l + 1) key) = some b := by rw [← hAn]; exact hc
          have hb0 := hNb.1
          refine go_aload (pc' := 76) (i := 6) d_Tri_ownWay_74 rfl rfl rfl ?_
          refine go_getfield (pc' := 79) d_Tri_ownWay_76 c_Nod 0 (by decide) t_41 (by first | assumption | exact x_up_self _ _ _ | exact x_nw_self _ _ _ | (rw [x_up_ne (by first | omega | (simp only [x_up, x_nw]; omega))]; first | assumption | exact x_up_self _ _ _ | (rw [x_up_ne (by first | omega | (simp only [x_up, x_nw]; omega))]; first | assumption | exact x_up_self _ _ _)) | (rw [x_nw_ne (by first | omega | (simp only [x_up, x_nw]; omega))]; first | assumption | exact x_up_self _ _ _ | (rw [x_up_ne (by first | omega | (simp only [x_up, x_nw]; omega))]; assumption))) (by rfl) rfl ?_
          refine go_aload_n (pc' := 80) (i := 0) d_Tri_ownWay_79 rfl rfl (by first | rfl | exact x_r_rf _) rfl ?_
          refine go_getfield (pc' := 83) d_Tri_ownWay_80 c_Map 1 (by decide) t_61 (by first | assumption | exact x_up_self _ _ _ | exact x_nw_self _ _ _ | (rw [x_up_ne (by first | omega | (simp only [x_up, x_nw]; omega))]; first | assumption | exact x_up_self _ _ _ | (rw [x_up_ne (by first | omega | (simp only [x_up, x_nw]; omega))]; first | assumption | exact x_up_self _ _ _)) | (rw [x_nw_ne (by first | omega | (simp only [x_up, x_nw]; omega))]; first | assumption | exact x_up_self _ _ _ | (rw [x_up_ne (by first | omega | (simp only [x_up, x_nw]; omega))]; assumption))) (by rfl) rfl ?_
          refine go_icmp_eq (tgt := 113) (pc' := 86) d_Tri_ownWay_83 (by decide) rfl (fun hc => ?_) (fun hc => ?_)
          · have hcg : bel (l + 1) (q_p (l + 1) key) = g := by rw [← hbn]; assumption
            refine go_aload (pc' := 115) (i := 6) d_Tri_ownWay_113 rfl (by first | rfl | exact x_r_rf _) rfl ?_
            refine go_astore_n (pc' := 116) (i := 3) d_Tri_ownWay_115 rfl (by decide) (by first | rfl | exact x_r_rf _) (x_s3 (by first | rfl | exact x_k_rf _)) rfl ?_
            refine go_iinc (pc' := 119) (i := 4) d_Tri_ownWay_116 rfl (x_i1 _) (by decide) (x_s4 (by first | rfl | exact x_k_rf _)) rfl ?_
            refine go_goto (tgt := 43) d_Tri_ownWay_119 (by decide) ?_
            refine ih (l + 1) f A' bel' ps' root' b cnt _ _ (by omega) ⟨hT', hP', hps, fun l1 p1 => ?_, hsome, hsame, hfr⟩ hcA hr' ht' ?_ (by omega) (by omega) rfl rfl
            · rw [hbel]
              by_cases hq : l1 < l + 1 ∧ p1 = q_p l1 key ∧ (A l1 p1).isSome
              · rw [if_pos hq, if_pos ⟨by omega, hq.2⟩]
              · rw [if_neg hq]
                by_cases hq2 : l1 < l + 1 + 1 ∧ p1 = q_p l1 key ∧ (A l1 p1).isSome
                · rw [if_pos hq2]
                  have : l1 = l + 1 := by
                    apply Classical.byContradiction
                    intro z
                    exact hq ⟨by omega, hq2.2⟩
                  subst this
                  rw [hq2.2.1]
                  exact hcg
                · rw [if_neg hq2]
            · rw [hcnt, q_cn.eq_def A bel g key (l + 1 + 1)]
              simp only
              rw [if_neg (fun z => z.2 hcg)]
              rfl
          · have hcg : ¬ bel (l + 1) (q_p (l + 1) key) = g := by rw [← hbn]; assumption
            refine go_aload (pc' := 88) (i := 6) d_Tri_ownWay_86 rfl rfl rfl ?_
            refine go_aload_n (pc' := 89) (i := 0) d_Tri_ownWay_88 rfl rfl (by first | rfl | exact x_r_rf _) rfl ?_
            refine go_getfield (pc' := 92) d_Tri_ownWay_89 c_Map 1 (by decide) t_61 (by first | assumption | exact x_up_self _ _ _ | exact x_nw_self _ _ _ | (rw [x_up_ne (by first | omega | (simp only [x_up, x_nw]; omega))]; first | assumption | exact x_up_self _ _ _ | (rw [x_up_ne (by first | omega | (simp only [x_up, x_nw]; omega))]; first | assumption | exact x_up_self _ _ _)) | (rw [x_nw_ne (by first | omega | (simp only [x_up, x_nw]; omega))]; first | assumption | exact x_up_self _ _ _ | (rw [x_up_ne (by first | omega | (simp only [x_up, x_nw]; omega))]; assumption))) (by rfl) rfl ?_
            refine go_iload (pc' := 94) (i := 4) d_Tri_ownWay_92 rfl rfl ?_
            refine go_iconst (pc' := 95) (v := (nI 1)) d_Tri_ownWay_94 (by decide) rfl ?_
            refine go_iadd (pc' := 96) d_Tri_ownWay_95 rfl ?_
            rw [nI_add]
            refine go_callS (pc' := 99) (M' := M_Tri_copyOf) [_, _, _] d_Tri_ownWay_96 t_292 t_293 t_1 cd_Tri_copyOf nm_Tri_copyOf rfl rfl (Nat.le_of_ble_eq_true rfl) rfl (s_copyOf (d := d - 1) hNb g hlb hEb hMb (by omega) (by omega) (by omega)) (by first | decide | omega) (Nat.le_of_ble_eq_true rfl) rfl (fun v hh hq => ?_) (fun q g hq => hq.elim)
            obtain ⟨rfl, f1, f2, f3, ⟨es', ns', hNc, hes', hns'⟩, hold⟩ := hq
            have ha2 := hdom _ _ h2
            show Go K M_Tri_ownWay d 99 _ [.ref f.1] hh _
            refine go_astore (pc' := 101) (i := 6) d_Tri_ownWay_99 (by decide) rfl (x_s6 rfl) rfl ?_
            have g0 : hh.2.2 a = _ := (hold a (by omega)).trans h0
            have g2 : hh.2.2 (a + 2) = _ := (hold (a + 2) ha2).trans h2
            have gc := hNc.1
            refine go_aload_n (pc' := 102) (i := 3) d_Tri_ownWay_101 rfl rfl (by first | rfl | exact x_r_rf _) rfl ?_
            refine go_getfield (pc' := 105) d_Tri_ownWay_102 c_Nod 2 (by decide) t_46 (by first | assumption | exact x_up_self _ _ _ | exact x_nw_self _ _ _ | (rw [x_up_ne (by first | omega | (simp only [x_up, x_nw]; omega))]; first | assumption | exact x_up_self _ _ _ | (rw [x_up_ne (by first | omega | (simp only [x_up, x_nw]; omega))]; first | assumption | exact x_up_self _ _ _)) | (rw [x_nw_ne (by first | omega | (simp only [x_up, x_nw]; omega))]; first | assumption | exact x_up_self _ _ _ | (rw [x_up_ne (by first | omega | (simp only [x_up, x_nw]; omega))]; assumption))) (by rfl) rfl ?_
            refine go_iload (pc' := 107) (i := 5) d_Tri_ownWay_105 rfl rfl ?_
            refine go_aload (pc' := 109) (i := 6) d_Tri_ownWay_107 rfl (by first | rfl | exact x_r_rf _) rfl ?_
            refine go_aastR (pc' := 110) d_Tri_ownWay_109 (by assumption) (by assumption) (by rfl) (by rfl) (by omega) (by omega) rfl ?_
            refine go_iinc (pc' := 113) (i := 2) d_Tri_ownWay_110 rfl (x_i1 _) (by decide) (x_s2 (by first | rfl | exact x_k_rf _)) rfl ?_
            refine go_aload (pc' := 115) (i := 6) d_Tri_ownWay_113 rfl (by first | rfl | exact x_r_rf _) rfl ?_
            refine go_astore_n (pc' := 116) (i := 3) d_Tri_ownWay_115 rfl (by decide) (by first | rfl | exact x_r_rf _) (x_s3 (by first | rfl | exact x_k_rf _)) rfl ?_
            refine go_iinc (pc' := 119) (i := 4) d_Tri_ownWay_116 rfl (x_i1 _) (by decide) (x_s4 (by first | rfl | exact x_k_rf _)) rfl ?_
            refine go_goto (tgt := 43) d_Tri_ownWay_119 (by decide) ?_
            have hF : Fo (fun z => z = a) f (x_up hh (a + 2) (.inl (4, 4, .inr (.inr (.inr (.inr (va_up ns (q_d l key) (some f.1)))))))) := by
              refine ⟨fun z hz => ?_, fun z c hz hw => ?_⟩
              · have hz' : z = a := hz
                subst hz'
                exact ⟨_, _, _, _, _, hN'⟩
              · rw [x_up_ne (hw a rfl).2, hold z (hdom z c hz)]
                exact hz
            have hNa2 : Nd (x_up hh (a + 2) (.inl (4, 4, .inr (.inr (.inr (.inr (va_up ns (q_d l key) (some f.1)))))))) a (bel' l (q_p l key)) 4 es 4 (va_up ns (q_d l key) (some f.1)) :=
              ⟨(x_up_ne (by omega)).trans g0, (x_up_ne (by omega)).trans ((hold _ (by omega)).trans h1), x_up_self _ _ _⟩
            have hNc2 : Nd (x_up hh (a + 2) (.inl (4, 4, .inr (.inr (.inr (.inr (va_up ns (q_d l key) (some f.1)))))))) f.1 g nb es' kb ns' :=
              ⟨(x_up_ne (by omega)).trans hNc.1, (x_up_ne (by omega)).trans hNc.2.1, (x_up_ne (by omega)).trans hNc.2.2⟩
            have hT2 := hT'.child hP' hl4 hd4 ha (by rw [← q_p_s hl4]; exact hcA) hF hN' hNa2 g (fun n2 esb2 k2 nsb2 gb2 hN2 => by
              obtain ⟨-, rfl, rfl, rfl, rfl⟩ := hNb.uniq hN2
              exact ⟨es', ns', hNc2, hes', hns'⟩)
            rw [← q_p_s hl4] at hT2
            have haf : ∀ l1 p1 a1, A' l1 p1 = some a1 → a1 < f.1 := fun l1 p1 a1 h9 => by
              obtain ⟨_, _, _, _, hN9, -⟩ := hT'.nd h9
              exact hdom _ _ hN9.1
            have hgw : bel' l (q_p l key) = g := by
              have hs9 := hsome l (q_p l key)
              rw [ha] at hs9
              rw [hbel, if_pos ⟨by omega, rfl, hs9.symm⟩]
            refine ih (l + 1) _ (q_u2 A' (l + 1) (q_p (l + 1) key) (some f.1)) (q_u2 bel' (l + 1) (q_p (l + 1) key) g) (va_up ps' f.1 (l + 1, q_p (l + 1) key)) root' f.1 _ _ _ (by omega) ⟨hT2, ?_, ?_, ?_, ?_, ?_, ?_⟩ (q_u2_self _ _ _ _) ?_ ?_ ?_ ?_ ?_ rfl rfl
            · intro l1 p1 a1 h9
              by_cases hq : l1 = l + 1 ∧ p1 = q_p (l + 1) key
              · obtain ⟨rfl, rfl⟩ := hq
                rw [q_u2_self] at h9
                cases h9
                exact va_up_self _ _ _
              · rw [q_u2_ne _ _ hq] at h9
                have := haf _ _ _ h9
                rw [va_up_ne _ _ (by omega)]
                exact hP' _ _ _ h9
            · intro z hz
              have := hfr.1
              rw [va_up_ne _ _ (by omega)]
              exact hps z hz
            · intro l1 p1
              by_cases hq : l1 = l + 1 ∧ p1 = q_p (l + 1) key
              · obtain ⟨rfl, rfl⟩ := hq
                rw [q_u2_self, if_pos ⟨by omega, rfl, by rw [hAb]; rfl⟩]
              · rw [q_u2_ne _ _ hq, hbel]
                by_cases hq2 : l1 < l + 1 ∧ p1 = q_p l1 key ∧ (A l1 p1).isSome
                · rw [if_pos hq2, if_pos ⟨by omega, hq2.2⟩]
                · rw [if_neg hq2, if_neg]
                  intro z
                  apply hq2
                  refine ⟨?_, z.2⟩
                  apply Classical.byContradiction
                  intro z2
                  have : l1 = l + 1 := by omega
                  subst this
                  exact hq ⟨rfl, z.2.1⟩
            · intro l1 p1
              by_cases hq : l1 = l + 1 ∧ p1 = q_p (l + 1) key
              · obtain ⟨rfl, rfl⟩ := hq
                rw [q_u2_self, hAb]
                rfl
              · rw [q_u2_ne _ _ hq]
                exact hsome l1 p1
            · intro l1 p1
              by_cases hq : l1 = l + 1 ∧ p1 = q_p (l + 1) key
              · obtain ⟨rfl, rfl⟩ := hq
                rw [q_u2_self, q_u2_self]
                refine ⟨fun z => absurd z.symm hcg, fun _ a9 h9 => ?_⟩
                cases h9
                exact hfr.1
              · rw [q_u2_ne _ _ hq, q_u2_ne _ _ hq]
                exact hsame l1 p1
            · refine ⟨by have := hfr.1; show h.1 ≤ hh.1; omega, by have := hfr.2.1; show h.2.1 ≤ hh.2.1; omega, fun z hz hs => ?_⟩
              have hzf : z < f.1 := Nat.lt_of_lt_of_le hz hfr.1
              have hza : z ≠ a + 2 := by
                intro e
                apply hs
                right
                have hbb : bel' l (q_p l key) = bel l (q_p l key) := by
                  apply Classical.byContradiction
                  intro z2
                  have := (hsame l (q_p l key)).2 z2 a ha
                  omega
                exact ⟨l, a, by rw [← (hsame l _).1 hbb]; exact ha, by rw [← hbb]; exact hgw, e⟩
              rw [x_up_ne hza, hold z hzf]
              exact hfr.2.2 z hz hs
            · rw [q_u2_ne _ _ (by omega)]
              exact hr'
            · have htf := hdom _ _ ht'
              have hta : t ≠ a + 2 := fun e => by rw [e, h2] at ht'; cases ht'
              rw [x_up_ne hta, hold t htf]
              exact ht'
            · rw [q_cn.eq_def A bel g key (l + 1 + 1)]
              simp only
              rw [if_pos ⟨by rw [hAb]; rfl, hcg⟩, hcnt]
            · show hh.1 ≤ _
              omega
            · show hh.2.1 ≤ _
              omega
        · refine go_goto (tgt := 122) d_Tri_ownWay_71 (by decide) ?_
          have hnone : A (l + 1) (q_p (l + 1) key) = none := by rw [← hAn]; exact hc
          have hup := hT.none_up key hnone
          have ho5 := Ow.up (m := 4 - l) (⟨hT', hP', hps, hbel, hsome, hsame, hfr⟩ : Ow h f A A' ks bel bel' ps ps' g key t (l + 1)) (fun i _ => hup i)
          rw [show l + 1 + (4 - l) = 5 by omega] at ho5
          have hc5 := q_cn_up (A := A) (bel := bel) (g := g) (key := key) (n := l + 1) (4 - l) (fun i _ => hup i)
          rw [show l + 1 + (4 - l) = 5 by omega] at hc5
          exact fin f A' bel' ps' root' cnt _ _ _ _ ho5 hr' ht' (by rw [hcnt, hc5]) (by omega) (by omega)
  refine go_dom fun hdom => ?_
  obtain ⟨nb, esb, kb, nsb, hNb, hlb, hEb, hMb, hcb⟩ := hT.nd hr
  have hb0 := hNb.1
  refine go_iconst (pc' := 1) (v := (nI 0)) d_Tri_ownWay_0 (by decide) rfl ?_
  refine go_istore_n (pc' := 2) (i := 2) d_Tri_ownWay_1 rfl (by decide) (x_s2 (by first | rfl | exact x_k_rf _)) rfl ?_
  refine go_aload_n (pc' := 3) (i := 0) d_Tri_ownWay_2 rfl rfl (by first | rfl | exact x_r_rf _) rfl ?_
  refine go_getfield (pc' := 6) d_Tri_ownWay_3 c_Map 0 (by decide) t_59 (by first | assumption | exact x_up_self _ _ _ | exact x_nw_self _ _ _ | (rw [x_up_ne (by first | omega | (simp only [x_up, x_nw]; omega))]; first | assumption | exact x_up_self _ _ _ | (rw [x_up_ne (by first | omega | (simp only [x_up, x_nw]; omega))]; first | assumption | exact x_up_self _ _ _)) | (rw [x_nw_ne (by first | omega | (simp only [x_up, x_nw]; omega))]; first | assumption | exact x_up_self _ _ _ | (rw [x_up_ne (by first | omega | (simp only [x_up, x_nw]; omega))]; assumption))) (by rfl) rfl ?_
  refine go_getfield (pc' := 9) d_Tri_ownWay_6 c_Nod 0 (by decide) t_41 (by first | assumption | exact x_up_self _ _ _ | exact x_nw_self _ _ _ | (rw [x_up_ne (by first | omega | (simp only [x_up, x_nw]; omega))]; first | assumption | exact x_up_self _ _ _ | (rw [x_up_ne (by first | omega | (simp only [x_up, x_nw]; omega))]; first | assumption | exact x_up_self _ _ _)) | (rw [x_nw_ne (by first | omega | (simp only [x_up, x_nw]; omega))]; first | assumption | exact x_up_self _ _ _ | (rw [x_up_ne (by first | omega | (simp only [x_up, x_nw]; omega))]; assumption))) (by rfl) rfl ?_
  refine go_aload_n (pc' := 10) (i := 0) d_Tri_ownWay_9 rfl rfl (by first | rfl | exact x_r_rf _) rfl ?_
  refine go_getfield (pc' := 13) d_Tri_ownWay_10 c_Map 1 (by decide) t_61 (by first | assumption | exact x_up_self _ _ _ | exact x_nw_self _ _ _ | (rw [x_up_ne (by first | omega | (simp only [x_up, x_nw]; omega))]; first | assumption | exact x_up_self _ _ _ | (rw [x_up_ne (by first | omega | (simp only [x_up, x_nw]; omega))]; first | assumption | exact x_up_self _ _ _)) | (rw [x_nw_ne (by first | omega | (simp only [x_up, x_nw]; omega))]; first | assumption | exact x_up_self _ _ _ | (rw [x_up_ne (by first | omega | (simp only [x_up, x_nw]; omega))]; assumption))) (by rfl) rfl ?_
  refine go_icmp_eq (tgt := 35) (pc' := 16) d_Tri_ownWay_13 (by decide) rfl (fun hc => ?_) (fun hc => ?_)
  · refine go_aload_n (pc' := 36) (i := 0) d_Tri_ownWay_35 rfl rfl (by first | rfl | exact x_r_rf _) rfl ?_
    refine go_getfield (pc' := 39) d_Tri_ownWay_36 c_Map 0 (by decide) t_59 (by first | assumption | exact x_up_self _ _ _ | exact x_nw_self _ _ _ | (rw [x_up_ne (by first | omega | (simp only [x_up, x_nw]; omega))]; first | assumption | exact x_up_self _ _ _ | (rw [x_up_ne (by first | omega | (simp only [x_up, x_nw]; omega))]; first | assumption | exact x_up_self _ _ _)) | (rw [x_nw_ne (by first | omega | (simp only [x_up, x_nw]; omega))]; first | assumption | exact x_up_self _ _ _ | (rw [x_up_ne (by first | omega | (simp only [x_up, x_nw]; omega))]; assumption))) (by rfl) rfl ?_
    refine go_astore_n (pc' := 40) (i := 3) d_Tri_ownWay_39 rfl (by decide) (by first | rfl | exact x_r_rf _) (x_s3 (by first | rfl | exact x_k_rf _)) rfl ?_
    refine go_iconst (pc' := 41) (v := (nI 0)) d_Tri_ownWay_40 (by decide) rfl ?_
    refine go_istore (pc' := 43) (i := 4) d_Tri_ownWay_41 (by decide) (x_s4 (by first | rfl | exact x_k_rf _)) rfl ?_
    refine loop 4 0 h A bel ps root root 0 _ _ (by omega) ⟨hT, hP, fun _ _ => rfl, fun l1 p1 => ?_, fun _ _ => rfl, fun l1 p1 => ⟨fun _ => rfl, fun z => absurd rfl z⟩, Fr.rf _ _⟩ (by rw [q_p_0]; exact hr) hr ht ?_ (by omega) (by omega) rfl rfl
    · by_cases hq : l1 < 0 + 1 ∧ p1 = q_p l1 key ∧ (A l1 p1).isSome
      · rw [if_pos hq]
        have h1 : l1 = 0 := by omega
        subst h1
        rw [hq.2.1, q_p_0]
        assumption
      · rw [if_neg hq]
    · rw [q_cn, q_cn, if_neg]
      rw [q_p_0]
      exact fun z => z.2 hc
  · refine go_aload_n (pc' := 17) (i := 0) d_Tri_ownWay_16 rfl rfl (by first | rfl | exact x_r_rf _) rfl ?_
    refine go_aload_n (pc' := 18) (i := 0) d_Tri_ownWay_17 rfl rfl (by first | rfl | exact x_r_rf _) rfl ?_
    refine go_getfield (pc' := 21) d_Tri_ownWay_18 c_Map 0 (by decide) t_59 (by first | assumption | exact x_up_self _ _ _ | exact x_nw_self _ _ _ | (rw [x_up_ne (by first | omega | (simp only [x_up, x_nw]; omega))]; first | assumption | exact x_up_self _ _ _ | (rw [x_up_ne (by first | omega | (simp only [x_up, x_nw]; omega))]; first | assumption | exact x_up_self _ _ _)) | (rw [x_nw_ne (by first | omega | (simp only [x_up, x_nw]; omega))]; first | assumption | exact x_up_self _ _ _ | (rw [x_up_ne (by first | omega | (simp only [x_up, x_nw]; omega))]; assumption))) (by rfl) rfl ?_
    refine go_aload_n (pc' := 22) (i := 0) d_Tri_ownWay_21 rfl rfl (by first | rfl | exact x_r_rf _) rfl ?_
    refine go_getfield (pc' := 25) d_Tri_ownWay_22 c_Map 1 (by decide) t_61 (by first | assumption | exact x_up_self _ _ _ | exact x_nw_self _ _ _ | (rw [x_up_ne (by first | omega | (simp only [x_up, x_nw]; omega))]; first | assumption | exact x_up_self _ _ _ | (rw [x_up_ne (by first | omega | (simp only [x_up, x_nw]; omega))]; first | assumption | exact x_up_self _ _ _)) | (rw [x_nw_ne (by first | omega | (simp only [x_up, x_nw]; omega))]; first | assumption | exact x_up_self _ _ _ | (rw [x_up_ne (by first | omega | (simp only [x_up, x_nw]; omega))]; assumption))) (by rfl) rfl ?_
    refine go_iconst (pc' := 26) (v := (nI 0)) d_Tri_ownWay_25 (by decide) rfl ?_
    refine go_callS (pc' := 29) (M' := M_Tri_copyOf) [_, _, _] d_Tri_ownWay_26 t_292 t_293 t_1 cd_Tri_copyOf nm_Tri_copyOf rfl rfl (Nat.le_of_ble_eq_true rfl) rfl (s_copyOf (d := d - 1) (l := 0) hNb g (by omega) hEb hMb (by omega) (by omega) (by omega)) (by first | decide | omega) (Nat.le_of_ble_eq_true rfl) rfl (fun v hh hq => ?_) (fun q g hq => hq.elim)
    obtain ⟨rfl, f1, f2, f3, ⟨es', ns', hNc, hes', hns'⟩, hold⟩ := hq
    have htf := hdom _ _ ht
    show Go K M_Tri_ownWay d 29 _ [.ref h.1, .ref t] hh _
    have g0 : hh.2.2 t = _ := (hold t htf).trans ht
    refine go_putfield (pc' := 32) d_Tri_ownWay_29 c_Map 0 (by decide) rfl t_59 (by first | assumption | exact x_up_self _ _ _ | exact x_nw_self _ _ _ | (rw [x_up_ne (by first | omega | (simp only [x_up, x_nw]; omega))]; first | assumption | exact x_up_self _ _ _ | (rw [x_up_ne (by first | omega | (simp only [x_up, x_nw]; omega))]; first | assumption | exact x_up_self _ _ _)) | (rw [x_nw_ne (by first | omega | (simp only [x_up, x_nw]; omega))]; first | assumption | exact x_up_self _ _ _ | (rw [x_up_ne (by first | omega | (simp only [x_up, x_nw]; omega))]; assumption))) (by rfl) (by rfl) (by first | exact Nat.le_of_ble_eq_true rfl | simp) rfl ?_
    refine go_iinc (pc' := 35) (i := 2) d_Tri_ownWay_32 rfl (x_i1 _) (by decide) (x_s2 (by first | rfl | exact x_k_rf _)) rfl ?_
    refine go_aload_n (pc' := 36) (i := 0) d_Tri_ownWay_35 rfl rfl (by first | rfl | exact x_r_rf _) rfl ?_
    refine go_getfield (pc' := 39) d_Tri_ownWay_36 c_Map 0 (by decide) t_59 (by first | assumption | exact x_up_self _ _ _ | exact x_nw_self _ _ _ | (rw [x_up_ne (by first | omega | (simp only [x_up, x_nw]; omega))]; first | assumption | exact x_up_self _ _ _ | (rw [x_up_ne (by first | omega | (simp only [x_up, x_nw]; omega))]; first | assumption | exact x_up_self _ _ _)) | (rw [x_nw_ne (by first | omega | (simp only [x_up, x_nw]; omega))]; first | assumption | exact x_up_self _ _ _ | (rw [x_up_ne (by first | omega | (simp only [x_up, x_nw]; omega))]; assumption))) (by rfl) rfl ?_
    refine go_astore_n (pc' := 40) (i := 3) d_Tri_ownWay_39 rfl (by decide) (by first | rfl | exact x_r_rf _) (x_s3 (by first | rfl | exact x_k_rf _)) rfl ?_
    refine go_iconst (pc' := 41) (v := (nI 0)) d_Tri_ownWay_40 (by decide) rfl ?_
    refine go_istore (pc' := 43) (i := 4) d_Tri_ownWay_41 (by decide) (x_s4 (by first | rfl | exact x_k_rf _)) rfl ?_
    have hk : Kp h (x_up hh t (.inr (4, [.ref h.1, .int g, .int ro]))) := fun b c hb hx => by
      have hne : b ≠ t := fun e => by rw [e, ht] at hb; cases hb; cases hx
      rw [x_up_ne hne, hold b (hdom b c hb)]
      exact hb
    have hNc2 : Nd (x_up hh t (.inr (4, [.ref h.1, .int g, .int ro]))) h.1 g nb es' kb ns' := ⟨(x_up_ne (by omega)).trans hNc.1, (x_up_ne (by omega)).trans hNc.2.1, (x_up_ne (by omega)).trans hNc.2.2⟩
    have hT2 := hT.root hk hr g (fun n2 esb2 k2 nsb2 gb2 hN2 => by
      obtain ⟨-, rfl, rfl, rfl, rfl⟩ := hNb.uniq hN2
      exact ⟨es', ns', hNc2, hes', hns'⟩)
    have haf : ∀ l1 p1 a1, A l1 p1 = some a1 → a1 < h.1 := fun l1 p1 a1 h9 => by
      obtain ⟨_, _, _, _, hN9, -⟩ := hT.nd h9
      exact hdom _ _ hN9.1
    refine loop 4 0 _ (q_u2 A 0 0 (some h.1)) (q_u2 bel 0 0 g) (va_up ps h.1 (0, 0)) h.1 h.1 1 _ _ (by omega) ⟨hT2, ?_, ?_, ?_, ?_, ?_, ?_⟩ (by rw [q_p_0]; exact q_u2_self _ _ _ _) (q_u2_self _ _ _ _) (x_up_self _ _ _) ?_ ?_ ?_ rfl rfl
    · intro l1 p1 a1 h9
      by_cases hq : l1 = 0 ∧ p1 = 0
      · obtain ⟨rfl, rfl⟩ := hq
        rw [q_u2_self] at h9
        cases h9
        exact va_up_self _ _ _
      · rw [q_u2_ne _ _ hq] at h9
        have := haf _ _ _ h9
        rw [va_up_ne _ _ (by omega)]
        exact hP _ _ _ h9
    · intro z hz
      rw [va_up_ne _ _ (by omega)]
    · intro l1 p1
      by_cases hq : l1 = 0 ∧ p1 = 0
      · obtain ⟨rfl, rfl⟩ := hq
        rw [q_u2_self, if_pos ⟨by omega, by rw [q_p_0], by rw [hr]; rfl⟩]
      · rw [q_u2_ne _ _ hq, if_neg]
        intro z
        have h1 : l1 = 0 := by omega
        subst h1
        rw [q_p_0] at z
        exact hq ⟨rfl, z.2.1⟩
    · intro l1 p1
      by_cases hq : l1 = 0 ∧ p1 = 0
      · obtain ⟨rfl, rfl⟩ := hq
        rw [q_u2_self, hr]
        rfl
      · rw [q_u2_ne _ _ hq]
    · intro l1 p1
      by_cases hq : l1 = 0 ∧ p1 = 0
      · obtain ⟨rfl, rfl⟩ := hq
        rw [q_u2_self, q_u2_self]
        refine ⟨fun z => absurd z.symm hc, fun _ a9 h9 => ?_⟩
        cases h9
        exact Nat.le_refl _
      · rw [q_u2_ne _ _ hq, q_u2_ne _ _ hq]
        exact ⟨fun _ => rfl, fun z => absurd rfl z⟩
    · refine ⟨by show h.1 ≤ hh.1; omega, by show h.2.1 ≤ hh.2.1; omega, fun z hz hs => ?_⟩
      rw [x_up_ne (fun e => hs (Or.inl e)), hold z hz]
    · rw [q_cn, q_cn, if_pos]
      rw [q_p_0, hr]
      exact ⟨rfl, hc⟩
    · show hh.1 ≤ _
      omega
    · show hh.2.1 ≤ _
      omega
end TF
end
section
section TG
variable {K : x_K} {d : Nat} {h f f2 : x_H} {g : Int32} {e1 e2 : Nat} {k1 k2 : Int32} {v1 v2 : Int64}
/-- a chain of nodes that parts two entries, from level l on, r levels above the bags -/
def T2 (f : x_H) (g : Int32) (e1 e2 : Nat) (k1 k2 : Int32) : Nat → Nat → Nat → Prop
  | 0, _, c => ∃ es ns, Nd f c g 6 es 0 ns ∧ es 0 = some e1 ∧ es 1 = some e2 ∧ ∀ j, 2 ≤ j → j < 6 → es j = none
  | r + 1, l, c => ∃ es ns, Nd f c g 4 es 4 ns ∧
    ((q_d l k1 = q_d l k2 ∧ (∀ j, j < 4 → es j = none) ∧ (∀ j, j < 4 → ns j = if j = q_d l k1 then some (c + 3) else none) ∧ T2 f g e1 e2 k1 k2 r (l + 1) (c + 3)) ∨
     (¬ q_d l k1 = q_d l k2 ∧ (∀ j, j < 4 → ns j = none) ∧ ∀ j, j < 4 → es j = if j = q_d l k2 then some e2 else if j = q_d l k1 then some e1 else none))
theorem T2.mono : ∀ (r l c : Nat), T2 f g e1 e2 k1 k2 r l c → (∀ b, c ≤ b → f2.2.2 b = f.2.2 b) → T2 f2 g e1 e2 k1 k2 r l c
  | 0, l, c, hT, hb => by
    obtain ⟨es, ns, hN, hE⟩ := hT
    exact ⟨es, ns, ⟨(hb _ (by omega)).trans hN.1, (hb _ (by omega)).trans hN.2.1, (hb _ (by omega)).trans hN.2.2⟩, hE⟩
  | r + 1, l, c, hT, hb => by
    obtain ⟨es, ns, hN, hE⟩ := hT
    refine ⟨es, ns, ⟨(hb _ (by omega)).trans hN.1, (hb _ (by omega)).trans hN.2.1, (hb _ (by omega)).trans hN.2.2⟩, ?_⟩
    rcases hE with ⟨q1, q2, q3, q4⟩ | hE
    · exact Or.inl ⟨q1, q2, q3, T2.mono r (l + 1) (c + 3) q4 (fun b hb' => hb b (by omega))⟩
    · exact Or.inr hE
set_option maxRecDepth 100000 in
theorem s_nodeOfTwo (hk : k1 ≠ k2) : ∀ (r l : Nat) (h : x_H), l + r = 4 → Et h e1 k1 v1 → Et h e2 k2 v2 → h.1 + 3 * (r + 1) ≤ x_cap K → h.2.1 + 11 * (r + 1) ≤ x_cas K →
    Go K M_Tri_nodeOfTwo (r + 2) 0 [some (.ref e1), some (.ref e2), some (.int g), some (.int (nI l)), none, none, none] [] h (x_rt (fun v f => v = some (.ref h.1) ∧ T2 f g e1 e2 k1 k2 r l h.1 ∧ h.1 + 3 ≤ f.1 ∧ f.1 ≤ h.1 + 3 * (r + 1) ∧
      h.2.1 ≤ f.2.1 ∧ f.2.1 ≤ h.2.1 + 11 * (r + 1) ∧ ∀ b, b < h.1 → f.2.2 b = h.2.2 b)) := by
  intro r
  induction r with
  | zero =>
    intro l h hl he1 he2 hc1 hc2
    have hl4 : l = 4 := by omega
    subst hl4
    refine go_dom fun hdom => ?_
    have hx1 := hdom _ _ he1
    have hx2 := hdom _ _ he2
    refine go_new (pc' := 3) (fs := [.int 0, .null, .null]) d_Tri_nodeOfTwo_0 c_Nod t_29 t_30 t_3 (by decide +kernel) (by first | assumption | omega | (simp only [x_up, x_nw]; omega)) (by first | assumption | omega | (simp only [x_up, x_nw]; omega)) rfl ?_
    refine go_dup (pc' := 4) d_Tri_nodeOfTwo_3 (by first | rfl | exact x_c_rf _) rfl ?_
    refine go_iload_n (pc' := 5) (i := 2) d_Tri_nodeOfTwo_4 rfl rfl rfl ?_
    refine go_iload_n (pc' := 6) (i := 3) d_Tri_nodeOfTwo_5 rfl rfl rfl ?_
    refine go_callI (pc' := 9) (M' := M_Nod_init) [_, _] d_Tri_nodeOfTwo_6 rfl rfl t_31 t_32 t_33 rfl nm_Nod_init rfl rfl (Nat.le_of_ble_eq_true rfl) rfl (s_Nod_bag (a := h.1) (d := 1) rfl (x_nw_self _ _ _) g rfl (by simp only [x_nw]; omega) (by simp only [x_nw]; omega)) (by first | decide | omega) (Nat.le_of_ble_eq_true rfl) rfl (fun v hh hq => ?_) (fun q g hq => hq.elim)
    obtain ⟨rfl, f1, f3, hNc, hold⟩ := hq
    simp only [x_nw] at f3
    have hold' : ∀ b, b < h.1 → hh.2.2 b = h.2.2 b := fun b hb => (hold b hb).trans (x_nw_ne (by omega))
    have he1' : Et hh e1 k1 v1 := (hold' e1 hx1).trans he1
    have he2' : Et hh e2 k2 v2 := (hold' e2 hx2).trans he2
    show Go K M_Tri_nodeOfTwo (0 + 2) 9 _ [.ref h.1] hh _
    refine go_astore (pc' := 11) (i := 4) d_Tri_nodeOfTwo_9 (by decide) rfl (x_s4 rfl) rfl ?_
    refine go_iload_n (pc' := 12) (i := 3) d_Tri_nodeOfTwo_11 rfl rfl rfl ?_
    refine go_iconst (pc' := 13) (v := (nI 4)) d_Tri_nodeOfTwo_12 (by decide) rfl ?_
    refine go_icmp_ltN (tgt := 31) (pc' := 16) d_Tri_nodeOfTwo_13 (by decide) rfl (by omega) (by omega) (fun hc => ?_) (fun hc => ?_)
    · omega
    · refine go_aload (pc' := 18) (i := 4) d_Tri_nodeOfTwo_16 rfl (by first | rfl | exact x_r_rf _) rfl ?_
      refine go_aload_n (pc' := 19) (i := 0) d_Tri_nodeOfTwo_18 rfl rfl (by first | rfl | exact x_r_rf _) rfl ?_
      have hc0 := hNc.1
      have hp1 : q_pl (fun _ => none) (kfh hh) k1 6 0 = none := rfl
      have hct1 : q_ct (fun _ => none) 6 = 0 := rfl
      refine go_callV (pc' := 22) (M' := M_Nod_putInBag) (ci := 2) (r := (n_Nod, T_Nod, 3)) [_] d_Tri_nodeOfTwo_19 t_312 t_313 t_314 cd_Nod_putInBag nm_Nod_putInBag rfl (by rfl) (by first | assumption | exact x_up_self _ _ _ | exact x_nw_self _ _ _ | (rw [x_up_ne (by first | omega | (simp only [x_up, x_nw]; omega))]; first | assumption | exact x_up_self _ _ _ | (rw [x_up_ne (by first | omega | (simp only [x_up, x_nw]; omega))]; first | assumption | exact x_up_self _ _ _)) | (rw [x_nw_ne (by first | omega | (simp only [x_up, x_nw]; omega))]; first | assumption | exact x_up_self _ _ _ | (rw [x_up_ne (by first | omega | (simp only [x_up, x_nw]; omega))]; assumption))) rfl (Nat.le_of_ble_eq_true rfl) rfl (s_putInBag (d := 1) hNc (by omega) (kf := kfh hh) (fun j hj e he => by cases he) he1' (by omega) (i := 0) (by rw [hp1, hct1]) (by omega)) (by first | decide | omega) (Nat.le_of_ble_eq_true rfl) rfl (fun v hh hq => ?_) (fun q g hq => by cases hq.1)
      obtain ⟨e9, rfl⟩ := hq
      cases e9
      show Go K M_Tri_nodeOfTwo (0 + 2) 22 _ [] _ _
      have hNc2 : Nd (x_up hh (h.1 + 1) (.inl (3, 6, .inr (.inr (.inr (.inr (va_up (fun _ => none) 0 (some e1)))))))) h.1 g 6 (va_up (fun _ => none) 0 (some e1)) 0 (fun _ => none) := ⟨(x_up_ne (by omega)).trans hNc.1, x_up_self _ _ _, (x_up_ne (by omega)).trans hNc.2.2⟩
      have he1'' : Et (x_up hh (h.1 + 1) (.inl (3, 6, .inr (.inr (.inr (.inr (va_up (fun _ => none) 0 (some e1)))))))) e1 k1 v1 := (x_up_ne (by omega)).trans he1'
      have he2'' : Et (x_up hh (h.1 + 1) (.inl (3, 6, .inr (.inr (.inr (.inr (va_up (fun _ => none) 0 (some e1)))))))) e2 k2 v2 := (x_up_ne (by omega)).trans he2'
      generalize hg2 : x_up hh (h.1 + 1) (.inl (3, 6, .inr (.inr (.inr (.inr (va_up (fun _ => none) 0 (some e1))))))) = h2 at hNc2 he1'' he2'' ⊢
      have hkf := he1''.kf
      have hp2 : q_pl (va_up (fun _ => none) 0 (some e1)) (kfh h2) k2 6 0 = none := by
        simp [q_pl, va_up, hkf, hk]
      have hct2 : q_ct (va_up (fun _ => none) 0 (some e1)) 6 = 1 := by simp [q_ct, va_up]
      have hc3 := hNc2.1
      refine go_aload (pc' := 24) (i := 4) d_Tri_nodeOfTwo_22 rfl (by first | rfl | exact x_r_rf _) rfl ?_
      refine go_aload_n (pc' := 25) (i := 1) d_Tri_nodeOfTwo_24 rfl rfl (by first | rfl | exact x_r_rf _) rfl ?_
      have hE2 : ∀ j, j < 6 → ∀ e, va_up (fun _ => none) 0 (some e1) j = some e → ∃ v, Et h2 e (kfh h2 e) v := by
        intro j hj e he
        by_cases hj0 : j = 0
        · subst hj0
          rw [va_up_self] at he
          cases he
          exact ⟨v1, by rw [hkf]; exact he1''⟩
        · rw [va_up_ne _ _ hj0] at he
          cases he
      refine go_callV (pc' := 28) (M' := M_Nod_putInBag) (ci := 2) (r := (n_Nod, T_Nod, 3)) [_] d_Tri_nodeOfTwo_25 t_312 t_313 t_314 cd_Nod_putInBag nm_Nod_putInBag rfl (by rfl) (by first | assumption | exact x_up_self _ _ _ | exact x_nw_self _ _ _ | (rw [x_up_ne (by first | omega | (simp only [x_up, x_nw]; omega))]; first | assumption | exact x_up_self _ _ _ | (rw [x_up_ne (by first | omega | (simp only [x_up, x_nw]; omega))]; first | assumption | exact x_up_self _ _ _)) | (rw [x_nw_ne (by first | omega | (simp only [x_up, x_nw]; omega))]; first | assumption | exact x_up_self _ _ _ | (rw [x_up_ne (by first | omega | (simp only [x_up, x_nw]; omega))]; assumption))) rfl (Nat.le_of_ble_eq_true rfl) rfl (s_putInBag (d := 1) hNc2 (by omega) (kf := kfh h2) hE2 he2'' (by omega) (i := 1) (by rw [hp2, hct2]) (by omega)) (by first | decide | omega) (Nat.le_of_ble_eq_true rfl) rfl (fun v hh hq => ?_) (fun q g hq => by cases hq.1)
      obtain ⟨e9, rfl⟩ := hq
      cases e9
      show Go K M_Tri_nodeOfTwo (0 + 2) 28 _ [] _ _
      refine go_aload (pc' := 30) (i := 4) d_Tri_nodeOfTwo_28 rfl (by first | rfl | exact x_r_rf _) rfl ?_
      refine go_areturn d_Tri_nodeOfTwo_30 rfl ⟨_, rfl⟩ (by first | rfl | exact x_r_rf _) ?_
      refine ⟨rfl, ⟨va_up (va_up (fun _ => none) 0 (some e1)) 1 (some e2), fun _ => none, ⟨(x_up_ne (by omega)).trans hNc2.1, x_up_self _ _ _, (x_up_ne (by omega)).trans hNc2.2.2⟩, rfl, rfl, fun j hj1 hj2 => ?_⟩, ?_, ?_, ?_, ?_, fun b hb => ?_⟩
      · rw [va_up_ne _ _ (by omega), va_up_ne _ _ (by omega)]
      · subst hg2; show h.1 + 3 ≤ hh.1; omega
      · subst hg2; show hh.1 ≤ _; omega
      · subst hg2; show _ ≤ hh.2.1; omega
      · subst hg2; show hh.2.1 ≤ _; omega
      · subst hg2
        rw [x_up_ne (by omega), x_up_ne (by omega)]
        exact hold' b hb
  | succ r ih =>
    intro l h hl he1 he2 hc1 hc2
    have hl4 : l < 4 := by omega
    refine go_dom fun hdom => ?_
    have hx1 := hdom _ _ he1
    have hx2 := hdom _ _ he2
    have hd1 := q_d_lt l k1
    have hd2 := q_d_lt l k2
    refine go_new (pc' := 3) (fs := [.int 0, .null, .null]) d_Tri_nodeOfTwo_0 c_Nod t_29 t_30 t_3 (by decide +kernel) (by first | assumption | omega | (simp only [x_up, x_nw]; omega)) (by first | assumption | omega | (simp only [x_up, x_nw]; omega)) rfl ?_
    refine go_dup (pc' := 4) d_Tri_nodeOfTwo_3 (by first | rfl | exact x_c_rf _) rfl ?_
    refine go_iload_n (pc' := 5) (i := 2) d_Tri_nodeOfTwo_4 rfl rfl rfl ?_
    refine go_iload_n (pc' := 6) (i := 3) d_Tri_nodeOfTwo_5 rfl rfl rfl ?_
    refine go_callI (pc' := 9) (M' := M_Nod_init) [_, _] d_Tri_nodeOfTwo_6 rfl rfl t_31 t_32 t_33 rfl nm_Nod_init rfl rfl (Nat.le_of_ble_eq_true rfl) rfl (s_Nod_init (a := h.1) (d := r + 2) rfl (x_nw_self _ _ _) g hl4 (by simp only [x_nw]; omega) (by simp only [x_nw]; omega)) (by first | decide | omega) (Nat.le_of_ble_eq_true rfl) rfl (fun v hh hq => ?_) (fun q g hq => hq.elim)
    obtain ⟨rfl, f1, f3, hNc, hold⟩ := hq
    simp only [x_nw] at f3
    have hold' : ∀ b, b < h.1 → hh.2.2 b = h.2.2 b := fun b hb => (hold b hb).trans (x_nw_ne (by omega))
    have he1' : Et hh e1 k1 v1 := (hold' e1 hx1).trans he1
    have he2' : Et hh e2 k2 v2 := (hold' e2 hx2).trans he2
    have he1u := he1'
    have he2u := he2'
    unfold Et at he1u he2u
    have hN' := hNc
    obtain ⟨n0, n1, n2⟩ := hNc
    show Go K M_Tri_nodeOfTwo (r + 1 + 2) 9 _ [.ref h.1] hh _
    refine go_astore (pc' := 11) (i := 4) d_Tri_nodeOfTwo_9 (by decide) rfl (x_s4 rfl) rfl ?_
    refine go_iload_n (pc' := 12) (i := 3) d_Tri_nodeOfTwo_11 rfl rfl rfl ?_
    refine go_iconst (pc' := 13) (v := (nI 4)) d_Tri_nodeOfTwo_12 (by decide) rfl ?_
    refine go_icmp_ltN (tgt := 31) (pc' := 16) d_Tri_nodeOfTwo_13 (by decide) rfl (by omega) (by omega) (fun hc => ?_) (fun hc => ?_)
    · refine go_aload_n (pc' := 32) (i := 0) d_Tri_nodeOfTwo_31 rfl rfl (by first | rfl | exact x_r_rf _) rfl ?_
      refine go_getfield (pc' := 35) d_Tri_nodeOfTwo_32 c_Ent 0 (by decide) t_277 (by first | assumption | exact x_up_self _ _ _ | exact x_nw_self _ _ _ | (rw [x_up_ne (by first | omega | (simp only [x_up, x_nw]; omega))]; first | assumption | exact x_up_self _ _ _ | (rw [x_up_ne (by first | omega | (simp only [x_up, x_nw]; omega))]; first | assumption | exact x_up_self _ _ _)) | (rw [x_nw_ne (by first | omega | (simp only [x_up, x_nw]; omega))]; first | assumption | exact x_up_self _ _ _ | (rw [x_up_ne (by first | omega | (simp only [x_up, x_nw]; omega))]; assumption))) (by rfl) rfl ?_
      refine go_iload_n (pc' := 36) (i := 3) d_Tri_nodeOfTwo_35 rfl rfl rfl ?_
      refine go_callS (pc' := 39) (M' := M_Tri_digit) [_, _] d_Tri_nodeOfTwo_36 t_195 t_196 t_1 cd_Tri_digit nm_Tri_digit rfl rfl (Nat.le_of_ble_eq_true rfl) rfl (s_digit (d := r + 2) k1 hl4) (by first | decide | omega) (Nat.le_of_ble_eq_true rfl) rfl (fun v hh hq => ?_) (fun q g hq => by cases hq.1)
      obtain ⟨e9, rfl⟩ := hq
      cases e9
      show Go K M_Tri_nodeOfTwo (r + 1 + 2) 39 _ [.int (nI (q_d l k1))] hh _
      refine go_istore (pc' := 41) (i := 5) d_Tri_nodeOfTwo_39 (by decide) (x_s5 (by first | rfl | exact x_k_rf _)) rfl ?_
      refine go_aload_n (pc' := 42) (i := 1) d_Tri_nodeOfTwo_41 rfl rfl (by first | rfl | exact x_r_rf _) rfl ?_
      refine go_getfield (pc' := 45) d_Tri_nodeOfTwo_42 c_Ent 0 (by decide) t_277 (by first | assumption | exact x_up_self _ _ _ | exact x_nw_self _ _ _ | (rw [x_up_ne (by first | omega | (simp only [x_up, x_nw]; omega))]; first | assumption | exact x_up_self _ _ _ | (rw [x_up_ne (by first | omega | (simp only [x_up, x_nw]; omega))]; first | assumption | exact x_up_self _ _ _)) | (rw [x_nw_ne (by first | omega | (simp only [x_up, x_nw]; omega))]; first | assumption | exact x_up_self _ _ _ | (rw [x_up_ne (by first | omega | (simp only [x_up, x_nw]; omega))]; assumption))) (by rfl) rfl ?_
      refine go_iload_n (pc' := 46) (i := 3) d_Tri_nodeOfTwo_45 rfl rfl rfl ?_
      refine go_callS (pc' := 49) (M' := M_Tri_digit) [_, _] d_Tri_nodeOfTwo_46 t_195 t_196 t_1 cd_Tri_digit nm_Tri_digit rfl rfl (Nat.le_of_ble_eq_true rfl) rfl (s_digit (d := r + 2) k2 hl4) (by first | decide | omega) (Nat.le_of_ble_eq_true rfl) rfl (fun v hh hq => ?_) (fun q g hq => by cases hq.1)
      obtain ⟨e9, rfl⟩ := hq
      cases e9
      show Go K M_Tri_nodeOfTwo (r + 1 + 2) 49 _ [.int (nI (q_d l k2))] hh _
      refine go_istore (pc' := 51) (i := 6) d_Tri_nodeOfTwo_49 (by decide) (x_s6 (by first | rfl | exact x_k_rf _)) rfl ?_
      refine go_iload (pc' := 53) (i := 5) d_Tri_nodeOfTwo_51 rfl rfl ?_
      refine go_iload (pc' := 55) (i := 6) d_Tri_nodeOfTwo_53 rfl rfl ?_
      refine go_icmp_neN (tgt := 78) (pc' := 58) d_Tri_nodeOfTwo_55 (by decide) rfl (by omega) (by omega) (fun hc => ?_) (fun hc => ?_)
      · refine go_aload (pc' := 80) (i := 4) d_Tri_nodeOfTwo_78 rfl (by first | rfl | exact x_r_rf _) rfl ?_
        refine go_getfield (pc' := 83) d_Tri_nodeOfTwo_80 c_Nod 1 (by decide) t_44 (by first | assumption | exact x_up_self _ _ _ | exact x_nw_self _ _ _ | (rw [x_up_ne (by first | omega | (simp only [x_up, x_nw]; omega))]; first | assumption | exact x_up_self _ _ _ | (rw [x_up_ne (by first | omega | (simp only [x_up, x_nw]; omega))]; first | assumption | exact x_up_self _ _ _)) | (rw [x_nw_ne (by first | omega | (simp only [x_up, x_nw]; omega))]; first | assumption | exact x_up_self _ _ _ | (rw [x_up_ne (by first | omega | (simp only [x_up, x_nw]; omega))]; assumption))) (by rfl) rfl ?_
        refine go_iload (pc' := 85) (i := 5) d_Tri_nodeOfTwo_83 rfl rfl ?_
        refine go_aload_n (pc' := 86) (i := 0) d_Tri_nodeOfTwo_85 rfl rfl (by first | rfl | exact x_r_rf _) rfl ?_
        refine go_aastR (pc' := 87) d_Tri_nodeOfTwo_86 (by assumption) (by assumption) (by rfl) (by rfl) (by omega) (by omega) rfl ?_
        have m0 : (x_up hh (h.1 + 1) (.inl (3, 4, .inr (.inr (.inr (.inr (va_up (fun _ => none) (q_d l k1) (some e1)))))))).2.2 h.1 = _ := (x_up_ne (by omega)).trans n0
        have m2 : (x_up hh (h.1 + 1) (.inl (3, 4, .inr (.inr (.inr (.inr (va_up (fun _ => none) (q_d l k1) (some e1)))))))).2.2 e2 = _ := (x_up_ne (by omega)).trans he2u
        refine go_aload (pc' := 89) (i := 4) d_Tri_nodeOfTwo_87 rfl (by first | rfl | exact x_r_rf _) rfl ?_
        refine go_getfield (pc' := 92) d_Tri_nodeOfTwo_89 c_Nod 1 (by decide) t_44 (by first | assumption | exact x_up_self _ _ _ | exact x_nw_self _ _ _ | (rw [x_up_ne (by first | omega | (simp only [x_up, x_nw]; omega))]; first | assumption | exact x_up_self _ _ _ | (rw [x_up_ne (by first | omega | (simp only [x_up, x_nw]; omega))]; first | assumption | exact x_up_self _ _ _)) | (rw [x_nw_ne (by first | omega | (simp only [x_up, x_nw]; omega))]; first | assumption | exact x_up_self _ _ _ | (rw [x_up_ne (by first | omega | (simp only [x_up, x_nw]; omega))]; assumption))) (by rfl) rfl ?_
        refine go_iload (pc' := 94) (i := 6) d_Tri_nodeOfTwo_92 rfl rfl ?_
        refine go_aload_n (pc' := 95) (i := 1) d_Tri_nodeOfTwo_94 rfl rfl (by first | rfl | exact x_r_rf _) rfl ?_
        refine go_aastR (pc' := 96) d_Tri_nodeOfTwo_95 (x_up_self _ _ _) (by assumption) (by rfl) (by rfl) (by omega) (by omega) rfl ?_
        rw [x_up_up]
        refine go_aload (pc' := 98) (i := 4) d_Tri_nodeOfTwo_96 rfl (by first | rfl | exact x_r_rf _) rfl ?_
        refine go_areturn d_Tri_nodeOfTwo_98 rfl ⟨_, rfl⟩ (by first | rfl | exact x_r_rf _) ?_
        refine ⟨rfl, ⟨_, fun _ => none, ⟨(x_up_ne (by omega)).trans n0, x_up_self _ _ _, (x_up_ne (by omega)).trans n2⟩, Or.inr ⟨hc, fun j hj => rfl, fun j hj => rfl⟩⟩, ?_, ?_, ?_, ?_, fun b hb => ?_⟩
        · show h.1 + 3 ≤ hh.1; omega
        · show hh.1 ≤ _; omega
        · show _ ≤ hh.2.1; omega
        · show hh.2.1 ≤ _; omega
        · rw [x_up_ne (by omega)]
          exact hold' b hb
      · refine go_aload (pc' := 60) (i := 4) d_Tri_nodeOfTwo_58 rfl (by first | rfl | exact x_r_rf _) rfl ?_
        refine go_getfield (pc' := 63) d_Tri_nodeOfTwo_60 c_Nod 2 (by decide) t_46 (by first | assumption | exact x_up_self _ _ _ | exact x_nw_self _ _ _ | (rw [x_up_ne (by first | omega | (simp only [x_up, x_nw]; omega))]; first | assumption | exact x_up_self _ _ _ | (rw [x_up_ne (by first | omega | (simp only [x_up, x_nw]; omega))]; first | assumption | exact x_up_self _ _ _)) | (rw [x_nw_ne (by first | omega | (simp only [x_up, x_nw]; omega))]; first | assumption | exact x_up_self _ _ _ | (rw [x_up_ne (by first | omega | (simp only [x_up, x_nw]; omega))]; assumption))) (by rfl) rfl ?_
        refine go_iload (pc' := 65) (i := 5) d_Tri_nodeOfTwo_63 rfl rfl ?_
        refine go_aload_n (pc' := 66) (i := 0) d_Tri_nodeOfTwo_65 rfl rfl (by first | rfl | exact x_r_rf _) rfl ?_
        refine go_aload_n (pc' := 67) (i := 1) d_Tri_nodeOfTwo_66 rfl rfl (by first | rfl | exact x_r_rf _) rfl ?_
        refine go_iload_n (pc' := 68) (i := 2) d_Tri_nodeOfTwo_67 rfl rfl rfl ?_
        refine go_iload_n (pc' := 69) (i := 3) d_Tri_nodeOfTwo_68 rfl rfl rfl ?_
        refine go_iconst (pc' := 70) (v := (nI 1)) d_Tri_nodeOfTwo_69 (by decide) rfl ?_
        refine go_iadd (pc' := 71) d_Tri_nodeOfTwo_70 rfl ?_
        rw [nI_add]
        refine go_callS (pc' := 74) (M' := M_Tri_nodeOfTwo) [_, _, _, _] d_Tri_nodeOfTwo_71 t_309 t_310 t_1 cd_Tri_nodeOfTwo nm_Tri_nodeOfTwo rfl rfl (Nat.le_of_ble_eq_true rfl) rfl (ih (l + 1) hh (by omega) he1' he2' (by omega) (by omega)) (by first | decide | omega) (Nat.le_of_ble_eq_true rfl) rfl (fun v h2 hq => ?_) (fun q g hq => hq.elim)
        obtain ⟨rfl, hT2, b1, b2, b3, b4, hold2⟩ := hq
        rw [f1] at hT2
        show Go K M_Tri_nodeOfTwo (r + 1 + 2) 74 _ [.ref hh.1, .int (nI (q_d l k1)), .ref (h.1 + 2)] h2 _
        rw [f1]
        have m0 : h2.2.2 h.1 = _ := (hold2 _ (by omega)).trans n0
        have m2 : h2.2.2 (h.1 + 2) = _ := (hold2 _ (by omega)).trans n2
        obtain ⟨vs, hvs⟩ : ∃ vs, h2.2.2 (h.1 + 3) = some (.inr (2, vs)) := by
          cases r with
          | zero => obtain ⟨_, _, hN9, -⟩ := hT2; exact ⟨_, hN9.1⟩
          | succ r => obtain ⟨_, _, hN9, -⟩ := hT2; exact ⟨_, hN9.1⟩
        refine go_aastR (pc' := 75) d_Tri_nodeOfTwo_74 (by assumption) hvs (by rfl) (by rfl) (by omega) (by omega) rfl ?_
        refine go_goto (tgt := 96) d_Tri_nodeOfTwo_75 (by decide) ?_
        refine go_aload (pc' := 98) (i := 4) d_Tri_nodeOfTwo_96 rfl (by first | rfl | exact x_r_rf _) rfl ?_
        refine go_areturn d_Tri_nodeOfTwo_98 rfl ⟨_, rfl⟩ (by first | rfl | exact x_r_rf _) ?_
        refine ⟨rfl, ⟨fun _ => none, _, ⟨(x_up_ne (by omega)).trans m0, (x_up_ne (by omega)).trans ((hold2 _ (by omega)).trans n1), x_up_self _ _ _⟩, Or.inl ⟨hc, fun j hj => rfl, fun j hj => rfl, ?_⟩⟩, ?_, ?_, ?_, ?_, fun b hb => ?_⟩
        · exact hT2.mono r (l + 1) (h.1 + 3) (fun b hb => x_up_ne (by omega))
        · show h.1 + 3 ≤ h2.1; omega
        · show h2.1 ≤ _; omega
        · show _ ≤ h2.2.1; omega
        · show h2.2.1 ≤ _; omega
        · rw [x_up_ne (by omega), hold2 b (by omega)]
          exact hold' b hb
    · omega
end TG
end
section
/-! a key is put into a list, and into its trie -/
def q_put (ks : List KV) (key : Int32) (v : Int64) : List KV := if (q_get ks key).isSome then ks.map (fun x => if x.1 = key then (key, v) else x) else ks ++ [(key, v)]
section PA
variable {K : x_K} {d : Nat} {h f f2 : x_H} {A A2 : Nat → Nat → Option Nat} {ks ks2 : List KV} {bel bel2 : Nat → Nat → Int32} {t a a1 e : Nat} {g key : Int32} {v : Int64} {ps : Nat → Nat × Nat} {W : Nat → Prop}
theorem q_get_no : q_get ks key = none ↔ ∀ x ∈ ks, ¬ x.1 = key := by
  unfold q_get
  rw [List.find?_eq_none]
  simp
theorem l_put_map (P : Int32 → Bool) (key : Int32) (v : Int64) (ks : List KV) : (ks.map (fun x => if x.1 = key then (key, v) else x)).filter (fun x => P x.1) = (ks.filter (fun x => P x.1)).map (fun x => if x.1 = key then (key, v) else x) := by
  induction ks with
  | nil => rfl
  | cons x r ih =>
    rw [List.map_cons, List.filter_cons, List.filter_cons, ih]
    by_cases hx : x.1 = key
    · subst hx
      by_cases hp : P x.1 = true <;> simp [hp]
    · by_cases hp : P x.1 = true <;> simp [hp, hx]
theorem l_put_app (P : Int32 → Bool) (key : Int32) (v : Int64) (ks : List KV) : (ks ++ [(key, v)]).filter (fun x => P x.1) = ks.filter (fun x => P x.1) ++ (if P key = true then [(key, v)] else []) := by
  rw [List.filter_append]
  refine congrArg _ ?_
  by_cases hp : P key = true <;> simp [hp]
theorem q_put_f (l p : Nat) : q_f (q_put ks key v) l p = if (q_get ks key).isSome then (q_f ks l p).map (fun x => if x.1 = key then (key, v) else x) else q_f ks l p ++ (if q_p l key = p then [(key, v)] else []) := by
  unfold q_put
  split
  · exact l_put_map (fun k => q_p l k == p) key v ks
  · have := l_put_app (fun k => q_p l k == p) key v ks
    simp only [beq_iff_eq] at this
    exact this
theorem q_put_off {l p : Nat} (hp : ¬ p = q_p l key) : q_f (q_put ks key v) l p = q_f ks l p := by
  rw [q_put_f]
  split
  · conv => rhs; rw [← List.map_id (q_f ks l p)]
    apply List.map_congr_left
    intro x hx
    have := (q_f_mem.mp hx).2
    rw [if_neg]
    · rfl
    · intro e
      rw [e] at this
      exact hp this.symm
  · rw [if_neg (fun z => hp z.symm), List.append_nil]
theorem q_put_len (l : Nat) : (q_f (q_put ks key v) l (q_p l key)).length = (q_f ks l (q_p l key)).length + (if (q_get ks key).isSome then 0 else 1) := by
  rw [q_put_f]
  split <;> simp
theorem q_put_1 {l : Nat} {k0 : Int32} {v0 : Int64} (h1 : q_f ks l (q_p l key) = [(k0, v0)]) (hk : k0 ≠ key) : q_get ks key = none := by
  rw [← q_f_get ks l key, h1]
  simp [q_get, hk]
theorem q_put_0 {l : Nat} (h1 : q_f ks l (q_p l key) = []) : q_get ks key = none := by
  rw [← q_f_get ks l key, h1]
  rfl
theorem Ko.put (hK : Ko ks) (hr : (q_get ks key).isSome = true ∨ (ks.length < 60 ∧ (q_f ks 4 (q_p 4 key)).length < 6)) : Ko (q_put ks key v) := by
  refine ⟨?_, ?_, fun p => ?_⟩
  · unfold q_put
    split
    · rw [List.length_map]; exact hK.1
    · rename_i hn
      rcases hr with hr | hr
      · exact absurd hr hn
      · simp; omega
  · unfold q_put
    split
    · rw [List.map_map]
      have e : ks.map ((fun x => x.1) ∘ fun x => if x.1 = key then (key, v) else x) = ks.map (fun x => x.1) := by
        apply List.map_congr_left
        intro x _
        simp only [Function.comp]
        by_cases hx : x.1 = key <;> simp [hx]
      rw [e]
      exact hK.2.1
    · rename_i hn
      rw [List.map_append, List.nodup_append]
      refine ⟨hK.2.1, by simp, fun a ha b hb => ?_⟩
      simp at hb
      subst hb
      obtain ⟨x, hx, rfl⟩ := List.mem_map.mp ha
      have : q_get ks b = none := by
        cases hq : q_get ks b with
        | none => rfl
        | some y => rw [hq] at hn; exact absurd rfl hn
      exact q_get_no.mp this x hx
  · by_cases hp : p = q_p 4 key
    · subst hp
      rw [q_put_len]
      split
      · exact hK.2.2 _
      · rename_i hn
        rcases hr with hr | hr
        · exact absurd hr hn
        · omega
    · rw [q_put_off hp]
      exact hK.2.2 p
theorem Tn.off1 {l p : Nat} (hT : Tn f A ks bel l p a1) (hF : Fo W f f2) (hne : ¬ W a1) (hb : bel2 l p = bel l p) (hA : ∀ j, j < 4 → A2 (l + 1) (4 * p + j) = A (l + 1) (4 * p + j))
    (hq : ∀ j, j < 4 → q_1 (q_f ks2 (l + 1) (4 * p + j)) = q_1 (q_f ks (l + 1) (4 * p + j))) (hq4 : l = 4 → q_f ks2 4 p = q_f ks 4 p) : Tn f2 A2 ks2 bel2 l p a1 := by
  refine ⟨fun hl => ?_, fun hl => ?_⟩
  · obtain ⟨es, ns, hN, hE⟩ := hT.1 hl
    refine ⟨es, ns, by rw [hb]; exact hN.fo hF hne, fun j hj => ?_⟩
    rw [hA j hj, hq j hj]
    exact ⟨(hE j hj).1, (hE j hj).2.fo hF⟩
  · obtain ⟨es, ns, hN, hE⟩ := hT.2 hl
    refine ⟨es, ns, by rw [hb]; exact hN.fo hF hne, fun j hj => ?_⟩
    rw [hq4 hl]
    exact (hE j hj).fo hF
theorem q_1_two {L : List KV} (h : 2 ≤ L.length) : q_1 L = none := by
  match L, h with
  | _ :: _ :: _, _ => rfl
/-- the way ends at l -/
theorem Tr.upto (hT : Tr f A ks bel) {l : Nat} (ha : A l (q_p l key) = some a) : ∀ m, m ≤ l → ∃ b, A m (q_p m key) = some b := by
  intro m hm
  cases hA : A m (q_p m key) with
  | some b => exact ⟨b, rfl⟩
  | none =>
    have := hT.none_up key hA (l - m)
    rw [show m + (l - m) = l by omega, ha] at this
    cases this
theorem q_p_ne {l p j : Nat} (hl : l < 4) (hj : j < 4) (h : ¬ (p = q_p l key ∧ j = q_d l key)) : ¬ 4 * p + j = q_p (l + 1) key := by
  rw [q_p_s hl]
  have := q_d_lt l key
  omega
/-- nodes that the write at the way's end leaves -/
theorem Tr.keep (hT : Tr f A ks bel) (hP : Ps ps A) {l : Nat} (ha : A l (q_p l key) = some a) (hF : Fo (fun z => z = a) f f2) {l1 p1 : Nat} (h1 : A l1 p1 = some a1) (hne : ¬ (l1 = l ∧ p1 = q_p l key)) (hlast : p1 = q_p l1 key → l1 ≤ l)
    (hb : bel2 l1 p1 = bel l1 p1) (hA : ∀ j, j < 4 → l1 < 4 → ¬ (p1 = q_p l1 key ∧ j = q_d l1 key ∧ l ≤ l1) → A2 (l1 + 1) (4 * p1 + j) = A (l1 + 1) (4 * p1 + j)) : Tn f2 A2 (q_put ks key v) bel2 l1 p1 a1 := by
  have hl1 := ((hT.1 l1 p1).mp ⟨a1, h1⟩).1
  have haa : ¬ a1 = a := fun e9 => by
    subst e9
    have := (hP _ _ _ h1).symm.trans (hP _ _ _ ha)
    simp only [Prod.mk.injEq] at this
    exact hne this
  have hnl : ¬ (p1 = q_p l1 key ∧ l ≤ l1) := by
    intro z
    have h9 := hlast z.1
    have e9 : l1 = l := by omega
    exact hne ⟨e9, by rw [z.1, e9]⟩
  by_cases hl4 : l1 < 4
  · refine (hT.2 _ _ a1 h1).off1 hF haa hb (fun j hj => hA j hj hl4 (fun z => hnl ⟨z.1, z.2.2⟩)) (fun j hj => ?_) (fun h4 => by omega)
    by_cases hw : p1 = q_p l1 key ∧ j = q_d l1 key
    · obtain ⟨rfl, rfl⟩ := hw
      rw [← q_p_s hl4]
      have hlt : l1 < l := by
        apply Classical.byContradiction
        intro z
        exact hnl ⟨rfl, by omega⟩
      obtain ⟨b, hb9⟩ := hT.upto ha (l1 + 1) (by omega)
      have h2 : 2 ≤ (q_f ks (l1 + 1) (q_p (l1 + 1) key)).length := by
        rcases ((hT.1 _ _).mp ⟨b, hb9⟩).2.2 with z | z
        · omega
        · exact z
      rw [q_1_two h2, q_1_two (by rw [q_put_len]; omega)]
    · rw [q_put_off (q_p_ne hl4 hj hw)]
  · have h44 : l1 = 4 := by omega
    subst h44
    have hp4 : ¬ p1 = q_p 4 key := fun z => hnl ⟨z, by have := ((hT.1 l _).mp ⟨a, ha⟩).1; omega⟩
    have hoff : q_f (q_put ks key v) 4 p1 = q_f ks 4 p1 := q_put_off hp4
    refine ⟨fun z => by omega, fun _ => ?_⟩
    obtain ⟨es, ns, hN, hE⟩ := (hT.2 _ _ a1 h1).2 rfl
    refine ⟨es, ns, by rw [hb]; exact hN.fo hF haa, fun j hj => ?_⟩
    rw [hoff]
    exact (hE j hj).fo hF
/-- no node comes: one node of the way is written -/
theorem Tr.same (hT : Tr f A ks bel) (hP : Ps ps A) {l : Nat} (ha : A l (q_p l key) = some a) (hF : Fo (fun z => z = a) f f2) (hend : l = 4 ∨ (A (l + 1) (q_p (l + 1) key) = none ∧ (q_f (q_put ks key v) (l + 1) (q_p (l + 1) key)).length ≤ 1))
    (hTn : Tn f2 A (q_put ks key v) bel l (q_p l key) a) : Tr f2 A (q_put ks key v) bel := by
  have hl := ((hT.1 _ _).mp ⟨a, ha⟩).1
  have hnone : ∀ m, l < m → m ≤ 4 → A m (q_p m key) = none ∧ (q_f (q_put ks key v) m (q_p m key)).length ≤ 1 := by
    intro m hm hm4
    rcases hend with z | ⟨z1, z2⟩
    · omega
    · refine ⟨?_, ?_⟩
      · have := hT.none_up key z1 (m - (l + 1))
        rw [show l + 1 + (m - (l + 1)) = m by omega] at this
        exact this
      · have key2 : ∀ i, l + 1 + i ≤ 4 → (q_f (q_put ks key v) (l + 1 + i) (q_p (l + 1 + i) key)).length ≤ 1 := by
          intro i
          induction i with
          | zero => intro _; exact z2
          | succ i ih =>
            intro hi
            have := q_f_mono (q_put ks key v) key (l := l + 1 + i) (by omega)
            have h2 := ih (by omega)
            rw [show l + 1 + (i + 1) = l + 1 + i + 1 by omega]
            omega
        have := key2 (m - (l + 1)) (by omega)
        rw [show l + 1 + (m - (l + 1)) = m by omega] at this
        exact this
  refine ⟨fun l1 p1 => ?_, fun l1 p1 a1 h1 => ?_⟩
  · rw [hT.1 l1 p1]
    by_cases hp : p1 = q_p l1 key
    · subst hp
      refine and_congr_right fun hl1 => and_congr_right fun _ => ?_
      by_cases h00 : l1 = 0
      · exact ⟨fun _ => Or.inl h00, fun _ => Or.inl h00⟩
      refine or_congr_right ?_
      by_cases hll : l1 ≤ l
      · obtain ⟨b, hb9⟩ := hT.upto ha l1 hll
        rw [q_put_len]
        refine ⟨fun z => by omega, fun z => ?_⟩
        rcases ((hT.1 _ _).mp ⟨b, hb9⟩).2.2 with z1 | z1
        · exact absurd z1 h00
        · exact z1
      · have h2 := hnone l1 (by omega) hl1
        rw [q_put_len] at h2 ⊢
        omega
    · rw [q_put_off hp]
  · by_cases hq : l1 = l ∧ p1 = q_p l key
    · obtain ⟨rfl, rfl⟩ := hq
      cases ha.symm.trans h1
      exact hTn
    · refine hT.keep hP ha hF h1 hq (fun hp => ?_) rfl (fun _ _ _ _ => rfl)
      apply Classical.byContradiction
      intro z
      have := (hnone l1 (by omega) ((hT.1 l1 p1).mp ⟨a1, h1⟩).1).1
      rw [hp, this] at h1
      cases h1
end PA
end
section
section SA
variable {f f2 : x_H} {A : Nat → Nat → Option Nat} {ks : List KV} {bel : Nat → Nat → Int32} {a e e0 c l : Nat} {g key k0 : Int32} {v v0 : Int64} {ps : Nat → Nat × Nat}
/-- where the two keys go one way, below level l -/
def q_sc (l : Nat) (key k0 : Int32) (m p : Nat) : Prop := l < m ∧ m ≤ 4 ∧ p = q_p m key ∧ q_p m k0 = q_p m key
theorem q_sc_dec (l : Nat) (key k0 : Int32) (m p : Nat) : q_sc l key k0 m p ∨ ¬ q_sc l key k0 m p := Classical.em _
noncomputable def q_sA (A : Nat → Nat → Option Nat) (l : Nat) (key k0 : Int32) (c : Nat) : Nat → Nat → Option Nat := fun m p => @ite _ (q_sc l key k0 m p) (Classical.propDecidable _) (some (c + 3 * (m - l - 1))) (A m p)
noncomputable def q_sB (bel : Nat → Nat → Int32) (l : Nat) (key k0 : Int32) (g : Int32) : Nat → Nat → Int32 := fun m p => @ite _ (q_sc l key k0 m p) (Classical.propDecidable _) g (bel m p)
theorem q_sA_pos {m p : Nat} (h : q_sc l key k0 m p) : q_sA A l key k0 c m p = some (c + 3 * (m - l - 1)) := by unfold q_sA; rw [if_pos h]
theorem q_sA_neg {m p : Nat} (h : ¬ q_sc l key k0 m p) : q_sA A l key k0 c m p = A m p := by unfold q_sA; rw [if_neg h]
theorem q_sB_pos {m p : Nat} (h : q_sc l key k0 m p) : q_sB bel l key k0 g m p = g := by unfold q_sB; rw [if_pos h]
theorem q_sB_neg {m p : Nat} (h : ¬ q_sc l key k0 m p) : q_sB bel l key k0 g m p = bel m p := by unfold q_sB; rw [if_neg h]
theorem q_p_dn {m : Nat} (hm : m < 4) {k k' : Int32} (h : q_p (m + 1) k = q_p (m + 1) k') : q_p m k = q_p m k' ∧ q_d m k = q_d m k' := by
  rw [q_p_s hm, q_p_s hm] at h
  have h1 := q_d_lt m k
  have h2 := q_d_lt m k'
  omega
/-- what lies below the place where only one key is -/
theorem q_f_below (h1 : q_f ks (l + 1) (q_p (l + 1) key) = [(k0, v0)]) : ∀ (i p : Nat), l + 1 + i ≤ 4 → (∀ k : Int32, q_p (l + 1 + i) k = p → q_p (l + 1) k = q_p (l + 1) key) → q_f ks (l + 1 + i) p = if q_p (l + 1 + i) k0 = p then [(k0, v0)] else [] := by
  intro i p hi hp
  have e : q_f ks (l + 1 + i) p = q_f (q_f ks (l + 1) (q_p (l + 1) key)) (l + 1 + i) p := by
    unfold q_f
    rw [List.filter_filter]
    apply List.filter_congr
    intro x _
    by_cases hx : q_p (l + 1 + i) x.1 = p
    · have := hp x.1 hx
      simp [hx, this]
    · simp [hx]
  rw [e, h1]
  unfold q_f
  rw [List.filter_cons, List.filter_nil]
  by_cases hx : q_p (l + 1 + i) k0 = p <;> simp [hx]
theorem q_p_up {m : Nat} (i : Nat) {k k' : Int32} (hi : m + i ≤ 4) (h : q_p (m + i) k = q_p (m + i) k') : q_p m k = q_p m k' := by
  induction i with
  | zero => exact h
  | succ i ih => exact ih (by omega) (q_p_dn (m := m + i) (by omega) h).1
theorem T2.chain (h2 : T2 f2 g e0 e k0 key (3 - l) (l + 1) c) (hl : l < 4) : ∀ i, l + 1 + i ≤ 4 → q_p (l + 1 + i) k0 = q_p (l + 1 + i) key → T2 f2 g e0 e k0 key (3 - l - i) (l + 1 + i) (c + 3 * i) := by
  intro i
  induction i with
  | zero => intro _ _; exact h2
  | succ i ih =>
    intro hi hq
    have hq' := q_p_dn (m := l + 1 + i) (by omega) hq
    have := ih (by omega) hq'.1
    rw [show 3 - l - i = (3 - l - (i + 1)) + 1 by omega] at this
    obtain ⟨es, ns, hN, hE⟩ := this
    rcases hE with ⟨-, -, -, q4⟩ | ⟨q1, -⟩
    · rw [show c + 3 * (i + 1) = c + 3 * i + 3 by omega]
      exact q4
    · exact absurd hq'.2 q1
theorem Tr.split (hT : Tr f A ks bel) (hP : Ps ps A) (hl : l < 4) (ha : A l (q_p l key) = some a) (hn : A (l + 1) (q_p (l + 1) key) = none) (h1 : q_f ks (l + 1) (q_p (l + 1) key) = [(k0, v0)]) (hk : k0 ≠ key) {es ns : Nat → Option Nat}
    (hNa : Nd f a (bel l (q_p l key)) 4 es 4 ns) (hF : Fo (fun z => z = a) f f2) (hNa2 : Nd f2 a (bel l (q_p l key)) 4 (va_up es (q_d l key) none) 4 (va_up ns (q_d l key) (some c)))
    (h2 : T2 f2 g e0 e k0 key (3 - l) (l + 1) c) (he0 : Et f2 e0 k0 v0) (he : Et f2 e key v) : Tr f2 (q_sA A l key k0 c) (q_put ks key v) (q_sB bel l key k0 g) := by
  have hget : q_get ks key = none := q_put_1 h1 hk
  have hput : ∀ m p, q_f (q_put ks key v) m p = q_f ks m p ++ (if q_p m key = p then [(key, v)] else []) := fun m p => by rw [q_put_f, hget]; rfl
  have hp0 : q_p (l + 1) k0 = q_p (l + 1) key := by
    have : (k0, v0) ∈ q_f ks (l + 1) (q_p (l + 1) key) := by rw [h1]; exact List.mem_cons_self
    exact (q_f_mem.mp this).2
  have hnone : ∀ m, l < m → A m (q_p m key) = none := fun m hm => by
    have := hT.none_up key hn (m - (l + 1))
    rw [show l + 1 + (m - (l + 1)) = m by omega] at this
    exact this
  have hd4 := q_d_lt l key
  -- the lists on the way, below l
  have hway : ∀ m, l < m → m ≤ 4 → q_f ks m (q_p m key) = if q_p m k0 = q_p m key then [(k0, v0)] else [] := fun m hm hm4 => by
    have := q_f_below h1 (m - (l + 1)) (q_p m key) (by omega) (fun k hk9 => by
      rw [show l + 1 + (m - (l + 1)) = m by omega] at hk9
      exact q_p_up (m := l + 1) (m - (l + 1)) (by omega) (by rw [show l + 1 + (m - (l + 1)) = m by omega]; exact hk9))
    rw [show l + 1 + (m - (l + 1)) = m by omega] at this
    exact this
  -- children of nodes on the way, below l
  have hch : ∀ m j, l < m → m < 4 → j < 4 → q_f ks (m + 1) (4 * q_p m key + j) = if q_p (m + 1) k0 = 4 * q_p m key + j then [(k0, v0)] else [] := fun m j hm hm4 hj => by
    have := q_f_below h1 (m + 1 - (l + 1)) (4 * q_p m key + j) (by omega) (fun k hk9 => by
      rw [show l + 1 + (m + 1 - (l + 1)) = m + 1 by omega, q_p_s hm4] at hk9
      have h9 := q_d_lt m k
      have h10 : q_p m k = q_p m key := by omega
      exact q_p_up (m := l + 1) (m - (l + 1)) (by omega) (by rw [show l + 1 + (m - (l + 1)) = m by omega]; exact h10))
    rw [show l + 1 + (m + 1 - (l + 1)) = m + 1 by omega] at this
    exact this
  refine ⟨fun m p => ?_, fun m p a1 h9 => ?_⟩
  · by_cases hs : q_sc l key k0 m p
    · rw [q_sA_pos hs]
      obtain ⟨s1, s2, rfl, s4⟩ := hs
      refine ⟨fun _ => ⟨s2, q_p_lt s2 key, Or.inr ?_⟩, fun _ => ⟨_, rfl⟩⟩
      rw [hput, hway m s1 s2, if_pos s4, if_pos rfl]
      exact Nat.le_refl _
    · rw [q_sA_neg hs, hT.1 m p]
      refine and_congr_right fun hm4 => and_congr_right fun _ => ?_
      by_cases h00 : m = 0
      · exact ⟨fun _ => Or.inl h00, fun _ => Or.inl h00⟩
      refine or_congr_right ?_
      by_cases hp : p = q_p m key
      · subst hp
        by_cases hml : m ≤ l
        · obtain ⟨b, hb9⟩ := hT.upto ha m hml
          rw [q_put_len]
          refine ⟨fun z => by omega, fun z => ?_⟩
          rcases ((hT.1 _ _).mp ⟨b, hb9⟩).2.2 with z1 | z1
          · exact absurd z1 h00
          · exact z1
        · have s4 : ¬ q_p m k0 = q_p m key := fun z => hs ⟨by omega, hm4, rfl, z⟩
          rw [hput, hway m (by omega) hm4, if_neg s4, if_pos rfl]
          simp
      · rw [q_put_off hp]
  · by_cases hs : q_sc l key k0 m p
    · rw [q_sA_pos hs] at h9
      cases h9
      obtain ⟨s1, s2, rfl, s4⟩ := hs
      have hs : q_sc l key k0 m (q_p m key) := ⟨s1, s2, rfl, s4⟩
      have hch2 := h2.chain hl (m - (l + 1)) (by omega) (by rw [show l + 1 + (m - (l + 1)) = m by omega]; exact s4)
      rw [show l + 1 + (m - (l + 1)) = m by omega, show m - (l + 1) = m - l - 1 by omega] at hch2
      refine ⟨fun hm4 => ?_, fun hm4 => ?_⟩
      · rw [show 3 - l - (m - l - 1) = (3 - m) + 1 by omega] at hch2
        obtain ⟨es', ns', hN, hE⟩ := hch2
        refine ⟨es', ns', by rw [q_sB_pos hs]; exact hN, fun j hj => ?_⟩
        have hpk := q_p_s hm4 key
        have hpk0 := q_p_s hm4 k0
        have hj1 := q_d_lt m key
        have hj2 := q_d_lt m k0
        rw [hput, hch m j s1 hm4 hj]
        rcases hE with ⟨r1, r2, r3, -⟩ | ⟨r1, r2, r3⟩
        · rw [r2 j hj, r3 j hj]
          by_cases hjd : j = q_d m k0
          · subst hjd
            have hs' : q_sc l key k0 (m + 1) (4 * q_p m key + q_d m k0) := ⟨by omega, by omega, by rw [hpk, r1], by rw [hpk, hpk0, s4, r1]⟩
            rw [if_pos rfl, q_sA_pos hs', if_pos (by rw [hpk0, s4]), if_pos (by rw [hpk, r1])]
            exact ⟨by rw [show m + 1 - l - 1 = m - l - 1 + 1 by omega]; rfl, trivial⟩
          · have hs' : ¬ q_sc l key k0 (m + 1) (4 * q_p m key + j) := fun z => hjd (by have := z.2.2.1; omega)
            have hA0 : A (m + 1) (4 * q_p m key + j) = none := by
              cases hA9 : A (m + 1) (4 * q_p m key + j) with
              | none => rfl
              | some b =>
                rcases ((hT.1 _ _).mp ⟨b, hA9⟩).2.2 with z | z
                · omega
                · rw [hch m j s1 hm4 hj] at z
                  split at z <;> simp at z
            rw [if_neg hjd, q_sA_neg hs', hA0, if_neg (by omega), if_neg (by omega)]
            exact ⟨rfl, trivial⟩
        · have hs' : ¬ q_sc l key k0 (m + 1) (4 * q_p m key + j) := fun z => r1 (q_p_dn hm4 z.2.2.2).2
          have hA0 : A (m + 1) (4 * q_p m key + j) = none := by
            cases hA9 : A (m + 1) (4 * q_p m key + j) with
            | none => rfl
            | some b =>
              rcases ((hT.1 _ _).mp ⟨b, hA9⟩).2.2 with z | z
              · omega
              · rw [hch m j s1 hm4 hj] at z
                split at z <;> simp at z
          rw [r2 j hj, r3 j hj, q_sA_neg hs', hA0]
          refine ⟨rfl, ?_⟩
          by_cases hj2 : j = q_d m key
          · subst hj2
            rw [if_pos rfl, if_neg (by omega), if_pos (by omega)]
            exact he
          · rw [if_neg hj2]
            by_cases hj3 : j = q_d m k0
            · subst hj3
              rw [if_pos rfl, if_pos (by omega), if_neg (by omega)]
              exact he0
            · rw [if_neg hj3, if_neg (by omega), if_neg (by omega)]
              trivial
      · subst hm4
        rw [show 3 - l - (4 - l - 1) = 0 by omega] at hch2
        obtain ⟨es', ns', hN, r1, r2, r3⟩ := hch2
        refine ⟨es', ns', by rw [q_sB_pos hs]; exact hN, fun j hj => ?_⟩
        rw [hput, hway 4 s1 (by omega), if_pos s4, if_pos rfl]
        by_cases hj0 : j = 0
        · subst hj0
          rw [r1]
          exact he0
        · by_cases hj1 : j = 1
          · subst hj1
            rw [r2]
            exact he
          · rw [r3 j (by omega) hj]
            rw [List.getElem?_eq_none (by simp; omega)]
            trivial
    · rw [q_sA_neg hs] at h9
      by_cases hq : m = l ∧ p = q_p l key
      · obtain ⟨rfl, rfl⟩ := hq
        cases ha.symm.trans h9
        refine ⟨fun _ => ?_, fun z => by omega⟩
        obtain ⟨es9, ns9, hN9, hE9⟩ := (hT.2 _ _ a ha).1 hl
        obtain ⟨-, -, rfl, -, rfl⟩ := hN9.uniq hNa
        refine ⟨_, _, by rw [q_sB_neg hs]; exact hNa2, fun j hj => ?_⟩
        by_cases hjd : j = q_d m key
        · subst hjd
          have hs' : q_sc m key k0 (m + 1) (4 * q_p m key + q_d m key) := ⟨by omega, by omega, by rw [q_p_s hl], hp0⟩
          rw [va_up_self, va_up_self, q_sA_pos hs', ← q_p_s hl, hput, h1, if_pos rfl]
          exact ⟨by rw [show m + 1 - m - 1 = 0 by omega]; rfl, trivial⟩
        · have hs' : ¬ q_sc m key k0 (m + 1) (4 * q_p m key + j) := fun z => hjd (by have := z.2.2.1; rw [q_p_s hl] at this; omega)
          rw [va_up_ne _ _ hjd, va_up_ne _ _ hjd, q_sA_neg hs', q_put_off (q_p_ne hl hj (fun z => hjd z.2))]
          exact ⟨(hE9 j hj).1, (hE9 j hj).2.fo hF⟩
      · refine hT.keep hP ha hF h9 hq (fun hp => ?_) (q_sB_neg hs) (fun j hj hm4 hnw => q_sA_neg (fun z => ?_))
        · apply Classical.byContradiction
          intro z
          rw [hp, hnone m (by omega)] at h9
          cases h9
        · have h11 := z.2.2.1
          rw [q_p_s hm4] at h11
          have h12 := q_d_lt m key
          exact hnw ⟨by omega, by omega, by have := z.1; omega⟩
end SA
end
section
def q_pn (ps : Nat → Nat × Nat) (z l : Nat) (key : Int32) : Nat → Nat × Nat := fun b => if b < z then ps b else ((b - z) / 3 + l + 1, q_p ((b - z) / 3 + l + 1) key)
section PB
variable {K : x_K} {d : Nat} {h f : x_H} {A : Nat → Nat → Option Nat} {ks : List KV} {bel : Nat → Nat → Int32} {a e e0 l : Nat} {g g0 key k0 : Int32} {v v0 : Int64} {ps : Nat → Nat × Nat} {es ns : Nat → Option Nat}
set_option maxRecDepth 100000 in
theorem s_putAt0 (hN : Nd h a g0 4 es 4 ns) (he : Et h e key v) {i : Nat} (hi : i < 4) (hes : es i = none ∨ ∃ e0 v0, es i = some e0 ∧ Et h e0 key v0) : Go K M_Tri_putAt d 0 [some (.ref a), some (.int (nI i)), some (.int (nI l)), some (.ref e), some (.int g), none] [] h
    (x_is none (x_up h (a + 1) (.inl (3, 4, .inr (.inr (.inr (.inr (va_up es i (some e))))))))) := by
  obtain ⟨h0, h1, h2⟩ := hN
  have heu := he
  unfold Et at heu
  refine go_aload_n (pc' := 1) (i := 0) d_Tri_putAt_0 rfl rfl (by first | rfl | exact x_r_rf _) rfl ?_
  refine go_getfield (pc' := 4) d_Tri_putAt_1 c_Nod 1 (by decide) t_44 (by first | assumption | exact x_up_self _ _ _ | exact x_nw_self _ _ _ | (rw [x_up_ne (by first | omega | (simp only [x_up, x_nw]; omega))]; first | assumption | exact x_up_self _ _ _ | (rw [x_up_ne (by first | omega | (simp only [x_up, x_nw]; omega))]; first | assumption | exact x_up_self _ _ _)) | (rw [x_nw_ne (by first | omega | (simp only [x_up, x_nw]; omega))]; first | assumption | exact x_up_self _ _ _ | (rw [x_up_ne (by first | omega | (simp only [x_up, x_nw]; omega))]; assumption))) (by rfl) rfl ?_
  refine go_iload_n (pc' := 5) (i := 1) d_Tri_putAt_4 rfl rfl rfl ?_
  refine go_aaldN (pc' := 6) d_Tri_putAt_5 (by first | assumption | exact x_up_self _ _ _ | exact x_nw_self _ _ _ | (rw [x_up_ne (by first | omega | (simp only [x_up, x_nw]; omega))]; first | assumption | exact x_up_self _ _ _ | (rw [x_up_ne (by first | omega | (simp only [x_up, x_nw]; omega))]; first | assumption | exact x_up_self _ _ _)) | (rw [x_nw_ne (by first | omega | (simp only [x_up, x_nw]; omega))]; first | assumption | exact x_up_self _ _ _ | (rw [x_up_ne (by first | omega | (simp only [x_up, x_nw]; omega))]; assumption))) (by rfl) (by first | assumption | omega | (simp only [x_up, x_nw]; omega)) (by first | assumption | omega | (simp only [x_up, x_nw]; omega)) rfl ?_
  refine go_astore (pc' := 8) (i := 5) d_Tri_putAt_6 (by decide) (x_r_rf _) (x_s5 rfl) rfl ?_
  refine go_aload (pc' := 10) (i := 5) d_Tri_putAt_8 rfl (by first | rfl | exact x_r_rf _) rfl ?_
  have fin : ∀ x5, Go K M_Tri_putAt d 25 [some (.ref a), some (.int (nI i)), some (.int (nI l)), some (.ref e), some (.int g), x5] [] h (x_is none (x_up h (a + 1) (.inl (3, 4, .inr (.inr (.inr (.inr (va_up es i (some e))))))))) := by
    intro x5
    refine go_aload_n (pc' := 26) (i := 0) d_Tri_putAt_25 rfl rfl (by first | rfl | exact x_r_rf _) rfl ?_
    refine go_getfield (pc' := 29) d_Tri_putAt_26 c_Nod 1 (by decide) t_44 (by first | assumption | exact x_up_self _ _ _ | exact x_nw_self _ _ _ | (rw [x_up_ne (by first | omega | (simp only [x_up, x_nw]; omega))]; first | assumption | exact x_up_self _ _ _ | (rw [x_up_ne (by first | omega | (simp only [x_up, x_nw]; omega))]; first | assumption | exact x_up_self _ _ _)) | (rw [x_nw_ne (by first | omega | (simp only [x_up, x_nw]; omega))]; first | assumption | exact x_up_self _ _ _ | (rw [x_up_ne (by first | omega | (simp only [x_up, x_nw]; omega))]; assumption))) (by rfl) rfl ?_
    refine go_iload_n (pc' := 30) (i := 1) d_Tri_putAt_29 rfl rfl rfl ?_
    refine go_aload_n (pc' := 31) (i := 3) d_Tri_putAt_30 rfl rfl (by first | rfl | exact x_r_rf _) rfl ?_
    refine go_aastR (pc' := 32) d_Tri_putAt_31 (by assumption) (by assumption) (by rfl) (by rfl) (by omega) (by omega) rfl ?_
    refine go_return d_Tri_putAt_32 rfl ?_
    exact ⟨rfl, rfl⟩
  rcases hes with hes | ⟨e0, v0, hes, he0⟩
  · rw [hes]
    refine go_ifnull_n (tgt := 25) d_Tri_putAt_10 (by decide) ?_
    exact fin _
  · rw [hes]
    unfold Et at he0
    refine go_ifnull_r (pc' := 13) d_Tri_putAt_10 rfl ?_
    refine go_aload (pc' := 15) (i := 5) d_Tri_putAt_13 rfl rfl rfl ?_
    refine go_getfield (pc' := 18) d_Tri_putAt_15 c_Ent 0 (by decide) t_277 (by first | assumption | exact x_up_self _ _ _ | exact x_nw_self _ _ _ | (rw [x_up_ne (by first | omega | (simp only [x_up, x_nw]; omega))]; first | assumption | exact x_up_self _ _ _ | (rw [x_up_ne (by first | omega | (simp only [x_up, x_nw]; omega))]; first | assumption | exact x_up_self _ _ _)) | (rw [x_nw_ne (by first | omega | (simp only [x_up, x_nw]; omega))]; first | assumption | exact x_up_self _ _ _ | (rw [x_up_ne (by first | omega | (simp only [x_up, x_nw]; omega))]; assumption))) (by rfl) rfl ?_
    refine go_aload_n (pc' := 19) (i := 3) d_Tri_putAt_18 rfl rfl (by first | rfl | exact x_r_rf _) rfl ?_
    refine go_getfield (pc' := 22) d_Tri_putAt_19 c_Ent 0 (by decide) t_277 (by first | assumption | exact x_up_self _ _ _ | exact x_nw_self _ _ _ | (rw [x_up_ne (by first | omega | (simp only [x_up, x_nw]; omega))]; first | assumption | exact x_up_self _ _ _ | (rw [x_up_ne (by first | omega | (simp only [x_up, x_nw]; omega))]; first | assumption | exact x_up_self _ _ _)) | (rw [x_nw_ne (by first | omega | (simp only [x_up, x_nw]; omega))]; first | assumption | exact x_up_self _ _ _ | (rw [x_up_ne (by first | omega | (simp only [x_up, x_nw]; omega))]; assumption))) (by rfl) rfl ?_
    refine go_icmp_ne (tgt := 33) (pc' := 25) d_Tri_putAt_22 (by decide) rfl (fun hc => ?_) (fun hc => ?_)
    · exact absurd rfl hc
    · exact fin _
set_option maxRecDepth 100000 in
theorem s_putAt2 (hN : Nd h a g0 4 es 4 ns) (he : Et h e key v) {i : Nat} (hi : i < 4) (hes : es i = some e0) (he0 : Et h e0 k0 v0) (hk : k0 ≠ key) (hl : l < 4) (hd : 6 ≤ d) (hc1 : h.1 + 12 ≤ x_cap K) (hc2 : h.2.1 + 44 ≤ x_cas K) :
    Go K M_Tri_putAt d 0 [some (.ref a), some (.int (nI i)), some (.int (nI l)), some (.ref e), some (.int g), none] [] h
    (x_rt (fun w f => w = none ∧ Nd f a g0 4 (va_up es i none) 4 (va_up ns i (some h.1)) ∧ T2 f g e0 e k0 key (3 - l) (l + 1) h.1 ∧ h.1 ≤ f.1 ∧ f.1 ≤ h.1 + 12 ∧ h.2.1 ≤ f.2.1 ∧ f.2.1 ≤ h.2.1 + 44 ∧ ∀ b, b < h.1 → b ≠ a + 1 → b ≠ a + 2 → f.2.2 b = h.2.2 b)) := by
  refine go_dom fun hdom => ?_
  have ha2 := hdom _ _ hN.2.2
  obtain ⟨h0, h1, h2⟩ := hN
  have heu := he
  have he0u := he0
  unfold Et at heu he0u
  have hne1 : e ≠ a + 1 := fun z => by rw [z, h1] at heu; cases heu
  have hne2 : e0 ≠ a + 1 := fun z => by rw [z, h1] at he0u; cases he0u
  refine go_aload_n (pc' := 1) (i := 0) d_Tri_putAt_0 rfl rfl (by first | rfl | exact x_r_rf _) rfl ?_
  refine go_getfield (pc' := 4) d_Tri_putAt_1 c_Nod 1 (by decide) t_44 (by first | assumption | exact x_up_self _ _ _ | exact x_nw_self _ _ _ | (rw [x_up_ne (by first | omega | (simp only [x_up, x_nw]; omega))]; first | assumption | exact x_up_self _ _ _ | (rw [x_up_ne (by first | omega | (simp only [x_up, x_nw]; omega))]; first | assumption | exact x_up_self _ _ _)) | (rw [x_nw_ne (by first | omega | (simp only [x_up, x_nw]; omega))]; first | assumption | exact x_up_self _ _ _ | (rw [x_up_ne (by first | omega | (simp only [x_up, x_nw]; omega))]; assumption))) (by rfl) rfl ?_
  refine go_iload_n (pc' := 5) (i := 1) d_Tri_putAt_4 rfl rfl rfl ?_
  refine go_aaldN (pc' := 6) d_Tri_putAt_5 (by first | assumption | exact x_up_self _ _ _ | exact x_nw_self _ _ _ | (rw [x_up_ne (by first | omega | (simp only [x_up, x_nw]; omega))]; first | assumption | exact x_up_self _ _ _ | (rw [x_up_ne (by first | omega | (simp only [x_up, x_nw]; omega))]; first | assumption | exact x_up_self _ _ _)) | (rw [x_nw_ne (by first | omega | (simp only [x_up, x_nw]; omega))]; first | assumption | exact x_up_self _ _ _ | (rw [x_up_ne (by first | omega | (simp only [x_up, x_nw]; omega))]; assumption))) (by rfl) (by first | assumption | omega | (simp only [x_up, x_nw]; omega)) (by first | assumption | omega | (simp only [x_up, x_nw]; omega)) rfl ?_
  refine go_astore (pc' := 8) (i := 5) d_Tri_putAt_6 (by decide) (x_r_rf _) (x_s5 rfl) rfl ?_
  refine go_aload (pc' := 10) (i := 5) d_Tri_putAt_8 rfl (by first | rfl | exact x_r_rf _) rfl ?_
  rw [hes]
  refine go_ifnull_r (pc' := 13) d_Tri_putAt_10 rfl ?_
  refine go_aload (pc' := 15) (i := 5) d_Tri_putAt_13 rfl rfl rfl ?_
  refine go_getfield (pc' := 18) d_Tri_putAt_15 c_Ent 0 (by decide) t_277 (by first | assumption | exact x_up_self _ _ _ | exact x_nw_self _ _ _ | (rw [x_up_ne (by first | omega | (simp only [x_up, x_nw]; omega))]; first | assumption | exact x_up_self _ _ _ | (rw [x_up_ne (by first | omega | (simp only [x_up, x_nw]; omega))]; first | assumption | exact x_up_self _ _ _)) | (rw [x_nw_ne (by first | omega | (simp only [x_up, x_nw]; omega))]; first | assumption | exact x_up_self _ _ _ | (rw [x_up_ne (by first | omega | (simp only [x_up, x_nw]; omega))]; assumption))) (by rfl) rfl ?_
  refine go_aload_n (pc' := 19) (i := 3) d_Tri_putAt_18 rfl rfl (by first | rfl | exact x_r_rf _) rfl ?_
  refine go_getfield (pc' := 22) d_Tri_putAt_19 c_Ent 0 (by decide) t_277 (by first | assumption | exact x_up_self _ _ _ | exact x_nw_self _ _ _ | (rw [x_up_ne (by first | omega | (simp only [x_up, x_nw]; omega))]; first | assumption | exact x_up_self _ _ _ | (rw [x_up_ne (by first | omega | (simp only [x_up, x_nw]; omega))]; first | assumption | exact x_up_self _ _ _)) | (rw [x_nw_ne (by first | omega | (simp only [x_up, x_nw]; omega))]; first | assumption | exact x_up_self _ _ _ | (rw [x_up_ne (by first | omega | (simp only [x_up, x_nw]; omega))]; assumption))) (by rfl) rfl ?_
  refine go_icmp_ne (tgt := 33) (pc' := 25) d_Tri_putAt_22 (by decide) rfl (fun hc => ?_) (fun hc => ?_)
  · refine go_aload_n (pc' := 34) (i := 0) d_Tri_putAt_33 rfl rfl (by first | rfl | exact x_r_rf _) rfl ?_
    refine go_getfield (pc' := 37) d_Tri_putAt_34 c_Nod 1 (by decide) t_44 (by first | assumption | exact x_up_self _ _ _ | exact x_nw_self _ _ _ | (rw [x_up_ne (by first | omega | (simp only [x_up, x_nw]; omega))]; first | assumption | exact x_up_self _ _ _ | (rw [x_up_ne (by first | omega | (simp only [x_up, x_nw]; omega))]; first | assumption | exact x_up_self _ _ _)) | (rw [x_nw_ne (by first | omega | (simp only [x_up, x_nw]; omega))]; first | assumption | exact x_up_self _ _ _ | (rw [x_up_ne (by first | omega | (simp only [x_up, x_nw]; omega))]; assumption))) (by rfl) rfl ?_
    refine go_iload_n (pc' := 38) (i := 1) d_Tri_putAt_37 rfl rfl rfl ?_
    refine go_null (pc' := 39) d_Tri_putAt_38 rfl ?_
    refine go_aastN' (pc' := 40) d_Tri_putAt_39 (by assumption) (by rfl) (by omega) (by omega) rfl ?_
    have m0 : (x_up h (a + 1) (.inl (3, 4, .inr (.inr (.inr (.inr (va_up es i none))))))).2.2 a = _ := (x_up_ne (by omega)).trans h0
    have m2 : (x_up h (a + 1) (.inl (3, 4, .inr (.inr (.inr (.inr (va_up es i none))))))).2.2 (a + 2) = _ := (x_up_ne (by omega)).trans h2
    have me : Et (x_up h (a + 1) (.inl (3, 4, .inr (.inr (.inr (.inr (va_up es i none))))))) e key v := (x_up_ne hne1).trans he
    have me0 : Et (x_up h (a + 1) (.inl (3, 4, .inr (.inr (.inr (.inr (va_up es i none))))))) e0 k0 v0 := (x_up_ne hne2).trans he0
    refine go_aload_n (pc' := 41) (i := 0) d_Tri_putAt_40 rfl rfl (by first | rfl | exact x_r_rf _) rfl ?_
    refine go_getfield (pc' := 44) d_Tri_putAt_41 c_Nod 2 (by decide) t_46 (by first | assumption | exact x_up_self _ _ _ | exact x_nw_self _ _ _ | (rw [x_up_ne (by first | omega | (simp only [x_up, x_nw]; omega))]; first | assumption | exact x_up_self _ _ _ | (rw [x_up_ne (by first | omega | (simp only [x_up, x_nw]; omega))]; first | assumption | exact x_up_self _ _ _)) | (rw [x_nw_ne (by first | omega | (simp only [x_up, x_nw]; omega))]; first | assumption | exact x_up_self _ _ _ | (rw [x_up_ne (by first | omega | (simp only [x_up, x_nw]; omega))]; assumption))) (by rfl) rfl ?_
    refine go_iload_n (pc' := 45) (i := 1) d_Tri_putAt_44 rfl rfl rfl ?_
    refine go_aload (pc' := 47) (i := 5) d_Tri_putAt_45 rfl rfl rfl ?_
    refine go_aload_n (pc' := 48) (i := 3) d_Tri_putAt_47 rfl rfl (by first | rfl | exact x_r_rf _) rfl ?_
    refine go_iload (pc' := 50) (i := 4) d_Tri_putAt_48 rfl rfl ?_
    refine go_iload_n (pc' := 51) (i := 2) d_Tri_putAt_50 rfl rfl rfl ?_
    refine go_iconst (pc' := 52) (v := (nI 1)) d_Tri_putAt_51 (by decide) rfl ?_
    refine go_iadd (pc' := 53) d_Tri_putAt_52 rfl ?_
    rw [nI_add]
    refine go_callS (pc' := 56) (M' := M_Tri_nodeOfTwo) [_, _, _, _] d_Tri_putAt_53 t_309 t_310 t_1 cd_Tri_nodeOfTwo nm_Tri_nodeOfTwo rfl rfl (Nat.le_of_ble_eq_true rfl) rfl ((s_nodeOfTwo (K := K) (g := g) hk (3 - l) (l + 1) _ (by omega) me0 me (by simp only [x_up]; omega) (by simp only [x_up]; omega))) (by first | decide | omega) (Nat.le_of_ble_eq_true rfl) rfl (fun v hh hq => ?_) (fun q g hq => hq.elim)
    obtain ⟨rfl, hT2, b1, b2, b3, b4, hold⟩ := hq
    have hold' : ∀ b, b < h.1 → hh.2.2 b = (x_up h (a + 1) (.inl (3, 4, .inr (.inr (.inr (.inr (va_up es i none))))))).2.2 b := hold
    have b1' : h.1 + 3 ≤ hh.1 := b1
    have b2' : hh.1 ≤ h.1 + 3 * (3 - l + 1) := b2
    have b3' : h.2.1 ≤ hh.2.1 := b3
    have b4' : hh.2.1 ≤ h.2.1 + 11 * (3 - l + 1) := b4
    show Go K M_Tri_putAt d 56 _ [.ref h.1, .int (nI i), .ref (a + 2)] hh _
    have w2 : hh.2.2 (a + 2) = _ := (hold' _ (by omega)).trans m2
    obtain ⟨vs, hvs⟩ : ∃ vs, hh.2.2 h.1 = some (.inr (2, vs)) := by
      have hT3 : T2 hh g e0 e k0 key (3 - l) (l + 1) h.1 := hT2
      cases hr : 3 - l with
      | zero => rw [hr] at hT3; obtain ⟨_, _, hN9, -⟩ := hT3; exact ⟨_, hN9.1⟩
      | succ r => rw [hr] at hT3; obtain ⟨_, _, hN9, -⟩ := hT3; exact ⟨_, hN9.1⟩
    refine go_aastR (pc' := 57) d_Tri_putAt_56 (by assumption) hvs (by rfl) (by rfl) (by omega) (by omega) rfl ?_
    refine go_return d_Tri_putAt_57 rfl ?_
    refine ⟨rfl, ⟨(x_up_ne (by omega)).trans ((hold' _ (by omega)).trans m0), (x_up_ne (by omega)).trans ((hold' _ (by omega)).trans (x_up_self _ _ _)), x_up_self _ _ _⟩, ?_, ?_, ?_, ?_, ?_, fun b hb n1 n2 => ?_⟩
    · exact T2.mono _ _ _ hT2 (fun b hb => x_up_ne (by have hb' : h.1 ≤ b := hb; omega))
    · show h.1 ≤ hh.1; omega
    · show hh.1 ≤ _; omega
    · show _ ≤ hh.2.1; omega
    · show hh.2.1 ≤ _; omega
    · rw [x_up_ne n2, hold' b hb, x_up_ne n1]
  · exact absurd hc hk
set_option maxRecDepth 100000 in
theorem s_putIn (hT : Tr h A ks bel) (hP : Ps ps A) (hK : Ko ks) {root : Nat} (hr : A 0 0 = some root) (he : Et h e key v) (hroom : (q_get ks key).isSome = true ∨ (ks.length < 60 ∧ (q_f ks 4 (q_p 4 key)).length < 6)) (g : Int32)
    (hc1 : h.1 + 12 ≤ x_cap K) (hc2 : h.2.1 + 44 ≤ x_cas K) (hd : 7 ≤ d) :
    Go K M_Tri_putIn d 0 [some (.ref root), some (.ref e), some (.int g), none, none, none, none] [] h (x_rt (fun w f => w = none ∧ ∃ A' bel' ps', Tr f A' (q_put ks key v) bel' ∧ Ps ps' A' ∧ (∀ b, b < h.1 → ps' b = ps b) ∧
      (∀ l p a, A l p = some a → A' l p = some a ∧ bel' l p = bel l p) ∧ (∀ l p, A l p = none → ∀ a, A' l p = some a → h.1 ≤ a ∧ bel' l p = g ∧ p = q_p l key) ∧ (∀ l p, A' l p = none → bel' l p = bel l p) ∧
      Fr (fun b => ∃ l a, A l (q_p l key) = some a ∧ (b = a + 1 ∨ b = a + 2)) h f ∧ f.1 ≤ h.1 + 12 ∧ f.2.1 ≤ h.2.1 + 44)) := by
  refine go_dom fun hdom => ?_
  obtain ⟨Q, hQ⟩ : ∃ Q : x_O → x_H → Prop, Q = (x_rt (fun w f => w = none ∧ ∃ A' bel' ps', Tr f A' (q_put ks key v) bel' ∧ Ps ps' A' ∧ (∀ b, b < h.1 → ps' b = ps b) ∧
      (∀ l p a, A l p = some a → A' l p = some a ∧ bel' l p = bel l p) ∧ (∀ l p, A l p = none → ∀ a, A' l p = some a → h.1 ≤ a ∧ bel' l p = g ∧ p = q_p l key) ∧ (∀ l p, A' l p = none → bel' l p = bel l p) ∧
      Fr (fun b => ∃ l a, A l (q_p l key) = some a ∧ (b = a + 1 ∨ b = a + 2)) h f ∧ f.1 ≤ h.1 + 12 ∧ f.2.1 ≤ h.2.1 + 44)) := ⟨_, rfl⟩
  rw [← hQ]
  have heu := he
  unfold Et at heu
  -- one array of the last node is written, no node comes
  have same : ∀ l a (c : x_C), A l (q_p l key) = some a → (∃ n es k ns, Nd h a (bel l (q_p l key)) n es k ns) → Fo (fun z => z = a) h (x_up h (a + 1) c) → Tr (x_up h (a + 1) c) A (q_put ks key v) bel → Q (.inl none) (x_up h (a + 1) c) := by
    intro l a c ha hN hF hT2
    rw [hQ]
    refine ⟨rfl, A, bel, ps, hT2, hP, fun _ _ => rfl, fun _ _ _ h9 => ⟨h9, rfl⟩, fun l1 p1 h9 a1 h10 => ?_, fun _ _ _ => rfl, Fr.up _ _ (fun _ => ⟨l, a, ha, Or.inl rfl⟩), by show h.1 ≤ _; omega, by show h.2.1 ≤ _; omega⟩
    rw [h9] at h10
    cases h10
  have foUp : ∀ (l a : Nat) (c : x_C), (∃ g0 n es k ns, Nd h a g0 n es k ns) → Fo (fun z => z = a) h (x_up h (a + 1) c) := by
    intro l a c hN
    refine ⟨fun z hz => ?_, fun z c9 hz hw => ?_⟩
    · have hz' : z = a := hz
      subst hz'
      exact hN
    · rw [x_up_ne (hw a rfl).1]
      exact hz
  have loop : ∀ r l a x5 x6, l + r = 4 → A l (q_p l key) = some a → x_k x5 = x5 → x_k x6 = x6 → Go K M_Tri_putIn d 5 [some (.ref root), some (.ref e), some (.int g), some (.ref a), some (.int (nI l)), x5, x6] [] h Q := by
    intro r
    induction r with
    | zero =>
      intro l a x5 x6 hl ha k5 k6
      have hl4 : l = 4 := by omega
      subst hl4
      obtain ⟨es, ns, hN, hE⟩ := (hT.2 4 _ a ha).2 rfl
      have hN0 := hN.1
      have hkE := Eo.kfE hE
      have hpf := q_pl_find (h := h) (es := es) (key := key) 6 0 (q_f ks 4 (q_p 4 key)) (fun i hi => by rw [Nat.zero_add]; exact hE i hi) (hK.2.2 _)
      have hct := q_ct_list 6 (fun j hj => (hE j hj).is) (hK.2.2 (q_p 4 key))
      rw [q_f_get] at hpf
      obtain ⟨i, hi, hin, hTn⟩ : ∃ i, i = (match q_pl es (kfh h) key 6 0 with | some j => j | none => q_ct es 6) ∧ i < 6 ∧ ∀ c f2, f2 = x_up h (a + 1) c → c = .inl (3, 6, .inr (.inr (.inr (.inr (va_up es i (some e)))))) → Tn f2 A (q_put ks key v) bel 4 (q_p 4 key) a := by
        have tn : ∀ i, (∀ j, j < 6 → j ≠ i → ((q_f (q_put ks key v) 4 (q_p 4 key))[j]?) = ((q_f ks 4 (q_p 4 key))[j]?)) → ((q_f (q_put ks key v) 4 (q_p 4 key))[i]?) = some (key, v) → ∀ c f2, f2 = x_up h (a + 1) c → c = .inl (3, 6, .inr (.inr (.inr (.inr (va_up es i (some e)))))) → Tn f2 A (q_put ks key v) bel 4 (q_p 4 key) a := by
          intro i hj1 hj2 c f2 hf2 hc9
          have hF := foUp 4 a c ⟨_, _, _, _, _, hN⟩
          rw [← hf2] at hF
          refine ⟨fun z => by omega, fun _ => ⟨va_up es i (some e), ns, ⟨?_, ?_, ?_⟩, fun j hj => ?_⟩⟩
          · rw [hf2, x_up_ne (by omega)]; exact hN.1
          · rw [hf2, hc9]; exact x_up_self _ _ _
          · rw [hf2, x_up_ne (by omega)]; exact hN.2.2
          · by_cases hji : j = i
            · subst hji
              rw [va_up_self, hj2]
              exact he.fo hF
            · rw [va_up_ne _ _ hji, hj1 j hj hji]
              exact (hE j hj).fo hF
        cases hq : q_pl es (kfh h) key 6 0 with
        | some i =>
          rw [hq] at hpf
          obtain ⟨-, e9, x9, g2, g3, g4, g5, g6⟩ := hpf
          have hi6 := q_pl_lt es (kfh h) key 6 0 i hq
          rw [Nat.sub_zero] at g5
          have hx9 : x9.1 = key := by
            have := List.find?_some g3
            simpa using this
          refine ⟨i, rfl, by omega, tn i (fun j hj hji => ?_) ?_⟩
          · rw [q_put_f, g3]
            simp only [Option.isSome_some, if_true, List.getElem?_map]
            cases hL : (q_f ks 4 (q_p 4 key))[j]? with
            | none => rfl
            | some y =>
              have hy : ¬ y.1 = key := by
                intro hy
                have hnd : ((q_f ks 4 (q_p 4 key)).map (fun x => x.1)).Nodup := (List.Sublist.map _ List.filter_sublist).nodup hK.2.1
                have e1 : ((q_f ks 4 (q_p 4 key)).map (fun x => x.1))[j]? = some key := by rw [List.getElem?_map, hL]; simp [hy]
                have e2 : ((q_f ks 4 (q_p 4 key)).map (fun x => x.1))[i]? = some key := by rw [List.getElem?_map, g5]; simp [hx9]
                exact hji ((List.getElem?_inj (List.getElem?_eq_some_iff.mp e1).1 hnd).mp (e1.trans e2.symm))
              simp [hy]
          · rw [q_put_f, g3]
            simp only [Option.isSome_some, if_true, List.getElem?_map, g5]
            simp [hx9]
        | none =>
          rw [hq] at hpf
          have hpf' : q_get ks key = none := hpf
          have hlen : (q_f ks 4 (q_p 4 key)).length < 6 := by
            rcases hroom with z | z
            · rw [hpf'] at z; cases z
            · exact z.2
          refine ⟨(q_f ks 4 (q_p 4 key)).length, hct.symm, hlen, tn _ (fun j hj hji => ?_) ?_⟩
          · rw [q_put_f, hpf']
            simp only [Option.isSome_none, Bool.false_eq_true, if_false, if_true]
            by_cases hjl : j < (q_f ks 4 (q_p 4 key)).length
            · rw [List.getElem?_append_left hjl]
            · rw [List.getElem?_eq_none (by simp; omega), List.getElem?_eq_none (by omega)]
          · rw [q_put_f, hpf']
            simp
      refine go_iload (pc' := 7) (i := 4) d_Tri_putIn_5 rfl rfl ?_
      refine go_iconst (pc' := 8) (v := (nI 4)) d_Tri_putIn_7 (by decide) rfl ?_
      refine go_icmp_geN (tgt := 56) (pc' := 11) d_Tri_putIn_8 (by decide) rfl (by omega) (by omega) (fun hc => ?_) (fun hc => ?_)
      · refine go_aload_n (pc' := 57) (i := 3) d_Tri_putIn_56 rfl rfl (by first | rfl | exact x_r_rf _) rfl ?_
        refine go_aload_n (pc' := 58) (i := 1) d_Tri_putIn_57 rfl rfl (by first | rfl | exact x_r_rf _) rfl ?_
        refine go_callV (pc' := 61) (M' := M_Nod_putInBag) (ci := 2) (r := (n_Nod, T_Nod, 3)) [_] d_Tri_putIn_58 t_312 t_313 t_314 cd_Nod_putInBag nm_Nod_putInBag rfl (by rfl) (by first | assumption | exact x_up_self _ _ _ | exact x_nw_self _ _ _ | (rw [x_up_ne (by first | omega | (simp only [x_up, x_nw]; omega))]; first | assumption | exact x_up_self _ _ _ | (rw [x_up_ne (by first | omega | (simp only [x_up, x_nw]; omega))]; first | assumption | exact x_up_self _ _ _)) | (rw [x_nw_ne (by first | omega | (simp only [x_up, x_nw]; omega))]; first | assumption | exact x_up_self _ _ _ | (rw [x_up_ne (by first | omega | (simp only [x_up, x_nw]; omega))]; assumption))) rfl (Nat.le_of_ble_eq_true rfl) rfl (s_putInBag (d := d - 1) hN (by omega) hkE he (by omega) hi hin) (by first | decide | omega) (Nat.le_of_ble_eq_true rfl) rfl (fun v hh hq => ?_) (fun q g hq => by cases hq.1)
        obtain ⟨e9, rfl⟩ := hq
        cases e9
        show Go K M_Tri_putIn d 61 _ [] _ _
        refine go_return d_Tri_putIn_61 rfl ?_
        have hF := foUp 4 a (.inl (3, 6, .inr (.inr (.inr (.inr (va_up es i (some e))))))) ⟨_, _, _, _, _, hN⟩
        exact same 4 a _ ha ⟨_, _, _, _, hN⟩ hF (hT.same hP ha hF (Or.inl rfl) (hTn _ _ rfl rfl))
      · omega
    | succ r ih =>
      intro l a x5 x6 hl ha k5 k6
      have hl4 : l < 4 := by omega
      obtain ⟨es, ns, hN, hE⟩ := (hT.2 l _ a ha).1 hl4
      have hd4 := q_d_lt l key
      obtain ⟨hns, hes⟩ := hE _ hd4
      rw [← q_p_s hl4] at hns hes
      have hN' := hN
      obtain ⟨h0, h1, h2⟩ := hN
      refine go_iload (pc' := 7) (i := 4) d_Tri_putIn_5 rfl rfl ?_
      refine go_iconst (pc' := 8) (v := (nI 4)) d_Tri_putIn_7 (by decide) rfl ?_
      refine go_icmp_geN (tgt := 56) (pc' := 11) d_Tri_putIn_8 (by decide) rfl (by omega) (by omega) (fun hc => ?_) (fun hc => ?_)
      · omega
      · refine go_aload_n (pc' := 12) (i := 1) d_Tri_putIn_11 rfl rfl (by first | rfl | exact x_r_rf _) rfl ?_
        refine go_getfield (pc' := 15) d_Tri_putIn_12 c_Ent 0 (by decide) t_277 (by first | assumption | exact x_up_self _ _ _ | exact x_nw_self _ _ _ | (rw [x_up_ne (by first | omega | (simp only [x_up, x_nw]; omega))]; first | assumption | exact x_up_self _ _ _ | (rw [x_up_ne (by first | omega | (simp only [x_up, x_nw]; omega))]; first | assumption | exact x_up_self _ _ _)) | (rw [x_nw_ne (by first | omega | (simp only [x_up, x_nw]; omega))]; first | assumption | exact x_up_self _ _ _ | (rw [x_up_ne (by first | omega | (simp only [x_up, x_nw]; omega))]; assumption))) (by rfl) rfl ?_
        refine go_iload (pc' := 17) (i := 4) d_Tri_putIn_15 rfl rfl ?_
        refine go_callS (pc' := 20) (M' := M_Tri_digit) [_, _] d_Tri_putIn_17 t_195 t_196 t_1 cd_Tri_digit nm_Tri_digit rfl rfl (Nat.le_of_ble_eq_true rfl) rfl (s_digit (d := d - 1) key hl4) (by first | decide | omega) (Nat.le_of_ble_eq_true rfl) rfl (fun v hh hq => ?_) (fun q g hq => by cases hq.1)
        obtain ⟨e9, rfl⟩ := hq
        cases e9
        show Go K M_Tri_putIn d 20 _ [.int (nI (q_d l key))] h _
        refine go_istore (pc' := 22) (i := 5) d_Tri_putIn_20 (by decide) (x_s5 rfl) rfl ?_
        refine go_aload_n (pc' := 23) (i := 3) d_Tri_putIn_22 rfl rfl (by first | rfl | exact x_r_rf _) rfl ?_
        refine go_getfield (pc' := 26) d_Tri_putIn_23 c_Nod 2 (by decide) t_46 (by first | assumption | exact x_up_self _ _ _ | exact x_nw_self _ _ _ | (rw [x_up_ne (by first | omega | (simp only [x_up, x_nw]; omega))]; first | assumption | exact x_up_self _ _ _ | (rw [x_up_ne (by first | omega | (simp only [x_up, x_nw]; omega))]; first | assumption | exact x_up_self _ _ _)) | (rw [x_nw_ne (by first | omega | (simp only [x_up, x_nw]; omega))]; first | assumption | exact x_up_self _ _ _ | (rw [x_up_ne (by first | omega | (simp only [x_up, x_nw]; omega))]; assumption))) (by rfl) rfl ?_
        refine go_iload (pc' := 28) (i := 5) d_Tri_putIn_26 rfl rfl ?_
        refine go_aaldN (pc' := 29) d_Tri_putIn_28 (by first | assumption | exact x_up_self _ _ _ | exact x_nw_self _ _ _ | (rw [x_up_ne (by first | omega | (simp only [x_up, x_nw]; omega))]; first | assumption | exact x_up_self _ _ _ | (rw [x_up_ne (by first | omega | (simp only [x_up, x_nw]; omega))]; first | assumption | exact x_up_self _ _ _)) | (rw [x_nw_ne (by first | omega | (simp only [x_up, x_nw]; omega))]; first | assumption | exact x_up_self _ _ _ | (rw [x_up_ne (by first | omega | (simp only [x_up, x_nw]; omega))]; assumption))) (by rfl) (by first | assumption | omega | (simp only [x_up, x_nw]; omega)) (by first | assumption | omega | (simp only [x_up, x_nw]; omega)) rfl ?_
        rw [hns]
        refine go_astore (pc' := 31) (i := 6) d_Tri_putIn_29 (by decide) (x_r_rf _) (x_s6 rfl) rfl ?_
        refine go_aload (pc' := 33) (i := 6) d_Tri_putIn_31 rfl (by first | rfl | exact x_r_rf _) rfl ?_
        refine go_ifnonnull (tgt := 47) (pc' := 36) d_Tri_putIn_33 (by decide) rfl (fun b hc => ?_) (fun hc => ?_)
        · rw [hc]
          refine go_aload (pc' := 49) (i := 6) d_Tri_putIn_47 rfl (by first | rfl | exact x_r_rf _) rfl ?_
          refine go_astore_n (pc' := 50) (i := 3) d_Tri_putIn_49 rfl (by decide) (by first | rfl | exact x_r_rf _) (x_s3 (by first | rfl | exact x_k_rf _)) rfl ?_
          refine go_iinc (pc' := 53) (i := 4) d_Tri_putIn_50 rfl (x_i1 _) (by decide) (x_s4 (by first | rfl | exact x_k_rf _)) rfl ?_
          refine go_goto (tgt := 5) d_Tri_putIn_53 (by decide) ?_
          exact ih (l + 1) b _ _ (by omega) hc rfl rfl
        · have hnone := hc
          have hlen := hT.no hl4 hc
          refine go_aload_n (pc' := 37) (i := 3) d_Tri_putIn_36 rfl rfl (by first | rfl | exact x_r_rf _) rfl ?_
          refine go_iload (pc' := 39) (i := 5) d_Tri_putIn_37 rfl rfl ?_
          refine go_iload (pc' := 41) (i := 4) d_Tri_putIn_39 rfl rfl ?_
          refine go_aload_n (pc' := 42) (i := 1) d_Tri_putIn_41 rfl rfl (by first | rfl | exact x_r_rf _) rfl ?_
          refine go_iload_n (pc' := 43) (i := 2) d_Tri_putIn_42 rfl rfl rfl ?_
          -- what lies at the place
          have hcase : ((q_f ks (l + 1) (q_p (l + 1) key) = [] ∧ es (q_d l key) = none) ∨ ∃ kv e0, q_f ks (l + 1) (q_p (l + 1) key) = [kv] ∧ es (q_d l key) = some e0 ∧ Et h e0 kv.1 kv.2) := by
            match hL : q_f ks (l + 1) (q_p (l + 1) key), hlen with
            | [], _ =>
              rw [hL] at hes
              exact Or.inl ⟨rfl, hes.none⟩
            | [kv], _ =>
              rw [hL] at hes
              obtain ⟨e0, q1, q2⟩ := Eo.some (x := kv) hes
              exact Or.inr ⟨kv, e0, rfl, q1, q2⟩
          have leaf : (q_f (q_put ks key v) (l + 1) (q_p (l + 1) key) = [(key, v)]) → Q (.inl none) (x_up h (a + 1) (.inl (3, 4, .inr (.inr (.inr (.inr (va_up es (q_d l key) (some e)))))))) := by
            intro hL
            have hF := foUp l a (.inl (3, 4, .inr (.inr (.inr (.inr (va_up es (q_d l key) (some e))))))) ⟨_, _, _, _, _, hN'⟩
            refine same l a _ ha ⟨_, _, _, _, hN'⟩ hF (hT.same hP ha hF (Or.inr ⟨hnone, by rw [hL]; exact Nat.le_refl _⟩) ⟨fun _ => ⟨_, ns, ⟨(x_up_ne (by omega)).trans h0, x_up_self _ _ _, (x_up_ne (by omega)).trans h2⟩, fun j hj => ?_⟩, fun z => by omega⟩)
            by_cases hjd : j = q_d l key
            · subst hjd
              rw [va_up_self, ← q_p_s hl4, hL]
              exact ⟨hns, he.fo hF⟩
            · rw [va_up_ne _ _ hjd, q_put_off (q_p_ne hl4 hj (fun z => hjd z.2))]
              exact ⟨(hE j hj).1, (hE j hj).2.fo hF⟩
          rcases hcase with ⟨hL, hn0⟩ | ⟨kv, e0, hL, hn0, he0⟩
          · refine go_callS (pc' := 46) (M' := M_Tri_putAt) [_, _, _, _, _] d_Tri_putIn_43 t_306 t_307 t_1 cd_Tri_putAt nm_Tri_putAt rfl rfl (Nat.le_of_ble_eq_true rfl) rfl (s_putAt0 (d := d - 1) hN' he hd4 (Or.inl hn0)) (by first | decide | omega) (Nat.le_of_ble_eq_true rfl) rfl (fun v hh hq => ?_) (fun q g hq => by cases hq.1)
            obtain ⟨e9, rfl⟩ := hq
            cases e9
            show Go K M_Tri_putIn d 46 _ [] _ _
            refine go_return d_Tri_putIn_46 rfl ?_
            refine leaf ?_
            rw [q_put_f, q_put_0 hL, hL]
            simp
          · by_cases hk : kv.1 = key
            · refine go_callS (pc' := 46) (M' := M_Tri_putAt) [_, _, _, _, _] d_Tri_putIn_43 t_306 t_307 t_1 cd_Tri_putAt nm_Tri_putAt rfl rfl (Nat.le_of_ble_eq_true rfl) rfl (s_putAt0 (d := d - 1) hN' he hd4 (Or.inr ⟨e0, kv.2, hn0, by rw [← hk]; exact he0⟩)) (by first | decide | omega) (Nat.le_of_ble_eq_true rfl) rfl (fun v hh hq => ?_) (fun q g hq => by cases hq.1)
              obtain ⟨e9, rfl⟩ := hq
              cases e9
              show Go K M_Tri_putIn d 46 _ [] _ _
              refine go_return d_Tri_putIn_46 rfl ?_
              refine leaf ?_
              have hget : q_get ks key = some kv := by
                rw [← q_f_get ks (l + 1) key, hL]
                simp [q_get, hk]
              rw [q_put_f, hget, hL]
              simp [hk]
            · refine go_callS (pc' := 46) (M' := M_Tri_putAt) [_, _, _, _, _] d_Tri_putIn_43 t_306 t_307 t_1 cd_Tri_putAt nm_Tri_putAt rfl rfl (Nat.le_of_ble_eq_true rfl) rfl (s_putAt2 (d := d - 1) hN' he hd4 hn0 he0 hk hl4 (by omega) (by omega) (by omega)) (by first | decide | omega) (Nat.le_of_ble_eq_true rfl) rfl (fun v hh hq => ?_) (fun q g hq => hq.elim)
              obtain ⟨rfl, hNa2, hT2, b1, b2, b3, b4, hold⟩ := hq
              show Go K M_Tri_putIn d 46 _ [] hh _
              refine go_return d_Tri_putIn_46 rfl ?_
              have hF : Fo (fun z => z = a) h hh := by
                refine ⟨fun z hz => ?_, fun z c9 hz hw => ?_⟩
                · have hz' : z = a := hz
                  subst hz'
                  exact ⟨_, _, _, _, _, hN'⟩
                · rw [hold z (hdom _ _ hz) (hw a rfl).1 (hw a rfl).2]
                  exact hz
              have hTT := hT.split hP hl4 ha hnone (by rw [hL]) hk hN' hF hNa2 hT2 (he0.fo hF) (he.fo hF)
              rw [hQ]
              have haf : ∀ l1 p1 a1, A l1 p1 = some a1 → a1 < h.1 := fun l1 p1 a1 h9 => by
                obtain ⟨_, _, _, _, hN9, -⟩ := hT.nd h9
                exact hdom _ _ hN9.1
              have hnup : ∀ m, l < m → A m (q_p m key) = none := fun m hm => by
                have := hT.none_up key hnone (m - (l + 1))
                rw [show l + 1 + (m - (l + 1)) = m by omega] at this
                exact this
              refine ⟨rfl, _, _, q_pn ps h.1 l key, hTT, fun m p a1 h9 => ?_, fun b hb => if_pos hb, fun m p a1 h9 => ?_, fun m p h9 a1 h10 => ?_, fun m p h9 => ?_, ⟨b1, b3, fun z hz hs => ?_⟩, b2, b4⟩
              · by_cases hs : q_sc l key kv.1 m p
                · rw [q_sA_pos hs] at h9
                  cases h9
                  have e1 : (h.1 + 3 * (m - l - 1) - h.1) / 3 + l + 1 = m := by have := hs.1; omega
                  unfold q_pn
                  rw [if_neg (by omega), e1, hs.2.2.1]
                · rw [q_sA_neg hs] at h9
                  unfold q_pn
                  rw [if_pos (haf _ _ _ h9)]
                  exact hP _ _ _ h9
              · have hs : ¬ q_sc l key kv.1 m p := fun z => by
                  rw [z.2.2.1, hnup m z.1] at h9
                  cases h9
                rw [q_sA_neg hs, q_sB_neg hs]
                exact ⟨h9, rfl⟩
              · by_cases hs : q_sc l key kv.1 m p
                · rw [q_sA_pos hs] at h10
                  cases h10
                  rw [q_sB_pos hs]
                  exact ⟨by omega, rfl, hs.2.2.1⟩
                · rw [q_sA_neg hs, h9] at h10
                  cases h10
              · have hs : ¬ q_sc l key kv.1 m p := fun z => by
                  rw [q_sA_pos z] at h9
                  cases h9
                rw [q_sB_neg hs]
              · exact hold z hz (fun z9 => hs ⟨l, a, ha, Or.inl z9⟩) (fun z9 => hs ⟨l, a, ha, Or.inr z9⟩)
  refine go_aload_n (pc' := 1) (i := 0) d_Tri_putIn_0 rfl rfl (by first | rfl | exact x_r_rf _) rfl ?_
  refine go_astore_n (pc' := 2) (i := 3) d_Tri_putIn_1 rfl (by decide) (by first | rfl | exact x_r_rf _) (x_s3 (by first | rfl | exact x_k_rf _)) rfl ?_
  refine go_iconst (pc' := 3) (v := (nI 0)) d_Tri_putIn_2 (by decide) rfl ?_
  refine go_istore (pc' := 5) (i := 4) d_Tri_putIn_3 (by decide) (x_s4 (by first | rfl | exact x_k_rf _)) rfl ?_
  exact loop 4 0 root _ _ (by omega) (by rw [q_p_0]; exact hr) rfl rfl
end PB
end
section
/-! a key is taken out -/
def q_del (ks : List KV) (key : Int32) : List KV := ks.filter (fun x => !(x.1 == key))
def q_dA (A : Nat → Nat → Option Nat) (ks : List KV) (l p : Nat) : Option Nat := if l = 0 ∨ 2 ≤ (q_f ks l p).length then A l p else none
theorem l_del_comm (P : Int32 → Bool) (key : Int32) (ks : List KV) : (ks.filter (fun x => !(x.1 == key))).filter (fun x => P x.1) = (ks.filter (fun x => P x.1)).filter (fun x => !(x.1 == key)) := by
  rw [List.filter_filter, List.filter_filter]
  apply List.filter_congr
  intro x _
  exact Bool.and_comm _ _
theorem l_del_at {key : Int32} : ∀ (L : List KV) (i : Nat) (x : KV), L[i]? = some x → x.1 = key → (L.map (fun x => x.1)).Nodup → L.filter (fun x => !(x.1 == key)) = L.eraseIdx i
  | [], i, x, h, _, _ => by cases h
  | y :: L, 0, x, h, hx, hn => by
    simp only [List.getElem?_cons_zero, Option.some.injEq] at h
    subst h
    rw [List.eraseIdx_cons_zero, List.filter_cons]
    simp only [hx, BEq.rfl, Bool.not_true, Bool.false_eq_true, if_false]
    rw [List.filter_eq_self]
    intro z hz
    rw [List.map_cons, List.nodup_cons] at hn
    have : ¬ z.1 = y.1 := fun e => hn.1 (by rw [← e]; exact List.mem_map.mpr ⟨z, hz, rfl⟩)
    rw [hx] at this
    simp [this]
  | y :: L, i + 1, x, h, hx, hn => by
    simp only [List.getElem?_cons_succ] at h
    rw [List.map_cons, List.nodup_cons] at hn
    have hy : ¬ y.1 = key := fun e => hn.1 (by rw [e, ← hx]; exact List.mem_map.mpr ⟨x, List.mem_of_getElem? h, rfl⟩)
    rw [List.eraseIdx_cons_succ, List.filter_cons, l_del_at L i x h hx hn.2]
    simp [hy]
theorem l_fm4 (G : Nat → Option KV) : [0, 1, 2, 3].filterMap G = (G 0).toList ++ ((G 1).toList ++ ((G 2).toList ++ (G 3).toList)) := by
  cases h0 : G 0 <;> cases h1 : G 1 <;> cases h2 : G 2 <;> cases h3 : G 3 <;> simp [h0, h1, h2, h3]
section RA
variable {K : x_K} {d : Nat} {h f f2 : x_H} {A A2 : Nat → Nat → Option Nat} {ks : List KV} {bel : Nat → Nat → Int32} {a : Nat} {key : Int32} {x0 : KV}
theorem q_del_f (l p : Nat) : q_f (q_del ks key) l p = (q_f ks l p).filter (fun x => !(x.1 == key)) := l_del_comm (fun k => q_p l k == p) key ks
theorem q_del_off {l p : Nat} (hp : ¬ p = q_p l key) : q_f (q_del ks key) l p = q_f ks l p := by
  rw [q_del_f, List.filter_eq_self]
  intro x hx
  have := (q_f_mem.mp hx).2
  have hne : ¬ x.1 = key := fun e => hp (by rw [← e]; exact this.symm)
  simp [hne]
theorem q_f_nodup (hK : Ko ks) (l p : Nat) : ((q_f ks l p).map (fun x => x.1)).Nodup := (List.Sublist.map _ List.filter_sublist).nodup hK.2.1
theorem q_del_len (hK : Ko ks) (hg : q_get ks key = some x0) (l : Nat) : (q_f (q_del ks key) l (q_p l key)).length + 1 = (q_f ks l (q_p l key)).length := by
  rw [q_del_f]
  have h1 := q_f_get ks l key
  rw [hg] at h1
  have h2 : x0 ∈ q_f ks l (q_p l key) := List.mem_of_find?_eq_some h1
  have h3 : x0.1 = key := by
    have := List.find?_some h1
    simpa using this
  obtain ⟨i, hi⟩ := List.getElem?_of_mem h2
  rw [l_del_at _ i x0 hi h3 (q_f_nodup hK l _), List.length_eraseIdx]
  have := (List.getElem?_eq_some_iff.mp hi).1
  rw [if_pos this]
  omega
theorem Ko.del (hK : Ko ks) : Ko (q_del ks key) := by
  refine ⟨Nat.le_trans (List.length_filter_le _ _) hK.1, (List.Sublist.map _ List.filter_sublist).nodup hK.2.1, fun p => ?_⟩
  rw [q_del_f]
  exact Nat.le_trans (List.length_filter_le _ _) (hK.2.2 p)
/-- the one entry of sparse places -/
theorem q_on_sp {F : Nat → Option KV} {es : Nat → Option Nat} : ∀ (r i : Nat), (∀ j, i ≤ j → j < i + r → Eo f (es j) (F j)) →
    Eo f (q_on es none r i) (q_1 ((List.range' i r).filterMap F)) ∧ ∀ e, q_on es (some e) r i = if (List.range' i r).filterMap F = [] then some e else none
  | 0, i, _ => ⟨trivial, fun e => rfl⟩
  | r + 1, i, hE => by
    have h0 := hE i (Nat.le_refl _) (by omega)
    obtain ⟨ih1, ih2⟩ := q_on_sp (F := F) (es := es) r (i + 1) (fun j h1 h2 => hE j (by omega) (by omega))
    rw [List.range'_succ, List.filterMap_cons]
    cases hF : F i with
    | none =>
      rw [hF] at h0
      have h1 := h0.none
      refine ⟨?_, fun e => ?_⟩
      · have e1 : q_on es none (r + 1) i = q_on es none r (i + 1) := by simp [q_on, h1]
        rw [e1]
        exact ih1
      · have e1 : q_on es (some e) (r + 1) i = q_on es (some e) r (i + 1) := by simp [q_on, h1]
        rw [e1]
        exact ih2 e
    | some kv =>
      rw [hF] at h0
      obtain ⟨e1, h1, h2⟩ := Eo.some (x := kv) h0
      refine ⟨?_, fun e => ?_⟩
      · have e2 : q_on es none (r + 1) i = q_on es (some e1) r (i + 1) := by simp [q_on, h1]
        rw [e2, ih2 e1]
        by_cases hL : (List.range' (i + 1) r).filterMap F = []
        · rw [if_pos hL, hL]
          exact h2
        · rw [if_neg hL]
          have : q_1 (kv :: (List.range' (i + 1) r).filterMap F) = none := by
            match hm : (List.range' (i + 1) r).filterMap F, hL with
            | y :: r', _ => rfl
          rw [this]
          trivial
      · have e2 : q_on es (some e) (r + 1) i = none := by simp [q_on, h1]
        rw [e2, if_neg (by simp)]
theorem l_fm_list (L : List KV) : ∀ (r i : Nat), L.length ≤ i + r → (List.range' i r).filterMap (fun j => L[j]?) = L.drop i
  | 0, i, h => by simp [List.drop_eq_nil_of_le (show L.length ≤ i by omega)]
  | r + 1, i, h => by
    rw [List.range'_succ, List.filterMap_cons, l_fm_list L r (i + 1) (by omega)]
    by_cases hi : i < L.length
    · rw [List.getElem?_eq_getElem hi, List.drop_eq_getElem_cons hi]
    · rw [List.getElem?_eq_none (by omega), List.drop_eq_nil_of_le (show L.length ≤ i + 1 by omega), List.drop_eq_nil_of_le (show L.length ≤ i by omega)]
theorem q_1_len {L : List KV} (h : ¬ L.length = 1) : q_1 L = none := by
  match L, h with
  | [], _ => rfl
  | _ :: _ :: _, _ => rfl
/-- what onlyEntry tells of a node -/
theorem Tn.only {l p : Nat} (hl : l ≤ 4) (hp : p < 4 ^ l) (hT : Tn f A ks bel l p a) (hK : Ko ks) (hex : ∀ j, j < 4 → l < 4 → ((∃ b, A (l + 1) (4 * p + j) = some b) ↔ 2 ≤ (q_f ks (l + 1) (4 * p + j)).length)) :
    ∃ n es k ns, Nd f a (bel l p) n es k ns ∧ n ≤ 6 ∧ k ≤ 6 ∧ Eo f (if q_ct ns k = 0 then q_on es none n 0 else none) (q_1 (q_f ks l p)) := by
  by_cases hl4 : l < 4
  · obtain ⟨es, ns, hN, hE⟩ := hT.1 hl4
    refine ⟨4, es, 4, ns, hN, by omega, by omega, ?_⟩
    have hlen := q_f_len4 ks hl4 p
    by_cases hct : q_ct ns 4 = 0
    · rw [if_pos hct]
      have h1 : ∀ j, j < 4 → (q_f ks (l + 1) (4 * p + j)).length ≤ 1 := by
        intro j hj
        apply Classical.byContradiction
        intro z
        obtain ⟨b, hb⟩ := (hex j hj hl4).mpr (by omega)
        have h2 := (hE j hj).1
        rw [hb] at h2
        have h3 : ∀ m, j < m → 1 ≤ q_ct ns m := by
          intro m
          induction m with
          | zero => intro z; omega
          | succ m ih =>
            intro z
            unfold q_ct
            by_cases hm : m = j
            · subst hm; rw [h2]; simp
            · have := ih (by omega); omega
        have := h3 4 hj
        omega
      obtain ⟨hon, -⟩ := q_on_sp (f := f) (F := fun j => q_1 (q_f ks (l + 1) (4 * p + j))) (es := es) 4 0 (fun j _ hj => (hE j (by omega)).2)
      have hfl : ∀ j, j < 4 → (q_1 (q_f ks (l + 1) (4 * p + j))).toList = q_f ks (l + 1) (4 * p + j) := by
        intro j hj
        have := h1 j hj
        match hL : q_f ks (l + 1) (4 * p + j), this with
        | [], _ => rfl
        | [x], _ => rfl
      have hG : (List.range' 0 4).filterMap (fun j => q_1 (q_f ks (l + 1) (4 * p + j))) = q_f ks (l + 1) (4 * p + 0) ++ (q_f ks (l + 1) (4 * p + 1) ++ (q_f ks (l + 1) (4 * p + 2) ++ q_f ks (l + 1) (4 * p + 3))) := by
        rw [show List.range' 0 4 = [0, 1, 2, 3] from rfl, l_fm4, hfl 0 (by omega), hfl 1 (by omega), hfl 2 (by omega), hfl 3 (by omega)]
      rw [hG] at hon
      by_cases h5 : (q_f ks l p).length = 1
      · match hL : q_f ks l p, h5 with
        | [x], _ =>
          have hx : x ∈ q_f ks l p := by rw [hL]; exact List.mem_cons_self
          obtain ⟨hx1, hx2⟩ := q_f_mem.mp hx
          have hd := q_d_lt l x.1
          have hps := q_p_s hl4 x.1
          rw [hx2] at hps
          have hxm : ∀ j, j = q_d l x.1 → x ∈ q_f ks (l + 1) (4 * p + j) := fun j hj => q_f_mem.mpr ⟨hx1, by rw [hj]; exact hps⟩
          rw [hL] at hlen
          simp only [List.length_cons, List.length_nil] at hlen
          have hG2 : q_f ks (l + 1) (4 * p + 0) ++ (q_f ks (l + 1) (4 * p + 1) ++ (q_f ks (l + 1) (4 * p + 2) ++ q_f ks (l + 1) (4 * p + 3))) = [x] := by
            have hlen2 : (q_f ks (l + 1) (4 * p + 0) ++ (q_f ks (l + 1) (4 * p + 1) ++ (q_f ks (l + 1) (4 * p + 2) ++ q_f ks (l + 1) (4 * p + 3)))).length = 1 := by
              simp only [List.length_append]
              omega
            have hmem : x ∈ q_f ks (l + 1) (4 * p + 0) ++ (q_f ks (l + 1) (4 * p + 1) ++ (q_f ks (l + 1) (4 * p + 2) ++ q_f ks (l + 1) (4 * p + 3))) := by
              simp only [List.mem_append]
              have h6 : q_d l x.1 = 0 ∨ q_d l x.1 = 1 ∨ q_d l x.1 = 2 ∨ q_d l x.1 = 3 := by omega
              rcases h6 with h6 | h6 | h6 | h6
              · exact Or.inl (hxm 0 h6.symm)
              · exact Or.inr (Or.inl (hxm 1 h6.symm))
              · exact Or.inr (Or.inr (Or.inl (hxm 2 h6.symm)))
              · exact Or.inr (Or.inr (Or.inr (hxm 3 h6.symm)))
            revert hlen2 hmem
            generalize q_f ks (l + 1) (4 * p + 0) ++ (q_f ks (l + 1) (4 * p + 1) ++ (q_f ks (l + 1) (4 * p + 2) ++ q_f ks (l + 1) (4 * p + 3))) = G
            intro hlen2 hmem
            match G, hlen2 with
            | [y], _ =>
              simp at hmem
              rw [hmem]
          rw [hG2] at hon
          exact hon
      · rw [q_1_len h5]
        rw [q_1_len (by simp only [List.length_append]; omega)] at hon
        exact hon
    · rw [if_neg hct]
      have h1 : 2 ≤ (q_f ks l p).length := by
        have h3 : ∃ j, j < 4 ∧ (ns j).isSome = true := by
          apply Classical.byContradiction
          intro z
          apply hct
          have h4 : ∀ m, m ≤ 4 → q_ct ns m = 0 := by
            intro m
            induction m with
            | zero => intro _; rfl
            | succ m ih =>
              intro hm
              have h5 : ¬ (ns m).isSome = true := fun y => z ⟨m, by omega, y⟩
              unfold q_ct
              rw [ih (by omega), if_neg h5]
          exact h4 4 (Nat.le_refl _)
        obtain ⟨j, hj, hs⟩ := h3
        rw [(hE j hj).1] at hs
        obtain ⟨b, hb⟩ := Option.isSome_iff_exists.mp hs
        have h6 := (hex j hj hl4).mp ⟨b, hb⟩
        have h7 : j = 0 ∨ j = 1 ∨ j = 2 ∨ j = 3 := by omega
        rcases h7 with rfl | rfl | rfl | rfl <;> omega
      rw [q_1_two h1]
      trivial
  · have h44 : l = 4 := by omega
    subst h44
    obtain ⟨es, ns, hN, hE⟩ := hT.2 rfl
    refine ⟨6, es, 0, ns, hN, by omega, by omega, ?_⟩
    have : q_ct ns 0 = 0 := rfl
    rw [if_pos this]
    obtain ⟨hon, -⟩ := q_on_sp (f := f) (F := fun j => (q_f ks 4 p)[j]?) (es := es) 6 0 (fun j _ hj => hE j (by omega))
    rw [l_fm_list _ 6 0 (by have := hK.2.2 p; omega), List.drop_zero] at hon
    exact hon
end RA
end
section
section RB
variable {K : x_K} {d : Nat} {h f : x_H} {A : Nat → Nat → Option Nat} {ks : List KV} {bel : Nat → Nat → Int32} {a : Nat} {key : Int32} {x0 : KV} {ps : Nat → Nat × Nat}
theorem q_dA_ex (hT : Tr h A ks bel) (l p : Nat) : (∃ b, q_dA A (q_del ks key) l p = some b) ↔ (l ≤ 4 ∧ p < 4 ^ l ∧ (l = 0 ∨ 2 ≤ (q_f (q_del ks key) l p).length)) := by
  unfold q_dA
  by_cases hc : l = 0 ∨ 2 ≤ (q_f (q_del ks key) l p).length
  · rw [if_pos hc, hT.1 l p]
    refine and_congr_right fun _ => and_congr_right fun _ => ⟨fun _ => hc, fun _ => ?_⟩
    rcases hc with hc | hc
    · exact Or.inl hc
    · right
      have := List.length_filter_le (fun x : KV => !(x.1 == key)) (q_f ks l p)
      rw [q_del_f] at hc
      omega
  · rw [if_neg hc]
    exact ⟨fun z => (by obtain ⟨b, hb⟩ := z; cases hb), fun z => absurd z.2.2 hc⟩
theorem q_dA_off (hT : Tr h A ks bel) {l p : Nat} (hp : ¬ p = q_p l key) : q_dA A (q_del ks key) l p = A l p := by
  unfold q_dA
  rw [q_del_off hp]
  by_cases hc : l = 0 ∨ 2 ≤ (q_f ks l p).length
  · rw [if_pos hc]
  · rw [if_neg hc]
    cases hA : A l p with
    | none => rfl
    | some b => exact absurd ((hT.1 l p).mp ⟨b, hA⟩).2.2 hc
set_option maxRecDepth 100000 in
theorem s_takeOut (hT : Tr h A ks bel) (hP : Ps ps A) (hK : Ko ks) (hg : q_get ks key = some x0) : ∀ (r l a : Nat), l + r = 4 → A l (q_p l key) = some a →
    Go K M_Tri_takeOut (r + 2) 0 [some (.ref a), some (.int (nI l)), some (.int key), none, none, none] [] h (x_rt (fun w f => w = none ∧ f.1 = h.1 ∧ f.2.1 = h.2.1 ∧
      (∀ m b, l ≤ m → A m (q_p m key) = some b → Tn f (q_dA A (q_del ks key)) (q_del ks key) bel m (q_p m key) b) ∧ Fo (fun z => ∃ m, l ≤ m ∧ A m (q_p m key) = some z) h f)) := by
  intro r
  induction r with
  | zero =>
    intro l a hl ha
    have hl4 : l = 4 := by omega
    subst hl4
    obtain ⟨es, ns, hN, hE⟩ := (hT.2 4 _ a ha).2 rfl
    have hN0 := hN.1
    have hkE := Eo.kfE hE
    have hpf := q_pl_find (h := h) (es := es) (key := key) 6 0 (q_f ks 4 (q_p 4 key)) (fun i hi => by rw [Nat.zero_add]; exact hE i hi) (hK.2.2 _)
    rw [q_f_get, hg] at hpf
    have hx0 : x0.1 = key := by
      have := List.find?_some hg
      simpa using this
    refine go_iload_n (pc' := 1) (i := 1) d_Tri_takeOut_0 rfl rfl rfl ?_
    refine go_iconst (pc' := 2) (v := (nI 4)) d_Tri_takeOut_1 (by decide) rfl ?_
    refine go_icmp_ltN (tgt := 11) (pc' := 5) d_Tri_takeOut_2 (by decide) rfl (by omega) (by omega) (fun hc => ?_) (fun hc => ?_)
    · omega
    · cases hq : q_pl es (kfh h) key 6 0 with
      | none =>
        rw [hq] at hpf
        cases hpf
      | some i =>
        rw [hq] at hpf
        obtain ⟨-, e9, x9, g2, g3, g4, g5, -⟩ := hpf
        cases g3
        rw [Nat.sub_zero] at g5
        have hi6 := q_pl_lt es (kfh h) key 6 0 i hq
        refine go_aload_n (pc' := 6) (i := 0) d_Tri_takeOut_5 rfl rfl (by first | rfl | exact x_r_rf _) rfl ?_
        refine go_iload_n (pc' := 7) (i := 2) d_Tri_takeOut_6 rfl rfl rfl ?_
        refine go_callV (pc' := 10) (M' := M_Nod_takeOutOfBag) (ci := 2) (r := (n_Nod, T_Nod, 3)) [_] d_Tri_takeOut_7 t_354 t_355 t_356 cd_Nod_takeOutOfBag nm_Nod_takeOutOfBag rfl (by rfl) (by first | assumption | exact x_up_self _ _ _ | exact x_nw_self _ _ _ | (rw [x_up_ne (by first | omega | (simp only [x_up, x_nw]; omega))]; first | assumption | exact x_up_self _ _ _ | (rw [x_up_ne (by first | omega | (simp only [x_up, x_nw]; omega))]; first | assumption | exact x_up_self _ _ _)) | (rw [x_nw_ne (by first | omega | (simp only [x_up, x_nw]; omega))]; first | assumption | exact x_up_self _ _ _ | (rw [x_up_ne (by first | omega | (simp only [x_up, x_nw]; omega))]; assumption))) rfl (Nat.le_of_ble_eq_true rfl) rfl (s_takeOutOfBag (d := 1) hN (by omega) hkE key (by omega) hq) (by first | decide | omega) (Nat.le_of_ble_eq_true rfl) rfl (fun v hh hq => ?_) (fun q g hq => by cases hq.1)
        obtain ⟨e8, rfl⟩ := hq
        cases e8
        show Go K M_Tri_takeOut (0 + 2) 10 _ [] _ _
        refine go_return d_Tri_takeOut_10 rfl ?_
        have hF : Fo (fun z => ∃ m, 4 ≤ m ∧ A m (q_p m key) = some z) h (x_up h (a + 1) (.inl (3, 6, .inr (.inr (.inr (.inr (q_sh es 6 i 6))))))) := by
          refine ⟨fun z hz => ?_, fun z c9 hz hw => ?_⟩
          · obtain ⟨m, -, hm⟩ := hz
            obtain ⟨_, _, _, _, hN9, -⟩ := hT.nd hm
            exact ⟨_, _, _, _, _, hN9⟩
          · rw [x_up_ne (hw a ⟨4, by omega, ha⟩).1]
            exact hz
        refine ⟨rfl, rfl, rfl, fun m b hm hb => ?_, hF⟩
        have hm4 := ((hT.1 _ _).mp ⟨b, hb⟩).1
        have : m = 4 := by omega
        subst this
        cases ha.symm.trans hb
        refine ⟨fun z => by omega, fun _ => ⟨_, ns, ⟨(x_up_ne (by omega)).trans hN.1, x_up_self _ _ _, (x_up_ne (by omega)).trans hN.2.2⟩, fun j hj => ?_⟩⟩
        rw [q_del_f, l_del_at _ i x0 g5 hx0 (q_f_nodup hK 4 _), List.getElem?_eraseIdx]
        unfold q_sh
        by_cases hji : j < i
        · rw [if_neg (by omega), if_pos hji]
          exact (hE j hj).fo hF
        · rw [if_pos ⟨by omega, hj⟩, if_neg hji]
          by_cases hj6 : j + 1 < 6
          · rw [if_pos hj6]
            exact (hE (j + 1) hj6).fo hF
          · rw [if_neg hj6, List.getElem?_eq_none (by have := hK.2.2 (q_p 4 key); omega)]
            trivial
  | succ r ih =>
    intro l a hl ha
    have hl4 : l < 4 := by omega
    obtain ⟨es, ns, hN, hE⟩ := (hT.2 l _ a ha).1 hl4
    have hd4 := q_d_lt l key
    obtain ⟨hns, hes⟩ := hE _ hd4
    rw [← q_p_s hl4] at hns hes
    have hN' := hN
    obtain ⟨h0, h1, h2⟩ := hN
    have hdl := q_del_len hK hg (l + 1)
    -- children that are not on the way
    have hoff : ∀ j, j < 4 → ¬ j = q_d l key → q_dA A (q_del ks key) (l + 1) (4 * q_p l key + j) = A (l + 1) (4 * q_p l key + j) ∧ q_f (q_del ks key) (l + 1) (4 * q_p l key + j) = q_f ks (l + 1) (4 * q_p l key + j) := fun j hj hjd =>
      ⟨q_dA_off hT (q_p_ne hl4 hj (fun z => hjd z.2)), q_del_off (q_p_ne hl4 hj (fun z => hjd z.2))⟩
    refine go_iload_n (pc' := 1) (i := 1) d_Tri_takeOut_0 rfl rfl rfl ?_
    refine go_iconst (pc' := 2) (v := (nI 4)) d_Tri_takeOut_1 (by decide) rfl ?_
    refine go_icmp_ltN (tgt := 11) (pc' := 5) d_Tri_takeOut_2 (by decide) rfl (by omega) (by omega) (fun hc => ?_) (fun hc => ?_)
    · refine go_iload_n (pc' := 12) (i := 2) d_Tri_takeOut_11 rfl rfl rfl ?_
      refine go_iload_n (pc' := 13) (i := 1) d_Tri_takeOut_12 rfl rfl rfl ?_
      refine go_callS (pc' := 16) (M' := M_Tri_digit) [_, _] d_Tri_takeOut_13 t_195 t_196 t_1 cd_Tri_digit nm_Tri_digit rfl rfl (Nat.le_of_ble_eq_true rfl) rfl (s_digit (d := r + 2) key hl4) (by first | decide | omega) (Nat.le_of_ble_eq_true rfl) rfl (fun v hh hq => ?_) (fun q g hq => by cases hq.1)
      obtain ⟨e9, rfl⟩ := hq
      cases e9
      show Go K M_Tri_takeOut (r + 1 + 2) 16 _ [.int (nI (q_d l key))] h _
      refine go_istore_n (pc' := 17) (i := 3) d_Tri_takeOut_16 rfl (by decide) (x_s3 (by first | rfl | exact x_k_rf _)) rfl ?_
      refine go_aload_n (pc' := 18) (i := 0) d_Tri_takeOut_17 rfl rfl (by first | rfl | exact x_r_rf _) rfl ?_
      refine go_getfield (pc' := 21) d_Tri_takeOut_18 c_Nod 2 (by decide) t_46 (by first | assumption | exact x_up_self _ _ _ | exact x_nw_self _ _ _ | (rw [x_up_ne (by first | omega | (simp only [x_up, x_nw]; omega))]; first | assumption | exact x_up_self _ _ _ | (rw [x_up_ne (by first | omega | (simp only [x_up, x_nw]; omega))]; first | assumption | exact x_up_self _ _ _)) | (rw [x_nw_ne (by first | omega | (simp only [x_up, x_nw]; omega))]; first | assumption | exact x_up_self _ _ _ | (rw [x_up_ne (by first | omega | (simp only [x_up, x_nw]; omega))]; assumption))) (by rfl) rfl ?_
      refine go_iload_n (pc' := 22) (i := 3) d_Tri_takeOut_21 rfl rfl rfl ?_
      refine go_aaldN (pc' := 23) d_Tri_takeOut_22 (by first | assumption | exact x_up_self _ _ _ | exact x_nw_self _ _ _ | (rw [x_up_ne (by first | omega | (simp only [x_up, x_nw]; omega))]; first | assumption | exact x_up_self _ _ _ | (rw [x_up_ne (by first | omega | (simp only [x_up, x_nw]; omega))]; first | assumption | exact x_up_self _ _ _)) | (rw [x_nw_ne (by first | omega | (simp only [x_up, x_nw]; omega))]; first | assumption | exact x_up_self _ _ _ | (rw [x_up_ne (by first | omega | (simp only [x_up, x_nw]; omega))]; assumption))) (by rfl) (by first | assumption | omega | (simp only [x_up, x_nw]; omega)) (by first | assumption | omega | (simp only [x_up, x_nw]; omega)) rfl ?_
      rw [hns]
      refine go_astore (pc' := 25) (i := 4) d_Tri_takeOut_23 (by decide) (x_r_rf _) (x_s4 rfl) rfl ?_
      refine go_aload (pc' := 27) (i := 4) d_Tri_takeOut_25 rfl (by first | rfl | exact x_r_rf _) rfl ?_
      refine go_ifnonnull (tgt := 38) (pc' := 30) d_Tri_takeOut_27 (by decide) rfl (fun b hc => ?_) (fun hc => ?_)
      · have hcA := hc
        rw [hc]
        obtain ⟨nb, esb, kb, nsb, hNb, -⟩ := hT.nd hc
        have h2l : 2 ≤ (q_f ks (l + 1) (q_p (l + 1) key)).length := by
          rcases ((hT.1 _ _).mp ⟨b, hc⟩).2.2 with z | z
          · omega
          · exact z
        have hesn : es (q_d l key) = none := by
          rw [q_1_two h2l] at hes
          exact hes.none
        refine go_aload (pc' := 40) (i := 4) d_Tri_takeOut_38 rfl rfl rfl ?_
        refine go_iload_n (pc' := 41) (i := 1) d_Tri_takeOut_40 rfl rfl rfl ?_
        refine go_iconst (pc' := 42) (v := (nI 1)) d_Tri_takeOut_41 (by decide) rfl ?_
        refine go_iadd (pc' := 43) d_Tri_takeOut_42 rfl ?_
        rw [nI_add]
        refine go_iload_n (pc' := 44) (i := 2) d_Tri_takeOut_43 rfl rfl rfl ?_
        refine go_callS (pc' := 47) (M' := M_Tri_takeOut) [_, _, _] d_Tri_takeOut_44 t_351 t_352 t_1 cd_Tri_takeOut nm_Tri_takeOut rfl rfl (Nat.le_of_ble_eq_true rfl) rfl (ih (l + 1) b (by omega) hcA) (by first | decide | omega) (Nat.le_of_ble_eq_true rfl) rfl (fun v hh hq => ?_) (fun q g hq => hq.elim)
        obtain ⟨rfl, f1, f2, hTn, hF⟩ := hq
        show Go K M_Tri_takeOut (r + 1 + 2) 47 _ [] hh _
        have hane : ¬ (∃ m, l + 1 ≤ m ∧ A m (q_p m key) = some a) := fun ⟨m, hm, hma⟩ => by
          have := (hP _ _ _ hma).symm.trans (hP _ _ _ ha)
          simp only [Prod.mk.injEq] at this
          omega
        have hNa := hN'.fo hF hane
        obtain ⟨p0, p1, p2⟩ := hNa
        have hex := fun (j : Nat) (hj : j < 4) (hl9 : l + 1 < 4) => q_dA_ex (key := key) hT (l + 1 + 1) (4 * q_p (l + 1) key + j)
        obtain ⟨n9, es9, k9, ns9, hN9, hn9, hk9, hon⟩ := (hTn (l + 1) b (Nat.le_refl _) hcA).only (by omega) (q_p_lt (by omega) key) hK.del (fun j hj hl9 => by
          rw [hex j hj hl9]
          have hpl : 4 * q_p (l + 1) key + j < 4 ^ (l + 1 + 1) := by
            have := q_p_lt (l := l + 1) (by omega) key
            rw [Nat.pow_succ]
            omega
          exact ⟨fun z => by rcases z.2.2 with z | z; omega; exact z, fun z => ⟨by omega, hpl, Or.inr z⟩⟩)
        have hb9 := hN9.1
        refine go_aload (pc' := 49) (i := 4) d_Tri_takeOut_47 rfl rfl rfl ?_
        refine go_callV (pc' := 52) (M' := M_Nod_onlyEntry) (ci := 2) (r := (n_Nod, T_Nod, 3)) [] d_Tri_takeOut_49 t_359 t_360 t_361 cd_Nod_onlyEntry nm_Nod_onlyEntry rfl (by rfl) (by first | assumption | exact x_up_self _ _ _ | exact x_nw_self _ _ _ | (rw [x_up_ne (by first | omega | (simp only [x_up, x_nw]; omega))]; first | assumption | exact x_up_self _ _ _ | (rw [x_up_ne (by first | omega | (simp only [x_up, x_nw]; omega))]; first | assumption | exact x_up_self _ _ _)) | (rw [x_nw_ne (by first | omega | (simp only [x_up, x_nw]; omega))]; first | assumption | exact x_up_self _ _ _ | (rw [x_up_ne (by first | omega | (simp only [x_up, x_nw]; omega))]; assumption))) rfl (Nat.le_of_ble_eq_true rfl) rfl (s_onlyEntry (d := r + 2) hN9 hn9 hk9) (by first | decide | omega) (Nat.le_of_ble_eq_true rfl) rfl (fun v h3 hq => ?_) (fun q g hq => by cases hq.1)
        obtain ⟨e8, rfl⟩ := hq
        cases e8
        generalize hoo : (if q_ct ns9 k9 = 0 then q_on es9 none n9 0 else none) = oo at hon ⊢
        show Go K M_Tri_takeOut (r + 1 + 2) 52 _ [va_rf oo] hh _
        refine go_astore (pc' := 54) (i := 5) d_Tri_takeOut_52 (by decide) (x_r_rf _) (x_s5 rfl) rfl ?_
        refine go_aload (pc' := 56) (i := 5) d_Tri_takeOut_54 rfl (by first | rfl | exact x_r_rf _) rfl ?_
        have hFl : Fo (fun z => ∃ m, l ≤ m ∧ A m (q_p m key) = some z) h hh := ⟨fun z hz => by
            obtain ⟨m, -, hm⟩ := hz
            obtain ⟨_, _, _, _, hN8, -⟩ := hT.nd hm
            exact ⟨_, _, _, _, _, hN8⟩, fun z c9 hz hw => hF.2 z c9 hz (fun a9 ⟨m, hm, hma⟩ => hw a9 ⟨m, by omega, hma⟩)⟩
        cases oo with
        | none =>
          refine go_ifnull_n (tgt := 74) d_Tri_takeOut_56 (by decide) ?_
          refine go_return d_Tri_takeOut_74 rfl ?_
          have hl2 : 2 ≤ (q_f (q_del ks key) (l + 1) (q_p (l + 1) key)).length := by
            have h9 := hon.to0
            apply Classical.byContradiction
            intro z
            have h10 : (q_f (q_del ks key) (l + 1) (q_p (l + 1) key)).length = 1 := by omega
            match hL : q_f (q_del ks key) (l + 1) (q_p (l + 1) key), h10, h9 with
            | [y], _, h9 => cases h9
          refine ⟨rfl, f1, f2, fun m b' hm hb' => ?_, hFl⟩
          by_cases hml : m = l
          · subst hml
            cases ha.symm.trans hb'
            refine ⟨fun _ => ⟨es, ns, ⟨p0, p1, p2⟩, fun j hj => ?_⟩, fun z => by omega⟩
            by_cases hjd : j = q_d m key
            · subst hjd
              rw [← q_p_s hl4, hns, hesn, q_1_two hl2]
              refine ⟨?_, trivial⟩
              unfold q_dA
              rw [if_pos (Or.inr hl2)]
            · obtain ⟨o1, o2⟩ := hoff j hj hjd
              rw [o1, o2]
              exact ⟨(hE j hj).1, (hE j hj).2.fo hF⟩
          · exact hTn m b' (by omega) hb'
        | some e =>
          obtain ⟨kv, h9, he9⟩ := hon.to
          have hl1 : (q_f (q_del ks key) (l + 1) (q_p (l + 1) key)).length = 1 := by
            apply Classical.byContradiction
            intro z
            rw [q_1_len z] at h9
            cases h9
          have heu := he9
          unfold Et at heu
          refine go_ifnull_r (pc' := 59) d_Tri_takeOut_56 rfl ?_
          refine go_aload_n (pc' := 60) (i := 0) d_Tri_takeOut_59 rfl rfl (by first | rfl | exact x_r_rf _) rfl ?_
          refine go_getfield (pc' := 63) d_Tri_takeOut_60 c_Nod 2 (by decide) t_46 (by first | assumption | exact x_up_self _ _ _ | exact x_nw_self _ _ _ | (rw [x_up_ne (by first | omega | (simp only [x_up, x_nw]; omega))]; first | assumption | exact x_up_self _ _ _ | (rw [x_up_ne (by first | omega | (simp only [x_up, x_nw]; omega))]; first | assumption | exact x_up_self _ _ _)) | (rw [x_nw_ne (by first | omega | (simp only [x_up, x_nw]; omega))]; first | assumption | exact x_up_self _ _ _ | (rw [x_up_ne (by first | omega | (simp only [x_up, x_nw]; omega))]; assumption))) (by rfl) rfl ?_
          refine go_iload_n (pc' := 64) (i := 3) d_Tri_takeOut_63 rfl rfl rfl ?_
          refine go_null (pc' := 65) d_Tri_takeOut_64 rfl ?_
          refine go_aastN' (pc' := 66) d_Tri_takeOut_65 (by assumption) (by rfl) (by omega) (by omega) rfl ?_
          have m0 : (x_up hh (a + 2) (.inl (4, 4, .inr (.inr (.inr (.inr (va_up ns (q_d l key) none))))))).2.2 a = _ := (x_up_ne (by omega)).trans p0
          have m1 : (x_up hh (a + 2) (.inl (4, 4, .inr (.inr (.inr (.inr (va_up ns (q_d l key) none))))))).2.2 (a + 1) = _ := (x_up_ne (by omega)).trans p1
          have hne2 : e ≠ a + 2 := fun z => by rw [z, p2] at heu; cases heu
          have me : (x_up hh (a + 2) (.inl (4, 4, .inr (.inr (.inr (.inr (va_up ns (q_d l key) none))))))).2.2 e = _ := (x_up_ne hne2).trans heu
          refine go_aload_n (pc' := 67) (i := 0) d_Tri_takeOut_66 rfl rfl (by first | rfl | exact x_r_rf _) rfl ?_
          refine go_getfield (pc' := 70) d_Tri_takeOut_67 c_Nod 1 (by decide) t_44 (by first | assumption | exact x_up_self _ _ _ | exact x_nw_self _ _ _ | (rw [x_up_ne (by first | omega | (simp only [x_up, x_nw]; omega))]; first | assumption | exact x_up_self _ _ _ | (rw [x_up_ne (by first | omega | (simp only [x_up, x_nw]; omega))]; first | assumption | exact x_up_self _ _ _)) | (rw [x_nw_ne (by first | omega | (simp only [x_up, x_nw]; omega))]; first | assumption | exact x_up_self _ _ _ | (rw [x_up_ne (by first | omega | (simp only [x_up, x_nw]; omega))]; assumption))) (by rfl) rfl ?_
          refine go_iload_n (pc' := 71) (i := 3) d_Tri_takeOut_70 rfl rfl rfl ?_
          refine go_aload (pc' := 73) (i := 5) d_Tri_takeOut_71 rfl rfl rfl ?_
          refine go_aastR (pc' := 74) d_Tri_takeOut_73 (by assumption) me (by rfl) (by rfl) (by omega) (by omega) rfl ?_
          refine go_return d_Tri_takeOut_74 rfl ?_
          have hF2 : Fo (fun z => z = a) hh (x_up (x_up hh (a + 2) (.inl (4, 4, .inr (.inr (.inr (.inr (va_up ns (q_d l key) none))))))) (a + 1) (.inl (3, 4, .inr (.inr (.inr (.inr (va_up es (q_d l key) (some e)))))))) := by
            refine ⟨fun z hz => ?_, fun z c9 hz hw => ?_⟩
            · have hz' : z = a := hz
              subst hz'
              exact ⟨_, _, _, _, _, p0, p1, p2⟩
            · rw [x_up_ne (hw a rfl).1, x_up_ne (hw a rfl).2]
              exact hz
          refine ⟨rfl, f1, f2, fun m b' hm hb' => ?_, ⟨hFl.1, fun z c9 hz hw => ?_⟩⟩
          · by_cases hml : m = l
            · subst hml
              cases ha.symm.trans hb'
              refine ⟨fun _ => ⟨_, _, ⟨(x_up_ne (by omega)).trans m0, x_up_self _ _ _, (x_up_ne (by omega)).trans (x_up_self _ _ _)⟩, fun j hj => ?_⟩, fun z => by omega⟩
              by_cases hjd : j = q_d m key
              · subst hjd
                rw [va_up_self, va_up_self, ← q_p_s hl4, h9]
                refine ⟨?_, he9.fo hF2⟩
                unfold q_dA
                rw [if_neg (by omega)]
              · obtain ⟨o1, o2⟩ := hoff j hj hjd
                rw [va_up_ne _ _ hjd, va_up_ne _ _ hjd, o1, o2]
                exact ⟨(hE j hj).1, ((hE j hj).2.fo hF).fo hF2⟩
            · exact (hTn m b' (by omega) hb').off hF2 (fun z => hane ⟨m, by omega, by rw [← (show b' = a from z)]; exact hb'⟩) rfl (fun _ _ => rfl) (fun _ _ => rfl) (fun _ => rfl)
          · have hz9 := hFl.2 z c9 hz hw
            rw [x_up_ne (hw a ⟨l, Nat.le_refl _, ha⟩).1, x_up_ne (hw a ⟨l, Nat.le_refl _, ha⟩).2]
            exact hz9
      · have hnone := hc
        have hlen := hT.no hl4 hc
        refine go_aload_n (pc' := 31) (i := 0) d_Tri_takeOut_30 rfl rfl (by first | rfl | exact x_r_rf _) rfl ?_
        refine go_getfield (pc' := 34) d_Tri_takeOut_31 c_Nod 1 (by decide) t_44 (by first | assumption | exact x_up_self _ _ _ | exact x_nw_self _ _ _ | (rw [x_up_ne (by first | omega | (simp only [x_up, x_nw]; omega))]; first | assumption | exact x_up_self _ _ _ | (rw [x_up_ne (by first | omega | (simp only [x_up, x_nw]; omega))]; first | assumption | exact x_up_self _ _ _)) | (rw [x_nw_ne (by first | omega | (simp only [x_up, x_nw]; omega))]; first | assumption | exact x_up_self _ _ _ | (rw [x_up_ne (by first | omega | (simp only [x_up, x_nw]; omega))]; assumption))) (by rfl) rfl ?_
        refine go_iload_n (pc' := 35) (i := 3) d_Tri_takeOut_34 rfl rfl rfl ?_
        refine go_null (pc' := 36) d_Tri_takeOut_35 rfl ?_
        refine go_aastN' (pc' := 37) d_Tri_takeOut_36 (by assumption) (by rfl) (by omega) (by omega) rfl ?_
        refine go_return d_Tri_takeOut_37 rfl ?_
        have hF : Fo (fun z => ∃ m, l ≤ m ∧ A m (q_p m key) = some z) h (x_up h (a + 1) (.inl (3, 4, .inr (.inr (.inr (.inr (va_up es (q_d l key) none))))))) := by
          refine ⟨fun z hz => ?_, fun z c9 hz hw => ?_⟩
          · obtain ⟨m, -, hm⟩ := hz
            obtain ⟨_, _, _, _, hN9, -⟩ := hT.nd hm
            exact ⟨_, _, _, _, _, hN9⟩
          · rw [x_up_ne (hw a ⟨l, Nat.le_refl _, ha⟩).1]
            exact hz
        refine ⟨rfl, rfl, rfl, fun m b hm hb => ?_, hF⟩
        by_cases hml : m = l
        · subst hml
          cases ha.symm.trans hb
          refine ⟨fun _ => ⟨_, ns, ⟨(x_up_ne (by omega)).trans h0, x_up_self _ _ _, (x_up_ne (by omega)).trans h2⟩, fun j hj => ?_⟩, fun z => by omega⟩
          by_cases hjd : j = q_d m key
          · subst hjd
            have hz : q_f (q_del ks key) (m + 1) (q_p (m + 1) key) = [] := List.length_eq_zero_iff.mp (by omega)
            rw [va_up_self, ← q_p_s hl4, hns, hz, hnone]
            refine ⟨?_, trivial⟩
            unfold q_dA
            rw [hz, if_neg (by simp)]
          · obtain ⟨o1, o2⟩ := hoff j hj hjd
            rw [va_up_ne _ _ hjd, o1, o2]
            exact ⟨(hE j hj).1, (hE j hj).2.fo hF⟩
        · have := hT.none_up key hnone (m - (l + 1))
          rw [show l + 1 + (m - (l + 1)) = m by omega, hb] at this
          cases this
    · omega
/-- .. and the whole trie, then -/
theorem Tr.taken (hT : Tr h A ks bel) (hP : Ps ps A) (hTn : ∀ m b, A m (q_p m key) = some b → Tn f (q_dA A (q_del ks key)) (q_del ks key) bel m (q_p m key) b) (hF : Fo (fun z => ∃ m, 0 ≤ m ∧ A m (q_p m key) = some z) h f) :
    Tr f (q_dA A (q_del ks key)) (q_del ks key) bel ∧ Ps ps (q_dA A (q_del ks key)) := by
  have hsub : ∀ l p a, q_dA A (q_del ks key) l p = some a → A l p = some a := fun l p a ha => by
    unfold q_dA at ha
    split at ha
    · exact ha
    · cases ha
  refine ⟨⟨fun l p => q_dA_ex hT l p, fun l p a ha => ?_⟩, fun l p a ha => hP _ _ _ (hsub _ _ _ ha)⟩
  have hA := hsub _ _ _ ha
  by_cases hp : p = q_p l key
  · subst hp
    exact hTn l a hA
  · have hne : ¬ (∃ m, 0 ≤ m ∧ A m (q_p m key) = some a) := fun ⟨m, _, hm⟩ => by
      have := (hP _ _ _ hm).symm.trans (hP _ _ _ hA)
      simp only [Prod.mk.injEq] at this
      obtain ⟨rfl, h9⟩ := this
      exact hp h9.symm
    by_cases hl4 : l < 4
    · exact (hT.2 _ _ a hA).off hF hne rfl (fun j hj => q_dA_off hT (q_p_ne hl4 hj (fun z => hp z.1))) (fun j hj => q_del_off (q_p_ne hl4 hj (fun z => hp z.1))) (fun h4 => by omega)
    · refine ⟨fun z => absurd z hl4, fun h4 => ?_⟩
      obtain ⟨es, ns, hN, hE⟩ := (hT.2 _ _ a hA).2 h4
      subst h4
      refine ⟨es, ns, hN.fo hF hne, fun j hj => ?_⟩
      rw [q_del_off hp]
      exact (hE j hj).fo hF
end RB
end
section
/-! the order in which an iterator goes -/
def q_lt (ks : List KV) (H : Nat) : Nat := (ks.filter (fun x => decide (q_h x.1 < H))).length
def q_srt (ks : List KV) : List KV := (List.range 256).flatMap (fun H => q_f ks 4 H)
section CA2
variable {ks : List KV}
theorem l_lt_add (P Q : Int32 → Bool) (hd : ∀ k, ¬ (P k = true ∧ Q k = true)) : ∀ ks : List KV, (ks.filter (fun x => P x.1 || Q x.1)).length = (ks.filter (fun x => P x.1)).length + (ks.filter (fun x => Q x.1)).length
  | [] => rfl
  | x :: r => by
    have ih := l_lt_add P Q hd r
    have h1 := hd x.1
    rw [List.filter_cons, List.filter_cons, List.filter_cons]
    cases hp : P x.1 <;> cases hq : Q x.1 <;> simp [hp, hq, ih] <;> first | omega | exact absurd ⟨hp, hq⟩ h1
theorem q_lt_mul {n m : Nat} (hm : m ≤ 4) (k : Int32) : (q_p m k = n) ↔ (n * 4 ^ (4 - m) ≤ q_h k ∧ q_h k < (n + 1) * 4 ^ (4 - m)) := by
  unfold q_p
  have hpos : 0 < 4 ^ (4 - m) := Nat.pow_pos (by decide)
  rw [Nat.div_eq_iff hpos]
  have e : (n + 1) * 4 ^ (4 - m) = n * 4 ^ (4 - m) + 4 ^ (4 - m) := by rw [Nat.add_mul, Nat.one_mul]
  rw [e]
  omega
theorem q_lt_s {n m : Nat} (hm : m ≤ 4) : q_lt ks ((n + 1) * 4 ^ (4 - m)) = q_lt ks (n * 4 ^ (4 - m)) + (q_f ks m n).length := by
  unfold q_lt q_f
  have key := l_lt_add (fun k => decide (q_h k < n * 4 ^ (4 - m))) (fun k => q_p m k == n) (fun k hk => by
    simp only [decide_eq_true_eq, beq_iff_eq] at hk
    have := (q_lt_mul hm k).mp hk.2
    omega) ks
  rw [← key]
  congr 1
  apply List.filter_congr
  intro x _
  have h1 := q_lt_mul (n := n) hm x.1
  have e : (n + 1) * 4 ^ (4 - m) = n * 4 ^ (4 - m) + 4 ^ (4 - m) := by rw [Nat.add_mul, Nat.one_mul]
  by_cases h2 : q_h x.1 < n * 4 ^ (4 - m)
  · have hpos : 0 < 4 ^ (4 - m) := Nat.pow_pos (by decide)
    have h3 : q_h x.1 < (n + 1) * 4 ^ (4 - m) := by rw [e]; exact Nat.lt_of_lt_of_le h2 (Nat.le_add_right _ _)
    simp [h2, h3]
  · by_cases h4 : q_p m x.1 = n
    · have h3 := (h1.mp h4).2
      simp [h4, h3]
    · have h3 : ¬ q_h x.1 < (n + 1) * 4 ^ (4 - m) := fun z => h4 (h1.mpr ⟨by omega, z⟩)
      simp [h2, h3, h4]
theorem q_lt_0 : q_lt ks 0 = 0 := by
  unfold q_lt
  simp
theorem q_lt_all : q_lt ks 256 = ks.length := by
  unfold q_lt
  rw [List.filter_eq_self.mpr]
  intro x _
  simp [q_h_lt]
theorem q_lt_1 (H : Nat) : q_lt ks (H + 1) = q_lt ks H + (q_f ks 4 H).length := by
  have := q_lt_s (ks := ks) (n := H) (m := 4) (by omega)
  simpa using this
theorem q_srt_pre (n : Nat) : ((List.range n).flatMap (fun H => q_f ks 4 H)).length = q_lt ks n := by
  induction n with
  | zero => rw [q_lt_0]; rfl
  | succ n ih =>
    rw [List.range_succ, List.flatMap_append, List.length_append, ih, q_lt_1]
    simp
theorem q_srt_len : (q_srt ks).length = ks.length := by
  unfold q_srt
  rw [q_srt_pre, q_lt_all]
theorem q_srt_at {H i : Nat} (hH : H < 256) (hi : i < (q_f ks 4 H).length) : (q_srt ks)[q_lt ks H + i]? = (q_f ks 4 H)[i]? := by
  unfold q_srt
  have e : List.range 256 = List.range H ++ H :: List.range' (H + 1) (255 - H) := by
    have h1 : List.range 256 = List.range' 0 256 := List.range_eq_range'
    have h2 : List.range H = List.range' 0 H := List.range_eq_range'
    rw [h1, h2, show (256 : Nat) = H + (255 - H + 1) by omega, ← List.range'_append_1, Nat.zero_add]
    rfl
  rw [e, List.flatMap_append, List.flatMap_cons, List.getElem?_append_right (by rw [q_srt_pre]; omega), q_srt_pre, Nat.add_sub_cancel_left, List.getElem?_append_left hi]
/-- the only key below a place is the next one -/
theorem q_srt_one {m n : Nat} (hm : m ≤ 4) {x : KV} (h1 : q_f ks m n = [x]) : (q_srt ks)[q_lt ks (n * 4 ^ (4 - m))]? = some x := by
  have hx : x ∈ q_f ks m n := by rw [h1]; exact List.mem_cons_self
  obtain ⟨hx1, hx2⟩ := q_f_mem.mp hx
  have h2 := (q_lt_mul hm x.1).mp hx2
  have hxh : q_f ks 4 (q_h x.1) = [x] := by
    have e : q_f ks 4 (q_h x.1) = q_f (q_f ks m n) 4 (q_h x.1) := by
      unfold q_f
      rw [List.filter_filter]
      apply List.filter_congr
      intro y _
      by_cases hy : q_p 4 y.1 = q_h x.1
      · have hyn : q_p m y.1 = n := by
          rw [q_p_4] at hy
          rw [← hx2]
          unfold q_p
          rw [hy]
        simp [hy, hyn]
      · simp [hy]
    rw [e, h1]
    unfold q_f
    simp [q_p_4]
  have hmono : ∀ i, n * 4 ^ (4 - m) + i ≤ q_h x.1 → q_lt ks (n * 4 ^ (4 - m) + i) = q_lt ks (n * 4 ^ (4 - m)) := by
    intro i
    induction i with
    | zero => intro _; rfl
    | succ i ih =>
      intro hi
      rw [show n * 4 ^ (4 - m) + (i + 1) = n * 4 ^ (4 - m) + i + 1 by omega, q_lt_1, ih (by omega)]
      have : q_f ks 4 (n * 4 ^ (4 - m) + i) = [] := by
        rw [List.eq_nil_iff_forall_not_mem]
        intro y hy
        obtain ⟨hy1, hy2⟩ := q_f_mem.mp hy
        rw [q_p_4] at hy2
        have hyn : y ∈ q_f ks m n := q_f_mem.mpr ⟨hy1, (q_lt_mul hm y.1).mpr ⟨by omega, by omega⟩⟩
        rw [h1] at hyn
        simp at hyn
        rw [hyn] at hy2
        omega
      rw [this]
      rfl
  have h3 := hmono (q_h x.1 - n * 4 ^ (4 - m)) (by omega)
  rw [show n * 4 ^ (4 - m) + (q_h x.1 - n * 4 ^ (4 - m)) = q_h x.1 by omega] at h3
  rw [← h3]
  have h4 := q_srt_at (ks := ks) (H := q_h x.1) (i := 0) (q_h_lt x.1) (by rw [hxh]; simp)
  rw [hxh, Nat.add_zero] at h4
  exact h4
end CA2
end
section
def Cu (h : x_H) (q : Nat) (L : Int32) (way : Nat → Option Nat) (pl : Nat → Int32) : Prop :=
  h.2.2 q = some (.inr (0, [.ref (q + 1), .ref (q + 2), .int L])) ∧ h.2.2 (q + 1) = some (.inl (4, 5, .inr (.inr (.inr (.inr way))))) ∧ h.2.2 (q + 2) = some (.inl (0, 5, .inl pl))
/-- where an iterator stands: level L, on the way P, n places of each node behind it; far keys gone by -/
def Cq (A : Nat → Nat → Option Nat) (ks : List KV) (L : Nat) (way : Nat → Option Nat) (pl : Nat → Int32) (P n : Nat → Nat) (far : Nat) : Prop :=
  L ≤ 4 ∧ (∀ j, j ≤ L → ∃ a, A j (P j) = some a ∧ way j = some a) ∧ P 0 = 0 ∧ (∀ j, j < L → P (j + 1) + 1 = 4 * P j + n j ∧ 1 ≤ n j ∧ n j ≤ 4) ∧ (∀ j, j ≤ L → pl j = nI (n j)) ∧
  (L < 4 → n L ≤ 4 ∧ far = q_lt ks ((4 * P L + n L) * 4 ^ (3 - L))) ∧ (L = 4 → n 4 ≤ 6 ∧ far = q_lt ks (P 4) + min (n 4) (q_f ks 4 (P 4)).length)
def Cr (h : x_H) (q : Nat) (A : Nat → Nat → Option Nat) (ks : List KV) (far : Nat) : Prop :=
  (∃ L way pl P n, Cu h q (nI L) way pl ∧ Cq A ks L way pl P n far) ∨ (∃ way pl, Cu h q (-1) way pl ∧ far = ks.length)
section CB
variable {K : x_K} {d : Nat} {h f : x_H} {A : Nat → Nat → Option Nat} {ks : List KV} {bel : Nat → Nat → Int32} {q a b : Nat} {L : Int32} {way : Nat → Option Nat} {pl : Nat → Int32}
theorem Tr.off3 (hT : Tr h A ks bel) (hC : Cu h q L way pl) (hag : ∀ b, b ≠ q → b ≠ q + 1 → b ≠ q + 2 → f.2.2 b = h.2.2 b) : Tr f A ks bel ∧ ∀ e k v, Et h e k v → Et f e k v := by
  have hE : ∀ e k v, Et h e k v → Et f e k v := by
    intro e k v he
    have he' := he
    unfold Et at he
    have n0 : e ≠ q := fun z => by rw [z, hC.1] at he; cases he
    have n1 : e ≠ q + 1 := fun z => by rw [z, hC.2.1] at he; cases he
    have n2 : e ≠ q + 2 := fun z => by rw [z, hC.2.2] at he; cases he
    unfold Et
    rw [hag e n0 n1 n2]
    exact he
  have hEo : ∀ o x, Eo h o x → Eo f o x := by
    intro o x he
    cases o with
    | none => cases x with
      | none => trivial
      | some y => exact he.elim
    | some e => cases x with
      | none => exact he.elim
      | some y => exact hE _ _ _ he
  have hNd : ∀ a g n es k ns, (k = 4 ∨ k = 0) → Nd h a g n es k ns → Nd f a g n es k ns := by
    intro a g n es k ns hk hN
    have key : ∀ z c, h.2.2 z = some c → c ≠ .inr (0, [.ref (q + 1), .ref (q + 2), .int L]) → c ≠ .inl (4, 5, .inr (.inr (.inr (.inr way)))) → c ≠ .inl (0, 5, .inl pl) → f.2.2 z = some c := by
      intro z c hz c0 c1 c2
      rw [hag z (fun e => c0 (by rw [e, hC.1] at hz; exact (Option.some.inj hz).symm)) (fun e => c1 (by rw [e, hC.2.1] at hz; exact (Option.some.inj hz).symm)) (fun e => c2 (by rw [e, hC.2.2] at hz; exact (Option.some.inj hz).symm))]
      exact hz
    refine ⟨key _ _ hN.1 (fun z => by cases z) (fun z => by cases z) (fun z => by cases z), key _ _ hN.2.1 (fun z => by cases z) (fun z => by cases z) (fun z => by cases z), key _ _ hN.2.2 (fun z => by cases z) (fun z => ?_) (fun z => by cases z)⟩
    simp only [Sum.inl.injEq, Prod.mk.injEq] at z
    omega
  refine ⟨⟨hT.1, fun l p a ha => ⟨fun hl => ?_, fun hl => ?_⟩⟩, hE⟩
  · obtain ⟨es, ns, hN, hE2⟩ := (hT.2 l p a ha).1 hl
    exact ⟨es, ns, hNd _ _ _ _ _ _ (Or.inl rfl) hN, fun j hj => ⟨(hE2 j hj).1, hEo _ _ (hE2 j hj).2⟩⟩
  · obtain ⟨es, ns, hN, hE2⟩ := (hT.2 l p a ha).2 hl
    exact ⟨es, ns, hNd _ _ _ _ _ _ (Or.inr rfl) hN, fun j hj => hEo _ _ (hE2 j hj)⟩
theorem s_goInto0 {x : Value} : Go K M_Cur_goInto d 0 [some (.ref q), some .null] [] h (x_is none h) := by
  refine go_aload_n (pc' := 1) (i := 1) d_Cur_goInto_0 rfl rfl (by first | rfl | exact x_r_rf _) rfl ?_
  refine go_ifnull_n (tgt := 42) d_Cur_goInto_1 (by decide) ?_
  refine go_return d_Cur_goInto_42 rfl ?_
  exact ⟨rfl, rfl⟩
theorem s_goInto4 (hC : Cu h q (nI 4) way pl) : Go K M_Cur_goInto d 0 [some (.ref q), some (.ref b)] [] h (x_is none h) := by
  obtain ⟨h0, h1, h2⟩ := hC
  refine go_aload_n (pc' := 1) (i := 1) d_Cur_goInto_0 rfl rfl (by first | rfl | exact x_r_rf _) rfl ?_
  refine go_ifnull_r (pc' := 4) d_Cur_goInto_1 rfl ?_
  refine go_aload_n (pc' := 5) (i := 0) d_Cur_goInto_4 rfl rfl (by first | rfl | exact x_r_rf _) rfl ?_
  refine go_getfield (pc' := 8) d_Cur_goInto_5 c_Cur 2 (by decide) t_411 (by first | assumption | exact x_up_self _ _ _ | exact x_nw_self _ _ _ | (rw [x_up_ne (by first | omega | (simp only [x_up, x_nw]; omega))]; first | assumption | exact x_up_self _ _ _ | (rw [x_up_ne (by first | omega | (simp only [x_up, x_nw]; omega))]; first | assumption | exact x_up_self _ _ _)) | (rw [x_nw_ne (by first | omega | (simp only [x_up, x_nw]; omega))]; first | assumption | exact x_up_self _ _ _ | (rw [x_up_ne (by first | omega | (simp only [x_up, x_nw]; omega))]; assumption))) (by rfl) rfl ?_
  refine go_iconst (pc' := 9) (v := (nI 4)) d_Cur_goInto_8 (by decide) rfl ?_
  refine go_icmp_geN (tgt := 42) (pc' := 12) d_Cur_goInto_9 (by decide) rfl (by omega) (by omega) (fun hc => ?_) (fun hc => ?_)
  · refine go_return d_Cur_goInto_42 rfl ?_
    exact ⟨rfl, rfl⟩
  · omega
theorem s_goInto {l : Nat} (hl : l < 4) (hC : Cu h q (nI l) way pl) {vs : List Value} (hb : h.2.2 b = some (.inr (2, vs))) : Go K M_Cur_goInto d 0 [some (.ref q), some (.ref b)] [] h
    (x_rt (fun v f => v = none ∧ f.1 = h.1 ∧ f.2.1 = h.2.1 ∧ Cu f q (nI (l + 1)) (va_up way (l + 1) (some b)) (va_up pl (l + 1) (nI 0)) ∧ ∀ z, z ≠ q → z ≠ q + 1 → z ≠ q + 2 → f.2.2 z = h.2.2 z)) := by
  obtain ⟨h0, h1, h2⟩ := hC
  have hbq : b ≠ q := fun z => by rw [z, h0] at hb; cases hb
  refine go_aload_n (pc' := 1) (i := 1) d_Cur_goInto_0 rfl rfl (by first | rfl | exact x_r_rf _) rfl ?_
  refine go_ifnull_r (pc' := 4) d_Cur_goInto_1 rfl ?_
  refine go_aload_n (pc' := 5) (i := 0) d_Cur_goInto_4 rfl rfl (by first | rfl | exact x_r_rf _) rfl ?_
  refine go_getfield (pc' := 8) d_Cur_goInto_5 c_Cur 2 (by decide) t_411 (by first | assumption | exact x_up_self _ _ _ | exact x_nw_self _ _ _ | (rw [x_up_ne (by first | omega | (simp only [x_up, x_nw]; omega))]; first | assumption | exact x_up_self _ _ _ | (rw [x_up_ne (by first | omega | (simp only [x_up, x_nw]; omega))]; first | assumption | exact x_up_self _ _ _)) | (rw [x_nw_ne (by first | omega | (simp only [x_up, x_nw]; omega))]; first | assumption | exact x_up_self _ _ _ | (rw [x_up_ne (by first | omega | (simp only [x_up, x_nw]; omega))]; assumption))) (by rfl) rfl ?_
  refine go_iconst (pc' := 9) (v := (nI 4)) d_Cur_goInto_8 (by decide) rfl ?_
  refine go_icmp_geN (tgt := 42) (pc' := 12) d_Cur_goInto_9 (by decide) rfl (by omega) (by omega) (fun hc => ?_) (fun hc => ?_)
  · omega
  · refine go_aload_n (pc' := 13) (i := 0) d_Cur_goInto_12 rfl rfl (by first | rfl | exact x_r_rf _) rfl ?_
    refine go_dup (pc' := 14) d_Cur_goInto_13 (by first | rfl | exact x_c_rf _) rfl ?_
    refine go_getfield (pc' := 17) d_Cur_goInto_14 c_Cur 2 (by decide) t_411 (by first | assumption | exact x_up_self _ _ _ | exact x_nw_self _ _ _ | (rw [x_up_ne (by first | omega | (simp only [x_up, x_nw]; omega))]; first | assumption | exact x_up_self _ _ _ | (rw [x_up_ne (by first | omega | (simp only [x_up, x_nw]; omega))]; first | assumption | exact x_up_self _ _ _)) | (rw [x_nw_ne (by first | omega | (simp only [x_up, x_nw]; omega))]; first | assumption | exact x_up_self _ _ _ | (rw [x_up_ne (by first | omega | (simp only [x_up, x_nw]; omega))]; assumption))) (by rfl) rfl ?_
    refine go_iconst (pc' := 18) (v := (nI 1)) d_Cur_goInto_17 (by decide) rfl ?_
    refine go_iadd (pc' := 19) d_Cur_goInto_18 rfl ?_
    rw [nI_add]
    refine go_putfield (pc' := 22) d_Cur_goInto_19 c_Cur 2 (by decide) rfl t_411 (by first | assumption | exact x_up_self _ _ _ | exact x_nw_self _ _ _ | (rw [x_up_ne (by first | omega | (simp only [x_up, x_nw]; omega))]; first | assumption | exact x_up_self _ _ _ | (rw [x_up_ne (by first | omega | (simp only [x_up, x_nw]; omega))]; first | assumption | exact x_up_self _ _ _)) | (rw [x_nw_ne (by first | omega | (simp only [x_up, x_nw]; omega))]; first | assumption | exact x_up_self _ _ _ | (rw [x_up_ne (by first | omega | (simp only [x_up, x_nw]; omega))]; assumption))) (by rfl) (by rfl) (by first | exact Nat.le_of_ble_eq_true rfl | simp) rfl ?_
    refine go_aload_n (pc' := 23) (i := 0) d_Cur_goInto_22 rfl rfl (by first | rfl | exact x_r_rf _) rfl ?_
    refine go_getfield (pc' := 26) d_Cur_goInto_23 c_Cur 0 (by decide) t_409 (by first | assumption | exact x_up_self _ _ _ | exact x_nw_self _ _ _ | (rw [x_up_ne (by first | omega | (simp only [x_up, x_nw]; omega))]; first | assumption | exact x_up_self _ _ _ | (rw [x_up_ne (by first | omega | (simp only [x_up, x_nw]; omega))]; first | assumption | exact x_up_self _ _ _)) | (rw [x_nw_ne (by first | omega | (simp only [x_up, x_nw]; omega))]; first | assumption | exact x_up_self _ _ _ | (rw [x_up_ne (by first | omega | (simp only [x_up, x_nw]; omega))]; assumption))) (by rfl) rfl ?_
    refine go_aload_n (pc' := 27) (i := 0) d_Cur_goInto_26 rfl rfl (by first | rfl | exact x_r_rf _) rfl ?_
    refine go_getfield (pc' := 30) d_Cur_goInto_27 c_Cur 2 (by decide) t_411 (by first | assumption | exact x_up_self _ _ _ | exact x_nw_self _ _ _ | (rw [x_up_ne (by first | omega | (simp only [x_up, x_nw]; omega))]; first | assumption | exact x_up_self _ _ _ | (rw [x_up_ne (by first | omega | (simp only [x_up, x_nw]; omega))]; first | assumption | exact x_up_self _ _ _)) | (rw [x_nw_ne (by first | omega | (simp only [x_up, x_nw]; omega))]; first | assumption | exact x_up_self _ _ _ | (rw [x_up_ne (by first | omega | (simp only [x_up, x_nw]; omega))]; assumption))) (by rfl) rfl ?_
    refine go_aload_n (pc' := 31) (i := 1) d_Cur_goInto_30 rfl rfl (by first | rfl | exact x_r_rf _) rfl ?_
    refine go_aastR (pc' := 32) d_Cur_goInto_31 (by rw [x_up_ne (by omega)]; exact h1) (by rw [x_up_ne hbq]; exact hb) (by rfl) (by rfl) (by omega) (by omega) rfl ?_
    refine go_aload_n (pc' := 33) (i := 0) d_Cur_goInto_32 rfl rfl (by first | rfl | exact x_r_rf _) rfl ?_
    refine go_getfield (pc' := 36) d_Cur_goInto_33 c_Cur 1 (by decide) t_410 (by first | assumption | exact x_up_self _ _ _ | exact x_nw_self _ _ _ | (rw [x_up_ne (by first | omega | (simp only [x_up, x_nw]; omega))]; first | assumption | exact x_up_self _ _ _ | (rw [x_up_ne (by first | omega | (simp only [x_up, x_nw]; omega))]; first | assumption | exact x_up_self _ _ _)) | (rw [x_nw_ne (by first | omega | (simp only [x_up, x_nw]; omega))]; first | assumption | exact x_up_self _ _ _ | (rw [x_up_ne (by first | omega | (simp only [x_up, x_nw]; omega))]; assumption))) (by rfl) rfl ?_
    refine go_aload_n (pc' := 37) (i := 0) d_Cur_goInto_36 rfl rfl (by first | rfl | exact x_r_rf _) rfl ?_
    refine go_getfield (pc' := 40) d_Cur_goInto_37 c_Cur 2 (by decide) t_411 (by first | assumption | exact x_up_self _ _ _ | exact x_nw_self _ _ _ | (rw [x_up_ne (by first | omega | (simp only [x_up, x_nw]; omega))]; first | assumption | exact x_up_self _ _ _ | (rw [x_up_ne (by first | omega | (simp only [x_up, x_nw]; omega))]; first | assumption | exact x_up_self _ _ _)) | (rw [x_nw_ne (by first | omega | (simp only [x_up, x_nw]; omega))]; first | assumption | exact x_up_self _ _ _ | (rw [x_up_ne (by first | omega | (simp only [x_up, x_nw]; omega))]; assumption))) (by rfl) rfl ?_
    refine go_iconst (pc' := 41) (v := (nI 0)) d_Cur_goInto_40 (by decide) rfl ?_
    refine go_iastN (pc' := 42) d_Cur_goInto_41 (by rw [x_up_ne (by omega), x_up_ne (by omega)]; exact h2) (by rfl) (by omega) (by omega) rfl ?_
    refine go_return d_Cur_goInto_42 rfl ?_
    refine ⟨rfl, rfl, rfl, ⟨?_, ?_, x_up_self _ _ _⟩, fun z z0 z1 z2 => ?_⟩
    · rw [x_up_ne (by omega), x_up_ne (by omega)]
      exact x_up_self _ _ _
    · rw [x_up_ne (by omega)]
      exact x_up_self _ _ _
    · rw [x_up_ne z2, x_up_ne z1, x_up_ne z0]
/-- how many turns are left at the most -/
def q_mu (L : Nat) (P n : Nat → Nat) : Nat := if L < 4 then (256 - (4 * P L + n L) * 4 ^ (3 - L)) * 64 + (if n L = 4 then 32 + L else 12 - L) else (256 - P 4) * 64 + (6 - n 4)
end CB
end
section
section CC
variable {K : x_K} {d : Nat} {h f : x_H} {A : Nat → Nat → Option Nat} {ks : List KV} {bel : Nat → Nat → Int32} {q a b : Nat} {way : Nat → Option Nat} {pl : Nat → Int32}
theorem q_bd {L : Nat} (hT : Tr h A ks bel) {P : Nat} (ha : A L P = some a) {x : Nat} (hx : x ≤ 4) (hL : L < 4) : (4 * P + x) * 4 ^ (3 - L) ≤ 256 := by
  have h1 := ((hT.1 _ _).mp ⟨a, ha⟩).2.1
  have h2 : (4 * P + x) ≤ 4 * 4 ^ L := by omega
  have h3 : 4 * 4 ^ L * 4 ^ (3 - L) = 256 := by
    have : 4 * 4 ^ L * 4 ^ (3 - L) = 4 ^ (1 + L + (3 - L)) := by rw [Nat.pow_add, Nat.pow_add, Nat.pow_one]
    rw [this, show 1 + L + (3 - L) = 4 by omega]
  rw [← h3]
  exact Nat.mul_le_mul_right _ h2
theorem q_e5 {L : Nat} (x : Nat) (h : L + 1 < 4) : (4 * x + 0) * 4 ^ (3 - (L + 1)) = x * 4 ^ (3 - L) := by
  rw [Nat.add_zero, Nat.mul_comm 4 x, Nat.mul_assoc, show 3 - L = 3 - (L + 1) + 1 by omega, Nat.pow_succ, Nat.mul_comm (4 ^ (3 - (L + 1))) 4]
set_option maxRecDepth 100000 in
set_option maxHeartbeats 1000000 in
theorem s_advance (hT : Tr h A ks bel) (hK : Ko ks) {far : Nat} (hC0 : Cr h q A ks far) (hd : 1 ≤ d) :
    Go K M_Cur_advance d 0 [some (.ref q), none, none, none] [] h (x_rt (fun v f => f.1 = h.1 ∧ f.2.1 = h.2.1 ∧ (∀ z, z ≠ q → z ≠ q + 1 → z ≠ q + 2 → f.2.2 z = h.2.2 z) ∧
      ((far < ks.length ∧ ∃ e x, v = some (.ref e) ∧ (q_srt ks)[far]? = some x ∧ Et f e x.1 x.2 ∧ Cr f q A ks (far + 1)) ∨ (far = ks.length ∧ v = some .null ∧ ∃ L way pl, Cu f q L way pl)))) := by
  obtain ⟨Q, hQ⟩ : ∃ Q : x_O → x_H → Prop, Q = (x_rt (fun v f => f.1 = h.1 ∧ f.2.1 = h.2.1 ∧ (∀ z, z ≠ q → z ≠ q + 1 → z ≠ q + 2 → f.2.2 z = h.2.2 z) ∧
      ((far < ks.length ∧ ∃ e x, v = some (.ref e) ∧ (q_srt ks)[far]? = some x ∧ Et f e x.1 x.2 ∧ Cr f q A ks (far + 1)) ∨ (far = ks.length ∧ v = some .null ∧ ∃ L way pl, Cu f q L way pl)))) := ⟨_, rfl⟩
  rw [← hQ]
  have fin : ∀ s f way pl x2 x3, s ≤ 1000000 → f.1 = h.1 → f.2.1 = h.2.1 → (∀ z, z ≠ q → z ≠ q + 1 → z ≠ q + 2 → f.2.2 z = h.2.2 z) → Cu f q (-1) way pl → far = ks.length →
      Go K M_Cur_advance d 2 [some (.ref q), some (.int (nI s)), x2, x3] [] f Q := by
    intro s f way pl x2 x3 hs f1 f2 hag hC hfar
    have hC' := hC
    obtain ⟨c0, c1, c2⟩ := hC
    have ret : Go K M_Cur_advance d 104 [some (.ref q), some (.int (nI s)), x2, x3] [] f Q := by
      refine go_null (pc' := 105) d_Cur_advance_104 rfl ?_
      refine go_areturn d_Cur_advance_105 rfl ⟨_, rfl⟩ (by first | rfl | exact x_r_rf _) ?_
      rw [hQ]
      exact ⟨f1, f2, hag, Or.inr ⟨hfar, rfl, _, _, _, hC'⟩⟩
    refine go_iload_n (pc' := 3) (i := 1) d_Cur_advance_2 rfl rfl rfl ?_
    refine go_ldc (pc' := 5) (v := nI 1000000) d_Cur_advance_3 t_435 rfl ?_
    refine go_icmp_geN (tgt := 104) (pc' := 8) d_Cur_advance_5 (by decide) rfl (by omega) (by omega) (fun hc => ?_) (fun hc => ?_)
    · exact ret
    · refine go_aload_n (pc' := 9) (i := 0) d_Cur_advance_8 rfl rfl (by first | rfl | exact x_r_rf _) rfl ?_
      refine go_getfield (pc' := 12) d_Cur_advance_9 c_Cur 2 (by decide) t_411 (by first | assumption | exact x_up_self _ _ _ | exact x_nw_self _ _ _ | (rw [x_up_ne (by first | omega | (simp only [x_up, x_nw]; omega))]; first | assumption | exact x_up_self _ _ _ | (rw [x_up_ne (by first | omega | (simp only [x_up, x_nw]; omega))]; first | assumption | exact x_up_self _ _ _)) | (rw [x_nw_ne (by first | omega | (simp only [x_up, x_nw]; omega))]; first | assumption | exact x_up_self _ _ _ | (rw [x_up_ne (by first | omega | (simp only [x_up, x_nw]; omega))]; assumption))) (by rfl) rfl ?_
      refine go_if_lt (tgt := 104) (pc' := 15) d_Cur_advance_12 (by decide) rfl (fun hc => ?_) (fun hc => ?_)
      · exact ret
      · exact absurd (by decide) hc
  have cuC : ∀ {f : x_H} {L way pl}, Cu f q L way pl → (∀ z, z ≠ q → z ≠ q + 1 → z ≠ q + 2 → f.2.2 z = h.2.2 z) → Tr f A ks bel := by
    intro f L way pl hC hag
    rcases hC0 with ⟨L0, way0, pl0, P0, n0, hCu0, -⟩ | ⟨way0, pl0, hCu0, -⟩
    · exact (hT.off3 hCu0 hag).1
    · exact (hT.off3 hCu0 hag).1
  have loop : ∀ N s f L way pl P n x2 x3, s + N ≤ 1000000 → f.1 = h.1 → f.2.1 = h.2.1 → (∀ z, z ≠ q → z ≠ q + 1 → z ≠ q + 2 → f.2.2 z = h.2.2 z) → Cu f q (nI L) way pl → Cq A ks L way pl P n far → q_mu L P n < N → x_k x2 = x2 →
      Go K M_Cur_advance d 2 [some (.ref q), some (.int (nI s)), x2, x3] [] f Q := by
    intro N
    induction N with
    | zero => intro s f L way pl P n x2 x3 _ _ _ _ _ _ hmu; omega
    | succ N ih =>
      intro s f L way pl P n x2 x3 hs f1 f2 hag hC hq hmu k2
      have hTf := cuC hC hag
      have hC' := hC
      obtain ⟨c0, c1, c2⟩ := hC
      obtain ⟨q1, q2, q3, q4, q5, q6, q7⟩ := hq
      obtain ⟨a, ha, hwa⟩ := q2 L (Nat.le_refl _)
      obtain ⟨nn, es, k, ns, hN, hnk, hEs, hMs, hcs⟩ := hTf.nd ha
      have hN' := hN
      obtain ⟨n0, n1, n2⟩ := hN
      have hpl := q5 L (Nat.le_refl _)
      have hn6 : n L ≤ 6 := by
        by_cases hl4 : L < 4
        · have := (q6 hl4).1; omega
        · have := (q7 (by omega)).1
          rw [show L = 4 by omega]
          exact this
      refine go_iload_n (pc' := 3) (i := 1) d_Cur_advance_2 rfl rfl rfl ?_
      refine go_ldc (pc' := 5) (v := nI 1000000) d_Cur_advance_3 t_435 rfl ?_
      refine go_icmp_geN (tgt := 104) (pc' := 8) d_Cur_advance_5 (by decide) rfl (by omega) (by omega) (fun hc => ?_) (fun hc => ?_)
      · omega
      · refine go_aload_n (pc' := 9) (i := 0) d_Cur_advance_8 rfl rfl (by first | rfl | exact x_r_rf _) rfl ?_
        refine go_getfield (pc' := 12) d_Cur_advance_9 c_Cur 2 (by decide) t_411 (by first | assumption | exact x_up_self _ _ _ | exact x_nw_self _ _ _ | (rw [x_up_ne (by first | omega | (simp only [x_up, x_nw]; omega))]; first | assumption | exact x_up_self _ _ _ | (rw [x_up_ne (by first | omega | (simp only [x_up, x_nw]; omega))]; first | assumption | exact x_up_self _ _ _)) | (rw [x_nw_ne (by first | omega | (simp only [x_up, x_nw]; omega))]; first | assumption | exact x_up_self _ _ _ | (rw [x_up_ne (by first | omega | (simp only [x_up, x_nw]; omega))]; assumption))) (by rfl) rfl ?_
        refine go_if_lt (tgt := 104) (pc' := 15) d_Cur_advance_12 (by decide) rfl (fun hc => ?_) (fun hc => ?_)
        · exfalso
          rw [show (0 : Int32) = nI 0 from rfl, nI_ltI (by omega) (by omega)] at hc
          omega
        · refine go_aload_n (pc' := 16) (i := 0) d_Cur_advance_15 rfl rfl (by first | rfl | exact x_r_rf _) rfl ?_
          refine go_getfield (pc' := 19) d_Cur_advance_16 c_Cur 0 (by decide) t_409 (by first | assumption | exact x_up_self _ _ _ | exact x_nw_self _ _ _ | (rw [x_up_ne (by first | omega | (simp only [x_up, x_nw]; omega))]; first | assumption | exact x_up_self _ _ _ | (rw [x_up_ne (by first | omega | (simp only [x_up, x_nw]; omega))]; first | assumption | exact x_up_self _ _ _)) | (rw [x_nw_ne (by first | omega | (simp only [x_up, x_nw]; omega))]; first | assumption | exact x_up_self _ _ _ | (rw [x_up_ne (by first | omega | (simp only [x_up, x_nw]; omega))]; assumption))) (by rfl) rfl ?_
          refine go_aload_n (pc' := 20) (i := 0) d_Cur_advance_19 rfl rfl (by first | rfl | exact x_r_rf _) rfl ?_
          refine go_getfield (pc' := 23) d_Cur_advance_20 c_Cur 2 (by decide) t_411 (by first | assumption | exact x_up_self _ _ _ | exact x_nw_self _ _ _ | (rw [x_up_ne (by first | omega | (simp only [x_up, x_nw]; omega))]; first | assumption | exact x_up_self _ _ _ | (rw [x_up_ne (by first | omega | (simp only [x_up, x_nw]; omega))]; first | assumption | exact x_up_self _ _ _)) | (rw [x_nw_ne (by first | omega | (simp only [x_up, x_nw]; omega))]; first | assumption | exact x_up_self _ _ _ | (rw [x_up_ne (by first | omega | (simp only [x_up, x_nw]; omega))]; assumption))) (by rfl) rfl ?_
          refine go_aaldN (pc' := 24) d_Cur_advance_23 (by first | assumption | exact x_up_self _ _ _ | exact x_nw_self _ _ _ | (rw [x_up_ne (by first | omega | (simp only [x_up, x_nw]; omega))]; first | assumption | exact x_up_self _ _ _ | (rw [x_up_ne (by first | omega | (simp only [x_up, x_nw]; omega))]; first | assumption | exact x_up_self _ _ _)) | (rw [x_nw_ne (by first | omega | (simp only [x_up, x_nw]; omega))]; first | assumption | exact x_up_self _ _ _ | (rw [x_up_ne (by first | omega | (simp only [x_up, x_nw]; omega))]; assumption))) (by rfl) (by first | assumption | omega | (simp only [x_up, x_nw]; omega)) (by first | assumption | omega | (simp only [x_up, x_nw]; omega)) rfl ?_
          rw [hwa]
          refine go_astore_n (pc' := 25) (i := 2) d_Cur_advance_24 rfl (by decide) rfl (x_s2 rfl) rfl ?_
          refine go_aload_n (pc' := 26) (i := 0) d_Cur_advance_25 rfl rfl (by first | rfl | exact x_r_rf _) rfl ?_
          refine go_getfield (pc' := 29) d_Cur_advance_26 c_Cur 1 (by decide) t_410 (by first | assumption | exact x_up_self _ _ _ | exact x_nw_self _ _ _ | (rw [x_up_ne (by first | omega | (simp only [x_up, x_nw]; omega))]; first | assumption | exact x_up_self _ _ _ | (rw [x_up_ne (by first | omega | (simp only [x_up, x_nw]; omega))]; first | assumption | exact x_up_self _ _ _)) | (rw [x_nw_ne (by first | omega | (simp only [x_up, x_nw]; omega))]; first | assumption | exact x_up_self _ _ _ | (rw [x_up_ne (by first | omega | (simp only [x_up, x_nw]; omega))]; assumption))) (by rfl) rfl ?_
          refine go_aload_n (pc' := 30) (i := 0) d_Cur_advance_29 rfl rfl (by first | rfl | exact x_r_rf _) rfl ?_
          refine go_getfield (pc' := 33) d_Cur_advance_30 c_Cur 2 (by decide) t_411 (by first | assumption | exact x_up_self _ _ _ | exact x_nw_self _ _ _ | (rw [x_up_ne (by first | omega | (simp only [x_up, x_nw]; omega))]; first | assumption | exact x_up_self _ _ _ | (rw [x_up_ne (by first | omega | (simp only [x_up, x_nw]; omega))]; first | assumption | exact x_up_self _ _ _)) | (rw [x_nw_ne (by first | omega | (simp only [x_up, x_nw]; omega))]; first | assumption | exact x_up_self _ _ _ | (rw [x_up_ne (by first | omega | (simp only [x_up, x_nw]; omega))]; assumption))) (by rfl) rfl ?_
          refine go_ialdN (pc' := 34) d_Cur_advance_33 (by first | assumption | exact x_up_self _ _ _ | exact x_nw_self _ _ _ | (rw [x_up_ne (by first | omega | (simp only [x_up, x_nw]; omega))]; first | assumption | exact x_up_self _ _ _ | (rw [x_up_ne (by first | omega | (simp only [x_up, x_nw]; omega))]; first | assumption | exact x_up_self _ _ _)) | (rw [x_nw_ne (by first | omega | (simp only [x_up, x_nw]; omega))]; first | assumption | exact x_up_self _ _ _ | (rw [x_up_ne (by first | omega | (simp only [x_up, x_nw]; omega))]; assumption))) (by rfl) (by first | assumption | omega | (simp only [x_up, x_nw]; omega)) (by first | assumption | omega | (simp only [x_up, x_nw]; omega)) rfl ?_
          rw [hpl]
          refine go_istore_n (pc' := 35) (i := 3) d_Cur_advance_34 rfl (by decide) (x_s3 rfl) rfl ?_
          refine go_aload_n (pc' := 36) (i := 2) d_Cur_advance_35 rfl rfl rfl rfl ?_
          refine go_ifnull_r (pc' := 39) d_Cur_advance_36 rfl ?_
          refine go_iload_n (pc' := 40) (i := 3) d_Cur_advance_39 rfl rfl rfl ?_
          refine go_aload_n (pc' := 41) (i := 2) d_Cur_advance_40 rfl rfl (by first | rfl | exact x_r_rf _) rfl ?_
          refine go_getfield (pc' := 44) d_Cur_advance_41 c_Nod 1 (by decide) t_43 (by first | assumption | exact x_up_self _ _ _ | exact x_nw_self _ _ _ | (rw [x_up_ne (by first | omega | (simp only [x_up, x_nw]; omega))]; first | assumption | exact x_up_self _ _ _ | (rw [x_up_ne (by first | omega | (simp only [x_up, x_nw]; omega))]; first | assumption | exact x_up_self _ _ _)) | (rw [x_nw_ne (by first | omega | (simp only [x_up, x_nw]; omega))]; first | assumption | exact x_up_self _ _ _ | (rw [x_up_ne (by first | omega | (simp only [x_up, x_nw]; omega))]; assumption))) (by rfl) rfl ?_
          refine go_alenN (pc' := 45) d_Cur_advance_44 (by first | assumption | exact x_up_self _ _ _ | exact x_nw_self _ _ _ | (rw [x_up_ne (by first | omega | (simp only [x_up, x_nw]; omega))]; first | assumption | exact x_up_self _ _ _ | (rw [x_up_ne (by first | omega | (simp only [x_up, x_nw]; omega))]; first | assumption | exact x_up_self _ _ _)) | (rw [x_nw_ne (by first | omega | (simp only [x_up, x_nw]; omega))]; first | assumption | exact x_up_self _ _ _ | (rw [x_up_ne (by first | omega | (simp only [x_up, x_nw]; omega))]; assumption))) (by rfl) rfl ?_
          refine go_icmp_ltN (tgt := 61) (pc' := 48) d_Cur_advance_45 (by decide) rfl (by omega) (by omega) (fun hc => ?_) (fun hc => ?_)
          · -- a place is looked at
            refine go_aload_n (pc' := 62) (i := 0) d_Cur_advance_61 rfl rfl (by first | rfl | exact x_r_rf _) rfl ?_
            refine go_getfield (pc' := 65) d_Cur_advance_62 c_Cur 1 (by decide) t_410 (by first | assumption | exact x_up_self _ _ _ | exact x_nw_self _ _ _ | (rw [x_up_ne (by first | omega | (simp only [x_up, x_nw]; omega))]; first | assumption | exact x_up_self _ _ _ | (rw [x_up_ne (by first | omega | (simp only [x_up, x_nw]; omega))]; first | assumption | exact x_up_self _ _ _)) | (rw [x_nw_ne (by first | omega | (simp only [x_up, x_nw]; omega))]; first | assumption | exact x_up_self _ _ _ | (rw [x_up_ne (by first | omega | (simp only [x_up, x_nw]; omega))]; assumption))) (by rfl) rfl ?_
            refine go_aload_n (pc' := 66) (i := 0) d_Cur_advance_65 rfl rfl (by first | rfl | exact x_r_rf _) rfl ?_
            refine go_getfield (pc' := 69) d_Cur_advance_66 c_Cur 2 (by decide) t_411 (by first | assumption | exact x_up_self _ _ _ | exact x_nw_self _ _ _ | (rw [x_up_ne (by first | omega | (simp only [x_up, x_nw]; omega))]; first | assumption | exact x_up_self _ _ _ | (rw [x_up_ne (by first | omega | (simp only [x_up, x_nw]; omega))]; first | assumption | exact x_up_self _ _ _)) | (rw [x_nw_ne (by first | omega | (simp only [x_up, x_nw]; omega))]; first | assumption | exact x_up_self _ _ _ | (rw [x_up_ne (by first | omega | (simp only [x_up, x_nw]; omega))]; assumption))) (by rfl) rfl ?_
            refine go_iload_n (pc' := 70) (i := 3) d_Cur_advance_69 rfl rfl rfl ?_
            refine go_iconst (pc' := 71) (v := (nI 1)) d_Cur_advance_70 (by decide) rfl ?_
            refine go_iadd (pc' := 72) d_Cur_advance_71 rfl ?_
            rw [nI_add]
            refine go_iastN (pc' := 73) d_Cur_advance_72 (by first | assumption | exact x_up_self _ _ _ | exact x_nw_self _ _ _ | (rw [x_up_ne (by first | omega | (simp only [x_up, x_nw]; omega))]; first | assumption | exact x_up_self _ _ _ | (rw [x_up_ne (by first | omega | (simp only [x_up, x_nw]; omega))]; first | assumption | exact x_up_self _ _ _)) | (rw [x_nw_ne (by first | omega | (simp only [x_up, x_nw]; omega))]; first | assumption | exact x_up_self _ _ _ | (rw [x_up_ne (by first | omega | (simp only [x_up, x_nw]; omega))]; assumption))) (by rfl) (by first | assumption | omega | (simp only [x_up, x_nw]; omega)) (by first | assumption | omega | (simp only [x_up, x_nw]; omega)) rfl ?_
            have hag2 : ∀ z, z ≠ q → z ≠ q + 1 → z ≠ q + 2 → (x_up f (q + 2) (.inl (0, 5, .inl (va_up pl L (nI (n L + 1)))))).2.2 z = h.2.2 z := fun z z0 z1 z2 => (x_up_ne z2).trans (hag z z0 z1 z2)
            have hC2 : Cu (x_up f (q + 2) (.inl (0, 5, .inl (va_up pl L (nI (n L + 1)))))) q (nI L) way (va_up pl L (nI (n L + 1))) := ⟨(x_up_ne (by omega)).trans c0, (x_up_ne (by omega)).trans c1, x_up_self _ _ _⟩
            have hT2 := cuC hC2 hag2
            obtain ⟨nn2, es2, k2', ns2, hN2, -⟩ := hT2.nd ha
            have hq2 : nn = nn2 ∧ es = es2 ∧ k = k2' ∧ ns = ns2 := by
              have ne0 : a ≠ q + 2 := fun z => by rw [z, c2] at n0; cases n0
              have ne1 : a + 1 ≠ q + 2 := fun z => by rw [z, c2] at n1; cases n1
              have ne2 : a + 2 ≠ q + 2 := fun z => by rw [z, c2] at n2; cases n2
              have hNx : Nd (x_up f (q + 2) (.inl (0, 5, .inl (va_up pl L (nI (n L + 1)))))) a (bel L (P L)) nn es k ns := ⟨(x_up_ne ne0).trans n0, (x_up_ne ne1).trans n1, (x_up_ne ne2).trans n2⟩
              obtain ⟨-, e1, e2, e3, e4⟩ := hNx.uniq hN2
              exact ⟨e1, e2, e3, e4⟩
            obtain ⟨rfl, rfl, rfl, rfl⟩ := hq2
            have hTn2 := hT2.2 _ _ a ha
            have m0 := hN2.1
            have m1 := hN2.2.1
            generalize hg2 : x_up f (q + 2) (.inl (0, 5, .inl (va_up pl L (nI (n L + 1))))) = f' at hag2 hC2 hT2 hN2 hTn2 m0 m1 ⊢
            have ff1 : f'.1 = h.1 := by subst hg2; exact f1
            have ff2 : f'.2.1 = h.2.1 := by subst hg2; exact f2
            have cc0 := hC2.1
            refine go_aload_n (pc' := 74) (i := 2) d_Cur_advance_73 rfl rfl rfl rfl ?_
            refine go_getfield (pc' := 77) d_Cur_advance_74 c_Nod 1 (by decide) t_43 (by first | assumption | exact x_up_self _ _ _ | exact x_nw_self _ _ _ | (rw [x_up_ne (by first | omega | (simp only [x_up, x_nw]; omega))]; first | assumption | exact x_up_self _ _ _ | (rw [x_up_ne (by first | omega | (simp only [x_up, x_nw]; omega))]; first | assumption | exact x_up_self _ _ _)) | (rw [x_nw_ne (by first | omega | (simp only [x_up, x_nw]; omega))]; first | assumption | exact x_up_self _ _ _ | (rw [x_up_ne (by first | omega | (simp only [x_up, x_nw]; omega))]; assumption))) (by rfl) rfl ?_
            refine go_iload_n (pc' := 78) (i := 3) d_Cur_advance_77 rfl rfl rfl ?_
            refine go_aaldN (pc' := 79) d_Cur_advance_78 (by first | assumption | exact x_up_self _ _ _ | exact x_nw_self _ _ _ | (rw [x_up_ne (by first | omega | (simp only [x_up, x_nw]; omega))]; first | assumption | exact x_up_self _ _ _ | (rw [x_up_ne (by first | omega | (simp only [x_up, x_nw]; omega))]; first | assumption | exact x_up_self _ _ _)) | (rw [x_nw_ne (by first | omega | (simp only [x_up, x_nw]; omega))]; first | assumption | exact x_up_self _ _ _ | (rw [x_up_ne (by first | omega | (simp only [x_up, x_nw]; omega))]; assumption))) (by rfl) (by first | assumption | omega | (simp only [x_up, x_nw]; omega)) (by first | assumption | omega | (simp only [x_up, x_nw]; omega)) rfl ?_
            -- the next place of the same node
            have step : ∀ far', (L < 4 → n L + 1 ≤ 4 ∧ far' = q_lt ks ((4 * P L + (n L + 1)) * 4 ^ (3 - L))) → (L = 4 → n 4 + 1 ≤ 6 ∧ far' = q_lt ks (P 4) + min (n 4 + 1) (q_f ks 4 (P 4)).length) → Cq A ks L way (va_up pl L (nI (n L + 1))) P (va_up n L (n L + 1)) far' := by
              intro far' h4 h5
              refine ⟨q1, q2, q3, fun j hj => ?_, fun j hj => ?_, fun hl => ?_, fun hl => ?_⟩
              · rw [va_up_ne _ _ (by omega)]
                exact q4 j hj
              · by_cases hjL : j = L
                · subst hjL
                  rw [va_up_self, va_up_self]
                · rw [va_up_ne _ _ hjL, va_up_ne _ _ hjL]
                  exact q5 j hj
              · rw [va_up_self]
                exact h4 hl
              · subst hl
                rw [va_up_self]
                exact h5 rfl
            cases hes : es (n L) with
            | some e =>
              refine go_ifnull_r (pc' := 82) d_Cur_advance_79 rfl ?_
              refine go_aload_n (pc' := 83) (i := 2) d_Cur_advance_82 rfl rfl rfl rfl ?_
              refine go_getfield (pc' := 86) d_Cur_advance_83 c_Nod 1 (by decide) t_43 (by first | assumption | exact x_up_self _ _ _ | exact x_nw_self _ _ _ | (rw [x_up_ne (by first | omega | (simp only [x_up, x_nw]; omega))]; first | assumption | exact x_up_self _ _ _ | (rw [x_up_ne (by first | omega | (simp only [x_up, x_nw]; omega))]; first | assumption | exact x_up_self _ _ _)) | (rw [x_nw_ne (by first | omega | (simp only [x_up, x_nw]; omega))]; first | assumption | exact x_up_self _ _ _ | (rw [x_up_ne (by first | omega | (simp only [x_up, x_nw]; omega))]; assumption))) (by rfl) rfl ?_
              refine go_iload_n (pc' := 87) (i := 3) d_Cur_advance_86 rfl rfl rfl ?_
              refine go_aaldN (pc' := 88) d_Cur_advance_87 (by first | assumption | exact x_up_self _ _ _ | exact x_nw_self _ _ _ | (rw [x_up_ne (by first | omega | (simp only [x_up, x_nw]; omega))]; first | assumption | exact x_up_self _ _ _ | (rw [x_up_ne (by first | omega | (simp only [x_up, x_nw]; omega))]; first | assumption | exact x_up_self _ _ _)) | (rw [x_nw_ne (by first | omega | (simp only [x_up, x_nw]; omega))]; first | assumption | exact x_up_self _ _ _ | (rw [x_up_ne (by first | omega | (simp only [x_up, x_nw]; omega))]; assumption))) (by rfl) (by first | assumption | omega | (simp only [x_up, x_nw]; omega)) (by first | assumption | omega | (simp only [x_up, x_nw]; omega)) rfl ?_
              rw [hes]
              refine go_areturn d_Cur_advance_88 rfl ⟨_, rfl⟩ (by first | rfl | exact x_r_rf _) ?_
              rw [hQ]
              refine ⟨ff1, ff2, hag2, Or.inl ?_⟩
              by_cases hl4 : L < 4
              · obtain ⟨-, rfl, rfl⟩ : L < 4 ∧ nn = 4 ∧ k = 4 := by omega
                obtain ⟨es3, ns3, hN3, hE3⟩ := hTn2.1 hl4
                obtain ⟨-, -, rfl, -, rfl⟩ := hN2.uniq hN3
                have hEn := (hE3 (n L) (by omega)).2
                rw [hes] at hEn
                obtain ⟨kv, h3, h4⟩ := hEn.to
                have hL1 : q_f ks (L + 1) (4 * P L + n L) = [kv] := by
                  match hLL : q_f ks (L + 1) (4 * P L + n L), h3 with
                  | [y], h3 => cases h3; rfl
                have hsr := q_srt_one (ks := ks) (m := L + 1) (by omega) hL1
                have hlt := q_lt_s (ks := ks) (n := 4 * P L + n L) (m := L + 1) (by omega)
                rw [show 4 - (L + 1) = 3 - L by omega] at hsr hlt
                rw [hL1] at hlt
                have hfar := (q6 hl4).2
                rw [← hfar] at hsr hlt
                have hlen := (List.getElem?_eq_some_iff.mp hsr).1
                rw [q_srt_len] at hlen
                refine ⟨hlen, e, kv, rfl, hsr, h4, Or.inl ⟨L, way, _, P, _, hC2, step (far + 1) (fun _ => ⟨by omega, ?_⟩) (fun z => by omega)⟩⟩
                rw [← Nat.add_assoc, hlt]
                rfl
              · have hl5 : L = 4 := by omega
                subst hl5
                obtain ⟨-, rfl, rfl⟩ : (4 : Nat) = 4 ∧ nn = 6 ∧ k = 0 := by omega
                obtain ⟨es3, ns3, hN3, hE3⟩ := hTn2.2 rfl
                obtain ⟨-, -, rfl, -, rfl⟩ := hN2.uniq hN3
                have hEn := hE3 (n 4) (by omega)
                rw [hes] at hEn
                obtain ⟨kv, h3, h4⟩ := hEn.to
                have hi := (List.getElem?_eq_some_iff.mp h3).1
                have hP4 : P 4 < 256 := ((hT.1 _ _).mp ⟨a, ha⟩).2.1
                have hsr := q_srt_at (ks := ks) hP4 hi
                have hfar := (q7 rfl).2
                rw [Nat.min_eq_left (by omega)] at hfar
                rw [← hfar, h3] at hsr
                have hlen := (List.getElem?_eq_some_iff.mp hsr).1
                rw [q_srt_len] at hlen
                refine ⟨hlen, e, kv, rfl, hsr, h4, Or.inl ⟨4, way, _, P, _, hC2, step (far + 1) (fun z => by omega) (fun _ => ⟨by omega, ?_⟩)⟩⟩
                rw [Nat.min_eq_left (by omega)]
                omega
            | none =>
              refine go_ifnull_n (tgt := 89) d_Cur_advance_79 (by decide) ?_
              refine go_aload_n (pc' := 90) (i := 0) d_Cur_advance_89 rfl rfl rfl rfl ?_
              refine go_aload_n (pc' := 91) (i := 2) d_Cur_advance_90 rfl rfl rfl rfl ?_
              refine go_iload_n (pc' := 92) (i := 3) d_Cur_advance_91 rfl rfl rfl ?_
              refine go_callV (pc' := 95) (M' := M_Nod_nodeAt) (ci := 2) (r := (n_Nod, T_Nod, 3)) [_] d_Cur_advance_92 t_436 t_300 t_301 cd_Nod_nodeAt nm_Nod_nodeAt rfl (by rfl) (by first | assumption | exact x_up_self _ _ _ | exact x_nw_self _ _ _ | (rw [x_up_ne (by first | omega | (simp only [x_up, x_nw]; omega))]; first | assumption | exact x_up_self _ _ _ | (rw [x_up_ne (by first | omega | (simp only [x_up, x_nw]; omega))]; first | assumption | exact x_up_self _ _ _)) | (rw [x_nw_ne (by first | omega | (simp only [x_up, x_nw]; omega))]; first | assumption | exact x_up_self _ _ _ | (rw [x_up_ne (by first | omega | (simp only [x_up, x_nw]; omega))]; assumption))) rfl (Nat.le_of_ble_eq_true rfl) rfl (s_nodeAt (d := d - 1) hN2 (by omega) (j := n L) (by omega)) (by first | decide | omega) (Nat.le_of_ble_eq_true rfl) rfl (fun v hh hq => ?_) (fun q g hq => by cases hq.1)
              obtain ⟨e9, rfl⟩ := hq
              cases e9
              by_cases hl4 : L < 4
              · obtain ⟨-, rfl, rfl⟩ : L < 4 ∧ nn = 4 ∧ k = 4 := by omega
                rw [if_pos (by omega)]
                obtain ⟨es3, ns3, hN3, hE3⟩ := hTn2.1 hl4
                obtain ⟨-, -, rfl, -, rfl⟩ := hN2.uniq hN3
                obtain ⟨hns, hEn⟩ := hE3 (n L) (by omega)
                rw [hes] at hEn
                rw [hns]
                show Go K M_Cur_advance d 95 _ [va_rf (A (L + 1) (4 * P L + n L)), .ref q] f' Q
                have hbd := q_bd (x := n L + 1) hT ha (by omega) hl4
                have hpow : 0 < 4 ^ (3 - L) := Nat.pow_pos (by decide)
                have hmul : (4 * P L + (n L + 1)) * 4 ^ (3 - L) = (4 * P L + n L) * 4 ^ (3 - L) + 4 ^ (3 - L) := by rw [← Nat.add_assoc, Nat.add_mul, Nat.one_mul]
                have hfar := (q6 hl4).2
                have hmu' : (256 - (4 * P L + n L) * 4 ^ (3 - L)) * 64 + (12 - L) < N + 1 := by
                  have h9 := hmu
                  unfold q_mu at h9
                  rw [if_pos hl4, if_neg (by omega)] at h9
                  exact h9
                cases hA : A (L + 1) (4 * P L + n L) with
                | none =>
                  refine go_callV (pc' := 98) (M' := M_Cur_goInto) (ci := 0) (r := (n_Cur, T_Cur, 3)) [_] d_Cur_advance_95 t_437 t_439 sp_Cur_goInto cd_Cur_goInto nm_Cur_goInto rfl (by rfl) (by first | assumption | exact x_up_self _ _ _ | exact x_nw_self _ _ _ | (rw [x_up_ne (by first | omega | (simp only [x_up, x_nw]; omega))]; first | assumption | exact x_up_self _ _ _ | (rw [x_up_ne (by first | omega | (simp only [x_up, x_nw]; omega))]; first | assumption | exact x_up_self _ _ _)) | (rw [x_nw_ne (by first | omega | (simp only [x_up, x_nw]; omega))]; first | assumption | exact x_up_self _ _ _ | (rw [x_up_ne (by first | omega | (simp only [x_up, x_nw]; omega))]; assumption))) rfl (Nat.le_of_ble_eq_true rfl) rfl (s_goInto0 (d := d - 1) (x := .null)) (by first | decide | omega) (Nat.le_of_ble_eq_true rfl) rfl (fun v hh hq => ?_) (fun q g hq => by cases hq.1)
                  obtain ⟨e9, rfl⟩ := hq
                  cases e9
                  show Go K M_Cur_advance d 98 _ [] f' Q
                  refine go_iinc (pc' := 101) (i := 1) d_Cur_advance_98 rfl (x_i1 _) (by decide) (x_s1 (by first | rfl | exact x_k_rf _)) rfl ?_
                  refine go_goto (tgt := 2) d_Cur_advance_101 (by decide) ?_
                  have hz : (q_f ks (L + 1) (4 * P L + n L)).length = 0 := by
                    have h3 := hEn.to0
                    apply Classical.byContradiction
                    intro z
                    by_cases h1 : (q_f ks (L + 1) (4 * P L + n L)).length = 1
                    · match hLL : q_f ks (L + 1) (4 * P L + n L), h1, h3 with
                      | [y], _, h3 => cases h3
                    · obtain ⟨b, hb⟩ := (hT.1 (L + 1) (4 * P L + n L)).mpr ⟨by omega, by have := ((hT.1 _ _).mp ⟨a, ha⟩).2.1; rw [Nat.pow_succ]; omega, Or.inr (by omega)⟩
                      rw [hA] at hb
                      cases hb
                  have hlt := q_lt_s (ks := ks) (n := 4 * P L + n L) (m := L + 1) (by omega)
                  rw [show 4 - (L + 1) = 3 - L by omega, hz] at hlt
                  refine ih (s + 1) f' L way _ P _ _ _ (by omega) ff1 ff2 hag2 hC2 (step far (fun _ => ⟨by omega, by rw [← Nat.add_assoc, hlt]; exact hfar⟩) (fun z => by omega)) ?_ rfl
                  unfold q_mu
                  rw [if_pos hl4, va_up_self, hmul]
                  split <;> omega
                | some b' =>
                  obtain ⟨_, _, _, _, hNb, -⟩ := hT2.nd hA
                  refine go_callV (pc' := 98) (M' := M_Cur_goInto) (ci := 0) (r := (n_Cur, T_Cur, 3)) [_] d_Cur_advance_95 t_437 t_439 sp_Cur_goInto cd_Cur_goInto nm_Cur_goInto rfl (by rfl) (by first | assumption | exact x_up_self _ _ _ | exact x_nw_self _ _ _ | (rw [x_up_ne (by first | omega | (simp only [x_up, x_nw]; omega))]; first | assumption | exact x_up_self _ _ _ | (rw [x_up_ne (by first | omega | (simp only [x_up, x_nw]; omega))]; first | assumption | exact x_up_self _ _ _)) | (rw [x_nw_ne (by first | omega | (simp only [x_up, x_nw]; omega))]; first | assumption | exact x_up_self _ _ _ | (rw [x_up_ne (by first | omega | (simp only [x_up, x_nw]; omega))]; assumption))) rfl (Nat.le_of_ble_eq_true rfl) rfl (s_goInto (d := d - 1) hl4 hC2 hNb.1) (by first | decide | omega) (Nat.le_of_ble_eq_true rfl) rfl (fun v f3 hq => ?_) (fun q g hq => hq.elim)
                  obtain ⟨rfl, g1, g2, hC3, hag3⟩ := hq
                  show Go K M_Cur_advance d 98 _ [] f3 Q
                  refine go_iinc (pc' := 101) (i := 1) d_Cur_advance_98 rfl (x_i1 _) (by decide) (x_s1 (by first | rfl | exact x_k_rf _)) rfl ?_
                  refine go_goto (tgt := 2) d_Cur_advance_101 (by decide) ?_
                  refine ih (s + 1) f3 (L + 1) _ _ (va_up P (L + 1) (4 * P L + n L)) (va_up (va_up n L (n L + 1)) (L + 1) 0) _ _ (by omega) (g1.trans ff1) (g2.trans ff2) (fun z z0 z1 z2 => (hag3 z z0 z1 z2).trans (hag2 z z0 z1 z2)) hC3 ⟨by omega, fun j hj => ?_, ?_, fun j hj => ?_, fun j hj => ?_, fun hl9 => ?_, fun hl9 => ?_⟩ ?_ rfl
                  · by_cases hjL : j = L + 1
                    · subst hjL
                      rw [va_up_self, va_up_self]
                      exact ⟨b', hA, rfl⟩
                    · rw [va_up_ne _ _ hjL, va_up_ne _ _ hjL]
                      exact q2 j (by omega)
                  · rw [va_up_ne _ _ (by omega)]
                    exact q3
                  · by_cases hjL : j = L
                    · subst hjL
                      rw [va_up_self, va_up_ne _ _ (by omega), va_up_ne _ _ (by omega), va_up_self]
                      omega
                    · rw [va_up_ne _ _ (by omega), va_up_ne _ _ (by omega), va_up_ne _ _ (by omega), va_up_ne _ _ hjL]
                      exact q4 j (by omega)
                  · by_cases hjL : j = L + 1
                    · subst hjL
                      rw [va_up_self, va_up_self]
                    · rw [va_up_ne _ _ hjL, va_up_ne _ _ hjL]
                      by_cases hjL2 : j = L
                      · subst hjL2
                        rw [va_up_self, va_up_self]
                      · rw [va_up_ne _ _ hjL2, va_up_ne _ _ hjL2]
                        exact q5 j (by omega)
                  · rw [va_up_self, va_up_self]
                    refine ⟨by omega, ?_⟩
                    rw [hfar, q_e5 _ (by omega)]
                  · have hL3 : L = 3 := by omega
                    subst hL3
                    rw [va_up_self, va_up_self]
                    refine ⟨by omega, ?_⟩
                    rw [hfar]
                    simp
                  · unfold q_mu
                    by_cases hl9 : L + 1 < 4
                    · rw [if_pos hl9, va_up_self, va_up_self, if_neg (by omega), q_e5 _ (by omega)]
                      omega
                    · have hL3 : L = 3 := by omega
                      subst hL3
                      rw [if_neg hl9, va_up_self, va_up_self]
                      simp at hmu'
                      omega
              · have hl5 : L = 4 := by omega
                subst hl5
                obtain ⟨-, rfl, rfl⟩ : (4 : Nat) = 4 ∧ nn = 6 ∧ k = 0 := by omega
                rw [if_neg (by omega)]
                obtain ⟨es3, ns3, hN3, hE3⟩ := hTn2.2 rfl
                obtain ⟨-, -, rfl, -, rfl⟩ := hN2.uniq hN3
                have hEn := hE3 (n 4) (by omega)
                rw [hes] at hEn
                have hge := List.getElem?_eq_none_iff.mp hEn.to0
                refine go_callV (pc' := 98) (M' := M_Cur_goInto) (ci := 0) (r := (n_Cur, T_Cur, 3)) [_] d_Cur_advance_95 t_437 t_439 sp_Cur_goInto cd_Cur_goInto nm_Cur_goInto rfl (by rfl) (by first | assumption | exact x_up_self _ _ _ | exact x_nw_self _ _ _ | (rw [x_up_ne (by first | omega | (simp only [x_up, x_nw]; omega))]; first | assumption | exact x_up_self _ _ _ | (rw [x_up_ne (by first | omega | (simp only [x_up, x_nw]; omega))]; first | assumption | exact x_up_self _ _ _)) | (rw [x_nw_ne (by first | omega | (simp only [x_up, x_nw]; omega))]; first | assumption | exact x_up_self _ _ _ | (rw [x_up_ne (by first | omega | (simp only [x_up, x_nw]; omega))]; assumption))) rfl (Nat.le_of_ble_eq_true rfl) rfl (s_goInto0 (d := d - 1) (x := .null)) (by first | decide | omega) (Nat.le_of_ble_eq_true rfl) rfl (fun v hh hq => ?_) (fun q g hq => by cases hq.1)
                obtain ⟨e9, rfl⟩ := hq
                cases e9
                show Go K M_Cur_advance d 98 _ [] f' Q
                refine go_iinc (pc' := 101) (i := 1) d_Cur_advance_98 rfl (x_i1 _) (by decide) (x_s1 (by first | rfl | exact x_k_rf _)) rfl ?_
                refine go_goto (tgt := 2) d_Cur_advance_101 (by decide) ?_
                have hfar := (q7 rfl).2
                refine ih (s + 1) f' 4 way _ P _ _ _ (by omega) ff1 ff2 hag2 hC2 (step far (fun z => by omega) (fun _ => ⟨by omega, by omega⟩)) ?_ rfl
                unfold q_mu at hmu ⊢
                rw [if_neg (by omega)] at hmu ⊢
                rw [va_up_self]
                omega
          · -- the node is done: up
            refine go_aload_n (pc' := 49) (i := 0) d_Cur_advance_48 rfl rfl rfl rfl ?_
            refine go_dup (pc' := 50) d_Cur_advance_49 (by first | rfl | exact x_c_rf _) rfl ?_
            refine go_getfield (pc' := 53) d_Cur_advance_50 c_Cur 2 (by decide) t_411 (by first | assumption | exact x_up_self _ _ _ | exact x_nw_self _ _ _ | (rw [x_up_ne (by first | omega | (simp only [x_up, x_nw]; omega))]; first | assumption | exact x_up_self _ _ _ | (rw [x_up_ne (by first | omega | (simp only [x_up, x_nw]; omega))]; first | assumption | exact x_up_self _ _ _)) | (rw [x_nw_ne (by first | omega | (simp only [x_up, x_nw]; omega))]; first | assumption | exact x_up_self _ _ _ | (rw [x_up_ne (by first | omega | (simp only [x_up, x_nw]; omega))]; assumption))) (by rfl) rfl ?_
            refine go_iconst (pc' := 54) (v := (nI 1)) d_Cur_advance_53 (by decide) rfl ?_
            refine go_isub (pc' := 55) d_Cur_advance_54 rfl ?_
            by_cases hL0 : L = 0
            · subst hL0
              rw [show nI 0 - nI 1 = -1 by decide]
              refine go_putfield (pc' := 58) d_Cur_advance_55 c_Cur 2 (by decide) rfl t_411 (by first | assumption | exact x_up_self _ _ _ | exact x_nw_self _ _ _ | (rw [x_up_ne (by first | omega | (simp only [x_up, x_nw]; omega))]; first | assumption | exact x_up_self _ _ _ | (rw [x_up_ne (by first | omega | (simp only [x_up, x_nw]; omega))]; first | assumption | exact x_up_self _ _ _)) | (rw [x_nw_ne (by first | omega | (simp only [x_up, x_nw]; omega))]; first | assumption | exact x_up_self _ _ _ | (rw [x_up_ne (by first | omega | (simp only [x_up, x_nw]; omega))]; assumption))) (by rfl) (by rfl) (by first | exact Nat.le_of_ble_eq_true rfl | simp) rfl ?_
              refine go_goto (tgt := 98) d_Cur_advance_58 (by decide) ?_
              refine go_iinc (pc' := 101) (i := 1) d_Cur_advance_98 rfl (x_i1 _) (by decide) (x_s1 (by first | rfl | exact x_k_rf _)) rfl ?_
              refine go_goto (tgt := 2) d_Cur_advance_101 (by decide) ?_
              have hfar := (q6 (by omega)).2
              have hn4 : n 0 = 4 := by have := (q6 (by omega)).1; omega
              refine fin (s + 1) _ way pl _ _ (by omega) f1 f2 (fun z z0 z1 z2 => (x_up_ne z0).trans (hag z z0 z1 z2)) ⟨x_up_self _ _ _, (x_up_ne (by omega)).trans c1, (x_up_ne (by omega)).trans c2⟩ ?_
              rw [hfar, q3, hn4]
              exact q_lt_all
            · rw [x_sub (by omega)]
              refine go_putfield (pc' := 58) d_Cur_advance_55 c_Cur 2 (by decide) rfl t_411 (by first | assumption | exact x_up_self _ _ _ | exact x_nw_self _ _ _ | (rw [x_up_ne (by first | omega | (simp only [x_up, x_nw]; omega))]; first | assumption | exact x_up_self _ _ _ | (rw [x_up_ne (by first | omega | (simp only [x_up, x_nw]; omega))]; first | assumption | exact x_up_self _ _ _)) | (rw [x_nw_ne (by first | omega | (simp only [x_up, x_nw]; omega))]; first | assumption | exact x_up_self _ _ _ | (rw [x_up_ne (by first | omega | (simp only [x_up, x_nw]; omega))]; assumption))) (by rfl) (by rfl) (by first | exact Nat.le_of_ble_eq_true rfl | simp) rfl ?_
              refine go_goto (tgt := 98) d_Cur_advance_58 (by decide) ?_
              refine go_iinc (pc' := 101) (i := 1) d_Cur_advance_98 rfl (x_i1 _) (by decide) (x_s1 (by first | rfl | exact x_k_rf _)) rfl ?_
              refine go_goto (tgt := 2) d_Cur_advance_101 (by decide) ?_
              obtain ⟨p4, p5, p6⟩ := q4 (L - 1) (by omega)
              rw [show L - 1 + 1 = L by omega] at p4
              have hH : ∀ x, (P L + 1) * x = (4 * P (L - 1) + n (L - 1)) * x := fun x => by rw [p4]
              have hpow : 4 ^ (3 - (L - 1)) = 4 * 4 ^ (3 - L) ∨ L = 4 := by
                by_cases hl4 : L < 4
                · left
                  rw [← Nat.pow_succ']
                  congr 1
                  omega
                · right; omega
              have hfar' : far = q_lt ks ((4 * P (L - 1) + n (L - 1)) * 4 ^ (3 - (L - 1))) := by
                by_cases hl4 : L < 4
                · have hn4 : n L = 4 := by have := (q6 hl4).1; omega
                  have hfar := (q6 hl4).2
                  rcases hpow with hpow | hpow
                  · rw [hfar, hn4, hpow, ← hH, show 4 * P L + 4 = (P L + 1) * 4 by omega, Nat.mul_assoc]
                  · omega
                · have hl5 : L = 4 := by omega
                  subst hl5
                  have hfar := (q7 rfl).2
                  have hn6' : n 4 = 6 := by omega
                  rw [hn6', Nat.min_eq_right (hK.2.2 _)] at hfar
                  rw [hfar, ← q_lt_1, p4]
                  simp
              refine ih (s + 1) _ (L - 1) way pl P n _ _ (by omega) f1 f2 (fun z z0 z1 z2 => (x_up_ne z0).trans (hag z z0 z1 z2)) ⟨x_up_self _ _ _, (x_up_ne (by omega)).trans c1, (x_up_ne (by omega)).trans c2⟩
                ⟨by omega, fun j hj => q2 j (by omega), q3, fun j hj => q4 j (by omega), fun j hj => q5 j (by omega), fun _ => ⟨p6, hfar'⟩, fun z => by omega⟩ ?_ rfl
              unfold q_mu at hmu ⊢
              rw [if_pos (by omega)]
              by_cases hl4 : L < 4
              · have hn4 : n L = 4 := by have := (q6 hl4).1; omega
                rw [if_pos hl4, if_pos hn4] at hmu
                rcases hpow with hpow | hpow
                · have e9 : (4 * P L + n L) * 4 ^ (3 - L) = (4 * P (L - 1) + n (L - 1)) * 4 ^ (3 - (L - 1)) := by
                    rw [hn4, hpow, ← hH, show 4 * P L + 4 = (P L + 1) * 4 by omega, Nat.mul_assoc]
                  rw [e9] at hmu
                  split <;> omega
                · omega
              · have hl5 : L = 4 := by omega
                subst hl5
                rw [if_neg (by omega)] at hmu
                have e9 : (4 * P (4 - 1) + n (4 - 1)) * 4 ^ (3 - (4 - 1)) = P 4 + 1 := by
                  rw [p4]
                  simp
                have hP4 : P 4 < 256 := ((hT.1 _ _).mp ⟨a, ha⟩).2.1
                rw [e9]
                split <;> omega
  refine go_iconst (pc' := 1) (v := (nI 0)) d_Cur_advance_0 (by decide) rfl ?_
  refine go_istore_n (pc' := 2) (i := 1) d_Cur_advance_1 rfl (by decide) (x_s1 (by first | rfl | exact x_k_rf _)) rfl ?_
  rcases hC0 with ⟨L, way, pl, P, n, hC, hq⟩ | ⟨way, pl, hC, hfar⟩
  · refine loop 20000 0 h L way pl P n _ _ (by omega) rfl rfl (fun _ _ _ _ => rfl) hC hq ?_ rfl
    unfold q_mu
    split
    · split <;> omega
    · omega
  · exact fin 0 h way pl _ _ (by omega) rfl rfl (fun _ _ _ _ => rfl) hC hfar
end CC
end
