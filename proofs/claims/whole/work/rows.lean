section
-- ===== PART A: goes FIRST, ahead of the names: the tables' words, and 'selects' of the private methods out of them =====
/-- a private method of a class that the tables say can be made, by its rows of tables_1 -/
def lw_okq (q : MethodName × Nat) : Prop := (q.1.cls ≠ "java/lang/invoke/MethodHandle" ∧ q.1.cls ≠ "java/lang/invoke/VarHandle") ∧ Cond.instantiable q.1.cls q.2 ∈ tables_1 ∧ Cond.privateMethod q.1 ∈ tables_1 ∧ Cond.instanceMethod q.1 ∈ tables_1
theorem lw_p0 : lw_okq (⟨"SnapshotTrie", "writableMap", "(I)LSnapshotTrie$TrieMap;"⟩, 5) := ⟨⟨by decide +kernel, by decide +kernel⟩, List.mem_of_getElem? (i := 17) (by decide +kernel), List.mem_of_getElem? (i := 106) (by decide +kernel), List.mem_of_getElem? (i := 107) (by decide +kernel)⟩
theorem lw_p1 : lw_okq (⟨"SnapshotTrie", "existingMap", "(I)LSnapshotTrie$TrieMap;"⟩, 5) := ⟨⟨by decide +kernel, by decide +kernel⟩, List.mem_of_getElem? (i := 17) (by decide +kernel), List.mem_of_getElem? (i := 110) (by decide +kernel), List.mem_of_getElem? (i := 111) (by decide +kernel)⟩
theorem lw_p2 : lw_okq (⟨"java/lang/Throwable", "fillInStackTrace", "(I)Ljava/lang/Throwable;"⟩, 6) := ⟨⟨by decide +kernel, by decide +kernel⟩, List.mem_of_getElem? (i := 153) (by decide +kernel), List.mem_of_getElem? (i := 151) (by decide +kernel), List.mem_of_getElem? (i := 152) (by decide +kernel)⟩
theorem lw_p3 : lw_okq (⟨"SnapshotTrie", "write", "(LSnapshotTrie$TrieMap;LSnapshotTrie$Entry;)V"⟩, 5) := ⟨⟨by decide +kernel, by decide +kernel⟩, List.mem_of_getElem? (i := 17) (by decide +kernel), List.mem_of_getElem? (i := 286) (by decide +kernel), List.mem_of_getElem? (i := 287) (by decide +kernel)⟩
theorem lw_p4 : lw_okq (⟨"SnapshotTrie", "leastMissingMap", "()I"⟩, 5) := ⟨⟨by decide +kernel, by decide +kernel⟩, List.mem_of_getElem? (i := 17) (by decide +kernel), List.mem_of_getElem? (i := 378) (by decide +kernel), List.mem_of_getElem? (i := 379) (by decide +kernel)⟩
theorem lw_p5 : lw_okq (⟨"SnapshotTrie", "newGeneration", "()I"⟩, 5) := ⟨⟨by decide +kernel, by decide +kernel⟩, List.mem_of_getElem? (i := 17) (by decide +kernel), List.mem_of_getElem? (i := 382) (by decide +kernel), List.mem_of_getElem? (i := 383) (by decide +kernel)⟩
theorem lw_p6 : lw_okq (⟨"SnapshotTrie", "leastFreeCursor", "()I"⟩, 5) := ⟨⟨by decide +kernel, by decide +kernel⟩, List.mem_of_getElem? (i := 17) (by decide +kernel), List.mem_of_getElem? (i := 400) (by decide +kernel), List.mem_of_getElem? (i := 401) (by decide +kernel)⟩
theorem lw_p7 : lw_okq (⟨"SnapshotTrie", "existingCursor", "(I)LSnapshotTrie$Cursor;"⟩, 5) := ⟨⟨by decide +kernel, by decide +kernel⟩, List.mem_of_getElem? (i := 17) (by decide +kernel), List.mem_of_getElem? (i := 428) (by decide +kernel), List.mem_of_getElem? (i := 429) (by decide +kernel)⟩
theorem lw_p8 : lw_okq (⟨"SnapshotTrie$Cursor", "goInto", "(LSnapshotTrie$Node;)V"⟩, 3) := ⟨⟨by decide +kernel, by decide +kernel⟩, List.mem_of_getElem? (i := 403) (by decide +kernel), List.mem_of_getElem? (i := 438) (by decide +kernel), List.mem_of_getElem? (i := 439) (by decide +kernel)⟩
theorem lw_p9 : lw_okq (⟨"SnapshotTrieModel", "none", "(I)Z"⟩, 16) := ⟨⟨by decide +kernel, by decide +kernel⟩, List.mem_of_getElem? (i := 466) (by decide +kernel), List.mem_of_getElem? (i := 531) (by decide +kernel), List.mem_of_getElem? (i := 532) (by decide +kernel)⟩
theorem lw_p10 : lw_okq (⟨"SnapshotTrieModel", "fail", "(I)I"⟩, 16) := ⟨⟨by decide +kernel, by decide +kernel⟩, List.mem_of_getElem? (i := 466) (by decide +kernel), List.mem_of_getElem? (i := 535) (by decide +kernel), List.mem_of_getElem? (i := 536) (by decide +kernel)⟩
theorem lw_p11 : lw_okq (⟨"SnapshotTrieModel", "find", "(II)I"⟩, 16) := ⟨⟨by decide +kernel, by decide +kernel⟩, List.mem_of_getElem? (i := 466) (by decide +kernel), List.mem_of_getElem? (i := 539) (by decide +kernel), List.mem_of_getElem? (i := 540) (by decide +kernel)⟩
theorem lw_p12 : lw_okq (⟨"SnapshotTrieModel", "sharing", "(III)I"⟩, 16) := ⟨⟨by decide +kernel, by decide +kernel⟩, List.mem_of_getElem? (i := 466) (by decide +kernel), List.mem_of_getElem? (i := 547) (by decide +kernel), List.mem_of_getElem? (i := 548) (by decide +kernel)⟩
theorem lw_p13 : lw_okq (⟨"SnapshotTrieModel", "add", "(IIJ)V"⟩, 16) := ⟨⟨by decide +kernel, by decide +kernel⟩, List.mem_of_getElem? (i := 466) (by decide +kernel), List.mem_of_getElem? (i := 551) (by decide +kernel), List.mem_of_getElem? (i := 552) (by decide +kernel)⟩
theorem lw_p14 : lw_okq (⟨"SnapshotTrieModel", "write", "(II)V"⟩, 16) := ⟨⟨by decide +kernel, by decide +kernel⟩, List.mem_of_getElem? (i := 466) (by decide +kernel), List.mem_of_getElem? (i := 555) (by decide +kernel), List.mem_of_getElem? (i := 556) (by decide +kernel)⟩
theorem lw_p15 : lw_okq (⟨"SnapshotTrieModel", "exists", "(III)Z"⟩, 16) := ⟨⟨by decide +kernel, by decide +kernel⟩, List.mem_of_getElem? (i := 466) (by decide +kernel), List.mem_of_getElem? (i := 562) (by decide +kernel), List.mem_of_getElem? (i := 563) (by decide +kernel)⟩
def lw_privs_1 : List (MethodName × Nat) := [(⟨"SnapshotTrie", "writableMap", "(I)LSnapshotTrie$TrieMap;"⟩, 5), (⟨"SnapshotTrie", "existingMap", "(I)LSnapshotTrie$TrieMap;"⟩, 5), (⟨"java/lang/Throwable", "fillInStackTrace", "(I)Ljava/lang/Throwable;"⟩, 6), (⟨"SnapshotTrie", "write", "(LSnapshotTrie$TrieMap;LSnapshotTrie$Entry;)V"⟩, 5), (⟨"SnapshotTrie", "leastMissingMap", "()I"⟩, 5), (⟨"SnapshotTrie", "newGeneration", "()I"⟩, 5), (⟨"SnapshotTrie", "leastFreeCursor", "()I"⟩, 5), (⟨"SnapshotTrie", "existingCursor", "(I)LSnapshotTrie$Cursor;"⟩, 5), (⟨"SnapshotTrie$Cursor", "goInto", "(LSnapshotTrie$Node;)V"⟩, 3), (⟨"SnapshotTrieModel", "none", "(I)Z"⟩, 16), (⟨"SnapshotTrieModel", "fail", "(I)I"⟩, 16), (⟨"SnapshotTrieModel", "find", "(II)I"⟩, 16), (⟨"SnapshotTrieModel", "sharing", "(III)I"⟩, 16), (⟨"SnapshotTrieModel", "add", "(IIJ)V"⟩, 16), (⟨"SnapshotTrieModel", "write", "(II)V"⟩, 16), (⟨"SnapshotTrieModel", "exists", "(III)Z"⟩, 16)]
theorem lw_r1 : ∀ q ∈ lw_privs_1, lw_okq q := List.forall_mem_cons.mpr ⟨lw_p0, List.forall_mem_cons.mpr ⟨lw_p1, List.forall_mem_cons.mpr ⟨lw_p2, List.forall_mem_cons.mpr ⟨lw_p3, List.forall_mem_cons.mpr ⟨lw_p4, List.forall_mem_cons.mpr ⟨lw_p5, List.forall_mem_cons.mpr ⟨lw_p6, List.forall_mem_cons.mpr ⟨lw_p7, List.forall_mem_cons.mpr ⟨lw_p8, List.forall_mem_cons.mpr ⟨lw_p9, List.forall_mem_cons.mpr ⟨lw_p10, List.forall_mem_cons.mpr ⟨lw_p11, List.forall_mem_cons.mpr ⟨lw_p12, List.forall_mem_cons.mpr ⟨lw_p13, List.forall_mem_cons.mpr ⟨lw_p14, List.forall_mem_cons.mpr ⟨lw_p15, fun _ h => absurd h List.not_mem_nil⟩⟩⟩⟩⟩⟩⟩⟩⟩⟩⟩⟩⟩⟩⟩⟩
theorem lw_p16 : lw_okq (⟨"SnapshotTrieModel", "fresh", "()I"⟩, 16) := ⟨⟨by decide +kernel, by decide +kernel⟩, List.mem_of_getElem? (i := 466) (by decide +kernel), List.mem_of_getElem? (i := 582) (by decide +kernel), List.mem_of_getElem? (i := 583) (by decide +kernel)⟩
theorem lw_p17 : lw_okq (⟨"SnapshotTrieModel", "has", "(III)Z"⟩, 16) := ⟨⟨by decide +kernel, by decide +kernel⟩, List.mem_of_getElem? (i := 466) (by decide +kernel), List.mem_of_getElem? (i := 610) (by decide +kernel), List.mem_of_getElem? (i := 611) (by decide +kernel)⟩
def lw_privs_2 : List (MethodName × Nat) := [(⟨"SnapshotTrieModel", "fresh", "()I"⟩, 16), (⟨"SnapshotTrieModel", "has", "(III)Z"⟩, 16)]
theorem lw_r2 : ∀ q ∈ lw_privs_2, lw_okq q := List.forall_mem_cons.mpr ⟨lw_p16, List.forall_mem_cons.mpr ⟨lw_p17, fun _ h => absurd h List.not_mem_nil⟩⟩
def lw_privs : List (MethodName × Nat) := lw_privs_1 ++ (lw_privs_2)
def lw_tbl : List Cond := k2_sels lw_privs ++ tables_1
theorem lw_privs_ok : ∀ q ∈ lw_privs, lw_okq q := by
  show ∀ q ∈ lw_privs_1 ++ (lw_privs_2), lw_okq q
  exact List.forall_mem_append.mpr ⟨lw_r1, lw_r2⟩
end
section
/-! classes, their fields in the order of the slots, their types (written by program out of the Statement) -/
def n_Cur : String := "SnapshotTrie$Cursor"
def T_Cur : u_T := fun k => match k with
  | 0 => ("SnapshotTrie$Cursor", "way", "[LSnapshotTrie$Node;", true)
  | 1 => ("SnapshotTrie$Cursor", "places", "[I", true)
  | _ => ("SnapshotTrie$Cursor", "level", "I", false)
def ty_Cur : Nat → FieldType := fun k => match k with
  | 0 => .array (.object "SnapshotTrie$Node")
  | 1 => .array .int
  | _ => .int
def n_Ent : String := "SnapshotTrie$Entry"
def T_Ent : u_T := fun k => match k with
  | 0 => ("SnapshotTrie$Entry", "key", "I", true)
  | _ => ("SnapshotTrie$Entry", "value", "J", true)
def ty_Ent : Nat → FieldType := fun k => match k with
  | 0 => .int
  | _ => .long
def n_Nod : String := "SnapshotTrie$Node"
def T_Nod : u_T := fun k => match k with
  | 0 => ("SnapshotTrie$Node", "generation", "I", true)
  | 1 => ("SnapshotTrie$Node", "entries", "[LSnapshotTrie$Entry;", true)
  | _ => ("SnapshotTrie$Node", "nodes", "[LSnapshotTrie$Node;", true)
def ty_Nod : Nat → FieldType := fun k => match k with
  | 0 => .int
  | 1 => .array (.object "SnapshotTrie$Entry")
  | _ => .array (.object "SnapshotTrie$Node")
def n_Tal : String := "SnapshotTrie$Tally"
def T_Tal : u_T := fun k => match k with
  | 0 => ("SnapshotTrie$Tally", "generation", "I", true)
  | 1 => ("SnapshotTrie$Tally", "keys", "I", false)
  | 2 => ("SnapshotTrie$Tally", "nodes", "I", false)
  | 3 => ("SnapshotTrie$Tally", "bags", "I", false)
  | 4 => ("SnapshotTrie$Tally", "levels", "I", false)
  | _ => ("SnapshotTrie$Tally", "ownNodes", "I", false)
def ty_Tal : Nat → FieldType := fun k => match k with
  | 0 => .int
  | 1 => .int
  | 2 => .int
  | 3 => .int
  | 4 => .int
  | _ => .int
def n_Map : String := "SnapshotTrie$TrieMap"
def T_Map : u_T := fun k => match k with
  | 0 => ("SnapshotTrie$TrieMap", "root", "LSnapshotTrie$Node;", false)
  | 1 => ("SnapshotTrie$TrieMap", "generation", "I", false)
  | _ => ("SnapshotTrie$TrieMap", "readOnly", "Z", true)
def ty_Map : Nat → FieldType := fun k => match k with
  | 0 => .object "SnapshotTrie$Node"
  | 1 => .int
  | _ => .boolean
def n_Tri : String := "SnapshotTrie"
def T_Tri : u_T := fun k => match k with
  | 0 => ("SnapshotTrie", "maps", "[LSnapshotTrie$TrieMap;", true)
  | 1 => ("SnapshotTrie", "cursors", "[LSnapshotTrie$Cursor;", true)
  | 2 => ("SnapshotTrie", "latestGeneration", "I", false)
  | 3 => ("SnapshotTrie", "latestCopies", "I", false)
  | _ => ("SnapshotTrie", "latestValue", "J", false)
def ty_Tri : Nat → FieldType := fun k => match k with
  | 0 => .array (.object "SnapshotTrie$TrieMap")
  | 1 => .array (.object "SnapshotTrie$Cursor")
  | 2 => .int
  | 3 => .int
  | _ => .long
def n_Mod : String := "SnapshotTrieModel"
def T_Mod : u_T := fun k => match k with
  | 0 => ("SnapshotTrieModel", "thrown", "I", false)
  | 1 => ("SnapshotTrieModel", "generations", "I", false)
  | 2 => ("SnapshotTrieModel", "there", "[Z", true)
  | 3 => ("SnapshotTrieModel", "readOnly", "[Z", true)
  | 4 => ("SnapshotTrieModel", "generation", "[I", true)
  | 5 => ("SnapshotTrieModel", "sizes", "[I", true)
  | 6 => ("SnapshotTrieModel", "keys", "[I", true)
  | 7 => ("SnapshotTrieModel", "values", "[J", true)
  | 8 => ("SnapshotTrieModel", "belongs", "[I", true)
  | 9 => ("SnapshotTrieModel", "copied", "I", false)
  | 10 => ("SnapshotTrieModel", "used", "[Z", true)
  | 11 => ("SnapshotTrieModel", "left", "[I", true)
  | 12 => ("SnapshotTrieModel", "far", "[I", true)
  | 13 => ("SnapshotTrieModel", "seen", "[I", true)
  | 14 => ("SnapshotTrieModel", "seenValues", "[J", true)
  | _ => ("SnapshotTrieModel", "value", "J", false)
def ty_Mod : Nat → FieldType := fun k => match k with
  | 0 => .int
  | 1 => .int
  | 2 => .array .boolean
  | 3 => .array .boolean
  | 4 => .array .int
  | 5 => .array .int
  | 6 => .array .int
  | 7 => .array .long
  | 8 => .array .int
  | 9 => .int
  | 10 => .array .boolean
  | 11 => .array .int
  | 12 => .array .int
  | 13 => .array .int
  | 14 => .array .long
  | _ => .long
abbrev vwCl : List vw_C := [(n_Cur, T_Cur, 3), (n_Ent, T_Ent, 2), (n_Nod, T_Nod, 3), (n_Tal, T_Tal, 6), (n_Map, T_Map, 3), (n_Tri, T_Tri, 5), (n_Mod, T_Mod, 16)]
-- arrays by the number of their kind, exceptions by the number of their class
def x_ty : Nat → Option FieldType
  | 0 => some .int
  | 1 => some .long
  | 2 => some .boolean
  | 3 => some (.object "SnapshotTrie$Entry")
  | 4 => some (.object "SnapshotTrie$Node")
  | 5 => some (.object "SnapshotTrie$TrieMap")
  | 6 => some (.object "SnapshotTrie$Cursor")
  | _ => none
def x_ex : Nat → Option String
  | 11 => some "java/lang/IllegalArgumentException"
  | 12 => some "java/lang/UnsupportedOperationException"
  | 13 => some "java/lang/IllegalStateException"
  | 14 => some "java/util/NoSuchElementException"
  | _ => none
end
section
/-! statics of the start: rows of the printed names (claim/NAMES.whole.lean.txt), with Bundle spelled out -/
def xv_L (C n d : String) (A : Nat → Prop) (U : State) (H : Heap) : Prop := ∃ (c : ClassId) (k : Class) (i : Nat) (f : Field) (a : Nat) (cell : Cell), U.vm.findClass C = some c ∧ U.fieldFound? C n d = some (c, k, i, f) ∧ f.isStatic = true ∧ k.statics = some a ∧ H[a]? = some cell ∧ cell.vm.isStatics = true ∧ cell.cls = c ∧ f.slot < cell.slots.size ∧ k.staticTypes[f.slot]? = some f.type ∧ ¬ A a
theorem xv_L.moved {C n d : String} {A : Nat → Prop} {u U : State} {H : Heap} (hvm : u.vm.Alike U.vm) (h : xv_L C n d A u H) : xv_L C n d A U H := by
  obtain ⟨c, k, i, f, a, cell, h1, h2, h3, h4, h5, h6, h7, h8, h9, h10⟩ := h
  obtain ⟨k', hi', he⟩ := State.fieldFound?_setVm hvm h2
  exact ⟨c, k', i, f, a, cell, by rw [hvm.findClass]; exact h1, hi', h3, by rw [he]; exact h4, h5, h6, h7, h8, by rw [he]; exact h9, h10⟩
theorem xv_L.kept {C n d : String} {A : Nat → Prop} {U : State} {H H1 : Heap} (h : xv_L C n d A U H) (hq : ∀ a : Nat, a < H.size → ¬ A a → H1[a]? = H[a]?) : xv_L C n d A U H1 := by
  obtain ⟨c, k, i, f, a, cell, h1, h2, h3, h4, h5, h6, h7, h8, h9, h10⟩ := h
  exact ⟨c, k, i, f, a, cell, h1, h2, h3, h4, by rw [hq a (Array.getElem?_eq_some_iff.mp h5).1 h10]; exact h5, h6, h7, h8, h9, h10⟩
theorem xv_L.narrow {C n d : String} {A B : Nat → Prop} {U : State} {H : Heap} (h : xv_L C n d A U H) (hAB : ∀ q, B q → A q) : xv_L C n d B U H := by
  obtain ⟨c, k, i, f, a, cell, h1, h2, h3, h4, h5, h6, h7, h8, h9, h10⟩ := h
  exact ⟨c, k, i, f, a, cell, h1, h2, h3, h4, h5, h6, h7, h8, h9, fun z => h10 (hAB _ z)⟩
theorem xv_L.word {C n d : String} {A : Nat → Prop} {s : State} {args : Array Value} (h : xv_L C n d A s s.heap) : (Cond.laysStatic C n d).before args s = true := by
  obtain ⟨c, k, i, f, a, cell, h1, h2, h3, h4, h5, h6, h7, h8, h9, -⟩ := h
  show (Cond.laysStatic C n d).holds args s none s [] = true
  exact Cond.laysStatic_of h1 h2 h3 h4 h5 h6 h7 h8 h9
/-- .. and what it holds: null or some reference -/
def xv_Zq (C n d : String) (A : Nat → Prop) (U : State) (H : Heap) : Prop := va_Zq C n d A U H ∧ xv_L C n d A U H
theorem xv_Zq.moved {C n d : String} {A : Nat → Prop} {u U : State} {H : Heap} (hvm : u.vm.Alike U.vm) (h : xv_Zq C n d A u H) : xv_Zq C n d A U H := ⟨va_Zq.moved hvm h.1, xv_L.moved hvm h.2⟩
theorem xv_Zq.kept {C n d : String} {A : Nat → Prop} {U : State} {H H1 : Heap} (h : xv_Zq C n d A U H) (hq : ∀ a : Nat, a < H.size → ¬ A a → H1[a]? = H[a]?) : xv_Zq C n d A U H1 := ⟨va_Zq.kept h.1 hq, xv_L.kept h.2 hq⟩
theorem xv_Zq.narrow {C n d : String} {A B : Nat → Prop} {U : State} {H : Heap} (h : xv_Zq C n d A U H) (hAB : ∀ q, B q → A q) : xv_Zq C n d B U H := ⟨va_Zq.narrow h.1 hAB, xv_L.narrow h.2 hAB⟩
theorem xv_Zqof {args : Array Value} {s : State} {C n d : String} {A : Nat → Prop} (hl : (Cond.laysStatic C n d).before args s = true) (hini : (Cond.initialized C).before args s = true) (h : (Cond.isRef (.static C n d)).before args s = true) (hA : ∀ a : Nat, a < s.heap.size → ¬ A a) : xv_Zq C n d A s s.heap := by
  refine ⟨va_Zqof hl hini h hA, ?_⟩
  obtain ⟨c, k, i, f, a, cell, h1, h2, h3, h4, h5, h6, h7, h8, h9⟩ := Cond.laysStatic_spec hl
  exact ⟨c, k, i, f, a, cell, h1, h2, h3, h4, h5, h6, h7, h8, h9, hA a (Array.getElem?_eq_some_iff.mp h5).1⟩
theorem xv_isRef {C n d : String} {v : Value} {A : Nat → Prop} {s : State} {args : Array Value} (h : va_Z C n d v A s s.heap) (hv : v.isRef = true) : (Cond.isRef (.static C n d)).before args s = true := by
  obtain ⟨cf, kf, fi, f, a, cell, h1, h2, h3, h4, h5, h6, h7, -⟩ := h
  have he : (Term.static C n d).eval args s none [] s = some v := by
    simp [Term.eval, State.fieldNamed?, h1, h2, h4, h5, h6, h7]
  simp only [Cond.before, Cond.holds, Cond.value, he]
  cases v <;> simp_all [Value.isRef]
theorem xv_isRefq {C n d : String} {A : Nat → Prop} {s : State} {args : Array Value} (h : va_Zq C n d A s s.heap) : (Cond.isRef (.static C n d)).before args s = true := by
  rcases h with h | ⟨t, h⟩
  · exact xv_isRef h rfl
  · exact xv_isRef h rfl
/-! A method's frame over a world of cells, and how it goes on: 'Go', said once, whatever frame of the machine lies beneath. -/
-- a cell: an array (number of its kind, what it holds) or an object (number of its class, its fields)
abbrev x_C : Type := (Nat × vp_A) ⊕ (Nat × List Value)
-- a heap: the next address, the slots made so far, the cells that are known
abbrev x_H : Type := Nat × Nat × (Nat → Option x_C)
-- how a method ends: with a value or none; or by an exception (number of its class, its address)
abbrev x_O : Type := Option Value ⊕ (Nat × Nat)
-- a method: name, code, locals, what it returns, its handlers
abbrev x_M : Type := MethodName × ByteArray × Nat × Option FieldType × List (Nat × Nat × Nat × Nat)
-- what stays the same: program, launch, surroundings, first state, its arguments; classes and slots; classes of arrays and exceptions; base address; most cells; most slots
abbrev x_K : Type := (Program × Launch × Env × State × Array Value) × va_G × (Nat → ClassId) × Nat × Nat × Nat
abbrev x_p (K : x_K) : Program := K.1.1
abbrev x_n (K : x_K) : Launch := K.1.2.1
abbrev x_e (K : x_K) : Env := K.1.2.2.1
abbrev x_s (K : x_K) : State := K.1.2.2.2.1
abbrev x_a (K : x_K) : Array Value := K.1.2.2.2.2
abbrev x_D (K : x_K) : va_G := K.2.1
abbrev x_ca (K : x_K) : Nat → ClassId := K.2.2.1
abbrev x_B (K : x_K) : Nat := K.2.2.2.1
abbrev x_cap (K : x_K) : Nat := K.2.2.2.2.1
abbrev x_cas (K : x_K) : Nat := K.2.2.2.2.2
def x_E (K : x_K) (c : x_C) : va_E := match c with
  | .inl q => .inl (x_ca K q.1, q.2)
  | .inr o => .inr o
def x_ok (K : x_K) : Prop :=
  (x_p K).tables.exec = Jvm.exec ∧ (∀ w ∈ lw_tbl, w.before (x_a K) (x_s K) = true) ∧ va_K (x_D K) vwCl [] (x_s K) ∧
  (∀ (k : Nat) (ty : FieldType), x_ty k = some ty → ArrOfT (x_s K) (x_ca K k) ty ∧ va_RA (x_s K) (x_ca K k) ty) ∧
  (∀ (k : Nat) (nm : String), x_ex k = some nm → (x_s K).vm.findClass nm = some (x_ca K k)) ∧
  (x_e K).platform.stackTraces = false ∧ (x_s K).heap.size = x_B K ∧
  xv_Zq Bundle.tN "UNASSIGNED_STACK" Bundle.steD (fun q => x_B K ≤ q) (x_s K) (x_s K).heap ∧ xv_Zq Bundle.tN "SUPPRESSED_SENTINEL" Bundle.listD (fun q => x_B K ≤ q) (x_s K) (x_s K).heap ∧
  ∀ (i j : Nat) (a b : String), x_ex i = some a → x_ex j = some b → i ≠ j → va_Nc a b (x_s K)
def x_W (K : x_K) (h : x_H) (H : Heap) : Prop :=
  H.size = h.1 ∧ x_B K ≤ h.1 ∧ (∀ (a : Nat) (c : x_C), h.2.2 a = some c → x_B K ≤ a ∧ va_at (x_D K) vwCl (a, x_E K c) H) ∧
  ∀ q : Nat, q < x_B K → H[q]? = (x_s K).heap[q]?
def x_F (K : x_K) (M : x_M) (d : Nat) (R : Room) (s : State) (m : MethodId) (meth : Method) (c : Code) (H : Heap) (h : x_H) (locs : List Loc) (cells slots z0 q0 : Nat) : Prop :=
  x_ok K ∧ (x_s K).WarmedH s.vm ∧
  (c.code = M.2.1 ∧ c.maxLocals = M.2.2.1 ∧ meth.sig.returnType = M.2.2.2.1 ∧ meth.locks = false ∧ meth.name = M.1.name ∧ c.exceptionTable.toList.map (fun x => (x.startPc, x.endPc, x.handlerPc, x.catchType)) = M.2.2.2.2) ∧
  s.vm.findClass M.1.cls = some m.cls ∧
  (d + 8 ≤ R.frames ∧ 100 * d + 300 ≤ R.locals ∧ x_cap K - z0 ≤ R.cells ∧ x_cas K - q0 ≤ R.slots) ∧
  (cells + z0 ≤ h.1 ∧ slots + q0 ≤ h.2.1 ∧ h.1 ≤ x_cap K ∧ h.2.1 ≤ x_cas K) ∧ x_W K h H ∧ ∀ q ∈ locs, x_B K ≤ q.base
-- an outcome of the machine and ours
def x_oo (K : x_K) (t : State) (o : Outcome) (xo : x_O) : Prop := match xo with
  | .inl v => o = .returned v
  | .inr q => o = .threw q.2 ∧ ∃ cell : Cell, t.heap[q.2]? = some cell ∧ cell.vm = .none ∧ cell.cls = x_ca K q.1
def x_Q (K : x_K) (s : State) (below : List Frame) (z0 q0 : Nat) (Q : x_O → x_H → Prop) : State → Prop := fun t =>
  ∃ (o : Outcome) (xo : x_O) (h' : x_H), t.status = .running ∧ Ended t below o ∧ s.WarmedH t.vm ∧
    (∃ (L : List Loc) (k n : Nat), s.sameButNew ({ t with vm := s.vm } : State) L k n ∧ (∀ q ∈ L, x_B K ≤ q.base) ∧ k + z0 ≤ h'.1 ∧ n + q0 ≤ h'.2.1) ∧
    x_oo K t o xo ∧ x_W K h' t.heap ∧ h'.1 ≤ x_cap K ∧ h'.2.1 ≤ x_cas K ∧ Q xo h'
def x_l (ls : Array Slot) (n : Nat) (lv : List (Option Value)) : Prop := ls.size = n ∧ lv_wf ls ∧ ∀ (i : Nat) (v : Value), lv[i]? = some (some v) → ls[i]? = some (.val v)
def Go (K : x_K) (M : x_M) (d pc : Nat) (lv : List (Option Value)) (st : List Value) (h : x_H) (Q : x_O → x_H → Prop) : Prop :=
  ∀ (R : Room) (s : State) (m : MethodId) (args : Array Value) (below : List Frame) (meth : Method) (c : Code) (H : Heap) (locs : List Loc) (cells slots : Nat) (ls : Array Slot) (z0 q0 : Nat),
    x_F K M d R s m meth c H h locs cells slots z0 q0 → x_l ls M.2.2.1 lv →
    W (x_p K) (x_n K) (x_e K) R s m args below meth c H locs cells slots (x_Q K s below z0 q0 Q) (F0 m pc ls st)
section XA
variable {K : x_K} {M : x_M} {d : Nat} {R : Room} {s : State} {m : MethodId} {meth : Method} {c : Code} {H : Heap} {h : x_H} {locs : List Loc} {cells slots z0 q0 : Nat}
theorem x_F.ok (hF : x_F K M d R s m meth c H h locs cells slots z0 q0) : x_ok K := hF.1
theorem x_F.ex (hF : x_F K M d R s m meth c H h locs cells slots z0 q0) : (x_p K).tables.exec = Jvm.exec := hF.1.1
theorem x_F.wm (hF : x_F K M d R s m meth c H h locs cells slots z0 q0) : (x_s K).WarmedH s.vm := hF.2.1
theorem x_F.cd (hF : x_F K M d R s m meth c H h locs cells slots z0 q0) : c.code = M.2.1 := hF.2.2.1.1
theorem x_F.ml (hF : x_F K M d R s m meth c H h locs cells slots z0 q0) : c.maxLocals = M.2.2.1 := hF.2.2.1.2.1
theorem x_F.rt (hF : x_F K M d R s m meth c H h locs cells slots z0 q0) : meth.sig.returnType = M.2.2.2.1 := hF.2.2.1.2.2.1
theorem x_F.lk (hF : x_F K M d R s m meth c H h locs cells slots z0 q0) : meth.locks = false := hF.2.2.1.2.2.2.1
theorem x_F.nm (hF : x_F K M d R s m meth c H h locs cells slots z0 q0) : meth.name = M.1.name := hF.2.2.1.2.2.2.2.1
theorem x_F.tb (hF : x_F K M d R s m meth c H h locs cells slots z0 q0) : c.exceptionTable.toList.map (fun x => (x.startPc, x.endPc, x.handlerPc, x.catchType)) = M.2.2.2.2 := hF.2.2.1.2.2.2.2.2
theorem x_F.ow (hF : x_F K M d R s m meth c H h locs cells slots z0 q0) : s.vm.findClass M.1.cls = some m.cls := hF.2.2.2.1
theorem x_F.rm (hF : x_F K M d R s m meth c H h locs cells slots z0 q0) : d + 8 ≤ R.frames ∧ 100 * d + 300 ≤ R.locals ∧ x_cap K - z0 ≤ R.cells ∧ x_cas K - q0 ≤ R.slots := hF.2.2.2.2.1
theorem x_F.cs (hF : x_F K M d R s m meth c H h locs cells slots z0 q0) : cells + z0 ≤ h.1 ∧ slots + q0 ≤ h.2.1 ∧ h.1 ≤ x_cap K ∧ h.2.1 ≤ x_cas K := hF.2.2.2.2.2.1
theorem x_F.w (hF : x_F K M d R s m meth c H h locs cells slots z0 q0) : x_W K h H := hF.2.2.2.2.2.2.1
theorem x_F.lc (hF : x_F K M d R s m meth c H h locs cells slots z0 q0) : ∀ q ∈ locs, x_B K ≤ q.base := hF.2.2.2.2.2.2.2
theorem x_F.kk (hF : x_F K M d R s m meth c H h locs cells slots z0 q0) : va_K (x_D K) vwCl [] s := va_K.moved hF.wm.alike hF.ok.2.2.1
theorem x_F.ar (hF : x_F K M d R s m meth c H h locs cells slots z0 q0) {k : Nat} {ty : FieldType} (hk : x_ty k = some ty) : va_K (x_D K) vwCl [(x_ca K k, ty)] s := by
  refine ⟨hF.kk.1, fun j q hj => ?_⟩
  have hz : j < 1 := (List.getElem?_eq_some_iff.mp hj).1
  obtain rfl : j = 0 := by omega
  cases hj
  obtain ⟨h1, h2⟩ := hF.ok.2.2.2.1 k ty hk
  exact ⟨arrOfT_moved hF.wm.alike h1, h2.moved hF.wm.alike⟩
/-- a word of the tables holds in every frame -/
theorem x_F.wd (hF : x_F K M d R s m meth c H h locs cells slots z0 q0) {w : Cond} (hw : w ∈ lw_tbl) (hc : ((w.onTables && w.keeps) = true ∨ ∃ ty, w = .arrayClass ty)) (args : Array Value) : w.before args s = true :=
  word_at hF.wm hc (hF.ok.2.1 w hw)
/-- the frame after a step that moves the heap -/
theorem x_F.mv (hF : x_F K M d R s m meth c H h locs cells slots z0 q0) {H' : Heap} {h' : x_H} {locs' : List Loc} {cells' slots' : Nat} (hw : x_W K h' H') (hl : ∀ q ∈ locs', x_B K ≤ q.base) (hc : cells' + z0 ≤ h'.1) (hs : slots' + q0 ≤ h'.2.1) (h1 : h'.1 ≤ x_cap K) (h2 : h'.2.1 ≤ x_cas K) :
    x_F K M d R s m meth c H' h' locs' cells' slots' z0 q0 := ⟨hF.1, hF.2.1, hF.2.2.1, hF.2.2.2.1, hF.2.2.2.2.1, ⟨hc, hs, h1, h2⟩, hw, hl⟩
end XA
def x_up (h : x_H) (a : Nat) (c : x_C) : x_H := (h.1, h.2.1, va_up h.2.2 a (some c))
def x_nw (h : x_H) (n : Nat) (c : x_C) : x_H := (h.1 + 1, h.2.1 + n, va_up h.2.2 h.1 (some c))
theorem x_W.lt {K : x_K} {h : x_H} {H : Heap} (hw : x_W K h H) {a : Nat} {c : x_C} (ha : h.2.2 a = some c) : a < h.1 := by
  have := (hw.2.2.1 a c ha).2.lt
  rw [← hw.1]; exact this
theorem x_W.up {K : x_K} {h : x_H} {H H' : Heap} (hw : x_W K h H) {a : Nat} {c : x_C} (c' : x_C) (ha : h.2.2 a = some c) (e1 : va_at (x_D K) vwCl (a, x_E K c') H') (e2 : H'.size = H.size) (e3 : ∀ q, q ≠ a → H'[q]? = H[q]?) : x_W K (x_up h a c') H' := by
  obtain ⟨w1, w2, w3, w4⟩ := hw
  refine ⟨e2.trans w1, w2, fun b x hb => ?_, fun q hq => ?_⟩
  · by_cases hba : b = a
    · subst hba
      have hx : some c' = some x := by rw [← hb]; exact (va_up_self _ _ _).symm
      cases hx
      exact ⟨(w3 b c ha).1, e1⟩
    · have hx : h.2.2 b = some x := by rw [← hb]; exact (va_up_ne _ _ hba).symm
      exact ⟨(w3 b x hx).1, (w3 b x hx).2.kept (e3 b hba)⟩
  · have hne : q ≠ a := by
      have := (w3 a c ha).1
      omega
    rw [e3 q hne]; exact w4 q hq
theorem x_W.nw {K : x_K} {h : x_H} {H H' : Heap} (hw : x_W K h H) (n : Nat) (c' : x_C) (e1 : va_at (x_D K) vwCl (h.1, x_E K c') H') (e2 : H'.size = h.1 + 1) (e3 : ∀ q, q < h.1 → H'[q]? = H[q]?) : x_W K (x_nw h n c') H' := by
  have hlt : ∀ {a : Nat} {c : x_C}, h.2.2 a = some c → a < h.1 := fun ha => x_W.lt hw ha
  obtain ⟨w1, w2, w3, w4⟩ := hw
  refine ⟨e2, Nat.le_succ_of_le w2, fun b x hb => ?_, fun q hq => ?_⟩
  · by_cases hba : b = h.1
    · subst hba
      have hx : some c' = some x := by rw [← hb]; exact (va_up_self _ _ _).symm
      cases hx
      exact ⟨w2, e1⟩
    · have hx : h.2.2 b = some x := by rw [← hb]; exact (va_up_ne _ _ hba).symm
      exact ⟨(w3 b x hx).1, (w3 b x hx).2.kept (e3 b (hlt hx))⟩
  · rw [e3 q (by omega)]; exact w4 q hq
/-- a cell that isn't spoken of -/
theorem x_W.junk {K : x_K} {h : x_H} {H H' : Heap} (hw : x_W K h H) (n : Nat) (e2 : H'.size = h.1 + 1) (e3 : ∀ q, q < h.1 → H'[q]? = H[q]?) : x_W K (h.1 + 1, h.2.1 + n, h.2.2) H' := by
  have hlt : ∀ {a : Nat} {c : x_C}, h.2.2 a = some c → a < h.1 := fun ha => x_W.lt hw ha
  obtain ⟨w1, w2, w3, w4⟩ := hw
  refine ⟨e2, Nat.le_succ_of_le w2, fun b x hb => ⟨(w3 b x hb).1, (w3 b x hb).2.kept (e3 b (hlt hb))⟩, fun q hq => ?_⟩
  rw [e3 q (by omega)]; exact w4 q hq
theorem x_W.P {K : x_K} {h : x_H} {H : Heap} (hw : x_W K h H) {a : Nat} {c : x_C} (ha : h.2.2 a = some c) : va_P (x_D K) vwCl [(a, x_E K c)] H := by
  intro k q hk
  have hz : k < 1 := (List.getElem?_eq_some_iff.mp hk).1
  obtain rfl : k = 0 := by omega
  cases hk
  exact (hw.2.2.1 a c ha).2
-- locals: those that are known
def x_pr (lv : List (Option Value)) : List (Nat × Value) := (List.range lv.length).filterMap (fun i => match lv[i]? with
  | some (some v) => some (i, v)
  | _ => none)
theorem x_pr_mem {lv : List (Option Value)} {i : Nat} {v : Value} : (i, v) ∈ x_pr lv ↔ lv[i]? = some (some v) := by
  unfold x_pr
  rw [List.mem_filterMap]
  constructor
  · rintro ⟨j, -, hj⟩
    cases hl : lv[j]? with
    | none => rw [hl] at hj; cases hj
    | some o =>
      cases o with
      | none => rw [hl] at hj; cases hj
      | some w =>
        rw [hl] at hj
        cases hj
        exact hl
  · intro hl
    refine ⟨i, List.mem_range.mpr (List.getElem?_eq_some_iff.mp hl).1, ?_⟩
    rw [hl]
theorem x_l.has {ls : Array Slot} {n : Nat} {lv : List (Option Value)} (hl : x_l ls n lv) : lv_has ls n (x_pr lv) := ⟨hl.1, hl.2.1, fun q hq => hl.2.2 q.1 q.2 (x_pr_mem.mp hq)⟩
def x_k : Option Value → Option Value
  | some w => if w.category = 2 then none else some w
  | none => none
def x_st1 : List (Option Value) → Nat → Value → List (Option Value)
  | [], _, _ => []
  | _ :: r, 0, v => some v :: r
  | a :: r, i + 1, v => (if i = 0 then x_k a else a) :: x_st1 r i v
def x_st2 : List (Option Value) → Nat → Value → List (Option Value)
  | [], _, _ => []
  | _ :: [], 0, v => [some v]
  | _ :: _ :: r, 0, v => some v :: none :: r
  | a :: r, i + 1, v => (if i = 0 then x_k a else a) :: x_st2 r i v
theorem x_k_spec {o : Option Value} {w : Value} (h : x_k o = some w) : o = some w ∧ ¬ w.category = 2 := by
  cases o with
  | none => cases h
  | some u =>
    have h' : (if u.category = 2 then none else some u) = some w := h
    by_cases hc : u.category = 2
    · rw [if_pos hc] at h'; cases h'
    · rw [if_neg hc] at h'; cases h'; exact ⟨rfl, hc⟩
theorem x_st1_spec : ∀ (lv : List (Option Value)) (i : Nat) (v : Value) (j : Nat) (w : Value), (x_st1 lv i v)[j]? = some (some w) → (j = i ∧ w = v) ∨ (j ≠ i ∧ lv[j]? = some (some w) ∧ ¬ (j + 1 = i ∧ w.category = 2))
  | [], i, v, j, w, h => by simp [x_st1] at h
  | a :: r, 0, v, j, w, h => by
    cases j with
    | zero => simp [x_st1] at h; exact Or.inl ⟨rfl, h.symm⟩
    | succ j => simp [x_st1] at h; exact Or.inr ⟨by omega, by simpa using h, by omega⟩
  | a :: r, i + 1, v, j, w, h => by
    cases j with
    | zero =>
      simp only [x_st1, List.getElem?_cons_zero, Option.some.injEq] at h
      by_cases hi : i = 0
      · rw [if_pos hi] at h
        obtain ⟨h1, h2⟩ := x_k_spec h
        exact Or.inr ⟨by omega, by simpa using h1, fun q => h2 q.2⟩
      · rw [if_neg hi] at h
        exact Or.inr ⟨by omega, by simpa using h, by omega⟩
    | succ j =>
      simp only [x_st1, List.getElem?_cons_succ] at h
      rcases x_st1_spec r i v j w h with ⟨h1, h2⟩ | ⟨h1, h2, h3⟩
      · exact Or.inl ⟨by omega, h2⟩
      · exact Or.inr ⟨by omega, by simpa using h2, fun q => h3 ⟨by omega, q.2⟩⟩
theorem x_st2_spec : ∀ (lv : List (Option Value)) (i : Nat) (v : Value) (j : Nat) (w : Value), (x_st2 lv i v)[j]? = some (some w) → (j = i ∧ w = v) ∨ (j ≠ i ∧ j ≠ i + 1 ∧ lv[j]? = some (some w) ∧ ¬ (j + 1 = i ∧ w.category = 2))
  | [], i, v, j, w, h => by simp [x_st2] at h
  | [a], 0, v, j, w, h => by
    cases j with
    | zero => simp [x_st2] at h; exact Or.inl ⟨rfl, h.symm⟩
    | succ j => simp [x_st2] at h
  | a :: b :: r, 0, v, j, w, h => by
    cases j with
    | zero => simp [x_st2] at h; exact Or.inl ⟨rfl, h.symm⟩
    | succ j =>
      cases j with
      | zero => simp [x_st2] at h
      | succ j => simp [x_st2] at h; exact Or.inr ⟨by omega, by omega, by simpa using h, by omega⟩
  | a :: r, i + 1, v, j, w, h => by
    cases j with
    | zero =>
      simp only [x_st2, List.getElem?_cons_zero, Option.some.injEq] at h
      by_cases hi : i = 0
      · rw [if_pos hi] at h
        obtain ⟨h1, h2⟩ := x_k_spec h
        exact Or.inr ⟨by omega, by omega, by simpa using h1, fun q => h2 q.2⟩
      · rw [if_neg hi] at h
        exact Or.inr ⟨by omega, by omega, by simpa using h, by omega⟩
    | succ j =>
      simp only [x_st2, List.getElem?_cons_succ] at h
      rcases x_st2_spec r i v j w h with ⟨h1, h2⟩ | ⟨h1, h2, h3, h4⟩
      · exact Or.inl ⟨by omega, h2⟩
      · exact Or.inr ⟨by omega, by omega, by simpa using h3, fun q => h4 ⟨by omega, q.2⟩⟩
theorem x_l.of1 {ls : Array Slot} {n i : Nat} {v : Value} {lv lv' : List (Option Value)} (hl : lv_has ls n ((i, v) :: (x_pr lv).filter (fun q => !(q.1 == i) && !(q.1 + 1 == i && q.2.category == 2)))) (he : x_st1 lv i v = lv') : x_l ls n lv' := by
  refine ⟨hl.1, hl.2.1, fun j w hj => ?_⟩
  subst he
  rcases x_st1_spec lv i v j w hj with ⟨rfl, rfl⟩ | ⟨h1, h2, h3⟩
  · exact hl.2.2 _ List.mem_cons_self
  · refine hl.2.2 (j, w) (List.mem_cons_of_mem _ (List.mem_filter.mpr ⟨x_pr_mem.mpr h2, ?_⟩))
    simp only [Bool.and_eq_true, Bool.not_eq_true', beq_eq_false_iff_ne, Bool.and_eq_false_imp, beq_iff_eq]
    exact ⟨h1, fun a b => h3 ⟨a, b⟩⟩
theorem x_l.of2 {ls : Array Slot} {n i : Nat} {v : Value} {lv lv' : List (Option Value)} (hl : lv_has ls n ((i, v) :: (x_pr lv).filter (fun q => !(q.1 == i) && (!(q.1 == i + 1) && !(q.1 + 1 == i && q.2.category == 2))))) (he : x_st2 lv i v = lv') : x_l ls n lv' := by
  refine ⟨hl.1, hl.2.1, fun j w hj => ?_⟩
  subst he
  rcases x_st2_spec lv i v j w hj with ⟨rfl, rfl⟩ | ⟨h1, h2, h3, h4⟩
  · exact hl.2.2 _ List.mem_cons_self
  · refine hl.2.2 (j, w) (List.mem_cons_of_mem _ (List.mem_filter.mpr ⟨x_pr_mem.mpr h3, ?_⟩))
    simp only [Bool.and_eq_true, Bool.not_eq_true', beq_eq_false_iff_ne, Bool.and_eq_false_imp, beq_iff_eq]
    exact ⟨h1, h2, fun a b => h4 ⟨a, b⟩⟩
def x_r : Value → Bool
  | .ref _ => true
  | .null => true
  | _ => false
theorem x_r_rf (o : Option Nat) : x_r (va_rf o) = true := by cases o <;> rfl
theorem x_k_rf (o : Option Nat) : x_k (some (va_rf o)) = some (va_rf o) := by cases o <;> rfl
theorem x_r_cases {v : Value} (h : x_r v = true) : (∃ a : Nat, v = .ref a) ∨ v = .null := by
  cases v <;> first | exact Or.inl ⟨_, rfl⟩ | exact Or.inr rfl | cases h
end
section
section XB
variable {K : x_K} {M : x_M} {d pc pc' : Nat} {lv lv' : List (Option Value)} {st : List Value} {h : x_H} {Q : x_O → x_H → Prop}
/-- what is known of locals may be forgotten -/
theorem go_wk (hl : ∀ (i : Nat) (v : Value), lv'[i]? = some (some v) → lv[i]? = some (some v)) (k : Go K M d pc lv' st h Q) : Go K M d pc lv st h Q := fun R s m args below meth c H locs cells slots ls z0 q0 hF hx =>
  k R s m args below meth c H locs cells slots ls z0 q0 hF ⟨hx.1, hx.2.1, fun i v hv => hx.2.2 i v (hl i v hv)⟩
theorem go_Q {Q' : x_O → x_H → Prop} (hq : ∀ o g, Q' o g → Q o g) (k : Go K M d pc lv st h Q') : Go K M d pc lv st h Q := by
  intro R s m args below meth c H locs cells slots ls z0 q0 hF hx T hT X
  obtain ⟨t, a, o, xo, g, b1, b2, b3, b4, b5, b6, b7, b8, b9⟩ := k R s m args below meth c H locs cells slots ls z0 q0 hF hx T hT X
  exact ⟨t, a, o, xo, g, b1, b2, b3, b4, b5, b6, b7, b8, hq _ _ b9⟩

theorem go_iconst {n : Int} {v : Int32} (hd : decode M.2.1 pc = .ok (.iconst n, 1)) (hv : Int32.ofInt n = v) (hp : pc + 1 = pc') (k : Go K M d pc' lv (.int v :: st) h Q) : Go K M d pc lv (st) h Q := by
  subst hp
  intro R s m args below meth c H locs cells slots ls z0 q0 hF hx
  exact lv_iconst hF.ex hF.cd hd hv (k R s m args below meth c H locs cells slots ls z0 q0 hF hx)
theorem go_bipush {n : Int} {v : Int32} (hd : decode M.2.1 pc = .ok (.bipush n, 2)) (hv : (Int8.ofInt n).toInt32 = v) (hp : pc + 2 = pc') (k : Go K M d pc' lv (.int v :: st) h Q) : Go K M d pc lv (st) h Q := by
  subst hp
  intro R s m args below meth c H locs cells slots ls z0 q0 hF hx
  exact lv_bipush hF.ex hF.cd hd hv (k R s m args below meth c H locs cells slots ls z0 q0 hF hx)
theorem go_sipush {n : Int} {v : Int32} (hd : decode M.2.1 pc = .ok (.sipush n, 3)) (hv : (Int16.ofInt n).toInt32 = v) (hp : pc + 3 = pc') (k : Go K M d pc' lv (.int v :: st) h Q) : Go K M d pc lv (st) h Q := by
  subst hp
  intro R s m args below meth c H locs cells slots ls z0 q0 hF hx
  exact lv_sipush hF.ex hF.cd hd hv (k R s m args below meth c H locs cells slots ls z0 q0 hF hx)
theorem go_lconst {n : Fin 2} {v : Int64} (hd : decode M.2.1 pc = .ok (.lconst n, 1)) (hv : Int64.ofNat (n : Nat) = v) (hp : pc + 1 = pc') (k : Go K M d pc' lv (.long v :: st) h Q) : Go K M d pc lv (st) h Q := by
  subst hp
  intro R s m args below meth c H locs cells slots ls z0 q0 hF hx
  exact lv_lconst hF.ex hF.cd hd hv (k R s m args below meth c H locs cells slots ls z0 q0 hF hx)
theorem go_null (hd : decode M.2.1 pc = .ok (.aconst_null, 1)) (hp : pc + 1 = pc') (k : Go K M d pc' lv (.null :: st) h Q) : Go K M d pc lv (st) h Q := by
  subst hp
  intro R s m args below meth c H locs cells slots ls z0 q0 hF hx
  exact lv_null hF.ex hF.cd hd (k R s m args below meth c H locs cells slots ls z0 q0 hF hx)
theorem go_iadd {x y : Int32} (hd : decode M.2.1 pc = .ok (.iadd, 1)) (hp : pc + 1 = pc') (k : Go K M d pc' lv (.int (x + y) :: st) h Q) : Go K M d pc lv (.int y :: .int x :: st) h Q := by
  subst hp
  intro R s m args below meth c H locs cells slots ls z0 q0 hF hx
  exact lv_iadd hF.ex hF.cd hd (k R s m args below meth c H locs cells slots ls z0 q0 hF hx)
theorem go_isub {x y : Int32} (hd : decode M.2.1 pc = .ok (.isub, 1)) (hp : pc + 1 = pc') (k : Go K M d pc' lv (.int (x - y) :: st) h Q) : Go K M d pc lv (.int y :: .int x :: st) h Q := by
  subst hp
  intro R s m args below meth c H locs cells slots ls z0 q0 hF hx
  exact lv_isub hF.ex hF.cd hd (k R s m args below meth c H locs cells slots ls z0 q0 hF hx)
theorem go_imul {x y : Int32} (hd : decode M.2.1 pc = .ok (.imul, 1)) (hp : pc + 1 = pc') (k : Go K M d pc' lv (.int (x * y) :: st) h Q) : Go K M d pc lv (.int y :: .int x :: st) h Q := by
  subst hp
  intro R s m args below meth c H locs cells slots ls z0 q0 hF hx
  exact lv_imul hF.ex hF.cd hd (k R s m args below meth c H locs cells slots ls z0 q0 hF hx)
theorem go_iand {x y : Int32} (hd : decode M.2.1 pc = .ok (.iand, 1)) (hp : pc + 1 = pc') (k : Go K M d pc' lv (.int (x &&& y) :: st) h Q) : Go K M d pc lv (.int y :: .int x :: st) h Q := by
  subst hp
  intro R s m args below meth c H locs cells slots ls z0 q0 hF hx
  exact lv_iand hF.ex hF.cd hd (k R s m args below meth c H locs cells slots ls z0 q0 hF hx)
theorem go_ior {x y : Int32} (hd : decode M.2.1 pc = .ok (.ior, 1)) (hp : pc + 1 = pc') (k : Go K M d pc' lv (.int (x ||| y) :: st) h Q) : Go K M d pc lv (.int y :: .int x :: st) h Q := by
  subst hp
  intro R s m args below meth c H locs cells slots ls z0 q0 hF hx
  exact lv_ior hF.ex hF.cd hd (k R s m args below meth c H locs cells slots ls z0 q0 hF hx)
theorem go_ixor {x y : Int32} (hd : decode M.2.1 pc = .ok (.ixor, 1)) (hp : pc + 1 = pc') (k : Go K M d pc' lv (.int (x ^^^ y) :: st) h Q) : Go K M d pc lv (.int y :: .int x :: st) h Q := by
  subst hp
  intro R s m args below meth c H locs cells slots ls z0 q0 hF hx
  exact lv_ixor hF.ex hF.cd hd (k R s m args below meth c H locs cells slots ls z0 q0 hF hx)
theorem go_ladd {x y : Int64} (hd : decode M.2.1 pc = .ok (.ladd, 1)) (hp : pc + 1 = pc') (k : Go K M d pc' lv (.long (x + y) :: st) h Q) : Go K M d pc lv (.long y :: .long x :: st) h Q := by
  subst hp
  intro R s m args below meth c H locs cells slots ls z0 q0 hF hx
  exact lv_ladd hF.ex hF.cd hd (k R s m args below meth c H locs cells slots ls z0 q0 hF hx)
theorem go_lsub {x y : Int64} (hd : decode M.2.1 pc = .ok (.lsub, 1)) (hp : pc + 1 = pc') (k : Go K M d pc' lv (.long (x - y) :: st) h Q) : Go K M d pc lv (.long y :: .long x :: st) h Q := by
  subst hp
  intro R s m args below meth c H locs cells slots ls z0 q0 hF hx
  exact lv_lsub hF.ex hF.cd hd (k R s m args below meth c H locs cells slots ls z0 q0 hF hx)
theorem go_lmul {x y : Int64} (hd : decode M.2.1 pc = .ok (.lmul, 1)) (hp : pc + 1 = pc') (k : Go K M d pc' lv (.long (x * y) :: st) h Q) : Go K M d pc lv (.long y :: .long x :: st) h Q := by
  subst hp
  intro R s m args below meth c H locs cells slots ls z0 q0 hF hx
  exact lv_lmul hF.ex hF.cd hd (k R s m args below meth c H locs cells slots ls z0 q0 hF hx)
theorem go_land {x y : Int64} (hd : decode M.2.1 pc = .ok (.land, 1)) (hp : pc + 1 = pc') (k : Go K M d pc' lv (.long (x &&& y) :: st) h Q) : Go K M d pc lv (.long y :: .long x :: st) h Q := by
  subst hp
  intro R s m args below meth c H locs cells slots ls z0 q0 hF hx
  exact lv_land hF.ex hF.cd hd (k R s m args below meth c H locs cells slots ls z0 q0 hF hx)
theorem go_lor {x y : Int64} (hd : decode M.2.1 pc = .ok (.lor, 1)) (hp : pc + 1 = pc') (k : Go K M d pc' lv (.long (x ||| y) :: st) h Q) : Go K M d pc lv (.long y :: .long x :: st) h Q := by
  subst hp
  intro R s m args below meth c H locs cells slots ls z0 q0 hF hx
  exact lv_lor hF.ex hF.cd hd (k R s m args below meth c H locs cells slots ls z0 q0 hF hx)
theorem go_lxor {x y : Int64} (hd : decode M.2.1 pc = .ok (.lxor, 1)) (hp : pc + 1 = pc') (k : Go K M d pc' lv (.long (x ^^^ y) :: st) h Q) : Go K M d pc lv (.long y :: .long x :: st) h Q := by
  subst hp
  intro R s m args below meth c H locs cells slots ls z0 q0 hF hx
  exact lv_lxor hF.ex hF.cd hd (k R s m args below meth c H locs cells slots ls z0 q0 hF hx)
theorem go_ineg {x : Int32} (hd : decode M.2.1 pc = .ok (.ineg, 1)) (hp : pc + 1 = pc') (k : Go K M d pc' lv (.int (-x) :: st) h Q) : Go K M d pc lv (.int x :: st) h Q := by
  subst hp
  intro R s m args below meth c H locs cells slots ls z0 q0 hF hx
  exact lv_ineg hF.ex hF.cd hd (k R s m args below meth c H locs cells slots ls z0 q0 hF hx)
theorem go_ishl {x y : Int32} (hd : decode M.2.1 pc = .ok (.ishl, 1)) (hp : pc + 1 = pc') (k : Go K M d pc' lv (.int (x <<< (y &&& 31)) :: st) h Q) : Go K M d pc lv (.int y :: .int x :: st) h Q := by
  subst hp
  intro R s m args below meth c H locs cells slots ls z0 q0 hF hx
  exact lv_ishl hF.ex hF.cd hd (k R s m args below meth c H locs cells slots ls z0 q0 hF hx)
theorem go_ishr {x y : Int32} (hd : decode M.2.1 pc = .ok (.ishr, 1)) (hp : pc + 1 = pc') (k : Go K M d pc' lv (.int (x >>> (y &&& 31)) :: st) h Q) : Go K M d pc lv (.int y :: .int x :: st) h Q := by
  subst hp
  intro R s m args below meth c H locs cells slots ls z0 q0 hF hx
  exact lv_ishr hF.ex hF.cd hd (k R s m args below meth c H locs cells slots ls z0 q0 hF hx)
theorem go_iushr {x y v : Int32} (hd : decode M.2.1 pc = .ok (.iushr, 1)) (hv : (x.toUInt32 >>> (y.toUInt32 &&& Int32.toUInt32 31)).toInt32 = v) (hp : pc + 1 = pc') (k : Go K M d pc' lv (.int v :: st) h Q) : Go K M d pc lv (.int y :: .int x :: st) h Q := by
  subst hp
  intro R s m args below meth c H locs cells slots ls z0 q0 hF hx
  exact lv_iushr hF.ex hF.cd hd hv (k R s m args below meth c H locs cells slots ls z0 q0 hF hx)
theorem go_lshl {x v : Int64} {y : Int32} (hd : decode M.2.1 pc = .ok (.lshl, 1)) (hv : x <<< (y.toInt64 &&& 63) = v) (hp : pc + 1 = pc') (k : Go K M d pc' lv (.long v :: st) h Q) : Go K M d pc lv (.int y :: .long x :: st) h Q := by
  subst hp
  intro R s m args below meth c H locs cells slots ls z0 q0 hF hx
  exact lv_lshl hF.ex hF.cd hd hv (k R s m args below meth c H locs cells slots ls z0 q0 hF hx)
theorem go_i2l {x : Int32} {v : Int64} (hd : decode M.2.1 pc = .ok (.i2l, 1)) (hv : x.toInt64 = v) (hp : pc + 1 = pc') (k : Go K M d pc' lv (.long v :: st) h Q) : Go K M d pc lv (.int x :: st) h Q := by
  subst hp
  intro R s m args below meth c H locs cells slots ls z0 q0 hF hx
  exact lv_i2l hF.ex hF.cd hd hv (k R s m args below meth c H locs cells slots ls z0 q0 hF hx)
theorem go_dup {va : Value} (hd : decode M.2.1 pc = .ok (.dup, 1)) (hc : va.category = 1) (hp : pc + 1 = pc') (k : Go K M d pc' lv (va :: va :: st) h Q) : Go K M d pc lv (va :: st) h Q := by
  subst hp
  intro R s m args below meth c H locs cells slots ls z0 q0 hF hx
  exact lv_dup hF.ex hF.cd hd hc (k R s m args below meth c H locs cells slots ls z0 q0 hF hx)
theorem go_pop {va : Value} (hd : decode M.2.1 pc = .ok (.pop, 1)) (hc : va.category = 1) (hp : pc + 1 = pc') (k : Go K M d pc' lv (st) h Q) : Go K M d pc lv (va :: st) h Q := by
  subst hp
  intro R s m args below meth c H locs cells slots ls z0 q0 hF hx
  exact lv_pop hF.ex hF.cd hd hc (k R s m args below meth c H locs cells slots ls z0 q0 hF hx)
theorem go_dup_x1 {va vb : Value} (hd : decode M.2.1 pc = .ok (.dup_x1, 1)) (hc : va.category = 1) (hc2 : vb.category = 1) (hp : pc + 1 = pc') (k : Go K M d pc' lv (va :: vb :: va :: st) h Q) : Go K M d pc lv (va :: vb :: st) h Q := by
  subst hp
  intro R s m args below meth c H locs cells slots ls z0 q0 hF hx
  exact lv_dup_x1 hF.ex hF.cd hd hc hc2 (k R s m args below meth c H locs cells slots ls z0 q0 hF hx)
theorem go_dup_x2 {va vb vd : Value} (hd : decode M.2.1 pc = .ok (.dup_x2, 1)) (hc : va.category = 1) (hc2 : vb.category = 1) (hc3 : vd.category = 1) (hp : pc + 1 = pc') (k : Go K M d pc' lv (va :: vb :: vd :: va :: st) h Q) : Go K M d pc lv (va :: vb :: vd :: st) h Q := by
  subst hp
  intro R s m args below meth c H locs cells slots ls z0 q0 hF hx
  exact lv_dup_x2 hF.ex hF.cd hd hc hc2 hc3 (k R s m args below meth c H locs cells slots ls z0 q0 hF hx)
theorem go_dup2 {va vb : Value} (hd : decode M.2.1 pc = .ok (.dup2, 1)) (hc : va.category = 1) (hc2 : vb.category = 1) (hp : pc + 1 = pc') (k : Go K M d pc' lv (va :: vb :: va :: vb :: st) h Q) : Go K M d pc lv (va :: vb :: st) h Q := by
  subst hp
  intro R s m args below meth c H locs cells slots ls z0 q0 hF hx
  exact lv_dup2_11 hF.ex hF.cd hd hc hc2 (k R s m args below meth c H locs cells slots ls z0 q0 hF hx)
theorem go_lcmp {x y : Int64} (hd : decode M.2.1 pc = .ok (.lcmp, 1)) (hp : pc + 1 = pc') (k : Go K M d pc' lv (.int (lg_cmp x y) :: st) h Q) : Go K M d pc lv (.long y :: .long x :: st) h Q := by
  subst hp
  intro R s m args below meth c H locs cells slots ls z0 q0 hF hx
  exact W.lcmp hF.ex hF.cd hd (k R s m args below meth c H locs cells slots ls z0 q0 hF hx)
theorem go_iload_n {j : Fin 4} {i : Nat} {x : Int32} (hd : decode M.2.1 pc = .ok (.iload_n j, 1)) (hi : (j : Nat) = i) (hl : lv[i]? = some (some (.int x))) (hp : pc + 1 = pc') (k : Go K M d pc' lv (.int x :: st) h Q) : Go K M d pc lv st h Q := by
  subst hp
  intro R s m args below meth c H locs cells slots ls z0 q0 hF hx
  exact lv_iload_n hF.ex hF.cd hd hi (hx.2.2 _ _ hl) (k R s m args below meth c H locs cells slots ls z0 q0 hF hx)
theorem go_iload {i : Nat} {x : Int32} (hd : decode M.2.1 pc = .ok (.iload i, 2)) (hl : lv[i]? = some (some (.int x))) (hp : pc + 2 = pc') (k : Go K M d pc' lv (.int x :: st) h Q) : Go K M d pc lv st h Q := by
  subst hp
  intro R s m args below meth c H locs cells slots ls z0 q0 hF hx
  exact lv_iload hF.ex hF.cd hd (hx.2.2 _ _ hl) (k R s m args below meth c H locs cells slots ls z0 q0 hF hx)
theorem go_lload_n {j : Fin 4} {i : Nat} {x : Int64} (hd : decode M.2.1 pc = .ok (.lload_n j, 1)) (hi : (j : Nat) = i) (hl : lv[i]? = some (some (.long x))) (hp : pc + 1 = pc') (k : Go K M d pc' lv (.long x :: st) h Q) : Go K M d pc lv st h Q := by
  subst hp
  intro R s m args below meth c H locs cells slots ls z0 q0 hF hx
  exact lv_lload_n hF.ex hF.cd hd hi (hx.2.2 _ _ hl) (k R s m args below meth c H locs cells slots ls z0 q0 hF hx)
theorem go_lload {i : Nat} {x : Int64} (hd : decode M.2.1 pc = .ok (.lload i, 2)) (hl : lv[i]? = some (some (.long x))) (hp : pc + 2 = pc') (k : Go K M d pc' lv (.long x :: st) h Q) : Go K M d pc lv st h Q := by
  subst hp
  intro R s m args below meth c H locs cells slots ls z0 q0 hF hx
  exact lv_lload hF.ex hF.cd hd (hx.2.2 _ _ hl) (k R s m args below meth c H locs cells slots ls z0 q0 hF hx)
theorem go_aload_n {j : Fin 4} {i : Nat} {v : Value} (hd : decode M.2.1 pc = .ok (.aload_n j, 1)) (hi : (j : Nat) = i) (hl : lv[i]? = some (some v)) (hr : x_r v = true) (hp : pc + 1 = pc') (k : Go K M d pc' lv (v :: st) h Q) : Go K M d pc lv st h Q := by
  subst hp
  intro R s m args below meth c H locs cells slots ls z0 q0 hF hx
  rcases x_r_cases hr with ⟨a, rfl⟩ | rfl
  · exact lv_aload_n hF.ex hF.cd hd hi (hx.2.2 _ _ hl) (k R s m args below meth c H locs cells slots ls z0 q0 hF hx)
  · exact lv_aload_nN hF.ex hF.cd hd hi (hx.2.2 _ _ hl) (k R s m args below meth c H locs cells slots ls z0 q0 hF hx)
theorem go_aload {i : Nat} {v : Value} (hd : decode M.2.1 pc = .ok (.aload i, 2)) (hl : lv[i]? = some (some v)) (hr : x_r v = true) (hp : pc + 2 = pc') (k : Go K M d pc' lv (v :: st) h Q) : Go K M d pc lv st h Q := by
  subst hp
  intro R s m args below meth c H locs cells slots ls z0 q0 hF hx
  rcases x_r_cases hr with ⟨a, rfl⟩ | rfl
  · exact lv_aload hF.ex hF.cd hd (hx.2.2 _ _ hl) (k R s m args below meth c H locs cells slots ls z0 q0 hF hx)
  · exact lv_aloadN hF.ex hF.cd hd (hx.2.2 _ _ hl) (k R s m args below meth c H locs cells slots ls z0 q0 hF hx)
theorem go_istore_n {j : Fin 4} {i : Nat} {x : Int32} (hd : decode M.2.1 pc = .ok (.istore_n j, 1)) (hi : (j : Nat) = i) (hn : i < M.2.2.1) (he : x_st1 lv i (.int x) = lv') (hp : pc + 1 = pc') (k : Go K M d pc' lv' st h Q) : Go K M d pc lv (.int x :: st) h Q := by
  subst hp
  intro R s m args below meth c H locs cells slots ls z0 q0 hF hx
  exact lv_istore_n hF.ex hF.cd hd hi hx.has hn rfl (fun ls' hl' => k R s m args below meth c H locs cells slots ls' z0 q0 hF (x_l.of1 hl' he))
theorem go_istore {i : Nat} {x : Int32} (hd : decode M.2.1 pc = .ok (.istore i, 2)) (hn : i < M.2.2.1) (he : x_st1 lv i (.int x) = lv') (hp : pc + 2 = pc') (k : Go K M d pc' lv' st h Q) : Go K M d pc lv (.int x :: st) h Q := by
  subst hp
  intro R s m args below meth c H locs cells slots ls z0 q0 hF hx
  exact lv_istore hF.ex hF.cd hd hx.has hn rfl (fun ls' hl' => k R s m args below meth c H locs cells slots ls' z0 q0 hF (x_l.of1 hl' he))
theorem go_lstore_n {j : Fin 4} {i : Nat} {x : Int64} (hd : decode M.2.1 pc = .ok (.lstore_n j, 1)) (hi : (j : Nat) = i) (hn : i + 1 < M.2.2.1) (he : x_st2 lv i (.long x) = lv') (hp : pc + 1 = pc') (k : Go K M d pc' lv' st h Q) : Go K M d pc lv (.long x :: st) h Q := by
  subst hp
  intro R s m args below meth c H locs cells slots ls z0 q0 hF hx
  exact lv_lstore_n hF.ex hF.cd hd hi hx.has hn rfl (fun ls' hl' => k R s m args below meth c H locs cells slots ls' z0 q0 hF (x_l.of2 hl' he))
theorem go_lstore {i : Nat} {x : Int64} (hd : decode M.2.1 pc = .ok (.lstore i, 2)) (hn : i + 1 < M.2.2.1) (he : x_st2 lv i (.long x) = lv') (hp : pc + 2 = pc') (k : Go K M d pc' lv' st h Q) : Go K M d pc lv (.long x :: st) h Q := by
  subst hp
  intro R s m args below meth c H locs cells slots ls z0 q0 hF hx
  exact lv_lstore hF.ex hF.cd hd hx.has hn rfl (fun ls' hl' => k R s m args below meth c H locs cells slots ls' z0 q0 hF (x_l.of2 hl' he))
theorem go_astore_n {j : Fin 4} {i : Nat} {v : Value} (hd : decode M.2.1 pc = .ok (.astore_n j, 1)) (hi : (j : Nat) = i) (hn : i < M.2.2.1) (hr : x_r v = true) (he : x_st1 lv i v = lv') (hp : pc + 1 = pc') (k : Go K M d pc' lv' st h Q) : Go K M d pc lv (v :: st) h Q := by
  subst hp
  intro R s m args below meth c H locs cells slots ls z0 q0 hF hx
  rcases x_r_cases hr with ⟨a, rfl⟩ | rfl
  · exact lv_astore_n hF.ex hF.cd hd hi hx.has hn rfl (fun ls' hl' => k R s m args below meth c H locs cells slots ls' z0 q0 hF (x_l.of1 hl' he))
  · exact lv_astore_nN hF.ex hF.cd hd hi hx.has hn rfl (fun ls' hl' => k R s m args below meth c H locs cells slots ls' z0 q0 hF (x_l.of1 hl' he))
theorem go_astore {i : Nat} {v : Value} (hd : decode M.2.1 pc = .ok (.astore i, 2)) (hn : i < M.2.2.1) (hr : x_r v = true) (he : x_st1 lv i v = lv') (hp : pc + 2 = pc') (k : Go K M d pc' lv' st h Q) : Go K M d pc lv (v :: st) h Q := by
  subst hp
  intro R s m args below meth c H locs cells slots ls z0 q0 hF hx
  rcases x_r_cases hr with ⟨a, rfl⟩ | rfl
  · exact lv_astore hF.ex hF.cd hd hx.has hn rfl (fun ls' hl' => k R s m args below meth c H locs cells slots ls' z0 q0 hF (x_l.of1 hl' he))
  · exact lv_astoreN hF.ex hF.cd hd hx.has hn rfl (fun ls' hl' => k R s m args below meth c H locs cells slots ls' z0 q0 hF (x_l.of1 hl' he))
theorem go_iinc {i : Nat} {n : Int} {x v : Int32} (hd : decode M.2.1 pc = .ok (.iinc i n, 3)) (hl : lv[i]? = some (some (.int x))) (hv : x + Int32.ofInt n = v) (hn : i < M.2.2.1) (he : x_st1 lv i (.int v) = lv') (hp : pc + 3 = pc') (k : Go K M d pc' lv' st h Q) : Go K M d pc lv st h Q := by
  subst hp
  intro R s m args below meth c H locs cells slots ls z0 q0 hF hx
  obtain ⟨j, hj⟩ := List.getElem?_of_mem (x_pr_mem.mpr hl)
  exact lv_iinc hF.ex hF.cd hd hx.has hj hv hn rfl (fun ls' hl' => k R s m args below meth c H locs cells slots ls' z0 q0 hF (x_l.of1 hl' he))
theorem go_ldc {i : Nat} {v : Int32} (hd : decode M.2.1 pc = .ok (.ldc i, 2)) (hw : Cond.constant M.1.cls i v ∈ lw_tbl) (hp : pc + 2 = pc') (k : Go K M d pc' lv (.int v :: st) h Q) : Go K M d pc lv st h Q := by
  subst hp
  intro R s m args below meth c H locs cells slots ls z0 q0 hF hx
  exact lv_ldc hF.ex hF.cd hF.ow (hF.wd hw (Or.inl rfl) args) hd (k R s m args below meth c H locs cells slots ls z0 q0 hF hx)
theorem go_ldc2 {i : Nat} {v : Int64} (hd : decode M.2.1 pc = .ok (.ldc2_w i, 3)) (hw : Cond.constantLong M.1.cls i v ∈ lw_tbl) (hp : pc + 3 = pc') (k : Go K M d pc' lv (.long v :: st) h Q) : Go K M d pc lv st h Q := by
  subst hp
  intro R s m args below meth c H locs cells slots ls z0 q0 hF hx
  exact lv_ldc2 hF.ex hF.cd hF.ow (hF.wd hw (Or.inl rfl) args) hd (k R s m args below meth c H locs cells slots ls z0 q0 hF hx)
theorem go_if_eq {x : Int32} {off : Int} {tgt : Nat} (hd : decode M.2.1 pc = .ok (.ifCond .eq off, 3)) (ht : (pc : Int) + off = (tgt : Int)) (hp : pc + 3 = pc') (kt : x = 0 → Go K M d tgt lv st h Q) (kf : ¬ x = 0 → Go K M d pc' lv st h Q) : Go K M d pc lv (.int x :: st) h Q := by
  subst hp
  intro R s m args below meth c H locs cells slots ls z0 q0 hF hx
  exact lv_if_eq hF.ex hF.cd hd ht (fun q => kt q R s m args below meth c H locs cells slots ls z0 q0 hF hx) (fun q => kf q R s m args below meth c H locs cells slots ls z0 q0 hF hx)
theorem go_icmp_eq {x y : Int32} {off : Int} {tgt : Nat} (hd : decode M.2.1 pc = .ok (.if_icmp .eq off, 3)) (ht : (pc : Int) + off = (tgt : Int)) (hp : pc + 3 = pc') (kt : x = y → Go K M d tgt lv st h Q) (kf : ¬ x = y → Go K M d pc' lv st h Q) : Go K M d pc lv (.int y :: .int x :: st) h Q := by
  subst hp
  intro R s m args below meth c H locs cells slots ls z0 q0 hF hx
  exact lv_icmp_eq hF.ex hF.cd hd ht (fun q => kt q R s m args below meth c H locs cells slots ls z0 q0 hF hx) (fun q => kf q R s m args below meth c H locs cells slots ls z0 q0 hF hx)
theorem go_if_ne {x : Int32} {off : Int} {tgt : Nat} (hd : decode M.2.1 pc = .ok (.ifCond .ne off, 3)) (ht : (pc : Int) + off = (tgt : Int)) (hp : pc + 3 = pc') (kt : ¬ x = 0 → Go K M d tgt lv st h Q) (kf : x = 0 → Go K M d pc' lv st h Q) : Go K M d pc lv (.int x :: st) h Q := by
  subst hp
  intro R s m args below meth c H locs cells slots ls z0 q0 hF hx
  exact lv_if_ne hF.ex hF.cd hd ht (fun q => kt q R s m args below meth c H locs cells slots ls z0 q0 hF hx) (fun q => kf q R s m args below meth c H locs cells slots ls z0 q0 hF hx)
theorem go_icmp_ne {x y : Int32} {off : Int} {tgt : Nat} (hd : decode M.2.1 pc = .ok (.if_icmp .ne off, 3)) (ht : (pc : Int) + off = (tgt : Int)) (hp : pc + 3 = pc') (kt : ¬ x = y → Go K M d tgt lv st h Q) (kf : x = y → Go K M d pc' lv st h Q) : Go K M d pc lv (.int y :: .int x :: st) h Q := by
  subst hp
  intro R s m args below meth c H locs cells slots ls z0 q0 hF hx
  exact lv_icmp_ne hF.ex hF.cd hd ht (fun q => kt q R s m args below meth c H locs cells slots ls z0 q0 hF hx) (fun q => kf q R s m args below meth c H locs cells slots ls z0 q0 hF hx)
theorem go_if_lt {x : Int32} {off : Int} {tgt : Nat} (hd : decode M.2.1 pc = .ok (.ifCond .lt off, 3)) (ht : (pc : Int) + off = (tgt : Int)) (hp : pc + 3 = pc') (kt : x < 0 → Go K M d tgt lv st h Q) (kf : ¬ x < 0 → Go K M d pc' lv st h Q) : Go K M d pc lv (.int x :: st) h Q := by
  subst hp
  intro R s m args below meth c H locs cells slots ls z0 q0 hF hx
  exact lv_if_lt hF.ex hF.cd hd ht (fun q => kt q R s m args below meth c H locs cells slots ls z0 q0 hF hx) (fun q => kf q R s m args below meth c H locs cells slots ls z0 q0 hF hx)
theorem go_icmp_lt {x y : Int32} {off : Int} {tgt : Nat} (hd : decode M.2.1 pc = .ok (.if_icmp .lt off, 3)) (ht : (pc : Int) + off = (tgt : Int)) (hp : pc + 3 = pc') (kt : x < y → Go K M d tgt lv st h Q) (kf : ¬ x < y → Go K M d pc' lv st h Q) : Go K M d pc lv (.int y :: .int x :: st) h Q := by
  subst hp
  intro R s m args below meth c H locs cells slots ls z0 q0 hF hx
  exact lv_icmp_lt hF.ex hF.cd hd ht (fun q => kt q R s m args below meth c H locs cells slots ls z0 q0 hF hx) (fun q => kf q R s m args below meth c H locs cells slots ls z0 q0 hF hx)
theorem go_if_ge {x : Int32} {off : Int} {tgt : Nat} (hd : decode M.2.1 pc = .ok (.ifCond .ge off, 3)) (ht : (pc : Int) + off = (tgt : Int)) (hp : pc + 3 = pc') (kt : 0 ≤ x → Go K M d tgt lv st h Q) (kf : ¬ 0 ≤ x → Go K M d pc' lv st h Q) : Go K M d pc lv (.int x :: st) h Q := by
  subst hp
  intro R s m args below meth c H locs cells slots ls z0 q0 hF hx
  exact lv_if_ge hF.ex hF.cd hd ht (fun q => kt q R s m args below meth c H locs cells slots ls z0 q0 hF hx) (fun q => kf q R s m args below meth c H locs cells slots ls z0 q0 hF hx)
theorem go_icmp_ge {x y : Int32} {off : Int} {tgt : Nat} (hd : decode M.2.1 pc = .ok (.if_icmp .ge off, 3)) (ht : (pc : Int) + off = (tgt : Int)) (hp : pc + 3 = pc') (kt : y ≤ x → Go K M d tgt lv st h Q) (kf : ¬ y ≤ x → Go K M d pc' lv st h Q) : Go K M d pc lv (.int y :: .int x :: st) h Q := by
  subst hp
  intro R s m args below meth c H locs cells slots ls z0 q0 hF hx
  exact lv_icmp_ge hF.ex hF.cd hd ht (fun q => kt q R s m args below meth c H locs cells slots ls z0 q0 hF hx) (fun q => kf q R s m args below meth c H locs cells slots ls z0 q0 hF hx)
theorem go_if_gt {x : Int32} {off : Int} {tgt : Nat} (hd : decode M.2.1 pc = .ok (.ifCond .gt off, 3)) (ht : (pc : Int) + off = (tgt : Int)) (hp : pc + 3 = pc') (kt : 0 < x → Go K M d tgt lv st h Q) (kf : ¬ 0 < x → Go K M d pc' lv st h Q) : Go K M d pc lv (.int x :: st) h Q := by
  subst hp
  intro R s m args below meth c H locs cells slots ls z0 q0 hF hx
  exact lv_if_gt hF.ex hF.cd hd ht (fun q => kt q R s m args below meth c H locs cells slots ls z0 q0 hF hx) (fun q => kf q R s m args below meth c H locs cells slots ls z0 q0 hF hx)
theorem go_icmp_gt {x y : Int32} {off : Int} {tgt : Nat} (hd : decode M.2.1 pc = .ok (.if_icmp .gt off, 3)) (ht : (pc : Int) + off = (tgt : Int)) (hp : pc + 3 = pc') (kt : y < x → Go K M d tgt lv st h Q) (kf : ¬ y < x → Go K M d pc' lv st h Q) : Go K M d pc lv (.int y :: .int x :: st) h Q := by
  subst hp
  intro R s m args below meth c H locs cells slots ls z0 q0 hF hx
  exact lv_icmp_gt hF.ex hF.cd hd ht (fun q => kt q R s m args below meth c H locs cells slots ls z0 q0 hF hx) (fun q => kf q R s m args below meth c H locs cells slots ls z0 q0 hF hx)
theorem go_if_le {x : Int32} {off : Int} {tgt : Nat} (hd : decode M.2.1 pc = .ok (.ifCond .le off, 3)) (ht : (pc : Int) + off = (tgt : Int)) (hp : pc + 3 = pc') (kt : x ≤ 0 → Go K M d tgt lv st h Q) (kf : ¬ x ≤ 0 → Go K M d pc' lv st h Q) : Go K M d pc lv (.int x :: st) h Q := by
  subst hp
  intro R s m args below meth c H locs cells slots ls z0 q0 hF hx
  exact lv_if_le hF.ex hF.cd hd ht (fun q => kt q R s m args below meth c H locs cells slots ls z0 q0 hF hx) (fun q => kf q R s m args below meth c H locs cells slots ls z0 q0 hF hx)
theorem go_icmp_le {x y : Int32} {off : Int} {tgt : Nat} (hd : decode M.2.1 pc = .ok (.if_icmp .le off, 3)) (ht : (pc : Int) + off = (tgt : Int)) (hp : pc + 3 = pc') (kt : x ≤ y → Go K M d tgt lv st h Q) (kf : ¬ x ≤ y → Go K M d pc' lv st h Q) : Go K M d pc lv (.int y :: .int x :: st) h Q := by
  subst hp
  intro R s m args below meth c H locs cells slots ls z0 q0 hF hx
  exact lv_icmp_le hF.ex hF.cd hd ht (fun q => kt q R s m args below meth c H locs cells slots ls z0 q0 hF hx) (fun q => kf q R s m args below meth c H locs cells slots ls z0 q0 hF hx)
theorem go_goto {off : Int} {tgt : Nat} (hd : decode M.2.1 pc = .ok (.goto off, 3)) (ht : (pc : Int) + off = (tgt : Int)) (k : Go K M d tgt lv st h Q) : Go K M d pc lv st h Q := by
  intro R s m args below meth c H locs cells slots ls z0 q0 hF hx
  exact lv_goto hF.ex hF.cd hd ht (k R s m args below meth c H locs cells slots ls z0 q0 hF hx)
theorem go_ifnull_r {a : Nat} {off : Int} (hd : decode M.2.1 pc = .ok (.ifnull off, 3)) (hp : pc + 3 = pc') (k : Go K M d pc' lv st h Q) : Go K M d pc lv (.ref a :: st) h Q := by
  subst hp
  intro R s m args below meth c H locs cells slots ls z0 q0 hF hx
  exact lv_ifnull hF.ex hF.cd hd (k R s m args below meth c H locs cells slots ls z0 q0 hF hx)
theorem go_ifnull_n {off : Int} {tgt : Nat} (hd : decode M.2.1 pc = .ok (.ifnull off, 3)) (ht : (pc : Int) + off = (tgt : Int)) (k : Go K M d tgt lv st h Q) : Go K M d pc lv (.null :: st) h Q := by
  intro R s m args below meth c H locs cells slots ls z0 q0 hF hx
  exact lv_ifnullN hF.ex hF.cd hd ht (k R s m args below meth c H locs cells slots ls z0 q0 hF hx)
theorem go_ifnull {o : Option Nat} {off : Int} {tgt : Nat} (hd : decode M.2.1 pc = .ok (.ifnull off, 3)) (ht : (pc : Int) + off = (tgt : Int)) (hp : pc + 3 = pc') (kt : o = none → Go K M d tgt lv st h Q) (kf : ∀ a : Nat, o = some a → Go K M d pc' lv st h Q) : Go K M d pc lv (va_rf o :: st) h Q := by
  cases o with
  | none => exact go_ifnull_n hd ht (kt rfl)
  | some a => exact go_ifnull_r hd hp (kf a rfl)
theorem go_ifnonnull_r {a : Nat} {off : Int} {tgt : Nat} (hd : decode M.2.1 pc = .ok (.ifnonnull off, 3)) (ht : (pc : Int) + off = (tgt : Int)) (k : Go K M d tgt lv st h Q) : Go K M d pc lv (.ref a :: st) h Q := by
  intro R s m args below meth c H locs cells slots ls z0 q0 hF hx
  exact lv_ifnonnull hF.ex hF.cd hd ht (k R s m args below meth c H locs cells slots ls z0 q0 hF hx)
theorem go_ifnonnull_n {off : Int} (hd : decode M.2.1 pc = .ok (.ifnonnull off, 3)) (hp : pc + 3 = pc') (k : Go K M d pc' lv st h Q) : Go K M d pc lv (.null :: st) h Q := by
  subst hp
  intro R s m args below meth c H locs cells slots ls z0 q0 hF hx
  exact lv_ifnonnullN hF.ex hF.cd hd (k R s m args below meth c H locs cells slots ls z0 q0 hF hx)
theorem go_ifnonnull {o : Option Nat} {off : Int} {tgt : Nat} (hd : decode M.2.1 pc = .ok (.ifnonnull off, 3)) (ht : (pc : Int) + off = (tgt : Int)) (hp : pc + 3 = pc') (kt : ∀ a : Nat, o = some a → Go K M d tgt lv st h Q) (kf : o = none → Go K M d pc' lv st h Q) : Go K M d pc lv (va_rf o :: st) h Q := by
  cases o with
  | none => exact go_ifnonnull_n hd hp (kf rfl)
  | some a => exact go_ifnonnull_r hd ht (kt a rfl)
theorem go_acmp_ne {x y : Nat} {off : Int} {tgt : Nat} (hd : decode M.2.1 pc = .ok (.if_acmp .ne off, 3)) (ht : (pc : Int) + off = (tgt : Int)) (hp : pc + 3 = pc') (kt : ¬ x = y → Go K M d tgt lv st h Q) (kf : x = y → Go K M d pc' lv st h Q) : Go K M d pc lv (.ref y :: .ref x :: st) h Q := by
  subst hp
  intro R s m args below meth c H locs cells slots ls z0 q0 hF hx
  exact lv_acmp_ne (rx := some x) (ry := some y) hF.ex hF.cd hd ht (fun q => kt (fun z => q (congrArg some z)) R s m args below meth c H locs cells slots ls z0 q0 hF hx) (fun q => kf (Option.some.inj q) R s m args below meth c H locs cells slots ls z0 q0 hF hx)
theorem go_tableOut {dflt lo hi : Int} {offs : Array Int} {len : Nat} {x : Int32} {tgt : Nat} (hd : decode M.2.1 pc = .ok (.tableswitch dflt lo hi offs, len)) (hb : x.toInt < lo ∨ hi < x.toInt) (ht : (pc : Int) + dflt = (tgt : Int)) (k : Go K M d tgt lv st h Q) : Go K M d pc lv (.int x :: st) h Q := by
  intro R s m args below meth c H locs cells slots ls z0 q0 hF hx
  exact lv_tableOut hF.ex hF.cd hd hb ht (k R s m args below meth c H locs cells slots ls z0 q0 hF hx)
theorem go_tableIn {dflt lo hi : Int} {offs : Array Int} {len : Nat} {x : Int32} {off : Int} {tgt : Nat} (hd : decode M.2.1 pc = .ok (.tableswitch dflt lo hi offs, len)) (h1 : ¬ x.toInt < lo) (h2 : ¬ hi < x.toInt) (ho : offs[(x.toInt - lo).toNat]? = some off) (ht : (pc : Int) + off = (tgt : Int)) (k : Go K M d tgt lv st h Q) : Go K M d pc lv (.int x :: st) h Q := by
  intro R s m args below meth c H locs cells slots ls z0 q0 hF hx
  exact lv_tableIn hF.ex hF.cd hd h1 h2 ho ht (k R s m args below meth c H locs cells slots ls z0 q0 hF hx)
theorem go_ireturn {v : Int32} {ty : FieldType} (hd : decode M.2.1 pc = .ok (.ireturn, 1)) (hr : M.2.2.2.1 = some ty) (hn : narrow ty (.int v) = .int v) (hq : Q (.inl (some (.int v))) h) : Go K M d pc lv [.int v] h Q := by
  intro R s m args below meth c H locs cells slots ls z0 q0 hF hx
  intro T hT X
  have hlocks : meth.locks = false := hF.lk
  have hexec := hF.ex
  have hb := hF.cd
  have hrt := hF.rt
  obtain ⟨fs, hret, hrun, hended, hW, hframe⟩ := X.leave (v := (some (.int v))) (fun q => by first | rfl | (rw [hrt, hr] at q; cases q))
  have hmeth' : T.vm.method? m = some meth := X.method'
  have hr' : meth.sig.returnType = some ty := hrt.trans hr
  refine ⟨T.setFrames fs, ?_, .returned (some (.int v)), .inl (some (.int v)), h, hrun, hended, hW, ⟨locs, cells, slots, hframe, hF.lc, hF.cs.1, hF.cs.2.1⟩, rfl, by (show x_W K h T.heap); rw [hT]; exact hF.w, hF.cs.2.2.1, hF.cs.2.2.2, hq⟩
  jvm_step X.here [X.here.top, hexec, hb, hd, hmeth', hr', hn]
  (try refine ⟨rfl, ?_⟩); (try refine ⟨rfl, ?_⟩)
  first | (intro acts; rw [hret _ acts rfl rfl rfl]) | rw [hret _ _ rfl rfl rfl]
  exact Steps.refl _
theorem go_lreturn {v : Int64} (hd : decode M.2.1 pc = .ok (.lreturn, 1)) (hr : M.2.2.2.1 = some .long) (hq : Q (.inl (some (.long v))) h) : Go K M d pc lv [.long v] h Q := by
  intro R s m args below meth c H locs cells slots ls z0 q0 hF hx
  intro T hT X
  have hlocks : meth.locks = false := hF.lk
  have hexec := hF.ex
  have hb := hF.cd
  have hrt := hF.rt
  obtain ⟨fs, hret, hrun, hended, hW, hframe⟩ := X.leave (v := (some (.long v))) (fun q => by first | rfl | (rw [hrt, hr] at q; cases q))
  have hmeth' : T.vm.method? m = some meth := X.method'
  have hr' : meth.sig.returnType = some .long := hrt.trans hr
  refine ⟨T.setFrames fs, ?_, .returned (some (.long v)), .inl (some (.long v)), h, hrun, hended, hW, ⟨locs, cells, slots, hframe, hF.lc, hF.cs.1, hF.cs.2.1⟩, rfl, by (show x_W K h T.heap); rw [hT]; exact hF.w, hF.cs.2.2.1, hF.cs.2.2.2, hq⟩
  jvm_step X.here [X.here.top, hexec, hb, hd, hmeth', hr']
  (try refine ⟨rfl, ?_⟩); (try refine ⟨rfl, ?_⟩)
  first | (intro acts; rw [hret _ acts rfl rfl rfl]) | rw [hret _ _ rfl rfl rfl]
  exact Steps.refl _
theorem go_return (hd : decode M.2.1 pc = .ok (.return_, 1)) (hr : M.2.2.2.1 = none) (hq : Q (.inl none) h) : Go K M d pc lv [] h Q := by
  intro R s m args below meth c H locs cells slots ls z0 q0 hF hx
  intro T hT X
  have hlocks : meth.locks = false := hF.lk
  have hexec := hF.ex
  have hb := hF.cd
  have hrt := hF.rt
  obtain ⟨fs, hret, hrun, hended, hW, hframe⟩ := X.leave (v := none) (fun q => by first | rfl | (rw [hrt, hr] at q; cases q))
  have hmeth' : T.vm.method? m = some meth := X.method'
  have hr' : meth.sig.returnType = none := hrt.trans hr
  refine ⟨T.setFrames fs, ?_, .returned none, .inl none, h, hrun, hended, hW, ⟨locs, cells, slots, hframe, hF.lc, hF.cs.1, hF.cs.2.1⟩, rfl, by (show x_W K h T.heap); rw [hT]; exact hF.w, hF.cs.2.2.1, hF.cs.2.2.2, hq⟩
  jvm_step X.here [X.here.top, hexec, hb, hd, hmeth', hr']
  (try refine ⟨rfl, ?_⟩); (try refine ⟨rfl, ?_⟩)
  first | (intro acts; rw [hret _ acts rfl rfl rfl]) | rw [hret _ _ rfl rfl rfl]
  exact Steps.refl _
end XB
theorem x_s0 { x : Option Value} {r : List (Option Value)} {v : Value} : x_st1 (x :: r) 0 v = some v :: r := by simp [x_st1]
theorem x_t0 { x y : Option Value} {r : List (Option Value)} {v : Value} : x_st2 (x :: y :: r) 0 v = some v :: none :: r := by simp [x_st2]
theorem x_s1 {a0 x : Option Value} {r : List (Option Value)} {v : Value} (hc : x_k a0 = a0) : x_st1 (a0 :: x :: r) 1 v = a0 :: some v :: r := by simp [x_st1, hc]
theorem x_t1 {a0 x y : Option Value} {r : List (Option Value)} {v : Value} (hc : x_k a0 = a0) : x_st2 (a0 :: x :: y :: r) 1 v = a0 :: some v :: none :: r := by simp [x_st2, hc]
theorem x_s2 {a0 a1 x : Option Value} {r : List (Option Value)} {v : Value} (hc : x_k a1 = a1) : x_st1 (a0 :: a1 :: x :: r) 2 v = a0 :: a1 :: some v :: r := by simp [x_st1, hc]
theorem x_t2 {a0 a1 x y : Option Value} {r : List (Option Value)} {v : Value} (hc : x_k a1 = a1) : x_st2 (a0 :: a1 :: x :: y :: r) 2 v = a0 :: a1 :: some v :: none :: r := by simp [x_st2, hc]
theorem x_s3 {a0 a1 a2 x : Option Value} {r : List (Option Value)} {v : Value} (hc : x_k a2 = a2) : x_st1 (a0 :: a1 :: a2 :: x :: r) 3 v = a0 :: a1 :: a2 :: some v :: r := by simp [x_st1, hc]
theorem x_t3 {a0 a1 a2 x y : Option Value} {r : List (Option Value)} {v : Value} (hc : x_k a2 = a2) : x_st2 (a0 :: a1 :: a2 :: x :: y :: r) 3 v = a0 :: a1 :: a2 :: some v :: none :: r := by simp [x_st2, hc]
theorem x_s4 {a0 a1 a2 a3 x : Option Value} {r : List (Option Value)} {v : Value} (hc : x_k a3 = a3) : x_st1 (a0 :: a1 :: a2 :: a3 :: x :: r) 4 v = a0 :: a1 :: a2 :: a3 :: some v :: r := by simp [x_st1, hc]
theorem x_t4 {a0 a1 a2 a3 x y : Option Value} {r : List (Option Value)} {v : Value} (hc : x_k a3 = a3) : x_st2 (a0 :: a1 :: a2 :: a3 :: x :: y :: r) 4 v = a0 :: a1 :: a2 :: a3 :: some v :: none :: r := by simp [x_st2, hc]
theorem x_s5 {a0 a1 a2 a3 a4 x : Option Value} {r : List (Option Value)} {v : Value} (hc : x_k a4 = a4) : x_st1 (a0 :: a1 :: a2 :: a3 :: a4 :: x :: r) 5 v = a0 :: a1 :: a2 :: a3 :: a4 :: some v :: r := by simp [x_st1, hc]
theorem x_t5 {a0 a1 a2 a3 a4 x y : Option Value} {r : List (Option Value)} {v : Value} (hc : x_k a4 = a4) : x_st2 (a0 :: a1 :: a2 :: a3 :: a4 :: x :: y :: r) 5 v = a0 :: a1 :: a2 :: a3 :: a4 :: some v :: none :: r := by simp [x_st2, hc]
theorem x_s6 {a0 a1 a2 a3 a4 a5 x : Option Value} {r : List (Option Value)} {v : Value} (hc : x_k a5 = a5) : x_st1 (a0 :: a1 :: a2 :: a3 :: a4 :: a5 :: x :: r) 6 v = a0 :: a1 :: a2 :: a3 :: a4 :: a5 :: some v :: r := by simp [x_st1, hc]
theorem x_t6 {a0 a1 a2 a3 a4 a5 x y : Option Value} {r : List (Option Value)} {v : Value} (hc : x_k a5 = a5) : x_st2 (a0 :: a1 :: a2 :: a3 :: a4 :: a5 :: x :: y :: r) 6 v = a0 :: a1 :: a2 :: a3 :: a4 :: a5 :: some v :: none :: r := by simp [x_st2, hc]
theorem x_s7 {a0 a1 a2 a3 a4 a5 a6 x : Option Value} {r : List (Option Value)} {v : Value} (hc : x_k a6 = a6) : x_st1 (a0 :: a1 :: a2 :: a3 :: a4 :: a5 :: a6 :: x :: r) 7 v = a0 :: a1 :: a2 :: a3 :: a4 :: a5 :: a6 :: some v :: r := by simp [x_st1, hc]
theorem x_t7 {a0 a1 a2 a3 a4 a5 a6 x y : Option Value} {r : List (Option Value)} {v : Value} (hc : x_k a6 = a6) : x_st2 (a0 :: a1 :: a2 :: a3 :: a4 :: a5 :: a6 :: x :: y :: r) 7 v = a0 :: a1 :: a2 :: a3 :: a4 :: a5 :: a6 :: some v :: none :: r := by simp [x_st2, hc]
theorem x_s8 {a0 a1 a2 a3 a4 a5 a6 a7 x : Option Value} {r : List (Option Value)} {v : Value} (hc : x_k a7 = a7) : x_st1 (a0 :: a1 :: a2 :: a3 :: a4 :: a5 :: a6 :: a7 :: x :: r) 8 v = a0 :: a1 :: a2 :: a3 :: a4 :: a5 :: a6 :: a7 :: some v :: r := by simp [x_st1, hc]
theorem x_t8 {a0 a1 a2 a3 a4 a5 a6 a7 x y : Option Value} {r : List (Option Value)} {v : Value} (hc : x_k a7 = a7) : x_st2 (a0 :: a1 :: a2 :: a3 :: a4 :: a5 :: a6 :: a7 :: x :: y :: r) 8 v = a0 :: a1 :: a2 :: a3 :: a4 :: a5 :: a6 :: a7 :: some v :: none :: r := by simp [x_st2, hc]
theorem x_s9 {a0 a1 a2 a3 a4 a5 a6 a7 a8 x : Option Value} {r : List (Option Value)} {v : Value} (hc : x_k a8 = a8) : x_st1 (a0 :: a1 :: a2 :: a3 :: a4 :: a5 :: a6 :: a7 :: a8 :: x :: r) 9 v = a0 :: a1 :: a2 :: a3 :: a4 :: a5 :: a6 :: a7 :: a8 :: some v :: r := by simp [x_st1, hc]
theorem x_t9 {a0 a1 a2 a3 a4 a5 a6 a7 a8 x y : Option Value} {r : List (Option Value)} {v : Value} (hc : x_k a8 = a8) : x_st2 (a0 :: a1 :: a2 :: a3 :: a4 :: a5 :: a6 :: a7 :: a8 :: x :: y :: r) 9 v = a0 :: a1 :: a2 :: a3 :: a4 :: a5 :: a6 :: a7 :: a8 :: some v :: none :: r := by simp [x_st2, hc]
theorem x_s10 {a0 a1 a2 a3 a4 a5 a6 a7 a8 a9 x : Option Value} {r : List (Option Value)} {v : Value} (hc : x_k a9 = a9) : x_st1 (a0 :: a1 :: a2 :: a3 :: a4 :: a5 :: a6 :: a7 :: a8 :: a9 :: x :: r) 10 v = a0 :: a1 :: a2 :: a3 :: a4 :: a5 :: a6 :: a7 :: a8 :: a9 :: some v :: r := by simp [x_st1, hc]
theorem x_t10 {a0 a1 a2 a3 a4 a5 a6 a7 a8 a9 x y : Option Value} {r : List (Option Value)} {v : Value} (hc : x_k a9 = a9) : x_st2 (a0 :: a1 :: a2 :: a3 :: a4 :: a5 :: a6 :: a7 :: a8 :: a9 :: x :: y :: r) 10 v = a0 :: a1 :: a2 :: a3 :: a4 :: a5 :: a6 :: a7 :: a8 :: a9 :: some v :: none :: r := by simp [x_st2, hc]
theorem x_s11 {a0 a1 a2 a3 a4 a5 a6 a7 a8 a9 a10 x : Option Value} {r : List (Option Value)} {v : Value} (hc : x_k a10 = a10) : x_st1 (a0 :: a1 :: a2 :: a3 :: a4 :: a5 :: a6 :: a7 :: a8 :: a9 :: a10 :: x :: r) 11 v = a0 :: a1 :: a2 :: a3 :: a4 :: a5 :: a6 :: a7 :: a8 :: a9 :: a10 :: some v :: r := by simp [x_st1, hc]
theorem x_t11 {a0 a1 a2 a3 a4 a5 a6 a7 a8 a9 a10 x y : Option Value} {r : List (Option Value)} {v : Value} (hc : x_k a10 = a10) : x_st2 (a0 :: a1 :: a2 :: a3 :: a4 :: a5 :: a6 :: a7 :: a8 :: a9 :: a10 :: x :: y :: r) 11 v = a0 :: a1 :: a2 :: a3 :: a4 :: a5 :: a6 :: a7 :: a8 :: a9 :: a10 :: some v :: none :: r := by simp [x_st2, hc]
theorem x_s12 {a0 a1 a2 a3 a4 a5 a6 a7 a8 a9 a10 a11 x : Option Value} {r : List (Option Value)} {v : Value} (hc : x_k a11 = a11) : x_st1 (a0 :: a1 :: a2 :: a3 :: a4 :: a5 :: a6 :: a7 :: a8 :: a9 :: a10 :: a11 :: x :: r) 12 v = a0 :: a1 :: a2 :: a3 :: a4 :: a5 :: a6 :: a7 :: a8 :: a9 :: a10 :: a11 :: some v :: r := by simp [x_st1, hc]
theorem x_t12 {a0 a1 a2 a3 a4 a5 a6 a7 a8 a9 a10 a11 x y : Option Value} {r : List (Option Value)} {v : Value} (hc : x_k a11 = a11) : x_st2 (a0 :: a1 :: a2 :: a3 :: a4 :: a5 :: a6 :: a7 :: a8 :: a9 :: a10 :: a11 :: x :: y :: r) 12 v = a0 :: a1 :: a2 :: a3 :: a4 :: a5 :: a6 :: a7 :: a8 :: a9 :: a10 :: a11 :: some v :: none :: r := by simp [x_st2, hc]
theorem x_s13 {a0 a1 a2 a3 a4 a5 a6 a7 a8 a9 a10 a11 a12 x : Option Value} {r : List (Option Value)} {v : Value} (hc : x_k a12 = a12) : x_st1 (a0 :: a1 :: a2 :: a3 :: a4 :: a5 :: a6 :: a7 :: a8 :: a9 :: a10 :: a11 :: a12 :: x :: r) 13 v = a0 :: a1 :: a2 :: a3 :: a4 :: a5 :: a6 :: a7 :: a8 :: a9 :: a10 :: a11 :: a12 :: some v :: r := by simp [x_st1, hc]
theorem x_t13 {a0 a1 a2 a3 a4 a5 a6 a7 a8 a9 a10 a11 a12 x y : Option Value} {r : List (Option Value)} {v : Value} (hc : x_k a12 = a12) : x_st2 (a0 :: a1 :: a2 :: a3 :: a4 :: a5 :: a6 :: a7 :: a8 :: a9 :: a10 :: a11 :: a12 :: x :: y :: r) 13 v = a0 :: a1 :: a2 :: a3 :: a4 :: a5 :: a6 :: a7 :: a8 :: a9 :: a10 :: a11 :: a12 :: some v :: none :: r := by simp [x_st2, hc]
theorem x_s14 {a0 a1 a2 a3 a4 a5 a6 a7 a8 a9 a10 a11 a12 a13 x : Option Value} {r : List (Option Value)} {v : Value} (hc : x_k a13 = a13) : x_st1 (a0 :: a1 :: a2 :: a3 :: a4 :: a5 :: a6 :: a7 :: a8 :: a9 :: a10 :: a11 :: a12 :: a13 :: x :: r) 14 v = a0 :: a1 :: a2 :: a3 :: a4 :: a5 :: a6 :: a7 :: a8 :: a9 :: a10 :: a11 :: a12 :: a13 :: some v :: r := by simp [x_st1, hc]
theorem x_t14 {a0 a1 a2 a3 a4 a5 a6 a7 a8 a9 a10 a11 a12 a13 x y : Option Value} {r : List (Option Value)} {v : Value} (hc : x_k a13 = a13) : x_st2 (a0 :: a1 :: a2 :: a3 :: a4 :: a5 :: a6 :: a7 :: a8 :: a9 :: a10 :: a11 :: a12 :: a13 :: x :: y :: r) 14 v = a0 :: a1 :: a2 :: a3 :: a4 :: a5 :: a6 :: a7 :: a8 :: a9 :: a10 :: a11 :: a12 :: a13 :: some v :: none :: r := by simp [x_st2, hc]
theorem x_s15 {a0 a1 a2 a3 a4 a5 a6 a7 a8 a9 a10 a11 a12 a13 a14 x : Option Value} {r : List (Option Value)} {v : Value} (hc : x_k a14 = a14) : x_st1 (a0 :: a1 :: a2 :: a3 :: a4 :: a5 :: a6 :: a7 :: a8 :: a9 :: a10 :: a11 :: a12 :: a13 :: a14 :: x :: r) 15 v = a0 :: a1 :: a2 :: a3 :: a4 :: a5 :: a6 :: a7 :: a8 :: a9 :: a10 :: a11 :: a12 :: a13 :: a14 :: some v :: r := by simp [x_st1, hc]
theorem x_t15 {a0 a1 a2 a3 a4 a5 a6 a7 a8 a9 a10 a11 a12 a13 a14 x y : Option Value} {r : List (Option Value)} {v : Value} (hc : x_k a14 = a14) : x_st2 (a0 :: a1 :: a2 :: a3 :: a4 :: a5 :: a6 :: a7 :: a8 :: a9 :: a10 :: a11 :: a12 :: a13 :: a14 :: x :: y :: r) 15 v = a0 :: a1 :: a2 :: a3 :: a4 :: a5 :: a6 :: a7 :: a8 :: a9 :: a10 :: a11 :: a12 :: a13 :: a14 :: some v :: none :: r := by simp [x_st2, hc]
theorem x_s16 {a0 a1 a2 a3 a4 a5 a6 a7 a8 a9 a10 a11 a12 a13 a14 a15 x : Option Value} {r : List (Option Value)} {v : Value} (hc : x_k a15 = a15) : x_st1 (a0 :: a1 :: a2 :: a3 :: a4 :: a5 :: a6 :: a7 :: a8 :: a9 :: a10 :: a11 :: a12 :: a13 :: a14 :: a15 :: x :: r) 16 v = a0 :: a1 :: a2 :: a3 :: a4 :: a5 :: a6 :: a7 :: a8 :: a9 :: a10 :: a11 :: a12 :: a13 :: a14 :: a15 :: some v :: r := by simp [x_st1, hc]
theorem x_t16 {a0 a1 a2 a3 a4 a5 a6 a7 a8 a9 a10 a11 a12 a13 a14 a15 x y : Option Value} {r : List (Option Value)} {v : Value} (hc : x_k a15 = a15) : x_st2 (a0 :: a1 :: a2 :: a3 :: a4 :: a5 :: a6 :: a7 :: a8 :: a9 :: a10 :: a11 :: a12 :: a13 :: a14 :: a15 :: x :: y :: r) 16 v = a0 :: a1 :: a2 :: a3 :: a4 :: a5 :: a6 :: a7 :: a8 :: a9 :: a10 :: a11 :: a12 :: a13 :: a14 :: a15 :: some v :: none :: r := by simp [x_st2, hc]
theorem x_s17 {a0 a1 a2 a3 a4 a5 a6 a7 a8 a9 a10 a11 a12 a13 a14 a15 a16 x : Option Value} {r : List (Option Value)} {v : Value} (hc : x_k a16 = a16) : x_st1 (a0 :: a1 :: a2 :: a3 :: a4 :: a5 :: a6 :: a7 :: a8 :: a9 :: a10 :: a11 :: a12 :: a13 :: a14 :: a15 :: a16 :: x :: r) 17 v = a0 :: a1 :: a2 :: a3 :: a4 :: a5 :: a6 :: a7 :: a8 :: a9 :: a10 :: a11 :: a12 :: a13 :: a14 :: a15 :: a16 :: some v :: r := by simp [x_st1, hc]
theorem x_t17 {a0 a1 a2 a3 a4 a5 a6 a7 a8 a9 a10 a11 a12 a13 a14 a15 a16 x y : Option Value} {r : List (Option Value)} {v : Value} (hc : x_k a16 = a16) : x_st2 (a0 :: a1 :: a2 :: a3 :: a4 :: a5 :: a6 :: a7 :: a8 :: a9 :: a10 :: a11 :: a12 :: a13 :: a14 :: a15 :: a16 :: x :: y :: r) 17 v = a0 :: a1 :: a2 :: a3 :: a4 :: a5 :: a6 :: a7 :: a8 :: a9 :: a10 :: a11 :: a12 :: a13 :: a14 :: a15 :: a16 :: some v :: none :: r := by simp [x_st2, hc]
theorem x_s18 {a0 a1 a2 a3 a4 a5 a6 a7 a8 a9 a10 a11 a12 a13 a14 a15 a16 a17 x : Option Value} {r : List (Option Value)} {v : Value} (hc : x_k a17 = a17) : x_st1 (a0 :: a1 :: a2 :: a3 :: a4 :: a5 :: a6 :: a7 :: a8 :: a9 :: a10 :: a11 :: a12 :: a13 :: a14 :: a15 :: a16 :: a17 :: x :: r) 18 v = a0 :: a1 :: a2 :: a3 :: a4 :: a5 :: a6 :: a7 :: a8 :: a9 :: a10 :: a11 :: a12 :: a13 :: a14 :: a15 :: a16 :: a17 :: some v :: r := by simp [x_st1, hc]
theorem x_t18 {a0 a1 a2 a3 a4 a5 a6 a7 a8 a9 a10 a11 a12 a13 a14 a15 a16 a17 x y : Option Value} {r : List (Option Value)} {v : Value} (hc : x_k a17 = a17) : x_st2 (a0 :: a1 :: a2 :: a3 :: a4 :: a5 :: a6 :: a7 :: a8 :: a9 :: a10 :: a11 :: a12 :: a13 :: a14 :: a15 :: a16 :: a17 :: x :: y :: r) 18 v = a0 :: a1 :: a2 :: a3 :: a4 :: a5 :: a6 :: a7 :: a8 :: a9 :: a10 :: a11 :: a12 :: a13 :: a14 :: a15 :: a16 :: a17 :: some v :: none :: r := by simp [x_st2, hc]
theorem x_s19 {a0 a1 a2 a3 a4 a5 a6 a7 a8 a9 a10 a11 a12 a13 a14 a15 a16 a17 a18 x : Option Value} {r : List (Option Value)} {v : Value} (hc : x_k a18 = a18) : x_st1 (a0 :: a1 :: a2 :: a3 :: a4 :: a5 :: a6 :: a7 :: a8 :: a9 :: a10 :: a11 :: a12 :: a13 :: a14 :: a15 :: a16 :: a17 :: a18 :: x :: r) 19 v = a0 :: a1 :: a2 :: a3 :: a4 :: a5 :: a6 :: a7 :: a8 :: a9 :: a10 :: a11 :: a12 :: a13 :: a14 :: a15 :: a16 :: a17 :: a18 :: some v :: r := by simp [x_st1, hc]
theorem x_t19 {a0 a1 a2 a3 a4 a5 a6 a7 a8 a9 a10 a11 a12 a13 a14 a15 a16 a17 a18 x y : Option Value} {r : List (Option Value)} {v : Value} (hc : x_k a18 = a18) : x_st2 (a0 :: a1 :: a2 :: a3 :: a4 :: a5 :: a6 :: a7 :: a8 :: a9 :: a10 :: a11 :: a12 :: a13 :: a14 :: a15 :: a16 :: a17 :: a18 :: x :: y :: r) 19 v = a0 :: a1 :: a2 :: a3 :: a4 :: a5 :: a6 :: a7 :: a8 :: a9 :: a10 :: a11 :: a12 :: a13 :: a14 :: a15 :: a16 :: a17 :: a18 :: some v :: none :: r := by simp [x_st2, hc]
theorem x_s20 {a0 a1 a2 a3 a4 a5 a6 a7 a8 a9 a10 a11 a12 a13 a14 a15 a16 a17 a18 a19 x : Option Value} {r : List (Option Value)} {v : Value} (hc : x_k a19 = a19) : x_st1 (a0 :: a1 :: a2 :: a3 :: a4 :: a5 :: a6 :: a7 :: a8 :: a9 :: a10 :: a11 :: a12 :: a13 :: a14 :: a15 :: a16 :: a17 :: a18 :: a19 :: x :: r) 20 v = a0 :: a1 :: a2 :: a3 :: a4 :: a5 :: a6 :: a7 :: a8 :: a9 :: a10 :: a11 :: a12 :: a13 :: a14 :: a15 :: a16 :: a17 :: a18 :: a19 :: some v :: r := by simp [x_st1, hc]
theorem x_t20 {a0 a1 a2 a3 a4 a5 a6 a7 a8 a9 a10 a11 a12 a13 a14 a15 a16 a17 a18 a19 x y : Option Value} {r : List (Option Value)} {v : Value} (hc : x_k a19 = a19) : x_st2 (a0 :: a1 :: a2 :: a3 :: a4 :: a5 :: a6 :: a7 :: a8 :: a9 :: a10 :: a11 :: a12 :: a13 :: a14 :: a15 :: a16 :: a17 :: a18 :: a19 :: x :: y :: r) 20 v = a0 :: a1 :: a2 :: a3 :: a4 :: a5 :: a6 :: a7 :: a8 :: a9 :: a10 :: a11 :: a12 :: a13 :: a14 :: a15 :: a16 :: a17 :: a18 :: a19 :: some v :: none :: r := by simp [x_st2, hc]
theorem x_s21 {a0 a1 a2 a3 a4 a5 a6 a7 a8 a9 a10 a11 a12 a13 a14 a15 a16 a17 a18 a19 a20 x : Option Value} {r : List (Option Value)} {v : Value} (hc : x_k a20 = a20) : x_st1 (a0 :: a1 :: a2 :: a3 :: a4 :: a5 :: a6 :: a7 :: a8 :: a9 :: a10 :: a11 :: a12 :: a13 :: a14 :: a15 :: a16 :: a17 :: a18 :: a19 :: a20 :: x :: r) 21 v = a0 :: a1 :: a2 :: a3 :: a4 :: a5 :: a6 :: a7 :: a8 :: a9 :: a10 :: a11 :: a12 :: a13 :: a14 :: a15 :: a16 :: a17 :: a18 :: a19 :: a20 :: some v :: r := by simp [x_st1, hc]
theorem x_t21 {a0 a1 a2 a3 a4 a5 a6 a7 a8 a9 a10 a11 a12 a13 a14 a15 a16 a17 a18 a19 a20 x y : Option Value} {r : List (Option Value)} {v : Value} (hc : x_k a20 = a20) : x_st2 (a0 :: a1 :: a2 :: a3 :: a4 :: a5 :: a6 :: a7 :: a8 :: a9 :: a10 :: a11 :: a12 :: a13 :: a14 :: a15 :: a16 :: a17 :: a18 :: a19 :: a20 :: x :: y :: r) 21 v = a0 :: a1 :: a2 :: a3 :: a4 :: a5 :: a6 :: a7 :: a8 :: a9 :: a10 :: a11 :: a12 :: a13 :: a14 :: a15 :: a16 :: a17 :: a18 :: a19 :: a20 :: some v :: none :: r := by simp [x_st2, hc]
end
section
section XC
theorem x_kfl (a : String) (i : Nat) (b n t : String) : ((Cond.fieldLink a i b n t).onTables && (Cond.fieldLink a i b n t).keeps) = true := by first | rfl | simp [Cond.onTables, Cond.keeps, Cond.steady]
theorem x_kcl (a : String) (i : Nat) (b : String) : ((Cond.classLink a i b).onTables && (Cond.classLink a i b).keeps) = true := by first | rfl | simp [Cond.onTables, Cond.keeps, Cond.steady]
theorem x_kin (a : String) (n : Nat) : ((Cond.instantiable a n).onTables && (Cond.instantiable a n).keeps) = true := by first | rfl | simp [Cond.onTables, Cond.keeps, Cond.steady]
theorem x_kii (a : String) : ((Cond.initialized a).onTables && (Cond.initialized a).keeps) = true := by first | rfl | simp [Cond.onTables, Cond.keeps, Cond.steady]
theorem x_kml (a : String) (i : Nat) (y : MethodName) : ((Cond.methodLink a i y).onTables && (Cond.methodLink a i y).keeps) = true := by first | rfl | simp [Cond.onTables, Cond.keeps, Cond.steady]
theorem x_kst (y : MethodName) : ((Cond.static y).onTables && (Cond.static y).keeps) = true := by first | rfl | simp [Cond.onTables, Cond.keeps, Cond.steady]
theorem x_kim (y : MethodName) : ((Cond.instanceMethod y).onTables && (Cond.instanceMethod y).keeps) = true := by first | rfl | simp [Cond.onTables, Cond.keeps, Cond.steady]
theorem x_ksl (C : String) (x y : MethodName) : ((Cond.selects C x y).onTables && (Cond.selects C x y).keeps) = true := by first | rfl | simp [Cond.onTables, Cond.keeps, Cond.steady]
theorem x_kco (y : MethodName) (b : ByteArray) (n : Nat) (t : Option FieldType) : ((Cond.code y b n t).onTables && (Cond.code y b n t).keeps) = true := by first | rfl | simp [Cond.onTables, Cond.keeps, Cond.steady]
theorem x_kcw (y : MethodName) (b : ByteArray) (n : Nat) (t : Option FieldType) (l : List (Nat × Nat × Nat × Nat)) : ((Cond.codeWith y b n t l).onTables && (Cond.codeWith y b n t l).keeps) = true := by first | rfl | simp [Cond.onTables, Cond.keeps, Cond.steady]
theorem x_kla {C : String} {T : u_T} {N : Nat} : ∀ w ∈ u_ws C T N, (w.onTables && w.keeps) = true := by
  intro w hw
  obtain ⟨k, -, rfl⟩ := List.mem_map.mp hw
  unfold u_lay
  split <;> first | rfl | simp [Cond.onTables, Cond.keeps, Cond.steady]
/-- what is known of a class: its place, its words, its fields' types and names -/
def x_cl (ci : Nat) (C : String) (T : u_T) (N : Nat) (ty : Nat → FieldType) : Prop :=
  vwCl[ci]? = some (C, T, N) ∧ (∀ w ∈ u_ws C T N, w ∈ lw_tbl) ∧ (∀ k, k < N → parseFieldDescriptor (T k).2.2.1 = some (ty k)) ∧ ∀ a, a < N → ∀ b, b < N → a ≠ b → (T a).2.1 ≠ (T b).2.1
variable {K : x_K} {M : x_M} {d pc pc' : Nat} {lv lv' : List (Option Value)} {st : List Value} {h : x_H} {Q : x_O → x_H → Prop}
  {C : String} {T : u_T} {N ci : Nat} {ty : Nat → FieldType} {fs : List Value} {a : Nat} {v : Value}
theorem go_getfield {idx : Nat} (hd : decode M.2.1 pc = .ok (.getfield idx, 3)) (hc : x_cl ci C T N ty) (j : Nat) (hj : j < N) (hw : Cond.fieldLink M.1.cls idx (T j).1 (T j).2.1 (T j).2.2.1 ∈ lw_tbl) (hf : h.2.2 a = some (.inr (ci, fs))) (hv : fs[j]? = some v) (hp : pc + 3 = pc')
    (k : Go K M d pc' lv (v :: st) h Q) : Go K M d pc lv (.ref a :: st) h Q := by
  subst hp
  intro R s m args below meth c H locs cells slots ls z0 q0 hF hx
  exact va_get (ref := (T j).1) (Ts := u_ws C T N) hF.ex hF.cd (fun w hw' => hF.wd (hc.2.1 w hw') (Or.inl (x_kla w hw')) args) (fun w h => h) hF.ow hF.kk (hF.w.P hf) 0 rfl hc.1 j hj (hF.wd hw (Or.inl (x_kfl _ _ _ _ _)) args) (fun x h => h) hv hd
    (k R s m args below meth c H locs cells slots ls z0 q0 hF hx)
theorem go_putfield {idx : Nat} (hd : decode M.2.1 pc = .ok (.putfield idx, 3)) (hc : x_cl ci C T N ty) (j : Nat) (hj : j < N) (hfin : (T j).2.2.2 = false) (hw : Cond.fieldLink M.1.cls idx (T j).1 (T j).2.1 (T j).2.2.1 ∈ lw_tbl) (hf : h.2.2 a = some (.inr (ci, fs))) (hn : narrow (ty j) v = v) (hfit : fits (ty j) v = true) (hl : j < fs.length) (hp : pc + 3 = pc')
    (k : Go K M d pc' lv st (x_up h a (.inr (ci, fs.set j v))) Q) : Go K M d pc lv (v :: .ref a :: st) h Q := by
  subst hp
  intro R s m args below meth c H locs cells slots ls z0 q0 hF hx
  have hts : ∀ w ∈ u_ws C T N, w.before args s = true := fun w hw' => hF.wd (hc.2.1 w hw') (Or.inl (x_kla w hw')) args
  have hap := va_apart (own := M.1.cls) hts (fun w h => h) ty hc.2.2.1 hc.2.2.2 hF.kk hc.1
  obtain ⟨hB, r, h1, cell, q1, q2, q3, q4⟩ := hF.w.2.2.1 a _ hf
  obtain rfl : r = (C, T, N) := Option.some.inj (h1.symm.trans hc.1)
  obtain ⟨hS, hfc, kC, hkC, hkind⟩ := hF.kk.1 ci _ hc.1
  obtain ⟨cf, kf, fi, f, hi, hsl⟩ := hS j hj
  have hlay := hts _ (u_in_lay hj)
  unfold u_lay at hlay
  rw [if_neg (by rw [hfin]; decide)] at hlay
  have hst := (u_facts hfc hkC (u_lays hts (fun w h => h) hj) hi).1
  have h6 := u_store hfc hkC hkind hlay hi (hc.2.2.1 j hj) hn hfit
  refine W.putK hF.ex hF.cd (f := f) ⟨hF.ow, hF.wd hw (Or.inl (x_kfl _ _ _ _ _)) args, ⟨_, _, _, hi⟩, hst⟩ (by rw [q2]; exact h6) q1 q3 (by rw [hsl]; exact k2_hasslot (q4 j hj)) rfl rfl hd fun H' e1 e2 e3 => ?_
  rw [hsl] at e1
  exact k R s m args below meth c H' _ cells slots ls z0 q0 (hF.mv (hF.w.up (.inr (ci, fs.set j v)) hf ⟨_, hc.1, t_OB.to (V := updV (vp_V fs) j v) ⟨_, e1, q2, q3, t_set q4 hap hj v⟩ (fun i _ => vp_updV_set hl v i)⟩ e2 e3)
    (fun q hq => by rcases List.mem_append.mp hq with hq | hq; exact hF.lc q hq; rw [List.mem_singleton.mp hq]; exact hB) hF.cs.1 hF.cs.2.1 hF.cs.2.2.1 hF.cs.2.2.2) hx
theorem go_putfinal {idx : Nat} (hd : decode M.2.1 pc = .ok (.putfield idx, 3)) (hc : x_cl ci C T N ty) (j : Nat) (hj : j < N) (hfin : (T j).2.2.2 = true) (hin2 : M.1.name = "<init>") (hdecl : (T j).1 = M.1.cls) (hw : Cond.fieldLink M.1.cls idx (T j).1 (T j).2.1 (T j).2.2.1 ∈ lw_tbl) (hf : h.2.2 a = some (.inr (ci, fs))) (hn : narrow (ty j) v = v) (hfit : fits (ty j) v = true) (hl : j < fs.length) (hp : pc + 3 = pc')
    (k : Go K M d pc' lv st (x_up h a (.inr (ci, fs.set j v))) Q) : Go K M d pc lv (v :: .ref a :: st) h Q := by
  subst hp
  intro R s m args below meth c H locs cells slots ls z0 q0 hF hx
  have hts : ∀ w ∈ u_ws C T N, w.before args s = true := fun w hw' => hF.wd (hc.2.1 w hw') (Or.inl (x_kla w hw')) args
  have hap := va_apart (own := M.1.cls) hts (fun w h => h) ty hc.2.2.1 hc.2.2.2 hF.kk hc.1
  obtain ⟨hB, r, h1, cell, q1, q2, q3, q4⟩ := hF.w.2.2.1 a _ hf
  obtain rfl : r = (C, T, N) := Option.some.inj (h1.symm.trans hc.1)
  obtain ⟨hS, hfc, kC, hkC, hkind⟩ := hF.kk.1 ci _ hc.1
  obtain ⟨cf, kf, fi, f, hi, hsl⟩ := hS j hj
  have hlay := hts _ (u_in_lay hj)
  unfold u_lay at hlay
  rw [if_pos hfin] at hlay
  have hst := (u_facts hfc hkC (u_lays hts (fun w h => h) hj) hi).1
  have hcf : m.cls = cf := by
    obtain ⟨_, _, c', _, _, _, -, -, hf', -, -, -, hown2, -⟩ := Cond.laysFinal_spec hlay
    have e1 : c' = cf := by have := hi.symm.trans hf'; simp at this; exact this.1.symm
    rw [hdecl] at hown2
    rw [← e1]; exact Option.some.inj (hF.ow.symm.trans hown2)
  have h6 := u_fits hfc hkC hkind (Or.inr hlay) hi (hc.2.2.1 j hj) hn hfit
  refine W.putFinK hF.ex hF.cd hF.ow (hF.wd hw (Or.inl (x_kfl _ _ _ _ _)) args) hi hst hcf (hF.nm.trans hin2) (by rw [q2]; exact h6) q1 q3 (by rw [hsl]; exact k2_hasslot (q4 j hj)) rfl rfl hd fun H' e1 e2 e3 => ?_
  rw [hsl] at e1
  exact k R s m args below meth c H' _ cells slots ls z0 q0 (hF.mv (hF.w.up (.inr (ci, fs.set j v)) hf ⟨_, hc.1, t_OB.to (V := updV (vp_V fs) j v) ⟨_, e1, q2, q3, t_set q4 hap hj v⟩ (fun i _ => vp_updV_set hl v i)⟩ e2 e3)
    (fun q hq => by rcases List.mem_append.mp hq with hq | hq; exact hF.lc q hq; rw [List.mem_singleton.mp hq]; exact hB) hF.cs.1 hF.cs.2.1 hF.cs.2.2.1 hF.cs.2.2.2) hx
theorem go_new {idx : Nat} (hd : decode M.2.1 pc = .ok (.new idx, 3)) (hc : x_cl ci C T N ty) (hw1 : Cond.classLink M.1.cls idx C ∈ lw_tbl) (hw2 : Cond.instantiable C N ∈ lw_tbl) (hw3 : Cond.initialized C ∈ lw_tbl) (hfs : ∀ j, j < N → defaultValue (ty j) = vp_V fs j) (hz : h.1 + 1 ≤ x_cap K) (hq : h.2.1 + N ≤ x_cas K) (hp : pc + 3 = pc')
    (k : Go K M d pc' lv (.ref h.1 :: st) (x_nw h N (.inr (ci, fs))) Q) : Go K M d pc lv st h Q := by
  subst hp
  intro R s m args below meth c H locs cells slots ls z0 q0 hF hx
  have hts : ∀ w ∈ u_ws C T N, w.before args s = true := fun w hw' => hF.wd (hc.2.1 w hw') (Or.inl (x_kla w hw')) args
  have hKn := hF.kk.1 ci _ hc.1
  have hcs := hF.cs
  have hrm := hF.rm
  refine W.newcK hF.ex hF.cd hF.ow (hF.wd hw1 (Or.inl (x_kcl _ _ _)) args) (hF.wd hw2 (Or.inl (x_kin _ _)) args) (hF.wd hw3 (Or.inl (x_kii _)) args) rfl hd (by omega) (by omega) hKn.2.1 hF.w.1 fun H1 kC hkC e1 z1 o1 => ?_
  exact k R s m args below meth c H1 locs (cells + 1) (slots + N) ls z0 q0 (hF.mv (hF.w.nw N (.inr (ci, fs)) ⟨_, hc.1, (u_born ty hts (fun w h => h) hKn hkC e1 hc.2.2.1).to hfs⟩ z1 o1) hF.lc (by show cells + 1 + z0 ≤ h.1 + 1; omega) (by show slots + N + q0 ≤ h.2.1 + N; omega) hz hq) hx
theorem x_arr {K : x_K} {M : x_M} {d : Nat} {R : Room} {s : State} {m : MethodId} {meth : Method} {c : Code} {H : Heap} {h : x_H} {locs : List Loc} {cells slots z0 q0 : Nat} (hF : x_F K M d R s m meth c H h locs cells slots z0 q0) {k : Nat} {ty : FieldType} (hk : x_ty k = some ty) : ArrOfT s (x_ca K k) ty := arrOfT_moved hF.wm.alike (hF.ok.2.2.2.1 k ty hk).1
theorem x_ra {K : x_K} {M : x_M} {d : Nat} {R : Room} {s : State} {m : MethodId} {meth : Method} {c : Code} {H : Heap} {h : x_H} {locs : List Loc} {cells slots z0 q0 : Nat} (hF : x_F K M d R s m meth c H h locs cells slots z0 q0) {k : Nat} {ty : FieldType} (hk : x_ty k = some ty) : va_RA s (x_ca K k) ty := ((hF.ok.2.2.2.1 k ty hk).2).moved hF.wm.alike
theorem go_newarray {atype : ArrayType} {kd : Nat} {n : Int32} {N' : Nat} {a0 : vp_A} (hd : decode M.2.1 pc = .ok (.newarray atype, 2)) (hw : Cond.arrayClass (newarray.typeOf atype) ∈ lw_tbl) (hk : x_ty kd = some (newarray.typeOf atype)) (ha : ∀ cA : ClassId, vp_cell cA a0 = arrV cA N' (fun _ => defaultValue (newarray.typeOf atype)))
    (hn : ¬ n < 0) (hN : n.toNatClampNeg = N') (hb : N' * componentBytes (newarray.typeOf atype) ≤ 536870912) (hz : h.1 + 1 ≤ x_cap K) (hq : h.2.1 + N' ≤ x_cas K) (hp : pc + 2 = pc')
    (k : Go K M d pc' lv (.ref h.1 :: st) (x_nw h N' (.inl (kd, a0))) Q) : Go K M d pc lv (.int n :: st) h Q := by
  subst hp
  intro R s m args below meth c H locs cells slots ls z0 q0 hF hx
  have hcs := hF.cs
  have hrm := hF.rm
  refine va_newaK hF.ex hF.cd (hF.wd hw (Or.inr ⟨_, rfl⟩) args) rfl hd rfl hn hN hb (by omega) (by omega) hF.w.1 fun H1 cA e1 z1 o1 hAr hNm => ?_
  have hra := x_ra hF hk
  have hcA : x_ca K kd = cA := by
    have h2 : s.vm.findClass ("[" ++ (newarray.typeOf atype).toString) = some (x_ca K kd) := by
      cases atype <;> exact hra
    exact Option.some.inj (h2.symm.trans hNm)
  refine k R s m args below meth c H1 locs (cells + 1) (slots + N') ls z0 q0 (hF.mv (hF.w.nw N' (.inl (kd, a0)) ?_ z1 o1) hF.lc (by show cells + 1 + z0 ≤ h.1 + 1; omega) (by show slots + N' + q0 ≤ h.2.1 + N'; omega) hz hq) hx
  show H1[h.1]? = some (vp_cell (x_ca K kd) a0)
  rw [ha, hcA]
  exact e1
theorem go_anewarray {idx kd : Nat} {E : String} {n : Int32} {N' : Nat} (hd : decode M.2.1 pc = .ok (.anewarray idx, 3)) (hw1 : Cond.classLink M.1.cls idx E ∈ lw_tbl) (hw2 : Cond.arrayOver (.object E) ∈ lw_tbl) (hk : x_ty kd = some (.object E))
    (hn : ¬ n < 0) (hN : n.toNatClampNeg = N') (hb : N' * 4 ≤ 536870912) (hz : h.1 + 1 ≤ x_cap K) (hq : h.2.1 + N' ≤ x_cas K) (hp : pc + 3 = pc')
    (k : Go K M d pc' lv (.ref h.1 :: st) (x_nw h N' (.inl (kd, N', .inr (.inr (.inr (.inr (fun _ => none))))))) Q) : Go K M d pc lv (.int n :: st) h Q := by
  subst hp
  subst hN
  intro R s m args below meth c H locs cells slots ls z0 q0 hF hx
  have hcs := hF.cs
  have hrm := hF.rm
  have hao : va_AO E s := va_AO.moved hF.wm.alike (va_AO.of (hF.ok.2.1 _ hw2))
  refine W.anew hF.ex hF.cd hF.ow (hF.wd hw1 (Or.inl (x_kcl _ _ _)) args) (va_AO.use hao) rfl hd rfl hn hb (by omega) (by omega) fun cA kA comp f1 f2 f3 f4 => ?_
  generalize hH1 : H.push ({ cls := cA, slots := Array.replicate n.toNatClampNeg .null, vm := .none } : Cell) = H1
  have hs := hF.w.1
  have z1 : H1.size = h.1 + 1 := by rw [← hH1, Array.size_push, hs]
  have e1 : H1[h.1]? = some (arrV cA n.toNatClampNeg (fun _ => .null)) := by rw [← hH1, ← hs, Array.getElem?_push_size, ← arrV_new]
  have o1 : ∀ q : Nat, q < h.1 → H1[q]? = H[q]? := fun q hq => by rw [← hH1, Array.getElem?_push, if_neg (by omega)]
  obtain ⟨kA', comp', -, -, -, hra⟩ := x_ra hF hk
  have hcA : x_ca K kd = cA := Option.some.inj (hra.symm.trans f1)
  rw [hs]
  refine k R s m args below meth c H1 locs (cells + 1) (slots + n.toNatClampNeg) ls z0 q0 (hF.mv (hF.w.nw n.toNatClampNeg (.inl (kd, n.toNatClampNeg, .inr (.inr (.inr (.inr (fun _ => none)))))) ?_ z1 o1) hF.lc (by show cells + 1 + z0 ≤ h.1 + 1; omega) (by show slots + n.toNatClampNeg + q0 ≤ h.2.1 + n.toNatClampNeg; omega) hz hq) hx
  show H1[h.1]? = some (vp_cell (x_ca K kd) _)
  rw [vp_cell_q, hcA]
  exact e1
theorem go_alen {kd : Nat} {x : vp_A} {t : FieldType} {w : Int32} (hd : decode M.2.1 pc = .ok (.arraylength, 1)) (hf : h.2.2 a = some (.inl (kd, x))) (hk : x_ty kd = some t) (hw : Int32.ofNat x.1 = w) (hp : pc + 1 = pc')
    (k : Go K M d pc' lv (.int w :: st) h Q) : Go K M d pc lv (.ref a :: st) h Q := by
  subst hp
  intro R s m args below meth c H locs cells slots ls z0 q0 hF hx
  exact va_alen hF.ex hF.cd (hF.ar hk) (hF.w.P hf) 0 0 rfl rfl hw hd (k R s m args below meth c H locs cells slots ls z0 q0 hF hx)
theorem go_iald {kd n : Nat} {f : Nat → Int32} {i w : Int32} (hd : decode M.2.1 pc = .ok (.iaload, 1)) (hf : h.2.2 a = some (.inl (kd, n, .inl f))) (hk : x_ty kd = some .int) (hin : vp_in i n) (hw : f i.toNatClampNeg = w) (hp : pc + 1 = pc')
    (k : Go K M d pc' lv (.int w :: st) h Q) : Go K M d pc lv (.int i :: .ref a :: st) h Q := by
  subst hp
  subst hw
  intro R s m args below meth c H locs cells slots ls z0 q0 hF hx
  exact va_iald hF.ex hF.cd (hF.ar hk) (hF.w.P hf) 0 0 rfl rfl hin hd (k R s m args below meth c H locs cells slots ls z0 q0 hF hx)
theorem go_zald {kd n : Nat} {f : Nat → Int32} {i w : Int32} (hd : decode M.2.1 pc = .ok (.baload, 1)) (hf : h.2.2 a = some (.inl (kd, n, .inl f))) (hk : x_ty kd = some .boolean) (hin : vp_in i n) (hw : f i.toNatClampNeg = w) (hp : pc + 1 = pc')
    (k : Go K M d pc' lv (.int w :: st) h Q) : Go K M d pc lv (.int i :: .ref a :: st) h Q := by
  subst hp
  subst hw
  intro R s m args below meth c H locs cells slots ls z0 q0 hF hx
  exact va_zald hF.ex hF.cd (hF.ar hk) (hF.w.P hf) 0 0 rfl rfl hin hd (k R s m args below meth c H locs cells slots ls z0 q0 hF hx)
theorem go_lald {kd n : Nat} {f : Nat → Int64} {i : Int32} {w : Int64} (hd : decode M.2.1 pc = .ok (.laload, 1)) (hf : h.2.2 a = some (.inl (kd, n, .inr (.inl f)))) (hk : x_ty kd = some .long) (hin : vp_in i n) (hw : f i.toNatClampNeg = w) (hp : pc + 1 = pc')
    (k : Go K M d pc' lv (.long w :: st) h Q) : Go K M d pc lv (.int i :: .ref a :: st) h Q := by
  subst hp
  subst hw
  intro R s m args below meth c H locs cells slots ls z0 q0 hF hx
  exact va_lald hF.ex hF.cd (hF.ar hk) (hF.w.P hf) 0 0 rfl rfl hin hd (k R s m args below meth c H locs cells slots ls z0 q0 hF hx)
theorem go_aald {kd n : Nat} {E : String} {f : Nat → Option Nat} {i : Int32} {o : Option Nat} (hd : decode M.2.1 pc = .ok (.aaload, 1)) (hf : h.2.2 a = some (.inl (kd, n, .inr (.inr (.inr (.inr f)))))) (hk : x_ty kd = some (.object E)) (hin : vp_in i n) (hw : f i.toNatClampNeg = o) (hp : pc + 1 = pc')
    (k : Go K M d pc' lv (va_rf o :: st) h Q) : Go K M d pc lv (.int i :: .ref a :: st) h Q := by
  subst hp
  subst hw
  intro R s m args below meth c H locs cells slots ls z0 q0 hF hx
  exact va_aldq hF.ex hF.cd (hF.ar hk) (hF.w.P hf) 0 0 rfl rfl hin hd (k R s m args below meth c H locs cells slots ls z0 q0 hF hx)
theorem x_lc {locs : List Loc} {B a j : Nat} (h1 : ∀ q ∈ locs, B ≤ q.base) (h2 : B ≤ a) : ∀ q ∈ locs ++ [⟨a, j⟩], B ≤ q.base := fun q hq => by
  rcases List.mem_append.mp hq with hq | hq
  · exact h1 q hq
  · rw [List.mem_singleton.mp hq]; exact h2
theorem go_iast {kd n : Nat} {f : Nat → Int32} {i x : Int32} (hd : decode M.2.1 pc = .ok (.iastore, 1)) (hf : h.2.2 a = some (.inl (kd, n, .inl f))) (hk : x_ty kd = some .int) (hin : vp_in i n) (hp : pc + 1 = pc')
    (k : Go K M d pc' lv st (x_up h a (.inl (kd, n, .inl (va_up f i.toNatClampNeg x)))) Q) : Go K M d pc lv (.int x :: .int i :: .ref a :: st) h Q := by
  subst hp
  intro R s m args below meth c H locs cells slots ls z0 q0 hF hx
  obtain ⟨hB, hat⟩ := hF.w.2.2.1 a _ hf
  refine W.iast hF.ex hF.cd hat (x_arr hF hk n (fun j => .int (f j))) (fun q => by cases q) (by show ¬ (i < 0 ∨ (arrV _ _ _).slots.size ≤ _); rw [arrV_size]; exact hin) rfl rfl hd fun H1 e z oq => ?_
  refine k R s m args below meth c H1 _ cells slots ls z0 q0 (hF.mv (hF.w.up _ hf ?_ z oq) (x_lc hF.lc hB) hF.cs.1 hF.cs.2.1 hF.cs.2.2.1 hF.cs.2.2.2) hx
  show H1[a]? = some (vp_cell _ _)
  rw [e]
  show some ((arrV _ _ _).setSlot _ _) = _
  rw [vp_cell_i, arrV_store]
  congr 2
  funext q
  by_cases hq : q = i.toNatClampNeg <;> simp [updV, va_up, hq]
theorem go_zast {kd n : Nat} {f : Nat → Int32} {i x : Int32} (hd : decode M.2.1 pc = .ok (.bastore, 1)) (hf : h.2.2 a = some (.inl (kd, n, .inl f))) (hk : x_ty kd = some .boolean) (hin : vp_in i n) (hp : pc + 1 = pc')
    (k : Go K M d pc' lv st (x_up h a (.inl (kd, n, .inl (va_up f i.toNatClampNeg (vp_nar .boolean x))))) Q) : Go K M d pc lv (.int x :: .int i :: .ref a :: st) h Q := by
  subst hp
  intro R s m args below meth c H locs cells slots ls z0 q0 hF hx
  obtain ⟨hB, hat⟩ := hF.w.2.2.1 a _ hf
  refine W.zast hF.ex hF.cd hat (x_arr hF hk n (fun j => .int (f j))) (fun q => by cases q) (by show ¬ (i < 0 ∨ (arrV _ _ _).slots.size ≤ _); rw [arrV_size]; exact hin) rfl rfl hd fun H1 e z oq => ?_
  refine k R s m args below meth c H1 _ cells slots ls z0 q0 (hF.mv (hF.w.up _ hf ?_ z oq) (x_lc hF.lc hB) hF.cs.1 hF.cs.2.1 hF.cs.2.2.1 hF.cs.2.2.2) hx
  show H1[a]? = some (vp_cell _ _)
  rw [e]
  show some ((arrV _ _ _).setSlot _ _) = _
  rw [vp_cell_i, arrV_store]
  congr 2
  funext q
  by_cases hq : q = i.toNatClampNeg
  · subst hq
    simp [updV, va_up, vp_nar]
    try rfl
  · simp [updV, va_up, hq]
theorem go_last {kd n : Nat} {f : Nat → Int64} {i : Int32} {x : Int64} (hd : decode M.2.1 pc = .ok (.lastore, 1)) (hf : h.2.2 a = some (.inl (kd, n, .inr (.inl f)))) (hk : x_ty kd = some .long) (hin : vp_in i n) (hp : pc + 1 = pc')
    (k : Go K M d pc' lv st (x_up h a (.inl (kd, n, .inr (.inl (va_up f i.toNatClampNeg x))))) Q) : Go K M d pc lv (.long x :: .int i :: .ref a :: st) h Q := by
  subst hp
  intro R s m args below meth c H locs cells slots ls z0 q0 hF hx
  obtain ⟨hB, hat⟩ := hF.w.2.2.1 a _ hf
  refine W.last hF.ex hF.cd hat (x_arr hF hk n (fun j => .long (f j))) (fun q => by cases q) (by show ¬ (i < 0 ∨ (arrV _ _ _).slots.size ≤ _); rw [arrV_size]; exact hin) rfl rfl hd fun H1 e z oq => ?_
  refine k R s m args below meth c H1 _ cells slots ls z0 q0 (hF.mv (hF.w.up _ hf ?_ z oq) (x_lc hF.lc hB) hF.cs.1 hF.cs.2.1 hF.cs.2.2.1 hF.cs.2.2.2) hx
  show H1[a]? = some (vp_cell _ _)
  rw [e]
  show some ((arrV _ _ _).setSlot _ _) = _
  rw [vp_cell_l, arrV_store]
  congr 2
  funext q
  by_cases hq : q = i.toNatClampNeg <;> simp [updV, va_up, hq]
theorem go_aast {kd n b : Nat} {r : vw_C} {vs : List Value} {f : Nat → Option Nat} {i : Int32} (hd : decode M.2.1 pc = .ok (.aastore, 1)) (hf : h.2.2 a = some (.inl (kd, n, .inr (.inr (.inr (.inr f)))))) (hk : x_ty kd = some (.object r.1)) (hv : h.2.2 b = some (.inr (ci, vs))) (hc : vwCl[ci]? = some r) (hin : vp_in i n) (hp : pc + 1 = pc')
    (k : Go K M d pc' lv st (x_up h a (.inl (kd, n, .inr (.inr (.inr (.inr (va_up f i.toNatClampNeg (some b)))))))) Q) : Go K M d pc lv (.ref b :: .int i :: .ref a :: st) h Q := by
  subst hp
  intro R s m args below meth c H locs cells slots ls z0 q0 hF hx
  have hlt : i.toNatClampNeg < n := Nat.not_le.mp fun q => hin (Or.inr q)
  have h0 : ¬ i < 0 := fun q => hin (Or.inl q)
  obtain ⟨hB, hat⟩ := hF.w.2.2.1 a _ hf
  obtain ⟨-, r', hr', cellV, g1, g2, g3, -⟩ := hF.w.2.2.1 b _ hv
  have hcls := (hF.kk.1 ci r hc).2
  obtain ⟨kA, comp, k1, k2, k3, -⟩ := x_ra hF hk
  obtain rfl : comp = (x_D K).1 ci := Option.some.inj (k3.symm.trans hcls.1)
  obtain ⟨kC, hkC, -⟩ := hcls.2
  refine W.aast hF.ex hF.cd hat (fun q h => by cases h) (fun h => by cases h) k1 k2 rfl hkC ⟨h0, by show _ < (arrV _ _ _).slots.size; rw [arrV_size]; exact hlt⟩ g1 (fun q h => by rw [g3] at h; cases h) (by rw [g2]; exact hkC) (by rw [g2]; exact va_assign hcls) rfl rfl hd fun H1 e z oq => ?_
  refine k R s m args below meth c H1 _ cells slots ls z0 q0 (hF.mv (hF.w.up _ hf ?_ z oq) (x_lc hF.lc hB) hF.cs.1 hF.cs.2.1 hF.cs.2.2.1 hF.cs.2.2.2) hx
  show H1[a]? = some (vp_cell _ _)
  rw [e]
  show some ((arrV _ _ _).setSlot _ _) = _
  rw [vp_cell_q, arrV_store]
  congr 2
  funext q
  by_cases hq : q = i.toNatClampNeg <;> simp [updV, va_up, hq, va_rf]
theorem go_aastN {kd n : Nat} {E : String} {f : Nat → Option Nat} {i : Int32} (hd : decode M.2.1 pc = .ok (.aastore, 1)) (hf : h.2.2 a = some (.inl (kd, n, .inr (.inr (.inr (.inr f)))))) (hk : x_ty kd = some (.object E)) (hin : vp_in i n) (hp : pc + 1 = pc')
    (k : Go K M d pc' lv st (x_up h a (.inl (kd, n, .inr (.inr (.inr (.inr (va_up f i.toNatClampNeg none))))))) Q) : Go K M d pc lv (.null :: .int i :: .ref a :: st) h Q := by
  subst hp
  intro R s m args below meth c H locs cells slots ls z0 q0 hF hx
  obtain ⟨hB, hat⟩ := hF.w.2.2.1 a _ hf
  refine va_WaastN (C := E) hF.ex hF.cd hat (x_arr hF hk n (fun j => va_rf (f j))) (fun h => by cases h) (by show ¬ (i < 0 ∨ (arrV _ _ _).slots.size ≤ _); rw [arrV_size]; exact hin) rfl rfl hd fun H1 e z oq => ?_
  refine k R s m args below meth c H1 _ cells slots ls z0 q0 (hF.mv (hF.w.up _ hf ?_ z oq) (x_lc hF.lc hB) hF.cs.1 hF.cs.2.1 hF.cs.2.2.1 hF.cs.2.2.2) hx
  show H1[a]? = some (vp_cell _ _)
  rw [e]
  show some ((arrV _ _ _).setSlot _ _) = _
  rw [vp_cell_q, arrV_store]
  congr 2
  funext q
  by_cases hq : q = i.toNatClampNeg <;> simp [updV, va_up, hq, va_rf]
/-- a store of a reference that may be null, of one class -/
theorem go_aastO {kd n : Nat} {o : Option Nat} {r : vw_C} {f : Nat → Option Nat} {i : Int32} (hd : decode M.2.1 pc = .ok (.aastore, 1)) (hf : h.2.2 a = some (.inl (kd, n, .inr (.inr (.inr (.inr f)))))) (hk : x_ty kd = some (.object r.1)) (hv : ∀ b : Nat, o = some b → ∃ vs, h.2.2 b = some (.inr (ci, vs))) (hc : vwCl[ci]? = some r) (hin : vp_in i n) (hp : pc + 1 = pc')
    (k : Go K M d pc' lv st (x_up h a (.inl (kd, n, .inr (.inr (.inr (.inr (va_up f i.toNatClampNeg o))))))) Q) : Go K M d pc lv (va_rf o :: .int i :: .ref a :: st) h Q := by
  cases o with
  | none => exact go_aastN hd hf hk hin hp k
  | some b =>
    obtain ⟨vs, hvs⟩ := hv b rfl
    exact go_aast hd hf hk hvs hc hin hp k
theorem go_areturn {v : Value} {t : FieldType} (hd : decode M.2.1 pc = .ok (.areturn, 1)) (hr : M.2.2.2.1 = some t) (ht : ∃ n, t = .object n) (hv : x_r v = true) (hq : Q (.inl (some v)) h) : Go K M d pc lv [v] h Q := by
  intro R s m args below meth c H locs cells slots ls z0 q0 hF hx
  intro T hT X
  have hlocks : meth.locks = false := hF.lk
  have hexec := hF.ex
  have hb := hF.cd
  have hrt := hF.rt
  obtain ⟨fs, hret, hrun, hended, hW, hframe⟩ := X.leave (v := some v) (fun q => by rw [hrt, hr] at q; cases q)
  have hmeth' : T.vm.method? m = some meth := X.method'
  obtain ⟨n, rfl⟩ := ht
  have hr' : meth.sig.returnType = some (.object n) := hrt.trans hr
  refine ⟨T.setFrames fs, ?_, .returned (some v), .inl (some v), h, hrun, hended, hW, ⟨locs, cells, slots, hframe, hF.lc, hF.cs.1, hF.cs.2.1⟩, rfl, by (show x_W K h T.heap); rw [hT]; exact hF.w, hF.cs.2.2.1, hF.cs.2.2.2, hq⟩
  rcases x_r_cases hv with ⟨a, rfl⟩ | rfl <;>
    (jvm_step X.here [X.here.top, hexec, hb, hd, hmeth', hr']
     (try refine ⟨rfl, ?_⟩); (try refine ⟨rfl, ?_⟩)
     first | (intro acts; rw [hret _ acts rfl rfl rfl]) | rw [hret _ _ rfl rfl rfl]
     exact Steps.refl _)
end XC
end
section
section XD
/-- what a callee finds in its locals -/
def x_ent : List Value → List (Option Value)
  | [] => []
  | .long v :: r => some (.long v) :: none :: x_ent r
  | .double v :: r => some (.double v) :: none :: x_ent r
  | v :: r => some v :: x_ent r
def x_en (As : List Value) (n : Nat) : List (Option Value) := x_ent As ++ List.replicate (n - (x_ent As).length) none
theorem x_ent_args : ∀ (As : List Value) (k i : Nat) (v : Value), (x_ent As)[i]? = some (some v) → (i + k, v) ∈ lv_args k As
  | [], k, i, v, h => by simp [x_ent] at h
  | u :: r, k, i, v, h => by
    by_cases hu : u.category = 2
    · have e1 : x_ent (u :: r) = some u :: none :: x_ent r := by cases u <;> first | rfl | cases hu
      have e2 : lv_args k (u :: r) = (k, u) :: lv_args (k + 2) r := by simp [lv_args, hu]
      rw [e1] at h
      rw [e2]
      match i, h with
      | 0, h =>
        simp at h
        subst h
        simp
      | 1, h => simp at h
      | i + 2, h =>
        refine List.mem_cons_of_mem _ ?_
        rw [show i + 2 + k = i + (k + 2) by omega]
        exact x_ent_args r (k + 2) i v (by simpa using h)
    · have e1 : x_ent (u :: r) = some u :: x_ent r := by cases u <;> first | rfl | exact absurd rfl hu
      have e2 : lv_args k (u :: r) = (k, u) :: lv_args (k + 1) r := by simp [lv_args, hu]
      rw [e1] at h
      rw [e2]
      match i, h with
      | 0, h =>
        simp at h
        subst h
        simp
      | i + 1, h =>
        refine List.mem_cons_of_mem _ ?_
        rw [show i + 1 + k = i + (k + 1) by omega]
        exact x_ent_args r (k + 1) i v (by simpa using h)
theorem x_ent_len : ∀ As : List Value, (lg_sl As).length = (x_ent As).length
  | [] => rfl
  | u :: r => by
    have ih := x_ent_len r
    by_cases hu : u.category = 2
    · have e1 : x_ent (u :: r) = some u :: none :: x_ent r := by cases u <;> first | rfl | cases hu
      rw [e1]
      simp [lg_sl, hu] at ih ⊢
      exact ih
    · have e1 : x_ent (u :: r) = some u :: x_ent r := by cases u <;> first | rfl | exact absurd rfl hu
      rw [e1]
      simp [lg_sl, hu] at ih ⊢
      exact ih
theorem x_en_l {As : List Value} {n : Nat} (h : (x_ent As).length ≤ n) : x_l ((lg_sl As ++ List.replicate (n - (lg_sl As).length) Slot.unset).toArray) n (x_en As n) := by
  have hl := lv_entry As (n := n) (by rw [x_ent_len]; exact h)
  refine ⟨hl.1, hl.2.1, fun i v hv => ?_⟩
  have h2 : (x_ent As)[i]? = some (some v) := by
    unfold x_en at hv
    by_cases hi : i < (x_ent As).length
    · rw [List.getElem?_append_left hi] at hv; exact hv
    · rw [List.getElem?_append_right (by omega), List.getElem?_replicate] at hv
      split at hv <;> cases hv
  exact hl.2.2 (i, v) (x_ent_args As 0 i v h2)
theorem x_cat : ∀ st : List Value, (st.map fun v => v.category).sum ≤ 2 * st.length
  | [] => Nat.le_refl _
  | u :: r => by
    have ih := x_cat r
    have h : u.category ≤ 2 := by cases u <;> simp [Value.category]
    simp only [List.map_cons, List.sum_cons, List.length_cons]
    omega
theorem x_weaken {tb : Tables} {e : Env} {g : Frame} {below : List Frame} {a b : State} (h : Steps tb e (g :: below) a b) : Steps tb e below a b := by
  obtain ⟨n, hn, w⟩ := h
  exact ⟨n, hn, fun k hk => Within.weaken (mid := [g]) (w k hk)⟩
/-- a method's code stands in the tables -/
def x_cd (M : x_M) : Prop := (M.2.2.2.2 = [] ∧ Cond.code M.1 M.2.1 M.2.2.1 M.2.2.2.1 ∈ lw_tbl) ∨ Cond.codeWith M.1 M.2.1 M.2.2.1 M.2.2.2.1 M.2.2.2.2 ∈ lw_tbl
def x_md (s : State) (M : x_M) (mk : MethodId) (methk : Method) (ck : Code) : Prop :=
  s.methodNamed? M.1 = some mk ∧ s.vm.method? mk = some methk ∧ methk.code = some ck ∧
  (ck.code = M.2.1 ∧ ck.maxLocals = M.2.2.1 ∧ methk.sig.returnType = M.2.2.2.1 ∧ methk.locks = false ∧ methk.name = M.1.name ∧ ck.exceptionTable.toList.map (fun x => (x.startPc, x.endPc, x.handlerPc, x.catchType)) = M.2.2.2.2) ∧
  parseMethodDescriptor M.1.desc = some methk.sig
variable {K : x_K} {M M' : x_M} {d d' pc pc' : Nat} {lv lv' lv0 : List (Option Value)} {st : List Value} {h : x_H} {Q Q' : x_O → x_H → Prop}
  {R : Room} {s : State} {m : MethodId} {args : Array Value} {below : List Frame} {meth : Method} {c : Code} {H : Heap} {locs : List Loc} {cells slots z0 q0 : Nat} {ls : Array Slot} {T : State}
theorem x_F.md (hF : x_F K M d R s m meth c H h locs cells slots z0 q0) (hc : x_cd M') : ∃ mk methk ck, x_md s M' mk methk ck := by
  rcases hc with ⟨h0, hc⟩ | hc
  · have hw := hF.wd hc (Or.inl (x_kco _ _ _ _)) #[]
    obtain ⟨mk, hn⟩ := Cond.code_named hw
    obtain ⟨methk, ck, f1, f2, f3, f4, f5, f6, f7, f8⟩ := Cond.code_spec hn hw
    refine ⟨mk, methk, ck, hn, f1, f2, ⟨f3, f4, f5, f6, (name_of_methodNamed hn f1).1, ?_⟩, f8⟩
    have : ck.exceptionTable = #[] := by simpa using f7
    rw [this, h0]; rfl
  · have hw := hF.wd hc (Or.inl (x_kcw _ _ _ _ _)) #[]
    obtain ⟨mk, methk, ck, hn, f1, f2, f3, f4, f5, f6, f7, f8⟩ := Cond.codeWith_spec hw
    exact ⟨mk, methk, ck, hn, f1, f2, ⟨f3, f4, f6, f7, (name_of_methodNamed hn f1).1, f5⟩, f8⟩
/-- what an exception that a call brings means in this frame -/
def x_T (K : x_K) (M : x_M) (d pc : Nat) (lv : List (Option Value)) (st : List Value) (Q : x_O → x_H → Prop) (q : Nat × Nat) (h : x_H) : Prop :=
  ∀ (R : Room) (s : State) (m : MethodId) (args : Array Value) (below : List Frame) (meth : Method) (c : Code) (H : Heap) (locs : List Loc) (cells slots : Nat) (ls : Array Slot) (z0 q0 : Nat) (T : State),
    x_F K M d R s m meth c H h locs cells slots z0 q0 → x_l ls M.2.2.1 lv → T.heap = H → (∃ cell : Cell, H[q.2]? = some cell ∧ cell.vm = .none ∧ cell.cls = x_ca K q.1) →
    Stand (x_p K) (x_n K) (x_e K) R s m args below meth c T locs cells slots →
    ∃ t, Steps (x_p K).tables (x_e K) below ((T.setTop (F0 m pc ls st)).pushFrame (.throwing q.2)) t ∧ x_Q K s below z0 q0 Q t
/-- no handlers: it goes on to the caller -/
theorem x_T.out {q : Nat × Nat} (hh : M.2.2.2.2 = []) (hq : Q (.inr q) h) : x_T K M d pc lv st Q q h := by
  intro R s m args below meth c H locs cells slots ls z0 q0 T hF hx hT hcell X
  have ht : c.exceptionTable.toList = [] := by
    have := hF.tb
    rw [hh] at this
    exact List.map_eq_nil_iff.mp this
  obtain ⟨a1, a2, a3, a4, a5⟩ := X.leaveThrown q.2 (g := F0 m pc ls st) rfl rfl rfl (fun x hx' => by rw [ht] at hx'; cases hx') hF.lk
  have hh2 : (T.setFrames (.throwing q.2 :: below)).heap = H := hT
  exact ⟨_, a1, .threw q.2, .inr q, h, a2, a3, a4, ⟨locs, cells, slots, a5, hF.lc, hF.cs.1, hF.cs.2.1⟩, ⟨rfl, by rw [hh2]; exact hcell⟩, by rw [hh2]; exact hF.w, hF.cs.2.2.1, hF.cs.2.2.2, hq⟩
set_option maxHeartbeats 1000000 in
theorem x_enter (hF : x_F K M d R s m meth c H h locs cells slots z0 q0) (hx : x_l ls M.2.2.1 lv) (hT : T.heap = H) (X : Stand (x_p K) (x_n K) (x_e K) R s m args below meth c T locs cells slots)
    {ig : Instr} {len : Nat} (hd : decode M.2.1 pc = .ok (ig, len)) {mk : MethodId} {methk : Method} {ck : Code} (hm : x_md s M' mk methk ck) (hpl : plainName M'.1.cls = true)
    (As : List Value) (hlen : (x_ent As).length ≤ M'.2.2.1) (he : x_en As M'.2.2.1 = lv0) (hg : Go K M' d' 0 lv0 [] h Q') (hd' : d' + 1 ≤ d) (hrm : 2 * st.length + M'.2.2.1 ≤ 80)
    (kr : ∀ v h', Q' (.inl v) h' → Go K M d (pc + len) lv (v.toList ++ st) h' Q) (kt : ∀ q h', Q' (.inr q) h' → x_T K M d pc lv st Q q h') :
    ∃ t, (∀ acts, Steps (x_p K).tables (x_e K) below (doInvoke (x_e K) (T.setTop (F0 m pc ls st)) acts mk As.toArray).1 t) ∧ x_Q K s below z0 q0 Q t := by
  obtain ⟨hn, hmk, hck, ⟨f1, f2, f3, f4, f5, f6⟩, -⟩ := hm
  have hsz : (F0 m pc ls st).locals.size = c.maxLocals := by rw [hF.ml]; exact hx.1
  have hcat := x_cat st
  have hmk' : T.vm.method? mk = some methk := by rw [X.warmed.alike.method?]; exact hmk
  have hnT : T.methodNamed? M'.1 = some mk := X.named hn
  have hpk : T.plainMethod mk := State.plainMethod.of_named (plainFor_of_name hpl) hnT hmk'
  have hdg : decode c.code (F0 m pc ls st).pc = .ok (ig, len) := by rw [hF.cd]; exact hd
  have hcs := hF.cs
  have hrr := hF.rm
  obtain ⟨Y, hdo⟩ := X.into (g := F0 m pc ls st) rfl hsz hdg As.toArray (R' := { frames := d' + 8, cells := x_cap K - h.1, slots := x_cas K - h.2.1, locals := 100 * d' + 300 }) hmk' hck f4 hpk
    (by show d' + 8 + 1 ≤ R.frames; omega) (by show 2 * 0 + (st.map fun v => v.category).sum + (ck.maxLocals + 11) + (100 * d' + 300) ≤ R.locals; rw [f2]; omega) (by show cells + (x_cap K - h.1) ≤ R.cells; omega) (by show slots + (x_cas K - h.2.1) ≤ R.slots; omega)
  have hFc : x_F K M' d' { frames := d' + 8, cells := x_cap K - h.1, slots := x_cas K - h.2.1, locals := 100 * d' + 300 } (T.calling (F0 m pc ls st) mk As.toArray) mk methk ck H h [] 0 0 h.1 h.2.1 :=
    ⟨hF.ok, State.WarmedH.trans hF.wm X.warmed, ⟨f1, f2, f3, f4, f5, f6⟩, findClass_of_methodNamed hnT, ⟨Nat.le_refl _, Nat.le_refl _, Nat.le_refl _, Nat.le_refl _⟩, ⟨by omega, by omega, hcs.2.2.1, hcs.2.2.2⟩, hF.w, fun q hq => by cases hq⟩
  have hent := x_en_l hlen
  rw [he] at hent
  obtain ⟨t, hst, o, xo, h', b1, b2, b3, ⟨L, k, n, hs1, hs2, hs3, hs4⟩, b5, b6, b7, b8, b9⟩ := hg _ (T.calling (F0 m pc ls st) mk As.toArray) mk As.toArray (.java (F0 m pc ls st) :: below) methk ck H [] 0 0 _ h.1 h.2.1 hFc hent
    ((T.setTop (F0 m pc ls st)).pushFrame (.java (entryFrame mk As.toArray ck.maxLocals))) hT Y
  have hent2 : entryFrame mk As.toArray ck.maxLocals = F0 mk 0 ((lg_sl As ++ List.replicate (M'.2.2.1 - (lg_sl As).length) Slot.unset).toArray) [] := by rw [f2]; exact lg_entry_eq mk As M'.2.2.1
  cases xo with
  | inl v =>
    have b5' : o = .returned v := b5
    subst b5'
    obtain ⟨T', X', hW', hB', ht⟩ := X.outOf rfl hdg b2 b3 hs1
    have hT' : T'.heap = t.heap := by rw [ht]; rfl
    have hF2 : x_F K M d R s m meth c t.heap h' (locs ++ L) (cells + k) (slots + n) z0 q0 := hF.mv b6 (fun q hq => by rcases List.mem_append.mp hq with hq | hq; exact hF.lc q hq; exact hs2 q hq) (by omega) (by omega) b7 b8
    obtain ⟨t2, st2, q2⟩ := kr v h' b9 R s m args below meth c t.heap (locs ++ L) (cells + k) (slots + n) ls z0 q0 hF2 hx T' hT' X'
    refine ⟨t2, fun acts => ?_, q2⟩
    rw [hdo acts]
    refine (x_weaken (g := .java (F0 m pc ls st)) ?_).trans st2
    have ht2 : t = T'.setTop (F0 m (pc + len) ls (v.toList ++ st)) := ht
    rw [← ht2, hent2]
    rw [hent2] at hst
    exact hst
  | inr q =>
    obtain ⟨b5', hcell⟩ := b5
    subst b5'
    obtain ⟨T', X', hW', hB', ht⟩ := X.outOfThrown rfl b2 b3 hs1
    have hT' : T'.heap = t.heap := by rw [ht]; rfl
    have hF2 : x_F K M d R s m meth c t.heap h' (locs ++ L) (cells + k) (slots + n) z0 q0 := hF.mv b6 (fun q hq => by rcases List.mem_append.mp hq with hq | hq; exact hF.lc q hq; exact hs2 q hq) (by omega) (by omega) b7 b8
    obtain ⟨t2, st2, q2⟩ := kt q h' b9 R s m args below meth c t.heap (locs ++ L) (cells + k) (slots + n) ls z0 q0 T' hF2 hx hT' hcell X'
    refine ⟨t2, fun acts => ?_, q2⟩
    rw [hdo acts]
    refine (x_weaken (g := .java (F0 m pc ls st)) ?_).trans st2
    rw [← ht, hent2]
    rw [hent2] at hst
    exact hst
/-- what a call asks of the callee's name -/
def x_nm (y : MethodName) (n : Nat) : Prop := plainName y.cls = true ∧ (y.cls ≠ "java/lang/invoke/MethodHandle" ∧ y.cls ≠ "java/lang/invoke/VarHandle") ∧ (parseMethodDescriptor y.desc).map (fun q => q.parameters.length) = some n
theorem x_nm.len {y : MethodName} {n : Nat} (h : x_nm y n) {sig : MethodDescriptor} (hs : parseMethodDescriptor y.desc = some sig) : n = sig.parameters.length := by
  have h2 := h.2.2
  rw [hs] at h2
  exact (Option.some.inj h2).symm
theorem go_callS {idx : Nat} (As : List Value) {n : Nat} (hd : decode M.2.1 pc = .ok (.invokestatic idx, 3)) (hw1 : Cond.methodLink M.1.cls idx M'.1 ∈ lw_tbl) (hw2 : Cond.static M'.1 ∈ lw_tbl) (hw3 : Cond.initialized M'.1.cls ∈ lw_tbl) (hw4 : x_cd M') (hy : x_nm M'.1 n) (hn : As.length = n)
    {st0 : List Value} (hs : st0 = As.reverse ++ st) (hlen : (x_ent As).length ≤ M'.2.2.1) (he : x_en As M'.2.2.1 = lv0) (hg : Go K M' d' 0 lv0 [] h Q') (hd' : d' + 1 ≤ d) (hrm : 2 * st.length + M'.2.2.1 ≤ 80) (hp : pc + 3 = pc')
    (kr : ∀ v h', Q' (.inl v) h' → Go K M d pc' lv (v.toList ++ st) h' Q) (kt : ∀ q h', Q' (.inr q) h' → x_T K M d pc lv st Q q h') : Go K M d pc lv st0 h Q := by
  subst hp
  subst hs
  intro R s m args below meth c H locs cells slots ls z0 q0 hF hx T hT X
  obtain ⟨mk, methk, ck, hm⟩ := hF.md hw4
  have hnamed := hm.1
  have hmeth := hm.2.1
  obtain ⟨kP, hkP, -⟩ := className_of_methodNamed hnamed
  obtain ⟨vm₁, X₁, hstep⟩ := X.invokestatic hF.ex hF.ow (hF.wd hw1 (Or.inl (x_kml _ _ _)) args) hnamed hmeth (Cond.static_spec hnamed hmeth (hF.wd hw2 (Or.inl (x_kst _)) args)) hkP (Cond.initialized_spec (findClass_of_methodNamed hnamed) hkP (hF.wd hw3 (Or.inl (x_kii _)) args)) hy.2.1
    (g := F0 m pc ls (As.reverse ++ st)) rfl (argsL := As) (rest := st) (hn.trans (hy.len hm.2.2.2.2)) rfl (by rw [hF.cd]; exact hd)
  obtain ⟨t, a1, a2⟩ := x_enter (T := T.setVm vm₁) hF hx hT X₁ hd hm hy.1 As hlen he hg hd' hrm kr kt
  exact ⟨t, hstep _ fun acts => a1 acts, a2⟩
theorem go_callV {idx ci a : Nat} {r : vw_C} {fs : List Value} (As : List Value) {n : Nat} (hd : decode M.2.1 pc = .ok (.invokevirtual idx, 3)) (hw1 : Cond.methodLink M.1.cls idx M'.1 ∈ lw_tbl) (hw2 : Cond.instanceMethod M'.1 ∈ lw_tbl) (hw3 : Cond.selects r.1 M'.1 M'.1 ∈ lw_tbl) (hw4 : x_cd M') (hy : x_nm M'.1 n) (hn : As.length = n)
    (hc : vwCl[ci]? = some r) (hf : h.2.2 a = some (.inr (ci, fs)))
    {st0 : List Value} (hs : st0 = As.reverse ++ .ref a :: st) (hlen : (x_ent (.ref a :: As)).length ≤ M'.2.2.1) (he : x_en (.ref a :: As) M'.2.2.1 = lv0) (hg : Go K M' d' 0 lv0 [] h Q') (hd' : d' + 1 ≤ d) (hrm : 2 * st.length + M'.2.2.1 ≤ 80) (hp : pc + 3 = pc')
    (kr : ∀ v h', Q' (.inl v) h' → Go K M d pc' lv (v.toList ++ st) h' Q) (kt : ∀ q h', Q' (.inr q) h' → x_T K M d pc lv st Q q h') : Go K M d pc lv st0 h Q := by
  subst hp
  subst hs
  intro R s m args below meth c H locs cells slots ls z0 q0 hF hx T hT X
  obtain ⟨mk, methk, ck, hm⟩ := hF.md hw4
  have hnamed := hm.1
  obtain ⟨cellB, g1, g2, g3⟩ := va_recv hF.kk (hF.w.P hf) hc (q0 := 0) rfl
  have hT1 : T.heap[a]? = some cellB := by rw [hT]; exact g1
  obtain ⟨mk', methM, hn2, hmethM, hstM, habM⟩ := Cond.instanceMethod_spec (hF.wd hw2 (Or.inl (x_kim _)) args)
  cases hnamed.symm.trans hn2
  have hsame : methM = methk := Option.some.inj (hmethM.symm.trans hm.2.1)
  subst hsame
  obtain ⟨c2, r2, m2, q1, q2, q3, q4, kP, hkP, hkPi⟩ := Cond.selects_spec (hF.wd hw3 (Or.inl (x_ksl _ _ _)) args)
  cases g3.symm.trans q1
  cases (State.methodFound?_of_named hnamed hy.2.1).symm.trans q2
  cases hnamed.symm.trans q3
  have hselP : selectMethod (x_e K).platform s.vm cellB.cls mk = .method mk := by rw [Launch.admits_selectMethod X.admits]; exact q4
  obtain ⟨vm₁, X₁, hstep⟩ := X.invokevirtual hF.ex hF.ow (hF.wd hw1 (Or.inl (x_kml _ _ _)) args) hnamed hmethM hstM hkP hkPi hy.2.1 (a := a) (cell := cellB) hT1
    (fun z h => by rw [h] at g2; cases g2) hselP hmethM habM hkP hkPi (g := F0 m pc ls (As.reverse ++ .ref a :: st)) rfl (argsL := As) (rest := st) (hn.trans (hy.len hm.2.2.2.2)) rfl (by rw [hF.cd]; exact hd)
  obtain ⟨t, a1, a2⟩ := x_enter (T := T.setVm vm₁) hF hx hT X₁ hd hm hy.1 (.ref a :: As) hlen he hg hd' hrm kr kt
  exact ⟨t, hstep _ fun acts => a1 acts, a2⟩
theorem go_callI {idx a : Nat} (As : List Value) {n : Nat} (hd : decode M.2.1 pc = .ok (.invokespecial idx, 3)) (hy1 : M'.1.name = "<init>") (hr : M'.2.2.2.1 = none) (hw1 : Cond.methodLink M.1.cls idx M'.1 ∈ lw_tbl) (hw2 : Cond.instanceMethod M'.1 ∈ lw_tbl) (hw4 : Cond.code M'.1 M'.2.1 M'.2.2.1 none ∈ lw_tbl) (hh' : M'.2.2.2.2 = []) (hy : x_nm M'.1 n) (hn : As.length = n)
    {st0 : List Value} (hs : st0 = As.reverse ++ .ref a :: st) (hlen : (x_ent (.ref a :: As)).length ≤ M'.2.2.1) (he : x_en (.ref a :: As) M'.2.2.1 = lv0) (hg : Go K M' d' 0 lv0 [] h Q') (hd' : d' + 1 ≤ d) (hrm : 2 * st.length + M'.2.2.1 ≤ 80) (hp : pc + 3 = pc')
    (kr : ∀ v h', Q' (.inl v) h' → Go K M d pc' lv (v.toList ++ st) h' Q) (kt : ∀ q h', Q' (.inr q) h' → x_T K M d pc lv st Q q h') : Go K M d pc lv st0 h Q := by
  subst hp
  subst hs
  intro R s m args below meth c H locs cells slots ls z0 q0 hF hx T hT X
  obtain ⟨mk, methk, ck, hm⟩ := hF.md (M' := M') (Or.inl ⟨hh', by rw [hr]; exact hw4⟩)
  have hpl : (x_e K).platform.magicAccessors = ({} : Platform).magicAccessors := by rw [X.admits.platform]
  obtain ⟨mk', methM, cM, kP, vm₁, hnamed, hmethM, hcodeM, -, hlocalsM, -, hkP, -, hW₁, hstep⟩ := Steps.initColdArgs (e := x_e K) X.here hF.ex X.warmed hpl hF.ow hy1 hy.2.1 (hF.wd hw1 (Or.inl (x_kml _ _ _)) args) (hF.wd hw2 (Or.inl (x_kim _)) args) (hF.wd hw4 (Or.inl (x_kco _ _ _ _)) args)
    (f := F0 m pc ls (As.reverse ++ .ref a :: st)) rfl (argsL := As) (rest := st) (fun sig hsig => hn.trans (hy.len hsig)) rfl (by rw [hF.cd]; exact hd)
  cases hm.1.symm.trans hnamed
  have X₁ := X.noted hW₁
  obtain ⟨t, a1, a2⟩ := x_enter (T := T.setVm vm₁) hF hx hT X₁ hd hm hy.1 (.ref a :: As) hlen he hg hd' hrm kr kt
  exact ⟨t, hstep _ fun acts => a1 acts, a2⟩
theorem go_objInit {idx a : Nat} (hd : decode M.2.1 pc = .ok (.invokespecial idx, 3)) (hw1 : Cond.methodLink M.1.cls idx Lib.objectInit ∈ lw_tbl) (hw2 : Cond.instanceMethod Lib.objectInit ∈ lw_tbl) (hw3 : Cond.code Lib.objectInit ⟨#[0xb1]⟩ 1 none ∈ lw_tbl) (hrm : 2 * st.length ≤ 80) (hp : pc + 3 = pc')
    (k : Go K M d pc' lv st h Q) : Go K M d pc lv (.ref a :: st) h Q := by
  subst hp
  intro R s m args below meth c H locs cells slots ls z0 q0 hF hx
  have hcat := x_cat st
  have hrr := hF.rm
  refine W.objInit hF.ex hF.cd hF.ow (hF.wd hw1 (Or.inl (x_kml _ _ _)) args) (hF.wd hw2 (Or.inl (x_kim _)) args) (hF.wd hw3 (Or.inl (x_kco _ _ _ _)) args) (g := F0 m pc ls (.ref a :: st)) rfl (by rw [hF.ml]; exact hx.1) rfl hd (by omega) (by show 2 * 0 + (st.map fun v => v.category).sum + 12 ≤ R.locals; omega) ?_
  exact k R s m args below meth c H locs cells slots ls z0 q0 hF hx
theorem go_mmax {idx : Nat} {x y : Int32} (hd : decode M.2.1 pc = .ok (.invokestatic idx, 3)) (hw1 : Cond.methodLink M.1.cls idx Lib.Math.max.name ∈ lw_tbl) (hw2 : Cond.static Lib.Math.max.name ∈ lw_tbl) (hw3 : Cond.initialized "java/lang/Math" ∈ lw_tbl) (hw4 : Cond.code Lib.Math.max.name Lib.Math.max.code 2 (some .int) ∈ lw_tbl) (hrm : 2 * st.length ≤ 80) (hp : pc + 3 = pc')
    (k : Go K M d pc' lv (.int (if x < y then y else x) :: st) h Q) : Go K M d pc lv (.int y :: .int x :: st) h Q := by
  subst hp
  intro R s m args below meth c H locs cells slots ls z0 q0 hF hx
  have hcat := x_cat st
  have hrr := hF.rm
  have hcs := hF.cs
  exact va_mmax hF.ex hF.cd (by rw [hF.ml]; exact hx.1.symm) hF.ow (hF.wd hw1 (Or.inl (x_kml _ _ _)) args) (hF.wd hw2 (Or.inl (x_kst _)) args) (hF.wd hw3 (Or.inl (x_kii _)) args) (hF.wd hw4 (Or.inl (x_kco _ _ _ _)) args) (by omega) (by omega) (by omega) (by omega) hd
    (k R s m args below meth c H locs cells slots ls z0 q0 hF hx)
end XD
end
section
section XE
variable {p : Program} {l : Launch} {e : Env} {R : Room} {s : State} {m : MethodId} {args : Array Value} {below : List Frame} {meth : Method} {c : Code} {H : Heap} {locs : List Loc} {cells slots : Nat}
theorem xv_frame {U : State} {k n : Nat} (h : s.sameButNew ({ U with vm := s.vm } : State) locs k n) : s.heap.size ≤ U.heap.size ∧ ∀ q : Nat, q < s.heap.size → (∀ z ∈ locs, z.base ≠ q) → U.heap[q]? = s.heap[q]? := by
  obtain ⟨-, h2, -, -, -, h6⟩ := h
  refine ⟨h2, fun q hq hz => ?_⟩
  obtain ⟨c9, e1, e2, e3, e4⟩ := h6 q _ (Array.getElem?_eq_getElem hq)
  have hs : c9.slots = (s.heap[q]).slots := Array.ext_getElem? fun i => e4 i fun hm => hz _ hm rfl
  have h9 : c9 = s.heap[q] := by
    rw [hs] at e2
    exact e2
  have e5 : U.heap[q]? = some c9 := e1
  rw [e5, h9, Array.getElem?_eq_getElem hq]
/-- the same frame, seen from here: as if the method were called anew in this heap -/
theorem xv_rebase {T : State} (X : Stand p l e R s m args below meth c T locs cells slots) {R' : Room} (hf : R'.frames ≤ R.frames) (hl : R'.locals ≤ R.locals) (hc : cells + R'.cells ≤ R.cells) (hs : slots + R'.slots ≤ R.slots) :
    Stand p l e R' ((T.setVm s.vm).setFrames (.invoking m args :: below)) m args below meth c T [] 0 0 := by
  have htop : (T.setVm s.vm).topJava?.isSome := X.here.top
  have hF : ((T.setVm s.vm).setFrames (.invoking m args :: below)).frames = .invoking m args :: below := State.frames_setFrames _ (State.cur_lt_of_top htop)
  obtain ⟨g₀, hg0⟩ := Option.isSome_iff_exists.mp htop
  obtain ⟨r, hr⟩ := State.topJava?_eq_some.mp hg0
  have hl9 : e.platform.stackLimits (T.setVm s.vm).me = e.platform.stackLimits s.me := X.limits
  have hb9 : (T.setVm s.vm).me.stackBytes = s.me.stackBytes := X.bytes
  refine ⟨X.admits, X.cas, X.clock, hF, ?_, X.hears, X.method, X.code, X.here, X.tail, X.warmed, ?_, ?_, ?_⟩
  · have h := X.room
    have hU : ((T.setVm s.vm).setFrames (.invoking m args :: below)).localsInUse = s.localsInUse := by
      rw [State.localsInUse_invoking hF (meth := meth) (c := c) X.method X.code, State.localsInUse_invoking X.frames X.method X.code]
    simp only [State.hasRoom, Bool.and_eq_true, decide_eq_true_eq] at h ⊢
    obtain ⟨⟨⟨⟨h1, h2, h3, h4, h5, h6⟩, h7⟩, h8⟩, h9⟩ := h
    rw [X.frames, List.length_cons] at h2 h3
    have q1 := X.heapSize
    have q2 := X.used
    simp only [hF, hU, List.length_cons, State.stackLimits_setFrames, State.stackBytes_setFrames, hl9, hb9]
    refine ⟨⟨⟨⟨by omega, by omega, by omega, by omega, by omega, h6⟩, ?_⟩, ?_⟩, X.book⟩
    · show T.heap.size + R'.cells ≤ e.platform.maxCells
      omega
    · show T.slotsUsed + R'.slots ≤ e.platform.maxSlots
      omega
  · rw [State.stackLimits_setFrames]; rfl
  · rw [State.stackBytes_setFrames]; rfl
  · refine ⟨?_, Nat.le_refl _, Nat.le_refl _, ?_, ?_, fun a c9 h9 => ⟨c9, h9, rfl, rfl, fun _ _ => rfl⟩⟩
    · obtain ⟨t, ht, -⟩ := State.frames_cons hr
      show T.setVm s.vm = { ((T.setVm s.vm).setFrames (.invoking m args :: below)).setFrames (T.setVm s.vm).frames with heap := T.heap, slotsUsed := T.slotsUsed }
      rw [State.setFrames_setFrames, State.setFrames_self ht]
      rfl
    · show T.slotsUsed = T.slotsUsed + ((T.heap.toList.drop T.heap.size).map (·.slots.size)).sum
      rw [List.drop_eq_nil_of_le (Nat.le_of_eq Array.length_toList)]
      rfl
    · show ((T.heap.toList.drop T.heap.size).map (·.slots.size)).sum ≤ 0
      rw [List.drop_eq_nil_of_le (Nat.le_of_eq Array.length_toList)]
      exact Nat.le_refl _
end XE
section XF
/-- words that hold in every frame: those that the tables alone decide -/
def x_dc : Cond → Bool
  | .declares _ => true
  | .castable _ _ => true
  | _ => false
def x_wk (w : Cond) : Bool := w.onTables && (w.keeps || x_dc w)
def x_sp (w : Cond) : Bool := decide (w = .isRef (.static Bundle.tN "UNASSIGNED_STACK" Bundle.steD)) || decide (w = .isRef (.static Bundle.tN "SUPPRESSED_SENTINEL" Bundle.listD)) || decide (w = .laysStatic Bundle.tN "UNASSIGNED_STACK" Bundle.steD) || decide (w = .laysStatic Bundle.tN "SUPPRESSED_SENTINEL" Bundle.listD)
def x_atb (own : String) (ic : Nat) (cls : String) (names : List String) : Bool := (Bundle.ownAtoms0 own ic cls names).all (fun w => x_sp w || (decide (w ∈ lw_tbl) && x_wk w))
theorem x_wk_at {args a' : Array Value} {s U : State} (hW : s.WarmedH U.vm) {w : Cond} (hw : x_wk w = true) (h : w.before args s = true) : w.before a' U = true := by
  unfold x_wk at hw
  rw [Bool.and_eq_true, Bool.or_eq_true] at hw
  obtain ⟨h1, h2 | h2⟩ := hw
  · exact word_at hW (Or.inl (by rw [h1, h2]; rfl)) h
  · cases w with
    | declares y => exact va_Nw.use rfl (va_Nw.warmD hW (va_Nw.of rfl h))
    | castable a b => exact va_Nw.use rfl (va_Nw.warmC hW (va_Nw.of rfl h))
    | _ => cases h2
variable {K : x_K} {M M' : x_M} {d d' pc pc' : Nat} {lv lv' lv0 : List (Option Value)} {st : List Value} {h : x_H} {Q Q' : x_O → x_H → Prop}
set_option maxHeartbeats 1000000 in
/-- 'throw new E()' in a method without handlers -/
theorem go_throw {ik ic kx : Nat} {cls : String} {names : List String} (d0 : decode M.2.1 pc = .ok (.new ik, 3)) (d3 : decode M.2.1 (pc + 3) = .ok (.dup, 1)) (d4 : decode M.2.1 (pc + 4) = .ok (.invokespecial ic, 3)) (d7 : decode M.2.1 (pc + 7) = .ok (.athrow, 1))
    (hk : x_ex kx = some cls) (hcls : Bundle.fit cls = true) (hnames : ∀ n ∈ names, Bundle.fit n = true) (hlen : names.length = 2) (hw1 : Cond.classLink M.1.cls ik cls ∈ lw_tbl) (hw2 : Cond.initialized cls ∈ lw_tbl) (hat : x_atb M.1.cls ic cls names = true) (hh : M.2.2.2.2 = []) (hst : 2 * st.length ≤ 80)
    (hz : h.1 + 1 ≤ x_cap K) (hq : h.2.1 + 6 ≤ x_cas K) (k : Q (.inr (kx, h.1)) (h.1 + 1, h.2.1 + 6, h.2.2)) : Go K M d pc lv st h Q := by
  intro R s m args below meth c H locs cells slots ls z0 q0 hF hx T hT X
  have hcs := hF.cs
  have hrr := hF.rm
  have hcat := x_cat st
  have hok := hF.ok
  have hexec := hF.ex
  have hb := hF.cd
  have htr : (x_e K).platform.stackTraces = false := hok.2.2.2.2.2.1
  have Y := xv_rebase X (R' := { frames := R.frames, locals := R.locals, cells := 1, slots := 6 }) (Nat.le_refl _) (Nat.le_refl _) (show cells + 1 ≤ R.cells by omega) (show slots + 6 ≤ R.slots by omega)
  obtain ⟨s', hA⟩ : ∃ z, z = (T.setVm s.vm).setFrames (.invoking m args :: below) := ⟨_, rfl⟩
  rw [← hA] at Y
  have hvm : s'.vm = s.vm := by rw [hA]; rfl
  have hhp : s'.heap = H := by rw [hA]; exact hT
  have hW0 : s.WarmedH s'.vm := by rw [hvm]; exact State.WarmedH.refl s
  have hW1 : (x_s K).WarmedH s'.vm := by rw [hvm]; exact hF.wm
  have hold : ∀ a : Nat, a < (x_s K).heap.size → ¬ (x_B K ≤ a) → H[a]? = (x_s K).heap[a]? := fun a _ ha => hF.w.2.2.2 a (by omega)
  have hU' : xv_Zq Bundle.tN "UNASSIGNED_STACK" Bundle.steD (fun q => x_B K ≤ q) s' s'.heap := by rw [hhp]; exact xv_Zq.moved hW1.alike (hok.2.2.2.2.2.2.2.1.kept hold)
  have hN' : xv_Zq Bundle.tN "SUPPRESSED_SENTINEL" Bundle.listD (fun q => x_B K ≤ q) s' s'.heap := by rw [hhp]; exact xv_Zq.moved hW1.alike (hok.2.2.2.2.2.2.2.2.1.kept hold)
  have hwd : ∀ w ∈ Bundle.ownAtoms0 M.1.cls ic cls names, w.before args s' = true := by
    intro w hw
    have h1 := List.all_eq_true.mp hat w hw
    rw [Bool.or_eq_true] at h1
    rcases h1 with h1 | h1
    · unfold x_sp at h1
      simp only [Bool.or_eq_true, decide_eq_true_eq] at h1
      rcases h1 with ((h1 | h1) | h1) | h1
      · rw [h1]; exact xv_isRefq hU'.1
      · rw [h1]; exact xv_isRefq hN'.1
      · rw [h1]; exact hU'.2.word
      · rw [h1]; exact hN'.2.word
    · rw [Bool.and_eq_true, decide_eq_true_eq] at h1
      exact x_wk_at hW1 h1.2 (hok.2.1 w h1.1)
  have hown' : s'.vm.findClass M.1.cls = some m.cls := by rw [hvm]; exact hF.ow
  have hins : (Cond.instantiable cls 6).before args s' = true := hwd _ (by simp [Bundle.ownAtoms0])
  have hk' : (Cond.classLink M.1.cls ik cls).before args s' = true := word_at hW1 (Or.inl (x_kcl _ _ _)) (hok.2.1 _ hw1)
  have hini' : (Cond.initialized cls).before args s' = true := word_at hW1 (Or.inl (x_kii _)) (hok.2.1 _ hw2)
  obtain ⟨vm₁, cX, kX, hfX, hkX, -, -, X₁, st1⟩ := Y.newCold hexec (own := M.1.cls) (C := cls) (index := ik) (n := 6) hown' hk' hins hini'
    (g := F0 m pc ls st) rfl (by rw [hb]; exact d0) (Nat.le_refl _) (Nat.le_refl _)
  generalize hT1 : (T.setVm vm₁).pushCell { cls := cX, slots := kX.instanceTypes.map defaultValue, vm := .none } = T1 at X₁ st1
  have hc1 : (Value.ref T.heap.size).category = 1 := rfl
  have hcellA : T1.heap[T.heap.size]? = some (freshCell cX kX) := by rw [← hT1]; exact State.heap_pushCell_size _ _
  have d3' : decode c.code (pc + 3) = .ok (.dup, 1) := by rw [hb]; exact d3
  have htab : c.exceptionTable.toList = [] := by
    have := hF.tb
    rw [hh] at this
    exact List.map_eq_nil_iff.mp this
  obtain ⟨U, hsteps, hrun, hend, hW, hsame, ce, hce, hO⟩ := X₁.ctorThrow0 hexec htr (own := M.1.cls) (cls := cls) (names := names) (ic := ic) hown' hcls hnames hwd (fun x hx => nomatch hx) hfX hkX hcellA (by rw [hhp, hT]; exact Nat.le_refl _)
    (g := { method := m, pc := pc + 4, locals := ls, stack := .ref T.heap.size :: .ref T.heap.size :: st, locked := none }) rfl (by rw [hF.ml]; exact hx.1) rfl rfl (rest := st) rfl
    (by rw [hb]; exact d4) (by rw [hb]; exact d7) (fun x hx' => by rw [htab] at hx'; cases hx') (by rw [hlen]; show 2 + 3 < R.frames; omega) (by rw [hlen]; simp only [List.map_cons, List.sum_cons, hc1]; show 2 * 0 + (1 + (st.map fun v => v.category).sum) + (13 * (2 + 1) + 41) ≤ R.locals; omega) hF.lk
  obtain ⟨f1, f2⟩ := xv_frame hsame
  rw [hhp] at f1 f2
  have hWs : s.WarmedH U.vm := State.WarmedH.trans hW0 hW
  have hall : s.sameButNew ({ U with vm := s.vm } : State) locs (cells + 1) (slots + 6) := by
    subst hA
    obtain ⟨e1, e2⟩ := hsame
    rw [State.setFrames_setFrames] at e1
    have h2 : (T.setVm s.vm).sameButNew ({ U with vm := s.vm } : State) [] (0 + 1) (0 + 6) := ⟨e1, e2⟩
    have h3 := X.same.trans h2
    rw [List.append_nil] at h3
    exact h3
  have hHs := hF.w.1
  have hTs : T.heap.size = h.1 := by rw [hT]; exact hHs
  have hUs : U.heap.size = h.1 + 1 := by
    have a1 : T.heap.size < U.heap.size := (Array.getElem?_eq_some_iff.mp hce).1
    have a2 : U.heap.size ≤ s'.heap.size + (0 + 1) := hsame.2.2.1
    rw [hhp] at a2
    omega
  have hcl : (x_s K).vm.findClass cls = some (x_ca K kx) := hok.2.2.2.2.1 kx cls hk
  have hcls2 : ce.cls = x_ca K kx := by
    have h9 := hO.cls
    rw [hvm, hF.wm.alike.findClass, hcl] at h9
    exact (Option.some.inj h9).symm
  refine ⟨U, ?_, .threw h.1, .inr (kx, h.1), (h.1 + 1, h.2.1 + 6, h.2.2), hrun, by rw [← hTs]; exact hend, hWs, ⟨locs, cells + 1, slots + 6, hall, hF.lc, by show cells + 1 + z0 ≤ h.1 + 1; omega, by show slots + 6 + q0 ≤ h.2.1 + 6; omega⟩,
    ⟨rfl, ce, by rw [← hTs]; exact hce, hO.vm, hcls2⟩, hF.w.junk 6 hUs (fun q hq => f2 q (by omega) (fun z hz => nomatch hz)), hz, hq, k⟩
  refine st1 _ ?_
  show Steps (x_p K).tables (x_e K) below (T1.setTop { method := m, pc := pc + 3, locals := ls, stack := .ref T.heap.size :: st, locked := none }) _
  jvm_step X₁.here [X₁.here.top, hexec, d3', Value.category]
  exact hsteps
end XF
end
section
section XG
/-- the number of the exception that an entry of the law's pool names -/
def x_ct : Nat → Nat
  | 13 => 11
  | 15 => 12
  | 17 => 13
  | 23 => 14
  | _ => 0
def x_hd : List (Nat × Nat × Nat × Nat) → Nat → Nat → Option Nat
  | [], _, _ => none
  | q :: r, pc, k => if q.1 ≤ pc ∧ pc < q.2.1 ∧ x_ct q.2.2.2 = k then some q.2.2.1 else x_hd r pc k
abbrev x_en4 (x : ExceptionTableEntry) : Nat × Nat × Nat × Nat := (x.startPc, x.endPc, x.handlerPc, x.catchType)
section A
variable {Q : Handler → Pre} {E : CtlPost} {e : Env} {d : Bool} {acts : List Action} {s : State} {f : JFrame} {a : Addr}
theorem x_hgo {x : ExceptionTableEntry} {t : List ExceptionTableEntry} {c : ClassId} {cell : Cell} (hx : covers x f.pc = true) (h0 : x.catchType ≠ 0)
    (hl : s.vm.ClassLinks e.platform f.method.cls x.catchType c) (hcell : s.heap[a]? = some cell) (hobj : ∀ k, cell.vm ≠ .statics k)
    (hk : ∃ k, s.vm.classes[cell.cls]? = some k) (hc : ∃ k, s.vm.classes[c]? = some k) :
    wp (findHandler.go f a (x :: t)) Q E e d acts s ↔ (if s.vm.assignable cell.cls c = true then Q (.found x.handlerPc) d acts (s.setVm (s.vm.noted f.method.cls x.catchType (.cls c)))
      else wp (findHandler.go f a t) Q E e d acts (s.setVm (s.vm.noted f.method.cls x.catchType (.cls c)))) := by
  simp only [covers] at hx
  obtain ⟨ha, ht⟩ := (resolveClass_links e.toSetting hl).op (op := VmOp.resolveClass f.method.cls x.catchType) rfl
  have hal : s.vm.Alike (s.vm.noted f.method.cls x.catchType (.cls c)) := (Vm.Alike.refl s.vm).noted _ _ _
  obtain ⟨k1, hk1⟩ := hk
  obtain ⟨k2, hk2⟩ := hc
  obtain ⟨k1', hk1', -⟩ := hal.2.2 _ _ hk1
  obtain ⟨k2', hk2', -⟩ := hal.2.2 _ _ hk2
  have hfit : (s.vm.noted f.method.cls x.catchType (.cls c)).assignable cell.cls c = s.vm.assignable cell.cls c := hal.assignable _ _
  cases hq : s.vm.assignable cell.cls c <;> rw [hq] at hfit <;> simp [findHandler.go, hx, h0, ha, ht, hcell, hobj, hk1', hk2', hfit, VmOp.dirties, VmOp.acts]
end A
/-- an entry of the table, as the words tell it -/
def x_ey (pl : Platform) (s : State) (d : ClassId) (thrown : ClassId) (k : Nat) (y : ExceptionTableEntry) : Prop :=
  y.catchType ≠ 0 ∧ ∃ c, s.vm.ClassLinks pl d y.catchType c ∧ (s.vm.assignable thrown c = true ↔ x_ct y.catchType = k)
theorem x_hsearch {e : Env} {s : State} {f : JFrame} {a : Addr} {cell : Cell} {k tgt : Nat} (hobj : ∀ k, cell.vm ≠ .statics k) (hk0 : ∃ k, s.vm.classes[cell.cls]? = some k) :
    ∀ (tb : List ExceptionTableEntry) (S : State), s.WarmedH S.vm → S.heap[a]? = some cell → (∀ y ∈ tb, x_ey e.platform s f.method.cls cell.cls k y) → x_hd (tb.map x_en4) f.pc k = some tgt →
      ∃ vm', s.WarmedH vm' ∧ ∀ (Q : Handler → Pre) (E : CtlPost) (d : Bool) (acts : List Action), wp (findHandler.go f a tb) Q E e d acts S ↔ Q (.found tgt) d acts (S.setVm vm')
  | [], S, _, _, _, h => by cases h
  | y :: ys, S, hW, hcell, hy, h => by
    obtain ⟨k0, hk0'⟩ := hk0
    obtain ⟨k1, hk1, -⟩ := hW.alike.2.2 _ _ hk0'
    have hrest : ∀ z ∈ ys, x_ey e.platform s f.method.cls cell.cls k z := fun z hz => hy z (List.mem_cons_of_mem _ hz)
    by_cases hcov : covers y f.pc = true
    · obtain ⟨h0, c, hl, hfit⟩ := hy y List.mem_cons_self
      obtain ⟨dk, _, _, kt, hd, _, _, _, _, hkt, _, hopen⟩ := hl.here
      obtain ⟨kt', hkt', -⟩ := hW.alike.2.2 _ _ hkt
      have hW' := hW.noted hd hopen (State.rightAt_cls hl)
      have hcov' : y.startPc ≤ f.pc ∧ f.pc < y.endPc := by simpa [covers] using hcov
      have hgo := fun (Q : Handler → Pre) (E : CtlPost) (d : Bool) (acts : List Action) => x_hgo (Q := Q) (E := E) (e := e) (d := d) (acts := acts) (s := S) (f := f) (a := a) (x := y) (t := ys) hcov h0 (hW.classLinks hl) hcell hobj ⟨k1, hk1⟩ ⟨kt', hkt'⟩
      have hasg : S.vm.assignable cell.cls c = s.vm.assignable cell.cls c := hW.alike.assignable _ _
      by_cases hj : x_ct y.catchType = k
      · have h1 : x_hd ((y :: ys).map x_en4) f.pc k = some y.handlerPc := by
          show (if y.startPc ≤ f.pc ∧ f.pc < y.endPc ∧ x_ct y.catchType = k then some y.handlerPc else _) = _
          rw [if_pos ⟨hcov'.1, hcov'.2, hj⟩]
        have h2 : y.handlerPc = tgt := Option.some.inj (h1.symm.trans h)
        refine ⟨_, hW', fun Q E d acts => ?_⟩
        rw [hgo, if_pos (by rw [hasg]; exact hfit.mpr hj), h2]
      · have h1 : x_hd (ys.map x_en4) f.pc k = some tgt := by
          rw [← h]
          show _ = (if y.startPc ≤ f.pc ∧ f.pc < y.endPc ∧ x_ct y.catchType = k then some y.handlerPc else x_hd (ys.map x_en4) f.pc k)
          rw [if_neg (fun q => hj q.2.2)]
        obtain ⟨vm', hW2, hq⟩ := x_hsearch hobj ⟨k0, hk0'⟩ ys (S.setVm (S.vm.noted f.method.cls y.catchType (.cls c))) hW' hcell hrest h1
        refine ⟨vm', hW2, fun Q E d acts => ?_⟩
        rw [hgo, if_neg (by rw [hasg]; exact fun q => hj (hfit.mp q))]
        exact hq Q E d acts
    · have hcov' : ¬ (y.startPc ≤ f.pc ∧ f.pc < y.endPc) := by simpa [covers] using hcov
      have h1 : x_hd (ys.map x_en4) f.pc k = some tgt := by
        rw [← h]
        show _ = (if y.startPc ≤ f.pc ∧ f.pc < y.endPc ∧ x_ct y.catchType = k then some y.handlerPc else x_hd (ys.map x_en4) f.pc k)
        rw [if_neg (fun q => hcov' ⟨q.1, q.2.1⟩)]
      obtain ⟨vm', hW2, hq⟩ := x_hsearch hobj ⟨k0, hk0'⟩ ys S hW hcell hrest h1
      refine ⟨vm', hW2, fun Q E d acts => ?_⟩
      rw [Jvm.W.findHandler_go_skip (by simpa using hcov)]
      exact hq Q E d acts
theorem x_hstep {e : Env} {s : State} {a : Addr} {f : JFrame} {r : List Frame} {pc : Nat} {vm' : Vm} (hfind : ∀ (Q : Handler → Pre) (E : CtlPost) (d : Bool) (acts : List Action), wp (findHandler f a) Q E e d acts s ↔ Q (.found pc) d acts (s.setVm vm')) :
    (stepThrowing e s a (.java f :: r)).Is ((s.setVm vm').setFrames (.java { f with pc := pc, stack := [.ref a] } :: r)) [] := by
  simp only [stepThrowing, searchFrame, vmDo]
  generalize hr : Sem.go _ e false [] s = res
  obtain ⟨as, rfl, ha⟩ := Sem.eq_ok_of hr (a := Handler.found pc) (s' := s.setVm vm') (acts' := []) (by simp [hfind _ _ _ _])
  exact ⟨rfl, ha⟩
theorem x_hcaught {tb : Tables} {e : Env} {s target : State} {g : JFrame} {c : Code} {below : List Frame} {a : Addr} (h : At s g.method c below) {pc : Nat} {vm' : Vm}
    (hfind : ∀ (Q : Handler → Pre) (E : CtlPost) (d : Bool) (acts : List Action), wp (findHandler g a) Q E e d acts ((s.setTop g).pushFrame (.throwing a)) ↔ Q (.found pc) d acts (((s.setTop g).pushFrame (.throwing a)).setVm vm'))
    (hrest : Steps tb e below ((s.setVm vm').setTop { g with pc := pc, stack := [.ref a] }) target) : Steps tb e below ((s.setTop g).pushFrame (.throwing a)) target := by
  obtain ⟨hgo, hw⟩ := h.throwing a
  refine Steps.head hgo hw ?_
  rw [stepThread_throwing (frames_entered h.top _), (x_hstep (s := (s.setTop g).pushFrame (.throwing a)) hfind).1]
  obtain ⟨g₀, hg⟩ := Option.isSome_iff_exists.mp h.top
  obtain ⟨r, hr⟩ := State.topJava?_eq_some.mp hg
  have hr' : (s.setVm vm').frames = .java g₀ :: r := hr
  rw [State.setTop_of_frames _ hr'] at hrest
  have key : ∀ (F G : List Frame), ((s.setFrames F).setVm vm').setFrames G = (s.setVm vm').setFrames G := fun F G => by
    have h1 : (s.setFrames F).setVm vm' = (s.setVm vm').setFrames F := rfl
    rw [h1, State.setFrames_setFrames]
  rw [hr, List.tail_cons, State.pushFrame, State.setTop_of_frames _ hr, State.setFrames_setFrames, key]
  exact hrest
variable {K : x_K} {M M' : x_M} {d d' pc pc' : Nat} {lv lv' lv0 : List (Option Value)} {st : List Value} {h : x_H} {Q Q' : x_O → x_H → Prop}
/-- an exception that this frame catches -/
theorem x_T.catch {q : Nat × Nat} {nm : String} {tgt : Nat} (hk : x_ex q.1 = some nm) (hself : Cond.castable nm nm ∈ lw_tbl)
    (hcts : ∀ z ∈ M.2.2.2.2, z.2.2.2 ≠ 0 ∧ ∃ nz, x_ex (x_ct z.2.2.2) = some nz ∧ Cond.classLink M.1.cls z.2.2.2 nz ∈ lw_tbl) (ht : x_hd M.2.2.2.2 pc q.1 = some tgt)
    (k : Go K M d tgt lv [.ref q.2] h Q) : x_T K M d pc lv st Q q h := by
  intro R s m args below meth c H locs cells slots ls z0 q0 T hF hx hT hcell X
  obtain ⟨cell, g1, g2, g3⟩ := hcell
  have hpl : (x_e K).platform.magicAccessors = ({} : Platform).magicAccessors := by rw [X.admits.platform]
  have hcl : ∀ {j : Nat} {nj : String}, x_ex j = some nj → s.vm.findClass nj = some (x_ca K j) := fun hj => by rw [hF.wm.alike.findClass]; exact hF.ok.2.2.2.2.1 _ _ hj
  have hcast : (Cond.castable nm nm).before args s = true := x_wk_at hF.wm rfl (hF.ok.2.1 _ hself)
  obtain ⟨c3, c4, hc3, hc4, hasg⟩ := Cond.castable_spec hcast
  have e3 : c3 = x_ca K q.1 := Option.some.inj (hc3.symm.trans (hcl hk))
  have e4 : c4 = x_ca K q.1 := Option.some.inj (hc4.symm.trans (hcl hk))
  subst e3
  subst e4
  have htab := hF.tb
  have hrow : ∀ y ∈ c.exceptionTable.toList, x_ey (x_e K).platform s m.cls cell.cls q.1 y := by
    intro y hy
    have hz : x_en4 y ∈ M.2.2.2.2 := by rw [← htab]; exact List.mem_map.mpr ⟨y, hy, rfl⟩
    obtain ⟨h0, nz, hnz, hlk⟩ := hcts _ hz
    obtain ⟨c5, hc5, hcl5⟩ := Cond.classLink_spec hF.ow (hF.wd hlk (Or.inl (x_kcl _ _ _)) args) (x_e K).platform hpl
    have e5 : c5 = x_ca K (x_ct y.catchType) := Option.some.inj (hc5.symm.trans (hcl hnz))
    subst e5
    refine ⟨h0, _, hcl5, ?_⟩
    rw [g3]
    constructor
    · intro hyes
      by_cases hj : x_ct y.catchType = q.1
      · exact hj
      · exfalso
        obtain ⟨a8, b8, h1, h2, h3⟩ := va_Nc.moved hF.wm.alike (hF.ok.2.2.2.2.2.2.2.2.2 q.1 (x_ct y.catchType) nm nz hk hnz (Ne.symm hj))
        have ea : a8 = x_ca K q.1 := Option.some.inj (h1.symm.trans (hcl hk))
        have eb : b8 = x_ca K (x_ct y.catchType) := Option.some.inj (h2.symm.trans (hcl hnz))
        subst ea
        subst eb
        rw [h3] at hyes
        cases hyes
    · intro hj
      rw [hj]
      exact hasg
  have hobj : ∀ k, cell.vm ≠ .statics k := fun k hk => by rw [g2] at hk; cases hk
  have hk0 : ∃ k, s.vm.classes[cell.cls]? = some k := by
    rw [g3]
    obtain ⟨k9, h9, -⟩ := Vm.findClass_spec (hcl hk)
    exact ⟨k9, h9⟩
  have htab2 : c.exceptionTable.toList.map x_en4 = M.2.2.2.2 := htab
  obtain ⟨vm', hW', hq⟩ := x_hsearch (e := x_e K) (s := s) (f := F0 m pc ls st) (a := q.2) (cell := cell) (k := q.1) (tgt := tgt) hobj hk0 c.exceptionTable.toList ((T.setTop (F0 m pc ls st)).pushFrame (.throwing q.2)) X.warmed
    (by show T.heap[q.2]? = some cell; rw [hT]; exact g1) hrow (by rw [htab2]; exact ht)
  have X' := X.noted hW'
  obtain ⟨t, a1, b1⟩ := k R s m args below meth c H locs cells slots ls z0 q0 hF hx (T.setVm vm') hT X'
  exact ⟨t, x_hcaught (g := F0 m pc ls st) X.here (fun Q E d acts => by rw [Jvm.W.findHandler_eq (meth := meth) (code := c) X.method' X.code]; exact hq Q E d acts) a1, b1⟩
end XG
end
