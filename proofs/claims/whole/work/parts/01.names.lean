/-! classes, their fields in the order of the slots, their types (written by program out of the Statement) -/
def n_Cur : String := "SnapshotTrie$Cursor"
def T_Cur : u_T := fun k => match k with
  | 0 => ("SnapshotTrie$Cursor", "way", "[LSnapshotTrie$Node;", true)
  | 1 => ("SnapshotTrie$Cursor", "places", "[I", true)
  | _ => ("SnapshotTrie$Cursor", "level", "I", false)
def ty_Cur : Nat → FieldType := fun k => match k with
  | 0 => .array (.object "SnapshotTrie$Node")
  | 1 => .array .int
  | _ => .int
def n_Ent : String := "SnapshotTrie$Entry"
def T_Ent : u_T := fun k => match k with
  | 0 => ("SnapshotTrie$Entry", "key", "I", true)
  | _ => ("SnapshotTrie$Entry", "value", "J", true)
def ty_Ent : Nat → FieldType := fun k => match k with
  | 0 => .int
  | _ => .long
def n_Nod : String := "SnapshotTrie$Node"
def T_Nod : u_T := fun k => match k with
  | 0 => ("SnapshotTrie$Node", "generation", "I", true)
  | 1 => ("SnapshotTrie$Node", "entries", "[LSnapshotTrie$Entry;", true)
  | _ => ("SnapshotTrie$Node", "nodes", "[LSnapshotTrie$Node;", true)
def ty_Nod : Nat → FieldType := fun k => match k with
  | 0 => .int
  | 1 => .array (.object "SnapshotTrie$Entry")
  | _ => .array (.object "SnapshotTrie$Node")
def n_Tal : String := "SnapshotTrie$Tally"
def T_Tal : u_T := fun k => match k with
  | 0 => ("SnapshotTrie$Tally", "generation", "I", true)
  | 1 => ("SnapshotTrie$Tally", "keys", "I", false)
  | 2 => ("SnapshotTrie$Tally", "nodes", "I", false)
  | 3 => ("SnapshotTrie$Tally", "bags", "I", false)
  | 4 => ("SnapshotTrie$Tally", "levels", "I", false)
  | _ => ("SnapshotTrie$Tally", "ownNodes", "I", false)
def ty_Tal : Nat → FieldType := fun k => match k with
  | 0 => .int
  | 1 => .int
  | 2 => .int
  | 3 => .int
  | 4 => .int
  | _ => .int
def n_Map : String := "SnapshotTrie$TrieMap"
def T_Map : u_T := fun k => match k with
  | 0 => ("SnapshotTrie$TrieMap", "root", "LSnapshotTrie$Node;", false)
  | 1 => ("SnapshotTrie$TrieMap", "generation", "I", false)
  | _ => ("SnapshotTrie$TrieMap", "readOnly", "Z", true)
def ty_Map : Nat → FieldType := fun k => match k with
  | 0 => .object "SnapshotTrie$Node"
  | 1 => .int
  | _ => .boolean
def n_Tri : String := "SnapshotTrie"
def T_Tri : u_T := fun k => match k with
  | 0 => ("SnapshotTrie", "maps", "[LSnapshotTrie$TrieMap;", true)
  | 1 => ("SnapshotTrie", "cursors", "[LSnapshotTrie$Cursor;", true)
  | 2 => ("SnapshotTrie", "latestGeneration", "I", false)
  | 3 => ("SnapshotTrie", "latestCopies", "I", false)
  | _ => ("SnapshotTrie", "latestValue", "J", false)
def ty_Tri : Nat → FieldType := fun k => match k with
  | 0 => .array (.object "SnapshotTrie$TrieMap")
  | 1 => .array (.object "SnapshotTrie$Cursor")
  | 2 => .int
  | 3 => .int
  | _ => .long
def n_Mod : String := "SnapshotTrieModel"
def T_Mod : u_T := fun k => match k with
  | 0 => ("SnapshotTrieModel", "thrown", "I", false)
  | 1 => ("SnapshotTrieModel", "generations", "I", false)
  | 2 => ("SnapshotTrieModel", "there", "[Z", true)
  | 3 => ("SnapshotTrieModel", "readOnly", "[Z", true)
  | 4 => ("SnapshotTrieModel", "generation", "[I", true)
  | 5 => ("SnapshotTrieModel", "sizes", "[I", true)
  | 6 => ("SnapshotTrieModel", "keys", "[I", true)
  | 7 => ("SnapshotTrieModel", "values", "[J", true)
  | 8 => ("SnapshotTrieModel", "belongs", "[I", true)
  | 9 => ("SnapshotTrieModel", "copied", "I", false)
  | 10 => ("SnapshotTrieModel", "used", "[Z", true)
  | 11 => ("SnapshotTrieModel", "left", "[I", true)
  | 12 => ("SnapshotTrieModel", "far", "[I", true)
  | 13 => ("SnapshotTrieModel", "seen", "[I", true)
  | 14 => ("SnapshotTrieModel", "seenValues", "[J", true)
  | _ => ("SnapshotTrieModel", "value", "J", false)
def ty_Mod : Nat → FieldType := fun k => match k with
  | 0 => .int
  | 1 => .int
  | 2 => .array .boolean
  | 3 => .array .boolean
  | 4 => .array .int
  | 5 => .array .int
  | 6 => .array .int
  | 7 => .array .long
  | 8 => .array .int
  | 9 => .int
  | 10 => .array .boolean
  | 11 => .array .int
  | 12 => .array .int
  | 13 => .array .int
  | 14 => .array .long
  | _ => .long
abbrev vwCl : List vw_C := [(n_Cur, T_Cur, 3), (n_Ent, T_Ent, 2), (n_Nod, T_Nod, 3), (n_Tal, T_Tal, 6), (n_Map, T_Map, 3), (n_Tri, T_Tri, 5), (n_Mod, T_Mod, 16)]
-- arrays by the number of their kind, exceptions by the number of their class
def x_ty : Nat → Option FieldType
  | 0 => some .int
  | 1 => some .long
  | 2 => some .boolean
  | 3 => some (.object "SnapshotTrie$Entry")
  | 4 => some (.object "SnapshotTrie$Node")
  | 5 => some (.object "SnapshotTrie$TrieMap")
  | 6 => some (.object "SnapshotTrie$Cursor")
  | _ => none
def x_ex : Nat → Option String
  | 11 => some "java/lang/IllegalArgumentException"
  | 12 => some "java/lang/UnsupportedOperationException"
  | 13 => some "java/lang/IllegalStateException"
  | 14 => some "java/util/NoSuchElementException"
  | _ => none
