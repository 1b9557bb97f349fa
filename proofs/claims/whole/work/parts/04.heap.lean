section XC
theorem x_kfl (a : String) (i : Nat) (b n t : String) : ((Cond.fieldLink a i b n t).onTables && (Cond.fieldLink a i b n t).keeps) = true := by first | rfl | simp [Cond.onTables, Cond.keeps, Cond.steady]
theorem x_kcl (a : String) (i : Nat) (b : String) : ((Cond.classLink a i b).onTables && (Cond.classLink a i b).keeps) = true := by first | rfl | simp [Cond.onTables, Cond.keeps, Cond.steady]
theorem x_kin (a : String) (n : Nat) : ((Cond.instantiable a n).onTables && (Cond.instantiable a n).keeps) = true := by first | rfl | simp [Cond.onTables, Cond.keeps, Cond.steady]
theorem x_kii (a : String) : ((Cond.initialized a).onTables && (Cond.initialized a).keeps) = true := by first | rfl | simp [Cond.onTables, Cond.keeps, Cond.steady]
theorem x_kml (a : String) (i : Nat) (y : MethodName) : ((Cond.methodLink a i y).onTables && (Cond.methodLink a i y).keeps) = true := by first | rfl | simp [Cond.onTables, Cond.keeps, Cond.steady]
theorem x_kst (y : MethodName) : ((Cond.static y).onTables && (Cond.static y).keeps) = true := by first | rfl | simp [Cond.onTables, Cond.keeps, Cond.steady]
theorem x_kim (y : MethodName) : ((Cond.instanceMethod y).onTables && (Cond.instanceMethod y).keeps) = true := by first | rfl | simp [Cond.onTables, Cond.keeps, Cond.steady]
theorem x_ksl (C : String) (x y : MethodName) : ((Cond.selects C x y).onTables && (Cond.selects C x y).keeps) = true := by first | rfl | simp [Cond.onTables, Cond.keeps, Cond.steady]
theorem x_kco (y : MethodName) (b : ByteArray) (n : Nat) (t : Option FieldType) : ((Cond.code y b n t).onTables && (Cond.code y b n t).keeps) = true := by first | rfl | simp [Cond.onTables, Cond.keeps, Cond.steady]
theorem x_kcw (y : MethodName) (b : ByteArray) (n : Nat) (t : Option FieldType) (l : List (Nat × Nat × Nat × Nat)) : ((Cond.codeWith y b n t l).onTables && (Cond.codeWith y b n t l).keeps) = true := by first | rfl | simp [Cond.onTables, Cond.keeps, Cond.steady]
theorem x_kla {C : String} {T : u_T} {N : Nat} : ∀ w ∈ u_ws C T N, (w.onTables && w.keeps) = true := by
  intro w hw
  obtain ⟨k, -, rfl⟩ := List.mem_map.mp hw
  unfold u_lay
  split <;> first | rfl | simp [Cond.onTables, Cond.keeps, Cond.steady]
/-- what is known of a class: its place, its words, its fields' types and names -/
def x_cl (ci : Nat) (C : String) (T : u_T) (N : Nat) (ty : Nat → FieldType) : Prop :=
  vwCl[ci]? = some (C, T, N) ∧ (∀ w ∈ u_ws C T N, w ∈ lw_tbl) ∧ (∀ k, k < N → parseFieldDescriptor (T k).2.2.1 = some (ty k)) ∧ ∀ a, a < N → ∀ b, b < N → a ≠ b → (T a).2.1 ≠ (T b).2.1
variable {K : x_K} {M : x_M} {d pc pc' : Nat} {lv lv' : List (Option Value)} {st : List Value} {h : x_H} {Q : x_O → x_H → Prop}
  {C : String} {T : u_T} {N ci : Nat} {ty : Nat → FieldType} {fs : List Value} {a : Nat} {v : Value}
theorem go_getfield {idx : Nat} (hd : decode M.2.1 pc = .ok (.getfield idx, 3)) (hc : x_cl ci C T N ty) (j : Nat) (hj : j < N) (hw : Cond.fieldLink M.1.cls idx (T j).1 (T j).2.1 (T j).2.2.1 ∈ lw_tbl) (hf : h.2.2 a = some (.inr (ci, fs))) (hv : fs[j]? = some v) (hp : pc + 3 = pc')
    (k : Go K M d pc' lv (v :: st) h Q) : Go K M d pc lv (.ref a :: st) h Q := by
  subst hp
  intro R s m args below meth c H locs cells slots ls z0 q0 hF hx
  exact va_get (ref := (T j).1) (Ts := u_ws C T N) hF.ex hF.cd (fun w hw' => hF.wd (hc.2.1 w hw') (Or.inl (x_kla w hw')) args) (fun w h => h) hF.ow hF.kk (hF.w.P hf) 0 rfl hc.1 j hj (hF.wd hw (Or.inl (x_kfl _ _ _ _ _)) args) (fun x h => h) hv hd
    (k R s m args below meth c H locs cells slots ls z0 q0 hF hx)
theorem go_putfield {idx : Nat} (hd : decode M.2.1 pc = .ok (.putfield idx, 3)) (hc : x_cl ci C T N ty) (j : Nat) (hj : j < N) (hfin : (T j).2.2.2 = false) (hw : Cond.fieldLink M.1.cls idx (T j).1 (T j).2.1 (T j).2.2.1 ∈ lw_tbl) (hf : h.2.2 a = some (.inr (ci, fs))) (hn : narrow (ty j) v = v) (hfit : fits (ty j) v = true) (hl : j < fs.length) (hp : pc + 3 = pc')
    (k : Go K M d pc' lv st (x_up h a (.inr (ci, fs.set j v))) Q) : Go K M d pc lv (v :: .ref a :: st) h Q := by
  subst hp
  intro R s m args below meth c H locs cells slots ls z0 q0 hF hx
  have hts : ∀ w ∈ u_ws C T N, w.before args s = true := fun w hw' => hF.wd (hc.2.1 w hw') (Or.inl (x_kla w hw')) args
  have hap := va_apart (own := M.1.cls) hts (fun w h => h) ty hc.2.2.1 hc.2.2.2 hF.kk hc.1
  obtain ⟨hB, r, h1, cell, q1, q2, q3, q4⟩ := hF.w.2.2.1 a _ hf
  obtain rfl : r = (C, T, N) := Option.some.inj (h1.symm.trans hc.1)
  obtain ⟨hS, hfc, kC, hkC, hkind⟩ := hF.kk.1 ci _ hc.1
  obtain ⟨cf, kf, fi, f, hi, hsl⟩ := hS j hj
  have hlay := hts _ (u_in_lay hj)
  unfold u_lay at hlay
  rw [if_neg (by rw [hfin]; decide)] at hlay
  have hst := (u_facts hfc hkC (u_lays hts (fun w h => h) hj) hi).1
  have h6 := u_store hfc hkC hkind hlay hi (hc.2.2.1 j hj) hn hfit
  refine W.putK hF.ex hF.cd (f := f) ⟨hF.ow, hF.wd hw (Or.inl (x_kfl _ _ _ _ _)) args, ⟨_, _, _, hi⟩, hst⟩ (by rw [q2]; exact h6) q1 q3 (by rw [hsl]; exact k2_hasslot (q4 j hj)) rfl rfl hd fun H' e1 e2 e3 => ?_
  rw [hsl] at e1
  exact k R s m args below meth c H' _ cells slots ls z0 q0 (hF.mv (hF.w.up (.inr (ci, fs.set j v)) hf ⟨_, hc.1, t_OB.to (V := updV (vp_V fs) j v) ⟨_, e1, q2, q3, t_set q4 hap hj v⟩ (fun i _ => vp_updV_set hl v i)⟩ e2 e3)
    (fun q hq => by rcases List.mem_append.mp hq with hq | hq; exact hF.lc q hq; rw [List.mem_singleton.mp hq]; exact hB) hF.cs.1 hF.cs.2.1 hF.cs.2.2.1 hF.cs.2.2.2) hx
theorem go_putfinal {idx : Nat} (hd : decode M.2.1 pc = .ok (.putfield idx, 3)) (hc : x_cl ci C T N ty) (j : Nat) (hj : j < N) (hfin : (T j).2.2.2 = true) (hin2 : M.1.name = "<init>") (hdecl : (T j).1 = M.1.cls) (hw : Cond.fieldLink M.1.cls idx (T j).1 (T j).2.1 (T j).2.2.1 ∈ lw_tbl) (hf : h.2.2 a = some (.inr (ci, fs))) (hn : narrow (ty j) v = v) (hfit : fits (ty j) v = true) (hl : j < fs.length) (hp : pc + 3 = pc')
    (k : Go K M d pc' lv st (x_up h a (.inr (ci, fs.set j v))) Q) : Go K M d pc lv (v :: .ref a :: st) h Q := by
  subst hp
  intro R s m args below meth c H locs cells slots ls z0 q0 hF hx
  have hts : ∀ w ∈ u_ws C T N, w.before args s = true := fun w hw' => hF.wd (hc.2.1 w hw') (Or.inl (x_kla w hw')) args
  have hap := va_apart (own := M.1.cls) hts (fun w h => h) ty hc.2.2.1 hc.2.2.2 hF.kk hc.1
  obtain ⟨hB, r, h1, cell, q1, q2, q3, q4⟩ := hF.w.2.2.1 a _ hf
  obtain rfl : r = (C, T, N) := Option.some.inj (h1.symm.trans hc.1)
  obtain ⟨hS, hfc, kC, hkC, hkind⟩ := hF.kk.1 ci _ hc.1
  obtain ⟨cf, kf, fi, f, hi, hsl⟩ := hS j hj
  have hlay := hts _ (u_in_lay hj)
  unfold u_lay at hlay
  rw [if_pos hfin] at hlay
  have hst := (u_facts hfc hkC (u_lays hts (fun w h => h) hj) hi).1
  have hcf : m.cls = cf := by
    obtain ⟨_, _, c', _, _, _, -, -, hf', -, -, -, hown2, -⟩ := Cond.laysFinal_spec hlay
    have e1 : c' = cf := by have := hi.symm.trans hf'; simp at this; exact this.1.symm
    rw [hdecl] at hown2
    rw [← e1]; exact Option.some.inj (hF.ow.symm.trans hown2)
  have h6 := u_fits hfc hkC hkind (Or.inr hlay) hi (hc.2.2.1 j hj) hn hfit
  refine W.putFinK hF.ex hF.cd hF.ow (hF.wd hw (Or.inl (x_kfl _ _ _ _ _)) args) hi hst hcf (hF.nm.trans hin2) (by rw [q2]; exact h6) q1 q3 (by rw [hsl]; exact k2_hasslot (q4 j hj)) rfl rfl hd fun H' e1 e2 e3 => ?_
  rw [hsl] at e1
  exact k R s m args below meth c H' _ cells slots ls z0 q0 (hF.mv (hF.w.up (.inr (ci, fs.set j v)) hf ⟨_, hc.1, t_OB.to (V := updV (vp_V fs) j v) ⟨_, e1, q2, q3, t_set q4 hap hj v⟩ (fun i _ => vp_updV_set hl v i)⟩ e2 e3)
    (fun q hq => by rcases List.mem_append.mp hq with hq | hq; exact hF.lc q hq; rw [List.mem_singleton.mp hq]; exact hB) hF.cs.1 hF.cs.2.1 hF.cs.2.2.1 hF.cs.2.2.2) hx
theorem go_new {idx : Nat} (hd : decode M.2.1 pc = .ok (.new idx, 3)) (hc : x_cl ci C T N ty) (hw1 : Cond.classLink M.1.cls idx C ∈ lw_tbl) (hw2 : Cond.instantiable C N ∈ lw_tbl) (hw3 : Cond.initialized C ∈ lw_tbl) (hfs : ∀ j, j < N → defaultValue (ty j) = vp_V fs j) (hz : h.1 + 1 ≤ x_cap K) (hq : h.2.1 + N ≤ x_cas K) (hp : pc + 3 = pc')
    (k : Go K M d pc' lv (.ref h.1 :: st) (x_nw h N (.inr (ci, fs))) Q) : Go K M d pc lv st h Q := by
  subst hp
  intro R s m args below meth c H locs cells slots ls z0 q0 hF hx
  have hts : ∀ w ∈ u_ws C T N, w.before args s = true := fun w hw' => hF.wd (hc.2.1 w hw') (Or.inl (x_kla w hw')) args
  have hKn := hF.kk.1 ci _ hc.1
  have hcs := hF.cs
  have hrm := hF.rm
  refine W.newcK hF.ex hF.cd hF.ow (hF.wd hw1 (Or.inl (x_kcl _ _ _)) args) (hF.wd hw2 (Or.inl (x_kin _ _)) args) (hF.wd hw3 (Or.inl (x_kii _)) args) rfl hd (by omega) (by omega) hKn.2.1 hF.w.1 fun H1 kC hkC e1 z1 o1 => ?_
  exact k R s m args below meth c H1 locs (cells + 1) (slots + N) ls z0 q0 (hF.mv (hF.w.nw N (.inr (ci, fs)) ⟨_, hc.1, (u_born ty hts (fun w h => h) hKn hkC e1 hc.2.2.1).to hfs⟩ z1 o1) hF.lc (by show cells + 1 + z0 ≤ h.1 + 1; omega) (by show slots + N + q0 ≤ h.2.1 + N; omega) hz hq) hx
theorem x_arr {K : x_K} {M : x_M} {d : Nat} {R : Room} {s : State} {m : MethodId} {meth : Method} {c : Code} {H : Heap} {h : x_H} {locs : List Loc} {cells slots z0 q0 : Nat} (hF : x_F K M d R s m meth c H h locs cells slots z0 q0) {k : Nat} {ty : FieldType} (hk : x_ty k = some ty) : ArrOfT s (x_ca K k) ty := arrOfT_moved hF.wm.alike (hF.ok.2.2.2.1 k ty hk).1
theorem x_ra {K : x_K} {M : x_M} {d : Nat} {R : Room} {s : State} {m : MethodId} {meth : Method} {c : Code} {H : Heap} {h : x_H} {locs : List Loc} {cells slots z0 q0 : Nat} (hF : x_F K M d R s m meth c H h locs cells slots z0 q0) {k : Nat} {ty : FieldType} (hk : x_ty k = some ty) : va_RA s (x_ca K k) ty := ((hF.ok.2.2.2.1 k ty hk).2).moved hF.wm.alike
theorem go_newarray {atype : ArrayType} {kd : Nat} {n : Int32} {N' : Nat} {a0 : vp_A} (hd : decode M.2.1 pc = .ok (.newarray atype, 2)) (hw : Cond.arrayClass (newarray.typeOf atype) ∈ lw_tbl) (hk : x_ty kd = some (newarray.typeOf atype)) (ha : ∀ cA : ClassId, vp_cell cA a0 = arrV cA N' (fun _ => defaultValue (newarray.typeOf atype)))
    (hn : ¬ n < 0) (hN : n.toNatClampNeg = N') (hb : N' * componentBytes (newarray.typeOf atype) ≤ 536870912) (hz : h.1 + 1 ≤ x_cap K) (hq : h.2.1 + N' ≤ x_cas K) (hp : pc + 2 = pc')
    (k : Go K M d pc' lv (.ref h.1 :: st) (x_nw h N' (.inl (kd, a0))) Q) : Go K M d pc lv (.int n :: st) h Q := by
  subst hp
  intro R s m args below meth c H locs cells slots ls z0 q0 hF hx
  have hcs := hF.cs
  have hrm := hF.rm
  refine va_newaK hF.ex hF.cd (hF.wd hw (Or.inr ⟨_, rfl⟩) args) rfl hd rfl hn hN hb (by omega) (by omega) hF.w.1 fun H1 cA e1 z1 o1 hAr hNm => ?_
  have hra := x_ra hF hk
  have hcA : x_ca K kd = cA := by
    have h2 : s.vm.findClass ("[" ++ (newarray.typeOf atype).toString) = some (x_ca K kd) := by
      cases atype <;> exact hra
    exact Option.some.inj (h2.symm.trans hNm)
  refine k R s m args below meth c H1 locs (cells + 1) (slots + N') ls z0 q0 (hF.mv (hF.w.nw N' (.inl (kd, a0)) ?_ z1 o1) hF.lc (by show cells + 1 + z0 ≤ h.1 + 1; omega) (by show slots + N' + q0 ≤ h.2.1 + N'; omega) hz hq) hx
  show H1[h.1]? = some (vp_cell (x_ca K kd) a0)
  rw [ha, hcA]
  exact e1
theorem go_anewarray {idx kd : Nat} {E : String} {n : Int32} {N' : Nat} (hd : decode M.2.1 pc = .ok (.anewarray idx, 3)) (hw1 : Cond.classLink M.1.cls idx E ∈ lw_tbl) (hw2 : Cond.arrayOver (.object E) ∈ lw_tbl) (hk : x_ty kd = some (.object E))
    (hn : ¬ n < 0) (hN : n.toNatClampNeg = N') (hb : N' * 4 ≤ 536870912) (hz : h.1 + 1 ≤ x_cap K) (hq : h.2.1 + N' ≤ x_cas K) (hp : pc + 3 = pc')
    (k : Go K M d pc' lv (.ref h.1 :: st) (x_nw h N' (.inl (kd, N', .inr (.inr (.inr (.inr (fun _ => none))))))) Q) : Go K M d pc lv (.int n :: st) h Q := by
  subst hp
  subst hN
  intro R s m args below meth c H locs cells slots ls z0 q0 hF hx
  have hcs := hF.cs
  have hrm := hF.rm
  have hao : va_AO E s := va_AO.moved hF.wm.alike (va_AO.of (hF.ok.2.1 _ hw2))
  refine W.anew hF.ex hF.cd hF.ow (hF.wd hw1 (Or.inl (x_kcl _ _ _)) args) (va_AO.use hao) rfl hd rfl hn hb (by omega) (by omega) fun cA kA comp f1 f2 f3 f4 => ?_
  generalize hH1 : H.push ({ cls := cA, slots := Array.replicate n.toNatClampNeg .null, vm := .none } : Cell) = H1
  have hs := hF.w.1
  have z1 : H1.size = h.1 + 1 := by rw [← hH1, Array.size_push, hs]
  have e1 : H1[h.1]? = some (arrV cA n.toNatClampNeg (fun _ => .null)) := by rw [← hH1, ← hs, Array.getElem?_push_size, ← arrV_new]
  have o1 : ∀ q : Nat, q < h.1 → H1[q]? = H[q]? := fun q hq => by rw [← hH1, Array.getElem?_push, if_neg (by omega)]
  obtain ⟨kA', comp', -, -, -, hra⟩ := x_ra hF hk
  have hcA : x_ca K kd = cA := Option.some.inj (hra.symm.trans f1)
  rw [hs]
  refine k R s m args below meth c H1 locs (cells + 1) (slots + n.toNatClampNeg) ls z0 q0 (hF.mv (hF.w.nw n.toNatClampNeg (.inl (kd, n.toNatClampNeg, .inr (.inr (.inr (.inr (fun _ => none)))))) ?_ z1 o1) hF.lc (by show cells + 1 + z0 ≤ h.1 + 1; omega) (by show slots + n.toNatClampNeg + q0 ≤ h.2.1 + n.toNatClampNeg; omega) hz hq) hx
  show H1[h.1]? = some (vp_cell (x_ca K kd) _)
  rw [vp_cell_q, hcA]
  exact e1
theorem go_alen {kd : Nat} {x : vp_A} {t : FieldType} {w : Int32} (hd : decode M.2.1 pc = .ok (.arraylength, 1)) (hf : h.2.2 a = some (.inl (kd, x))) (hk : x_ty kd = some t) (hw : Int32.ofNat x.1 = w) (hp : pc + 1 = pc')
    (k : Go K M d pc' lv (.int w :: st) h Q) : Go K M d pc lv (.ref a :: st) h Q := by
  subst hp
  intro R s m args below meth c H locs cells slots ls z0 q0 hF hx
  exact va_alen hF.ex hF.cd (hF.ar hk) (hF.w.P hf) 0 0 rfl rfl hw hd (k R s m args below meth c H locs cells slots ls z0 q0 hF hx)
theorem go_iald {kd n : Nat} {f : Nat → Int32} {i w : Int32} (hd : decode M.2.1 pc = .ok (.iaload, 1)) (hf : h.2.2 a = some (.inl (kd, n, .inl f))) (hk : x_ty kd = some .int) (hin : vp_in i n) (hw : f i.toNatClampNeg = w) (hp : pc + 1 = pc')
    (k : Go K M d pc' lv (.int w :: st) h Q) : Go K M d pc lv (.int i :: .ref a :: st) h Q := by
  subst hp
  subst hw
  intro R s m args below meth c H locs cells slots ls z0 q0 hF hx
  exact va_iald hF.ex hF.cd (hF.ar hk) (hF.w.P hf) 0 0 rfl rfl hin hd (k R s m args below meth c H locs cells slots ls z0 q0 hF hx)
theorem go_zald {kd n : Nat} {f : Nat → Int32} {i w : Int32} (hd : decode M.2.1 pc = .ok (.baload, 1)) (hf : h.2.2 a = some (.inl (kd, n, .inl f))) (hk : x_ty kd = some .boolean) (hin : vp_in i n) (hw : f i.toNatClampNeg = w) (hp : pc + 1 = pc')
    (k : Go K M d pc' lv (.int w :: st) h Q) : Go K M d pc lv (.int i :: .ref a :: st) h Q := by
  subst hp
  subst hw
  intro R s m args below meth c H locs cells slots ls z0 q0 hF hx
  exact va_zald hF.ex hF.cd (hF.ar hk) (hF.w.P hf) 0 0 rfl rfl hin hd (k R s m args below meth c H locs cells slots ls z0 q0 hF hx)
theorem go_lald {kd n : Nat} {f : Nat → Int64} {i : Int32} {w : Int64} (hd : decode M.2.1 pc = .ok (.laload, 1)) (hf : h.2.2 a = some (.inl (kd, n, .inr (.inl f)))) (hk : x_ty kd = some .long) (hin : vp_in i n) (hw : f i.toNatClampNeg = w) (hp : pc + 1 = pc')
    (k : Go K M d pc' lv (.long w :: st) h Q) : Go K M d pc lv (.int i :: .ref a :: st) h Q := by
  subst hp
  subst hw
  intro R s m args below meth c H locs cells slots ls z0 q0 hF hx
  exact va_lald hF.ex hF.cd (hF.ar hk) (hF.w.P hf) 0 0 rfl rfl hin hd (k R s m args below meth c H locs cells slots ls z0 q0 hF hx)
theorem go_aald {kd n : Nat} {E : String} {f : Nat → Option Nat} {i : Int32} {o : Option Nat} (hd : decode M.2.1 pc = .ok (.aaload, 1)) (hf : h.2.2 a = some (.inl (kd, n, .inr (.inr (.inr (.inr f)))))) (hk : x_ty kd = some (.object E)) (hin : vp_in i n) (hw : f i.toNatClampNeg = o) (hp : pc + 1 = pc')
    (k : Go K M d pc' lv (va_rf o :: st) h Q) : Go K M d pc lv (.int i :: .ref a :: st) h Q := by
  subst hp
  subst hw
  intro R s m args below meth c H locs cells slots ls z0 q0 hF hx
  exact va_aldq hF.ex hF.cd (hF.ar hk) (hF.w.P hf) 0 0 rfl rfl hin hd (k R s m args below meth c H locs cells slots ls z0 q0 hF hx)
theorem x_lc {locs : List Loc} {B a j : Nat} (h1 : ∀ q ∈ locs, B ≤ q.base) (h2 : B ≤ a) : ∀ q ∈ locs ++ [⟨a, j⟩], B ≤ q.base := fun q hq => by
  rcases List.mem_append.mp hq with hq | hq
  · exact h1 q hq
  · rw [List.mem_singleton.mp hq]; exact h2
theorem go_iast {kd n : Nat} {f : Nat → Int32} {i x : Int32} (hd : decode M.2.1 pc = .ok (.iastore, 1)) (hf : h.2.2 a = some (.inl (kd, n, .inl f))) (hk : x_ty kd = some .int) (hin : vp_in i n) (hp : pc + 1 = pc')
    (k : Go K M d pc' lv st (x_up h a (.inl (kd, n, .inl (va_up f i.toNatClampNeg x)))) Q) : Go K M d pc lv (.int x :: .int i :: .ref a :: st) h Q := by
  subst hp
  intro R s m args below meth c H locs cells slots ls z0 q0 hF hx
  obtain ⟨hB, hat⟩ := hF.w.2.2.1 a _ hf
  refine W.iast hF.ex hF.cd hat (x_arr hF hk n (fun j => .int (f j))) (fun q => by cases q) (by show ¬ (i < 0 ∨ (arrV _ _ _).slots.size ≤ _); rw [arrV_size]; exact hin) rfl rfl hd fun H1 e z oq => ?_
  refine k R s m args below meth c H1 _ cells slots ls z0 q0 (hF.mv (hF.w.up _ hf ?_ z oq) (x_lc hF.lc hB) hF.cs.1 hF.cs.2.1 hF.cs.2.2.1 hF.cs.2.2.2) hx
  show H1[a]? = some (vp_cell _ _)
  rw [e]
  show some ((arrV _ _ _).setSlot _ _) = _
  rw [vp_cell_i, arrV_store]
  congr 2
  funext q
  by_cases hq : q = i.toNatClampNeg <;> simp [updV, va_up, hq]
theorem go_zast {kd n : Nat} {f : Nat → Int32} {i x : Int32} (hd : decode M.2.1 pc = .ok (.bastore, 1)) (hf : h.2.2 a = some (.inl (kd, n, .inl f))) (hk : x_ty kd = some .boolean) (hin : vp_in i n) (hp : pc + 1 = pc')
    (k : Go K M d pc' lv st (x_up h a (.inl (kd, n, .inl (va_up f i.toNatClampNeg (vp_nar .boolean x))))) Q) : Go K M d pc lv (.int x :: .int i :: .ref a :: st) h Q := by
  subst hp
  intro R s m args below meth c H locs cells slots ls z0 q0 hF hx
  obtain ⟨hB, hat⟩ := hF.w.2.2.1 a _ hf
  refine W.zast hF.ex hF.cd hat (x_arr hF hk n (fun j => .int (f j))) (fun q => by cases q) (by show ¬ (i < 0 ∨ (arrV _ _ _).slots.size ≤ _); rw [arrV_size]; exact hin) rfl rfl hd fun H1 e z oq => ?_
  refine k R s m args below meth c H1 _ cells slots ls z0 q0 (hF.mv (hF.w.up _ hf ?_ z oq) (x_lc hF.lc hB) hF.cs.1 hF.cs.2.1 hF.cs.2.2.1 hF.cs.2.2.2) hx
  show H1[a]? = some (vp_cell _ _)
  rw [e]
  show some ((arrV _ _ _).setSlot _ _) = _
  rw [vp_cell_i, arrV_store]
  congr 2
  funext q
  by_cases hq : q = i.toNatClampNeg
  · subst hq
    simp [updV, va_up, vp_nar]
    try rfl
  · simp [updV, va_up, hq]
theorem go_last {kd n : Nat} {f : Nat → Int64} {i : Int32} {x : Int64} (hd : decode M.2.1 pc = .ok (.lastore, 1)) (hf : h.2.2 a = some (.inl (kd, n, .inr (.inl f)))) (hk : x_ty kd = some .long) (hin : vp_in i n) (hp : pc + 1 = pc')
    (k : Go K M d pc' lv st (x_up h a (.inl (kd, n, .inr (.inl (va_up f i.toNatClampNeg x))))) Q) : Go K M d pc lv (.long x :: .int i :: .ref a :: st) h Q := by
  subst hp
  intro R s m args below meth c H locs cells slots ls z0 q0 hF hx
  obtain ⟨hB, hat⟩ := hF.w.2.2.1 a _ hf
  refine W.last hF.ex hF.cd hat (x_arr hF hk n (fun j => .long (f j))) (fun q => by cases q) (by show ¬ (i < 0 ∨ (arrV _ _ _).slots.size ≤ _); rw [arrV_size]; exact hin) rfl rfl hd fun H1 e z oq => ?_
  refine k R s m args below meth c H1 _ cells slots ls z0 q0 (hF.mv (hF.w.up _ hf ?_ z oq) (x_lc hF.lc hB) hF.cs.1 hF.cs.2.1 hF.cs.2.2.1 hF.cs.2.2.2) hx
  show H1[a]? = some (vp_cell _ _)
  rw [e]
  show some ((arrV _ _ _).setSlot _ _) = _
  rw [vp_cell_l, arrV_store]
  congr 2
  funext q
  by_cases hq : q = i.toNatClampNeg <;> simp [updV, va_up, hq]
theorem go_aast {kd n b : Nat} {r : vw_C} {vs : List Value} {f : Nat → Option Nat} {i : Int32} (hd : decode M.2.1 pc = .ok (.aastore, 1)) (hf : h.2.2 a = some (.inl (kd, n, .inr (.inr (.inr (.inr f)))))) (hk : x_ty kd = some (.object r.1)) (hv : h.2.2 b = some (.inr (ci, vs))) (hc : vwCl[ci]? = some r) (hin : vp_in i n) (hp : pc + 1 = pc')
    (k : Go K M d pc' lv st (x_up h a (.inl (kd, n, .inr (.inr (.inr (.inr (va_up f i.toNatClampNeg (some b)))))))) Q) : Go K M d pc lv (.ref b :: .int i :: .ref a :: st) h Q := by
  subst hp
  intro R s m args below meth c H locs cells slots ls z0 q0 hF hx
  have hlt : i.toNatClampNeg < n := Nat.not_le.mp fun q => hin (Or.inr q)
  have h0 : ¬ i < 0 := fun q => hin (Or.inl q)
  obtain ⟨hB, hat⟩ := hF.w.2.2.1 a _ hf
  obtain ⟨-, r', hr', cellV, g1, g2, g3, -⟩ := hF.w.2.2.1 b _ hv
  have hcls := (hF.kk.1 ci r hc).2
  obtain ⟨kA, comp, k1, k2, k3, -⟩ := x_ra hF hk
  obtain rfl : comp = (x_D K).1 ci := Option.some.inj (k3.symm.trans hcls.1)
  obtain ⟨kC, hkC, -⟩ := hcls.2
  refine W.aast hF.ex hF.cd hat (fun q h => by cases h) (fun h => by cases h) k1 k2 rfl hkC ⟨h0, by show _ < (arrV _ _ _).slots.size; rw [arrV_size]; exact hlt⟩ g1 (fun q h => by rw [g3] at h; cases h) (by rw [g2]; exact hkC) (by rw [g2]; exact va_assign hcls) rfl rfl hd fun H1 e z oq => ?_
  refine k R s m args below meth c H1 _ cells slots ls z0 q0 (hF.mv (hF.w.up _ hf ?_ z oq) (x_lc hF.lc hB) hF.cs.1 hF.cs.2.1 hF.cs.2.2.1 hF.cs.2.2.2) hx
  show H1[a]? = some (vp_cell _ _)
  rw [e]
  show some ((arrV _ _ _).setSlot _ _) = _
  rw [vp_cell_q, arrV_store]
  congr 2
  funext q
  by_cases hq : q = i.toNatClampNeg <;> simp [updV, va_up, hq, va_rf]
theorem go_aastN {kd n : Nat} {E : String} {f : Nat → Option Nat} {i : Int32} (hd : decode M.2.1 pc = .ok (.aastore, 1)) (hf : h.2.2 a = some (.inl (kd, n, .inr (.inr (.inr (.inr f)))))) (hk : x_ty kd = some (.object E)) (hin : vp_in i n) (hp : pc + 1 = pc')
    (k : Go K M d pc' lv st (x_up h a (.inl (kd, n, .inr (.inr (.inr (.inr (va_up f i.toNatClampNeg none))))))) Q) : Go K M d pc lv (.null :: .int i :: .ref a :: st) h Q := by
  subst hp
  intro R s m args below meth c H locs cells slots ls z0 q0 hF hx
  obtain ⟨hB, hat⟩ := hF.w.2.2.1 a _ hf
  refine va_WaastN (C := E) hF.ex hF.cd hat (x_arr hF hk n (fun j => va_rf (f j))) (fun h => by cases h) (by show ¬ (i < 0 ∨ (arrV _ _ _).slots.size ≤ _); rw [arrV_size]; exact hin) rfl rfl hd fun H1 e z oq => ?_
  refine k R s m args below meth c H1 _ cells slots ls z0 q0 (hF.mv (hF.w.up _ hf ?_ z oq) (x_lc hF.lc hB) hF.cs.1 hF.cs.2.1 hF.cs.2.2.1 hF.cs.2.2.2) hx
  show H1[a]? = some (vp_cell _ _)
  rw [e]
  show some ((arrV _ _ _).setSlot _ _) = _
  rw [vp_cell_q, arrV_store]
  congr 2
  funext q
  by_cases hq : q = i.toNatClampNeg <;> simp [updV, va_up, hq, va_rf]
/-- a store of a reference that may be null, of one class -/
theorem go_aastO {kd n : Nat} {o : Option Nat} {r : vw_C} {f : Nat → Option Nat} {i : Int32} (hd : decode M.2.1 pc = .ok (.aastore, 1)) (hf : h.2.2 a = some (.inl (kd, n, .inr (.inr (.inr (.inr f)))))) (hk : x_ty kd = some (.object r.1)) (hv : ∀ b : Nat, o = some b → ∃ vs, h.2.2 b = some (.inr (ci, vs))) (hc : vwCl[ci]? = some r) (hin : vp_in i n) (hp : pc + 1 = pc')
    (k : Go K M d pc' lv st (x_up h a (.inl (kd, n, .inr (.inr (.inr (.inr (va_up f i.toNatClampNeg o))))))) Q) : Go K M d pc lv (va_rf o :: .int i :: .ref a :: st) h Q := by
  cases o with
  | none => exact go_aastN hd hf hk hin hp k
  | some b =>
    obtain ⟨vs, hvs⟩ := hv b rfl
    exact go_aast hd hf hk hvs hc hin hp k
theorem go_areturn {v : Value} {t : FieldType} (hd : decode M.2.1 pc = .ok (.areturn, 1)) (hr : M.2.2.2.1 = some t) (ht : ∃ n, t = .object n) (hv : x_r v = true) (hq : Q (.inl (some v)) h) : Go K M d pc lv [v] h Q := by
  intro R s m args below meth c H locs cells slots ls z0 q0 hF hx
  intro T hT X
  have hlocks : meth.locks = false := hF.lk
  have hexec := hF.ex
  have hb := hF.cd
  have hrt := hF.rt
  obtain ⟨fs, hret, hrun, hended, hW, hframe⟩ := X.leave (v := some v) (fun q => by rw [hrt, hr] at q; cases q)
  have hmeth' : T.vm.method? m = some meth := X.method'
  obtain ⟨n, rfl⟩ := ht
  have hr' : meth.sig.returnType = some (.object n) := hrt.trans hr
  refine ⟨T.setFrames fs, ?_, .returned (some v), .inl (some v), h, hrun, hended, hW, ⟨locs, cells, slots, hframe, hF.lc, hF.cs.1, hF.cs.2.1⟩, rfl, by (show x_W K h T.heap); rw [hT]; exact hF.w, hF.cs.2.2.1, hF.cs.2.2.2, hq⟩
  rcases x_r_cases hv with ⟨a, rfl⟩ | rfl <;>
    (jvm_step X.here [X.here.top, hexec, hb, hd, hmeth', hr']
     (try refine ⟨rfl, ?_⟩); (try refine ⟨rfl, ?_⟩)
     first | (intro acts; rw [hret _ acts rfl rfl rfl]) | rw [hret _ _ rfl rfl rfl]
     exact Steps.refl _)
end XC
