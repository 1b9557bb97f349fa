section XB
variable {K : x_K} {M : x_M} {d pc pc' : Nat} {lv lv' : List (Option Value)} {st : List Value} {h : x_H} {Q : x_O → x_H → Prop}
/-- what is known of locals may be forgotten -/
theorem go_wk (hl : ∀ (i : Nat) (v : Value), lv'[i]? = some (some v) → lv[i]? = some (some v)) (k : Go K M d pc lv' st h Q) : Go K M d pc lv st h Q := fun R s m args below meth c H locs cells slots ls z0 q0 hF hx =>
  k R s m args below meth c H locs cells slots ls z0 q0 hF ⟨hx.1, hx.2.1, fun i v hv => hx.2.2 i v (hl i v hv)⟩
theorem go_Q {Q' : x_O → x_H → Prop} (hq : ∀ o g, Q' o g → Q o g) (k : Go K M d pc lv st h Q') : Go K M d pc lv st h Q := by
  intro R s m args below meth c H locs cells slots ls z0 q0 hF hx T hT X
  obtain ⟨t, a, o, xo, g, b1, b2, b3, b4, b5, b6, b7, b8, b9⟩ := k R s m args below meth c H locs cells slots ls z0 q0 hF hx T hT X
  exact ⟨t, a, o, xo, g, b1, b2, b3, b4, b5, b6, b7, b8, hq _ _ b9⟩

theorem go_iconst {n : Int} {v : Int32} (hd : decode M.2.1 pc = .ok (.iconst n, 1)) (hv : Int32.ofInt n = v) (hp : pc + 1 = pc') (k : Go K M d pc' lv (.int v :: st) h Q) : Go K M d pc lv (st) h Q := by
  subst hp
  intro R s m args below meth c H locs cells slots ls z0 q0 hF hx
  exact lv_iconst hF.ex hF.cd hd hv (k R s m args below meth c H locs cells slots ls z0 q0 hF hx)
theorem go_bipush {n : Int} {v : Int32} (hd : decode M.2.1 pc = .ok (.bipush n, 2)) (hv : (Int8.ofInt n).toInt32 = v) (hp : pc + 2 = pc') (k : Go K M d pc' lv (.int v :: st) h Q) : Go K M d pc lv (st) h Q := by
  subst hp
  intro R s m args below meth c H locs cells slots ls z0 q0 hF hx
  exact lv_bipush hF.ex hF.cd hd hv (k R s m args below meth c H locs cells slots ls z0 q0 hF hx)
theorem go_sipush {n : Int} {v : Int32} (hd : decode M.2.1 pc = .ok (.sipush n, 3)) (hv : (Int16.ofInt n).toInt32 = v) (hp : pc + 3 = pc') (k : Go K M d pc' lv (.int v :: st) h Q) : Go K M d pc lv (st) h Q := by
  subst hp
  intro R s m args below meth c H locs cells slots ls z0 q0 hF hx
  exact lv_sipush hF.ex hF.cd hd hv (k R s m args below meth c H locs cells slots ls z0 q0 hF hx)
theorem go_lconst {n : Fin 2} {v : Int64} (hd : decode M.2.1 pc = .ok (.lconst n, 1)) (hv : Int64.ofNat (n : Nat) = v) (hp : pc + 1 = pc') (k : Go K M d pc' lv (.long v :: st) h Q) : Go K M d pc lv (st) h Q := by
  subst hp
  intro R s m args below meth c H locs cells slots ls z0 q0 hF hx
  exact lv_lconst hF.ex hF.cd hd hv (k R s m args below meth c H locs cells slots ls z0 q0 hF hx)
theorem go_null (hd : decode M.2.1 pc = .ok (.aconst_null, 1)) (hp : pc + 1 = pc') (k : Go K M d pc' lv (.null :: st) h Q) : Go K M d pc lv (st) h Q := by
  subst hp
  intro R s m args below meth c H locs cells slots ls z0 q0 hF hx
  exact lv_null hF.ex hF.cd hd (k R s m args below meth c H locs cells slots ls z0 q0 hF hx)
theorem go_iadd {x y : Int32} (hd : decode M.2.1 pc = .ok (.iadd, 1)) (hp : pc + 1 = pc') (k : Go K M d pc' lv (.int (x + y) :: st) h Q) : Go K M d pc lv (.int y :: .int x :: st) h Q := by
  subst hp
  intro R s m args below meth c H locs cells slots ls z0 q0 hF hx
  exact lv_iadd hF.ex hF.cd hd (k R s m args below meth c H locs cells slots ls z0 q0 hF hx)
theorem go_isub {x y : Int32} (hd : decode M.2.1 pc = .ok (.isub, 1)) (hp : pc + 1 = pc') (k : Go K M d pc' lv (.int (x - y) :: st) h Q) : Go K M d pc lv (.int y :: .int x :: st) h Q := by
  subst hp
  intro R s m args below meth c H locs cells slots ls z0 q0 hF hx
  exact lv_isub hF.ex hF.cd hd (k R s m args below meth c H locs cells slots ls z0 q0 hF hx)
theorem go_imul {x y : Int32} (hd : decode M.2.1 pc = .ok (.imul, 1)) (hp : pc + 1 = pc') (k : Go K M d pc' lv (.int (x * y) :: st) h Q) : Go K M d pc lv (.int y :: .int x :: st) h Q := by
  subst hp
  intro R s m args below meth c H locs cells slots ls z0 q0 hF hx
  exact lv_imul hF.ex hF.cd hd (k R s m args below meth c H locs cells slots ls z0 q0 hF hx)
theorem go_iand {x y : Int32} (hd : decode M.2.1 pc = .ok (.iand, 1)) (hp : pc + 1 = pc') (k : Go K M d pc' lv (.int (x &&& y) :: st) h Q) : Go K M d pc lv (.int y :: .int x :: st) h Q := by
  subst hp
  intro R s m args below meth c H locs cells slots ls z0 q0 hF hx
  exact lv_iand hF.ex hF.cd hd (k R s m args below meth c H locs cells slots ls z0 q0 hF hx)
theorem go_ior {x y : Int32} (hd : decode M.2.1 pc = .ok (.ior, 1)) (hp : pc + 1 = pc') (k : Go K M d pc' lv (.int (x ||| y) :: st) h Q) : Go K M d pc lv (.int y :: .int x :: st) h Q := by
  subst hp
  intro R s m args below meth c H locs cells slots ls z0 q0 hF hx
  exact lv_ior hF.ex hF.cd hd (k R s m args below meth c H locs cells slots ls z0 q0 hF hx)
theorem go_ixor {x y : Int32} (hd : decode M.2.1 pc = .ok (.ixor, 1)) (hp : pc + 1 = pc') (k : Go K M d pc' lv (.int (x ^^^ y) :: st) h Q) : Go K M d pc lv (.int y :: .int x :: st) h Q := by
  subst hp
  intro R s m args below meth c H locs cells slots ls z0 q0 hF hx
  exact lv_ixor hF.ex hF.cd hd (k R s m args below meth c H locs cells slots ls z0 q0 hF hx)
theorem go_ladd {x y : Int64} (hd : decode M.2.1 pc = .ok (.ladd, 1)) (hp : pc + 1 = pc') (k : Go K M d pc' lv (.long (x + y) :: st) h Q) : Go K M d pc lv (.long y :: .long x :: st) h Q := by
  subst hp
  intro R s m args below meth c H locs cells slots ls z0 q0 hF hx
  exact lv_ladd hF.ex hF.cd hd (k R s m args below meth c H locs cells slots ls z0 q0 hF hx)
theorem go_lsub {x y : Int64} (hd : decode M.2.1 pc = .ok (.lsub, 1)) (hp : pc + 1 = pc') (k : Go K M d pc' lv (.long (x - y) :: st) h Q) : Go K M d pc lv (.long y :: .long x :: st) h Q := by
  subst hp
  intro R s m args below meth c H locs cells slots ls z0 q0 hF hx
  exact lv_lsub hF.ex hF.cd hd (k R s m args below meth c H locs cells slots ls z0 q0 hF hx)
theorem go_lmul {x y : Int64} (hd : decode M.2.1 pc = .ok (.lmul, 1)) (hp : pc + 1 = pc') (k : Go K M d pc' lv (.long (x * y) :: st) h Q) : Go K M d pc lv (.long y :: .long x :: st) h Q := by
  subst hp
  intro R s m args below meth c H locs cells slots ls z0 q0 hF hx
  exact lv_lmul hF.ex hF.cd hd (k R s m args below meth c H locs cells slots ls z0 q0 hF hx)
theorem go_land {x y : Int64} (hd : decode M.2.1 pc = .ok (.land, 1)) (hp : pc + 1 = pc') (k : Go K M d pc' lv (.long (x &&& y) :: st) h Q) : Go K M d pc lv (.long y :: .long x :: st) h Q := by
  subst hp
  intro R s m args below meth c H locs cells slots ls z0 q0 hF hx
  exact lv_land hF.ex hF.cd hd (k R s m args below meth c H locs cells slots ls z0 q0 hF hx)
theorem go_lor {x y : Int64} (hd : decode M.2.1 pc = .ok (.lor, 1)) (hp : pc + 1 = pc') (k : Go K M d pc' lv (.long (x ||| y) :: st) h Q) : Go K M d pc lv (.long y :: .long x :: st) h Q := by
  subst hp
  intro R s m args below meth c H locs cells slots ls z0 q0 hF hx
  exact lv_lor hF.ex hF.cd hd (k R s m args below meth c H locs cells slots ls z0 q0 hF hx)
theorem go_lxor {x y : Int64} (hd : decode M.2.1 pc = .ok (.lxor, 1)) (hp : pc + 1 = pc') (k : Go K M d pc' lv (.long (x ^^^ y) :: st) h Q) : Go K M d pc lv (.long y :: .long x :: st) h Q := by
  subst hp
  intro R s m args below meth c H locs cells slots ls z0 q0 hF hx
  exact lv_lxor hF.ex hF.cd hd (k R s m args below meth c H locs cells slots ls z0 q0 hF hx)
theorem go_ineg {x : Int32} (hd : decode M.2.1 pc = .ok (.ineg, 1)) (hp : pc + 1 = pc') (k : Go K M d pc' lv (.int (-x) :: st) h Q) : Go K M d pc lv (.int x :: st) h Q := by
  subst hp
  intro R s m args below meth c H locs cells slots ls z0 q0 hF hx
  exact lv_ineg hF.ex hF.cd hd (k R s m args below meth c H locs cells slots ls z0 q0 hF hx)
theorem go_ishl {x y : Int32} (hd : decode M.2.1 pc = .ok (.ishl, 1)) (hp : pc + 1 = pc') (k : Go K M d pc' lv (.int (x <<< (y &&& 31)) :: st) h Q) : Go K M d pc lv (.int y :: .int x :: st) h Q := by
  subst hp
  intro R s m args below meth c H locs cells slots ls z0 q0 hF hx
  exact lv_ishl hF.ex hF.cd hd (k R s m args below meth c H locs cells slots ls z0 q0 hF hx)
theorem go_ishr {x y : Int32} (hd : decode M.2.1 pc = .ok (.ishr, 1)) (hp : pc + 1 = pc') (k : Go K M d pc' lv (.int (x >>> (y &&& 31)) :: st) h Q) : Go K M d pc lv (.int y :: .int x :: st) h Q := by
  subst hp
  intro R s m args below meth c H locs cells slots ls z0 q0 hF hx
  exact lv_ishr hF.ex hF.cd hd (k R s m args below meth c H locs cells slots ls z0 q0 hF hx)
theorem go_iushr {x y v : Int32} (hd : decode M.2.1 pc = .ok (.iushr, 1)) (hv : (x.toUInt32 >>> (y.toUInt32 &&& Int32.toUInt32 31)).toInt32 = v) (hp : pc + 1 = pc') (k : Go K M d pc' lv (.int v :: st) h Q) : Go K M d pc lv (.int y :: .int x :: st) h Q := by
  subst hp
  intro R s m args below meth c H locs cells slots ls z0 q0 hF hx
  exact lv_iushr hF.ex hF.cd hd hv (k R s m args below meth c H locs cells slots ls z0 q0 hF hx)
theorem go_lshl {x v : Int64} {y : Int32} (hd : decode M.2.1 pc = .ok (.lshl, 1)) (hv : x <<< (y.toInt64 &&& 63) = v) (hp : pc + 1 = pc') (k : Go K M d pc' lv (.long v :: st) h Q) : Go K M d pc lv (.int y :: .long x :: st) h Q := by
  subst hp
  intro R s m args below meth c H locs cells slots ls z0 q0 hF hx
  exact lv_lshl hF.ex hF.cd hd hv (k R s m args below meth c H locs cells slots ls z0 q0 hF hx)
theorem go_i2l {x : Int32} {v : Int64} (hd : decode M.2.1 pc = .ok (.i2l, 1)) (hv : x.toInt64 = v) (hp : pc + 1 = pc') (k : Go K M d pc' lv (.long v :: st) h Q) : Go K M d pc lv (.int x :: st) h Q := by
  subst hp
  intro R s m args below meth c H locs cells slots ls z0 q0 hF hx
  exact lv_i2l hF.ex hF.cd hd hv (k R s m args below meth c H locs cells slots ls z0 q0 hF hx)
theorem go_dup {va : Value} (hd : decode M.2.1 pc = .ok (.dup, 1)) (hc : va.category = 1) (hp : pc + 1 = pc') (k : Go K M d pc' lv (va :: va :: st) h Q) : Go K M d pc lv (va :: st) h Q := by
  subst hp
  intro R s m args below meth c H locs cells slots ls z0 q0 hF hx
  exact lv_dup hF.ex hF.cd hd hc (k R s m args below meth c H locs cells slots ls z0 q0 hF hx)
theorem go_pop {va : Value} (hd : decode M.2.1 pc = .ok (.pop, 1)) (hc : va.category = 1) (hp : pc + 1 = pc') (k : Go K M d pc' lv (st) h Q) : Go K M d pc lv (va :: st) h Q := by
  subst hp
  intro R s m args below meth c H locs cells slots ls z0 q0 hF hx
  exact lv_pop hF.ex hF.cd hd hc (k R s m args below meth c H locs cells slots ls z0 q0 hF hx)
theorem go_dup_x1 {va vb : Value} (hd : decode M.2.1 pc = .ok (.dup_x1, 1)) (hc : va.category = 1) (hc2 : vb.category = 1) (hp : pc + 1 = pc') (k : Go K M d pc' lv (va :: vb :: va :: st) h Q) : Go K M d pc lv (va :: vb :: st) h Q := by
  subst hp
  intro R s m args below meth c H locs cells slots ls z0 q0 hF hx
  exact lv_dup_x1 hF.ex hF.cd hd hc hc2 (k R s m args below meth c H locs cells slots ls z0 q0 hF hx)
theorem go_dup_x2 {va vb vd : Value} (hd : decode M.2.1 pc = .ok (.dup_x2, 1)) (hc : va.category = 1) (hc2 : vb.category = 1) (hc3 : vd.category = 1) (hp : pc + 1 = pc') (k : Go K M d pc' lv (va :: vb :: vd :: va :: st) h Q) : Go K M d pc lv (va :: vb :: vd :: st) h Q := by
  subst hp
  intro R s m args below meth c H locs cells slots ls z0 q0 hF hx
  exact lv_dup_x2 hF.ex hF.cd hd hc hc2 hc3 (k R s m args below meth c H locs cells slots ls z0 q0 hF hx)
theorem go_dup2 {va vb : Value} (hd : decode M.2.1 pc = .ok (.dup2, 1)) (hc : va.category = 1) (hc2 : vb.category = 1) (hp : pc + 1 = pc') (k : Go K M d pc' lv (va :: vb :: va :: vb :: st) h Q) : Go K M d pc lv (va :: vb :: st) h Q := by
  subst hp
  intro R s m args below meth c H locs cells slots ls z0 q0 hF hx
  exact lv_dup2_11 hF.ex hF.cd hd hc hc2 (k R s m args below meth c H locs cells slots ls z0 q0 hF hx)
theorem go_lcmp {x y : Int64} (hd : decode M.2.1 pc = .ok (.lcmp, 1)) (hp : pc + 1 = pc') (k : Go K M d pc' lv (.int (lg_cmp x y) :: st) h Q) : Go K M d pc lv (.long y :: .long x :: st) h Q := by
  subst hp
  intro R s m args below meth c H locs cells slots ls z0 q0 hF hx
  exact W.lcmp hF.ex hF.cd hd (k R s m args below meth c H locs cells slots ls z0 q0 hF hx)
theorem go_iload_n {j : Fin 4} {i : Nat} {x : Int32} (hd : decode M.2.1 pc = .ok (.iload_n j, 1)) (hi : (j : Nat) = i) (hl : lv[i]? = some (some (.int x))) (hp : pc + 1 = pc') (k : Go K M d pc' lv (.int x :: st) h Q) : Go K M d pc lv st h Q := by
  subst hp
  intro R s m args below meth c H locs cells slots ls z0 q0 hF hx
  exact lv_iload_n hF.ex hF.cd hd hi (hx.2.2 _ _ hl) (k R s m args below meth c H locs cells slots ls z0 q0 hF hx)
theorem go_iload {i : Nat} {x : Int32} (hd : decode M.2.1 pc = .ok (.iload i, 2)) (hl : lv[i]? = some (some (.int x))) (hp : pc + 2 = pc') (k : Go K M d pc' lv (.int x :: st) h Q) : Go K M d pc lv st h Q := by
  subst hp
  intro R s m args below meth c H locs cells slots ls z0 q0 hF hx
  exact lv_iload hF.ex hF.cd hd (hx.2.2 _ _ hl) (k R s m args below meth c H locs cells slots ls z0 q0 hF hx)
theorem go_lload_n {j : Fin 4} {i : Nat} {x : Int64} (hd : decode M.2.1 pc = .ok (.lload_n j, 1)) (hi : (j : Nat) = i) (hl : lv[i]? = some (some (.long x))) (hp : pc + 1 = pc') (k : Go K M d pc' lv (.long x :: st) h Q) : Go K M d pc lv st h Q := by
  subst hp
  intro R s m args below meth c H locs cells slots ls z0 q0 hF hx
  exact lv_lload_n hF.ex hF.cd hd hi (hx.2.2 _ _ hl) (k R s m args below meth c H locs cells slots ls z0 q0 hF hx)
theorem go_lload {i : Nat} {x : Int64} (hd : decode M.2.1 pc = .ok (.lload i, 2)) (hl : lv[i]? = some (some (.long x))) (hp : pc + 2 = pc') (k : Go K M d pc' lv (.long x :: st) h Q) : Go K M d pc lv st h Q := by
  subst hp
  intro R s m args below meth c H locs cells slots ls z0 q0 hF hx
  exact lv_lload hF.ex hF.cd hd (hx.2.2 _ _ hl) (k R s m args below meth c H locs cells slots ls z0 q0 hF hx)
theorem go_aload_n {j : Fin 4} {i : Nat} {v : Value} (hd : decode M.2.1 pc = .ok (.aload_n j, 1)) (hi : (j : Nat) = i) (hl : lv[i]? = some (some v)) (hr : x_r v = true) (hp : pc + 1 = pc') (k : Go K M d pc' lv (v :: st) h Q) : Go K M d pc lv st h Q := by
  subst hp
  intro R s m args below meth c H locs cells slots ls z0 q0 hF hx
  rcases x_r_cases hr with ⟨a, rfl⟩ | rfl
  · exact lv_aload_n hF.ex hF.cd hd hi (hx.2.2 _ _ hl) (k R s m args below meth c H locs cells slots ls z0 q0 hF hx)
  · exact lv_aload_nN hF.ex hF.cd hd hi (hx.2.2 _ _ hl) (k R s m args below meth c H locs cells slots ls z0 q0 hF hx)
theorem go_aload {i : Nat} {v : Value} (hd : decode M.2.1 pc = .ok (.aload i, 2)) (hl : lv[i]? = some (some v)) (hr : x_r v = true) (hp : pc + 2 = pc') (k : Go K M d pc' lv (v :: st) h Q) : Go K M d pc lv st h Q := by
  subst hp
  intro R s m args below meth c H locs cells slots ls z0 q0 hF hx
  rcases x_r_cases hr with ⟨a, rfl⟩ | rfl
  · exact lv_aload hF.ex hF.cd hd (hx.2.2 _ _ hl) (k R s m args below meth c H locs cells slots ls z0 q0 hF hx)
  · exact lv_aloadN hF.ex hF.cd hd (hx.2.2 _ _ hl) (k R s m args below meth c H locs cells slots ls z0 q0 hF hx)
theorem go_istore_n {j : Fin 4} {i : Nat} {x : Int32} (hd : decode M.2.1 pc = .ok (.istore_n j, 1)) (hi : (j : Nat) = i) (hn : i < M.2.2.1) (he : x_st1 lv i (.int x) = lv') (hp : pc + 1 = pc') (k : Go K M d pc' lv' st h Q) : Go K M d pc lv (.int x :: st) h Q := by
  subst hp
  intro R s m args below meth c H locs cells slots ls z0 q0 hF hx
  exact lv_istore_n hF.ex hF.cd hd hi hx.has hn rfl (fun ls' hl' => k R s m args below meth c H locs cells slots ls' z0 q0 hF (x_l.of1 hl' he))
theorem go_istore {i : Nat} {x : Int32} (hd : decode M.2.1 pc = .ok (.istore i, 2)) (hn : i < M.2.2.1) (he : x_st1 lv i (.int x) = lv') (hp : pc + 2 = pc') (k : Go K M d pc' lv' st h Q) : Go K M d pc lv (.int x :: st) h Q := by
  subst hp
  intro R s m args below meth c H locs cells slots ls z0 q0 hF hx
  exact lv_istore hF.ex hF.cd hd hx.has hn rfl (fun ls' hl' => k R s m args below meth c H locs cells slots ls' z0 q0 hF (x_l.of1 hl' he))
theorem go_lstore_n {j : Fin 4} {i : Nat} {x : Int64} (hd : decode M.2.1 pc = .ok (.lstore_n j, 1)) (hi : (j : Nat) = i) (hn : i + 1 < M.2.2.1) (he : x_st2 lv i (.long x) = lv') (hp : pc + 1 = pc') (k : Go K M d pc' lv' st h Q) : Go K M d pc lv (.long x :: st) h Q := by
  subst hp
  intro R s m args below meth c H locs cells slots ls z0 q0 hF hx
  exact lv_lstore_n hF.ex hF.cd hd hi hx.has hn rfl (fun ls' hl' => k R s m args below meth c H locs cells slots ls' z0 q0 hF (x_l.of2 hl' he))
theorem go_lstore {i : Nat} {x : Int64} (hd : decode M.2.1 pc = .ok (.lstore i, 2)) (hn : i + 1 < M.2.2.1) (he : x_st2 lv i (.long x) = lv') (hp : pc + 2 = pc') (k : Go K M d pc' lv' st h Q) : Go K M d pc lv (.long x :: st) h Q := by
  subst hp
  intro R s m args below meth c H locs cells slots ls z0 q0 hF hx
  exact lv_lstore hF.ex hF.cd hd hx.has hn rfl (fun ls' hl' => k R s m args below meth c H locs cells slots ls' z0 q0 hF (x_l.of2 hl' he))
theorem go_astore_n {j : Fin 4} {i : Nat} {v : Value} (hd : decode M.2.1 pc = .ok (.astore_n j, 1)) (hi : (j : Nat) = i) (hn : i < M.2.2.1) (hr : x_r v = true) (he : x_st1 lv i v = lv') (hp : pc + 1 = pc') (k : Go K M d pc' lv' st h Q) : Go K M d pc lv (v :: st) h Q := by
  subst hp
  intro R s m args below meth c H locs cells slots ls z0 q0 hF hx
  rcases x_r_cases hr with ⟨a, rfl⟩ | rfl
  · exact lv_astore_n hF.ex hF.cd hd hi hx.has hn rfl (fun ls' hl' => k R s m args below meth c H locs cells slots ls' z0 q0 hF (x_l.of1 hl' he))
  · exact lv_astore_nN hF.ex hF.cd hd hi hx.has hn rfl (fun ls' hl' => k R s m args below meth c H locs cells slots ls' z0 q0 hF (x_l.of1 hl' he))
theorem go_astore {i : Nat} {v : Value} (hd : decode M.2.1 pc = .ok (.astore i, 2)) (hn : i < M.2.2.1) (hr : x_r v = true) (he : x_st1 lv i v = lv') (hp : pc + 2 = pc') (k : Go K M d pc' lv' st h Q) : Go K M d pc lv (v :: st) h Q := by
  subst hp
  intro R s m args below meth c H locs cells slots ls z0 q0 hF hx
  rcases x_r_cases hr with ⟨a, rfl⟩ | rfl
  · exact lv_astore hF.ex hF.cd hd hx.has hn rfl (fun ls' hl' => k R s m args below meth c H locs cells slots ls' z0 q0 hF (x_l.of1 hl' he))
  · exact lv_astoreN hF.ex hF.cd hd hx.has hn rfl (fun ls' hl' => k R s m args below meth c H locs cells slots ls' z0 q0 hF (x_l.of1 hl' he))
theorem go_iinc {i : Nat} {n : Int} {x v : Int32} (hd : decode M.2.1 pc = .ok (.iinc i n, 3)) (hl : lv[i]? = some (some (.int x))) (hv : x + Int32.ofInt n = v) (hn : i < M.2.2.1) (he : x_st1 lv i (.int v) = lv') (hp : pc + 3 = pc') (k : Go K M d pc' lv' st h Q) : Go K M d pc lv st h Q := by
  subst hp
  intro R s m args below meth c H locs cells slots ls z0 q0 hF hx
  obtain ⟨j, hj⟩ := List.getElem?_of_mem (x_pr_mem.mpr hl)
  exact lv_iinc hF.ex hF.cd hd hx.has hj hv hn rfl (fun ls' hl' => k R s m args below meth c H locs cells slots ls' z0 q0 hF (x_l.of1 hl' he))
theorem go_ldc {i : Nat} {v : Int32} (hd : decode M.2.1 pc = .ok (.ldc i, 2)) (hw : Cond.constant M.1.cls i v ∈ lw_tbl) (hp : pc + 2 = pc') (k : Go K M d pc' lv (.int v :: st) h Q) : Go K M d pc lv st h Q := by
  subst hp
  intro R s m args below meth c H locs cells slots ls z0 q0 hF hx
  exact lv_ldc hF.ex hF.cd hF.ow (hF.wd hw (Or.inl rfl) args) hd (k R s m args below meth c H locs cells slots ls z0 q0 hF hx)
theorem go_ldc2 {i : Nat} {v : Int64} (hd : decode M.2.1 pc = .ok (.ldc2_w i, 3)) (hw : Cond.constantLong M.1.cls i v ∈ lw_tbl) (hp : pc + 3 = pc') (k : Go K M d pc' lv (.long v :: st) h Q) : Go K M d pc lv st h Q := by
  subst hp
  intro R s m args below meth c H locs cells slots ls z0 q0 hF hx
  exact lv_ldc2 hF.ex hF.cd hF.ow (hF.wd hw (Or.inl rfl) args) hd (k R s m args below meth c H locs cells slots ls z0 q0 hF hx)
theorem go_if_eq {x : Int32} {off : Int} {tgt : Nat} (hd : decode M.2.1 pc = .ok (.ifCond .eq off, 3)) (ht : (pc : Int) + off = (tgt : Int)) (hp : pc + 3 = pc') (kt : x = 0 → Go K M d tgt lv st h Q) (kf : ¬ x = 0 → Go K M d pc' lv st h Q) : Go K M d pc lv (.int x :: st) h Q := by
  subst hp
  intro R s m args below meth c H locs cells slots ls z0 q0 hF hx
  exact lv_if_eq hF.ex hF.cd hd ht (fun q => kt q R s m args below meth c H locs cells slots ls z0 q0 hF hx) (fun q => kf q R s m args below meth c H locs cells slots ls z0 q0 hF hx)
theorem go_icmp_eq {x y : Int32} {off : Int} {tgt : Nat} (hd : decode M.2.1 pc = .ok (.if_icmp .eq off, 3)) (ht : (pc : Int) + off = (tgt : Int)) (hp : pc + 3 = pc') (kt : x = y → Go K M d tgt lv st h Q) (kf : ¬ x = y → Go K M d pc' lv st h Q) : Go K M d pc lv (.int y :: .int x :: st) h Q := by
  subst hp
  intro R s m args below meth c H locs cells slots ls z0 q0 hF hx
  exact lv_icmp_eq hF.ex hF.cd hd ht (fun q => kt q R s m args below meth c H locs cells slots ls z0 q0 hF hx) (fun q => kf q R s m args below meth c H locs cells slots ls z0 q0 hF hx)
theorem go_if_ne {x : Int32} {off : Int} {tgt : Nat} (hd : decode M.2.1 pc = .ok (.ifCond .ne off, 3)) (ht : (pc : Int) + off = (tgt : Int)) (hp : pc + 3 = pc') (kt : ¬ x = 0 → Go K M d tgt lv st h Q) (kf : x = 0 → Go K M d pc' lv st h Q) : Go K M d pc lv (.int x :: st) h Q := by
  subst hp
  intro R s m args below meth c H locs cells slots ls z0 q0 hF hx
  exact lv_if_ne hF.ex hF.cd hd ht (fun q => kt q R s m args below meth c H locs cells slots ls z0 q0 hF hx) (fun q => kf q R s m args below meth c H locs cells slots ls z0 q0 hF hx)
theorem go_icmp_ne {x y : Int32} {off : Int} {tgt : Nat} (hd : decode M.2.1 pc = .ok (.if_icmp .ne off, 3)) (ht : (pc : Int) + off = (tgt : Int)) (hp : pc + 3 = pc') (kt : ¬ x = y → Go K M d tgt lv st h Q) (kf : x = y → Go K M d pc' lv st h Q) : Go K M d pc lv (.int y :: .int x :: st) h Q := by
  subst hp
  intro R s m args below meth c H locs cells slots ls z0 q0 hF hx
  exact lv_icmp_ne hF.ex hF.cd hd ht (fun q => kt q R s m args below meth c H locs cells slots ls z0 q0 hF hx) (fun q => kf q R s m args below meth c H locs cells slots ls z0 q0 hF hx)
theorem go_if_lt {x : Int32} {off : Int} {tgt : Nat} (hd : decode M.2.1 pc = .ok (.ifCond .lt off, 3)) (ht : (pc : Int) + off = (tgt : Int)) (hp : pc + 3 = pc') (kt : x < 0 → Go K M d tgt lv st h Q) (kf : ¬ x < 0 → Go K M d pc' lv st h Q) : Go K M d pc lv (.int x :: st) h Q := by
  subst hp
  intro R s m args below meth c H locs cells slots ls z0 q0 hF hx
  exact lv_if_lt hF.ex hF.cd hd ht (fun q => kt q R s m args below meth c H locs cells slots ls z0 q0 hF hx) (fun q => kf q R s m args below meth c H locs cells slots ls z0 q0 hF hx)
theorem go_icmp_lt {x y : Int32} {off : Int} {tgt : Nat} (hd : decode M.2.1 pc = .ok (.if_icmp .lt off, 3)) (ht : (pc : Int) + off = (tgt : Int)) (hp : pc + 3 = pc') (kt : x < y → Go K M d tgt lv st h Q) (kf : ¬ x < y → Go K M d pc' lv st h Q) : Go K M d pc lv (.int y :: .int x :: st) h Q := by
  subst hp
  intro R s m args below meth c H locs cells slots ls z0 q0 hF hx
  exact lv_icmp_lt hF.ex hF.cd hd ht (fun q => kt q R s m args below meth c H locs cells slots ls z0 q0 hF hx) (fun q => kf q R s m args below meth c H locs cells slots ls z0 q0 hF hx)
theorem go_if_ge {x : Int32} {off : Int} {tgt : Nat} (hd : decode M.2.1 pc = .ok (.ifCond .ge off, 3)) (ht : (pc : Int) + off = (tgt : Int)) (hp : pc + 3 = pc') (kt : 0 ≤ x → Go K M d tgt lv st h Q) (kf : ¬ 0 ≤ x → Go K M d pc' lv st h Q) : Go K M d pc lv (.int x :: st) h Q := by
  subst hp
  intro R s m args below meth c H locs cells slots ls z0 q0 hF hx
  exact lv_if_ge hF.ex hF.cd hd ht (fun q => kt q R s m args below meth c H locs cells slots ls z0 q0 hF hx) (fun q => kf q R s m args below meth c H locs cells slots ls z0 q0 hF hx)
theorem go_icmp_ge {x y : Int32} {off : Int} {tgt : Nat} (hd : decode M.2.1 pc = .ok (.if_icmp .ge off, 3)) (ht : (pc : Int) + off = (tgt : Int)) (hp : pc + 3 = pc') (kt : y ≤ x → Go K M d tgt lv st h Q) (kf : ¬ y ≤ x → Go K M d pc' lv st h Q) : Go K M d pc lv (.int y :: .int x :: st) h Q := by
  subst hp
  intro R s m args below meth c H locs cells slots ls z0 q0 hF hx
  exact lv_icmp_ge hF.ex hF.cd hd ht (fun q => kt q R s m args below meth c H locs cells slots ls z0 q0 hF hx) (fun q => kf q R s m args below meth c H locs cells slots ls z0 q0 hF hx)
theorem go_if_gt {x : Int32} {off : Int} {tgt : Nat} (hd : decode M.2.1 pc = .ok (.ifCond .gt off, 3)) (ht : (pc : Int) + off = (tgt : Int)) (hp : pc + 3 = pc') (kt : 0 < x → Go K M d tgt lv st h Q) (kf : ¬ 0 < x → Go K M d pc' lv st h Q) : Go K M d pc lv (.int x :: st) h Q := by
  subst hp
  intro R s m args below meth c H locs cells slots ls z0 q0 hF hx
  exact lv_if_gt hF.ex hF.cd hd ht (fun q => kt q R s m args below meth c H locs cells slots ls z0 q0 hF hx) (fun q => kf q R s m args below meth c H locs cells slots ls z0 q0 hF hx)
theorem go_icmp_gt {x y : Int32} {off : Int} {tgt : Nat} (hd : decode M.2.1 pc = .ok (.if_icmp .gt off, 3)) (ht : (pc : Int) + off = (tgt : Int)) (hp : pc + 3 = pc') (kt : y < x → Go K M d tgt lv st h Q) (kf : ¬ y < x → Go K M d pc' lv st h Q) : Go K M d pc lv (.int y :: .int x :: st) h Q := by
  subst hp
  intro R s m args below meth c H locs cells slots ls z0 q0 hF hx
  exact lv_icmp_gt hF.ex hF.cd hd ht (fun q => kt q R s m args below meth c H locs cells slots ls z0 q0 hF hx) (fun q => kf q R s m args below meth c H locs cells slots ls z0 q0 hF hx)
theorem go_if_le {x : Int32} {off : Int} {tgt : Nat} (hd : decode M.2.1 pc = .ok (.ifCond .le off, 3)) (ht : (pc : Int) + off = (tgt : Int)) (hp : pc + 3 = pc') (kt : x ≤ 0 → Go K M d tgt lv st h Q) (kf : ¬ x ≤ 0 → Go K M d pc' lv st h Q) : Go K M d pc lv (.int x :: st) h Q := by
  subst hp
  intro R s m args below meth c H locs cells slots ls z0 q0 hF hx
  exact lv_if_le hF.ex hF.cd hd ht (fun q => kt q R s m args below meth c H locs cells slots ls z0 q0 hF hx) (fun q => kf q R s m args below meth c H locs cells slots ls z0 q0 hF hx)
theorem go_icmp_le {x y : Int32} {off : Int} {tgt : Nat} (hd : decode M.2.1 pc = .ok (.if_icmp .le off, 3)) (ht : (pc : Int) + off = (tgt : Int)) (hp : pc + 3 = pc') (kt : x ≤ y → Go K M d tgt lv st h Q) (kf : ¬ x ≤ y → Go K M d pc' lv st h Q) : Go K M d pc lv (.int y :: .int x :: st) h Q := by
  subst hp
  intro R s m args below meth c H locs cells slots ls z0 q0 hF hx
  exact lv_icmp_le hF.ex hF.cd hd ht (fun q => kt q R s m args below meth c H locs cells slots ls z0 q0 hF hx) (fun q => kf q R s m args below meth c H locs cells slots ls z0 q0 hF hx)
theorem go_goto {off : Int} {tgt : Nat} (hd : decode M.2.1 pc = .ok (.goto off, 3)) (ht : (pc : Int) + off = (tgt : Int)) (k : Go K M d tgt lv st h Q) : Go K M d pc lv st h Q := by
  intro R s m args below meth c H locs cells slots ls z0 q0 hF hx
  exact lv_goto hF.ex hF.cd hd ht (k R s m args below meth c H locs cells slots ls z0 q0 hF hx)
theorem go_ifnull_r {a : Nat} {off : Int} (hd : decode M.2.1 pc = .ok (.ifnull off, 3)) (hp : pc + 3 = pc') (k : Go K M d pc' lv st h Q) : Go K M d pc lv (.ref a :: st) h Q := by
  subst hp
  intro R s m args below meth c H locs cells slots ls z0 q0 hF hx
  exact lv_ifnull hF.ex hF.cd hd (k R s m args below meth c H locs cells slots ls z0 q0 hF hx)
theorem go_ifnull_n {off : Int} {tgt : Nat} (hd : decode M.2.1 pc = .ok (.ifnull off, 3)) (ht : (pc : Int) + off = (tgt : Int)) (k : Go K M d tgt lv st h Q) : Go K M d pc lv (.null :: st) h Q := by
  intro R s m args below meth c H locs cells slots ls z0 q0 hF hx
  exact lv_ifnullN hF.ex hF.cd hd ht (k R s m args below meth c H locs cells slots ls z0 q0 hF hx)
theorem go_ifnull {o : Option Nat} {off : Int} {tgt : Nat} (hd : decode M.2.1 pc = .ok (.ifnull off, 3)) (ht : (pc : Int) + off = (tgt : Int)) (hp : pc + 3 = pc') (kt : o = none → Go K M d tgt lv st h Q) (kf : ∀ a : Nat, o = some a → Go K M d pc' lv st h Q) : Go K M d pc lv (va_rf o :: st) h Q := by
  cases o with
  | none => exact go_ifnull_n hd ht (kt rfl)
  | some a => exact go_ifnull_r hd hp (kf a rfl)
theorem go_ifnonnull_r {a : Nat} {off : Int} {tgt : Nat} (hd : decode M.2.1 pc = .ok (.ifnonnull off, 3)) (ht : (pc : Int) + off = (tgt : Int)) (k : Go K M d tgt lv st h Q) : Go K M d pc lv (.ref a :: st) h Q := by
  intro R s m args below meth c H locs cells slots ls z0 q0 hF hx
  exact lv_ifnonnull hF.ex hF.cd hd ht (k R s m args below meth c H locs cells slots ls z0 q0 hF hx)
theorem go_ifnonnull_n {off : Int} (hd : decode M.2.1 pc = .ok (.ifnonnull off, 3)) (hp : pc + 3 = pc') (k : Go K M d pc' lv st h Q) : Go K M d pc lv (.null :: st) h Q := by
  subst hp
  intro R s m args below meth c H locs cells slots ls z0 q0 hF hx
  exact lv_ifnonnullN hF.ex hF.cd hd (k R s m args below meth c H locs cells slots ls z0 q0 hF hx)
theorem go_ifnonnull {o : Option Nat} {off : Int} {tgt : Nat} (hd : decode M.2.1 pc = .ok (.ifnonnull off, 3)) (ht : (pc : Int) + off = (tgt : Int)) (hp : pc + 3 = pc') (kt : ∀ a : Nat, o = some a → Go K M d tgt lv st h Q) (kf : o = none → Go K M d pc' lv st h Q) : Go K M d pc lv (va_rf o :: st) h Q := by
  cases o with
  | none => exact go_ifnonnull_n hd hp (kf rfl)
  | some a => exact go_ifnonnull_r hd ht (kt a rfl)
theorem go_acmp_ne {x y : Nat} {off : Int} {tgt : Nat} (hd : decode M.2.1 pc = .ok (.if_acmp .ne off, 3)) (ht : (pc : Int) + off = (tgt : Int)) (hp : pc + 3 = pc') (kt : ¬ x = y → Go K M d tgt lv st h Q) (kf : x = y → Go K M d pc' lv st h Q) : Go K M d pc lv (.ref y :: .ref x :: st) h Q := by
  subst hp
  intro R s m args below meth c H locs cells slots ls z0 q0 hF hx
  exact lv_acmp_ne (rx := some x) (ry := some y) hF.ex hF.cd hd ht (fun q => kt (fun z => q (congrArg some z)) R s m args below meth c H locs cells slots ls z0 q0 hF hx) (fun q => kf (Option.some.inj q) R s m args below meth c H locs cells slots ls z0 q0 hF hx)
theorem go_tableOut {dflt lo hi : Int} {offs : Array Int} {len : Nat} {x : Int32} {tgt : Nat} (hd : decode M.2.1 pc = .ok (.tableswitch dflt lo hi offs, len)) (hb : x.toInt < lo ∨ hi < x.toInt) (ht : (pc : Int) + dflt = (tgt : Int)) (k : Go K M d tgt lv st h Q) : Go K M d pc lv (.int x :: st) h Q := by
  intro R s m args below meth c H locs cells slots ls z0 q0 hF hx
  exact lv_tableOut hF.ex hF.cd hd hb ht (k R s m args below meth c H locs cells slots ls z0 q0 hF hx)
theorem go_tableIn {dflt lo hi : Int} {offs : Array Int} {len : Nat} {x : Int32} {off : Int} {tgt : Nat} (hd : decode M.2.1 pc = .ok (.tableswitch dflt lo hi offs, len)) (h1 : ¬ x.toInt < lo) (h2 : ¬ hi < x.toInt) (ho : offs[(x.toInt - lo).toNat]? = some off) (ht : (pc : Int) + off = (tgt : Int)) (k : Go K M d tgt lv st h Q) : Go K M d pc lv (.int x :: st) h Q := by
  intro R s m args below meth c H locs cells slots ls z0 q0 hF hx
  exact lv_tableIn hF.ex hF.cd hd h1 h2 ho ht (k R s m args below meth c H locs cells slots ls z0 q0 hF hx)
theorem go_ireturn {v : Int32} {ty : FieldType} (hd : decode M.2.1 pc = .ok (.ireturn, 1)) (hr : M.2.2.2.1 = some ty) (hn : narrow ty (.int v) = .int v) (hq : Q (.inl (some (.int v))) h) : Go K M d pc lv [.int v] h Q := by
  intro R s m args below meth c H locs cells slots ls z0 q0 hF hx
  intro T hT X
  have hlocks : meth.locks = false := hF.lk
  have hexec := hF.ex
  have hb := hF.cd
  have hrt := hF.rt
  obtain ⟨fs, hret, hrun, hended, hW, hframe⟩ := X.leave (v := (some (.int v))) (fun q => by first | rfl | (rw [hrt, hr] at q; cases q))
  have hmeth' : T.vm.method? m = some meth := X.method'
  have hr' : meth.sig.returnType = some ty := hrt.trans hr
  refine ⟨T.setFrames fs, ?_, .returned (some (.int v)), .inl (some (.int v)), h, hrun, hended, hW, ⟨locs, cells, slots, hframe, hF.lc, hF.cs.1, hF.cs.2.1⟩, rfl, by (show x_W K h T.heap); rw [hT]; exact hF.w, hF.cs.2.2.1, hF.cs.2.2.2, hq⟩
  jvm_step X.here [X.here.top, hexec, hb, hd, hmeth', hr', hn]
  (try refine ⟨rfl, ?_⟩); (try refine ⟨rfl, ?_⟩)
  first | (intro acts; rw [hret _ acts rfl rfl rfl]) | rw [hret _ _ rfl rfl rfl]
  exact Steps.refl _
theorem go_lreturn {v : Int64} (hd : decode M.2.1 pc = .ok (.lreturn, 1)) (hr : M.2.2.2.1 = some .long) (hq : Q (.inl (some (.long v))) h) : Go K M d pc lv [.long v] h Q := by
  intro R s m args below meth c H locs cells slots ls z0 q0 hF hx
  intro T hT X
  have hlocks : meth.locks = false := hF.lk
  have hexec := hF.ex
  have hb := hF.cd
  have hrt := hF.rt
  obtain ⟨fs, hret, hrun, hended, hW, hframe⟩ := X.leave (v := (some (.long v))) (fun q => by first | rfl | (rw [hrt, hr] at q; cases q))
  have hmeth' : T.vm.method? m = some meth := X.method'
  have hr' : meth.sig.returnType = some .long := hrt.trans hr
  refine ⟨T.setFrames fs, ?_, .returned (some (.long v)), .inl (some (.long v)), h, hrun, hended, hW, ⟨locs, cells, slots, hframe, hF.lc, hF.cs.1, hF.cs.2.1⟩, rfl, by (show x_W K h T.heap); rw [hT]; exact hF.w, hF.cs.2.2.1, hF.cs.2.2.2, hq⟩
  jvm_step X.here [X.here.top, hexec, hb, hd, hmeth', hr']
  (try refine ⟨rfl, ?_⟩); (try refine ⟨rfl, ?_⟩)
  first | (intro acts; rw [hret _ acts rfl rfl rfl]) | rw [hret _ _ rfl rfl rfl]
  exact Steps.refl _
theorem go_return (hd : decode M.2.1 pc = .ok (.return_, 1)) (hr : M.2.2.2.1 = none) (hq : Q (.inl none) h) : Go K M d pc lv [] h Q := by
  intro R s m args below meth c H locs cells slots ls z0 q0 hF hx
  intro T hT X
  have hlocks : meth.locks = false := hF.lk
  have hexec := hF.ex
  have hb := hF.cd
  have hrt := hF.rt
  obtain ⟨fs, hret, hrun, hended, hW, hframe⟩ := X.leave (v := none) (fun q => by first | rfl | (rw [hrt, hr] at q; cases q))
  have hmeth' : T.vm.method? m = some meth := X.method'
  have hr' : meth.sig.returnType = none := hrt.trans hr
  refine ⟨T.setFrames fs, ?_, .returned none, .inl none, h, hrun, hended, hW, ⟨locs, cells, slots, hframe, hF.lc, hF.cs.1, hF.cs.2.1⟩, rfl, by (show x_W K h T.heap); rw [hT]; exact hF.w, hF.cs.2.2.1, hF.cs.2.2.2, hq⟩
  jvm_step X.here [X.here.top, hexec, hb, hd, hmeth', hr']
  (try refine ⟨rfl, ?_⟩); (try refine ⟨rfl, ?_⟩)
  first | (intro acts; rw [hret _ acts rfl rfl rfl]) | rw [hret _ _ rfl rfl rfl]
  exact Steps.refl _
end XB
theorem x_s0 { x : Option Value} {r : List (Option Value)} {v : Value} : x_st1 (x :: r) 0 v = some v :: r := by simp [x_st1]
theorem x_t0 { x y : Option Value} {r : List (Option Value)} {v : Value} : x_st2 (x :: y :: r) 0 v = some v :: none :: r := by simp [x_st2]
theorem x_s1 {a0 x : Option Value} {r : List (Option Value)} {v : Value} (hc : x_k a0 = a0) : x_st1 (a0 :: x :: r) 1 v = a0 :: some v :: r := by simp [x_st1, hc]
theorem x_t1 {a0 x y : Option Value} {r : List (Option Value)} {v : Value} (hc : x_k a0 = a0) : x_st2 (a0 :: x :: y :: r) 1 v = a0 :: some v :: none :: r := by simp [x_st2, hc]
theorem x_s2 {a0 a1 x : Option Value} {r : List (Option Value)} {v : Value} (hc : x_k a1 = a1) : x_st1 (a0 :: a1 :: x :: r) 2 v = a0 :: a1 :: some v :: r := by simp [x_st1, hc]
theorem x_t2 {a0 a1 x y : Option Value} {r : List (Option Value)} {v : Value} (hc : x_k a1 = a1) : x_st2 (a0 :: a1 :: x :: y :: r) 2 v = a0 :: a1 :: some v :: none :: r := by simp [x_st2, hc]
theorem x_s3 {a0 a1 a2 x : Option Value} {r : List (Option Value)} {v : Value} (hc : x_k a2 = a2) : x_st1 (a0 :: a1 :: a2 :: x :: r) 3 v = a0 :: a1 :: a2 :: some v :: r := by simp [x_st1, hc]
theorem x_t3 {a0 a1 a2 x y : Option Value} {r : List (Option Value)} {v : Value} (hc : x_k a2 = a2) : x_st2 (a0 :: a1 :: a2 :: x :: y :: r) 3 v = a0 :: a1 :: a2 :: some v :: none :: r := by simp [x_st2, hc]
theorem x_s4 {a0 a1 a2 a3 x : Option Value} {r : List (Option Value)} {v : Value} (hc : x_k a3 = a3) : x_st1 (a0 :: a1 :: a2 :: a3 :: x :: r) 4 v = a0 :: a1 :: a2 :: a3 :: some v :: r := by simp [x_st1, hc]
theorem x_t4 {a0 a1 a2 a3 x y : Option Value} {r : List (Option Value)} {v : Value} (hc : x_k a3 = a3) : x_st2 (a0 :: a1 :: a2 :: a3 :: x :: y :: r) 4 v = a0 :: a1 :: a2 :: a3 :: some v :: none :: r := by simp [x_st2, hc]
theorem x_s5 {a0 a1 a2 a3 a4 x : Option Value} {r : List (Option Value)} {v : Value} (hc : x_k a4 = a4) : x_st1 (a0 :: a1 :: a2 :: a3 :: a4 :: x :: r) 5 v = a0 :: a1 :: a2 :: a3 :: a4 :: some v :: r := by simp [x_st1, hc]
theorem x_t5 {a0 a1 a2 a3 a4 x y : Option Value} {r : List (Option Value)} {v : Value} (hc : x_k a4 = a4) : x_st2 (a0 :: a1 :: a2 :: a3 :: a4 :: x :: y :: r) 5 v = a0 :: a1 :: a2 :: a3 :: a4 :: some v :: none :: r := by simp [x_st2, hc]
theorem x_s6 {a0 a1 a2 a3 a4 a5 x : Option Value} {r : List (Option Value)} {v : Value} (hc : x_k a5 = a5) : x_st1 (a0 :: a1 :: a2 :: a3 :: a4 :: a5 :: x :: r) 6 v = a0 :: a1 :: a2 :: a3 :: a4 :: a5 :: some v :: r := by simp [x_st1, hc]
theorem x_t6 {a0 a1 a2 a3 a4 a5 x y : Option Value} {r : List (Option Value)} {v : Value} (hc : x_k a5 = a5) : x_st2 (a0 :: a1 :: a2 :: a3 :: a4 :: a5 :: x :: y :: r) 6 v = a0 :: a1 :: a2 :: a3 :: a4 :: a5 :: some v :: none :: r := by simp [x_st2, hc]
theorem x_s7 {a0 a1 a2 a3 a4 a5 a6 x : Option Value} {r : List (Option Value)} {v : Value} (hc : x_k a6 = a6) : x_st1 (a0 :: a1 :: a2 :: a3 :: a4 :: a5 :: a6 :: x :: r) 7 v = a0 :: a1 :: a2 :: a3 :: a4 :: a5 :: a6 :: some v :: r := by simp [x_st1, hc]
theorem x_t7 {a0 a1 a2 a3 a4 a5 a6 x y : Option Value} {r : List (Option Value)} {v : Value} (hc : x_k a6 = a6) : x_st2 (a0 :: a1 :: a2 :: a3 :: a4 :: a5 :: a6 :: x :: y :: r) 7 v = a0 :: a1 :: a2 :: a3 :: a4 :: a5 :: a6 :: some v :: none :: r := by simp [x_st2, hc]
theorem x_s8 {a0 a1 a2 a3 a4 a5 a6 a7 x : Option Value} {r : List (Option Value)} {v : Value} (hc : x_k a7 = a7) : x_st1 (a0 :: a1 :: a2 :: a3 :: a4 :: a5 :: a6 :: a7 :: x :: r) 8 v = a0 :: a1 :: a2 :: a3 :: a4 :: a5 :: a6 :: a7 :: some v :: r := by simp [x_st1, hc]
theorem x_t8 {a0 a1 a2 a3 a4 a5 a6 a7 x y : Option Value} {r : List (Option Value)} {v : Value} (hc : x_k a7 = a7) : x_st2 (a0 :: a1 :: a2 :: a3 :: a4 :: a5 :: a6 :: a7 :: x :: y :: r) 8 v = a0 :: a1 :: a2 :: a3 :: a4 :: a5 :: a6 :: a7 :: some v :: none :: r := by simp [x_st2, hc]
theorem x_s9 {a0 a1 a2 a3 a4 a5 a6 a7 a8 x : Option Value} {r : List (Option Value)} {v : Value} (hc : x_k a8 = a8) : x_st1 (a0 :: a1 :: a2 :: a3 :: a4 :: a5 :: a6 :: a7 :: a8 :: x :: r) 9 v = a0 :: a1 :: a2 :: a3 :: a4 :: a5 :: a6 :: a7 :: a8 :: some v :: r := by simp [x_st1, hc]
theorem x_t9 {a0 a1 a2 a3 a4 a5 a6 a7 a8 x y : Option Value} {r : List (Option Value)} {v : Value} (hc : x_k a8 = a8) : x_st2 (a0 :: a1 :: a2 :: a3 :: a4 :: a5 :: a6 :: a7 :: a8 :: x :: y :: r) 9 v = a0 :: a1 :: a2 :: a3 :: a4 :: a5 :: a6 :: a7 :: a8 :: some v :: none :: r := by simp [x_st2, hc]
theorem x_s10 {a0 a1 a2 a3 a4 a5 a6 a7 a8 a9 x : Option Value} {r : List (Option Value)} {v : Value} (hc : x_k a9 = a9) : x_st1 (a0 :: a1 :: a2 :: a3 :: a4 :: a5 :: a6 :: a7 :: a8 :: a9 :: x :: r) 10 v = a0 :: a1 :: a2 :: a3 :: a4 :: a5 :: a6 :: a7 :: a8 :: a9 :: some v :: r := by simp [x_st1, hc]
theorem x_t10 {a0 a1 a2 a3 a4 a5 a6 a7 a8 a9 x y : Option Value} {r : List (Option Value)} {v : Value} (hc : x_k a9 = a9) : x_st2 (a0 :: a1 :: a2 :: a3 :: a4 :: a5 :: a6 :: a7 :: a8 :: a9 :: x :: y :: r) 10 v = a0 :: a1 :: a2 :: a3 :: a4 :: a5 :: a6 :: a7 :: a8 :: a9 :: some v :: none :: r := by simp [x_st2, hc]
theorem x_s11 {a0 a1 a2 a3 a4 a5 a6 a7 a8 a9 a10 x : Option Value} {r : List (Option Value)} {v : Value} (hc : x_k a10 = a10) : x_st1 (a0 :: a1 :: a2 :: a3 :: a4 :: a5 :: a6 :: a7 :: a8 :: a9 :: a10 :: x :: r) 11 v = a0 :: a1 :: a2 :: a3 :: a4 :: a5 :: a6 :: a7 :: a8 :: a9 :: a10 :: some v :: r := by simp [x_st1, hc]
theorem x_t11 {a0 a1 a2 a3 a4 a5 a6 a7 a8 a9 a10 x y : Option Value} {r : List (Option Value)} {v : Value} (hc : x_k a10 = a10) : x_st2 (a0 :: a1 :: a2 :: a3 :: a4 :: a5 :: a6 :: a7 :: a8 :: a9 :: a10 :: x :: y :: r) 11 v = a0 :: a1 :: a2 :: a3 :: a4 :: a5 :: a6 :: a7 :: a8 :: a9 :: a10 :: some v :: none :: r := by simp [x_st2, hc]
theorem x_s12 {a0 a1 a2 a3 a4 a5 a6 a7 a8 a9 a10 a11 x : Option Value} {r : List (Option Value)} {v : Value} (hc : x_k a11 = a11) : x_st1 (a0 :: a1 :: a2 :: a3 :: a4 :: a5 :: a6 :: a7 :: a8 :: a9 :: a10 :: a11 :: x :: r) 12 v = a0 :: a1 :: a2 :: a3 :: a4 :: a5 :: a6 :: a7 :: a8 :: a9 :: a10 :: a11 :: some v :: r := by simp [x_st1, hc]
theorem x_t12 {a0 a1 a2 a3 a4 a5 a6 a7 a8 a9 a10 a11 x y : Option Value} {r : List (Option Value)} {v : Value} (hc : x_k a11 = a11) : x_st2 (a0 :: a1 :: a2 :: a3 :: a4 :: a5 :: a6 :: a7 :: a8 :: a9 :: a10 :: a11 :: x :: y :: r) 12 v = a0 :: a1 :: a2 :: a3 :: a4 :: a5 :: a6 :: a7 :: a8 :: a9 :: a10 :: a11 :: some v :: none :: r := by simp [x_st2, hc]
theorem x_s13 {a0 a1 a2 a3 a4 a5 a6 a7 a8 a9 a10 a11 a12 x : Option Value} {r : List (Option Value)} {v : Value} (hc : x_k a12 = a12) : x_st1 (a0 :: a1 :: a2 :: a3 :: a4 :: a5 :: a6 :: a7 :: a8 :: a9 :: a10 :: a11 :: a12 :: x :: r) 13 v = a0 :: a1 :: a2 :: a3 :: a4 :: a5 :: a6 :: a7 :: a8 :: a9 :: a10 :: a11 :: a12 :: some v :: r := by simp [x_st1, hc]
theorem x_t13 {a0 a1 a2 a3 a4 a5 a6 a7 a8 a9 a10 a11 a12 x y : Option Value} {r : List (Option Value)} {v : Value} (hc : x_k a12 = a12) : x_st2 (a0 :: a1 :: a2 :: a3 :: a4 :: a5 :: a6 :: a7 :: a8 :: a9 :: a10 :: a11 :: a12 :: x :: y :: r) 13 v = a0 :: a1 :: a2 :: a3 :: a4 :: a5 :: a6 :: a7 :: a8 :: a9 :: a10 :: a11 :: a12 :: some v :: none :: r := by simp [x_st2, hc]
theorem x_s14 {a0 a1 a2 a3 a4 a5 a6 a7 a8 a9 a10 a11 a12 a13 x : Option Value} {r : List (Option Value)} {v : Value} (hc : x_k a13 = a13) : x_st1 (a0 :: a1 :: a2 :: a3 :: a4 :: a5 :: a6 :: a7 :: a8 :: a9 :: a10 :: a11 :: a12 :: a13 :: x :: r) 14 v = a0 :: a1 :: a2 :: a3 :: a4 :: a5 :: a6 :: a7 :: a8 :: a9 :: a10 :: a11 :: a12 :: a13 :: some v :: r := by simp [x_st1, hc]
theorem x_t14 {a0 a1 a2 a3 a4 a5 a6 a7 a8 a9 a10 a11 a12 a13 x y : Option Value} {r : List (Option Value)} {v : Value} (hc : x_k a13 = a13) : x_st2 (a0 :: a1 :: a2 :: a3 :: a4 :: a5 :: a6 :: a7 :: a8 :: a9 :: a10 :: a11 :: a12 :: a13 :: x :: y :: r) 14 v = a0 :: a1 :: a2 :: a3 :: a4 :: a5 :: a6 :: a7 :: a8 :: a9 :: a10 :: a11 :: a12 :: a13 :: some v :: none :: r := by simp [x_st2, hc]
theorem x_s15 {a0 a1 a2 a3 a4 a5 a6 a7 a8 a9 a10 a11 a12 a13 a14 x : Option Value} {r : List (Option Value)} {v : Value} (hc : x_k a14 = a14) : x_st1 (a0 :: a1 :: a2 :: a3 :: a4 :: a5 :: a6 :: a7 :: a8 :: a9 :: a10 :: a11 :: a12 :: a13 :: a14 :: x :: r) 15 v = a0 :: a1 :: a2 :: a3 :: a4 :: a5 :: a6 :: a7 :: a8 :: a9 :: a10 :: a11 :: a12 :: a13 :: a14 :: some v :: r := by simp [x_st1, hc]
theorem x_t15 {a0 a1 a2 a3 a4 a5 a6 a7 a8 a9 a10 a11 a12 a13 a14 x y : Option Value} {r : List (Option Value)} {v : Value} (hc : x_k a14 = a14) : x_st2 (a0 :: a1 :: a2 :: a3 :: a4 :: a5 :: a6 :: a7 :: a8 :: a9 :: a10 :: a11 :: a12 :: a13 :: a14 :: x :: y :: r) 15 v = a0 :: a1 :: a2 :: a3 :: a4 :: a5 :: a6 :: a7 :: a8 :: a9 :: a10 :: a11 :: a12 :: a13 :: a14 :: some v :: none :: r := by simp [x_st2, hc]
theorem x_s16 {a0 a1 a2 a3 a4 a5 a6 a7 a8 a9 a10 a11 a12 a13 a14 a15 x : Option Value} {r : List (Option Value)} {v : Value} (hc : x_k a15 = a15) : x_st1 (a0 :: a1 :: a2 :: a3 :: a4 :: a5 :: a6 :: a7 :: a8 :: a9 :: a10 :: a11 :: a12 :: a13 :: a14 :: a15 :: x :: r) 16 v = a0 :: a1 :: a2 :: a3 :: a4 :: a5 :: a6 :: a7 :: a8 :: a9 :: a10 :: a11 :: a12 :: a13 :: a14 :: a15 :: some v :: r := by simp [x_st1, hc]
theorem x_t16 {a0 a1 a2 a3 a4 a5 a6 a7 a8 a9 a10 a11 a12 a13 a14 a15 x y : Option Value} {r : List (Option Value)} {v : Value} (hc : x_k a15 = a15) : x_st2 (a0 :: a1 :: a2 :: a3 :: a4 :: a5 :: a6 :: a7 :: a8 :: a9 :: a10 :: a11 :: a12 :: a13 :: a14 :: a15 :: x :: y :: r) 16 v = a0 :: a1 :: a2 :: a3 :: a4 :: a5 :: a6 :: a7 :: a8 :: a9 :: a10 :: a11 :: a12 :: a13 :: a14 :: a15 :: some v :: none :: r := by simp [x_st2, hc]
theorem x_s17 {a0 a1 a2 a3 a4 a5 a6 a7 a8 a9 a10 a11 a12 a13 a14 a15 a16 x : Option Value} {r : List (Option Value)} {v : Value} (hc : x_k a16 = a16) : x_st1 (a0 :: a1 :: a2 :: a3 :: a4 :: a5 :: a6 :: a7 :: a8 :: a9 :: a10 :: a11 :: a12 :: a13 :: a14 :: a15 :: a16 :: x :: r) 17 v = a0 :: a1 :: a2 :: a3 :: a4 :: a5 :: a6 :: a7 :: a8 :: a9 :: a10 :: a11 :: a12 :: a13 :: a14 :: a15 :: a16 :: some v :: r := by simp [x_st1, hc]
theorem x_t17 {a0 a1 a2 a3 a4 a5 a6 a7 a8 a9 a10 a11 a12 a13 a14 a15 a16 x y : Option Value} {r : List (Option Value)} {v : Value} (hc : x_k a16 = a16) : x_st2 (a0 :: a1 :: a2 :: a3 :: a4 :: a5 :: a6 :: a7 :: a8 :: a9 :: a10 :: a11 :: a12 :: a13 :: a14 :: a15 :: a16 :: x :: y :: r) 17 v = a0 :: a1 :: a2 :: a3 :: a4 :: a5 :: a6 :: a7 :: a8 :: a9 :: a10 :: a11 :: a12 :: a13 :: a14 :: a15 :: a16 :: some v :: none :: r := by simp [x_st2, hc]
theorem x_s18 {a0 a1 a2 a3 a4 a5 a6 a7 a8 a9 a10 a11 a12 a13 a14 a15 a16 a17 x : Option Value} {r : List (Option Value)} {v : Value} (hc : x_k a17 = a17) : x_st1 (a0 :: a1 :: a2 :: a3 :: a4 :: a5 :: a6 :: a7 :: a8 :: a9 :: a10 :: a11 :: a12 :: a13 :: a14 :: a15 :: a16 :: a17 :: x :: r) 18 v = a0 :: a1 :: a2 :: a3 :: a4 :: a5 :: a6 :: a7 :: a8 :: a9 :: a10 :: a11 :: a12 :: a13 :: a14 :: a15 :: a16 :: a17 :: some v :: r := by simp [x_st1, hc]
theorem x_t18 {a0 a1 a2 a3 a4 a5 a6 a7 a8 a9 a10 a11 a12 a13 a14 a15 a16 a17 x y : Option Value} {r : List (Option Value)} {v : Value} (hc : x_k a17 = a17) : x_st2 (a0 :: a1 :: a2 :: a3 :: a4 :: a5 :: a6 :: a7 :: a8 :: a9 :: a10 :: a11 :: a12 :: a13 :: a14 :: a15 :: a16 :: a17 :: x :: y :: r) 18 v = a0 :: a1 :: a2 :: a3 :: a4 :: a5 :: a6 :: a7 :: a8 :: a9 :: a10 :: a11 :: a12 :: a13 :: a14 :: a15 :: a16 :: a17 :: some v :: none :: r := by simp [x_st2, hc]
theorem x_s19 {a0 a1 a2 a3 a4 a5 a6 a7 a8 a9 a10 a11 a12 a13 a14 a15 a16 a17 a18 x : Option Value} {r : List (Option Value)} {v : Value} (hc : x_k a18 = a18) : x_st1 (a0 :: a1 :: a2 :: a3 :: a4 :: a5 :: a6 :: a7 :: a8 :: a9 :: a10 :: a11 :: a12 :: a13 :: a14 :: a15 :: a16 :: a17 :: a18 :: x :: r) 19 v = a0 :: a1 :: a2 :: a3 :: a4 :: a5 :: a6 :: a7 :: a8 :: a9 :: a10 :: a11 :: a12 :: a13 :: a14 :: a15 :: a16 :: a17 :: a18 :: some v :: r := by simp [x_st1, hc]
theorem x_t19 {a0 a1 a2 a3 a4 a5 a6 a7 a8 a9 a10 a11 a12 a13 a14 a15 a16 a17 a18 x y : Option Value} {r : List (Option Value)} {v : Value} (hc : x_k a18 = a18) : x_st2 (a0 :: a1 :: a2 :: a3 :: a4 :: a5 :: a6 :: a7 :: a8 :: a9 :: a10 :: a11 :: a12 :: a13 :: a14 :: a15 :: a16 :: a17 :: a18 :: x :: y :: r) 19 v = a0 :: a1 :: a2 :: a3 :: a4 :: a5 :: a6 :: a7 :: a8 :: a9 :: a10 :: a11 :: a12 :: a13 :: a14 :: a15 :: a16 :: a17 :: a18 :: some v :: none :: r := by simp [x_st2, hc]
theorem x_s20 {a0 a1 a2 a3 a4 a5 a6 a7 a8 a9 a10 a11 a12 a13 a14 a15 a16 a17 a18 a19 x : Option Value} {r : List (Option Value)} {v : Value} (hc : x_k a19 = a19) : x_st1 (a0 :: a1 :: a2 :: a3 :: a4 :: a5 :: a6 :: a7 :: a8 :: a9 :: a10 :: a11 :: a12 :: a13 :: a14 :: a15 :: a16 :: a17 :: a18 :: a19 :: x :: r) 20 v = a0 :: a1 :: a2 :: a3 :: a4 :: a5 :: a6 :: a7 :: a8 :: a9 :: a10 :: a11 :: a12 :: a13 :: a14 :: a15 :: a16 :: a17 :: a18 :: a19 :: some v :: r := by simp [x_st1, hc]
theorem x_t20 {a0 a1 a2 a3 a4 a5 a6 a7 a8 a9 a10 a11 a12 a13 a14 a15 a16 a17 a18 a19 x y : Option Value} {r : List (Option Value)} {v : Value} (hc : x_k a19 = a19) : x_st2 (a0 :: a1 :: a2 :: a3 :: a4 :: a5 :: a6 :: a7 :: a8 :: a9 :: a10 :: a11 :: a12 :: a13 :: a14 :: a15 :: a16 :: a17 :: a18 :: a19 :: x :: y :: r) 20 v = a0 :: a1 :: a2 :: a3 :: a4 :: a5 :: a6 :: a7 :: a8 :: a9 :: a10 :: a11 :: a12 :: a13 :: a14 :: a15 :: a16 :: a17 :: a18 :: a19 :: some v :: none :: r := by simp [x_st2, hc]
theorem x_s21 {a0 a1 a2 a3 a4 a5 a6 a7 a8 a9 a10 a11 a12 a13 a14 a15 a16 a17 a18 a19 a20 x : Option Value} {r : List (Option Value)} {v : Value} (hc : x_k a20 = a20) : x_st1 (a0 :: a1 :: a2 :: a3 :: a4 :: a5 :: a6 :: a7 :: a8 :: a9 :: a10 :: a11 :: a12 :: a13 :: a14 :: a15 :: a16 :: a17 :: a18 :: a19 :: a20 :: x :: r) 21 v = a0 :: a1 :: a2 :: a3 :: a4 :: a5 :: a6 :: a7 :: a8 :: a9 :: a10 :: a11 :: a12 :: a13 :: a14 :: a15 :: a16 :: a17 :: a18 :: a19 :: a20 :: some v :: r := by simp [x_st1, hc]
theorem x_t21 {a0 a1 a2 a3 a4 a5 a6 a7 a8 a9 a10 a11 a12 a13 a14 a15 a16 a17 a18 a19 a20 x y : Option Value} {r : List (Option Value)} {v : Value} (hc : x_k a20 = a20) : x_st2 (a0 :: a1 :: a2 :: a3 :: a4 :: a5 :: a6 :: a7 :: a8 :: a9 :: a10 :: a11 :: a12 :: a13 :: a14 :: a15 :: a16 :: a17 :: a18 :: a19 :: a20 :: x :: y :: r) 21 v = a0 :: a1 :: a2 :: a3 :: a4 :: a5 :: a6 :: a7 :: a8 :: a9 :: a10 :: a11 :: a12 :: a13 :: a14 :: a15 :: a16 :: a17 :: a18 :: a19 :: a20 :: some v :: none :: r := by simp [x_st2, hc]
