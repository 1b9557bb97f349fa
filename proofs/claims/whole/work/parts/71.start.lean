/-! the start: the classes, the arrays, the exceptions as the tables have them -/
section WS
variable {s : State} {args : Array Value}
theorem ws_cls (hts : ∀ w ∈ lw_tbl, w.before args s = true) {ci n : Nat} {C : String} {T : u_T} {N : Nat} {ty : Nat → FieldType} (hc : x_cl ci C T N ty) (hi : Cond.instantiable C n ∈ lw_tbl) : ∃ q : ClassId × (Nat → Nat), ∀ r, vwCl[ci]? = some r → u_Kn s r.1 r.2.1 r.2.2 q.1 q.2 := by
  obtain ⟨cC, iS, h⟩ := u_known hts hc.2.1 (hts _ hi)
  refine ⟨(cC, iS), fun r hr => ?_⟩
  rw [hc.1] at hr
  cases hr
  exact h
theorem ws_known (hts : ∀ w ∈ lw_tbl, w.before args s = true) : ∀ i : Nat, ∃ q : ClassId × (Nat → Nat), ∀ r, vwCl[i]? = some r → u_Kn s r.1 r.2.1 r.2.2 q.1 q.2
  | 0 => ws_cls hts c_Cur t_403
  | 1 => ws_cls hts c_Ent t_270
  | 2 => ws_cls hts c_Nod t_30
  | 3 => ws_cls hts c_Tal t_210
  | 4 => ws_cls hts c_Map t_28
  | 5 => ws_cls hts c_Tri t_17
  | 6 => ws_cls hts c_Mod t_466
  | i + 7 => ⟨(0, fun _ => 0), fun r hr => by cases hr⟩
theorem ws_arr (hts : ∀ w ∈ lw_tbl, w.before args s = true) {t : FieldType} (hp : ∀ C, t ≠ .object C) (hw : Cond.arrayClass t ∈ lw_tbl) : ∃ cA : ClassId, ArrOfT s cA t ∧ va_RA s cA t := by
  obtain ⟨cA, kA, comp, h1, h2, h3⟩ := Cond.arrayClass_spec (hts _ hw)
  refine ⟨cA, fun n z => ⟨fun k h => (by cases h), kA, h2, comp, h3⟩, ?_⟩
  cases t with
  | object C => exact absurd rfl (hp C)
  | _ => exact h1
theorem ws_arq (hts : ∀ w ∈ lw_tbl, w.before args s = true) {C : String} (hw : Cond.arrayOver (.object C) ∈ lw_tbl) : ∃ cA : ClassId, ArrOfT s cA (.object C) ∧ va_RA s cA (.object C) := by
  obtain ⟨comp, c, k, h1, -, h3, h4, h5⟩ := Cond.arrayOver_spec (hts _ hw)
  exact ⟨c, fun n z => ⟨fun k h => (by cases h), k, h3, comp, h4⟩, k, comp, h3, h4, h1, h5⟩
theorem ws_exc (hts : ∀ w ∈ lw_tbl, w.before args s = true) {nm : String} (hw : Cond.castable nm nm ∈ lw_tbl) : ∃ c : ClassId, s.vm.findClass nm = some c := by
  obtain ⟨c3, c4, hc3, hc4, hasg⟩ := Cond.castable_spec (hts _ hw)
  exact ⟨c3, hc3⟩
theorem ws_ca (hts : ∀ w ∈ lw_tbl, w.before args s = true) (k : Nat) : ∃ cA : ClassId, (∀ ty, x_ty k = some ty → ArrOfT s cA ty ∧ va_RA s cA ty) ∧ ∀ nm, x_ex k = some nm → s.vm.findClass nm = some cA := by
  have A : ∀ t, x_ty k = some t → x_ex k = none → (∃ cA : ClassId, ArrOfT s cA t ∧ va_RA s cA t) → ∃ cA : ClassId, (∀ ty, x_ty k = some ty → ArrOfT s cA ty ∧ va_RA s cA ty) ∧ ∀ nm, x_ex k = some nm → s.vm.findClass nm = some cA := fun t h1 h2 ⟨cA, h⟩ =>
    ⟨cA, fun ty hty => (by rw [h1] at hty; cases hty; exact h), fun nm hnm => (by rw [h2] at hnm; cases hnm)⟩
  have E : ∀ nm, x_ty k = none → x_ex k = some nm → (∃ c : ClassId, s.vm.findClass nm = some c) → ∃ cA : ClassId, (∀ ty, x_ty k = some ty → ArrOfT s cA ty ∧ va_RA s cA ty) ∧ ∀ nm, x_ex k = some nm → s.vm.findClass nm = some cA := fun nm h1 h2 ⟨c, h⟩ =>
    ⟨c, fun ty hty => (by rw [h1] at hty; cases hty), fun nm' hnm => (by rw [h2] at hnm; cases hnm; exact h)⟩
  match k with
  | 0 => exact A _ rfl rfl (ws_arr hts (fun C => by intro e; cases e) t_419)
  | 1 => exact A _ rfl rfl (ws_arr hts (fun C => by intro e; cases e) t_521)
  | 2 => exact A _ rfl rfl (ws_arr hts (fun C => by intro e; cases e) t_520)
  | 3 => exact A _ rfl rfl (ws_arq hts t_36)
  | 4 => exact A _ rfl rfl (ws_arq hts t_38)
  | 5 => exact A _ rfl rfl (ws_arq hts t_25)
  | 6 => exact A _ rfl rfl (ws_arq hts t_27)
  | 11 => exact E _ rfl rfl (ws_exc hts t_115)
  | 12 => exact E _ rfl rfl (ws_exc hts t_179)
  | 13 => exact E _ rfl rfl (ws_exc hts t_256)
  | 14 => exact E _ rfl rfl (ws_exc hts t_331)
  | 7 | 8 | 9 | 10 => exact ⟨0, fun ty h => (by cases h), fun nm h => (by cases h)⟩
  | k + 15 => exact ⟨0, fun ty h => (by cases h), fun nm h => (by cases h)⟩
end WS
