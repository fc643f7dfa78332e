theorem arr_p {s : State} {args : Array Value} {ty : FieldType} (h : (Cond.arrayClass ty).before args s = true) : ∃ cA : ClassId, ArrOfT s cA ty ∧ s.vm.findClass ("[" ++ ty.toString) = some cA := by
  obtain ⟨cA, kA, comp, hfind, hk, hkind⟩ := Cond.arrayClass_spec h
  exact ⟨cA, fun n z => ⟨fun k q => (by cases q), kA, hk, comp, hkind⟩, hfind⟩
theorem arr_o {s : State} {C : String} (h : va_AO C s) : ∃ cA : ClassId, ArrOfT s cA (.object C) ∧ va_RA s cA (.object C) := by
  obtain ⟨comp, c, k, h1, h2, h3, h4, h5⟩ := Cond.arrayOver_spec h
  exact ⟨c, fun n z => ⟨fun k q => (by cases q), k, h3, comp, h4⟩, k, comp, h3, h4, h1, h5⟩
theorem va_arr {s : State} {args : Array Value} (hts : ∀ w ∈ lw_ok, w.before args s = true) (hN : NK s) : ∃ f : Nat → ClassId, ∀ t, t < 7 → ArrOfT s (f t) (tA t) ∧ va_RA s (f t) (tA t) := by
  obtain ⟨c0, a0, b0⟩ := arr_p (hts _ wl_arr_int)
  obtain ⟨c1, a1, b1⟩ := arr_p (hts _ wl_arr_boolean)
  obtain ⟨c2, a2, b2⟩ := arr_p (hts _ wl_arr_long)
  obtain ⟨c3, a3, b3⟩ := arr_o hN.2.2.1
  obtain ⟨c4, a4, b4⟩ := arr_o hN.2.1
  obtain ⟨c5, a5, b5⟩ := arr_o hN.2.2.2.2
  obtain ⟨c6, a6, b6⟩ := arr_o hN.2.2.2.1
  refine ⟨fun t => match t with | 0 => c0 | 1 => c1 | 2 => c2 | 3 => c3 | 4 => c4 | 5 => c5 | _ => c6, fun t ht => ?_⟩
  match t, ht with
  | 0, _ => exact ⟨a0, b0⟩
  | 1, _ => exact ⟨a1, b1⟩
  | 2, _ => exact ⟨a2, b2⟩
  | 3, _ => exact ⟨a3, b3⟩
  | 4, _ => exact ⟨a4, b4⟩
  | 5, _ => exact ⟨a5, b5⟩
  | 6, _ => exact ⟨a6, b6⟩
