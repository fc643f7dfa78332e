theorem ws_core {p : Program} {e : Env} {s : State} {m : MethodId} {below : List Frame} {meth : Method} {c : Code} (l : Launch) {b L : Nat} {xs : Nat → Int32} (hL : L ≤ 3072) (hx : p.tables.exec = Jvm.exec) (hb : c.code = cL_law) (hr : meth.sig.returnType = some .boolean) (hml : c.maxLocals = 4) (hown : s.vm.findClass RL = some m.cls) (hts : ∀ w ∈ lw_tbl, w.before #[Value.ref b] s = true) (hX : va_X b L xs s s.heap) (hbl : b < s.heap.size) (hlk : meth.locks = false) : ∃ (E : EE) (P : Option Value → Wd → Prop), E.2.2 = s.heap.size ∧ (∀ q w, P q w → q = some (.int 1)) ∧ W p l e room_1 s m #[Value.ref b] below meth c s.heap [] 0 0 (MQ below (QC E P) #[Value.ref b] s 154 3947 (aE E)) (entryFrame m ([Value.ref b] : List Value).toArray 4) := by
  have hN := nk_0 hts
  have ht2 : ∀ w ∈ lw_ok, w.before #[Value.ref b] s = true := fun w hw => hts w (List.mem_filter.mp hw).1
  obtain ⟨D, hD⟩ := va_cls ht2
  obtain ⟨f, hf⟩ := va_arr ht2 hN
  have hK : va_K D vwCl (tys (D, f, s.heap.size)) s := ⟨hD, fun k q hq => by
    by_cases e : k < 7
    · have z := Option.some.inj ((tys_at (E := (D, f, s.heap.size)) e).symm.trans hq)
      rw [← z]; exact hf k e
    · exact absurd (List.getElem?_eq_some_iff.mp hq).1 (by unfold tys; rw [List.length_map, List.length_range]; exact e)⟩
  refine ⟨(D, f, s.heap.size), fun q _ => q = some (.int 1), rfl, fun _ _ h => h, ?_⟩
  have hl := lv_entry ([.ref b]) (n := 4) (Nat.le_of_ble_eq_true rfl)
  have hok : Ok (p, l, e, room_1, s, m, #[Value.ref b], below, meth, c, (D, f, s.heap.size), (fun q _ => q = some (.int 1)), 154, 3947, 4) cL_law RL meth.name (some .boolean) il_Lb := ⟨hx, hb, hml, hown, ht2, hlk, hr, hK, dk_Lb, Nat.le_refl _, rfl⟩
  have hq : Is (p, l, e, room_1, s, m, #[Value.ref b], below, meth, c, (D, f, s.heap.size), (fun q _ => q = some (.int 1)), 154, 3947, 4) room_1 l (D, f, s.heap.size) (fun q _ => q = some (.int 1)) 154 3947 4 := ⟨rfl, rfl, rfl, rfl, rfl, rfl, rfl⟩
  have k := lw_head (w := (s.heap.size, fun _ => none, fun _ _ => none, fun _ _ => 0, fun _ _ => 0, fun _ _ => 0)) hok hq hN ⟨hX, hbl, fun z => absurd z (Nat.not_le.mpr hbl)⟩ hL (Nat.le_refl _) (fun w lv => by
    have ht := ok_il hok dk_Lt
    refine g_iconst ht (i := 2) rfl (v := 1) (by rfl) ?_
    exact g_zret hq ht (i := 3) rfl rfl rfl)
  rw [lg_entry_eq]
  exact k s.heap [] _ (lf_has hl) ⟨rfl, fun a x h => by cases h⟩ va_S.rf
