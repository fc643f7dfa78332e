/-! CALLS -/
theorem lw_good : lw_ok.all goodWord = true := List.all_eq_true.mpr fun _ h => (List.mem_filter.mp h).2
theorem lw_goodIn {y : MethodName} {cc : ByteArray} {maxL : Nat} {ret : Option FieldType} (hw : Cond.code y cc maxL ret ∈ lw_ok) : GoodIn lw_ok (.code y cc maxL ret :: lw_ok) := by
  intro w h
  rcases List.mem_cons.mp h with rfl | h
  · exact ⟨hw, good_of_word (List.all_eq_true.mp lw_good _ hw)⟩
  · exact ⟨h, good_of_word (List.all_eq_true.mp lw_good _ h)⟩
theorem HU_blind {E : EE} {w : Wd} (a : Array Value) (U : State) (g : JFrame) (mk : MethodId) (q : HU E w U) : HU E w (U.calling g mk a) := ⟨q.1, va_K.moved (u := U) (U := U.calling g mk a) (Vm.Alike.refl U.vm) q.2⟩
/-- behind a call, whatever it returns -/
theorem g_ran {p : Program} {l : Launch} {e : Env} {R : Room} {s : State} {m : MethodId} {args : Array Value} {below : List Frame} {meth : Method} {c : Code} {E : EE} {P P2 : Option Value → Wd → Prop} {mc ms nL mc2 ms2 ce sl pc : Nat} {lv : Nat → Option Value} {st rest : List Value} {H : Heap} {locs : List Loc} {ls : Array Slot} {a : Array Value} (hlo : E.2.2 ≤ s.heap.size) (hl : lvf ls nL lv) (hS : va_S (aE E) s.heap H locs)
    (hr : va_Run p l e R s m args below meth c H locs ce sl mc2 ms2 (F0 m pc ls st) rest (QC E P2 a) (aE E))
    (k : ∀ r w', P2 r w' → G (p, l, e, R, s, m, args, below, meth, c, E, P, mc, ms, nL) (ce + mc2) (sl + ms2) (pc + 3) lv (r.toList ++ rest) w') : W p l e R s m args below meth c H locs ce sl (MQ below (QC E P) args s mc ms (aE E)) (F0 m pc ls st) := by
  intro T hT X
  obtain ⟨v, st₀, t, T', L, h0, X', hL, e1, e2, ⟨⟨r, w', hv, hp, hu⟩, hz, hk⟩, hgo⟩ := hr T hT X
  cases hv
  rw [h0] at hz hk
  obtain ⟨t2, a1, b1⟩ := k v w' hp T'.heap (locs ++ L) ls hl (by rw [e1]; exact hu.1) ⟨Nat.le_trans hS.1 (by rw [e1]; exact hz), fun q h1 h2 => by rw [e1, hk q (Nat.lt_of_lt_of_le h1 hS.1) h2]; exact hS.2.1 q h1 h2, fun q hq => by
    rcases List.mem_append.mp hq with h | h
    · exact hS.2.2 q h
    · exact hL q h⟩ T' rfl X'
  exact ⟨t2, hgo t2 a1, b1⟩
def Fits (rm : Room) (maxL : Nat) (R : Room) (mc ms : Nat) : Prop := rm.cells = mc ∧ rm.slots = ms ∧ rm.frames + 1 ≤ R.frames ∧ 8 + (maxL + 11) + rm.locals ≤ R.locals
theorem g_callV {X : Cx} {cc : ByteArray} {own mname : String} {ret : Option FieldType} {il : List (Nat × Instr × Nat)} {ce sl pc : Nat} {lv : Nat → Option Value} {rest : List Value} {w : Wd} (h : Ok X cc own mname ret il) (i : Nat) {index b ci n maxL mc2 ms2 : Nat} {C : String} {T : u_T} {y : MethodName} {bytes : ByteArray} {ret2 : Option FieldType} {rm : Room} {P2 : Option Value → Wd → Prop} {R0 : Room} {l0 : Launch} {E0 : EE} {P0 : Option Value → Wd → Prop} {mc0 ms0 nL0 : Nat} (hq : Is X R0 l0 E0 P0 mc0 ms0 nL0) (As : List Value) (hi : il[i]? = some (pc, .invokevirtual index, 3)) (hm : MV own index C y bytes maxL ret2 n) (hC : Cls ci C T) (hk : wK w b = some (.inl ci)) (hc : Ct l0 E0 y bytes maxL ret2 rm (.ref b :: As) w mc2 ms2 P2) (hn : As.length = n) (hrm : Fits rm maxL R0 mc2 ms2) (hrest : (rest.map fun v => v.category).sum ≤ 8) (hcs : ce + mc2 ≤ R0.cells ∧ sl + ms2 ≤ R0.slots) {st : List Value} (hst : st = As.reverse ++ .ref b :: rest)
    (k : ∀ r w', P2 r w' → G X (ce + mc2) (sl + ms2) (pc + 3) lv (r.toList ++ rest) w') : G X ce sl pc lv st w := by
  obtain ⟨p, l, e, R, s, m, args, below, meth, c, E, P, mc, ms, nL⟩ := X
  obtain ⟨hx, hb, hml, hown, hts, hlk, hrt, hK, hd, hlo, hmn⟩ := h
  intro H locs ls hl hP hS
  subst hst
  obtain ⟨q1, q2, q3, -⟩ := hq
  subst q1; subst q2; subst q3
  obtain ⟨m1, m2, m3, m4, m5, m6, m7, m8, m9⟩ := hm
  have hgi : GoodIn lw_ok (wsV own index C y (.code y bytes maxL ret2 :: lw_ok)) := by
    intro x hx0
    rcases List.mem_append.mp hx0 with h1 | h1
    · have : x ∈ lw_ok := by
        simp only [List.mem_cons, List.not_mem_nil, or_false] at h1
        rcases h1 with rfl | rfl | rfl | rfl <;> assumption
      exact ⟨this, good_of_word (List.all_eq_true.mp lw_good _ this)⟩
    · exact lw_goodIn m1 x h1
  exact g_ran hlo hl hS (va_runV (As := As) (rest := rest) ⟨hx, hb, hml, hown, hts⟩ hc (cwV n hts hgi rfl hrm.1 hrm.2.1 ⟨m6, m7, m8, m9⟩ ⟨hrm.2.2.1, hrm.2.2.2⟩) ⟨fun a U g mk q => ⟨q.1, HU_blind a U g mk q.2⟩, va_recv hK (PM_1 hP (ent_obj hk)) (q0 := 0) hC.1 rfl, fun U hU hW => ⟨rfl, by rw [hU]; exact hP, va_K.moved hW.alike hK⟩⟩ rfl hn hl.1 rfl (by show 2 * 0 + _ ≤ 8; omega) (dkm hd hi) hcs) k
theorem g_callS {X : Cx} {cc : ByteArray} {own mname : String} {ret : Option FieldType} {il : List (Nat × Instr × Nat)} {ce sl pc : Nat} {lv : Nat → Option Value} {rest : List Value} {w : Wd} (h : Ok X cc own mname ret il) (i : Nat) {index n maxL mc2 ms2 : Nat} {y : MethodName} {bytes : ByteArray} {ret2 : Option FieldType} {rm : Room} {P2 : Option Value → Wd → Prop} {R0 : Room} {l0 : Launch} {E0 : EE} {P0 : Option Value → Wd → Prop} {mc0 ms0 nL0 : Nat} (hq : Is X R0 l0 E0 P0 mc0 ms0 nL0) (As : List Value) (hi : il[i]? = some (pc, .invokestatic index, 3)) (hm : MS own index y bytes maxL ret2 n) (hc : Ct l0 E0 y bytes maxL ret2 rm As w mc2 ms2 P2) (hn : As.length = n) (hrm : Fits rm maxL R0 mc2 ms2) (hrest : (rest.map fun v => v.category).sum ≤ 8) (hcs : ce + mc2 ≤ R0.cells ∧ sl + ms2 ≤ R0.slots) {st : List Value} (hst : st = As.reverse ++ rest)
    (k : ∀ r w', P2 r w' → G X (ce + mc2) (sl + ms2) (pc + 3) lv (r.toList ++ rest) w') : G X ce sl pc lv st w := by
  obtain ⟨p, l, e, R, s, m, args, below, meth, c, E, P, mc, ms, nL⟩ := X
  obtain ⟨hx, hb, hml, hown, hts, hlk, hrt, hK, hd, hlo, hmn⟩ := h
  intro H locs ls hl hP hS
  subst hst
  obtain ⟨q1, q2, q3, -⟩ := hq
  subst q1; subst q2; subst q3
  obtain ⟨m1, m2, m3, m4, m7, m8, m9⟩ := hm
  have hgi : GoodIn lw_ok (va_wsS own index y (.code y bytes maxL ret2 :: lw_ok)) := by
    intro x hx0
    rcases List.mem_append.mp hx0 with h1 | h1
    · have : x ∈ lw_ok := by
        simp only [List.mem_cons, List.not_mem_nil, or_false] at h1
        rcases h1 with rfl | rfl | rfl <;> assumption
      exact ⟨this, good_of_word (List.all_eq_true.mp lw_good _ this)⟩
    · exact lw_goodIn m1 x h1
  exact g_ran hlo hl hS (va_runS (As := As) (rest := rest) ⟨hx, hb, hml, hown, hts⟩ hc (va_cwS n hts hgi rfl hrm.1 hrm.2.1 ⟨m7, m8, m9⟩ ⟨hrm.2.2.1, hrm.2.2.2⟩) ⟨fun a U g mk q => ⟨q.1, HU_blind a U g mk q.2⟩, fun U hU hW => ⟨rfl, by rw [hU]; exact hP, va_K.moved hW.alike hK⟩⟩ rfl hn hl.1 rfl (by show 2 * 0 + _ ≤ 8; omega) (dkm hd hi) hcs) k
theorem g_callI {X : Cx} {cc : ByteArray} {own mname : String} {ret : Option FieldType} {il : List (Nat × Instr × Nat)} {ce sl pc : Nat} {lv : Nat → Option Value} {rest : List Value} {w : Wd} (h : Ok X cc own mname ret il) (i : Nat) {index b n maxL mc2 ms2 : Nat} {y : MethodName} {bytes : ByteArray} {rm : Room} {P2 : Option Value → Wd → Prop} {R0 : Room} {l0 : Launch} {E0 : EE} {P0 : Option Value → Wd → Prop} {mc0 ms0 nL0 : Nat} (hq : Is X R0 l0 E0 P0 mc0 ms0 nL0) (As : List Value) (hi : il[i]? = some (pc, .invokespecial index, 3)) (hm : MI own index y bytes maxL n) (hc : Ct l0 E0 y bytes maxL none rm (.ref b :: As) w mc2 ms2 P2) (hn : As.length = n) (hrm : Fits rm maxL R0 mc2 ms2) (hrest : (rest.map fun v => v.category).sum ≤ 8) (hcs : ce + mc2 ≤ R0.cells ∧ sl + ms2 ≤ R0.slots) {st : List Value} (hst : st = As.reverse ++ .ref b :: rest)
    (k : ∀ r w', P2 r w' → G X (ce + mc2) (sl + ms2) (pc + 3) lv (r.toList ++ rest) w') : G X ce sl pc lv st w := by
  obtain ⟨p, l, e, R, s, m, args, below, meth, c, E, P, mc, ms, nL⟩ := X
  obtain ⟨hx, hb, hml, hown, hts, hlk, hrt, hK, hd, hlo, hmn⟩ := h
  intro H locs ls hl hP hS
  subst hst
  obtain ⟨q1, q2, q3, -⟩ := hq
  subst q1; subst q2; subst q3
  obtain ⟨m1, m2, m3, m4, m5, m7, m8, m9⟩ := hm
  exact g_ran hlo hl hS (va_runI (As := As) (rest := rest) ⟨hx, hb, hml, hown, hts⟩ hc (cwI n hts (lw_goodIn m1) rfl hrm.1 hrm.2.1 (hts _ m4) (hts _ m2) (hts _ m3) m5 ⟨m7, m8, m9⟩ ⟨hrm.2.2.1, hrm.2.2.2⟩) ⟨fun a U g mk q => ⟨q.1, HU_blind a U g mk q.2⟩, fun U hU hW => ⟨rfl, by rw [hU]; exact hP, va_K.moved hW.alike hK⟩⟩ rfl hn hl.1 rfl (by show 2 * 0 + _ ≤ 8; omega) (dkm hd hi) hcs) k
