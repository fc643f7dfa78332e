/-! WORLDS AS MEMORY: kinds by address, references, ints, longs, doubles by address and place -/
abbrev Wd : Type := Nat × (Nat → Option (Nat ⊕ (Nat × Nat))) × (Nat → Nat → Option Nat) × (Nat → Nat → Int32) × (Nat → Nat → Int64) × (Nat → Nat → UInt64)
def wN (w : Wd) : Nat := w.1
def wK (w : Wd) : Nat → Option (Nat ⊕ (Nat × Nat)) := w.2.1
def wR (w : Wd) : Nat → Nat → Option Nat := w.2.2.1
def wI (w : Wd) : Nat → Nat → Int32 := w.2.2.2.1
def wJ (w : Wd) : Nat → Nat → Int64 := w.2.2.2.2.1
def wD (w : Wd) : Nat → Nat → UInt64 := w.2.2.2.2.2
def up2 {α : Type} (f : Nat → Nat → α) (a k : Nat) (v : α) : Nat → Nat → α := fun x y => if x = a ∧ y = k then v else f x y
theorem up2_s {α : Type} (f : Nat → Nat → α) (a k : Nat) (v : α) : up2 f a k v a k = v := if_pos ⟨rfl, rfl⟩
theorem up2_a {α : Type} {f : Nat → Nat → α} {a k x y : Nat} {v : α} (h : x ≠ a) : up2 f a k v x y = f x y := if_neg (fun q => h q.1)
theorem up2_k {α : Type} {f : Nat → Nat → α} {a k x y : Nat} {v : α} (h : y ≠ k) : up2 f a k v x y = f x y := if_neg (fun q => h q.2)
def sI (w : Wd) (a k : Nat) (v : Int32) : Wd := (w.1, w.2.1, w.2.2.1, up2 w.2.2.2.1 a k v, w.2.2.2.2.1, w.2.2.2.2.2)
def sJ (w : Wd) (a k : Nat) (v : Int64) : Wd := (w.1, w.2.1, w.2.2.1, w.2.2.2.1, up2 w.2.2.2.2.1 a k v, w.2.2.2.2.2)
def sD (w : Wd) (a k : Nat) (v : UInt64) : Wd := (w.1, w.2.1, w.2.2.1, w.2.2.2.1, w.2.2.2.2.1, up2 w.2.2.2.2.2 a k v)
def sR (w : Wd) (a k : Nat) (v : Option Nat) : Wd := (w.1, w.2.1, up2 w.2.2.1 a k v, w.2.2.2.1, w.2.2.2.2.1, w.2.2.2.2.2)
/-- a new cell at the next address: all zero -/
def z1 {α : Type} (f : Nat → Nat → α) (a : Nat) (v : α) : Nat → Nat → α := fun x y => if x = a then v else f x y
def sNew (w : Wd) (k : Nat ⊕ (Nat × Nat)) : Wd := (w.1 + 1, (fun x => if x = w.1 then some k else w.2.1 x), z1 w.2.2.1 w.1 none, z1 w.2.2.2.1 w.1 0, z1 w.2.2.2.2.1 w.1 0, z1 w.2.2.2.2.2 w.1 0)
def fv (ty : FieldType) (w : Wd) (a k : Nat) : Value := match ty with
  | .long => .long (wJ w a k)
  | .double => .double (wD w a k)
  | .object _ => va_rf (wR w a k)
  | .array _ => va_rf (wR w a k)
  | _ => .int (wI w a k)
def fvs (ci : Nat) (w : Wd) (a : Nat) : List Value := (List.range (cN ci)).map (fun k => fv (cT ci k) w a k)
def tA : Nat → FieldType := fun t => match t with | 0 => .int | 1 => .boolean | 2 => .long | 3 => .object RX0 | 4 => .object RX2 | 5 => .object RX3 | _ => .object RX5
abbrev EE : Type := va_G × (Nat → ClassId) × Nat
def tys (E : EE) : List (ClassId × FieldType) := (List.range 7).map (fun t => (E.2.1 t, tA t))
def arrC (t : Nat) (w : Wd) (a : Nat) : (Nat → Int32) ⊕ (Nat → Int64) ⊕ (Nat → UInt32) ⊕ (Nat → UInt64) ⊕ (Nat → Option Nat) := match t with
  | 0 => .inl (wI w a)
  | 1 => .inl (wI w a)
  | 2 => .inr (.inl (wJ w a))
  | _ => .inr (.inr (.inr (.inr (wR w a))))
def ent (E : EE) (w : Wd) (a : Nat) : Option va_E := match wK w a with
  | none => none
  | some (.inl ci) => some (.inr (ci, fvs ci w a))
  | some (.inr (t, n)) => some (.inl (E.2.1 t, n, arrC t w a))
def PM (E : EE) (w : Wd) (H : Heap) : Prop := H.size = wN w ∧ ∀ a x, ent E w a = some x → E.2.2 ≤ a ∧ va_at E.1 vwCl (a, x) H
def aE (E : EE) : Nat → Prop := fun q => E.2.2 ≤ q
def HU (E : EE) (w : Wd) (U : State) : Prop := PM E w U.heap ∧ va_K E.1 vwCl (tys E) U
def QC (E : EE) (P : Option Value → Wd → Prop) : Array Value → State → Outcome → State → Prop := fun _ st oc t => (∃ r w', oc = .returned r ∧ P r w' ∧ HU E w' t) ∧ va_F (aE E) st t
/-- a method's contract: from the world w it returns, and P holds of the answer and the world behind it -/
def Ct (l : Launch) (E : EE) (y : MethodName) (cc : ByteArray) (maxL : Nat) (ret : Option FieldType) (rm : Room) (args : List Value) (w : Wd) (mc ms : Nat) (P : Option Value → Wd → Prop) : Prop := Met l y (.code y cc maxL ret :: lw_ok) rm (va_Pc args (HU E w)) (QC E P) mc ms (aE E)
/-- the locals -/
def lvf (ls : Array Slot) (nL : Nat) (lv : Nat → Option Value) : Prop := ls.size = nL ∧ lv_wf ls ∧ ∀ i v, lv i = some v → ls[i]? = some (.val v)
def lf : List (Nat × Value) → Nat → Option Value
  | [], _ => none
  | q :: l, i => if i = q.1 then some q.2 else lf l i
def lset1 (lv : Nat → Option Value) (i : Nat) (v : Value) : Nat → Option Value := fun j => if j = i then some v else if j + 1 = i then (match lv j with | some u => if u.category = 2 then none else some u | none => none) else lv j
def lset2 (lv : Nat → Option Value) (i : Nat) (v : Value) : Nat → Option Value := fun j => if j = i then some v else if j = i + 1 then none else if j + 1 = i then (match lv j with | some u => if u.category = 2 then none else some u | none => none) else lv j
def lall : List (Nat × Value) → (Nat → Option Value) → Prop
  | [], _ => True
  | q :: l, lv => lv q.1 = some q.2 ∧ lall l lv
theorem lall_lf {lv : Nat → Option Value} : ∀ {l : List (Nat × Value)}, lall l lv → ∀ i v, lf l i = some v → lv i = some v
  | [], _, _, _, h => by cases h
  | q :: l, h, i, v, hv => by
    unfold lf at hv
    by_cases e : i = q.1
    · rw [if_pos e] at hv
      cases hv
      rw [e]
      exact h.1
    · rw [if_neg e] at hv
      exact lall_lf h.2 i v hv
theorem lf_has {ls : Array Slot} {nL : Nat} {l : List (Nat × Value)} (h : lv_has ls nL l) : lvf ls nL (lf l) := by
  refine ⟨h.1, h.2.1, fun i v hv => ?_⟩
  have key : ∀ (l : List (Nat × Value)), lf l i = some v → (i, v) ∈ l := by
    intro l
    induction l with
    | nil => intro h; cases h
    | cons q l ih =>
      intro h
      unfold lf at h
      by_cases e : i = q.1
      · rw [if_pos e] at h
        cases h
        rw [e]
        exact List.mem_cons_self
      · rw [if_neg e] at h
        exact List.mem_cons_of_mem _ (ih h)
  exact h.2.2 (i, v) (key l hv)
def lL (lv : Nat → Option Value) (n : Nat) : List (Nat × Value) := (List.range n).filterMap (fun i => (lv i).map (fun v => (i, v)))
theorem lL_mem {lv : Nat → Option Value} {n i : Nat} {v : Value} : (i, v) ∈ lL lv n ↔ i < n ∧ lv i = some v := by
  unfold lL
  simp only [List.mem_filterMap, List.mem_range, Option.map_eq_some_iff, Prod.mk.injEq]
  constructor
  · rintro ⟨j, hj, u, hu, rfl, rfl⟩
    exact ⟨hj, hu⟩
  · rintro ⟨hi, hv⟩
    exact ⟨i, hi, v, hv, rfl, rfl⟩
theorem lvf_has {ls : Array Slot} {nL : Nat} {lv : Nat → Option Value} (h : lvf ls nL lv) : lv_has ls nL (lL lv nL) := ⟨h.1, h.2.1, fun q hq => h.2.2 q.1 q.2 (lL_mem.mp hq).2⟩
theorem lvf_lt {ls : Array Slot} {nL : Nat} {lv : Nat → Option Value} (h : lvf ls nL lv) {i : Nat} {v : Value} (hv : lv i = some v) : i < nL := by
  have := (Array.getElem?_eq_some_iff.mp (h.2.2 i v hv)).1
  rw [h.1] at this
  exact this
theorem lprev {lv : Nat → Option Value} {j : Nat} {u : Value} (h : (match lv j with | some u => if u.category = 2 then none else some u | none => none) = some u) : lv j = some u ∧ ¬ u.category = 2 := by
  cases hj : lv j with
  | none => rw [hj] at h; cases h
  | some z =>
    rw [hj] at h
    by_cases e : z.category = 2
    · simp [e] at h
    · simp [e] at h
      subst h
      exact ⟨rfl, e⟩
theorem lst1 {ls : Array Slot} {nL : Nat} {lv : Nat → Option Value} {i : Nat} {v : Value} (h : lvf ls nL lv) (hi : i < nL) (hc : v.category = 1) : ∃ ls', storeLocals ls i v = some ls' ∧ lvf ls' nL (lset1 lv i v) := by
  obtain ⟨ls', e, h'⟩ := lv_store1 (lvf_has h) hi hc
  refine ⟨ls', e, h'.1, h'.2.1, fun j u hu => ?_⟩
  unfold lset1 at hu
  by_cases a : j = i
  · rw [if_pos a] at hu
    cases hu
    rw [a]
    exact h'.2.2 (i, v) List.mem_cons_self
  · rw [if_neg a] at hu
    have mem : ∀ (hv : lv j = some u) (hn : ¬ (j + 1 = i ∧ u.category = 2)), ls'[j]? = some (.val u) := by
      intro hv hn
      refine h'.2.2 (j, u) (List.mem_cons_of_mem _ (List.mem_filter.mpr ⟨lL_mem.mpr ⟨lvf_lt h hv, hv⟩, ?_⟩))
      simp only [Bool.and_eq_true, Bool.not_eq_true', beq_eq_false_iff_ne, ne_eq, Bool.and_eq_false_iff]
      refine ⟨a, ?_⟩
      by_cases b : j + 1 = i
      · exact Or.inr (fun q => hn ⟨b, q⟩)
      · exact Or.inl b
    by_cases b : j + 1 = i
    · rw [if_pos b] at hu
      obtain ⟨h1, h2⟩ := lprev hu
      exact mem h1 (fun q => h2 q.2)
    · rw [if_neg b] at hu
      exact mem hu (fun q => b q.1)
theorem lst2 {ls : Array Slot} {nL : Nat} {lv : Nat → Option Value} {i : Nat} {v : Value} (h : lvf ls nL lv) (hi : i + 1 < nL) (hc : v.category = 2) : ∃ ls', storeLocals ls i v = some ls' ∧ lvf ls' nL (lset2 lv i v) := by
  obtain ⟨ls', e, h'⟩ := lv_store2 (lvf_has h) hi hc
  refine ⟨ls', e, h'.1, h'.2.1, fun j u hu => ?_⟩
  unfold lset2 at hu
  by_cases a : j = i
  · rw [if_pos a] at hu
    cases hu
    rw [a]
    exact h'.2.2 (i, v) List.mem_cons_self
  · rw [if_neg a] at hu
    by_cases a2 : j = i + 1
    · rw [if_pos a2] at hu
      cases hu
    · rw [if_neg a2] at hu
      have mem : ∀ (hv : lv j = some u) (hn : ¬ (j + 1 = i ∧ u.category = 2)), ls'[j]? = some (.val u) := by
        intro hv hn
        refine h'.2.2 (j, u) (List.mem_cons_of_mem _ (List.mem_filter.mpr ⟨lL_mem.mpr ⟨lvf_lt h hv, hv⟩, ?_⟩))
        simp only [Bool.and_eq_true, Bool.not_eq_true', beq_eq_false_iff_ne, ne_eq, Bool.and_eq_false_iff]
        refine ⟨a, a2, ?_⟩
        by_cases b : j + 1 = i
        · exact Or.inr (fun q => hn ⟨b, q⟩)
        · exact Or.inl b
      by_cases b : j + 1 = i
      · rw [if_pos b] at hu
        obtain ⟨h1, h2⟩ := lprev hu
        exact mem h1 (fun q => h2 q.2)
      · rw [if_neg b] at hu
        exact mem hu (fun q => b q.1)
/-- what stands fast while a method runs: machine, launch, environment, room, start, method, arguments, below, its class file's method and code, the tables, what is to hold at its end, its cells and slots, its locals -/
abbrev Cx : Type := Program × Launch × Env × Room × State × MethodId × Array Value × List Frame × Method × Code × EE × (Option Value → Wd → Prop) × Nat × Nat × Nat
def G (X : Cx) (ce sl pc : Nat) (lv : Nat → Option Value) (st : List Value) (w : Wd) : Prop := match X with
  | (p, l, e, R, s, m, args, below, meth, c, E, P, mc, ms, nL) => ∀ (H : Heap) (locs : List Loc) (ls : Array Slot), lvf ls nL lv → PM E w H → va_S (aE E) s.heap H locs → W p l e R s m args below meth c H locs ce sl (MQ below (QC E P) args s mc ms (aE E)) (F0 m pc ls st)
/-- the launch, the tables and the room of a walk -/
def cxL (X : Cx) : Launch := X.2.1
def cxE (X : Cx) : EE := X.2.2.2.2.2.2.2.2.2.2.1
def cxR (X : Cx) : Room := X.2.2.2.1
def cxP (X : Cx) : Option Value → Wd → Prop := X.2.2.2.2.2.2.2.2.2.2.2.1
def cxmc (X : Cx) : Nat := X.2.2.2.2.2.2.2.2.2.2.2.2.1
def cxms (X : Cx) : Nat := X.2.2.2.2.2.2.2.2.2.2.2.2.2.1
def cxnL (X : Cx) : Nat := X.2.2.2.2.2.2.2.2.2.2.2.2.2.2
def Ok (X : Cx) (cc : ByteArray) (own mname : String) (ret : Option FieldType) (il : List (Nat × Instr × Nat)) : Prop := match X with
  | (p, l, e, R, s, m, args, below, meth, c, E, P, mc, ms, nL) => p.tables.exec = Jvm.exec ∧ c.code = cc ∧ c.maxLocals = nL ∧ s.vm.findClass own = some m.cls ∧ (∀ w ∈ lw_ok, w.before args s = true) ∧ meth.locks = false ∧ meth.sig.returnType = ret ∧ va_K E.1 vwCl (tys E) s ∧ (∀ q ∈ il, decode cc q.1 = .ok (q.2.1, q.2.2)) ∧ E.2.2 ≤ s.heap.size ∧ meth.name = mname
def Is (X : Cx) (R0 : Room) (l0 : Launch) (E0 : EE) (P0 : Option Value → Wd → Prop) (mc0 ms0 nL0 : Nat) : Prop := cxR X = R0 ∧ cxL X = l0 ∧ cxE X = E0 ∧ cxP X = P0 ∧ cxmc X = mc0 ∧ cxms X = ms0 ∧ cxnL X = nL0
/-- the answer and the world behind it, exactly -/
def Px (r0 : Option Value) (w0 : Wd) : Option Value → Wd → Prop := fun r w => r = r0 ∧ w = w0
theorem dkm {cc : ByteArray} {il : List (Nat × Instr × Nat)} {pc n i : Nat} {ins : Instr} (h : ∀ q ∈ il, decode cc q.1 = .ok (q.2.1, q.2.2)) (hi : il[i]? = some (pc, ins, n)) : decode cc pc = .ok (ins, n) := h (pc, ins, n) (List.mem_of_getElem? hi)

theorem g_iconst {X : Cx} {cc : ByteArray} {own mname : String} {ret : Option FieldType} {il : List (Nat × Instr × Nat)} {ce sl pc : Nat} {lv : Nat → Option Value} {st : List Value} {w : Wd} (h : Ok X cc own mname ret il) (i : Nat) {n : Int} {v : Int32} (hi : il[i]? = some (pc, .iconst n, 1)) (hv : Int32.ofInt n = v) (k : G X ce sl (pc + 1) lv (.int v :: st) w) : G X ce sl pc lv (st) w := by
  obtain ⟨p, l, e, R, s, m, args, below, meth, c, E, P, mc, ms, nL⟩ := X
  obtain ⟨hx, hb, hml, hown, hts, hlk, hrt, hK, hd, hlo, hmn⟩ := h
  intro H locs ls hl hP hS
  exact lv_iconst hx hb (dkm hd hi) hv (k H locs ls hl hP hS)
theorem g_bipush {X : Cx} {cc : ByteArray} {own mname : String} {ret : Option FieldType} {il : List (Nat × Instr × Nat)} {ce sl pc : Nat} {lv : Nat → Option Value} {st : List Value} {w : Wd} (h : Ok X cc own mname ret il) (i : Nat) {n : Int} {v : Int32} (hi : il[i]? = some (pc, .bipush n, 2)) (hv : (Int8.ofInt n).toInt32 = v) (k : G X ce sl (pc + 2) lv (.int v :: st) w) : G X ce sl pc lv (st) w := by
  obtain ⟨p, l, e, R, s, m, args, below, meth, c, E, P, mc, ms, nL⟩ := X
  obtain ⟨hx, hb, hml, hown, hts, hlk, hrt, hK, hd, hlo, hmn⟩ := h
  intro H locs ls hl hP hS
  exact lv_bipush hx hb (dkm hd hi) hv (k H locs ls hl hP hS)
theorem g_sipush {X : Cx} {cc : ByteArray} {own mname : String} {ret : Option FieldType} {il : List (Nat × Instr × Nat)} {ce sl pc : Nat} {lv : Nat → Option Value} {st : List Value} {w : Wd} (h : Ok X cc own mname ret il) (i : Nat) {n : Int} {v : Int32} (hi : il[i]? = some (pc, .sipush n, 3)) (hv : (Int16.ofInt n).toInt32 = v) (k : G X ce sl (pc + 3) lv (.int v :: st) w) : G X ce sl pc lv (st) w := by
  obtain ⟨p, l, e, R, s, m, args, below, meth, c, E, P, mc, ms, nL⟩ := X
  obtain ⟨hx, hb, hml, hown, hts, hlk, hrt, hK, hd, hlo, hmn⟩ := h
  intro H locs ls hl hP hS
  exact lv_sipush hx hb (dkm hd hi) hv (k H locs ls hl hP hS)
theorem g_lconst {X : Cx} {cc : ByteArray} {own mname : String} {ret : Option FieldType} {il : List (Nat × Instr × Nat)} {ce sl pc : Nat} {lv : Nat → Option Value} {st : List Value} {w : Wd} (h : Ok X cc own mname ret il) (i : Nat) {n : Fin 2} {v : Int64} (hi : il[i]? = some (pc, .lconst n, 1)) (hv : Int64.ofNat (n : Nat) = v) (k : G X ce sl (pc + 1) lv (.long v :: st) w) : G X ce sl pc lv (st) w := by
  obtain ⟨p, l, e, R, s, m, args, below, meth, c, E, P, mc, ms, nL⟩ := X
  obtain ⟨hx, hb, hml, hown, hts, hlk, hrt, hK, hd, hlo, hmn⟩ := h
  intro H locs ls hl hP hS
  exact lv_lconst hx hb (dkm hd hi) hv (k H locs ls hl hP hS)
theorem g_dconst0 {X : Cx} {cc : ByteArray} {own mname : String} {ret : Option FieldType} {il : List (Nat × Instr × Nat)} {ce sl pc : Nat} {lv : Nat → Option Value} {st : List Value} {w : Wd} (h : Ok X cc own mname ret il) (i : Nat) (hi : il[i]? = some (pc, .dconst 0, 1)) (k : G X ce sl (pc + 1) lv (.double FP.dconst0 :: st) w) : G X ce sl pc lv (st) w := by
  obtain ⟨p, l, e, R, s, m, args, below, meth, c, E, P, mc, ms, nL⟩ := X
  obtain ⟨hx, hb, hml, hown, hts, hlk, hrt, hK, hd, hlo, hmn⟩ := h
  intro H locs ls hl hP hS
  exact lv_dconst0 hx hb (dkm hd hi) (k H locs ls hl hP hS)
theorem g_dconst1 {X : Cx} {cc : ByteArray} {own mname : String} {ret : Option FieldType} {il : List (Nat × Instr × Nat)} {ce sl pc : Nat} {lv : Nat → Option Value} {st : List Value} {w : Wd} (h : Ok X cc own mname ret il) (i : Nat) (hi : il[i]? = some (pc, .dconst 1, 1)) (k : G X ce sl (pc + 1) lv (.double FP.dconst1 :: st) w) : G X ce sl pc lv (st) w := by
  obtain ⟨p, l, e, R, s, m, args, below, meth, c, E, P, mc, ms, nL⟩ := X
  obtain ⟨hx, hb, hml, hown, hts, hlk, hrt, hK, hd, hlo, hmn⟩ := h
  intro H locs ls hl hP hS
  exact lv_dconst1 hx hb (dkm hd hi) (k H locs ls hl hP hS)
theorem g_ldc {X : Cx} {cc : ByteArray} {own mname : String} {ret : Option FieldType} {il : List (Nat × Instr × Nat)} {ce sl pc : Nat} {lv : Nat → Option Value} {st : List Value} {w : Wd} (h : Ok X cc own mname ret il) (i : Nat) {index : Nat} {v : Int32} (hi : il[i]? = some (pc, .ldc index, 2)) (hw : Cond.constant own index v ∈ lw_ok) (k : G X ce sl (pc + 2) lv (.int v :: st) w) : G X ce sl pc lv st w := by
  obtain ⟨p, l, e, R, s, m, args, below, meth, c, E, P, mc, ms, nL⟩ := X
  obtain ⟨hx, hb, hml, hown, hts, hlk, hrt, hK, hd, hlo, hmn⟩ := h
  intro H locs ls hl hP hS
  exact lv_ldc hx hb hown (hts _ hw) (dkm hd hi) (k H locs ls hl hP hS)
theorem g_ldcw {X : Cx} {cc : ByteArray} {own mname : String} {ret : Option FieldType} {il : List (Nat × Instr × Nat)} {ce sl pc : Nat} {lv : Nat → Option Value} {st : List Value} {w : Wd} (h : Ok X cc own mname ret il) (i : Nat) {index : Nat} {v : Int32} (hi : il[i]? = some (pc, .ldc_w index, 3)) (hw : Cond.constant own index v ∈ lw_ok) (k : G X ce sl (pc + 3) lv (.int v :: st) w) : G X ce sl pc lv st w := by
  obtain ⟨p, l, e, R, s, m, args, below, meth, c, E, P, mc, ms, nL⟩ := X
  obtain ⟨hx, hb, hml, hown, hts, hlk, hrt, hK, hd, hlo, hmn⟩ := h
  intro H locs ls hl hP hS
  exact lv_ldcw hx hb hown (hts _ hw) (dkm hd hi) (k H locs ls hl hP hS)
theorem g_ldc2 {X : Cx} {cc : ByteArray} {own mname : String} {ret : Option FieldType} {il : List (Nat × Instr × Nat)} {ce sl pc : Nat} {lv : Nat → Option Value} {st : List Value} {w : Wd} (h : Ok X cc own mname ret il) (i : Nat) {index : Nat} {v : Int64} (hi : il[i]? = some (pc, .ldc2_w index, 3)) (hw : Cond.constantLong own index v ∈ lw_ok) (k : G X ce sl (pc + 3) lv (.long v :: st) w) : G X ce sl pc lv st w := by
  obtain ⟨p, l, e, R, s, m, args, below, meth, c, E, P, mc, ms, nL⟩ := X
  obtain ⟨hx, hb, hml, hown, hts, hlk, hrt, hK, hd, hlo, hmn⟩ := h
  intro H locs ls hl hP hS
  exact lv_ldc2 hx hb hown (hts _ hw) (dkm hd hi) (k H locs ls hl hP hS)
theorem g_ldc2d {X : Cx} {cc : ByteArray} {own mname : String} {ret : Option FieldType} {il : List (Nat × Instr × Nat)} {ce sl pc : Nat} {lv : Nat → Option Value} {st : List Value} {w : Wd} (h : Ok X cc own mname ret il) (i : Nat) {index : Nat} {v : UInt64} (hi : il[i]? = some (pc, .ldc2_w index, 3)) (hw : Cond.constantDouble own index v ∈ lw_ok) (k : G X ce sl (pc + 3) lv (.double v :: st) w) : G X ce sl pc lv st w := by
  obtain ⟨p, l, e, R, s, m, args, below, meth, c, E, P, mc, ms, nL⟩ := X
  obtain ⟨hx, hb, hml, hown, hts, hlk, hrt, hK, hd, hlo, hmn⟩ := h
  intro H locs ls hl hP hS
  exact lv_ldc2d hx hb hown (hts _ hw) (dkm hd hi) (k H locs ls hl hP hS)
theorem g_iload_n {X : Cx} {cc : ByteArray} {own mname : String} {ret : Option FieldType} {il : List (Nat × Instr × Nat)} {ce sl pc : Nat} {lv : Nat → Option Value} {st : List Value} {w : Wd} (h : Ok X cc own mname ret il) (i : Nat) {n : Fin 4} {x : Int32} (hi : il[i]? = some (pc, .iload_n n, 1)) (hv : lv (n : Nat) = some (.int x)) (k : G X ce sl (pc + 1) lv (.int x :: st) w) : G X ce sl pc lv st w := by
  obtain ⟨p, l, e, R, s, m, args, below, meth, c, E, P, mc, ms, nL⟩ := X
  obtain ⟨hx, hb, hml, hown, hts, hlk, hrt, hK, hd, hlo, hmn⟩ := h
  intro H locs ls hl hP hS
  exact lv_iload_n hx hb (dkm hd hi) rfl (hl.2.2 _ _ hv) (k H locs ls hl hP hS)
theorem g_iload {X : Cx} {cc : ByteArray} {own mname : String} {ret : Option FieldType} {il : List (Nat × Instr × Nat)} {ce sl pc : Nat} {lv : Nat → Option Value} {st : List Value} {w : Wd} (h : Ok X cc own mname ret il) (i : Nat) {n : Nat} {x : Int32} (hi : il[i]? = some (pc, .iload n, 2)) (hv : lv n = some (.int x)) (k : G X ce sl (pc + 2) lv (.int x :: st) w) : G X ce sl pc lv st w := by
  obtain ⟨p, l, e, R, s, m, args, below, meth, c, E, P, mc, ms, nL⟩ := X
  obtain ⟨hx, hb, hml, hown, hts, hlk, hrt, hK, hd, hlo, hmn⟩ := h
  intro H locs ls hl hP hS
  exact lv_iload hx hb (dkm hd hi) (hl.2.2 _ _ hv) (k H locs ls hl hP hS)
theorem g_istore_n {X : Cx} {cc : ByteArray} {own mname : String} {ret : Option FieldType} {il : List (Nat × Instr × Nat)} {ce sl pc : Nat} {lv : Nat → Option Value} {st : List Value} {w : Wd} (h : Ok X cc own mname ret il) (i : Nat) {n : Fin 4} {x : Int32} (hi : il[i]? = some (pc, .istore_n n, 1)) {R0 : Room} {l0 : Launch} {E0 : EE} {P0 : Option Value → Wd → Prop} {mc0 ms0 nL0 : Nat} (hq : Is X R0 l0 E0 P0 mc0 ms0 nL0) (hn0 : Nat.ble ((n : Nat) + 1) nL0 = true) (k : G X ce sl (pc + 1) (lset1 lv (n : Nat) (.int x)) st w) : G X ce sl pc lv (.int x :: st) w := by
  obtain ⟨p, l, e, R, s, m, args, below, meth, c, E, P, mc, ms, nL⟩ := X
  obtain ⟨hx, hb, hml, hown, hts, hlk, hrt, hK, hd, hlo, hmn⟩ := h
  intro H locs ls hl hP hS
  have hn := Nat.le_of_ble_eq_true hn0
  rw [← hq.2.2.2.2.2.2] at hn
  obtain ⟨ls', e', h'⟩ := lst1 (v := .int x) hl hn rfl
  intro T hT X
  obtain ⟨t, a, b⟩ := k H locs ls' h' hP hS T hT X
  refine ⟨t, ?_, b⟩
  have hdg := dkm hd hi
  jvm_step X.here [X.here.top, ↓top_set X.here.top, hx, hb, hdg, e']
  exact a
theorem g_istore {X : Cx} {cc : ByteArray} {own mname : String} {ret : Option FieldType} {il : List (Nat × Instr × Nat)} {ce sl pc : Nat} {lv : Nat → Option Value} {st : List Value} {w : Wd} (h : Ok X cc own mname ret il) (i : Nat) {n : Nat} {x : Int32} (hi : il[i]? = some (pc, .istore n, 2)) {R0 : Room} {l0 : Launch} {E0 : EE} {P0 : Option Value → Wd → Prop} {mc0 ms0 nL0 : Nat} (hq : Is X R0 l0 E0 P0 mc0 ms0 nL0) (hn0 : Nat.ble (n + 1) nL0 = true) (k : G X ce sl (pc + 2) (lset1 lv n (.int x)) st w) : G X ce sl pc lv (.int x :: st) w := by
  obtain ⟨p, l, e, R, s, m, args, below, meth, c, E, P, mc, ms, nL⟩ := X
  obtain ⟨hx, hb, hml, hown, hts, hlk, hrt, hK, hd, hlo, hmn⟩ := h
  intro H locs ls hl hP hS
  have hn := Nat.le_of_ble_eq_true hn0
  rw [← hq.2.2.2.2.2.2] at hn
  obtain ⟨ls', e', h'⟩ := lst1 (v := .int x) hl hn rfl
  intro T hT X
  obtain ⟨t, a, b⟩ := k H locs ls' h' hP hS T hT X
  refine ⟨t, ?_, b⟩
  have hdg := dkm hd hi
  jvm_step X.here [X.here.top, ↓top_set X.here.top, hx, hb, hdg, e']
  exact a
theorem g_lload_n {X : Cx} {cc : ByteArray} {own mname : String} {ret : Option FieldType} {il : List (Nat × Instr × Nat)} {ce sl pc : Nat} {lv : Nat → Option Value} {st : List Value} {w : Wd} (h : Ok X cc own mname ret il) (i : Nat) {n : Fin 4} {x : Int64} (hi : il[i]? = some (pc, .lload_n n, 1)) (hv : lv (n : Nat) = some (.long x)) (k : G X ce sl (pc + 1) lv (.long x :: st) w) : G X ce sl pc lv st w := by
  obtain ⟨p, l, e, R, s, m, args, below, meth, c, E, P, mc, ms, nL⟩ := X
  obtain ⟨hx, hb, hml, hown, hts, hlk, hrt, hK, hd, hlo, hmn⟩ := h
  intro H locs ls hl hP hS
  exact lv_lload_n hx hb (dkm hd hi) rfl (hl.2.2 _ _ hv) (k H locs ls hl hP hS)
theorem g_lload {X : Cx} {cc : ByteArray} {own mname : String} {ret : Option FieldType} {il : List (Nat × Instr × Nat)} {ce sl pc : Nat} {lv : Nat → Option Value} {st : List Value} {w : Wd} (h : Ok X cc own mname ret il) (i : Nat) {n : Nat} {x : Int64} (hi : il[i]? = some (pc, .lload n, 2)) (hv : lv n = some (.long x)) (k : G X ce sl (pc + 2) lv (.long x :: st) w) : G X ce sl pc lv st w := by
  obtain ⟨p, l, e, R, s, m, args, below, meth, c, E, P, mc, ms, nL⟩ := X
  obtain ⟨hx, hb, hml, hown, hts, hlk, hrt, hK, hd, hlo, hmn⟩ := h
  intro H locs ls hl hP hS
  exact lv_lload hx hb (dkm hd hi) (hl.2.2 _ _ hv) (k H locs ls hl hP hS)
theorem g_lstore_n {X : Cx} {cc : ByteArray} {own mname : String} {ret : Option FieldType} {il : List (Nat × Instr × Nat)} {ce sl pc : Nat} {lv : Nat → Option Value} {st : List Value} {w : Wd} (h : Ok X cc own mname ret il) (i : Nat) {n : Fin 4} {x : Int64} (hi : il[i]? = some (pc, .lstore_n n, 1)) {R0 : Room} {l0 : Launch} {E0 : EE} {P0 : Option Value → Wd → Prop} {mc0 ms0 nL0 : Nat} (hq : Is X R0 l0 E0 P0 mc0 ms0 nL0) (hn0 : Nat.ble ((n : Nat) + 2) nL0 = true) (k : G X ce sl (pc + 1) (lset2 lv (n : Nat) (.long x)) st w) : G X ce sl pc lv (.long x :: st) w := by
  obtain ⟨p, l, e, R, s, m, args, below, meth, c, E, P, mc, ms, nL⟩ := X
  obtain ⟨hx, hb, hml, hown, hts, hlk, hrt, hK, hd, hlo, hmn⟩ := h
  intro H locs ls hl hP hS
  have hn := Nat.le_of_ble_eq_true hn0
  rw [← hq.2.2.2.2.2.2] at hn
  obtain ⟨ls', e', h'⟩ := lst2 (v := .long x) hl hn rfl
  intro T hT X
  obtain ⟨t, a, b⟩ := k H locs ls' h' hP hS T hT X
  refine ⟨t, ?_, b⟩
  have hdg := dkm hd hi
  jvm_step X.here [X.here.top, ↓top_set X.here.top, hx, hb, hdg, e']
  exact a
theorem g_lstore {X : Cx} {cc : ByteArray} {own mname : String} {ret : Option FieldType} {il : List (Nat × Instr × Nat)} {ce sl pc : Nat} {lv : Nat → Option Value} {st : List Value} {w : Wd} (h : Ok X cc own mname ret il) (i : Nat) {n : Nat} {x : Int64} (hi : il[i]? = some (pc, .lstore n, 2)) {R0 : Room} {l0 : Launch} {E0 : EE} {P0 : Option Value → Wd → Prop} {mc0 ms0 nL0 : Nat} (hq : Is X R0 l0 E0 P0 mc0 ms0 nL0) (hn0 : Nat.ble (n + 2) nL0 = true) (k : G X ce sl (pc + 2) (lset2 lv n (.long x)) st w) : G X ce sl pc lv (.long x :: st) w := by
  obtain ⟨p, l, e, R, s, m, args, below, meth, c, E, P, mc, ms, nL⟩ := X
  obtain ⟨hx, hb, hml, hown, hts, hlk, hrt, hK, hd, hlo, hmn⟩ := h
  intro H locs ls hl hP hS
  have hn := Nat.le_of_ble_eq_true hn0
  rw [← hq.2.2.2.2.2.2] at hn
  obtain ⟨ls', e', h'⟩ := lst2 (v := .long x) hl hn rfl
  intro T hT X
  obtain ⟨t, a, b⟩ := k H locs ls' h' hP hS T hT X
  refine ⟨t, ?_, b⟩
  have hdg := dkm hd hi
  jvm_step X.here [X.here.top, ↓top_set X.here.top, hx, hb, hdg, e']
  exact a
theorem g_dload_n {X : Cx} {cc : ByteArray} {own mname : String} {ret : Option FieldType} {il : List (Nat × Instr × Nat)} {ce sl pc : Nat} {lv : Nat → Option Value} {st : List Value} {w : Wd} (h : Ok X cc own mname ret il) (i : Nat) {n : Fin 4} {x : UInt64} (hi : il[i]? = some (pc, .dload_n n, 1)) (hv : lv (n : Nat) = some (.double x)) (k : G X ce sl (pc + 1) lv (.double x :: st) w) : G X ce sl pc lv st w := by
  obtain ⟨p, l, e, R, s, m, args, below, meth, c, E, P, mc, ms, nL⟩ := X
  obtain ⟨hx, hb, hml, hown, hts, hlk, hrt, hK, hd, hlo, hmn⟩ := h
  intro H locs ls hl hP hS
  exact lv_dload_n hx hb (dkm hd hi) rfl (hl.2.2 _ _ hv) (k H locs ls hl hP hS)
theorem g_dload {X : Cx} {cc : ByteArray} {own mname : String} {ret : Option FieldType} {il : List (Nat × Instr × Nat)} {ce sl pc : Nat} {lv : Nat → Option Value} {st : List Value} {w : Wd} (h : Ok X cc own mname ret il) (i : Nat) {n : Nat} {x : UInt64} (hi : il[i]? = some (pc, .dload n, 2)) (hv : lv n = some (.double x)) (k : G X ce sl (pc + 2) lv (.double x :: st) w) : G X ce sl pc lv st w := by
  obtain ⟨p, l, e, R, s, m, args, below, meth, c, E, P, mc, ms, nL⟩ := X
  obtain ⟨hx, hb, hml, hown, hts, hlk, hrt, hK, hd, hlo, hmn⟩ := h
  intro H locs ls hl hP hS
  exact lv_dload hx hb (dkm hd hi) (hl.2.2 _ _ hv) (k H locs ls hl hP hS)
theorem g_dstore_n {X : Cx} {cc : ByteArray} {own mname : String} {ret : Option FieldType} {il : List (Nat × Instr × Nat)} {ce sl pc : Nat} {lv : Nat → Option Value} {st : List Value} {w : Wd} (h : Ok X cc own mname ret il) (i : Nat) {n : Fin 4} {x : UInt64} (hi : il[i]? = some (pc, .dstore_n n, 1)) {R0 : Room} {l0 : Launch} {E0 : EE} {P0 : Option Value → Wd → Prop} {mc0 ms0 nL0 : Nat} (hq : Is X R0 l0 E0 P0 mc0 ms0 nL0) (hn0 : Nat.ble ((n : Nat) + 2) nL0 = true) (k : G X ce sl (pc + 1) (lset2 lv (n : Nat) (.double x)) st w) : G X ce sl pc lv (.double x :: st) w := by
  obtain ⟨p, l, e, R, s, m, args, below, meth, c, E, P, mc, ms, nL⟩ := X
  obtain ⟨hx, hb, hml, hown, hts, hlk, hrt, hK, hd, hlo, hmn⟩ := h
  intro H locs ls hl hP hS
  have hn := Nat.le_of_ble_eq_true hn0
  rw [← hq.2.2.2.2.2.2] at hn
  obtain ⟨ls', e', h'⟩ := lst2 (v := .double x) hl hn rfl
  intro T hT X
  obtain ⟨t, a, b⟩ := k H locs ls' h' hP hS T hT X
  refine ⟨t, ?_, b⟩
  have hdg := dkm hd hi
  jvm_step X.here [X.here.top, ↓top_set X.here.top, hx, hb, hdg, e']
  exact a
theorem g_dstore {X : Cx} {cc : ByteArray} {own mname : String} {ret : Option FieldType} {il : List (Nat × Instr × Nat)} {ce sl pc : Nat} {lv : Nat → Option Value} {st : List Value} {w : Wd} (h : Ok X cc own mname ret il) (i : Nat) {n : Nat} {x : UInt64} (hi : il[i]? = some (pc, .dstore n, 2)) {R0 : Room} {l0 : Launch} {E0 : EE} {P0 : Option Value → Wd → Prop} {mc0 ms0 nL0 : Nat} (hq : Is X R0 l0 E0 P0 mc0 ms0 nL0) (hn0 : Nat.ble (n + 2) nL0 = true) (k : G X ce sl (pc + 2) (lset2 lv n (.double x)) st w) : G X ce sl pc lv (.double x :: st) w := by
  obtain ⟨p, l, e, R, s, m, args, below, meth, c, E, P, mc, ms, nL⟩ := X
  obtain ⟨hx, hb, hml, hown, hts, hlk, hrt, hK, hd, hlo, hmn⟩ := h
  intro H locs ls hl hP hS
  have hn := Nat.le_of_ble_eq_true hn0
  rw [← hq.2.2.2.2.2.2] at hn
  obtain ⟨ls', e', h'⟩ := lst2 (v := .double x) hl hn rfl
  intro T hT X
  obtain ⟨t, a, b⟩ := k H locs ls' h' hP hS T hT X
  refine ⟨t, ?_, b⟩
  have hdg := dkm hd hi
  jvm_step X.here [X.here.top, ↓top_set X.here.top, hx, hb, hdg, e']
  exact a
theorem g_aload_n {X : Cx} {cc : ByteArray} {own mname : String} {ret : Option FieldType} {il : List (Nat × Instr × Nat)} {ce sl pc : Nat} {lv : Nat → Option Value} {st : List Value} {w : Wd} (h : Ok X cc own mname ret il) (i : Nat) {n : Fin 4} {x : Nat} (hi : il[i]? = some (pc, .aload_n n, 1)) (hv : lv (n : Nat) = some (.ref x)) (k : G X ce sl (pc + 1) lv (.ref x :: st) w) : G X ce sl pc lv st w := by
  obtain ⟨p, l, e, R, s, m, args, below, meth, c, E, P, mc, ms, nL⟩ := X
  obtain ⟨hx, hb, hml, hown, hts, hlk, hrt, hK, hd, hlo, hmn⟩ := h
  intro H locs ls hl hP hS
  exact lv_aload_n hx hb (dkm hd hi) rfl (hl.2.2 _ _ hv) (k H locs ls hl hP hS)
theorem g_aload {X : Cx} {cc : ByteArray} {own mname : String} {ret : Option FieldType} {il : List (Nat × Instr × Nat)} {ce sl pc : Nat} {lv : Nat → Option Value} {st : List Value} {w : Wd} (h : Ok X cc own mname ret il) (i : Nat) {n : Nat} {x : Nat} (hi : il[i]? = some (pc, .aload n, 2)) (hv : lv n = some (.ref x)) (k : G X ce sl (pc + 2) lv (.ref x :: st) w) : G X ce sl pc lv st w := by
  obtain ⟨p, l, e, R, s, m, args, below, meth, c, E, P, mc, ms, nL⟩ := X
  obtain ⟨hx, hb, hml, hown, hts, hlk, hrt, hK, hd, hlo, hmn⟩ := h
  intro H locs ls hl hP hS
  exact lv_aload hx hb (dkm hd hi) (hl.2.2 _ _ hv) (k H locs ls hl hP hS)
theorem g_astore_n {X : Cx} {cc : ByteArray} {own mname : String} {ret : Option FieldType} {il : List (Nat × Instr × Nat)} {ce sl pc : Nat} {lv : Nat → Option Value} {st : List Value} {w : Wd} (h : Ok X cc own mname ret il) (i : Nat) {n : Fin 4} {x : Nat} (hi : il[i]? = some (pc, .astore_n n, 1)) {R0 : Room} {l0 : Launch} {E0 : EE} {P0 : Option Value → Wd → Prop} {mc0 ms0 nL0 : Nat} (hq : Is X R0 l0 E0 P0 mc0 ms0 nL0) (hn0 : Nat.ble ((n : Nat) + 1) nL0 = true) (k : G X ce sl (pc + 1) (lset1 lv (n : Nat) (.ref x)) st w) : G X ce sl pc lv (.ref x :: st) w := by
  obtain ⟨p, l, e, R, s, m, args, below, meth, c, E, P, mc, ms, nL⟩ := X
  obtain ⟨hx, hb, hml, hown, hts, hlk, hrt, hK, hd, hlo, hmn⟩ := h
  intro H locs ls hl hP hS
  have hn := Nat.le_of_ble_eq_true hn0
  rw [← hq.2.2.2.2.2.2] at hn
  obtain ⟨ls', e', h'⟩ := lst1 (v := .ref x) hl hn rfl
  intro T hT X
  obtain ⟨t, a, b⟩ := k H locs ls' h' hP hS T hT X
  refine ⟨t, ?_, b⟩
  have hdg := dkm hd hi
  jvm_step X.here [X.here.top, ↓top_set X.here.top, hx, hb, hdg, e']
  exact ⟨rfl, a⟩
theorem g_astore {X : Cx} {cc : ByteArray} {own mname : String} {ret : Option FieldType} {il : List (Nat × Instr × Nat)} {ce sl pc : Nat} {lv : Nat → Option Value} {st : List Value} {w : Wd} (h : Ok X cc own mname ret il) (i : Nat) {n : Nat} {x : Nat} (hi : il[i]? = some (pc, .astore n, 2)) {R0 : Room} {l0 : Launch} {E0 : EE} {P0 : Option Value → Wd → Prop} {mc0 ms0 nL0 : Nat} (hq : Is X R0 l0 E0 P0 mc0 ms0 nL0) (hn0 : Nat.ble (n + 1) nL0 = true) (k : G X ce sl (pc + 2) (lset1 lv n (.ref x)) st w) : G X ce sl pc lv (.ref x :: st) w := by
  obtain ⟨p, l, e, R, s, m, args, below, meth, c, E, P, mc, ms, nL⟩ := X
  obtain ⟨hx, hb, hml, hown, hts, hlk, hrt, hK, hd, hlo, hmn⟩ := h
  intro H locs ls hl hP hS
  have hn := Nat.le_of_ble_eq_true hn0
  rw [← hq.2.2.2.2.2.2] at hn
  obtain ⟨ls', e', h'⟩ := lst1 (v := .ref x) hl hn rfl
  intro T hT X
  obtain ⟨t, a, b⟩ := k H locs ls' h' hP hS T hT X
  refine ⟨t, ?_, b⟩
  have hdg := dkm hd hi
  jvm_step X.here [X.here.top, ↓top_set X.here.top, hx, hb, hdg, e']
  exact ⟨rfl, a⟩
theorem g_iinc {X : Cx} {cc : ByteArray} {own mname : String} {ret : Option FieldType} {il : List (Nat × Instr × Nat)} {ce sl pc : Nat} {lv : Nat → Option Value} {st : List Value} {w : Wd} (h : Ok X cc own mname ret il) (i : Nat) {n : Nat} {d : Int} {x dv : Int32} (hi : il[i]? = some (pc, .iinc n d, 3)) (hx0 : lv n = some (.int x)) (hdv : Int32.ofInt d = dv) (k : G X ce sl (pc + 3) (lset1 lv n (.int (x + dv))) st w) : G X ce sl pc lv st w := by
  obtain ⟨p, l, e, R, s, m, args, below, meth, c, E, P, mc, ms, nL⟩ := X
  obtain ⟨hx, hb, hml, hown, hts, hlk, hrt, hK, hd, hlo, hmn⟩ := h
  intro H locs ls hl hP hS
  have hn := lvf_lt hl hx0
  subst hdv
  have hlx : ls[n]? = some (.val (.int x)) := hl.2.2 _ _ hx0
  obtain ⟨ls', e', h'⟩ := lst1 (v := .int (x + Int32.ofInt d)) hl hn rfl
  have k2 := k H locs ls' h' hP hS
  intro T hT X
  obtain ⟨t, a, b⟩ := k2 T hT X
  refine ⟨t, ?_, b⟩
  have hdg := dkm hd hi
  jvm_step X.here [X.here.top, ↓top_set X.here.top, hx, hb, hdg, hlx, e']
  exact a
theorem g_iadd {X : Cx} {cc : ByteArray} {own mname : String} {ret : Option FieldType} {il : List (Nat × Instr × Nat)} {ce sl pc : Nat} {lv : Nat → Option Value} {st : List Value} {w : Wd} (h : Ok X cc own mname ret il) (i : Nat) {x y : Int32} (hi : il[i]? = some (pc, .iadd, 1)) (k : G X ce sl (pc + 1) lv (.int (x + y) :: st) w) : G X ce sl pc lv (.int y :: .int x :: st) w := by
  obtain ⟨p, l, e, R, s, m, args, below, meth, c, E, P, mc, ms, nL⟩ := X
  obtain ⟨hx, hb, hml, hown, hts, hlk, hrt, hK, hd, hlo, hmn⟩ := h
  intro H locs ls hl hP hS
  exact lv_iadd hx hb (dkm hd hi) (k H locs ls hl hP hS)
theorem g_isub {X : Cx} {cc : ByteArray} {own mname : String} {ret : Option FieldType} {il : List (Nat × Instr × Nat)} {ce sl pc : Nat} {lv : Nat → Option Value} {st : List Value} {w : Wd} (h : Ok X cc own mname ret il) (i : Nat) {x y : Int32} (hi : il[i]? = some (pc, .isub, 1)) (k : G X ce sl (pc + 1) lv (.int (x - y) :: st) w) : G X ce sl pc lv (.int y :: .int x :: st) w := by
  obtain ⟨p, l, e, R, s, m, args, below, meth, c, E, P, mc, ms, nL⟩ := X
  obtain ⟨hx, hb, hml, hown, hts, hlk, hrt, hK, hd, hlo, hmn⟩ := h
  intro H locs ls hl hP hS
  exact lv_isub hx hb (dkm hd hi) (k H locs ls hl hP hS)
theorem g_imul {X : Cx} {cc : ByteArray} {own mname : String} {ret : Option FieldType} {il : List (Nat × Instr × Nat)} {ce sl pc : Nat} {lv : Nat → Option Value} {st : List Value} {w : Wd} (h : Ok X cc own mname ret il) (i : Nat) {x y : Int32} (hi : il[i]? = some (pc, .imul, 1)) (k : G X ce sl (pc + 1) lv (.int (x * y) :: st) w) : G X ce sl pc lv (.int y :: .int x :: st) w := by
  obtain ⟨p, l, e, R, s, m, args, below, meth, c, E, P, mc, ms, nL⟩ := X
  obtain ⟨hx, hb, hml, hown, hts, hlk, hrt, hK, hd, hlo, hmn⟩ := h
  intro H locs ls hl hP hS
  exact lv_imul hx hb (dkm hd hi) (k H locs ls hl hP hS)
theorem g_iand {X : Cx} {cc : ByteArray} {own mname : String} {ret : Option FieldType} {il : List (Nat × Instr × Nat)} {ce sl pc : Nat} {lv : Nat → Option Value} {st : List Value} {w : Wd} (h : Ok X cc own mname ret il) (i : Nat) {x y : Int32} (hi : il[i]? = some (pc, .iand, 1)) (k : G X ce sl (pc + 1) lv (.int (x &&& y) :: st) w) : G X ce sl pc lv (.int y :: .int x :: st) w := by
  obtain ⟨p, l, e, R, s, m, args, below, meth, c, E, P, mc, ms, nL⟩ := X
  obtain ⟨hx, hb, hml, hown, hts, hlk, hrt, hK, hd, hlo, hmn⟩ := h
  intro H locs ls hl hP hS
  exact lv_iand hx hb (dkm hd hi) (k H locs ls hl hP hS)
theorem g_idiv {X : Cx} {cc : ByteArray} {own mname : String} {ret : Option FieldType} {il : List (Nat × Instr × Nat)} {ce sl pc : Nat} {lv : Nat → Option Value} {st : List Value} {w : Wd} (h : Ok X cc own mname ret il) (i : Nat) {x y : Int32} (hi : il[i]? = some (pc, .idiv, 1)) (hne : ¬ y = 0) (k : G X ce sl (pc + 1) lv (.int (x / y) :: st) w) : G X ce sl pc lv (.int y :: .int x :: st) w := by
  obtain ⟨p, l, e, R, s, m, args, below, meth, c, E, P, mc, ms, nL⟩ := X
  obtain ⟨hx, hb, hml, hown, hts, hlk, hrt, hK, hd, hlo, hmn⟩ := h
  intro H locs ls hl hP hS
  exact lv_idiv hx hb (dkm hd hi) hne (k H locs ls hl hP hS)
theorem g_irem {X : Cx} {cc : ByteArray} {own mname : String} {ret : Option FieldType} {il : List (Nat × Instr × Nat)} {ce sl pc : Nat} {lv : Nat → Option Value} {st : List Value} {w : Wd} (h : Ok X cc own mname ret il) (i : Nat) {x y : Int32} (hi : il[i]? = some (pc, .irem, 1)) (hne : ¬ y = 0) (k : G X ce sl (pc + 1) lv (.int (x - x / y * y) :: st) w) : G X ce sl pc lv (.int y :: .int x :: st) w := by
  obtain ⟨p, l, e, R, s, m, args, below, meth, c, E, P, mc, ms, nL⟩ := X
  obtain ⟨hx, hb, hml, hown, hts, hlk, hrt, hK, hd, hlo, hmn⟩ := h
  intro H locs ls hl hP hS
  exact lv_irem hx hb (dkm hd hi) hne (k H locs ls hl hP hS)
theorem g_ladd {X : Cx} {cc : ByteArray} {own mname : String} {ret : Option FieldType} {il : List (Nat × Instr × Nat)} {ce sl pc : Nat} {lv : Nat → Option Value} {st : List Value} {w : Wd} (h : Ok X cc own mname ret il) (i : Nat) {x y : Int64} (hi : il[i]? = some (pc, .ladd, 1)) (k : G X ce sl (pc + 1) lv (.long (x + y) :: st) w) : G X ce sl pc lv (.long y :: .long x :: st) w := by
  obtain ⟨p, l, e, R, s, m, args, below, meth, c, E, P, mc, ms, nL⟩ := X
  obtain ⟨hx, hb, hml, hown, hts, hlk, hrt, hK, hd, hlo, hmn⟩ := h
  intro H locs ls hl hP hS
  exact lv_ladd hx hb (dkm hd hi) (k H locs ls hl hP hS)
theorem g_lsub {X : Cx} {cc : ByteArray} {own mname : String} {ret : Option FieldType} {il : List (Nat × Instr × Nat)} {ce sl pc : Nat} {lv : Nat → Option Value} {st : List Value} {w : Wd} (h : Ok X cc own mname ret il) (i : Nat) {x y : Int64} (hi : il[i]? = some (pc, .lsub, 1)) (k : G X ce sl (pc + 1) lv (.long (x - y) :: st) w) : G X ce sl pc lv (.long y :: .long x :: st) w := by
  obtain ⟨p, l, e, R, s, m, args, below, meth, c, E, P, mc, ms, nL⟩ := X
  obtain ⟨hx, hb, hml, hown, hts, hlk, hrt, hK, hd, hlo, hmn⟩ := h
  intro H locs ls hl hP hS
  exact lv_lsub hx hb (dkm hd hi) (k H locs ls hl hP hS)
theorem g_lmul {X : Cx} {cc : ByteArray} {own mname : String} {ret : Option FieldType} {il : List (Nat × Instr × Nat)} {ce sl pc : Nat} {lv : Nat → Option Value} {st : List Value} {w : Wd} (h : Ok X cc own mname ret il) (i : Nat) {x y : Int64} (hi : il[i]? = some (pc, .lmul, 1)) (k : G X ce sl (pc + 1) lv (.long (x * y) :: st) w) : G X ce sl pc lv (.long y :: .long x :: st) w := by
  obtain ⟨p, l, e, R, s, m, args, below, meth, c, E, P, mc, ms, nL⟩ := X
  obtain ⟨hx, hb, hml, hown, hts, hlk, hrt, hK, hd, hlo, hmn⟩ := h
  intro H locs ls hl hP hS
  exact lv_lmul hx hb (dkm hd hi) (k H locs ls hl hP hS)
theorem g_land {X : Cx} {cc : ByteArray} {own mname : String} {ret : Option FieldType} {il : List (Nat × Instr × Nat)} {ce sl pc : Nat} {lv : Nat → Option Value} {st : List Value} {w : Wd} (h : Ok X cc own mname ret il) (i : Nat) {x y : Int64} (hi : il[i]? = some (pc, .land, 1)) (k : G X ce sl (pc + 1) lv (.long (x &&& y) :: st) w) : G X ce sl pc lv (.long y :: .long x :: st) w := by
  obtain ⟨p, l, e, R, s, m, args, below, meth, c, E, P, mc, ms, nL⟩ := X
  obtain ⟨hx, hb, hml, hown, hts, hlk, hrt, hK, hd, hlo, hmn⟩ := h
  intro H locs ls hl hP hS
  exact lv_land hx hb (dkm hd hi) (k H locs ls hl hP hS)
theorem g_lor {X : Cx} {cc : ByteArray} {own mname : String} {ret : Option FieldType} {il : List (Nat × Instr × Nat)} {ce sl pc : Nat} {lv : Nat → Option Value} {st : List Value} {w : Wd} (h : Ok X cc own mname ret il) (i : Nat) {x y : Int64} (hi : il[i]? = some (pc, .lor, 1)) (k : G X ce sl (pc + 1) lv (.long (x ||| y) :: st) w) : G X ce sl pc lv (.long y :: .long x :: st) w := by
  obtain ⟨p, l, e, R, s, m, args, below, meth, c, E, P, mc, ms, nL⟩ := X
  obtain ⟨hx, hb, hml, hown, hts, hlk, hrt, hK, hd, hlo, hmn⟩ := h
  intro H locs ls hl hP hS
  exact lv_lor hx hb (dkm hd hi) (k H locs ls hl hP hS)
theorem g_ldiv {X : Cx} {cc : ByteArray} {own mname : String} {ret : Option FieldType} {il : List (Nat × Instr × Nat)} {ce sl pc : Nat} {lv : Nat → Option Value} {st : List Value} {w : Wd} (h : Ok X cc own mname ret il) (i : Nat) {x y : Int64} (hi : il[i]? = some (pc, .ldiv, 1)) (hne : ¬ y = 0) (k : G X ce sl (pc + 1) lv (.long (x / y) :: st) w) : G X ce sl pc lv (.long y :: .long x :: st) w := by
  obtain ⟨p, l, e, R, s, m, args, below, meth, c, E, P, mc, ms, nL⟩ := X
  obtain ⟨hx, hb, hml, hown, hts, hlk, hrt, hK, hd, hlo, hmn⟩ := h
  intro H locs ls hl hP hS
  exact lv_ldiv hx hb (dkm hd hi) hne (k H locs ls hl hP hS)
theorem g_lrem {X : Cx} {cc : ByteArray} {own mname : String} {ret : Option FieldType} {il : List (Nat × Instr × Nat)} {ce sl pc : Nat} {lv : Nat → Option Value} {st : List Value} {w : Wd} (h : Ok X cc own mname ret il) (i : Nat) {x y : Int64} (hi : il[i]? = some (pc, .lrem, 1)) (hne : ¬ y = 0) (k : G X ce sl (pc + 1) lv (.long (x - x / y * y) :: st) w) : G X ce sl pc lv (.long y :: .long x :: st) w := by
  obtain ⟨p, l, e, R, s, m, args, below, meth, c, E, P, mc, ms, nL⟩ := X
  obtain ⟨hx, hb, hml, hown, hts, hlk, hrt, hK, hd, hlo, hmn⟩ := h
  intro H locs ls hl hP hS
  exact lv_lrem hx hb (dkm hd hi) hne (k H locs ls hl hP hS)
theorem g_lneg {X : Cx} {cc : ByteArray} {own mname : String} {ret : Option FieldType} {il : List (Nat × Instr × Nat)} {ce sl pc : Nat} {lv : Nat → Option Value} {st : List Value} {w : Wd} (h : Ok X cc own mname ret il) (i : Nat) {x : Int64} (hi : il[i]? = some (pc, .lneg, 1)) (k : G X ce sl (pc + 1) lv (.long (-x) :: st) w) : G X ce sl pc lv (.long x :: st) w := by
  obtain ⟨p, l, e, R, s, m, args, below, meth, c, E, P, mc, ms, nL⟩ := X
  obtain ⟨hx, hb, hml, hown, hts, hlk, hrt, hK, hd, hlo, hmn⟩ := h
  intro H locs ls hl hP hS
  exact lv_lneg hx hb (dkm hd hi) (k H locs ls hl hP hS)
theorem g_i2l {X : Cx} {cc : ByteArray} {own mname : String} {ret : Option FieldType} {il : List (Nat × Instr × Nat)} {ce sl pc : Nat} {lv : Nat → Option Value} {st : List Value} {w : Wd} (h : Ok X cc own mname ret il) (i : Nat) {x : Int32} (hi : il[i]? = some (pc, .i2l, 1)) (k : G X ce sl (pc + 1) lv (.long x.toInt64 :: st) w) : G X ce sl pc lv (.int x :: st) w := by
  obtain ⟨p, l, e, R, s, m, args, below, meth, c, E, P, mc, ms, nL⟩ := X
  obtain ⟨hx, hb, hml, hown, hts, hlk, hrt, hK, hd, hlo, hmn⟩ := h
  intro H locs ls hl hP hS
  exact lv_i2l hx hb (dkm hd hi) rfl (k H locs ls hl hP hS)
theorem g_l2i {X : Cx} {cc : ByteArray} {own mname : String} {ret : Option FieldType} {il : List (Nat × Instr × Nat)} {ce sl pc : Nat} {lv : Nat → Option Value} {st : List Value} {w : Wd} (h : Ok X cc own mname ret il) (i : Nat) {x : Int64} (hi : il[i]? = some (pc, .l2i, 1)) (k : G X ce sl (pc + 1) lv (.int x.toInt32 :: st) w) : G X ce sl pc lv (.long x :: st) w := by
  obtain ⟨p, l, e, R, s, m, args, below, meth, c, E, P, mc, ms, nL⟩ := X
  obtain ⟨hx, hb, hml, hown, hts, hlk, hrt, hK, hd, hlo, hmn⟩ := h
  intro H locs ls hl hP hS
  exact lv_l2i hx hb (dkm hd hi) rfl (k H locs ls hl hP hS)
theorem g_i2d {X : Cx} {cc : ByteArray} {own mname : String} {ret : Option FieldType} {il : List (Nat × Instr × Nat)} {ce sl pc : Nat} {lv : Nat → Option Value} {st : List Value} {w : Wd} (h : Ok X cc own mname ret il) (i : Nat) {x : Int32} (hi : il[i]? = some (pc, .i2d, 1)) (k : G X ce sl (pc + 1) lv (.double (FP.i2d x) :: st) w) : G X ce sl pc lv (.int x :: st) w := by
  obtain ⟨p, l, e, R, s, m, args, below, meth, c, E, P, mc, ms, nL⟩ := X
  obtain ⟨hx, hb, hml, hown, hts, hlk, hrt, hK, hd, hlo, hmn⟩ := h
  intro H locs ls hl hP hS
  exact lv_i2d hx hb (dkm hd hi) (k H locs ls hl hP hS)
theorem g_l2d {X : Cx} {cc : ByteArray} {own mname : String} {ret : Option FieldType} {il : List (Nat × Instr × Nat)} {ce sl pc : Nat} {lv : Nat → Option Value} {st : List Value} {w : Wd} (h : Ok X cc own mname ret il) (i : Nat) {x : Int64} (hi : il[i]? = some (pc, .l2d, 1)) (k : G X ce sl (pc + 1) lv (.double (FP.l2d x) :: st) w) : G X ce sl pc lv (.long x :: st) w := by
  obtain ⟨p, l, e, R, s, m, args, below, meth, c, E, P, mc, ms, nL⟩ := X
  obtain ⟨hx, hb, hml, hown, hts, hlk, hrt, hK, hd, hlo, hmn⟩ := h
  intro H locs ls hl hP hS
  exact lv_l2d hx hb (dkm hd hi) (k H locs ls hl hP hS)
theorem g_d2l {X : Cx} {cc : ByteArray} {own mname : String} {ret : Option FieldType} {il : List (Nat × Instr × Nat)} {ce sl pc : Nat} {lv : Nat → Option Value} {st : List Value} {w : Wd} (h : Ok X cc own mname ret il) (i : Nat) {x : UInt64} (hi : il[i]? = some (pc, .d2l, 1)) (k : G X ce sl (pc + 1) lv (.long (FP.d2l x) :: st) w) : G X ce sl pc lv (.double x :: st) w := by
  obtain ⟨p, l, e, R, s, m, args, below, meth, c, E, P, mc, ms, nL⟩ := X
  obtain ⟨hx, hb, hml, hown, hts, hlk, hrt, hK, hd, hlo, hmn⟩ := h
  intro H locs ls hl hP hS
  exact lv_d2l hx hb (dkm hd hi) (k H locs ls hl hP hS)
theorem g_lshl {X : Cx} {cc : ByteArray} {own mname : String} {ret : Option FieldType} {il : List (Nat × Instr × Nat)} {ce sl pc : Nat} {lv : Nat → Option Value} {st : List Value} {w : Wd} (h : Ok X cc own mname ret il) (i : Nat) {x : Int64} {y : Int32} (hi : il[i]? = some (pc, .lshl, 1)) (k : G X ce sl (pc + 1) lv (.long (x <<< (y.toInt64 &&& 63)) :: st) w) : G X ce sl pc lv (.int y :: .long x :: st) w := by
  obtain ⟨p, l, e, R, s, m, args, below, meth, c, E, P, mc, ms, nL⟩ := X
  obtain ⟨hx, hb, hml, hown, hts, hlk, hrt, hK, hd, hlo, hmn⟩ := h
  intro H locs ls hl hP hS
  exact lv_lshl hx hb (dkm hd hi) rfl (k H locs ls hl hP hS)
theorem g_dadd {X : Cx} {cc : ByteArray} {own mname : String} {ret : Option FieldType} {il : List (Nat × Instr × Nat)} {ce sl pc : Nat} {lv : Nat → Option Value} {st : List Value} {w : Wd} (h : Ok X cc own mname ret il) (i : Nat) {x y : UInt64} (hi : il[i]? = some (pc, .dadd, 1)) (hne : vf_n64 (FP.dadd x y)) (k : G X ce sl (pc + 1) lv (.double (FP.dadd x y) :: st) w) : G X ce sl pc lv (.double y :: .double x :: st) w := by
  obtain ⟨p, l, e, R, s, m, args, below, meth, c, E, P, mc, ms, nL⟩ := X
  obtain ⟨hx, hb, hml, hown, hts, hlk, hrt, hK, hd, hlo, hmn⟩ := h
  intro H locs ls hl hP hS
  exact lv_dadd hx hb (dkm hd hi) hne (k H locs ls hl hP hS)
theorem g_dsub {X : Cx} {cc : ByteArray} {own mname : String} {ret : Option FieldType} {il : List (Nat × Instr × Nat)} {ce sl pc : Nat} {lv : Nat → Option Value} {st : List Value} {w : Wd} (h : Ok X cc own mname ret il) (i : Nat) {x y : UInt64} (hi : il[i]? = some (pc, .dsub, 1)) (hne : vf_n64 (FP.dsub x y)) (k : G X ce sl (pc + 1) lv (.double (FP.dsub x y) :: st) w) : G X ce sl pc lv (.double y :: .double x :: st) w := by
  obtain ⟨p, l, e, R, s, m, args, below, meth, c, E, P, mc, ms, nL⟩ := X
  obtain ⟨hx, hb, hml, hown, hts, hlk, hrt, hK, hd, hlo, hmn⟩ := h
  intro H locs ls hl hP hS
  exact lv_dsub hx hb (dkm hd hi) hne (k H locs ls hl hP hS)
theorem g_dmul {X : Cx} {cc : ByteArray} {own mname : String} {ret : Option FieldType} {il : List (Nat × Instr × Nat)} {ce sl pc : Nat} {lv : Nat → Option Value} {st : List Value} {w : Wd} (h : Ok X cc own mname ret il) (i : Nat) {x y : UInt64} (hi : il[i]? = some (pc, .dmul, 1)) (hne : vf_n64 (FP.dmul x y)) (k : G X ce sl (pc + 1) lv (.double (FP.dmul x y) :: st) w) : G X ce sl pc lv (.double y :: .double x :: st) w := by
  obtain ⟨p, l, e, R, s, m, args, below, meth, c, E, P, mc, ms, nL⟩ := X
  obtain ⟨hx, hb, hml, hown, hts, hlk, hrt, hK, hd, hlo, hmn⟩ := h
  intro H locs ls hl hP hS
  exact lv_dmul hx hb (dkm hd hi) hne (k H locs ls hl hP hS)
theorem g_ddiv {X : Cx} {cc : ByteArray} {own mname : String} {ret : Option FieldType} {il : List (Nat × Instr × Nat)} {ce sl pc : Nat} {lv : Nat → Option Value} {st : List Value} {w : Wd} (h : Ok X cc own mname ret il) (i : Nat) {x y : UInt64} (hi : il[i]? = some (pc, .ddiv, 1)) (hne : vf_n64 (FP.ddiv x y)) (k : G X ce sl (pc + 1) lv (.double (FP.ddiv x y) :: st) w) : G X ce sl pc lv (.double y :: .double x :: st) w := by
  obtain ⟨p, l, e, R, s, m, args, below, meth, c, E, P, mc, ms, nL⟩ := X
  obtain ⟨hx, hb, hml, hown, hts, hlk, hrt, hK, hd, hlo, hmn⟩ := h
  intro H locs ls hl hP hS
  exact lv_ddiv hx hb (dkm hd hi) hne (k H locs ls hl hP hS)
theorem g_dcmp {X : Cx} {cc : ByteArray} {own mname : String} {ret : Option FieldType} {il : List (Nat × Instr × Nat)} {ce sl pc : Nat} {lv : Nat → Option Value} {st : List Value} {w : Wd} (h : Ok X cc own mname ret il) (i : Nat) {x y : UInt64} {op : CmpOp} (hi : il[i]? = some (pc, .dcmp op, 1)) (k : G X ce sl (pc + 1) lv (.int (Op.cmpValue (FP.dcmp x y) op) :: st) w) : G X ce sl pc lv (.double y :: .double x :: st) w := by
  obtain ⟨p, l, e, R, s, m, args, below, meth, c, E, P, mc, ms, nL⟩ := X
  obtain ⟨hx, hb, hml, hown, hts, hlk, hrt, hK, hd, hlo, hmn⟩ := h
  intro H locs ls hl hP hS
  exact lv_dcmp hx hb (dkm hd hi) (k H locs ls hl hP hS)
theorem g_lcmp {X : Cx} {cc : ByteArray} {own mname : String} {ret : Option FieldType} {il : List (Nat × Instr × Nat)} {ce sl pc : Nat} {lv : Nat → Option Value} {st : List Value} {w : Wd} (h : Ok X cc own mname ret il) (i : Nat) {x y : Int64} (hi : il[i]? = some (pc, .lcmp, 1)) (k : G X ce sl (pc + 1) lv (.int (lg_cmp x y) :: st) w) : G X ce sl pc lv (.long y :: .long x :: st) w := by
  obtain ⟨p, l, e, R, s, m, args, below, meth, c, E, P, mc, ms, nL⟩ := X
  obtain ⟨hx, hb, hml, hown, hts, hlk, hrt, hK, hd, hlo, hmn⟩ := h
  intro H locs ls hl hP hS
  exact W.lcmp hx hb (dkm hd hi) (k H locs ls hl hP hS)
theorem g_dup {X : Cx} {cc : ByteArray} {own mname : String} {ret : Option FieldType} {il : List (Nat × Instr × Nat)} {ce sl pc : Nat} {lv : Nat → Option Value} {st : List Value} {w : Wd} (h : Ok X cc own mname ret il) (i : Nat) {v : Value} (hi : il[i]? = some (pc, .dup, 1)) (hv : v.category = 1) (k : G X ce sl (pc + 1) lv (v :: v :: st) w) : G X ce sl pc lv (v :: st) w := by
  obtain ⟨p, l, e, R, s, m, args, below, meth, c, E, P, mc, ms, nL⟩ := X
  obtain ⟨hx, hb, hml, hown, hts, hlk, hrt, hK, hd, hlo, hmn⟩ := h
  intro H locs ls hl hP hS
  exact lv_dup hx hb (dkm hd hi) hv (k H locs ls hl hP hS)
theorem g_pop {X : Cx} {cc : ByteArray} {own mname : String} {ret : Option FieldType} {il : List (Nat × Instr × Nat)} {ce sl pc : Nat} {lv : Nat → Option Value} {st : List Value} {w : Wd} (h : Ok X cc own mname ret il) (i : Nat) {v : Value} (hi : il[i]? = some (pc, .pop, 1)) (hv : v.category = 1) (k : G X ce sl (pc + 1) lv (st) w) : G X ce sl pc lv (v :: st) w := by
  obtain ⟨p, l, e, R, s, m, args, below, meth, c, E, P, mc, ms, nL⟩ := X
  obtain ⟨hx, hb, hml, hown, hts, hlk, hrt, hK, hd, hlo, hmn⟩ := h
  intro H locs ls hl hP hS
  exact lv_pop hx hb (dkm hd hi) hv (k H locs ls hl hP hS)
theorem g_dup_x1 {X : Cx} {cc : ByteArray} {own mname : String} {ret : Option FieldType} {il : List (Nat × Instr × Nat)} {ce sl pc : Nat} {lv : Nat → Option Value} {st : List Value} {w : Wd} (h : Ok X cc own mname ret il) (i : Nat) {v u : Value} (hi : il[i]? = some (pc, .dup_x1, 1)) (hv : v.category = 1) (hu : u.category = 1) (k : G X ce sl (pc + 1) lv (v :: u :: v :: st) w) : G X ce sl pc lv (v :: u :: st) w := by
  obtain ⟨p, l, e, R, s, m, args, below, meth, c, E, P, mc, ms, nL⟩ := X
  obtain ⟨hx, hb, hml, hown, hts, hlk, hrt, hK, hd, hlo, hmn⟩ := h
  intro H locs ls hl hP hS
  exact lv_dup_x1 hx hb (dkm hd hi) hv hu (k H locs ls hl hP hS)
theorem g_dup2 {X : Cx} {cc : ByteArray} {own mname : String} {ret : Option FieldType} {il : List (Nat × Instr × Nat)} {ce sl pc : Nat} {lv : Nat → Option Value} {st : List Value} {w : Wd} (h : Ok X cc own mname ret il) (i : Nat) {v u : Value} (hi : il[i]? = some (pc, .dup2, 1)) (hv : v.category = 1) (hu : u.category = 1) (k : G X ce sl (pc + 1) lv (v :: u :: v :: u :: st) w) : G X ce sl pc lv (v :: u :: st) w := by
  obtain ⟨p, l, e, R, s, m, args, below, meth, c, E, P, mc, ms, nL⟩ := X
  obtain ⟨hx, hb, hml, hown, hts, hlk, hrt, hK, hd, hlo, hmn⟩ := h
  intro H locs ls hl hP hS
  exact lv_dup2_11 hx hb (dkm hd hi) hv hu (k H locs ls hl hP hS)
theorem g_if_eq {X : Cx} {cc : ByteArray} {own mname : String} {ret : Option FieldType} {il : List (Nat × Instr × Nat)} {ce sl pc : Nat} {lv : Nat → Option Value} {st : List Value} {w : Wd} (h : Ok X cc own mname ret il) (i : Nat) {x : Int32} {off : Int} (tgt : Nat) (hi : il[i]? = some (pc, .ifCond .eq off, 3)) (ht : (pc : Int) + off = (tgt : Int)) (kt : x = 0 → G X ce sl tgt lv st w) (kf : ¬ x = 0 → G X ce sl (pc + 3) lv st w) : G X ce sl pc lv (.int x :: st) w := by
  obtain ⟨p, l, e, R, s, m, args, below, meth, c, E, P, mc, ms, nL⟩ := X
  obtain ⟨hx, hb, hml, hown, hts, hlk, hrt, hK, hd, hlo, hmn⟩ := h
  intro H locs ls hl hP hS
  exact lv_if_eq hx hb (dkm hd hi) ht (fun q => kt q H locs ls hl hP hS) (fun q => kf q H locs ls hl hP hS)
theorem g_if_ne {X : Cx} {cc : ByteArray} {own mname : String} {ret : Option FieldType} {il : List (Nat × Instr × Nat)} {ce sl pc : Nat} {lv : Nat → Option Value} {st : List Value} {w : Wd} (h : Ok X cc own mname ret il) (i : Nat) {x : Int32} {off : Int} (tgt : Nat) (hi : il[i]? = some (pc, .ifCond .ne off, 3)) (ht : (pc : Int) + off = (tgt : Int)) (kt : ¬ x = 0 → G X ce sl tgt lv st w) (kf : x = 0 → G X ce sl (pc + 3) lv st w) : G X ce sl pc lv (.int x :: st) w := by
  obtain ⟨p, l, e, R, s, m, args, below, meth, c, E, P, mc, ms, nL⟩ := X
  obtain ⟨hx, hb, hml, hown, hts, hlk, hrt, hK, hd, hlo, hmn⟩ := h
  intro H locs ls hl hP hS
  exact lv_if_ne hx hb (dkm hd hi) ht (fun q => kt q H locs ls hl hP hS) (fun q => kf q H locs ls hl hP hS)
theorem g_if_lt {X : Cx} {cc : ByteArray} {own mname : String} {ret : Option FieldType} {il : List (Nat × Instr × Nat)} {ce sl pc : Nat} {lv : Nat → Option Value} {st : List Value} {w : Wd} (h : Ok X cc own mname ret il) (i : Nat) {x : Int32} {off : Int} (tgt : Nat) (hi : il[i]? = some (pc, .ifCond .lt off, 3)) (ht : (pc : Int) + off = (tgt : Int)) (kt : x < 0 → G X ce sl tgt lv st w) (kf : ¬ x < 0 → G X ce sl (pc + 3) lv st w) : G X ce sl pc lv (.int x :: st) w := by
  obtain ⟨p, l, e, R, s, m, args, below, meth, c, E, P, mc, ms, nL⟩ := X
  obtain ⟨hx, hb, hml, hown, hts, hlk, hrt, hK, hd, hlo, hmn⟩ := h
  intro H locs ls hl hP hS
  exact lv_if_lt hx hb (dkm hd hi) ht (fun q => kt q H locs ls hl hP hS) (fun q => kf q H locs ls hl hP hS)
theorem g_if_ge {X : Cx} {cc : ByteArray} {own mname : String} {ret : Option FieldType} {il : List (Nat × Instr × Nat)} {ce sl pc : Nat} {lv : Nat → Option Value} {st : List Value} {w : Wd} (h : Ok X cc own mname ret il) (i : Nat) {x : Int32} {off : Int} (tgt : Nat) (hi : il[i]? = some (pc, .ifCond .ge off, 3)) (ht : (pc : Int) + off = (tgt : Int)) (kt : 0 ≤ x → G X ce sl tgt lv st w) (kf : ¬ 0 ≤ x → G X ce sl (pc + 3) lv st w) : G X ce sl pc lv (.int x :: st) w := by
  obtain ⟨p, l, e, R, s, m, args, below, meth, c, E, P, mc, ms, nL⟩ := X
  obtain ⟨hx, hb, hml, hown, hts, hlk, hrt, hK, hd, hlo, hmn⟩ := h
  intro H locs ls hl hP hS
  exact lv_if_ge hx hb (dkm hd hi) ht (fun q => kt q H locs ls hl hP hS) (fun q => kf q H locs ls hl hP hS)
theorem g_if_gt {X : Cx} {cc : ByteArray} {own mname : String} {ret : Option FieldType} {il : List (Nat × Instr × Nat)} {ce sl pc : Nat} {lv : Nat → Option Value} {st : List Value} {w : Wd} (h : Ok X cc own mname ret il) (i : Nat) {x : Int32} {off : Int} (tgt : Nat) (hi : il[i]? = some (pc, .ifCond .gt off, 3)) (ht : (pc : Int) + off = (tgt : Int)) (kt : 0 < x → G X ce sl tgt lv st w) (kf : ¬ 0 < x → G X ce sl (pc + 3) lv st w) : G X ce sl pc lv (.int x :: st) w := by
  obtain ⟨p, l, e, R, s, m, args, below, meth, c, E, P, mc, ms, nL⟩ := X
  obtain ⟨hx, hb, hml, hown, hts, hlk, hrt, hK, hd, hlo, hmn⟩ := h
  intro H locs ls hl hP hS
  exact lv_if_gt hx hb (dkm hd hi) ht (fun q => kt q H locs ls hl hP hS) (fun q => kf q H locs ls hl hP hS)
theorem g_if_le {X : Cx} {cc : ByteArray} {own mname : String} {ret : Option FieldType} {il : List (Nat × Instr × Nat)} {ce sl pc : Nat} {lv : Nat → Option Value} {st : List Value} {w : Wd} (h : Ok X cc own mname ret il) (i : Nat) {x : Int32} {off : Int} (tgt : Nat) (hi : il[i]? = some (pc, .ifCond .le off, 3)) (ht : (pc : Int) + off = (tgt : Int)) (kt : x ≤ 0 → G X ce sl tgt lv st w) (kf : ¬ x ≤ 0 → G X ce sl (pc + 3) lv st w) : G X ce sl pc lv (.int x :: st) w := by
  obtain ⟨p, l, e, R, s, m, args, below, meth, c, E, P, mc, ms, nL⟩ := X
  obtain ⟨hx, hb, hml, hown, hts, hlk, hrt, hK, hd, hlo, hmn⟩ := h
  intro H locs ls hl hP hS
  exact lv_if_le hx hb (dkm hd hi) ht (fun q => kt q H locs ls hl hP hS) (fun q => kf q H locs ls hl hP hS)
theorem g_icmp_eq {X : Cx} {cc : ByteArray} {own mname : String} {ret : Option FieldType} {il : List (Nat × Instr × Nat)} {ce sl pc : Nat} {lv : Nat → Option Value} {st : List Value} {w : Wd} (h : Ok X cc own mname ret il) (i : Nat) {x y : Int32} {off : Int} (tgt : Nat) (hi : il[i]? = some (pc, .if_icmp .eq off, 3)) (ht : (pc : Int) + off = (tgt : Int)) (kt : x = y → G X ce sl tgt lv st w) (kf : ¬ x = y → G X ce sl (pc + 3) lv st w) : G X ce sl pc lv (.int y :: .int x :: st) w := by
  obtain ⟨p, l, e, R, s, m, args, below, meth, c, E, P, mc, ms, nL⟩ := X
  obtain ⟨hx, hb, hml, hown, hts, hlk, hrt, hK, hd, hlo, hmn⟩ := h
  intro H locs ls hl hP hS
  exact lv_icmp_eq hx hb (dkm hd hi) ht (fun q => kt q H locs ls hl hP hS) (fun q => kf q H locs ls hl hP hS)
theorem g_icmp_ne {X : Cx} {cc : ByteArray} {own mname : String} {ret : Option FieldType} {il : List (Nat × Instr × Nat)} {ce sl pc : Nat} {lv : Nat → Option Value} {st : List Value} {w : Wd} (h : Ok X cc own mname ret il) (i : Nat) {x y : Int32} {off : Int} (tgt : Nat) (hi : il[i]? = some (pc, .if_icmp .ne off, 3)) (ht : (pc : Int) + off = (tgt : Int)) (kt : ¬ x = y → G X ce sl tgt lv st w) (kf : x = y → G X ce sl (pc + 3) lv st w) : G X ce sl pc lv (.int y :: .int x :: st) w := by
  obtain ⟨p, l, e, R, s, m, args, below, meth, c, E, P, mc, ms, nL⟩ := X
  obtain ⟨hx, hb, hml, hown, hts, hlk, hrt, hK, hd, hlo, hmn⟩ := h
  intro H locs ls hl hP hS
  exact lv_icmp_ne hx hb (dkm hd hi) ht (fun q => kt q H locs ls hl hP hS) (fun q => kf q H locs ls hl hP hS)
theorem g_icmp_lt {X : Cx} {cc : ByteArray} {own mname : String} {ret : Option FieldType} {il : List (Nat × Instr × Nat)} {ce sl pc : Nat} {lv : Nat → Option Value} {st : List Value} {w : Wd} (h : Ok X cc own mname ret il) (i : Nat) {x y : Int32} {off : Int} (tgt : Nat) (hi : il[i]? = some (pc, .if_icmp .lt off, 3)) (ht : (pc : Int) + off = (tgt : Int)) (kt : x < y → G X ce sl tgt lv st w) (kf : ¬ x < y → G X ce sl (pc + 3) lv st w) : G X ce sl pc lv (.int y :: .int x :: st) w := by
  obtain ⟨p, l, e, R, s, m, args, below, meth, c, E, P, mc, ms, nL⟩ := X
  obtain ⟨hx, hb, hml, hown, hts, hlk, hrt, hK, hd, hlo, hmn⟩ := h
  intro H locs ls hl hP hS
  exact lv_icmp_lt hx hb (dkm hd hi) ht (fun q => kt q H locs ls hl hP hS) (fun q => kf q H locs ls hl hP hS)
theorem g_icmp_ge {X : Cx} {cc : ByteArray} {own mname : String} {ret : Option FieldType} {il : List (Nat × Instr × Nat)} {ce sl pc : Nat} {lv : Nat → Option Value} {st : List Value} {w : Wd} (h : Ok X cc own mname ret il) (i : Nat) {x y : Int32} {off : Int} (tgt : Nat) (hi : il[i]? = some (pc, .if_icmp .ge off, 3)) (ht : (pc : Int) + off = (tgt : Int)) (kt : y ≤ x → G X ce sl tgt lv st w) (kf : ¬ y ≤ x → G X ce sl (pc + 3) lv st w) : G X ce sl pc lv (.int y :: .int x :: st) w := by
  obtain ⟨p, l, e, R, s, m, args, below, meth, c, E, P, mc, ms, nL⟩ := X
  obtain ⟨hx, hb, hml, hown, hts, hlk, hrt, hK, hd, hlo, hmn⟩ := h
  intro H locs ls hl hP hS
  exact lv_icmp_ge hx hb (dkm hd hi) ht (fun q => kt q H locs ls hl hP hS) (fun q => kf q H locs ls hl hP hS)
theorem g_icmp_gt {X : Cx} {cc : ByteArray} {own mname : String} {ret : Option FieldType} {il : List (Nat × Instr × Nat)} {ce sl pc : Nat} {lv : Nat → Option Value} {st : List Value} {w : Wd} (h : Ok X cc own mname ret il) (i : Nat) {x y : Int32} {off : Int} (tgt : Nat) (hi : il[i]? = some (pc, .if_icmp .gt off, 3)) (ht : (pc : Int) + off = (tgt : Int)) (kt : y < x → G X ce sl tgt lv st w) (kf : ¬ y < x → G X ce sl (pc + 3) lv st w) : G X ce sl pc lv (.int y :: .int x :: st) w := by
  obtain ⟨p, l, e, R, s, m, args, below, meth, c, E, P, mc, ms, nL⟩ := X
  obtain ⟨hx, hb, hml, hown, hts, hlk, hrt, hK, hd, hlo, hmn⟩ := h
  intro H locs ls hl hP hS
  exact lv_icmp_gt hx hb (dkm hd hi) ht (fun q => kt q H locs ls hl hP hS) (fun q => kf q H locs ls hl hP hS)
theorem g_icmp_le {X : Cx} {cc : ByteArray} {own mname : String} {ret : Option FieldType} {il : List (Nat × Instr × Nat)} {ce sl pc : Nat} {lv : Nat → Option Value} {st : List Value} {w : Wd} (h : Ok X cc own mname ret il) (i : Nat) {x y : Int32} {off : Int} (tgt : Nat) (hi : il[i]? = some (pc, .if_icmp .le off, 3)) (ht : (pc : Int) + off = (tgt : Int)) (kt : x ≤ y → G X ce sl tgt lv st w) (kf : ¬ x ≤ y → G X ce sl (pc + 3) lv st w) : G X ce sl pc lv (.int y :: .int x :: st) w := by
  obtain ⟨p, l, e, R, s, m, args, below, meth, c, E, P, mc, ms, nL⟩ := X
  obtain ⟨hx, hb, hml, hown, hts, hlk, hrt, hK, hd, hlo, hmn⟩ := h
  intro H locs ls hl hP hS
  exact lv_icmp_le hx hb (dkm hd hi) ht (fun q => kt q H locs ls hl hP hS) (fun q => kf q H locs ls hl hP hS)
theorem g_goto {X : Cx} {cc : ByteArray} {own mname : String} {ret : Option FieldType} {il : List (Nat × Instr × Nat)} {ce sl pc : Nat} {lv : Nat → Option Value} {st : List Value} {w : Wd} (h : Ok X cc own mname ret il) (i : Nat) {off : Int} (tgt : Nat) (hi : il[i]? = some (pc, .goto off, 3)) (ht : (pc : Int) + off = (tgt : Int)) (k : G X ce sl tgt lv st w) : G X ce sl pc lv st w := by
  obtain ⟨p, l, e, R, s, m, args, below, meth, c, E, P, mc, ms, nL⟩ := X
  obtain ⟨hx, hb, hml, hown, hts, hlk, hrt, hK, hd, hlo, hmn⟩ := h
  intro H locs ls hl hP hS
  exact lv_goto hx hb (dkm hd hi) ht (k H locs ls hl hP hS)
theorem g_tout {X : Cx} {cc : ByteArray} {own mname : String} {ret : Option FieldType} {il : List (Nat × Instr × Nat)} {ce sl pc : Nat} {lv : Nat → Option Value} {st : List Value} {w : Wd} (h : Ok X cc own mname ret il) (i : Nat) {dflt blo bhi : Int} {offs : Array Int} {len : Nat} {x : Int32} (tgt : Nat) (hi : il[i]? = some (pc, .tableswitch dflt blo bhi offs, len)) (hr : x.toInt < blo ∨ bhi < x.toInt) (ht : (pc : Int) + dflt = (tgt : Int)) (k : G X ce sl tgt lv st w) : G X ce sl pc lv (.int x :: st) w := by
  obtain ⟨p, l, e, R, s, m, args, below, meth, c, E, P, mc, ms, nL⟩ := X
  obtain ⟨hx, hb, hml, hown, hts, hlk, hrt, hK, hd, hlo, hmn⟩ := h
  intro H locs ls hl hP hS
  exact lv_tableOut hx hb (dkm hd hi) hr ht (k H locs ls hl hP hS)
theorem g_tin {X : Cx} {cc : ByteArray} {own mname : String} {ret : Option FieldType} {il : List (Nat × Instr × Nat)} {ce sl pc : Nat} {lv : Nat → Option Value} {st : List Value} {w : Wd} (h : Ok X cc own mname ret il) (i : Nat) {dflt blo bhi off : Int} {offs : Array Int} {len : Nat} {x : Int32} (tgt : Nat) (hi : il[i]? = some (pc, .tableswitch dflt blo bhi offs, len)) (h1 : ¬ x.toInt < blo) (h2 : ¬ bhi < x.toInt) (ho : offs[(x.toInt - blo).toNat]? = some off) (ht : (pc : Int) + off = (tgt : Int)) (k : G X ce sl tgt lv st w) : G X ce sl pc lv (.int x :: st) w := by
  obtain ⟨p, l, e, R, s, m, args, below, meth, c, E, P, mc, ms, nL⟩ := X
  obtain ⟨hx, hb, hml, hown, hts, hlk, hrt, hK, hd, hlo, hmn⟩ := h
  intro H locs ls hl hP hS
  exact lv_tableIn hx hb (dkm hd hi) h1 h2 ho ht (k H locs ls hl hP hS)
theorem g_lv {X : Cx} {ce sl pc : Nat} {lv : Nat → Option Value} {st : List Value} {w : Wd} (l : List (Nat × Value)) (h : lall l lv) (k : G X ce sl pc (lf l) st w) : G X ce sl pc lv st w := by
  obtain ⟨p, l, e, R, s, m, args, below, meth, c, E, P, mc, ms, nL⟩ := X
  intro H locs ls hl hP hS
  exact k H locs ls ⟨hl.1, hl.2.1, fun i v hv => hl.2.2 i v (lall_lf h i v hv)⟩ hP hS
theorem ent_none {E : EE} {w : Wd} {a : Nat} (h : wK w a = none) : ent E w a = none := by unfold ent; rw [h]
theorem ent_obj {E : EE} {w : Wd} {a ci : Nat} (h : wK w a = some (.inl ci)) : ent E w a = some (.inr (ci, fvs ci w a)) := by unfold ent; rw [h]
theorem ent_arr {E : EE} {w : Wd} {a t n : Nat} (h : wK w a = some (.inr (t, n))) : ent E w a = some (.inl (E.2.1 t, n, arrC t w a)) := by unfold ent; rw [h]
theorem fvs_at {ci : Nat} {w : Wd} {a k : Nat} (hk : k < cN ci) : (fvs ci w a)[k]? = some (fv (cT ci k) w a k) := by
  unfold fvs
  rw [List.getElem?_map, List.getElem?_range hk]
  rfl
theorem fvs_len {ci : Nat} {w : Wd} {a : Nat} : (fvs ci w a).length = cN ci := by simp [fvs]
theorem fvs_V {ci : Nat} {w : Wd} {a k : Nat} (hk : k < cN ci) : vp_V (fvs ci w a) k = fv (cT ci k) w a k := by
  unfold vp_V
  rw [List.getD_eq_getElem?_getD, fvs_at hk]
  rfl
theorem ent_c {E : EE} {w w' : Wd} {b : Nat} (hk : wK w' b = wK w b) (hR : ∀ k, wR w' b k = wR w b k) (hI : ∀ k, wI w' b k = wI w b k) (hJ : ∀ k, wJ w' b k = wJ w b k) (hD : ∀ k, wD w' b k = wD w b k) : ent E w' b = ent E w b := by
  unfold ent
  rw [hk]
  have f1 : ∀ ci, fvs ci w' b = fvs ci w b := by
    intro ci
    unfold fvs
    refine List.map_congr_left fun k _ => ?_
    unfold fv
    cases cT ci k <;> simp [hR, hI, hJ, hD]
  have f2 : ∀ t, arrC t w' b = arrC t w b := by
    intro t
    have e1 : wI w' b = wI w b := funext hI
    have e2 : wJ w' b = wJ w b := funext hJ
    have e3 : wR w' b = wR w b := funext hR
    unfold arrC
    match t with
    | 0 => simp [e1]
    | 1 => simp [e1]
    | 2 => simp [e2]
    | t + 3 => simp [e3]
  simp only [f1, f2]
/-- one cell is written: the world behind it -/
theorem PM_put {E : EE} {w w' : Wd} {H H1 : Heap} {a : Nat} (hP : PM E w H) (hz : H1.size = H.size) (oq : ∀ q : Nat, q ≠ a → H1[q]? = H[q]?) (hn : wN w' = wN w) (he : ∀ q, q ≠ a → ent E w' q = ent E w q) (ha : ∀ x, ent E w' a = some x → E.2.2 ≤ a ∧ va_at E.1 vwCl (a, x) H1) : PM E w' H1 := by
  refine ⟨by rw [hz, hn]; exact hP.1, fun q x hq => ?_⟩
  by_cases e : q = a
  · subst e
    exact ha x hq
  · rw [he q e] at hq
    obtain ⟨h1, h2⟩ := hP.2 q x hq
    exact ⟨h1, h2.kept (oq q e)⟩
theorem PM_at {E : EE} {w : Wd} {H : Heap} {a : Nat} {x : va_E} (hP : PM E w H) (h : ent E w a = some x) : E.2.2 ≤ a ∧ va_at E.1 vwCl (a, x) H := hP.2 a x h
theorem PM_1 {E : EE} {w : Wd} {H : Heap} {a : Nat} {x : va_E} (hP : PM E w H) (h : ent E w a = some x) : va_P E.1 vwCl [(a, x)] H := by
  intro k q hq
  match k, hq with
  | 0, hq => cases hq; exact (hP.2 a x h).2
theorem tys_at {E : EE} {t : Nat} (h : t < 7) : (tys E)[t]? = some (E.2.1 t, tA t) := by
  unfold tys
  rw [List.getElem?_map, List.getElem?_range h]
  rfl
theorem g_getI {X : Cx} {cc : ByteArray} {own mname : String} {ret : Option FieldType} {il : List (Nat × Instr × Nat)} {ce sl pc : Nat} {lv : Nat → Option Value} {st : List Value} {w : Wd} (h : Ok X cc own mname ret il) (i : Nat) {index ci k a : Nat} (hi : il[i]? = some (pc, .getfield index, 3)) (hf : FL own index ci k) (hy : ∀ w a k2, fv (cT ci k) w a k2 = .int (wI w a k2)) (hk : wK w a = some (.inl ci)) (kk : G X ce sl (pc + 3) lv (.int (wI w a k) :: st) w) : G X ce sl pc lv (.ref a :: st) w := by
  obtain ⟨p, l, e, R, s, m, args, below, meth, c, E, P, mc, ms, nL⟩ := X
  obtain ⟨hx, hb, hml, hown, hts, hlk, hrt, hK, hd, hlo, hmn⟩ := h
  intro H locs ls hl hP hS
  obtain ⟨C, T, hC, hkn, hw⟩ := hf
  exact va_get hx hb hts hC.2.1 hown hK (PM_1 hP (ent_obj hk)) 0 rfl hC.1 k hkn (hts _ hw) (fun _ q => q) (v := .int (wI w a k)) (by rw [fvs_at hkn, hy]) (dkm hd hi) (kk H locs ls hl hP hS)
theorem g_getJ {X : Cx} {cc : ByteArray} {own mname : String} {ret : Option FieldType} {il : List (Nat × Instr × Nat)} {ce sl pc : Nat} {lv : Nat → Option Value} {st : List Value} {w : Wd} (h : Ok X cc own mname ret il) (i : Nat) {index ci k a : Nat} (hi : il[i]? = some (pc, .getfield index, 3)) (hf : FL own index ci k) (hy : ∀ w a k2, fv (cT ci k) w a k2 = .long (wJ w a k2)) (hk : wK w a = some (.inl ci)) (kk : G X ce sl (pc + 3) lv (.long (wJ w a k) :: st) w) : G X ce sl pc lv (.ref a :: st) w := by
  obtain ⟨p, l, e, R, s, m, args, below, meth, c, E, P, mc, ms, nL⟩ := X
  obtain ⟨hx, hb, hml, hown, hts, hlk, hrt, hK, hd, hlo, hmn⟩ := h
  intro H locs ls hl hP hS
  obtain ⟨C, T, hC, hkn, hw⟩ := hf
  exact va_get hx hb hts hC.2.1 hown hK (PM_1 hP (ent_obj hk)) 0 rfl hC.1 k hkn (hts _ hw) (fun _ q => q) (v := .long (wJ w a k)) (by rw [fvs_at hkn, hy]) (dkm hd hi) (kk H locs ls hl hP hS)
theorem g_getD {X : Cx} {cc : ByteArray} {own mname : String} {ret : Option FieldType} {il : List (Nat × Instr × Nat)} {ce sl pc : Nat} {lv : Nat → Option Value} {st : List Value} {w : Wd} (h : Ok X cc own mname ret il) (i : Nat) {index ci k a : Nat} (hi : il[i]? = some (pc, .getfield index, 3)) (hf : FL own index ci k) (hy : ∀ w a k2, fv (cT ci k) w a k2 = .double (wD w a k2)) (hk : wK w a = some (.inl ci)) (kk : G X ce sl (pc + 3) lv (.double (wD w a k) :: st) w) : G X ce sl pc lv (.ref a :: st) w := by
  obtain ⟨p, l, e, R, s, m, args, below, meth, c, E, P, mc, ms, nL⟩ := X
  obtain ⟨hx, hb, hml, hown, hts, hlk, hrt, hK, hd, hlo, hmn⟩ := h
  intro H locs ls hl hP hS
  obtain ⟨C, T, hC, hkn, hw⟩ := hf
  exact va_get hx hb hts hC.2.1 hown hK (PM_1 hP (ent_obj hk)) 0 rfl hC.1 k hkn (hts _ hw) (fun _ q => q) (v := .double (wD w a k)) (by rw [fvs_at hkn, hy]) (dkm hd hi) (kk H locs ls hl hP hS)
theorem g_getR {X : Cx} {cc : ByteArray} {own mname : String} {ret : Option FieldType} {il : List (Nat × Instr × Nat)} {ce sl pc : Nat} {lv : Nat → Option Value} {st : List Value} {w : Wd} (h : Ok X cc own mname ret il) (i : Nat) {index ci k a r : Nat} (hi : il[i]? = some (pc, .getfield index, 3)) (hf : FL own index ci k) (hy : ∀ w a k2, fv (cT ci k) w a k2 = va_rf (wR w a k2)) (hk : wK w a = some (.inl ci)) (hr : wR w a k = some r) (kk : G X ce sl (pc + 3) lv (.ref r :: st) w) : G X ce sl pc lv (.ref a :: st) w := by
  obtain ⟨p, l, e, R, s, m, args, below, meth, c, E, P, mc, ms, nL⟩ := X
  obtain ⟨hx, hb, hml, hown, hts, hlk, hrt, hK, hd, hlo, hmn⟩ := h
  intro H locs ls hl hP hS
  obtain ⟨C, T, hC, hkn, hw⟩ := hf
  exact va_get hx hb hts hC.2.1 hown hK (PM_1 hP (ent_obj hk)) 0 rfl hC.1 k hkn (hts _ hw) (fun _ q => q) (v := .ref r) (by rw [fvs_at hkn, hy, hr]; rfl) (dkm hd hi) (kk H locs ls hl hP hS)
theorem fvs_updI {ci k a : Nat} {w : Wd} {v : Int32} (hap : ∀ j, j < cN ci → fv (cT ci j) (sI w a k v) a j = if j = k then .int v else fv (cT ci j) w a j) : ∀ j, j < cN ci → updV (vp_V (fvs ci w a)) k (.int v) j = vp_V (fvs ci (sI w a k v) a) j := by
  intro j hj
  rw [fvs_V hj, hap j hj]
  unfold updV
  by_cases e : j = k
  · rw [if_pos e, if_pos e]
  · rw [if_neg e, if_neg e, fvs_V hj]

theorem g_putI_0 {X : Cx} {cc : ByteArray} {own mname : String} {ret : Option FieldType} {il : List (Nat × Instr × Nat)} {ce sl pc : Nat} {lv : Nat → Option Value} {st : List Value} {w : Wd} (h : Ok X cc own mname ret il) (i : Nat) {index ci k a : Nat} {v : Int32} (hi : il[i]? = some (pc, .putfield index, 3)) (hF : FL own index ci k) (hfin : ∀ C T, Cls ci C T → (T k).2.2.2 = false) (hy : ∀ w a k2, fv (cT ci k) w a k2 = .int (wI w a k2)) (hk : wK w a = some (.inl ci)) (hnr : narrow (cT ci k) (.int v) = .int v) (hfit : fits (cT ci k) (.int v) = true) (kk : G X ce sl (pc + 3) lv st (sI w a k (v))) : G X ce sl pc lv (.int v :: .ref a :: st) w := by
  obtain ⟨p, l, e, R, s, m, args, below, meth, c, E, P, mc, ms, nL⟩ := X
  obtain ⟨hx, hb, hml, hown, hts, hlk, hrt, hK, hd, hlo, hmn⟩ := h
  intro H locs ls hl hP hS
  obtain ⟨C, T, hC, hkn, hw⟩ := hF
  have hfin := hfin C T hC
  obtain ⟨hc, hin, hty, hnm⟩ := hC
  have hap := va_apart (own := own) hts hin (cT ci) hty hnm hK hc
  obtain ⟨hle, r, h1, cell, q1, q2, q3, q4⟩ := PM_at hP (ent_obj hk)
  have hr : r = (C, T, cN ci) := Option.some.inj (h1.symm.trans hc)
  subst hr
  obtain ⟨hSl, hfc, kC, hkC, hkind⟩ := hK.1 ci _ hc
  obtain ⟨cf, kf, fi, f, hi0, hsl⟩ := hSl k hkn
  have hlay := hts _ (hin _ (u_in_lay hkn))
  unfold u_lay at hlay
  skip
  rw [if_neg (by rw [hfin]; decide)] at hlay
  have hst := (u_facts hfc hkC (u_lays hts hin hkn) hi0).1
  have hde := hty k hkn
  have h6 := u_store hfc hkC hkind hlay hi0 hde hnr hfit
  refine W.putK hx hb (f := f) ⟨hown, (hts _ hw), ⟨_, _, _, hi0⟩, hst⟩ (by rw [q2]; exact h6) q1 q3 (by rw [hsl]; exact k2_hasslot (q4 k hkn)) rfl rfl (dkm hd hi) fun H1 e1 e2 e3 => ?_
  rw [hsl] at e1 ⊢
  refine kk H1 _ ls hl (PM_put hP e2 e3 rfl (fun q hq => ent_c rfl (fun k2 => ?_) (fun k2 => ?_) (fun k2 => ?_) (fun k2 => ?_)) (fun x hx => ?_)) (hS.put e2 e3 hle)
  · rfl
  · exact up2_a hq
  · rfl
  · rfl
  · have hk' : wK (sI w a k (v)) a = some (.inl ci) := hk
    rw [ent_obj hk'] at hx
    obtain rfl := Option.some.inj hx
    refine ⟨hle, _, hc, t_OB.to (V := updV (vp_V (fvs ci w a)) k (.int v)) ⟨_, e1, q2, q3, t_set q4 hap hkn (.int v)⟩ (fun j hj => ?_)⟩
    rw [fvs_V hj]
    unfold updV
    by_cases e : j = k
    · subst e
      rw [if_pos rfl, hy]
      skip
      exact (congrArg _ (up2_s _ _ _ _)).symm
    · rw [if_neg e, fvs_V hj]
      unfold fv
      have e0 : ∀ (α : Type) (f0 : Nat → Nat → α) (v0 : α), up2 f0 a k v0 a j = f0 a j := fun α f0 v0 => up2_k e
      cases cT ci j <;> simp [wI, wJ, wD, wR, sI, e0]
theorem g_putIF_0 {X : Cx} {cc : ByteArray} {own mname : String} {ret : Option FieldType} {il : List (Nat × Instr × Nat)} {ce sl pc : Nat} {lv : Nat → Option Value} {st : List Value} {w : Wd} (h : Ok X cc own mname ret il) (i : Nat) {index ci k a : Nat} {v : Int32} (hi : il[i]? = some (pc, .putfield index, 3)) (hmn2 : mname = "<init>") (hF : FL own index ci k) (hfin : ∀ C T, Cls ci C T → (T k).2.2.2 = true ∧ (T k).1 = own) (hy : ∀ w a k2, fv (cT ci k) w a k2 = .int (wI w a k2)) (hk : wK w a = some (.inl ci)) (hnr : narrow (cT ci k) (.int v) = .int v) (hfit : fits (cT ci k) (.int v) = true) (kk : G X ce sl (pc + 3) lv st (sI w a k (v))) : G X ce sl pc lv (.int v :: .ref a :: st) w := by
  obtain ⟨p, l, e, R, s, m, args, below, meth, c, E, P, mc, ms, nL⟩ := X
  obtain ⟨hx, hb, hml, hown, hts, hlk, hrt, hK, hd, hlo, hmn⟩ := h
  intro H locs ls hl hP hS
  obtain ⟨C, T, hC, hkn, hw⟩ := hF
  have hfin := hfin C T hC
  obtain ⟨hc, hin, hty, hnm⟩ := hC
  have hap := va_apart (own := own) hts hin (cT ci) hty hnm hK hc
  obtain ⟨hle, r, h1, cell, q1, q2, q3, q4⟩ := PM_at hP (ent_obj hk)
  have hr : r = (C, T, cN ci) := Option.some.inj (h1.symm.trans hc)
  subst hr
  obtain ⟨hSl, hfc, kC, hkC, hkind⟩ := hK.1 ci _ hc
  obtain ⟨cf, kf, fi, f, hi0, hsl⟩ := hSl k hkn
  have hlay := hts _ (hin _ (u_in_lay hkn))
  unfold u_lay at hlay
  obtain ⟨hfin, hdecl⟩ := hfin
  rw [if_pos hfin] at hlay
  have hst := (u_facts hfc hkC (u_lays hts hin hkn) hi0).1
  have hde := hty k hkn
  have hcf : m.cls = cf := by
    obtain ⟨_, _, c', _, _, _, -, -, hf', -, -, -, hown2, -⟩ := Cond.laysFinal_spec hlay
    have e1 : c' = cf := by have := hi0.symm.trans hf'; simp at this; exact this.1.symm
    rw [hdecl] at hown2
    rw [← e1]; exact Option.some.inj (hown.symm.trans hown2)
  have h6 := u_fits hfc hkC hkind (Or.inr hlay) hi0 hde hnr hfit
  refine W.putFinK hx hb hown (hts _ hw) hi0 hst hcf (by rw [hmn, hmn2]) (by rw [q2]; exact h6) q1 q3 (by rw [hsl]; exact k2_hasslot (q4 k hkn)) rfl rfl (dkm hd hi) fun H1 e1 e2 e3 => ?_
  rw [hsl] at e1 ⊢
  refine kk H1 _ ls hl (PM_put hP e2 e3 rfl (fun q hq => ent_c rfl (fun k2 => ?_) (fun k2 => ?_) (fun k2 => ?_) (fun k2 => ?_)) (fun x hx => ?_)) (hS.put e2 e3 hle)
  · rfl
  · exact up2_a hq
  · rfl
  · rfl
  · have hk' : wK (sI w a k (v)) a = some (.inl ci) := hk
    rw [ent_obj hk'] at hx
    obtain rfl := Option.some.inj hx
    refine ⟨hle, _, hc, t_OB.to (V := updV (vp_V (fvs ci w a)) k (.int v)) ⟨_, e1, q2, q3, t_set q4 hap hkn (.int v)⟩ (fun j hj => ?_)⟩
    rw [fvs_V hj]
    unfold updV
    by_cases e : j = k
    · subst e
      rw [if_pos rfl, hy]
      skip
      exact (congrArg _ (up2_s _ _ _ _)).symm
    · rw [if_neg e, fvs_V hj]
      unfold fv
      have e0 : ∀ (α : Type) (f0 : Nat → Nat → α) (v0 : α), up2 f0 a k v0 a j = f0 a j := fun α f0 v0 => up2_k e
      cases cT ci j <;> simp [wI, wJ, wD, wR, sI, e0]
theorem g_putJ_0 {X : Cx} {cc : ByteArray} {own mname : String} {ret : Option FieldType} {il : List (Nat × Instr × Nat)} {ce sl pc : Nat} {lv : Nat → Option Value} {st : List Value} {w : Wd} (h : Ok X cc own mname ret il) (i : Nat) {index ci k a : Nat} {v : Int64} (hi : il[i]? = some (pc, .putfield index, 3)) (hF : FL own index ci k) (hfin : ∀ C T, Cls ci C T → (T k).2.2.2 = false) (hy : ∀ w a k2, fv (cT ci k) w a k2 = .long (wJ w a k2)) (hk : wK w a = some (.inl ci)) (hnr : narrow (cT ci k) (.long v) = .long v) (hfit : fits (cT ci k) (.long v) = true) (kk : G X ce sl (pc + 3) lv st (sJ w a k (v))) : G X ce sl pc lv (.long v :: .ref a :: st) w := by
  obtain ⟨p, l, e, R, s, m, args, below, meth, c, E, P, mc, ms, nL⟩ := X
  obtain ⟨hx, hb, hml, hown, hts, hlk, hrt, hK, hd, hlo, hmn⟩ := h
  intro H locs ls hl hP hS
  obtain ⟨C, T, hC, hkn, hw⟩ := hF
  have hfin := hfin C T hC
  obtain ⟨hc, hin, hty, hnm⟩ := hC
  have hap := va_apart (own := own) hts hin (cT ci) hty hnm hK hc
  obtain ⟨hle, r, h1, cell, q1, q2, q3, q4⟩ := PM_at hP (ent_obj hk)
  have hr : r = (C, T, cN ci) := Option.some.inj (h1.symm.trans hc)
  subst hr
  obtain ⟨hSl, hfc, kC, hkC, hkind⟩ := hK.1 ci _ hc
  obtain ⟨cf, kf, fi, f, hi0, hsl⟩ := hSl k hkn
  have hlay := hts _ (hin _ (u_in_lay hkn))
  unfold u_lay at hlay
  skip
  rw [if_neg (by rw [hfin]; decide)] at hlay
  have hst := (u_facts hfc hkC (u_lays hts hin hkn) hi0).1
  have hde := hty k hkn
  have h6 := u_store hfc hkC hkind hlay hi0 hde hnr hfit
  refine W.putK hx hb (f := f) ⟨hown, (hts _ hw), ⟨_, _, _, hi0⟩, hst⟩ (by rw [q2]; exact h6) q1 q3 (by rw [hsl]; exact k2_hasslot (q4 k hkn)) rfl rfl (dkm hd hi) fun H1 e1 e2 e3 => ?_
  rw [hsl] at e1 ⊢
  refine kk H1 _ ls hl (PM_put hP e2 e3 rfl (fun q hq => ent_c rfl (fun k2 => ?_) (fun k2 => ?_) (fun k2 => ?_) (fun k2 => ?_)) (fun x hx => ?_)) (hS.put e2 e3 hle)
  · rfl
  · rfl
  · exact up2_a hq
  · rfl
  · have hk' : wK (sJ w a k (v)) a = some (.inl ci) := hk
    rw [ent_obj hk'] at hx
    obtain rfl := Option.some.inj hx
    refine ⟨hle, _, hc, t_OB.to (V := updV (vp_V (fvs ci w a)) k (.long v)) ⟨_, e1, q2, q3, t_set q4 hap hkn (.long v)⟩ (fun j hj => ?_)⟩
    rw [fvs_V hj]
    unfold updV
    by_cases e : j = k
    · subst e
      rw [if_pos rfl, hy]
      skip
      exact (congrArg _ (up2_s _ _ _ _)).symm
    · rw [if_neg e, fvs_V hj]
      unfold fv
      have e0 : ∀ (α : Type) (f0 : Nat → Nat → α) (v0 : α), up2 f0 a k v0 a j = f0 a j := fun α f0 v0 => up2_k e
      cases cT ci j <;> simp [wI, wJ, wD, wR, sJ, e0]
theorem g_putJF_0 {X : Cx} {cc : ByteArray} {own mname : String} {ret : Option FieldType} {il : List (Nat × Instr × Nat)} {ce sl pc : Nat} {lv : Nat → Option Value} {st : List Value} {w : Wd} (h : Ok X cc own mname ret il) (i : Nat) {index ci k a : Nat} {v : Int64} (hi : il[i]? = some (pc, .putfield index, 3)) (hmn2 : mname = "<init>") (hF : FL own index ci k) (hfin : ∀ C T, Cls ci C T → (T k).2.2.2 = true ∧ (T k).1 = own) (hy : ∀ w a k2, fv (cT ci k) w a k2 = .long (wJ w a k2)) (hk : wK w a = some (.inl ci)) (hnr : narrow (cT ci k) (.long v) = .long v) (hfit : fits (cT ci k) (.long v) = true) (kk : G X ce sl (pc + 3) lv st (sJ w a k (v))) : G X ce sl pc lv (.long v :: .ref a :: st) w := by
  obtain ⟨p, l, e, R, s, m, args, below, meth, c, E, P, mc, ms, nL⟩ := X
  obtain ⟨hx, hb, hml, hown, hts, hlk, hrt, hK, hd, hlo, hmn⟩ := h
  intro H locs ls hl hP hS
  obtain ⟨C, T, hC, hkn, hw⟩ := hF
  have hfin := hfin C T hC
  obtain ⟨hc, hin, hty, hnm⟩ := hC
  have hap := va_apart (own := own) hts hin (cT ci) hty hnm hK hc
  obtain ⟨hle, r, h1, cell, q1, q2, q3, q4⟩ := PM_at hP (ent_obj hk)
  have hr : r = (C, T, cN ci) := Option.some.inj (h1.symm.trans hc)
  subst hr
  obtain ⟨hSl, hfc, kC, hkC, hkind⟩ := hK.1 ci _ hc
  obtain ⟨cf, kf, fi, f, hi0, hsl⟩ := hSl k hkn
  have hlay := hts _ (hin _ (u_in_lay hkn))
  unfold u_lay at hlay
  obtain ⟨hfin, hdecl⟩ := hfin
  rw [if_pos hfin] at hlay
  have hst := (u_facts hfc hkC (u_lays hts hin hkn) hi0).1
  have hde := hty k hkn
  have hcf : m.cls = cf := by
    obtain ⟨_, _, c', _, _, _, -, -, hf', -, -, -, hown2, -⟩ := Cond.laysFinal_spec hlay
    have e1 : c' = cf := by have := hi0.symm.trans hf'; simp at this; exact this.1.symm
    rw [hdecl] at hown2
    rw [← e1]; exact Option.some.inj (hown.symm.trans hown2)
  have h6 := u_fits hfc hkC hkind (Or.inr hlay) hi0 hde hnr hfit
  refine W.putFinK hx hb hown (hts _ hw) hi0 hst hcf (by rw [hmn, hmn2]) (by rw [q2]; exact h6) q1 q3 (by rw [hsl]; exact k2_hasslot (q4 k hkn)) rfl rfl (dkm hd hi) fun H1 e1 e2 e3 => ?_
  rw [hsl] at e1 ⊢
  refine kk H1 _ ls hl (PM_put hP e2 e3 rfl (fun q hq => ent_c rfl (fun k2 => ?_) (fun k2 => ?_) (fun k2 => ?_) (fun k2 => ?_)) (fun x hx => ?_)) (hS.put e2 e3 hle)
  · rfl
  · rfl
  · exact up2_a hq
  · rfl
  · have hk' : wK (sJ w a k (v)) a = some (.inl ci) := hk
    rw [ent_obj hk'] at hx
    obtain rfl := Option.some.inj hx
    refine ⟨hle, _, hc, t_OB.to (V := updV (vp_V (fvs ci w a)) k (.long v)) ⟨_, e1, q2, q3, t_set q4 hap hkn (.long v)⟩ (fun j hj => ?_)⟩
    rw [fvs_V hj]
    unfold updV
    by_cases e : j = k
    · subst e
      rw [if_pos rfl, hy]
      skip
      exact (congrArg _ (up2_s _ _ _ _)).symm
    · rw [if_neg e, fvs_V hj]
      unfold fv
      have e0 : ∀ (α : Type) (f0 : Nat → Nat → α) (v0 : α), up2 f0 a k v0 a j = f0 a j := fun α f0 v0 => up2_k e
      cases cT ci j <;> simp [wI, wJ, wD, wR, sJ, e0]
theorem g_putD_0 {X : Cx} {cc : ByteArray} {own mname : String} {ret : Option FieldType} {il : List (Nat × Instr × Nat)} {ce sl pc : Nat} {lv : Nat → Option Value} {st : List Value} {w : Wd} (h : Ok X cc own mname ret il) (i : Nat) {index ci k a : Nat} {v : UInt64} (hi : il[i]? = some (pc, .putfield index, 3)) (hF : FL own index ci k) (hfin : ∀ C T, Cls ci C T → (T k).2.2.2 = false) (hy : ∀ w a k2, fv (cT ci k) w a k2 = .double (wD w a k2)) (hk : wK w a = some (.inl ci)) (hnr : narrow (cT ci k) (.double v) = .double v) (hfit : fits (cT ci k) (.double v) = true) (kk : G X ce sl (pc + 3) lv st (sD w a k (v))) : G X ce sl pc lv (.double v :: .ref a :: st) w := by
  obtain ⟨p, l, e, R, s, m, args, below, meth, c, E, P, mc, ms, nL⟩ := X
  obtain ⟨hx, hb, hml, hown, hts, hlk, hrt, hK, hd, hlo, hmn⟩ := h
  intro H locs ls hl hP hS
  obtain ⟨C, T, hC, hkn, hw⟩ := hF
  have hfin := hfin C T hC
  obtain ⟨hc, hin, hty, hnm⟩ := hC
  have hap := va_apart (own := own) hts hin (cT ci) hty hnm hK hc
  obtain ⟨hle, r, h1, cell, q1, q2, q3, q4⟩ := PM_at hP (ent_obj hk)
  have hr : r = (C, T, cN ci) := Option.some.inj (h1.symm.trans hc)
  subst hr
  obtain ⟨hSl, hfc, kC, hkC, hkind⟩ := hK.1 ci _ hc
  obtain ⟨cf, kf, fi, f, hi0, hsl⟩ := hSl k hkn
  have hlay := hts _ (hin _ (u_in_lay hkn))
  unfold u_lay at hlay
  skip
  rw [if_neg (by rw [hfin]; decide)] at hlay
  have hst := (u_facts hfc hkC (u_lays hts hin hkn) hi0).1
  have hde := hty k hkn
  have h6 := u_store hfc hkC hkind hlay hi0 hde hnr hfit
  refine W.putK hx hb (f := f) ⟨hown, (hts _ hw), ⟨_, _, _, hi0⟩, hst⟩ (by rw [q2]; exact h6) q1 q3 (by rw [hsl]; exact k2_hasslot (q4 k hkn)) rfl rfl (dkm hd hi) fun H1 e1 e2 e3 => ?_
  rw [hsl] at e1 ⊢
  refine kk H1 _ ls hl (PM_put hP e2 e3 rfl (fun q hq => ent_c rfl (fun k2 => ?_) (fun k2 => ?_) (fun k2 => ?_) (fun k2 => ?_)) (fun x hx => ?_)) (hS.put e2 e3 hle)
  · rfl
  · rfl
  · rfl
  · exact up2_a hq
  · have hk' : wK (sD w a k (v)) a = some (.inl ci) := hk
    rw [ent_obj hk'] at hx
    obtain rfl := Option.some.inj hx
    refine ⟨hle, _, hc, t_OB.to (V := updV (vp_V (fvs ci w a)) k (.double v)) ⟨_, e1, q2, q3, t_set q4 hap hkn (.double v)⟩ (fun j hj => ?_)⟩
    rw [fvs_V hj]
    unfold updV
    by_cases e : j = k
    · subst e
      rw [if_pos rfl, hy]
      skip
      exact (congrArg _ (up2_s _ _ _ _)).symm
    · rw [if_neg e, fvs_V hj]
      unfold fv
      have e0 : ∀ (α : Type) (f0 : Nat → Nat → α) (v0 : α), up2 f0 a k v0 a j = f0 a j := fun α f0 v0 => up2_k e
      cases cT ci j <;> simp [wI, wJ, wD, wR, sD, e0]
theorem g_putDF_0 {X : Cx} {cc : ByteArray} {own mname : String} {ret : Option FieldType} {il : List (Nat × Instr × Nat)} {ce sl pc : Nat} {lv : Nat → Option Value} {st : List Value} {w : Wd} (h : Ok X cc own mname ret il) (i : Nat) {index ci k a : Nat} {v : UInt64} (hi : il[i]? = some (pc, .putfield index, 3)) (hmn2 : mname = "<init>") (hF : FL own index ci k) (hfin : ∀ C T, Cls ci C T → (T k).2.2.2 = true ∧ (T k).1 = own) (hy : ∀ w a k2, fv (cT ci k) w a k2 = .double (wD w a k2)) (hk : wK w a = some (.inl ci)) (hnr : narrow (cT ci k) (.double v) = .double v) (hfit : fits (cT ci k) (.double v) = true) (kk : G X ce sl (pc + 3) lv st (sD w a k (v))) : G X ce sl pc lv (.double v :: .ref a :: st) w := by
  obtain ⟨p, l, e, R, s, m, args, below, meth, c, E, P, mc, ms, nL⟩ := X
  obtain ⟨hx, hb, hml, hown, hts, hlk, hrt, hK, hd, hlo, hmn⟩ := h
  intro H locs ls hl hP hS
  obtain ⟨C, T, hC, hkn, hw⟩ := hF
  have hfin := hfin C T hC
  obtain ⟨hc, hin, hty, hnm⟩ := hC
  have hap := va_apart (own := own) hts hin (cT ci) hty hnm hK hc
  obtain ⟨hle, r, h1, cell, q1, q2, q3, q4⟩ := PM_at hP (ent_obj hk)
  have hr : r = (C, T, cN ci) := Option.some.inj (h1.symm.trans hc)
  subst hr
  obtain ⟨hSl, hfc, kC, hkC, hkind⟩ := hK.1 ci _ hc
  obtain ⟨cf, kf, fi, f, hi0, hsl⟩ := hSl k hkn
  have hlay := hts _ (hin _ (u_in_lay hkn))
  unfold u_lay at hlay
  obtain ⟨hfin, hdecl⟩ := hfin
  rw [if_pos hfin] at hlay
  have hst := (u_facts hfc hkC (u_lays hts hin hkn) hi0).1
  have hde := hty k hkn
  have hcf : m.cls = cf := by
    obtain ⟨_, _, c', _, _, _, -, -, hf', -, -, -, hown2, -⟩ := Cond.laysFinal_spec hlay
    have e1 : c' = cf := by have := hi0.symm.trans hf'; simp at this; exact this.1.symm
    rw [hdecl] at hown2
    rw [← e1]; exact Option.some.inj (hown.symm.trans hown2)
  have h6 := u_fits hfc hkC hkind (Or.inr hlay) hi0 hde hnr hfit
  refine W.putFinK hx hb hown (hts _ hw) hi0 hst hcf (by rw [hmn, hmn2]) (by rw [q2]; exact h6) q1 q3 (by rw [hsl]; exact k2_hasslot (q4 k hkn)) rfl rfl (dkm hd hi) fun H1 e1 e2 e3 => ?_
  rw [hsl] at e1 ⊢
  refine kk H1 _ ls hl (PM_put hP e2 e3 rfl (fun q hq => ent_c rfl (fun k2 => ?_) (fun k2 => ?_) (fun k2 => ?_) (fun k2 => ?_)) (fun x hx => ?_)) (hS.put e2 e3 hle)
  · rfl
  · rfl
  · rfl
  · exact up2_a hq
  · have hk' : wK (sD w a k (v)) a = some (.inl ci) := hk
    rw [ent_obj hk'] at hx
    obtain rfl := Option.some.inj hx
    refine ⟨hle, _, hc, t_OB.to (V := updV (vp_V (fvs ci w a)) k (.double v)) ⟨_, e1, q2, q3, t_set q4 hap hkn (.double v)⟩ (fun j hj => ?_)⟩
    rw [fvs_V hj]
    unfold updV
    by_cases e : j = k
    · subst e
      rw [if_pos rfl, hy]
      skip
      exact (congrArg _ (up2_s _ _ _ _)).symm
    · rw [if_neg e, fvs_V hj]
      unfold fv
      have e0 : ∀ (α : Type) (f0 : Nat → Nat → α) (v0 : α), up2 f0 a k v0 a j = f0 a j := fun α f0 v0 => up2_k e
      cases cT ci j <;> simp [wI, wJ, wD, wR, sD, e0]
theorem g_putR_0 {X : Cx} {cc : ByteArray} {own mname : String} {ret : Option FieldType} {il : List (Nat × Instr × Nat)} {ce sl pc : Nat} {lv : Nat → Option Value} {st : List Value} {w : Wd} (h : Ok X cc own mname ret il) (i : Nat) {index ci k a : Nat} {v : Nat} (hi : il[i]? = some (pc, .putfield index, 3)) (hF : FL own index ci k) (hfin : ∀ C T, Cls ci C T → (T k).2.2.2 = false) (hy : ∀ w a k2, fv (cT ci k) w a k2 = va_rf (wR w a k2)) (hk : wK w a = some (.inl ci)) (hnr : narrow (cT ci k) (.ref v) = .ref v) (hfit : fits (cT ci k) (.ref v) = true) (kk : G X ce sl (pc + 3) lv st (sR w a k (some v))) : G X ce sl pc lv (.ref v :: .ref a :: st) w := by
  obtain ⟨p, l, e, R, s, m, args, below, meth, c, E, P, mc, ms, nL⟩ := X
  obtain ⟨hx, hb, hml, hown, hts, hlk, hrt, hK, hd, hlo, hmn⟩ := h
  intro H locs ls hl hP hS
  obtain ⟨C, T, hC, hkn, hw⟩ := hF
  have hfin := hfin C T hC
  obtain ⟨hc, hin, hty, hnm⟩ := hC
  have hap := va_apart (own := own) hts hin (cT ci) hty hnm hK hc
  obtain ⟨hle, r, h1, cell, q1, q2, q3, q4⟩ := PM_at hP (ent_obj hk)
  have hr : r = (C, T, cN ci) := Option.some.inj (h1.symm.trans hc)
  subst hr
  obtain ⟨hSl, hfc, kC, hkC, hkind⟩ := hK.1 ci _ hc
  obtain ⟨cf, kf, fi, f, hi0, hsl⟩ := hSl k hkn
  have hlay := hts _ (hin _ (u_in_lay hkn))
  unfold u_lay at hlay
  skip
  rw [if_neg (by rw [hfin]; decide)] at hlay
  have hst := (u_facts hfc hkC (u_lays hts hin hkn) hi0).1
  have hde := hty k hkn
  have h6 := u_store hfc hkC hkind hlay hi0 hde hnr hfit
  refine W.putK hx hb (f := f) ⟨hown, (hts _ hw), ⟨_, _, _, hi0⟩, hst⟩ (by rw [q2]; exact h6) q1 q3 (by rw [hsl]; exact k2_hasslot (q4 k hkn)) rfl rfl (dkm hd hi) fun H1 e1 e2 e3 => ?_
  rw [hsl] at e1 ⊢
  refine kk H1 _ ls hl (PM_put hP e2 e3 rfl (fun q hq => ent_c rfl (fun k2 => ?_) (fun k2 => ?_) (fun k2 => ?_) (fun k2 => ?_)) (fun x hx => ?_)) (hS.put e2 e3 hle)
  · exact up2_a hq
  · rfl
  · rfl
  · rfl
  · have hk' : wK (sR w a k (some v)) a = some (.inl ci) := hk
    rw [ent_obj hk'] at hx
    obtain rfl := Option.some.inj hx
    refine ⟨hle, _, hc, t_OB.to (V := updV (vp_V (fvs ci w a)) k (.ref v)) ⟨_, e1, q2, q3, t_set q4 hap hkn (.ref v)⟩ (fun j hj => ?_)⟩
    rw [fvs_V hj]
    unfold updV
    by_cases e : j = k
    · subst e
      rw [if_pos rfl, hy]
      show va_rf (some v) = va_rf (up2 w.2.2.1 a j (some v) a j)
      exact (congrArg va_rf (up2_s w.2.2.1 a j (some v))).symm
    · rw [if_neg e, fvs_V hj]
      unfold fv
      have e0 : ∀ (α : Type) (f0 : Nat → Nat → α) (v0 : α), up2 f0 a k v0 a j = f0 a j := fun α f0 v0 => up2_k e
      cases cT ci j <;> simp [wI, wJ, wD, wR, sR, e0]
theorem g_putRF_0 {X : Cx} {cc : ByteArray} {own mname : String} {ret : Option FieldType} {il : List (Nat × Instr × Nat)} {ce sl pc : Nat} {lv : Nat → Option Value} {st : List Value} {w : Wd} (h : Ok X cc own mname ret il) (i : Nat) {index ci k a : Nat} {v : Nat} (hi : il[i]? = some (pc, .putfield index, 3)) (hmn2 : mname = "<init>") (hF : FL own index ci k) (hfin : ∀ C T, Cls ci C T → (T k).2.2.2 = true ∧ (T k).1 = own) (hy : ∀ w a k2, fv (cT ci k) w a k2 = va_rf (wR w a k2)) (hk : wK w a = some (.inl ci)) (hnr : narrow (cT ci k) (.ref v) = .ref v) (hfit : fits (cT ci k) (.ref v) = true) (kk : G X ce sl (pc + 3) lv st (sR w a k (some v))) : G X ce sl pc lv (.ref v :: .ref a :: st) w := by
  obtain ⟨p, l, e, R, s, m, args, below, meth, c, E, P, mc, ms, nL⟩ := X
  obtain ⟨hx, hb, hml, hown, hts, hlk, hrt, hK, hd, hlo, hmn⟩ := h
  intro H locs ls hl hP hS
  obtain ⟨C, T, hC, hkn, hw⟩ := hF
  have hfin := hfin C T hC
  obtain ⟨hc, hin, hty, hnm⟩ := hC
  have hap := va_apart (own := own) hts hin (cT ci) hty hnm hK hc
  obtain ⟨hle, r, h1, cell, q1, q2, q3, q4⟩ := PM_at hP (ent_obj hk)
  have hr : r = (C, T, cN ci) := Option.some.inj (h1.symm.trans hc)
  subst hr
  obtain ⟨hSl, hfc, kC, hkC, hkind⟩ := hK.1 ci _ hc
  obtain ⟨cf, kf, fi, f, hi0, hsl⟩ := hSl k hkn
  have hlay := hts _ (hin _ (u_in_lay hkn))
  unfold u_lay at hlay
  obtain ⟨hfin, hdecl⟩ := hfin
  rw [if_pos hfin] at hlay
  have hst := (u_facts hfc hkC (u_lays hts hin hkn) hi0).1
  have hde := hty k hkn
  have hcf : m.cls = cf := by
    obtain ⟨_, _, c', _, _, _, -, -, hf', -, -, -, hown2, -⟩ := Cond.laysFinal_spec hlay
    have e1 : c' = cf := by have := hi0.symm.trans hf'; simp at this; exact this.1.symm
    rw [hdecl] at hown2
    rw [← e1]; exact Option.some.inj (hown.symm.trans hown2)
  have h6 := u_fits hfc hkC hkind (Or.inr hlay) hi0 hde hnr hfit
  refine W.putFinK hx hb hown (hts _ hw) hi0 hst hcf (by rw [hmn, hmn2]) (by rw [q2]; exact h6) q1 q3 (by rw [hsl]; exact k2_hasslot (q4 k hkn)) rfl rfl (dkm hd hi) fun H1 e1 e2 e3 => ?_
  rw [hsl] at e1 ⊢
  refine kk H1 _ ls hl (PM_put hP e2 e3 rfl (fun q hq => ent_c rfl (fun k2 => ?_) (fun k2 => ?_) (fun k2 => ?_) (fun k2 => ?_)) (fun x hx => ?_)) (hS.put e2 e3 hle)
  · exact up2_a hq
  · rfl
  · rfl
  · rfl
  · have hk' : wK (sR w a k (some v)) a = some (.inl ci) := hk
    rw [ent_obj hk'] at hx
    obtain rfl := Option.some.inj hx
    refine ⟨hle, _, hc, t_OB.to (V := updV (vp_V (fvs ci w a)) k (.ref v)) ⟨_, e1, q2, q3, t_set q4 hap hkn (.ref v)⟩ (fun j hj => ?_)⟩
    rw [fvs_V hj]
    unfold updV
    by_cases e : j = k
    · subst e
      rw [if_pos rfl, hy]
      show va_rf (some v) = va_rf (up2 w.2.2.1 a j (some v) a j)
      exact (congrArg va_rf (up2_s w.2.2.1 a j (some v))).symm
    · rw [if_neg e, fvs_V hj]
      unfold fv
      have e0 : ∀ (α : Type) (f0 : Nat → Nat → α) (v0 : α), up2 f0 a k v0 a j = f0 a j := fun α f0 v0 => up2_k e
      cases cT ci j <;> simp [wI, wJ, wD, wR, sR, e0]
theorem g_iald {X : Cx} {cc : ByteArray} {own mname : String} {ret : Option FieldType} {il : List (Nat × Instr × Nat)} {ce sl pc : Nat} {lv : Nat → Option Value} {st : List Value} {w : Wd} (h : Ok X cc own mname ret il) (i : Nat) {a n : Nat} {x : Int32} (hi : il[i]? = some (pc, .iaload, 1)) (hk : wK w a = some (.inr (0, n))) (hv : vp_in x n) (kk : G X ce sl (pc + 1) lv (.int (wI w a x.toNatClampNeg) :: st) w) : G X ce sl pc lv (.int x :: .ref a :: st) w := by
  obtain ⟨p, l, e, R, s, m, args, below, meth, c, E, P, mc, ms, nL⟩ := X
  obtain ⟨hx, hb, hml, hown, hts, hlk, hrt, hK, hd, hlo, hmn⟩ := h
  intro H locs ls hl hP hS
  exact va_iald hx hb hK (PM_1 hP (ent_arr hk)) 0 0 (f := wI w a) rfl rfl hv (dkm hd hi) (kk H locs ls hl hP hS)
theorem g_zald {X : Cx} {cc : ByteArray} {own mname : String} {ret : Option FieldType} {il : List (Nat × Instr × Nat)} {ce sl pc : Nat} {lv : Nat → Option Value} {st : List Value} {w : Wd} (h : Ok X cc own mname ret il) (i : Nat) {a n : Nat} {x : Int32} (hi : il[i]? = some (pc, .baload, 1)) (hk : wK w a = some (.inr (1, n))) (hv : vp_in x n) (kk : G X ce sl (pc + 1) lv (.int (wI w a x.toNatClampNeg) :: st) w) : G X ce sl pc lv (.int x :: .ref a :: st) w := by
  obtain ⟨p, l, e, R, s, m, args, below, meth, c, E, P, mc, ms, nL⟩ := X
  obtain ⟨hx, hb, hml, hown, hts, hlk, hrt, hK, hd, hlo, hmn⟩ := h
  intro H locs ls hl hP hS
  exact va_zald hx hb hK (PM_1 hP (ent_arr hk)) 0 1 (f := wI w a) rfl rfl hv (dkm hd hi) (kk H locs ls hl hP hS)
theorem g_lald {X : Cx} {cc : ByteArray} {own mname : String} {ret : Option FieldType} {il : List (Nat × Instr × Nat)} {ce sl pc : Nat} {lv : Nat → Option Value} {st : List Value} {w : Wd} (h : Ok X cc own mname ret il) (i : Nat) {a n : Nat} {x : Int32} (hi : il[i]? = some (pc, .laload, 1)) (hk : wK w a = some (.inr (2, n))) (hv : vp_in x n) (kk : G X ce sl (pc + 1) lv (.long (wJ w a x.toNatClampNeg) :: st) w) : G X ce sl pc lv (.int x :: .ref a :: st) w := by
  obtain ⟨p, l, e, R, s, m, args, below, meth, c, E, P, mc, ms, nL⟩ := X
  obtain ⟨hx, hb, hml, hown, hts, hlk, hrt, hK, hd, hlo, hmn⟩ := h
  intro H locs ls hl hP hS
  exact va_lald hx hb hK (PM_1 hP (ent_arr hk)) 0 2 (f := wJ w a) rfl rfl hv (dkm hd hi) (kk H locs ls hl hP hS)
theorem g_aald {X : Cx} {cc : ByteArray} {own mname : String} {ret : Option FieldType} {il : List (Nat × Instr × Nat)} {ce sl pc : Nat} {lv : Nat → Option Value} {st : List Value} {w : Wd} (h : Ok X cc own mname ret il) (i : Nat) {t a n r : Nat} {x : Int32} (hi : il[i]? = some (pc, .aaload, 1)) (ht3 : t < 4) (hk : wK w a = some (.inr (t + 3, n))) (hv : vp_in x n) (hr : wR w a x.toNatClampNeg = some r) (kk : G X ce sl (pc + 1) lv (.ref r :: st) w) : G X ce sl pc lv (.int x :: .ref a :: st) w := by
  obtain ⟨p, l, e, R, s, m, args, below, meth, c, E, P, mc, ms, nL⟩ := X
  obtain ⟨hx, hb, hml, hown, hts, hlk, hrt, hK, hd, hlo, hmn⟩ := h
  intro H locs ls hl hP hS
  have hh : ∃ C, (tys E)[t + 3]? = some (E.2.1 (t + 3), .object C) := by
    rw [tys_at (by omega)]
    match t, ht3 with
    | 0, _ => exact ⟨_, rfl⟩
    | 1, _ => exact ⟨_, rfl⟩
    | 2, _ => exact ⟨_, rfl⟩
    | 3, _ => exact ⟨_, rfl⟩
  obtain ⟨C, hh⟩ := hh
  refine va_aldq hx hb hK (PM_1 hP (ent_arr hk)) 0 (t + 3) (f := wR w a) rfl hh hv (dkm hd hi) ?_
  rw [hr]
  exact kk H locs ls hl hP hS
theorem g_iast {X : Cx} {cc : ByteArray} {own mname : String} {ret : Option FieldType} {il : List (Nat × Instr × Nat)} {ce sl pc : Nat} {lv : Nat → Option Value} {st : List Value} {w : Wd} (h : Ok X cc own mname ret il) (i : Nat) {a n : Nat} {x : Int32} {v : Int32} (hi : il[i]? = some (pc, .iastore, 1)) (hk : wK w a = some (.inr (0, n))) (hv : vp_in x n) (kk : G X ce sl (pc + 1) lv st (sI w a x.toNatClampNeg v)) : G X ce sl pc lv (.int v :: .int x :: .ref a :: st) w := by
  obtain ⟨p, l, e, R, s, m, args, below, meth, c, E, P, mc, ms, nL⟩ := X
  obtain ⟨hx, hb, hml, hown, hts, hlk, hrt, hK, hd, hlo, hmn⟩ := h
  intro H locs ls hl hP hS
  obtain ⟨hle, hat⟩ := PM_at hP (ent_arr hk)
  have hlt : x.toNatClampNeg < n := Nat.not_le.mp fun q => hv (Or.inr q)
  refine W.iast hx hb hat ((hK.2 0 _ (tys_at (by decide))).1 n (fun j => .int (wI w a j))) (fun q => by cases q) (by show ¬ (x < 0 ∨ (arrV _ _ _).slots.size ≤ _); rw [arrV_size]; exact hv) rfl rfl (dkm hd hi) fun H1 e z oq => ?_
  refine kk H1 _ ls hl (PM_put hP z oq rfl (fun q hq => ent_c rfl (fun k2 => ?_) (fun k2 => ?_) (fun k2 => ?_) (fun k2 => ?_)) (fun y hy => ?_)) (hS.put z oq hle)
  · rfl
  · exact up2_a hq
  · rfl
  · rfl
  · have hk' : wK (sI w a x.toNatClampNeg v) a = some (.inr (0, n)) := hk
    rw [ent_arr hk'] at hy
    obtain rfl := Option.some.inj hy
    refine ⟨hle, ?_⟩
    show H1[a]? = some (vp_cell _ _)
    rw [e]
    show some ((vp_cell (E.2.1 0) (n, arrC 0 w a)).setSlot _ _) = some (vp_cell (E.2.1 0) (n, arrC 0 (sI w a x.toNatClampNeg v) a))
    skip
    show some ((arrV (E.2.1 0) n (fun j => .int (wI w a j))).setSlot _ _) = some (arrV (E.2.1 0) n (fun j => .int (wI (sI w a x.toNatClampNeg v) a j)))
    rw [arrV_store]
    congr 2
    funext q
    by_cases hq : q = x.toNatClampNeg
    · subst hq
      show (if x.toNatClampNeg = x.toNatClampNeg then _ else _) = _
      rw [if_pos rfl]
      exact (congrArg _ (up2_s _ _ _ _)).symm
    · show (if q = x.toNatClampNeg then _ else _) = _
      rw [if_neg hq]
      exact (congrArg _ (up2_k hq)).symm
theorem g_zast {X : Cx} {cc : ByteArray} {own mname : String} {ret : Option FieldType} {il : List (Nat × Instr × Nat)} {ce sl pc : Nat} {lv : Nat → Option Value} {st : List Value} {w : Wd} (h : Ok X cc own mname ret il) (i : Nat) {a n : Nat} {x : Int32} {v : Int32} (hi : il[i]? = some (pc, .bastore, 1)) (hk : wK w a = some (.inr (1, n))) (hv : vp_in x n) (hz : narrow .boolean (.int v) = .int v) (kk : G X ce sl (pc + 1) lv st (sI w a x.toNatClampNeg v)) : G X ce sl pc lv (.int v :: .int x :: .ref a :: st) w := by
  obtain ⟨p, l, e, R, s, m, args, below, meth, c, E, P, mc, ms, nL⟩ := X
  obtain ⟨hx, hb, hml, hown, hts, hlk, hrt, hK, hd, hlo, hmn⟩ := h
  intro H locs ls hl hP hS
  obtain ⟨hle, hat⟩ := PM_at hP (ent_arr hk)
  have hlt : x.toNatClampNeg < n := Nat.not_le.mp fun q => hv (Or.inr q)
  refine W.zast hx hb hat ((hK.2 1 _ (tys_at (by decide))).1 n (fun j => .int (wI w a j))) (fun q => by cases q) (by show ¬ (x < 0 ∨ (arrV _ _ _).slots.size ≤ _); rw [arrV_size]; exact hv) rfl rfl (dkm hd hi) fun H1 e z oq => ?_
  refine kk H1 _ ls hl (PM_put hP z oq rfl (fun q hq => ent_c rfl (fun k2 => ?_) (fun k2 => ?_) (fun k2 => ?_) (fun k2 => ?_)) (fun y hy => ?_)) (hS.put z oq hle)
  · rfl
  · exact up2_a hq
  · rfl
  · rfl
  · have hk' : wK (sI w a x.toNatClampNeg v) a = some (.inr (1, n)) := hk
    rw [ent_arr hk'] at hy
    obtain rfl := Option.some.inj hy
    refine ⟨hle, ?_⟩
    show H1[a]? = some (vp_cell _ _)
    rw [e]
    show some ((vp_cell (E.2.1 1) (n, arrC 1 w a)).setSlot _ _) = some (vp_cell (E.2.1 1) (n, arrC 1 (sI w a x.toNatClampNeg v) a))
    rw [hz]
    show some ((arrV (E.2.1 1) n (fun j => .int (wI w a j))).setSlot _ _) = some (arrV (E.2.1 1) n (fun j => .int (wI (sI w a x.toNatClampNeg v) a j)))
    rw [arrV_store]
    congr 2
    funext q
    by_cases hq : q = x.toNatClampNeg
    · subst hq
      show (if x.toNatClampNeg = x.toNatClampNeg then _ else _) = _
      rw [if_pos rfl]
      exact (congrArg _ (up2_s _ _ _ _)).symm
    · show (if q = x.toNatClampNeg then _ else _) = _
      rw [if_neg hq]
      exact (congrArg _ (up2_k hq)).symm
theorem g_last {X : Cx} {cc : ByteArray} {own mname : String} {ret : Option FieldType} {il : List (Nat × Instr × Nat)} {ce sl pc : Nat} {lv : Nat → Option Value} {st : List Value} {w : Wd} (h : Ok X cc own mname ret il) (i : Nat) {a n : Nat} {x : Int32} {v : Int64} (hi : il[i]? = some (pc, .lastore, 1)) (hk : wK w a = some (.inr (2, n))) (hv : vp_in x n) (kk : G X ce sl (pc + 1) lv st (sJ w a x.toNatClampNeg v)) : G X ce sl pc lv (.long v :: .int x :: .ref a :: st) w := by
  obtain ⟨p, l, e, R, s, m, args, below, meth, c, E, P, mc, ms, nL⟩ := X
  obtain ⟨hx, hb, hml, hown, hts, hlk, hrt, hK, hd, hlo, hmn⟩ := h
  intro H locs ls hl hP hS
  obtain ⟨hle, hat⟩ := PM_at hP (ent_arr hk)
  have hlt : x.toNatClampNeg < n := Nat.not_le.mp fun q => hv (Or.inr q)
  refine W.last hx hb hat ((hK.2 2 _ (tys_at (by decide))).1 n (fun j => .long (wJ w a j))) (fun q => by cases q) (by show ¬ (x < 0 ∨ (arrV _ _ _).slots.size ≤ _); rw [arrV_size]; exact hv) rfl rfl (dkm hd hi) fun H1 e z oq => ?_
  refine kk H1 _ ls hl (PM_put hP z oq rfl (fun q hq => ent_c rfl (fun k2 => ?_) (fun k2 => ?_) (fun k2 => ?_) (fun k2 => ?_)) (fun y hy => ?_)) (hS.put z oq hle)
  · rfl
  · rfl
  · exact up2_a hq
  · rfl
  · have hk' : wK (sJ w a x.toNatClampNeg v) a = some (.inr (2, n)) := hk
    rw [ent_arr hk'] at hy
    obtain rfl := Option.some.inj hy
    refine ⟨hle, ?_⟩
    show H1[a]? = some (vp_cell _ _)
    rw [e]
    show some ((vp_cell (E.2.1 2) (n, arrC 2 w a)).setSlot _ _) = some (vp_cell (E.2.1 2) (n, arrC 2 (sJ w a x.toNatClampNeg v) a))
    skip
    show some ((arrV (E.2.1 2) n (fun j => .long (wJ w a j))).setSlot _ _) = some (arrV (E.2.1 2) n (fun j => .long (wJ (sJ w a x.toNatClampNeg v) a j)))
    rw [arrV_store]
    congr 2
    funext q
    by_cases hq : q = x.toNatClampNeg
    · subst hq
      show (if x.toNatClampNeg = x.toNatClampNeg then _ else _) = _
      rw [if_pos rfl]
      exact (congrArg _ (up2_s _ _ _ _)).symm
    · show (if q = x.toNatClampNeg then _ else _) = _
      rw [if_neg hq]
      exact (congrArg _ (up2_k hq)).symm
theorem g_iret {X : Cx} {cc : ByteArray} {own mname : String} {il : List (Nat × Instr × Nat)} {pc : Nat} {lv : Nat → Option Value} {w : Wd} {ce sl : Nat} {R0 : Room} {l0 : Launch} {E0 : EE} {P0 : Option Value → Wd → Prop} {nL0 : Nat} (hq : Is X R0 l0 E0 P0 ce sl nL0) (h : Ok X cc own mname (some .int) il) (i : Nat) {v : Int32} (hi : il[i]? = some (pc, .ireturn, 1)) (k : P0 (some (.int v)) w) : G X ce sl pc lv [.int v] w := by
  obtain ⟨p, l, e, R, s, m, args, below, meth, c, E, P, mc, ms, nL⟩ := X
  obtain ⟨hx, hb, hml, hown, hts, hlk, hrt, hK, hd, hlo, hmn⟩ := h
  intro H locs ls hl hP hS
  obtain ⟨-, -, -, q1, q2, q3, -⟩ := hq
  subst q1; subst q2; subst q3
  exact W.iret hx hb hrt (fun t ht hW => ⟨⟨_, w, rfl, k, by rw [ht]; exact hP, va_K.moved hW.alike hK⟩, hS.F ht⟩) hS.2.2 (dkm hd hi) hlk
theorem g_lret {X : Cx} {cc : ByteArray} {own mname : String} {il : List (Nat × Instr × Nat)} {pc : Nat} {lv : Nat → Option Value} {w : Wd} {ce sl : Nat} {R0 : Room} {l0 : Launch} {E0 : EE} {P0 : Option Value → Wd → Prop} {nL0 : Nat} (hq : Is X R0 l0 E0 P0 ce sl nL0) (h : Ok X cc own mname (some .long) il) (i : Nat) {v : Int64} (hi : il[i]? = some (pc, .lreturn, 1)) (k : P0 (some (.long v)) w) : G X ce sl pc lv [.long v] w := by
  obtain ⟨p, l, e, R, s, m, args, below, meth, c, E, P, mc, ms, nL⟩ := X
  obtain ⟨hx, hb, hml, hown, hts, hlk, hrt, hK, hd, hlo, hmn⟩ := h
  intro H locs ls hl hP hS
  obtain ⟨-, -, -, q1, q2, q3, -⟩ := hq
  subst q1; subst q2; subst q3
  exact W.lret hx hb hrt (fun t ht hW => ⟨⟨_, w, rfl, k, by rw [ht]; exact hP, va_K.moved hW.alike hK⟩, hS.F ht⟩) hS.2.2 (dkm hd hi) hlk
theorem g_dret {X : Cx} {cc : ByteArray} {own mname : String} {il : List (Nat × Instr × Nat)} {pc : Nat} {lv : Nat → Option Value} {w : Wd} {ce sl : Nat} {R0 : Room} {l0 : Launch} {E0 : EE} {P0 : Option Value → Wd → Prop} {nL0 : Nat} (hq : Is X R0 l0 E0 P0 ce sl nL0) (h : Ok X cc own mname (some .double) il) (i : Nat) {v : UInt64} (hi : il[i]? = some (pc, .dreturn, 1)) (k : P0 (some (.double v)) w) : G X ce sl pc lv [.double v] w := by
  obtain ⟨p, l, e, R, s, m, args, below, meth, c, E, P, mc, ms, nL⟩ := X
  obtain ⟨hx, hb, hml, hown, hts, hlk, hrt, hK, hd, hlo, hmn⟩ := h
  intro H locs ls hl hP hS
  obtain ⟨-, -, -, q1, q2, q3, -⟩ := hq
  subst q1; subst q2; subst q3
  exact W.dret hx hb hrt (fun t ht hW => ⟨⟨_, w, rfl, k, by rw [ht]; exact hP, va_K.moved hW.alike hK⟩, hS.F ht⟩) hS.2.2 (dkm hd hi) hlk
theorem g_zret {X : Cx} {cc : ByteArray} {own mname : String} {il : List (Nat × Instr × Nat)} {pc : Nat} {lv : Nat → Option Value} {w : Wd} {ce sl : Nat} {R0 : Room} {l0 : Launch} {E0 : EE} {P0 : Option Value → Wd → Prop} {nL0 : Nat} (hq : Is X R0 l0 E0 P0 ce sl nL0) (h : Ok X cc own mname (some .boolean) il) (i : Nat) {v : Int32} (hi : il[i]? = some (pc, .ireturn, 1)) (hn : narrow .boolean (.int v) = .int v) (k : P0 (some (.int v)) w) : G X ce sl pc lv [.int v] w := by
  obtain ⟨p, l, e, R, s, m, args, below, meth, c, E, P, mc, ms, nL⟩ := X
  obtain ⟨hx, hb, hml, hown, hts, hlk, hrt, hK, hd, hlo, hmn⟩ := h
  intro H locs ls hl hP hS
  obtain ⟨-, -, -, q1, q2, q3, -⟩ := hq
  subst q1; subst q2; subst q3
  exact W.zret hx hb hrt hn (fun t ht hW => ⟨⟨_, w, rfl, k, by rw [ht]; exact hP, va_K.moved hW.alike hK⟩, hS.F ht⟩) hS.2.2 (dkm hd hi) hlk
theorem g_vret {X : Cx} {cc : ByteArray} {own mname : String} {il : List (Nat × Instr × Nat)} {pc : Nat} {lv : Nat → Option Value} {w : Wd} {ce sl : Nat} {R0 : Room} {l0 : Launch} {E0 : EE} {P0 : Option Value → Wd → Prop} {nL0 : Nat} (hq : Is X R0 l0 E0 P0 ce sl nL0) (h : Ok X cc own mname none il) (i : Nat) (hi : il[i]? = some (pc, .return_, 1)) (k : P0 none w) : G X ce sl pc lv [] w := by
  obtain ⟨p, l, e, R, s, m, args, below, meth, c, E, P, mc, ms, nL⟩ := X
  obtain ⟨hx, hb, hml, hown, hts, hlk, hrt, hK, hd, hlo, hmn⟩ := h
  intro H locs ls hl hP hS
  obtain ⟨-, -, -, q1, q2, q3, -⟩ := hq
  subst q1; subst q2; subst q3
  exact W.vret hx hb hrt (fun t ht hW => ⟨⟨_, w, rfl, k, by rw [ht]; exact hP, va_K.moved hW.alike hK⟩, hS.F ht⟩) hS.2.2 (dkm hd hi) hlk
theorem ct_in {l : Launch} {E : EE} {y : MethodName} {cc : ByteArray} {maxL : Nat} {ret : Option FieldType} {rm : Room} {args : List Value} {w : Wd} {mc ms : Nat} {P : Option Value → Wd → Prop} {il : List (Nat × Instr × Nat)} (hy : plainName y.cls = true) (hd : ∀ q ∈ il, decode cc q.1 = .ok (q.2.1, q.2.2)) (hfit : (lg_sl args).length ≤ maxL) (hlo : E.2.2 ≤ wN w)
    (body : ∀ X : Cx, Ok X cc y.cls y.name ret il → Is X rm l E P mc ms maxL → G X 0 0 0 (lf (lv_args 0 args)) [] w) : Ct l E y cc maxL ret rm args w mc ms P := by
  refine Met.ofW (cc := cc) (maxL := maxL) (ret := ret) hy rfl ?_
  intro p e s m args0 below meth c s₁ B hml hv
  obtain ⟨rfl, hP, hK⟩ := hv
  have hts := atoms_spec (ws := (.code y cc maxL ret :: lw_ok)) B.pre
  have hl := lv_entry args (n := maxL) hfit
  have hlo2 : E.2.2 ≤ s.heap.size := by rw [hP.1]; exact hlo
  have hok : Ok (p, l, e, rm, s, m, args.toArray, below, meth, c, E, P, mc, ms, maxL) cc y.cls y.name ret il := ⟨B.exec, B.bytes, hml, findClass_of_methodNamed B.named, fun w hw => hts w (List.mem_cons_of_mem _ hw), B.notSynchronized, B.returns, hK, hd, hlo2, (name_of_methodNamed B.named B.method).1⟩
  have k := body (p, l, e, rm, s, m, args.toArray, below, meth, c, E, P, mc, ms, maxL) hok ⟨rfl, rfl, rfl, rfl, rfl, rfl, rfl⟩
  rw [lg_entry_eq]
  exact k s.heap [] _ (lf_has hl) hP va_S.rf

