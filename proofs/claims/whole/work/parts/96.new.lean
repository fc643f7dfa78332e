/-- what constructors ask besides: the links between nest mates, the arrays of objects -/
def nestW : List (String × Nat × MethodName × String) := [(RX1, 31, yX6_init, RX9), (RX1, 38, yX7_init, RX9), (RX1, 45, yX8_init, RX9), (RX1, 54, yX2_init, RX9), (RX1, 55, yX0_init, RX9), (RX1, 56, yX5_init, RX9), (RX9, 18, yX3_init, RX9), (RX3, 34, yX4_init, RX9), (RX9, 39, yX4_init, RX9), (RX9, 46, yX8_init, RX9)]
def NK (U : State) : Prop := (∀ q ∈ nestW, va_Nw (.methodLinkNest q.1 q.2.1 q.2.2.1 q.2.2.2) U) ∧ (va_AO RX2 U ∧ va_AO RX0 U ∧ va_AO RX5 U ∧ va_AO RX3 U)
theorem NK.warm {s U : State} (hW : s.WarmedH U.vm) (h : NK s) : NK U := ⟨fun q hq => va_Nw.warmM hW (h.1 q hq), va_AO.moved hW.alike h.2.1, va_AO.moved hW.alike h.2.2.1, va_AO.moved hW.alike h.2.2.2.1, va_AO.moved hW.alike h.2.2.2.2⟩
theorem NK.blind {U : State} {g : JFrame} {mk : MethodId} {a : Array Value} (h : NK U) : NK (U.calling g mk a) := ⟨fun q hq => va_Nw.same rfl (rfl : U.vm = (U.calling g mk a).vm) (h.1 q hq), va_AO.moved (u := U) (U := U.calling g mk a) (Vm.Alike.refl U.vm) h.2.1, va_AO.moved (u := U) (U := U.calling g mk a) (Vm.Alike.refl U.vm) h.2.2.1, va_AO.moved (u := U) (U := U.calling g mk a) (Vm.Alike.refl U.vm) h.2.2.2.1, va_AO.moved (u := U) (U := U.calling g mk a) (Vm.Alike.refl U.vm) h.2.2.2.2⟩
/-- a constructor's contract -/
def CtN (l : Launch) (E : EE) (y : MethodName) (cc : ByteArray) (maxL : Nat) (ret : Option FieldType) (rm : Room) (args : List Value) (w : Wd) (mc ms : Nat) (P : Option Value → Wd → Prop) : Prop := Met l y (.code y cc maxL ret :: lw_ok) rm (va_Pc args (fun U => HU E w U ∧ NK U)) (QC E P) mc ms (aE E)
def cxS (X : Cx) : State := X.2.2.2.2.1
theorem ct_inN {l : Launch} {E : EE} {y : MethodName} {cc : ByteArray} {maxL : Nat} {ret : Option FieldType} {rm : Room} {args : List Value} {w : Wd} {mc ms : Nat} {P : Option Value → Wd → Prop} {il : List (Nat × Instr × Nat)} (hy : plainName y.cls = true) (hd : ∀ q ∈ il, decode cc q.1 = .ok (q.2.1, q.2.2)) (hfit : (lg_sl args).length ≤ maxL) (hlo : E.2.2 ≤ wN w)
    (body : ∀ X : Cx, Ok X cc y.cls y.name ret il → Is X rm l E P mc ms maxL → NK (cxS X) → G X 0 0 0 (lf (lv_args 0 args)) [] w) : CtN l E y cc maxL ret rm args w mc ms P := by
  refine Met.ofW (cc := cc) (maxL := maxL) (ret := ret) hy rfl ?_
  intro p e s m args0 below meth c s₁ B hml hv
  obtain ⟨rfl, ⟨hP, hK⟩, hN⟩ := hv
  have hts := atoms_spec (ws := (.code y cc maxL ret :: lw_ok)) B.pre
  have hl := lv_entry args (n := maxL) hfit
  have hlo2 : E.2.2 ≤ s.heap.size := by rw [hP.1]; exact hlo
  have hok : Ok (p, l, e, rm, s, m, args.toArray, below, meth, c, E, P, mc, ms, maxL) cc y.cls y.name ret il := ⟨B.exec, B.bytes, hml, findClass_of_methodNamed B.named, fun w hw => hts w (List.mem_cons_of_mem _ hw), B.notSynchronized, B.returns, hK, hd, hlo2, (name_of_methodNamed B.named B.method).1⟩
  have k := body (p, l, e, rm, s, m, args.toArray, below, meth, c, E, P, mc, ms, maxL) hok ⟨rfl, rfl, rfl, rfl, rfl, rfl, rfl⟩ hN
  rw [lg_entry_eq]
  exact k s.heap [] _ (lf_has hl) hP va_S.rf
/-- a new cell keeps the memory -/
theorem PM_new {E : EE} {w : Wd} {H H1 : Heap} {k : Nat ⊕ (Nat × Nat)} (hP : PM E w H) (hz : H1.size = H.size + 1) (ho : ∀ q, q < H.size → H1[q]? = H[q]?) (hlo : E.2.2 ≤ H.size) (hx : ∀ x, ent E (sNew w k) (wN w) = some x → va_at E.1 vwCl (wN w, x) H1) : PM E (sNew w k) H1 := by
  refine ⟨by rw [hz, hP.1]; rfl, fun a x ha => ?_⟩
  by_cases e : a = wN w
  · subst e
    exact ⟨by rw [← hP.1]; exact hlo, hx x ha⟩
  · have e1 : ent E (sNew w k) a = ent E w a := by
      have e' : a ≠ w.1 := e
      refine ent_c ?_ (fun k2 => ?_) (fun k2 => ?_) (fun k2 => ?_) (fun k2 => ?_)
      · exact if_neg e'
      · exact if_neg e'
      · exact if_neg e'
      · exact if_neg e'
      · exact if_neg e'
    rw [e1] at ha
    obtain ⟨h1, h2⟩ := hP.2 a x ha
    have hlt : a < H.size := h2.lt
    exact ⟨h1, h2.kept (ho a hlt)⟩
theorem nk_s {w : Wd} {k : Nat ⊕ (Nat × Nat)} : wK (sNew w k) (wN w) = some k := if_pos rfl
theorem nI_s {w : Wd} {k : Nat ⊕ (Nat × Nat)} {y : Nat} : wI (sNew w k) (wN w) y = 0 := if_pos rfl
theorem nJ_s {w : Wd} {k : Nat ⊕ (Nat × Nat)} {y : Nat} : wJ (sNew w k) (wN w) y = 0 := if_pos rfl
theorem nD_s {w : Wd} {k : Nat ⊕ (Nat × Nat)} {y : Nat} : wD (sNew w k) (wN w) y = 0 := if_pos rfl
theorem nR_s {w : Wd} {k : Nat ⊕ (Nat × Nat)} {y : Nat} : wR (sNew w k) (wN w) y = none := if_pos rfl
theorem g_new {X : Cx} {cc : ByteArray} {own mname : String} {ret : Option FieldType} {il : List (Nat × Instr × Nat)} {ce sl pc : Nat} {lv : Nat → Option Value} {st : List Value} {w : Wd} (h : Ok X cc own mname ret il) {R0 : Room} {l0 : Launch} {E0 : EE} {P0 : Option Value → Wd → Prop} {mc0 ms0 nL0 : Nat} (hq : Is X R0 l0 E0 P0 mc0 ms0 nL0) (i : Nat) {index ci : Nat} {C : String} {T : u_T} (hi : il[i]? = some (pc, .new index, 3)) (hC : Cls ci C T) (hcl : Cond.classLink own index C ∈ lw_ok) (hin : Cond.instantiable C (cN ci) ∈ lw_ok) (hini : Cond.initialized C ∈ lw_ok) (hdv : ∀ j, j < cN ci → defaultValue (cT ci j) = fv (cT ci j) (sNew w (.inl ci)) (wN w) j) (hcs : ce + 1 ≤ R0.cells ∧ sl + cN ci ≤ R0.slots) (kk : G X (ce + 1) (sl + cN ci) (pc + 3) lv (.ref (wN w) :: st) (sNew w (.inl ci))) : G X ce sl pc lv st w := by
  obtain ⟨p, l, e, R, s, m, args, below, meth, c, E, P, mc, ms, nL⟩ := X
  obtain ⟨hx, hb, hml, hown, hts, hlk, hrt, hK, hd, hlo, hmn⟩ := h
  obtain ⟨q1, -⟩ := hq
  intro H locs ls hl hP hS
  have hKn := hK.1 ci _ hC.1
  have hcs2 : ce + 1 ≤ R.cells ∧ sl + cN ci ≤ R.slots := by
    have : R = R0 := q1
    rw [this]; exact hcs
  refine W.newcK hx hb hown (hts _ hcl) (hts _ hin) (hts _ hini) rfl (dkm hd hi) hcs2.1 hcs2.2 hKn.2.1 rfl fun H1 kC hkC e1 z1 o1 => ?_
  have kk2 := kk H1 locs ls hl (PM_new hP z1 o1 (Nat.le_trans hlo hS.1) (fun x hx2 => ?_)) ⟨Nat.le_trans hS.1 (by omega), fun q h1 h2 => (o1 q (Nat.lt_of_lt_of_le h1 hS.1)).trans (hS.2.1 q h1 h2), hS.2.2⟩
  · rw [← hP.1] at kk2
    exact kk2
  · rw [ent_obj nk_s] at hx2
    obtain rfl := Option.some.inj hx2
    refine ⟨_, hC.1, (u_born (cT ci) hts hC.2.1 hKn hkC ?_ hC.2.2.1).to (fun j hj => ?_)⟩
    · rw [← hP.1]; exact e1
    · exact (hdv j hj).trans (fvs_V hj).symm
theorem g_newar {X : Cx} {cc : ByteArray} {own mname : String} {ret : Option FieldType} {il : List (Nat × Instr × Nat)} {ce sl pc : Nat} {lv : Nat → Option Value} {st : List Value} {w : Wd} (h : Ok X cc own mname ret il) {R0 : Room} {l0 : Launch} {E0 : EE} {P0 : Option Value → Wd → Prop} {mc0 ms0 nL0 : Nat} (hq : Is X R0 l0 E0 P0 mc0 ms0 nL0) (i : Nat) {atype : ArrayType} {n : Int32} (t N : Nat) (hi : il[i]? = some (pc, .newarray atype, 2)) (ht : t < 3) (hty : newarray.typeOf atype = tA t) (harr : Cond.arrayClass (tA t) ∈ lw_ok) (hn : n = nI N) (hN : N < 3000) (hcs : ce + 1 ≤ R0.cells ∧ sl + N ≤ R0.slots) (kk : G X (ce + 1) (sl + N) (pc + 2) lv (.ref (wN w) :: st) (sNew w (.inr (t, N)))) : G X ce sl pc lv (.int n :: st) w := by
  obtain ⟨p, l, e, R, s, m, args, below, meth, c, E, P, mc, ms, nL⟩ := X
  obtain ⟨hx, hb, hml, hown, hts, hlk, hrt, hK, hd, hlo, hmn⟩ := h
  obtain ⟨q1, -⟩ := hq
  have hcs2 : ce + 1 ≤ R.cells ∧ sl + N ≤ R.slots := by
    have : R = R0 := q1
    rw [this]; exact hcs
  intro H locs ls hl hP hS
  have hcb : componentBytes (newarray.typeOf atype) ≤ 8 := by
    rw [hty]
    match t, ht with
    | 0, _ => decide
    | 1, _ => decide
    | 2, _ => decide
  have hn0 : ¬ n < 0 := fun z => by
    rw [hn] at z
    have := i32lt.mp z
    rw [nIT (by omega)] at this
    have e0 : (0 : Int32).toInt = 0 := rfl
    omega
  have hnc : n.toNatClampNeg = N := by rw [hn]; exact nI_clamp (by omega)
  refine va_newaK hx hb (by rw [hty]; exact hts _ harr) rfl (dkm hd hi) rfl hn0 hnc (Nat.le_trans (Nat.mul_le_mul (Nat.le_of_lt hN) hcb) (by decide)) hcs2.1 hcs2.2 rfl fun H1 cA e1 z1 o1 hAr hNm => ?_
  rw [hty] at e1 hAr hNm
  have hRA := (hK.2 t _ (tys_at (by omega))).2
  have hcA : cA = E.2.1 t := by
    match t, ht with
    | 0, _ => exact Option.some.inj (hNm.symm.trans hRA)
    | 1, _ => exact Option.some.inj (hNm.symm.trans hRA)
    | 2, _ => exact Option.some.inj (hNm.symm.trans hRA)
  subst hcA
  have kk2 := kk H1 locs ls hl (PM_new hP z1 o1 (Nat.le_trans hlo hS.1) (fun x hx2 => ?_)) ⟨Nat.le_trans hS.1 (by omega), fun q h1 h2 => (o1 q (Nat.lt_of_lt_of_le h1 hS.1)).trans (hS.2.1 q h1 h2), hS.2.2⟩
  · rw [← hP.1] at kk2
    exact kk2
  · rw [ent_arr nk_s] at hx2
    obtain rfl := Option.some.inj hx2
    show H1[wN w]? = some (vp_cell (E.2.1 t) (N, arrC t (sNew w (.inr (t, N))) (wN w)))
    rw [← hP.1, e1, hP.1]
    congr 1
    match t, ht with
    | 0, _ => exact congrArg (arrV (E.2.1 0) N) (funext fun j => (congrArg Value.int (nI_s (w := w) (k := .inr (0, N)) (y := j))).symm)
    | 1, _ => exact congrArg (arrV (E.2.1 1) N) (funext fun j => (congrArg Value.int (nI_s (w := w) (k := .inr (1, N)) (y := j))).symm)
    | 2, _ => exact congrArg (arrV (E.2.1 2) N) (funext fun j => (congrArg Value.long (nJ_s (w := w) (k := .inr (2, N)) (y := j))).symm)
theorem g_anew {X : Cx} {cc : ByteArray} {own mname : String} {ret : Option FieldType} {il : List (Nat × Instr × Nat)} {ce sl pc : Nat} {lv : Nat → Option Value} {st : List Value} {w : Wd} (h : Ok X cc own mname ret il) {R0 : Room} {l0 : Launch} {E0 : EE} {P0 : Option Value → Wd → Prop} {mc0 ms0 nL0 : Nat} (hq : Is X R0 l0 E0 P0 mc0 ms0 nL0) (i : Nat) {index : Nat} {n : Int32} {C : String} (t N : Nat) (hi : il[i]? = some (pc, .anewarray index, 3)) (ht : t + 3 < 7) (hty : tA (t + 3) = .object C) (hcl : Cond.classLink own index C ∈ lw_ok) (hao : va_AO C (cxS X)) (hn : n = nI N) (hN : N < 3000) (hcs : ce + 1 ≤ R0.cells ∧ sl + N ≤ R0.slots) (kk : G X (ce + 1) (sl + N) (pc + 3) lv (.ref (wN w) :: st) (sNew w (.inr (t + 3, N)))) : G X ce sl pc lv (.int n :: st) w := by
  obtain ⟨p, l, e, R, s, m, args, below, meth, c, E, P, mc, ms, nL⟩ := X
  obtain ⟨hx, hb, hml, hown, hts, hlk, hrt, hK, hd, hlo, hmn⟩ := h
  obtain ⟨q1, -⟩ := hq
  have hnc : n.toNatClampNeg = N := by rw [hn]; exact nI_clamp (by omega)
  have hcs2 : ce + 1 ≤ R.cells ∧ sl + n.toNatClampNeg ≤ R.slots := by
    have : R = R0 := q1
    rw [this, hnc]; exact hcs
  intro H locs ls hl hP hS
  have hn0 : ¬ n < 0 := fun z => by
    rw [hn] at z
    have := i32lt.mp z
    rw [nIT (by omega)] at this
    have e0 : (0 : Int32).toInt = 0 := rfl
    omega
  refine W.anew hx hb hown (hts _ hcl) (va_AO.use hao) rfl (dkm hd hi) rfl hn0 (by rw [hnc]; omega) hcs2.1 hcs2.2 fun cA kA comp f1 f2 f3 f4 => ?_
  rw [hnc]
  generalize hH1 : H.push ({ cls := cA, slots := Array.replicate N .null, vm := .none } : Cell) = H1
  have z1 : H1.size = H.size + 1 := by rw [← hH1, Array.size_push]
  have e1 : H1[H.size]? = some (arrV cA N (fun _ => .null)) := by rw [← hH1, Array.getElem?_push_size, ← arrV_new]
  have o1 : ∀ q : Nat, q < H.size → H1[q]? = H[q]? := fun q hq2 => by rw [← hH1, Array.getElem?_push, if_neg (Nat.ne_of_lt hq2)]
  have hRA := (hK.2 (t + 3) _ (tys_at (by omega))).2
  have hRA2 : va_RA s (E.2.1 (t + 3)) (tA (t + 3)) := hRA
  rw [hty] at hRA2
  obtain ⟨kA2, comp2, g1, g2, g3, g4⟩ := hRA2
  have hcA : cA = E.2.1 (t + 3) := Option.some.inj (f1.symm.trans g4)
  subst hcA
  have kk2 := kk H1 locs ls hl (PM_new hP z1 o1 (Nat.le_trans hlo hS.1) (fun x hx2 => ?_)) ⟨Nat.le_trans hS.1 (by omega), fun q h1 h2 => (o1 q (Nat.lt_of_lt_of_le h1 hS.1)).trans (hS.2.1 q h1 h2), hS.2.2⟩
  · rw [← hP.1] at kk2
    exact kk2
  · rw [ent_arr nk_s] at hx2
    obtain rfl := Option.some.inj hx2
    show H1[wN w]? = some (vp_cell (E.2.1 (t + 3)) (N, .inr (.inr (.inr (.inr (wR (sNew w (.inr (t + 3, N))) (wN w)))))))
    rw [← hP.1, e1, hP.1]
    congr 1
    exact congrArg (arrV (E.2.1 (t + 3)) N) (funext fun j => (congrArg va_rf (nR_s (w := w) (k := .inr (t + 3, N)) (y := j))).symm)
theorem g_aast {X : Cx} {cc : ByteArray} {own mname : String} {ret : Option FieldType} {il : List (Nat × Instr × Nat)} {ce sl pc : Nat} {lv : Nat → Option Value} {st : List Value} {w : Wd} (h : Ok X cc own mname ret il) (i : Nat) {t a n v ci N' : Nat} {C : String} {T : u_T} {x : Int32} (hi : il[i]? = some (pc, .aastore, 1)) (ht : t + 3 < 7) (hty : tA (t + 3) = .object C) (hk : wK w a = some (.inr (t + 3, n))) (hin : vp_in x n) (hkv : wK w v = some (.inl ci)) (hc : vwCl[ci]? = some (C, T, N')) (kk : G X ce sl (pc + 1) lv st (sR w a x.toNatClampNeg (some v))) : G X ce sl pc lv (.ref v :: .int x :: .ref a :: st) w := by
  obtain ⟨p, l, e, R, s, m, args, below, meth, c, E, P, mc, ms, nL⟩ := X
  obtain ⟨hx, hb, hml, hown, hts, hlk, hrt, hK, hd, hlo, hmn⟩ := h
  intro H locs ls hl hP hS
  have hlt : x.toNatClampNeg < n := Nat.not_le.mp fun q => hin (Or.inr q)
  have h0 : ¬ x < 0 := fun q => hin (Or.inl q)
  obtain ⟨hle, hat⟩ := PM_at hP (ent_arr hk)
  have hat2 : H[a]? = some (vp_cell (E.2.1 (t + 3)) (n, .inr (.inr (.inr (.inr (wR w a)))))) := hat
  obtain ⟨r', hr', cellV, g1, g2, g3, -⟩ := (PM_at hP (ent_obj hkv)).2
  have hcls := (hK.1 ci _ hc).2
  have hRA : va_RA s (E.2.1 (t + 3)) (tA (t + 3)) := (hK.2 (t + 3) _ (tys_at (by omega))).2
  rw [hty] at hRA
  obtain ⟨kA, comp, k1, k2, k3, -⟩ := hRA
  have hcomp : comp = E.1.1 ci := Option.some.inj (k3.symm.trans hcls.1)
  subst hcomp
  obtain ⟨kC, hkC, -⟩ := hcls.2
  refine W.aast hx hb hat2 (fun q h => by cases h) (fun h => by cases h) k1 k2 rfl hkC ⟨h0, by show _ < (arrV _ _ _).slots.size; rw [arrV_size]; exact hlt⟩ g1 (fun q h => by rw [g3] at h; cases h) (by rw [g2]; exact hkC) (by rw [g2]; exact va_assign hcls) rfl rfl (dkm hd hi) fun H1 e z oq => ?_
  refine kk H1 _ ls hl (PM_put hP z oq rfl (fun q hq => ent_c rfl (fun k2 => up2_a hq) (fun k2 => rfl) (fun k2 => rfl) (fun k2 => rfl)) (fun y hy => ?_)) (hS.put z oq hle)
  have hk' : wK (sR w a x.toNatClampNeg (some v)) a = some (.inr (t + 3, n)) := hk
  rw [ent_arr hk'] at hy
  obtain rfl := Option.some.inj hy
  refine ⟨hle, ?_⟩
  show H1[a]? = some (vp_cell (E.2.1 (t + 3)) (n, .inr (.inr (.inr (.inr (wR (sR w a x.toNatClampNeg (some v)) a))))))
  rw [e]
  rw [vp_cell_q, vp_cell_q, arrV_store]
  congr 2
  funext q
  by_cases hq : q = x.toNatClampNeg
  · subst hq
    show (if x.toNatClampNeg = x.toNatClampNeg then _ else _) = _
    rw [if_pos rfl]
    show Value.ref v = va_rf (up2 (wR w) a x.toNatClampNeg (some v) a x.toNatClampNeg)
    rw [up2_s]
    rfl
  · show (if q = x.toNatClampNeg then _ else _) = _
    rw [if_neg hq]
    exact (congrArg va_rf (up2_k hq)).symm
theorem g_oinit {X : Cx} {cc : ByteArray} {own mname : String} {ret : Option FieldType} {il : List (Nat × Instr × Nat)} {ce sl pc : Nat} {lv : Nat → Option Value} {w : Wd} (h : Ok X cc own mname ret il) {R0 : Room} {l0 : Launch} {E0 : EE} {P0 : Option Value → Wd → Prop} {mc0 ms0 nL0 : Nat} (hq : Is X R0 l0 E0 P0 mc0 ms0 nL0) (i : Nat) {index a : Nat} (hi : il[i]? = some (pc, .invokespecial index, 3)) (hl1 : Cond.methodLink own index objectInit ∈ lw_ok) (hl2 : Cond.instanceMethod objectInit ∈ lw_ok) (hl3 : Cond.code objectInit ⟨#[0xb1]⟩ 1 none ∈ lw_ok) (hR : 1 ≤ R0.frames ∧ 12 ≤ R0.locals) (kk : G X ce sl (pc + 3) lv [] w) : G X ce sl pc lv [.ref a] w := by
  obtain ⟨p, l, e, R, s, m, args, below, meth, c, E, P, mc, ms, nL⟩ := X
  obtain ⟨hx, hb, hml, hown, hts, hlk, hrt, hK, hd, hlo, hmn⟩ := h
  obtain ⟨q1, -⟩ := hq
  have hR2 : 1 ≤ R.frames ∧ 12 ≤ R.locals := by
    have : R = R0 := q1
    rw [this]; exact hR
  intro H locs ls hl hP hS
  refine W.objInit hx hb hown (hts _ hl1) (hts _ hl2) (hts _ hl3) rfl (hl.1.trans hml.symm) rfl (dkm hd hi) hR2.1 (by show 2 * 0 + 0 + 12 ≤ R.locals; exact hR2.2) ?_
  exact kk H locs ls hl hP hS
/-- a nest mate's constructor -/
theorem g_nest {X : Cx} {cc : ByteArray} {own mname : String} {ret : Option FieldType} {il : List (Nat × Instr × Nat)} {ce sl pc : Nat} {lv : Nat → Option Value} {rest : List Value} {w : Wd} (h : Ok X cc own mname ret il) (hN : NK (cxS X)) (i : Nat) {index b maxL mc2 ms2 : Nat} {y : MethodName} {host : String} {bytes : ByteArray} {rm : Room} {P2 : Option Value → Wd → Prop} {R0 : Room} {l0 : Launch} {E0 : EE} {P0 : Option Value → Wd → Prop} {mc0 ms0 nL0 : Nat} (hq : Is X R0 l0 E0 P0 mc0 ms0 nL0) (hi : il[i]? = some (pc, .invokespecial index, 3)) (hm : (own, index, y, host) ∈ nestW) (hw1 : Cond.code y bytes maxL none ∈ lw_ok) (hw2 : Cond.instanceMethod y ∈ lw_ok) (hw3 : Cond.initialized y.cls ∈ lw_ok) (hyn : y.name = "<init>") (hyc : y.cls ≠ "java/lang/invoke/MethodHandle" ∧ y.cls ≠ "java/lang/invoke/VarHandle" ∧ (parseMethodDescriptor y.desc).map (fun d => d.parameters.length) = some 0) (hc : CtN l0 E0 y bytes maxL none rm [.ref b] w mc2 ms2 P2) (hrm : Fits rm maxL R0 mc2 ms2) (hrest : (rest.map fun v => v.category).sum ≤ 8) (hcs : ce + mc2 ≤ R0.cells ∧ sl + ms2 ≤ R0.slots)
    (k : ∀ r w', P2 r w' → G X (ce + mc2) (sl + ms2) (pc + 3) lv (r.toList ++ rest) w') : G X ce sl pc lv (.ref b :: rest) w := by
  obtain ⟨p, l, e, R, s, m, args, below, meth, c, E, P, mc, ms, nL⟩ := X
  obtain ⟨hx, hb, hml, hown, hts, hlk, hrt, hK, hd, hlo, hmn⟩ := h
  intro H locs ls hl hP hS
  obtain ⟨q1, q2, q3, -⟩ := hq
  subst q1; subst q2; subst q3
  exact g_ran hlo hl hS (va_runIN (As := []) (rest := rest) ⟨hx, hb, hml, hown, hts⟩ hc ⟨va_cnB 0 hts (lw_goodIn hw1) rfl hrm.1 hrm.2.1 (hN.1 _ hm) (hts _ hw3) hyc ⟨hrm.2.2.1, hrm.2.2.2⟩, hyn, hts _ hw2⟩ ⟨fun a U g mk q => ⟨q.1, HU_blind a U g mk q.2.1, q.2.2.blind⟩, fun U hU hW => ⟨rfl, ⟨by rw [hU]; exact hP, va_K.moved hW.alike hK⟩, hN.warm hW⟩⟩ rfl rfl hl.1 rfl (by show 2 * 0 + _ ≤ 8; omega) (dkm hd hi) hcs) k
/-- a constructor by its plain link -/
theorem g_plain {X : Cx} {cc : ByteArray} {own mname : String} {ret : Option FieldType} {il : List (Nat × Instr × Nat)} {ce sl pc : Nat} {lv : Nat → Option Value} {rest : List Value} {w : Wd} (h : Ok X cc own mname ret il) (hN : NK (cxS X)) (i : Nat) {index b maxL mc2 ms2 : Nat} {y : MethodName} {bytes : ByteArray} {rm : Room} {P2 : Option Value → Wd → Prop} {R0 : Room} {l0 : Launch} {E0 : EE} {P0 : Option Value → Wd → Prop} {mc0 ms0 nL0 : Nat} (hq : Is X R0 l0 E0 P0 mc0 ms0 nL0) (hi : il[i]? = some (pc, .invokespecial index, 3)) (hm : MI own index y bytes maxL 0) (hc : CtN l0 E0 y bytes maxL none rm [.ref b] w mc2 ms2 P2) (hrm : Fits rm maxL R0 mc2 ms2) (hrest : (rest.map fun v => v.category).sum ≤ 8) (hcs : ce + mc2 ≤ R0.cells ∧ sl + ms2 ≤ R0.slots)
    (k : ∀ r w', P2 r w' → G X (ce + mc2) (sl + ms2) (pc + 3) lv (r.toList ++ rest) w') : G X ce sl pc lv (.ref b :: rest) w := by
  obtain ⟨p, l, e, R, s, m, args, below, meth, c, E, P, mc, ms, nL⟩ := X
  obtain ⟨hx, hb, hml, hown, hts, hlk, hrt, hK, hd, hlo, hmn⟩ := h
  intro H locs ls hl hP hS
  obtain ⟨q1, q2, q3, -⟩ := hq
  subst q1; subst q2; subst q3
  obtain ⟨m1, m2, m3, m4, m5, m7, m8, m9⟩ := hm
  exact g_ran hlo hl hS (va_runI (As := []) (rest := rest) ⟨hx, hb, hml, hown, hts⟩ hc (cwI 0 hts (lw_goodIn m1) rfl hrm.1 hrm.2.1 (hts _ m4) (hts _ m2) (hts _ m3) m5 ⟨m7, m8, m9⟩ ⟨hrm.2.2.1, hrm.2.2.2⟩) ⟨fun a U g mk q => ⟨q.1, HU_blind a U g mk q.2.1, q.2.2.blind⟩, fun U hU hW => ⟨rfl, ⟨by rw [hU]; exact hP, va_K.moved hW.alike hK⟩, hN.warm hW⟩⟩ rfl rfl hl.1 rfl (by show 2 * 0 + _ ≤ 8; omega) (dkm hd hi) hcs) k
theorem g_cc {X : Cx} {ce sl ce' sl' pc : Nat} {lv : Nat → Option Value} {st : List Value} {w : Wd} (h1 : ce = ce') (h2 : sl = sl') (k : G X ce' sl' pc lv st w) : G X ce sl pc lv st w := by rw [h1, h2]; exact k
theorem g_ref {X : Cx} {ce sl pc a b : Nat} {lv : Nat → Option Value} {st : List Value} {w : Wd} (e : a = b) (k : G X ce sl pc lv (.ref b :: st) w) : G X ce sl pc lv (.ref a :: st) w := by rw [e]; exact k
