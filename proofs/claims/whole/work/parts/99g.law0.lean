/-- the law's own array -/
def XA (X : Cx) (b L : Nat) (xs : Nat → Int32) : Prop := match X with
  | (_, _, _, _, s, _, _, _, _, _, E, _, _, _, _) => va_X b L xs s s.heap ∧ b < s.heap.size ∧ ¬ aE E b
theorem g_xlen {X : Cx} {cc : ByteArray} {own mname : String} {ret : Option FieldType} {il : List (Nat × Instr × Nat)} {ce sl pc : Nat} {lv : Nat → Option Value} {st : List Value} {w : Wd} (h : Ok X cc own mname ret il) {b L : Nat} {xs : Nat → Int32} (hX : XA X b L xs) (i : Nat) (hi : il[i]? = some (pc, .arraylength, 1)) (kk : G X ce sl (pc + 1) lv (.int (Int32.ofNat L) :: st) w) : G X ce sl pc lv (.ref b :: st) w := by
  obtain ⟨p, l, e, R, s, m, args, below, meth, c, E, P, mc, ms, nL⟩ := X
  obtain ⟨hx, hb, hml, hown, hts, hlk, hrt, hK, hd, hlo, hmn⟩ := h
  obtain ⟨x1, x2, x3⟩ := hX
  intro H locs ls hl hP hS
  exact va_slen hx hb x1 x2 x3 hS (dkm hd hi) (kk H locs ls hl hP hS)
theorem g_xald {X : Cx} {cc : ByteArray} {own mname : String} {ret : Option FieldType} {il : List (Nat × Instr × Nat)} {ce sl pc : Nat} {lv : Nat → Option Value} {st : List Value} {w : Wd} (h : Ok X cc own mname ret il) {b L : Nat} {xs : Nat → Int32} (hX : XA X b L xs) (i : Nat) {x : Int32} (hi : il[i]? = some (pc, .iaload, 1)) (hv : vp_in x L) (kk : G X ce sl (pc + 1) lv (.int (xs x.toNatClampNeg) :: st) w) : G X ce sl pc lv (.int x :: .ref b :: st) w := by
  obtain ⟨p, l, e, R, s, m, args, below, meth, c, E, P, mc, ms, nL⟩ := X
  obtain ⟨hx, hb, hml, hown, hts, hlk, hrt, hK, hd, hlo, hmn⟩ := h
  obtain ⟨x1, x2, x3⟩ := hX
  intro H locs ls hl hP hS
  exact va_sld hx hb x1 x2 x3 hS hv (dkm hd hi) (kk H locs ls hl hP hS)
/-- the k-th int behind n, taken at once -/
theorem g_xarg {X : Cx} {cc : ByteArray} {own mname : String} {ret : Option FieldType} {il : List (Nat × Instr × Nat)} {ce sl pc : Nat} {lv : Nat → Option Value} {st : List Value} {w : Wd} (h : Ok X cc own mname ret il) {b L n : Nat} {xs : Nat → Int32} (hX : XA X b L xs) (hv : lv 0 = some (.ref b)) (hn : lv 3 = some (.int (nI n))) (hL : L ≤ 3072) (i k : Nat) {kz : Int} (h0 : il[i]? = some (pc, .aload_n 0, 1)) (h1 : il[i + 1]? = some (pc + 1, .iload_n 3, 1)) (h2 : il[i + 2]? = some (pc + 1 + 1, .iconst kz, 1)) (h3 : il[i + 3]? = some (pc + 1 + 1 + 1, .iadd, 1)) (h4 : il[i + 4]? = some (pc + 1 + 1 + 1 + 1, .iaload, 1)) (hkz : Int32.ofInt kz = nI k) (hk : n + k < L) (kk : G X ce sl (pc + 1 + 1 + 1 + 1 + 1) lv (.int (xs (n + k)) :: st) w) : G X ce sl pc lv st w := by
  refine g_aload_n h i h0 hv ?_
  refine g_iload_n h (i + 1) h1 hn ?_
  refine g_iconst h (i + 2) h2 hkz ?_
  refine g_iadd h (i + 3) h3 ?_
  rw [nI_add]
  refine g_xald h hX (i + 4) h4 (vp_in_nI hk (by omega)) ?_
  rw [nI_clamp (by omega)]
  exact kk
/-- the same method with other rows -/
theorem ok_il {X : Cx} {cc : ByteArray} {own mname : String} {ret : Option FieldType} {il il2 : List (Nat × Instr × Nat)} (h : Ok X cc own mname ret il) (hd2 : ∀ q ∈ il2, decode cc q.1 = .ok (q.2.1, q.2.2)) : Ok X cc own mname ret il2 := by
  obtain ⟨p, l, e, R, s, m, args, below, meth, c, E, P, mc, ms, nL⟩ := X
  obtain ⟨hx, hb, hml, hown, hts, hlk, hrt, hK, hd, hlo, hmn⟩ := h
  exact ⟨hx, hb, hml, hown, hts, hlk, hrt, hK, hd2, hlo, hmn⟩
/-- what holds between two calls of the law -/
def LI (E : EE) (w : Wd) (b A T : Nat) : Prop := E.2.2 ≤ wN w ∧ LayB w b ∧ LayR w A ∧ b + 131 ≤ A ∧ RepB w b (cfW w A) (wJ w (A + 1)) ∧ Inv (cfW w A) (wJ w (A + 1)) T
theorem rb_in {b : Nat} {w : Wd} {cf : Nat → Nat → Int32} {R : Nat → Int64} {I : Nat → Nat → Int32} {J : Nat → Nat → Int64} {D : Nat → Nat → UInt64} (h : RepB w b cf R) (hI : ∀ p, b ≤ p → p < b + 131 → I p = wI w p ∧ J p = wJ w p) : RepB (dW w I J D) b cf R := ⟨rc_c h.1 (fun f hf _ => (hI (b + 1 + f) (by omega) (by omega)).1), rm_c h.2.1 (fun p h1 h2 => (hI p (by omega) (by omega)).1) (hI _ (by omega) (by omega)).2 (fun _ _ => rfl), kp_c h.2.2 (fun p hp => hI p (by omega) (by omega)) rfl (fun _ _ _ => rfl)⟩
/-- behind the class's call -/
theorem li_1 {E : EE} {w w1 : Wd} {b A T : Nat} (h : LI E w b A T) (hF : BF b w w1) : E.2.2 ≤ wN w1 ∧ LayR w1 A ∧ LayB w1 b ∧ cfW w1 A = cfW w A ∧ wJ w1 (A + 1) = wJ w (A + 1) := by
  obtain ⟨a1, a2, a3, a4, a5, a6⟩ := h
  obtain ⟨I, J, D, rfl, hI⟩ := hF
  exact ⟨a1, a3, a2, funext fun f => (hI (A + f) (Or.inr (by omega))).1, (hI (A + 1) (Or.inr (by omega))).2.1⟩
/-- behind both calls -/
theorem li_2 {E : EE} {w w1 w2 : Wd} {b A T T2 : Nat} {cf : Nat → Nat → Int32} {R : Nat → Int64} (h : LI E w b A T) (hF : BF b w w1) (hB : RepB w1 b cf R) (hR : RI A w1 cf R w2) (hv : Inv cf R T2) : LI E w2 b A T2 := by
  obtain ⟨b1, b2, b3, -, -⟩ := li_1 h hF
  obtain ⟨-, -, -, a4, -, -⟩ := h
  obtain ⟨I, J, D, rfl, h1, h2, h3⟩ := hR
  have e1 : cfW (dW w1 I J D) A = cf := funext h1
  have e2 : wJ (dW w1 I J D) (A + 1) = R := h2
  refine ⟨b1, b3, b2, a4, ?_, ?_⟩
  · rw [e1, e2]
    exact rb_in hB (fun p _ hp => ⟨(h3 p (by omega)).1, (h3 p (by omega)).2.1⟩)
  · rw [e1, e2]; exact hv

