/-- n places of a row from o on, put -/
def setn {α : Type} (r : Nat → α) (o : Nat) (f : Nat → α) (n : Nat) : Nat → α := fun y => if o ≤ y ∧ y < o + n then f (y - o) else r y
theorem setn_0 {α : Type} (r : Nat → α) (o : Nat) (f : Nat → α) : setn r o f 0 = r := funext fun y => if_neg (by omega)
theorem setn_1 {α : Type} (r : Nat → α) (o : Nat) (f : Nat → α) (i : Nat) {v : α} (h : v = f i) : up1 (setn r o f i) (o + i) v = setn r o f (i + 1) := by
  subst h
  funext y
  by_cases e : y = o + i
  · subst e; rw [up1_s]; unfold setn; rw [if_pos (by omega), show o + i - o = i by omega]
  · rw [up1_k e]
    unfold setn
    by_cases g : o ≤ y ∧ y < o + i
    · rw [if_pos g, if_pos (by omega)]
    · rw [if_neg g, if_neg (by omega)]
theorem setn_i {α : Type} {r : Nat → α} {o n y j : Nat} {f : Nat → α} (h : y = o + j) (h2 : j < n) : setn r o f n y = f j := by
  unfold setn
  rw [if_pos (by omega), show y - o = j by omega]
theorem setn_o {α : Type} {r : Nat → α} {o n y : Nat} {f : Nat → α} (h : ¬ (o ≤ y ∧ y < o + n)) : setn r o f n y = r y := if_neg h
theorem setn_r {α : Type} {r : Nat → α} {o n : Nat} {f g : Nat → α} (h : ∀ j, j < n → g j = r (o + j)) : setn (setn r o f n) o g n = r := by
  funext y
  by_cases e : o ≤ y ∧ y < o + n
  · rw [setn_i (j := y - o) (by omega) (by omega), h _ (by omega), show o + (y - o) = y by omega]
  · rw [setn_o e, setn_o e]
/-- the reference's ints: its config -/
def cfW (w : Wd) (a : Nat) : Nat → Nat → Int32 := fun f => wI w (a + f)
/-- barred at these states -/
def barC (cf : Nat → Nat → Int32) (st : Nat → Int32) : Bool := barB (cf 9) (cf 10) (tpX (cf 3) (cf 4) st 4) (tpY (cf 3) (cf 4) st 4) 4
/-- a joint behind t ticks of the go of a row -/
def sbR (r : Nat → Int64) (t : Nat) (j : Nat) : Int := mvS (r (51 + j)).toInt ((r (55 + j)).toInt - (r (51 + j)).toInt) (min (gnN (pN (r 60)) (pN (r 61)) (pN (r 59)) t) (pN (r 62))) (pN (r 62))
def nxR (r : Nat → Int64) (j : Nat) : Int64 := Int64.ofInt (sbR r (pN (r 63) + 1) j)
def absL (x : Int64) : Int64 := if x < 0 then -x else x
def goesOnR (cf : Nat → Nat → Int32) (r : Nat → Int64) : Nat → Int64 :=
  if barC cf (fun j => (nxR r j).toInt32) = true then errsR (cf 0 12) 2 (up1 r 63 (r 63 + 1))
  else if r 47 - 1 = 0 then overR (up1 (setn (setn (up1 r 63 (r 63 + 1)) 0 (nxR r) 4) 64 (fun j => r (64 + j) + absL (nxR r j - r j)) 4) 47 (r 47 - 1))
  else up1 (setn (setn (up1 r 63 (r 63 + 1)) 0 (nxR r) 4) 64 (fun j => r (64 + j) + absL (nxR r j - r j)) 4) 47 (r 47 - 1)
def isN (x : Int64) (m : Nat) : Prop := x = lN (pN x) ∧ pN x ≤ m
/-- a go under way -/
def MoR (r : Nat → Int64) : Prop := isN (r 59) 2000000 ∧ isN (r 62) 2000000 ∧ 0 < pN (r 62) ∧ r 60 = lN (pN (r 60)) ∧ r 61 = lN (pN (r 61)) ∧ mB (pN (r 60)) (pN (r 61)) ∧ r 63 = lN (pN (r 63)) ∧ r 47 = lN (pN (r 47)) ∧ pN (r 63) + pN (r 47) = pN (r 59) ∧ 0 < pN (r 47) ∧ ∀ j, j < 4 → (r (51 + j)).toInt.natAbs ≤ 1000000 ∧ (r (55 + j)).toInt.natAbs ≤ 1000000
/-- kinds and lengths -/
def CfA (cf : Nat → Nat → Int32) : Prop := ∀ j, j < 4 → (cf 3 j = 0 ∨ cf 3 j = 1) ∧ (cf 4 j).toInt.natAbs ≤ 1000
theorem okA_of {cf : Nat → Nat → Int32} {st : Nat → Int32} (h : CfA cf) (h2 : ∀ j, j < 4 → (st j).toInt.natAbs ≤ 1000000) : okA (cf 3) (cf 4) st := fun j hj => ⟨(h j hj).1, (h j hj).2, h2 j hj⟩
theorem sb_ok {r : Nat → Int64} (h : MoR r) {t j : Nat} (hj : j < 4) : (sbR r t j).natAbs ≤ 1000000 := by
  have f := h.2.2.2.2.2.2.2.2.2.2 j hj
  have := mv_btw (fr := (r (51 + j)).toInt) (dl := (r (55 + j)).toInt - (r (51 + j)).toInt) (show min (gnN (pN (r 60)) (pN (r 61)) (pN (r 59)) t) (pN (r 62)) ≤ pN (r 62) from Nat.min_le_right _ _)
  unfold sbR
  omega
theorem nx_i {r : Nat → Int64} (h : MoR r) {j : Nat} (hj : j < 4) : (nxR r j).toInt = sbR r (pN (r 63) + 1) j ∧ (nxR r j).toInt32.toInt = sbR r (pN (r 63) + 1) j ∧ nxR r j = (nxR r j).toInt32.toInt64 := by
  have b := sb_ok h (t := pN (r 63) + 1) hj
  have e1 : (nxR r j).toInt = sbR r (pN (r 63) + 1) j := ofI64 (by omega) (by omega)
  have e2 : (nxR r j).toInt32.toInt = sbR r (pN (r 63) + 1) j := by rw [l_i (by rw [e1]; omega) (by rw [e1]; omega), e1]
  exact ⟨e1, e2, i64x (by rw [i_l, e1, e2])⟩
theorem hrdn {r : Nat → Int64} {f : Nat → Int64} {i y : Nat} {v : Int64} (hi : i ≤ y) (hy : y ≠ 63) : setn (up1 r 63 v) 0 f i y = r y := by
  rw [setn_o (by omega), up1_k hy]
/-- what the states were, put -/
def wasW (w : Wd) (a : Nat) (r : Nat → Int64) (i : Nat) : Wd := dW w (wI w) (ua (wJ w) (a + 21) (setn (wJ w (a + 21)) 0 r i)) (wD w)
theorem was_0 (w : Wd) (a : Nat) (r : Nat → Int64) : wasW w a r 0 = w := by
  unfold wasW
  rw [setn_0, ua_self, dW_self]
theorem was_1 {w : Wd} {a i : Nat} {r R : Nat → Int64} {v : Int64} {x : Int32} (hx : x.toNatClampNeg = i) (hv : v = r i) : sJ (sRow (wasW w a r i) a R) (a + 21) x.toNatClampNeg v = sRow (wasW w a r (i + 1)) a R := by
  have hs := setn_1 (wJ w (a + 21)) 0 r i hv
  rw [Nat.zero_add] at hs
  rw [hx, sRow_cj (by omega), dW_J]
  show sRow (dW w (wI w) (up2 (ua (wJ w) (a + 21) (setn (wJ w (a + 21)) 0 r i)) (a + 21) i v) (wD w)) a R = _
  rw [up2_ua, ua_s, ua_ua, hs]
  rfl
theorem was_r {w : Wd} {a i n : Nat} {r R : Nat → Int64} (h : i < n) : wJ (sRow (wasW w a r n) a R) (a + 21) i = r i := by
  rw [sRow_o (by omega)]
  show ua (wJ w) (a + 21) (setn (wJ w (a + 21)) 0 r n) (a + 21) i = r i
  rw [ua_s, setn_i (j := i) (by omega) h]
theorem RS_was (w : Wd) (a : Nat) (r : Nat → Int64) (n : Nat) (x y : UInt64) : RS a w (tipW (wasW w a r n) a 20 x y) := ⟨ua (wJ w) (a + 21) (setn (wJ w (a + 21)) 0 r n), up2 (up2 (wD w) a 20 x) a 21 y, rfl, fun p _ _ _ p4 _ => ua_a p4, fun p p1 => by rw [up2_f p1, up2_f p1]⟩
-- a go goes on
set_option maxRecDepth 100000 in
set_option maxHeartbeats 4000000 in
theorem ct_X10_goesOn (l : Launch) (E : EE) (w : Wd) (a : Nat) (r : Nat → Int64) (hlo : E.2.2 ≤ wN (sRow w a r)) (hL : LayR w a) (hm : MoR r) (hc : CfA (cfW w a)) : Ct l E yX10_goesOn cX10_goesOn 4 none ({ frames := 3, cells := 0, slots := 0, locals := 91 } : Room) [.ref a] (sRow w a r) 0 0 (fun q w2 => q = none ∧ ∃ w3, RS a w w3 ∧ w2 = sRow w3 a (goesOnR (cfW w a) r)) := by
  refine ct_in (il := il_X10_goesOn) (by decide) dk_X10_goesOn (Nat.le_of_ble_eq_true rfl) hlo ?_
  intro X h hq

  obtain ⟨h59, h62, hw0, h60, h61, hmb, h63, h47, hsum, hl0, hft⟩ := id hm
  have hk1 : r 63 + 1 = lN (pN (r 63) + 1) := by rw [h63, lN_1, ← h63]
  obtain ⟨r1, hr1⟩ : ∃ r1, r1 = up1 r 63 (r 63 + 1) := ⟨_, rfl⟩
  have hnx : ∀ j, nxR r j = Int64.ofInt (mvS (r (51 + j)).toInt ((r (55 + j)).toInt - (r (51 + j)).toInt) (min (gnN (pN (r 60)) (pN (r 61)) (pN (r 59)) (pN (r 63) + 1)) (pN (r 62))) (pN (r 62))) := fun j => rfl
  have hn63 : ∀ i y, i ≤ y → y ≠ 63 → setn r1 0 (nxR r) i y = r y := fun i y h1 h2 => by rw [hr1]; exact hrdn h1 h2
  have h163 : ∀ i, i ≤ 4 → setn r1 0 (nxR r) i 63 = r 63 + 1 := fun i h => by rw [setn_o (by omega), hr1, up1_s]
  -- behind isBarred
  have k106 : ∀ w3, RS a w w3 → wI w3 = wI w → wJ w3 = wJ (wasW w a r 4) → G X 0 0 106 (lf [(0, .ref a)]) [.int (bI (barC (cfW w a) (fun j => (nxR r j).toInt32) = true))] (sRow w3 a (setn r1 0 (nxR r) 4)) := by
    intro w3 hRS hI3 hJ3
    have hLw := hL
    have hN3 : wN w3 = wN w := by obtain ⟨J, D, rfl, -, -⟩ := hRS; rfl
    have hL : LayR w3 a := by obtain ⟨J, D, rfl, -, -⟩ := hRS; exact hLw
    have hlo3 : E.2.2 ≤ wN w3 := by rw [hN3]; exact hlo
    have hwas : ∀ (R : Nat → Int64) i, i < 4 → wJ (sRow w3 a R) (a + 21) i = r i := fun R i hi => by
      rw [sRow_o (by omega), hJ3, ← sRow_o (w := wasW w a r 4) (a := a) (r := R) (x := a + 21) (k := i) (by omega)]
      exact was_r hi
    -- the states are put back
    have kA : ∀ (d i : Nat), i + d = 4 → barC (cfW w a) (fun j => (nxR r j).toInt32) = true → G X 0 0 111 (lf [(0, .ref a), (1, .int (nI i))]) [] (sRow w3 a (setn (setn r1 0 (nxR r) 4) 0 r i)) := by
      intro d
      induction d with
      | zero =>
        intro i hi hbar
        have hi4 : i = 4 := by omega
        subst hi4
        have hback : setn (setn r1 0 (nxR r) 4) 0 r 4 = r1 := setn_r (fun j hj => by rw [Nat.zero_add, hr1, up1_k (by omega)])
        rw [hback]
        refine g_iload_n h (i := 69) rfl rfl ?_
        refine g_iconst h (i := 70) rfl (v := 4) (by rfl) ?_
        refine g_icmp_ge h (i := 71) 136 rfl rfl (fun c_113 => ?_) (fun c_113 => absurd (by decide : (4 : Int32) ≤ nI 4) c_113)
        refine g_aload_n h (i := 84) rfl rfl ?_
        refine g_iconst h (i := 85) rfl (v := 2) (by rfl) ?_
        refine g_callVn h hq (i := 86) rfl mv_X10_219 cls10 (lk_R hL) (ct_X10_errs l E w3 a r1 2 hlo3 hL) rfl rfl ⟨rfl, rfl, Nat.le_of_ble_eq_true rfl, Nat.le_of_ble_eq_true rfl⟩ (Nat.le_of_ble_eq_true rfl) ⟨Nat.zero_le _, Nat.zero_le _⟩ ?_
        exact g_vret hq h (i := 87) rfl (⟨rfl, w3, hRS, by unfold goesOnR; rw [if_pos hbar, hI3, hr1]; rfl⟩)
      | succ d ih =>
        intro i hid hbar
        have hi : i < 4 := by omega
        have hcl : (nI i).toNatClampNeg = i := nI_clamp (by omega)
        have hvp : vp_in (nI i) 4 := vp_in_nI hi (by omega)
        have hvr : vp_in (nI i) 408 := vp_in_nI (by omega) (by omega)
        have hnge : ¬ (4 : Int32) ≤ nI i := nI_ge (b := 4) hi (by omega)
        have hst : up1 (setn (setn r1 0 (nxR r) 4) 0 r i) i (r i) = setn (setn r1 0 (nxR r) 4) 0 r (i + 1) := by
          have := setn_1 (setn r1 0 (nxR r) 4) 0 r i (v := r i) rfl
          rw [Nat.zero_add] at this
          exact this
        refine g_iload_n h (i := 69) rfl rfl ?_
        refine g_iconst h (i := 70) rfl (v := 4) (by rfl) ?_
        refine g_icmp_ge h (i := 71) 136 rfl rfl (fun c_113 => absurd c_113 hnge) (fun c_113 => ?_)
        refine g_aload_n h (i := 72) rfl rfl ?_
        refine g_getR h (i := 73) rfl fl_X10_7 (fun _ _ _ => rfl) (lk_R hL) (lr_row hL) ?_
        refine g_iconst h (i := 74) rfl (v := 0) (by rfl) ?_
        refine g_iload_n h (i := 75) rfl rfl ?_
        refine g_iadd h (i := 76) rfl ?_
        refine g_eqi (nI i) (Int32.zero_add _) ?_
        refine g_aload_n h (i := 77) rfl rfl ?_
        refine g_getR h (i := 78) rfl fl_X10_74 (fun _ _ _ => rfl) (lk_R hL) (lr_was hL) ?_
        refine g_iload_n h (i := 79) rfl rfl ?_
        refine g_lald h (i := 80) rfl (lq_was hL) (hvp) ?_
        refine g_eql (r i) (by rw [hcl]; exact hwas _ i hi) ?_
        refine g_last h (i := 81) rfl (lq_row hL) (hvr) ?_
        refine g_w _ (sRow_ux _ _ _ _ (n := i) (hcl)) ?_
        refine g_w (sRow w3 a (setn (setn r1 0 (nxR r) 4) 0 r (i + 1))) (by rw [hst]) ?_
        refine g_iinc h (i := 82) rfl rfl (dv := 1) (by rfl) ?_
        refine g_goto h (i := 83) 111 rfl rfl ?_
        exact g_lv [(0, .ref a), (1, .int (nI (i + 1)))] ⟨rfl, congrArg (fun z => some (Value.int z)) (nI_1 i), trivial⟩ (ih (i + 1) (by omega) hbar)
    -- the travel
    obtain ⟨tv, htv⟩ : ∃ tv : Nat → Int64, tv = fun j => r (64 + j) + absL (nxR r j - r j) := ⟨_, rfl⟩
    obtain ⟨r2, hr2⟩ : ∃ r2, r2 = setn r1 0 (nxR r) 4 := ⟨_, rfl⟩
    have kB : ∀ (d i : Nat), i + d = 4 → ¬ barC (cfW w a) (fun j => (nxR r j).toInt32) = true → G X 0 0 144 (lf [(0, .ref a), (1, .int (nI i))]) [] (sRow w3 a (setn r2 64 tv i)) := by
      intro d
      induction d with
      | zero =>
        intro i hi hbar
        have hi4 : i = 4 := by omega
        subst hi4
        have e47 : setn r2 64 tv 4 47 = r 47 := by rw [setn_o (by omega), hr2]; exact hn63 4 47 (by omega) (by omega)
        refine g_iload_n h (i := 90) rfl rfl ?_
        refine g_iconst h (i := 91) rfl (v := 4) (by rfl) ?_
        refine g_icmp_ge h (i := 92) 195 rfl rfl (fun c_146 => ?_) (fun c_146 => absurd (by decide : (4 : Int32) ≤ nI 4) c_146)
        refine g_aload_n h (i := 124) rfl rfl ?_
        refine g_getR h (i := 125) rfl fl_X10_7 (fun _ _ _ => rfl) (lk_R hL) (lr_row hL) ?_
        refine g_bipush h (i := 126) rfl (v := 47) (by rfl) ?_
        refine g_dup2 h (i := 127) rfl rfl rfl ?_
        refine g_lald h (i := 128) rfl (lq_row hL) (vpD (by decide)) ?_
        refine g_eql _ (sRow_jx _ _ _ (n := 47) (by rfl)) ?_
        refine g_eql (r 47) e47 ?_
        refine g_lconst h (i := 129) rfl (v := 1) (by rfl) ?_
        refine g_lsub h (i := 130) rfl ?_
        refine g_last h (i := 131) rfl (lq_row hL) (vpD (by decide)) ?_
        refine g_w _ (sRow_ux _ _ _ _ (n := 47) (by rfl)) ?_
        refine g_aload_n h (i := 132) rfl rfl ?_
        refine g_getR h (i := 133) rfl fl_X10_7 (fun _ _ _ => rfl) (lk_R hL) (lr_row hL) ?_
        refine g_bipush h (i := 134) rfl (v := 47) (by rfl) ?_
        refine g_lald h (i := 135) rfl (lq_row hL) (vpD (by decide)) ?_
        refine g_eql _ (sRow_jx _ _ _ (n := 47) (by rfl)) ?_
        refine g_eql (r 47 - 1) (up1_s _ _ _) ?_
        refine g_lconst h (i := 136) rfl (v := 0) (by rfl) ?_
        refine g_lcmp h (i := 137) rfl ?_
        refine g_if_ne h (i := 138) 222 rfl rfl (fun c_215 => ?_) (fun c_215 => ?_)
        · skip
          exact g_vret hq h (i := 141) rfl (⟨rfl, w3, hRS, by unfold goesOnR; rw [if_neg hbar, if_neg (fun q => c_215 ((lg_cmp_eq _ _).mpr q)), ← htv, ← hr1, ← hr2]⟩)
        · skip
          refine g_aload_n h (i := 139) rfl rfl ?_
          refine g_callVn h hq (i := 140) rfl mv_X10_223 cls10 (lk_R hL) (ct_X10_over l E w3 a _ hlo3 hL) rfl rfl ⟨rfl, rfl, Nat.le_of_ble_eq_true rfl, Nat.le_of_ble_eq_true rfl⟩ (Nat.le_of_ble_eq_true rfl) ⟨Nat.zero_le _, Nat.zero_le _⟩ ?_
          exact g_vret hq h (i := 141) rfl (⟨rfl, w3, hRS, by unfold goesOnR; rw [if_neg hbar, if_pos ((lg_cmp_eq _ _).mp c_215), ← htv, ← hr1, ← hr2]⟩)
      | succ d ih =>
        intro i hid hbar
        have hi : i < 4 := by omega
        have hcl : (nI i).toNatClampNeg = i := nI_clamp (by omega)
        have hvp : vp_in (nI i) 4 := vp_in_nI hi (by omega)
        have hvr : vp_in (nI i) 408 := vp_in_nI (by omega) (by omega)
        have hnge : ¬ (4 : Int32) ≤ nI i := nI_ge (b := 4) hi (by omega)
        have er : setn r2 64 tv i i = nxR r i := by rw [setn_o (by omega), hr2, setn_i (j := i) (by omega) hi]
        have et : setn r2 64 tv i (64 + i) = r (64 + i) := by rw [setn_o (by omega), hr2]; exact hn63 4 (64 + i) (by omega) (by omega)
        have hx : (64 : Int32) + nI i = nI (64 + i) := nI_add 64 i
        have hs1 := setn_1 r2 64 tv i (v := r (64 + i) + absL (nxR r i - r i)) (by rw [htv])
        have k187 : ∀ v : Int64, v = absL (nxR r i - r i) → G X 0 0 187 (lf [(0, .ref a), (1, .int (nI i))]) [.long v, .long (r (64 + i)), .int (nI (64 + i)), .ref (a + 1)] (sRow w3 a (setn r2 64 tv i)) := by
          intro v hv
          refine g_eql (absL (nxR r i - r i)) hv ?_
          refine g_ladd h (i := 120) rfl ?_
          refine g_last h (i := 121) rfl (lq_row hL) (vp_in_nI (by omega) (by omega)) ?_
          refine g_w _ (sRow_ux _ _ _ _ (n := 64 + i) (nI_clamp (by omega))) ?_
          refine g_w (sRow w3 a (setn r2 64 tv (i + 1))) (by rw [hs1]) ?_
          refine g_iinc h (i := 122) rfl rfl (dv := 1) (by rfl) ?_
          refine g_goto h (i := 123) 144 rfl rfl ?_
          exact g_lv [(0, .ref a), (1, .int (nI (i + 1)))] ⟨rfl, congrArg (fun z => some (Value.int z)) (nI_1 i), trivial⟩ (ih (i + 1) (by omega) hbar)
        refine g_iload_n h (i := 90) rfl rfl ?_
        refine g_iconst h (i := 91) rfl (v := 4) (by rfl) ?_
        refine g_icmp_ge h (i := 92) 195 rfl rfl (fun c_146 => absurd c_146 hnge) (fun c_146 => ?_)
        refine g_aload_n h (i := 93) rfl rfl ?_
        refine g_getR h (i := 94) rfl fl_X10_7 (fun _ _ _ => rfl) (lk_R hL) (lr_row hL) ?_
        refine g_iconst h (i := 95) rfl (v := 0) (by rfl) ?_
        refine g_iload_n h (i := 96) rfl rfl ?_
        refine g_iadd h (i := 97) rfl ?_
        refine g_eqi (nI i) (Int32.zero_add _) ?_
        refine g_lald h (i := 98) rfl (lq_row hL) (hvr) ?_
        refine g_eql _ (sRow_jx _ _ _ (n := i) (hcl)) ?_
        refine g_eql (nxR r i) er ?_
        refine g_aload_n h (i := 99) rfl rfl ?_
        refine g_getR h (i := 100) rfl fl_X10_74 (fun _ _ _ => rfl) (lk_R hL) (lr_was hL) ?_
        refine g_iload_n h (i := 101) rfl rfl ?_
        refine g_lald h (i := 102) rfl (lq_was hL) (hvp) ?_
        refine g_eql (r i) (by rw [hcl]; exact hwas _ i hi) ?_
        refine g_lsub h (i := 103) rfl ?_
        refine g_lstore_n h (i := 104) rfl hq rfl ?_
        refine g_aload_n h (i := 105) rfl rfl ?_
        refine g_getR h (i := 106) rfl fl_X10_7 (fun _ _ _ => rfl) (lk_R hL) (lr_row hL) ?_
        refine g_bipush h (i := 107) rfl (v := 64) (by rfl) ?_
        refine g_iload_n h (i := 108) rfl rfl ?_
        refine g_iadd h (i := 109) rfl ?_
        refine g_eqi (nI (64 + i)) hx ?_
        refine g_dup2 h (i := 110) rfl rfl rfl ?_
        refine g_lald h (i := 111) rfl (lq_row hL) (vp_in_nI (by omega) (by omega)) ?_
        refine g_eql _ (sRow_jx _ _ _ (n := 64 + i) (nI_clamp (by omega))) ?_
        refine g_eql (r (64 + i)) et ?_
        refine g_lload_n h (i := 112) rfl rfl ?_
        refine g_lconst h (i := 113) rfl (v := 0) (by rfl) ?_
        refine g_lcmp h (i := 114) rfl ?_
        refine g_if_ge h (i := 115) 186 rfl rfl (fun c_178 => ?_) (fun c_178 => ?_)
        · skip
          refine g_lload_n h (i := 119) rfl rfl ?_
          exact g_lv [(0, .ref a), (1, .int (nI i))] ⟨rfl, rfl, trivial⟩ (k187 _ (if_neg (i64nlt.mpr ((lg_cmp_ge _ _).mp c_178))).symm)
        · skip
          refine g_lload_n h (i := 116) rfl rfl ?_
          refine g_lneg h (i := 117) rfl ?_
          refine g_goto h (i := 118) 187 rfl rfl ?_
          exact g_lv [(0, .ref a), (1, .int (nI i))] ⟨rfl, rfl, trivial⟩ (k187 _ (if_pos (i64nl.mp (fun q => c_178 ((lg_cmp_ge _ _).mpr q)))).symm)
    refine g_if_eq h (i := 66) 142 rfl rfl (fun c_106 => ?_) (fun c_106 => ?_)
    · skip
      refine g_iconst h (i := 88) rfl (v := 0) (by rfl) ?_
      refine g_istore_n h (i := 89) rfl hq rfl ?_
      exact g_lv [(0, .ref a), (1, .int (nI 0))] ⟨rfl, rfl, trivial⟩ (by have := kB 4 0 (by omega) (bI_0.mp c_106); rw [setn_0, hr2] at this; exact this)
    · skip
      refine g_iconst h (i := 67) rfl (v := 0) (by rfl) ?_
      refine g_istore_n h (i := 68) rfl hq rfl ?_
      exact g_lv [(0, .ref a), (1, .int (nI 0))] ⟨rfl, rfl, trivial⟩ (by have := kA 4 0 (by omega) (bI_1.mp c_106); rw [setn_0] at this; exact this)
  -- the states are put
  have key : ∀ (d i : Nat), i + d = 4 → G X 0 0 13 (lf [(0, .ref a), (1, .int (nI i))]) [] (sRow (wasW w a r i) a (setn r1 0 (nxR r) i)) := by
    intro d
    induction d with
    | zero =>
      intro i hi
      have hi4 : i = 4 := by omega
      subst hi4
      have hbar := ct_X10_isBarred l E (wasW w a r 4) a (setn r1 0 (nxR r) 4) (fun j => (nxR r j).toInt32) hlo hL (fun j hj => by rw [setn_i (j := j) (by omega) hj]; exact (nx_i hm hj).2.2) (okA_of (cf := cfW w a) hc (fun j hj => by rw [(nx_i hm hj).2.1]; exact sb_ok hm hj))
      refine g_iload_n h (i := 10) rfl rfl ?_
      refine g_iconst h (i := 11) rfl (v := 4) (by rfl) ?_
      refine g_icmp_ge h (i := 12) 102 rfl rfl (fun c_15 => ?_) (fun c_15 => absurd (by decide : (4 : Int32) ≤ nI 4) c_15)
      refine g_aload_n h (i := 64) rfl rfl ?_
      refine g_callVx h hq (i := 65) rfl mv_X10_216 cls10 (lk_R hL) (hbar) rfl rfl ⟨rfl, rfl, Nat.le_of_ble_eq_true rfl, Nat.le_of_ble_eq_true rfl⟩ (Nat.le_of_ble_eq_true rfl) ⟨Nat.zero_le _, Nat.zero_le _⟩ ?_
      exact g_lv [(0, .ref a)] ⟨rfl, trivial⟩ (k106 _ (RS_was w a r 4 _ _) rfl rfl)
    | succ d ih =>
      intro i hid
      have hi : i < 4 := by omega
      have hcl : (nI i).toNatClampNeg = i := nI_clamp (by omega)
      have hvp : vp_in (nI i) 4 := vp_in_nI hi (by omega)
      have hvr : vp_in (nI i) 408 := vp_in_nI (by omega) (by omega)
      have hnge : ¬ (4 : Int32) ≤ nI i := nI_ge (b := 4) hi (by omega)
      have e51 : setn r1 0 (nxR r) i (51 + i) = r (51 + i) := hn63 i _ (by omega) (by omega)
      have e55 : setn r1 0 (nxR r) i (55 + i) = r (55 + i) := hn63 i _ (by omega) (by omega)
      have ei : setn r1 0 (nxR r) i i = r i := hn63 i _ (by omega) (by omega)
      have hs1 := setn_1 r1 0 (nxR r) i (v := nxR r i) rfl
      rw [Nat.zero_add] at hs1
      obtain ⟨f1, f2⟩ := hft i hi
      have hsb := ct_X10_stateBehind l E (sRow (wasW w a r (i + 1)) a (setn r1 0 (nxR r) i)) (r (51 + i)) (r (55 + i)) (pN (r 60)) (pN (r 61)) (pN (r 59)) (pN (r 62)) (pN (r 63) + 1) hlo hmb (by have := h59.2; omega) (by omega) hw0 (by have := h62.2; omega) f1 f2
      refine g_iload_n h (i := 10) rfl rfl ?_
      refine g_iconst h (i := 11) rfl (v := 4) (by rfl) ?_
      refine g_icmp_ge h (i := 12) 102 rfl rfl (fun c_15 => absurd c_15 hnge) (fun c_15 => ?_)
      refine g_aload_n h (i := 13) rfl rfl ?_
      refine g_getR h (i := 14) rfl fl_X10_74 (fun _ _ _ => rfl) (lk_R hL) (lr_was hL) ?_
      refine g_iload_n h (i := 15) rfl rfl ?_
      refine g_aload_n h (i := 16) rfl rfl ?_
      refine g_getR h (i := 17) rfl fl_X10_7 (fun _ _ _ => rfl) (lk_R hL) (lr_row hL) ?_
      refine g_iconst h (i := 18) rfl (v := 0) (by rfl) ?_
      refine g_iload_n h (i := 19) rfl rfl ?_
      refine g_iadd h (i := 20) rfl ?_
      refine g_eqi (nI i) (Int32.zero_add _) ?_
      refine g_lald h (i := 21) rfl (lq_row hL) (hvr) ?_
      refine g_eql _ (sRow_jx _ _ _ (n := i) (hcl)) ?_
      refine g_eql (r i) ei ?_
      refine g_last h (i := 22) rfl (lq_was hL) (hvp) ?_
      refine g_w (sRow (wasW w a r (i + 1)) a (setn r1 0 (nxR r) i)) (was_1 hcl rfl) ?_
      refine g_aload_n h (i := 23) rfl rfl ?_
      refine g_getR h (i := 24) rfl fl_X10_7 (fun _ _ _ => rfl) (lk_R hL) (lr_row hL) ?_
      refine g_iconst h (i := 25) rfl (v := 0) (by rfl) ?_
      refine g_iload_n h (i := 26) rfl rfl ?_
      refine g_iadd h (i := 27) rfl ?_
      refine g_eqi (nI i) (Int32.zero_add _) ?_
      refine g_aload_n h (i := 28) rfl rfl ?_
      refine g_getR h (i := 29) rfl fl_X10_7 (fun _ _ _ => rfl) (lk_R hL) (lr_row hL) ?_
      refine g_bipush h (i := 30) rfl (v := 51) (by rfl) ?_
      refine g_iload_n h (i := 31) rfl rfl ?_
      refine g_iadd h (i := 32) rfl ?_
      refine g_eqi (nI (51 + i)) (nI_add 51 i) ?_
      refine g_lald h (i := 33) rfl (lq_row hL) (vp_in_nI (by omega) (by omega)) ?_
      refine g_eql _ (sRow_jx _ _ _ (n := 51 + i) (nI_clamp (by omega))) ?_
      refine g_eql (r (51 + i)) (e51) ?_
      refine g_aload_n h (i := 34) rfl rfl ?_
      refine g_getR h (i := 35) rfl fl_X10_7 (fun _ _ _ => rfl) (lk_R hL) (lr_row hL) ?_
      refine g_bipush h (i := 36) rfl (v := 55) (by rfl) ?_
      refine g_iload_n h (i := 37) rfl rfl ?_
      refine g_iadd h (i := 38) rfl ?_
      refine g_eqi (nI (55 + i)) (nI_add 55 i) ?_
      refine g_lald h (i := 39) rfl (lq_row hL) (vp_in_nI (by omega) (by omega)) ?_
      refine g_eql _ (sRow_jx _ _ _ (n := 55 + i) (nI_clamp (by omega))) ?_
      refine g_eql (r (55 + i)) (e55) ?_
      refine g_aload_n h (i := 40) rfl rfl ?_
      refine g_getR h (i := 41) rfl fl_X10_7 (fun _ _ _ => rfl) (lk_R hL) (lr_row hL) ?_
      refine g_bipush h (i := 42) rfl (v := 60) (by rfl) ?_
      refine g_lald h (i := 43) rfl (lq_row hL) (vpD (by decide)) ?_
      refine g_eql _ (sRow_jx _ _ _ (n := 60) (by rfl)) ?_
      refine g_eql (lN (pN (r 60))) ((hn63 i 60 (by omega) (by omega)).trans h60) ?_
      refine g_aload_n h (i := 44) rfl rfl ?_
      refine g_getR h (i := 45) rfl fl_X10_7 (fun _ _ _ => rfl) (lk_R hL) (lr_row hL) ?_
      refine g_bipush h (i := 46) rfl (v := 61) (by rfl) ?_
      refine g_lald h (i := 47) rfl (lq_row hL) (vpD (by decide)) ?_
      refine g_eql _ (sRow_jx _ _ _ (n := 61) (by rfl)) ?_
      refine g_eql (lN (pN (r 61))) ((hn63 i 61 (by omega) (by omega)).trans h61) ?_
      refine g_aload_n h (i := 48) rfl rfl ?_
      refine g_getR h (i := 49) rfl fl_X10_7 (fun _ _ _ => rfl) (lk_R hL) (lr_row hL) ?_
      refine g_bipush h (i := 50) rfl (v := 59) (by rfl) ?_
      refine g_lald h (i := 51) rfl (lq_row hL) (vpD (by decide)) ?_
      refine g_eql _ (sRow_jx _ _ _ (n := 59) (by rfl)) ?_
      refine g_eql (lN (pN (r 59))) ((hn63 i 59 (by omega) (by omega)).trans h59.1) ?_
      refine g_aload_n h (i := 52) rfl rfl ?_
      refine g_getR h (i := 53) rfl fl_X10_7 (fun _ _ _ => rfl) (lk_R hL) (lr_row hL) ?_
      refine g_bipush h (i := 54) rfl (v := 62) (by rfl) ?_
      refine g_lald h (i := 55) rfl (lq_row hL) (vpD (by decide)) ?_
      refine g_eql _ (sRow_jx _ _ _ (n := 62) (by rfl)) ?_
      refine g_eql (lN (pN (r 62))) ((hn63 i 62 (by omega) (by omega)).trans h62.1) ?_
      refine g_aload_n h (i := 56) rfl rfl ?_
      refine g_getR h (i := 57) rfl fl_X10_7 (fun _ _ _ => rfl) (lk_R hL) (lr_row hL) ?_
      refine g_bipush h (i := 58) rfl (v := 63) (by rfl) ?_
      refine g_lald h (i := 59) rfl (lq_row hL) (vpD (by decide)) ?_
      refine g_eql _ (sRow_jx _ _ _ (n := 63) (by rfl)) ?_
      refine g_eql (lN (pN (r 63) + 1)) ((h163 i (by omega)).trans hk1) ?_
      refine g_callSx h hq (i := 60) rfl ms_X10_200 (hsb) rfl rfl ⟨rfl, rfl, Nat.le_of_ble_eq_true rfl, Nat.le_of_ble_eq_true rfl⟩ (Nat.le_of_ble_eq_true rfl) ⟨Nat.zero_le _, Nat.zero_le _⟩ ?_
      refine g_eql (nxR r i) (hnx i).symm ?_
      refine g_last h (i := 61) rfl (lq_row hL) (hvr) ?_
      refine g_w _ (sRow_ux _ _ _ _ (n := i) (hcl)) ?_
      refine g_w (sRow (wasW w a r (i + 1)) a (setn r1 0 (nxR r) (i + 1))) (by rw [hs1]) ?_
      refine g_iinc h (i := 62) rfl rfl (dv := 1) (by rfl) ?_
      refine g_goto h (i := 63) 13 rfl rfl ?_
      exact g_lv [(0, .ref a), (1, .int (nI (i + 1)))] ⟨rfl, congrArg (fun z => some (Value.int z)) (nI_1 i), trivial⟩ (ih (i + 1) (by omega))
  refine g_aload_n h (i := 0) rfl rfl ?_
  refine g_getR h (i := 1) rfl fl_X10_7 (fun _ _ _ => rfl) (lk_R hL) (lr_row hL) ?_
  refine g_bipush h (i := 2) rfl (v := 63) (by rfl) ?_
  refine g_dup2 h (i := 3) rfl rfl rfl ?_
  refine g_lald h (i := 4) rfl (lq_row hL) (vpD (by decide)) ?_
  refine g_eql _ (sRow_jx _ _ _ (n := 63) (by rfl)) ?_
  refine g_lconst h (i := 5) rfl (v := 1) (by rfl) ?_
  refine g_ladd h (i := 6) rfl ?_
  refine g_last h (i := 7) rfl (lq_row hL) (vpD (by decide)) ?_
  refine g_w _ (sRow_ux _ _ _ _ (n := 63) (by rfl)) ?_
  refine g_iconst h (i := 8) rfl (v := 0) (by rfl) ?_
  refine g_istore_n h (i := 9) rfl hq rfl ?_
  exact g_lv [(0, .ref a), (1, .int (nI 0))] ⟨rfl, rfl, trivial⟩ (by have := key 4 0 (by omega); rw [was_0, setn_0, hr1] at this; exact this)
