theorem in_swap (a b : Int) : compare b a = (compare a b).swap := by
  rcases Int.lt_trichotomy a b with h | h | h
  · rw [Int.compare_eq_lt.mpr h, Int.compare_eq_gt.mpr h]; rfl
  · rw [h, Int.compare_eq_eq.mpr rfl]; rfl
  · rw [Int.compare_eq_gt.mpr h, Int.compare_eq_lt.mpr h]; rfl
theorem dc_swap (a b : UInt64) : FP.dcmp b a = (FP.dcmp a b).map Ordering.swap := by
  rw [fk_dcmp, fk_dcmp]
  generalize fk a = x
  generalize fk b = y
  rcases x with _ | s | ⟨s, c, q⟩ <;> rcases y with _ | s2 | ⟨s2, c2, q2⟩
  all_goals first | rfl | skip
  all_goals simp only [FP.Core.order, Option.map]
  all_goals first | exact congrArg some (in_swap _ _) | (rw [Int.min_comm q2 q]; exact congrArg some (in_swap _ _))
/-- at most, of doubles -/
abbrev dLe (a b : UInt64) : Prop := FP.dcmp a b = some .lt ∨ FP.dcmp a b = some .eq
theorem cg_pos (a b : UInt64) : 0 < Op.cmpValue (FP.dcmp a b) .g ↔ ¬ dLe a b := by
  unfold dLe
  rcases hc : FP.dcmp a b with _ | o
  · exact ⟨fun _ q => (by rcases q with q | q <;> cases q), fun _ => by decide⟩
  · cases o <;> simp [Op.cmpValue]
theorem cl_neg (a b : UInt64) : Op.cmpValue (FP.dcmp b a) .l < 0 ↔ ¬ dLe a b := by
  unfold dLe
  have e := dc_swap a b
  rw [e]
  rcases hc : FP.dcmp a b with _ | o
  · exact ⟨fun _ q => (by rcases q with q | q <;> cases q), fun _ => by decide⟩
  · cases o <;> simp [Op.cmpValue, Ordering.swap]
theorem cg_n {a b : UInt64} (h : ¬ 0 < Op.cmpValue (FP.dcmp a b) .g) : dLe a b := Decidable.not_not.mp (fun q => h ((cg_pos a b).mpr q))
theorem cl_n {a b : UInt64} (h : ¬ Op.cmpValue (FP.dcmp b a) .l < 0) : dLe a b := Decidable.not_not.mp (fun q => h ((cl_neg a b).mpr q))
/-- the point in the box -/
abbrev inB (x y : UInt64) (x0 y0 x1 y1 : Int32) : Prop := dLe (FP.i2d x0) x ∧ dLe x (FP.i2d x1) ∧ dLe (FP.i2d y0) y ∧ dLe y (FP.i2d y1)
/-- in one of the first n boxes -/
def barB (ib bx : Nat → Int32) (x y : UInt64) : Nat → Bool
  | 0 => false
  | k + 1 => barB ib bx x y k || (decide (ib k ≠ 0) && decide (inB x y (bx (4 * k)) (bx (4 * k + 1)) (bx (4 * k + 2)) (bx (4 * k + 3))))
theorem bar_t {ib bx : Nat → Int32} {x y : UInt64} {k n : Nat} (hk : k < n) (h : ib k ≠ 0) (h2 : inB x y (bx (4 * k)) (bx (4 * k + 1)) (bx (4 * k + 2)) (bx (4 * k + 3))) : barB ib bx x y n = true := by
  induction n with
  | zero => omega
  | succ n ih =>
    unfold barB
    by_cases e : k = n
    · subst e; rw [decide_eq_true h, decide_eq_true h2]; simp
    · rw [ih (by omega)]; rfl
theorem bar_s {ib bx : Nat → Int32} {x y : UInt64} {k : Nat} (h : barB ib bx x y k = false) (h2 : ¬ (ib k ≠ 0 ∧ inB x y (bx (4 * k)) (bx (4 * k + 1)) (bx (4 * k + 2)) (bx (4 * k + 3)))) : barB ib bx x y (k + 1) = false := by
  unfold barB
  rw [h, Bool.false_or, ← Bool.decide_and]
  exact decide_eq_false h2
theorem nI_mul4 {k : Nat} : (4 : Int32) * nI k = nI (4 * k) := pk_mul 4 k
-- the tip in a box
set_option maxRecDepth 100000 in
set_option maxHeartbeats 4000000 in
theorem ct_X8_isIn (l : Launch) (E : EE) (w : Wd) (t : Nat) (x0 y0 x1 y1 : Int32) (hlo : E.2.2 ≤ wN w) (hT : wK w t = some (.inl 8)) : Ct l E yX8_isIn cX8_isIn 5 (some .boolean) ({ frames := 0, cells := 0, slots := 0, locals := 0 } : Room) [.ref t, .int x0, .int y0, .int x1, .int y1] w 0 0 (Px (some (.int (bI (inB (wD w t 0) (wD w t 1) x0 y0 x1 y1)))) w) := by
  refine ct_in (il := il_X8_isIn) (by decide) dk_X8_isIn (Nat.le_of_ble_eq_true rfl) hlo ?_
  intro X h hq

  refine g_iload_n h (i := 0) rfl rfl ?_
  refine g_i2d h (i := 1) rfl ?_
  refine g_aload_n h (i := 2) rfl rfl ?_
  refine g_getD h (i := 3) rfl fl_X8_9 (fun _ _ _ => rfl) hT ?_
  refine g_dcmp h (i := 4) rfl ?_
  refine g_if_gt h (i := 5) 45 rfl rfl (fun c_7 => ?_) (fun c_7 => ?_)
  · skip
    refine g_iconst h (i := 26) rfl (v := 0) (by rfl) ?_
    exact g_zret hq h (i := 27) rfl (rfl) (⟨rF (fun q => (cg_pos _ _).mp c_7 q.1), rfl⟩)
  · skip
    refine g_aload_n h (i := 6) rfl rfl ?_
    refine g_getD h (i := 7) rfl fl_X8_9 (fun _ _ _ => rfl) hT ?_
    refine g_iload_n h (i := 8) rfl rfl ?_
    refine g_i2d h (i := 9) rfl ?_
    refine g_dcmp h (i := 10) rfl ?_
    refine g_if_gt h (i := 11) 45 rfl rfl (fun c_17 => ?_) (fun c_17 => ?_)
    · skip
      refine g_iconst h (i := 26) rfl (v := 0) (by rfl) ?_
      exact g_zret hq h (i := 27) rfl (rfl) (⟨rF (fun q => (cg_pos _ _).mp c_17 q.2.1), rfl⟩)
    · skip
      refine g_iload_n h (i := 12) rfl rfl ?_
      refine g_i2d h (i := 13) rfl ?_
      refine g_aload_n h (i := 14) rfl rfl ?_
      refine g_getD h (i := 15) rfl fl_X8_15 (fun _ _ _ => rfl) hT ?_
      refine g_dcmp h (i := 16) rfl ?_
      refine g_if_gt h (i := 17) 45 rfl rfl (fun c_27 => ?_) (fun c_27 => ?_)
      · skip
        refine g_iconst h (i := 26) rfl (v := 0) (by rfl) ?_
        exact g_zret hq h (i := 27) rfl (rfl) (⟨rF (fun q => (cg_pos _ _).mp c_27 q.2.2.1), rfl⟩)
      · skip
        refine g_aload_n h (i := 18) rfl rfl ?_
        refine g_getD h (i := 19) rfl fl_X8_15 (fun _ _ _ => rfl) hT ?_
        refine g_iload h (i := 20) rfl rfl ?_
        refine g_i2d h (i := 21) rfl ?_
        refine g_dcmp h (i := 22) rfl ?_
        refine g_if_gt h (i := 23) 45 rfl rfl (fun c_38 => ?_) (fun c_38 => ?_)
        · skip
          refine g_iconst h (i := 26) rfl (v := 0) (by rfl) ?_
          exact g_zret hq h (i := 27) rfl (rfl) (⟨rF (fun q => (cg_pos _ _).mp c_38 q.2.2.2), rfl⟩)
        · skip
          refine g_iconst h (i := 24) rfl (v := 1) (by rfl) ?_
          refine g_goto h (i := 25) 46 rfl rfl ?_
          exact g_zret hq h (i := 27) rfl (rfl) (⟨rT ⟨cg_n c_7, cg_n c_17, cg_n c_27, cg_n c_38⟩, rfl⟩)
-- a box holds the tip
set_option maxRecDepth 100000 in
set_option maxHeartbeats 4000000 in
theorem ct_X0_holds (l : Launch) (E : EE) (w : Wd) (b t : Nat) (hlo : E.2.2 ≤ wN w) (hB : wK w b = some (.inl 0)) (hT : wK w t = some (.inl 8)) : Ct l E yX0_holds cX0_holds 2 (some .boolean) ({ frames := 1, cells := 0, slots := 0, locals := 24 } : Room) [.ref b, .ref t] w 0 0 (Px (some (.int (bI (wI w b 0 ≠ 0 ∧ inB (wD w t 0) (wD w t 1) (wI w b 1) (wI w b 2) (wI w b 3) (wI w b 4))))) w) := by
  refine ct_in (il := il_X0_holds) (by decide) dk_X0_holds (Nat.le_of_ble_eq_true rfl) hlo ?_
  intro X h hq

  refine g_aload_n h (i := 0) rfl rfl ?_
  refine g_getI h (i := 1) rfl fl_X0_7 (fun _ _ _ => rfl) hB ?_
  refine g_if_eq h (i := 2) 34 rfl rfl (fun c_4 => ?_) (fun c_4 => ?_)
  · skip
    refine g_iconst h (i := 16) rfl (v := 0) (by rfl) ?_
    exact g_zret hq h (i := 17) rfl (rfl) (⟨rF (fun q => q.1 c_4), rfl⟩)
  · skip
    refine g_aload_n h (i := 3) rfl rfl ?_
    refine g_aload_n h (i := 4) rfl rfl ?_
    refine g_getI h (i := 5) rfl fl_X0_13 (fun _ _ _ => rfl) hB ?_
    refine g_aload_n h (i := 6) rfl rfl ?_
    refine g_getI h (i := 7) rfl fl_X0_17 (fun _ _ _ => rfl) hB ?_
    refine g_aload_n h (i := 8) rfl rfl ?_
    refine g_getI h (i := 9) rfl fl_X0_20 (fun _ _ _ => rfl) hB ?_
    refine g_aload_n h (i := 10) rfl rfl ?_
    refine g_getI h (i := 11) rfl fl_X0_23 (fun _ _ _ => rfl) hB ?_
    refine g_callVx h hq (i := 12) rfl mv_X0_26 cls8 hT (ct_X8_isIn l E w t _ _ _ _ hlo hT) rfl rfl ⟨rfl, rfl, Nat.le_of_ble_eq_true rfl, Nat.le_of_ble_eq_true rfl⟩ (Nat.le_of_ble_eq_true rfl) ⟨Nat.zero_le _, Nat.zero_le _⟩ ?_
    refine g_if_eq h (i := 13) 34 rfl rfl (fun c_27 => ?_) (fun c_27 => ?_)
    · skip
      refine g_iconst h (i := 16) rfl (v := 0) (by rfl) ?_
      exact g_zret hq h (i := 17) rfl (rfl) (⟨rF (fun q => (bI_0.mp c_27) q.2), rfl⟩)
    · skip
      refine g_iconst h (i := 14) rfl (v := 1) (by rfl) ?_
      refine g_goto h (i := 15) 35 rfl rfl ?_
      exact g_zret hq h (i := 17) rfl (rfl) (⟨rT ⟨c_4, bI_1.mp c_27⟩, rfl⟩)
-- the tip in a box
set_option maxRecDepth 100000 in
set_option maxHeartbeats 4000000 in
theorem ct_X10_isIn (l : Launch) (E : EE) (w : Wd) (a k : Nat) (hlo : E.2.2 ≤ wN w) (hL : LayR w a) (hk : k < 4) : Ct l E yX10_isIn cX10_isIn 2 (some .boolean) ({ frames := 0, cells := 0, slots := 0, locals := 0 } : Room) [.ref a, .int (nI k)] w 0 0 (Px (some (.int (bI (inB (wD w a 20) (wD w a 21) (wI w (a + 10) (4 * k)) (wI w (a + 10) (4 * k + 1)) (wI w (a + 10) (4 * k + 2)) (wI w (a + 10) (4 * k + 3)))))) w) := by
  refine ct_in (il := il_X10_isIn) (by decide) dk_X10_isIn (Nat.le_of_ble_eq_true rfl) hlo ?_
  intro X h hq

  refine g_aload_n h (i := 0) rfl rfl ?_
  refine g_getD h (i := 1) rfl fl_X10_132 (fun _ _ _ => rfl) (lk_R hL) ?_
  refine g_aload_n h (i := 2) rfl rfl ?_
  refine g_getR h (i := 3) rfl fl_X10_41 (fun _ _ _ => rfl) (lk_R hL) (lr_box hL) ?_
  refine g_iconst h (i := 4) rfl (v := 4) (by rfl) ?_
  refine g_iload_n h (i := 5) rfl rfl ?_
  refine g_imul h (i := 6) rfl ?_
  refine g_eqi (nI (4 * k)) (nI_mul4) ?_
  refine g_iald h (i := 7) rfl (lq_box hL) (vp_in_nI (by omega) (by omega)) ?_
  refine g_eqi (wI w (a + 10) (4 * k)) (by rw [nI_clamp (by omega)]) ?_
  refine g_i2d h (i := 8) rfl ?_
  refine g_dcmp h (i := 9) rfl ?_
  refine g_if_lt h (i := 10) 78 rfl rfl (fun c_14 => ?_) (fun c_14 => ?_)
  · skip
    refine g_iconst h (i := 52) rfl (v := 0) (by rfl) ?_
    exact g_zret hq h (i := 53) rfl (rfl) (⟨rF (fun q => (cl_neg _ _).mp c_14 q.1), rfl⟩)
  · skip
    refine g_aload_n h (i := 11) rfl rfl ?_
    refine g_getD h (i := 12) rfl fl_X10_132 (fun _ _ _ => rfl) (lk_R hL) ?_
    refine g_aload_n h (i := 13) rfl rfl ?_
    refine g_getR h (i := 14) rfl fl_X10_41 (fun _ _ _ => rfl) (lk_R hL) (lr_box hL) ?_
    refine g_iconst h (i := 15) rfl (v := 4) (by rfl) ?_
    refine g_iload_n h (i := 16) rfl rfl ?_
    refine g_imul h (i := 17) rfl ?_
    refine g_iconst h (i := 18) rfl (v := 2) (by rfl) ?_
    refine g_iadd h (i := 19) rfl ?_
    refine g_eqi (nI (4 * k + 2)) (by rw [nI_mul4]; exact nI_add (4 * k) 2) ?_
    refine g_iald h (i := 20) rfl (lq_box hL) (vp_in_nI (by omega) (by omega)) ?_
    refine g_eqi (wI w (a + 10) (4 * k + 2)) (by rw [nI_clamp (by omega)]) ?_
    refine g_i2d h (i := 21) rfl ?_
    refine g_dcmp h (i := 22) rfl ?_
    refine g_if_gt h (i := 23) 78 rfl rfl (fun c_33 => ?_) (fun c_33 => ?_)
    · skip
      refine g_iconst h (i := 52) rfl (v := 0) (by rfl) ?_
      exact g_zret hq h (i := 53) rfl (rfl) (⟨rF (fun q => (cg_pos _ _).mp c_33 q.2.1), rfl⟩)
    · skip
      refine g_aload_n h (i := 24) rfl rfl ?_
      refine g_getD h (i := 25) rfl fl_X10_136 (fun _ _ _ => rfl) (lk_R hL) ?_
      refine g_aload_n h (i := 26) rfl rfl ?_
      refine g_getR h (i := 27) rfl fl_X10_41 (fun _ _ _ => rfl) (lk_R hL) (lr_box hL) ?_
      refine g_iconst h (i := 28) rfl (v := 4) (by rfl) ?_
      refine g_iload_n h (i := 29) rfl rfl ?_
      refine g_imul h (i := 30) rfl ?_
      refine g_iconst h (i := 31) rfl (v := 1) (by rfl) ?_
      refine g_iadd h (i := 32) rfl ?_
      refine g_eqi (nI (4 * k + 1)) (by rw [nI_mul4]; exact nI_add (4 * k) 1) ?_
      refine g_iald h (i := 33) rfl (lq_box hL) (vp_in_nI (by omega) (by omega)) ?_
      refine g_eqi (wI w (a + 10) (4 * k + 1)) (by rw [nI_clamp (by omega)]) ?_
      refine g_i2d h (i := 34) rfl ?_
      refine g_dcmp h (i := 35) rfl ?_
      refine g_if_lt h (i := 36) 78 rfl rfl (fun c_52 => ?_) (fun c_52 => ?_)
      · skip
        refine g_iconst h (i := 52) rfl (v := 0) (by rfl) ?_
        exact g_zret hq h (i := 53) rfl (rfl) (⟨rF (fun q => (cl_neg _ _).mp c_52 q.2.2.1), rfl⟩)
      · skip
        refine g_aload_n h (i := 37) rfl rfl ?_
        refine g_getD h (i := 38) rfl fl_X10_136 (fun _ _ _ => rfl) (lk_R hL) ?_
        refine g_aload_n h (i := 39) rfl rfl ?_
        refine g_getR h (i := 40) rfl fl_X10_41 (fun _ _ _ => rfl) (lk_R hL) (lr_box hL) ?_
        refine g_iconst h (i := 41) rfl (v := 4) (by rfl) ?_
        refine g_iload_n h (i := 42) rfl rfl ?_
        refine g_imul h (i := 43) rfl ?_
        refine g_iconst h (i := 44) rfl (v := 3) (by rfl) ?_
        refine g_iadd h (i := 45) rfl ?_
        refine g_eqi (nI (4 * k + 3)) (by rw [nI_mul4]; exact nI_add (4 * k) 3) ?_
        refine g_iald h (i := 46) rfl (lq_box hL) (vp_in_nI (by omega) (by omega)) ?_
        refine g_eqi (wI w (a + 10) (4 * k + 3)) (by rw [nI_clamp (by omega)]) ?_
        refine g_i2d h (i := 47) rfl ?_
        refine g_dcmp h (i := 48) rfl ?_
        refine g_if_gt h (i := 49) 78 rfl rfl (fun c_71 => ?_) (fun c_71 => ?_)
        · skip
          refine g_iconst h (i := 52) rfl (v := 0) (by rfl) ?_
          exact g_zret hq h (i := 53) rfl (rfl) (⟨rF (fun q => (cg_pos _ _).mp c_71 q.2.2.2), rfl⟩)
        · skip
          refine g_iconst h (i := 50) rfl (v := 1) (by rfl) ?_
          refine g_goto h (i := 51) 79 rfl rfl ?_
          exact g_zret hq h (i := 53) rfl (rfl) (⟨rT ⟨cl_n c_14, cg_n c_33, cl_n c_52, cg_n c_71⟩, rfl⟩)
theorem tipW_sRow (w : Wd) (a : Nat) (r : Nat → Int64) (x y : UInt64) : tipW (sRow w a r) a 20 x y = sRow (tipW w a 20 x y) a r := rfl
-- the tip in one of the boxes
set_option maxRecDepth 100000 in
set_option maxHeartbeats 4000000 in
theorem ct_X10_isBarred (l : Launch) (E : EE) (w : Wd) (a : Nat) (r : Nat → Int64) (st : Nat → Int32) (hlo : E.2.2 ≤ wN (sRow w a r)) (hL : LayR w a) (hs : ∀ j, j < 4 → r j = (st j).toInt64) (hA : okA (wI w (a + 3)) (wI w (a + 4)) st) : Ct l E yX10_isBarred cX10_isBarred 3 (some .boolean) ({ frames := 2, cells := 0, slots := 0, locals := 56 } : Room) [.ref a] (sRow w a r) 0 0 (Px (some (.int (bI (barB (wI w (a + 9)) (wI w (a + 10)) (tpX (wI w (a + 3)) (wI w (a + 4)) st 4) (tpY (wI w (a + 3)) (wI w (a + 4)) st 4) 4 = true)))) (sRow (tipW w a 20 (tpX (wI w (a + 3)) (wI w (a + 4)) st 4) (tpY (wI w (a + 3)) (wI w (a + 4)) st 4)) a r)) := by
  refine ct_in (il := il_X10_isBarred) (by decide) dk_X10_isBarred (Nat.le_of_ble_eq_true rfl) hlo ?_
  intro X h hq

  obtain ⟨x, hx⟩ : ∃ x, x = tpX (wI w (a + 3)) (wI w (a + 4)) st 4 := ⟨_, rfl⟩
  obtain ⟨y, hy⟩ : ∃ y, y = tpY (wI w (a + 3)) (wI w (a + 4)) st 4 := ⟨_, rfl⟩
  have ht := ct_X10_findTip l E (sRow w a r) a (a + 1) (a + 4) (a + 3) (wI w (a + 3)) (wI w (a + 4)) st hlo hL.1 (lr_row hL) (lr_slides hL) (lr_length hL) (lq_row hL) (lq_slides hL) (lq_length hL) (fun _ _ => rfl) (fun _ _ => rfl) (fun j hj => (sRow_j w a j r).trans (hs j hj)) hA
  rw [tipW_sRow, ← hx, ← hy] at ht
  rw [← hx, ← hy] at hq
  obtain ⟨B, hB⟩ : ∃ B, B = barB (wI w (a + 9)) (wI w (a + 10)) x y := ⟨_, rfl⟩
  rw [← hB] at hq
  have hlo' : E.2.2 ≤ wN (sRow (tipW w a 20 x y) a r) := hlo
  have key : ∀ (d i : Nat), i + d = 4 → G X 0 0 8 (lf [(0, .ref a), (1, .int (bI (B i = true))), (2, .int (nI i))]) [] (sRow (tipW w a 20 x y) a r) := by
    intro d
    induction d with
    | zero =>
      intro i hi
      have hi4 : i = 4 := by omega
      subst hi4
      refine g_iload_n h (i := 6) rfl rfl ?_
      refine g_iconst h (i := 7) rfl (v := 4) (by rfl) ?_
      refine g_icmp_ge h (i := 8) 46 rfl rfl (fun c_10 => ?_) (fun c_10 => absurd (by decide : (4 : Int32) ≤ nI 4) c_10)
      refine g_iload_n h (i := 26) rfl rfl ?_
      exact g_zret hq h (i := 27) rfl (bI_n _) (⟨rfl, rfl⟩)
    | succ d ih =>
      intro i hid
      have hi : i < 4 := by omega
      have hcl : (nI i).toNatClampNeg = i := nI_clamp (by omega)
      have hvp : vp_in (nI i) 4 := vp_in_nI hi (by omega)
      have hnge : ¬ (4 : Int32) ≤ nI i := nI_ge (b := 4) hi (by omega)
      have hS : B (i + 1) = true ↔ (B i = true ∨ (wI w (a + 9) i ≠ 0 ∧ inB x y (wI w (a + 10) (4 * i)) (wI w (a + 10) (4 * i + 1)) (wI w (a + 10) (4 * i + 2)) (wI w (a + 10) (4 * i + 3)))) := by
        rw [hB]
        show (barB (wI w (a + 9)) (wI w (a + 10)) x y i || (decide (wI w (a + 9) i ≠ 0) && decide (inB x y (wI w (a + 10) (4 * i)) (wI w (a + 10) (4 * i + 1)) (wI w (a + 10) (4 * i + 2)) (wI w (a + 10) (4 * i + 3))))) = true ↔ _
        rw [Bool.or_eq_true, Bool.and_eq_true, decide_eq_true_iff, decide_eq_true_iff]
      have hin := ct_X10_isIn l E (sRow (tipW w a 20 x y) a r) a i hlo' hL hi
      rw [show wD (sRow (tipW w a 20 x y) a r) a 20 = x from tip_x _ _ _ _ _, show wD (sRow (tipW w a 20 x y) a r) a 21 = y from tip_y _ _ _ _ _] at hin
      have k39 : ∀ v : Int32, v = bI (B (i + 1) = true) → G X 0 0 39 (lf [(0, .ref a), (2, .int (nI i))]) [.int v] (sRow (tipW w a 20 x y) a r) := by
        intro v hv
        refine g_istore_n h (i := 23) rfl hq rfl ?_
        refine g_iinc h (i := 24) rfl rfl (dv := 1) (by rfl) ?_
        refine g_goto h (i := 25) 8 rfl rfl ?_
        exact g_lv [(0, .ref a), (1, .int (bI (B (i + 1) = true))), (2, .int (nI (i + 1)))] ⟨rfl, congrArg (fun z => some (Value.int z)) hv, congrArg (fun z => some (Value.int z)) (nI_1 i), trivial⟩ (ih (i + 1) (by omega))
      refine g_iload_n h (i := 6) rfl rfl ?_
      refine g_iconst h (i := 7) rfl (v := 4) (by rfl) ?_
      refine g_icmp_ge h (i := 8) 46 rfl rfl (fun c_10 => absurd c_10 hnge) (fun c_10 => ?_)
      refine g_iload_n h (i := 9) rfl rfl ?_
      refine g_if_ne h (i := 10) 34 rfl rfl (fun c_14 => ?_) (fun c_14 => ?_)
      · skip
        refine g_iconst h (i := 20) rfl (v := 1) (by rfl) ?_
        refine g_goto h (i := 21) 39 rfl rfl ?_
        exact g_lv [(0, .ref a), (2, .int (nI i))] ⟨rfl, rfl, trivial⟩ (k39 _ ((bI_t (hS.mpr (Or.inl (bI_1.mp c_14)))).symm))
      · skip
        refine g_aload_n h (i := 11) rfl rfl ?_
        refine g_getR h (i := 12) rfl fl_X10_38 (fun _ _ _ => rfl) (lk_R hL) (lr_isBox hL) ?_
        refine g_iload_n h (i := 13) rfl rfl ?_
        refine g_zald h (i := 14) rfl (lq_isBox hL) (hvp) ?_
        refine g_eqi (wI w (a + 9) i) (by rw [hcl]; rfl) ?_
        refine g_if_eq h (i := 15) 38 rfl rfl (fun c_23 => ?_) (fun c_23 => ?_)
        · skip
          refine g_iconst h (i := 22) rfl (v := 0) (by rfl) ?_
          exact g_lv [(0, .ref a), (2, .int (nI i))] ⟨rfl, rfl, trivial⟩ (k39 _ ((bI_f (fun q => (hS.mp q).elim (bI_0.mp c_14) (fun z => z.1 c_23))).symm))
        · skip
          refine g_aload_n h (i := 16) rfl rfl ?_
          refine g_iload_n h (i := 17) rfl rfl ?_
          refine g_callVx h hq (i := 18) rfl mv_X10_162 cls10 (lk_R hL) (hin) rfl rfl ⟨rfl, rfl, Nat.le_of_ble_eq_true rfl, Nat.le_of_ble_eq_true rfl⟩ (Nat.le_of_ble_eq_true rfl) ⟨Nat.zero_le _, Nat.zero_le _⟩ ?_
          refine g_if_eq h (i := 19) 38 rfl rfl (fun c_31 => ?_) (fun c_31 => ?_)
          · skip
            refine g_iconst h (i := 22) rfl (v := 0) (by rfl) ?_
            exact g_lv [(0, .ref a), (2, .int (nI i))] ⟨rfl, rfl, trivial⟩ (k39 _ ((bI_f (fun q => (hS.mp q).elim (bI_0.mp c_14) (fun z => bI_0.mp c_31 z.2))).symm))
          · skip
            refine g_iconst h (i := 20) rfl (v := 1) (by rfl) ?_
            refine g_goto h (i := 21) 39 rfl rfl ?_
            exact g_lv [(0, .ref a), (2, .int (nI i))] ⟨rfl, rfl, trivial⟩ (k39 _ ((bI_t (hS.mpr (Or.inr ⟨c_23, bI_1.mp c_31⟩))).symm))
  refine g_aload_n h (i := 0) rfl rfl ?_
  refine g_callVn h hq (i := 1) rfl mv_X10_155 cls10 (lk_R hL) (ht) rfl rfl ⟨rfl, rfl, Nat.le_of_ble_eq_true rfl, Nat.le_of_ble_eq_true rfl⟩ (Nat.le_of_ble_eq_true rfl) ⟨Nat.zero_le _, Nat.zero_le _⟩ ?_
  refine g_iconst h (i := 2) rfl (v := 0) (by rfl) ?_
  refine g_istore_n h (i := 3) rfl hq rfl ?_
  refine g_iconst h (i := 4) rfl (v := 0) (by rfl) ?_
  refine g_istore_n h (i := 5) rfl hq rfl ?_
  exact g_lv [(0, .ref a), (1, .int (bI (B 0 = true))), (2, .int (nI 0))] ⟨rfl, by rw [hB]; rfl, rfl, trivial⟩ (key 4 0 (by omega))
