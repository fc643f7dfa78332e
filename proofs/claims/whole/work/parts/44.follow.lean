theorem wD_sD (w : Wd) (t k : Nat) (v : UInt64) (a j : Nat) : wD (sD w t k v) a j = if a = t ∧ j = k then v else wD w a j := rfl
/-- a tip's two numbers -/
def tipW (w : Wd) (t k : Nat) (x y : UInt64) : Wd := sD (sD w t k x) t (k + 1) y
theorem tip_x (w : Wd) (t k : Nat) (x y : UInt64) : wD (tipW w t k x y) t k = x := by
  unfold tipW
  rw [wD_sD, if_neg (by omega), wD_sD, if_pos ⟨rfl, rfl⟩]
theorem tip_y (w : Wd) (t k : Nat) (x y : UInt64) : wD (tipW w t k x y) t (k + 1) = y := by
  unfold tipW
  rw [wD_sD, if_pos ⟨rfl, rfl⟩]
theorem tip_y2 (w : Wd) (t k : Nat) (x y x2 : UInt64) : wD (sD (tipW w t k x y) t k x2) t (k + 1) = y := by
  rw [wD_sD, if_neg (by omega), tip_y]
theorem tip_s (w : Wd) (t k : Nat) (x y x2 y2 : UInt64) : sD (sD (tipW w t k x y) t k x2) t (k + 1) y2 = tipW w t k x2 y2 := by
  have e : up2 (up2 (up2 (up2 w.2.2.2.2.2 t k x) t (k + 1) y) t k x2) t (k + 1) y2 = up2 (up2 w.2.2.2.2.2 t k x2) t (k + 1) y2 := by
    funext a j
    unfold up2
    by_cases h : a = t ∧ j = k + 1
    · simp only [if_pos h]
    · simp only [if_neg h]
      by_cases h2 : a = t ∧ j = k
      · simp only [if_pos h2]
      · simp only [if_neg h2]
  exact congrArg (fun f => (w.1, w.2.1, w.2.2.1, w.2.2.2.1, w.2.2.2.2.1, f)) e
theorem tpU_s {kd st : Nat → Int32} {j : Nat} (h : kd j = 1) : tpU kd st (j + 1) = tpU kd st j := if_pos h
theorem tpU_t {kd st : Nat → Int32} {j : Nat} (h : ¬ kd j = 1) : tpU kd st (j + 1) = tpU kd st j + (st j).toInt := if_neg h
theorem tpL_s {kd ln st : Nat → Int32} {j : Nat} (h : kd j = 1) : tpL kd ln st j = FP.dadd (FP.i2d (ln j)) (FP.ddiv (FP.i2d (st j)) 4652007308841189376) := if_pos h
theorem tpL_t {kd ln st : Nat → Int32} {j : Nat} (h : ¬ kd j = 1) : tpL kd ln st j = FP.i2d (ln j) := if_neg h
theorem g_w {X : Cx} {ce sl pc : Nat} {lv : Nat → Option Value} {st : List Value} {w : Wd} (w' : Wd) (e : w = w') (k : G X ce sl pc lv st w') : G X ce sl pc lv st w := by rw [e]; exact k
-- the tip by the joints and the states
set_option maxRecDepth 100000 in
set_option maxHeartbeats 4000000 in
theorem ct_X8_follow (l : Launch) (E : EE) (w : Wd) (t ja sa : Nat) (jo : Nat → Nat) (kd ln st : Nat → Int32) (hlo : E.2.2 ≤ wN w) (hT : wK w t = some (.inl 8)) (hJ : wK w ja = some (.inr (4, 4))) (hS : wK w sa = some (.inr (0, 4))) (hjr : ∀ j, j < 4 → wR w ja j = some (jo j)) (hjk : ∀ j, j < 4 → wK w (jo j) = some (.inl 2)) (hkd : ∀ j, j < 4 → wI w (jo j) 0 = kd j) (hln : ∀ j, j < 4 → wI w (jo j) 1 = ln j) (hst : ∀ j, j < 4 → wI w sa j = st j) (hA : okA kd ln st) : Ct l E yX8_follow cX8_follow 7 none ({ frames := 1, cells := 0, slots := 0, locals := 29 } : Room) [.ref t, .ref ja, .ref sa] w 0 0 (Px none (tipW w t 0 (tpX kd ln st 4) (tpY kd ln st 4))) := by
  refine ct_in (il := il_X8_follow) (by decide) dk_X8_follow (Nat.le_of_ble_eq_true rfl) hlo ?_
  intro X h hq

  have key : ∀ (d i : Nat) (u : Int32), i + d = 4 → u.toInt = tpU kd st i → G X 0 0 15 (lf [(0, .ref t), (1, .ref ja), (2, .ref sa), (3, .int u), (4, .int (nI i))]) [] (tipW w t 0 (tpX kd ln st i) (tpY kd ln st i)) := by
    intro d
    induction d with
    | zero =>
      intro i u hi hu
      have hi4 : i = 4 := by omega
      subst hi4
      refine g_iload h (i := 10) rfl rfl ?_
      refine g_iconst h (i := 11) rfl (v := 4) (by rfl) ?_
      refine g_icmp_ge h (i := 12) 107 rfl rfl (fun c_18 => ?_) (fun c_18 => absurd (by decide : (4 : Int32) ≤ nI 4) c_18)
      exact g_vret hq h (i := 63) rfl (⟨rfl, rfl⟩)
    | succ d ih =>
      intro i u hid hu
      have hi : i < 4 := by omega
      have hcl : (nI i).toNatClampNeg = i := nI_clamp (by omega)
      have hvp : vp_in (nI i) 4 := vp_in_nI hi (by omega)
      have hnge : ¬ (4 : Int32) ≤ nI i := nI_ge (b := 4) hi (by omega)
      have fl := fg_tpL hA hi
      have ul := tpU_lim hA i (by omega)
      have ul2 := tpU_lim hA (i + 1) (by omega)
      have sl := (hA i hi).2.2
      have k66 : ∀ u2 : Int32, u2.toInt = tpU kd st (i + 1) → G X 0 0 66 (lf [(0, .ref t), (1, .ref ja), (2, .ref sa), (3, .int u2), (4, .int (nI i)), (5, .double (tpL kd ln st i))]) [] (tipW w t 0 (tpX kd ln st i) (tpY kd ln st i)) := by
        intro u2 hu2
        have e2 : (u2 + 250000).toInt = tpU kd st (i + 1) + 250000 := by rw [i_add (by rw [show (250000 : Int32).toInt = 250000 by decide]; omega) (by rw [show (250000 : Int32).toInt = 250000 by decide]; omega), hu2]; rfl
        have mx := (fg_tpM hA hi (tpU kd st (i + 1) + 250000)).n64
        have my := (fg_tpM hA hi (tpU kd st (i + 1))).n64
        have ax := (fg_tpX hA (i + 1) (by omega)).1.n64
        have ay := (fg_tpY hA (i + 1) (by omega)).1.n64
        refine g_aload_n h (i := 41) rfl rfl ?_
        refine g_aload_n h (i := 42) rfl rfl ?_
        refine g_getD h (i := 43) rfl fl_X8_9 (fun _ _ _ => rfl) hT ?_
        refine g_eqd (tpX kd ln st i) (tip_x _ _ _ _ _) ?_
        refine g_dload h (i := 44) rfl rfl ?_
        refine g_iload_n h (i := 45) rfl rfl ?_
        refine g_ldc h (i := 46) rfl k_X8_29 ?_
        refine g_iadd h (i := 47) rfl ?_
        refine g_callSx h hq (i := 48) rfl ms_X8_30 (ct_X8_sineOf l E _ _ hlo) rfl rfl ⟨rfl, rfl, Nat.le_of_ble_eq_true rfl, Nat.le_of_ble_eq_true rfl⟩ (Nat.le_of_ble_eq_true rfl) ⟨Nat.zero_le _, Nat.zero_le _⟩ ?_
        refine g_eqd (sV (tpU kd st (i + 1) + 250000)) (by rw [e2]) ?_
        refine g_dmul h (i := 49) rfl (mx) ?_
        refine g_dadd h (i := 50) rfl (ax) ?_
        refine g_eqd (tpX kd ln st (i + 1)) rfl ?_
        refine g_putD_0 h (i := 51) rfl fl_X8_9 nf_8_0 (fun _ _ _ => rfl) hT (rfl) (by rfl) ?_
        refine g_aload_n h (i := 52) rfl rfl ?_
        refine g_aload_n h (i := 53) rfl rfl ?_
        refine g_getD h (i := 54) rfl fl_X8_15 (fun _ _ _ => rfl) hT ?_
        refine g_eqd (tpY kd ln st i) (tip_y2 _ _ _ _ _ _) ?_
        refine g_dload h (i := 55) rfl rfl ?_
        refine g_iload_n h (i := 56) rfl rfl ?_
        refine g_callSx h hq (i := 57) rfl ms_X8_30 (ct_X8_sineOf l E _ _ hlo) rfl rfl ⟨rfl, rfl, Nat.le_of_ble_eq_true rfl, Nat.le_of_ble_eq_true rfl⟩ (Nat.le_of_ble_eq_true rfl) ⟨Nat.zero_le _, Nat.zero_le _⟩ ?_
        refine g_eqd (sV (tpU kd st (i + 1))) (by rw [hu2]) ?_
        refine g_dmul h (i := 58) rfl (my) ?_
        refine g_dadd h (i := 59) rfl (ay) ?_
        refine g_eqd (tpY kd ln st (i + 1)) rfl ?_
        refine g_putD_0 h (i := 60) rfl fl_X8_15 nf_8_1 (fun _ _ _ => rfl) hT (rfl) (by rfl) ?_
        refine g_w _ (tip_s _ _ 0 _ _ _ _) ?_
        refine g_iinc h (i := 61) rfl rfl (dv := 1) (by rfl) ?_
        refine g_goto h (i := 62) 15 rfl rfl ?_
        exact g_lv [(0, .ref t), (1, .ref ja), (2, .ref sa), (3, .int u2), (4, .int (nI (i + 1)))] ⟨rfl, rfl, rfl, rfl, congrArg (fun z => some (Value.int z)) (nI_1 i), trivial⟩ (ih (i + 1) u2 (by omega) hu2)
      refine g_iload h (i := 10) rfl rfl ?_
      refine g_iconst h (i := 11) rfl (v := 4) (by rfl) ?_
      refine g_icmp_ge h (i := 12) 107 rfl rfl (fun c_18 => absurd c_18 hnge) (fun c_18 => ?_)
      refine g_aload_n h (i := 13) rfl rfl ?_
      refine g_iload h (i := 14) rfl rfl ?_
      refine g_aald h (i := 15) rfl (by decide) hJ (hvp) (by rw [hcl]; exact hjr i hi) ?_
      refine g_getI h (i := 16) rfl fl_X8_18 (fun _ _ _ => rfl) (hjk i hi) ?_
      refine g_eqi (ln i) (hln i hi) ?_
      refine g_i2d h (i := 17) rfl ?_
      refine g_dstore h (i := 18) rfl hq rfl ?_
      refine g_aload_n h (i := 19) rfl rfl ?_
      refine g_iload h (i := 20) rfl rfl ?_
      refine g_aald h (i := 21) rfl (by decide) hJ (hvp) (by rw [hcl]; exact hjr i hi) ?_
      refine g_getI h (i := 22) rfl fl_X8_24 (fun _ _ _ => rfl) (hjk i hi) ?_
      refine g_eqi (kd i) (hkd i hi) ?_
      refine g_iconst h (i := 23) rfl (v := 1) (by rfl) ?_
      refine g_icmp_ne h (i := 24) 59 rfl rfl (fun c_39 => ?_) (fun c_39 => ?_)
      · skip
        refine g_iload_n h (i := 35) rfl rfl ?_
        refine g_aload_n h (i := 36) rfl rfl ?_
        refine g_iload h (i := 37) rfl rfl ?_
        refine g_iald h (i := 38) rfl hS (hvp) ?_
        refine g_eqi (st i) (by rw [hcl]; exact hst i hi) ?_
        refine g_iadd h (i := 39) rfl ?_
        refine g_istore_n h (i := 40) rfl hq rfl ?_
        refine g_lv [(0, .ref t), (1, .ref ja), (2, .ref sa), (3, .int _), (4, .int (nI i)), (5, .double (tpL kd ln st i))] ⟨rfl, rfl, rfl, rfl, rfl, ?_, trivial⟩ (k66 _ ?_)
        · exact congrArg (fun z => some (Value.double z)) (tpL_t c_39).symm
        · rw [tpU_t c_39, ← hu, i_add (by rw [hu]; omega) (by rw [hu]; omega)]
      · skip
        refine g_dload h (i := 25) rfl rfl ?_
        refine g_aload_n h (i := 26) rfl rfl ?_
        refine g_iload h (i := 27) rfl rfl ?_
        refine g_iald h (i := 28) rfl hS (hvp) ?_
        refine g_eqi (st i) (by rw [hcl]; exact hst i hi) ?_
        refine g_i2d h (i := 29) rfl ?_
        refine g_ldc2d h (i := 30) rfl k_X8_27 ?_
        refine g_ddiv h (i := 31) rfl ((fg_div sl).n64) ?_
        refine g_dadd h (i := 32) rfl (by have h9 := fl; rw [tpL_s c_39] at h9; exact h9.n64) ?_
        refine g_dstore h (i := 33) rfl hq rfl ?_
        refine g_goto h (i := 34) 66 rfl rfl ?_
        refine g_lv [(0, .ref t), (1, .ref ja), (2, .ref sa), (3, .int _), (4, .int (nI i)), (5, .double (tpL kd ln st i))] ⟨rfl, rfl, rfl, rfl, rfl, ?_, trivial⟩ (k66 u ?_)
        · exact congrArg (fun z => some (Value.double z)) (tpL_s c_39).symm
        · rw [tpU_s c_39, hu]
  refine g_aload_n h (i := 0) rfl rfl ?_
  refine g_dconst0 h (i := 1) rfl ?_
  refine g_putD_0 h (i := 2) rfl fl_X8_9 nf_8_0 (fun _ _ _ => rfl) hT (rfl) (by rfl) ?_
  refine g_aload_n h (i := 3) rfl rfl ?_
  refine g_dconst0 h (i := 4) rfl ?_
  refine g_putD_0 h (i := 5) rfl fl_X8_15 nf_8_1 (fun _ _ _ => rfl) hT (rfl) (by rfl) ?_
  refine g_iconst h (i := 6) rfl (v := 0) (by rfl) ?_
  refine g_istore_n h (i := 7) rfl hq rfl ?_
  refine g_iconst h (i := 8) rfl (v := 0) (by rfl) ?_
  refine g_istore h (i := 9) rfl hq rfl ?_
  exact g_lv [(0, .ref t), (1, .ref ja), (2, .ref sa), (3, .int 0), (4, .int (nI 0))] ⟨rfl, rfl, rfl, rfl, rfl, trivial⟩ (key 4 0 0 (by omega) (by rfl))
-- the tip by the joints and the states
set_option maxRecDepth 100000 in
set_option maxHeartbeats 4000000 in
theorem ct_X10_findTip (l : Launch) (E : EE) (w : Wd) (b ra la sa : Nat) (kd ln st : Nat → Int32) (hlo : E.2.2 ≤ wN w) (hT : wK w b = some (.inl 10)) (r0 : wR w b 0 = some ra) (r2 : wR w b 2 = some sa) (r3 : wR w b 3 = some la) (kr : wK w ra = some (.inr (2, 408))) (ks : wK w sa = some (.inr (1, 4))) (kl : wK w la = some (.inr (0, 4))) (hkd : ∀ j, j < 4 → wI w sa j = kd j) (hln : ∀ j, j < 4 → wI w la j = ln j) (hst : ∀ j, j < 4 → wJ w ra j = (st j).toInt64) (hA : okA kd ln st) : Ct l E yX10_findTip cX10_findTip 6 none ({ frames := 1, cells := 0, slots := 0, locals := 31 } : Room) [.ref b] w 0 0 (Px none (tipW w b 20 (tpX kd ln st 4) (tpY kd ln st 4))) := by
  refine ct_in (il := il_X10_findTip) (by decide) dk_X10_findTip (Nat.le_of_ble_eq_true rfl) hlo ?_
  intro X h hq

  have key : ∀ (d i : Nat) (u : Int64), i + d = 4 → u.toInt = tpU kd st i → G X 0 0 14 (lf [(0, .ref b), (1, .long u), (3, .int (nI i))]) [] (tipW w b 20 (tpX kd ln st i) (tpY kd ln st i)) := by
    intro d
    induction d with
    | zero =>
      intro i u hi hu
      have hi4 : i = 4 := by omega
      subst hi4
      refine g_iload_n h (i := 10) rfl rfl ?_
      refine g_iconst h (i := 11) rfl (v := 4) (by rfl) ?_
      refine g_icmp_ge h (i := 12) 111 rfl rfl (fun c_16 => ?_) (fun c_16 => absurd (by decide : (4 : Int32) ≤ nI 4) c_16)
      exact g_vret hq h (i := 68) rfl (⟨rfl, rfl⟩)
    | succ d ih =>
      intro i u hid hu
      have hi : i < 4 := by omega
      have hcl : (nI i).toNatClampNeg = i := nI_clamp (by omega)
      have hvp : vp_in (nI i) 4 := vp_in_nI hi (by omega)
      have hnge : ¬ (4 : Int32) ≤ nI i := nI_ge (b := 4) hi (by omega)
      have h0i : (0 : Int32) + nI i = nI i := by rw [Int32.zero_add]
      have hv4 : vp_in (nI i) 408 := vp_in_nI (by omega) (by omega)
      have hrow : wJ w ra (nI i).toNatClampNeg = (st i).toInt64 := by rw [hcl]; exact hst i hi
      have hl2d : FP.l2d (st i).toInt64 = FP.i2d (st i) := l2d_i2d (i_l _)
      have fl := fg_tpL hA hi
      have ul := tpU_lim hA i (by omega)
      have ul2 := tpU_lim hA (i + 1) (by omega)
      have sl := (hA i hi).2.2
      have k69 : ∀ u2 : Int64, u2.toInt = tpU kd st (i + 1) → G X 0 0 69 (lf [(0, .ref b), (1, .long u2), (3, .int (nI i)), (4, .double (tpL kd ln st i))]) [] (tipW w b 20 (tpX kd ln st i) (tpY kd ln st i)) := by
        intro u2 hu2
        have e2 : (u2 + 250000).toInt = tpU kd st (i + 1) + 250000 := by rw [l_add (by rw [show (250000 : Int64).toInt = 250000 by decide]; omega) (by rw [show (250000 : Int64).toInt = 250000 by decide]; omega), hu2]; rfl
        have mx := (fg_tpM hA hi (tpU kd st (i + 1) + 250000)).n64
        have my := (fg_tpM hA hi (tpU kd st (i + 1))).n64
        have ax := (fg_tpX hA (i + 1) (by omega)).1.n64
        have ay := (fg_tpY hA (i + 1) (by omega)).1.n64
        refine g_aload_n h (i := 46) rfl rfl ?_
        refine g_aload_n h (i := 47) rfl rfl ?_
        refine g_getD h (i := 48) rfl fl_X10_132 (fun _ _ _ => rfl) hT ?_
        refine g_eqd (tpX kd ln st i) (tip_x _ _ _ _ _) ?_
        refine g_dload h (i := 49) rfl rfl ?_
        refine g_lload_n h (i := 50) rfl rfl ?_
        refine g_ldc2 h (i := 51) rfl k_X10_104 ?_
        refine g_ladd h (i := 52) rfl ?_
        refine g_callSx h hq (i := 53) rfl ms_X10_141 (ct_X10_sineOf l E _ _ hlo) rfl rfl ⟨rfl, rfl, Nat.le_of_ble_eq_true rfl, Nat.le_of_ble_eq_true rfl⟩ (Nat.le_of_ble_eq_true rfl) ⟨Nat.zero_le _, Nat.zero_le _⟩ ?_
        refine g_eqd (sV (tpU kd st (i + 1) + 250000)) (by rw [e2]) ?_
        refine g_dmul h (i := 54) rfl (mx) ?_
        refine g_dadd h (i := 55) rfl (ax) ?_
        refine g_eqd (tpX kd ln st (i + 1)) rfl ?_
        refine g_putD_0 h (i := 56) rfl fl_X10_132 nf_10_20 (fun _ _ _ => rfl) hT (rfl) (by rfl) ?_
        refine g_aload_n h (i := 57) rfl rfl ?_
        refine g_aload_n h (i := 58) rfl rfl ?_
        refine g_getD h (i := 59) rfl fl_X10_136 (fun _ _ _ => rfl) hT ?_
        refine g_eqd (tpY kd ln st i) (tip_y2 _ _ _ _ _ _) ?_
        refine g_dload h (i := 60) rfl rfl ?_
        refine g_lload_n h (i := 61) rfl rfl ?_
        refine g_callSx h hq (i := 62) rfl ms_X10_141 (ct_X10_sineOf l E _ _ hlo) rfl rfl ⟨rfl, rfl, Nat.le_of_ble_eq_true rfl, Nat.le_of_ble_eq_true rfl⟩ (Nat.le_of_ble_eq_true rfl) ⟨Nat.zero_le _, Nat.zero_le _⟩ ?_
        refine g_eqd (sV (tpU kd st (i + 1))) (by rw [hu2]) ?_
        refine g_dmul h (i := 63) rfl (my) ?_
        refine g_dadd h (i := 64) rfl (ay) ?_
        refine g_eqd (tpY kd ln st (i + 1)) rfl ?_
        refine g_putD_0 h (i := 65) rfl fl_X10_136 nf_10_21 (fun _ _ _ => rfl) hT (rfl) (by rfl) ?_
        refine g_w _ (tip_s _ _ 20 _ _ _ _) ?_
        refine g_iinc h (i := 66) rfl rfl (dv := 1) (by rfl) ?_
        refine g_goto h (i := 67) 14 rfl rfl ?_
        exact g_lv [(0, .ref b), (1, .long u2), (3, .int (nI (i + 1)))] ⟨rfl, rfl, congrArg (fun z => some (Value.int z)) (nI_1 i), trivial⟩ (ih (i + 1) u2 (by omega) hu2)
      refine g_iload_n h (i := 10) rfl rfl ?_
      refine g_iconst h (i := 11) rfl (v := 4) (by rfl) ?_
      refine g_icmp_ge h (i := 12) 111 rfl rfl (fun c_16 => absurd c_16 hnge) (fun c_16 => ?_)
      refine g_aload_n h (i := 13) rfl rfl ?_
      refine g_getR h (i := 14) rfl fl_X10_20 (fun _ _ _ => rfl) hT r3 ?_
      refine g_iload_n h (i := 15) rfl rfl ?_
      refine g_iald h (i := 16) rfl kl (hvp) ?_
      refine g_eqi (ln i) (by rw [hcl]; exact hln i hi) ?_
      refine g_i2d h (i := 17) rfl ?_
      refine g_dstore h (i := 18) rfl hq rfl ?_
      refine g_aload_n h (i := 19) rfl rfl ?_
      refine g_getR h (i := 20) rfl fl_X10_17 (fun _ _ _ => rfl) hT r2 ?_
      refine g_iload_n h (i := 21) rfl rfl ?_
      refine g_zald h (i := 22) rfl ks (hvp) ?_
      refine g_eqi (kd i) (by rw [hcl]; exact hkd i hi) ?_
      refine g_if_eq h (i := 23) 58 rfl rfl (fun c_34 => ?_) (fun c_34 => ?_)
      · skip
        refine g_lload_n h (i := 37) rfl rfl ?_
        refine g_aload_n h (i := 38) rfl rfl ?_
        refine g_getR h (i := 39) rfl fl_X10_7 (fun _ _ _ => rfl) hT r0 ?_
        refine g_iconst h (i := 40) rfl (v := 0) (by rfl) ?_
        refine g_iload_n h (i := 41) rfl rfl ?_
        refine g_iadd h (i := 42) rfl ?_
        refine g_eqi (nI i) h0i ?_
        refine g_lald h (i := 43) rfl kr (hv4) ?_
        refine g_eql (st i).toInt64 hrow ?_
        refine g_ladd h (i := 44) rfl ?_
        refine g_lstore_n h (i := 45) rfl hq rfl ?_
        have c9 : ¬ kd i = 1 := by rw [c_34]; decide
        refine g_lv [(0, .ref b), (1, .long _), (3, .int (nI i)), (4, .double (tpL kd ln st i))] ⟨rfl, rfl, rfl, ?_, trivial⟩ (k69 _ ?_)
        · exact congrArg (fun z => some (Value.double z)) (tpL_t c9).symm
        · rw [tpU_t c9, ← hu, l_add (by rw [hu, i_l]; omega) (by rw [hu, i_l]; omega), i_l]
      · skip
        have c8 : kd i = 1 := ((hA i hi).1.resolve_left c_34)
        refine g_dload h (i := 24) rfl rfl ?_
        refine g_aload_n h (i := 25) rfl rfl ?_
        refine g_getR h (i := 26) rfl fl_X10_7 (fun _ _ _ => rfl) hT r0 ?_
        refine g_iconst h (i := 27) rfl (v := 0) (by rfl) ?_
        refine g_iload_n h (i := 28) rfl rfl ?_
        refine g_iadd h (i := 29) rfl ?_
        refine g_eqi (nI i) h0i ?_
        refine g_lald h (i := 30) rfl kr (hv4) ?_
        refine g_eql (st i).toInt64 hrow ?_
        refine g_l2d h (i := 31) rfl ?_
        refine g_eqd (FP.i2d (st i)) hl2d ?_
        refine g_ldc2d h (i := 32) rfl k_X10_139 ?_
        refine g_ddiv h (i := 33) rfl ((fg_div sl).n64) ?_
        refine g_dadd h (i := 34) rfl (by have h9 := fl; rw [tpL_s c8] at h9; exact h9.n64) ?_
        refine g_dstore h (i := 35) rfl hq rfl ?_
        refine g_goto h (i := 36) 69 rfl rfl ?_
        refine g_lv [(0, .ref b), (1, .long _), (3, .int (nI i)), (4, .double (tpL kd ln st i))] ⟨rfl, rfl, rfl, ?_, trivial⟩ (k69 u ?_)
        · exact congrArg (fun z => some (Value.double z)) (tpL_s c8).symm
        · rw [tpU_s c8, hu]
  refine g_aload_n h (i := 0) rfl rfl ?_
  refine g_dconst0 h (i := 1) rfl ?_
  refine g_putD_0 h (i := 2) rfl fl_X10_132 nf_10_20 (fun _ _ _ => rfl) hT (rfl) (by rfl) ?_
  refine g_aload_n h (i := 3) rfl rfl ?_
  refine g_dconst0 h (i := 4) rfl ?_
  refine g_putD_0 h (i := 5) rfl fl_X10_136 nf_10_21 (fun _ _ _ => rfl) hT (rfl) (by rfl) ?_
  refine g_lconst h (i := 6) rfl (v := 0) (by rfl) ?_
  refine g_lstore_n h (i := 7) rfl hq rfl ?_
  refine g_iconst h (i := 8) rfl (v := 0) (by rfl) ?_
  refine g_istore_n h (i := 9) rfl hq rfl ?_
  exact g_lv [(0, .ref b), (1, .long 0), (3, .int (nI 0))] ⟨rfl, rfl, rfl, trivial⟩ (key 4 0 0 (by omega) (by rfl))
