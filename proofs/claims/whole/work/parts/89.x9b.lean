theorem ct_tipB (l : Launch) (E : EE) {w : Wd} {b : Nat} {cf : Nat → Nat → Int32} {R : Nat → Int64} (hlo : E.2.2 ≤ wN w) (hL : LayB w b) (hB : RepB w b cf R) (hr : FA R) (hc : CfA cf) : Ct l E yX8_follow cX8_follow 7 none ({ frames := 1, cells := 0, slots := 0, locals := 29 } : Room) [.ref (b + 90), .ref (b + 1 + 1), .ref (b + 55 + 1)] w 0 0 (Px none (tipW w (b + 90) 0 (tpC cf R).1 (tpC cf R).2)) := by
  rw [tpC_1, tpC_2]
  exact ct_X8_follow l E w (b + 90) (b + 1 + 1) (b + 55 + 1) (fun j => b + 1 + 14 + j) (cf 3) (cf 4) (fun j => (R j).toInt32) hlo (lk_tip hL) (lk_joints (lb_C hL)) (ln_states (lb_M hL)) (fun j hj => lc_jo (lb_C hL) hj) (fun j hj => lk_jo (lb_C hL) hj) (fun j hj => by rw [Nat.add_assoc (b + 1)]; exact (hB.1.1 j hj).1) (fun j hj => by rw [Nat.add_assoc (b + 1)]; exact (hB.1.1 j hj).2.1) (fun j hj => hB.2.1.2.2.2.2.2.2.2.2.2.2.2.1 j hj) (okA_r hc hr)
theorem tipB_x (w : Wd) (t : Nat) (x y : UInt64) : wD (tipW w t 0 x y) t 0 = x := (up2_k (by decide)).trans (up2_s _ _ _ _)
theorem tipB_y (w : Wd) (t : Nat) (x y : UInt64) : wD (tipW w t 0 x y) t 1 = y := up2_s _ _ _ _
theorem rb_far {b : Nat} {w : Wd} {cf : Nat → Nat → Int32} {R : Nat → Int64} {I : Nat → Nat → Int32} {J : Nat → Nat → Int64} {D : Nat → Nat → UInt64} (h : RepB w b cf R) (hI : ∀ p, ¬ (b + 67 ≤ p ∧ p < b + 91) → I p = wI w p ∧ J p = wJ w p) : RepB (dW w I J D) b cf R := ⟨rc_c h.1 (fun f hf _ => (hI (b + 1 + f) (by omega)).1), rm_c h.2.1 (fun p h1 h2 => (hI p (by omega)).1) (hI _ (by omega)).2 (fun _ _ => rfl), kp_c h.2.2 (fun p hp => hI p (by omega)) rfl (fun _ _ _ => rfl)⟩
-- tip
set_option maxRecDepth 100000 in
set_option maxHeartbeats 4000000 in
theorem ct_X9_tip (l : Launch) (E : EE) (w : Wd) (b : Nat) (cf : Nat → Nat → Int32) (R : Nat → Int64) (what : Int32) (hlo : E.2.2 ≤ wN w) (hL : LayB w b) (hB : RepB w b cf R) (hr : FA R) (hc : CfA cf) : Ct l E yX9_tip cX9_tip 2 (some .long) ({ frames := 2, cells := 0, slots := 0, locals := 55 } : Room) [.ref b, .int what] w 0 0 (fun q w2 => q = some (.long (tiA what cf R)) ∧ BF b w w2 ∧ RepB w2 b cf R ∧ LayB w2 b) := by
  refine ct_in (il := il_X9_tip) (by decide) dk_X9_tip (Nat.le_of_ble_eq_true rfl) hlo ?_
  intro X h hq

  obtain ⟨x, hx⟩ : ∃ x, x = (tpC cf R).1 := ⟨_, rfl⟩
  obtain ⟨z, hz⟩ : ∃ z, z = (tpC cf R).2 := ⟨_, rfl⟩
  have ht := ct_tipB l E hlo hL hB hr hc
  have hfg := tpC_fg hc hr
  rw [← hx, ← hz] at ht hfg
  have e0 : (0 ≤ what ∧ what ≤ 1) → what = 0 → tiA what cf R = x.toInt64 := fun g q => by unfold tiA; rw [if_pos g, if_pos q, hx]
  have e1 : (0 ≤ what ∧ what ≤ 1) → ¬ what = 0 → tiA what cf R = z.toInt64 := fun g q => by unfold tiA; rw [if_pos g, if_neg q, hz]
  have e2 : ¬ (0 ≤ what ∧ what ≤ 1) → tiA what cf R = -1 := fun g => by unfold tiA; rw [if_neg g]
  refine g_iload_n h (i := 0) rfl rfl ?_
  refine g_iconst h (i := 1) rfl (v := 0) (by rfl) ?_
  refine g_iconst h (i := 2) rfl (v := 1) (by rfl) ?_
  refine g_callSx h hq (i := 3) rfl ms_X9_55 (ct_X9_isWithin l E _ what (0) (1) hlo) rfl rfl ⟨rfl, rfl, Nat.le_of_ble_eq_true rfl, Nat.le_of_ble_eq_true rfl⟩ (Nat.le_of_ble_eq_true rfl) ⟨Nat.zero_le _, Nat.zero_le _⟩ ?_
  refine g_if_ne h (i := 4) 13 rfl rfl (fun c_6 => ?_) (fun c_6 => ?_)
  · skip
    refine g_aload_n h (i := 7) rfl rfl ?_
    refine g_getR h (i := 8) rfl fl_X9_47 (fun _ _ _ => rfl) (lb_k hL) (lb_tip hL) ?_
    refine g_aload_n h (i := 9) rfl rfl ?_
    refine g_getR h (i := 10) rfl fl_X9_10 (fun _ _ _ => rfl) (lb_k hL) (lb_cell hL) ?_
    refine g_getR h (i := 11) rfl fl_X9_64 (fun _ _ _ => rfl) (lc_k (lb_C hL)) (lc_joints (lb_C hL)) ?_
    refine g_aload_n h (i := 12) rfl rfl ?_
    refine g_getR h (i := 13) rfl fl_X9_19 (fun _ _ _ => rfl) (lb_k hL) (lb_now hL) ?_
    refine g_getR h (i := 14) rfl fl_X9_85 (fun _ _ _ => rfl) (lk_M (lb_M hL)) (lm_states (lb_M hL)) ?_
    refine g_callVn h hq (i := 15) rfl mv_X9_101 cls8 (lk_tip hL) (ht) rfl rfl ⟨rfl, rfl, Nat.le_of_ble_eq_true rfl, Nat.le_of_ble_eq_true rfl⟩ (Nat.le_of_ble_eq_true rfl) ⟨Nat.zero_le _, Nat.zero_le _⟩ ?_
    refine g_iload_n h (i := 16) rfl rfl ?_
    refine g_if_ne h (i := 17) 48 rfl rfl (fun c_35 => ?_) (fun c_35 => ?_)
    · skip
      refine g_aload_n h (i := 22) rfl rfl ?_
      refine g_getR h (i := 23) rfl fl_X9_47 (fun _ _ _ => rfl) (lb_k hL) (lb_tip hL) ?_
      refine g_getD h (i := 24) rfl fl_X9_109 (fun _ _ _ => rfl) (lk_tip hL) ?_
      refine g_eqd z (tipB_y _ _ _ _) ?_
      refine g_callSx h hq (i := 25) rfl ms_X9_112 (ct_X9_bitsOf l E _ z hlo hfg.2.1 hfg.2.2) rfl rfl ⟨rfl, rfl, Nat.le_of_ble_eq_true rfl, Nat.le_of_ble_eq_true rfl⟩ (Nat.le_of_ble_eq_true rfl) ⟨Nat.zero_le _, Nat.zero_le _⟩ ?_
      exact g_lret hq h (i := 26) rfl (⟨by rw [e1 (bI_1.mp c_6) c_35], bf_tip bf_0, rb_tip hB, hL⟩)
    · skip
      refine g_aload_n h (i := 18) rfl rfl ?_
      refine g_getR h (i := 19) rfl fl_X9_47 (fun _ _ _ => rfl) (lb_k hL) (lb_tip hL) ?_
      refine g_getD h (i := 20) rfl fl_X9_105 (fun _ _ _ => rfl) (lk_tip hL) ?_
      refine g_eqd x (tipB_x _ _ _ _) ?_
      refine g_goto h (i := 21) 55 rfl rfl ?_
      refine g_callSx h hq (i := 25) rfl ms_X9_112 (ct_X9_bitsOf l E _ x hlo hfg.1.1 hfg.1.2) rfl rfl ⟨rfl, rfl, Nat.le_of_ble_eq_true rfl, Nat.le_of_ble_eq_true rfl⟩ (Nat.le_of_ble_eq_true rfl) ⟨Nat.zero_le _, Nat.zero_le _⟩ ?_
      exact g_lret hq h (i := 26) rfl (⟨by rw [e0 (bI_1.mp c_6) c_35], bf_tip bf_0, rb_tip hB, hL⟩)
  · skip
    refine g_ldc2 h (i := 5) rfl k_X9_99 ?_
    exact g_lret hq h (i := 6) rfl (⟨by rw [e2 (bI_0.mp c_6)], bf_0, hB, hL⟩)
-- sine
set_option maxRecDepth 100000 in
set_option maxHeartbeats 4000000 in
theorem ct_X9_sine (l : Launch) (E : EE) (w : Wd) (b : Nat) (cf : Nat → Nat → Int32) (R : Nat → Int64) (u : Int32) (hlo : E.2.2 ≤ wN w) (hL : LayB w b) (hB : RepB w b cf R) (hr : FA R) : Ct l E yX9_sine cX9_sine 2 (some .long) ({ frames := 1, cells := 0, slots := 0, locals := 29 } : Room) [.ref b, .int u] w 0 0 (CS b w (snS u cf R)) := by
  refine ct_in (il := il_X9_sine) (by decide) dk_X9_sine (Nat.le_of_ble_eq_true rfl) hlo ?_
  intro X h hq

  refine g_iload_n h (i := 0) rfl rfl ?_
  refine g_callSx h hq (i := 1) rfl ms_X9_116 (ct_X8_sineOf l E _ u hlo) rfl rfl ⟨rfl, rfl, Nat.le_of_ble_eq_true rfl, Nat.le_of_ble_eq_true rfl⟩ (Nat.le_of_ble_eq_true rfl) ⟨Nat.zero_le _, Nat.zero_le _⟩ ?_
  refine g_callSx h hq (i := 2) rfl ms_X9_112 (ct_X9_bitsOf l E _ (sV u.toInt) hlo ((fg_sV _).1.mono (by omega) (by omega)) (fg_sV _).2) rfl rfl ⟨rfl, rfl, Nat.le_of_ble_eq_true rfl, Nat.le_of_ble_eq_true rfl⟩ (Nat.le_of_ble_eq_true rfl) ⟨Nat.zero_le _, Nat.zero_le _⟩ ?_
  exact g_lret hq h (i := 3) rfl (⟨rfl, bf_0, hB⟩)
-- input
set_option maxRecDepth 100000 in
set_option maxHeartbeats 4000000 in
theorem ct_X9_input (l : Launch) (E : EE) (w : Wd) (b : Nat) (cf : Nat → Nat → Int32) (R : Nat → Int64) (i on : Int32) (hlo : E.2.2 ≤ wN w) (hL : LayB w b) (hB : RepB w b cf R) (hr : FA R) (hon : on = 0 ∨ on = 1) : Ct l E yX9_input cX9_input 3 (some .int) ({ frames := 2, cells := 0, slots := 0, locals := 42 } : Room) [.ref b, .int i, .int on] w 0 0 (CS b w (inS i on cf R)) := by
  refine ct_in (il := il_X9_input) (by decide) dk_X9_input (Nat.le_of_ble_eq_true rfl) hlo ?_
  intro X h hq

  refine g_iload_n h (i := 0) rfl rfl ?_
  refine g_callSx h hq (i := 1) rfl ms_X9_191 (ct_X9_isSignal l E _ i hlo) rfl rfl ⟨rfl, rfl, Nat.le_of_ble_eq_true rfl, Nat.le_of_ble_eq_true rfl⟩ (Nat.le_of_ble_eq_true rfl) ⟨Nat.zero_le _, Nat.zero_le _⟩ ?_
  refine g_if_ne h (i := 2) 10 rfl rfl (fun c_4 => ?_) (fun c_4 => ?_)
  · skip
    refine g_aload_n h (i := 5) rfl rfl ?_
    refine g_getR h (i := 6) rfl fl_X9_19 (fun _ _ _ => rfl) (lb_k hL) (lb_now hL) ?_
    refine g_getR h (i := 7) rfl fl_X9_204 (fun _ _ _ => rfl) (lk_M (lb_M hL)) (lm_inputs (lb_M hL)) ?_
    refine g_iload_n h (i := 8) rfl rfl ?_
    refine g_iload_n h (i := 9) rfl rfl ?_
    refine g_zast h (i := 10) rfl (ln_inputs (lb_M hL)) (jvp (bI_1.mp c_4) (by decide) (by omega)) (by rcases hon with q | q <;> (rw [q]; rfl)) ?_
    refine g_iconst h (i := 11) rfl (v := 1) (by rfl) ?_
    exact g_iret hq h (i := 12) rfl (by
      obtain ⟨hj, hj3⟩ := jx (M := 7) (bI_1.mp c_4) (by decide)
      unfold inS
      rw [if_pos (bI_1.mp c_4)]
      refine ⟨rfl, bf_I bf_0 (by omega), rb_M (f := 3) hB (by omega) (rm_in (k := pI i) hB.2.1 (by omega) ?_) (fun y h1 h2 => up1_k (by omega))⟩
      rcases hon with q | q
      · rw [q]; rfl
      · rw [q]; rfl)
  · skip
    refine g_bipush h (i := 3) rfl (v := -2) (by rfl) ?_
    exact g_iret hq h (i := 4) rfl (by unfold inS; rw [if_neg (bI_0.mp c_4)]; exact ⟨rfl, bf_0, hB⟩)
-- clear
set_option maxRecDepth 100000 in
set_option maxHeartbeats 4000000 in
theorem ct_X9_clear (l : Launch) (E : EE) (w : Wd) (b : Nat) (cf : Nat → Nat → Int32) (R : Nat → Int64) (hlo : E.2.2 ≤ wN w) (hL : LayB w b) (hB : RepB w b cf R) (hr : FA R) : Ct l E yX9_clear cX9_clear 2 (some .int) ({ frames := 1, cells := 0, slots := 0, locals := 20 } : Room) [.ref b] w 0 0 (CS b w (clS cf R)) := by
  refine ct_in (il := il_X9_clear) (by decide) dk_X9_clear (Nat.le_of_ble_eq_true rfl) hlo ?_
  intro X h hq

  refine g_aload_n h (i := 0) rfl rfl ?_
  refine g_callVx h hq (i := 1) rfl mv_X9_60 cls9 (lb_k hL) (ct_X9_isGoing l E w b cf R hlo hL hB hr) rfl rfl ⟨rfl, rfl, Nat.le_of_ble_eq_true rfl, Nat.le_of_ble_eq_true rfl⟩ (Nat.le_of_ble_eq_true rfl) ⟨Nat.zero_le _, Nat.zero_le _⟩ ?_
  refine g_if_eq h (i := 2) 10 rfl rfl (fun c_4 => ?_) (fun c_4 => ?_)
  · skip
    refine g_aload_n h (i := 5) rfl rfl ?_
    refine g_getR h (i := 6) rfl fl_X9_10 (fun _ _ _ => rfl) (lb_k hL) (lb_cell hL) ?_
    refine g_getR h (i := 7) rfl fl_X9_178 (fun _ _ _ => rfl) (lc_k (lb_C hL)) (lc_prog (lb_C hL)) ?_
    refine g_getI h (i := 8) rfl fl_X9_182 (fun _ _ _ => rfl) (lk_prog (lb_C hL)) ?_
    refine g_eqi (cf 0 12) hB.1.2.2.2.1 ?_
    refine g_istore_n h (i := 9) rfl hq rfl ?_
    refine g_aload_n h (i := 10) rfl rfl ?_
    refine g_getR h (i := 11) rfl fl_X9_10 (fun _ _ _ => rfl) (lb_k hL) (lb_cell hL) ?_
    refine g_getR h (i := 12) rfl fl_X9_178 (fun _ _ _ => rfl) (lc_k (lb_C hL)) (lc_prog (lb_C hL)) ?_
    refine g_iconst h (i := 13) rfl (v := 0) (by rfl) ?_
    refine g_putI_0 h (i := 14) rfl fl_X9_182 nf_6_3 (fun _ _ _ => rfl) (lk_prog (lb_C hL)) (rfl) (by rfl) ?_
    refine g_iload_n h (i := 15) rfl rfl ?_
    exact g_iret hq h (i := 16) rfl (by unfold clS; rw [if_neg (bI_0.mp c_4)]; exact ⟨rfl, bf_I bf_0 (by omega), rb_pc hB⟩)
  · skip
    refine g_bipush h (i := 3) rfl (v := -3) (by rfl) ?_
    exact g_iret hq h (i := 4) rfl (by unfold clS; rw [if_pos (bI_1.mp c_4)]; exact ⟨rfl, bf_0, hB⟩)
-- add a line
set_option maxRecDepth 100000 in
set_option maxHeartbeats 4000000 in
theorem ct_X6_add (l : Launch) (E : EE) (w : Wd) (p : Nat) (o x z : Int32) (hlo : E.2.2 ≤ wN w) (hk : wK w p = some (.inl 6)) (hl : LayA w p tabP) (hv : vp_in (wI w p 3) 60) : Ct l E yX6_add cX6_add 4 (some .int) ({ frames := 0, cells := 0, slots := 0, locals := 0 } : Room) [.ref p, .int o, .int x, .int z] w 0 0 (Px (some (.int (wI w p 3))) (sI (sI (sI (sI w (p + 1) (pI (wI w p 3)) o) (p + 2) (pI (wI w p 3)) x) (p + 3) (pI (wI w p 3)) z) p 3 (wI w p 3 + 1))) := by
  refine ct_in (il := il_X6_add) (by decide) dk_X6_add (Nat.le_of_ble_eq_true rfl) hlo ?_
  intro X h hq

  refine g_aload_n h (i := 0) rfl rfl ?_
  refine g_getR h (i := 1) rfl fl_X6_9 (fun _ _ _ => rfl) hk (lp_r hl (f := 0) (a := 1) (t := 0) (n := 60) (by decide)) ?_
  refine g_aload_n h (i := 2) rfl rfl ?_
  refine g_getI h (i := 3) rfl fl_X6_21 (fun _ _ _ => rfl) hk ?_
  refine g_iload_n h (i := 4) rfl rfl ?_
  refine g_iast h (i := 5) rfl (lp_k hl (f := 0) (a := 1) (t := 0) (n := 60) (by decide)) (hv) ?_
  refine g_aload_n h (i := 6) rfl rfl ?_
  refine g_getR h (i := 7) rfl fl_X6_15 (fun _ _ _ => rfl) hk (lp_r hl (f := 1) (a := 2) (t := 0) (n := 60) (by decide)) ?_
  refine g_aload_n h (i := 8) rfl rfl ?_
  refine g_getI h (i := 9) rfl fl_X6_21 (fun _ _ _ => rfl) hk ?_
  refine g_eqi (wI w p 3) (up2_a (by omega)) ?_
  refine g_iload_n h (i := 10) rfl rfl ?_
  refine g_iast h (i := 11) rfl (lp_k hl (f := 1) (a := 2) (t := 0) (n := 60) (by decide)) (hv) ?_
  refine g_aload_n h (i := 12) rfl rfl ?_
  refine g_getR h (i := 13) rfl fl_X6_18 (fun _ _ _ => rfl) hk (lp_r hl (f := 2) (a := 3) (t := 0) (n := 60) (by decide)) ?_
  refine g_aload_n h (i := 14) rfl rfl ?_
  refine g_getI h (i := 15) rfl fl_X6_21 (fun _ _ _ => rfl) hk ?_
  refine g_eqi (wI w p 3) ((up2_a (by omega)).trans (up2_a (by omega))) ?_
  refine g_iload_n h (i := 16) rfl rfl ?_
  refine g_iast h (i := 17) rfl (lp_k hl (f := 2) (a := 3) (t := 0) (n := 60) (by decide)) (hv) ?_
  refine g_aload_n h (i := 18) rfl rfl ?_
  refine g_dup h (i := 19) rfl rfl ?_
  refine g_getI h (i := 20) rfl fl_X6_21 (fun _ _ _ => rfl) hk ?_
  refine g_eqi (wI w p 3) ((up2_a (by omega)).trans ((up2_a (by omega)).trans (up2_a (by omega)))) ?_
  refine g_dup_x1 h (i := 21) rfl rfl rfl ?_
  refine g_iconst h (i := 22) rfl (v := 1) (by rfl) ?_
  refine g_iadd h (i := 23) rfl ?_
  refine g_putI_0 h (i := 24) rfl fl_X6_21 nf_6_3 (fun _ _ _ => rfl) hk (rfl) (by rfl) ?_
  exact g_iret hq h (i := 25) rfl (⟨rfl, rfl⟩)
-- add a row of the script
set_option maxRecDepth 100000 in
set_option maxHeartbeats 4000000 in
theorem ct_X7_add (l : Launch) (E : EE) (w : Wd) (p : Nat) (o x z : Int32) (hlo : E.2.2 ≤ wN w) (hk : wK w p = some (.inl 7)) (hl : LayA w p tabS) (hv : vp_in (wI w p 3) 40) (hz : z = 0 ∨ z = 1) : Ct l E yX7_add cX7_add 4 (some .int) ({ frames := 0, cells := 0, slots := 0, locals := 0 } : Room) [.ref p, .int o, .int x, .int z] w 0 0 (Px (some (.int (wI w p 3 + 1))) (sI (sI (sI (sI w (p + 1) (pI (wI w p 3)) o) (p + 2) (pI (wI w p 3)) x) (p + 3) (pI (wI w p 3)) z) p 3 (wI w p 3 + 1))) := by
  refine ct_in (il := il_X7_add) (by decide) dk_X7_add (Nat.le_of_ble_eq_true rfl) hlo ?_
  intro X h hq

  refine g_aload_n h (i := 0) rfl rfl ?_
  refine g_getR h (i := 1) rfl fl_X7_9 (fun _ _ _ => rfl) hk (lp_r hl (f := 0) (a := 1) (t := 0) (n := 40) (by decide)) ?_
  refine g_aload_n h (i := 2) rfl rfl ?_
  refine g_getI h (i := 3) rfl fl_X7_22 (fun _ _ _ => rfl) hk ?_
  refine g_iload_n h (i := 4) rfl rfl ?_
  refine g_iast h (i := 5) rfl (lp_k hl (f := 0) (a := 1) (t := 0) (n := 40) (by decide)) (hv) ?_
  refine g_aload_n h (i := 6) rfl rfl ?_
  refine g_getR h (i := 7) rfl fl_X7_15 (fun _ _ _ => rfl) hk (lp_r hl (f := 1) (a := 2) (t := 0) (n := 40) (by decide)) ?_
  refine g_aload_n h (i := 8) rfl rfl ?_
  refine g_getI h (i := 9) rfl fl_X7_22 (fun _ _ _ => rfl) hk ?_
  refine g_eqi (wI w p 3) (up2_a (by omega)) ?_
  refine g_iload_n h (i := 10) rfl rfl ?_
  refine g_iast h (i := 11) rfl (lp_k hl (f := 1) (a := 2) (t := 0) (n := 40) (by decide)) (hv) ?_
  refine g_aload_n h (i := 12) rfl rfl ?_
  refine g_getR h (i := 13) rfl fl_X7_18 (fun _ _ _ => rfl) hk (lp_r hl (f := 2) (a := 3) (t := 1) (n := 40) (by decide)) ?_
  refine g_aload_n h (i := 14) rfl rfl ?_
  refine g_getI h (i := 15) rfl fl_X7_22 (fun _ _ _ => rfl) hk ?_
  refine g_eqi (wI w p 3) ((up2_a (by omega)).trans (up2_a (by omega))) ?_
  refine g_iload_n h (i := 16) rfl rfl ?_
  refine g_zast h (i := 17) rfl (lp_k hl (f := 2) (a := 3) (t := 1) (n := 40) (by decide)) (hv) (by rcases hz with q | q <;> (rw [q]; rfl)) ?_
  refine g_aload_n h (i := 18) rfl rfl ?_
  refine g_dup h (i := 19) rfl rfl ?_
  refine g_getI h (i := 20) rfl fl_X7_22 (fun _ _ _ => rfl) hk ?_
  refine g_eqi (wI w p 3) ((up2_a (by omega)).trans ((up2_a (by omega)).trans (up2_a (by omega)))) ?_
  refine g_iconst h (i := 21) rfl (v := 1) (by rfl) ?_
  refine g_iadd h (i := 22) rfl ?_
  refine g_putI_0 h (i := 23) rfl fl_X7_22 nf_7_3 (fun _ _ _ => rfl) hk (rfl) (by rfl) ?_
  refine g_aload_n h (i := 24) rfl rfl ?_
  refine g_getI h (i := 25) rfl fl_X7_22 (fun _ _ _ => rfl) hk ?_
  refine g_eqi (wI w p 3 + 1) (up2_s _ _ _ _) ?_
  exact g_iret hq h (i := 26) rfl (⟨rfl, rfl⟩)
-- script
set_option maxRecDepth 100000 in
set_option maxHeartbeats 4000000 in
theorem ct_X9_script (l : Launch) (E : EE) (w : Wd) (b : Nat) (cf : Nat → Nat → Int32) (R : Nat → Int64) (t i on : Int32) (hlo : E.2.2 ≤ wN w) (hL : LayB w b) (hB : RepB w b cf R) (hr : FA R) (hc : isI (cf 0 16) 40) (hon : on = 0 ∨ on = 1) : Ct l E yX9_script cX9_script 4 (some .int) ({ frames := 2, cells := 0, slots := 0, locals := 42 } : Room) [.ref b, .int t, .int i, .int on] w 0 0 (CS b w (scS t i on cf R)) := by
  refine ct_in (il := il_X9_script) (by decide) dk_X9_script (Nat.le_of_ble_eq_true rfl) hlo ?_
  intro X h hq

  have h3 : wI w (b + 1 + 8) 3 = cf 0 16 := hB.1.2.2.2.2.2.1
  have hlt : ¬ cf 0 16 < 40 → cf 0 16 = 40 := fun q => by
    have a := i32le.mp (i32nlt.mp q)
    have e0 : (40 : Int32).toInt = 40 := rfl
    have z := hc.2
    have e1 : pI (cf 0 16) = 40 := by unfold pI at z ⊢; omega
    rw [hc.1, e1]; rfl
  have hne : cf 0 16 < 40 → ¬ cf 0 16 = 40 := fun q z => by rw [z] at q; exact absurd q (by decide)
  refine g_iload_n h (i := 0) rfl rfl ?_
  refine g_iconst h (i := 1) rfl (v := 1) (by rfl) ?_
  refine g_ldc h (i := 2) rfl k_X9_59 ?_
  refine g_callSx h hq (i := 3) rfl ms_X9_55 (ct_X9_isWithin l E _ t (1) (100000) hlo) rfl rfl ⟨rfl, rfl, Nat.le_of_ble_eq_true rfl, Nat.le_of_ble_eq_true rfl⟩ (Nat.le_of_ble_eq_true rfl) ⟨Nat.zero_le _, Nat.zero_le _⟩ ?_
  refine g_if_eq h (i := 4) 17 rfl rfl (fun c_7 => ?_) (fun c_7 => ?_)
  · skip
    refine g_bipush h (i := 8) rfl (v := -2) (by rfl) ?_
    exact g_iret hq h (i := 9) rfl (by unfold scS; rw [if_neg (fun q => bI_0.mp c_7 q.1)]; exact ⟨rfl, bf_0, hB⟩)
  · skip
    refine g_iload_n h (i := 5) rfl rfl ?_
    refine g_callSx h hq (i := 6) rfl ms_X9_191 (ct_X9_isSignal l E _ i hlo) rfl rfl ⟨rfl, rfl, Nat.le_of_ble_eq_true rfl, Nat.le_of_ble_eq_true rfl⟩ (Nat.le_of_ble_eq_true rfl) ⟨Nat.zero_le _, Nat.zero_le _⟩ ?_
    refine g_if_ne h (i := 7) 20 rfl rfl (fun c_14 => ?_) (fun c_14 => ?_)
    · skip
      refine g_aload_n h (i := 10) rfl rfl ?_
      refine g_getR h (i := 11) rfl fl_X9_10 (fun _ _ _ => rfl) (lb_k hL) (lb_cell hL) ?_
      refine g_getR h (i := 12) rfl fl_X9_194 (fun _ _ _ => rfl) (lc_k (lb_C hL)) (lc_scr (lb_C hL)) ?_
      refine g_getI h (i := 13) rfl fl_X9_198 (fun _ _ _ => rfl) (lk_scr (lb_C hL)) ?_
      refine g_eqi (cf 0 16) h3 ?_
      refine g_bipush h (i := 14) rfl (v := 40) (by rfl) ?_
      refine g_icmp_lt h (i := 15) 38 rfl rfl (fun c_32 => ?_) (fun c_32 => ?_)
      · skip
        have hk := c60 hc (by omega) (by rfl : (40 : Int32) = nI 40) (hne c_32)
        have had := ct_X7_add l E w (b + 1 + 8) t i on hlo (lk_scr (lb_C hL)) (lc_s (lb_C hL)) (by rw [h3, hc.1]; exact vp_in_nI hk (by omega)) hon
        rw [h3] at had
        refine g_aload_n h (i := 18) rfl rfl ?_
        refine g_getR h (i := 19) rfl fl_X9_10 (fun _ _ _ => rfl) (lb_k hL) (lb_cell hL) ?_
        refine g_getR h (i := 20) rfl fl_X9_194 (fun _ _ _ => rfl) (lc_k (lb_C hL)) (lc_scr (lb_C hL)) ?_
        refine g_iload_n h (i := 21) rfl rfl ?_
        refine g_iload_n h (i := 22) rfl rfl ?_
        refine g_iload_n h (i := 23) rfl rfl ?_
        refine g_callVx h hq (i := 24) rfl mv_X9_201 cls7 (lk_scr (lb_C hL)) (had) rfl rfl ⟨rfl, rfl, Nat.le_of_ble_eq_true rfl, Nat.le_of_ble_eq_true rfl⟩ (Nat.le_of_ble_eq_true rfl) ⟨Nat.zero_le _, Nat.zero_le _⟩ ?_
        exact g_iret hq h (i := 25) rfl (by unfold scS; rw [if_pos ⟨bI_1.mp c_7, bI_1.mp c_14⟩, if_neg (hne c_32)]; exact ⟨rfl, bf_I (bf_I (bf_I (bf_I bf_0 (by omega)) (by omega)) (by omega)) (by omega), rb_sc (rb_n (rb_i (rb_t hB)))⟩)
      · skip
        refine g_bipush h (i := 16) rfl (v := -4) (by rfl) ?_
        exact g_iret hq h (i := 17) rfl (by unfold scS; rw [if_pos ⟨bI_1.mp c_7, bI_1.mp c_14⟩, if_pos (hlt c_32)]; exact ⟨rfl, bf_0, hB⟩)
    · skip
      refine g_bipush h (i := 8) rfl (v := -2) (by rfl) ?_
      exact g_iret hq h (i := 9) rfl (by unfold scS; rw [if_neg (fun q => bI_0.mp c_14 q.2)]; exact ⟨rfl, bf_0, hB⟩)
-- is a line right
set_option maxRecDepth 100000 in
set_option maxHeartbeats 4000000 in
theorem ct_X9_isLine (l : Launch) (E : EE) (w : Wd) (o x y : Int32) (hlo : E.2.2 ≤ wN w) : Ct l E yX9_isLine cX9_isLine 3 (some .boolean) ({ frames := 2, cells := 0, slots := 0, locals := 42 } : Room) [.int o, .int x, .int y] w 0 0 (Px (some (.int (lnB o x y))) w) := by
  refine ct_in (il := il_X9_isLine) (by decide) dk_X9_isLine (Nat.le_of_ble_eq_true rfl) hlo ?_
  intro X h hq

  rcases n12e o with hsw | hsw
  · skip
    refine g_iload_n h (i := 0) rfl rfl ?_
    rcases hsw with e | e | e | e | e | e | e | e | e | e | e | e
    · skip
      subst e
      refine g_tin h (i := 1) 64 rfl (by decide) (by decide) rfl rfl ?_
      refine g_iload_n h (i := 2) rfl rfl ?_
      refine g_callSx h hq (i := 3) rfl ms_X9_138 (ct_X9_isPose l E _ x hlo) rfl rfl ⟨rfl, rfl, Nat.le_of_ble_eq_true rfl, Nat.le_of_ble_eq_true rfl⟩ (Nat.le_of_ble_eq_true rfl) ⟨Nat.zero_le _, Nat.zero_le _⟩ ?_
      refine g_if_eq h (i := 4) 82 rfl rfl (fun c_68 => ?_) (fun c_68 => ?_)
      · skip
        refine g_iconst h (i := 10) rfl (v := 0) (by rfl) ?_
        exact g_zret hq h (i := 11) rfl (rfl) (⟨by unfold lnB; rw [if_pos (rfl)]; exact rF (fun q => bI_0.mp c_68 q.1), rfl⟩)
      · skip
        refine g_iload_n h (i := 5) rfl rfl ?_
        refine g_callSx h hq (i := 6) rfl ms_X9_157 (ct_X9_isShare l E _ y hlo) rfl rfl ⟨rfl, rfl, Nat.le_of_ble_eq_true rfl, Nat.le_of_ble_eq_true rfl⟩ (Nat.le_of_ble_eq_true rfl) ⟨Nat.zero_le _, Nat.zero_le _⟩ ?_
        refine g_if_eq h (i := 7) 82 rfl rfl (fun c_75 => ?_) (fun c_75 => ?_)
        · skip
          refine g_iconst h (i := 10) rfl (v := 0) (by rfl) ?_
          exact g_zret hq h (i := 11) rfl (rfl) (⟨by unfold lnB; rw [if_pos (rfl)]; exact rF (fun q => bI_0.mp c_75 q.2), rfl⟩)
        · skip
          refine g_iconst h (i := 8) rfl (v := 1) (by rfl) ?_
          refine g_goto h (i := 9) 83 rfl rfl ?_
          exact g_zret hq h (i := 11) rfl (rfl) (⟨by unfold lnB; rw [if_pos (rfl)]; exact rT ⟨bI_1.mp c_68, bI_1.mp c_75⟩, rfl⟩)
    · skip
      subst e
      refine g_tin h (i := 1) 84 rfl (by decide) (by decide) rfl rfl ?_
      refine g_iload_n h (i := 12) rfl rfl ?_
      refine g_iconst h (i := 13) rfl (v := 0) (by rfl) ?_
      refine g_sipush h (i := 14) rfl (v := 1000) (by rfl) ?_
      refine g_callSx h hq (i := 15) rfl ms_X9_55 (ct_X9_isWithin l E _ x (0) (1000) hlo) rfl rfl ⟨rfl, rfl, Nat.le_of_ble_eq_true rfl, Nat.le_of_ble_eq_true rfl⟩ (Nat.le_of_ble_eq_true rfl) ⟨Nat.zero_le _, Nat.zero_le _⟩ ?_
      exact g_zret hq h (i := 16) rfl (bI_n _) (⟨by unfold lnB; rw [if_neg (by decide), if_pos (rfl)], rfl⟩)
    · skip
      subst e
      refine g_tin h (i := 1) 93 rfl (by decide) (by decide) rfl rfl ?_
      refine g_iload_n h (i := 17) rfl rfl ?_
      refine g_callSx h hq (i := 18) rfl ms_X9_191 (ct_X9_isSignal l E _ x hlo) rfl rfl ⟨rfl, rfl, Nat.le_of_ble_eq_true rfl, Nat.le_of_ble_eq_true rfl⟩ (Nat.le_of_ble_eq_true rfl) ⟨Nat.zero_le _, Nat.zero_le _⟩ ?_
      refine g_if_eq h (i := 19) 113 rfl rfl (fun c_97 => ?_) (fun c_97 => ?_)
      · skip
        refine g_iconst h (i := 27) rfl (v := 0) (by rfl) ?_
        exact g_zret hq h (i := 28) rfl (rfl) (⟨by unfold lnB; rw [if_neg (by decide), if_neg (by decide), if_pos (Or.inl rfl)]; exact rF (fun q => bI_0.mp c_97 q.1), rfl⟩)
      · skip
        refine g_iload_n h (i := 20) rfl rfl ?_
        refine g_iconst h (i := 21) rfl (v := 0) (by rfl) ?_
        refine g_iconst h (i := 22) rfl (v := 1) (by rfl) ?_
        refine g_callSx h hq (i := 23) rfl ms_X9_55 (ct_X9_isWithin l E _ y (0) (1) hlo) rfl rfl ⟨rfl, rfl, Nat.le_of_ble_eq_true rfl, Nat.le_of_ble_eq_true rfl⟩ (Nat.le_of_ble_eq_true rfl) ⟨Nat.zero_le _, Nat.zero_le _⟩ ?_
        refine g_if_eq h (i := 24) 113 rfl rfl (fun c_106 => ?_) (fun c_106 => ?_)
        · skip
          refine g_iconst h (i := 27) rfl (v := 0) (by rfl) ?_
          exact g_zret hq h (i := 28) rfl (rfl) (⟨by unfold lnB; rw [if_neg (by decide), if_neg (by decide), if_pos (Or.inl rfl)]; exact rF (fun q => bI_0.mp c_106 q.2), rfl⟩)
        · skip
          refine g_iconst h (i := 25) rfl (v := 1) (by rfl) ?_
          refine g_goto h (i := 26) 114 rfl rfl ?_
          exact g_zret hq h (i := 28) rfl (rfl) (⟨by unfold lnB; rw [if_neg (by decide), if_neg (by decide), if_pos (Or.inl rfl)]; exact rT ⟨bI_1.mp c_97, bI_1.mp c_106⟩, rfl⟩)
    · skip
      subst e
      refine g_tin h (i := 1) 93 rfl (by decide) (by decide) rfl rfl ?_
      refine g_iload_n h (i := 17) rfl rfl ?_
      refine g_callSx h hq (i := 18) rfl ms_X9_191 (ct_X9_isSignal l E _ x hlo) rfl rfl ⟨rfl, rfl, Nat.le_of_ble_eq_true rfl, Nat.le_of_ble_eq_true rfl⟩ (Nat.le_of_ble_eq_true rfl) ⟨Nat.zero_le _, Nat.zero_le _⟩ ?_
      refine g_if_eq h (i := 19) 113 rfl rfl (fun c_97 => ?_) (fun c_97 => ?_)
      · skip
        refine g_iconst h (i := 27) rfl (v := 0) (by rfl) ?_
        exact g_zret hq h (i := 28) rfl (rfl) (⟨by unfold lnB; rw [if_neg (by decide), if_neg (by decide), if_pos (Or.inr rfl)]; exact rF (fun q => bI_0.mp c_97 q.1), rfl⟩)
      · skip
        refine g_iload_n h (i := 20) rfl rfl ?_
        refine g_iconst h (i := 21) rfl (v := 0) (by rfl) ?_
        refine g_iconst h (i := 22) rfl (v := 1) (by rfl) ?_
        refine g_callSx h hq (i := 23) rfl ms_X9_55 (ct_X9_isWithin l E _ y (0) (1) hlo) rfl rfl ⟨rfl, rfl, Nat.le_of_ble_eq_true rfl, Nat.le_of_ble_eq_true rfl⟩ (Nat.le_of_ble_eq_true rfl) ⟨Nat.zero_le _, Nat.zero_le _⟩ ?_
        refine g_if_eq h (i := 24) 113 rfl rfl (fun c_106 => ?_) (fun c_106 => ?_)
        · skip
          refine g_iconst h (i := 27) rfl (v := 0) (by rfl) ?_
          exact g_zret hq h (i := 28) rfl (rfl) (⟨by unfold lnB; rw [if_neg (by decide), if_neg (by decide), if_pos (Or.inr rfl)]; exact rF (fun q => bI_0.mp c_106 q.2), rfl⟩)
        · skip
          refine g_iconst h (i := 25) rfl (v := 1) (by rfl) ?_
          refine g_goto h (i := 26) 114 rfl rfl ?_
          exact g_zret hq h (i := 28) rfl (rfl) (⟨by unfold lnB; rw [if_neg (by decide), if_neg (by decide), if_pos (Or.inr rfl)]; exact rT ⟨bI_1.mp c_97, bI_1.mp c_106⟩, rfl⟩)
    · skip
      subst e
      refine g_tin h (i := 1) 115 rfl (by decide) (by decide) rfl rfl ?_
      refine g_iload_n h (i := 29) rfl rfl ?_
      refine g_iconst h (i := 30) rfl (v := 0) (by rfl) ?_
      refine g_bipush h (i := 31) rfl (v := 59) (by rfl) ?_
      refine g_callSx h hq (i := 32) rfl ms_X9_55 (ct_X9_isWithin l E _ x (0) (59) hlo) rfl rfl ⟨rfl, rfl, Nat.le_of_ble_eq_true rfl, Nat.le_of_ble_eq_true rfl⟩ (Nat.le_of_ble_eq_true rfl) ⟨Nat.zero_le _, Nat.zero_le _⟩ ?_
      exact g_zret hq h (i := 33) rfl (bI_n _) (⟨by unfold lnB; rw [if_neg (by decide), if_neg (by decide), if_neg (by decide), if_pos (Or.inl rfl)], rfl⟩)
    · skip
      subst e
      refine g_tin h (i := 1) 115 rfl (by decide) (by decide) rfl rfl ?_
      refine g_iload_n h (i := 29) rfl rfl ?_
      refine g_iconst h (i := 30) rfl (v := 0) (by rfl) ?_
      refine g_bipush h (i := 31) rfl (v := 59) (by rfl) ?_
      refine g_callSx h hq (i := 32) rfl ms_X9_55 (ct_X9_isWithin l E _ x (0) (59) hlo) rfl rfl ⟨rfl, rfl, Nat.le_of_ble_eq_true rfl, Nat.le_of_ble_eq_true rfl⟩ (Nat.le_of_ble_eq_true rfl) ⟨Nat.zero_le _, Nat.zero_le _⟩ ?_
      exact g_zret hq h (i := 33) rfl (bI_n _) (⟨by unfold lnB; rw [if_neg (by decide), if_neg (by decide), if_neg (by decide), if_pos (Or.inr (Or.inl rfl))], rfl⟩)
    · skip
      subst e
      refine g_tin h (i := 1) 128 rfl (by decide) (by decide) rfl rfl ?_
      refine g_iconst h (i := 37) rfl (v := 1) (by rfl) ?_
      exact g_zret hq h (i := 38) rfl (rfl) (⟨by unfold lnB; rw [if_neg (by decide), if_neg (by decide), if_neg (by decide), if_neg (by decide), if_neg (by decide)]; exact rT (by decide), rfl⟩)
    · skip
      subst e
      refine g_tin h (i := 1) 123 rfl (by decide) (by decide) rfl rfl ?_
      refine g_iload_n h (i := 34) rfl rfl ?_
      refine g_callSx h hq (i := 35) rfl ms_X9_191 (ct_X9_isSignal l E _ x hlo) rfl rfl ⟨rfl, rfl, Nat.le_of_ble_eq_true rfl, Nat.le_of_ble_eq_true rfl⟩ (Nat.le_of_ble_eq_true rfl) ⟨Nat.zero_le _, Nat.zero_le _⟩ ?_
      exact g_zret hq h (i := 36) rfl (bI_n _) (⟨by unfold lnB; rw [if_neg (by decide), if_neg (by decide), if_neg (by decide), if_neg (by decide), if_pos (Or.inl rfl)], rfl⟩)
    · skip
      subst e
      refine g_tin h (i := 1) 123 rfl (by decide) (by decide) rfl rfl ?_
      refine g_iload_n h (i := 34) rfl rfl ?_
      refine g_callSx h hq (i := 35) rfl ms_X9_191 (ct_X9_isSignal l E _ x hlo) rfl rfl ⟨rfl, rfl, Nat.le_of_ble_eq_true rfl, Nat.le_of_ble_eq_true rfl⟩ (Nat.le_of_ble_eq_true rfl) ⟨Nat.zero_le _, Nat.zero_le _⟩ ?_
      exact g_zret hq h (i := 36) rfl (bI_n _) (⟨by unfold lnB; rw [if_neg (by decide), if_neg (by decide), if_neg (by decide), if_neg (by decide), if_pos (Or.inr (Or.inl rfl))], rfl⟩)
    · skip
      subst e
      refine g_tin h (i := 1) 123 rfl (by decide) (by decide) rfl rfl ?_
      refine g_iload_n h (i := 34) rfl rfl ?_
      refine g_callSx h hq (i := 35) rfl ms_X9_191 (ct_X9_isSignal l E _ x hlo) rfl rfl ⟨rfl, rfl, Nat.le_of_ble_eq_true rfl, Nat.le_of_ble_eq_true rfl⟩ (Nat.le_of_ble_eq_true rfl) ⟨Nat.zero_le _, Nat.zero_le _⟩ ?_
      exact g_zret hq h (i := 36) rfl (bI_n _) (⟨by unfold lnB; rw [if_neg (by decide), if_neg (by decide), if_neg (by decide), if_neg (by decide), if_pos (Or.inr (Or.inr rfl))], rfl⟩)
    · skip
      subst e
      refine g_tin h (i := 1) 128 rfl (by decide) (by decide) rfl rfl ?_
      refine g_iconst h (i := 37) rfl (v := 1) (by rfl) ?_
      exact g_zret hq h (i := 38) rfl (rfl) (⟨by unfold lnB; rw [if_neg (by decide), if_neg (by decide), if_neg (by decide), if_neg (by decide), if_neg (by decide)]; exact rT (by decide), rfl⟩)
    · skip
      subst e
      refine g_tin h (i := 1) 115 rfl (by decide) (by decide) rfl rfl ?_
      refine g_iload_n h (i := 29) rfl rfl ?_
      refine g_iconst h (i := 30) rfl (v := 0) (by rfl) ?_
      refine g_bipush h (i := 31) rfl (v := 59) (by rfl) ?_
      refine g_callSx h hq (i := 32) rfl ms_X9_55 (ct_X9_isWithin l E _ x (0) (59) hlo) rfl rfl ⟨rfl, rfl, Nat.le_of_ble_eq_true rfl, Nat.le_of_ble_eq_true rfl⟩ (Nat.le_of_ble_eq_true rfl) ⟨Nat.zero_le _, Nat.zero_le _⟩ ?_
      exact g_zret hq h (i := 33) rfl (bI_n _) (⟨by unfold lnB; rw [if_neg (by decide), if_neg (by decide), if_neg (by decide), if_pos (Or.inr (Or.inr rfl))], rfl⟩)
  · skip
    refine g_iload_n h (i := 0) rfl rfl ?_
    skip
    · skip
      skip
      refine g_tout h (i := 1) 130 rfl (hsw) rfl ?_
      refine g_iconst h (i := 39) rfl (v := 0) (by rfl) ?_
      exact g_zret hq h (i := 40) rfl (rfl) (⟨by unfold lnB; rw [if_neg (fun q => by subst q; exact absurd hsw (by decide)), if_neg (fun q => by subst q; exact absurd hsw (by decide)), if_neg (fun q => by rcases q with rfl | rfl <;> exact absurd hsw (by decide)), if_neg (fun q => by rcases q with rfl | rfl | rfl <;> exact absurd hsw (by decide)), if_neg (fun q => by rcases q with rfl | rfl | rfl <;> exact absurd hsw (by decide))]; exact rF (fun q => by rcases q with rfl | rfl <;> exact absurd hsw (by decide)), rfl⟩)
-- line
set_option maxRecDepth 100000 in
set_option maxHeartbeats 4000000 in
theorem ct_X9_line (l : Launch) (E : EE) (w : Wd) (b : Nat) (cf : Nat → Nat → Int32) (R : Nat → Int64) (o x y : Int32) (hlo : E.2.2 ≤ wN w) (hL : LayB w b) (hB : RepB w b cf R) (hr : FA R) (hc : isI (cf 0 12) 60) : Ct l E yX9_line cX9_line 4 (some .int) ({ frames := 3, cells := 0, slots := 0, locals := 64 } : Room) [.ref b, .int o, .int x, .int y] w 0 0 (CS b w (liS o x y cf R)) := by
  refine ct_in (il := il_X9_line) (by decide) dk_X9_line (Nat.le_of_ble_eq_true rfl) hlo ?_
  intro X h hq

  have h3 : wI w (b + 1 + 4) 3 = cf 0 12 := hB.1.2.2.2.1
  have hlt : ¬ cf 0 12 < 60 → cf 0 12 = 60 := fun q => by
    have a := i32le.mp (i32nlt.mp q)
    have e0 : (60 : Int32).toInt = 60 := rfl
    have z := hc.2
    have e1 : pI (cf 0 12) = 60 := by unfold pI at z ⊢; omega
    rw [hc.1, e1]; rfl
  have hne : cf 0 12 < 60 → ¬ cf 0 12 = 60 := fun q z => by rw [z] at q; exact absurd q (by decide)
  refine g_iload_n h (i := 0) rfl rfl ?_
  refine g_iload_n h (i := 1) rfl rfl ?_
  refine g_iload_n h (i := 2) rfl rfl ?_
  refine g_callSx h hq (i := 3) rfl ms_X9_175 (ct_X9_isLine l E w o x y hlo) rfl rfl ⟨rfl, rfl, Nat.le_of_ble_eq_true rfl, Nat.le_of_ble_eq_true rfl⟩ (Nat.le_of_ble_eq_true rfl) ⟨Nat.zero_le _, Nat.zero_le _⟩ ?_
  refine g_if_ne h (i := 4) 12 rfl rfl (fun c_6 => ?_) (fun c_6 => ?_)
  · skip
    refine g_aload_n h (i := 7) rfl rfl ?_
    refine g_callVx h hq (i := 8) rfl mv_X9_60 cls9 (lb_k hL) (ct_X9_isGoing l E w b cf R hlo hL hB hr) rfl rfl ⟨rfl, rfl, Nat.le_of_ble_eq_true rfl, Nat.le_of_ble_eq_true rfl⟩ (Nat.le_of_ble_eq_true rfl) ⟨Nat.zero_le _, Nat.zero_le _⟩ ?_
    refine g_if_eq h (i := 9) 22 rfl rfl (fun c_16 => ?_) (fun c_16 => ?_)
    · skip
      refine g_aload_n h (i := 12) rfl rfl ?_
      refine g_getR h (i := 13) rfl fl_X9_10 (fun _ _ _ => rfl) (lb_k hL) (lb_cell hL) ?_
      refine g_getR h (i := 14) rfl fl_X9_178 (fun _ _ _ => rfl) (lc_k (lb_C hL)) (lc_prog (lb_C hL)) ?_
      refine g_getI h (i := 15) rfl fl_X9_182 (fun _ _ _ => rfl) (lk_prog (lb_C hL)) ?_
      refine g_eqi (cf 0 12) h3 ?_
      refine g_bipush h (i := 16) rfl (v := 60) (by rfl) ?_
      refine g_icmp_lt h (i := 17) 40 rfl rfl (fun c_34 => ?_) (fun c_34 => ?_)
      · skip
        have hk := c60 hc (by omega) (by rfl : (60 : Int32) = nI 60) (hne c_34)
        have had := ct_X6_add l E w (b + 1 + 4) o x y hlo (lk_prog (lb_C hL)) (lc_p (lb_C hL)) (by rw [h3, hc.1]; exact vp_in_nI hk (by omega))
        rw [h3] at had
        refine g_aload_n h (i := 20) rfl rfl ?_
        refine g_getR h (i := 21) rfl fl_X9_10 (fun _ _ _ => rfl) (lb_k hL) (lb_cell hL) ?_
        refine g_getR h (i := 22) rfl fl_X9_178 (fun _ _ _ => rfl) (lc_k (lb_C hL)) (lc_prog (lb_C hL)) ?_
        refine g_iload_n h (i := 23) rfl rfl ?_
        refine g_iload_n h (i := 24) rfl rfl ?_
        refine g_iload_n h (i := 25) rfl rfl ?_
        refine g_callVx h hq (i := 26) rfl mv_X9_187 cls6 (lk_prog (lb_C hL)) (had) rfl rfl ⟨rfl, rfl, Nat.le_of_ble_eq_true rfl, Nat.le_of_ble_eq_true rfl⟩ (Nat.le_of_ble_eq_true rfl) ⟨Nat.zero_le _, Nat.zero_le _⟩ ?_
        exact g_iret hq h (i := 27) rfl (by unfold liS; rw [if_neg c_6, if_neg (bI_0.mp c_16), if_neg (hne c_34)]; exact ⟨rfl, bf_I (bf_I (bf_I (bf_I bf_0 (by omega)) (by omega)) (by omega)) (by omega), rb_pc (rb_bb (rb_a (rb_o hB)))⟩)
      · skip
        refine g_bipush h (i := 18) rfl (v := -4) (by rfl) ?_
        exact g_iret hq h (i := 19) rfl (by unfold liS; rw [if_neg c_6, if_neg (bI_0.mp c_16), if_pos (hlt c_34)]; exact ⟨rfl, bf_0, hB⟩)
    · skip
      refine g_bipush h (i := 10) rfl (v := -3) (by rfl) ?_
      exact g_iret hq h (i := 11) rfl (by unfold liS; rw [if_neg c_6, if_pos (bI_1.mp c_16)]; exact ⟨rfl, bf_0, hB⟩)
  · skip
    refine g_bipush h (i := 5) rfl (v := -2) (by rfl) ?_
    exact g_iret hq h (i := 6) rfl (by unfold liS; rw [if_pos c_6]; exact ⟨rfl, bf_0, hB⟩)
-- pose
set_option maxRecDepth 100000 in
set_option maxHeartbeats 4000000 in
theorem ct_X9_pose (l : Launch) (E : EE) (w : Wd) (b : Nat) (cf : Nat → Nat → Int32) (R : Nat → Int64) (k j : Int32) (hlo : E.2.2 ≤ wN w) (hL : LayB w b) (hB : RepB w b cf R) (hr : FA R) : Ct l E yX9_pose cX9_pose 3 (some .int) ({ frames := 2, cells := 0, slots := 0, locals := 42 } : Room) [.ref b, .int k, .int j] w 0 0 (CS b w (poS k j cf R)) := by
  refine ct_in (il := il_X9_pose) (by decide) dk_X9_pose (Nat.le_of_ble_eq_true rfl) hlo ?_
  intro X h hq

  refine g_iload_n h (i := 0) rfl rfl ?_
  refine g_callSx h hq (i := 1) rfl ms_X9_138 (ct_X9_isPose l E _ k hlo) rfl rfl ⟨rfl, rfl, Nat.le_of_ble_eq_true rfl, Nat.le_of_ble_eq_true rfl⟩ (Nat.le_of_ble_eq_true rfl) ⟨Nat.zero_le _, Nat.zero_le _⟩ ?_
  refine g_if_eq h (i := 2) 29 rfl rfl (fun c_4 => ?_) (fun c_4 => ?_)
  · skip
    refine g_ldc h (i := 13) rfl k_X9_98 ?_
    exact g_iret hq h (i := 14) rfl (by unfold poS; rw [if_neg (fun q => bI_0.mp c_4 q.1)]; exact ⟨rfl, bf_0, hB⟩)
  · skip
    refine g_iload_n h (i := 3) rfl rfl ?_
    refine g_callSx h hq (i := 4) rfl ms_X9_51 (ct_X9_isJoint l E _ j hlo) rfl rfl ⟨rfl, rfl, Nat.le_of_ble_eq_true rfl, Nat.le_of_ble_eq_true rfl⟩ (Nat.le_of_ble_eq_true rfl) ⟨Nat.zero_le _, Nat.zero_le _⟩ ?_
    refine g_if_eq h (i := 5) 29 rfl rfl (fun c_11 => ?_) (fun c_11 => ?_)
    · skip
      refine g_ldc h (i := 13) rfl k_X9_98 ?_
      exact g_iret hq h (i := 14) rfl (by unfold poS; rw [if_neg (fun q => bI_0.mp c_11 q.2.1)]; exact ⟨rfl, bf_0, hB⟩)
    · skip
      obtain ⟨hk, hk3⟩ := jx (M := 15) (bI_1.mp c_4) (by decide)
      have hC := lb_C hL
      obtain ⟨p0, pj⟩ := hB.1.2.2.1 (pI k) (by omega)
      have p0 : wI w (b + 1 + 22 + 2 * pI k) 0 = cf 11 (pI k) := by rw [show b + 1 + 22 + 2 * pI k = b + 1 + (22 + 2 * pI k) by omega]; exact p0
      refine g_aload_n h (i := 6) rfl rfl ?_
      refine g_getR h (i := 7) rfl fl_X9_10 (fun _ _ _ => rfl) (lb_k hL) (lb_cell hL) ?_
      refine g_getR h (i := 8) rfl fl_X9_141 (fun _ _ _ => rfl) (lc_k (lb_C hL)) (lc_poses (lb_C hL)) ?_
      refine g_iload_n h (i := 9) rfl rfl ?_
      refine g_aald h (i := 10) rfl (by decide) (lk_poses (lb_C hL)) (jvp (bI_1.mp c_4) (by decide) (by omega)) (lc_po (k := pI k) hC (by omega)) ?_
      refine g_getI h (i := 11) rfl fl_X9_145 (fun _ _ _ => rfl) (lk_po (k := pI k) hC (by omega)) ?_
      refine g_eqi (cf 11 (pI k)) p0 ?_
      refine g_if_ne h (i := 12) 32 rfl rfl (fun c_26 => ?_) (fun c_26 => ?_)
      · skip
        refine g_aload_n h (i := 15) rfl rfl ?_
        refine g_getR h (i := 16) rfl fl_X9_10 (fun _ _ _ => rfl) (lb_k hL) (lb_cell hL) ?_
        refine g_getR h (i := 17) rfl fl_X9_141 (fun _ _ _ => rfl) (lc_k (lb_C hL)) (lc_poses (lb_C hL)) ?_
        refine g_iload_n h (i := 18) rfl rfl ?_
        refine g_aald h (i := 19) rfl (by decide) (lk_poses (lb_C hL)) (jvp (bI_1.mp c_4) (by decide) (by omega)) (lc_po (k := pI k) hC (by omega)) ?_
        refine g_getR h (i := 20) rfl fl_X9_150 (fun _ _ _ => rfl) (lk_po (k := pI k) hC (by omega)) (lc_ps (k := pI k) hC (by omega)) ?_
        refine g_iload_n h (i := 21) rfl rfl ?_
        refine g_iald h (i := 22) rfl (lk_ps (k := pI k) hC (by omega)) (jvp (bI_1.mp c_11) (by decide) (by omega)) ?_
        obtain ⟨hj, hj3⟩ := jx (M := 3) (bI_1.mp c_11) (by decide)
        refine g_eqi (cf 12 (4 * pI k + pI j)) (by have q := pj (pI j) (by omega); rw [show b + 1 + 23 + 2 * pI k = b + 1 + (23 + 2 * pI k) by omega]; exact q) ?_
        exact g_iret hq h (i := 23) rfl (by unfold poS; rw [if_pos ⟨bI_1.mp c_4, bI_1.mp c_11, c_26⟩]; exact ⟨rfl, bf_0, hB⟩)
      · skip
        refine g_ldc h (i := 13) rfl k_X9_98 ?_
        exact g_iret hq h (i := 14) rfl (by unfold poS; rw [if_neg (fun q => q.2.2 c_26)]; exact ⟨rfl, bf_0, hB⟩)
-- box
set_option maxRecDepth 100000 in
set_option maxHeartbeats 4000000 in
theorem ct_X9_box (l : Launch) (E : EE) (w : Wd) (b : Nat) (cf : Nat → Nat → Int32) (R : Nat → Int64) (k x0 y0 x1 y1 : Int32) (hlo : E.2.2 ≤ wN w) (hL : LayB w b) (hB : RepB w b cf R) (hr : FA R) (hc : CfA cf) : Ct l E yX9_box cX9_box 6 (some .int) ({ frames := 2, cells := 0, slots := 0, locals := 55 } : Room) [.ref b, .int k, .int x0, .int y0, .int x1, .int y1] w 0 0 (CS b w (bxS k x0 y0 x1 y1 cf R)) := by
  refine ct_in (il := il_X9_box) (by decide) dk_X9_box (Nat.le_of_ble_eq_true rfl) hlo ?_
  intro X h hq

  obtain ⟨x, hx⟩ : ∃ x, x = (tpC cf R).1 := ⟨_, rfl⟩
  obtain ⟨z, hz⟩ : ∃ z, z = (tpC cf R).2 := ⟨_, rfl⟩
  have ht := ct_tipB l E hlo hL hB hr hc
  rw [← hx, ← hz] at ht
  have eB : ¬ bxG k x0 y0 x1 y1 → bxS k x0 y0 x1 y1 cf R = (.int (-2), cf, R) := fun g => by unfold bxS; rw [if_neg g]
  have eN : bxG k x0 y0 x1 y1 → (R 28 = 1 ∨ inB x z x0 y0 x1 y1) → bxS k x0 y0 x1 y1 cf R = (.int (-3), cf, R) := fun g g2 => by unfold bxS; rw [if_pos g, if_pos (by rw [← hx, ← hz]; exact g2)]
  have eY : bxG k x0 y0 x1 y1 → ¬ (R 28 = 1 ∨ inB x z x0 y0 x1 y1) → bxS k x0 y0 x1 y1 cf R = (.int 1, bxC k x0 y0 x1 y1 cf, R) := fun g g2 => by unfold bxS; rw [if_pos g, if_neg (by rw [← hx, ← hz]; exact g2)]
  obtain ⟨w1, hw1⟩ : ∃ w1, w1 = tipW w (b + 90) 0 x z := ⟨_, rfl⟩
  have hB1 : RepB w1 b cf R := by rw [hw1]; exact rb_tip hB
  have hF1 : BF b w w1 := by rw [hw1]; exact bf_tip bf_0
  have hL1 : LayB w1 b := (bf_L hF1).1 b hL
  have hlo1 : E.2.2 ≤ wN w1 := by rw [(bf_L hF1).2.1]; exact hlo
  have tx : wD w1 (b + 90) 0 = x := by rw [hw1]; exact tipB_x _ _ _ _
  have tz : wD w1 (b + 90) 1 = z := by rw [hw1]; exact tipB_y _ _ _ _
  have hii := ct_X8_isIn l E w1 (b + 90) x0 y0 x1 y1 hlo1 (lk_tip hL1)
  rw [tx, tz] at hii
  rw [← hw1] at ht
  refine g_iload_n h (i := 0) rfl rfl ?_
  refine g_iconst h (i := 1) rfl (v := 0) (by rfl) ?_
  refine g_iconst h (i := 2) rfl (v := 3) (by rfl) ?_
  refine g_callSx h hq (i := 3) rfl ms_X9_55 (ct_X9_isWithin l E _ k (0) (3) hlo) rfl rfl ⟨rfl, rfl, Nat.le_of_ble_eq_true rfl, Nat.le_of_ble_eq_true rfl⟩ (Nat.le_of_ble_eq_true rfl) ⟨Nat.zero_le _, Nat.zero_le _⟩ ?_
  refine g_if_eq h (i := 4) 75 rfl rfl (fun c_6 => ?_) (fun c_6 => ?_)
  · skip
    refine g_bipush h (i := 31) rfl (v := -2) (by rfl) ?_
    exact g_iret hq h (i := 32) rfl (by rw [eB (fun q => bI_0.mp c_6 q.1)]; exact ⟨rfl, bf_0, hB⟩)
  · skip
    refine g_iload_n h (i := 5) rfl rfl ?_
    refine g_sipush h (i := 6) rfl (v := -10000) (by rfl) ?_
    refine g_sipush h (i := 7) rfl (v := 10000) (by rfl) ?_
    refine g_callSx h hq (i := 8) rfl ms_X9_55 (ct_X9_isWithin l E _ x0 (-10000) (10000) hlo) rfl rfl ⟨rfl, rfl, Nat.le_of_ble_eq_true rfl, Nat.le_of_ble_eq_true rfl⟩ (Nat.le_of_ble_eq_true rfl) ⟨Nat.zero_le _, Nat.zero_le _⟩ ?_
    refine g_if_eq h (i := 9) 75 rfl rfl (fun c_19 => ?_) (fun c_19 => ?_)
    · skip
      refine g_bipush h (i := 31) rfl (v := -2) (by rfl) ?_
      exact g_iret hq h (i := 32) rfl (by rw [eB (fun q => bI_0.mp c_19 q.2.1)]; exact ⟨rfl, bf_0, hB⟩)
    · skip
      refine g_iload_n h (i := 10) rfl rfl ?_
      refine g_sipush h (i := 11) rfl (v := -10000) (by rfl) ?_
      refine g_sipush h (i := 12) rfl (v := 10000) (by rfl) ?_
      refine g_callSx h hq (i := 13) rfl ms_X9_55 (ct_X9_isWithin l E _ y0 (-10000) (10000) hlo) rfl rfl ⟨rfl, rfl, Nat.le_of_ble_eq_true rfl, Nat.le_of_ble_eq_true rfl⟩ (Nat.le_of_ble_eq_true rfl) ⟨Nat.zero_le _, Nat.zero_le _⟩ ?_
      refine g_if_eq h (i := 14) 75 rfl rfl (fun c_32 => ?_) (fun c_32 => ?_)
      · skip
        refine g_bipush h (i := 31) rfl (v := -2) (by rfl) ?_
        exact g_iret hq h (i := 32) rfl (by rw [eB (fun q => bI_0.mp c_32 q.2.2.1)]; exact ⟨rfl, bf_0, hB⟩)
      · skip
        refine g_iload h (i := 15) rfl rfl ?_
        refine g_sipush h (i := 16) rfl (v := -10000) (by rfl) ?_
        refine g_sipush h (i := 17) rfl (v := 10000) (by rfl) ?_
        refine g_callSx h hq (i := 18) rfl ms_X9_55 (ct_X9_isWithin l E _ x1 (-10000) (10000) hlo) rfl rfl ⟨rfl, rfl, Nat.le_of_ble_eq_true rfl, Nat.le_of_ble_eq_true rfl⟩ (Nat.le_of_ble_eq_true rfl) ⟨Nat.zero_le _, Nat.zero_le _⟩ ?_
        refine g_if_eq h (i := 19) 75 rfl rfl (fun c_46 => ?_) (fun c_46 => ?_)
        · skip
          refine g_bipush h (i := 31) rfl (v := -2) (by rfl) ?_
          exact g_iret hq h (i := 32) rfl (by rw [eB (fun q => bI_0.mp c_46 q.2.2.2.1)]; exact ⟨rfl, bf_0, hB⟩)
        · skip
          refine g_iload h (i := 20) rfl rfl ?_
          refine g_sipush h (i := 21) rfl (v := -10000) (by rfl) ?_
          refine g_sipush h (i := 22) rfl (v := 10000) (by rfl) ?_
          refine g_callSx h hq (i := 23) rfl ms_X9_55 (ct_X9_isWithin l E _ y1 (-10000) (10000) hlo) rfl rfl ⟨rfl, rfl, Nat.le_of_ble_eq_true rfl, Nat.le_of_ble_eq_true rfl⟩ (Nat.le_of_ble_eq_true rfl) ⟨Nat.zero_le _, Nat.zero_le _⟩ ?_
          refine g_if_eq h (i := 24) 75 rfl rfl (fun c_60 => ?_) (fun c_60 => ?_)
          · skip
            refine g_bipush h (i := 31) rfl (v := -2) (by rfl) ?_
            exact g_iret hq h (i := 32) rfl (by rw [eB (fun q => bI_0.mp c_60 q.2.2.2.2.1)]; exact ⟨rfl, bf_0, hB⟩)
          · skip
            refine g_iload_n h (i := 25) rfl rfl ?_
            refine g_iload h (i := 26) rfl rfl ?_
            refine g_icmp_ge h (i := 27) 75 rfl rfl (fun c_66 => ?_) (fun c_66 => ?_)
            · skip
              refine g_bipush h (i := 31) rfl (v := -2) (by rfl) ?_
              exact g_iret hq h (i := 32) rfl (by rw [eB (fun q => i32nlt.mpr c_66 q.2.2.2.2.2.1)]; exact ⟨rfl, bf_0, hB⟩)
            · skip
              refine g_iload_n h (i := 28) rfl rfl ?_
              refine g_iload h (i := 29) rfl rfl ?_
              refine g_icmp_lt h (i := 30) 78 rfl rfl (fun c_72 => ?_) (fun c_72 => ?_)
              · skip
                refine g_aload_n h (i := 33) rfl rfl ?_
                refine g_getR h (i := 34) rfl fl_X9_47 (fun _ _ _ => rfl) (lb_k hL) (lb_tip hL) ?_
                refine g_aload_n h (i := 35) rfl rfl ?_
                refine g_getR h (i := 36) rfl fl_X9_10 (fun _ _ _ => rfl) (lb_k hL) (lb_cell hL) ?_
                refine g_getR h (i := 37) rfl fl_X9_64 (fun _ _ _ => rfl) (lc_k (lb_C hL)) (lc_joints (lb_C hL)) ?_
                refine g_aload_n h (i := 38) rfl rfl ?_
                refine g_getR h (i := 39) rfl fl_X9_19 (fun _ _ _ => rfl) (lb_k hL) (lb_now hL) ?_
                refine g_getR h (i := 40) rfl fl_X9_85 (fun _ _ _ => rfl) (lk_M (lb_M hL)) (lm_states (lb_M hL)) ?_
                refine g_callVn h hq (i := 41) rfl mv_X9_101 cls8 (lk_tip hL) (ht) rfl rfl ⟨rfl, rfl, Nat.le_of_ble_eq_true rfl, Nat.le_of_ble_eq_true rfl⟩ (Nat.le_of_ble_eq_true rfl) ⟨Nat.zero_le _, Nat.zero_le _⟩ ?_
                have hL0 := hL
                have hL := hL1
                refine g_aload_n h (i := 42) rfl rfl ?_
                refine g_callVx h hq (i := 43) rfl mv_X9_60 cls9 (lb_k hL) (ct_X9_isGoing l E w1 b cf R hlo1 hL1 hB1 hr) rfl rfl ⟨rfl, rfl, Nat.le_of_ble_eq_true rfl, Nat.le_of_ble_eq_true rfl⟩ (Nat.le_of_ble_eq_true rfl) ⟨Nat.zero_le _, Nat.zero_le _⟩ ?_
                refine g_if_ne h (i := 44) 122 rfl rfl (fun c_103 => ?_) (fun c_103 => ?_)
                · skip
                  refine g_bipush h (i := 53) rfl (v := -3) (by rfl) ?_
                  exact g_iret hq h (i := 54) rfl (by rw [eN ⟨bI_1.mp c_6, bI_1.mp c_19, bI_1.mp c_32, bI_1.mp c_46, bI_1.mp c_60, i32nl.mp c_66, c_72⟩ (Or.inl (bI_1.mp c_103))]; exact ⟨rfl, hF1, hB1⟩)
                · skip
                  refine g_aload_n h (i := 45) rfl rfl ?_
                  refine g_getR h (i := 46) rfl fl_X9_47 (fun _ _ _ => rfl) (lb_k hL) (lb_tip hL) ?_
                  refine g_iload_n h (i := 47) rfl rfl ?_
                  refine g_iload_n h (i := 48) rfl rfl ?_
                  refine g_iload h (i := 49) rfl rfl ?_
                  refine g_iload h (i := 50) rfl rfl ?_
                  refine g_callVx h hq (i := 51) rfl mv_X9_120 cls8 (lk_tip hL) (hii) rfl rfl ⟨rfl, rfl, Nat.le_of_ble_eq_true rfl, Nat.le_of_ble_eq_true rfl⟩ (Nat.le_of_ble_eq_true rfl) ⟨Nat.zero_le _, Nat.zero_le _⟩ ?_
                  refine g_if_eq h (i := 52) 125 rfl rfl (fun c_119 => ?_) (fun c_119 => ?_)
                  · skip
                    obtain ⟨hk, hk3⟩ := jx (M := 3) (bI_1.mp c_6) (by decide)
                    refine g_aload_n h (i := 55) rfl rfl ?_
                    refine g_getR h (i := 56) rfl fl_X9_10 (fun _ _ _ => rfl) (lb_k hL) (lb_cell hL) ?_
                    refine g_getR h (i := 57) rfl fl_X9_124 (fun _ _ _ => rfl) (lc_k (lb_C hL)) (lc_boxes (lb_C hL)) ?_
                    refine g_iload_n h (i := 58) rfl rfl ?_
                    refine g_aald h (i := 59) rfl (by decide) (lk_boxes (lb_C hL)) (jvp (bI_1.mp c_6) (by decide) (by omega)) (lc_bx (k := pI k) (lb_C hL1) (by omega)) ?_
                    refine g_iload_n h (i := 60) rfl rfl ?_
                    refine g_iload_n h (i := 61) rfl rfl ?_
                    refine g_iload h (i := 62) rfl rfl ?_
                    refine g_iload h (i := 63) rfl rfl ?_
                    refine g_callVn h hq (i := 64) rfl mv_X9_128 cls0 (lk_bx (k := pI k) (lb_C hL1) (by omega)) (ct_X0_tell l E w1 (b + 1 + 18 + pI k) x0 y0 x1 y1 hlo1 (lk_bx (lb_C hL1) (by omega))) rfl rfl ⟨rfl, rfl, Nat.le_of_ble_eq_true rfl, Nat.le_of_ble_eq_true rfl⟩ (Nat.le_of_ble_eq_true rfl) ⟨Nat.zero_le _, Nat.zero_le _⟩ ?_
                    refine g_iconst h (i := 65) rfl (v := 1) (by rfl) ?_
                    exact g_iret hq h (i := 66) rfl (by
                      rw [eY ⟨bI_1.mp c_6, bI_1.mp c_19, bI_1.mp c_32, bI_1.mp c_46, bI_1.mp c_60, i32nl.mp c_66, c_72⟩ (fun q => q.elim (bI_0.mp c_103) (bI_0.mp c_119))]
                      unfold bxC
                      exact ⟨rfl, bf_I (bf_I (bf_I (bf_I (bf_I hF1 (by omega)) (by omega)) (by omega)) (by omega)) (by omega), rb_b4 (rb_b3 (rb_b2 (rb_b1 (rb_b0 hB1 (by omega)) (by omega)) (by omega)) (by omega)) (by omega)⟩)
                  · skip
                    refine g_bipush h (i := 53) rfl (v := -3) (by rfl) ?_
                    exact g_iret hq h (i := 54) rfl (by rw [eN ⟨bI_1.mp c_6, bI_1.mp c_19, bI_1.mp c_32, bI_1.mp c_46, bI_1.mp c_60, i32nl.mp c_66, c_72⟩ (Or.inr (bI_1.mp c_119))]; exact ⟨rfl, hF1, hB1⟩)
              · skip
                refine g_bipush h (i := 31) rfl (v := -2) (by rfl) ?_
                exact g_iret hq h (i := 32) rfl (by rw [eB (fun q => c_72 q.2.2.2.2.2.2)]; exact ⟨rfl, bf_0, hB⟩)
