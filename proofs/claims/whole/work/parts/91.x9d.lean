theorem shx200 {v : Int32} (hv : 1 ≤ v ∧ v ≤ 200) : v = nI (pI v) ∧ pI v ≤ 200 := by
  obtain ⟨v1, v2⟩ := isI_of hv (by decide)
  have := i32le.mp hv.2
  rw [← v2] at this
  have e : (200 : Int32).toInt = 200 := rfl
  exact ⟨v1, by omega⟩
-- travel
set_option maxRecDepth 100000 in
set_option maxHeartbeats 4000000 in
theorem ct_X9_travel (l : Launch) (E : EE) (w : Wd) (b : Nat) (cf : Nat → Nat → Int32) (R : Nat → Int64) (j : Int32) (hlo : E.2.2 ≤ wN w) (hL : LayB w b) (hB : RepB w b cf R) (hr : FA R) : Ct l E yX9_travel cX9_travel 2 (some .long) ({ frames := 2, cells := 0, slots := 0, locals := 42 } : Room) [.ref b, .int j] w 0 0 (CS b w (trS j cf R)) := by
  refine ct_in (il := il_X9_travel) (by decide) dk_X9_travel (Nat.le_of_ble_eq_true rfl) hlo ?_
  intro X h hq

  refine g_iload_n h (i := 0) rfl rfl ?_
  refine g_callSx h hq (i := 1) rfl ms_X9_51 (ct_X9_isJoint l E _ j hlo) rfl rfl ⟨rfl, rfl, Nat.le_of_ble_eq_true rfl, Nat.le_of_ble_eq_true rfl⟩ (Nat.le_of_ble_eq_true rfl) ⟨Nat.zero_le _, Nat.zero_le _⟩ ?_
  refine g_if_eq h (i := 2) 19 rfl rfl (fun c_4 => ?_) (fun c_4 => ?_)
  · skip
    refine g_ldc2 h (i := 9) rfl k_X9_99 ?_
    exact g_lret hq h (i := 10) rfl (by unfold trS; rw [if_neg (bI_0.mp c_4)]; exact ⟨rfl, bf_0, hB⟩)
  · skip
    obtain ⟨hj, hj3⟩ := jx (M := 3) (bI_1.mp c_4) (by decide)
    refine g_aload_n h (i := 3) rfl rfl ?_
    refine g_getR h (i := 4) rfl fl_X9_19 (fun _ _ _ => rfl) (lb_k hL) (lb_now hL) ?_
    refine g_getR h (i := 5) rfl fl_X9_251 (fun _ _ _ => rfl) (lk_M (lb_M hL)) (lm_travelled (lb_M hL)) ?_
    refine g_iload_n h (i := 6) rfl rfl ?_
    refine g_lald h (i := 7) rfl (ln_travelled (lb_M hL)) (jvp (bI_1.mp c_4) (by decide) (by omega)) ?_
    refine g_eql (R (64 + pI j)) (hB.2.1.2.2.2.2.2.2.2.2.2.2.2.2.1 (pI j) (by omega)) ?_
    refine g_goto h (i := 8) 22 rfl rfl ?_
    exact g_lret hq h (i := 10) rfl (by unfold trS; rw [if_pos (bI_1.mp c_4)]; exact ⟨rfl, bf_0, hB⟩)
def spS (cf : Nat → Nat → Int32) (r : Nat → Int64) : St := if r 28 = 1 then (.int 1, cf, stopR r) else (.int (-3), cf, r)
theorem stop_eq (r : Nat → Int64) : up1 (up1 (up1 (up1 r 46 0) 47 0) 31 (9 : Int32).toInt64) 28 3 = stopR r := by
  funext y
  unfold stopR
  by_cases e1 : y = 28
  · subst e1; rfl
  · by_cases e2 : y = 31
    · subst e2; rfl
    · by_cases e3 : y = 46
      · subst e3; rfl
      · by_cases e4 : y = 47
        · subst e4; rfl
        · rw [up1_k e1, up1_k e2, up1_k e4, up1_k e3, up1_k e4, up1_k e3, up1_k e2, up1_k e1]
-- stop
set_option maxRecDepth 100000 in
set_option maxHeartbeats 4000000 in
theorem ct_X9_stop (l : Launch) (E : EE) (w : Wd) (b : Nat) (cf : Nat → Nat → Int32) (R : Nat → Int64) (hlo : E.2.2 ≤ wN w) (hL : LayB w b) (hB : RepB w b cf R) (hr : FA R) : Ct l E yX9_stop cX9_stop 1 (some .int) ({ frames := 2, cells := 0, slots := 0, locals := 41 } : Room) [.ref b] w 0 0 (CS b w (spS cf R)) := by
  refine ct_in (il := il_X9_stop) (by decide) dk_X9_stop (Nat.le_of_ble_eq_true rfl) hlo ?_
  intro X h hq

  refine g_aload_n h (i := 0) rfl rfl ?_
  refine g_callVx h hq (i := 1) rfl mv_X9_60 cls9 (lb_k hL) (ct_X9_isGoing l E w b cf R hlo hL hB hr) rfl rfl ⟨rfl, rfl, Nat.le_of_ble_eq_true rfl, Nat.le_of_ble_eq_true rfl⟩ (Nat.le_of_ble_eq_true rfl) ⟨Nat.zero_le _, Nat.zero_le _⟩ ?_
  refine g_if_ne h (i := 2) 10 rfl rfl (fun c_4 => ?_) (fun c_4 => ?_)
  · skip
    refine g_aload_n h (i := 5) rfl rfl ?_
    refine g_getR h (i := 6) rfl fl_X9_19 (fun _ _ _ => rfl) (lb_k hL) (lb_now hL) ?_
    refine g_bipush h (i := 7) rfl (v := 9) (by rfl) ?_
    refine g_callVn h hq (i := 8) rfl mv_X9_217 cls3 (lk_M (lb_M hL)) (ct_X3_stopBy l E w (b + 55) 9 hlo (lb_M hL)) rfl rfl ⟨rfl, rfl, Nat.le_of_ble_eq_true rfl, Nat.le_of_ble_eq_true rfl⟩ (Nat.le_of_ble_eq_true rfl) ⟨Nat.zero_le _, Nat.zero_le _⟩ ?_
    refine g_iconst h (i := 9) rfl (v := 1) (by rfl) ?_
    exact g_iret hq h (i := 10) rfl (by
      have hT : TF (b + 1) (b + 55) w (stopW w (b + 55) 9) := tf_stop tf_0
      have q := rv_stop (e := 9) hB.2.1
      rw [stop_eq] at q
      unfold spS
      rw [if_pos (bI_1.mp c_4)]
      refine ⟨rfl, bf_TF hT (by omega), rb_tf hB hT q (fun y h1 h2 => ?_)⟩
      show stopR R y = R y
      unfold stopR
      rw [up1_k (by omega), up1_k (by omega), up1_k (by omega), up1_k (by omega)])
  · skip
    refine g_bipush h (i := 3) rfl (v := -3) (by rfl) ?_
    exact g_iret hq h (i := 4) rfl (by unfold spS; rw [if_neg (bI_0.mp c_4)]; exact ⟨rfl, bf_0, hB⟩)
def z32 : Nat → Int32 := fun _ => 0
def bgI (w : Wd) (m i : Nat) : Wd := dW w (ua (ua (wI w) (m + 4) (setn (wI w (m + 4)) 0 z32 i)) (m + 5) (setn (wI w (m + 5)) 0 z32 i)) (wJ w) (wD w)
theorem bgI_0 (w : Wd) (m : Nat) : bgI w m 0 = w := by
  unfold bgI
  rw [setn_0, setn_0, ua_self]
  have e : ua (wI w) (m + 5) (wI w (m + 5)) = wI w := ua_self _ _
  rw [e]; rfl
theorem bgI_1 (w : Wd) (m i : Nat) : sI (sI (bgI w m i) (m + 4) i 0) (m + 5) i 0 = bgI w m (i + 1) := by
  have e4 : up1 (setn (wI w (m + 4)) 0 z32 i) i 0 = setn (wI w (m + 4)) 0 z32 (i + 1) := by
    have := setn_1 (wI w (m + 4)) 0 z32 i (v := 0) rfl
    rw [Nat.zero_add] at this; exact this
  have e5 : up1 (setn (wI w (m + 5)) 0 z32 i) i 0 = setn (wI w (m + 5)) 0 z32 (i + 1) := by
    have := setn_1 (wI w (m + 5)) 0 z32 i (v := 0) rfl
    rw [Nat.zero_add] at this; exact this
  have e : up2 (up2 (ua (ua (wI w) (m + 4) (setn (wI w (m + 4)) 0 z32 i)) (m + 5) (setn (wI w (m + 5)) 0 z32 i)) (m + 4) i 0) (m + 5) i 0 = ua (ua (wI w) (m + 4) (setn (wI w (m + 4)) 0 z32 (i + 1))) (m + 5) (setn (wI w (m + 5)) 0 z32 (i + 1)) := by
    rw [up2_ua, up2_ua, ua_a (show m + 4 ≠ m + 5 by omega), ua_s, ua_a (show m + 5 ≠ m + 4 by omega), ua_s, e4, e5]
    funext x
    by_cases h5 : x = m + 5
    · subst h5; rw [ua_s, ua_s]
    · rw [ua_a h5, ua_a h5]
      by_cases h4 : x = m + 4
      · subst h4; rw [ua_s, ua_s]
      · rw [ua_a h4, ua_a h5, ua_a h4, ua_a h4]
  exact congrArg (fun I => dW w I (wJ w) (wD w)) e
def begW (w : Wd) (m : Nat) : Wd := sI (sI (sI (sI (sI (sI (sI (sI (bgI w m 8) m 8 1) m 9 0) m 10 0) m 11 0) m 7 0) m 12 0) m 15 (-1)) m 16 (-1)
-- begin
set_option maxRecDepth 100000 in
set_option maxHeartbeats 4000000 in
theorem ct_X3_begin (l : Launch) (E : EE) (w : Wd) (m : Nat) (hlo : E.2.2 ≤ wN w) (hM : LayM w m) : Ct l E yX3_begin cX3_begin 2 none ({ frames := 0, cells := 0, slots := 0, locals := 0 } : Room) [.ref m] w 0 0 (Px none (begW w m)) := by
  refine ct_in (il := il_X3_begin) (by decide) dk_X3_begin (Nat.le_of_ble_eq_true rfl) hlo ?_
  intro X h hq

  have hM0 := hM
  have key : ∀ (d i : Nat), i + d = 8 → G X 0 0 2 (lf [(0, .ref m), (1, .int (nI i))]) [] (bgI w m i) := by
    intro d
    induction d with
    | zero =>
      intro i hi
      have hi4 : i = 8 := by omega
      subst hi4
      have hM : LayM (bgI w m 8) m := hM0
      refine g_iload_n h (i := 2) rfl rfl ?_
      refine g_bipush h (i := 3) rfl (v := 8) (by rfl) ?_
      refine g_icmp_ge h (i := 4) 28 rfl rfl (fun c_5 => ?_) (fun c_5 => absurd (by decide : (8 : Int32) ≤ nI 8) c_5)
      refine g_aload_n h (i := 17) rfl rfl ?_
      refine g_iconst h (i := 18) rfl (v := 1) (by rfl) ?_
      refine g_putI_0 h (i := 19) rfl fl_X3_39 nf_3_8 (fun _ _ _ => rfl) (lk_M hM) (rfl) (by rfl) ?_
      refine g_aload_n h (i := 20) rfl rfl ?_
      refine g_iconst h (i := 21) rfl (v := 0) (by rfl) ?_
      refine g_putI_0 h (i := 22) rfl fl_X3_52 nf_3_9 (fun _ _ _ => rfl) (lk_M hM) (rfl) (by rfl) ?_
      refine g_aload_n h (i := 23) rfl rfl ?_
      refine g_iconst h (i := 24) rfl (v := 0) (by rfl) ?_
      refine g_putI_0 h (i := 25) rfl fl_X3_55 nf_3_10 (fun _ _ _ => rfl) (lk_M hM) (rfl) (by rfl) ?_
      refine g_aload_n h (i := 26) rfl rfl ?_
      refine g_iconst h (i := 27) rfl (v := 0) (by rfl) ?_
      refine g_putI_0 h (i := 28) rfl fl_X3_58 nf_3_11 (fun _ _ _ => rfl) (lk_M hM) (rfl) (by rfl) ?_
      refine g_aload_n h (i := 29) rfl rfl ?_
      refine g_iconst h (i := 30) rfl (v := 0) (by rfl) ?_
      refine g_putI_0 h (i := 31) rfl fl_X3_61 nf_3_7 (fun _ _ _ => rfl) (lk_M hM) (rfl) (by rfl) ?_
      refine g_aload_n h (i := 32) rfl rfl ?_
      refine g_iconst h (i := 33) rfl (v := 0) (by rfl) ?_
      refine g_putI_0 h (i := 34) rfl fl_X3_64 nf_3_12 (fun _ _ _ => rfl) (lk_M hM) (rfl) (by rfl) ?_
      refine g_aload_n h (i := 35) rfl rfl ?_
      refine g_iconst h (i := 36) rfl (v := -1) (by rfl) ?_
      refine g_putI_0 h (i := 37) rfl fl_X3_43 nf_3_15 (fun _ _ _ => rfl) (lk_M hM) (rfl) (by rfl) ?_
      refine g_aload_n h (i := 38) rfl rfl ?_
      refine g_iconst h (i := 39) rfl (v := -1) (by rfl) ?_
      refine g_putI_0 h (i := 40) rfl fl_X3_46 nf_3_16 (fun _ _ _ => rfl) (lk_M hM) (rfl) (by rfl) ?_
      exact g_vret hq h (i := 41) rfl (⟨rfl, rfl⟩)
    | succ d ih =>
      intro i hid
      have hi : i < 8 := by omega
      have hM : LayM (bgI w m i) m := hM0
      have hnge : ¬ (8 : Int32) ≤ nI i := nI_ge (b := 8) hi (by omega)
      have hvp : vp_in (nI i) 8 := vp_in_nI hi (by omega)
      refine g_iload_n h (i := 2) rfl rfl ?_
      refine g_bipush h (i := 3) rfl (v := 8) (by rfl) ?_
      refine g_icmp_ge h (i := 4) 28 rfl rfl (fun c_5 => absurd c_5 hnge) (fun c_5 => ?_)
      refine g_aload_n h (i := 5) rfl rfl ?_
      refine g_getR h (i := 6) rfl fl_X3_23 (fun _ _ _ => rfl) (lk_M hM) (lm_outs hM) ?_
      refine g_iload_n h (i := 7) rfl rfl ?_
      refine g_iconst h (i := 8) rfl (v := 0) (by rfl) ?_
      refine g_zast h (i := 9) rfl (ln_outs hM) (hvp) (rfl) ?_
      refine g_aload_n h (i := 10) rfl rfl ?_
      refine g_getR h (i := 11) rfl fl_X3_26 (fun _ _ _ => rfl) (lk_M hM) (lm_registers hM) ?_
      refine g_iload_n h (i := 12) rfl rfl ?_
      refine g_iconst h (i := 13) rfl (v := 0) (by rfl) ?_
      refine g_iast h (i := 14) rfl (ln_registers hM) (hvp) ?_
      refine g_w (bgI w m (i + 1)) (by rw [nI_clamp (by omega)]; exact bgI_1 w m i) ?_
      refine g_iinc h (i := 15) rfl rfl (dv := 1) (by rfl) ?_
      refine g_goto h (i := 16) 2 rfl rfl ?_
      exact g_lv [(0, .ref m), (1, .int (nI (i + 1)))] ⟨rfl, congrArg (fun z => some (Value.int z)) (nI_1 i), trivial⟩ (ih (i + 1) (by omega))
  refine g_iconst h (i := 0) rfl (v := 0) (by rfl) ?_
  refine g_istore_n h (i := 1) rfl hq rfl ?_
  exact g_lv [(0, .ref m), (1, .int (nI 0))] ⟨rfl, rfl, trivial⟩ (by have := key 8 0 (by omega); rw [bgI_0] at this; exact this)
theorem rm_beg {w : Wd} {m : Nat} {r : Nat → Int64} (h : RepM w m r) (h46 : r 46 = 0) (h47 : r 47 = 0) : RepM (begW w m) m (runR r) := by
  have e : cfW (bgI w m 8) m = ua (ua (cfW w m) 4 (setn (cfW w m 4) 0 z32 8)) 5 (setn (cfW w m 5) 0 z32 8) := by
    funext f
    show ua (ua (wI w) (m + 4) (setn (wI w (m + 4)) 0 z32 8)) (m + 5) (setn (wI w (m + 5)) 0 z32 8) (m + f) = ua (ua (cfW w m) 4 (setn (cfW w m 4) 0 z32 8)) 5 (setn (cfW w m 5) 0 z32 8) f
    by_cases h5 : f = 5
    · subst h5; rw [ua_s, ua_s]; rfl
    · rw [ua_a h5, ua_a (show m + f ≠ m + 5 by omega)]
      by_cases h4 : f = 4
      · subst h4; rw [ua_s, ua_s]; rfl
      · rw [ua_a h4, ua_a (show m + f ≠ m + 4 by omega)]; rfl
  show RepV (cfW (begW w m) m) (wJ w (m + 2)) _
  unfold begW
  rw [cf_0, cf_0, cf_0, cf_0, cf_0, cf_0, cf_0, cf_0, e]
  unfold runR
  exact ⟨rfl, rfl, rfl, rfl, rfl, rfl, (h.2.2.2.2.2.2.1).trans (by rw [h47]; rfl), (h.2.2.2.2.2.2.2.1).trans (by rw [h46]; rfl), rfl, rfl, fun t => absurd (show (0 : Int64) = 1 from t) (by decide), fun j hj => (h.2.2.2.2.2.2.2.2.2.2.2.1 j hj).trans (congrArg Int64.toInt32 (Eq.symm (by first | rfl | ((try unfold overR); (repeat first | rw [up1_k (by omega)] | rw [setn_o (by omega)]))))), fun j hj => (h.2.2.2.2.2.2.2.2.2.2.2.2.1 j hj).trans (Eq.symm (by first | rfl | ((try unfold overR); (repeat first | rw [up1_k (by omega)] | rw [setn_o (by omega)])))), fun j hj => (h.2.2.2.2.2.2.2.2.2.2.2.2.2.1 j hj).trans (congrArg Int64.toInt32 (Eq.symm (by first | rfl | ((try unfold overR); (repeat first | rw [up1_k (by omega)] | rw [setn_o (by omega)]))))), fun j hj => (setn_i (f := z32) (Nat.zero_add j).symm hj).trans (congrArg Int64.toInt32 (Eq.symm ((setn_o (by omega)).trans (setn_i (f := fun _ => (0 : Int64)) rfl hj)))), fun j hj => (setn_i (f := z32) (Nat.zero_add j).symm hj).trans (congrArg Int64.toInt32 (Eq.symm (setn_i (f := fun _ => (0 : Int64)) rfl hj))), fun j hj hj2 => absurd (show j < pN 0 from hj2) (Nat.not_lt_zero j), fun t => absurd (show (0 : Int64) = 1 from t) (by decide)⟩
theorem tf_beg {c m : Nat} {w : Wd} : TF c m w (begW w m) := by
  have b : TF c m w (bgI w m 8) := tf_d tf_0 (fun p h1 h2 => (ua_a (by omega)).trans (ua_a (by omega))) (fun _ _ => rfl) (fun _ _ => rfl)
  exact tf_I (tf_I (tf_I (tf_I (tf_I (tf_I (tf_I (tf_I b (by omega)) (by omega)) (by omega)) (by omega)) (by omega)) (by omega)) (by omega)) (by omega)
-- run
set_option maxRecDepth 100000 in
set_option maxHeartbeats 4000000 in
theorem ct_X9_run (l : Launch) (E : EE) (w : Wd) (b : Nat) (cf : Nat → Nat → Int32) (R : Nat → Int64) (hlo : E.2.2 ≤ wN w) (hL : LayB w b) (hB : RepB w b cf R) (hr : FA R) (hx : XR R) : Ct l E yX9_run cX9_run 1 (some .int) ({ frames := 1, cells := 0, slots := 0, locals := 21 } : Room) [.ref b] w 0 0 (CS b w (rnS cf R)) := by
  refine ct_in (il := il_X9_run) (by decide) dk_X9_run (Nat.le_of_ble_eq_true rfl) hlo ?_
  intro X h hq

  refine g_aload_n h (i := 0) rfl rfl ?_
  refine g_callVx h hq (i := 1) rfl mv_X9_60 cls9 (lb_k hL) (ct_X9_isGoing l E w b cf R hlo hL hB hr) rfl rfl ⟨rfl, rfl, Nat.le_of_ble_eq_true rfl, Nat.le_of_ble_eq_true rfl⟩ (Nat.le_of_ble_eq_true rfl) ⟨Nat.zero_le _, Nat.zero_le _⟩ ?_
  refine g_if_eq h (i := 2) 10 rfl rfl (fun c_4 => ?_) (fun c_4 => ?_)
  · skip
    refine g_aload_n h (i := 5) rfl rfl ?_
    refine g_getR h (i := 6) rfl fl_X9_19 (fun _ _ _ => rfl) (lb_k hL) (lb_now hL) ?_
    refine g_callVn h hq (i := 7) rfl mv_X9_207 cls3 (lk_M (lb_M hL)) (ct_X3_begin l E w (b + 55) hlo (lb_M hL)) rfl rfl ⟨rfl, rfl, Nat.le_of_ble_eq_true rfl, Nat.le_of_ble_eq_true rfl⟩ (Nat.le_of_ble_eq_true rfl) ⟨Nat.zero_le _, Nat.zero_le _⟩ ?_
    refine g_iconst h (i := 8) rfl (v := 1) (by rfl) ?_
    exact g_iret hq h (i := 9) rfl (by
      have n28 := bI_0.mp c_4
      have h46 : R 46 = 0 := Decidable.not_not.mp (fun t => n28 (hx.2.1 t).2.2)
      have h47 : R 47 = 0 := hx.1 h46
      unfold rnS
      rw [if_neg n28]
      refine ⟨rfl, bf_TF (m := b + 55) tf_beg (by omega), rb_tf hB tf_beg (rm_beg hB.2.1 h46 h47) (fun y h1 h2 => ?_)⟩
      show runR R y = R y
      unfold runR
      rw [setn_o (by omega), setn_o (by omega), setn_o (by omega), up1_k (by omega)])
  · skip
    refine g_bipush h (i := 3) rfl (v := -3) (by rfl) ?_
    exact g_iret hq h (i := 4) rfl (by unfold rnS; rw [if_pos (bI_1.mp c_4)]; exact ⟨rfl, bf_0, hB⟩)
-- tick
set_option maxRecDepth 100000 in
set_option maxHeartbeats 4000000 in
theorem ct_X9_tick (l : Launch) (E : EE) (w : Wd) (b : Nat) (cf : Nat → Nat → Int32) (R : Nat → Int64) (v : Int32) (hlo : E.2.2 ≤ wN w) (hL : LayB w b) (hB : RepB w b cf R) (hr : RR R) (hc : CfR cf) (ht : isN (R 29) 1000000000) : Ct l E yX9_tick cX9_tick 3 (some .int) ({ frames := 6, cells := 0, slots := 0, locals := 148 } : Room) [.ref b, .int v] w 0 0 (fun q w2 => q = some (.int (tickA cf v R).1) ∧ BF b w w2 ∧ RepB w2 b cf (tickA cf v R).2) := by
  refine ct_in (il := il_X9_tick) (by decide) dk_X9_tick (Nat.le_of_ble_eq_true rfl) hlo ?_
  intro X h hq

  have hlo0 := hlo
  have hL0 := hL
  have loop : (1 ≤ v ∧ v ≤ 200) → ∀ (d i : Nat) (w3 : Wd) (q : Nat → Int64), i + d = pI v → BF b w w3 → RepB w3 b cf q → RR q → isN (q 29) (1000000000 + i) → tickN cf d q = tickN cf (pI v) R → G X 0 0 16 (lf [(0, .ref b), (1, .int v), (2, .int (nI i))]) [] w3 := by
    intro hv
    obtain ⟨v1, v2⟩ := shx200 hv
    have fin : ∀ (w3 : Wd), BF b w w3 → RepB w3 b cf (tickN cf (pI v) R) → G X 0 0 45 (lf [(0, .ref b)]) [] w3 := by
      intro w3 hF hB3
      have hL := (bf_L hF).1 b hL0
      refine g_aload_n h (i := 22) rfl rfl ?_
      refine g_getR h (i := 23) rfl fl_X9_19 (fun _ _ _ => rfl) (lb_k hL) (lb_now hL) ?_
      refine g_getI h (i := 24) rfl fl_X9_214 (fun _ _ _ => rfl) (lk_M (lb_M hL)) ?_
      refine g_eqi (tickN cf (pI v) R 28).toInt32 (hB3.2.1.2.1) ?_
      exact g_iret hq h (i := 25) rfl (by unfold tickA; rw [if_pos hv]; exact ⟨rfl, hF, hB3⟩)
    intro d
    induction d with
    | zero =>
      intro i w3 q hi hF hB3 hrq ht3 hg
      have hi4 : i = pI v := by omega
      have hqe : q = tickN cf (pI v) R := hg
      have hL := (bf_L hF).1 b hL0
      refine g_iload_n h (i := 9) rfl rfl ?_
      refine g_iload_n h (i := 10) rfl rfl ?_
      refine g_icmp_ge h (i := 11) 45 rfl rfl (fun c_18 => ?_) (fun c_18 => absurd (show v ≤ nI i by rw [hi4, ← v1]; exact Int32.le_refl _) c_18)
      rw [hqe] at hB3
      exact g_lv [(0, .ref b)] ⟨rfl, trivial⟩ (fin w3 hF hB3)
    | succ d ih =>
      intro i w3 q hi hF hB3 hrq ht3 hg
      have hL := (bf_L hF).1 b hL0
      have hlo : E.2.2 ≤ wN w3 := by rw [(bf_L hF).2.1]; exact hlo0
      have hnge : ¬ v ≤ nI i := fun z => by rw [v1] at z; exact absurd z (nI_ge (by omega) (by omega))
      refine g_iload_n h (i := 9) rfl rfl ?_
      refine g_iload_n h (i := 10) rfl rfl ?_
      refine g_icmp_ge h (i := 11) 45 rfl rfl (fun c_18 => absurd c_18 hnge) (fun c_18 => ?_)
      refine g_aload_n h (i := 12) rfl rfl ?_
      refine g_callVx h hq (i := 13) rfl mv_X9_60 cls9 (lb_k hL) (ct_X9_isGoing l E w3 b cf q hlo hL hB3 hrq.1) rfl rfl ⟨rfl, rfl, Nat.le_of_ble_eq_true rfl, Nat.le_of_ble_eq_true rfl⟩ (Nat.le_of_ble_eq_true rfl) ⟨Nat.zero_le _, Nat.zero_le _⟩ ?_
      refine g_if_eq h (i := 14) 45 rfl rfl (fun c_25 => ?_) (fun c_25 => ?_)
      · skip
        have hqe : q = tickN cf (pI v) R := by rw [← hg]; exact (if_neg (bI_0.mp c_25)).symm
        rw [hqe] at hB3
        exact g_lv [(0, .ref b)] ⟨rfl, trivial⟩ (fin w3 hF hB3)
      · skip
        have g28 := bI_1.mp c_25
        refine g_aload_n h (i := 15) rfl rfl ?_
        refine g_getR h (i := 16) rfl fl_X9_10 (fun _ _ _ => rfl) (lb_k hL) (lb_cell hL) ?_
        refine g_aload_n h (i := 17) rfl rfl ?_
        refine g_getR h (i := 18) rfl fl_X9_19 (fun _ _ _ => rfl) (lb_k hL) (lb_now hL) ?_
        refine g_callVp (w0 := w) h hq (i := 19) rfl mv_X9_210 cls1 (lc_k (lb_C hL)) (ct_X1_oneTick l E w3 (b + 1) (b + 55) cf q hlo (lb_C hL) (lb_M hL) (by omega) hB3.2.1 hB3.1 hrq hc (isN_up ht3 (by omega))) rfl rfl ⟨rfl, rfl, Nat.le_of_ble_eq_true rfl, Nat.le_of_ble_eq_true rfl⟩ (Nat.le_of_ble_eq_true rfl) ⟨Nat.zero_le _, Nat.zero_le _⟩ (fun r36 w36 hp36 => ?_)
        obtain ⟨rfl, hT, hM3⟩ := hp36
        rw [show tkG cf q = ticksR cf q from if_pos g28] at hM3
        refine g_iinc h (i := 20) rfl rfl (dv := 1) (by rfl) ?_
        refine g_goto h (i := 21) 16 rfl rfl ?_
        have hi68 := hi_68 hc hrq g28
        exact g_lv [(0, .ref b), (1, .int v), (2, .int (nI (i + 1)))] ⟨rfl, rfl, congrArg (fun z => some (Value.int z)) (nI_1 i), trivial⟩ (ih (i + 1) _ _ (by omega) (bf_t hF (bf_TF hT (by omega))) (rb_tf hB3 hT hM3 (fun y h1 h2 => hi68.1 y h1)) (rr_ticks hc hrq g28) (by rw [hi68.2]; exact (isN_1 ht3 (by omega)).1) (by rw [← hg]; exact (if_pos g28).symm))
  refine g_iload_n h (i := 0) rfl rfl ?_
  refine g_iconst h (i := 1) rfl (v := 1) (by rfl) ?_
  refine g_sipush h (i := 2) rfl (v := 200) (by rfl) ?_
  refine g_callSx h hq (i := 3) rfl ms_X9_55 (ct_X9_isWithin l E _ v (1) (200) hlo) rfl rfl ⟨rfl, rfl, Nat.le_of_ble_eq_true rfl, Nat.le_of_ble_eq_true rfl⟩ (Nat.le_of_ble_eq_true rfl) ⟨Nat.zero_le _, Nat.zero_le _⟩ ?_
  refine g_if_ne h (i := 4) 14 rfl rfl (fun c_8 => ?_) (fun c_8 => ?_)
  · skip
    refine g_iconst h (i := 7) rfl (v := 0) (by rfl) ?_
    refine g_istore_n h (i := 8) rfl hq rfl ?_
    exact g_lv [(0, .ref b), (1, .int v), (2, .int (nI 0))] ⟨rfl, rfl, rfl, trivial⟩ (loop (bI_1.mp c_8) (pI v) 0 w R (by omega) bf_0 hB hr (isN_up ht (by omega)) rfl)
  · skip
    refine g_bipush h (i := 5) rfl (v := -2) (by rfl) ?_
    exact g_iret hq h (i := 6) rfl (by unfold tickA; rw [if_neg (bI_0.mp c_8)]; exact ⟨rfl, bf_0, hB⟩)
theorem n9e (o : Int32) : (o = 0 ∨ o = 1 ∨ o = 2 ∨ o = 3 ∨ o = 4 ∨ o = 5 ∨ o = 6 ∨ o = 7 ∨ o = 8) ∨ (o.toInt < 0 ∨ 8 < o.toInt) := by
  by_cases h : o.toInt < 0 ∨ 8 < o.toInt
  · exact Or.inr h
  · left
    have e : o = nI (pI o) := i32x (by unfold pI; rw [nIT (by omega)]; omega)
    have l : pI o = 8 ∨ pI o ≤ 7 := by unfold pI; omega
    rcases l with n | l
    · rw [n] at e; rw [e]; decide
    · rcases n8 l with n | n | n | n | n | n | n | n
      all_goals (rw [n] at e; rw [e]; decide)
theorem n3e (o : Int32) : (o = 0 ∨ o = 1 ∨ o = 2) ∨ (o.toInt < 0 ∨ 2 < o.toInt) := by
  by_cases h : o.toInt < 0 ∨ 2 < o.toInt
  · exact Or.inr h
  · left
    have e : o = nI (pI o) := i32x (by unfold pI; rw [nIT (by omega)]; omega)
    have l : pI o = 0 ∨ pI o = 1 ∨ pI o = 2 := by unfold pI; omega
    rcases l with n | n | n
    all_goals (rw [n] at e; rw [e]; decide)
def abA (x : Int32) (r : Nat → Int64) : Int32 := if 0 ≤ x ∧ x ≤ 8 then abO x r else -2
-- about
set_option maxRecDepth 100000 in
set_option maxHeartbeats 4000000 in
theorem ct_X9_about (l : Launch) (E : EE) (w : Wd) (b : Nat) (cf : Nat → Nat → Int32) (R : Nat → Int64) (x : Int32) (hlo : E.2.2 ≤ wN w) (hL : LayB w b) (hB : RepB w b cf R) : Ct l E yX9_about cX9_about 2 (some .int) ({ frames := 0, cells := 0, slots := 0, locals := 0 } : Room) [.ref b, .int x] w 0 0 (Px (some (.int (abA x R))) w) := by
  refine ct_in (il := il_X9_about) (by decide) dk_X9_about (Nat.le_of_ble_eq_true rfl) hlo ?_
  intro X h hq

  rcases n9e x with hsw | hsw
  · skip
    refine g_iload_n h (i := 0) rfl rfl ?_
    rcases hsw with e | e | e | e | e | e | e | e | e
    · skip
      subst e
      refine g_tin h (i := 1) 52 rfl (by decide) (by decide) rfl rfl ?_
      refine g_aload_n h (i := 2) rfl rfl ?_
      refine g_getR h (i := 3) rfl fl_X9_19 (fun _ _ _ => rfl) (lb_k hL) (lb_now hL) ?_
      refine g_getI h (i := 4) rfl fl_X9_214 (fun _ _ _ => rfl) (lk_M (lb_M hL)) ?_
      refine g_eqi (R 28).toInt32 (hB.2.1.2.1) ?_
      exact g_iret hq h (i := 5) rfl (⟨by unfold abA abO; rw [if_pos (by decide), if_pos rfl], rfl⟩)
    · skip
      subst e
      refine g_tin h (i := 1) 60 rfl (by decide) (by decide) rfl rfl ?_
      refine g_aload_n h (i := 6) rfl rfl ?_
      refine g_getR h (i := 7) rfl fl_X9_19 (fun _ _ _ => rfl) (lb_k hL) (lb_now hL) ?_
      refine g_getI h (i := 8) rfl fl_X9_221 (fun _ _ _ => rfl) (lk_M (lb_M hL)) ?_
      refine g_eqi (R 29).toInt32 (hB.2.1.2.2.1) ?_
      exact g_iret hq h (i := 9) rfl (⟨by unfold abA abO; rw [if_pos (by decide), if_neg (by decide), if_pos rfl], rfl⟩)
    · skip
      subst e
      refine g_tin h (i := 1) 68 rfl (by decide) (by decide) rfl rfl ?_
      refine g_aload_n h (i := 10) rfl rfl ?_
      refine g_getR h (i := 11) rfl fl_X9_19 (fun _ _ _ => rfl) (lb_k hL) (lb_now hL) ?_
      refine g_getI h (i := 12) rfl fl_X9_224 (fun _ _ _ => rfl) (lk_M (lb_M hL)) ?_
      refine g_eqi (R 30).toInt32 (hB.2.1.2.2.2.1) ?_
      exact g_iret hq h (i := 13) rfl (⟨by unfold abA abO; rw [if_pos (by decide), if_neg (by decide), if_neg (by decide), if_pos rfl], rfl⟩)
    · skip
      subst e
      refine g_tin h (i := 1) 76 rfl (by decide) (by decide) rfl rfl ?_
      refine g_aload_n h (i := 14) rfl rfl ?_
      refine g_getR h (i := 15) rfl fl_X9_19 (fun _ _ _ => rfl) (lb_k hL) (lb_now hL) ?_
      refine g_getI h (i := 16) rfl fl_X9_227 (fun _ _ _ => rfl) (lk_M (lb_M hL)) ?_
      refine g_eqi (R 31).toInt32 (hB.2.1.2.2.2.2.1) ?_
      exact g_iret hq h (i := 17) rfl (⟨by unfold abA abO; rw [if_pos (by decide), if_neg (by decide), if_neg (by decide), if_neg (by decide), if_pos rfl], rfl⟩)
    · skip
      subst e
      refine g_tin h (i := 1) 84 rfl (by decide) (by decide) rfl rfl ?_
      refine g_aload_n h (i := 18) rfl rfl ?_
      refine g_getR h (i := 19) rfl fl_X9_19 (fun _ _ _ => rfl) (lb_k hL) (lb_now hL) ?_
      refine g_getI h (i := 20) rfl fl_X9_230 (fun _ _ _ => rfl) (lk_M (lb_M hL)) ?_
      refine g_eqi (R 32).toInt32 (hB.2.1.1) ?_
      exact g_iret hq h (i := 21) rfl (⟨by unfold abA abO; rw [if_pos (by decide), if_neg (by decide), if_neg (by decide), if_neg (by decide), if_neg (by decide), if_pos rfl], rfl⟩)
    · skip
      subst e
      refine g_tin h (i := 1) 92 rfl (by decide) (by decide) rfl rfl ?_
      refine g_aload_n h (i := 22) rfl rfl ?_
      refine g_getR h (i := 23) rfl fl_X9_19 (fun _ _ _ => rfl) (lb_k hL) (lb_now hL) ?_
      refine g_getI h (i := 24) rfl fl_X9_233 (fun _ _ _ => rfl) (lk_M (lb_M hL)) ?_
      refine g_eqi (R 45).toInt32 (hB.2.1.2.2.2.2.2.1) ?_
      exact g_iret hq h (i := 25) rfl (⟨by unfold abA abO; rw [if_pos (by decide), if_neg (by decide), if_neg (by decide), if_neg (by decide), if_neg (by decide), if_neg (by decide), if_pos rfl], rfl⟩)
    · skip
      subst e
      refine g_tin h (i := 1) 100 rfl (by decide) (by decide) rfl rfl ?_
      refine g_aload_n h (i := 26) rfl rfl ?_
      refine g_getR h (i := 27) rfl fl_X9_19 (fun _ _ _ => rfl) (lb_k hL) (lb_now hL) ?_
      refine g_getI h (i := 28) rfl fl_X9_236 (fun _ _ _ => rfl) (lk_M (lb_M hL)) ?_
      refine g_eqi (R 47).toInt32 (hB.2.1.2.2.2.2.2.2.1) ?_
      exact g_iret hq h (i := 29) rfl (⟨by unfold abA abO; rw [if_pos (by decide), if_neg (by decide), if_neg (by decide), if_neg (by decide), if_neg (by decide), if_neg (by decide), if_neg (by decide), if_pos rfl], rfl⟩)
    · skip
      subst e
      refine g_tin h (i := 1) 108 rfl (by decide) (by decide) rfl rfl ?_
      refine g_aload_n h (i := 30) rfl rfl ?_
      refine g_getR h (i := 31) rfl fl_X9_19 (fun _ _ _ => rfl) (lb_k hL) (lb_now hL) ?_
      refine g_getI h (i := 32) rfl fl_X9_239 (fun _ _ _ => rfl) (lk_M (lb_M hL)) ?_
      refine g_eqi (bI (R 46 = 1)) (hB.2.1.2.2.2.2.2.2.2.1) ?_
      refine g_if_eq h (i := 33) 122 rfl rfl (fun c_115 => ?_) (fun c_115 => ?_)
      · skip
        refine g_iconst h (i := 36) rfl (v := 0) (by rfl) ?_
        exact g_iret hq h (i := 37) rfl (⟨by unfold abA abO; rw [if_pos (by decide), if_neg (by decide), if_neg (by decide), if_neg (by decide), if_neg (by decide), if_neg (by decide), if_neg (by decide), if_neg (by decide), if_pos rfl]; exact rF (bI_0.mp c_115), rfl⟩)
      · skip
        refine g_iconst h (i := 34) rfl (v := 1) (by rfl) ?_
        refine g_goto h (i := 35) 123 rfl rfl ?_
        exact g_iret hq h (i := 37) rfl (⟨by unfold abA abO; rw [if_pos (by decide), if_neg (by decide), if_neg (by decide), if_neg (by decide), if_neg (by decide), if_neg (by decide), if_neg (by decide), if_neg (by decide), if_pos rfl]; exact rT (bI_1.mp c_115), rfl⟩)
    · skip
      subst e
      refine g_tin h (i := 1) 124 rfl (by decide) (by decide) rfl rfl ?_
      refine g_aload_n h (i := 38) rfl rfl ?_
      refine g_getR h (i := 39) rfl fl_X9_19 (fun _ _ _ => rfl) (lb_k hL) (lb_now hL) ?_
      refine g_getI h (i := 40) rfl fl_X9_242 (fun _ _ _ => rfl) (lk_M (lb_M hL)) ?_
      refine g_eqi (R 48).toInt32 (hB.2.1.2.2.2.2.2.2.2.2.1) ?_
      exact g_iret hq h (i := 41) rfl (⟨by unfold abA abO; rw [if_pos (by decide), if_neg (by decide), if_neg (by decide), if_neg (by decide), if_neg (by decide), if_neg (by decide), if_neg (by decide), if_neg (by decide), if_neg (by decide)], rfl⟩)
  · skip
    refine g_iload_n h (i := 0) rfl rfl ?_
    skip
    · skip
      skip
      refine g_tout h (i := 1) 132 rfl (hsw) rfl ?_
      refine g_bipush h (i := 42) rfl (v := -2) (by rfl) ?_
      exact g_iret hq h (i := 43) rfl (⟨by unfold abA; rw [if_neg (fun q => by have a := i32le.mp q.1; have c := i32le.mp q.2; have e0 : (0 : Int32).toInt = 0 := rfl; have e8 : (8 : Int32).toInt = 8 := rfl; omega)], rfl⟩)
theorem b01 {u : Int64} (h : isN u 1) (hn : ¬ u.toInt32 = 0) : u.toInt32 = 1 := by
  have e := i32eta h (by omega)
  have l := h.2
  rcases (by omega : pN u = 0 ∨ pN u = 1) with z | z
  · rw [z] at e; exact absurd e hn
  · rw [z] at e; exact e
-- at
set_option maxRecDepth 100000 in
set_option maxHeartbeats 4000000 in
theorem ct_X9_at (l : Launch) (E : EE) (w : Wd) (b : Nat) (cf : Nat → Nat → Int32) (R : Nat → Int64) (x i : Int32) (hlo : E.2.2 ≤ wN w) (hL : LayB w b) (hB : RepB w b cf R) (hr : FA R) : Ct l E yX9_at cX9_at 3 (some .int) ({ frames := 2, cells := 0, slots := 0, locals := 42 } : Room) [.ref b, .int x, .int i] w 0 0 (Px (some (.int (atA x i R))) w) := by
  refine ct_in (il := il_X9_at) (by decide) dk_X9_at (Nat.le_of_ble_eq_true rfl) hlo ?_
  intro X h hq


  rcases n3e x with hsw | hsw
  · skip
    refine g_iload_n h (i := 0) rfl rfl ?_
    refine g_callSx h hq (i := 1) rfl ms_X9_191 (ct_X9_isSignal l E _ i hlo) rfl rfl ⟨rfl, rfl, Nat.le_of_ble_eq_true rfl, Nat.le_of_ble_eq_true rfl⟩ (Nat.le_of_ble_eq_true rfl) ⟨Nat.zero_le _, Nat.zero_le _⟩ ?_
    refine g_if_ne h (i := 2) 10 rfl rfl (fun c_4 => ?_) (fun c_4 => ?_)
    · skip
      obtain ⟨hj, hj3⟩ := jx (M := 7) (bI_1.mp c_4) (by decide)
      refine g_iload_n h (i := 5) rfl rfl ?_
      rcases hsw with e | e | e
      · skip
        subst e
        refine g_tin h (i := 6) 36 rfl (by decide) (by decide) rfl rfl ?_
        refine g_aload_n h (i := 7) rfl rfl ?_
        refine g_getR h (i := 8) rfl fl_X9_19 (fun _ _ _ => rfl) (lb_k hL) (lb_now hL) ?_
        refine g_getR h (i := 9) rfl fl_X9_245 (fun _ _ _ => rfl) (lk_M (lb_M hL)) (lm_outs (lb_M hL)) ?_
        refine g_iload_n h (i := 10) rfl rfl ?_
        refine g_zald h (i := 11) rfl (ln_outs (lb_M hL)) (jvp (bI_1.mp c_4) (by decide) (by omega)) ?_
        refine g_eqi (R (12 + pI i)).toInt32 (hB.2.1.2.2.2.2.2.2.2.2.2.2.2.2.2.2.1 (pI i) (by omega)) ?_
        refine g_if_eq h (i := 12) 52 rfl rfl (fun c_45 => ?_) (fun c_45 => ?_)
        · skip
          refine g_iconst h (i := 15) rfl (v := 0) (by rfl) ?_
          exact g_iret hq h (i := 16) rfl (⟨by unfold atA; rw [if_pos ⟨by decide, bI_1.mp c_4⟩, if_pos rfl]; rw [c_45], rfl⟩)
        · skip
          refine g_iconst h (i := 13) rfl (v := 1) (by rfl) ?_
          refine g_goto h (i := 14) 53 rfl rfl ?_
          exact g_iret hq h (i := 16) rfl (⟨by unfold atA; rw [if_pos ⟨by decide, bI_1.mp c_4⟩, if_pos rfl]; rw [b01 ((fr_io (k := 12 + pI i) (by omega) (by omega)).mp (hr (12 + pI i))) c_45], rfl⟩)
      · skip
        subst e
        refine g_tin h (i := 6) 54 rfl (by decide) (by decide) rfl rfl ?_
        refine g_aload_n h (i := 17) rfl rfl ?_
        refine g_getR h (i := 18) rfl fl_X9_19 (fun _ _ _ => rfl) (lb_k hL) (lb_now hL) ?_
        refine g_getR h (i := 19) rfl fl_X9_248 (fun _ _ _ => rfl) (lk_M (lb_M hL)) (lm_registers (lb_M hL)) ?_
        refine g_iload_n h (i := 20) rfl rfl ?_
        refine g_iald h (i := 21) rfl (ln_registers (lb_M hL)) (jvp (bI_1.mp c_4) (by decide) (by omega)) ?_
        refine g_eqi (R (20 + pI i)).toInt32 (hB.2.1.2.2.2.2.2.2.2.2.2.2.2.2.2.2.2.1 (pI i) (by omega)) ?_
        exact g_iret hq h (i := 22) rfl (⟨by unfold atA; rw [if_pos ⟨by decide, bI_1.mp c_4⟩, if_neg (by decide), if_pos rfl], rfl⟩)
      · skip
        subst e
        refine g_tin h (i := 6) 64 rfl (by decide) (by decide) rfl rfl ?_
        refine g_aload_n h (i := 23) rfl rfl ?_
        refine g_getR h (i := 24) rfl fl_X9_19 (fun _ _ _ => rfl) (lb_k hL) (lb_now hL) ?_
        refine g_getR h (i := 25) rfl fl_X9_204 (fun _ _ _ => rfl) (lk_M (lb_M hL)) (lm_inputs (lb_M hL)) ?_
        refine g_iload_n h (i := 26) rfl rfl ?_
        refine g_zald h (i := 27) rfl (ln_inputs (lb_M hL)) (jvp (bI_1.mp c_4) (by decide) (by omega)) ?_
        refine g_eqi (R (4 + pI i)).toInt32 (hB.2.1.2.2.2.2.2.2.2.2.2.2.2.2.2.1 (pI i) (by omega)) ?_
        refine g_if_eq h (i := 28) 80 rfl rfl (fun c_73 => ?_) (fun c_73 => ?_)
        · skip
          refine g_iconst h (i := 31) rfl (v := 0) (by rfl) ?_
          exact g_iret hq h (i := 32) rfl (⟨by unfold atA; rw [if_pos ⟨by decide, bI_1.mp c_4⟩, if_neg (by decide), if_neg (by decide)]; rw [c_73], rfl⟩)
        · skip
          refine g_iconst h (i := 29) rfl (v := 1) (by rfl) ?_
          refine g_goto h (i := 30) 81 rfl rfl ?_
          exact g_iret hq h (i := 32) rfl (⟨by unfold atA; rw [if_pos ⟨by decide, bI_1.mp c_4⟩, if_neg (by decide), if_neg (by decide)]; rw [b01 ((fr_io (k := 4 + pI i) (by omega) (by omega)).mp (hr (4 + pI i))) c_73], rfl⟩)
    · skip
      refine g_ldc h (i := 3) rfl k_X9_98 ?_
      exact g_iret hq h (i := 4) rfl (⟨by unfold atA; rw [if_neg (fun q => bI_0.mp c_4 q.2)], rfl⟩)
  · skip
    refine g_iload_n h (i := 0) rfl rfl ?_
    refine g_callSx h hq (i := 1) rfl ms_X9_191 (ct_X9_isSignal l E _ i hlo) rfl rfl ⟨rfl, rfl, Nat.le_of_ble_eq_true rfl, Nat.le_of_ble_eq_true rfl⟩ (Nat.le_of_ble_eq_true rfl) ⟨Nat.zero_le _, Nat.zero_le _⟩ ?_
    refine g_if_ne h (i := 2) 10 rfl rfl (fun c_4 => ?_) (fun c_4 => ?_)
    · skip
      obtain ⟨hj, hj3⟩ := jx (M := 7) (bI_1.mp c_4) (by decide)
      refine g_iload_n h (i := 5) rfl rfl ?_
      skip
      · skip
        skip
        refine g_tout h (i := 6) 82 rfl (hsw) rfl ?_
        refine g_ldc h (i := 33) rfl k_X9_98 ?_
        exact g_iret hq h (i := 34) rfl (⟨by unfold atA; rw [if_neg (fun q => by have a := i32le.mp q.1.1; have c := i32le.mp q.1.2; have e0 : (0 : Int32).toInt = 0 := rfl; have e8 : (2 : Int32).toInt = 2 := rfl; omega)], rfl⟩)
    · skip
      refine g_ldc h (i := 3) rfl k_X9_98 ?_
      exact g_iret hq h (i := 4) rfl (⟨by unfold atA; rw [if_neg (fun q => bI_0.mp c_4 q.2)], rfl⟩)
-- how many
set_option maxRecDepth 100000 in
set_option maxHeartbeats 4000000 in
theorem ct_X1_boxesTold (l : Launch) (E : EE) (w : Wd) (c : Nat) (cf : Nat → Nat → Int32) (hlo : E.2.2 ≤ wN w) (hC : LayC w c) (hRC : RepC (cfW w c) cf) : Ct l E yX1_boxesTold cX1_boxesTold 3 (some .int) ({ frames := 0, cells := 0, slots := 0, locals := 0 } : Room) [.ref c] w 0 0 (Px (some (.int (nI (cnN (cf 9) 4)))) w) := by
  refine ct_in (il := il_X1_boxesTold) (by decide) dk_X1_boxesTold (Nat.le_of_ble_eq_true rfl) hlo ?_
  intro X h hq

  have key : ∀ (d i : Nat), i + d = 4 → G X 0 0 4 (lf [(0, .ref c), (1, .int (nI (cnN (cf 9) i))), (2, .int (nI i))]) [] w := by
    intro d
    induction d with
    | zero =>
      intro i hi
      have hi4 : i = 4 := by omega
      subst hi4
      refine g_iload_n h (i := 4) rfl rfl ?_
      refine g_iconst h (i := 5) rfl (v := 4) (by rfl) ?_
      refine g_icmp_ge h (i := 6) 35 rfl rfl (fun c_6 => ?_) (fun c_6 => absurd (by decide : (4 : Int32) ≤ nI 4) c_6)
      refine g_iload_n h (i := 21) rfl rfl ?_
      exact g_iret hq h (i := 22) rfl (⟨rfl, rfl⟩)
    | succ d ih =>
      intro i hid
      have hi : i < 4 := by omega
      have hnge : ¬ (4 : Int32) ≤ nI i := nI_ge (b := 4) hi (by omega)
      have hcl : (nI i).toNatClampNeg = i := nI_clamp (by omega)
      have e0 : wI w (c + 18 + i) 0 = cf 9 i := by rw [show c + 18 + i = c + (18 + i) by omega]; exact (hRC.2.1 i hi).1
      refine g_iload_n h (i := 4) rfl rfl ?_
      refine g_iconst h (i := 5) rfl (v := 4) (by rfl) ?_
      refine g_icmp_ge h (i := 6) 35 rfl rfl (fun c_6 => absurd c_6 hnge) (fun c_6 => ?_)
      refine g_iload_n h (i := 7) rfl rfl ?_
      refine g_aload_n h (i := 8) rfl rfl ?_
      refine g_getR h (i := 9) rfl fl_X1_19 (fun _ _ _ => rfl) (lc_k hC) (lc_boxes hC) ?_
      refine g_iload_n h (i := 10) rfl rfl ?_
      refine g_aald h (i := 11) rfl (by decide) (lk_boxes hC) (vp_in_nI (by omega) (by omega)) (by rw [hcl]; exact lc_bx hC hi) ?_
      refine g_getI h (i := 12) rfl fl_X1_57 (fun _ _ _ => rfl) (lk_bx hC hi) ?_
      refine g_eqi (cf 9 i) e0 ?_
      refine g_if_eq h (i := 13) 26 rfl rfl (fun c_19 => ?_) (fun c_19 => ?_)
      · skip
        refine g_iconst h (i := 16) rfl (v := 0) (by rfl) ?_
        refine g_iadd h (i := 17) rfl ?_
        refine g_istore_n h (i := 18) rfl hq rfl ?_
        refine g_iinc h (i := 19) rfl rfl (dv := 1) (by rfl) ?_
        refine g_goto h (i := 20) 4 rfl rfl ?_
        exact g_lv [(0, .ref c), (1, .int (nI (cnN (cf 9) (i + 1)))), (2, .int (nI (i + 1)))] ⟨rfl, congrArg (fun z => some (Value.int z)) (cn_0 c_19), congrArg (fun z => some (Value.int z)) (nI_1 i), trivial⟩ (ih (i + 1) (by omega))
      · skip
        refine g_iconst h (i := 14) rfl (v := 1) (by rfl) ?_
        refine g_goto h (i := 15) 27 rfl rfl ?_
        refine g_iadd h (i := 17) rfl ?_
        refine g_istore_n h (i := 18) rfl hq rfl ?_
        refine g_iinc h (i := 19) rfl rfl (dv := 1) (by rfl) ?_
        refine g_goto h (i := 20) 4 rfl rfl ?_
        exact g_lv [(0, .ref c), (1, .int (nI (cnN (cf 9) (i + 1)))), (2, .int (nI (i + 1)))] ⟨rfl, congrArg (fun z => some (Value.int z)) (cn_1 c_19), congrArg (fun z => some (Value.int z)) (nI_1 i), trivial⟩ (ih (i + 1) (by omega))
  refine g_iconst h (i := 0) rfl (v := 0) (by rfl) ?_
  refine g_istore_n h (i := 1) rfl hq rfl ?_
  refine g_iconst h (i := 2) rfl (v := 0) (by rfl) ?_
  refine g_istore_n h (i := 3) rfl hq rfl ?_
  exact g_lv [(0, .ref c), (1, .int (nI (cnN (cf 9) 0))), (2, .int (nI 0))] ⟨rfl, rfl, rfl, trivial⟩ (key 4 0 (by omega))
-- how many
set_option maxRecDepth 100000 in
set_option maxHeartbeats 4000000 in
theorem ct_X1_posesTaught (l : Launch) (E : EE) (w : Wd) (c : Nat) (cf : Nat → Nat → Int32) (hlo : E.2.2 ≤ wN w) (hC : LayC w c) (hRC : RepC (cfW w c) cf) : Ct l E yX1_posesTaught cX1_posesTaught 3 (some .int) ({ frames := 0, cells := 0, slots := 0, locals := 0 } : Room) [.ref c] w 0 0 (Px (some (.int (nI (cnN (cf 11) 16)))) w) := by
  refine ct_in (il := il_X1_posesTaught) (by decide) dk_X1_posesTaught (Nat.le_of_ble_eq_true rfl) hlo ?_
  intro X h hq

  have key : ∀ (d i : Nat), i + d = 16 → G X 0 0 4 (lf [(0, .ref c), (1, .int (nI (cnN (cf 11) i))), (2, .int (nI i))]) [] w := by
    intro d
    induction d with
    | zero =>
      intro i hi
      have hi4 : i = 16 := by omega
      subst hi4
      refine g_iload_n h (i := 4) rfl rfl ?_
      refine g_bipush h (i := 5) rfl (v := 16) (by rfl) ?_
      refine g_icmp_ge h (i := 6) 36 rfl rfl (fun c_7 => ?_) (fun c_7 => absurd (by decide : (16 : Int32) ≤ nI 16) c_7)
      refine g_iload_n h (i := 21) rfl rfl ?_
      exact g_iret hq h (i := 22) rfl (⟨rfl, rfl⟩)
    | succ d ih =>
      intro i hid
      have hi : i < 16 := by omega
      have hnge : ¬ (16 : Int32) ≤ nI i := nI_ge (b := 16) hi (by omega)
      have hcl : (nI i).toNatClampNeg = i := nI_clamp (by omega)
      have e0 : wI w (c + 22 + 2 * i) 0 = cf 11 i := by rw [show c + 22 + 2 * i = c + (22 + 2 * i) by omega]; exact (hRC.2.2.1 i hi).1
      refine g_iload_n h (i := 4) rfl rfl ?_
      refine g_bipush h (i := 5) rfl (v := 16) (by rfl) ?_
      refine g_icmp_ge h (i := 6) 36 rfl rfl (fun c_7 => absurd c_7 hnge) (fun c_7 => ?_)
      refine g_iload_n h (i := 7) rfl rfl ?_
      refine g_aload_n h (i := 8) rfl rfl ?_
      refine g_getR h (i := 9) rfl fl_X1_25 (fun _ _ _ => rfl) (lc_k hC) (lc_poses hC) ?_
      refine g_iload_n h (i := 10) rfl rfl ?_
      refine g_aald h (i := 11) rfl (by decide) (lk_poses hC) (vp_in_nI (by omega) (by omega)) (by rw [hcl]; exact lc_po hC hi) ?_
      refine g_getI h (i := 12) rfl fl_X1_61 (fun _ _ _ => rfl) (lk_po hC hi) ?_
      refine g_eqi (cf 11 i) e0 ?_
      refine g_if_eq h (i := 13) 27 rfl rfl (fun c_20 => ?_) (fun c_20 => ?_)
      · skip
        refine g_iconst h (i := 16) rfl (v := 0) (by rfl) ?_
        refine g_iadd h (i := 17) rfl ?_
        refine g_istore_n h (i := 18) rfl hq rfl ?_
        refine g_iinc h (i := 19) rfl rfl (dv := 1) (by rfl) ?_
        refine g_goto h (i := 20) 4 rfl rfl ?_
        exact g_lv [(0, .ref c), (1, .int (nI (cnN (cf 11) (i + 1)))), (2, .int (nI (i + 1)))] ⟨rfl, congrArg (fun z => some (Value.int z)) (cn_0 c_20), congrArg (fun z => some (Value.int z)) (nI_1 i), trivial⟩ (ih (i + 1) (by omega))
      · skip
        refine g_iconst h (i := 14) rfl (v := 1) (by rfl) ?_
        refine g_goto h (i := 15) 28 rfl rfl ?_
        refine g_iadd h (i := 17) rfl ?_
        refine g_istore_n h (i := 18) rfl hq rfl ?_
        refine g_iinc h (i := 19) rfl rfl (dv := 1) (by rfl) ?_
        refine g_goto h (i := 20) 4 rfl rfl ?_
        exact g_lv [(0, .ref c), (1, .int (nI (cnN (cf 11) (i + 1)))), (2, .int (nI (i + 1)))] ⟨rfl, congrArg (fun z => some (Value.int z)) (cn_1 c_20), congrArg (fun z => some (Value.int z)) (nI_1 i), trivial⟩ (ih (i + 1) (by omega))
  refine g_iconst h (i := 0) rfl (v := 0) (by rfl) ?_
  refine g_istore_n h (i := 1) rfl hq rfl ?_
  refine g_iconst h (i := 2) rfl (v := 0) (by rfl) ?_
  refine g_istore_n h (i := 3) rfl hq rfl ?_
  exact g_lv [(0, .ref c), (1, .int (nI (cnN (cf 11) 0))), (2, .int (nI 0))] ⟨rfl, rfl, rfl, trivial⟩ (key 16 0 (by omega))
-- count
set_option maxRecDepth 100000 in
set_option maxHeartbeats 4000000 in
theorem ct_X9_count (l : Launch) (E : EE) (w : Wd) (b : Nat) (cf : Nat → Nat → Int32) (R : Nat → Int64) (x : Int32) (hlo : E.2.2 ≤ wN w) (hL : LayB w b) (hB : RepB w b cf R) : Ct l E yX9_count cX9_count 2 (some .int) ({ frames := 1, cells := 0, slots := 0, locals := 22 } : Room) [.ref b, .int x] w 0 0 (Px (some (.int (coA x cf))) w) := by
  refine ct_in (il := il_X9_count) (by decide) dk_X9_count (Nat.le_of_ble_eq_true rfl) hlo ?_
  intro X h hq

  rcases n4e x with hsw | hsw
  · skip
    refine g_iload_n h (i := 0) rfl rfl ?_
    rcases hsw with e | e | e | e
    · skip
      subst e
      refine g_tin h (i := 1) 32 rfl (by decide) (by decide) rfl rfl ?_
      refine g_aload_n h (i := 2) rfl rfl ?_
      refine g_getR h (i := 3) rfl fl_X9_10 (fun _ _ _ => rfl) (lb_k hL) (lb_cell hL) ?_
      refine g_getR h (i := 4) rfl fl_X9_178 (fun _ _ _ => rfl) (lc_k (lb_C hL)) (lc_prog (lb_C hL)) ?_
      refine g_getI h (i := 5) rfl fl_X9_182 (fun _ _ _ => rfl) (lk_prog (lb_C hL)) ?_
      refine g_eqi (cf 0 12) hB.1.2.2.2.1 ?_
      exact g_iret hq h (i := 6) rfl (⟨by unfold coA; rw [if_pos rfl], rfl⟩)
    · skip
      subst e
      refine g_tin h (i := 1) 43 rfl (by decide) (by decide) rfl rfl ?_
      refine g_aload_n h (i := 7) rfl rfl ?_
      refine g_getR h (i := 8) rfl fl_X9_10 (fun _ _ _ => rfl) (lb_k hL) (lb_cell hL) ?_
      refine g_getR h (i := 9) rfl fl_X9_194 (fun _ _ _ => rfl) (lc_k (lb_C hL)) (lc_scr (lb_C hL)) ?_
      refine g_getI h (i := 10) rfl fl_X9_198 (fun _ _ _ => rfl) (lk_scr (lb_C hL)) ?_
      refine g_eqi (cf 0 16) hB.1.2.2.2.2.2.1 ?_
      exact g_iret hq h (i := 11) rfl (⟨by unfold coA; rw [if_neg (by decide), if_pos rfl], rfl⟩)
    · skip
      subst e
      refine g_tin h (i := 1) 54 rfl (by decide) (by decide) rfl rfl ?_
      refine g_aload_n h (i := 12) rfl rfl ?_
      refine g_getR h (i := 13) rfl fl_X9_10 (fun _ _ _ => rfl) (lb_k hL) (lb_cell hL) ?_
      refine g_callVx h hq (i := 14) rfl mv_X9_268 cls1 (lc_k (lb_C hL)) (ct_X1_boxesTold l E w (b + 1) cf hlo (lb_C hL) hB.1) rfl rfl ⟨rfl, rfl, Nat.le_of_ble_eq_true rfl, Nat.le_of_ble_eq_true rfl⟩ (Nat.le_of_ble_eq_true rfl) ⟨Nat.zero_le _, Nat.zero_le _⟩ ?_
      exact g_iret hq h (i := 15) rfl (⟨by unfold coA; rw [if_neg (by decide), if_neg (by decide), if_pos rfl], rfl⟩)
    · skip
      subst e
      refine g_tin h (i := 1) 62 rfl (by decide) (by decide) rfl rfl ?_
      refine g_aload_n h (i := 16) rfl rfl ?_
      refine g_getR h (i := 17) rfl fl_X9_10 (fun _ _ _ => rfl) (lb_k hL) (lb_cell hL) ?_
      refine g_callVx h hq (i := 18) rfl mv_X9_272 cls1 (lc_k (lb_C hL)) (ct_X1_posesTaught l E w (b + 1) cf hlo (lb_C hL) hB.1) rfl rfl ⟨rfl, rfl, Nat.le_of_ble_eq_true rfl, Nat.le_of_ble_eq_true rfl⟩ (Nat.le_of_ble_eq_true rfl) ⟨Nat.zero_le _, Nat.zero_le _⟩ ?_
      exact g_iret hq h (i := 19) rfl (⟨by unfold coA; rw [if_neg (by decide), if_neg (by decide), if_neg (by decide), if_pos rfl], rfl⟩)
  · skip
    refine g_iload_n h (i := 0) rfl rfl ?_
    skip
    · skip
      skip
      refine g_tout h (i := 1) 70 rfl (hsw) rfl ?_
      refine g_bipush h (i := 20) rfl (v := -2) (by rfl) ?_
      exact g_iret hq h (i := 21) rfl (⟨by unfold coA; rw [if_neg (fun q => by subst q; exact absurd hsw (by decide)), if_neg (fun q => by subst q; exact absurd hsw (by decide)), if_neg (fun q => by subst q; exact absurd hsw (by decide)), if_neg (fun q => by subst q; exact absurd hsw (by decide))], rfl⟩)
