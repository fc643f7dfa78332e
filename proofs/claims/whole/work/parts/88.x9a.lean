-- within
set_option maxRecDepth 100000 in
set_option maxHeartbeats 4000000 in
theorem ct_X9_isWithin (l : Launch) (E : EE) (w : Wd) (v lo hi : Int32) (hlo : E.2.2 ≤ wN w) : Ct l E yX9_isWithin cX9_isWithin 3 (some .boolean) ({ frames := 0, cells := 0, slots := 0, locals := 0 } : Room) [.int v, .int lo, .int hi] w 0 0 (Px (some (.int (bI (lo ≤ v ∧ v ≤ hi)))) w) := by
  refine ct_in (il := il_X9_isWithin) (by decide) dk_X9_isWithin (Nat.le_of_ble_eq_true rfl) hlo ?_
  intro X h hq

  refine g_iload_n h (i := 0) rfl rfl ?_
  refine g_iload_n h (i := 1) rfl rfl ?_
  refine g_icmp_gt h (i := 2) 14 rfl rfl (fun c_2 => ?_) (fun c_2 => ?_)
  · skip
    refine g_iconst h (i := 8) rfl (v := 0) (by rfl) ?_
    exact g_zret hq h (i := 9) rfl (rfl) (⟨rF (fun q => absurd q.1 (i32nl.mpr c_2)), rfl⟩)
  · skip
    refine g_iload_n h (i := 3) rfl rfl ?_
    refine g_iload_n h (i := 4) rfl rfl ?_
    refine g_icmp_gt h (i := 5) 14 rfl rfl (fun c_7 => ?_) (fun c_7 => ?_)
    · skip
      refine g_iconst h (i := 8) rfl (v := 0) (by rfl) ?_
      exact g_zret hq h (i := 9) rfl (rfl) (⟨rF (fun q => absurd q.2 (i32nl.mpr c_7)), rfl⟩)
    · skip
      refine g_iconst h (i := 6) rfl (v := 1) (by rfl) ?_
      refine g_goto h (i := 7) 15 rfl rfl ?_
      exact g_zret hq h (i := 9) rfl (rfl) (⟨rT ⟨i32nlt.mp c_2, i32nlt.mp c_7⟩, rfl⟩)
-- within
set_option maxRecDepth 100000 in
set_option maxHeartbeats 4000000 in
theorem ct_X9_isJoint (l : Launch) (E : EE) (w : Wd) (v : Int32) (hlo : E.2.2 ≤ wN w) : Ct l E yX9_isJoint cX9_isJoint 1 (some .boolean) ({ frames := 1, cells := 0, slots := 0, locals := 22 } : Room) [.int v] w 0 0 (Px (some (.int (bI (0 ≤ v ∧ v ≤ 3)))) w) := by
  refine ct_in (il := il_X9_isJoint) (by decide) dk_X9_isJoint (Nat.le_of_ble_eq_true rfl) hlo ?_
  intro X h hq

  refine g_iload_n h (i := 0) rfl rfl ?_
  refine g_iconst h (i := 1) rfl (v := 0) (by rfl) ?_
  refine g_iconst h (i := 2) rfl (v := 3) (by rfl) ?_
  refine g_callSx h hq (i := 3) rfl ms_X9_55 (ct_X9_isWithin l E _ v (0) (3) hlo) rfl rfl ⟨rfl, rfl, Nat.le_of_ble_eq_true rfl, Nat.le_of_ble_eq_true rfl⟩ (Nat.le_of_ble_eq_true rfl) ⟨Nat.zero_le _, Nat.zero_le _⟩ ?_
  exact g_zret hq h (i := 4) rfl (bI_n _) (⟨rfl, rfl⟩)
-- within
set_option maxRecDepth 100000 in
set_option maxHeartbeats 4000000 in
theorem ct_X9_isPose (l : Launch) (E : EE) (w : Wd) (v : Int32) (hlo : E.2.2 ≤ wN w) : Ct l E yX9_isPose cX9_isPose 1 (some .boolean) ({ frames := 1, cells := 0, slots := 0, locals := 22 } : Room) [.int v] w 0 0 (Px (some (.int (bI (0 ≤ v ∧ v ≤ 15)))) w) := by
  refine ct_in (il := il_X9_isPose) (by decide) dk_X9_isPose (Nat.le_of_ble_eq_true rfl) hlo ?_
  intro X h hq

  refine g_iload_n h (i := 0) rfl rfl ?_
  refine g_iconst h (i := 1) rfl (v := 0) (by rfl) ?_
  refine g_bipush h (i := 2) rfl (v := 15) (by rfl) ?_
  refine g_callSx h hq (i := 3) rfl ms_X9_55 (ct_X9_isWithin l E _ v (0) (15) hlo) rfl rfl ⟨rfl, rfl, Nat.le_of_ble_eq_true rfl, Nat.le_of_ble_eq_true rfl⟩ (Nat.le_of_ble_eq_true rfl) ⟨Nat.zero_le _, Nat.zero_le _⟩ ?_
  exact g_zret hq h (i := 4) rfl (bI_n _) (⟨rfl, rfl⟩)
-- within
set_option maxRecDepth 100000 in
set_option maxHeartbeats 4000000 in
theorem ct_X9_isShare (l : Launch) (E : EE) (w : Wd) (v : Int32) (hlo : E.2.2 ≤ wN w) : Ct l E yX9_isShare cX9_isShare 1 (some .boolean) ({ frames := 1, cells := 0, slots := 0, locals := 22 } : Room) [.int v] w 0 0 (Px (some (.int (bI (1 ≤ v ∧ v ≤ 100)))) w) := by
  refine ct_in (il := il_X9_isShare) (by decide) dk_X9_isShare (Nat.le_of_ble_eq_true rfl) hlo ?_
  intro X h hq

  refine g_iload_n h (i := 0) rfl rfl ?_
  refine g_iconst h (i := 1) rfl (v := 1) (by rfl) ?_
  refine g_bipush h (i := 2) rfl (v := 100) (by rfl) ?_
  refine g_callSx h hq (i := 3) rfl ms_X9_55 (ct_X9_isWithin l E _ v (1) (100) hlo) rfl rfl ⟨rfl, rfl, Nat.le_of_ble_eq_true rfl, Nat.le_of_ble_eq_true rfl⟩ (Nat.le_of_ble_eq_true rfl) ⟨Nat.zero_le _, Nat.zero_le _⟩ ?_
  exact g_zret hq h (i := 4) rfl (bI_n _) (⟨rfl, rfl⟩)
-- within
set_option maxRecDepth 100000 in
set_option maxHeartbeats 4000000 in
theorem ct_X9_isSignal (l : Launch) (E : EE) (w : Wd) (v : Int32) (hlo : E.2.2 ≤ wN w) : Ct l E yX9_isSignal cX9_isSignal 1 (some .boolean) ({ frames := 1, cells := 0, slots := 0, locals := 22 } : Room) [.int v] w 0 0 (Px (some (.int (bI (0 ≤ v ∧ v ≤ 7)))) w) := by
  refine ct_in (il := il_X9_isSignal) (by decide) dk_X9_isSignal (Nat.le_of_ble_eq_true rfl) hlo ?_
  intro X h hq

  refine g_iload_n h (i := 0) rfl rfl ?_
  refine g_iconst h (i := 1) rfl (v := 0) (by rfl) ?_
  refine g_bipush h (i := 2) rfl (v := 7) (by rfl) ?_
  refine g_callSx h hq (i := 3) rfl ms_X9_55 (ct_X9_isWithin l E _ v (0) (7) hlo) rfl rfl ⟨rfl, rfl, Nat.le_of_ble_eq_true rfl, Nat.le_of_ble_eq_true rfl⟩ (Nat.le_of_ble_eq_true rfl) ⟨Nat.zero_le _, Nat.zero_le _⟩ ?_
  exact g_zret hq h (i := 4) rfl (bI_n _) (⟨rfl, rfl⟩)
-- within
set_option maxRecDepth 100000 in
set_option maxHeartbeats 4000000 in
theorem ct_X9_isPlace (l : Launch) (E : EE) (w : Wd) (v : Int32) (hlo : E.2.2 ≤ wN w) : Ct l E yX9_isPlace cX9_isPlace 1 (some .boolean) ({ frames := 1, cells := 0, slots := 0, locals := 22 } : Room) [.int v] w 0 0 (Px (some (.int (bI (0 ≤ v ∧ v ≤ 3)))) w) := by
  refine ct_in (il := il_X9_isPlace) (by decide) dk_X9_isPlace (Nat.le_of_ble_eq_true rfl) hlo ?_
  intro X h hq

  refine g_iload_n h (i := 0) rfl rfl ?_
  refine g_iconst h (i := 1) rfl (v := 0) (by rfl) ?_
  refine g_iconst h (i := 2) rfl (v := 3) (by rfl) ?_
  refine g_callSx h hq (i := 3) rfl ms_X9_55 (ct_X9_isWithin l E _ v (0) (3) hlo) rfl rfl ⟨rfl, rfl, Nat.le_of_ble_eq_true rfl, Nat.le_of_ble_eq_true rfl⟩ (Nat.le_of_ble_eq_true rfl) ⟨Nat.zero_le _, Nat.zero_le _⟩ ?_
  exact g_zret hq h (i := 4) rfl (bI_n _) (⟨rfl, rfl⟩)
-- going
set_option maxRecDepth 100000 in
set_option maxHeartbeats 4000000 in
theorem ct_X9_isGoing (l : Launch) (E : EE) (w : Wd) (b : Nat) (cf : Nat → Nat → Int32) (R : Nat → Int64) (hlo : E.2.2 ≤ wN w) (hL : LayB w b) (hB : RepB w b cf R) (hr : FA R) : Ct l E yX9_isGoing cX9_isGoing 1 (some .boolean) ({ frames := 0, cells := 0, slots := 0, locals := 0 } : Room) [.ref b] w 0 0 (Px (some (.int (bI (R 28 = 1)))) w) := by
  refine ct_in (il := il_X9_isGoing) (by decide) dk_X9_isGoing (Nat.le_of_ble_eq_true rfl) hlo ?_
  intro X h hq

  have f28 : isN (R 28) 3 := hr 28
  have l28 := f28.2
  have e8 : wI w (b + 55) 8 = nI (pN (R 28)) := (hB.2.1.2.1).trans (i32eta f28 (by omega))
  have hz : nI (pN (R 28)) = 1 ↔ R 28 = 1 := by
    refine (nIx (y := 1) (by omega) (by omega)).trans ?_
    constructor
    · intro q; rw [f28.1, q]; rfl
    · intro q; rw [q]; rfl
  refine g_aload_n h (i := 0) rfl rfl ?_
  refine g_getR h (i := 1) rfl fl_X9_19 (fun _ _ _ => rfl) (lb_k hL) (lb_now hL) ?_
  refine g_getI h (i := 2) rfl fl_X9_214 (fun _ _ _ => rfl) (lk_M (lb_M hL)) ?_
  refine g_eqi (nI (pN (R 28))) e8 ?_
  refine g_iconst h (i := 3) rfl (v := 1) (by rfl) ?_
  refine g_icmp_ne h (i := 4) 15 rfl rfl (fun c_8 => ?_) (fun c_8 => ?_)
  · skip
    refine g_iconst h (i := 7) rfl (v := 0) (by rfl) ?_
    exact g_zret hq h (i := 8) rfl (rfl) (⟨rF (fun q => c_8 (hz.mpr q)), rfl⟩)
  · skip
    refine g_iconst h (i := 5) rfl (v := 1) (by rfl) ?_
    refine g_goto h (i := 6) 16 rfl rfl ?_
    exact g_zret hq h (i := 8) rfl (rfl) (⟨rT (hz.mp c_8), rfl⟩)
theorem rb_j0 {w : Wd} {b n : Nat} {cf : Nat → Nat → Int32} {R : Nat → Int64} {v : Int32} (h : RepB w b cf R) (hn : n < 4) : RepB (sI w (b + 1 + 14 + n) 0 v) b (up2 cf 3 n v) R := by
  have q := rb_C (f := 14 + n) (k := 0) (v := v) h (by omega) (cf' := up2 cf 3 n v) (up2_f (by omega)) (rc_j0 h.1 hn)
  rw [show b + 1 + 14 + n = b + 1 + (14 + n) by omega]; exact q
theorem rb_j1 {w : Wd} {b n : Nat} {cf : Nat → Nat → Int32} {R : Nat → Int64} {v : Int32} (h : RepB w b cf R) (hn : n < 4) : RepB (sI w (b + 1 + 14 + n) 1 v) b (up2 cf 4 n v) R := by
  have q := rb_C (f := 14 + n) (k := 1) (v := v) h (by omega) (cf' := up2 cf 4 n v) (up2_f (by omega)) (rc_j1 h.1 hn)
  rw [show b + 1 + 14 + n = b + 1 + (14 + n) by omega]; exact q
theorem rb_j2 {w : Wd} {b n : Nat} {cf : Nat → Nat → Int32} {R : Nat → Int64} {v : Int32} (h : RepB w b cf R) (hn : n < 4) : RepB (sI w (b + 1 + 14 + n) 2 v) b (up2 cf 5 n v) R := by
  have q := rb_C (f := 14 + n) (k := 2) (v := v) h (by omega) (cf' := up2 cf 5 n v) (up2_f (by omega)) (rc_j2 h.1 hn)
  rw [show b + 1 + 14 + n = b + 1 + (14 + n) by omega]; exact q
theorem rb_j3 {w : Wd} {b n : Nat} {cf : Nat → Nat → Int32} {R : Nat → Int64} {v : Int32} (h : RepB w b cf R) (hn : n < 4) : RepB (sI w (b + 1 + 14 + n) 3 v) b (up2 cf 6 n v) R := by
  have q := rb_C (f := 14 + n) (k := 3) (v := v) h (by omega) (cf' := up2 cf 6 n v) (up2_f (by omega)) (rc_j3 h.1 hn)
  rw [show b + 1 + 14 + n = b + 1 + (14 + n) by omega]; exact q
theorem rb_j4 {w : Wd} {b n : Nat} {cf : Nat → Nat → Int32} {R : Nat → Int64} {v : Int32} (h : RepB w b cf R) (hn : n < 4) : RepB (sI w (b + 1 + 14 + n) 4 v) b (up2 cf 7 n v) R := by
  have q := rb_C (f := 14 + n) (k := 4) (v := v) h (by omega) (cf' := up2 cf 7 n v) (up2_f (by omega)) (rc_j4 h.1 hn)
  rw [show b + 1 + 14 + n = b + 1 + (14 + n) by omega]; exact q
theorem rb_j5 {w : Wd} {b n : Nat} {cf : Nat → Nat → Int32} {R : Nat → Int64} {v : Int32} (h : RepB w b cf R) (hn : n < 4) : RepB (sI w (b + 1 + 14 + n) 5 v) b (up2 cf 8 n v) R := by
  have q := rb_C (f := 14 + n) (k := 5) (v := v) h (by omega) (cf' := up2 cf 8 n v) (up2_f (by omega)) (rc_j5 h.1 hn)
  rw [show b + 1 + 14 + n = b + 1 + (14 + n) by omega]; exact q
theorem rb_b0 {w : Wd} {b n : Nat} {cf : Nat → Nat → Int32} {R : Nat → Int64} {v : Int32} (h : RepB w b cf R) (hn : n < 4) : RepB (sI w (b + 1 + 18 + n) 0 v) b (up2 cf 9 n v) R := by
  have q := rb_C (f := 18 + n) (k := 0) (v := v) h (by omega) (cf' := up2 cf 9 n v) (up2_f (by omega)) (rc_b0 h.1 hn)
  rw [show b + 1 + 18 + n = b + 1 + (18 + n) by omega]; exact q
theorem rb_b1 {w : Wd} {b n : Nat} {cf : Nat → Nat → Int32} {R : Nat → Int64} {v : Int32} (h : RepB w b cf R) (hn : n < 4) : RepB (sI w (b + 1 + 18 + n) 1 v) b (up2 cf 10 (4 * n) v) R := by
  have q := rb_C (f := 18 + n) (k := 1) (v := v) h (by omega) (cf' := up2 cf 10 (4 * n) v) (up2_f (by omega)) (rc_b1 h.1 hn)
  rw [show b + 1 + 18 + n = b + 1 + (18 + n) by omega]; exact q
theorem rb_b2 {w : Wd} {b n : Nat} {cf : Nat → Nat → Int32} {R : Nat → Int64} {v : Int32} (h : RepB w b cf R) (hn : n < 4) : RepB (sI w (b + 1 + 18 + n) 2 v) b (up2 cf 10 (4 * n + 1) v) R := by
  have q := rb_C (f := 18 + n) (k := 2) (v := v) h (by omega) (cf' := up2 cf 10 (4 * n + 1) v) (up2_f (by omega)) (rc_b2 h.1 hn)
  rw [show b + 1 + 18 + n = b + 1 + (18 + n) by omega]; exact q
theorem rb_b3 {w : Wd} {b n : Nat} {cf : Nat → Nat → Int32} {R : Nat → Int64} {v : Int32} (h : RepB w b cf R) (hn : n < 4) : RepB (sI w (b + 1 + 18 + n) 3 v) b (up2 cf 10 (4 * n + 2) v) R := by
  have q := rb_C (f := 18 + n) (k := 3) (v := v) h (by omega) (cf' := up2 cf 10 (4 * n + 2) v) (up2_f (by omega)) (rc_b3 h.1 hn)
  rw [show b + 1 + 18 + n = b + 1 + (18 + n) by omega]; exact q
theorem rb_b4 {w : Wd} {b n : Nat} {cf : Nat → Nat → Int32} {R : Nat → Int64} {v : Int32} (h : RepB w b cf R) (hn : n < 4) : RepB (sI w (b + 1 + 18 + n) 4 v) b (up2 cf 10 (4 * n + 3) v) R := by
  have q := rb_C (f := 18 + n) (k := 4) (v := v) h (by omega) (cf' := up2 cf 10 (4 * n + 3) v) (up2_f (by omega)) (rc_b4 h.1 hn)
  rw [show b + 1 + 18 + n = b + 1 + (18 + n) by omega]; exact q
theorem rb_p0 {w : Wd} {b n : Nat} {cf : Nat → Nat → Int32} {R : Nat → Int64} {v : Int32} (h : RepB w b cf R) (hn : n < 16) : RepB (sI w (b + 1 + 22 + 2 * n) 0 v) b (up2 cf 11 n v) R := by
  have q := rb_C (f := 22 + 2 * n) (k := 0) (v := v) h (by omega) (cf' := up2 cf 11 n v) (up2_f (by omega)) (rc_p0 h.1 hn)
  rw [show b + 1 + 22 + 2 * n = b + 1 + (22 + 2 * n) by omega]; exact q
theorem rb_pc {w : Wd} {b : Nat} {cf : Nat → Nat → Int32} {R : Nat → Int64} {v : Int32} (h : RepB w b cf R) : RepB (sI w (b + 1 + 4) 3 v) b (up2 cf 0 12 v) R := rb_C h (by omega) (up2_f (by omega)) (rc_pc h.1)
theorem rb_sc {w : Wd} {b : Nat} {cf : Nat → Nat → Int32} {R : Nat → Int64} {v : Int32} (h : RepB w b cf R) : RepB (sI w (b + 1 + 8) 3 v) b (up2 cf 0 16 v) R := rb_C h (by omega) (up2_f (by omega)) (rc_sc h.1)
theorem rb_o {w : Wd} {b n : Nat} {cf : Nat → Nat → Int32} {R : Nat → Int64} {v : Int32} (h : RepB w b cf R) : RepB (sI w (b + 1 + 5) n v) b (up2 cf 13 n v) R := rb_C h (by omega) (up2_f (by omega)) (rc_o h.1)
theorem rb_a {w : Wd} {b n : Nat} {cf : Nat → Nat → Int32} {R : Nat → Int64} {v : Int32} (h : RepB w b cf R) : RepB (sI w (b + 1 + 6) n v) b (up2 cf 14 n v) R := rb_C h (by omega) (up2_f (by omega)) (rc_a h.1)
theorem rb_bb {w : Wd} {b n : Nat} {cf : Nat → Nat → Int32} {R : Nat → Int64} {v : Int32} (h : RepB w b cf R) : RepB (sI w (b + 1 + 7) n v) b (up2 cf 15 n v) R := rb_C h (by omega) (up2_f (by omega)) (rc_b h.1)
theorem rb_t {w : Wd} {b n : Nat} {cf : Nat → Nat → Int32} {R : Nat → Int64} {v : Int32} (h : RepB w b cf R) : RepB (sI w (b + 1 + 9) n v) b (up2 cf 16 n v) R := rb_C h (by omega) (up2_f (by omega)) (rc_t h.1)
theorem rb_i {w : Wd} {b n : Nat} {cf : Nat → Nat → Int32} {R : Nat → Int64} {v : Int32} (h : RepB w b cf R) : RepB (sI w (b + 1 + 10) n v) b (up2 cf 17 n v) R := rb_C h (by omega) (up2_f (by omega)) (rc_i h.1)
theorem rb_n {w : Wd} {b n : Nat} {cf : Nat → Nat → Int32} {R : Nat → Int64} {v : Int32} (h : RepB w b cf R) : RepB (sI w (b + 1 + 11) n v) b (up2 cf 18 n v) R := rb_C h (by omega) (up2_f (by omega)) (rc_n h.1)
theorem rm_st {w : Wd} {m k : Nat} {r : Nat → Int64} {v : Int32} {u : Int64} (h : RepM w m r) (hk : k < 4) (hv : v = u.toInt32) : RepM (sI w (m + 1) k v) m (up1 r k u) := by
  show RepV (cfW (sI w (m + 1) k v) m) (wJ w (m + 2)) _
  rw [cf_I]
  refine rv_lo h (fun f y hf => up2_f2 (by omega)) (fun y hy => up1_k (by omega)) ?_ (fun j hj => (up2_a (by omega)).trans ((h.2.2.2.2.2.2.2.2.2.2.2.2.2.1 j hj).trans (congrArg Int64.toInt32 (up1_k (by omega)).symm))) (fun j hj => (up2_a (by omega)).trans ((h.2.2.2.2.2.2.2.2.2.2.2.2.2.2.1 j hj).trans (congrArg Int64.toInt32 (up1_k (by omega)).symm))) (fun j hj => (up2_a (by omega)).trans ((h.2.2.2.2.2.2.2.2.2.2.2.2.2.2.2.1 j hj).trans (congrArg Int64.toInt32 (up1_k (by omega)).symm)))
  intro j hj
  by_cases e : j = k
  · subst e; rw [up2_s, up1_s]; exact hv
  · rw [up2_k e, up1_k e]; exact h.2.2.2.2.2.2.2.2.2.2.2.1 j hj
theorem kbool {kd : Int32} (h : 0 ≤ kd ∧ kd ≤ 1) : kd = bI (kd = 1) := by
  obtain ⟨a, c⟩ := jx (M := 1) h (by decide)
  rcases (by omega : pI kd = 0 ∨ pI kd = 1) with z | z
  · rw [z] at a; rw [a]; decide
  · rw [z] at a; rw [a]; decide
-- joint
set_option maxRecDepth 100000 in
set_option maxHeartbeats 4000000 in
theorem ct_X9_joint (l : Launch) (E : EE) (w : Wd) (b : Nat) (cf : Nat → Nat → Int32) (R : Nat → Int64) (j kd ln pc rs : Int32) (hlo : E.2.2 ≤ wN w) (hL : LayB w b) (hB : RepB w b cf R) (hr : FA R) : Ct l E yX9_joint cX9_joint 7 (some .int) ({ frames := 2, cells := 0, slots := 0, locals := 42 } : Room) [.ref b, .int j, .int kd, .int ln, .int pc, .int rs] w 0 0 (CS b w (jtS j kd ln pc rs cf R)) := by
  refine ct_in (il := il_X9_joint) (by decide) dk_X9_joint (Nat.le_of_ble_eq_true rfl) hlo ?_
  intro X h hq

  refine g_iload_n h (i := 0) rfl rfl ?_
  refine g_callSx h hq (i := 1) rfl ms_X9_51 (ct_X9_isJoint l E _ j hlo) rfl rfl ⟨rfl, rfl, Nat.le_of_ble_eq_true rfl, Nat.le_of_ble_eq_true rfl⟩ (Nat.le_of_ble_eq_true rfl) ⟨Nat.zero_le _, Nat.zero_le _⟩ ?_
  refine g_if_eq h (i := 2) 49 rfl rfl (fun c_4 => ?_) (fun c_4 => ?_)
  · skip
    refine g_bipush h (i := 23) rfl (v := -2) (by rfl) ?_
    exact g_iret hq h (i := 24) rfl (by unfold jtS; rw [if_neg (fun q => bI_0.mp c_4 q.1)]; exact ⟨rfl, bf_0, hB⟩)
  · skip
    refine g_iload_n h (i := 3) rfl rfl ?_
    refine g_iconst h (i := 4) rfl (v := 0) (by rfl) ?_
    refine g_iconst h (i := 5) rfl (v := 1) (by rfl) ?_
    refine g_callSx h hq (i := 6) rfl ms_X9_55 (ct_X9_isWithin l E _ kd (0) (1) hlo) rfl rfl ⟨rfl, rfl, Nat.le_of_ble_eq_true rfl, Nat.le_of_ble_eq_true rfl⟩ (Nat.le_of_ble_eq_true rfl) ⟨Nat.zero_le _, Nat.zero_le _⟩ ?_
    refine g_if_eq h (i := 7) 49 rfl rfl (fun c_13 => ?_) (fun c_13 => ?_)
    · skip
      refine g_bipush h (i := 23) rfl (v := -2) (by rfl) ?_
      exact g_iret hq h (i := 24) rfl (by unfold jtS; rw [if_neg (fun q => bI_0.mp c_13 q.2.1)]; exact ⟨rfl, bf_0, hB⟩)
    · skip
      refine g_iload_n h (i := 8) rfl rfl ?_
      refine g_iconst h (i := 9) rfl (v := 0) (by rfl) ?_
      refine g_sipush h (i := 10) rfl (v := 1000) (by rfl) ?_
      refine g_callSx h hq (i := 11) rfl ms_X9_55 (ct_X9_isWithin l E _ ln (0) (1000) hlo) rfl rfl ⟨rfl, rfl, Nat.le_of_ble_eq_true rfl, Nat.le_of_ble_eq_true rfl⟩ (Nat.le_of_ble_eq_true rfl) ⟨Nat.zero_le _, Nat.zero_le _⟩ ?_
      refine g_if_eq h (i := 12) 49 rfl rfl (fun c_24 => ?_) (fun c_24 => ?_)
      · skip
        refine g_bipush h (i := 23) rfl (v := -2) (by rfl) ?_
        exact g_iret hq h (i := 24) rfl (by unfold jtS; rw [if_neg (fun q => bI_0.mp c_24 q.2.2.1)]; exact ⟨rfl, bf_0, hB⟩)
      · skip
        refine g_iload h (i := 13) rfl rfl ?_
        refine g_iconst h (i := 14) rfl (v := 1) (by rfl) ?_
        refine g_ldc h (i := 15) rfl k_X9_59 ?_
        refine g_callSx h hq (i := 16) rfl ms_X9_55 (ct_X9_isWithin l E _ pc (1) (100000) hlo) rfl rfl ⟨rfl, rfl, Nat.le_of_ble_eq_true rfl, Nat.le_of_ble_eq_true rfl⟩ (Nat.le_of_ble_eq_true rfl) ⟨Nat.zero_le _, Nat.zero_le _⟩ ?_
        refine g_if_eq h (i := 17) 49 rfl rfl (fun c_35 => ?_) (fun c_35 => ?_)
        · skip
          refine g_bipush h (i := 23) rfl (v := -2) (by rfl) ?_
          exact g_iret hq h (i := 24) rfl (by unfold jtS; rw [if_neg (fun q => bI_0.mp c_35 q.2.2.2.1)]; exact ⟨rfl, bf_0, hB⟩)
        · skip
          refine g_iload h (i := 18) rfl rfl ?_
          refine g_iconst h (i := 19) rfl (v := 1) (by rfl) ?_
          refine g_ldc h (i := 20) rfl k_X9_59 ?_
          refine g_callSx h hq (i := 21) rfl ms_X9_55 (ct_X9_isWithin l E _ rs (1) (100000) hlo) rfl rfl ⟨rfl, rfl, Nat.le_of_ble_eq_true rfl, Nat.le_of_ble_eq_true rfl⟩ (Nat.le_of_ble_eq_true rfl) ⟨Nat.zero_le _, Nat.zero_le _⟩ ?_
          refine g_if_ne h (i := 22) 52 rfl rfl (fun c_46 => ?_) (fun c_46 => ?_)
          · skip
            refine g_aload_n h (i := 25) rfl rfl ?_
            refine g_callVx h hq (i := 26) rfl mv_X9_60 cls9 (lb_k hL) (ct_X9_isGoing l E w b cf R hlo hL hB hr) rfl rfl ⟨rfl, rfl, Nat.le_of_ble_eq_true rfl, Nat.le_of_ble_eq_true rfl⟩ (Nat.le_of_ble_eq_true rfl) ⟨Nat.zero_le _, Nat.zero_le _⟩ ?_
            refine g_if_eq h (i := 27) 62 rfl rfl (fun c_56 => ?_) (fun c_56 => ?_)
            · skip
              obtain ⟨hj, hj3⟩ := jx (M := 3) (bI_1.mp c_4) (by decide)
              have hC := lb_C hL
              refine g_aload_n h (i := 30) rfl rfl ?_
              refine g_getR h (i := 31) rfl fl_X9_10 (fun _ _ _ => rfl) (lb_k hL) (lb_cell hL) ?_
              refine g_getR h (i := 32) rfl fl_X9_64 (fun _ _ _ => rfl) (lc_k (lb_C hL)) (lc_joints (lb_C hL)) ?_
              refine g_iload_n h (i := 33) rfl rfl ?_
              refine g_aald h (i := 34) rfl (by decide) (lk_joints (lb_C hL)) (jvp (bI_1.mp c_4) (by decide) (by omega)) (lc_jo (j := pI j) hC (by omega)) ?_
              refine g_astore h (i := 35) rfl hq rfl ?_
              refine g_aload h (i := 36) rfl rfl ?_
              refine g_iload_n h (i := 37) rfl rfl ?_
              refine g_putI_0 h (i := 38) rfl fl_X9_68 nf_2_0 (fun _ _ _ => rfl) (lk_jo (j := pI j) hC (by omega)) (rfl) (by rfl) ?_
              refine g_aload h (i := 39) rfl rfl ?_
              refine g_iload_n h (i := 40) rfl rfl ?_
              refine g_putI_0 h (i := 41) rfl fl_X9_74 nf_2_1 (fun _ _ _ => rfl) (lk_jo (j := pI j) hC (by omega)) (rfl) (by rfl) ?_
              refine g_aload h (i := 42) rfl rfl ?_
              refine g_iload h (i := 43) rfl rfl ?_
              refine g_putI_0 h (i := 44) rfl fl_X9_77 nf_2_4 (fun _ _ _ => rfl) (lk_jo (j := pI j) hC (by omega)) (rfl) (by rfl) ?_
              refine g_aload h (i := 45) rfl rfl ?_
              refine g_iload h (i := 46) rfl rfl ?_
              refine g_putI_0 h (i := 47) rfl fl_X9_80 nf_2_5 (fun _ _ _ => rfl) (lk_jo (j := pI j) hC (by omega)) (rfl) (by rfl) ?_
              refine g_iconst h (i := 48) rfl (v := 1) (by rfl) ?_
              exact g_iret hq h (i := 49) rfl (by
                have e0 := kbool (bI_1.mp c_13)
                unfold jtS
                rw [if_pos ⟨bI_1.mp c_4, bI_1.mp c_13, bI_1.mp c_24, bI_1.mp c_35, bI_1.mp c_46⟩, if_neg (bI_0.mp c_56), ← e0]
                exact ⟨rfl, bf_I (bf_I (bf_I (bf_I bf_0 (by omega)) (by omega)) (by omega)) (by omega), rb_j5 (rb_j4 (rb_j1 (rb_j0 hB (by omega)) (by omega)) (by omega)) (by omega)⟩)
            · skip
              refine g_bipush h (i := 28) rfl (v := -3) (by rfl) ?_
              exact g_iret hq h (i := 29) rfl (by unfold jtS; rw [if_pos ⟨bI_1.mp c_4, bI_1.mp c_13, bI_1.mp c_24, bI_1.mp c_35, bI_1.mp c_46⟩, if_pos (bI_1.mp c_56)]; exact ⟨rfl, bf_0, hB⟩)
          · skip
            refine g_bipush h (i := 23) rfl (v := -2) (by rfl) ?_
            exact g_iret hq h (i := 24) rfl (by unfold jtS; rw [if_neg (fun q => bI_0.mp c_46 q.2.2.2.2)]; exact ⟨rfl, bf_0, hB⟩)
-- limits
set_option maxRecDepth 100000 in
set_option maxHeartbeats 4000000 in
theorem ct_X9_limits (l : Launch) (E : EE) (w : Wd) (b : Nat) (cf : Nat → Nat → Int32) (R : Nat → Int64) (j x y : Int32) (hlo : E.2.2 ≤ wN w) (hL : LayB w b) (hB : RepB w b cf R) (hr : FA R) : Ct l E yX9_limits cX9_limits 4 (some .int) ({ frames := 2, cells := 0, slots := 0, locals := 42 } : Room) [.ref b, .int j, .int x, .int y] w 0 0 (CS b w (lmS j x y cf R)) := by
  refine ct_in (il := il_X9_limits) (by decide) dk_X9_limits (Nat.le_of_ble_eq_true rfl) hlo ?_
  intro X h hq

  refine g_iload_n h (i := 0) rfl rfl ?_
  refine g_callSx h hq (i := 1) rfl ms_X9_51 (ct_X9_isJoint l E _ j hlo) rfl rfl ⟨rfl, rfl, Nat.le_of_ble_eq_true rfl, Nat.le_of_ble_eq_true rfl⟩ (Nat.le_of_ble_eq_true rfl) ⟨Nat.zero_le _, Nat.zero_le _⟩ ?_
  refine g_if_eq h (i := 2) 34 rfl rfl (fun c_4 => ?_) (fun c_4 => ?_)
  · skip
    refine g_bipush h (i := 16) rfl (v := -2) (by rfl) ?_
    exact g_iret hq h (i := 17) rfl (by unfold lmS; rw [if_neg (fun q => bI_0.mp c_4 q.1)]; exact ⟨rfl, bf_0, hB⟩)
  · skip
    refine g_iload_n h (i := 3) rfl rfl ?_
    refine g_ldc h (i := 4) rfl k_X9_83 ?_
    refine g_ldc h (i := 5) rfl k_X9_84 ?_
    refine g_callSx h hq (i := 6) rfl ms_X9_55 (ct_X9_isWithin l E _ x (-1000000) (1000000) hlo) rfl rfl ⟨rfl, rfl, Nat.le_of_ble_eq_true rfl, Nat.le_of_ble_eq_true rfl⟩ (Nat.le_of_ble_eq_true rfl) ⟨Nat.zero_le _, Nat.zero_le _⟩ ?_
    refine g_if_eq h (i := 7) 34 rfl rfl (fun c_15 => ?_) (fun c_15 => ?_)
    · skip
      refine g_bipush h (i := 16) rfl (v := -2) (by rfl) ?_
      exact g_iret hq h (i := 17) rfl (by unfold lmS; rw [if_neg (fun q => bI_0.mp c_15 q.2.1)]; exact ⟨rfl, bf_0, hB⟩)
    · skip
      refine g_iload_n h (i := 8) rfl rfl ?_
      refine g_ldc h (i := 9) rfl k_X9_83 ?_
      refine g_ldc h (i := 10) rfl k_X9_84 ?_
      refine g_callSx h hq (i := 11) rfl ms_X9_55 (ct_X9_isWithin l E _ y (-1000000) (1000000) hlo) rfl rfl ⟨rfl, rfl, Nat.le_of_ble_eq_true rfl, Nat.le_of_ble_eq_true rfl⟩ (Nat.le_of_ble_eq_true rfl) ⟨Nat.zero_le _, Nat.zero_le _⟩ ?_
      refine g_if_eq h (i := 12) 34 rfl rfl (fun c_26 => ?_) (fun c_26 => ?_)
      · skip
        refine g_bipush h (i := 16) rfl (v := -2) (by rfl) ?_
        exact g_iret hq h (i := 17) rfl (by unfold lmS; rw [if_neg (fun q => bI_0.mp c_26 ⟨Int32.le_trans q.2.1.1 q.2.2.1, q.2.2.2⟩)]; exact ⟨rfl, bf_0, hB⟩)
      · skip
        refine g_iload_n h (i := 13) rfl rfl ?_
        refine g_iload_n h (i := 14) rfl rfl ?_
        refine g_icmp_le h (i := 15) 37 rfl rfl (fun c_31 => ?_) (fun c_31 => ?_)
        · skip
          refine g_aload_n h (i := 18) rfl rfl ?_
          refine g_callVx h hq (i := 19) rfl mv_X9_60 cls9 (lb_k hL) (ct_X9_isGoing l E w b cf R hlo hL hB hr) rfl rfl ⟨rfl, rfl, Nat.le_of_ble_eq_true rfl, Nat.le_of_ble_eq_true rfl⟩ (Nat.le_of_ble_eq_true rfl) ⟨Nat.zero_le _, Nat.zero_le _⟩ ?_
          refine g_if_ne h (i := 20) 61 rfl rfl (fun c_41 => ?_) (fun c_41 => ?_)
          · skip
            refine g_bipush h (i := 30) rfl (v := -3) (by rfl) ?_
            exact g_iret hq h (i := 31) rfl (by unfold lmS; rw [if_pos ⟨bI_1.mp c_4, bI_1.mp c_15, c_31, (bI_1.mp c_26).2⟩, if_pos (bI_1.mp c_41)]; exact ⟨rfl, bf_0, hB⟩)
          · skip
            obtain ⟨hj, hj3⟩ := jx (M := 3) (bI_1.mp c_4) (by decide)
            have hC := lb_C hL
            refine g_aload_n h (i := 21) rfl rfl ?_
            refine g_getR h (i := 22) rfl fl_X9_19 (fun _ _ _ => rfl) (lb_k hL) (lb_now hL) ?_
            refine g_getR h (i := 23) rfl fl_X9_85 (fun _ _ _ => rfl) (lk_M (lb_M hL)) (lm_states (lb_M hL)) ?_
            refine g_iload_n h (i := 24) rfl rfl ?_
            refine g_iald h (i := 25) rfl (ln_states (lb_M hL)) (jvp (bI_1.mp c_4) (by decide) (by omega)) ?_
            refine g_eqi (R (pI j)).toInt32 (hB.2.1.2.2.2.2.2.2.2.2.2.2.2.1 (pI j) (by omega)) ?_
            refine g_iload_n h (i := 26) rfl rfl ?_
            refine g_iload_n h (i := 27) rfl rfl ?_
            refine g_callSx h hq (i := 28) rfl ms_X9_55 (ct_X9_isWithin l E _ (R (pI j)).toInt32 (x) (y) hlo) rfl rfl ⟨rfl, rfl, Nat.le_of_ble_eq_true rfl, Nat.le_of_ble_eq_true rfl⟩ (Nat.le_of_ble_eq_true rfl) ⟨Nat.zero_le _, Nat.zero_le _⟩ ?_
            refine g_if_ne h (i := 29) 64 rfl rfl (fun c_58 => ?_) (fun c_58 => ?_)
            · skip
              refine g_aload_n h (i := 32) rfl rfl ?_
              refine g_getR h (i := 33) rfl fl_X9_10 (fun _ _ _ => rfl) (lb_k hL) (lb_cell hL) ?_
              refine g_getR h (i := 34) rfl fl_X9_64 (fun _ _ _ => rfl) (lc_k (lb_C hL)) (lc_joints (lb_C hL)) ?_
              refine g_iload_n h (i := 35) rfl rfl ?_
              refine g_aald h (i := 36) rfl (by decide) (lk_joints (lb_C hL)) (jvp (bI_1.mp c_4) (by decide) (by omega)) (lc_jo (j := pI j) hC (by omega)) ?_
              refine g_iload_n h (i := 37) rfl rfl ?_
              refine g_putI_0 h (i := 38) rfl fl_X9_89 nf_2_2 (fun _ _ _ => rfl) (lk_jo (j := pI j) hC (by omega)) (rfl) (by rfl) ?_
              refine g_aload_n h (i := 39) rfl rfl ?_
              refine g_getR h (i := 40) rfl fl_X9_10 (fun _ _ _ => rfl) (lb_k hL) (lb_cell hL) ?_
              refine g_getR h (i := 41) rfl fl_X9_64 (fun _ _ _ => rfl) (lc_k (lb_C hL)) (lc_joints (lb_C hL)) ?_
              refine g_iload_n h (i := 42) rfl rfl ?_
              refine g_aald h (i := 43) rfl (by decide) (lk_joints (lb_C hL)) (jvp (bI_1.mp c_4) (by decide) (by omega)) (lc_jo (j := pI j) hC (by omega)) ?_
              refine g_iload_n h (i := 44) rfl rfl ?_
              refine g_putI_0 h (i := 45) rfl fl_X9_92 nf_2_3 (fun _ _ _ => rfl) (lk_jo (j := pI j) hC (by omega)) (rfl) (by rfl) ?_
              refine g_iconst h (i := 46) rfl (v := 1) (by rfl) ?_
              exact g_iret hq h (i := 47) rfl (by unfold lmS; rw [if_pos ⟨bI_1.mp c_4, bI_1.mp c_15, c_31, (bI_1.mp c_26).2⟩, if_neg (bI_0.mp c_41), if_pos (bI_1.mp c_58)]; exact ⟨rfl, bf_I (bf_I bf_0 (by omega)) (by omega), rb_j3 (rb_j2 hB (by omega)) (by omega)⟩)
            · skip
              refine g_bipush h (i := 30) rfl (v := -3) (by rfl) ?_
              exact g_iret hq h (i := 31) rfl (by unfold lmS; rw [if_pos ⟨bI_1.mp c_4, bI_1.mp c_15, c_31, (bI_1.mp c_26).2⟩, if_neg (bI_0.mp c_41), if_neg (bI_0.mp c_58)]; exact ⟨rfl, bf_0, hB⟩)
        · skip
          refine g_bipush h (i := 16) rfl (v := -2) (by rfl) ?_
          exact g_iret hq h (i := 17) rfl (by unfold lmS; rw [if_neg (fun q => c_31 q.2.2.1)]; exact ⟨rfl, bf_0, hB⟩)
-- jog
set_option maxRecDepth 100000 in
set_option maxHeartbeats 4000000 in
theorem ct_X9_jog (l : Launch) (E : EE) (w : Wd) (b : Nat) (cf : Nat → Nat → Int32) (R : Nat → Int64) (j x : Int32) (hlo : E.2.2 ≤ wN w) (hL : LayB w b) (hB : RepB w b cf R) (hr : FA R) : Ct l E yX9_jog cX9_jog 4 (some .int) ({ frames := 2, cells := 0, slots := 0, locals := 42 } : Room) [.ref b, .int j, .int x] w 0 0 (CS b w (jgS j x cf R)) := by
  refine ct_in (il := il_X9_jog) (by decide) dk_X9_jog (Nat.le_of_ble_eq_true rfl) hlo ?_
  intro X h hq

  refine g_iload_n h (i := 0) rfl rfl ?_
  refine g_callSx h hq (i := 1) rfl ms_X9_51 (ct_X9_isJoint l E _ j hlo) rfl rfl ⟨rfl, rfl, Nat.le_of_ble_eq_true rfl, Nat.le_of_ble_eq_true rfl⟩ (Nat.le_of_ble_eq_true rfl) ⟨Nat.zero_le _, Nat.zero_le _⟩ ?_
  refine g_if_eq h (i := 2) 23 rfl rfl (fun c_4 => ?_) (fun c_4 => ?_)
  · skip
    refine g_ldc h (i := 11) rfl k_X9_98 ?_
    exact g_iret hq h (i := 12) rfl (by unfold jgS; rw [if_neg (fun q => bI_0.mp c_4 q.1)]; exact ⟨rfl, bf_0, hB⟩)
  · skip
    obtain ⟨hj, hj3⟩ := jx (M := 3) (bI_1.mp c_4) (by decide)
    have hC := lb_C hL
    obtain ⟨_, _, jl, jh, _, _⟩ := hB.1.1 (pI j) (by omega)
    have hal := ct_X2_allows l E w (b + 1 + 14 + pI j) x hlo (lk_jo hC (by omega))
    rw [show wI w (b + 1 + 14 + pI j) 2 = cf 5 (pI j) by rw [Nat.add_assoc (b + 1)]; exact jl, show wI w (b + 1 + 14 + pI j) 3 = cf 6 (pI j) by rw [Nat.add_assoc (b + 1)]; exact jh] at hal
    refine g_aload_n h (i := 3) rfl rfl ?_
    refine g_getR h (i := 4) rfl fl_X9_10 (fun _ _ _ => rfl) (lb_k hL) (lb_cell hL) ?_
    refine g_getR h (i := 5) rfl fl_X9_64 (fun _ _ _ => rfl) (lc_k (lb_C hL)) (lc_joints (lb_C hL)) ?_
    refine g_iload_n h (i := 6) rfl rfl ?_
    refine g_aald h (i := 7) rfl (by decide) (lk_joints (lb_C hL)) (jvp (bI_1.mp c_4) (by decide) (by omega)) (lc_jo (j := pI j) hC (by omega)) ?_
    refine g_iload_n h (i := 8) rfl rfl ?_
    refine g_callVx h hq (i := 9) rfl mv_X9_95 cls2 (lk_jo (j := pI j) hC (by omega)) (hal) rfl rfl ⟨rfl, rfl, Nat.le_of_ble_eq_true rfl, Nat.le_of_ble_eq_true rfl⟩ (Nat.le_of_ble_eq_true rfl) ⟨Nat.zero_le _, Nat.zero_le _⟩ ?_
    refine g_if_ne h (i := 10) 26 rfl rfl (fun c_20 => ?_) (fun c_20 => ?_)
    · skip
      refine g_aload_n h (i := 13) rfl rfl ?_
      refine g_callVx h hq (i := 14) rfl mv_X9_60 cls9 (lb_k hL) (ct_X9_isGoing l E w b cf R hlo hL hB hr) rfl rfl ⟨rfl, rfl, Nat.le_of_ble_eq_true rfl, Nat.le_of_ble_eq_true rfl⟩ (Nat.le_of_ble_eq_true rfl) ⟨Nat.zero_le _, Nat.zero_le _⟩ ?_
      refine g_if_eq h (i := 15) 36 rfl rfl (fun c_30 => ?_) (fun c_30 => ?_)
      · skip
        refine g_aload_n h (i := 18) rfl rfl ?_
        refine g_getR h (i := 19) rfl fl_X9_19 (fun _ _ _ => rfl) (lb_k hL) (lb_now hL) ?_
        refine g_getR h (i := 20) rfl fl_X9_85 (fun _ _ _ => rfl) (lk_M (lb_M hL)) (lm_states (lb_M hL)) ?_
        refine g_iload_n h (i := 21) rfl rfl ?_
        refine g_iald h (i := 22) rfl (ln_states (lb_M hL)) (jvp (bI_1.mp c_4) (by decide) (by omega)) ?_
        refine g_eqi (R (pI j)).toInt32 (hB.2.1.2.2.2.2.2.2.2.2.2.2.2.1 (pI j) (by omega)) ?_
        refine g_istore_n h (i := 23) rfl hq rfl ?_
        refine g_aload_n h (i := 24) rfl rfl ?_
        refine g_getR h (i := 25) rfl fl_X9_19 (fun _ _ _ => rfl) (lb_k hL) (lb_now hL) ?_
        refine g_getR h (i := 26) rfl fl_X9_85 (fun _ _ _ => rfl) (lk_M (lb_M hL)) (lm_states (lb_M hL)) ?_
        refine g_iload_n h (i := 27) rfl rfl ?_
        refine g_iload_n h (i := 28) rfl rfl ?_
        refine g_iast h (i := 29) rfl (ln_states (lb_M hL)) (jvp (bI_1.mp c_4) (by decide) (by omega)) ?_
        refine g_iload_n h (i := 30) rfl rfl ?_
        exact g_iret hq h (i := 31) rfl (by unfold jgS; rw [if_pos ⟨bI_1.mp c_4, bI_1.mp c_20⟩, if_neg (bI_0.mp c_30)]; exact ⟨rfl, bf_I bf_0 (by omega), rb_M (f := 1) hB (by omega) (rm_st (k := pI j) hB.2.1 (by omega) (i_i x)) (fun y h1 h2 => up1_k (by omega))⟩)
      · skip
        refine g_ldc h (i := 16) rfl k_X9_83 ?_
        exact g_iret hq h (i := 17) rfl (by unfold jgS; rw [if_pos ⟨bI_1.mp c_4, bI_1.mp c_20⟩, if_pos (bI_1.mp c_30)]; exact ⟨rfl, bf_0, hB⟩)
    · skip
      refine g_ldc h (i := 11) rfl k_X9_98 ?_
      exact g_iret hq h (i := 12) rfl (by unfold jgS; rw [if_neg (fun q => bI_0.mp c_20 q.2)]; exact ⟨rfl, bf_0, hB⟩)
-- state
set_option maxRecDepth 100000 in
set_option maxHeartbeats 4000000 in
theorem ct_X9_state (l : Launch) (E : EE) (w : Wd) (b : Nat) (cf : Nat → Nat → Int32) (R : Nat → Int64) (j : Int32) (hlo : E.2.2 ≤ wN w) (hL : LayB w b) (hB : RepB w b cf R) (hr : FA R) : Ct l E yX9_state cX9_state 2 (some .int) ({ frames := 2, cells := 0, slots := 0, locals := 42 } : Room) [.ref b, .int j] w 0 0 (CS b w (stS j cf R)) := by
  refine ct_in (il := il_X9_state) (by decide) dk_X9_state (Nat.le_of_ble_eq_true rfl) hlo ?_
  intro X h hq

  refine g_iload_n h (i := 0) rfl rfl ?_
  refine g_callSx h hq (i := 1) rfl ms_X9_51 (ct_X9_isJoint l E _ j hlo) rfl rfl ⟨rfl, rfl, Nat.le_of_ble_eq_true rfl, Nat.le_of_ble_eq_true rfl⟩ (Nat.le_of_ble_eq_true rfl) ⟨Nat.zero_le _, Nat.zero_le _⟩ ?_
  refine g_if_eq h (i := 2) 19 rfl rfl (fun c_4 => ?_) (fun c_4 => ?_)
  · skip
    refine g_ldc h (i := 9) rfl k_X9_98 ?_
    exact g_iret hq h (i := 10) rfl (by unfold stS; rw [if_neg (bI_0.mp c_4)]; exact ⟨rfl, bf_0, hB⟩)
  · skip
    obtain ⟨hj, hj3⟩ := jx (M := 3) (bI_1.mp c_4) (by decide)
    have hC := lb_C hL
    refine g_aload_n h (i := 3) rfl rfl ?_
    refine g_getR h (i := 4) rfl fl_X9_19 (fun _ _ _ => rfl) (lb_k hL) (lb_now hL) ?_
    refine g_getR h (i := 5) rfl fl_X9_85 (fun _ _ _ => rfl) (lk_M (lb_M hL)) (lm_states (lb_M hL)) ?_
    refine g_iload_n h (i := 6) rfl rfl ?_
    refine g_iald h (i := 7) rfl (ln_states (lb_M hL)) (jvp (bI_1.mp c_4) (by decide) (by omega)) ?_
    refine g_eqi (R (pI j)).toInt32 (hB.2.1.2.2.2.2.2.2.2.2.2.2.2.1 (pI j) (by omega)) ?_
    refine g_goto h (i := 8) 21 rfl rfl ?_
    exact g_iret hq h (i := 10) rfl (by unfold stS; rw [if_pos (bI_1.mp c_4)]; exact ⟨rfl, bf_0, hB⟩)
-- unbox
set_option maxRecDepth 100000 in
set_option maxHeartbeats 4000000 in
theorem ct_X9_unbox (l : Launch) (E : EE) (w : Wd) (b : Nat) (cf : Nat → Nat → Int32) (R : Nat → Int64) (k : Int32) (hlo : E.2.2 ≤ wN w) (hL : LayB w b) (hB : RepB w b cf R) (hr : FA R) : Ct l E yX9_unbox cX9_unbox 2 (some .int) ({ frames := 1, cells := 0, slots := 0, locals := 22 } : Room) [.ref b, .int k] w 0 0 (CS b w (ubS k cf R)) := by
  refine ct_in (il := il_X9_unbox) (by decide) dk_X9_unbox (Nat.le_of_ble_eq_true rfl) hlo ?_
  intro X h hq

  refine g_iload_n h (i := 0) rfl rfl ?_
  refine g_iconst h (i := 1) rfl (v := 0) (by rfl) ?_
  refine g_iconst h (i := 2) rfl (v := 3) (by rfl) ?_
  refine g_callSx h hq (i := 3) rfl ms_X9_55 (ct_X9_isWithin l E _ k (0) (3) hlo) rfl rfl ⟨rfl, rfl, Nat.le_of_ble_eq_true rfl, Nat.le_of_ble_eq_true rfl⟩ (Nat.le_of_ble_eq_true rfl) ⟨Nat.zero_le _, Nat.zero_le _⟩ ?_
  refine g_if_ne h (i := 4) 12 rfl rfl (fun c_6 => ?_) (fun c_6 => ?_)
  · skip
    refine g_aload_n h (i := 7) rfl rfl ?_
    refine g_callVx h hq (i := 8) rfl mv_X9_60 cls9 (lb_k hL) (ct_X9_isGoing l E w b cf R hlo hL hB hr) rfl rfl ⟨rfl, rfl, Nat.le_of_ble_eq_true rfl, Nat.le_of_ble_eq_true rfl⟩ (Nat.le_of_ble_eq_true rfl) ⟨Nat.zero_le _, Nat.zero_le _⟩ ?_
    refine g_if_ne h (i := 9) 34 rfl rfl (fun c_16 => ?_) (fun c_16 => ?_)
    · skip
      refine g_bipush h (i := 17) rfl (v := -3) (by rfl) ?_
      exact g_iret hq h (i := 18) rfl (by unfold ubS; rw [if_pos (bI_1.mp c_6)]; split; exact ⟨rfl, bf_0, hB⟩; rw [if_pos (bI_1.mp c_16)]; exact ⟨rfl, bf_0, hB⟩)
    · skip
      obtain ⟨hk, hk3⟩ := jx (M := 3) (bI_1.mp c_6) (by decide)
      have hC := lb_C hL
      obtain ⟨b0, _⟩ := hB.1.2.1 (pI k) (by omega)
      refine g_aload_n h (i := 10) rfl rfl ?_
      refine g_getR h (i := 11) rfl fl_X9_10 (fun _ _ _ => rfl) (lb_k hL) (lb_cell hL) ?_
      refine g_getR h (i := 12) rfl fl_X9_124 (fun _ _ _ => rfl) (lc_k (lb_C hL)) (lc_boxes (lb_C hL)) ?_
      refine g_iload_n h (i := 13) rfl rfl ?_
      refine g_aald h (i := 14) rfl (by decide) (lk_boxes (lb_C hL)) (jvp (bI_1.mp c_6) (by decide) (by omega)) (lc_bx (k := pI k) hC (by omega)) ?_
      refine g_getI h (i := 15) rfl fl_X9_134 (fun _ _ _ => rfl) (lk_bx (k := pI k) hC (by omega)) ?_
      refine g_eqi (cf 9 (pI k)) (by rw [Nat.add_assoc (b + 1)]; exact b0) ?_
      refine g_if_ne h (i := 16) 37 rfl rfl (fun c_31 => ?_) (fun c_31 => ?_)
      · skip
        refine g_aload_n h (i := 19) rfl rfl ?_
        refine g_getR h (i := 20) rfl fl_X9_10 (fun _ _ _ => rfl) (lb_k hL) (lb_cell hL) ?_
        refine g_getR h (i := 21) rfl fl_X9_124 (fun _ _ _ => rfl) (lc_k (lb_C hL)) (lc_boxes (lb_C hL)) ?_
        refine g_iload_n h (i := 22) rfl rfl ?_
        refine g_aald h (i := 23) rfl (by decide) (lk_boxes (lb_C hL)) (jvp (bI_1.mp c_6) (by decide) (by omega)) (lc_bx (k := pI k) hC (by omega)) ?_
        refine g_iconst h (i := 24) rfl (v := 0) (by rfl) ?_
        refine g_putI_0 h (i := 25) rfl fl_X9_134 nf_0_0 (fun _ _ _ => rfl) (lk_bx (k := pI k) hC (by omega)) (rfl) (by rfl) ?_
        refine g_iconst h (i := 26) rfl (v := 1) (by rfl) ?_
        exact g_iret hq h (i := 27) rfl (by unfold ubS; rw [if_pos (bI_1.mp c_6), if_neg c_31, if_neg (bI_0.mp c_16)]; exact ⟨rfl, bf_I bf_0 (by omega), rb_b0 hB (by omega)⟩)
      · skip
        refine g_bipush h (i := 17) rfl (v := -3) (by rfl) ?_
        exact g_iret hq h (i := 18) rfl (by unfold ubS; rw [if_pos (bI_1.mp c_6), if_pos c_31]; exact ⟨rfl, bf_0, hB⟩)
  · skip
    refine g_bipush h (i := 5) rfl (v := -2) (by rfl) ?_
    exact g_iret hq h (i := 6) rfl (by unfold ubS; rw [if_neg (bI_0.mp c_6)]; exact ⟨rfl, bf_0, hB⟩)
