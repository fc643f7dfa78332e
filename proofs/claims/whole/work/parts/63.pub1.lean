theorem jvp {j : Int32} {m : Int32} {n : Nat} (h : 0 ≤ j ∧ j ≤ m) (hm : m.toInt < (n : Int)) (hn : n < 2147483648) : vp_in j n := by
  have h1 := i32le.mp h.1
  have h2 := i32le.mp h.2
  exact vp_in_iff.mpr ⟨h1, by omega⟩
theorem jx {i m : Int32} {M : Nat} (h : 0 ≤ i ∧ i ≤ m) (hm : m.toInt = (M : Int)) : i = nI (pI i) ∧ pI i ≤ M := by
  have q := isI_of h (by decide)
  have h2 := i32le.mp h.2
  exact ⟨q.1, by omega⟩
theorem jadd {i : Int32} (k : Nat) (h : i = nI (pI i)) : nI k + i = nI (k + pI i) := (congrArg (fun z => nI k + z) h).trans (nI_add k _)
theorem jadd0 {i : Int32} (h : i = nI (pI i)) : (0 : Int32) + i = nI (pI i) := (jadd 0 h).trans (by rw [Nat.zero_add])
theorem jcl {i : Int32} (k : Nat) (h : i = nI (pI i)) (h2 : pI i ≤ 1000) (h3 : k ≤ 1000) : (nI k + i).toNatClampNeg = k + pI i := by rw [jadd k h]; exact nI_clamp (by omega)
theorem jin {i : Int32} (k n : Nat) (h : i = nI (pI i)) (h2 : k + pI i < n) (h3 : n ≤ 3000) : vp_in (nI k + i) n := by rw [jadd k h]; exact vp_in_nI h2 (by omega)
/-- what a call leaves of the reference: its config, its row; beneath it nothing changes -/
def RI (a : Nat) (w : Wd) (cf : Nat → Nat → Int32) (r : Nat → Int64) (w2 : Wd) : Prop := ∃ I J D, w2 = dW w I J D ∧ (∀ f, I (a + f) = cf f) ∧ J (a + 1) = r ∧ ∀ p, p < a → I p = wI w p ∧ J p = wJ w p ∧ D p = wD w p
theorem ri_RS {a : Nat} {w w3 : Wd} {r : Nat → Int64} (h : RS a w w3) : RI a w (cfW w a) r (sRow w3 a r) := by
  obtain ⟨J, D, rfl, h1, h2⟩ := h
  exact ⟨wI w, ua J (a + 1) r, D, rfl, fun _ => rfl, ua_s _ _ _, fun p hp => ⟨rfl, (ua_a (by omega)).trans (h1 p (by omega) (by omega) (by omega) (by omega) (by omega)), h2 p (by omega)⟩⟩
theorem ri_0 {a : Nat} {w : Wd} {r : Nat → Int64} : RI a w (cfW w a) r (sRow w a r) := ri_RS (RS_r a w)
theorem ri_I {a : Nat} {w w2 : Wd} {cf : Nat → Nat → Int32} {r : Nat → Int64} (f k : Nat) {v : Int32} (h : RI a w cf r w2) : RI a w (up2 cf f k v) r (sI w2 (a + f) k v) := by
  obtain ⟨I, J, D, rfl, h1, h2, h3⟩ := h
  refine ⟨up2 I (a + f) k v, J, D, rfl, fun g => ?_, h2, fun p hp => ⟨(up2_f (by omega)).trans (h3 p hp).1, (h3 p hp).2.1, (h3 p hp).2.2⟩⟩
  funext y
  unfold up2
  by_cases e : g = f
  · subst e
    by_cases e2 : y = k
    · rw [if_pos ⟨rfl, e2⟩, if_pos ⟨rfl, e2⟩]
    · rw [if_neg (fun q => e2 q.2), if_neg (fun q => e2 q.2), h1]
  · rw [if_neg (fun q => e (by omega)), if_neg (fun q => e q.1), h1]
theorem ri_r {a : Nat} {w w2 : Wd} {cf : Nat → Nat → Int32} {r r' : Nat → Int64} (h : RI a w cf r w2) : RI a w cf r' (sRow w2 a r') := by
  obtain ⟨I, J, D, rfl, h1, h2, h3⟩ := h
  exact ⟨I, ua J (a + 1) r', D, rfl, h1, ua_s _ _ _, fun p hp => ⟨(h3 p hp).1, (ua_a (by omega)).trans (h3 p hp).2.1, (h3 p hp).2.2⟩⟩
/-- an answer, a config, a row -/
abbrev St := Value × (Nat → Nat → Int32) × (Nat → Int64)
abbrev PS (a : Nat) (w : Wd) (s : St) : Option Value → Wd → Prop := fun q w2 => q = some s.1 ∧ RI a w s.2.1 s.2.2 w2
/-- what joint is told -/
abbrev jtG (j kd ln pc rs : Int32) : Prop := (0 ≤ j ∧ j ≤ 3) ∧ (0 ≤ kd ∧ kd ≤ 1) ∧ (0 ≤ ln ∧ ln ≤ 1000) ∧ (1 ≤ pc ∧ pc ≤ 100000) ∧ (1 ≤ rs ∧ rs ≤ 100000)
def jtS (j kd ln pc rs : Int32) (cf : Nat → Nat → Int32) (r : Nat → Int64) : St := if jtG j kd ln pc rs then (if r 28 = 1 then (.int (-3), cf, r) else (.int 1, up2 (up2 (up2 (up2 cf 3 (pI j) (bI (kd = 1))) 4 (pI j) ln) 7 (pI j) pc) 8 (pI j) rs, r)) else (.int (-2), cf, r)
-- joint
set_option maxRecDepth 100000 in
set_option maxHeartbeats 4000000 in
theorem ct_X10_joint (l : Launch) (E : EE) (w : Wd) (a : Nat) (r : Nat → Int64) (j kd ln pc rs : Int32) (hlo : E.2.2 ≤ wN (sRow w a r)) (hL : LayR w a) : Ct l E yX10_joint cX10_joint 6 (some .int) ({ frames := 2, cells := 0, slots := 0, locals := 43 } : Room) [.ref a, .int j, .int kd, .int ln, .int pc, .int rs] (sRow w a r) 0 0 (PS a w (jtS j kd ln pc rs (cfW w a) r)) := by
  refine ct_in (il := il_X10_joint) (by decide) dk_X10_joint (Nat.le_of_ble_eq_true rfl) hlo ?_
  intro X h hq

  refine g_aload_n h (i := 0) rfl rfl ?_
  refine g_iload_n h (i := 1) rfl rfl ?_
  refine g_callVx h hq (i := 2) rfl mv_X10_86 cls10 (lk_R hL) (ct_X10_isJoint l E _ a j hlo) rfl rfl ⟨rfl, rfl, Nat.le_of_ble_eq_true rfl, Nat.le_of_ble_eq_true rfl⟩ (Nat.le_of_ble_eq_true rfl) ⟨Nat.zero_le _, Nat.zero_le _⟩ ?_
  refine g_if_eq h (i := 3) 50 rfl rfl (fun c_5 => ?_) (fun c_5 => ?_)
  · skip
    refine g_bipush h (i := 24) rfl (v := -2) (by rfl) ?_
    exact g_iret hq h (i := 25) rfl (by unfold jtS; rw [if_neg (fun q => bI_0.mp c_5 q.1)]; exact ⟨rfl, ri_0⟩)
  · skip
    refine g_iload_n h (i := 4) rfl rfl ?_
    refine g_iconst h (i := 5) rfl (v := 0) (by rfl) ?_
    refine g_iconst h (i := 6) rfl (v := 1) (by rfl) ?_
    refine g_callSx h hq (i := 7) rfl ms_X10_82 (ct_X10_in l E _ kd (0) (1) hlo) rfl rfl ⟨rfl, rfl, Nat.le_of_ble_eq_true rfl, Nat.le_of_ble_eq_true rfl⟩ (Nat.le_of_ble_eq_true rfl) ⟨Nat.zero_le _, Nat.zero_le _⟩ ?_
    refine g_if_eq h (i := 8) 50 rfl rfl (fun c_14 => ?_) (fun c_14 => ?_)
    · skip
      refine g_bipush h (i := 24) rfl (v := -2) (by rfl) ?_
      exact g_iret hq h (i := 25) rfl (by unfold jtS; rw [if_neg (fun q => bI_0.mp c_14 q.2.1)]; exact ⟨rfl, ri_0⟩)
    · skip
      refine g_iload_n h (i := 9) rfl rfl ?_
      refine g_iconst h (i := 10) rfl (v := 0) (by rfl) ?_
      refine g_sipush h (i := 11) rfl (v := 1000) (by rfl) ?_
      refine g_callSx h hq (i := 12) rfl ms_X10_82 (ct_X10_in l E _ ln (0) (1000) hlo) rfl rfl ⟨rfl, rfl, Nat.le_of_ble_eq_true rfl, Nat.le_of_ble_eq_true rfl⟩ (Nat.le_of_ble_eq_true rfl) ⟨Nat.zero_le _, Nat.zero_le _⟩ ?_
      refine g_if_eq h (i := 13) 50 rfl rfl (fun c_25 => ?_) (fun c_25 => ?_)
      · skip
        refine g_bipush h (i := 24) rfl (v := -2) (by rfl) ?_
        exact g_iret hq h (i := 25) rfl (by unfold jtS; rw [if_neg (fun q => bI_0.mp c_25 q.2.2.1)]; exact ⟨rfl, ri_0⟩)
      · skip
        refine g_iload h (i := 14) rfl rfl ?_
        refine g_iconst h (i := 15) rfl (v := 1) (by rfl) ?_
        refine g_ldc h (i := 16) rfl k_X10_90 ?_
        refine g_callSx h hq (i := 17) rfl ms_X10_82 (ct_X10_in l E _ pc (1) (100000) hlo) rfl rfl ⟨rfl, rfl, Nat.le_of_ble_eq_true rfl, Nat.le_of_ble_eq_true rfl⟩ (Nat.le_of_ble_eq_true rfl) ⟨Nat.zero_le _, Nat.zero_le _⟩ ?_
        refine g_if_eq h (i := 18) 50 rfl rfl (fun c_36 => ?_) (fun c_36 => ?_)
        · skip
          refine g_bipush h (i := 24) rfl (v := -2) (by rfl) ?_
          exact g_iret hq h (i := 25) rfl (by unfold jtS; rw [if_neg (fun q => bI_0.mp c_36 q.2.2.2.1)]; exact ⟨rfl, ri_0⟩)
        · skip
          refine g_iload h (i := 19) rfl rfl ?_
          refine g_iconst h (i := 20) rfl (v := 1) (by rfl) ?_
          refine g_ldc h (i := 21) rfl k_X10_90 ?_
          refine g_callSx h hq (i := 22) rfl ms_X10_82 (ct_X10_in l E _ rs (1) (100000) hlo) rfl rfl ⟨rfl, rfl, Nat.le_of_ble_eq_true rfl, Nat.le_of_ble_eq_true rfl⟩ (Nat.le_of_ble_eq_true rfl) ⟨Nat.zero_le _, Nat.zero_le _⟩ ?_
          refine g_if_ne h (i := 23) 53 rfl rfl (fun c_47 => ?_) (fun c_47 => ?_)
          · skip
            refine g_aload_n h (i := 26) rfl rfl ?_
            refine g_callVx h hq (i := 27) rfl mv_X10_91 cls10 (lk_R hL) (ct_X10_isGoing l E w a r hlo hL) rfl rfl ⟨rfl, rfl, Nat.le_of_ble_eq_true rfl, Nat.le_of_ble_eq_true rfl⟩ (Nat.le_of_ble_eq_true rfl) ⟨Nat.zero_le _, Nat.zero_le _⟩ ?_
            refine g_if_eq h (i := 28) 63 rfl rfl (fun c_57 => ?_) (fun c_57 => ?_)
            · skip
              refine g_aload_n h (i := 31) rfl rfl ?_
              refine g_getR h (i := 32) rfl fl_X10_17 (fun _ _ _ => rfl) (lk_R hL) (lr_slides hL) ?_
              refine g_iload_n h (i := 33) rfl rfl ?_
              refine g_iload_n h (i := 34) rfl rfl ?_
              refine g_iconst h (i := 35) rfl (v := 1) (by rfl) ?_
              refine g_icmp_ne h (i := 36) 77 rfl rfl (fun c_70 => ?_) (fun c_70 => ?_)
              · skip
                refine g_iconst h (i := 39) rfl (v := 0) (by rfl) ?_
                refine g_zast h (i := 40) rfl (lq_slides hL) (jvp (bI_1.mp c_5) (by decide) (by omega)) (rfl) ?_
                refine g_aload_n h (i := 41) rfl rfl ?_
                refine g_getR h (i := 42) rfl fl_X10_20 (fun _ _ _ => rfl) (lk_R hL) (lr_length hL) ?_
                refine g_iload_n h (i := 43) rfl rfl ?_
                refine g_iload_n h (i := 44) rfl rfl ?_
                refine g_iast h (i := 45) rfl (lq_length hL) (jvp (bI_1.mp c_5) (by decide) (by omega)) ?_
                refine g_aload_n h (i := 46) rfl rfl ?_
                refine g_getR h (i := 47) rfl fl_X10_32 (fun _ _ _ => rfl) (lk_R hL) (lr_pace hL) ?_
                refine g_iload_n h (i := 48) rfl rfl ?_
                refine g_iload h (i := 49) rfl rfl ?_
                refine g_iast h (i := 50) rfl (lq_pace hL) (jvp (bI_1.mp c_5) (by decide) (by omega)) ?_
                refine g_aload_n h (i := 51) rfl rfl ?_
                refine g_getR h (i := 52) rfl fl_X10_35 (fun _ _ _ => rfl) (lk_R hL) (lr_rise hL) ?_
                refine g_iload_n h (i := 53) rfl rfl ?_
                refine g_iload h (i := 54) rfl rfl ?_
                refine g_iast h (i := 55) rfl (lq_rise hL) (jvp (bI_1.mp c_5) (by decide) (by omega)) ?_
                refine g_iconst h (i := 56) rfl (v := 1) (by rfl) ?_
                exact g_iret hq h (i := 57) rfl (by unfold jtS; rw [if_pos ⟨bI_1.mp c_5, bI_1.mp c_14, bI_1.mp c_25, bI_1.mp c_36, bI_1.mp c_47⟩, if_neg (bI_0.mp c_57), bI_f c_70]; exact ⟨rfl, ri_I 8 _ (ri_I 7 _ (ri_I 4 _ (ri_I 3 _ ri_0)))⟩)
              · skip
                refine g_iconst h (i := 37) rfl (v := 1) (by rfl) ?_
                refine g_goto h (i := 38) 78 rfl rfl ?_
                refine g_zast h (i := 40) rfl (lq_slides hL) (jvp (bI_1.mp c_5) (by decide) (by omega)) (rfl) ?_
                refine g_aload_n h (i := 41) rfl rfl ?_
                refine g_getR h (i := 42) rfl fl_X10_20 (fun _ _ _ => rfl) (lk_R hL) (lr_length hL) ?_
                refine g_iload_n h (i := 43) rfl rfl ?_
                refine g_iload_n h (i := 44) rfl rfl ?_
                refine g_iast h (i := 45) rfl (lq_length hL) (jvp (bI_1.mp c_5) (by decide) (by omega)) ?_
                refine g_aload_n h (i := 46) rfl rfl ?_
                refine g_getR h (i := 47) rfl fl_X10_32 (fun _ _ _ => rfl) (lk_R hL) (lr_pace hL) ?_
                refine g_iload_n h (i := 48) rfl rfl ?_
                refine g_iload h (i := 49) rfl rfl ?_
                refine g_iast h (i := 50) rfl (lq_pace hL) (jvp (bI_1.mp c_5) (by decide) (by omega)) ?_
                refine g_aload_n h (i := 51) rfl rfl ?_
                refine g_getR h (i := 52) rfl fl_X10_35 (fun _ _ _ => rfl) (lk_R hL) (lr_rise hL) ?_
                refine g_iload_n h (i := 53) rfl rfl ?_
                refine g_iload h (i := 54) rfl rfl ?_
                refine g_iast h (i := 55) rfl (lq_rise hL) (jvp (bI_1.mp c_5) (by decide) (by omega)) ?_
                refine g_iconst h (i := 56) rfl (v := 1) (by rfl) ?_
                exact g_iret hq h (i := 57) rfl (by unfold jtS; rw [if_pos ⟨bI_1.mp c_5, bI_1.mp c_14, bI_1.mp c_25, bI_1.mp c_36, bI_1.mp c_47⟩, if_neg (bI_0.mp c_57), bI_t c_70]; exact ⟨rfl, ri_I 8 _ (ri_I 7 _ (ri_I 4 _ (ri_I 3 _ ri_0)))⟩)
            · skip
              refine g_bipush h (i := 29) rfl (v := -3) (by rfl) ?_
              exact g_iret hq h (i := 30) rfl (by unfold jtS; rw [if_pos ⟨bI_1.mp c_5, bI_1.mp c_14, bI_1.mp c_25, bI_1.mp c_36, bI_1.mp c_47⟩, if_pos (bI_1.mp c_57)]; exact ⟨rfl, ri_0⟩)
          · skip
            refine g_bipush h (i := 24) rfl (v := -2) (by rfl) ?_
            exact g_iret hq h (i := 25) rfl (by unfold jtS; rw [if_neg (fun q => bI_0.mp c_47 q.2.2.2.2)]; exact ⟨rfl, ri_0⟩)
/-- limits -/
abbrev lmG (j x y : Int32) : Prop := (0 ≤ j ∧ j ≤ 3) ∧ (-1000000 ≤ x ∧ x ≤ 1000000) ∧ (x ≤ y ∧ y ≤ 1000000)
def lmS (j x y : Int32) (cf : Nat → Nat → Int32) (r : Nat → Int64) : St := if lmG j x y then (if r 28 = 1 then (.int (-3), cf, r) else if x ≤ (r (pI j)).toInt32 ∧ (r (pI j)).toInt32 ≤ y then (.int 1, up2 (up2 cf 5 (pI j) x) 6 (pI j) y, r) else (.int (-3), cf, r)) else (.int (-2), cf, r)
-- limits
set_option maxRecDepth 100000 in
set_option maxHeartbeats 4000000 in
theorem ct_X10_limits (l : Launch) (E : EE) (w : Wd) (a : Nat) (r : Nat → Int64) (j x y : Int32) (hlo : E.2.2 ≤ wN (sRow w a r)) (hL : LayR w a) : Ct l E yX10_limits cX10_limits 4 (some .int) ({ frames := 2, cells := 0, slots := 0, locals := 43 } : Room) [.ref a, .int j, .int x, .int y] (sRow w a r) 0 0 (PS a w (lmS j x y (cfW w a) r)) := by
  refine ct_in (il := il_X10_limits) (by decide) dk_X10_limits (Nat.le_of_ble_eq_true rfl) hlo ?_
  intro X h hq

  refine g_aload_n h (i := 0) rfl rfl ?_
  refine g_iload_n h (i := 1) rfl rfl ?_
  refine g_callVx h hq (i := 2) rfl mv_X10_86 cls10 (lk_R hL) (ct_X10_isJoint l E _ a j hlo) rfl rfl ⟨rfl, rfl, Nat.le_of_ble_eq_true rfl, Nat.le_of_ble_eq_true rfl⟩ (Nat.le_of_ble_eq_true rfl) ⟨Nat.zero_le _, Nat.zero_le _⟩ ?_
  refine g_if_eq h (i := 3) 29 rfl rfl (fun c_5 => ?_) (fun c_5 => ?_)
  · skip
    refine g_bipush h (i := 14) rfl (v := -2) (by rfl) ?_
    exact g_iret hq h (i := 15) rfl (by unfold lmS; rw [if_neg (fun q => bI_0.mp c_5 q.1)]; exact ⟨rfl, ri_0⟩)
  · skip
    refine g_iload_n h (i := 4) rfl rfl ?_
    refine g_ldc h (i := 5) rfl k_X10_95 ?_
    refine g_ldc h (i := 6) rfl k_X10_96 ?_
    refine g_callSx h hq (i := 7) rfl ms_X10_82 (ct_X10_in l E _ x (-1000000) (1000000) hlo) rfl rfl ⟨rfl, rfl, Nat.le_of_ble_eq_true rfl, Nat.le_of_ble_eq_true rfl⟩ (Nat.le_of_ble_eq_true rfl) ⟨Nat.zero_le _, Nat.zero_le _⟩ ?_
    refine g_if_eq h (i := 8) 29 rfl rfl (fun c_16 => ?_) (fun c_16 => ?_)
    · skip
      refine g_bipush h (i := 14) rfl (v := -2) (by rfl) ?_
      exact g_iret hq h (i := 15) rfl (by unfold lmS; rw [if_neg (fun q => bI_0.mp c_16 q.2.1)]; exact ⟨rfl, ri_0⟩)
    · skip
      refine g_iload_n h (i := 9) rfl rfl ?_
      refine g_iload_n h (i := 10) rfl rfl ?_
      refine g_ldc h (i := 11) rfl k_X10_96 ?_
      refine g_callSx h hq (i := 12) rfl ms_X10_82 (ct_X10_in l E _ y (x) (1000000) hlo) rfl rfl ⟨rfl, rfl, Nat.le_of_ble_eq_true rfl, Nat.le_of_ble_eq_true rfl⟩ (Nat.le_of_ble_eq_true rfl) ⟨Nat.zero_le _, Nat.zero_le _⟩ ?_
      refine g_if_ne h (i := 13) 32 rfl rfl (fun c_26 => ?_) (fun c_26 => ?_)
      · skip
        refine g_aload_n h (i := 16) rfl rfl ?_
        refine g_callVx h hq (i := 17) rfl mv_X10_91 cls10 (lk_R hL) (ct_X10_isGoing l E w a r hlo hL) rfl rfl ⟨rfl, rfl, Nat.le_of_ble_eq_true rfl, Nat.le_of_ble_eq_true rfl⟩ (Nat.le_of_ble_eq_true rfl) ⟨Nat.zero_le _, Nat.zero_le _⟩ ?_
        refine g_if_ne h (i := 18) 54 rfl rfl (fun c_36 => ?_) (fun c_36 => ?_)
        · skip
          refine g_bipush h (i := 28) rfl (v := -3) (by rfl) ?_
          exact g_iret hq h (i := 29) rfl (by unfold lmS; rw [if_pos ⟨bI_1.mp c_5, bI_1.mp c_16, bI_1.mp c_26⟩, if_pos (bI_1.mp c_36)]; exact ⟨rfl, ri_0⟩)
        · skip
          obtain ⟨hj, hj3⟩ := jx (M := 3) (bI_1.mp c_5) (by decide)
          refine g_aload_n h (i := 19) rfl rfl ?_
          refine g_iconst h (i := 20) rfl (v := 0) (by rfl) ?_
          refine g_iload_n h (i := 21) rfl rfl ?_
          refine g_iadd h (i := 22) rfl ?_
          refine g_eqi (nI (pI j)) (jadd0 hj) ?_
          refine g_callVx h hq (i := 23) rfl mv_X10_97 cls10 (lk_R hL) (ct_X10_rowAt l E w a (pI j) r _ hlo hL (vp_in_nI (by omega) (by omega)) (nI_clamp (by omega))) rfl rfl ⟨rfl, rfl, Nat.le_of_ble_eq_true rfl, Nat.le_of_ble_eq_true rfl⟩ (Nat.le_of_ble_eq_true rfl) ⟨Nat.zero_le _, Nat.zero_le _⟩ ?_
          refine g_iload_n h (i := 24) rfl rfl ?_
          refine g_iload_n h (i := 25) rfl rfl ?_
          refine g_callSx h hq (i := 26) rfl ms_X10_82 (ct_X10_in l E _ (r (pI j)).toInt32 (x) (y) hlo) rfl rfl ⟨rfl, rfl, Nat.le_of_ble_eq_true rfl, Nat.le_of_ble_eq_true rfl⟩ (Nat.le_of_ble_eq_true rfl) ⟨Nat.zero_le _, Nat.zero_le _⟩ ?_
          refine g_if_ne h (i := 27) 57 rfl rfl (fun c_51 => ?_) (fun c_51 => ?_)
          · skip
            refine g_aload_n h (i := 30) rfl rfl ?_
            refine g_getR h (i := 31) rfl fl_X10_25 (fun _ _ _ => rfl) (lk_R hL) (lr_low hL) ?_
            refine g_iload_n h (i := 32) rfl rfl ?_
            refine g_iload_n h (i := 33) rfl rfl ?_
            refine g_iast h (i := 34) rfl (lq_low hL) (jvp (bI_1.mp c_5) (by decide) (by omega)) ?_
            refine g_aload_n h (i := 35) rfl rfl ?_
            refine g_getR h (i := 36) rfl fl_X10_29 (fun _ _ _ => rfl) (lk_R hL) (lr_high hL) ?_
            refine g_iload_n h (i := 37) rfl rfl ?_
            refine g_iload_n h (i := 38) rfl rfl ?_
            refine g_iast h (i := 39) rfl (lq_high hL) (jvp (bI_1.mp c_5) (by decide) (by omega)) ?_
            refine g_iconst h (i := 40) rfl (v := 1) (by rfl) ?_
            exact g_iret hq h (i := 41) rfl (by unfold lmS; rw [if_pos ⟨bI_1.mp c_5, bI_1.mp c_16, bI_1.mp c_26⟩, if_neg (bI_0.mp c_36), if_pos (bI_1.mp c_51)]; exact ⟨rfl, ri_I 6 _ (ri_I 5 _ ri_0)⟩)
          · skip
            refine g_bipush h (i := 28) rfl (v := -3) (by rfl) ?_
            exact g_iret hq h (i := 29) rfl (by unfold lmS; rw [if_pos ⟨bI_1.mp c_5, bI_1.mp c_16, bI_1.mp c_26⟩, if_neg (bI_0.mp c_36), if_neg (bI_0.mp c_51)]; exact ⟨rfl, ri_0⟩)
      · skip
        refine g_bipush h (i := 14) rfl (v := -2) (by rfl) ?_
        exact g_iret hq h (i := 15) rfl (by unfold lmS; rw [if_neg (fun q => bI_0.mp c_26 q.2.2)]; exact ⟨rfl, ri_0⟩)
/-- jog -/
def jgS (j x : Int32) (cf : Nat → Nat → Int32) (r : Nat → Int64) : St := if (0 ≤ j ∧ j ≤ 3) ∧ (cf 5 (pI j) ≤ x ∧ x ≤ cf 6 (pI j)) then (if r 28 = 1 then (.int (-1000000), cf, r) else (.int (r (pI j)).toInt32, cf, up1 r (pI j) x.toInt64)) else (.int (-2000000), cf, r)
-- jog
set_option maxRecDepth 100000 in
set_option maxHeartbeats 4000000 in
theorem ct_X10_jog (l : Launch) (E : EE) (w : Wd) (a : Nat) (r : Nat → Int64) (j x : Int32) (hlo : E.2.2 ≤ wN (sRow w a r)) (hL : LayR w a) : Ct l E yX10_jog cX10_jog 4 (some .int) ({ frames := 2, cells := 0, slots := 0, locals := 43 } : Room) [.ref a, .int j, .int x] (sRow w a r) 0 0 (PS a w (jgS j x (cfW w a) r)) := by
  refine ct_in (il := il_X10_jog) (by decide) dk_X10_jog (Nat.le_of_ble_eq_true rfl) hlo ?_
  intro X h hq

  refine g_aload_n h (i := 0) rfl rfl ?_
  refine g_iload_n h (i := 1) rfl rfl ?_
  refine g_callVx h hq (i := 2) rfl mv_X10_86 cls10 (lk_R hL) (ct_X10_isJoint l E _ a j hlo) rfl rfl ⟨rfl, rfl, Nat.le_of_ble_eq_true rfl, Nat.le_of_ble_eq_true rfl⟩ (Nat.le_of_ble_eq_true rfl) ⟨Nat.zero_le _, Nat.zero_le _⟩ ?_
  refine g_if_eq h (i := 3) 27 rfl rfl (fun c_5 => ?_) (fun c_5 => ?_)
  · skip
    refine g_ldc h (i := 15) rfl k_X10_101 ?_
    exact g_iret hq h (i := 16) rfl (by unfold jgS; rw [if_neg (fun q => bI_0.mp c_5 q.1)]; exact ⟨rfl, ri_0⟩)
  · skip
    refine g_iload_n h (i := 4) rfl rfl ?_
    refine g_aload_n h (i := 5) rfl rfl ?_
    refine g_getR h (i := 6) rfl fl_X10_25 (fun _ _ _ => rfl) (lk_R hL) (lr_low hL) ?_
    refine g_iload_n h (i := 7) rfl rfl ?_
    refine g_iald h (i := 8) rfl (lq_low hL) (jvp (bI_1.mp c_5) (by decide) (by omega)) ?_
    refine g_eqi (wI w (a + 5) _) rfl ?_
    refine g_aload_n h (i := 9) rfl rfl ?_
    refine g_getR h (i := 10) rfl fl_X10_29 (fun _ _ _ => rfl) (lk_R hL) (lr_high hL) ?_
    refine g_iload_n h (i := 11) rfl rfl ?_
    refine g_iald h (i := 12) rfl (lq_high hL) (jvp (bI_1.mp c_5) (by decide) (by omega)) ?_
    refine g_eqi (wI w (a + 6) _) rfl ?_
    refine g_callSx h hq (i := 13) rfl ms_X10_82 (ct_X10_in l E _ x (wI w (a + 5) (pI j)) (wI w (a + 6) (pI j)) hlo) rfl rfl ⟨rfl, rfl, Nat.le_of_ble_eq_true rfl, Nat.le_of_ble_eq_true rfl⟩ (Nat.le_of_ble_eq_true rfl) ⟨Nat.zero_le _, Nat.zero_le _⟩ ?_
    refine g_if_ne h (i := 14) 30 rfl rfl (fun c_24 => ?_) (fun c_24 => ?_)
    · skip
      refine g_aload_n h (i := 17) rfl rfl ?_
      refine g_callVx h hq (i := 18) rfl mv_X10_91 cls10 (lk_R hL) (ct_X10_isGoing l E w a r hlo hL) rfl rfl ⟨rfl, rfl, Nat.le_of_ble_eq_true rfl, Nat.le_of_ble_eq_true rfl⟩ (Nat.le_of_ble_eq_true rfl) ⟨Nat.zero_le _, Nat.zero_le _⟩ ?_
      refine g_if_eq h (i := 19) 40 rfl rfl (fun c_34 => ?_) (fun c_34 => ?_)
      · skip
        obtain ⟨hj, hj3⟩ := jx (M := 3) (bI_1.mp c_5) (by decide)
        refine g_aload_n h (i := 22) rfl rfl ?_
        refine g_iconst h (i := 23) rfl (v := 0) (by rfl) ?_
        refine g_iload_n h (i := 24) rfl rfl ?_
        refine g_iadd h (i := 25) rfl ?_
        refine g_eqi (nI (pI j)) (jadd0 hj) ?_
        refine g_callVx h hq (i := 26) rfl mv_X10_97 cls10 (lk_R hL) (ct_X10_rowAt l E w a (pI j) r _ hlo hL (vp_in_nI (by omega) (by omega)) (nI_clamp (by omega))) rfl rfl ⟨rfl, rfl, Nat.le_of_ble_eq_true rfl, Nat.le_of_ble_eq_true rfl⟩ (Nat.le_of_ble_eq_true rfl) ⟨Nat.zero_le _, Nat.zero_le _⟩ ?_
        refine g_istore_n h (i := 27) rfl hq rfl ?_
        refine g_aload_n h (i := 28) rfl rfl ?_
        refine g_getR h (i := 29) rfl fl_X10_7 (fun _ _ _ => rfl) (lk_R hL) (lr_row hL) ?_
        refine g_iconst h (i := 30) rfl (v := 0) (by rfl) ?_
        refine g_iload_n h (i := 31) rfl rfl ?_
        refine g_iadd h (i := 32) rfl ?_
        refine g_eqi (nI (pI j)) (jadd0 hj) ?_
        refine g_iload_n h (i := 33) rfl rfl ?_
        refine g_i2l h (i := 34) rfl ?_
        refine g_last h (i := 35) rfl (lq_row hL) (vp_in_nI (by omega) (by omega)) ?_
        refine g_w _ (sRow_ux _ _ _ _ (n := pI j) (nI_clamp (by omega))) ?_
        refine g_iload_n h (i := 36) rfl rfl ?_
        exact g_iret hq h (i := 37) rfl (by unfold jgS; rw [if_pos ⟨bI_1.mp c_5, bI_1.mp c_24⟩, if_neg (bI_0.mp c_34)]; exact ⟨rfl, ri_0⟩)
      · skip
        refine g_ldc h (i := 20) rfl k_X10_95 ?_
        exact g_iret hq h (i := 21) rfl (by unfold jgS; rw [if_pos ⟨bI_1.mp c_5, bI_1.mp c_24⟩, if_pos (bI_1.mp c_34)]; exact ⟨rfl, ri_0⟩)
    · skip
      refine g_ldc h (i := 15) rfl k_X10_101 ?_
      exact g_iret hq h (i := 16) rfl (by unfold jgS; rw [if_neg (fun q => bI_0.mp c_24 q.2)]; exact ⟨rfl, ri_0⟩)
/-- state -/
def stS (j : Int32) (cf : Nat → Nat → Int32) (r : Nat → Int64) : St := (if 0 ≤ j ∧ j ≤ 3 then .int (r (pI j)).toInt32 else .int (-2000000), cf, r)
-- state
set_option maxRecDepth 100000 in
set_option maxHeartbeats 4000000 in
theorem ct_X10_state (l : Launch) (E : EE) (w : Wd) (a : Nat) (r : Nat → Int64) (j : Int32) (hlo : E.2.2 ≤ wN (sRow w a r)) (hL : LayR w a) : Ct l E yX10_state cX10_state 2 (some .int) ({ frames := 2, cells := 0, slots := 0, locals := 43 } : Room) [.ref a, .int j] (sRow w a r) 0 0 (PS a w (stS j (cfW w a) r)) := by
  refine ct_in (il := il_X10_state) (by decide) dk_X10_state (Nat.le_of_ble_eq_true rfl) hlo ?_
  intro X h hq

  refine g_aload_n h (i := 0) rfl rfl ?_
  refine g_iload_n h (i := 1) rfl rfl ?_
  refine g_callVx h hq (i := 2) rfl mv_X10_86 cls10 (lk_R hL) (ct_X10_isJoint l E _ a j hlo) rfl rfl ⟨rfl, rfl, Nat.le_of_ble_eq_true rfl, Nat.le_of_ble_eq_true rfl⟩ (Nat.le_of_ble_eq_true rfl) ⟨Nat.zero_le _, Nat.zero_le _⟩ ?_
  refine g_if_eq h (i := 3) 18 rfl rfl (fun c_5 => ?_) (fun c_5 => ?_)
  · skip
    refine g_ldc h (i := 10) rfl k_X10_101 ?_
    exact g_iret hq h (i := 11) rfl (by unfold stS; rw [if_neg (bI_0.mp c_5)]; exact ⟨rfl, ri_0⟩)
  · skip
    obtain ⟨hj, hj3⟩ := jx (M := 3) (bI_1.mp c_5) (by decide)
    refine g_aload_n h (i := 4) rfl rfl ?_
    refine g_iconst h (i := 5) rfl (v := 0) (by rfl) ?_
    refine g_iload_n h (i := 6) rfl rfl ?_
    refine g_iadd h (i := 7) rfl ?_
    refine g_eqi (nI (pI j)) (jadd0 hj) ?_
    refine g_callVx h hq (i := 8) rfl mv_X10_97 cls10 (lk_R hL) (ct_X10_rowAt l E w a (pI j) r _ hlo hL (vp_in_nI (by omega) (by omega)) (nI_clamp (by omega))) rfl rfl ⟨rfl, rfl, Nat.le_of_ble_eq_true rfl, Nat.le_of_ble_eq_true rfl⟩ (Nat.le_of_ble_eq_true rfl) ⟨Nat.zero_le _, Nat.zero_le _⟩ ?_
    refine g_goto h (i := 9) 20 rfl rfl ?_
    exact g_iret hq h (i := 11) rfl (by unfold stS; rw [if_pos (bI_1.mp c_5)]; exact ⟨rfl, ri_0⟩)
/-- unbox -/
def ubS (k : Int32) (cf : Nat → Nat → Int32) (r : Nat → Int64) : St := if 0 ≤ k ∧ k ≤ 3 then (if cf 9 (pI k) = 0 then (.int (-3), cf, r) else if r 28 = 1 then (.int (-3), cf, r) else (.int 1, up2 cf 9 (pI k) 0, r)) else (.int (-2), cf, r)
-- unbox
set_option maxRecDepth 100000 in
set_option maxHeartbeats 4000000 in
theorem ct_X10_unbox (l : Launch) (E : EE) (w : Wd) (a : Nat) (r : Nat → Int64) (k : Int32) (hlo : E.2.2 ≤ wN (sRow w a r)) (hL : LayR w a) : Ct l E yX10_unbox cX10_unbox 2 (some .int) ({ frames := 1, cells := 0, slots := 0, locals := 22 } : Room) [.ref a, .int k] (sRow w a r) 0 0 (PS a w (ubS k (cfW w a) r)) := by
  refine ct_in (il := il_X10_unbox) (by decide) dk_X10_unbox (Nat.le_of_ble_eq_true rfl) hlo ?_
  intro X h hq

  refine g_iload_n h (i := 0) rfl rfl ?_
  refine g_iconst h (i := 1) rfl (v := 0) (by rfl) ?_
  refine g_iconst h (i := 2) rfl (v := 3) (by rfl) ?_
  refine g_callSx h hq (i := 3) rfl ms_X10_82 (ct_X10_in l E _ k (0) (3) hlo) rfl rfl ⟨rfl, rfl, Nat.le_of_ble_eq_true rfl, Nat.le_of_ble_eq_true rfl⟩ (Nat.le_of_ble_eq_true rfl) ⟨Nat.zero_le _, Nat.zero_le _⟩ ?_
  refine g_if_ne h (i := 4) 12 rfl rfl (fun c_6 => ?_) (fun c_6 => ?_)
  · skip
    refine g_aload_n h (i := 7) rfl rfl ?_
    refine g_getR h (i := 8) rfl fl_X10_38 (fun _ _ _ => rfl) (lk_R hL) (lr_isBox hL) ?_
    refine g_iload_n h (i := 9) rfl rfl ?_
    refine g_zald h (i := 10) rfl (lq_isBox hL) (jvp (bI_1.mp c_6) (by decide) (by omega)) ?_
    refine g_eqi (wI w (a + 9) _) rfl ?_
    refine g_if_eq h (i := 11) 28 rfl rfl (fun c_18 => ?_) (fun c_18 => ?_)
    · skip
      refine g_bipush h (i := 15) rfl (v := -3) (by rfl) ?_
      exact g_iret hq h (i := 16) rfl (by unfold ubS; rw [if_pos (bI_1.mp c_6), if_pos (show cfW w a 9 (pI k) = 0 from c_18)]; exact ⟨rfl, ri_0⟩)
    · skip
      refine g_aload_n h (i := 12) rfl rfl ?_
      refine g_callVx h hq (i := 13) rfl mv_X10_91 cls10 (lk_R hL) (ct_X10_isGoing l E w a r hlo hL) rfl rfl ⟨rfl, rfl, Nat.le_of_ble_eq_true rfl, Nat.le_of_ble_eq_true rfl⟩ (Nat.le_of_ble_eq_true rfl) ⟨Nat.zero_le _, Nat.zero_le _⟩ ?_
      refine g_if_eq h (i := 14) 31 rfl rfl (fun c_25 => ?_) (fun c_25 => ?_)
      · skip
        refine g_aload_n h (i := 17) rfl rfl ?_
        refine g_getR h (i := 18) rfl fl_X10_38 (fun _ _ _ => rfl) (lk_R hL) (lr_isBox hL) ?_
        refine g_iload_n h (i := 19) rfl rfl ?_
        refine g_iconst h (i := 20) rfl (v := 0) (by rfl) ?_
        refine g_zast h (i := 21) rfl (lq_isBox hL) (jvp (bI_1.mp c_6) (by decide) (by omega)) (rfl) ?_
        refine g_iconst h (i := 22) rfl (v := 1) (by rfl) ?_
        exact g_iret hq h (i := 23) rfl (by unfold ubS; rw [if_pos (bI_1.mp c_6), if_neg (show ¬ cfW w a 9 (pI k) = 0 from c_18), if_neg (bI_0.mp c_25)]; exact ⟨rfl, ri_I 9 _ ri_0⟩)
      · skip
        refine g_bipush h (i := 15) rfl (v := -3) (by rfl) ?_
        exact g_iret hq h (i := 16) rfl (by unfold ubS; rw [if_pos (bI_1.mp c_6), if_neg (show ¬ cfW w a 9 (pI k) = 0 from c_18), if_pos (bI_1.mp c_25)]; exact ⟨rfl, ri_0⟩)
  · skip
    refine g_bipush h (i := 5) rfl (v := -2) (by rfl) ?_
    exact g_iret hq h (i := 6) rfl (by unfold ubS; rw [if_neg (bI_0.mp c_6)]; exact ⟨rfl, ri_0⟩)
/-- input -/
def inS (i on : Int32) (cf : Nat → Nat → Int32) (r : Nat → Int64) : St := if 0 ≤ i ∧ i ≤ 7 then (.int 1, cf, up1 r (4 + pI i) (if on = 0 then 0 else 1)) else (.int (-2), cf, r)
-- input
set_option maxRecDepth 100000 in
set_option maxHeartbeats 4000000 in
theorem ct_X10_input (l : Launch) (E : EE) (w : Wd) (a : Nat) (r : Nat → Int64) (i on : Int32) (hlo : E.2.2 ≤ wN (sRow w a r)) (hL : LayR w a) : Ct l E yX10_input cX10_input 3 (some .int) ({ frames := 1, cells := 0, slots := 0, locals := 22 } : Room) [.ref a, .int i, .int on] (sRow w a r) 0 0 (PS a w (inS i on (cfW w a) r)) := by
  refine ct_in (il := il_X10_input) (by decide) dk_X10_input (Nat.le_of_ble_eq_true rfl) hlo ?_
  intro X h hq

  refine g_iload_n h (i := 0) rfl rfl ?_
  refine g_iconst h (i := 1) rfl (v := 0) (by rfl) ?_
  refine g_bipush h (i := 2) rfl (v := 7) (by rfl) ?_
  refine g_callSx h hq (i := 3) rfl ms_X10_82 (ct_X10_in l E _ i (0) (7) hlo) rfl rfl ⟨rfl, rfl, Nat.le_of_ble_eq_true rfl, Nat.le_of_ble_eq_true rfl⟩ (Nat.le_of_ble_eq_true rfl) ⟨Nat.zero_le _, Nat.zero_le _⟩ ?_
  refine g_if_ne h (i := 4) 13 rfl rfl (fun c_7 => ?_) (fun c_7 => ?_)
  · skip
    obtain ⟨hj, hj3⟩ := jx (M := 7) (bI_1.mp c_7) (by decide)
    refine g_aload_n h (i := 7) rfl rfl ?_
    refine g_getR h (i := 8) rfl fl_X10_7 (fun _ _ _ => rfl) (lk_R hL) (lr_row hL) ?_
    refine g_iconst h (i := 9) rfl (v := 4) (by rfl) ?_
    refine g_iload_n h (i := 10) rfl rfl ?_
    refine g_iadd h (i := 11) rfl ?_
    refine g_iload_n h (i := 12) rfl rfl ?_
    refine g_if_eq h (i := 13) 28 rfl rfl (fun c_21 => ?_) (fun c_21 => ?_)
    · skip
      refine g_lconst h (i := 16) rfl (v := 0) (by rfl) ?_
      refine g_last h (i := 17) rfl (lq_row hL) (jin 4 _ hj (by omega) (by omega)) ?_
      refine g_w _ (sRow_ux _ _ _ _ (n := 4 + pI i) (jcl 4 hj (by omega) (by omega))) ?_
      refine g_iconst h (i := 18) rfl (v := 1) (by rfl) ?_
      exact g_iret hq h (i := 19) rfl (by unfold inS; rw [if_pos (bI_1.mp c_7), if_pos c_21]; exact ⟨rfl, ri_0⟩)
    · skip
      refine g_lconst h (i := 14) rfl (v := 1) (by rfl) ?_
      refine g_goto h (i := 15) 29 rfl rfl ?_
      refine g_last h (i := 17) rfl (lq_row hL) (jin 4 _ hj (by omega) (by omega)) ?_
      refine g_w _ (sRow_ux _ _ _ _ (n := 4 + pI i) (jcl 4 hj (by omega) (by omega))) ?_
      refine g_iconst h (i := 18) rfl (v := 1) (by rfl) ?_
      exact g_iret hq h (i := 19) rfl (by unfold inS; rw [if_pos (bI_1.mp c_7), if_neg c_21]; exact ⟨rfl, ri_0⟩)
  · skip
    refine g_bipush h (i := 5) rfl (v := -2) (by rfl) ?_
    exact g_iret hq h (i := 6) rfl (by unfold inS; rw [if_neg (bI_0.mp c_7)]; exact ⟨rfl, ri_0⟩)
/-- clear -/
def clS (cf : Nat → Nat → Int32) (r : Nat → Int64) : St := if r 28 = 1 then (.int (-3), cf, r) else (.int (cf 0 12), up2 cf 0 12 0, r)
-- clear
set_option maxRecDepth 100000 in
set_option maxHeartbeats 4000000 in
theorem ct_X10_clear (l : Launch) (E : EE) (w : Wd) (a : Nat) (r : Nat → Int64) (hlo : E.2.2 ≤ wN (sRow w a r)) (hL : LayR w a) : Ct l E yX10_clear cX10_clear 2 (some .int) ({ frames := 1, cells := 0, slots := 0, locals := 20 } : Room) [.ref a] (sRow w a r) 0 0 (PS a w (clS (cfW w a) r)) := by
  refine ct_in (il := il_X10_clear) (by decide) dk_X10_clear (Nat.le_of_ble_eq_true rfl) hlo ?_
  intro X h hq

  refine g_aload_n h (i := 0) rfl rfl ?_
  refine g_callVx h hq (i := 1) rfl mv_X10_91 cls10 (lk_R hL) (ct_X10_isGoing l E w a r hlo hL) rfl rfl ⟨rfl, rfl, Nat.le_of_ble_eq_true rfl, Nat.le_of_ble_eq_true rfl⟩ (Nat.le_of_ble_eq_true rfl) ⟨Nat.zero_le _, Nat.zero_le _⟩ ?_
  refine g_if_eq h (i := 2) 10 rfl rfl (fun c_4 => ?_) (fun c_4 => ?_)
  · skip
    refine g_aload_n h (i := 5) rfl rfl ?_
    refine g_getI h (i := 6) rfl fl_X10_207 (fun _ _ _ => rfl) (lk_R hL) ?_
    refine g_eqi (wI w a 12) (rfl) ?_
    refine g_istore_n h (i := 7) rfl hq rfl ?_
    refine g_aload_n h (i := 8) rfl rfl ?_
    refine g_iconst h (i := 9) rfl (v := 0) (by rfl) ?_
    refine g_putI_0 h (i := 10) rfl fl_X10_207 nf_10_12 (fun _ _ _ => rfl) (lk_R hL) (rfl) (by rfl) ?_
    refine g_iload_n h (i := 11) rfl rfl ?_
    exact g_iret hq h (i := 12) rfl (by unfold clS; rw [if_neg (bI_0.mp c_4)]; exact ⟨rfl, ri_I 0 _ ri_0⟩)
  · skip
    refine g_bipush h (i := 3) rfl (v := -3) (by rfl) ?_
    exact g_iret hq h (i := 4) rfl (by unfold clS; rw [if_pos (bI_1.mp c_4)]; exact ⟨rfl, ri_0⟩)
