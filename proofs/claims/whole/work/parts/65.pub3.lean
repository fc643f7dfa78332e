/-- a line -/
def liS (o x y : Int32) (cf : Nat → Nat → Int32) (r : Nat → Int64) : St := if lnB o x y = 0 then (.int (-2), cf, r) else if r 28 = 1 then (.int (-3), cf, r) else if cf 0 12 = 60 then (.int (-4), cf, r) else (.int (cf 0 12), up2 (up2 (up2 (up2 cf 13 (pI (cf 0 12)) o) 14 (pI (cf 0 12)) x) 15 (pI (cf 0 12)) y) 0 12 (cf 0 12 + 1), r)
-- line
set_option maxRecDepth 100000 in
set_option maxHeartbeats 4000000 in
theorem ct_X10_line (l : Launch) (E : EE) (w : Wd) (a : Nat) (r : Nat → Int64) (o x y : Int32) (hlo : E.2.2 ≤ wN (sRow w a r)) (hL : LayR w a) (hc : isI (wI w a 12) 60) : Ct l E yX10_line cX10_line 4 (some .int) ({ frames := 3, cells := 0, slots := 0, locals := 64 } : Room) [.ref a, .int o, .int x, .int y] (sRow w a r) 0 0 (PS a w (liS o x y (cfW w a) r)) := by
  refine ct_in (il := il_X10_line) (by decide) dk_X10_line (Nat.le_of_ble_eq_true rfl) hlo ?_
  intro X h hq

  refine g_iload_n h (i := 0) rfl rfl ?_
  refine g_iload_n h (i := 1) rfl rfl ?_
  refine g_iload_n h (i := 2) rfl rfl ?_
  refine g_callSx h hq (i := 3) rfl ms_X10_204 (ct_X10_isLineRight l E _ o x y hlo) rfl rfl ⟨rfl, rfl, Nat.le_of_ble_eq_true rfl, Nat.le_of_ble_eq_true rfl⟩ (Nat.le_of_ble_eq_true rfl) ⟨Nat.zero_le _, Nat.zero_le _⟩ ?_
  refine g_if_ne h (i := 4) 12 rfl rfl (fun c_6 => ?_) (fun c_6 => ?_)
  · skip
    refine g_aload_n h (i := 7) rfl rfl ?_
    refine g_callVx h hq (i := 8) rfl mv_X10_91 cls10 (lk_R hL) (ct_X10_isGoing l E w a r hlo hL) rfl rfl ⟨rfl, rfl, Nat.le_of_ble_eq_true rfl, Nat.le_of_ble_eq_true rfl⟩ (Nat.le_of_ble_eq_true rfl) ⟨Nat.zero_le _, Nat.zero_le _⟩ ?_
    refine g_if_eq h (i := 9) 22 rfl rfl (fun c_16 => ?_) (fun c_16 => ?_)
    · skip
      refine g_aload_n h (i := 12) rfl rfl ?_
      refine g_getI h (i := 13) rfl fl_X10_207 (fun _ _ _ => rfl) (lk_R hL) ?_
      refine g_eqi (wI w a 12) (rfl) ?_
      refine g_bipush h (i := 14) rfl (v := 60) (by rfl) ?_
      refine g_icmp_ne h (i := 15) 34 rfl rfl (fun c_28 => ?_) (fun c_28 => ?_)
      · skip
        have hk := c60 hc (by omega) (by rfl : (60 : Int32) = nI 60) c_28
        have hv : vp_in (wI w a 12) 60 := by rw [hc.1]; exact vp_in_nI hk (by omega)
        refine g_aload_n h (i := 18) rfl rfl ?_
        refine g_getR h (i := 19) rfl fl_X10_50 (fun _ _ _ => rfl) (lk_R hL) (lr_op hL) ?_
        refine g_aload_n h (i := 20) rfl rfl ?_
        refine g_getI h (i := 21) rfl fl_X10_207 (fun _ _ _ => rfl) (lk_R hL) ?_
        refine g_eqi (wI w a 12) (rfl) ?_
        refine g_iload_n h (i := 22) rfl rfl ?_
        refine g_iast h (i := 23) rfl (lq_op hL) (hv) ?_
        refine g_aload_n h (i := 24) rfl rfl ?_
        refine g_getR h (i := 25) rfl fl_X10_53 (fun _ _ _ => rfl) (lk_R hL) (lr_first hL) ?_
        refine g_aload_n h (i := 26) rfl rfl ?_
        refine g_getI h (i := 27) rfl fl_X10_207 (fun _ _ _ => rfl) (lk_R hL) ?_
        refine g_eqi (wI w a 12) (up2_a (by omega)) ?_
        refine g_iload_n h (i := 28) rfl rfl ?_
        refine g_iast h (i := 29) rfl (lq_first hL) (hv) ?_
        refine g_aload_n h (i := 30) rfl rfl ?_
        refine g_getR h (i := 31) rfl fl_X10_56 (fun _ _ _ => rfl) (lk_R hL) (lr_second hL) ?_
        refine g_aload_n h (i := 32) rfl rfl ?_
        refine g_getI h (i := 33) rfl fl_X10_207 (fun _ _ _ => rfl) (lk_R hL) ?_
        refine g_eqi (wI w a 12) ((up2_a (by omega)).trans (up2_a (by omega))) ?_
        refine g_iload_n h (i := 34) rfl rfl ?_
        refine g_iast h (i := 35) rfl (lq_second hL) (hv) ?_
        refine g_aload_n h (i := 36) rfl rfl ?_
        refine g_dup h (i := 37) rfl rfl ?_
        refine g_getI h (i := 38) rfl fl_X10_207 (fun _ _ _ => rfl) (lk_R hL) ?_
        refine g_eqi (wI w a 12) ((up2_a (by omega)).trans ((up2_a (by omega)).trans (up2_a (by omega)))) ?_
        refine g_iconst h (i := 39) rfl (v := 1) (by rfl) ?_
        refine g_iadd h (i := 40) rfl ?_
        refine g_putI_0 h (i := 41) rfl fl_X10_207 nf_10_12 (fun _ _ _ => rfl) (lk_R hL) (rfl) (by rfl) ?_
        refine g_aload_n h (i := 42) rfl rfl ?_
        refine g_getI h (i := 43) rfl fl_X10_207 (fun _ _ _ => rfl) (lk_R hL) ?_
        refine g_eqi (wI w a 12 + 1) (up2_s _ _ _ _) ?_
        refine g_iconst h (i := 44) rfl (v := 1) (by rfl) ?_
        refine g_isub h (i := 45) rfl ?_
        refine g_eqi (wI w a 12) (Int32.add_sub_cancel _ _) ?_
        exact g_iret hq h (i := 46) rfl (by unfold liS; rw [if_neg c_6, if_neg (bI_0.mp c_16), if_neg (show ¬ cfW w a 0 12 = 60 from c_28)]; exact ⟨rfl, ri_I 0 12 (ri_I 15 _ (ri_I 14 _ (ri_I 13 _ ri_0)))⟩)
      · skip
        refine g_bipush h (i := 16) rfl (v := -4) (by rfl) ?_
        exact g_iret hq h (i := 17) rfl (by unfold liS; rw [if_neg c_6, if_neg (bI_0.mp c_16), if_pos (show cfW w a 0 12 = 60 from c_28)]; exact ⟨rfl, ri_0⟩)
    · skip
      refine g_bipush h (i := 10) rfl (v := -3) (by rfl) ?_
      exact g_iret hq h (i := 11) rfl (by unfold liS; rw [if_neg c_6, if_pos (bI_1.mp c_16)]; exact ⟨rfl, ri_0⟩)
  · skip
    refine g_bipush h (i := 5) rfl (v := -2) (by rfl) ?_
    exact g_iret hq h (i := 6) rfl (by unfold liS; rw [if_pos c_6]; exact ⟨rfl, ri_0⟩)
/-- pose -/
def poS (k j : Int32) (cf : Nat → Nat → Int32) (r : Nat → Int64) : St := (if (0 ≤ k ∧ k ≤ 15) ∧ (0 ≤ j ∧ j ≤ 3) ∧ ¬ cf 11 (pI k) = 0 then .int (cf 12 (4 * pI k + pI j)) else .int (-2000000), cf, r)
-- pose
set_option maxRecDepth 100000 in
set_option maxHeartbeats 4000000 in
theorem ct_X10_pose (l : Launch) (E : EE) (w : Wd) (a : Nat) (r : Nat → Int64) (k j : Int32) (hlo : E.2.2 ≤ wN (sRow w a r)) (hL : LayR w a) : Ct l E yX10_pose cX10_pose 3 (some .int) ({ frames := 2, cells := 0, slots := 0, locals := 43 } : Room) [.ref a, .int k, .int j] (sRow w a r) 0 0 (PS a w (poS k j (cfW w a) r)) := by
  refine ct_in (il := il_X10_pose) (by decide) dk_X10_pose (Nat.le_of_ble_eq_true rfl) hlo ?_
  intro X h hq

  refine g_iload_n h (i := 0) rfl rfl ?_
  refine g_callSx h hq (i := 1) rfl ms_X10_165 (ct_X10_isPose l E _ k hlo) rfl rfl ⟨rfl, rfl, Nat.le_of_ble_eq_true rfl, Nat.le_of_ble_eq_true rfl⟩ (Nat.le_of_ble_eq_true rfl) ⟨Nat.zero_le _, Nat.zero_le _⟩ ?_
  refine g_if_eq h (i := 2) 37 rfl rfl (fun c_4 => ?_) (fun c_4 => ?_)
  · skip
    refine g_ldc h (i := 21) rfl k_X10_101 ?_
    exact g_iret hq h (i := 22) rfl (by unfold poS; rw [if_neg (fun q => bI_0.mp c_4 q.1)]; exact ⟨rfl, ri_0⟩)
  · skip
    refine g_aload_n h (i := 3) rfl rfl ?_
    refine g_iload_n h (i := 4) rfl rfl ?_
    refine g_callVx h hq (i := 5) rfl mv_X10_86 cls10 (lk_R hL) (ct_X10_isJoint l E _ a j hlo) rfl rfl ⟨rfl, rfl, Nat.le_of_ble_eq_true rfl, Nat.le_of_ble_eq_true rfl⟩ (Nat.le_of_ble_eq_true rfl) ⟨Nat.zero_le _, Nat.zero_le _⟩ ?_
    refine g_if_eq h (i := 6) 37 rfl rfl (fun c_12 => ?_) (fun c_12 => ?_)
    · skip
      refine g_ldc h (i := 21) rfl k_X10_101 ?_
      exact g_iret hq h (i := 22) rfl (by unfold poS; rw [if_neg (fun q => bI_0.mp c_12 q.2.1)]; exact ⟨rfl, ri_0⟩)
    · skip
      refine g_aload_n h (i := 7) rfl rfl ?_
      refine g_getR h (i := 8) rfl fl_X10_44 (fun _ _ _ => rfl) (lk_R hL) (lr_isTaught hL) ?_
      refine g_iload_n h (i := 9) rfl rfl ?_
      refine g_zald h (i := 10) rfl (lq_isTaught hL) (jvp (bI_1.mp c_4) (by decide) (by omega)) ?_
      refine g_eqi (wI w (a + 11) _) rfl ?_
      refine g_if_eq h (i := 11) 37 rfl rfl (fun c_21 => ?_) (fun c_21 => ?_)
      · skip
        refine g_ldc h (i := 21) rfl k_X10_101 ?_
        exact g_iret hq h (i := 22) rfl (by unfold poS; rw [if_neg (fun q => q.2.2 (show cfW w a 11 (pI k) = 0 from c_21))]; exact ⟨rfl, ri_0⟩)
      · skip
        obtain ⟨hk, hk3⟩ := jx (M := 15) (bI_1.mp c_4) (by decide)
        obtain ⟨hj, hj3⟩ := jx (M := 3) (bI_1.mp c_12) (by decide)
        refine g_aload_n h (i := 12) rfl rfl ?_
        refine g_getR h (i := 13) rfl fl_X10_47 (fun _ _ _ => rfl) (lk_R hL) (lr_pose hL) ?_
        refine g_iconst h (i := 14) rfl (v := 4) (by rfl) ?_
        refine g_iload_n h (i := 15) rfl rfl ?_
        refine g_imul h (i := 16) rfl ?_
        refine g_iload_n h (i := 17) rfl rfl ?_
        refine g_iadd h (i := 18) rfl ?_
        refine g_eqi (nI (4 * pI k + pI j)) (jmul 4 hk hj) ?_
        refine g_iald h (i := 19) rfl (lq_pose hL) (vp_in_nI (by omega) (by omega)) ?_
        refine g_eqi (wI w (a + 12) _) rfl ?_
        refine g_eqi (wI w (a + 12) (4 * pI k + pI j)) (by rw [nI_clamp (by omega)]) ?_
        refine g_goto h (i := 20) 39 rfl rfl ?_
        exact g_iret hq h (i := 22) rfl (by unfold poS; rw [if_pos ⟨bI_1.mp c_4, bI_1.mp c_12, (show ¬ cfW w a 11 (pI k) = 0 from c_21)⟩]; exact ⟨rfl, ri_0⟩)
theorem pl_z {rs pv wd : Nat → Nat} {w0 : Nat} : ∀ n, (plS rs pv wd w0 n).1 = 0 → plS rs pv wd w0 n = (0, 1, 1, w0)
  | 0, _ => rfl
  | n + 1, h => by
    by_cases g : (plS rs pv wd w0 n).1 < lsN (rs n) (pv n) (wd n)
    · rw [pl_t g] at h
      exact absurd h (by show ¬ lsN (rs n) (pv n) (wd n) = 0; omega)
    · rw [pl_f g] at h ⊢
      exact pl_z n h
/-- plan -/
abbrev plG (k sh : Int32) : Prop := (0 ≤ k ∧ k ≤ 15) ∧ (1 ≤ sh ∧ sh ≤ 100)
def plnS (k sh : Int32) (cf : Nat → Nat → Int32) (r : Nat → Int64) : St := if plG k sh then (if cf 11 (pI k) = 0 then (.int (-3), cf, r) else (.int (nI (plR cf (pI k) (pI sh) r).1), cf, r)) else (.int (-2), cf, r)
theorem shx {sh : Int32} (h : 1 ≤ sh ∧ sh ≤ 100) : sh = nI (pI sh) ∧ pI sh ≤ 100 := by
  have q := isI_of h (by decide)
  have h2 := i32le.mp h.2
  rw [← q.2] at h2
  have e : (100 : Int32).toInt = 100 := rfl
  exact ⟨q.1, by omega⟩
theorem pls_h {w : Wd} {a k sh : Nat} {r : Nat → Int64} (l : Launch) (E : EE) (hlo : E.2.2 ≤ wN w) (hL : LayR w a) (hr : FA r) (hc : CfR (cfW w a)) (hk : k < 16) (hsh : sh ≤ 100) : Ct l E yX10_plans cX10_plans 10 none ({ frames := 3, cells := 0, slots := 0, locals := 87 } : Room) [.ref a, .int (nI k), .int (nI sh)] (sRow w a r) 0 0 (fun q w2 => q = none ∧ ∃ J, w2 = sRow (dW w (wI w) J (wD w)) a r ∧ PlI w a r (fun j => cfW w a 12 (4 * k + j)) (plR (cfW w a) k sh r) 4 J) := ct_X10_plans l E w a k sh r (fun j => pI (cfW w a 7 j)) (fun j => pI (cfW w a 8 j)) (fun j => (r j).toInt32) (fun j => cfW w a 12 (4 * k + j)) hlo hL hk (fun j hj => ⟨(hc.2.1 j hj).1.1, (hc.2.1 j hj).2, (hc.2.1 j hj).1.2⟩) (fun j hj => ⟨(hc.2.2.1 j hj).1.1, (hc.2.2.1 j hj).2, (hc.2.2.1 j hj).1.2⟩) (fun j hj => by
    have f := l_sm ((fr_st hj).mp (hr j))
    exact ⟨f.1, by rw [f.2]; exact (fr_st hj).mp (hr j)⟩) (fun j hj => ⟨rfl, hc.2.2.2.1 (4 * k + j) (by omega)⟩) hsh
-- plan
set_option maxRecDepth 100000 in
set_option maxHeartbeats 4000000 in
theorem ct_X10_plan (l : Launch) (E : EE) (w : Wd) (a : Nat) (r : Nat → Int64) (k sh : Int32) (hlo : E.2.2 ≤ wN (sRow w a r)) (hL : LayR w a) (hr : FA r) (hc : CfR (cfW w a)) : Ct l E yX10_plan cX10_plan 3 (some .int) ({ frames := 4, cells := 0, slots := 0, locals := 116 } : Room) [.ref a, .int k, .int sh] (sRow w a r) 0 0 (PS a w (plnS k sh (cfW w a) r)) := by
  refine ct_in (il := il_X10_plan) (by decide) dk_X10_plan (Nat.le_of_ble_eq_true rfl) hlo ?_
  intro X h hq

  refine g_iload_n h (i := 0) rfl rfl ?_
  refine g_callSx h hq (i := 1) rfl ms_X10_165 (ct_X10_isPose l E _ k hlo) rfl rfl ⟨rfl, rfl, Nat.le_of_ble_eq_true rfl, Nat.le_of_ble_eq_true rfl⟩ (Nat.le_of_ble_eq_true rfl) ⟨Nat.zero_le _, Nat.zero_le _⟩ ?_
  refine g_if_eq h (i := 2) 17 rfl rfl (fun c_4 => ?_) (fun c_4 => ?_)
  · skip
    refine g_bipush h (i := 8) rfl (v := -2) (by rfl) ?_
    exact g_iret hq h (i := 9) rfl (by unfold plnS; rw [if_neg (fun q => bI_0.mp c_4 q.1)]; exact ⟨rfl, ri_0⟩)
  · skip
    refine g_iload_n h (i := 3) rfl rfl ?_
    refine g_iconst h (i := 4) rfl (v := 1) (by rfl) ?_
    refine g_bipush h (i := 5) rfl (v := 100) (by rfl) ?_
    refine g_callSx h hq (i := 6) rfl ms_X10_82 (ct_X10_in l E _ sh (1) (100) hlo) rfl rfl ⟨rfl, rfl, Nat.le_of_ble_eq_true rfl, Nat.le_of_ble_eq_true rfl⟩ (Nat.le_of_ble_eq_true rfl) ⟨Nat.zero_le _, Nat.zero_le _⟩ ?_
    refine g_if_ne h (i := 7) 20 rfl rfl (fun c_14 => ?_) (fun c_14 => ?_)
    · skip
      refine g_aload_n h (i := 10) rfl rfl ?_
      refine g_getR h (i := 11) rfl fl_X10_44 (fun _ _ _ => rfl) (lk_R hL) (lr_isTaught hL) ?_
      refine g_iload_n h (i := 12) rfl rfl ?_
      refine g_zald h (i := 13) rfl (lq_isTaught hL) (jvp (bI_1.mp c_4) (by decide) (by omega)) ?_
      refine g_eqi (wI w (a + 11) _) rfl ?_
      refine g_if_ne h (i := 14) 32 rfl rfl (fun c_26 => ?_) (fun c_26 => ?_)
      · skip
        obtain ⟨hk, hk3⟩ := jx (M := 15) (bI_1.mp c_4) (by decide)
        obtain ⟨hs, hs2⟩ := shx (bI_1.mp c_14)
        have hpl := pls_h (w := w) l E hlo hL hr hc (k := pI k) (sh := pI sh) (by omega) hs2
        have hpo := plR_ok hc hr (k := pI k) (sh := pI sh) (by omega) hs2
        refine g_aload_n h (i := 17) rfl rfl ?_
        refine g_iload_n h (i := 18) rfl rfl ?_
        refine g_iload_n h (i := 19) rfl rfl ?_
        rw [← hk, ← hs] at hpl
        refine g_callVp (w0 := w) h hq (i := 20) rfl mv_X10_196 cls10 (lk_R hL) (hpl) rfl rfl ⟨rfl, rfl, Nat.le_of_ble_eq_true rfl, Nat.le_of_ble_eq_true rfl⟩ (Nat.le_of_ble_eq_true rfl) ⟨Nat.zero_le _, Nat.zero_le _⟩ (fun r35 w35 hp35 => ?_)
        obtain ⟨rfl, J, rfl, hJ⟩ := hp35
        refine g_aload_n h (i := 21) rfl rfl ?_
        refine g_getJ h (i := 22) rfl fl_X10_178 (fun _ _ _ => rfl) (lk_R hL) ?_
        refine g_eql (lN (plR (cfW w a) (pI k) (pI sh) r).1) ((sRow_o (by omega)).trans hJ.2.2.1) ?_
        refine g_l2i h (i := 23) rfl ?_
        refine g_eqi (nI (plR (cfW w a) (pI k) (pI sh) r).1) (lN_32 (by omega)) ?_
        exact g_iret hq h (i := 24) rfl (by unfold plnS; rw [if_pos ⟨bI_1.mp c_4, bI_1.mp c_14⟩, if_neg (show ¬ cfW w a 11 (pI k) = 0 from c_26)]; exact ⟨rfl, ri_RS (RS_pl hJ)⟩)
      · skip
        refine g_bipush h (i := 15) rfl (v := -3) (by rfl) ?_
        exact g_iret hq h (i := 16) rfl (by unfold plnS; rw [if_pos ⟨bI_1.mp c_4, bI_1.mp c_14⟩, if_pos (show cfW w a 11 (pI k) = 0 from c_26)]; exact ⟨rfl, ri_0⟩)
    · skip
      refine g_bipush h (i := 8) rfl (v := -2) (by rfl) ?_
      exact g_iret hq h (i := 9) rfl (by unfold plnS; rw [if_neg (fun q => bI_0.mp c_14 q.2)]; exact ⟨rfl, ri_0⟩)
