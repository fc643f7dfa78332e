theorem jvp {j : Int32} {m : Int32} {n : Nat} (h : 0 ≤ j ∧ j ≤ m) (hm : m.toInt < (n : Int)) (hn : n < 2147483648) : vp_in j n := by
  have h1 := i32le.mp h.1
  have h2 := i32le.mp h.2
  exact vp_in_iff.mpr ⟨h1, by omega⟩
/-- what joint is told -/
abbrev jtG (j kd ln pc rs : Int32) : Prop := (0 ≤ j ∧ j ≤ 3) ∧ (0 ≤ kd ∧ kd ≤ 1) ∧ (0 ≤ ln ∧ ln ≤ 1000) ∧ (1 ≤ pc ∧ pc ≤ 100000) ∧ (1 ≤ rs ∧ rs ≤ 100000)
def jtW (w : Wd) (a : Nat) (j kd ln pc rs : Int32) : Wd := sI (sI (sI (sI w (a + 3) (pI j) (bI (kd = 1))) (a + 4) (pI j) ln) (a + 7) (pI j) pc) (a + 8) (pI j) rs
-- joint
set_option maxRecDepth 100000 in
set_option maxHeartbeats 4000000 in
theorem ct_X10_joint (l : Launch) (E : EE) (w : Wd) (a : Nat) (r : Nat → Int64) (j kd ln pc rs : Int32) (hlo : E.2.2 ≤ wN (sRow w a r)) (hL : LayR w a) : Ct l E yX10_joint cX10_joint 6 (some .int) ({ frames := 2, cells := 0, slots := 0, locals := 43 } : Room) [.ref a, .int j, .int kd, .int ln, .int pc, .int rs] (sRow w a r) 0 0 (Px (some (.int (if jtG j kd ln pc rs then (if r 28 = 1 then -3 else 1) else -2))) (sRow (if jtG j kd ln pc rs ∧ ¬ r 28 = 1 then jtW w a j kd ln pc rs else w) a r)) := by
  refine ct_in (il := il_X10_joint) (by decide) dk_X10_joint (Nat.le_of_ble_eq_true rfl) hlo ?_
  intro X h hq

  refine g_aload_n h (i := 0) rfl rfl ?_
  refine g_iload_n h (i := 1) rfl rfl ?_
  refine g_callVx h hq (i := 2) rfl mv_X10_86 cls10 (lk_R hL) (ct_X10_isJoint l E _ a j hlo) rfl rfl ⟨rfl, rfl, Nat.le_of_ble_eq_true rfl, Nat.le_of_ble_eq_true rfl⟩ (Nat.le_of_ble_eq_true rfl) ⟨Nat.zero_le _, Nat.zero_le _⟩ ?_
  refine g_if_eq h (i := 3) 50 rfl rfl (fun c_5 => ?_) (fun c_5 => ?_)
  · skip
    refine g_bipush h (i := 24) rfl (v := -2) (by rfl) ?_
    exact g_iret hq h (i := 25) rfl (⟨by rw [if_neg (fun q => bI_0.mp c_5 q.1)], by rw [if_neg (fun z => (fun q => bI_0.mp c_5 q.1) z.1)]⟩)
  · skip
    refine g_iload_n h (i := 4) rfl rfl ?_
    refine g_iconst h (i := 5) rfl (v := 0) (by rfl) ?_
    refine g_iconst h (i := 6) rfl (v := 1) (by rfl) ?_
    refine g_callSx h hq (i := 7) rfl ms_X10_82 (ct_X10_in l E _ kd (0) (1) hlo) rfl rfl ⟨rfl, rfl, Nat.le_of_ble_eq_true rfl, Nat.le_of_ble_eq_true rfl⟩ (Nat.le_of_ble_eq_true rfl) ⟨Nat.zero_le _, Nat.zero_le _⟩ ?_
    refine g_if_eq h (i := 8) 50 rfl rfl (fun c_14 => ?_) (fun c_14 => ?_)
    · skip
      refine g_bipush h (i := 24) rfl (v := -2) (by rfl) ?_
      exact g_iret hq h (i := 25) rfl (⟨by rw [if_neg (fun q => bI_0.mp c_14 q.2.1)], by rw [if_neg (fun z => (fun q => bI_0.mp c_14 q.2.1) z.1)]⟩)
    · skip
      refine g_iload_n h (i := 9) rfl rfl ?_
      refine g_iconst h (i := 10) rfl (v := 0) (by rfl) ?_
      refine g_sipush h (i := 11) rfl (v := 1000) (by rfl) ?_
      refine g_callSx h hq (i := 12) rfl ms_X10_82 (ct_X10_in l E _ ln (0) (1000) hlo) rfl rfl ⟨rfl, rfl, Nat.le_of_ble_eq_true rfl, Nat.le_of_ble_eq_true rfl⟩ (Nat.le_of_ble_eq_true rfl) ⟨Nat.zero_le _, Nat.zero_le _⟩ ?_
      refine g_if_eq h (i := 13) 50 rfl rfl (fun c_25 => ?_) (fun c_25 => ?_)
      · skip
        refine g_bipush h (i := 24) rfl (v := -2) (by rfl) ?_
        exact g_iret hq h (i := 25) rfl (⟨by rw [if_neg (fun q => bI_0.mp c_25 q.2.2.1)], by rw [if_neg (fun z => (fun q => bI_0.mp c_25 q.2.2.1) z.1)]⟩)
      · skip
        refine g_iload h (i := 14) rfl rfl ?_
        refine g_iconst h (i := 15) rfl (v := 1) (by rfl) ?_
        refine g_ldc h (i := 16) rfl k_X10_90 ?_
        refine g_callSx h hq (i := 17) rfl ms_X10_82 (ct_X10_in l E _ pc (1) (100000) hlo) rfl rfl ⟨rfl, rfl, Nat.le_of_ble_eq_true rfl, Nat.le_of_ble_eq_true rfl⟩ (Nat.le_of_ble_eq_true rfl) ⟨Nat.zero_le _, Nat.zero_le _⟩ ?_
        refine g_if_eq h (i := 18) 50 rfl rfl (fun c_36 => ?_) (fun c_36 => ?_)
        · skip
          refine g_bipush h (i := 24) rfl (v := -2) (by rfl) ?_
          exact g_iret hq h (i := 25) rfl (⟨by rw [if_neg (fun q => bI_0.mp c_36 q.2.2.2.1)], by rw [if_neg (fun z => (fun q => bI_0.mp c_36 q.2.2.2.1) z.1)]⟩)
        · skip
          refine g_iload h (i := 19) rfl rfl ?_
          refine g_iconst h (i := 20) rfl (v := 1) (by rfl) ?_
          refine g_ldc h (i := 21) rfl k_X10_90 ?_
          refine g_callSx h hq (i := 22) rfl ms_X10_82 (ct_X10_in l E _ rs (1) (100000) hlo) rfl rfl ⟨rfl, rfl, Nat.le_of_ble_eq_true rfl, Nat.le_of_ble_eq_true rfl⟩ (Nat.le_of_ble_eq_true rfl) ⟨Nat.zero_le _, Nat.zero_le _⟩ ?_
          refine g_if_ne h (i := 23) 53 rfl rfl (fun c_47 => ?_) (fun c_47 => ?_)
          · skip
            refine g_aload_n h (i := 26) rfl rfl ?_
            refine g_callVx h hq (i := 27) rfl mv_X10_91 cls10 (lk_R hL) (ct_X10_isGoing l E w a r hlo hL) rfl rfl ⟨rfl, rfl, Nat.le_of_ble_eq_true rfl, Nat.le_of_ble_eq_true rfl⟩ (Nat.le_of_ble_eq_true rfl) ⟨Nat.zero_le _, Nat.zero_le _⟩ ?_
            refine g_if_eq h (i := 28) 63 rfl rfl (fun c_57 => ?_) (fun c_57 => ?_)
            · skip
              refine g_aload_n h (i := 31) rfl rfl ?_
              refine g_getR h (i := 32) rfl fl_X10_17 (fun _ _ _ => rfl) (lk_R hL) (lr_slides hL) ?_
              refine g_iload_n h (i := 33) rfl rfl ?_
              refine g_iload_n h (i := 34) rfl rfl ?_
              refine g_iconst h (i := 35) rfl (v := 1) (by rfl) ?_
              refine g_icmp_ne h (i := 36) 77 rfl rfl (fun c_70 => ?_) (fun c_70 => ?_)
              · skip
                refine g_iconst h (i := 39) rfl (v := 0) (by rfl) ?_
                refine g_zast h (i := 40) rfl (lq_slides hL) (jvp (bI_1.mp c_5) (by decide) (by omega)) (rfl) ?_
                refine g_aload_n h (i := 41) rfl rfl ?_
                refine g_getR h (i := 42) rfl fl_X10_20 (fun _ _ _ => rfl) (lk_R hL) (lr_length hL) ?_
                refine g_iload_n h (i := 43) rfl rfl ?_
                refine g_iload_n h (i := 44) rfl rfl ?_
                refine g_iast h (i := 45) rfl (lq_length hL) (jvp (bI_1.mp c_5) (by decide) (by omega)) ?_
                refine g_aload_n h (i := 46) rfl rfl ?_
                refine g_getR h (i := 47) rfl fl_X10_32 (fun _ _ _ => rfl) (lk_R hL) (lr_pace hL) ?_
                refine g_iload_n h (i := 48) rfl rfl ?_
                refine g_iload h (i := 49) rfl rfl ?_
                refine g_iast h (i := 50) rfl (lq_pace hL) (jvp (bI_1.mp c_5) (by decide) (by omega)) ?_
                refine g_aload_n h (i := 51) rfl rfl ?_
                refine g_getR h (i := 52) rfl fl_X10_35 (fun _ _ _ => rfl) (lk_R hL) (lr_rise hL) ?_
                refine g_iload_n h (i := 53) rfl rfl ?_
                refine g_iload h (i := 54) rfl rfl ?_
                refine g_iast h (i := 55) rfl (lq_rise hL) (jvp (bI_1.mp c_5) (by decide) (by omega)) ?_
                refine g_iconst h (i := 56) rfl (v := 1) (by rfl) ?_
                exact g_iret hq h (i := 57) rfl (⟨by rw [if_pos ⟨bI_1.mp c_5, bI_1.mp c_14, bI_1.mp c_25, bI_1.mp c_36, bI_1.mp c_47⟩, if_neg (bI_0.mp c_57)], by rw [if_pos ⟨⟨bI_1.mp c_5, bI_1.mp c_14, bI_1.mp c_25, bI_1.mp c_36, bI_1.mp c_47⟩, bI_0.mp c_57⟩]; unfold jtW; rw [bI_f c_70]; rfl⟩)
              · skip
                refine g_iconst h (i := 37) rfl (v := 1) (by rfl) ?_
                refine g_goto h (i := 38) 78 rfl rfl ?_
                refine g_zast h (i := 40) rfl (lq_slides hL) (jvp (bI_1.mp c_5) (by decide) (by omega)) (rfl) ?_
                refine g_aload_n h (i := 41) rfl rfl ?_
                refine g_getR h (i := 42) rfl fl_X10_20 (fun _ _ _ => rfl) (lk_R hL) (lr_length hL) ?_
                refine g_iload_n h (i := 43) rfl rfl ?_
                refine g_iload_n h (i := 44) rfl rfl ?_
                refine g_iast h (i := 45) rfl (lq_length hL) (jvp (bI_1.mp c_5) (by decide) (by omega)) ?_
                refine g_aload_n h (i := 46) rfl rfl ?_
                refine g_getR h (i := 47) rfl fl_X10_32 (fun _ _ _ => rfl) (lk_R hL) (lr_pace hL) ?_
                refine g_iload_n h (i := 48) rfl rfl ?_
                refine g_iload h (i := 49) rfl rfl ?_
                refine g_iast h (i := 50) rfl (lq_pace hL) (jvp (bI_1.mp c_5) (by decide) (by omega)) ?_
                refine g_aload_n h (i := 51) rfl rfl ?_
                refine g_getR h (i := 52) rfl fl_X10_35 (fun _ _ _ => rfl) (lk_R hL) (lr_rise hL) ?_
                refine g_iload_n h (i := 53) rfl rfl ?_
                refine g_iload h (i := 54) rfl rfl ?_
                refine g_iast h (i := 55) rfl (lq_rise hL) (jvp (bI_1.mp c_5) (by decide) (by omega)) ?_
                refine g_iconst h (i := 56) rfl (v := 1) (by rfl) ?_
                exact g_iret hq h (i := 57) rfl (⟨by rw [if_pos ⟨bI_1.mp c_5, bI_1.mp c_14, bI_1.mp c_25, bI_1.mp c_36, bI_1.mp c_47⟩, if_neg (bI_0.mp c_57)], by rw [if_pos ⟨⟨bI_1.mp c_5, bI_1.mp c_14, bI_1.mp c_25, bI_1.mp c_36, bI_1.mp c_47⟩, bI_0.mp c_57⟩]; unfold jtW; rw [bI_t c_70]; rfl⟩)
            · skip
              refine g_bipush h (i := 29) rfl (v := -3) (by rfl) ?_
              exact g_iret hq h (i := 30) rfl (⟨by rw [if_pos ⟨bI_1.mp c_5, bI_1.mp c_14, bI_1.mp c_25, bI_1.mp c_36, bI_1.mp c_47⟩, if_pos (bI_1.mp c_57)], by rw [if_neg (fun z => z.2 (bI_1.mp c_57))]⟩)
          · skip
            refine g_bipush h (i := 24) rfl (v := -2) (by rfl) ?_
            exact g_iret hq h (i := 25) rfl (⟨by rw [if_neg (fun q => bI_0.mp c_47 q.2.2.2.2)], by rw [if_neg (fun z => (fun q => bI_0.mp c_47 q.2.2.2.2) z.1)]⟩)
