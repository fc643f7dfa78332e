abbrev bxG (k x0 y0 x1 y1 : Int32) : Prop := (0 ≤ k ∧ k ≤ 3) ∧ (-10000 ≤ x0 ∧ x0 ≤ 10000) ∧ (-10000 ≤ y0 ∧ y0 ≤ 10000) ∧ (-10000 ≤ x1 ∧ x1 ≤ 10000) ∧ (-10000 ≤ y1 ∧ y1 ≤ 10000) ∧ x0 < x1 ∧ y0 < y1
def bxC (k x0 y0 x1 y1 : Int32) (cf : Nat → Nat → Int32) : Nat → Nat → Int32 := up2 (up2 (up2 (up2 (up2 cf 9 (pI k) 1) 10 (4 * pI k) x0) 10 (4 * pI k + 1) y0) 10 (4 * pI k + 2) x1) 10 (4 * pI k + 3) y1
def bxS (k x0 y0 x1 y1 : Int32) (cf : Nat → Nat → Int32) (r : Nat → Int64) : St := if bxG k x0 y0 x1 y1 then (if r 28 = 1 ∨ inB (tpC cf r).1 (tpC cf r).2 x0 y0 x1 y1 then (.int (-3), cf, r) else (.int 1, bxC k x0 y0 x1 y1 cf, r)) else (.int (-2), cf, r)
theorem g_wp {X : Cx} {ce sl pc : Nat} {lv : Nat → Option Value} {st : List Value} {w : Wd} {a x : Nat} {y : Nat} {v : Int32} (e : x = y) (k : G X ce sl pc lv st (sI w a y v)) : G X ce sl pc lv st (sI w a x v) := by rw [e]; exact k
-- box
set_option maxRecDepth 100000 in
set_option maxHeartbeats 4000000 in
theorem ct_X10_box (l : Launch) (E : EE) (w : Wd) (a : Nat) (r : Nat → Int64) (k x0 y0 x1 y1 : Int32) (hlo : E.2.2 ≤ wN (sRow w a r)) (hL : LayR w a) (hr : FA r) (hc : CfA (cfW w a)) : Ct l E yX10_box cX10_box 6 (some .int) ({ frames := 2, cells := 0, slots := 0, locals := 56 } : Room) [.ref a, .int k, .int x0, .int y0, .int x1, .int y1] (sRow w a r) 0 0 (PS a w (bxS k x0 y0 x1 y1 (cfW w a) r)) := by
  refine ct_in (il := il_X10_box) (by decide) dk_X10_box (Nat.le_of_ble_eq_true rfl) hlo ?_
  intro X h hq

  obtain ⟨x, hx⟩ : ∃ x, x = (tpC (cfW w a) r).1 := ⟨_, rfl⟩
  obtain ⟨z, hz⟩ : ∃ z, z = (tpC (cfW w a) r).2 := ⟨_, rfl⟩
  have ht := ct_tip l E hlo hL hr hc
  rw [← hx, ← hz] at ht
  have eB : ¬ bxG k x0 y0 x1 y1 → bxS k x0 y0 x1 y1 (cfW w a) r = (.int (-2), cfW w a, r) := fun g => by unfold bxS; rw [if_neg g]
  have eN : bxG k x0 y0 x1 y1 → (r 28 = 1 ∨ inB x z x0 y0 x1 y1) → bxS k x0 y0 x1 y1 (cfW w a) r = (.int (-3), cfW w a, r) := fun g g2 => by unfold bxS; rw [if_pos g, if_pos (by rw [← hx, ← hz]; exact g2)]
  have eY : bxG k x0 y0 x1 y1 → ¬ (r 28 = 1 ∨ inB x z x0 y0 x1 y1) → bxS k x0 y0 x1 y1 (cfW w a) r = (.int 1, bxC k x0 y0 x1 y1 (cfW w a), r) := fun g g2 => by unfold bxS; rw [if_pos g, if_neg (by rw [← hx, ← hz]; exact g2)]
  refine g_iload_n h (i := 0) rfl rfl ?_
  refine g_iconst h (i := 1) rfl (v := 0) (by rfl) ?_
  refine g_iconst h (i := 2) rfl (v := 3) (by rfl) ?_
  refine g_callSx h hq (i := 3) rfl ms_X10_82 (ct_X10_in l E _ k (0) (3) hlo) rfl rfl ⟨rfl, rfl, Nat.le_of_ble_eq_true rfl, Nat.le_of_ble_eq_true rfl⟩ (Nat.le_of_ble_eq_true rfl) ⟨Nat.zero_le _, Nat.zero_le _⟩ ?_
  refine g_if_eq h (i := 4) 75 rfl rfl (fun c_6 => ?_) (fun c_6 => ?_)
  · skip
    refine g_bipush h (i := 31) rfl (v := -2) (by rfl) ?_
    exact g_iret hq h (i := 32) rfl (by rw [eB (fun q => bI_0.mp c_6 q.1)]; exact ⟨rfl, ri_0⟩)
  · skip
    refine g_iload_n h (i := 5) rfl rfl ?_
    refine g_sipush h (i := 6) rfl (v := -10000) (by rfl) ?_
    refine g_sipush h (i := 7) rfl (v := 10000) (by rfl) ?_
    refine g_callSx h hq (i := 8) rfl ms_X10_82 (ct_X10_in l E _ x0 (-10000) (10000) hlo) rfl rfl ⟨rfl, rfl, Nat.le_of_ble_eq_true rfl, Nat.le_of_ble_eq_true rfl⟩ (Nat.le_of_ble_eq_true rfl) ⟨Nat.zero_le _, Nat.zero_le _⟩ ?_
    refine g_if_eq h (i := 9) 75 rfl rfl (fun c_19 => ?_) (fun c_19 => ?_)
    · skip
      refine g_bipush h (i := 31) rfl (v := -2) (by rfl) ?_
      exact g_iret hq h (i := 32) rfl (by rw [eB (fun q => bI_0.mp c_19 q.2.1)]; exact ⟨rfl, ri_0⟩)
    · skip
      refine g_iload_n h (i := 10) rfl rfl ?_
      refine g_sipush h (i := 11) rfl (v := -10000) (by rfl) ?_
      refine g_sipush h (i := 12) rfl (v := 10000) (by rfl) ?_
      refine g_callSx h hq (i := 13) rfl ms_X10_82 (ct_X10_in l E _ y0 (-10000) (10000) hlo) rfl rfl ⟨rfl, rfl, Nat.le_of_ble_eq_true rfl, Nat.le_of_ble_eq_true rfl⟩ (Nat.le_of_ble_eq_true rfl) ⟨Nat.zero_le _, Nat.zero_le _⟩ ?_
      refine g_if_eq h (i := 14) 75 rfl rfl (fun c_32 => ?_) (fun c_32 => ?_)
      · skip
        refine g_bipush h (i := 31) rfl (v := -2) (by rfl) ?_
        exact g_iret hq h (i := 32) rfl (by rw [eB (fun q => bI_0.mp c_32 q.2.2.1)]; exact ⟨rfl, ri_0⟩)
      · skip
        refine g_iload h (i := 15) rfl rfl ?_
        refine g_sipush h (i := 16) rfl (v := -10000) (by rfl) ?_
        refine g_sipush h (i := 17) rfl (v := 10000) (by rfl) ?_
        refine g_callSx h hq (i := 18) rfl ms_X10_82 (ct_X10_in l E _ x1 (-10000) (10000) hlo) rfl rfl ⟨rfl, rfl, Nat.le_of_ble_eq_true rfl, Nat.le_of_ble_eq_true rfl⟩ (Nat.le_of_ble_eq_true rfl) ⟨Nat.zero_le _, Nat.zero_le _⟩ ?_
        refine g_if_eq h (i := 19) 75 rfl rfl (fun c_46 => ?_) (fun c_46 => ?_)
        · skip
          refine g_bipush h (i := 31) rfl (v := -2) (by rfl) ?_
          exact g_iret hq h (i := 32) rfl (by rw [eB (fun q => bI_0.mp c_46 q.2.2.2.1)]; exact ⟨rfl, ri_0⟩)
        · skip
          refine g_iload h (i := 20) rfl rfl ?_
          refine g_sipush h (i := 21) rfl (v := -10000) (by rfl) ?_
          refine g_sipush h (i := 22) rfl (v := 10000) (by rfl) ?_
          refine g_callSx h hq (i := 23) rfl ms_X10_82 (ct_X10_in l E _ y1 (-10000) (10000) hlo) rfl rfl ⟨rfl, rfl, Nat.le_of_ble_eq_true rfl, Nat.le_of_ble_eq_true rfl⟩ (Nat.le_of_ble_eq_true rfl) ⟨Nat.zero_le _, Nat.zero_le _⟩ ?_
          refine g_if_eq h (i := 24) 75 rfl rfl (fun c_60 => ?_) (fun c_60 => ?_)
          · skip
            refine g_bipush h (i := 31) rfl (v := -2) (by rfl) ?_
            exact g_iret hq h (i := 32) rfl (by rw [eB (fun q => bI_0.mp c_60 q.2.2.2.2.1)]; exact ⟨rfl, ri_0⟩)
          · skip
            refine g_iload_n h (i := 25) rfl rfl ?_
            refine g_iload h (i := 26) rfl rfl ?_
            refine g_icmp_ge h (i := 27) 75 rfl rfl (fun c_66 => ?_) (fun c_66 => ?_)
            · skip
              refine g_bipush h (i := 31) rfl (v := -2) (by rfl) ?_
              exact g_iret hq h (i := 32) rfl (by rw [eB (fun q => i32nlt.mpr c_66 q.2.2.2.2.2.1)]; exact ⟨rfl, ri_0⟩)
            · skip
              refine g_iload_n h (i := 28) rfl rfl ?_
              refine g_iload h (i := 29) rfl rfl ?_
              refine g_icmp_lt h (i := 30) 78 rfl rfl (fun c_72 => ?_) (fun c_72 => ?_)
              · skip
                refine g_aload_n h (i := 33) rfl rfl ?_
                refine g_callVn h hq (i := 34) rfl mv_X10_155 cls10 (lk_R hL) (ht) rfl rfl ⟨rfl, rfl, Nat.le_of_ble_eq_true rfl, Nat.le_of_ble_eq_true rfl⟩ (Nat.le_of_ble_eq_true rfl) ⟨Nat.zero_le _, Nat.zero_le _⟩ ?_
                refine g_aload_n h (i := 35) rfl rfl ?_
                refine g_callVx h hq (i := 36) rfl mv_X10_91 cls10 (lk_R hL) (ct_X10_isGoing l E (tipW w a 20 x z) a r hlo hL) rfl rfl ⟨rfl, rfl, Nat.le_of_ble_eq_true rfl, Nat.le_of_ble_eq_true rfl⟩ (Nat.le_of_ble_eq_true rfl) ⟨Nat.zero_le _, Nat.zero_le _⟩ ?_
                refine g_if_ne h (i := 37) 131 rfl rfl (fun c_86 => ?_) (fun c_86 => ?_)
                · skip
                  refine g_bipush h (i := 62) rfl (v := -3) (by rfl) ?_
                  exact g_iret hq h (i := 63) rfl (by rw [eN ⟨bI_1.mp c_6, bI_1.mp c_19, bI_1.mp c_32, bI_1.mp c_46, bI_1.mp c_60, i32nl.mp c_66, c_72⟩ (Or.inl (bI_1.mp c_86))]; exact ⟨rfl, ri_RS (RS_tip w a x z)⟩)
                · skip
                  refine g_aload_n h (i := 38) rfl rfl ?_
                  refine g_getD h (i := 39) rfl fl_X10_132 (fun _ _ _ => rfl) (lk_R hL) ?_
                  refine g_eqd x (tipW_x _ _ _ _) ?_
                  refine g_iload_n h (i := 40) rfl rfl ?_
                  refine g_i2d h (i := 41) rfl ?_
                  refine g_dcmp h (i := 42) rfl ?_
                  refine g_if_lt h (i := 43) 134 rfl rfl (fun c_96 => ?_) (fun c_96 => ?_)
                  · skip
                    obtain ⟨hk, hk3⟩ := jx (M := 3) (bI_1.mp c_6) (by decide)
                    have hk4 : (4 : Int32) * k = nI (4 * pI k) := (congrArg (fun z => (4 : Int32) * z) hk).trans (pk_mul 4 _)
                    refine g_aload_n h (i := 64) rfl rfl ?_
                    refine g_getR h (i := 65) rfl fl_X10_38 (fun _ _ _ => rfl) (lk_R hL) (lr_isBox hL) ?_
                    refine g_iload_n h (i := 66) rfl rfl ?_
                    refine g_iconst h (i := 67) rfl (v := 1) (by rfl) ?_
                    refine g_zast h (i := 68) rfl (lq_isBox hL) (jvp (bI_1.mp c_6) (by decide) (by omega)) (rfl) ?_
                    refine g_aload_n h (i := 69) rfl rfl ?_
                    refine g_getR h (i := 70) rfl fl_X10_41 (fun _ _ _ => rfl) (lk_R hL) (lr_box hL) ?_
                    refine g_iconst h (i := 71) rfl (v := 4) (by rfl) ?_
                    refine g_iload_n h (i := 72) rfl rfl ?_
                    refine g_imul h (i := 73) rfl ?_
                    refine g_eqi (nI (4 * pI k)) hk4 ?_
                    refine g_iload_n h (i := 74) rfl rfl ?_
                    refine g_iast h (i := 75) rfl (lq_box hL) (vp_in_nI (by omega) (by omega)) ?_
                    refine g_wp (y := 4 * pI k) (nI_clamp (by omega)) ?_
                    refine g_aload_n h (i := 76) rfl rfl ?_
                    refine g_getR h (i := 77) rfl fl_X10_41 (fun _ _ _ => rfl) (lk_R hL) (lr_box hL) ?_
                    refine g_iconst h (i := 78) rfl (v := 4) (by rfl) ?_
                    refine g_iload_n h (i := 79) rfl rfl ?_
                    refine g_imul h (i := 80) rfl ?_
                    refine g_eqi (nI (4 * pI k)) hk4 ?_
                    refine g_iconst h (i := 81) rfl (v := 1) (by rfl) ?_
                    refine g_iadd h (i := 82) rfl ?_
                    refine g_eqi (nI (4 * pI k + 1)) (nI_add _ 1) ?_
                    refine g_iload_n h (i := 83) rfl rfl ?_
                    refine g_iast h (i := 84) rfl (lq_box hL) (vp_in_nI (by omega) (by omega)) ?_
                    refine g_wp (y := 4 * pI k + 1) (nI_clamp (by omega)) ?_
                    refine g_aload_n h (i := 85) rfl rfl ?_
                    refine g_getR h (i := 86) rfl fl_X10_41 (fun _ _ _ => rfl) (lk_R hL) (lr_box hL) ?_
                    refine g_iconst h (i := 87) rfl (v := 4) (by rfl) ?_
                    refine g_iload_n h (i := 88) rfl rfl ?_
                    refine g_imul h (i := 89) rfl ?_
                    refine g_eqi (nI (4 * pI k)) hk4 ?_
                    refine g_iconst h (i := 90) rfl (v := 2) (by rfl) ?_
                    refine g_iadd h (i := 91) rfl ?_
                    refine g_eqi (nI (4 * pI k + 2)) (nI_add _ 2) ?_
                    refine g_iload h (i := 92) rfl rfl ?_
                    refine g_iast h (i := 93) rfl (lq_box hL) (vp_in_nI (by omega) (by omega)) ?_
                    refine g_wp (y := 4 * pI k + 2) (nI_clamp (by omega)) ?_
                    refine g_aload_n h (i := 94) rfl rfl ?_
                    refine g_getR h (i := 95) rfl fl_X10_41 (fun _ _ _ => rfl) (lk_R hL) (lr_box hL) ?_
                    refine g_iconst h (i := 96) rfl (v := 4) (by rfl) ?_
                    refine g_iload_n h (i := 97) rfl rfl ?_
                    refine g_imul h (i := 98) rfl ?_
                    refine g_eqi (nI (4 * pI k)) hk4 ?_
                    refine g_iconst h (i := 99) rfl (v := 3) (by rfl) ?_
                    refine g_iadd h (i := 100) rfl ?_
                    refine g_eqi (nI (4 * pI k + 3)) (nI_add _ 3) ?_
                    refine g_iload h (i := 101) rfl rfl ?_
                    refine g_iast h (i := 102) rfl (lq_box hL) (vp_in_nI (by omega) (by omega)) ?_
                    refine g_wp (y := 4 * pI k + 3) (nI_clamp (by omega)) ?_
                    refine g_iconst h (i := 103) rfl (v := 1) (by rfl) ?_
                    exact g_iret hq h (i := 104) rfl (by rw [eY ⟨bI_1.mp c_6, bI_1.mp c_19, bI_1.mp c_32, bI_1.mp c_46, bI_1.mp c_60, i32nl.mp c_66, c_72⟩ (fun q => q.elim (bI_0.mp c_86) (fun q => (cl_neg _ _).mp c_96 q.1))]; unfold bxC; exact ⟨rfl, ri_I 10 _ (ri_I 10 _ (ri_I 10 _ (ri_I 10 _ (ri_I 9 _ (ri_RS (RS_tip w a x z))))))⟩)
                  · skip
                    refine g_aload_n h (i := 44) rfl rfl ?_
                    refine g_getD h (i := 45) rfl fl_X10_132 (fun _ _ _ => rfl) (lk_R hL) ?_
                    refine g_eqd x (tipW_x _ _ _ _) ?_
                    refine g_iload h (i := 46) rfl rfl ?_
                    refine g_i2d h (i := 47) rfl ?_
                    refine g_dcmp h (i := 48) rfl ?_
                    refine g_if_gt h (i := 49) 134 rfl rfl (fun c_107 => ?_) (fun c_107 => ?_)
                    · skip
                      obtain ⟨hk, hk3⟩ := jx (M := 3) (bI_1.mp c_6) (by decide)
                      have hk4 : (4 : Int32) * k = nI (4 * pI k) := (congrArg (fun z => (4 : Int32) * z) hk).trans (pk_mul 4 _)
                      refine g_aload_n h (i := 64) rfl rfl ?_
                      refine g_getR h (i := 65) rfl fl_X10_38 (fun _ _ _ => rfl) (lk_R hL) (lr_isBox hL) ?_
                      refine g_iload_n h (i := 66) rfl rfl ?_
                      refine g_iconst h (i := 67) rfl (v := 1) (by rfl) ?_
                      refine g_zast h (i := 68) rfl (lq_isBox hL) (jvp (bI_1.mp c_6) (by decide) (by omega)) (rfl) ?_
                      refine g_aload_n h (i := 69) rfl rfl ?_
                      refine g_getR h (i := 70) rfl fl_X10_41 (fun _ _ _ => rfl) (lk_R hL) (lr_box hL) ?_
                      refine g_iconst h (i := 71) rfl (v := 4) (by rfl) ?_
                      refine g_iload_n h (i := 72) rfl rfl ?_
                      refine g_imul h (i := 73) rfl ?_
                      refine g_eqi (nI (4 * pI k)) hk4 ?_
                      refine g_iload_n h (i := 74) rfl rfl ?_
                      refine g_iast h (i := 75) rfl (lq_box hL) (vp_in_nI (by omega) (by omega)) ?_
                      refine g_wp (y := 4 * pI k) (nI_clamp (by omega)) ?_
                      refine g_aload_n h (i := 76) rfl rfl ?_
                      refine g_getR h (i := 77) rfl fl_X10_41 (fun _ _ _ => rfl) (lk_R hL) (lr_box hL) ?_
                      refine g_iconst h (i := 78) rfl (v := 4) (by rfl) ?_
                      refine g_iload_n h (i := 79) rfl rfl ?_
                      refine g_imul h (i := 80) rfl ?_
                      refine g_eqi (nI (4 * pI k)) hk4 ?_
                      refine g_iconst h (i := 81) rfl (v := 1) (by rfl) ?_
                      refine g_iadd h (i := 82) rfl ?_
                      refine g_eqi (nI (4 * pI k + 1)) (nI_add _ 1) ?_
                      refine g_iload_n h (i := 83) rfl rfl ?_
                      refine g_iast h (i := 84) rfl (lq_box hL) (vp_in_nI (by omega) (by omega)) ?_
                      refine g_wp (y := 4 * pI k + 1) (nI_clamp (by omega)) ?_
                      refine g_aload_n h (i := 85) rfl rfl ?_
                      refine g_getR h (i := 86) rfl fl_X10_41 (fun _ _ _ => rfl) (lk_R hL) (lr_box hL) ?_
                      refine g_iconst h (i := 87) rfl (v := 4) (by rfl) ?_
                      refine g_iload_n h (i := 88) rfl rfl ?_
                      refine g_imul h (i := 89) rfl ?_
                      refine g_eqi (nI (4 * pI k)) hk4 ?_
                      refine g_iconst h (i := 90) rfl (v := 2) (by rfl) ?_
                      refine g_iadd h (i := 91) rfl ?_
                      refine g_eqi (nI (4 * pI k + 2)) (nI_add _ 2) ?_
                      refine g_iload h (i := 92) rfl rfl ?_
                      refine g_iast h (i := 93) rfl (lq_box hL) (vp_in_nI (by omega) (by omega)) ?_
                      refine g_wp (y := 4 * pI k + 2) (nI_clamp (by omega)) ?_
                      refine g_aload_n h (i := 94) rfl rfl ?_
                      refine g_getR h (i := 95) rfl fl_X10_41 (fun _ _ _ => rfl) (lk_R hL) (lr_box hL) ?_
                      refine g_iconst h (i := 96) rfl (v := 4) (by rfl) ?_
                      refine g_iload_n h (i := 97) rfl rfl ?_
                      refine g_imul h (i := 98) rfl ?_
                      refine g_eqi (nI (4 * pI k)) hk4 ?_
                      refine g_iconst h (i := 99) rfl (v := 3) (by rfl) ?_
                      refine g_iadd h (i := 100) rfl ?_
                      refine g_eqi (nI (4 * pI k + 3)) (nI_add _ 3) ?_
                      refine g_iload h (i := 101) rfl rfl ?_
                      refine g_iast h (i := 102) rfl (lq_box hL) (vp_in_nI (by omega) (by omega)) ?_
                      refine g_wp (y := 4 * pI k + 3) (nI_clamp (by omega)) ?_
                      refine g_iconst h (i := 103) rfl (v := 1) (by rfl) ?_
                      exact g_iret hq h (i := 104) rfl (by rw [eY ⟨bI_1.mp c_6, bI_1.mp c_19, bI_1.mp c_32, bI_1.mp c_46, bI_1.mp c_60, i32nl.mp c_66, c_72⟩ (fun q => q.elim (bI_0.mp c_86) (fun q => (cg_pos _ _).mp c_107 q.2.1))]; unfold bxC; exact ⟨rfl, ri_I 10 _ (ri_I 10 _ (ri_I 10 _ (ri_I 10 _ (ri_I 9 _ (ri_RS (RS_tip w a x z))))))⟩)
                    · skip
                      refine g_aload_n h (i := 50) rfl rfl ?_
                      refine g_getD h (i := 51) rfl fl_X10_136 (fun _ _ _ => rfl) (lk_R hL) ?_
                      refine g_eqd z (tipW_y _ _ _ _) ?_
                      refine g_iload_n h (i := 52) rfl rfl ?_
                      refine g_i2d h (i := 53) rfl ?_
                      refine g_dcmp h (i := 54) rfl ?_
                      refine g_if_lt h (i := 55) 134 rfl rfl (fun c_117 => ?_) (fun c_117 => ?_)
                      · skip
                        obtain ⟨hk, hk3⟩ := jx (M := 3) (bI_1.mp c_6) (by decide)
                        have hk4 : (4 : Int32) * k = nI (4 * pI k) := (congrArg (fun z => (4 : Int32) * z) hk).trans (pk_mul 4 _)
                        refine g_aload_n h (i := 64) rfl rfl ?_
                        refine g_getR h (i := 65) rfl fl_X10_38 (fun _ _ _ => rfl) (lk_R hL) (lr_isBox hL) ?_
                        refine g_iload_n h (i := 66) rfl rfl ?_
                        refine g_iconst h (i := 67) rfl (v := 1) (by rfl) ?_
                        refine g_zast h (i := 68) rfl (lq_isBox hL) (jvp (bI_1.mp c_6) (by decide) (by omega)) (rfl) ?_
                        refine g_aload_n h (i := 69) rfl rfl ?_
                        refine g_getR h (i := 70) rfl fl_X10_41 (fun _ _ _ => rfl) (lk_R hL) (lr_box hL) ?_
                        refine g_iconst h (i := 71) rfl (v := 4) (by rfl) ?_
                        refine g_iload_n h (i := 72) rfl rfl ?_
                        refine g_imul h (i := 73) rfl ?_
                        refine g_eqi (nI (4 * pI k)) hk4 ?_
                        refine g_iload_n h (i := 74) rfl rfl ?_
                        refine g_iast h (i := 75) rfl (lq_box hL) (vp_in_nI (by omega) (by omega)) ?_
                        refine g_wp (y := 4 * pI k) (nI_clamp (by omega)) ?_
                        refine g_aload_n h (i := 76) rfl rfl ?_
                        refine g_getR h (i := 77) rfl fl_X10_41 (fun _ _ _ => rfl) (lk_R hL) (lr_box hL) ?_
                        refine g_iconst h (i := 78) rfl (v := 4) (by rfl) ?_
                        refine g_iload_n h (i := 79) rfl rfl ?_
                        refine g_imul h (i := 80) rfl ?_
                        refine g_eqi (nI (4 * pI k)) hk4 ?_
                        refine g_iconst h (i := 81) rfl (v := 1) (by rfl) ?_
                        refine g_iadd h (i := 82) rfl ?_
                        refine g_eqi (nI (4 * pI k + 1)) (nI_add _ 1) ?_
                        refine g_iload_n h (i := 83) rfl rfl ?_
                        refine g_iast h (i := 84) rfl (lq_box hL) (vp_in_nI (by omega) (by omega)) ?_
                        refine g_wp (y := 4 * pI k + 1) (nI_clamp (by omega)) ?_
                        refine g_aload_n h (i := 85) rfl rfl ?_
                        refine g_getR h (i := 86) rfl fl_X10_41 (fun _ _ _ => rfl) (lk_R hL) (lr_box hL) ?_
                        refine g_iconst h (i := 87) rfl (v := 4) (by rfl) ?_
                        refine g_iload_n h (i := 88) rfl rfl ?_
                        refine g_imul h (i := 89) rfl ?_
                        refine g_eqi (nI (4 * pI k)) hk4 ?_
                        refine g_iconst h (i := 90) rfl (v := 2) (by rfl) ?_
                        refine g_iadd h (i := 91) rfl ?_
                        refine g_eqi (nI (4 * pI k + 2)) (nI_add _ 2) ?_
                        refine g_iload h (i := 92) rfl rfl ?_
                        refine g_iast h (i := 93) rfl (lq_box hL) (vp_in_nI (by omega) (by omega)) ?_
                        refine g_wp (y := 4 * pI k + 2) (nI_clamp (by omega)) ?_
                        refine g_aload_n h (i := 94) rfl rfl ?_
                        refine g_getR h (i := 95) rfl fl_X10_41 (fun _ _ _ => rfl) (lk_R hL) (lr_box hL) ?_
                        refine g_iconst h (i := 96) rfl (v := 4) (by rfl) ?_
                        refine g_iload_n h (i := 97) rfl rfl ?_
                        refine g_imul h (i := 98) rfl ?_
                        refine g_eqi (nI (4 * pI k)) hk4 ?_
                        refine g_iconst h (i := 99) rfl (v := 3) (by rfl) ?_
                        refine g_iadd h (i := 100) rfl ?_
                        refine g_eqi (nI (4 * pI k + 3)) (nI_add _ 3) ?_
                        refine g_iload h (i := 101) rfl rfl ?_
                        refine g_iast h (i := 102) rfl (lq_box hL) (vp_in_nI (by omega) (by omega)) ?_
                        refine g_wp (y := 4 * pI k + 3) (nI_clamp (by omega)) ?_
                        refine g_iconst h (i := 103) rfl (v := 1) (by rfl) ?_
                        exact g_iret hq h (i := 104) rfl (by rw [eY ⟨bI_1.mp c_6, bI_1.mp c_19, bI_1.mp c_32, bI_1.mp c_46, bI_1.mp c_60, i32nl.mp c_66, c_72⟩ (fun q => q.elim (bI_0.mp c_86) (fun q => (cl_neg _ _).mp c_117 q.2.2.1))]; unfold bxC; exact ⟨rfl, ri_I 10 _ (ri_I 10 _ (ri_I 10 _ (ri_I 10 _ (ri_I 9 _ (ri_RS (RS_tip w a x z))))))⟩)
                      · skip
                        refine g_aload_n h (i := 56) rfl rfl ?_
                        refine g_getD h (i := 57) rfl fl_X10_136 (fun _ _ _ => rfl) (lk_R hL) ?_
                        refine g_eqd z (tipW_y _ _ _ _) ?_
                        refine g_iload h (i := 58) rfl rfl ?_
                        refine g_i2d h (i := 59) rfl ?_
                        refine g_dcmp h (i := 60) rfl ?_
                        refine g_if_gt h (i := 61) 134 rfl rfl (fun c_128 => ?_) (fun c_128 => ?_)
                        · skip
                          obtain ⟨hk, hk3⟩ := jx (M := 3) (bI_1.mp c_6) (by decide)
                          have hk4 : (4 : Int32) * k = nI (4 * pI k) := (congrArg (fun z => (4 : Int32) * z) hk).trans (pk_mul 4 _)
                          refine g_aload_n h (i := 64) rfl rfl ?_
                          refine g_getR h (i := 65) rfl fl_X10_38 (fun _ _ _ => rfl) (lk_R hL) (lr_isBox hL) ?_
                          refine g_iload_n h (i := 66) rfl rfl ?_
                          refine g_iconst h (i := 67) rfl (v := 1) (by rfl) ?_
                          refine g_zast h (i := 68) rfl (lq_isBox hL) (jvp (bI_1.mp c_6) (by decide) (by omega)) (rfl) ?_
                          refine g_aload_n h (i := 69) rfl rfl ?_
                          refine g_getR h (i := 70) rfl fl_X10_41 (fun _ _ _ => rfl) (lk_R hL) (lr_box hL) ?_
                          refine g_iconst h (i := 71) rfl (v := 4) (by rfl) ?_
                          refine g_iload_n h (i := 72) rfl rfl ?_
                          refine g_imul h (i := 73) rfl ?_
                          refine g_eqi (nI (4 * pI k)) hk4 ?_
                          refine g_iload_n h (i := 74) rfl rfl ?_
                          refine g_iast h (i := 75) rfl (lq_box hL) (vp_in_nI (by omega) (by omega)) ?_
                          refine g_wp (y := 4 * pI k) (nI_clamp (by omega)) ?_
                          refine g_aload_n h (i := 76) rfl rfl ?_
                          refine g_getR h (i := 77) rfl fl_X10_41 (fun _ _ _ => rfl) (lk_R hL) (lr_box hL) ?_
                          refine g_iconst h (i := 78) rfl (v := 4) (by rfl) ?_
                          refine g_iload_n h (i := 79) rfl rfl ?_
                          refine g_imul h (i := 80) rfl ?_
                          refine g_eqi (nI (4 * pI k)) hk4 ?_
                          refine g_iconst h (i := 81) rfl (v := 1) (by rfl) ?_
                          refine g_iadd h (i := 82) rfl ?_
                          refine g_eqi (nI (4 * pI k + 1)) (nI_add _ 1) ?_
                          refine g_iload_n h (i := 83) rfl rfl ?_
                          refine g_iast h (i := 84) rfl (lq_box hL) (vp_in_nI (by omega) (by omega)) ?_
                          refine g_wp (y := 4 * pI k + 1) (nI_clamp (by omega)) ?_
                          refine g_aload_n h (i := 85) rfl rfl ?_
                          refine g_getR h (i := 86) rfl fl_X10_41 (fun _ _ _ => rfl) (lk_R hL) (lr_box hL) ?_
                          refine g_iconst h (i := 87) rfl (v := 4) (by rfl) ?_
                          refine g_iload_n h (i := 88) rfl rfl ?_
                          refine g_imul h (i := 89) rfl ?_
                          refine g_eqi (nI (4 * pI k)) hk4 ?_
                          refine g_iconst h (i := 90) rfl (v := 2) (by rfl) ?_
                          refine g_iadd h (i := 91) rfl ?_
                          refine g_eqi (nI (4 * pI k + 2)) (nI_add _ 2) ?_
                          refine g_iload h (i := 92) rfl rfl ?_
                          refine g_iast h (i := 93) rfl (lq_box hL) (vp_in_nI (by omega) (by omega)) ?_
                          refine g_wp (y := 4 * pI k + 2) (nI_clamp (by omega)) ?_
                          refine g_aload_n h (i := 94) rfl rfl ?_
                          refine g_getR h (i := 95) rfl fl_X10_41 (fun _ _ _ => rfl) (lk_R hL) (lr_box hL) ?_
                          refine g_iconst h (i := 96) rfl (v := 4) (by rfl) ?_
                          refine g_iload_n h (i := 97) rfl rfl ?_
                          refine g_imul h (i := 98) rfl ?_
                          refine g_eqi (nI (4 * pI k)) hk4 ?_
                          refine g_iconst h (i := 99) rfl (v := 3) (by rfl) ?_
                          refine g_iadd h (i := 100) rfl ?_
                          refine g_eqi (nI (4 * pI k + 3)) (nI_add _ 3) ?_
                          refine g_iload h (i := 101) rfl rfl ?_
                          refine g_iast h (i := 102) rfl (lq_box hL) (vp_in_nI (by omega) (by omega)) ?_
                          refine g_wp (y := 4 * pI k + 3) (nI_clamp (by omega)) ?_
                          refine g_iconst h (i := 103) rfl (v := 1) (by rfl) ?_
                          exact g_iret hq h (i := 104) rfl (by rw [eY ⟨bI_1.mp c_6, bI_1.mp c_19, bI_1.mp c_32, bI_1.mp c_46, bI_1.mp c_60, i32nl.mp c_66, c_72⟩ (fun q => q.elim (bI_0.mp c_86) (fun q => (cg_pos _ _).mp c_128 q.2.2.2))]; unfold bxC; exact ⟨rfl, ri_I 10 _ (ri_I 10 _ (ri_I 10 _ (ri_I 10 _ (ri_I 9 _ (ri_RS (RS_tip w a x z))))))⟩)
                        · skip
                          refine g_bipush h (i := 62) rfl (v := -3) (by rfl) ?_
                          exact g_iret hq h (i := 63) rfl (by rw [eN ⟨bI_1.mp c_6, bI_1.mp c_19, bI_1.mp c_32, bI_1.mp c_46, bI_1.mp c_60, i32nl.mp c_66, c_72⟩ (Or.inr ⟨cl_n c_96, cg_n c_107, cl_n c_117, cg_n c_128⟩)]; exact ⟨rfl, ri_RS (RS_tip w a x z)⟩)
              · skip
                refine g_bipush h (i := 31) rfl (v := -2) (by rfl) ?_
                exact g_iret hq h (i := 32) rfl (by rw [eB (fun q => c_72 q.2.2.2.2.2.2)]; exact ⟨rfl, ri_0⟩)
def tcS (k : Int32) (cf : Nat → Nat → Int32) (r : Nat → Int64) : St := if 0 ≤ k ∧ k ≤ 15 then (.int 1, ua (up2 cf 11 (pI k) 1) 12 (setn (cf 12) (4 * pI k) (fun j => (r j).toInt32) 4), r) else (.int (-2), cf, r)
def poW (w : Wd) (a k : Nat) (f : Nat → Int32) (i : Nat) : Wd := dW w (ua (wI w) (a + 12) (setn (wI w (a + 12)) (4 * k) f i)) (wJ w) (wD w)
theorem po_0 (w : Wd) (a k : Nat) (f : Nat → Int32) : poW w a k f 0 = w := by
  unfold poW; rw [setn_0, ua_self]; rfl
theorem po_1 {w : Wd} {a k i : Nat} {f : Nat → Int32} {r : Nat → Int64} {v : Int32} (hv : v = f i) : sI (sRow (poW w a k f i) a r) (a + 12) (4 * k + i) v = sRow (poW w a k f (i + 1)) a r := by
  have e : up2 (ua (wI w) (a + 12) (setn (wI w (a + 12)) (4 * k) f i)) (a + 12) (4 * k + i) v = ua (wI w) (a + 12) (setn (wI w (a + 12)) (4 * k) f (i + 1)) := by rw [up2_ua, ua_ua, ua_s, setn_1 _ _ _ _ hv]
  exact congrArg (fun I => sRow (dW w I (wJ w) (wD w)) a r) e
theorem ri_ua {a : Nat} {w w2 : Wd} {cf : Nat → Nat → Int32} {r : Nat → Int64} (f : Nat) (g : Nat → Int32) (h : RI a w cf r w2) : RI a w (ua cf f g) r (dW w2 (ua (wI w2) (a + f) g) (wJ w2) (wD w2)) := by
  obtain ⟨I, J, D, rfl, h1, h2, h3⟩ := h
  refine ⟨ua I (a + f) g, J, D, rfl, fun y => ?_, h2, fun p hp => ⟨(ua_a (by omega)).trans (h3 p hp).1, (h3 p hp).2.1, (h3 p hp).2.2⟩⟩
  by_cases e : y = f
  · subst e; rw [ua_s, ua_s]
  · rw [ua_a e, ua_a (by omega), h1]
-- teach
set_option maxRecDepth 100000 in
set_option maxHeartbeats 4000000 in
theorem ct_X10_teach (l : Launch) (E : EE) (w : Wd) (a : Nat) (r : Nat → Int64) (k : Int32) (hlo : E.2.2 ≤ wN (sRow w a r)) (hL : LayR w a) : Ct l E yX10_teach cX10_teach 3 (some .int) ({ frames := 2, cells := 0, slots := 0, locals := 42 } : Room) [.ref a, .int k] (sRow w a r) 0 0 (PS a w (tcS k (cfW w a) r)) := by
  refine ct_in (il := il_X10_teach) (by decide) dk_X10_teach (Nat.le_of_ble_eq_true rfl) hlo ?_
  intro X h hq

  obtain ⟨w1, hw1⟩ : ∃ w1, w1 = sI w (a + 11) (pI k) 1 := ⟨_, rfl⟩
  obtain ⟨f, hf⟩ : ∃ f : Nat → Int32, f = fun j => (r j).toInt32 := ⟨_, rfl⟩
  have hL1 : LayR w1 a := by rw [hw1]; exact hL
  have hlo1 : E.2.2 ≤ wN w1 := by rw [hw1]; exact hlo
  have hL0 := hL
  have hL := hL1
  have q0 : RI a w (cfW w a) (wJ w (a + 1)) w := by
    have q := ri_0 (a := a) (w := w) (r := wJ w (a + 1))
    rw [show sRow w a (wJ w (a + 1)) = w from sRow_self w a] at q
    exact q
  have q1 := ri_I 11 (pI k) (v := 1) q0
  rw [← hw1] at q1
  have e12 : wI w1 (a + 12) = cfW w a 12 := (congrArg (fun W => wI W (a + 12)) hw1).trans (up2_f (by omega))
  have fin : RI a w (ua (up2 (cfW w a) 11 (pI k) 1) 12 (setn (cfW w a 12) (4 * pI k) f 4)) r (sRow (poW w1 a (pI k) f 4) a r) := by
    have q2 := ri_ua 12 (setn (cfW w a 12) (4 * pI k) f 4) q1
    refine ri_r ?_ (r := wJ w (a + 1))
    unfold poW
    rw [e12]
    exact q2
  have key : (0 ≤ k ∧ k ≤ 15) → ∀ (d i : Nat), i + d = 4 → G X 0 0 19 (lf [(0, .ref a), (1, .int k), (2, .int (nI i))]) [] (sRow (poW w1 a (pI k) f i) a r) := by
    intro hk0
    obtain ⟨hk, hk3⟩ := jx (M := 15) hk0 (by decide)
    have hk4 : (4 : Int32) * k = nI (4 * pI k) := (congrArg (fun z => (4 : Int32) * z) hk).trans (pk_mul 4 _)
    intro d
    induction d with
    | zero =>
      intro i hi
      have hi4 : i = 4 := by omega
      subst hi4
      refine g_iload_n h (i := 12) rfl rfl ?_
      refine g_iconst h (i := 13) rfl (v := 4) (by rfl) ?_
      refine g_icmp_ge h (i := 14) 47 rfl rfl (fun c_21 => ?_) (fun c_21 => absurd (by decide : (4 : Int32) ≤ nI 4) c_21)
      refine g_iconst h (i := 30) rfl (v := 1) (by rfl) ?_
      exact g_iret hq h (i := 31) rfl (by unfold tcS; rw [if_pos hk0, ← hf]; exact ⟨rfl, fin⟩)
    | succ d ih =>
      intro i hid
      have hi : i < 4 := by omega
      have hnge : ¬ (4 : Int32) ≤ nI i := nI_ge (b := 4) hi (by omega)
      refine g_iload_n h (i := 12) rfl rfl ?_
      refine g_iconst h (i := 13) rfl (v := 4) (by rfl) ?_
      refine g_icmp_ge h (i := 14) 47 rfl rfl (fun c_21 => absurd c_21 hnge) (fun c_21 => ?_)
      refine g_aload_n h (i := 15) rfl rfl ?_
      refine g_getR h (i := 16) rfl fl_X10_47 (fun _ _ _ => rfl) (lk_R hL) (lr_pose hL) ?_
      refine g_iconst h (i := 17) rfl (v := 4) (by rfl) ?_
      refine g_iload_n h (i := 18) rfl rfl ?_
      refine g_imul h (i := 19) rfl ?_
      refine g_eqi (nI (4 * pI k)) hk4 ?_
      refine g_iload_n h (i := 20) rfl rfl ?_
      refine g_iadd h (i := 21) rfl ?_
      refine g_eqi (nI (4 * pI k + i)) (nI_add _ i) ?_
      refine g_aload_n h (i := 22) rfl rfl ?_
      refine g_iconst h (i := 23) rfl (v := 0) (by rfl) ?_
      refine g_iload_n h (i := 24) rfl rfl ?_
      refine g_iadd h (i := 25) rfl ?_
      refine g_eqi (nI i) ((nI_add 0 i).trans (by rw [Nat.zero_add])) ?_
      refine g_callVx h hq (i := 26) rfl mv_X10_97 cls10 (lk_R hL) (ct_X10_rowAt l E (poW w1 a (pI k) f i) a i r (nI i) hlo1 hL1 (vp_in_nI (by omega) (by omega)) (nI_clamp (by omega))) rfl rfl ⟨rfl, rfl, Nat.le_of_ble_eq_true rfl, Nat.le_of_ble_eq_true rfl⟩ (Nat.le_of_ble_eq_true rfl) ⟨Nat.zero_le _, Nat.zero_le _⟩ ?_
      refine g_iast h (i := 27) rfl (lq_pose hL) (vp_in_nI (by omega) (by omega)) ?_
      refine g_w (sRow (poW w1 a (pI k) f (i + 1)) a r) (by rw [nI_clamp (by omega)]; exact po_1 (by rw [hf])) ?_
      refine g_iinc h (i := 28) rfl rfl (dv := 1) (by rfl) ?_
      refine g_goto h (i := 29) 19 rfl rfl ?_
      exact g_lv [(0, .ref a), (1, .int k), (2, .int (nI (i + 1)))] ⟨rfl, rfl, congrArg (fun z => some (Value.int z)) (nI_1 i), trivial⟩ (ih (i + 1) (by omega))
  have hL := hL0
  refine g_iload_n h (i := 0) rfl rfl ?_
  refine g_callSx h hq (i := 1) rfl ms_X10_165 (ct_X10_isPose l E _ k hlo) rfl rfl ⟨rfl, rfl, Nat.le_of_ble_eq_true rfl, Nat.le_of_ble_eq_true rfl⟩ (Nat.le_of_ble_eq_true rfl) ⟨Nat.zero_le _, Nat.zero_le _⟩ ?_
  refine g_if_ne h (i := 2) 10 rfl rfl (fun c_4 => ?_) (fun c_4 => ?_)
  · skip
    refine g_aload_n h (i := 5) rfl rfl ?_
    refine g_getR h (i := 6) rfl fl_X10_44 (fun _ _ _ => rfl) (lk_R hL) (lr_isTaught hL) ?_
    refine g_iload_n h (i := 7) rfl rfl ?_
    refine g_iconst h (i := 8) rfl (v := 1) (by rfl) ?_
    refine g_zast h (i := 9) rfl (lq_isTaught hL) (jvp (bI_1.mp c_4) (by decide) (by omega)) (rfl) ?_
    refine g_w (sRow w1 a r) (by rw [hw1]; rfl) ?_
    refine g_iconst h (i := 10) rfl (v := 0) (by rfl) ?_
    refine g_istore_n h (i := 11) rfl hq rfl ?_
    exact g_lv [(0, .ref a), (1, .int k), (2, .int (nI 0))] ⟨rfl, rfl, rfl, trivial⟩ (by have := key (bI_1.mp c_4) 4 0 (by omega); rw [po_0] at this; exact this)
  · skip
    refine g_bipush h (i := 3) rfl (v := -2) (by rfl) ?_
    exact g_iret hq h (i := 4) rfl (by unfold tcS; rw [if_neg (bI_0.mp c_4)]; exact ⟨rfl, ri_0⟩)
