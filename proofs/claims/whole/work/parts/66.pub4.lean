/-- along -/
abbrev alG (cf : Nat → Nat → Int32) (k sh t j : Int32) : Prop := (0 ≤ k ∧ k ≤ 15) ∧ (1 ≤ sh ∧ sh ≤ 100) ∧ ¬ cf 11 (pI k) = 0 ∧ (0 ≤ j ∧ j ≤ 3) ∧ 0 ≤ t
def alN (cf : Nat → Nat → Int32) (r : Nat → Int64) (q : Nat × Nat × Nat × Nat) (k j t : Nat) : Int := mvS (r j).toInt ((cf 12 (4 * k + j)).toInt - (r j).toInt) (min (gnN q.2.1 q.2.2.1 q.1 t) q.2.2.2) q.2.2.2
def alS (k sh t j : Int32) (cf : Nat → Nat → Int32) (r : Nat → Int64) : St := (if alG cf k sh t j then (if pI t ≤ (plR cf (pI k) (pI sh) r).1 then .int (Int64.ofInt (alN cf r (plR cf (pI k) (pI sh) r) (pI k) (pI j) (pI t))).toInt32 else .int (-2000000)) else .int (-2000000), cf, r)
theorem t_l {t : Int32} (h : 0 ≤ t) : t.toInt64 = lN (pI t) := by
  have a := i32le.mp h
  have b := i32b t
  have e : (0 : Int32).toInt = 0 := rfl
  have e2 : t = nI (pI t) := i32x (by unfold pI; rw [nIT (by omega)]; omega)
  exact (congrArg Int32.toInt64 e2).trans (nI_l (by unfold pI; omega))
-- along
set_option maxRecDepth 100000 in
set_option maxHeartbeats 4000000 in
theorem ct_X10_along (l : Launch) (E : EE) (w : Wd) (a : Nat) (r : Nat → Int64) (k sh t j : Int32) (hlo : E.2.2 ≤ wN (sRow w a r)) (hL : LayR w a) (hr : FA r) (hc : CfR (cfW w a)) : Ct l E yX10_along cX10_along 5 (some .int) ({ frames := 4, cells := 0, slots := 0, locals := 116 } : Room) [.ref a, .int k, .int sh, .int t, .int j] (sRow w a r) 0 0 (PS a w (alS k sh t j (cfW w a) r)) := by
  refine ct_in (il := il_X10_along) (by decide) dk_X10_along (Nat.le_of_ble_eq_true rfl) hlo ?_
  intro X h hq

  refine g_iload_n h (i := 0) rfl rfl ?_
  refine g_callSx h hq (i := 1) rfl ms_X10_165 (ct_X10_isPose l E _ k hlo) rfl rfl ⟨rfl, rfl, Nat.le_of_ble_eq_true rfl, Nat.le_of_ble_eq_true rfl⟩ (Nat.le_of_ble_eq_true rfl) ⟨Nat.zero_le _, Nat.zero_le _⟩ ?_
  refine g_if_eq h (i := 2) 39 rfl rfl (fun c_4 => ?_) (fun c_4 => ?_)
  · skip
    refine g_ldc h (i := 19) rfl k_X10_101 ?_
    exact g_iret hq h (i := 20) rfl (by unfold alS; rw [if_neg (fun q => bI_0.mp c_4 q.1)]; exact ⟨rfl, ri_0⟩)
  · skip
    refine g_iload_n h (i := 3) rfl rfl ?_
    refine g_iconst h (i := 4) rfl (v := 1) (by rfl) ?_
    refine g_bipush h (i := 5) rfl (v := 100) (by rfl) ?_
    refine g_callSx h hq (i := 6) rfl ms_X10_82 (ct_X10_in l E _ sh (1) (100) hlo) rfl rfl ⟨rfl, rfl, Nat.le_of_ble_eq_true rfl, Nat.le_of_ble_eq_true rfl⟩ (Nat.le_of_ble_eq_true rfl) ⟨Nat.zero_le _, Nat.zero_le _⟩ ?_
    refine g_if_eq h (i := 7) 39 rfl rfl (fun c_14 => ?_) (fun c_14 => ?_)
    · skip
      refine g_ldc h (i := 19) rfl k_X10_101 ?_
      exact g_iret hq h (i := 20) rfl (by unfold alS; rw [if_neg (fun q => bI_0.mp c_14 q.2.1)]; exact ⟨rfl, ri_0⟩)
    · skip
      refine g_aload_n h (i := 8) rfl rfl ?_
      refine g_getR h (i := 9) rfl fl_X10_44 (fun _ _ _ => rfl) (lk_R hL) (lr_isTaught hL) ?_
      refine g_iload_n h (i := 10) rfl rfl ?_
      refine g_zald h (i := 11) rfl (lq_isTaught hL) (jvp (bI_1.mp c_4) (by decide) (by omega)) ?_
      refine g_eqi (wI w (a + 11) _) rfl ?_
      refine g_if_eq h (i := 12) 39 rfl rfl (fun c_23 => ?_) (fun c_23 => ?_)
      · skip
        refine g_ldc h (i := 19) rfl k_X10_101 ?_
        exact g_iret hq h (i := 20) rfl (by unfold alS; rw [if_neg (fun q => q.2.2.1 (show cfW w a 11 (pI k) = 0 from c_23))]; exact ⟨rfl, ri_0⟩)
      · skip
        refine g_aload_n h (i := 13) rfl rfl ?_
        refine g_iload h (i := 14) rfl rfl ?_
        refine g_callVx h hq (i := 15) rfl mv_X10_86 cls10 (lk_R hL) (ct_X10_isJoint l E _ a j hlo) rfl rfl ⟨rfl, rfl, Nat.le_of_ble_eq_true rfl, Nat.le_of_ble_eq_true rfl⟩ (Nat.le_of_ble_eq_true rfl) ⟨Nat.zero_le _, Nat.zero_le _⟩ ?_
        refine g_if_eq h (i := 16) 39 rfl rfl (fun c_32 => ?_) (fun c_32 => ?_)
        · skip
          refine g_ldc h (i := 19) rfl k_X10_101 ?_
          exact g_iret hq h (i := 20) rfl (by unfold alS; rw [if_neg (fun q => bI_0.mp c_32 q.2.2.2.1)]; exact ⟨rfl, ri_0⟩)
        · skip
          refine g_iload_n h (i := 17) rfl rfl ?_
          refine g_if_ge h (i := 18) 42 rfl rfl (fun c_36 => ?_) (fun c_36 => ?_)
          · skip
            obtain ⟨hk, hk3⟩ := jx (M := 15) (bI_1.mp c_4) (by decide)
            obtain ⟨hj, hj3⟩ := jx (M := 3) (bI_1.mp c_32) (by decide)
            obtain ⟨hs, hs2⟩ := shx (bI_1.mp c_14)
            have hpl := pls_h (w := w) l E hlo hL hr hc (k := pI k) (sh := pI sh) (by omega) hs2
            obtain ⟨q, hqe⟩ : ∃ q, q = plR (cfW w a) (pI k) (pI sh) r := ⟨_, rfl⟩
            have hpo := plR_ok hc hr (k := pI k) (sh := pI sh) (by omega) hs2
            have hpz := pl_z (rs := fun j => pI (cfW w a 8 j)) (pv := pvN (fun j => pI (cfW w a 7 j)) (pI sh)) (wd := wdN (fun j => (r j).toInt32) (fun j => cfW w a 12 (4 * pI k + j))) (w0 := 1) 4
            have hp1 : 0 < q.2.2.2 := by
              by_cases z : q.1 = 0
              · have e := hpz (by rw [hqe] at z; exact z)
                have e2 : q = (0, 1, 1, 1) := hqe.trans e
                rw [e2]; exact Nat.one_pos
              · rw [hqe] at z ⊢; exact hpo.2.2.2 (by omega)
            rw [← hqe] at hpl hpo
            have ht : t.toInt64 = lN (pI t) := t_l c_36
            have htb : pI t < 2147483648 := by unfold pI; have := i32b t; omega
            refine g_aload_n h (i := 21) rfl rfl ?_
            refine g_iload_n h (i := 22) rfl rfl ?_
            refine g_iload_n h (i := 23) rfl rfl ?_
            rw [← hk, ← hs] at hpl
            refine g_callVp (w0 := w) h hq (i := 24) rfl mv_X10_196 cls10 (lk_R hL) (hpl) rfl rfl ⟨rfl, rfl, Nat.le_of_ble_eq_true rfl, Nat.le_of_ble_eq_true rfl⟩ (Nat.le_of_ble_eq_true rfl) ⟨Nat.zero_le _, Nat.zero_le _⟩ (fun r45 w45 hp45 => ?_)
            obtain ⟨rfl, J, rfl, hJ⟩ := hp45
            have m := hJ.2.1 (pI j) (by omega)
            have hle : lg_cmp (lN (pI t)) (lN q.1) ≤ 0 ↔ pI t ≤ (plR (cfW w a) (pI k) (pI sh) r).1 := by rw [← hqe]; exact (lg_cmp_le _ _).trans (pk_lLE (by omega) (by omega))
            refine g_iload_n h (i := 25) rfl rfl ?_
            refine g_i2l h (i := 26) rfl ?_
            refine g_eql (lN (pI t)) ht ?_
            refine g_aload_n h (i := 27) rfl rfl ?_
            refine g_getJ h (i := 28) rfl fl_X10_178 (fun _ _ _ => rfl) (lk_R hL) ?_
            refine g_eql (lN q.1) ((sRow_o (by omega)).trans hJ.2.2.1) ?_
            refine g_lcmp h (i := 29) rfl ?_
            refine g_if_le h (i := 30) 63 rfl rfl (fun c_55 => ?_) (fun c_55 => ?_)
            · skip
              refine g_aload_n h (i := 33) rfl rfl ?_
              refine g_getR h (i := 34) rfl fl_X10_68 (fun _ _ _ => rfl) (lk_R hL) (lr_planFrom hL) ?_
              refine g_iload h (i := 35) rfl rfl ?_
              refine g_lald h (i := 36) rfl (lq_planFrom hL) (jvp (bI_1.mp c_32) (by decide) (by omega)) ?_
              refine g_eql (r (pI j)) ((sRow_o (by omega)).trans m.1) ?_
              refine g_aload_n h (i := 37) rfl rfl ?_
              refine g_getR h (i := 38) rfl fl_X10_71 (fun _ _ _ => rfl) (lk_R hL) (lr_planTo hL) ?_
              refine g_iload h (i := 39) rfl rfl ?_
              refine g_lald h (i := 40) rfl (lq_planTo hL) (jvp (bI_1.mp c_32) (by decide) (by omega)) ?_
              refine g_eql (cfW w a 12 (4 * pI k + pI j)).toInt64 ((sRow_o (by omega)).trans m.2) ?_
              refine g_aload_n h (i := 41) rfl rfl ?_
              refine g_getJ h (i := 42) rfl fl_X10_182 (fun _ _ _ => rfl) (lk_R hL) ?_
              refine g_eql (lN q.2.1) ((sRow_o (by omega)).trans hJ.2.2.2.2.2) ?_
              refine g_aload_n h (i := 43) rfl rfl ?_
              refine g_getJ h (i := 44) rfl fl_X10_185 (fun _ _ _ => rfl) (lk_R hL) ?_
              refine g_eql (lN q.2.2.1) ((sRow_o (by omega)).trans hJ.2.2.2.2.1) ?_
              refine g_aload_n h (i := 45) rfl rfl ?_
              refine g_getJ h (i := 46) rfl fl_X10_178 (fun _ _ _ => rfl) (lk_R hL) ?_
              refine g_eql (lN q.1) ((sRow_o (by omega)).trans hJ.2.2.1) ?_
              refine g_aload_n h (i := 47) rfl rfl ?_
              refine g_getJ h (i := 48) rfl fl_X10_188 (fun _ _ _ => rfl) (lk_R hL) ?_
              refine g_eql (lN q.2.2.2) ((sRow_o (by omega)).trans hJ.2.2.2.1) ?_
              refine g_iload_n h (i := 49) rfl rfl ?_
              refine g_i2l h (i := 50) rfl ?_
              refine g_eql (lN (pI t)) ht ?_
              have hle2 : pI t ≤ q.1 := by rw [hqe]; exact hle.mp c_55
              refine g_callSx h hq (i := 51) rfl ms_X10_200 (ct_X10_stateBehind l E _ (r (pI j)) (cfW w a 12 (4 * pI k + pI j)).toInt64 q.2.1 q.2.2.1 q.1 q.2.2.2 (pI t) hlo hpo.2.1 (by omega) hle2 hp1 (by omega) ((fr_st (by omega)).mp (hr (pI j))) (by rw [i_l]; exact hc.2.2.2.1 _ (by omega))) rfl rfl ⟨rfl, rfl, Nat.le_of_ble_eq_true rfl, Nat.le_of_ble_eq_true rfl⟩ (Nat.le_of_ble_eq_true rfl) ⟨Nat.zero_le _, Nat.zero_le _⟩ ?_
              refine g_l2i h (i := 52) rfl ?_
              refine g_eqi (Int64.ofInt (alN (cfW w a) r (plR (cfW w a) (pI k) (pI sh) r) (pI k) (pI j) (pI t))).toInt32 (by unfold alN; rw [← hqe, i_l]) ?_
              exact g_iret hq h (i := 53) rfl (by unfold alS; rw [if_pos ⟨bI_1.mp c_4, bI_1.mp c_14, (show ¬ cfW w a 11 (pI k) = 0 from c_23), bI_1.mp c_32, c_36⟩, if_pos (hle.mp c_55)]; exact ⟨rfl, ri_RS (RS_pl hJ)⟩)
            · skip
              refine g_ldc h (i := 31) rfl k_X10_101 ?_
              refine g_goto h (i := 32) 99 rfl rfl ?_
              exact g_iret hq h (i := 53) rfl (by unfold alS; rw [if_pos ⟨bI_1.mp c_4, bI_1.mp c_14, (show ¬ cfW w a 11 (pI k) = 0 from c_23), bI_1.mp c_32, c_36⟩, if_neg (fun z => c_55 (hle.mpr z))]; exact ⟨rfl, ri_RS (RS_pl hJ)⟩)
          · skip
            refine g_ldc h (i := 19) rfl k_X10_101 ?_
            exact g_iret hq h (i := 20) rfl (by unfold alS; rw [if_neg (fun q => c_36 q.2.2.2.2)]; exact ⟨rfl, ri_0⟩)
/-- tip -/
def tpC (cf : Nat → Nat → Int32) (r : Nat → Int64) : UInt64 × UInt64 := (tpX (cf 3) (cf 4) (fun j => (r j).toInt32) 4, tpY (cf 3) (cf 4) (fun j => (r j).toInt32) 4)
theorem okA_r {cf : Nat → Nat → Int32} {r : Nat → Int64} (hc : CfA cf) (hr : FA r) : okA (cf 3) (cf 4) (fun j => (r j).toInt32) := okA_of hc (fun j hj => by rw [(l_sm ((fr_st hj).mp (hr j))).2]; exact (fr_st hj).mp (hr j))
theorem tpC_1 (cf : Nat → Nat → Int32) (r : Nat → Int64) : (tpC cf r).1 = tpX (cf 3) (cf 4) (fun j => (r j).toInt32) 4 := by unfold tpC; rfl
theorem tpC_2 (cf : Nat → Nat → Int32) (r : Nat → Int64) : (tpC cf r).2 = tpY (cf 3) (cf 4) (fun j => (r j).toInt32) 4 := by unfold tpC; rfl
theorem tpC_fg {cf : Nat → Nat → Int32} {r : Nat → Int64} (hc : CfA cf) (hr : FA r) : (FG 52 1120 (tpC cf r).1 ∧ NZ (tpC cf r).1) ∧ (FG 52 1120 (tpC cf r).2 ∧ NZ (tpC cf r).2) := by
  have x := fg_tpX (okA_r hc hr) 4 (by omega)
  have y := fg_tpY (okA_r hc hr) 4 (by omega)
  rw [tpC_1, tpC_2]
  exact ⟨⟨x.1.mono (by omega) (by omega), x.2⟩, ⟨y.1.mono (by omega) (by omega), y.2⟩⟩
def tiA (what : Int32) (cf : Nat → Nat → Int32) (r : Nat → Int64) : Int64 := if 0 ≤ what ∧ what ≤ 1 then (if what = 0 then (tpC cf r).1.toInt64 else (tpC cf r).2.toInt64) else -1
def tiS (what : Int32) (cf : Nat → Nat → Int32) (r : Nat → Int64) : St := (.long (tiA what cf r), cf, r)
set_option maxRecDepth 100000 in
theorem ct_tip (l : Launch) (E : EE) {w : Wd} {a : Nat} {r : Nat → Int64} (hlo : E.2.2 ≤ wN (sRow w a r)) (hL : LayR w a) (hr : FA r) (hc : CfA (cfW w a)) : Ct l E yX10_findTip cX10_findTip 6 none ({ frames := 1, cells := 0, slots := 0, locals := 31 } : Room) [.ref a] (sRow w a r) 0 0 (Px none (sRow (tipW w a 20 (tpC (cfW w a) r).1 (tpC (cfW w a) r).2) a r)) := by
  rw [tpC_1, tpC_2]
  have h := ct_X10_findTip l E (sRow w a r) a (a + 1) (a + 4) (a + 3) (cfW w a 3) (cfW w a 4) (fun j => (r j).toInt32) hlo hL.1 (lr_row hL) (lr_slides hL) (lr_length hL) (lq_row hL) (lq_slides hL) (lq_length hL) (fun _ _ => rfl) (fun _ _ => rfl) (fun j hj => (sRow_j w a j r).trans (l_sm ((fr_st hj).mp (hr j))).1) (okA_r hc hr)
  rw [tipW_sRow] at h
  exact h
theorem ps_RS {a : Nat} {w w2 : Wd} {q : Option Value} {v : Value} {r : Nat → Int64} (h : ∃ w3, RS a w w3 ∧ q = some v ∧ w2 = sRow w3 a r) : PS a w (v, cfW w a, r) q w2 := by
  obtain ⟨w3, h1, rfl, rfl⟩ := h
  exact ⟨rfl, ri_RS h1⟩
theorem RS_tip (w : Wd) (a : Nat) (x y : UInt64) : RS a w (tipW w a 20 x y) := ⟨wJ w, up2 (up2 (wD w) a 20 x) a 21 y, rfl, fun p _ _ _ p4 _ => rfl, fun p p1 => by rw [up2_f p1, up2_f p1]⟩
theorem tipW_x (w : Wd) (a : Nat) (x y : UInt64) : wD (tipW w a 20 x y) a 20 = x := (up2_k (by omega)).trans (up2_s _ _ _ _)
theorem tipW_y (w : Wd) (a : Nat) (x y : UInt64) : wD (tipW w a 20 x y) a 21 = y := up2_s _ _ _ _
-- tip
set_option maxRecDepth 100000 in
set_option maxHeartbeats 4000000 in
theorem ct_X10_tip (l : Launch) (E : EE) (w : Wd) (a : Nat) (r : Nat → Int64) (what : Int32) (hlo : E.2.2 ≤ wN (sRow w a r)) (hL : LayR w a) (hr : FA r) (hc : CfA (cfW w a)) : Ct l E yX10_tip cX10_tip 2 (some .long) ({ frames := 2, cells := 0, slots := 0, locals := 56 } : Room) [.ref a, .int what] (sRow w a r) 0 0 (fun q w2 => ∃ w3, RS a w w3 ∧ q = some (.long (tiA what (cfW w a) r)) ∧ w2 = sRow w3 a r) := by
  refine ct_in (il := il_X10_tip) (by decide) dk_X10_tip (Nat.le_of_ble_eq_true rfl) hlo ?_
  intro X h hq

  obtain ⟨x, hx⟩ : ∃ x, x = (tpC (cfW w a) r).1 := ⟨_, rfl⟩
  obtain ⟨z, hz⟩ : ∃ z, z = (tpC (cfW w a) r).2 := ⟨_, rfl⟩
  have ht := ct_tip l E hlo hL hr hc
  have hfg := tpC_fg hc hr
  rw [← hx, ← hz] at ht hfg
  have e0 : (0 ≤ what ∧ what ≤ 1) → what = 0 → tiA what (cfW w a) r = x.toInt64 := fun g q => by unfold tiA; rw [if_pos g, if_pos q, hx]
  have e1 : (0 ≤ what ∧ what ≤ 1) → ¬ what = 0 → tiA what (cfW w a) r = z.toInt64 := fun g q => by unfold tiA; rw [if_pos g, if_neg q, hz]
  have e2 : ¬ (0 ≤ what ∧ what ≤ 1) → tiA what (cfW w a) r = -1 := fun g => by unfold tiA; rw [if_neg g]
  refine g_iload_n h (i := 0) rfl rfl ?_
  refine g_iconst h (i := 1) rfl (v := 0) (by rfl) ?_
  refine g_iconst h (i := 2) rfl (v := 1) (by rfl) ?_
  refine g_callSx h hq (i := 3) rfl ms_X10_82 (ct_X10_in l E _ what (0) (1) hlo) rfl rfl ⟨rfl, rfl, Nat.le_of_ble_eq_true rfl, Nat.le_of_ble_eq_true rfl⟩ (Nat.le_of_ble_eq_true rfl) ⟨Nat.zero_le _, Nat.zero_le _⟩ ?_
  refine g_if_ne h (i := 4) 13 rfl rfl (fun c_6 => ?_) (fun c_6 => ?_)
  · skip
    refine g_aload_n h (i := 7) rfl rfl ?_
    refine g_callVn h hq (i := 8) rfl mv_X10_155 cls10 (lk_R hL) (ht) rfl rfl ⟨rfl, rfl, Nat.le_of_ble_eq_true rfl, Nat.le_of_ble_eq_true rfl⟩ (Nat.le_of_ble_eq_true rfl) ⟨Nat.zero_le _, Nat.zero_le _⟩ ?_
    refine g_iload_n h (i := 9) rfl rfl ?_
    refine g_if_ne h (i := 10) 28 rfl rfl (fun c_18 => ?_) (fun c_18 => ?_)
    · skip
      refine g_aload_n h (i := 14) rfl rfl ?_
      refine g_getD h (i := 15) rfl fl_X10_136 (fun _ _ _ => rfl) (lk_R hL) ?_
      refine g_eqd z (tipW_y _ _ _ _) ?_
      refine g_callSx h hq (i := 16) rfl ms_X10_158 (ct_X10_bitsOf l E _ z hlo hfg.2.1 hfg.2.2) rfl rfl ⟨rfl, rfl, Nat.le_of_ble_eq_true rfl, Nat.le_of_ble_eq_true rfl⟩ (Nat.le_of_ble_eq_true rfl) ⟨Nat.zero_le _, Nat.zero_le _⟩ ?_
      exact g_lret hq h (i := 17) rfl (⟨_, RS_tip w a x z, by rw [e1 (bI_1.mp c_6) c_18], rfl⟩)
    · skip
      refine g_aload_n h (i := 11) rfl rfl ?_
      refine g_getD h (i := 12) rfl fl_X10_132 (fun _ _ _ => rfl) (lk_R hL) ?_
      refine g_eqd x (tipW_x _ _ _ _) ?_
      refine g_goto h (i := 13) 32 rfl rfl ?_
      refine g_callSx h hq (i := 16) rfl ms_X10_158 (ct_X10_bitsOf l E _ x hlo hfg.1.1 hfg.1.2) rfl rfl ⟨rfl, rfl, Nat.le_of_ble_eq_true rfl, Nat.le_of_ble_eq_true rfl⟩ (Nat.le_of_ble_eq_true rfl) ⟨Nat.zero_le _, Nat.zero_le _⟩ ?_
      exact g_lret hq h (i := 17) rfl (⟨_, RS_tip w a x z, by rw [e0 (bI_1.mp c_6) c_18], rfl⟩)
  · skip
    refine g_ldc2 h (i := 5) rfl k_X10_80 ?_
    exact g_lret hq h (i := 6) rfl (⟨w, RS_r a w, by rw [e2 (bI_0.mp c_6)], rfl⟩)
/-- sine -/
def snS (u : Int32) (cf : Nat → Nat → Int32) (r : Nat → Int64) : St := (.long (sV u.toInt).toInt64, cf, r)
-- sine
set_option maxRecDepth 100000 in
set_option maxHeartbeats 4000000 in
theorem ct_X10_sine (l : Launch) (E : EE) (w : Wd) (a : Nat) (r : Nat → Int64) (u : Int32) (hlo : E.2.2 ≤ wN (sRow w a r)) (hL : LayR w a) : Ct l E yX10_sine cX10_sine 2 (some .long) ({ frames := 1, cells := 0, slots := 0, locals := 31 } : Room) [.ref a, .int u] (sRow w a r) 0 0 (PS a w (snS u (cfW w a) r)) := by
  refine ct_in (il := il_X10_sine) (by decide) dk_X10_sine (Nat.le_of_ble_eq_true rfl) hlo ?_
  intro X h hq

  refine g_iload_n h (i := 0) rfl rfl ?_
  refine g_i2l h (i := 1) rfl ?_
  refine g_callSx h hq (i := 2) rfl ms_X10_141 (ct_X10_sineOf l E _ u.toInt64 hlo) rfl rfl ⟨rfl, rfl, Nat.le_of_ble_eq_true rfl, Nat.le_of_ble_eq_true rfl⟩ (Nat.le_of_ble_eq_true rfl) ⟨Nat.zero_le _, Nat.zero_le _⟩ ?_
  rw [i_l]
  refine g_callSx h hq (i := 3) rfl ms_X10_158 (ct_X10_bitsOf l E _ (sV u.toInt) hlo ((fg_sV _).1.mono (by omega) (by omega)) (fg_sV _).2) rfl rfl ⟨rfl, rfl, Nat.le_of_ble_eq_true rfl, Nat.le_of_ble_eq_true rfl⟩ (Nat.le_of_ble_eq_true rfl) ⟨Nat.zero_le _, Nat.zero_le _⟩ ?_
  exact g_lret hq h (i := 4) rfl (⟨rfl, ri_0⟩)
