theorem jmul {k j : Int32} (n : Nat) (h : k = nI (pI k)) (h2 : j = nI (pI j)) : nI n * k + j = nI (n * pI k + pI j) := by
  have e : nI n * k = nI (n * pI k) := (congrArg (fun z => nI n * z) h).trans (pk_mul n _)
  have e2 : nI n * k + j = nI (n * pI k) + j := congrArg (fun z => z + j) e
  exact e2.trans (jadd _ h2)
def scS (t i on : Int32) (cf : Nat → Nat → Int32) (r : Nat → Int64) : St := if (1 ≤ t ∧ t ≤ 100000) ∧ (0 ≤ i ∧ i ≤ 7) then (if cf 0 16 = 40 then (.int (-4), cf, r) else (.int (cf 0 16 + 1), up2 (up2 (up2 (up2 cf 16 (pI (cf 0 16)) t) 17 (pI (cf 0 16)) i) 18 (pI (cf 0 16)) on) 0 16 (cf 0 16 + 1), r)) else (.int (-2), cf, r)
theorem c60 {x c : Int32} {m : Nat} (h : isI x m) (hm : m < 2147483648) (hc : c = nI m) (hn : ¬ x = c) : pI x < m := by
  have := h.2
  have : pI x ≠ m := fun q => hn (by rw [h.1, q, hc])
  omega
-- script
set_option maxRecDepth 100000 in
set_option maxHeartbeats 4000000 in
theorem ct_X10_script (l : Launch) (E : EE) (w : Wd) (a : Nat) (r : Nat → Int64) (t i on : Int32) (hlo : E.2.2 ≤ wN (sRow w a r)) (hL : LayR w a) (hc : isI (wI w a 16) 40) (hon : on = 0 ∨ on = 1) : Ct l E yX10_script cX10_script 4 (some .int) ({ frames := 1, cells := 0, slots := 0, locals := 22 } : Room) [.ref a, .int t, .int i, .int on] (sRow w a r) 0 0 (PS a w (scS t i on (cfW w a) r)) := by
  refine ct_in (il := il_X10_script) (by decide) dk_X10_script (Nat.le_of_ble_eq_true rfl) hlo ?_
  intro X h hq

  refine g_iload_n h (i := 0) rfl rfl ?_
  refine g_iconst h (i := 1) rfl (v := 1) (by rfl) ?_
  refine g_ldc h (i := 2) rfl k_X10_90 ?_
  refine g_callSx h hq (i := 3) rfl ms_X10_82 (ct_X10_in l E _ t (1) (100000) hlo) rfl rfl ⟨rfl, rfl, Nat.le_of_ble_eq_true rfl, Nat.le_of_ble_eq_true rfl⟩ (Nat.le_of_ble_eq_true rfl) ⟨Nat.zero_le _, Nat.zero_le _⟩ ?_
  refine g_if_eq h (i := 4) 20 rfl rfl (fun c_7 => ?_) (fun c_7 => ?_)
  · skip
    refine g_bipush h (i := 10) rfl (v := -2) (by rfl) ?_
    exact g_iret hq h (i := 11) rfl (by unfold scS; rw [if_neg (fun q => bI_0.mp c_7 q.1)]; exact ⟨rfl, ri_0⟩)
  · skip
    refine g_iload_n h (i := 5) rfl rfl ?_
    refine g_iconst h (i := 6) rfl (v := 0) (by rfl) ?_
    refine g_bipush h (i := 7) rfl (v := 7) (by rfl) ?_
    refine g_callSx h hq (i := 8) rfl ms_X10_82 (ct_X10_in l E _ i (0) (7) hlo) rfl rfl ⟨rfl, rfl, Nat.le_of_ble_eq_true rfl, Nat.le_of_ble_eq_true rfl⟩ (Nat.le_of_ble_eq_true rfl) ⟨Nat.zero_le _, Nat.zero_le _⟩ ?_
    refine g_if_ne h (i := 9) 23 rfl rfl (fun c_17 => ?_) (fun c_17 => ?_)
    · skip
      refine g_aload_n h (i := 12) rfl rfl ?_
      refine g_getI h (i := 13) rfl fl_X10_211 (fun _ _ _ => rfl) (lk_R hL) ?_
      refine g_eqi (wI w a 16) (rfl) ?_
      refine g_bipush h (i := 14) rfl (v := 40) (by rfl) ?_
      refine g_icmp_ne h (i := 15) 35 rfl rfl (fun c_29 => ?_) (fun c_29 => ?_)
      · skip
        have hk := c60 hc (by omega) (by rfl : (40 : Int32) = nI 40) c_29
        have hv : vp_in (wI w a 16) 40 := by rw [hc.1]; exact vp_in_nI hk (by omega)
        refine g_aload_n h (i := 18) rfl rfl ?_
        refine g_getR h (i := 19) rfl fl_X10_59 (fun _ _ _ => rfl) (lk_R hL) (lr_scriptTick hL) ?_
        refine g_aload_n h (i := 20) rfl rfl ?_
        refine g_getI h (i := 21) rfl fl_X10_211 (fun _ _ _ => rfl) (lk_R hL) ?_
        refine g_eqi (wI w a 16) (rfl) ?_
        refine g_iload_n h (i := 22) rfl rfl ?_
        refine g_iast h (i := 23) rfl (lq_scriptTick hL) (hv) ?_
        refine g_aload_n h (i := 24) rfl rfl ?_
        refine g_getR h (i := 25) rfl fl_X10_62 (fun _ _ _ => rfl) (lk_R hL) (lr_scriptInput hL) ?_
        refine g_aload_n h (i := 26) rfl rfl ?_
        refine g_getI h (i := 27) rfl fl_X10_211 (fun _ _ _ => rfl) (lk_R hL) ?_
        refine g_eqi (wI w a 16) (up2_a (by omega)) ?_
        refine g_iload_n h (i := 28) rfl rfl ?_
        refine g_iast h (i := 29) rfl (lq_scriptInput hL) (hv) ?_
        refine g_aload_n h (i := 30) rfl rfl ?_
        refine g_getR h (i := 31) rfl fl_X10_65 (fun _ _ _ => rfl) (lk_R hL) (lr_scriptOn hL) ?_
        refine g_aload_n h (i := 32) rfl rfl ?_
        refine g_getI h (i := 33) rfl fl_X10_211 (fun _ _ _ => rfl) (lk_R hL) ?_
        refine g_eqi (wI w a 16) ((up2_a (by omega)).trans (up2_a (by omega))) ?_
        refine g_iload_n h (i := 34) rfl rfl ?_
        refine g_zast h (i := 35) rfl (lq_scriptOn hL) (hv) (by rcases hon with q | q <;> (rw [q]; rfl)) ?_
        refine g_aload_n h (i := 36) rfl rfl ?_
        refine g_dup h (i := 37) rfl rfl ?_
        refine g_getI h (i := 38) rfl fl_X10_211 (fun _ _ _ => rfl) (lk_R hL) ?_
        refine g_eqi (wI w a 16) ((up2_a (by omega)).trans ((up2_a (by omega)).trans (up2_a (by omega)))) ?_
        refine g_iconst h (i := 39) rfl (v := 1) (by rfl) ?_
        refine g_iadd h (i := 40) rfl ?_
        refine g_putI_0 h (i := 41) rfl fl_X10_211 nf_10_16 (fun _ _ _ => rfl) (lk_R hL) (rfl) (by rfl) ?_
        refine g_aload_n h (i := 42) rfl rfl ?_
        refine g_getI h (i := 43) rfl fl_X10_211 (fun _ _ _ => rfl) (lk_R hL) ?_
        refine g_eqi (wI w a 16 + 1) (up2_s _ _ _ _) ?_
        exact g_iret hq h (i := 44) rfl (by unfold scS; rw [if_pos ⟨bI_1.mp c_7, bI_1.mp c_17⟩, if_neg (show ¬ cfW w a 0 16 = 40 from c_29)]; exact ⟨rfl, ri_I 0 16 (ri_I 18 _ (ri_I 17 _ (ri_I 16 _ ri_0)))⟩)
      · skip
        refine g_bipush h (i := 16) rfl (v := -4) (by rfl) ?_
        exact g_iret hq h (i := 17) rfl (by unfold scS; rw [if_pos ⟨bI_1.mp c_7, bI_1.mp c_17⟩, if_pos (show cfW w a 0 16 = 40 from c_29)]; exact ⟨rfl, ri_0⟩)
    · skip
      refine g_bipush h (i := 10) rfl (v := -2) (by rfl) ?_
      exact g_iret hq h (i := 11) rfl (by unfold scS; rw [if_neg (fun q => bI_0.mp c_17 q.2)]; exact ⟨rfl, ri_0⟩)
def lnB (o x y : Int32) : Int32 := if o = 0 then bI ((0 ≤ x ∧ x ≤ 15) ∧ (1 ≤ y ∧ y ≤ 100)) else if o = 1 then bI (0 ≤ x ∧ x ≤ 1000) else if o = 2 ∨ o = 3 then bI ((0 ≤ x ∧ x ≤ 7) ∧ (0 ≤ y ∧ y ≤ 1)) else if o = 4 ∨ o = 5 ∨ o = 11 then bI (0 ≤ x ∧ x ≤ 59) else if o = 7 ∨ o = 8 ∨ o = 9 then bI (0 ≤ x ∧ x ≤ 7) else bI (o = 6 ∨ o = 10)
theorem lnB_n (o x y : Int32) : narrow .boolean (.int (lnB o x y)) = .int (lnB o x y) := by
  unfold lnB
  repeat' split
  all_goals exact bI_n _
theorem n12e (o : Int32) : (o = 0 ∨ o = 1 ∨ o = 2 ∨ o = 3 ∨ o = 4 ∨ o = 5 ∨ o = 6 ∨ o = 7 ∨ o = 8 ∨ o = 9 ∨ o = 10 ∨ o = 11) ∨ (o.toInt < 0 ∨ 11 < o.toInt) := by
  by_cases h : o.toInt < 0 ∨ 11 < o.toInt
  · exact Or.inr h
  · left
    have e : o = nI (pI o) := i32x (by unfold pI; rw [nIT (by omega)]; omega)
    have l : pI o ≤ 11 := by unfold pI; omega
    rcases n12 l with n | n | n | n | n | n | n | n | n | n | n | n
    all_goals (rw [n] at e; rw [e]; decide)
-- is a line right
set_option maxRecDepth 100000 in
set_option maxHeartbeats 4000000 in
theorem ct_X10_isLineRight (l : Launch) (E : EE) (w : Wd) (o x y : Int32) (hlo : E.2.2 ≤ wN w) : Ct l E yX10_isLineRight cX10_isLineRight 3 (some .boolean) ({ frames := 2, cells := 0, slots := 0, locals := 42 } : Room) [.int o, .int x, .int y] w 0 0 (Px (some (.int (lnB o x y))) w) := by
  refine ct_in (il := il_X10_isLineRight) (by decide) dk_X10_isLineRight (Nat.le_of_ble_eq_true rfl) hlo ?_
  intro X h hq

  rcases n12e o with hsw | hsw
  · skip
    refine g_iload_n h (i := 0) rfl rfl ?_
    rcases hsw with e | e | e | e | e | e | e | e | e | e | e | e
    · skip
      subst e
      refine g_tin h (i := 1) 64 rfl (by decide) (by decide) rfl rfl ?_
      refine g_iload_n h (i := 2) rfl rfl ?_
      refine g_callSx h hq (i := 3) rfl ms_X10_165 (ct_X10_isPose l E _ x hlo) rfl rfl ⟨rfl, rfl, Nat.le_of_ble_eq_true rfl, Nat.le_of_ble_eq_true rfl⟩ (Nat.le_of_ble_eq_true rfl) ⟨Nat.zero_le _, Nat.zero_le _⟩ ?_
      refine g_if_eq h (i := 4) 85 rfl rfl (fun c_68 => ?_) (fun c_68 => ?_)
      · skip
        refine g_iconst h (i := 12) rfl (v := 0) (by rfl) ?_
        exact g_zret hq h (i := 13) rfl (rfl) (⟨by unfold lnB; rw [if_pos (rfl)]; exact rF (fun q => bI_0.mp c_68 q.1), rfl⟩)
      · skip
        refine g_iload_n h (i := 5) rfl rfl ?_
        refine g_iconst h (i := 6) rfl (v := 1) (by rfl) ?_
        refine g_bipush h (i := 7) rfl (v := 100) (by rfl) ?_
        refine g_callSx h hq (i := 8) rfl ms_X10_82 (ct_X10_in l E _ y (1) (100) hlo) rfl rfl ⟨rfl, rfl, Nat.le_of_ble_eq_true rfl, Nat.le_of_ble_eq_true rfl⟩ (Nat.le_of_ble_eq_true rfl) ⟨Nat.zero_le _, Nat.zero_le _⟩ ?_
        refine g_if_eq h (i := 9) 85 rfl rfl (fun c_78 => ?_) (fun c_78 => ?_)
        · skip
          refine g_iconst h (i := 12) rfl (v := 0) (by rfl) ?_
          exact g_zret hq h (i := 13) rfl (rfl) (⟨by unfold lnB; rw [if_pos (rfl)]; exact rF (fun q => bI_0.mp c_78 q.2), rfl⟩)
        · skip
          refine g_iconst h (i := 10) rfl (v := 1) (by rfl) ?_
          refine g_goto h (i := 11) 86 rfl rfl ?_
          exact g_zret hq h (i := 13) rfl (rfl) (⟨by unfold lnB; rw [if_pos (rfl)]; exact rT ⟨bI_1.mp c_68, bI_1.mp c_78⟩, rfl⟩)
    · skip
      subst e
      refine g_tin h (i := 1) 87 rfl (by decide) (by decide) rfl rfl ?_
      refine g_iload_n h (i := 14) rfl rfl ?_
      refine g_iconst h (i := 15) rfl (v := 0) (by rfl) ?_
      refine g_sipush h (i := 16) rfl (v := 1000) (by rfl) ?_
      refine g_callSx h hq (i := 17) rfl ms_X10_82 (ct_X10_in l E _ x (0) (1000) hlo) rfl rfl ⟨rfl, rfl, Nat.le_of_ble_eq_true rfl, Nat.le_of_ble_eq_true rfl⟩ (Nat.le_of_ble_eq_true rfl) ⟨Nat.zero_le _, Nat.zero_le _⟩ ?_
      exact g_zret hq h (i := 18) rfl (bI_n _) (⟨by unfold lnB; rw [if_neg (by decide), if_pos (rfl)], rfl⟩)
    · skip
      subst e
      refine g_tin h (i := 1) 96 rfl (by decide) (by decide) rfl rfl ?_
      refine g_iload_n h (i := 19) rfl rfl ?_
      refine g_iconst h (i := 20) rfl (v := 0) (by rfl) ?_
      refine g_bipush h (i := 21) rfl (v := 7) (by rfl) ?_
      refine g_callSx h hq (i := 22) rfl ms_X10_82 (ct_X10_in l E _ x (0) (7) hlo) rfl rfl ⟨rfl, rfl, Nat.le_of_ble_eq_true rfl, Nat.le_of_ble_eq_true rfl⟩ (Nat.le_of_ble_eq_true rfl) ⟨Nat.zero_le _, Nat.zero_le _⟩ ?_
      refine g_if_eq h (i := 23) 119 rfl rfl (fun c_103 => ?_) (fun c_103 => ?_)
      · skip
        refine g_iconst h (i := 31) rfl (v := 0) (by rfl) ?_
        exact g_zret hq h (i := 32) rfl (rfl) (⟨by unfold lnB; rw [if_neg (by decide), if_neg (by decide), if_pos (Or.inl rfl)]; exact rF (fun q => bI_0.mp c_103 q.1), rfl⟩)
      · skip
        refine g_iload_n h (i := 24) rfl rfl ?_
        refine g_iconst h (i := 25) rfl (v := 0) (by rfl) ?_
        refine g_iconst h (i := 26) rfl (v := 1) (by rfl) ?_
        refine g_callSx h hq (i := 27) rfl ms_X10_82 (ct_X10_in l E _ y (0) (1) hlo) rfl rfl ⟨rfl, rfl, Nat.le_of_ble_eq_true rfl, Nat.le_of_ble_eq_true rfl⟩ (Nat.le_of_ble_eq_true rfl) ⟨Nat.zero_le _, Nat.zero_le _⟩ ?_
        refine g_if_eq h (i := 28) 119 rfl rfl (fun c_112 => ?_) (fun c_112 => ?_)
        · skip
          refine g_iconst h (i := 31) rfl (v := 0) (by rfl) ?_
          exact g_zret hq h (i := 32) rfl (rfl) (⟨by unfold lnB; rw [if_neg (by decide), if_neg (by decide), if_pos (Or.inl rfl)]; exact rF (fun q => bI_0.mp c_112 q.2), rfl⟩)
        · skip
          refine g_iconst h (i := 29) rfl (v := 1) (by rfl) ?_
          refine g_goto h (i := 30) 120 rfl rfl ?_
          exact g_zret hq h (i := 32) rfl (rfl) (⟨by unfold lnB; rw [if_neg (by decide), if_neg (by decide), if_pos (Or.inl rfl)]; exact rT ⟨bI_1.mp c_103, bI_1.mp c_112⟩, rfl⟩)
    · skip
      subst e
      refine g_tin h (i := 1) 96 rfl (by decide) (by decide) rfl rfl ?_
      refine g_iload_n h (i := 19) rfl rfl ?_
      refine g_iconst h (i := 20) rfl (v := 0) (by rfl) ?_
      refine g_bipush h (i := 21) rfl (v := 7) (by rfl) ?_
      refine g_callSx h hq (i := 22) rfl ms_X10_82 (ct_X10_in l E _ x (0) (7) hlo) rfl rfl ⟨rfl, rfl, Nat.le_of_ble_eq_true rfl, Nat.le_of_ble_eq_true rfl⟩ (Nat.le_of_ble_eq_true rfl) ⟨Nat.zero_le _, Nat.zero_le _⟩ ?_
      refine g_if_eq h (i := 23) 119 rfl rfl (fun c_103 => ?_) (fun c_103 => ?_)
      · skip
        refine g_iconst h (i := 31) rfl (v := 0) (by rfl) ?_
        exact g_zret hq h (i := 32) rfl (rfl) (⟨by unfold lnB; rw [if_neg (by decide), if_neg (by decide), if_pos (Or.inr rfl)]; exact rF (fun q => bI_0.mp c_103 q.1), rfl⟩)
      · skip
        refine g_iload_n h (i := 24) rfl rfl ?_
        refine g_iconst h (i := 25) rfl (v := 0) (by rfl) ?_
        refine g_iconst h (i := 26) rfl (v := 1) (by rfl) ?_
        refine g_callSx h hq (i := 27) rfl ms_X10_82 (ct_X10_in l E _ y (0) (1) hlo) rfl rfl ⟨rfl, rfl, Nat.le_of_ble_eq_true rfl, Nat.le_of_ble_eq_true rfl⟩ (Nat.le_of_ble_eq_true rfl) ⟨Nat.zero_le _, Nat.zero_le _⟩ ?_
        refine g_if_eq h (i := 28) 119 rfl rfl (fun c_112 => ?_) (fun c_112 => ?_)
        · skip
          refine g_iconst h (i := 31) rfl (v := 0) (by rfl) ?_
          exact g_zret hq h (i := 32) rfl (rfl) (⟨by unfold lnB; rw [if_neg (by decide), if_neg (by decide), if_pos (Or.inr rfl)]; exact rF (fun q => bI_0.mp c_112 q.2), rfl⟩)
        · skip
          refine g_iconst h (i := 29) rfl (v := 1) (by rfl) ?_
          refine g_goto h (i := 30) 120 rfl rfl ?_
          exact g_zret hq h (i := 32) rfl (rfl) (⟨by unfold lnB; rw [if_neg (by decide), if_neg (by decide), if_pos (Or.inr rfl)]; exact rT ⟨bI_1.mp c_103, bI_1.mp c_112⟩, rfl⟩)
    · skip
      subst e
      refine g_tin h (i := 1) 121 rfl (by decide) (by decide) rfl rfl ?_
      refine g_iload_n h (i := 33) rfl rfl ?_
      refine g_iconst h (i := 34) rfl (v := 0) (by rfl) ?_
      refine g_bipush h (i := 35) rfl (v := 59) (by rfl) ?_
      refine g_callSx h hq (i := 36) rfl ms_X10_82 (ct_X10_in l E _ x (0) (59) hlo) rfl rfl ⟨rfl, rfl, Nat.le_of_ble_eq_true rfl, Nat.le_of_ble_eq_true rfl⟩ (Nat.le_of_ble_eq_true rfl) ⟨Nat.zero_le _, Nat.zero_le _⟩ ?_
      exact g_zret hq h (i := 37) rfl (bI_n _) (⟨by unfold lnB; rw [if_neg (by decide), if_neg (by decide), if_neg (by decide), if_pos (Or.inl rfl)], rfl⟩)
    · skip
      subst e
      refine g_tin h (i := 1) 121 rfl (by decide) (by decide) rfl rfl ?_
      refine g_iload_n h (i := 33) rfl rfl ?_
      refine g_iconst h (i := 34) rfl (v := 0) (by rfl) ?_
      refine g_bipush h (i := 35) rfl (v := 59) (by rfl) ?_
      refine g_callSx h hq (i := 36) rfl ms_X10_82 (ct_X10_in l E _ x (0) (59) hlo) rfl rfl ⟨rfl, rfl, Nat.le_of_ble_eq_true rfl, Nat.le_of_ble_eq_true rfl⟩ (Nat.le_of_ble_eq_true rfl) ⟨Nat.zero_le _, Nat.zero_le _⟩ ?_
      exact g_zret hq h (i := 37) rfl (bI_n _) (⟨by unfold lnB; rw [if_neg (by decide), if_neg (by decide), if_neg (by decide), if_pos (Or.inr (Or.inl rfl))], rfl⟩)
    · skip
      subst e
      refine g_tin h (i := 1) 137 rfl (by decide) (by decide) rfl rfl ?_
      refine g_iload_n h (i := 43) rfl rfl ?_
      refine g_bipush h (i := 44) rfl (v := 6) (by rfl) ?_
      refine g_icmp_eq h (i := 45) 149 rfl rfl (fun c_140 => ?_) (fun c_140 => absurd rfl c_140)
      refine g_iconst h (i := 49) rfl (v := 1) (by rfl) ?_
      refine g_goto h (i := 50) 154 rfl rfl ?_
      exact g_zret hq h (i := 52) rfl (rfl) (⟨by unfold lnB; rw [if_neg (by decide), if_neg (by decide), if_neg (by decide), if_neg (by decide), if_neg (by decide)]; exact rT (by decide), rfl⟩)
    · skip
      subst e
      refine g_tin h (i := 1) 129 rfl (by decide) (by decide) rfl rfl ?_
      refine g_iload_n h (i := 38) rfl rfl ?_
      refine g_iconst h (i := 39) rfl (v := 0) (by rfl) ?_
      refine g_bipush h (i := 40) rfl (v := 7) (by rfl) ?_
      refine g_callSx h hq (i := 41) rfl ms_X10_82 (ct_X10_in l E _ x (0) (7) hlo) rfl rfl ⟨rfl, rfl, Nat.le_of_ble_eq_true rfl, Nat.le_of_ble_eq_true rfl⟩ (Nat.le_of_ble_eq_true rfl) ⟨Nat.zero_le _, Nat.zero_le _⟩ ?_
      exact g_zret hq h (i := 42) rfl (bI_n _) (⟨by unfold lnB; rw [if_neg (by decide), if_neg (by decide), if_neg (by decide), if_neg (by decide), if_pos (Or.inl rfl)], rfl⟩)
    · skip
      subst e
      refine g_tin h (i := 1) 129 rfl (by decide) (by decide) rfl rfl ?_
      refine g_iload_n h (i := 38) rfl rfl ?_
      refine g_iconst h (i := 39) rfl (v := 0) (by rfl) ?_
      refine g_bipush h (i := 40) rfl (v := 7) (by rfl) ?_
      refine g_callSx h hq (i := 41) rfl ms_X10_82 (ct_X10_in l E _ x (0) (7) hlo) rfl rfl ⟨rfl, rfl, Nat.le_of_ble_eq_true rfl, Nat.le_of_ble_eq_true rfl⟩ (Nat.le_of_ble_eq_true rfl) ⟨Nat.zero_le _, Nat.zero_le _⟩ ?_
      exact g_zret hq h (i := 42) rfl (bI_n _) (⟨by unfold lnB; rw [if_neg (by decide), if_neg (by decide), if_neg (by decide), if_neg (by decide), if_pos (Or.inr (Or.inl rfl))], rfl⟩)
    · skip
      subst e
      refine g_tin h (i := 1) 129 rfl (by decide) (by decide) rfl rfl ?_
      refine g_iload_n h (i := 38) rfl rfl ?_
      refine g_iconst h (i := 39) rfl (v := 0) (by rfl) ?_
      refine g_bipush h (i := 40) rfl (v := 7) (by rfl) ?_
      refine g_callSx h hq (i := 41) rfl ms_X10_82 (ct_X10_in l E _ x (0) (7) hlo) rfl rfl ⟨rfl, rfl, Nat.le_of_ble_eq_true rfl, Nat.le_of_ble_eq_true rfl⟩ (Nat.le_of_ble_eq_true rfl) ⟨Nat.zero_le _, Nat.zero_le _⟩ ?_
      exact g_zret hq h (i := 42) rfl (bI_n _) (⟨by unfold lnB; rw [if_neg (by decide), if_neg (by decide), if_neg (by decide), if_neg (by decide), if_pos (Or.inr (Or.inr rfl))], rfl⟩)
    · skip
      subst e
      refine g_tin h (i := 1) 137 rfl (by decide) (by decide) rfl rfl ?_
      refine g_iload_n h (i := 43) rfl rfl ?_
      refine g_bipush h (i := 44) rfl (v := 6) (by rfl) ?_
      refine g_icmp_eq h (i := 45) 149 rfl rfl (fun c_140 => absurd c_140 (by decide)) (fun c_140 => ?_)
      refine g_iload_n h (i := 46) rfl rfl ?_
      refine g_bipush h (i := 47) rfl (v := 10) (by rfl) ?_
      refine g_icmp_ne h (i := 48) 153 rfl rfl (fun c_146 => absurd rfl c_146) (fun c_146 => ?_)
      refine g_iconst h (i := 49) rfl (v := 1) (by rfl) ?_
      refine g_goto h (i := 50) 154 rfl rfl ?_
      exact g_zret hq h (i := 52) rfl (rfl) (⟨by unfold lnB; rw [if_neg (by decide), if_neg (by decide), if_neg (by decide), if_neg (by decide), if_neg (by decide)]; exact rT (by decide), rfl⟩)
    · skip
      subst e
      refine g_tin h (i := 1) 121 rfl (by decide) (by decide) rfl rfl ?_
      refine g_iload_n h (i := 33) rfl rfl ?_
      refine g_iconst h (i := 34) rfl (v := 0) (by rfl) ?_
      refine g_bipush h (i := 35) rfl (v := 59) (by rfl) ?_
      refine g_callSx h hq (i := 36) rfl ms_X10_82 (ct_X10_in l E _ x (0) (59) hlo) rfl rfl ⟨rfl, rfl, Nat.le_of_ble_eq_true rfl, Nat.le_of_ble_eq_true rfl⟩ (Nat.le_of_ble_eq_true rfl) ⟨Nat.zero_le _, Nat.zero_le _⟩ ?_
      exact g_zret hq h (i := 37) rfl (bI_n _) (⟨by unfold lnB; rw [if_neg (by decide), if_neg (by decide), if_neg (by decide), if_pos (Or.inr (Or.inr rfl))], rfl⟩)
  · skip
    refine g_iload_n h (i := 0) rfl rfl ?_
    · skip
      skip
      refine g_tout h (i := 1) 137 rfl (hsw) rfl ?_
      refine g_iload_n h (i := 43) rfl rfl ?_
      refine g_bipush h (i := 44) rfl (v := 6) (by rfl) ?_
      refine g_icmp_eq h (i := 45) 149 rfl rfl (fun c_140 => absurd c_140 (fun q => by subst q; exact absurd hsw (by decide))) (fun c_140 => ?_)
      refine g_iload_n h (i := 46) rfl rfl ?_
      refine g_bipush h (i := 47) rfl (v := 10) (by rfl) ?_
      refine g_icmp_ne h (i := 48) 153 rfl rfl (fun c_146 => ?_) (fun c_146 => absurd c_146 (fun q => by subst q; exact absurd hsw (by decide)))
      refine g_iconst h (i := 51) rfl (v := 0) (by rfl) ?_
      exact g_zret hq h (i := 52) rfl (rfl) (⟨by unfold lnB; rw [if_neg (fun q => by subst q; exact absurd hsw (by decide)), if_neg (fun q => by subst q; exact absurd hsw (by decide)), if_neg (fun q => by rcases q with rfl | rfl <;> exact absurd hsw (by decide)), if_neg (fun q => by rcases q with rfl | rfl | rfl <;> exact absurd hsw (by decide)), if_neg (fun q => by rcases q with rfl | rfl | rfl <;> exact absurd hsw (by decide))]; exact rF (fun q => by rcases q with rfl | rfl <;> exact absurd hsw (by decide)), rfl⟩)
