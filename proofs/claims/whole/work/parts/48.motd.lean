-- how far the leader is behind k ticks
set_option maxRecDepth 100000 in
set_option maxHeartbeats 4000000 in
theorem ct_X4_goneBehind (l : Launch) (E : EE) (w : Wd) (t a v n wy k : Nat) (hlo : E.2.2 ≤ wN w) (hT : wK w t = some (.inl 4)) (i2 : wI w t 2 = nI n) (i3 : wI w t 3 = nI wy) (i4 : wI w t 4 = nI v) (i5 : wI w t 5 = nI a) (hb : mB a v) (hn : n ≤ 4000000) (hk : k ≤ n) (hw : wy ≤ 4000000) : Ct l E yX4_goneBehind cX4_goneBehind 5 (some .long) ({ frames := 1, cells := 0, slots := 0, locals := 23 } : Room) [.ref t, .int (nI k)] w 0 0 (Px (some (.long (lN (min (gnN a v n k) wy)))) w) := by
  refine ct_in (il := il_X4_goneBehind) (by decide) dk_X4_goneBehind (Nat.le_of_ble_eq_true rfl) hlo ?_
  intro X h hq

  obtain ⟨hv1, hv2, hv3⟩ := hvN (n := n) (by omega)
  have hs2 : nI n - nI k = nI (n - k) := pk_sub hk
  have lw : (nI wy).toInt64 = lN wy := nI_l (by omega)
  have bv := hb.2.2.2
  have hgl := gn_le a v n k hk
  have hgm : v * n ≤ 100000 * 4000000 := Nat.mul_le_mul bv hn
  have hA : k ≤ n - n / 2 → gnN a v n k = rsN a v k := fun g => if_pos g
  have hB : n - n / 2 < k → lN (rsN a v (n / 2)) + lN (rsN a v (n - n / 2)) - lN (rsN a v (n - k)) = lN (gnN a v n k) := fun g => by
    have hmn := rs_mono a v (show n - k ≤ n / 2 by omega)
    rw [lN_add, lN_sub (by omega)]
    unfold gnN
    rw [if_neg (by omega)]
  have k80 : G X 0 0 80 (lf [(0, .ref t)]) [.long (lN (gnN a v n k))] w := by
    refine g_lstore_n h (i := 44) rfl hq rfl ?_
    refine g_lload_n h (i := 45) rfl rfl ?_
    refine g_aload_n h (i := 46) rfl rfl ?_
    refine g_getI h (i := 47) rfl fl_X4_22 (fun _ _ _ => rfl) hT ?_
    refine g_eqi (nI wy) i3 ?_
    refine g_i2l h (i := 48) rfl ?_
    refine g_eql (lN wy) lw ?_
    refine g_lcmp h (i := 49) rfl ?_
    refine g_if_ge h (i := 50) 95 rfl rfl (fun c_88 => ?_) (fun c_88 => ?_)
    · skip
      refine g_aload_n h (i := 53) rfl rfl ?_
      refine g_getI h (i := 54) rfl fl_X4_22 (fun _ _ _ => rfl) hT ?_
      refine g_eqi (nI wy) i3 ?_
      refine g_i2l h (i := 55) rfl ?_
      exact g_lret hq h (i := 56) rfl (⟨by show some (Value.long (nI wy).toInt64) = _; rw [lw, Nat.min_eq_right ((pk_lLE (by omega) (by omega)).mp ((lg_cmp_ge _ _).mp c_88))], rfl⟩)
    · skip
      refine g_lload_n h (i := 51) rfl rfl ?_
      refine g_goto h (i := 52) 100 rfl rfl ?_
      exact g_lret hq h (i := 56) rfl (⟨by rw [Nat.min_eq_left (Nat.le_of_not_le (fun q => c_88 ((lg_cmp_ge _ _).mpr ((pk_lLE (by omega) (by omega)).mpr q))))], rfl⟩)
  refine g_aload_n h (i := 0) rfl rfl ?_
  refine g_getI h (i := 1) rfl fl_X4_18 (fun _ _ _ => rfl) hT ?_
  refine g_eqi (nI n) i2 ?_
  refine g_aload_n h (i := 2) rfl rfl ?_
  refine g_getI h (i := 3) rfl fl_X4_18 (fun _ _ _ => rfl) hT ?_
  refine g_eqi (nI n) i2 ?_
  refine g_iconst h (i := 4) rfl (v := 2) (by rfl) ?_
  refine g_idiv h (i := 5) rfl (by decide) ?_
  refine g_eqi (nI (n / 2)) hv1 ?_
  refine g_isub h (i := 6) rfl ?_
  refine g_eqi (nI (n - n / 2)) hv2 ?_
  refine g_istore_n h (i := 7) rfl hq rfl ?_
  refine g_iload_n h (i := 8) rfl rfl ?_
  refine g_iload_n h (i := 9) rfl rfl ?_
  refine g_icmp_gt h (i := 10) 32 rfl rfl (fun c_14 => ?_) (fun c_14 => ?_)
  · skip
    have g : n - n / 2 < k := (nI_ltI (by omega) (by omega)).mp c_14
    refine g_aload_n h (i := 18) rfl rfl ?_
    refine g_getI h (i := 19) rfl fl_X4_18 (fun _ _ _ => rfl) hT ?_
    refine g_eqi (nI n) i2 ?_
    refine g_iconst h (i := 20) rfl (v := 2) (by rfl) ?_
    refine g_idiv h (i := 21) rfl (by decide) ?_
    refine g_eqi (nI (n / 2)) hv1 ?_
    refine g_aload_n h (i := 22) rfl rfl ?_
    refine g_getI h (i := 23) rfl fl_X4_25 (fun _ _ _ => rfl) hT ?_
    refine g_eqi (nI v) i4 ?_
    refine g_aload_n h (i := 24) rfl rfl ?_
    refine g_getI h (i := 25) rfl fl_X4_28 (fun _ _ _ => rfl) hT ?_
    refine g_eqi (nI a) i5 ?_
    refine g_callSx h hq (i := 26) rfl ms_X4_49 (ct_X4_climb l E _ (n / 2) v a hlo hb (by omega)) rfl rfl ⟨rfl, rfl, Nat.le_of_ble_eq_true rfl, Nat.le_of_ble_eq_true rfl⟩ (Nat.le_of_ble_eq_true rfl) ⟨Nat.zero_le _, Nat.zero_le _⟩ ?_
    refine g_iload_n h (i := 27) rfl rfl ?_
    refine g_aload_n h (i := 28) rfl rfl ?_
    refine g_getI h (i := 29) rfl fl_X4_25 (fun _ _ _ => rfl) hT ?_
    refine g_eqi (nI v) i4 ?_
    refine g_aload_n h (i := 30) rfl rfl ?_
    refine g_getI h (i := 31) rfl fl_X4_28 (fun _ _ _ => rfl) hT ?_
    refine g_eqi (nI a) i5 ?_
    refine g_callSx h hq (i := 32) rfl ms_X4_49 (ct_X4_climb l E _ (n - n / 2) v a hlo hb (by omega)) rfl rfl ⟨rfl, rfl, Nat.le_of_ble_eq_true rfl, Nat.le_of_ble_eq_true rfl⟩ (Nat.le_of_ble_eq_true rfl) ⟨Nat.zero_le _, Nat.zero_le _⟩ ?_
    refine g_ladd h (i := 33) rfl ?_
    refine g_aload_n h (i := 34) rfl rfl ?_
    refine g_getI h (i := 35) rfl fl_X4_18 (fun _ _ _ => rfl) hT ?_
    refine g_eqi (nI n) i2 ?_
    refine g_iload_n h (i := 36) rfl rfl ?_
    refine g_isub h (i := 37) rfl ?_
    refine g_eqi (nI (n - k)) hs2 ?_
    refine g_aload_n h (i := 38) rfl rfl ?_
    refine g_getI h (i := 39) rfl fl_X4_25 (fun _ _ _ => rfl) hT ?_
    refine g_eqi (nI v) i4 ?_
    refine g_aload_n h (i := 40) rfl rfl ?_
    refine g_getI h (i := 41) rfl fl_X4_28 (fun _ _ _ => rfl) hT ?_
    refine g_eqi (nI a) i5 ?_
    refine g_callSx h hq (i := 42) rfl ms_X4_49 (ct_X4_climb l E _ (n - k) v a hlo hb (by omega)) rfl rfl ⟨rfl, rfl, Nat.le_of_ble_eq_true rfl, Nat.le_of_ble_eq_true rfl⟩ (Nat.le_of_ble_eq_true rfl) ⟨Nat.zero_le _, Nat.zero_le _⟩ ?_
    refine g_lsub h (i := 43) rfl ?_
    refine g_eql (lN (gnN a v n k)) (hB g) ?_
    exact g_lv [(0, .ref t)] ⟨rfl, trivial⟩ k80
  · skip
    have g : k ≤ n - n / 2 := Nat.le_of_not_lt (fun g => c_14 (nI_lt g (by omega)))
    refine g_iload_n h (i := 11) rfl rfl ?_
    refine g_aload_n h (i := 12) rfl rfl ?_
    refine g_getI h (i := 13) rfl fl_X4_25 (fun _ _ _ => rfl) hT ?_
    refine g_eqi (nI v) i4 ?_
    refine g_aload_n h (i := 14) rfl rfl ?_
    refine g_getI h (i := 15) rfl fl_X4_28 (fun _ _ _ => rfl) hT ?_
    refine g_eqi (nI a) i5 ?_
    refine g_callSx h hq (i := 16) rfl ms_X4_49 (ct_X4_climb l E _ k v a hlo hb (by omega)) rfl rfl ⟨rfl, rfl, Nat.le_of_ble_eq_true rfl, Nat.le_of_ble_eq_true rfl⟩ (Nat.le_of_ble_eq_true rfl) ⟨Nat.zero_le _, Nat.zero_le _⟩ ?_
    refine g_eql (lN (gnN a v n k)) (by rw [hA g]) ?_
    refine g_goto h (i := 17) 80 rfl rfl ?_
    exact g_lv [(0, .ref t)] ⟨rfl, trivial⟩ k80
-- a joint behind that way of the leader
set_option maxRecDepth 100000 in
set_option maxHeartbeats 4000000 in
theorem ct_X4_stateAt (l : Launch) (E : EE) (w : Wd) (t fa ba j g wy : Nat) (fr dl : Int32) (hlo : E.2.2 ≤ wN w) (hT : wK w t = some (.inl 4)) (r0 : wR w t 0 = some fa) (r1 : wR w t 1 = some ba) (kf : wK w fa = some (.inr (0, 4))) (kb : wK w ba = some (.inr (0, 4))) (i3 : wI w t 3 = nI wy) (hj : j < 4) (hf : wI w fa j = fr) (hd : wI w ba j = dl) (b1 : fr.toInt.natAbs ≤ 1000000) (b2 : dl.toInt.natAbs ≤ 2000000) (hg : g ≤ wy) (hw : wy ≤ 4000000) : Ct l E yX4_stateAt cX4_stateAt 4 (some .int) ({ frames := 0, cells := 0, slots := 0, locals := 0 } : Room) [.ref t, .int (nI j), .long (lN g)] w 0 0 (Px (some (.int (Int32.ofInt (mvS fr.toInt dl.toInt g wy)))) w) := by
  refine ct_in (il := il_X4_stateAt) (by decide) dk_X4_stateAt (Nat.le_of_ble_eq_true rfl) hlo ?_
  intro X h hq

  have hcl : (nI j).toNatClampNeg = j := nI_clamp (by omega)
  have hvp : vp_in (nI j) 4 := vp_in_nI hj (by omega)
  have lw : (nI wy).toInt64 = lN wy := nI_l (by omega)
  have ml := mv_lim (dl := dl.toInt) hg
  have hz : wy = 0 → fr = Int32.ofInt (mvS fr.toInt dl.toInt g wy) := fun e => by
    refine i32x ?_
    unfold mvS
    rw [e, show ((0 : Nat) : Int) = 0 from rfl, Int.tdiv_zero, ofI32 (by omega) (by omega)]
    omega
  have hq1 : fr + (dl.toInt64 * lN g / lN wy).toInt32 = Int32.ofInt (mvS fr.toInt dl.toInt g wy) := by
    have e1 := mv_l (D := dl.toInt64) (by rw [i_l]; exact b2) hg hw
    rw [i_l] at e1
    have e2 : (dl.toInt64 * lN g / lN wy).toInt32.toInt = (dl.toInt * (g : Int)).tdiv (wy : Int) := by rw [l_i (by rw [e1]; omega) (by rw [e1]; omega), e1]
    refine i32x ?_
    rw [i_add (by rw [e2]; omega) (by rw [e2]; omega), e2, ofI32 (by unfold mvS; omega) (by unfold mvS; omega)]
    rfl
  refine g_aload_n h (i := 0) rfl rfl ?_
  refine g_getI h (i := 1) rfl fl_X4_22 (fun _ _ _ => rfl) hT ?_
  refine g_eqi (nI wy) i3 ?_
  refine g_if_ne h (i := 2) 16 rfl rfl (fun c_4 => ?_) (fun c_4 => ?_)
  · skip
    have hne : ¬ lN wy = 0 := fun q => c_4 (by rw [(pk_lEQ (b := 0) (by omega) (by omega)).mp q]; rfl)
    refine g_aload_n h (i := 8) rfl rfl ?_
    refine g_getR h (i := 9) rfl fl_X4_9 (fun _ _ _ => rfl) hT r0 ?_
    refine g_iload_n h (i := 10) rfl rfl ?_
    refine g_iald h (i := 11) rfl kf (hvp) ?_
    refine g_eqi fr (by rw [hcl]; exact hf) ?_
    refine g_aload_n h (i := 12) rfl rfl ?_
    refine g_getR h (i := 13) rfl fl_X4_15 (fun _ _ _ => rfl) hT r1 ?_
    refine g_iload_n h (i := 14) rfl rfl ?_
    refine g_iald h (i := 15) rfl kb (hvp) ?_
    refine g_eqi dl (by rw [hcl]; exact hd) ?_
    refine g_i2l h (i := 16) rfl ?_
    refine g_lload_n h (i := 17) rfl rfl ?_
    refine g_lmul h (i := 18) rfl ?_
    refine g_aload_n h (i := 19) rfl rfl ?_
    refine g_getI h (i := 20) rfl fl_X4_22 (fun _ _ _ => rfl) hT ?_
    refine g_eqi (nI wy) i3 ?_
    refine g_i2l h (i := 21) rfl ?_
    refine g_eql (lN wy) lw ?_
    refine g_ldiv h (i := 22) rfl (hne) ?_
    refine g_l2i h (i := 23) rfl ?_
    refine g_iadd h (i := 24) rfl ?_
    exact g_iret hq h (i := 25) rfl (⟨congrArg (fun z => some (Value.int z)) hq1, rfl⟩)
  · skip
    have hw0 : wy = 0 := (nI_eq (by omega) (by decide)).mp c_4
    refine g_aload_n h (i := 3) rfl rfl ?_
    refine g_getR h (i := 4) rfl fl_X4_9 (fun _ _ _ => rfl) hT r0 ?_
    refine g_iload_n h (i := 5) rfl rfl ?_
    refine g_iald h (i := 6) rfl kf (hvp) ?_
    refine g_eqi fr (by rw [hcl]; exact hf) ?_
    refine g_goto h (i := 7) 39 rfl rfl ?_
    exact g_iret hq h (i := 25) rfl (⟨congrArg (fun z => some (Value.int z)) (hz hw0), rfl⟩)
-- a state behind k ticks
set_option maxRecDepth 100000 in
set_option maxHeartbeats 4000000 in
theorem ct_X10_stateBehind (l : Launch) (E : EE) (w : Wd) (F T : Int64) (a v n wy k : Nat) (hlo : E.2.2 ≤ wN w) (hb : mB a v) (hn : n ≤ 4000000) (hk : k ≤ n) (hw0 : 0 < wy) (hw : wy ≤ 4000000) (b1 : F.toInt.natAbs ≤ 1000000) (b2 : T.toInt.natAbs ≤ 1000000) : Ct l E yX10_stateBehind cX10_stateBehind 16 (some .long) ({ frames := 2, cells := 0, slots := 0, locals := 56 } : Room) [.long F, .long T, .long (lN a), .long (lN v), .long (lN n), .long (lN wy), .long (lN k)] w 0 0 (Px (some (.long (Int64.ofInt (mvS F.toInt (T.toInt - F.toInt) (min (gnN a v n k) wy) wy)))) w) := by
  refine ct_in (il := il_X10_stateBehind) (by decide) dk_X10_stateBehind (Nat.le_of_ble_eq_true rfl) hlo ?_
  intro X h hq

  have hne : ¬ lN wy = 0 := fun q => absurd ((pk_lEQ (b := 0) (by omega) (by omega)).mp q) (by omega)
  have bv := hb.2.2.2
  have hgl := gn_le a v n k hk
  have hgm : v * n ≤ 100000 * 4000000 := Nat.mul_le_mul bv hn
  have hsub : (T - F).toInt = T.toInt - F.toInt := l_sub (by omega) (by omega)
  obtain ⟨g, hg⟩ : ∃ g, g = min (gnN a v n k) wy := ⟨_, rfl⟩
  have hgw : g ≤ wy := by omega
  have ml := mv_lim (dl := T.toInt - F.toInt) hgw
  have e1 := mv_l (D := T - F) (by rw [hsub]; omega) hgw hw
  rw [hsub] at e1
  have hfin : F + (T - F) * lN g / lN wy = Int64.ofInt (mvS F.toInt (T.toInt - F.toInt) g wy) := by
    refine i64x ?_
    rw [l_add (by rw [e1]; omega) (by rw [e1]; omega), e1, ofI64 (by unfold mvS; omega) (by unfold mvS; omega)]
    rfl
  have k28 : G X 0 0 28 (lf [(0, .long F), (2, .long T), (10, .long (lN wy))]) [.long (lN g)] w := by
    refine g_lstore h (i := 13) rfl hq rfl ?_
    refine g_lload_n h (i := 14) rfl rfl ?_
    refine g_lload_n h (i := 15) rfl rfl ?_
    refine g_lload_n h (i := 16) rfl rfl ?_
    refine g_lsub h (i := 17) rfl ?_
    refine g_lload h (i := 18) rfl rfl ?_
    refine g_lmul h (i := 19) rfl ?_
    refine g_lload h (i := 20) rfl rfl ?_
    refine g_ldiv h (i := 21) rfl (hne) ?_
    refine g_ladd h (i := 22) rfl ?_
    exact g_lret hq h (i := 23) rfl (⟨by rw [hfin, hg], rfl⟩)
  refine g_lload h (i := 0) rfl rfl ?_
  refine g_lload h (i := 1) rfl rfl ?_
  refine g_lload h (i := 2) rfl rfl ?_
  refine g_lload h (i := 3) rfl rfl ?_
  refine g_callSx h hq (i := 4) rfl ms_X10_174 (ct_X10_gone l E _ a v n k hlo hb hn hk) rfl rfl ⟨rfl, rfl, Nat.le_of_ble_eq_true rfl, Nat.le_of_ble_eq_true rfl⟩ (Nat.le_of_ble_eq_true rfl) ⟨Nat.zero_le _, Nat.zero_le _⟩ ?_
  refine g_lstore h (i := 5) rfl hq rfl ?_
  refine g_lload h (i := 6) rfl rfl ?_
  refine g_lload h (i := 7) rfl rfl ?_
  refine g_lcmp h (i := 8) rfl ?_
  refine g_if_le h (i := 9) 26 rfl rfl (fun c_18 => ?_) (fun c_18 => ?_)
  · skip
    refine g_lload h (i := 12) rfl rfl ?_
    refine g_eql (lN g) (by rw [hg, Nat.min_eq_left ((pk_lLE (by omega) (by omega)).mp ((lg_cmp_le _ _).mp c_18))]) ?_
    exact g_lv [(0, .long F), (2, .long T), (10, .long (lN wy))] ⟨rfl, rfl, rfl, trivial⟩ k28
  · skip
    refine g_lload h (i := 10) rfl rfl ?_
    refine g_goto h (i := 11) 28 rfl rfl ?_
    refine g_eql (lN g) (by rw [hg, Nat.min_eq_right (Nat.le_of_not_le (fun q => c_18 ((lg_cmp_le _ _).mpr ((pk_lLE (by omega) (by omega)).mpr q))))]) ?_
    exact g_lv [(0, .long F), (2, .long T), (10, .long (lN wy))] ⟨rfl, rfl, rfl, trivial⟩ k28
