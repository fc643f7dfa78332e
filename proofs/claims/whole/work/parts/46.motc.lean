-- how far k ticks of a rise go
set_option maxRecDepth 100000 in
set_option maxHeartbeats 4000000 in
theorem ct_X4_climb (l : Launch) (E : EE) (w : Wd) (k v a : Nat) (hlo : E.2.2 ≤ wN w) (hb : mB a v) (hk : k ≤ 4000000) : Ct l E yX4_climb cX4_climb 4 (some .long) ({ frames := 0, cells := 0, slots := 0, locals := 0 } : Room) [.int (nI k), .int (nI v), .int (nI a)] w 0 0 (Px (some (.long (lN (rsN a v k)))) w) := by
  refine ct_in (il := il_X4_climb) (by decide) dk_X4_climb (Nat.le_of_ble_eq_true rfl) hlo ?_
  intro X h hq

  obtain ⟨m, hm⟩ : ∃ m, m = v / a := ⟨_, rfl⟩
  have hm5 : m ≤ 100000 := by rw [hm]; exact dv_le hb.2.2.2
  obtain ⟨f1, f2⟩ := rs_f1 (v := v) hb.1
  rw [← hm] at f1 f2
  have ba := hb.2.1
  have bv := hb.2.2.2
  have hdiv : nI v / nI a = nI m := by rw [hm]; exact pk_div (by omega) hb.1 (by omega)
  have hpos : ¬ nI a ≤ 0 := nI_nle hb.1 (by omega)
  have hne : ¬ nI a = 0 := nI_ne0 hb.1 (by omega)
  have la : (nI a).toInt64 = lN a := nI_l (by omega)
  have lv : (nI v).toInt64 = lN v := nI_l (by omega)
  have lk : (nI k).toInt64 = lN k := nI_l (by omega)
  have lm : (nI m).toInt64 = lN m := nI_l (by omega)
  have lk1 : (nI k + 1).toInt64 = lN k + 1 := by rw [nI_1, lN_1]; exact nI_l (by omega)
  have lm1 : (nI m + 1).toInt64 = lN m + 1 := by rw [nI_1, lN_1]; exact nI_l (by omega)
  refine g_iload_n h (i := 0) rfl rfl ?_
  refine g_if_le h (i := 1) 10 rfl rfl (fun c_1 => absurd c_1 hpos) (fun c_1 => ?_)
  refine g_iload_n h (i := 2) rfl rfl ?_
  refine g_iload_n h (i := 3) rfl rfl ?_
  refine g_idiv h (i := 4) rfl (hne) ?_
  refine g_eqi (nI m) hdiv ?_
  refine g_goto h (i := 5) 11 rfl rfl ?_
  refine g_istore_n h (i := 7) rfl hq rfl ?_
  refine g_iload_n h (i := 8) rfl rfl ?_
  refine g_iload_n h (i := 9) rfl rfl ?_
  refine g_icmp_gt h (i := 10) 32 rfl rfl (fun c_14 => ?_) (fun c_14 => ?_)
  · skip
    have hkm : m < k := (nI_ltI (by omega) (by omega)).mp c_14
    refine g_iload_n h (i := 24) rfl rfl ?_
    refine g_i2l h (i := 25) rfl ?_
    refine g_iload_n h (i := 26) rfl rfl ?_
    refine g_i2l h (i := 27) rfl ?_
    refine g_lmul h (i := 28) rfl ?_
    refine g_iload_n h (i := 29) rfl rfl ?_
    refine g_iconst h (i := 30) rfl (v := 1) (by rfl) ?_
    refine g_iadd h (i := 31) rfl ?_
    refine g_i2l h (i := 32) rfl ?_
    refine g_lmul h (i := 33) rfl ?_
    refine g_ldc2 h (i := 34) rfl k_X4_59 ?_
    refine g_ldiv h (i := 35) rfl (by decide) ?_
    refine g_iload_n h (i := 36) rfl rfl ?_
    refine g_i2l h (i := 37) rfl ?_
    refine g_iload_n h (i := 38) rfl rfl ?_
    refine g_iload_n h (i := 39) rfl rfl ?_
    refine g_isub h (i := 40) rfl ?_
    refine g_i2l h (i := 41) rfl ?_
    refine g_lmul h (i := 42) rfl ?_
    refine g_ladd h (i := 43) rfl ?_
    refine g_eql (lN (rsN a v k)) (by rw [la, lm, lm1, lv, pk_sub (Nat.le_of_lt hkm), nI_l (by omega), ← lN_sub (Nat.le_of_lt hkm)]; exact cl_b hb f1 f2 (Nat.le_of_lt hkm) hm5) ?_
    exact g_lret hq h (i := 44) rfl (⟨rfl, rfl⟩)
  · skip
    have hkm : k ≤ m := Nat.le_of_not_lt (fun g => c_14 (nI_lt g (by omega)))
    refine g_iload_n h (i := 11) rfl rfl ?_
    refine g_i2l h (i := 12) rfl ?_
    refine g_iload_n h (i := 13) rfl rfl ?_
    refine g_i2l h (i := 14) rfl ?_
    refine g_lmul h (i := 15) rfl ?_
    refine g_iload_n h (i := 16) rfl rfl ?_
    refine g_iconst h (i := 17) rfl (v := 1) (by rfl) ?_
    refine g_iadd h (i := 18) rfl ?_
    refine g_i2l h (i := 19) rfl ?_
    refine g_lmul h (i := 20) rfl ?_
    refine g_ldc2 h (i := 21) rfl k_X4_59 ?_
    refine g_ldiv h (i := 22) rfl (by decide) ?_
    refine g_eql (lN (rsN a v k)) (by rw [la, lk, lk1]; exact cl_a hb f1 hkm hm5) ?_
    exact g_lret hq h (i := 23) rfl (⟨rfl, rfl⟩)
-- how far k ticks of a rise go
set_option maxRecDepth 100000 in
set_option maxHeartbeats 4000000 in
theorem ct_X10_risen (l : Launch) (E : EE) (w : Wd) (a v k : Nat) (hlo : E.2.2 ≤ wN w) (hb : mB a v) (hk : k ≤ 4000000) : Ct l E yX10_risen cX10_risen 8 (some .long) ({ frames := 0, cells := 0, slots := 0, locals := 0 } : Room) [.long (lN a), .long (lN v), .long (lN k)] w 0 0 (Px (some (.long (lN (rsN a v k)))) w) := by
  refine ct_in (il := il_X10_risen) (by decide) dk_X10_risen (Nat.le_of_ble_eq_true rfl) hlo ?_
  intro X h hq

  obtain ⟨m, hm⟩ : ∃ m, m = (v - 1) / a := ⟨_, rfl⟩
  have hm5 : m ≤ 100000 := by rw [hm]; exact dv_le (by have := hb.2.2.2; omega)
  obtain ⟨f1, f2⟩ := rs_f2 (v := v) hb.1 hb.2.2.1
  rw [← hm] at f1 f2
  have ba := hb.2.1
  have bv := hb.2.2.2
  have bv1 := hb.2.2.1
  have hsub : lN v - 1 = lN (v - 1) := lN_sub (b := 1) (by omega)
  have hdiv : lN (v - 1) / lN a = lN m := by rw [hm]; exact pk_lDiv (by omega) hb.1 (by omega)
  have hne : ¬ lN a = 0 := fun q => absurd ((pk_lEQ (b := 0) (by omega) (by omega)).mp q) (by have := hb.1; omega)
  refine g_lload_n h (i := 0) rfl rfl ?_
  refine g_lconst h (i := 1) rfl (v := 1) (by rfl) ?_
  refine g_lsub h (i := 2) rfl ?_
  refine g_eql (lN (v - 1)) hsub ?_
  refine g_lload_n h (i := 3) rfl rfl ?_
  refine g_ldiv h (i := 4) rfl (hne) ?_
  refine g_eql (lN m) hdiv ?_
  refine g_lstore h (i := 5) rfl hq rfl ?_
  refine g_lload h (i := 6) rfl rfl ?_
  refine g_lload h (i := 7) rfl rfl ?_
  refine g_lcmp h (i := 8) rfl ?_
  refine g_if_gt h (i := 9) 31 rfl rfl (fun c_12 => ?_) (fun c_12 => ?_)
  · skip
    have hkm : m < k := (lN_lt (by omega) (by omega)).mp ((lg_cmp_gt _ _).mp c_12)
    refine g_lload_n h (i := 20) rfl rfl ?_
    refine g_lload h (i := 21) rfl rfl ?_
    refine g_lmul h (i := 22) rfl ?_
    refine g_lload h (i := 23) rfl rfl ?_
    refine g_lconst h (i := 24) rfl (v := 1) (by rfl) ?_
    refine g_ladd h (i := 25) rfl ?_
    refine g_lmul h (i := 26) rfl ?_
    refine g_ldc2 h (i := 27) rfl k_X10_168 ?_
    refine g_ldiv h (i := 28) rfl (by decide) ?_
    refine g_lload_n h (i := 29) rfl rfl ?_
    refine g_lload h (i := 30) rfl rfl ?_
    refine g_lload h (i := 31) rfl rfl ?_
    refine g_lsub h (i := 32) rfl ?_
    refine g_lmul h (i := 33) rfl ?_
    refine g_ladd h (i := 34) rfl ?_
    exact g_lret hq h (i := 35) rfl (⟨congrArg (fun z => some (Value.long z)) (cl_b hb f1 f2 (Nat.le_of_lt hkm) hm5), rfl⟩)
  · skip
    have hkm : k ≤ m := Nat.le_of_not_lt (fun g => c_12 ((lg_cmp_gt _ _).mpr ((lN_lt (by omega) (by omega)).mpr g)))
    refine g_lload_n h (i := 10) rfl rfl ?_
    refine g_lload h (i := 11) rfl rfl ?_
    refine g_lmul h (i := 12) rfl ?_
    refine g_lload h (i := 13) rfl rfl ?_
    refine g_lconst h (i := 14) rfl (v := 1) (by rfl) ?_
    refine g_ladd h (i := 15) rfl ?_
    refine g_lmul h (i := 16) rfl ?_
    refine g_ldc2 h (i := 17) rfl k_X10_168 ?_
    refine g_ldiv h (i := 18) rfl (by decide) ?_
    refine g_eql (lN (rsN a v k)) (cl_a hb f1 hkm hm5) ?_
    refine g_goto h (i := 19) 52 rfl rfl ?_
    exact g_lret hq h (i := 35) rfl (⟨rfl, rfl⟩)
-- how far t of n ticks go
set_option maxRecDepth 100000 in
set_option maxHeartbeats 4000000 in
theorem ct_X10_gone (l : Launch) (E : EE) (w : Wd) (a v n t : Nat) (hlo : E.2.2 ≤ wN w) (hb : mB a v) (hn : n ≤ 4000000) (ht : t ≤ n) : Ct l E yX10_gone cX10_gone 10 (some .long) ({ frames := 1, cells := 0, slots := 0, locals := 27 } : Room) [.long (lN a), .long (lN v), .long (lN n), .long (lN t)] w 0 0 (Px (some (.long (lN (gnN a v n t)))) w) := by
  refine ct_in (il := il_X10_gone) (by decide) dk_X10_gone (Nat.le_of_ble_eq_true rfl) hlo ?_
  intro X h hq

  obtain ⟨hv1, hv2, hv3⟩ := hvN (n := n) (by omega)
  have hs1 : lN n - lN (n - n / 2) = lN (n / 2) := by rw [lN_sub (by omega), show n - (n - n / 2) = n / 2 by omega]
  have hs2 : lN n - lN t = lN (n - t) := lN_sub ht
  have hA : t ≤ n - n / 2 → gnN a v n t = rsN a v t := fun g => if_pos g
  have hB : n - n / 2 < t → lN (rsN a v (n - n / 2)) + lN (rsN a v (n / 2)) - lN (rsN a v (n - t)) = lN (gnN a v n t) := fun g => by
    have hmn := rs_mono a v (show n - t ≤ n / 2 by omega)
    rw [lN_add, lN_sub (by omega)]
    unfold gnN
    rw [if_neg (by omega), Nat.add_comm]
  refine g_lload h (i := 0) rfl rfl ?_
  refine g_lconst h (i := 1) rfl (v := 1) (by rfl) ?_
  refine g_ladd h (i := 2) rfl ?_
  refine g_ldc2 h (i := 3) rfl k_X10_168 ?_
  refine g_ldiv h (i := 4) rfl (by decide) ?_
  refine g_eql (lN (n - n / 2)) hv3 ?_
  refine g_lstore h (i := 5) rfl hq rfl ?_
  refine g_lload h (i := 6) rfl rfl ?_
  refine g_lload h (i := 7) rfl rfl ?_
  refine g_lcmp h (i := 8) rfl ?_
  refine g_if_gt h (i := 9) 28 rfl rfl (fun c_15 => ?_) (fun c_15 => ?_)
  · skip
    have g : n - n / 2 < t := (lN_lt (by omega) (by omega)).mp ((lg_cmp_gt _ _).mp c_15)
    refine g_lload_n h (i := 15) rfl rfl ?_
    refine g_lload_n h (i := 16) rfl rfl ?_
    refine g_lload h (i := 17) rfl rfl ?_
    refine g_callSx h hq (i := 18) rfl ms_X10_170 (ct_X10_risen l E _ a v (n - n / 2) hlo hb (by omega)) rfl rfl ⟨rfl, rfl, Nat.le_of_ble_eq_true rfl, Nat.le_of_ble_eq_true rfl⟩ (Nat.le_of_ble_eq_true rfl) ⟨Nat.zero_le _, Nat.zero_le _⟩ ?_
    refine g_lload_n h (i := 19) rfl rfl ?_
    refine g_lload_n h (i := 20) rfl rfl ?_
    refine g_lload h (i := 21) rfl rfl ?_
    refine g_lload h (i := 22) rfl rfl ?_
    refine g_lsub h (i := 23) rfl ?_
    refine g_eql (lN (n / 2)) hs1 ?_
    refine g_callSx h hq (i := 24) rfl ms_X10_170 (ct_X10_risen l E _ a v (n / 2) hlo hb (by omega)) rfl rfl ⟨rfl, rfl, Nat.le_of_ble_eq_true rfl, Nat.le_of_ble_eq_true rfl⟩ (Nat.le_of_ble_eq_true rfl) ⟨Nat.zero_le _, Nat.zero_le _⟩ ?_
    refine g_ladd h (i := 25) rfl ?_
    refine g_lload_n h (i := 26) rfl rfl ?_
    refine g_lload_n h (i := 27) rfl rfl ?_
    refine g_lload h (i := 28) rfl rfl ?_
    refine g_lload h (i := 29) rfl rfl ?_
    refine g_lsub h (i := 30) rfl ?_
    refine g_eql (lN (n - t)) hs2 ?_
    refine g_callSx h hq (i := 31) rfl ms_X10_170 (ct_X10_risen l E _ a v (n - t) hlo hb (by omega)) rfl rfl ⟨rfl, rfl, Nat.le_of_ble_eq_true rfl, Nat.le_of_ble_eq_true rfl⟩ (Nat.le_of_ble_eq_true rfl) ⟨Nat.zero_le _, Nat.zero_le _⟩ ?_
    refine g_lsub h (i := 32) rfl ?_
    exact g_lret hq h (i := 33) rfl (⟨congrArg (fun z => some (Value.long z)) (hB g), rfl⟩)
  · skip
    have g : t ≤ n - n / 2 := Nat.le_of_not_lt (fun g => c_15 ((lg_cmp_gt _ _).mpr ((lN_lt (by omega) (by omega)).mpr g)))
    refine g_lload_n h (i := 10) rfl rfl ?_
    refine g_lload_n h (i := 11) rfl rfl ?_
    refine g_lload h (i := 12) rfl rfl ?_
    refine g_callSx h hq (i := 13) rfl ms_X10_170 (ct_X10_risen l E _ a v t hlo hb (by omega)) rfl rfl ⟨rfl, rfl, Nat.le_of_ble_eq_true rfl, Nat.le_of_ble_eq_true rfl⟩ (Nat.le_of_ble_eq_true rfl) ⟨Nat.zero_le _, Nat.zero_le _⟩ ?_
    refine g_goto h (i := 14) 57 rfl rfl ?_
    exact g_lret hq h (i := 33) rfl (⟨congrArg (fun z => some (Value.long (lN z))) (hA g).symm, rfl⟩)
-- the least ticks that go the way
set_option maxRecDepth 100000 in
set_option maxHeartbeats 4000000 in
theorem ct_X10_ticksFor (l : Launch) (E : EE) (w : Wd) (a v wy : Nat) (hlo : E.2.2 ≤ wN w) (hb : mB a v) (hw : wy ≤ 4000000) : Ct l E yX10_ticksFor cX10_ticksFor 12 (some .long) ({ frames := 2, cells := 0, slots := 0, locals := 56 } : Room) [.long (lN a), .long (lN v), .long (lN wy)] w 0 0 (Px (some (.long (lN (lsN a v wy)))) w) := by
  refine ct_in (il := il_X10_ticksFor) (by decide) dk_X10_ticksFor (Nat.le_of_ble_eq_true rfl) hlo ?_
  intro X h hq

  have key : ∀ (f lo hi : Nat), lo ≤ hi → hi ≤ 4000000 → hi - lo < 2 ^ f → srN (gnP a v wy) f lo hi = lsN a v wy → G X 0 0 7 (lf [(0, .long (lN a)), (2, .long (lN v)), (4, .long (lN wy)), (6, .long (lN lo)), (8, .long (lN hi))]) [] w := by
    intro f
    induction f with
    | zero =>
      intro lo hi h1 h2 h3 h4
      have hge : ¬ lo < hi := by omega
      have hc : 0 ≤ lg_cmp (lN lo) (lN hi) := (lg_cmp_ge _ _).mpr ((lN_le (by omega) (by omega)).mpr (by omega))
      have h5 : lo = lsN a v wy := h4
      refine g_lload h (i := 4) rfl rfl ?_
      refine g_lload h (i := 5) rfl rfl ?_
      refine g_lcmp h (i := 6) rfl ?_
      refine g_if_ge h (i := 7) 57 rfl rfl (fun c_12 => ?_) (fun c_12 => absurd hc c_12)
      refine g_lload h (i := 30) rfl rfl ?_
      exact g_lret hq h (i := 31) rfl (⟨by rw [h5], rfl⟩)
    | succ f ih =>
      intro lo hi h1 h2 h3 h4
      rw [Nat.pow_succ] at h3
      by_cases hlt : lo < hi
      · rw [sr_step _ hlt] at h4
        have hc : ¬ 0 ≤ lg_cmp (lN lo) (lN hi) := fun q => absurd ((lN_le (by omega) (by omega)).mp ((lg_cmp_ge _ _).mp q)) (by omega)
        obtain ⟨n, hn⟩ : ∃ n, n = (lo + hi) / 2 := ⟨_, rfl⟩
        rw [← hn] at h4
        have hmid : (lN lo + lN hi) / 2 = lN n := by rw [lN_add, hn]; exact pk_lDiv (b := 2) (by omega) (by omega) (by omega)
        have hgn := gn_nn a v n
        have hgl := gn_le a v n n (Nat.le_refl _)
        have bv := hb.2.2.2
        have hgm : v * n ≤ 100000 * 4000000 := Nat.mul_le_mul bv (by omega)
        by_cases hP : wy ≤ gnN a v n n
        · have hc2 : ¬ lg_cmp (lN (gnN a v n n)) (lN wy) < 0 := fun q => absurd ((pk_lLE (by omega) (by omega)).mpr hP) (Int64.not_le.mpr ((lg_cmp_lt _ _).mp q))
          rw [if_pos (by unfold gnP; rw [← hgn]; exact decide_eq_true hP)] at h4
          refine g_lload h (i := 4) rfl rfl ?_
          refine g_lload h (i := 5) rfl rfl ?_
          refine g_lcmp h (i := 6) rfl ?_
          refine g_if_ge h (i := 7) 57 rfl rfl (fun c_12 => absurd c_12 hc) (fun c_12 => ?_)
          refine g_lload h (i := 8) rfl rfl ?_
          refine g_lload h (i := 9) rfl rfl ?_
          refine g_ladd h (i := 10) rfl ?_
          refine g_ldc2 h (i := 11) rfl k_X10_168 ?_
          refine g_ldiv h (i := 12) rfl (by decide) ?_
          refine g_eql (lN n) hmid ?_
          refine g_lstore h (i := 13) rfl hq rfl ?_
          refine g_lload_n h (i := 14) rfl rfl ?_
          refine g_lload_n h (i := 15) rfl rfl ?_
          refine g_lload h (i := 16) rfl rfl ?_
          refine g_lload h (i := 17) rfl rfl ?_
          refine g_callSx h hq (i := 18) rfl ms_X10_174 (ct_X10_gone l E _ a v n n hlo hb (by omega) (Nat.le_refl _)) rfl rfl ⟨rfl, rfl, Nat.le_of_ble_eq_true rfl, Nat.le_of_ble_eq_true rfl⟩ (Nat.le_of_ble_eq_true rfl) ⟨Nat.zero_le _, Nat.zero_le _⟩ ?_
          refine g_lload h (i := 19) rfl rfl ?_
          refine g_lcmp h (i := 20) rfl ?_
          refine g_if_lt h (i := 21) 48 rfl rfl (fun c_38 => absurd c_38 hc2) (fun c_38 => ?_)
          refine g_lload h (i := 22) rfl rfl ?_
          refine g_lstore h (i := 23) rfl hq rfl ?_
          refine g_goto h (i := 24) 54 rfl rfl ?_
          refine g_goto h (i := 29) 7 rfl rfl ?_
          exact g_lv [(0, .long (lN a)), (2, .long (lN v)), (4, .long (lN wy)), (6, .long (lN (lo))), (8, .long (lN (n)))] ⟨rfl, rfl, rfl, rfl, rfl, trivial⟩ (ih (lo) (n) (by omega) (by omega) (by omega) h4)
        · have hc2 : lg_cmp (lN (gnN a v n n)) (lN wy) < 0 := (lg_cmp_lt _ _).mpr (Int64.not_le.mp (fun q => hP ((pk_lLE (by omega) (by omega)).mp q)))
          rw [if_neg (by unfold gnP; rw [← hgn]; simp only [decide_eq_true_eq]; exact hP)] at h4
          refine g_lload h (i := 4) rfl rfl ?_
          refine g_lload h (i := 5) rfl rfl ?_
          refine g_lcmp h (i := 6) rfl ?_
          refine g_if_ge h (i := 7) 57 rfl rfl (fun c_12 => absurd c_12 hc) (fun c_12 => ?_)
          refine g_lload h (i := 8) rfl rfl ?_
          refine g_lload h (i := 9) rfl rfl ?_
          refine g_ladd h (i := 10) rfl ?_
          refine g_ldc2 h (i := 11) rfl k_X10_168 ?_
          refine g_ldiv h (i := 12) rfl (by decide) ?_
          refine g_eql (lN n) hmid ?_
          refine g_lstore h (i := 13) rfl hq rfl ?_
          refine g_lload_n h (i := 14) rfl rfl ?_
          refine g_lload_n h (i := 15) rfl rfl ?_
          refine g_lload h (i := 16) rfl rfl ?_
          refine g_lload h (i := 17) rfl rfl ?_
          refine g_callSx h hq (i := 18) rfl ms_X10_174 (ct_X10_gone l E _ a v n n hlo hb (by omega) (Nat.le_refl _)) rfl rfl ⟨rfl, rfl, Nat.le_of_ble_eq_true rfl, Nat.le_of_ble_eq_true rfl⟩ (Nat.le_of_ble_eq_true rfl) ⟨Nat.zero_le _, Nat.zero_le _⟩ ?_
          refine g_lload h (i := 19) rfl rfl ?_
          refine g_lcmp h (i := 20) rfl ?_
          refine g_if_lt h (i := 21) 48 rfl rfl (fun c_38 => ?_) (fun c_38 => absurd hc2 c_38)
          refine g_lload h (i := 25) rfl rfl ?_
          refine g_lconst h (i := 26) rfl (v := 1) (by rfl) ?_
          refine g_ladd h (i := 27) rfl ?_
          refine g_lstore h (i := 28) rfl hq rfl ?_
          refine g_goto h (i := 29) 7 rfl rfl ?_
          exact g_lv [(0, .long (lN a)), (2, .long (lN v)), (4, .long (lN wy)), (6, .long (lN (n + 1))), (8, .long (lN (hi)))] ⟨rfl, rfl, rfl, congrArg (fun z => some (Value.long z)) (lN_1 n), rfl, trivial⟩ (ih (n + 1) (hi) (by omega) (by omega) (by omega) h4)
      · rw [sr_done _ hlt] at h4
        have hc : 0 ≤ lg_cmp (lN lo) (lN hi) := (lg_cmp_ge _ _).mpr ((lN_le (by omega) (by omega)).mpr (by omega))
        refine g_lload h (i := 4) rfl rfl ?_
        refine g_lload h (i := 5) rfl rfl ?_
        refine g_lcmp h (i := 6) rfl ?_
        refine g_if_ge h (i := 7) 57 rfl rfl (fun c_12 => ?_) (fun c_12 => absurd hc c_12)
        refine g_lload h (i := 30) rfl rfl ?_
        exact g_lret hq h (i := 31) rfl (⟨by rw [h4], rfl⟩)
  refine g_lconst h (i := 0) rfl (v := 0) (by rfl) ?_
  refine g_lstore h (i := 1) rfl hq rfl ?_
  refine g_lload h (i := 2) rfl rfl ?_
  refine g_lstore h (i := 3) rfl hq rfl ?_
  exact g_lv [(0, .long (lN a)), (2, .long (lN v)), (4, .long (lN wy)), (6, .long (lN 0)), (8, .long (lN wy))] ⟨rfl, rfl, rfl, rfl, rfl, trivial⟩ (key 32 0 wy (by omega) hw (by omega) rfl)
-- the least ticks that go the way
set_option maxRecDepth 100000 in
set_option maxHeartbeats 4000000 in
theorem ct_X4_leastTicks (l : Launch) (E : EE) (w : Wd) (wy v a : Nat) (hlo : E.2.2 ≤ wN w) (hb : mB a v) (hw : wy ≤ 4000000) : Ct l E yX4_leastTicks cX4_leastTicks 8 (some .int) ({ frames := 1, cells := 0, slots := 0, locals := 23 } : Room) [.int (nI wy), .int (nI v), .int (nI a)] w 0 0 (Px (some (.int (nI (lsN a v wy)))) w) := by
  refine ct_in (il := il_X4_leastTicks) (by decide) dk_X4_leastTicks (Nat.le_of_ble_eq_true rfl) hlo ?_
  intro X h hq

  have key : ∀ (f c lo hi : Nat), c + f = 32 → lo ≤ hi → hi ≤ 4000000 → srN (gnP a v wy) f lo hi = lsN a v wy → G X 0 0 8 (lf [(0, .int (nI wy)), (1, .int (nI v)), (2, .int (nI a)), (3, .int (nI lo)), (4, .int (nI hi)), (5, .int (nI c))]) [] w := by
    intro f
    induction f with
    | zero =>
      intro c lo hi hc h1 h2 h4
      have hc32 : c = 32 := by omega
      subst hc32
      have h5 : lo = lsN a v wy := h4
      refine g_iload h (i := 6) rfl rfl ?_
      refine g_bipush h (i := 7) rfl (v := 32) (by rfl) ?_
      refine g_icmp_ge h (i := 8) 79 rfl rfl (fun c_12 => ?_) (fun c_12 => absurd (by decide : (32 : Int32) ≤ nI 32) c_12)
      refine g_iload_n h (i := 48) rfl rfl ?_
      exact g_iret hq h (i := 49) rfl (⟨by rw [h5], rfl⟩)
    | succ f ih =>
      intro c lo hi hc h1 h2 h4
      have hc32 : ¬ (32 : Int32) ≤ nI c := nI_ge (b := 32) (by omega) (by omega)
      by_cases hlt : lo < hi
      · rw [sr_step _ hlt] at h4
        have hc3 : ¬ nI hi ≤ nI lo := nI_ge hlt (by omega)
        obtain ⟨n, hn⟩ : ∃ n, n = (lo + hi) / 2 := ⟨_, rfl⟩
        rw [← hn] at h4
        have hmid : nI lo + (nI hi - nI lo) / 2 = nI n := by
          rw [pk_sub h1, show (nI (hi - lo) / 2 : Int32) = nI ((hi - lo) / 2) from pk_div (d := 2) (by omega) (by omega) (by omega), nI_add, hn, show lo + (hi - lo) / 2 = (lo + hi) / 2 by omega]
        obtain ⟨hv1, hv2, hv3⟩ := hvN (n := n) (by omega)
        have hgn := gn_nn a v n
        have hgl := gn_le a v n n (Nat.le_refl _)
        have bv := hb.2.2.2
        have hgm : v * n ≤ 100000 * 4000000 := Nat.mul_le_mul bv (by omega)
        have hsum : lN (rsN a v (n / 2)) + lN (rsN a v (n - n / 2)) = lN (gnN a v n n) := by rw [lN_add, hgn]
        have lw : (nI wy).toInt64 = lN wy := nI_l (by omega)
        by_cases hP : wy ≤ gnN a v n n
        · have hc2 : ¬ lg_cmp (lN (gnN a v n n)) (lN wy) < 0 := fun q => absurd ((pk_lLE (by omega) (by omega)).mpr hP) (Int64.not_le.mpr ((lg_cmp_lt _ _).mp q))
          rw [if_pos (by unfold gnP; rw [← hgn]; exact decide_eq_true hP)] at h4
          refine g_iload h (i := 6) rfl rfl ?_
          refine g_bipush h (i := 7) rfl (v := 32) (by rfl) ?_
          refine g_icmp_ge h (i := 8) 79 rfl rfl (fun c_12 => absurd c_12 hc32) (fun c_12 => ?_)
          refine g_iload_n h (i := 9) rfl rfl ?_
          refine g_iload h (i := 10) rfl rfl ?_
          refine g_icmp_ge h (i := 11) 79 rfl rfl (fun c_18 => absurd c_18 hc3) (fun c_18 => ?_)
          refine g_iload_n h (i := 12) rfl rfl ?_
          refine g_iload h (i := 13) rfl rfl ?_
          refine g_iload_n h (i := 14) rfl rfl ?_
          refine g_isub h (i := 15) rfl ?_
          refine g_iconst h (i := 16) rfl (v := 2) (by rfl) ?_
          refine g_idiv h (i := 17) rfl (by decide) ?_
          refine g_iadd h (i := 18) rfl ?_
          refine g_eqi (nI n) hmid ?_
          refine g_istore h (i := 19) rfl hq rfl ?_
          refine g_iload h (i := 20) rfl rfl ?_
          refine g_iconst h (i := 21) rfl (v := 2) (by rfl) ?_
          refine g_idiv h (i := 22) rfl (by decide) ?_
          refine g_eqi (nI (n / 2)) hv1 ?_
          refine g_istore h (i := 23) rfl hq rfl ?_
          refine g_iload h (i := 24) rfl rfl ?_
          refine g_iload_n h (i := 25) rfl rfl ?_
          refine g_iload_n h (i := 26) rfl rfl ?_
          refine g_callSx h hq (i := 27) rfl ms_X4_49 (ct_X4_climb l E _ (n / 2) v a hlo hb (by omega)) rfl rfl ⟨rfl, rfl, Nat.le_of_ble_eq_true rfl, Nat.le_of_ble_eq_true rfl⟩ (Nat.le_of_ble_eq_true rfl) ⟨Nat.zero_le _, Nat.zero_le _⟩ ?_
          refine g_iload h (i := 28) rfl rfl ?_
          refine g_iload h (i := 29) rfl rfl ?_
          refine g_isub h (i := 30) rfl ?_
          refine g_eqi (nI (n - n / 2)) hv2 ?_
          refine g_iload_n h (i := 31) rfl rfl ?_
          refine g_iload_n h (i := 32) rfl rfl ?_
          refine g_callSx h hq (i := 33) rfl ms_X4_49 (ct_X4_climb l E _ (n - n / 2) v a hlo hb (by omega)) rfl rfl ⟨rfl, rfl, Nat.le_of_ble_eq_true rfl, Nat.le_of_ble_eq_true rfl⟩ (Nat.le_of_ble_eq_true rfl) ⟨Nat.zero_le _, Nat.zero_le _⟩ ?_
          refine g_ladd h (i := 34) rfl ?_
          refine g_eql (lN (gnN a v n n)) hsum ?_
          refine g_iload_n h (i := 35) rfl rfl ?_
          refine g_i2l h (i := 36) rfl ?_
          refine g_eql (lN wy) lw ?_
          refine g_lcmp h (i := 37) rfl ?_
          refine g_if_lt h (i := 38) 68 rfl rfl (fun c_58 => absurd c_58 hc2) (fun c_58 => ?_)
          refine g_iload h (i := 39) rfl rfl ?_
          refine g_istore h (i := 40) rfl hq rfl ?_
          refine g_goto h (i := 41) 73 rfl rfl ?_
          refine g_iinc h (i := 46) rfl rfl (dv := 1) (by rfl) ?_
          refine g_goto h (i := 47) 8 rfl rfl ?_
          exact g_lv [(0, .int (nI wy)), (1, .int (nI v)), (2, .int (nI a)), (3, .int (nI (lo))), (4, .int (nI (n))), (5, .int (nI (c + 1)))] ⟨rfl, rfl, rfl, rfl, rfl, congrArg (fun z => some (Value.int z)) (nI_1 c), trivial⟩ (ih (c + 1) (lo) (n) (by omega) (by omega) (by omega) h4)
        · have hc2 : lg_cmp (lN (gnN a v n n)) (lN wy) < 0 := (lg_cmp_lt _ _).mpr (Int64.not_le.mp (fun q => hP ((pk_lLE (by omega) (by omega)).mp q)))
          rw [if_neg (by unfold gnP; rw [← hgn]; simp only [decide_eq_true_eq]; exact hP)] at h4
          refine g_iload h (i := 6) rfl rfl ?_
          refine g_bipush h (i := 7) rfl (v := 32) (by rfl) ?_
          refine g_icmp_ge h (i := 8) 79 rfl rfl (fun c_12 => absurd c_12 hc32) (fun c_12 => ?_)
          refine g_iload_n h (i := 9) rfl rfl ?_
          refine g_iload h (i := 10) rfl rfl ?_
          refine g_icmp_ge h (i := 11) 79 rfl rfl (fun c_18 => absurd c_18 hc3) (fun c_18 => ?_)
          refine g_iload_n h (i := 12) rfl rfl ?_
          refine g_iload h (i := 13) rfl rfl ?_
          refine g_iload_n h (i := 14) rfl rfl ?_
          refine g_isub h (i := 15) rfl ?_
          refine g_iconst h (i := 16) rfl (v := 2) (by rfl) ?_
          refine g_idiv h (i := 17) rfl (by decide) ?_
          refine g_iadd h (i := 18) rfl ?_
          refine g_eqi (nI n) hmid ?_
          refine g_istore h (i := 19) rfl hq rfl ?_
          refine g_iload h (i := 20) rfl rfl ?_
          refine g_iconst h (i := 21) rfl (v := 2) (by rfl) ?_
          refine g_idiv h (i := 22) rfl (by decide) ?_
          refine g_eqi (nI (n / 2)) hv1 ?_
          refine g_istore h (i := 23) rfl hq rfl ?_
          refine g_iload h (i := 24) rfl rfl ?_
          refine g_iload_n h (i := 25) rfl rfl ?_
          refine g_iload_n h (i := 26) rfl rfl ?_
          refine g_callSx h hq (i := 27) rfl ms_X4_49 (ct_X4_climb l E _ (n / 2) v a hlo hb (by omega)) rfl rfl ⟨rfl, rfl, Nat.le_of_ble_eq_true rfl, Nat.le_of_ble_eq_true rfl⟩ (Nat.le_of_ble_eq_true rfl) ⟨Nat.zero_le _, Nat.zero_le _⟩ ?_
          refine g_iload h (i := 28) rfl rfl ?_
          refine g_iload h (i := 29) rfl rfl ?_
          refine g_isub h (i := 30) rfl ?_
          refine g_eqi (nI (n - n / 2)) hv2 ?_
          refine g_iload_n h (i := 31) rfl rfl ?_
          refine g_iload_n h (i := 32) rfl rfl ?_
          refine g_callSx h hq (i := 33) rfl ms_X4_49 (ct_X4_climb l E _ (n - n / 2) v a hlo hb (by omega)) rfl rfl ⟨rfl, rfl, Nat.le_of_ble_eq_true rfl, Nat.le_of_ble_eq_true rfl⟩ (Nat.le_of_ble_eq_true rfl) ⟨Nat.zero_le _, Nat.zero_le _⟩ ?_
          refine g_ladd h (i := 34) rfl ?_
          refine g_eql (lN (gnN a v n n)) hsum ?_
          refine g_iload_n h (i := 35) rfl rfl ?_
          refine g_i2l h (i := 36) rfl ?_
          refine g_eql (lN wy) lw ?_
          refine g_lcmp h (i := 37) rfl ?_
          refine g_if_lt h (i := 38) 68 rfl rfl (fun c_58 => ?_) (fun c_58 => absurd hc2 c_58)
          refine g_iload h (i := 42) rfl rfl ?_
          refine g_iconst h (i := 43) rfl (v := 1) (by rfl) ?_
          refine g_iadd h (i := 44) rfl ?_
          refine g_istore_n h (i := 45) rfl hq rfl ?_
          refine g_iinc h (i := 46) rfl rfl (dv := 1) (by rfl) ?_
          refine g_goto h (i := 47) 8 rfl rfl ?_
          exact g_lv [(0, .int (nI wy)), (1, .int (nI v)), (2, .int (nI a)), (3, .int (nI (n + 1))), (4, .int (nI (hi))), (5, .int (nI (c + 1)))] ⟨rfl, rfl, rfl, congrArg (fun z => some (Value.int z)) (nI_1 n), rfl, congrArg (fun z => some (Value.int z)) (nI_1 c), trivial⟩ (ih (c + 1) (n + 1) (hi) (by omega) (by omega) (by omega) h4)
      · rw [sr_done _ hlt] at h4
        have hc3 : nI hi ≤ nI lo := nI_le (by omega) (by omega)
        refine g_iload h (i := 6) rfl rfl ?_
        refine g_bipush h (i := 7) rfl (v := 32) (by rfl) ?_
        refine g_icmp_ge h (i := 8) 79 rfl rfl (fun c_12 => absurd c_12 hc32) (fun c_12 => ?_)
        refine g_iload_n h (i := 9) rfl rfl ?_
        refine g_iload h (i := 10) rfl rfl ?_
        refine g_icmp_ge h (i := 11) 79 rfl rfl (fun c_18 => ?_) (fun c_18 => absurd hc3 c_18)
        refine g_iload_n h (i := 48) rfl rfl ?_
        exact g_iret hq h (i := 49) rfl (⟨by rw [h4], rfl⟩)
  refine g_iconst h (i := 0) rfl (v := 0) (by rfl) ?_
  refine g_istore_n h (i := 1) rfl hq rfl ?_
  refine g_iload_n h (i := 2) rfl rfl ?_
  refine g_istore h (i := 3) rfl hq rfl ?_
  refine g_iconst h (i := 4) rfl (v := 0) (by rfl) ?_
  refine g_istore h (i := 5) rfl hq rfl ?_
  exact g_lv [(0, .int (nI wy)), (1, .int (nI v)), (2, .int (nI a)), (3, .int (nI 0)), (4, .int (nI wy)), (5, .int (nI 0))] ⟨rfl, rfl, rfl, rfl, rfl, rfl, trivial⟩ (key 32 0 0 wy (by omega) (by omega) hw rfl)
