theorem cv_lt_g : Op.cmpValue (some .lt) .g = -1 := by decide
theorem cv_gt_g : Op.cmpValue (some .gt) .g = 1 := by decide
theorem cv_eq_g : Op.cmpValue (some .eq) .g = 0 := by decide
theorem cv_lt_l : Op.cmpValue (some .lt) .l = -1 := by decide
theorem cv_gt_l : Op.cmpValue (some .gt) .l = 1 := by decide
theorem cv_eq_l : Op.cmpValue (some .eq) .l = 0 := by decide
theorem fkd_fg {c : Nat} {k : Int} (hc : fpC c) (h1 : -1074 ≤ k) (h2 : k ≤ 800) : vf_n64 (fkd c k) := by
  have := hc.2
  refine FG.n64 (G := 0) (E := 2000) ⟨_, _, _, fkd_k hc h1 (by omega), by rw [Nat.pow_zero]; exact Nat.one_dvd _, ?_⟩
  refine Nat.le_trans (Nat.mul_le_mul_right _ (Nat.le_of_lt hc.2)) ?_
  rw [show (9007199254740992 : Nat) = 2 ^ 53 by decide, ← Nat.pow_add]
  exact Nat.pow_le_pow_right (by omega) (by omega)
/-- exponent and figures, put together -/
theorem bt_put {e c : Nat} (he : e < 2048) (hc : fpC c) : (lN e <<< ((52 : Int32).toInt64 &&& 63)) ||| (lN c &&& 4503599627370495) = lN (e * 4503599627370496 + (c - 4503599627370496)) := by
  have h1 := hc.1
  have h2 := hc.2
  rw [show ((52 : Int32).toInt64 &&& 63) = ((nI 52).toInt64 &&& 63) from rfl, wb_shl e (k := 52) (by omega)]
  rw [show (4503599627370495 : Int64) = lN (2 ^ 52 - 1) from rfl, wb_mask (n := c) (k := 52) (by omega) (by omega)]
  rw [show (2 : Nat) ^ 52 = 4503599627370496 by decide]
  rw [g_or (k := 52) (p := 4503599627370496) (by decide) (by omega) (by omega), show c % 4503599627370496 = c - 4503599627370496 by omega]
theorem bt_sign {n : Nat} (h : n < 9223372036854775808) : lN n ||| (-9223372036854775808) = lN (2048 * 4503599627370496 + n) := by
  rw [show (-9223372036854775808 : Int64) = lN (1 * 9223372036854775808) from rfl, wb_or (by omega) (by omega), Nat.or_comm, ← wb_or (by omega) (by omega), g_or (k := 63) (by decide) h (by omega)]
theorem bt_shl {e : Nat} (he : e < 2048) : (nI e).toInt64 <<< ((52 : Int32).toInt64 &&& 63) = lN (e * 4503599627370496) := by
  rw [nI_l (by omega), show ((52 : Int32).toInt64 &&& 63) = ((nI 52).toInt64 &&& 63) from rfl, wb_shl e (k := 52) (by omega)]
theorem fk_0 : fk 0 = .fin false 0 (-1074) := kf_0
theorem d0eq : (0 : UInt64) = FP.dconst0 := rfl
-- the bits of a double
set_option maxRecDepth 100000 in
set_option maxHeartbeats 4000000 in
theorem ct_X9_bitsOf (l : Launch) (E : EE) (w : Wd) (v : UInt64) (hlo : E.2.2 ≤ wN w) (hv : FG 52 1120 v) (hz : NZ v) : Ct l E yX9_bitsOf cX9_bitsOf 8 (some .long) ({ frames := 0, cells := 0, slots := 0, locals := 0 } : Room) [.double v] w 0 0 (Px (some (.long v.toInt64)) w) := by
  refine ct_in (il := il_X9_bitsOf) (by decide) dk_X9_bitsOf (Nat.le_of_ble_eq_true rfl) hlo ?_
  intro X h hq

  rcases fg_cases hv hz with rfl | ⟨s, c, q, h1, hc, hq1, hq2⟩
  · have e0 : FP.dcmp 0 FP.dconst0 = some .eq := by rw [fk_cmp0 fk_0]; rfl
    refine g_dload_n h (i := 0) rfl rfl ?_
    refine g_dconst0 h (i := 1) rfl ?_
    refine g_dcmp h (i := 2) rfl ?_
    refine g_eqi 0 (by rw [e0]; rfl) ?_
    refine g_if_ne h (i := 3) 8 rfl rfl (fun c_3 => absurd rfl c_3) (fun c_3 => ?_)
    refine g_lconst h (i := 4) rfl (v := 0) (by rfl) ?_
    exact g_lret hq h (i := 5) rfl (⟨rfl, rfl⟩)
  · have hc0 : ¬ c = 0 := by have := hc.1; omega
    have hcmp := fk_cmp0 h1
    rw [if_neg hc0] at hcmp
    have hbits := fk_bits h1 hc hq2
    obtain ⟨n, hn⟩ : ∃ n : Nat, n = (-q).toNat := ⟨_, rfl⟩
    have hqn : q = -(n : Int) := by omega
    have hn1 : n ≤ 1074 := by omega
    have hqe : (q + 1075).toNat = 1075 - n := by omega
    rw [hqe] at hbits
    have hE : 1075 - n < 2048 := by omega
    -- behind the loop
    have k2 : G X 0 0 64 (lf [(0, .double v), (2, .double (fkd c 0)), (4, .long (lN (1075 - n)))]) [] w := by
      have hm : (1075 - n) * 4503599627370496 + (c - 4503599627370496) < 9223372036854775808 := by have := hc.2; omega
      cases s
      · skip
        refine g_lload h (i := 37) rfl rfl ?_
        refine g_bipush h (i := 38) rfl (v := 52) (by rfl) ?_
        refine g_lshl h (i := 39) rfl ?_
        refine g_dload_n h (i := 40) rfl rfl ?_
        refine g_d2l h (i := 41) rfl ?_
        refine g_eql (lN c) (fkd_d2l hc) ?_
        refine g_ldc2 h (i := 42) rfl k_X9_300 ?_
        refine g_land h (i := 43) rfl ?_
        refine g_lor h (i := 44) rfl ?_
        refine g_eql (lN ((1075 - n) * 4503599627370496 + (c - 4503599627370496))) (bt_put hE hc) ?_
        refine g_lstore h (i := 45) rfl hq rfl ?_
        refine g_dload_n h (i := 46) rfl rfl ?_
        refine g_dconst0 h (i := 47) rfl ?_
        refine g_dcmp h (i := 48) rfl ?_
        refine g_eqi (1) (by rw [hcmp]; rfl) ?_
        refine g_if_ge h (i := 49) 93 rfl rfl (fun c_81 => ?_) (fun c_81 => absurd (by decide : (0 : Int32) ≤ 1) c_81)
        refine g_lload h (i := 54) rfl rfl ?_
        exact g_lret hq h (i := 55) rfl (⟨congrArg (fun z => some (Value.long z)) (by rw [hbits, show false.toNat = 0 from rfl, Nat.zero_mul, Nat.zero_add]), rfl⟩)
      · skip
        refine g_lload h (i := 37) rfl rfl ?_
        refine g_bipush h (i := 38) rfl (v := 52) (by rfl) ?_
        refine g_lshl h (i := 39) rfl ?_
        refine g_dload_n h (i := 40) rfl rfl ?_
        refine g_d2l h (i := 41) rfl ?_
        refine g_eql (lN c) (fkd_d2l hc) ?_
        refine g_ldc2 h (i := 42) rfl k_X9_300 ?_
        refine g_land h (i := 43) rfl ?_
        refine g_lor h (i := 44) rfl ?_
        refine g_eql (lN ((1075 - n) * 4503599627370496 + (c - 4503599627370496))) (bt_put hE hc) ?_
        refine g_lstore h (i := 45) rfl hq rfl ?_
        refine g_dload_n h (i := 46) rfl rfl ?_
        refine g_dconst0 h (i := 47) rfl ?_
        refine g_dcmp h (i := 48) rfl ?_
        refine g_eqi (-1) (by rw [hcmp]; rfl) ?_
        refine g_if_ge h (i := 49) 93 rfl rfl (fun c_81 => absurd c_81 (by decide)) (fun c_81 => ?_)
        refine g_lload h (i := 50) rfl rfl ?_
        refine g_ldc2 h (i := 51) rfl k_X9_304 ?_
        refine g_lor h (i := 52) rfl ?_
        refine g_goto h (i := 53) 95 rfl rfl ?_
        exact g_lret hq h (i := 55) rfl (⟨congrArg (fun z => some (Value.long z)) (by rw [hbits, bt_sign hm, show true.toNat = 1 from rfl, Nat.one_mul, Nat.add_mul, Nat.add_assoc]), rfl⟩)
    have k1 : ∀ (d i : Nat) (k : Int), k = -(d : Int) → i + d = n → G X 0 0 30 (lf [(0, .double v), (2, .double (fkd c k)), (4, .long (lN (1075 - i))), (6, .int (nI i))]) [] w := by
      intro d
      induction d with
      | zero =>
        intro i k hk hi
        have hk0 : k = 0 := by omega
        have hi0 : i = n := by omega
        subst hk0
        subst hi0
        have h1100 : ¬ (1100 : Int32) ≤ nI i := nI_ge (b := 1100) (by omega) (by omega)
        have hge : 0 ≤ Op.cmpValue (FP.dcmp (fkd c 0) 4841369599423283200) .g := by
          rcases fkd_ge hc with e | e
          · rw [e, cv_gt_g]; decide
          · rw [e, cv_eq_g]; decide
        refine g_iload h (i := 20) rfl rfl ?_
        refine g_sipush h (i := 21) rfl (v := 1100) (by rfl) ?_
        refine g_icmp_ge h (i := 22) 64 rfl rfl (fun c_35 => absurd c_35 h1100) (fun c_35 => ?_)
        refine g_dload_n h (i := 23) rfl rfl ?_
        refine g_ldc2d h (i := 24) rfl k_X9_296 ?_
        refine g_dcmp h (i := 25) rfl ?_
        refine g_if_ge h (i := 26) 64 rfl rfl (fun c_43 => ?_) (fun c_43 => absurd hge c_43)
        exact g_lv [(0, .double v), (2, .double (fkd c 0)), (4, .long (lN (1075 - i)))] ⟨rfl, rfl, rfl, trivial⟩ k2
      | succ d ih =>
        intro i k hk hi
        have h1100 : ¬ (1100 : Int32) ≤ nI i := nI_ge (b := 1100) (by omega) (by omega)
        have hm := fkd_mul hc (k := k) (by omega) (by omega)
        have hnm : vf_n64 (FP.dmul (fkd c k) 4611686018427387904) := by rw [hm]; exact fkd_fg hc (by omega) (by omega)
        have hlt : Op.cmpValue (FP.dcmp (fkd c k) 4841369599423283200) .g = -1 := by rw [fkd_lt hc (by omega) (by omega)]; rfl
        have hsub : lN (1075 - i) - 1 = lN (1075 - (i + 1)) := lN_sub (a := 1075 - i) (b := 1) (by omega)
        refine g_iload h (i := 20) rfl rfl ?_
        refine g_sipush h (i := 21) rfl (v := 1100) (by rfl) ?_
        refine g_icmp_ge h (i := 22) 64 rfl rfl (fun c_35 => absurd c_35 h1100) (fun c_35 => ?_)
        refine g_dload_n h (i := 23) rfl rfl ?_
        refine g_ldc2d h (i := 24) rfl k_X9_296 ?_
        refine g_dcmp h (i := 25) rfl ?_
        refine g_eqi (-1) hlt ?_
        refine g_if_ge h (i := 26) 64 rfl rfl (fun c_43 => absurd c_43 (by decide)) (fun c_43 => ?_)
        refine g_dload_n h (i := 27) rfl rfl ?_
        refine g_ldc2d h (i := 28) rfl k_X9_298 ?_
        refine g_dmul h (i := 29) rfl (hnm) ?_
        refine g_eqd (fkd c (k + 1)) hm ?_
        refine g_dstore_n h (i := 30) rfl hq rfl ?_
        refine g_lload h (i := 31) rfl rfl ?_
        refine g_lconst h (i := 32) rfl (v := 1) (by rfl) ?_
        refine g_lsub h (i := 33) rfl ?_
        refine g_eql (lN (1075 - (i + 1))) hsub ?_
        refine g_lstore h (i := 34) rfl hq rfl ?_
        refine g_iinc h (i := 35) rfl rfl (dv := 1) (by rfl) ?_
        refine g_goto h (i := 36) 30 rfl rfl ?_
        exact g_lv [(0, .double v), (2, .double (fkd c (k + 1))), (4, .long (lN (1075 - (i + 1)))), (6, .int (nI (i + 1)))] ⟨rfl, rfl, rfl, congrArg (fun z => some (Value.int z)) (nI_1 i), trivial⟩ (ih (i + 1) (k + 1) (by omega) (by omega))
    have k0 : G X 0 0 21 (lf [(0, .double v)]) [.double (fkd c q)] w := by
      refine g_dstore_n h (i := 15) rfl hq rfl ?_
      refine g_ldc2 h (i := 16) rfl k_X9_294 ?_
      refine g_lstore h (i := 17) rfl hq rfl ?_
      refine g_iconst h (i := 18) rfl (v := 0) (by rfl) ?_
      refine g_istore h (i := 19) rfl hq rfl ?_
      exact g_lv [(0, .double v), (2, .double (fkd c q)), (4, .long (lN (1075 - 0))), (6, .int (nI 0))] ⟨rfl, rfl, rfl, rfl, trivial⟩ (k1 n 0 q hqn (by omega))
    cases s
    · skip
      refine g_dload_n h (i := 0) rfl rfl ?_
      refine g_dconst0 h (i := 1) rfl ?_
      refine g_dcmp h (i := 2) rfl ?_
      refine g_eqi (1) (by rw [hcmp]; rfl) ?_
      refine g_if_ne h (i := 3) 8 rfl rfl (fun c_3 => ?_) (fun c_3 => absurd c_3 (by decide))
      refine g_dload_n h (i := 6) rfl rfl ?_
      refine g_dconst0 h (i := 7) rfl ?_
      refine g_dcmp h (i := 8) rfl ?_
      refine g_eqi 1 (by rw [hcmp]; rfl) ?_
      refine g_if_ge h (i := 9) 20 rfl rfl (fun c_11 => ?_) (fun c_11 => absurd (by decide : (0 : Int32) ≤ 1) c_11)
      refine g_dload_n h (i := 14) rfl rfl ?_
      refine g_eqd (fkd c q) (fp_of h1) ?_
      exact g_lv [(0, .double v)] ⟨rfl, trivial⟩ k0
    · skip
      refine g_dload_n h (i := 0) rfl rfl ?_
      refine g_dconst0 h (i := 1) rfl ?_
      refine g_dcmp h (i := 2) rfl ?_
      refine g_eqi (-1) (by rw [hcmp]; rfl) ?_
      refine g_if_ne h (i := 3) 8 rfl rfl (fun c_3 => ?_) (fun c_3 => absurd c_3 (by decide))
      refine g_dload_n h (i := 6) rfl rfl ?_
      refine g_dconst0 h (i := 7) rfl ?_
      refine g_dcmp h (i := 8) rfl ?_
      refine g_eqi (-1) (by rw [hcmp]; rfl) ?_
      refine g_if_ge h (i := 9) 20 rfl rfl (fun c_11 => absurd c_11 (by decide)) (fun c_11 => ?_)
      refine g_dconst0 h (i := 10) rfl ?_
      refine g_dload_n h (i := 11) rfl rfl ?_
      refine g_dsub h (i := 12) rfl (by rw [fkd_neg h1 hc]; exact fkd_fg hc hq1 (by omega)) ?_
      refine g_goto h (i := 13) 21 rfl rfl ?_
      refine g_eqd (fkd c q) (fkd_neg h1 hc) ?_
      exact g_lv [(0, .double v)] ⟨rfl, trivial⟩ k0
theorem z_mul : FP.dmul 0 4611686018427387904 = 0 := by decide +kernel
theorem z_lt : Op.cmpValue (FP.dcmp 0 4841369599423283200) .g = -1 := by decide +kernel
theorem z_53 : Op.cmpValue (FP.dcmp 0 4845873199050653696) .l = -1 := by decide +kernel
theorem z_inf : FP.ddiv FP.dconst1 0 = 9218868437227405312 := by decide +kernel
theorem z_n1 : vf_n64 9218868437227405312 := by unfold vf_n64; decide
theorem z_n0 : vf_n64 0 := by unfold vf_n64; decide
theorem z_c : Op.cmpValue (FP.dcmp 9218868437227405312 FP.dconst0) .g = 1 := by decide +kernel
theorem z_l : FP.d2l 0 = lN 0 := by decide +kernel
-- the bits of a double
set_option maxRecDepth 100000 in
set_option maxHeartbeats 4000000 in
theorem ct_X10_bitsOf (l : Launch) (E : EE) (w : Wd) (v : UInt64) (hlo : E.2.2 ≤ wN w) (hv : FG 52 1120 v) (hz : NZ v) : Ct l E yX10_bitsOf cX10_bitsOf 10 (some .long) ({ frames := 0, cells := 0, slots := 0, locals := 0 } : Room) [.double v] w 0 0 (Px (some (.long v.toInt64)) w) := by
  refine ct_in (il := il_X10_bitsOf) (by decide) dk_X10_bitsOf (Nat.le_of_ble_eq_true rfl) hlo ?_
  intro X h hq

  rcases fg_cases hv hz with rfl | ⟨s, c, q, h1, hc, hq1, hq2⟩
  · have e0 : FP.dcmp 0 FP.dconst0 = some .eq := by rw [fk_cmp0 fk_0]; rfl
    have k2 : G X 0 0 89 (lf [(2, .int 0), (3, .double 0), (5, .int 1)]) [] w := by
      refine g_dload_n h (i := 51) rfl rfl ?_
      refine g_d2l h (i := 52) rfl ?_
      refine g_eql (lN 0) z_l ?_
      refine g_lstore h (i := 53) rfl hq rfl ?_
      refine g_lload h (i := 54) rfl rfl ?_
      refine g_ldc2 h (i := 55) rfl k_X10_151 ?_
      refine g_lcmp h (i := 56) rfl ?_
      refine g_if_ge h (i := 57) 107 rfl rfl (fun c_99 => absurd ((lg_cmp_ge _ _).mp c_99) (by decide)) (fun c_99 => ?_)
      refine g_lload h (i := 58) rfl rfl ?_
      refine g_goto h (i := 59) 120 rfl rfl ?_
      refine g_lstore h (i := 68) rfl hq rfl ?_
      refine g_iload_n h (i := 69) rfl rfl ?_
      refine g_if_eq h (i := 70) 135 rfl rfl (fun c_123 => ?_) (fun c_123 => absurd rfl c_123)
      refine g_lload h (i := 75) rfl rfl ?_
      exact g_lret hq h (i := 76) rfl (⟨rfl, rfl⟩)
    have k1 : ∀ d : Nat, d ≤ 1074 → G X 0 0 63 (lf [(2, .int 0), (3, .double 0), (5, .int (nI (d + 1)))]) [] w := by
      intro d
      induction d with
      | zero =>
        intro hd
        refine g_dload_n h (i := 38) rfl rfl ?_
        refine g_ldc2d h (i := 39) rfl k_X10_149 ?_
        refine g_dcmp h (i := 40) rfl ?_
        refine g_eqi (-1) z_lt ?_
        refine g_if_ge h (i := 41) 89 rfl rfl (fun c_68 => absurd c_68 (by decide)) (fun c_68 => ?_)
        refine g_iload h (i := 42) rfl rfl ?_
        refine g_iconst h (i := 43) rfl (v := 1) (by rfl) ?_
        refine g_icmp_le h (i := 44) 89 rfl rfl (fun c_74 => ?_) (fun c_74 => absurd (by decide : nI (0 + 1) ≤ 1) c_74)
        exact g_lv [(2, .int 0), (3, .double 0), (5, .int 1)] ⟨rfl, rfl, rfl, trivial⟩ k2
      | succ d ih =>
        intro hd
        have hgt : ¬ nI (d + 1 + 1) ≤ 1 := nI_ge (a := 1) (by omega) (by omega)
        refine g_dload_n h (i := 38) rfl rfl ?_
        refine g_ldc2d h (i := 39) rfl k_X10_149 ?_
        refine g_dcmp h (i := 40) rfl ?_
        refine g_eqi (-1) z_lt ?_
        refine g_if_ge h (i := 41) 89 rfl rfl (fun c_68 => absurd c_68 (by decide)) (fun c_68 => ?_)
        refine g_iload h (i := 42) rfl rfl ?_
        refine g_iconst h (i := 43) rfl (v := 1) (by rfl) ?_
        refine g_icmp_le h (i := 44) 89 rfl rfl (fun c_74 => absurd c_74 hgt) (fun c_74 => ?_)
        refine g_dload_n h (i := 45) rfl rfl ?_
        refine g_ldc2d h (i := 46) rfl k_X10_147 ?_
        refine g_dmul h (i := 47) rfl (by rw [z_mul]; exact z_n0) ?_
        refine g_eqd 0 z_mul ?_
        refine g_dstore_n h (i := 48) rfl hq rfl ?_
        refine g_iinc h (i := 49) rfl rfl (dv := -1) (by rfl) ?_
        refine g_goto h (i := 50) 63 rfl rfl ?_
        exact g_lv [(2, .int 0), (3, .double 0), (5, .int (nI (d + 1)))] ⟨rfl, rfl, congrArg (fun z => some (Value.int z)) (pk_m1 (d + 1)), trivial⟩ (ih (by omega))
    refine g_dload_n h (i := 0) rfl rfl ?_
    refine g_dconst0 h (i := 1) rfl ?_
    refine g_dcmp h (i := 2) rfl ?_
    refine g_eqi 0 (by rw [e0]; rfl) ?_
    refine g_if_lt h (i := 3) 20 rfl rfl (fun c_3 => absurd c_3 (by decide)) (fun c_3 => ?_)
    refine g_dload_n h (i := 4) rfl rfl ?_
    refine g_dconst0 h (i := 5) rfl ?_
    refine g_dcmp h (i := 6) rfl ?_
    refine g_eqi 0 (by rw [e0]; rfl) ?_
    refine g_if_ne h (i := 7) 24 rfl rfl (fun c_9 => absurd rfl c_9) (fun c_9 => ?_)
    refine g_dconst1 h (i := 8) rfl ?_
    refine g_dload_n h (i := 9) rfl rfl ?_
    refine g_ddiv h (i := 10) rfl (by rw [z_inf]; exact z_n1) ?_
    refine g_eqd 9218868437227405312 z_inf ?_
    refine g_dconst0 h (i := 11) rfl ?_
    refine g_dcmp h (i := 12) rfl ?_
    refine g_eqi 1 z_c ?_
    refine g_if_ge h (i := 13) 24 rfl rfl (fun c_17 => ?_) (fun c_17 => absurd (by decide : (0 : Int32) ≤ 1) c_17)
    refine g_iconst h (i := 16) rfl (v := 0) (by rfl) ?_
    refine g_istore_n h (i := 17) rfl hq rfl ?_
    refine g_iload_n h (i := 18) rfl rfl ?_
    refine g_if_eq h (i := 19) 36 rfl rfl (fun c_27 => ?_) (fun c_27 => absurd rfl c_27)
    refine g_dload_n h (i := 24) rfl rfl ?_
    refine g_dstore_n h (i := 25) rfl hq rfl ?_
    refine g_sipush h (i := 26) rfl (v := 1075) (by rfl) ?_
    refine g_istore h (i := 27) rfl hq rfl ?_
    refine g_dload_n h (i := 28) rfl rfl ?_
    refine g_ldc2d h (i := 29) rfl k_X10_145 ?_
    refine g_dcmp h (i := 30) rfl ?_
    refine g_eqi (-1) z_53 ?_
    refine g_if_lt h (i := 31) 63 rfl rfl (fun c_48 => ?_) (fun c_48 => absurd (by decide : (-1 : Int32) < 0) c_48)
    exact g_lv [(2, .int 0), (3, .double 0), (5, .int (nI (1074 + 1)))] ⟨rfl, rfl, rfl, trivial⟩ (k1 1074 (by omega))
  · have hc0 : ¬ c = 0 := by have := hc.1; omega
    have hcmp := fk_cmp0 h1
    rw [if_neg hc0] at hcmp
    have hbits := fk_bits h1 hc hq2
    obtain ⟨n, hn⟩ : ∃ n : Nat, n = (-q).toNat := ⟨_, rfl⟩
    have hqn : q = -(n : Int) := by omega
    have hn1 : n ≤ 1074 := by omega
    have hqe : (q + 1075).toNat = 1075 - n := by omega
    rw [hqe] at hbits
    have hE : 1075 - n < 2048 := by omega
    have hcl : (4503599627370496 : Int64) ≤ lN c := by rw [show (4503599627370496 : Int64) = lN 4503599627370496 from rfl, pk_lLE (by omega) (by have := hc.2; omega)]; exact hc.1
    have hcs : lN c - 4503599627370496 = lN (c - 4503599627370496) := lN_sub (b := 4503599627370496) hc.1
    cases s
    · skip
      have k2 : G X 0 0 89 (lf [(2, .int 0), (3, .double (fkd c 0)), (5, .int (nI (1075 - n)))]) [] w := by
        have hm : (1075 - n) * 4503599627370496 + (c - 4503599627370496) < 9223372036854775808 := by have := hc.2; omega
        have hadd : lN (c - 4503599627370496) + lN ((1075 - n) * 4503599627370496) = lN ((1075 - n) * 4503599627370496 + (c - 4503599627370496)) := by rw [lN_add, Nat.add_comm]
        refine g_dload_n h (i := 51) rfl rfl ?_
        refine g_d2l h (i := 52) rfl ?_
        refine g_eql (lN c) (fkd_d2l hc) ?_
        refine g_lstore h (i := 53) rfl hq rfl ?_
        refine g_lload h (i := 54) rfl rfl ?_
        refine g_ldc2 h (i := 55) rfl k_X10_151 ?_
        refine g_lcmp h (i := 56) rfl ?_
        refine g_if_ge h (i := 57) 107 rfl rfl (fun c_99 => ?_) (fun c_99 => absurd ((lg_cmp_ge _ _).mpr hcl) c_99)
        refine g_lload h (i := 60) rfl rfl ?_
        refine g_ldc2 h (i := 61) rfl k_X10_151 ?_
        refine g_lsub h (i := 62) rfl ?_
        refine g_eql (lN (c - 4503599627370496)) hcs ?_
        refine g_iload h (i := 63) rfl rfl ?_
        refine g_i2l h (i := 64) rfl ?_
        refine g_bipush h (i := 65) rfl (v := 52) (by rfl) ?_
        refine g_lshl h (i := 66) rfl ?_
        refine g_eql (lN ((1075 - n) * 4503599627370496)) (bt_shl hE) ?_
        refine g_ladd h (i := 67) rfl ?_
        refine g_eql (lN ((1075 - n) * 4503599627370496 + (c - 4503599627370496))) hadd ?_
        refine g_lstore h (i := 68) rfl hq rfl ?_
        refine g_iload_n h (i := 69) rfl rfl ?_
        refine g_if_eq h (i := 70) 135 rfl rfl (fun c_123 => ?_) (fun c_123 => absurd rfl c_123)
        refine g_lload h (i := 75) rfl rfl ?_
        exact g_lret hq h (i := 76) rfl (⟨congrArg (fun z => some (Value.long z)) (by rw [hbits, show false.toNat = 0 from rfl, Nat.zero_mul, Nat.zero_add]), rfl⟩)
      have k1 : ∀ (d i : Nat) (k : Int), k = -(d : Int) → i + d = n → G X 0 0 63 (lf [(2, .int 0), (3, .double (fkd c k)), (5, .int (nI (1075 - i)))]) [] w := by
        intro d
        induction d with
        | zero =>
          intro i k hk hi
          have hk0 : k = 0 := by omega
          have hi0 : i = n := by omega
          subst hk0
          subst hi0
          have hge : 0 ≤ Op.cmpValue (FP.dcmp (fkd c 0) 4841369599423283200) .g := by
            rcases fkd_ge hc with e | e
            · rw [e, cv_gt_g]; decide
            · rw [e, cv_eq_g]; decide
          refine g_dload_n h (i := 38) rfl rfl ?_
          refine g_ldc2d h (i := 39) rfl k_X10_149 ?_
          refine g_dcmp h (i := 40) rfl ?_
          refine g_if_ge h (i := 41) 89 rfl rfl (fun c_68 => ?_) (fun c_68 => absurd hge c_68)
          exact g_lv [(2, .int 0), (3, .double (fkd c 0)), (5, .int (nI (1075 - i)))] ⟨rfl, rfl, rfl, trivial⟩ k2
        | succ d ih =>
          intro i k hk hi
          have hgt : ¬ nI (1075 - i) ≤ 1 := nI_ge (a := 1) (by omega) (by omega)
          have hm := fkd_mul hc (k := k) (by omega) (by omega)
          have hnm : vf_n64 (FP.dmul (fkd c k) 4611686018427387904) := by rw [hm]; exact fkd_fg hc (by omega) (by omega)
          have hlt : Op.cmpValue (FP.dcmp (fkd c k) 4841369599423283200) .g = -1 := by rw [fkd_lt hc (by omega) (by omega)]; rfl
          have hsub : nI (1075 - i) + (-1) = nI (1075 - (i + 1)) := by rw [show 1075 - i = 1075 - (i + 1) + 1 by omega, pk_m1]
          refine g_dload_n h (i := 38) rfl rfl ?_
          refine g_ldc2d h (i := 39) rfl k_X10_149 ?_
          refine g_dcmp h (i := 40) rfl ?_
          refine g_eqi (-1) hlt ?_
          refine g_if_ge h (i := 41) 89 rfl rfl (fun c_68 => absurd c_68 (by decide)) (fun c_68 => ?_)
          refine g_iload h (i := 42) rfl rfl ?_
          refine g_iconst h (i := 43) rfl (v := 1) (by rfl) ?_
          refine g_icmp_le h (i := 44) 89 rfl rfl (fun c_74 => absurd c_74 hgt) (fun c_74 => ?_)
          refine g_dload_n h (i := 45) rfl rfl ?_
          refine g_ldc2d h (i := 46) rfl k_X10_147 ?_
          refine g_dmul h (i := 47) rfl (hnm) ?_
          refine g_eqd (fkd c (k + 1)) hm ?_
          refine g_dstore_n h (i := 48) rfl hq rfl ?_
          refine g_iinc h (i := 49) rfl rfl (dv := -1) (by rfl) ?_
          refine g_goto h (i := 50) 63 rfl rfl ?_
          exact g_lv [(2, .int 0), (3, .double (fkd c (k + 1))), (5, .int (nI (1075 - (i + 1))))] ⟨rfl, rfl, congrArg (fun z => some (Value.int z)) hsub, trivial⟩ (ih (i + 1) (k + 1) (by omega) (by omega))
      refine g_dload_n h (i := 0) rfl rfl ?_
      refine g_dconst0 h (i := 1) rfl ?_
      refine g_dcmp h (i := 2) rfl ?_
      refine g_eqi 1 (by rw [hcmp]; rfl) ?_
      refine g_if_lt h (i := 3) 20 rfl rfl (fun c_3 => absurd c_3 (by decide)) (fun c_3 => ?_)
      refine g_dload_n h (i := 4) rfl rfl ?_
      refine g_dconst0 h (i := 5) rfl ?_
      refine g_dcmp h (i := 6) rfl ?_
      refine g_eqi 1 (by rw [hcmp]; rfl) ?_
      refine g_if_ne h (i := 7) 24 rfl rfl (fun c_9 => ?_) (fun c_9 => absurd c_9 (by decide))
      refine g_iconst h (i := 16) rfl (v := 0) (by rfl) ?_
      refine g_istore_n h (i := 17) rfl hq rfl ?_
      refine g_iload_n h (i := 18) rfl rfl ?_
      refine g_if_eq h (i := 19) 36 rfl rfl (fun c_27 => ?_) (fun c_27 => absurd rfl c_27)
      refine g_dload_n h (i := 24) rfl rfl ?_
      refine g_eqd (fkd c q) (fp_of h1) ?_
      refine g_dstore_n h (i := 25) rfl hq rfl ?_
      refine g_sipush h (i := 26) rfl (v := 1075) (by rfl) ?_
      refine g_istore h (i := 27) rfl hq rfl ?_
      refine g_dload_n h (i := 28) rfl rfl ?_
      refine g_ldc2d h (i := 29) rfl k_X10_145 ?_
      refine g_dcmp h (i := 30) rfl ?_
      refine g_eqi (-1) (by rw [fkd_53 hc hq1 (by omega)]; rfl) ?_
      refine g_if_lt h (i := 31) 63 rfl rfl (fun c_48 => ?_) (fun c_48 => absurd (by decide : (-1 : Int32) < 0) c_48)
      exact g_lv [(2, .int 0), (3, .double (fkd c q)), (5, .int (nI (1075 - 0)))] ⟨rfl, rfl, rfl, trivial⟩ (k1 n 0 q hqn (by omega))
    · skip
      have k2 : G X 0 0 89 (lf [(2, .int 1), (3, .double (fkd c 0)), (5, .int (nI (1075 - n)))]) [] w := by
        have hm : (1075 - n) * 4503599627370496 + (c - 4503599627370496) < 9223372036854775808 := by have := hc.2; omega
        have hadd : lN (c - 4503599627370496) + lN ((1075 - n) * 4503599627370496) = lN ((1075 - n) * 4503599627370496 + (c - 4503599627370496)) := by rw [lN_add, Nat.add_comm]
        refine g_dload_n h (i := 51) rfl rfl ?_
        refine g_d2l h (i := 52) rfl ?_
        refine g_eql (lN c) (fkd_d2l hc) ?_
        refine g_lstore h (i := 53) rfl hq rfl ?_
        refine g_lload h (i := 54) rfl rfl ?_
        refine g_ldc2 h (i := 55) rfl k_X10_151 ?_
        refine g_lcmp h (i := 56) rfl ?_
        refine g_if_ge h (i := 57) 107 rfl rfl (fun c_99 => ?_) (fun c_99 => absurd ((lg_cmp_ge _ _).mpr hcl) c_99)
        refine g_lload h (i := 60) rfl rfl ?_
        refine g_ldc2 h (i := 61) rfl k_X10_151 ?_
        refine g_lsub h (i := 62) rfl ?_
        refine g_eql (lN (c - 4503599627370496)) hcs ?_
        refine g_iload h (i := 63) rfl rfl ?_
        refine g_i2l h (i := 64) rfl ?_
        refine g_bipush h (i := 65) rfl (v := 52) (by rfl) ?_
        refine g_lshl h (i := 66) rfl ?_
        refine g_eql (lN ((1075 - n) * 4503599627370496)) (bt_shl hE) ?_
        refine g_ladd h (i := 67) rfl ?_
        refine g_eql (lN ((1075 - n) * 4503599627370496 + (c - 4503599627370496))) hadd ?_
        refine g_lstore h (i := 68) rfl hq rfl ?_
        refine g_iload_n h (i := 69) rfl rfl ?_
        refine g_if_eq h (i := 70) 135 rfl rfl (fun c_123 => absurd c_123 (by decide)) (fun c_123 => ?_)
        refine g_lload h (i := 71) rfl rfl ?_
        refine g_ldc2 h (i := 72) rfl k_X10_153 ?_
        refine g_lor h (i := 73) rfl ?_
        refine g_goto h (i := 74) 137 rfl rfl ?_
        exact g_lret hq h (i := 76) rfl (⟨congrArg (fun z => some (Value.long z)) (by rw [hbits, bt_sign hm, show true.toNat = 1 from rfl, Nat.one_mul, Nat.add_mul, Nat.add_assoc]), rfl⟩)
      have k1 : ∀ (d i : Nat) (k : Int), k = -(d : Int) → i + d = n → G X 0 0 63 (lf [(2, .int 1), (3, .double (fkd c k)), (5, .int (nI (1075 - i)))]) [] w := by
        intro d
        induction d with
        | zero =>
          intro i k hk hi
          have hk0 : k = 0 := by omega
          have hi0 : i = n := by omega
          subst hk0
          subst hi0
          have hge : 0 ≤ Op.cmpValue (FP.dcmp (fkd c 0) 4841369599423283200) .g := by
            rcases fkd_ge hc with e | e
            · rw [e, cv_gt_g]; decide
            · rw [e, cv_eq_g]; decide
          refine g_dload_n h (i := 38) rfl rfl ?_
          refine g_ldc2d h (i := 39) rfl k_X10_149 ?_
          refine g_dcmp h (i := 40) rfl ?_
          refine g_if_ge h (i := 41) 89 rfl rfl (fun c_68 => ?_) (fun c_68 => absurd hge c_68)
          exact g_lv [(2, .int 1), (3, .double (fkd c 0)), (5, .int (nI (1075 - i)))] ⟨rfl, rfl, rfl, trivial⟩ k2
        | succ d ih =>
          intro i k hk hi
          have hgt : ¬ nI (1075 - i) ≤ 1 := nI_ge (a := 1) (by omega) (by omega)
          have hm := fkd_mul hc (k := k) (by omega) (by omega)
          have hnm : vf_n64 (FP.dmul (fkd c k) 4611686018427387904) := by rw [hm]; exact fkd_fg hc (by omega) (by omega)
          have hlt : Op.cmpValue (FP.dcmp (fkd c k) 4841369599423283200) .g = -1 := by rw [fkd_lt hc (by omega) (by omega)]; rfl
          have hsub : nI (1075 - i) + (-1) = nI (1075 - (i + 1)) := by rw [show 1075 - i = 1075 - (i + 1) + 1 by omega, pk_m1]
          refine g_dload_n h (i := 38) rfl rfl ?_
          refine g_ldc2d h (i := 39) rfl k_X10_149 ?_
          refine g_dcmp h (i := 40) rfl ?_
          refine g_eqi (-1) hlt ?_
          refine g_if_ge h (i := 41) 89 rfl rfl (fun c_68 => absurd c_68 (by decide)) (fun c_68 => ?_)
          refine g_iload h (i := 42) rfl rfl ?_
          refine g_iconst h (i := 43) rfl (v := 1) (by rfl) ?_
          refine g_icmp_le h (i := 44) 89 rfl rfl (fun c_74 => absurd c_74 hgt) (fun c_74 => ?_)
          refine g_dload_n h (i := 45) rfl rfl ?_
          refine g_ldc2d h (i := 46) rfl k_X10_147 ?_
          refine g_dmul h (i := 47) rfl (hnm) ?_
          refine g_eqd (fkd c (k + 1)) hm ?_
          refine g_dstore_n h (i := 48) rfl hq rfl ?_
          refine g_iinc h (i := 49) rfl rfl (dv := -1) (by rfl) ?_
          refine g_goto h (i := 50) 63 rfl rfl ?_
          exact g_lv [(2, .int 1), (3, .double (fkd c (k + 1))), (5, .int (nI (1075 - (i + 1))))] ⟨rfl, rfl, congrArg (fun z => some (Value.int z)) hsub, trivial⟩ (ih (i + 1) (k + 1) (by omega) (by omega))
      refine g_dload_n h (i := 0) rfl rfl ?_
      refine g_dconst0 h (i := 1) rfl ?_
      refine g_dcmp h (i := 2) rfl ?_
      refine g_eqi (-1) (by rw [hcmp]; rfl) ?_
      refine g_if_lt h (i := 3) 20 rfl rfl (fun c_3 => ?_) (fun c_3 => absurd (by decide : (-1 : Int32) < 0) c_3)
      refine g_iconst h (i := 14) rfl (v := 1) (by rfl) ?_
      refine g_goto h (i := 15) 25 rfl rfl ?_
      refine g_istore_n h (i := 17) rfl hq rfl ?_
      refine g_iload_n h (i := 18) rfl rfl ?_
      refine g_if_eq h (i := 19) 36 rfl rfl (fun c_27 => absurd c_27 (by decide)) (fun c_27 => ?_)
      refine g_dconst0 h (i := 20) rfl ?_
      refine g_dload_n h (i := 21) rfl rfl ?_
      refine g_dsub h (i := 22) rfl (by rw [fkd_neg h1 hc]; exact fkd_fg hc hq1 (by omega)) ?_
      refine g_goto h (i := 23) 37 rfl rfl ?_
      refine g_eqd (fkd c q) (fkd_neg h1 hc) ?_
      refine g_dstore_n h (i := 25) rfl hq rfl ?_
      refine g_sipush h (i := 26) rfl (v := 1075) (by rfl) ?_
      refine g_istore h (i := 27) rfl hq rfl ?_
      refine g_dload_n h (i := 28) rfl rfl ?_
      refine g_ldc2d h (i := 29) rfl k_X10_145 ?_
      refine g_dcmp h (i := 30) rfl ?_
      refine g_eqi (-1) (by rw [fkd_53 hc hq1 (by omega)]; rfl) ?_
      refine g_if_lt h (i := 31) 63 rfl rfl (fun c_48 => ?_) (fun c_48 => absurd (by decide : (-1 : Int32) < 0) c_48)
      exact g_lv [(2, .int 1), (3, .double (fkd c q)), (5, .int (nI (1075 - 0)))] ⟨rfl, rfl, rfl, trivial⟩ (k1 n 0 q hqn (by omega))
