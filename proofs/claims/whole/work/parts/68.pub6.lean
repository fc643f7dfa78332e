def cpR (b c : Nat) (r : Nat → Int64) : Nat → Int64 := setn r (68 * b) (fun k => r (68 * c + k)) 68
theorem i_1add (n : Nat) : nI n + 1 = nI (n + 1) := nI_1 n
-- a block copied
set_option maxRecDepth 100000 in
set_option maxHeartbeats 4000000 in
theorem ct_X10_copy (l : Launch) (E : EE) (w : Wd) (a b c : Nat) (r : Nat → Int64) (hlo : E.2.2 ≤ wN (sRow w a r)) (hL : LayR w a) (hb : b < 6) (hc : c < 6) (hbc : b ≠ c) : Ct l E yX10_copy cX10_copy 4 none ({ frames := 0, cells := 0, slots := 0, locals := 0 } : Room) [.ref a, .int (nI b), .int (nI c)] (sRow w a r) 0 0 (Px none (sRow w a (cpR b c r))) := by
  refine ct_in (il := il_X10_copy) (by decide) dk_X10_copy (Nat.le_of_ble_eq_true rfl) hlo ?_
  intro X h hq

  obtain ⟨f, hf⟩ : ∃ f : Nat → Int64, f = fun k => r (68 * c + k) := ⟨_, rfl⟩
  have key : ∀ (d i : Nat), i + d = 68 → G X 0 0 2 (lf [(0, .ref a), (1, .int (nI b)), (2, .int (nI c)), (3, .int (nI i))]) [] (sRow w a (setn r (68 * b) f i)) := by
    intro d
    induction d with
    | zero =>
      intro i hi
      have hi4 : i = 68 := by omega
      subst hi4
      refine g_iload_n h (i := 2) rfl rfl ?_
      refine g_bipush h (i := 3) rfl (v := 68) (by rfl) ?_
      refine g_icmp_ge h (i := 4) 36 rfl rfl (fun c_5 => ?_) (fun c_5 => absurd (by decide : (68 : Int32) ≤ nI 68) c_5)
      exact g_vret hq h (i := 23) rfl (⟨rfl, by unfold cpR; rw [hf]⟩)
    | succ d ih =>
      intro i hid
      have hi : i < 68 := by omega
      have hnge : ¬ (68 : Int32) ≤ nI i := nI_ge (b := 68) hi (by omega)
      have s1 : setn r (68 * b) f i (68 * c + i) = f i := by rw [setn_o (by omega), hf]
      refine g_iload_n h (i := 2) rfl rfl ?_
      refine g_bipush h (i := 3) rfl (v := 68) (by rfl) ?_
      refine g_icmp_ge h (i := 4) 36 rfl rfl (fun c_5 => absurd c_5 hnge) (fun c_5 => ?_)
      refine g_aload_n h (i := 5) rfl rfl ?_
      refine g_getR h (i := 6) rfl fl_X10_7 (fun _ _ _ => rfl) (lk_R hL) (lr_row hL) ?_
      refine g_bipush h (i := 7) rfl (v := 68) (by rfl) ?_
      refine g_iload_n h (i := 8) rfl rfl ?_
      refine g_imul h (i := 9) rfl ?_
      refine g_eqi (nI (68 * b)) (pk_mul 68 b) ?_
      refine g_iload_n h (i := 10) rfl rfl ?_
      refine g_iadd h (i := 11) rfl ?_
      refine g_eqi (nI (68 * b + i)) (nI_add (68 * b) i) ?_
      refine g_aload_n h (i := 12) rfl rfl ?_
      refine g_getR h (i := 13) rfl fl_X10_7 (fun _ _ _ => rfl) (lk_R hL) (lr_row hL) ?_
      refine g_bipush h (i := 14) rfl (v := 68) (by rfl) ?_
      refine g_iload_n h (i := 15) rfl rfl ?_
      refine g_imul h (i := 16) rfl ?_
      refine g_eqi (nI (68 * c)) (pk_mul 68 c) ?_
      refine g_iload_n h (i := 17) rfl rfl ?_
      refine g_iadd h (i := 18) rfl ?_
      refine g_eqi (nI (68 * c + i)) (nI_add (68 * c) i) ?_
      refine g_lald h (i := 19) rfl (lq_row hL) (vp_in_nI (by omega) (by omega)) ?_
      refine g_eql _ (sRow_jx _ _ _ (n := 68 * c + i) (nI_clamp (by omega))) ?_
      refine g_eql (f i) s1 ?_
      refine g_last h (i := 20) rfl (lq_row hL) (vp_in_nI (by omega) (by omega)) ?_
      refine g_w _ (sRow_ux _ _ _ _ (n := 68 * b + i) (nI_clamp (by omega))) ?_
      refine g_w (sRow w a (setn r (68 * b) f (i + 1))) (by rw [setn_1 _ _ _ _ rfl]) ?_
      refine g_iinc h (i := 21) rfl rfl (dv := 1) (by rfl) ?_
      refine g_goto h (i := 22) 2 rfl rfl ?_
      exact g_lv [(0, .ref a), (1, .int (nI b)), (2, .int (nI c)), (3, .int (nI (i + 1)))] ⟨rfl, rfl, rfl, congrArg (fun z => some (Value.int z)) (nI_1 i), trivial⟩ (ih (i + 1) (by omega))
  refine g_iconst h (i := 0) rfl (v := 0) (by rfl) ?_
  refine g_istore_n h (i := 1) rfl hq rfl ?_
  exact g_lv [(0, .ref a), (1, .int (nI b)), (2, .int (nI c)), (3, .int (nI 0))] ⟨rfl, rfl, rfl, rfl, trivial⟩ (by have := key 68 0 (by omega); rw [setn_0] at this; exact this)
def kpS (k : Int32) (cf : Nat → Nat → Int32) (r : Nat → Int64) : St := if 0 ≤ k ∧ k ≤ 3 then (.int 1, up2 cf 2 (pI k) 1, cpR (pI k + 1) 0 r) else (.int (-2), cf, r)
-- keep
set_option maxRecDepth 100000 in
set_option maxHeartbeats 4000000 in
theorem ct_X10_keep (l : Launch) (E : EE) (w : Wd) (a : Nat) (r : Nat → Int64) (k : Int32) (hlo : E.2.2 ≤ wN (sRow w a r)) (hL : LayR w a) : Ct l E yX10_keep cX10_keep 2 (some .int) ({ frames := 1, cells := 0, slots := 0, locals := 23 } : Room) [.ref a, .int k] (sRow w a r) 0 0 (PS a w (kpS k (cfW w a) r)) := by
  refine ct_in (il := il_X10_keep) (by decide) dk_X10_keep (Nat.le_of_ble_eq_true rfl) hlo ?_
  intro X h hq

  refine g_iload_n h (i := 0) rfl rfl ?_
  refine g_iconst h (i := 1) rfl (v := 0) (by rfl) ?_
  refine g_iconst h (i := 2) rfl (v := 3) (by rfl) ?_
  refine g_callSx h hq (i := 3) rfl ms_X10_82 (ct_X10_in l E _ k (0) (3) hlo) rfl rfl ⟨rfl, rfl, Nat.le_of_ble_eq_true rfl, Nat.le_of_ble_eq_true rfl⟩ (Nat.le_of_ble_eq_true rfl) ⟨Nat.zero_le _, Nat.zero_le _⟩ ?_
  refine g_if_ne h (i := 4) 12 rfl rfl (fun c_6 => ?_) (fun c_6 => ?_)
  · skip
    obtain ⟨hk, hk3⟩ := jx (M := 3) (bI_1.mp c_6) (by decide)
    have hk1 : k + 1 = nI (pI k + 1) := (congrArg (fun z => z + 1) hk).trans (nI_1 _)
    refine g_aload_n h (i := 7) rfl rfl ?_
    refine g_iload_n h (i := 8) rfl rfl ?_
    refine g_iconst h (i := 9) rfl (v := 1) (by rfl) ?_
    refine g_iadd h (i := 10) rfl ?_
    refine g_eqi (nI (pI k + 1)) hk1 ?_
    refine g_iconst h (i := 11) rfl (v := 0) (by rfl) ?_
    refine g_callVn h hq (i := 12) rfl mv_X10_263 cls10 (lk_R hL) (ct_X10_copy l E w a (pI k + 1) 0 r hlo hL (by omega) (by omega) (by omega)) rfl rfl ⟨rfl, rfl, Nat.le_of_ble_eq_true rfl, Nat.le_of_ble_eq_true rfl⟩ (Nat.le_of_ble_eq_true rfl) ⟨Nat.zero_le _, Nat.zero_le _⟩ ?_
    refine g_aload_n h (i := 13) rfl rfl ?_
    refine g_getR h (i := 14) rfl fl_X10_13 (fun _ _ _ => rfl) (lk_R hL) (lr_isKept hL) ?_
    refine g_iload_n h (i := 15) rfl rfl ?_
    refine g_iconst h (i := 16) rfl (v := 1) (by rfl) ?_
    refine g_zast h (i := 17) rfl (lq_isKept hL) (jvp (bI_1.mp c_6) (by decide) (by omega)) (rfl) ?_
    refine g_iconst h (i := 18) rfl (v := 1) (by rfl) ?_
    exact g_iret hq h (i := 19) rfl (by unfold kpS; rw [if_pos (bI_1.mp c_6)]; exact ⟨rfl, ri_I 2 _ ri_0⟩)
  · skip
    refine g_bipush h (i := 5) rfl (v := -2) (by rfl) ?_
    exact g_iret hq h (i := 6) rfl (by unfold kpS; rw [if_neg (bI_0.mp c_6)]; exact ⟨rfl, ri_0⟩)
abbrev agP (cf : Nat → Nat → Int32) (r : Nat → Int64) (k : Nat) : Prop := cf 2 k ≠ 0 ∧ inL cf (fun j => (r (68 * (k + 1) + j)).toInt32) 4 = true
-- against the limits
set_option maxRecDepth 100000 in
set_option maxHeartbeats 4000000 in
theorem ct_X10_against (l : Launch) (E : EE) (w : Wd) (a k : Nat) (r : Nat → Int64) (hlo : E.2.2 ≤ wN (sRow w a r)) (hL : LayR w a) (hk : k < 4) (hz : cfW w a 2 k = 0 ∨ cfW w a 2 k = 1) : Ct l E yX10_against cX10_against 4 (some .int) ({ frames := 1, cells := 0, slots := 0, locals := 22 } : Room) [.ref a, .int (nI k)] (sRow w a r) 0 0 (Px (some (.int (if agP (cfW w a) r k then 0 else -3))) (sRow w a r)) := by
  refine ct_in (il := il_X10_against) (by decide) dk_X10_against (Nat.le_of_ble_eq_true rfl) hlo ?_
  intro X h hq

  obtain ⟨st, hst⟩ : ∃ st : Nat → Int32, st = fun j => (r (68 * (k + 1) + j)).toInt32 := ⟨_, rfl⟩
  have key : ∀ (d i : Nat), i + d = 4 → G X 0 0 9 (lf [(0, .ref a), (1, .int (nI k)), (2, .int (bI (cfW w a 2 k ≠ 0 ∧ inL (cfW w a) st i = true))), (3, .int (nI i))]) [] (sRow w a r) := by
    intro d
    induction d with
    | zero =>
      intro i hi
      have hi4 : i = 4 := by omega
      subst hi4
      refine g_iload_n h (i := 7) rfl rfl ?_
      refine g_iconst h (i := 8) rfl (v := 4) (by rfl) ?_
      refine g_icmp_ge h (i := 9) 64 rfl rfl (fun c_11 => ?_) (fun c_11 => absurd (by decide : (4 : Int32) ≤ nI 4) c_11)
      refine g_iload_n h (i := 41) rfl rfl ?_
      refine g_if_eq h (i := 42) 72 rfl rfl (fun c_65 => ?_) (fun c_65 => ?_)
      · skip
        refine g_bipush h (i := 45) rfl (v := -3) (by rfl) ?_
        exact g_iret hq h (i := 46) rfl (⟨by rw [if_neg (by rw [hst] at c_65; exact bI_0.mp c_65)], rfl⟩)
      · skip
        refine g_iconst h (i := 43) rfl (v := 0) (by rfl) ?_
        refine g_goto h (i := 44) 74 rfl rfl ?_
        exact g_iret hq h (i := 46) rfl (⟨by rw [if_pos (by rw [hst] at c_65; exact bI_1.mp c_65)], rfl⟩)
    | succ d ih =>
      intro i hid
      have hi : i < 4 := by omega
      have hcl : (nI i).toNatClampNeg = i := nI_clamp (by omega)
      have hvp : vp_in (nI i) 4 := vp_in_nI hi (by omega)
      have hnge : ¬ (4 : Int32) ≤ nI i := nI_ge (b := 4) hi (by omega)
      have hS : (cfW w a 2 k ≠ 0 ∧ inL (cfW w a) st (i + 1) = true) ↔ ((cfW w a 2 k ≠ 0 ∧ inL (cfW w a) st i = true) ∧ (cfW w a 5 i ≤ st i ∧ st i ≤ cfW w a 6 i)) := by
        show (_ ∧ (inL (cfW w a) st i && decide (cfW w a 5 i ≤ st i ∧ st i ≤ cfW w a 6 i)) = true) ↔ _
        rw [Bool.and_eq_true, decide_eq_true_iff, and_assoc]
      have k57 : ∀ v : Int32, v = bI (cfW w a 2 k ≠ 0 ∧ inL (cfW w a) st (i + 1) = true) → G X 0 0 57 (lf [(0, .ref a), (1, .int (nI k)), (3, .int (nI i))]) [.int v] (sRow w a r) := by
        intro v hv
        refine g_istore_n h (i := 38) rfl hq rfl ?_
        refine g_iinc h (i := 39) rfl rfl (dv := 1) (by rfl) ?_
        refine g_goto h (i := 40) 9 rfl rfl ?_
        exact g_lv [(0, .ref a), (1, .int (nI k)), (2, .int (bI (cfW w a 2 k ≠ 0 ∧ inL (cfW w a) st (i + 1) = true))), (3, .int (nI (i + 1)))] ⟨rfl, rfl, congrArg (fun z => some (Value.int z)) hv, congrArg (fun z => some (Value.int z)) (nI_1 i), trivial⟩ (ih (i + 1) (by omega))
      refine g_iload_n h (i := 7) rfl rfl ?_
      refine g_iconst h (i := 8) rfl (v := 4) (by rfl) ?_
      refine g_icmp_ge h (i := 9) 64 rfl rfl (fun c_11 => absurd c_11 hnge) (fun c_11 => ?_)
      refine g_iload_n h (i := 10) rfl rfl ?_
      refine g_if_eq h (i := 11) 56 rfl rfl (fun c_15 => ?_) (fun c_15 => ?_)
      · skip
        refine g_iconst h (i := 37) rfl (v := 0) (by rfl) ?_
        exact g_lv [(0, .ref a), (1, .int (nI k)), (3, .int (nI i))] ⟨rfl, rfl, rfl, trivial⟩ (k57 _ ((bI_f (fun q => bI_0.mp c_15 (hS.mp q).1)).symm))
      · skip
        refine g_aload_n h (i := 12) rfl rfl ?_
        refine g_getR h (i := 13) rfl fl_X10_7 (fun _ _ _ => rfl) (lk_R hL) (lr_row hL) ?_
        refine g_bipush h (i := 14) rfl (v := 68) (by rfl) ?_
        refine g_iload_n h (i := 15) rfl rfl ?_
        refine g_iconst h (i := 16) rfl (v := 1) (by rfl) ?_
        refine g_iadd h (i := 17) rfl ?_
        refine g_eqi (nI (k + 1)) (nI_1 k) ?_
        refine g_imul h (i := 18) rfl ?_
        refine g_eqi (nI (68 * (k + 1))) (pk_mul 68 (k + 1)) ?_
        refine g_iconst h (i := 19) rfl (v := 0) (by rfl) ?_
        refine g_iadd h (i := 20) rfl ?_
        refine g_eqi (nI (68 * (k + 1))) (Int32.add_zero _) ?_
        refine g_iload_n h (i := 21) rfl rfl ?_
        refine g_iadd h (i := 22) rfl ?_
        refine g_eqi (nI (68 * (k + 1) + i)) (nI_add _ i) ?_
        refine g_lald h (i := 23) rfl (lq_row hL) (vp_in_nI (by omega) (by omega)) ?_
        refine g_eql _ (sRow_jx _ _ _ (n := 68 * (k + 1) + i) (nI_clamp (by omega))) ?_
        refine g_l2i h (i := 24) rfl ?_
        refine g_eqi (st i) (by rw [hst]) ?_
        refine g_aload_n h (i := 25) rfl rfl ?_
        refine g_getR h (i := 26) rfl fl_X10_25 (fun _ _ _ => rfl) (lk_R hL) (lr_low hL) ?_
        refine g_iload_n h (i := 27) rfl rfl ?_
        refine g_iald h (i := 28) rfl (lq_low hL) (hvp) ?_
        refine g_eqi (wI w (a + 5) _) rfl ?_
        refine g_eqi (cfW w a 5 i) (by rw [hcl]; rfl) ?_
        refine g_aload_n h (i := 29) rfl rfl ?_
        refine g_getR h (i := 30) rfl fl_X10_29 (fun _ _ _ => rfl) (lk_R hL) (lr_high hL) ?_
        refine g_iload_n h (i := 31) rfl rfl ?_
        refine g_iald h (i := 32) rfl (lq_high hL) (hvp) ?_
        refine g_eqi (wI w (a + 6) _) rfl ?_
        refine g_eqi (cfW w a 6 i) (by rw [hcl]; rfl) ?_
        refine g_callSx h hq (i := 33) rfl ms_X10_82 (ct_X10_in l E _ (st i) (cfW w a 5 i) (cfW w a 6 i) hlo) rfl rfl ⟨rfl, rfl, Nat.le_of_ble_eq_true rfl, Nat.le_of_ble_eq_true rfl⟩ (Nat.le_of_ble_eq_true rfl) ⟨Nat.zero_le _, Nat.zero_le _⟩ ?_
        refine g_if_eq h (i := 34) 56 rfl rfl (fun c_49 => ?_) (fun c_49 => ?_)
        · skip
          refine g_iconst h (i := 37) rfl (v := 0) (by rfl) ?_
          exact g_lv [(0, .ref a), (1, .int (nI k)), (3, .int (nI i))] ⟨rfl, rfl, rfl, trivial⟩ (k57 _ ((bI_f (fun q => bI_0.mp c_49 (hS.mp q).2)).symm))
        · skip
          refine g_iconst h (i := 35) rfl (v := 1) (by rfl) ?_
          refine g_goto h (i := 36) 57 rfl rfl ?_
          exact g_lv [(0, .ref a), (1, .int (nI k)), (3, .int (nI i))] ⟨rfl, rfl, rfl, trivial⟩ (k57 _ ((bI_t (hS.mpr ⟨bI_1.mp c_15, bI_1.mp c_49⟩)).symm))
  have h0 : cfW w a 2 k = bI (cfW w a 2 k ≠ 0 ∧ inL (cfW w a) st 0 = true) := by
    rcases hz with z | z
    · rw [z, bI_f (fun q => q.1 rfl)]
    · rw [z, bI_t ⟨by decide, rfl⟩]
  refine g_aload_n h (i := 0) rfl rfl ?_
  refine g_getR h (i := 1) rfl fl_X10_13 (fun _ _ _ => rfl) (lk_R hL) (lr_isKept hL) ?_
  refine g_iload_n h (i := 2) rfl rfl ?_
  refine g_zald h (i := 3) rfl (lq_isKept hL) (vp_in_nI hk (by omega)) ?_
  refine g_eqi (wI w (a + 2) _) rfl ?_
  refine g_eqi (bI (cfW w a 2 k ≠ 0 ∧ inL (cfW w a) st 0 = true)) (by rw [nI_clamp (by omega)]; exact h0) ?_
  refine g_istore_n h (i := 4) rfl hq rfl ?_
  refine g_iconst h (i := 5) rfl (v := 0) (by rfl) ?_
  refine g_istore_n h (i := 6) rfl hq rfl ?_
  exact g_lv [(0, .ref a), (1, .int (nI k)), (2, .int (bI (cfW w a 2 k ≠ 0 ∧ inL (cfW w a) st 0 = true))), (3, .int (nI 0))] ⟨rfl, rfl, rfl, rfl, trivial⟩ (key 4 0 (by omega))
def bkS (k : Int32) (cf : Nat → Nat → Int32) (r : Nat → Int64) : St := if 0 ≤ k ∧ k ≤ 3 then (if agP cf r (pI k) then (.int 1, cf, cpR 0 (pI k + 1) r) else (.int (-3), cf, r)) else (.int (-2), cf, r)
theorem ite_0 {p : Prop} [Decidable p] : (if p then (0 : Int32) else -3) = 0 ↔ p := by
  by_cases h : p
  · rw [if_pos h]; exact ⟨fun _ => h, fun _ => rfl⟩
  · rw [if_neg h]; exact ⟨fun q => absurd q (by decide), fun q => absurd q h⟩
-- back
set_option maxRecDepth 100000 in
set_option maxHeartbeats 4000000 in
theorem ct_X10_back (l : Launch) (E : EE) (w : Wd) (a : Nat) (r : Nat → Int64) (k : Int32) (hlo : E.2.2 ≤ wN (sRow w a r)) (hL : LayR w a) (hz : ∀ k, k < 4 → cfW w a 2 k = 0 ∨ cfW w a 2 k = 1) : Ct l E yX10_back cX10_back 2 (some .int) ({ frames := 2, cells := 0, slots := 0, locals := 45 } : Room) [.ref a, .int k] (sRow w a r) 0 0 (PS a w (bkS k (cfW w a) r)) := by
  refine ct_in (il := il_X10_back) (by decide) dk_X10_back (Nat.le_of_ble_eq_true rfl) hlo ?_
  intro X h hq

  refine g_iload_n h (i := 0) rfl rfl ?_
  refine g_iconst h (i := 1) rfl (v := 0) (by rfl) ?_
  refine g_iconst h (i := 2) rfl (v := 3) (by rfl) ?_
  refine g_callSx h hq (i := 3) rfl ms_X10_82 (ct_X10_in l E _ k (0) (3) hlo) rfl rfl ⟨rfl, rfl, Nat.le_of_ble_eq_true rfl, Nat.le_of_ble_eq_true rfl⟩ (Nat.le_of_ble_eq_true rfl) ⟨Nat.zero_le _, Nat.zero_le _⟩ ?_
  refine g_if_ne h (i := 4) 12 rfl rfl (fun c_6 => ?_) (fun c_6 => ?_)
  · skip
    obtain ⟨hk, hk3⟩ := jx (M := 3) (bI_1.mp c_6) (by decide)
    have hk1 : k + 1 = nI (pI k + 1) := (congrArg (fun z => z + 1) hk).trans (nI_1 _)
    have hag := ct_X10_against l E w a (pI k) r hlo hL (by omega) (hz _ (by omega))
    rw [← hk] at hag
    refine g_aload_n h (i := 7) rfl rfl ?_
    refine g_iload_n h (i := 8) rfl rfl ?_
    refine g_callVx h hq (i := 9) rfl mv_X10_266 cls10 (lk_R hL) (hag) rfl rfl ⟨rfl, rfl, Nat.le_of_ble_eq_true rfl, Nat.le_of_ble_eq_true rfl⟩ (Nat.le_of_ble_eq_true rfl) ⟨Nat.zero_le _, Nat.zero_le _⟩ ?_
    refine g_if_eq h (i := 10) 23 rfl rfl (fun c_17 => ?_) (fun c_17 => ?_)
    · skip
      refine g_aload_n h (i := 13) rfl rfl ?_
      refine g_iconst h (i := 14) rfl (v := 0) (by rfl) ?_
      refine g_iload_n h (i := 15) rfl rfl ?_
      refine g_iconst h (i := 16) rfl (v := 1) (by rfl) ?_
      refine g_iadd h (i := 17) rfl ?_
      refine g_eqi (nI (pI k + 1)) hk1 ?_
      refine g_callVn h hq (i := 18) rfl mv_X10_263 cls10 (lk_R hL) (ct_X10_copy l E w a 0 (pI k + 1) r hlo hL (by omega) (by omega) (by omega)) rfl rfl ⟨rfl, rfl, Nat.le_of_ble_eq_true rfl, Nat.le_of_ble_eq_true rfl⟩ (Nat.le_of_ble_eq_true rfl) ⟨Nat.zero_le _, Nat.zero_le _⟩ ?_
      refine g_iconst h (i := 19) rfl (v := 1) (by rfl) ?_
      exact g_iret hq h (i := 20) rfl (by unfold bkS; rw [if_pos (bI_1.mp c_6), if_pos (ite_0.mp c_17)]; exact ⟨rfl, ri_0⟩)
    · skip
      refine g_bipush h (i := 11) rfl (v := -3) (by rfl) ?_
      exact g_iret hq h (i := 12) rfl (by unfold bkS; rw [if_pos (bI_1.mp c_6), if_neg (fun z => c_17 (ite_0.mpr z))]; exact ⟨rfl, ri_0⟩)
  · skip
    refine g_bipush h (i := 5) rfl (v := -2) (by rfl) ?_
    exact g_iret hq h (i := 6) rfl (by unfold bkS; rw [if_neg (bI_0.mp c_6)]; exact ⟨rfl, ri_0⟩)
