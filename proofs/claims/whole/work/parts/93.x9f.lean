theorem tf_b {b m : Nat} {w w2 : Wd} (h : TF (b + 1) m w w2) : ∀ p, ¬ (m ≤ p ∧ p < m + 10) → p ≠ b + 14 → wI w2 p = wI w p ∧ wJ w2 p = wJ w p := by
  obtain ⟨I, J, D, rfl, h1, h2, h3⟩ := h
  exact fun p hp hp2 => ⟨h1 p hp (by omega), h2 p (by omega)⟩
theorem tf_mm {b m m2 : Nat} {w w2 : Wd} {r : Nat → Int64} (h : TF (b + 1) m w w2) (hd : m2 + 10 ≤ m ∨ m + 10 ≤ m2) (hb : b + 14 < m2) (hr : RepM w m2 r) : RepM w2 m2 r := rm_c hr (fun p h1 h2 => (tf_b h p (by omega) (by omega)).1) (tf_b h _ (by omega) (by omega)).2 (fun _ _ => rfl)
/-- a kept moment is written -/
theorem rb_k {b k : Nat} {w w2 : Wd} {cf : Nat → Nat → Int32} {R R' : Nat → Int64} (h : RepB w b cf R) (hk : k < 4) (hT : TF (b + 1) (b + 91 + 10 * k) w w2) (hM : RepM w2 (b + 91 + 10 * k) (fun y => R' (68 * (k + 1) + y))) (hR : ∀ y, y < 340 → ¬ (68 * (k + 1) ≤ y ∧ y < 68 * (k + 1) + 68) → R' y = R y) : RepB (sI w2 (b + 66) k 1) b (up2 cf 2 k 1) R' := by
  have hf := tf_b hT
  refine ⟨?_, ?_, ?_⟩
  · have q := rc_k (n := k) (v := 1) (tf_C hT (by omega) h.1)
    exact rc_c q (fun f hf2 hf3 => up2_f (show b + 1 + f ≠ b + 66 by omega))
  · have q := tf_mm hT (by omega) (by omega) h.2.1
    exact rm_c q (fun p h1 h2 => up2_f (by omega)) rfl (fun y hy => hR y (by omega) (by omega))
  · intro k2 hk2
    obtain ⟨a1, a2⟩ := h.2.2 k2 hk2
    by_cases e : k2 = k
    · subst e
      refine ⟨(up2_s _ _ _ _).trans (up2_s _ _ _ _).symm, fun _ => ?_⟩
      exact rm_c hM (fun p h1 h2 => up2_f (by omega)) rfl (fun _ _ => rfl)
    · refine ⟨(up2_k e).trans (((congrFun (hf _ (by omega) (by omega)).1 k2).trans a1).trans (up2_k e).symm), fun t => ?_⟩
      have t2 : cf 2 k2 ≠ 0 := fun z => t ((up2_k e).trans z)
      have q := tf_mm hT (by omega) (by omega) (a2 t2)
      exact rm_c q (fun p h1 h2 => up2_f (by omega)) rfl (fun y hy => hR _ (by omega) (by omega))
-- keep
set_option maxRecDepth 100000 in
set_option maxHeartbeats 4000000 in
theorem ct_X9_keep (l : Launch) (E : EE) (w : Wd) (b : Nat) (cf : Nat → Nat → Int32) (R : Nat → Int64) (k : Int32) (hlo : E.2.2 ≤ wN w) (hL : LayB w b) (hB : RepB w b cf R) (hr : FA R) : Ct l E yX9_keep cX9_keep 2 (some .int) ({ frames := 3, cells := 0, slots := 0, locals := 91 } : Room) [.ref b, .int k] w 0 0 (CS b w (kpS k cf R)) := by
  refine ct_in (il := il_X9_keep) (by decide) dk_X9_keep (Nat.le_of_ble_eq_true rfl) hlo ?_
  intro X h hq

  refine g_iload_n h (i := 0) rfl rfl ?_
  refine g_callSx h hq (i := 1) rfl ms_X9_255 (ct_X9_isPlace l E _ k hlo) rfl rfl ⟨rfl, rfl, Nat.le_of_ble_eq_true rfl, Nat.le_of_ble_eq_true rfl⟩ (Nat.le_of_ble_eq_true rfl) ⟨Nat.zero_le _, Nat.zero_le _⟩ ?_
  refine g_if_ne h (i := 2) 10 rfl rfl (fun c_4 => ?_) (fun c_4 => ?_)
  · skip
    obtain ⟨hk, hk3⟩ := jx (M := 3) (bI_1.mp c_4) (by decide)
    have hbc := ct_X3_become l E w (b + 91 + 10 * pI k) (b + 55) (b + 1) R hlo (lk_m hL (by omega)) (lb_M hL) (by omega) hB.2.1 hr
    refine g_aload_n h (i := 5) rfl rfl ?_
    refine g_getR h (i := 6) rfl fl_X9_23 (fun _ _ _ => rfl) (lb_k hL) (lb_kept hL) ?_
    refine g_iload_n h (i := 7) rfl rfl ?_
    refine g_aald h (i := 8) rfl (by decide) (lk_kept hL) (jvp (bI_1.mp c_4) (by decide) (by omega)) (lb_m (k := pI k) hL (by omega)) ?_
    refine g_aload_n h (i := 9) rfl rfl ?_
    refine g_getR h (i := 10) rfl fl_X9_19 (fun _ _ _ => rfl) (lb_k hL) (lb_now hL) ?_
    refine g_callVp (w0 := w) h hq (i := 11) rfl mv_X9_258 cls3 (lk_M (lk_m (k := pI k) hL (by omega))) (hbc) rfl rfl ⟨rfl, rfl, Nat.le_of_ble_eq_true rfl, Nat.le_of_ble_eq_true rfl⟩ (Nat.le_of_ble_eq_true rfl) ⟨Nat.zero_le _, Nat.zero_le _⟩ (fun r20 w20 hp20 => ?_)
    obtain ⟨rfl, hT, hM⟩ := hp20
    have hF : BF b w w20 := bf_TF hT (by omega)
    have hL0 := hL
    have hL := (bf_L hF).1 b hL0
    refine g_aload_n h (i := 12) rfl rfl ?_
    refine g_getR h (i := 13) rfl fl_X9_27 (fun _ _ _ => rfl) (lb_k hL) (lb_isK hL) ?_
    refine g_iload_n h (i := 14) rfl rfl ?_
    refine g_iconst h (i := 15) rfl (v := 1) (by rfl) ?_
    refine g_zast h (i := 16) rfl (lk_isK hL) (jvp (bI_1.mp c_4) (by decide) (by omega)) (rfl) ?_
    refine g_iconst h (i := 17) rfl (v := 1) (by rfl) ?_
    exact g_iret hq h (i := 18) rfl (by
      unfold kpS
      rw [if_pos (bI_1.mp c_4)]
      refine ⟨rfl, bf_I hF (by omega), rb_k (k := pI k) hB (by omega) hT ?_ (fun y h1 h2 => cp_hi h2)⟩
      exact rm_c hM (fun _ _ _ => rfl) rfl (fun y hy => by show cpR (pI k + 1) 0 R (68 * (pI k + 1) + y) = R y; rw [cp_lo hy, show 68 * 0 + y = y by omega]))
  · skip
    refine g_bipush h (i := 3) rfl (v := -2) (by rfl) ?_
    exact g_iret hq h (i := 4) rfl (by unfold kpS; rw [if_neg (bI_0.mp c_4)]; exact ⟨rfl, bf_0, hB⟩)
-- may it go back
set_option maxRecDepth 100000 in
set_option maxHeartbeats 4000000 in
theorem ct_X9_canGoBackTo (l : Launch) (E : EE) (w : Wd) (b : Nat) (cf : Nat → Nat → Int32) (R : Nat → Int64) (k : Nat) (hlo : E.2.2 ≤ wN w) (hL : LayB w b) (hB : RepB w b cf R) (hk : k < 4) : Ct l E yX9_canGoBackTo cX9_canGoBackTo 2 (some .boolean) ({ frames := 2, cells := 0, slots := 0, locals := 43 } : Room) [.ref b, .int (nI k)] w 0 0 (Px (some (.int (bI (agP cf R k)))) w) := by
  refine ct_in (il := il_X9_canGoBackTo) (by decide) dk_X9_canGoBackTo (Nat.le_of_ble_eq_true rfl) hlo ?_
  intro X h hq

  obtain ⟨a1, a2⟩ := hB.2.2 k hk
  have hcl : (nI k).toNatClampNeg = k := nI_clamp (by omega)
  refine g_aload_n h (i := 0) rfl rfl ?_
  refine g_getR h (i := 1) rfl fl_X9_27 (fun _ _ _ => rfl) (lb_k hL) (lb_isK hL) ?_
  refine g_iload_n h (i := 2) rfl rfl ?_
  refine g_zald h (i := 3) rfl (lk_isK hL) (vp_in_nI hk (by omega)) ?_
  refine g_eqi (cf 2 k) (by rw [hcl]; exact a1) ?_
  refine g_if_eq h (i := 4) 32 rfl rfl (fun c_6 => ?_) (fun c_6 => ?_)
  · skip
    refine g_iconst h (i := 16) rfl (v := 0) (by rfl) ?_
    exact g_zret hq h (i := 17) rfl (rfl) (⟨rF (fun q => q.1 c_6), rfl⟩)
  · skip
    have hal := ct_X1_allows l E w (b + 1) (b + 91 + 10 * k + 1) cf (fun j => (R (68 * (k + 1) + j)).toInt32) hlo (lb_C hL) hB.1 (ln_states (lk_m hL hk)) ((a2 c_6).2.2.2.2.2.2.2.2.2.2.2.1)
    refine g_aload_n h (i := 5) rfl rfl ?_
    refine g_getR h (i := 6) rfl fl_X9_10 (fun _ _ _ => rfl) (lb_k hL) (lb_cell hL) ?_
    refine g_aload_n h (i := 7) rfl rfl ?_
    refine g_getR h (i := 8) rfl fl_X9_23 (fun _ _ _ => rfl) (lb_k hL) (lb_kept hL) ?_
    refine g_iload_n h (i := 9) rfl rfl ?_
    refine g_aald h (i := 10) rfl (by decide) (lk_kept hL) (vp_in_nI hk (by omega)) (by rw [hcl]; exact lb_m hL hk) ?_
    refine g_getR h (i := 11) rfl fl_X9_85 (fun _ _ _ => rfl) (lk_M (lk_m (k := k) hL (by omega))) (lm_states (lk_m (k := k) hL (by omega))) ?_
    refine g_callVx h hq (i := 12) rfl mv_X9_291 cls1 (lc_k (lb_C hL)) (hal) rfl rfl ⟨rfl, rfl, Nat.le_of_ble_eq_true rfl, Nat.le_of_ble_eq_true rfl⟩ (Nat.le_of_ble_eq_true rfl) ⟨Nat.zero_le _, Nat.zero_le _⟩ ?_
    refine g_if_eq h (i := 13) 32 rfl rfl (fun c_25 => ?_) (fun c_25 => ?_)
    · skip
      refine g_iconst h (i := 16) rfl (v := 0) (by rfl) ?_
      exact g_zret hq h (i := 17) rfl (rfl) (⟨rF (fun q => bI_0.mp c_25 q.2), rfl⟩)
    · skip
      refine g_iconst h (i := 14) rfl (v := 1) (by rfl) ?_
      refine g_goto h (i := 15) 33 rfl rfl ?_
      exact g_zret hq h (i := 17) rfl (rfl) (⟨rT ⟨c_6, bI_1.mp c_25⟩, rfl⟩)
-- back
set_option maxRecDepth 100000 in
set_option maxHeartbeats 4000000 in
theorem ct_X9_back (l : Launch) (E : EE) (w : Wd) (b : Nat) (cf : Nat → Nat → Int32) (R : Nat → Int64) (k : Int32) (hlo : E.2.2 ≤ wN w) (hL : LayB w b) (hB : RepB w b cf R) (hr : FA R) (hKR : ∀ k, k < 4 → cf 2 k ≠ 0 → RR (fun y => R (68 * (k + 1) + y))) : Ct l E yX9_back cX9_back 2 (some .int) ({ frames := 3, cells := 0, slots := 0, locals := 91 } : Room) [.ref b, .int k] w 0 0 (CS b w (bkS k cf R)) := by
  refine ct_in (il := il_X9_back) (by decide) dk_X9_back (Nat.le_of_ble_eq_true rfl) hlo ?_
  intro X h hq

  refine g_iload_n h (i := 0) rfl rfl ?_
  refine g_callSx h hq (i := 1) rfl ms_X9_255 (ct_X9_isPlace l E _ k hlo) rfl rfl ⟨rfl, rfl, Nat.le_of_ble_eq_true rfl, Nat.le_of_ble_eq_true rfl⟩ (Nat.le_of_ble_eq_true rfl) ⟨Nat.zero_le _, Nat.zero_le _⟩ ?_
  refine g_if_ne h (i := 2) 10 rfl rfl (fun c_4 => ?_) (fun c_4 => ?_)
  · skip
    obtain ⟨hk, hk3⟩ := jx (M := 3) (bI_1.mp c_4) (by decide)
    have hcg := ct_X9_canGoBackTo l E w b cf R (pI k) hlo hL hB (by omega)
    rw [← hk] at hcg
    refine g_aload_n h (i := 5) rfl rfl ?_
    refine g_iload_n h (i := 6) rfl rfl ?_
    refine g_callVx h hq (i := 7) rfl mv_X9_261 cls9 (lb_k hL) (hcg) rfl rfl ⟨rfl, rfl, Nat.le_of_ble_eq_true rfl, Nat.le_of_ble_eq_true rfl⟩ (Nat.le_of_ble_eq_true rfl) ⟨Nat.zero_le _, Nat.zero_le _⟩ ?_
    refine g_if_ne h (i := 8) 21 rfl rfl (fun c_15 => ?_) (fun c_15 => ?_)
    · skip
      have hag := bI_1.mp c_15
      have hbc := ct_X3_become l E w (b + 55) (b + 91 + 10 * pI k) (b + 1) (fun y => R (68 * (pI k + 1) + y)) hlo (lb_M hL) (lk_m hL (by omega)) (by omega) ((hB.2.2 (pI k) (by omega)).2 hag.1) (hKR (pI k) (by omega) hag.1).1
      refine g_aload_n h (i := 11) rfl rfl ?_
      refine g_getR h (i := 12) rfl fl_X9_19 (fun _ _ _ => rfl) (lb_k hL) (lb_now hL) ?_
      refine g_aload_n h (i := 13) rfl rfl ?_
      refine g_getR h (i := 14) rfl fl_X9_23 (fun _ _ _ => rfl) (lb_k hL) (lb_kept hL) ?_
      refine g_iload_n h (i := 15) rfl rfl ?_
      refine g_aald h (i := 16) rfl (by decide) (lk_kept hL) (jvp (bI_1.mp c_4) (by decide) (by omega)) (lb_m (k := pI k) hL (by omega)) ?_
      refine g_callVp (w0 := w) h hq (i := 17) rfl mv_X9_258 cls3 (lk_M (lb_M hL)) (hbc) rfl rfl ⟨rfl, rfl, Nat.le_of_ble_eq_true rfl, Nat.le_of_ble_eq_true rfl⟩ (Nat.le_of_ble_eq_true rfl) ⟨Nat.zero_le _, Nat.zero_le _⟩ (fun r31 w31 hp31 => ?_)
      obtain ⟨rfl, hT, hM⟩ := hp31
      refine g_iconst h (i := 18) rfl (v := 1) (by rfl) ?_
      exact g_iret hq h (i := 19) rfl (by
        unfold bkS
        rw [if_pos (bI_1.mp c_4), if_pos hag]
        refine ⟨rfl, bf_TF hT (by omega), rb_tf hB hT ?_ (fun y h1 h2 => cp_hi (by omega))⟩
        exact rm_c hM (fun _ _ _ => rfl) rfl (fun y hy => cp_0 hy))
    · skip
      refine g_bipush h (i := 9) rfl (v := -3) (by rfl) ?_
      exact g_iret hq h (i := 10) rfl (by unfold bkS; rw [if_pos (bI_1.mp c_4), if_neg (bI_0.mp c_15)]; exact ⟨rfl, bf_0, hB⟩)
  · skip
    refine g_bipush h (i := 3) rfl (v := -2) (by rfl) ?_
    exact g_iret hq h (i := 4) rfl (by unfold bkS; rw [if_neg (bI_0.mp c_4)]; exact ⟨rfl, bf_0, hB⟩)
theorem fa32 {p : Nat → Int64} (h : FA p) {i : Nat} (hi : i < 28) : p i = (p i).toInt32.toInt64 := by
  by_cases h4 : i < 4
  · exact (l_sm ((fr_st h4).mp (h i))).1
  · by_cases h20 : i < 20
    · exact ((isN_i ((fr_io (by omega) h20).mp (h i)) (by omega)).2.1).symm
    · exact (fr_rg (by omega) hi).mp (h i)
theorem fa_eq {p q : Nat → Int64} (h : FA p) (g : FA q) {i : Nat} (hi : i < 28) : (p i).toInt32 = (q i).toInt32 ↔ p i = q i := ⟨fun e => by rw [fa32 h hi, fa32 g hi, e], fun e => by rw [e]⟩
theorem eqB_t {f g : Nat → Int64} : ∀ n, eqB f g n = true ↔ ∀ i, i < n → f i = g i
  | 0 => ⟨fun _ i hi => absurd hi (Nat.not_lt_zero i), fun _ => rfl⟩
  | n + 1 => by
    show (eqB f g n && decide (f n = g n)) = true ↔ _
    rw [Bool.and_eq_true, decide_eq_true_iff, eqB_t n]
    constructor
    · intro h i hi
      by_cases e : i = n
      · subst e; exact h.2
      · exact h.1 i (by omega)
    · intro h
      exact ⟨fun i hi => h i (by omega), h n (by omega)⟩
-- differs from
set_option maxRecDepth 100000 in
set_option maxHeartbeats 4000000 in
theorem ct_X3_differsFrom (l : Launch) (E : EE) (w : Wd) (m s : Nat) (p q : Nat → Int64) (hlo : E.2.2 ≤ wN w) (hM : LayM w m) (hS : LayM w s) (hp : RepM w m p) (hq0 : RepM w s q) (hfp : FA p) (hfq : FA q) : Ct l E yX3_differsFrom cX3_differsFrom 3 (some .boolean) ({ frames := 0, cells := 0, slots := 0, locals := 0 } : Room) [.ref m, .ref s] w 0 0 (Px (some (.int (bI (¬ eqB (v20 p) (v20 q) 20 = true)))) w) := by
  refine ct_in (il := il_X3_differsFrom) (by decide) dk_X3_differsFrom (Nat.le_of_ble_eq_true rfl) hlo ?_
  intro X h hq

  have hdv : ∀ i, i < 20 → ∀ y, (i < 4 ∧ y = i ∨ ¬ i < 4 ∧ y = 8 + i) → p y ≠ q y → ¬ eqB (v20 p) (v20 q) 20 = true := fun i hi y hy hne t => by
    have e := (eqB_t 20).mp t i hi
    rcases hy with ⟨h4, rfl⟩ | ⟨h4, rfl⟩
    · rw [← v20_s h4, ← v20_s h4] at e; exact hne e
    · rw [← v20_o h4, ← v20_o h4] at e; exact hne e
  have k32 : ∀ (d i : Nat), i + d = 8 → (∀ j, j < 4 → p j = q j) ∧ (∀ j, j < i → p (12 + j) = q (12 + j) ∧ p (20 + j) = q (20 + j)) → G X 0 0 32 (lf [(0, .ref m), (1, .ref s), (2, .int (nI i))]) [] w := by
    intro d
    induction d with
    | zero =>
      intro i hi hin
      have hi4 : i = 8 := by omega
      subst hi4
      refine g_iload_n h (i := 20) rfl rfl ?_
      refine g_bipush h (i := 21) rfl (v := 8) (by rfl) ?_
      refine g_icmp_ge h (i := 22) 76 rfl rfl (fun c_35 => ?_) (fun c_35 => absurd (by decide : (8 : Int32) ≤ nI 8) c_35)
      refine g_iconst h (i := 45) rfl (v := 0) (by rfl) ?_
      exact g_zret hq h (i := 46) rfl (rfl) (⟨rF (fun t => t ((eqB_t 20).mpr (fun j hj => by
        by_cases h4 : j < 4
        · rw [← v20_s h4, ← v20_s h4]; exact hin.1 j h4
        · rw [← v20_o h4, ← v20_o h4]
          by_cases h12 : j < 12
          · have z := (hin.2 (j - 4) (by omega)).1
            rw [show 12 + (j - 4) = 8 + j by omega] at z; exact z
          · have z := (hin.2 (j - 12) (by omega)).2
            rw [show 20 + (j - 12) = 8 + j by omega] at z; exact z))), rfl⟩)
    | succ d ih =>
      intro i hid hin
      have hi : i < 8 := by omega
      have hnge : ¬ (8 : Int32) ≤ nI i := nI_ge (b := 8) hi (by omega)
      have hvp : vp_in (nI i) 8 := vp_in_nI hi (by omega)
      have hcl : (nI i).toNatClampNeg = i := nI_clamp (by omega)
      refine g_iload_n h (i := 20) rfl rfl ?_
      refine g_bipush h (i := 21) rfl (v := 8) (by rfl) ?_
      refine g_icmp_ge h (i := 22) 76 rfl rfl (fun c_35 => absurd c_35 hnge) (fun c_35 => ?_)
      refine g_aload_n h (i := 23) rfl rfl ?_
      refine g_getR h (i := 24) rfl fl_X3_23 (fun _ _ _ => rfl) (lk_M hM) (lm_outs hM) ?_
      refine g_iload_n h (i := 25) rfl rfl ?_
      refine g_zald h (i := 26) rfl (ln_outs hM) (hvp) ?_
      refine g_eqi (p (12 + i)).toInt32 (by rw [hcl]; exact hp.2.2.2.2.2.2.2.2.2.2.2.2.2.2.1 i hi) ?_
      refine g_aload_n h (i := 27) rfl rfl ?_
      refine g_getR h (i := 28) rfl fl_X3_23 (fun _ _ _ => rfl) (lk_M hS) (lm_outs hS) ?_
      refine g_iload_n h (i := 29) rfl rfl ?_
      refine g_zald h (i := 30) rfl (ln_outs hS) (hvp) ?_
      refine g_eqi (q (12 + i)).toInt32 (by rw [hcl]; exact hq0.2.2.2.2.2.2.2.2.2.2.2.2.2.2.1 i hi) ?_
      refine g_icmp_ne h (i := 31) 68 rfl rfl (fun c_50 => ?_) (fun c_50 => ?_)
      · skip
        refine g_iconst h (i := 41) rfl (v := 1) (by rfl) ?_
        exact g_zret hq h (i := 42) rfl (rfl) (⟨rT (hdv (4 + i) (by omega) (12 + i) (Or.inr ⟨by omega, by omega⟩) (fun t => c_50 (by rw [t]))), rfl⟩)
      · skip
        refine g_aload_n h (i := 32) rfl rfl ?_
        refine g_getR h (i := 33) rfl fl_X3_26 (fun _ _ _ => rfl) (lk_M hM) (lm_registers hM) ?_
        refine g_iload_n h (i := 34) rfl rfl ?_
        refine g_iald h (i := 35) rfl (ln_registers hM) (hvp) ?_
        refine g_eqi (p (20 + i)).toInt32 (by rw [hcl]; exact hp.2.2.2.2.2.2.2.2.2.2.2.2.2.2.2.1 i hi) ?_
        refine g_aload_n h (i := 36) rfl rfl ?_
        refine g_getR h (i := 37) rfl fl_X3_26 (fun _ _ _ => rfl) (lk_M hS) (lm_registers hS) ?_
        refine g_iload_n h (i := 38) rfl rfl ?_
        refine g_iald h (i := 39) rfl (ln_registers hS) (hvp) ?_
        refine g_eqi (q (20 + i)).toInt32 (by rw [hcl]; exact hq0.2.2.2.2.2.2.2.2.2.2.2.2.2.2.2.1 i hi) ?_
        refine g_icmp_eq h (i := 40) 70 rfl rfl (fun c_65 => ?_) (fun c_65 => ?_)
        · skip
          refine g_iinc h (i := 43) rfl rfl (dv := 1) (by rfl) ?_
          refine g_goto h (i := 44) 32 rfl rfl ?_
          exact g_lv [(0, .ref m), (1, .ref s), (2, .int (nI (i + 1)))] ⟨rfl, rfl, congrArg (fun z => some (Value.int z)) (nI_1 i), trivial⟩ (ih (i + 1) (by omega) ⟨hin.1, fun j hj => by
            by_cases e : j = i
            · subst e; exact ⟨(fa_eq hfp hfq (by omega)).mp c_50, (fa_eq hfp hfq (by omega)).mp c_65⟩
            · exact hin.2 j (by omega)⟩)
        · skip
          refine g_iconst h (i := 41) rfl (v := 1) (by rfl) ?_
          exact g_zret hq h (i := 42) rfl (rfl) (⟨rT (hdv (12 + i) (by omega) (20 + i) (Or.inr ⟨by omega, by omega⟩) (fun t => c_65 (by rw [t]))), rfl⟩)
  have k2 : ∀ (d i : Nat), i + d = 4 → (∀ j, j < i → p j = q j) → G X 0 0 2 (lf [(0, .ref m), (1, .ref s), (2, .int (nI i))]) [] w := by
    intro d
    induction d with
    | zero =>
      intro i hi hin
      have hi4 : i = 4 := by omega
      subst hi4
      refine g_iload_n h (i := 2) rfl rfl ?_
      refine g_iconst h (i := 3) rfl (v := 4) (by rfl) ?_
      refine g_icmp_ge h (i := 4) 30 rfl rfl (fun c_4 => ?_) (fun c_4 => absurd (by decide : (4 : Int32) ≤ nI 4) c_4)
      refine g_iconst h (i := 18) rfl (v := 0) (by rfl) ?_
      refine g_istore_n h (i := 19) rfl hq rfl ?_
      exact g_lv [(0, .ref m), (1, .ref s), (2, .int (nI 0))] ⟨rfl, rfl, rfl, trivial⟩ (k32 8 0 (by omega) ⟨hin, fun j hj => absurd hj (Nat.not_lt_zero j)⟩)
    | succ d ih =>
      intro i hid hin
      have hi : i < 4 := by omega
      have hnge : ¬ (4 : Int32) ≤ nI i := nI_ge (b := 4) hi (by omega)
      have hvp : vp_in (nI i) 4 := vp_in_nI hi (by omega)
      have hcl : (nI i).toNatClampNeg = i := nI_clamp (by omega)
      refine g_iload_n h (i := 2) rfl rfl ?_
      refine g_iconst h (i := 3) rfl (v := 4) (by rfl) ?_
      refine g_icmp_ge h (i := 4) 30 rfl rfl (fun c_4 => absurd c_4 hnge) (fun c_4 => ?_)
      refine g_aload_n h (i := 5) rfl rfl ?_
      refine g_getR h (i := 6) rfl fl_X3_9 (fun _ _ _ => rfl) (lk_M hM) (lm_states hM) ?_
      refine g_iload_n h (i := 7) rfl rfl ?_
      refine g_iald h (i := 8) rfl (ln_states hM) (hvp) ?_
      refine g_eqi (p (i)).toInt32 (by rw [hcl]; exact hp.2.2.2.2.2.2.2.2.2.2.2.1 i hi) ?_
      refine g_aload_n h (i := 9) rfl rfl ?_
      refine g_getR h (i := 10) rfl fl_X3_9 (fun _ _ _ => rfl) (lk_M hS) (lm_states hS) ?_
      refine g_iload_n h (i := 11) rfl rfl ?_
      refine g_iald h (i := 12) rfl (ln_states hS) (hvp) ?_
      refine g_eqi (q (i)).toInt32 (by rw [hcl]; exact hq0.2.2.2.2.2.2.2.2.2.2.2.1 i hi) ?_
      refine g_icmp_eq h (i := 13) 24 rfl rfl (fun c_19 => ?_) (fun c_19 => ?_)
      · skip
        refine g_iinc h (i := 16) rfl rfl (dv := 1) (by rfl) ?_
        refine g_goto h (i := 17) 2 rfl rfl ?_
        exact g_lv [(0, .ref m), (1, .ref s), (2, .int (nI (i + 1)))] ⟨rfl, rfl, congrArg (fun z => some (Value.int z)) (nI_1 i), trivial⟩ (ih (i + 1) (by omega) (fun j hj => by
          by_cases e : j = i
          · subst e; exact (fa_eq hfp hfq (by omega)).mp c_19
          · exact hin j (by omega)))
      · skip
        refine g_iconst h (i := 14) rfl (v := 1) (by rfl) ?_
        exact g_zret hq h (i := 15) rfl (rfl) (⟨rT (hdv i (by omega) i (Or.inl ⟨hi, rfl⟩) (fun t => c_19 (by rw [t]))), rfl⟩)
  refine g_iconst h (i := 0) rfl (v := 0) (by rfl) ?_
  refine g_istore_n h (i := 1) rfl hq rfl ?_
  exact g_lv [(0, .ref m), (1, .ref s), (2, .int (nI 0))] ⟨rfl, rfl, rfl, trivial⟩ (k2 4 0 (by omega) (fun j hj => absurd hj (Nat.not_lt_zero j)))
