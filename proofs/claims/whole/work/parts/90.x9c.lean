theorem cpI_ua (w : Wd) (s d n : Nat) : cpI w s d n = dW w (ua (wI w) d (setn (wI w d) 0 (wI w s) n)) (wJ w) (wD w) := by
  have e : (fun x y => if x = d ∧ y < n then w.2.2.2.1 s y else w.2.2.2.1 x y) = ua (wI w) d (setn (wI w d) 0 (wI w s) n) := by
    funext x y
    by_cases hx : x = d
    · subst hx
      rw [ua_s]
      by_cases hy : y < n
      · rw [if_pos ⟨rfl, hy⟩]; exact (setn_i (Nat.zero_add y).symm hy).symm
      · rw [if_neg (fun q => hy q.2)]; exact (setn_o (by omega)).symm
    · rw [if_neg (fun q => hx q.1), ua_a hx]; rfl
  exact congrArg (fun I => dW w I (wJ w) (wD w)) e
theorem cpJ_ua (w : Wd) (s d n : Nat) : cpJ w s d n = dW w (wI w) (ua (wJ w) d (setn (wJ w d) 0 (wJ w s) n)) (wD w) := by
  have e : (fun x y => if x = d ∧ y < n then w.2.2.2.2.1 s y else w.2.2.2.2.1 x y) = ua (wJ w) d (setn (wJ w d) 0 (wJ w s) n) := by
    funext x y
    by_cases hx : x = d
    · subst hx
      rw [ua_s]
      by_cases hy : y < n
      · rw [if_pos ⟨rfl, hy⟩]; exact (setn_i (Nat.zero_add y).symm hy).symm
      · rw [if_neg (fun q => hy q.2)]; exact (setn_o (by omega)).symm
    · rw [if_neg (fun q => hx q.1), ua_a hx]; rfl
  exact congrArg (fun J => dW w (wI w) J (wD w)) e
theorem rb_ps {b n s : Nat} {w : Wd} {cf : Nat → Nat → Int32} {R : Nat → Int64} {f : Nat → Int32} (h : RepB w b cf R) (hn : n < 16) (hf : ∀ j, j < 4 → wI w s j = f j) : RepB (cpI w s (b + 1 + 23 + 2 * n) 4) b (ua cf 12 (setn (cf 12) (4 * n) f 4)) R := by
  rw [cpI_ua, show b + 1 + 23 + 2 * n = b + 1 + (23 + 2 * n) by omega]
  refine ⟨?_, ?_, ?_⟩
  · rw [cf_ua]
    exact rc_ps h.1 hn (fun j hj => (setn_i (Nat.zero_add j).symm hj).trans (hf j hj))
  · exact rm_c h.2.1 (fun p h1 h3 => ua_a (by omega)) rfl (fun _ _ => rfl)
  · exact kp_c h.2.2 (fun p hp => ⟨ua_a (by omega), rfl⟩) (ua_a (by omega)) (fun _ _ _ => rfl)
theorem bf_cp {b s d n : Nat} {w w2 : Wd} (h : BF b w w2) (hd : b ≤ d ∧ d < b + 131) : BF b w (cpI w2 s d n) := by
  rw [cpI_ua]
  exact bf_d h (fun p hp => ⟨ua_a (by omega), rfl, rfl⟩)
-- teach
set_option maxRecDepth 100000 in
set_option maxHeartbeats 4000000 in
theorem ct_X9_teach (l : Launch) (E : EE) (w : Wd) (b : Nat) (cf : Nat → Nat → Int32) (R : Nat → Int64) (k : Int32) (hlo : E.2.2 ≤ wN w) (hL : LayB w b) (hB : RepB w b cf R) (hr : FA R) : Ct l E yX9_teach cX9_teach 3 (some .int) ({ frames := 2, cells := 0, slots := 0, locals := 48 } : Room) [.ref b, .int k] w 0 0 (CS b w (tcS k cf R)) := by
  refine ct_in (il := il_X9_teach) (by decide) dk_X9_teach (Nat.le_of_ble_eq_true rfl) hlo ?_
  intro X h hq

  refine g_iload_n h (i := 0) rfl rfl ?_
  refine g_callSx h hq (i := 1) rfl ms_X9_138 (ct_X9_isPose l E _ k hlo) rfl rfl ⟨rfl, rfl, Nat.le_of_ble_eq_true rfl, Nat.le_of_ble_eq_true rfl⟩ (Nat.le_of_ble_eq_true rfl) ⟨Nat.zero_le _, Nat.zero_le _⟩ ?_
  refine g_if_ne h (i := 2) 10 rfl rfl (fun c_4 => ?_) (fun c_4 => ?_)
  · skip
    obtain ⟨hk, hk3⟩ := jx (M := 15) (bI_1.mp c_4) (by decide)
    have hC := lb_C hL
    refine g_aload_n h (i := 5) rfl rfl ?_
    refine g_getR h (i := 6) rfl fl_X9_10 (fun _ _ _ => rfl) (lb_k hL) (lb_cell hL) ?_
    refine g_getR h (i := 7) rfl fl_X9_141 (fun _ _ _ => rfl) (lc_k (lb_C hL)) (lc_poses (lb_C hL)) ?_
    refine g_iload_n h (i := 8) rfl rfl ?_
    refine g_aald h (i := 9) rfl (by decide) (lk_poses (lb_C hL)) (jvp (bI_1.mp c_4) (by decide) (by omega)) (lc_po (k := pI k) hC (by omega)) ?_
    refine g_astore_n h (i := 10) rfl hq rfl ?_
    refine g_aload_n h (i := 11) rfl rfl ?_
    refine g_iconst h (i := 12) rfl (v := 1) (by rfl) ?_
    refine g_putI_0 h (i := 13) rfl fl_X9_145 nf_5_0 (fun _ _ _ => rfl) (lk_po (k := pI k) hC (by omega)) (rfl) (by rfl) ?_
    refine g_aload_n h (i := 14) rfl rfl ?_
    refine g_getR h (i := 15) rfl fl_X9_19 (fun _ _ _ => rfl) (lb_k hL) (lb_now hL) ?_
    refine g_getR h (i := 16) rfl fl_X9_85 (fun _ _ _ => rfl) (lk_M (lb_M hL)) (lm_states (lb_M hL)) ?_
    refine g_iconst h (i := 17) rfl (v := 0) (by rfl) ?_
    refine g_aload_n h (i := 18) rfl rfl ?_
    refine g_getR h (i := 19) rfl fl_X9_150 (fun _ _ _ => rfl) (lk_po (k := pI k) hC (by omega)) (lc_ps (k := pI k) hC (by omega)) ?_
    refine g_iconst h (i := 20) rfl (v := 0) (by rfl) ?_
    refine g_iconst h (i := 21) rfl (v := 4) (by rfl) ?_
    refine g_copyI (w0 := w) h hq (i := 22) (n := 4) rfl ml_X9_151 (ln_states (lb_M hL)) (lk_ps (k := pI k) hC (by omega)) rfl (by decide) (by decide) (by decide) ⟨rfl, Nat.le_of_ble_eq_true rfl⟩ ?_
    refine g_iconst h (i := 23) rfl (v := 1) (by rfl) ?_
    exact g_iret hq h (i := 24) rfl (by
      have b1 : RepB (sI w (b + 1 + 22 + 2 * pI k) 0 1) b (up2 cf 11 (pI k) 1) R := rb_p0 hB (by omega)
      have e12 : up2 cf 11 (pI k) 1 12 = cf 12 := up2_f (by omega)
      have q := rb_ps (s := b + 55 + 1) (f := fun j => (R j).toInt32) b1 (show pI k < 16 by omega) (fun j hj => (up2_a (by omega)).trans (hB.2.1.2.2.2.2.2.2.2.2.2.2.2.1 j hj))
      rw [e12] at q
      unfold tcS
      rw [if_pos (bI_1.mp c_4)]
      exact ⟨rfl, bf_cp (bf_I bf_0 (by omega)) (by omega), q⟩)
  · skip
    refine g_bipush h (i := 3) rfl (v := -2) (by rfl) ?_
    exact g_iret hq h (i := 4) rfl (by unfold tcS; rw [if_neg (bI_0.mp c_4)]; exact ⟨rfl, bf_0, hB⟩)
theorem plB {b k sh : Nat} {w : Wd} {cf : Nat → Nat → Int32} {R : Nat → Int64} (l : Launch) (E : EE) (hlo : E.2.2 ≤ wN w) (hL : LayB w b) (hB : RepB w b cf R) (hr : FA R) (hc : CfR cf) (hk : k < 16) (hsh : sh ≤ 100) : Ct l E yX4_aim cX4_aim 9 none ({ frames := 2, cells := 0, slots := 0, locals := 50 } : Room) [.ref (b + 87), .ref (b + 1 + 1), .ref (b + 55 + 1), .ref (b + 1 + 23 + 2 * k), .int (nI sh)] w 0 0 (fun r w2 => r = none ∧ ∃ I, w2 = dW w I (wJ w) (wD w) ∧ AimI w (b + 87) (fun j => (R j).toInt32) (fun j => cf 12 (4 * k + j)) (plS (fun j => pI (cf 8 j)) (pvN (fun j => pI (cf 7 j)) sh) (wdN (fun j => (R j).toInt32) (fun j => cf 12 (4 * k + j))) 0 4) 4 I) := by
  have hC := lb_C hL
  have hst : ∀ j, j < 4 → ((R j).toInt32).toInt.natAbs ≤ 1000000 := fun j hj => by rw [(l_sm ((fr_st hj).mp (hr j))).2]; exact (fr_st hj).mp (hr j)
  obtain ⟨p0, pj⟩ := hB.1.2.2.1 k hk
  exact ct_X4_aim l E w (b + 87) (b + 1 + 1) (b + 55 + 1) (b + 1 + 23 + 2 * k) sh (fun j => b + 1 + 14 + j) (fun j => pI (cf 7 j)) (fun j => pI (cf 8 j)) (fun j => (R j).toInt32) (fun j => cf 12 (4 * k + j)) hlo (lb_T hL) (lk_joints hC) (ln_states (lb_M hL)) (lk_ps hC hk) (by omega) (by omega) (fun j hj => ⟨lc_jo hC hj, lk_jo hC hj, by omega, by omega, by omega⟩) (fun j hj => ⟨(by rw [Nat.add_assoc (b + 1)]; exact (hB.1.1 j hj).2.2.2.2.1.trans (hc.2.1 j hj).1.1), (hc.2.1 j hj).2, (hc.2.1 j hj).1.2⟩) (fun j hj => ⟨(by rw [Nat.add_assoc (b + 1)]; exact (hB.1.1 j hj).2.2.2.2.2.trans (hc.2.2.1 j hj).1.1), (hc.2.2.1 j hj).2, (hc.2.2.1 j hj).1.2⟩) (fun j hj => ⟨hB.2.1.2.2.2.2.2.2.2.2.2.2.2.1 j hj, hst j hj⟩) (fun j hj => ⟨(by rw [show b + 1 + 23 + 2 * k = b + 1 + (23 + 2 * k) by omega]; exact pj j hj), hc.2.2.2.1 _ (by omega)⟩) hsh
theorem rb_aim {b : Nat} {w : Wd} {cf : Nat → Nat → Int32} {R : Nat → Int64} {st go : Nat → Int32} {q : Nat × Nat × Nat × Nat} {I : Nat → Nat → Int32} (h : RepB w b cf R) (hI : AimI w (b + 87) st go q 4 I) : RepB (dW w I (wJ w) (wD w)) b cf R ∧ BF b w (dW w I (wJ w) (wD w)) := ⟨rb_far h (fun p hp => ⟨hI.1 p (by omega) (by omega) (by omega), rfl⟩), ⟨I, wJ w, wD w, rfl, fun p hp => ⟨hI.1 p (by omega) (by omega) (by omega), rfl, rfl⟩⟩⟩
-- plan
set_option maxRecDepth 100000 in
set_option maxHeartbeats 4000000 in
theorem ct_X9_plan (l : Launch) (E : EE) (w : Wd) (b : Nat) (cf : Nat → Nat → Int32) (R : Nat → Int64) (k sh : Int32) (hlo : E.2.2 ≤ wN w) (hL : LayB w b) (hB : RepB w b cf R) (hr : FA R) (hc : CfR cf) : Ct l E yX9_plan cX9_plan 3 (some .int) ({ frames := 3, cells := 0, slots := 0, locals := 78 } : Room) [.ref b, .int k, .int sh] w 0 0 (CS b w (plnS k sh cf R)) := by
  refine ct_in (il := il_X9_plan) (by decide) dk_X9_plan (Nat.le_of_ble_eq_true rfl) hlo ?_
  intro X h hq

  refine g_iload_n h (i := 0) rfl rfl ?_
  refine g_callSx h hq (i := 1) rfl ms_X9_138 (ct_X9_isPose l E _ k hlo) rfl rfl ⟨rfl, rfl, Nat.le_of_ble_eq_true rfl, Nat.le_of_ble_eq_true rfl⟩ (Nat.le_of_ble_eq_true rfl) ⟨Nat.zero_le _, Nat.zero_le _⟩ ?_
  refine g_if_eq h (i := 2) 14 rfl rfl (fun c_4 => ?_) (fun c_4 => ?_)
  · skip
    refine g_bipush h (i := 6) rfl (v := -2) (by rfl) ?_
    exact g_iret hq h (i := 7) rfl (by unfold plnS; rw [if_neg (fun q => bI_0.mp c_4 q.1)]; exact ⟨rfl, bf_0, hB⟩)
  · skip
    refine g_iload_n h (i := 3) rfl rfl ?_
    refine g_callSx h hq (i := 4) rfl ms_X9_157 (ct_X9_isShare l E _ sh hlo) rfl rfl ⟨rfl, rfl, Nat.le_of_ble_eq_true rfl, Nat.le_of_ble_eq_true rfl⟩ (Nat.le_of_ble_eq_true rfl) ⟨Nat.zero_le _, Nat.zero_le _⟩ ?_
    refine g_if_ne h (i := 5) 17 rfl rfl (fun c_11 => ?_) (fun c_11 => ?_)
    · skip
      obtain ⟨hk, hk3⟩ := jx (M := 15) (bI_1.mp c_4) (by decide)
      have hC := lb_C hL
      obtain ⟨p0, pj⟩ := hB.1.2.2.1 (pI k) (by omega)
      have p0 : wI w (b + 1 + 22 + 2 * pI k) 0 = cf 11 (pI k) := by rw [show b + 1 + 22 + 2 * pI k = b + 1 + (22 + 2 * pI k) by omega]; exact p0
      refine g_aload_n h (i := 8) rfl rfl ?_
      refine g_getR h (i := 9) rfl fl_X9_10 (fun _ _ _ => rfl) (lb_k hL) (lb_cell hL) ?_
      refine g_getR h (i := 10) rfl fl_X9_141 (fun _ _ _ => rfl) (lc_k (lb_C hL)) (lc_poses (lb_C hL)) ?_
      refine g_iload_n h (i := 11) rfl rfl ?_
      refine g_aald h (i := 12) rfl (by decide) (lk_poses (lb_C hL)) (jvp (bI_1.mp c_4) (by decide) (by omega)) (lc_po (k := pI k) hC (by omega)) ?_
      refine g_getI h (i := 13) rfl fl_X9_145 (fun _ _ _ => rfl) (lk_po (k := pI k) hC (by omega)) ?_
      refine g_eqi (cf 11 (pI k)) p0 ?_
      refine g_if_ne h (i := 14) 35 rfl rfl (fun c_29 => ?_) (fun c_29 => ?_)
      · skip
        obtain ⟨hs, hs2⟩ := shx (bI_1.mp c_11)
        have hpl := plB (w := w) l E hlo hL hB hr hc (k := pI k) (sh := pI sh) (by omega) hs2
        obtain ⟨q', hq'⟩ : ∃ q', q' = plS (fun j => pI (cf 8 j)) (pvN (fun j => pI (cf 7 j)) (pI sh)) (wdN (fun j => (R j).toInt32) (fun j => cf 12 (4 * pI k + j))) 0 4 := ⟨_, rfl⟩
        obtain ⟨g, hg⟩ : ∃ g, g = plR cf (pI k) (pI sh) R := ⟨_, rfl⟩
        have hqq := pl_1 (fun j => pI (cf 8 j)) (pvN (fun j => pI (cf 7 j)) (pI sh)) (wdN (fun j => (R j).toInt32) (fun j => cf 12 (4 * pI k + j))) 0 1 4
        rw [← hq', show plS (fun j => pI (cf 8 j)) (pvN (fun j => pI (cf 7 j)) (pI sh)) (wdN (fun j => (R j).toInt32) (fun j => cf 12 (4 * pI k + j))) 1 4 = g from hg.symm] at hqq
        rw [← hq', ← hs] at hpl
        refine g_aload_n h (i := 17) rfl rfl ?_
        refine g_getR h (i := 18) rfl fl_X9_40 (fun _ _ _ => rfl) (lb_k hL) (lb_pl hL) ?_
        refine g_aload_n h (i := 19) rfl rfl ?_
        refine g_getR h (i := 20) rfl fl_X9_10 (fun _ _ _ => rfl) (lb_k hL) (lb_cell hL) ?_
        refine g_getR h (i := 21) rfl fl_X9_64 (fun _ _ _ => rfl) (lc_k (lb_C hL)) (lc_joints (lb_C hL)) ?_
        refine g_aload_n h (i := 22) rfl rfl ?_
        refine g_getR h (i := 23) rfl fl_X9_19 (fun _ _ _ => rfl) (lb_k hL) (lb_now hL) ?_
        refine g_getR h (i := 24) rfl fl_X9_85 (fun _ _ _ => rfl) (lk_M (lb_M hL)) (lm_states (lb_M hL)) ?_
        refine g_aload_n h (i := 25) rfl rfl ?_
        refine g_getR h (i := 26) rfl fl_X9_10 (fun _ _ _ => rfl) (lb_k hL) (lb_cell hL) ?_
        refine g_getR h (i := 27) rfl fl_X9_141 (fun _ _ _ => rfl) (lc_k (lb_C hL)) (lc_poses (lb_C hL)) ?_
        refine g_iload_n h (i := 28) rfl rfl ?_
        refine g_aald h (i := 29) rfl (by decide) (lk_poses (lb_C hL)) (jvp (bI_1.mp c_4) (by decide) (by omega)) (lc_po (k := pI k) hC (by omega)) ?_
        refine g_getR h (i := 30) rfl fl_X9_150 (fun _ _ _ => rfl) (lk_po (k := pI k) hC (by omega)) (lc_ps (k := pI k) hC (by omega)) ?_
        refine g_iload_n h (i := 31) rfl rfl ?_
        refine g_callVp (w0 := w) h hq (i := 32) rfl mv_X9_160 cls4 (lk_T (lb_T hL)) (hpl) rfl rfl ⟨rfl, rfl, Nat.le_of_ble_eq_true rfl, Nat.le_of_ble_eq_true rfl⟩ (Nat.le_of_ble_eq_true rfl) ⟨Nat.zero_le _, Nat.zero_le _⟩ (fun r66 w66 hp66 => ?_)
        obtain ⟨rfl, I, rfl, hI⟩ := hp66
        refine g_aload_n h (i := 33) rfl rfl ?_
        refine g_getR h (i := 34) rfl fl_X9_40 (fun _ _ _ => rfl) (lb_k hL) (lb_pl hL) ?_
        refine g_getI h (i := 35) rfl fl_X9_164 (fun _ _ _ => rfl) (lk_T (lb_T hL)) ?_
        refine g_eqi (nI g.1) (hI.2.2.1.trans (congrArg nI hqq.1)) ?_
        exact g_iret hq h (i := 36) rfl (by unfold plnS; rw [if_pos ⟨bI_1.mp c_4, bI_1.mp c_11⟩, if_neg c_29, ← hg]; exact ⟨rfl, (rb_aim hB hI).2, (rb_aim hB hI).1⟩)
      · skip
        refine g_bipush h (i := 15) rfl (v := -3) (by rfl) ?_
        exact g_iret hq h (i := 16) rfl (by unfold plnS; rw [if_pos ⟨bI_1.mp c_4, bI_1.mp c_11⟩, if_pos c_29]; exact ⟨rfl, bf_0, hB⟩)
    · skip
      refine g_bipush h (i := 6) rfl (v := -2) (by rfl) ?_
      exact g_iret hq h (i := 7) rfl (by unfold plnS; rw [if_neg (fun q => bI_0.mp c_11 q.2)]; exact ⟨rfl, bf_0, hB⟩)
theorem mv_0 (fr dl : Int) (wy : Nat) : mvS fr dl 0 wy = fr := by
  unfold mvS
  rw [show dl * ((0 : Nat) : Int) = 0 from Int.mul_zero dl, Int.zero_tdiv, Int.add_zero]
theorem mv_n {fr to : Int} {g wy : Nat} (h : g ≤ wy) (hf : fr.natAbs ≤ 1000000) (ht : to.natAbs ≤ 1000000) : (mvS fr (to - fr) g wy).natAbs ≤ 1000000 := by
  have := mv_btw (fr := fr) (dl := to - fr) h
  omega
theorem of32 (z : Int) (h1 : -2147483648 ≤ z) (h2 : z < 2147483648) : (Int64.ofInt z).toInt32 = Int32.ofInt z := i32x (by rw [l_i (by rw [ofI64 (by omega) (by omega)]; omega) (by rw [ofI64 (by omega) (by omega)]; omega), ofI64 (by omega) (by omega), ofI32 (by omega) (by omega)])
-- along
set_option maxRecDepth 100000 in
set_option maxHeartbeats 4000000 in
theorem ct_X9_along (l : Launch) (E : EE) (w : Wd) (b : Nat) (cf : Nat → Nat → Int32) (R : Nat → Int64) (k sh t j : Int32) (hlo : E.2.2 ≤ wN w) (hL : LayB w b) (hB : RepB w b cf R) (hr : FA R) (hc : CfR cf) : Ct l E yX9_along cX9_along 5 (some .int) ({ frames := 3, cells := 0, slots := 0, locals := 78 } : Room) [.ref b, .int k, .int sh, .int t, .int j] w 0 0 (CS b w (alS k sh t j cf R)) := by
  refine ct_in (il := il_X9_along) (by decide) dk_X9_along (Nat.le_of_ble_eq_true rfl) hlo ?_
  intro X h hq

  refine g_iload_n h (i := 0) rfl rfl ?_
  refine g_callSx h hq (i := 1) rfl ms_X9_138 (ct_X9_isPose l E _ k hlo) rfl rfl ⟨rfl, rfl, Nat.le_of_ble_eq_true rfl, Nat.le_of_ble_eq_true rfl⟩ (Nat.le_of_ble_eq_true rfl) ⟨Nat.zero_le _, Nat.zero_le _⟩ ?_
  refine g_if_eq h (i := 2) 41 rfl rfl (fun c_4 => ?_) (fun c_4 => ?_)
  · skip
    refine g_ldc h (i := 18) rfl k_X9_98 ?_
    exact g_iret hq h (i := 19) rfl (by unfold alS; rw [if_neg (fun q => bI_0.mp c_4 q.1)]; exact ⟨rfl, bf_0, hB⟩)
  · skip
    refine g_iload_n h (i := 3) rfl rfl ?_
    refine g_callSx h hq (i := 4) rfl ms_X9_157 (ct_X9_isShare l E _ sh hlo) rfl rfl ⟨rfl, rfl, Nat.le_of_ble_eq_true rfl, Nat.le_of_ble_eq_true rfl⟩ (Nat.le_of_ble_eq_true rfl) ⟨Nat.zero_le _, Nat.zero_le _⟩ ?_
    refine g_if_eq h (i := 5) 41 rfl rfl (fun c_11 => ?_) (fun c_11 => ?_)
    · skip
      refine g_ldc h (i := 18) rfl k_X9_98 ?_
      exact g_iret hq h (i := 19) rfl (by unfold alS; rw [if_neg (fun q => bI_0.mp c_11 q.2.1)]; exact ⟨rfl, bf_0, hB⟩)
    · skip
      refine g_iload_n h (i := 6) rfl rfl ?_
      refine g_if_lt h (i := 7) 41 rfl rfl (fun c_15 => ?_) (fun c_15 => ?_)
      · skip
        refine g_ldc h (i := 18) rfl k_X9_98 ?_
        exact g_iret hq h (i := 19) rfl (by unfold alS; rw [if_neg (fun q => i32nlt.mpr q.2.2.2.2 c_15)]; exact ⟨rfl, bf_0, hB⟩)
      · skip
        refine g_iload h (i := 8) rfl rfl ?_
        refine g_callSx h hq (i := 9) rfl ms_X9_51 (ct_X9_isJoint l E _ j hlo) rfl rfl ⟨rfl, rfl, Nat.le_of_ble_eq_true rfl, Nat.le_of_ble_eq_true rfl⟩ (Nat.le_of_ble_eq_true rfl) ⟨Nat.zero_le _, Nat.zero_le _⟩ ?_
        refine g_if_eq h (i := 10) 41 rfl rfl (fun c_23 => ?_) (fun c_23 => ?_)
        · skip
          refine g_ldc h (i := 18) rfl k_X9_98 ?_
          exact g_iret hq h (i := 19) rfl (by unfold alS; rw [if_neg (fun q => bI_0.mp c_23 q.2.2.2.1)]; exact ⟨rfl, bf_0, hB⟩)
        · skip
          obtain ⟨hk, hk3⟩ := jx (M := 15) (bI_1.mp c_4) (by decide)
          have hC := lb_C hL
          obtain ⟨p0, pj⟩ := hB.1.2.2.1 (pI k) (by omega)
          have p0 : wI w (b + 1 + 22 + 2 * pI k) 0 = cf 11 (pI k) := by rw [show b + 1 + 22 + 2 * pI k = b + 1 + (22 + 2 * pI k) by omega]; exact p0
          refine g_aload_n h (i := 11) rfl rfl ?_
          refine g_getR h (i := 12) rfl fl_X9_10 (fun _ _ _ => rfl) (lb_k hL) (lb_cell hL) ?_
          refine g_getR h (i := 13) rfl fl_X9_141 (fun _ _ _ => rfl) (lc_k (lb_C hL)) (lc_poses (lb_C hL)) ?_
          refine g_iload_n h (i := 14) rfl rfl ?_
          refine g_aald h (i := 15) rfl (by decide) (lk_poses (lb_C hL)) (jvp (bI_1.mp c_4) (by decide) (by omega)) (lc_po (k := pI k) hC (by omega)) ?_
          refine g_getI h (i := 16) rfl fl_X9_145 (fun _ _ _ => rfl) (lk_po (k := pI k) hC (by omega)) ?_
          refine g_eqi (cf 11 (pI k)) p0 ?_
          refine g_if_ne h (i := 17) 44 rfl rfl (fun c_38 => ?_) (fun c_38 => ?_)
          · skip
            obtain ⟨hs, hs2⟩ := shx (bI_1.mp c_11)
            have hpl := plB (w := w) l E hlo hL hB hr hc (k := pI k) (sh := pI sh) (by omega) hs2
            obtain ⟨q', hq'⟩ : ∃ q', q' = plS (fun j => pI (cf 8 j)) (pvN (fun j => pI (cf 7 j)) (pI sh)) (wdN (fun j => (R j).toInt32) (fun j => cf 12 (4 * pI k + j))) 0 4 := ⟨_, rfl⟩
            obtain ⟨g, hg⟩ : ∃ g, g = plR cf (pI k) (pI sh) R := ⟨_, rfl⟩
            have hqq := pl_1 (fun j => pI (cf 8 j)) (pvN (fun j => pI (cf 7 j)) (pI sh)) (wdN (fun j => (R j).toInt32) (fun j => cf 12 (4 * pI k + j))) 0 1 4
            rw [← hq', show plS (fun j => pI (cf 8 j)) (pvN (fun j => pI (cf 7 j)) (pI sh)) (wdN (fun j => (R j).toInt32) (fun j => cf 12 (4 * pI k + j))) 1 4 = g from hg.symm] at hqq
            rw [← hq', ← hs] at hpl
            refine g_aload_n h (i := 20) rfl rfl ?_
            refine g_getR h (i := 21) rfl fl_X9_40 (fun _ _ _ => rfl) (lb_k hL) (lb_pl hL) ?_
            refine g_aload_n h (i := 22) rfl rfl ?_
            refine g_getR h (i := 23) rfl fl_X9_10 (fun _ _ _ => rfl) (lb_k hL) (lb_cell hL) ?_
            refine g_getR h (i := 24) rfl fl_X9_64 (fun _ _ _ => rfl) (lc_k (lb_C hL)) (lc_joints (lb_C hL)) ?_
            refine g_aload_n h (i := 25) rfl rfl ?_
            refine g_getR h (i := 26) rfl fl_X9_19 (fun _ _ _ => rfl) (lb_k hL) (lb_now hL) ?_
            refine g_getR h (i := 27) rfl fl_X9_85 (fun _ _ _ => rfl) (lk_M (lb_M hL)) (lm_states (lb_M hL)) ?_
            refine g_aload_n h (i := 28) rfl rfl ?_
            refine g_getR h (i := 29) rfl fl_X9_10 (fun _ _ _ => rfl) (lb_k hL) (lb_cell hL) ?_
            refine g_getR h (i := 30) rfl fl_X9_141 (fun _ _ _ => rfl) (lc_k (lb_C hL)) (lc_poses (lb_C hL)) ?_
            refine g_iload_n h (i := 31) rfl rfl ?_
            refine g_aald h (i := 32) rfl (by decide) (lk_poses (lb_C hL)) (jvp (bI_1.mp c_4) (by decide) (by omega)) (lc_po (k := pI k) hC (by omega)) ?_
            refine g_getR h (i := 33) rfl fl_X9_150 (fun _ _ _ => rfl) (lk_po (k := pI k) hC (by omega)) (lc_ps (k := pI k) hC (by omega)) ?_
            refine g_iload_n h (i := 34) rfl rfl ?_
            refine g_callVp (w0 := w) h hq (i := 35) rfl mv_X9_160 cls4 (lk_T (lb_T hL)) (hpl) rfl rfl ⟨rfl, rfl, Nat.le_of_ble_eq_true rfl, Nat.le_of_ble_eq_true rfl⟩ (Nat.le_of_ble_eq_true rfl) ⟨Nat.zero_le _, Nat.zero_le _⟩ (fun r75 w75 hp75 => ?_)
            obtain ⟨rfl, I, rfl, hI⟩ := hp75
            obtain ⟨hj, hj3⟩ := jx (M := 3) (bI_1.mp c_23) (by decide)
            obtain ⟨a1, a2, a3, a4, a5, a6⟩ := hI
            have ht : t = nI (pI t) := by
              have q := i32le.mp (i32nlt.mp c_15)
              have e0 : (0 : Int32).toInt = 0 := rfl
              have b1 := i32b t
              exact i32x (by unfold pI; rw [nIT (by omega)]; omega)
            have htb : pI t < 2147483648 := by unfold pI; have := i32b t; omega
            have hpo := plR_ok hc hr (k := pI k) (sh := pI sh) (by omega) hs2
            rw [← hg] at hpo
            have hpz := pl_z (rs := fun j => pI (cf 8 j)) (pv := pvN (fun j => pI (cf 7 j)) (pI sh)) (wd := wdN (fun j => (R j).toInt32) (fun j => cf 12 (4 * pI k + j))) (w0 := 0) 4
            rw [← hq'] at hpz
            have hpz1 := pl_z (rs := fun j => pI (cf 8 j)) (pv := pvN (fun j => pI (cf 7 j)) (pI sh)) (wd := wdN (fun j => (R j).toInt32) (fun j => cf 12 (4 * pI k + j))) (w0 := 1) 4
            rw [show plS (fun j => pI (cf 8 j)) (pvN (fun j => pI (cf 7 j)) (pI sh)) (wdN (fun j => (R j).toInt32) (fun j => cf 12 (4 * pI k + j))) 1 4 = g from hg.symm] at hpz1
            have hok : q'.1 ≤ 2000000 ∧ mB q'.2.1 q'.2.2.1 ∧ q'.2.2.2 ≤ 2000000 := by
              by_cases z : q'.1 = 0
              · rw [hpz z]; exact ⟨Nat.zero_le _, by (show mB 1 1); unfold mB; omega, Nat.zero_le _⟩
              · have e := hqq.2 (by omega)
                rw [e]; exact ⟨hpo.1, hpo.2.1, hpo.2.2.1⟩
            have hle : t ≤ nI q'.1 ↔ pI t ≤ g.1 := by
              have e : t ≤ nI q'.1 ↔ nI (pI t) ≤ nI q'.1 := by rw [← ht]
              rw [e, ← hqq.1, i32le, nIT htb, nIT (by omega)]
              omega
            have s1 := l_sm ((fr_st (show pI j < 4 by omega)).mp (hr (pI j)))
            have s1b := (fr_st (show pI j < 4 by omega)).mp (hr (pI j))
            have gob := hc.2.2.2.1 (4 * pI k + pI j) (by omega)
            have ed : (cf 12 (4 * pI k + pI j) - (R (pI j)).toInt32).toInt = (cf 12 (4 * pI k + pI j)).toInt - (R (pI j)).toInt := by rw [i_sub (by rw [s1.2]; omega) (by rw [s1.2]; omega), s1.2]
            refine g_iload_n h (i := 36) rfl rfl ?_
            refine g_aload_n h (i := 37) rfl rfl ?_
            refine g_getR h (i := 38) rfl fl_X9_40 (fun _ _ _ => rfl) (lb_k hL) (lb_pl hL) ?_
            refine g_getI h (i := 39) rfl fl_X9_164 (fun _ _ _ => rfl) (lk_T (lb_T hL)) ?_
            refine g_eqi (nI q'.1) a3 ?_
            refine g_icmp_le h (i := 40) 92 rfl rfl (fun c_86 => ?_) (fun c_86 => ?_)
            · skip
              have htk : pI t ≤ q'.1 := by rw [hqq.1]; exact hle.mp c_86
              have hgb := ct_X4_goneBehind l E (dW w I (wJ w) (wD w)) (b + 87) q'.2.1 q'.2.2.1 q'.1 q'.2.2.2 (pI t) hlo (lk_T (lb_T hL)) a3 a4 a5 a6 hok.2.1 (by omega) htk (by omega)
              rw [← ht] at hgb
              have hsa := ct_X4_stateAt l E (dW w I (wJ w) (wD w)) (b + 87) (b + 87 + 1) (b + 87 + 2) (pI j) (min (gnN q'.2.1 q'.2.2.1 q'.1 (pI t)) q'.2.2.2) q'.2.2.2 (R (pI j)).toInt32 (cf 12 (4 * pI k + pI j) - (R (pI j)).toInt32) hlo (lk_T (lb_T hL)) (lt_from (lb_T hL)) (lt_by (lb_T hL)) (lu_from (lb_T hL)) (lu_by (lb_T hL)) a4 (by omega) (a2 (pI j) (by omega)).1 (a2 (pI j) (by omega)).2 (by rw [s1.2]; exact s1b) (by rw [ed]; omega) (Nat.min_le_right _ _) (by omega)
              rw [← hj, ed, s1.2] at hsa
              have hans : (Int64.ofInt (alN cf R g (pI k) (pI j) (pI t))).toInt32 = Int32.ofInt (mvS (R (pI j)).toInt ((cf 12 (4 * pI k + pI j)).toInt - (R (pI j)).toInt) (min (gnN q'.2.1 q'.2.2.1 q'.1 (pI t)) q'.2.2.2) q'.2.2.2) := by
                by_cases z : q'.1 = 0
                · have e1 := hpz z
                  have e2 : g = (0, 1, 1, 1) := hpz1 (by rw [← hqq.1]; exact z)
                  have t0 : pI t = 0 := by omega
                  unfold alN
                  rw [e1, e2, t0]
                  show (Int64.ofInt (mvS (R (pI j)).toInt ((cf 12 (4 * pI k + pI j)).toInt - (R (pI j)).toInt) 0 1)).toInt32 = Int32.ofInt (mvS (R (pI j)).toInt ((cf 12 (4 * pI k + pI j)).toInt - (R (pI j)).toInt) 0 0)
                  rw [mv_0, mv_0]
                  exact of32 _ (by omega) (by omega)
                · have e := hqq.2 (by omega)
                  have hp1 : 0 < g.2.2.2 := hpo.2.2.2 (by rw [← hqq.1]; omega)
                  unfold alN
                  rw [e]
                  have bb := mv_n (fr := (R (pI j)).toInt) (to := (cf 12 (4 * pI k + pI j)).toInt) (g := min (gnN g.2.1 g.2.2.1 g.1 (pI t)) g.2.2.2) (wy := g.2.2.2) (Nat.min_le_right _ _) s1b gob
                  exact of32 _ (by omega) (by omega)
              refine g_aload_n h (i := 43) rfl rfl ?_
              refine g_getR h (i := 44) rfl fl_X9_40 (fun _ _ _ => rfl) (lb_k hL) (lb_pl hL) ?_
              refine g_iload h (i := 45) rfl rfl ?_
              refine g_aload_n h (i := 46) rfl rfl ?_
              refine g_getR h (i := 47) rfl fl_X9_40 (fun _ _ _ => rfl) (lb_k hL) (lb_pl hL) ?_
              refine g_iload_n h (i := 48) rfl rfl ?_
              refine g_callVx h hq (i := 49) rfl mv_X9_167 cls4 (lk_T (lb_T hL)) (hgb) rfl rfl ⟨rfl, rfl, Nat.le_of_ble_eq_true rfl, Nat.le_of_ble_eq_true rfl⟩ (Nat.le_of_ble_eq_true rfl) ⟨Nat.zero_le _, Nat.zero_le _⟩ ?_
              refine g_callVx h hq (i := 50) rfl mv_X9_171 cls4 (lk_T (lb_T hL)) (hsa) rfl rfl ⟨rfl, rfl, Nat.le_of_ble_eq_true rfl, Nat.le_of_ble_eq_true rfl⟩ (Nat.le_of_ble_eq_true rfl) ⟨Nat.zero_le _, Nat.zero_le _⟩ ?_
              exact g_iret hq h (i := 51) rfl (by unfold alS; rw [if_pos ⟨bI_1.mp c_4, bI_1.mp c_11, c_38, bI_1.mp c_23, i32nlt.mp c_15⟩, if_pos (by rw [← hg]; exact hle.mp c_86), ← hg, hans]; exact ⟨rfl, (rb_aim hB ⟨a1, a2, a3, a4, a5, a6⟩).2, (rb_aim hB ⟨a1, a2, a3, a4, a5, a6⟩).1⟩)
            · skip
              refine g_ldc h (i := 41) rfl k_X9_98 ?_
              exact g_iret hq h (i := 42) rfl (by unfold alS; rw [if_pos ⟨bI_1.mp c_4, bI_1.mp c_11, c_38, bI_1.mp c_23, i32nlt.mp c_15⟩, if_neg (fun z => c_86 (hle.mpr (by rw [hg]; exact z)))]; exact ⟨rfl, (rb_aim hB ⟨a1, a2, a3, a4, a5, a6⟩).2, (rb_aim hB ⟨a1, a2, a3, a4, a5, a6⟩).1⟩)
          · skip
            refine g_ldc h (i := 18) rfl k_X9_98 ?_
            exact g_iret hq h (i := 19) rfl (by unfold alS; rw [if_neg (fun q => q.2.2.1 c_38)]; exact ⟨rfl, bf_0, hB⟩)
