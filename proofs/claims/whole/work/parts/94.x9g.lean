/-- what a replay may change -/
def RF (b : Nat) (w w3 : Wd) : Prop := ∃ I J D, w3 = dW w I J D ∧ (∀ p, ¬ (b + 67 ≤ p ∧ p < b + 87) → p ≠ b + 14 → I p = wI w p ∧ J p = wJ w p) ∧ (∀ p, p ≠ b + 13 → D p = wD w p)
theorem rf_0 {b : Nat} {w : Wd} : RF b w w := ⟨_, _, _, rfl, fun _ _ _ => ⟨rfl, rfl⟩, fun _ _ => rfl⟩
theorem rf_TF {b m : Nat} {w w2 w3 : Wd} (h : RF b w w2) (g : TF (b + 1) m w2 w3) (hm : b + 67 ≤ m ∧ m + 10 ≤ b + 87) : RF b w w3 := by
  obtain ⟨I, J, D, rfl, h1, h2⟩ := h
  obtain ⟨I', J', D', rfl, g1, g2, g3⟩ := g
  exact ⟨I', J', D', rfl, fun p hp hp2 => ⟨(g1 p (by omega) (by omega)).trans (h1 p hp hp2).1, (g2 p (by omega)).trans (h1 p hp hp2).2⟩, fun p hp => (g3 p (by omega)).trans (h2 p hp)⟩
theorem rf_L {b : Nat} {w w3 : Wd} (h : RF b w w3) : (LayB w b → LayB w3 b) ∧ wN w3 = wN w ∧ BF b w w3 := by
  obtain ⟨I, J, D, rfl, h1, h2⟩ := h
  exact ⟨fun x => x, rfl, ⟨I, J, D, rfl, fun p hp => ⟨(h1 p (by omega) (by omega)).1, (h1 p (by omega) (by omega)).2, h2 p (by omega)⟩⟩⟩
theorem rf_B {b : Nat} {w w3 : Wd} {cf : Nat → Nat → Int32} {R R' : Nat → Int64} (h : RF b w w3) (hB : RepB w b cf R) (hR : ∀ y, y < 340 → R' y = R y) : RepB w3 b cf R' := by
  obtain ⟨I, J, D, rfl, h1, h2⟩ := h
  exact ⟨rc_c hB.1 (fun f hf hf2 => (h1 (b + 1 + f) (by omega) (by omega)).1), rm_c hB.2.1 (fun p h3 h4 => (h1 p (by omega) (by omega)).1) (h1 _ (by omega) (by omega)).2 (fun y hy => hR y (by omega)), kp_c hB.2.2 (fun p hp => h1 p (by omega) (by omega)) rfl (fun y h3 h4 => hR y h4)⟩
-- replay
set_option maxRecDepth 100000 in
set_option maxHeartbeats 4000000 in
theorem ct_X9_replay (l : Launch) (E : EE) (w : Wd) (b : Nat) (cf : Nat → Nat → Int32) (R : Nat → Int64) (k n : Int32) (hlo : E.2.2 ≤ wN w) (hL : LayB w b) (hB : RepB w b cf R) (hr : RR R) (hc : CfR cf) (hKR : ∀ k, k < 4 → cf 2 k ≠ 0 → RR (fun y => R (68 * (k + 1) + y)) ∧ isN (R (68 * (k + 1) + 29)) 1000000000) (ht : isN (R 29) 1000000000) : Ct l E yX9_replay cX9_replay 4 (some .int) ({ frames := 6, cells := 0, slots := 0, locals := 148 } : Room) [.ref b, .int k, .int n] w 0 0 (CS b w (rpS k n cf R)) := by
  refine ct_in (il := il_X9_replay) (by decide) dk_X9_replay (Nat.le_of_ble_eq_true rfl) hlo ?_
  intro X h hq

  have hlo0 := hlo
  have hL0 := hL
  have main : (0 ≤ k ∧ k ≤ 3) ∧ (1 ≤ n ∧ n ≤ 100) → agP cf R (pI k) → G X 0 0 31 (lf [(0, .ref b), (1, .int k), (2, .int n)]) [] w := by
    intro hg hag
    obtain ⟨hk, hk3⟩ := jx (M := 3) hg.1 (by decide)
    obtain ⟨hn, hn2⟩ := shx hg.2
    obtain ⟨N, hN⟩ : ∃ N, N = pI n := ⟨_, rfl⟩
    rw [← hN] at hn hn2
    obtain ⟨hKRk, hKt⟩ := hKR (pI k) (by omega) hag.1
    obtain ⟨⟨p1, p2⟩, ⟨q1, q2⟩⟩ := rp_ok (n := n) hc hr hk3 hKRk
    have hpS : rpS k n cf R = (.int (dfI cf (rpP k R) (rpQ cf k n R) N), cf, cpR 5 0 R) := by unfold rpS; rw [if_pos hg, if_pos hag, hN]
    rw [hpS] at hq
    have hp68 : ∀ y, y < 68 → rpP k R y = R (68 * (pI k + 1) + y) := fun y hy => by show cpR 0 (pI k + 1) (cpR 5 0 R) y = _; rw [cp_0 hy, cp_hi (by omega)]
    have hq68 : ∀ y, y < 68 → rpQ cf k n R y = R y := fun y hy => by
      show cpR 0 5 (tkI cf (pI n) (rpP k R)) y = R y
      rw [cp_0 hy, (tkI_ok hc p1 (pI n)).2 _ (by omega), p2 _ (by omega), cp_lo (b := 5) hy, show 68 * 0 + y = y by omega]
    obtain ⟨p, hp⟩ : ∃ p, p = rpP k R := ⟨_, rfl⟩
    obtain ⟨q, hqq⟩ : ∃ q, q = rpQ cf k n R := ⟨_, rfl⟩
    rw [← hp] at p1 p2 hp68 hq
    rw [← hqq] at q1 q2 hq68 hq
    have pt : isN (p 29) 1000000000 := by rw [hp68 29 (by omega)]; exact hKt
    have qt : isN (q 29) 1000000000 := by rw [hq68 29 (by omega)]; exact ht
    have tt : ∀ (x : Nat → Int64), RR x → isN (x 29) 1000000000 → ∀ s, s ≤ 200 → isN (tkI cf s x 29) (1000000000 + s) := by
      intro x hx hxt s
      induction s with
      | zero => intro _; exact hxt
      | succ s ih =>
        intro hs
        have a := ih (by omega)
        have b := (tkI_ok hc hx s).1
        show isN (tkG cf (tkI cf s x) 29) _
        unfold tkG
        by_cases g : tkI cf s x 28 = 1
        · rw [if_pos g, (hi_68 hc b g).2]; exact (isN_1 a (by omega)).1
        · rw [if_neg g]; exact isN_up a (by omega)
    have fin : ∀ w3, RF b w w3 → BF b w w3 ∧ RepB w3 b cf (cpR 5 0 R) := fun w3 hF => ⟨(rf_L hF).2.2, rf_B hF hB (fun y hy => cp_hi (by omega))⟩
    have k88 : ∀ (s : Nat) (w3 : Wd), s ≤ N → RF b w w3 → RepM w3 (b + 67) (tkI cf s p) → RepM w3 (b + 77) (tkI cf s q) → (s = 0 ∨ dfI cf p q (s - 1) = -1) → (dfI cf p q s = -1 → G X 0 0 57 (lf [(0, .ref b), (2, .int n), (3, .int (nI (s + 1)))]) [] w3) → G X 0 0 88 (lf [(0, .ref b), (2, .int n), (3, .int (nI s))]) [] w3 := by
      intro s w3 hsN hF hMp hMq hprev hnx
      have hL := (rf_L hF).1 hL
      have hlo : E.2.2 ≤ wN w3 := by rw [(rf_L hF).2.1]; exact hlo0
      have op := tkI_ok hc p1 s
      have oq := tkI_ok hc q1 s
      have hd1 : ¬ eqB (v20 (tkI cf s p)) (v20 (tkI cf s q)) 20 = true → dfI cf p q s = nI s := fun z => by
        cases s with
        | zero => exact if_neg z
        | succ s =>
          have e : dfI cf p q s = -1 := by
            rcases hprev with t | t
            · omega
            · exact t
          exact (df_1 e).trans (if_neg z)
      have hd2 : eqB (v20 (tkI cf s p)) (v20 (tkI cf s q)) 20 = true → dfI cf p q s = -1 := fun z => by
        cases s with
        | zero => exact if_pos z
        | succ s =>
          have e : dfI cf p q s = -1 := by
            rcases hprev with t | t
            · omega
            · exact t
          exact (df_1 e).trans (if_pos z)
      have hans : ¬ eqB (v20 (tkI cf s p)) (v20 (tkI cf s q)) 20 = true → dfI cf p q N = nI s := fun z => by
        have e := hd1 z
        have ne : ¬ dfI cf p q s = -1 := fun t => by
          have u := congrArg Int32.toInt (e.symm.trans t)
          rw [nIT (by omega)] at u
          have e1 : (-1 : Int32).toInt = -1 := rfl
          omega
        have st := df_stop ne (N - s)
        rw [show s + (N - s) = N by omega] at st
        rw [st, e]
      refine g_aload_n h (i := 45) rfl rfl ?_
      refine g_getR h (i := 46) rfl fl_X9_31 (fun _ _ _ => rfl) (lb_k hL) (lb_rk hL) ?_
      refine g_aload_n h (i := 47) rfl rfl ?_
      refine g_getR h (i := 48) rfl fl_X9_34 (fun _ _ _ => rfl) (lb_k hL) (lb_rn hL) ?_
      refine g_callVx h hq (i := 49) rfl mv_X9_264 cls3 (lk_M (lb_MK hL)) (ct_X3_differsFrom l E w3 (b + 67) (b + 77) (tkI cf s p) (tkI cf s q) hlo (lb_MK hL) (lb_MN hL) hMp hMq op.1.1 oq.1.1) rfl rfl ⟨rfl, rfl, Nat.le_of_ble_eq_true rfl, Nat.le_of_ble_eq_true rfl⟩ (Nat.le_of_ble_eq_true rfl) ⟨Nat.zero_le _, Nat.zero_le _⟩ ?_
      refine g_if_eq h (i := 50) 104 rfl rfl (fun c_99 => ?_) (fun c_99 => ?_)
      · skip
        refine g_iinc h (i := 53) rfl rfl (dv := 1) (by rfl) ?_
        refine g_goto h (i := 54) 57 rfl rfl ?_
        exact g_lv [(0, .ref b), (2, .int n), (3, .int (nI (s + 1)))] ⟨rfl, rfl, congrArg (fun z => some (Value.int z)) (nI_1 s), trivial⟩ (hnx (hd2 (Decidable.not_not.mp (bI_0.mp c_99))))
      · skip
        refine g_iload_n h (i := 51) rfl rfl ?_
        exact g_iret hq h (i := 52) rfl (by rw [← hans (bI_1.mp c_99)]; exact ⟨rfl, fin w3 hF⟩)
    have k57 : ∀ (d s : Nat) (w3 : Wd), s + d = N → RF b w w3 → RepM w3 (b + 67) (tkI cf s p) → RepM w3 (b + 77) (tkI cf s q) → dfI cf p q s = -1 → G X 0 0 57 (lf [(0, .ref b), (2, .int n), (3, .int (nI (s + 1)))]) [] w3 := by
      intro d
      induction d with
      | zero =>
        intro s w3 hs hF hMp hMq hd
        have hmN : s = N := by omega
        have hgt : n < nI (s + 1) := by rw [hn, hmN]; exact i32lt.mpr (by rw [nIT (by omega), nIT (by omega)]; omega)
        refine g_iload_n h (i := 30) rfl rfl ?_
        refine g_iload_n h (i := 31) rfl rfl ?_
        refine g_icmp_gt h (i := 32) 110 rfl rfl (fun c_59 => ?_) (fun c_59 => absurd hgt c_59)
        refine g_iconst h (i := 55) rfl (v := -1) (by rfl) ?_
        exact g_iret hq h (i := 56) rfl (by rw [hmN] at hd; rw [← hd]; exact ⟨rfl, fin w3 hF⟩)
      | succ d ih =>
        intro s w3 hs hF hMp hMq hd
        have hL := (rf_L hF).1 hL
        have hlo : E.2.2 ≤ wN w3 := by rw [(rf_L hF).2.1]; exact hlo0
        have hgt : ¬ n < nI (s + 1) := by rw [hn]; exact fun z => by (have := i32lt.mp z; rw [nIT (by omega), nIT (by omega)] at this; omega)
        have hpos : ¬ nI (s + 1) ≤ 0 := fun z => by (have := i32le.mp z; rw [nIT (by omega)] at this; have e0 : (0 : Int32).toInt = 0 := rfl; omega)
        have op := tkI_ok hc p1 s
        have oq := tkI_ok hc q1 s
        have hC3 : RepC (cfW w3 (b + 1)) cf := (rf_B hF hB (R' := R) (fun _ _ => rfl)).1
        have ct1 := ct_X1_oneTick l E w3 (b + 1) (b + 67) cf (tkI cf s p) hlo (lb_C hL) (lb_MK hL) (by omega) hMp hC3 op.1 hc (isN_up (tt p p1 pt s (by omega)) (by omega))
        refine g_iload_n h (i := 30) rfl rfl ?_
        refine g_iload_n h (i := 31) rfl rfl ?_
        refine g_icmp_gt h (i := 32) 110 rfl rfl (fun c_59 => absurd c_59 hgt) (fun c_59 => ?_)
        refine g_iload_n h (i := 33) rfl rfl ?_
        refine g_if_le h (i := 34) 88 rfl rfl (fun c_63 => absurd c_63 hpos) (fun c_63 => ?_)
        refine g_aload_n h (i := 35) rfl rfl ?_
        refine g_getR h (i := 36) rfl fl_X9_10 (fun _ _ _ => rfl) (lb_k hL) (lb_cell hL) ?_
        refine g_aload_n h (i := 37) rfl rfl ?_
        refine g_getR h (i := 38) rfl fl_X9_31 (fun _ _ _ => rfl) (lb_k hL) (lb_rk hL) ?_
        refine g_callVp (w0 := w) h hq (i := 39) rfl mv_X9_210 cls1 (lc_k (lb_C hL)) (ct1) rfl rfl ⟨rfl, rfl, Nat.le_of_ble_eq_true rfl, Nat.le_of_ble_eq_true rfl⟩ (Nat.le_of_ble_eq_true rfl) ⟨Nat.zero_le _, Nat.zero_le _⟩ (fun r74 w74 hp74 => ?_)
        obtain ⟨rfl, hT1, hM1⟩ := hp74
        have hF1 := rf_TF hF hT1 (by omega)
        have hL1 := (rf_L hF1).1 hL0
        have hlo1 : E.2.2 ≤ wN w74 := by rw [(rf_L hF1).2.1]; exact hlo0
        have hMq1 := tf_mm hT1 (by omega) (by omega) hMq
        have hC31 : RepC (cfW w74 (b + 1)) cf := (rf_B hF1 hB (R' := R) (fun _ _ => rfl)).1
        have ct2 := ct_X1_oneTick l E w74 (b + 1) (b + 77) cf (tkI cf s q) hlo1 (lb_C hL1) (lb_MN hL1) (by omega) hMq1 hC31 oq.1 hc (isN_up (tt q q1 qt s (by omega)) (by omega))
        have hL := hL1
        refine g_aload_n h (i := 40) rfl rfl ?_
        refine g_getR h (i := 41) rfl fl_X9_10 (fun _ _ _ => rfl) (lb_k hL) (lb_cell hL) ?_
        refine g_aload_n h (i := 42) rfl rfl ?_
        refine g_getR h (i := 43) rfl fl_X9_34 (fun _ _ _ => rfl) (lb_k hL) (lb_rn hL) ?_
        refine g_callVp (w0 := w) h hq (i := 44) rfl mv_X9_210 cls1 (lc_k (lb_C hL)) (ct2) rfl rfl ⟨rfl, rfl, Nat.le_of_ble_eq_true rfl, Nat.le_of_ble_eq_true rfl⟩ (Nat.le_of_ble_eq_true rfl) ⟨Nat.zero_le _, Nat.zero_le _⟩ (fun r85 w85 hp85 => ?_)
        obtain ⟨rfl, hT2, hM2⟩ := hp85
        have hF2 := rf_TF hF1 hT2 (by omega)
        have hM1b := tf_mm hT2 (by omega) (by omega) hM1
        exact g_lv [(0, .ref b), (2, .int n), (3, .int (nI (s + 1)))] ⟨rfl, rfl, rfl, trivial⟩ (k88 (s + 1) _ (by omega) hF2 hM1b hM2 (Or.inr (by rw [Nat.add_sub_cancel]; exact hd)) (fun z => ih (s + 1) _ (by omega) hF2 hM1b hM2 z))
    have hbk := ct_X3_become l E w (b + 67) (b + 91 + 10 * pI k) (b + 1) (fun y => R (68 * (pI k + 1) + y)) hlo (lb_MK hL) (lk_m hL (by omega)) (by omega) ((hB.2.2 (pI k) (by omega)).2 hag.1) hKRk.1
    refine g_aload_n h (i := 16) rfl rfl ?_
    refine g_getR h (i := 17) rfl fl_X9_31 (fun _ _ _ => rfl) (lb_k hL) (lb_rk hL) ?_
    refine g_aload_n h (i := 18) rfl rfl ?_
    refine g_getR h (i := 19) rfl fl_X9_23 (fun _ _ _ => rfl) (lb_k hL) (lb_kept hL) ?_
    refine g_iload_n h (i := 20) rfl rfl ?_
    refine g_aald h (i := 21) rfl (by decide) (lk_kept hL) (jvp hg.1 (by decide) (by omega)) (lb_m (k := pI k) hL (by omega)) ?_
    refine g_callVp (w0 := w) h hq (i := 22) rfl mv_X9_258 cls3 (lk_M (lb_MK hL)) (hbk) rfl rfl ⟨rfl, rfl, Nat.le_of_ble_eq_true rfl, Nat.le_of_ble_eq_true rfl⟩ (Nat.le_of_ble_eq_true rfl) ⟨Nat.zero_le _, Nat.zero_le _⟩ (fun r41 w41 hp41 => ?_)
    obtain ⟨rfl, hT1, hM1⟩ := hp41
    have hF1 := rf_TF rf_0 hT1 (by omega)
    have hL1 := (rf_L hF1).1 hL0
    have hlo1 : E.2.2 ≤ wN w41 := by rw [(rf_L hF1).2.1]; exact hlo0
    have hB1 := rf_B hF1 hB (R' := R) (fun _ _ => rfl)
    have hbn := ct_X3_become l E w41 (b + 77) (b + 55) (b + 1) R hlo1 (lb_MN hL1) (lb_M hL1) (by omega) hB1.2.1 hr.1
    have hL := hL1
    refine g_aload_n h (i := 23) rfl rfl ?_
    refine g_getR h (i := 24) rfl fl_X9_34 (fun _ _ _ => rfl) (lb_k hL) (lb_rn hL) ?_
    refine g_aload_n h (i := 25) rfl rfl ?_
    refine g_getR h (i := 26) rfl fl_X9_19 (fun _ _ _ => rfl) (lb_k hL) (lb_now hL) ?_
    refine g_callVp (w0 := w) h hq (i := 27) rfl mv_X9_258 cls3 (lk_M (lb_MN hL)) (hbn) rfl rfl ⟨rfl, rfl, Nat.le_of_ble_eq_true rfl, Nat.le_of_ble_eq_true rfl⟩ (Nat.le_of_ble_eq_true rfl) ⟨Nat.zero_le _, Nat.zero_le _⟩ (fun r52 w52 hp52 => ?_)
    obtain ⟨rfl, hT2, hM2⟩ := hp52
    have hF2 := rf_TF hF1 hT2 (by omega)
    have hM1b := tf_mm hT2 (by omega) (by omega) hM1
    have hMp : RepM w52 (b + 67) (tkI cf 0 p) := rm_c hM1b (fun _ _ _ => rfl) rfl hp68
    have hMq : RepM w52 (b + 77) (tkI cf 0 q) := rm_c hM2 (fun _ _ _ => rfl) rfl hq68
    have h0n : ¬ n < 0 := fun z => by
      rw [hn] at z
      have := i32lt.mp z
      rw [nIT (by omega)] at this
      have e0 : (0 : Int32).toInt = 0 := rfl
      omega
    refine g_iconst h (i := 28) rfl (v := 0) (by rfl) ?_
    refine g_istore_n h (i := 29) rfl hq rfl ?_
    refine g_iload_n h (i := 30) rfl rfl ?_
    refine g_iload_n h (i := 31) rfl rfl ?_
    refine g_icmp_gt h (i := 32) 110 rfl rfl (fun c_59 => absurd c_59 h0n) (fun c_59 => ?_)
    refine g_iload_n h (i := 33) rfl rfl ?_
    refine g_if_le h (i := 34) 88 rfl rfl (fun c_63 => ?_) (fun c_63 => absurd (by decide) c_63)
    exact g_lv [(0, .ref b), (2, .int n), (3, .int (nI 0))] ⟨rfl, rfl, rfl, trivial⟩ (k88 0 _ (by omega) hF2 hMp hMq (Or.inl rfl) (fun z => k57 N 0 _ (by omega) hF2 hMp hMq z))
  refine g_iload_n h (i := 0) rfl rfl ?_
  refine g_callSx h hq (i := 1) rfl ms_X9_255 (ct_X9_isPlace l E _ k hlo) rfl rfl ⟨rfl, rfl, Nat.le_of_ble_eq_true rfl, Nat.le_of_ble_eq_true rfl⟩ (Nat.le_of_ble_eq_true rfl) ⟨Nat.zero_le _, Nat.zero_le _⟩ ?_
  refine g_if_eq h (i := 2) 17 rfl rfl (fun c_4 => ?_) (fun c_4 => ?_)
  · skip
    refine g_bipush h (i := 8) rfl (v := -2) (by rfl) ?_
    exact g_iret hq h (i := 9) rfl (by unfold rpS; rw [if_neg (fun q => bI_0.mp c_4 q.1)]; exact ⟨rfl, bf_0, hB⟩)
  · skip
    refine g_iload_n h (i := 3) rfl rfl ?_
    refine g_iconst h (i := 4) rfl (v := 1) (by rfl) ?_
    refine g_bipush h (i := 5) rfl (v := 100) (by rfl) ?_
    refine g_callSx h hq (i := 6) rfl ms_X9_55 (ct_X9_isWithin l E _ n (1) (100) hlo) rfl rfl ⟨rfl, rfl, Nat.le_of_ble_eq_true rfl, Nat.le_of_ble_eq_true rfl⟩ (Nat.le_of_ble_eq_true rfl) ⟨Nat.zero_le _, Nat.zero_le _⟩ ?_
    refine g_if_ne h (i := 7) 20 rfl rfl (fun c_14 => ?_) (fun c_14 => ?_)
    · skip
      obtain ⟨hk, hk3⟩ := jx (M := 3) (bI_1.mp c_4) (by decide)
      have hcg := ct_X9_canGoBackTo l E w b cf R (pI k) hlo hL hB (by omega)
      rw [← hk] at hcg
      refine g_aload_n h (i := 10) rfl rfl ?_
      refine g_iload_n h (i := 11) rfl rfl ?_
      refine g_callVx h hq (i := 12) rfl mv_X9_261 cls9 (lb_k hL) (hcg) rfl rfl ⟨rfl, rfl, Nat.le_of_ble_eq_true rfl, Nat.le_of_ble_eq_true rfl⟩ (Nat.le_of_ble_eq_true rfl) ⟨Nat.zero_le _, Nat.zero_le _⟩ ?_
      refine g_if_ne h (i := 13) 31 rfl rfl (fun c_25 => ?_) (fun c_25 => ?_)
      · skip
        exact g_lv [(0, .ref b), (1, .int k), (2, .int n)] ⟨rfl, rfl, rfl, trivial⟩ (main ⟨bI_1.mp c_4, bI_1.mp c_14⟩ (bI_1.mp c_25))
      · skip
        refine g_bipush h (i := 14) rfl (v := -3) (by rfl) ?_
        exact g_iret hq h (i := 15) rfl (by unfold rpS; rw [if_pos ⟨bI_1.mp c_4, bI_1.mp c_14⟩, if_neg (bI_0.mp c_25)]; exact ⟨rfl, bf_0, hB⟩)
    · skip
      refine g_bipush h (i := 8) rfl (v := -2) (by rfl) ?_
      exact g_iret hq h (i := 9) rfl (by unfold rpS; rw [if_neg (fun q => bI_0.mp c_14 q.2)]; exact ⟨rfl, bf_0, hB⟩)
