/-- longs and doubles of the reference alone differ -/
def RW (a : Nat) (w w3 : Wd) : Prop := ∃ J D, w3 = dW w (wI w) J D ∧ ∀ x, x < a → J x = wJ w x ∧ D x = wD w x
theorem rw_0 {a : Nat} {w : Wd} : RW a w w := ⟨wJ w, wD w, rfl, fun _ _ => ⟨rfl, rfl⟩⟩
theorem rw_RS {a : Nat} {w w3 w4 : Wd} (h : RW a w w3) (g : RS a w3 w4) : RW a w w4 ∧ wJ w4 (a + 22) = wJ w3 (a + 22) := by
  obtain ⟨J, D, rfl, h1⟩ := h
  obtain ⟨J', D', rfl, g1, g2⟩ := g
  exact ⟨⟨J', D', rfl, fun x hx => ⟨(g1 x (by omega) (by omega) (by omega) (by omega) (by omega)).trans (h1 x hx).1, (g2 x (by omega)).trans (h1 x hx).2⟩⟩, g1 _ (by omega) (by omega) (by omega) (by omega) (by omega)⟩
theorem rw_se {a t i : Nat} {w w3 : Wd} {r : Nat → Int64} (h : RW a w w3) : RW a w (seW w3 a r t i) := by
  obtain ⟨J, D, rfl, h1⟩ := h
  exact ⟨_, D, rfl, fun x hx => ⟨(ua_a (by omega)).trans (h1 x hx).1, (h1 x hx).2⟩⟩
theorem rw_L {a : Nat} {w w3 : Wd} (h : RW a w w3) : (LayR w a → LayR w3 a) ∧ wN w3 = wN w ∧ cfW w3 a = cfW w a := by
  obtain ⟨J, D, rfl, h1⟩ := h
  exact ⟨fun x => x, rfl, rfl⟩
theorem rw_RI {a : Nat} {w w3 : Wd} {r : Nat → Int64} (h : RW a w w3) : RI a w (cfW w a) r (sRow w3 a r) := by
  obtain ⟨J, D, rfl, h1⟩ := h
  exact ⟨wI w, ua J (a + 1) r, D, rfl, fun _ => rfl, ua_s _ _ _, fun p hp => ⟨rfl, (ua_a (by omega)).trans (h1 p hp).1, (h1 p hp).2⟩⟩
theorem cp_lo {b c y : Nat} {r : Nat → Int64} (h : y < 68) : cpR b c r (68 * b + y) = r (68 * c + y) := setn_i rfl h
theorem cp_hi {b c y : Nat} {r : Nat → Int64} (h : ¬ (68 * b ≤ y ∧ y < 68 * b + 68)) : cpR b c r y = r y := setn_o h
theorem cp_0 {c y : Nat} {r : Nat → Int64} (h : y < 68) : cpR 0 c r y = r (68 * c + y) := by
  have := cp_lo (b := 0) (c := c) (r := r) h
  rw [show 68 * 0 + y = y by omega] at this
  exact this
theorem rp_end {q r : Nat → Int64} (h : ∀ y, 68 ≤ y → q y = cpR 5 0 r y) : cpR 0 5 q = cpR 5 0 r := by
  funext y
  by_cases hy : y < 68
  · rw [cp_0 hy, h _ (by omega), cp_lo (b := 5) hy, cp_hi (b := 5) (by omega), show 68 * 0 + y = y by omega]
  · rw [cp_hi (b := 0) (by omega), h y (by omega)]
theorem df_stop {cf : Nat → Nat → Int32} {p q : Nat → Int64} {m : Nat} (h : ¬ dfI cf p q m = -1) : ∀ d, dfI cf p q (m + d) = dfI cf p q m
  | 0 => rfl
  | d + 1 => by
    have ih := df_stop h d
    show (if dfI cf p q (m + d) = -1 then _ else dfI cf p q (m + d)) = _
    rw [if_neg (by rw [ih]; exact h), ih]
theorem df_1 {cf : Nat → Nat → Int32} {p q : Nat → Int64} {m : Nat} (h : dfI cf p q m = -1) : dfI cf p q (m + 1) = if eqB (v20 (tkI cf (m + 1) p)) (v20 (tkI cf (m + 1) q)) 20 = true then -1 else nI (m + 1) := if_pos h
theorem rp_ok {cf : Nat → Nat → Int32} {k n : Int32} {r : Nat → Int64} (hc : CfR cf) (hr : RR r) (hk : pI k ≤ 3) (hK : RR (fun y => r (68 * (pI k + 1) + y))) : (RR (rpP k r) ∧ ∀ y, 68 ≤ y → rpP k r y = cpR 5 0 r y) ∧ (RR (rpQ cf k n r) ∧ ∀ y, 68 ≤ y → rpQ cf k n r y = cpR 5 0 r y) := by
  have P1 : RR (rpP k r) := rr_c hK (fun y hy => by show cpR 0 (pI k + 1) (cpR 5 0 r) y = _; rw [cp_0 hy, cp_hi (by omega)])
  have P2 : ∀ y, 68 ≤ y → rpP k r y = cpR 5 0 r y := fun y hy => cp_hi (by omega)
  have T := tkI_ok hc P1 (pI n)
  refine ⟨⟨P1, P2⟩, rr_c hr (fun y hy => ?_), fun y hy => ?_⟩
  · show cpR 0 5 (tkI cf (pI n) (rpP k r)) y = r y
    rw [cp_0 hy, T.2 _ (by omega), P2 _ (by omega), cp_lo (b := 5) hy, show 68 * 0 + y = y by omega]
  · show cpR 0 5 (tkI cf (pI n) (rpP k r)) y = _
    rw [cp_hi (by omega), T.2 _ hy, P2 _ hy]
-- replay
set_option maxRecDepth 100000 in
set_option maxHeartbeats 4000000 in
theorem ct_X10_replay (l : Launch) (E : EE) (w : Wd) (a : Nat) (r : Nat → Int64) (k n : Int32) (hlo : E.2.2 ≤ wN (sRow w a r)) (hL : LayR w a) (hr : RR r) (hc : CfR (cfW w a)) (hz : ∀ k, k < 4 → cfW w a 2 k = 0 ∨ cfW w a 2 k = 1) (hK : ∀ k, k < 4 → cfW w a 2 k ≠ 0 → RR (fun y => r (68 * (k + 1) + y))) : Ct l E yX10_replay cX10_replay 5 (some .int) ({ frames := 8, cells := 0, slots := 0, locals := 207 } : Room) [.ref a, .int k, .int n] (sRow w a r) 0 0 (PS a w (rpS k n (cfW w a) r)) := by
  refine ct_in (il := il_X10_replay) (by decide) dk_X10_replay (Nat.le_of_ble_eq_true rfl) hlo ?_
  intro X h hq

  obtain ⟨cf, hcf⟩ : ∃ cf, cf = cfW w a := ⟨_, rfl⟩
  have hlo0 : E.2.2 ≤ wN w := hlo
  have hL0 := hL
  have main : (0 ≤ k ∧ k ≤ 3) ∧ (1 ≤ n ∧ n ≤ 100) → agP (cfW w a) r (pI k) → G X 0 0 33 (lf [(0, .ref a), (1, .int k), (2, .int n)]) [] (sRow w a r) := by
    intro hg hag
    obtain ⟨hk, hk3⟩ := jx (M := 3) hg.1 (by decide)
    have hk1 : k + 1 = nI (pI k + 1) := (congrArg (fun z => z + 1) hk).trans (nI_1 _)
    obtain ⟨hn, hn2⟩ := shx hg.2
    obtain ⟨N, hN⟩ : ∃ N, N = pI n := ⟨_, rfl⟩
    rw [← hN] at hn hn2
    obtain ⟨⟨p1, p2⟩, ⟨q1, q2⟩⟩ := rp_ok (n := n) hc hr hk3 (hK _ (by omega) hag.1)
    have hpS : rpS k n (cfW w a) r = (.int (dfI (cfW w a) (rpP k r) (rpQ (cfW w a) k n r) N), cfW w a, cpR 5 0 r) := by unfold rpS; rw [if_pos hg, if_pos hag, hN]
    rw [hpS] at hq
    have hqe : cpR 0 5 (tkI (cfW w a) N (rpP k r)) = rpQ (cfW w a) k n r := by rw [hN]
    obtain ⟨p, hp⟩ : ∃ p, p = rpP k r := ⟨_, rfl⟩
    obtain ⟨q, hqq⟩ : ∃ q, q = rpQ (cfW w a) k n r := ⟨_, rfl⟩
    rw [← hp] at p1 p2 hqe hq
    rw [← hqq] at q1 q2 hqe hq
    rw [← hcf] at hc hqe hq
    have hcfw : ∀ {w3}, RW a w w3 → cfW w3 a = cf := fun g => (rw_L g).2.2.trans hcf.symm
    have k134 : ∀ (w3 : Wd) (q' : Nat → Int64) (v : Int32), RW a w w3 → (∀ y, 68 ≤ y → q' y = cpR 5 0 r y) → v = dfI cf p q N → G X 0 0 134 (lf [(0, .ref a), (3, .int v)]) [] (sRow w3 a q') := by
      intro w3 q' v hW hq' hv
      have hL := (rw_L hW).1 hL
      have hlo : E.2.2 ≤ wN w3 := by rw [(rw_L hW).2.1]; exact hlo0
      refine g_aload_n h (i := 75) rfl rfl ?_
      refine g_iconst h (i := 76) rfl (v := 0) (by rfl) ?_
      refine g_iconst h (i := 77) rfl (v := 5) (by rfl) ?_
      refine g_callVn h hq (i := 78) rfl mv_X10_263 cls10 (lk_R hL) (ct_X10_copy l E w3 a 0 5 q' hlo hL (by omega) (by omega) (by omega)) rfl rfl ⟨rfl, rfl, Nat.le_of_ble_eq_true rfl, Nat.le_of_ble_eq_true rfl⟩ (Nat.le_of_ble_eq_true rfl) ⟨Nat.zero_le _, Nat.zero_le _⟩ ?_
      refine g_iload_n h (i := 79) rfl rfl ?_
      exact g_iret hq h (i := 80) rfl (⟨by rw [hv], by rw [rp_end hq', hcf]; exact rw_RI hW⟩)
    have k97 : ∀ (d m : Nat) (w3 : Wd) (q' : Nat → Int64), m + d = N → RW a w w3 → (∀ s, s ≤ N → ∀ i, i < 20 → wJ w3 (a + 22) (20 * s + i) = v20 (tkI cf s p) i) → RR q' → (∀ y, 68 ≤ y → q' y = cpR 5 0 r y) → (dfI cf p q m = -1 → q' = tkI cf m q) → G X 0 0 97 (lf [(0, .ref a), (2, .int n), (3, .int (dfI cf p q m)), (4, .int (nI (m + 1)))]) [] (sRow w3 a q') := by
      intro d
      induction d with
      | zero =>
        intro m w3 q' hm hW hs hrr hq' hd
        have hL := (rw_L hW).1 hL
        have hmN : m = N := by omega
        have hgt : n < nI (m + 1) := by rw [hn, hmN]; exact i32lt.mpr (by rw [nIT (by omega), nIT (by omega)]; omega)
        refine g_iload h (i := 57) rfl rfl ?_
        refine g_iload_n h (i := 58) rfl rfl ?_
        refine g_icmp_gt h (i := 59) 134 rfl rfl (fun c_100 => ?_) (fun c_100 => absurd hgt c_100)
        exact g_lv [(0, .ref a), (3, .int (dfI cf p q m))] ⟨rfl, rfl, trivial⟩ (k134 w3 q' _ hW hq' (by rw [hmN]))
      | succ d ih =>
        intro m w3 q' hm hW hs hrr hq' hd
        have hL := (rw_L hW).1 hL
        have hlo : E.2.2 ≤ wN w3 := by rw [(rw_L hW).2.1]; exact hlo0
        have hgt : ¬ n < nI (m + 1) := by rw [hn]; exact fun z => by (have := i32lt.mp z; rw [nIT (by omega), nIT (by omega)] at this; omega)
        have hc3 : CfR (cfW w3 a) := by rw [hcfw hW]; exact hc
        refine g_iload h (i := 57) rfl rfl ?_
        refine g_iload_n h (i := 58) rfl rfl ?_
        refine g_icmp_gt h (i := 59) 134 rfl rfl (fun c_100 => absurd c_100 hgt) (fun c_100 => ?_)
        refine g_iload_n h (i := 60) rfl rfl ?_
        refine g_iconst h (i := 61) rfl (v := -1) (by rfl) ?_
        refine g_icmp_ne h (i := 62) 134 rfl rfl (fun c_105 => ?_) (fun c_105 => ?_)
        · skip
          exact g_lv [(0, .ref a), (3, .int (dfI cf p q m))] ⟨rfl, rfl, trivial⟩ (k134 w3 q' _ hW hq' (by rw [show N = m + (d + 1) by omega]; exact (df_stop c_105 (d + 1)).symm))
        · skip
          have hqm := hd c_105
          have tk := tkG_ok hc hrr
          refine g_aload_n h (i := 63) rfl rfl ?_
          refine g_callVp (w0 := w) h hq (i := 64) rfl mv_X10_272 cls10 (lk_R hL) (ct_X10_goesIfGoing l E w3 a q' hlo hL hrr hc3) rfl rfl ⟨rfl, rfl, Nat.le_of_ble_eq_true rfl, Nat.le_of_ble_eq_true rfl⟩ (Nat.le_of_ble_eq_true rfl) ⟨Nat.zero_le _, Nat.zero_le _⟩ (fun r109 w109 hp109 => ?_)
          obtain ⟨rfl, w4, hRS, rfl⟩ := hp109
          obtain ⟨hW4, hJ4⟩ := rw_RS hW hRS
          have hL := (rw_L hW4).1 (show LayR w a from hL0)
          have hlo : E.2.2 ≤ wN w4 := by rw [(rw_L hW4).2.1]; exact hlo0
          rw [hcfw hW]
          refine g_aload_n h (i := 65) rfl rfl ?_
          refine g_iload h (i := 66) rfl rfl ?_
          refine g_callVx h hq (i := 67) rfl mv_X10_275 cls10 (lk_R hL) (ct_X10_isAsSeen l E w4 a (m + 1) (tkG cf q') (v20 (tkI cf (m + 1) p)) hlo hL (by omega) (fun i hi => by rw [hJ4]; exact hs (m + 1) (by omega) i hi)) rfl rfl ⟨rfl, rfl, Nat.le_of_ble_eq_true rfl, Nat.le_of_ble_eq_true rfl⟩ (Nat.le_of_ble_eq_true rfl) ⟨Nat.zero_le _, Nat.zero_le _⟩ ?_
          refine g_if_eq h (i := 68) 125 rfl rfl (fun c_118 => ?_) (fun c_118 => ?_)
          · skip
            refine g_iload h (i := 71) rfl rfl ?_
            refine g_istore_n h (i := 72) rfl hq rfl ?_
            refine g_iinc h (i := 73) rfl rfl (dv := 1) (by rfl) ?_
            refine g_goto h (i := 74) 97 rfl rfl ?_
            have hd1 : dfI cf p q (m + 1) = nI (m + 1) := (df_1 c_105).trans (if_neg (fun z => bI_0.mp c_118 (by rw [hqm]; exact z)))
            exact g_lv [(0, .ref a), (2, .int n), (3, .int (dfI cf p q (m + 1))), (4, .int (nI (m + 1 + 1)))] ⟨rfl, rfl, congrArg (fun z => some (Value.int z)) hd1.symm, congrArg (fun z => some (Value.int z)) (nI_1 (m + 1)), trivial⟩ (ih (m + 1) w4 _ (by omega) hW4 (fun s hsn i hi => by rw [hJ4]; exact hs s hsn i hi) tk.1 (fun y hy => (tk.2 y hy).trans (hq' y hy)) (fun z => absurd (hd1.symm.trans z) (fun q => absurd (congrArg Int32.toInt q) (by rw [nIT (by omega)]; intro z; have e : (-1 : Int32).toInt = -1 := rfl; omega))))
          · skip
            refine g_iconst h (i := 69) rfl (v := -1) (by rfl) ?_
            refine g_goto h (i := 70) 127 rfl rfl ?_
            refine g_istore_n h (i := 72) rfl hq rfl ?_
            refine g_iinc h (i := 73) rfl rfl (dv := 1) (by rfl) ?_
            refine g_goto h (i := 74) 97 rfl rfl ?_
            have hd1 : dfI cf p q (m + 1) = -1 := (df_1 c_105).trans (if_pos (by have := bI_1.mp c_118; rw [hqm] at this; exact this))
            exact g_lv [(0, .ref a), (2, .int n), (3, .int (dfI cf p q (m + 1))), (4, .int (nI (m + 1 + 1)))] ⟨rfl, rfl, congrArg (fun z => some (Value.int z)) hd1.symm, congrArg (fun z => some (Value.int z)) (nI_1 (m + 1)), trivial⟩ (ih (m + 1) w4 _ (by omega) hW4 (fun s hsn i hi => by rw [hJ4]; exact hs s hsn i hi) tk.1 (fun y hy => (tk.2 y hy).trans (hq' y hy)) (fun _ => by rw [hqm]; rfl))
    have k74 : ∀ (w3 : Wd), RW a w w3 → (∀ s, s ≤ N → ∀ i, i < 20 → wJ w3 (a + 22) (20 * s + i) = v20 (tkI cf s p) i) → G X 0 0 74 (lf [(0, .ref a), (2, .int n)]) [] (sRow w3 a (tkI cf N p)) := by
      intro w3 hW hs
      have hL := (rw_L hW).1 hL
      have hlo : E.2.2 ≤ wN w3 := by rw [(rw_L hW).2.1]; exact hlo0
      refine g_aload_n h (i := 43) rfl rfl ?_
      refine g_iconst h (i := 44) rfl (v := 0) (by rfl) ?_
      refine g_iconst h (i := 45) rfl (v := 5) (by rfl) ?_
      refine g_callVn h hq (i := 46) rfl mv_X10_263 cls10 (lk_R hL) (ct_X10_copy l E w3 a 0 5 (tkI cf N p) hlo hL (by omega) (by omega) (by omega)) rfl rfl ⟨rfl, rfl, Nat.le_of_ble_eq_true rfl, Nat.le_of_ble_eq_true rfl⟩ (Nat.le_of_ble_eq_true rfl) ⟨Nat.zero_le _, Nat.zero_le _⟩ ?_
      rw [hqe]
      refine g_aload_n h (i := 47) rfl rfl ?_
      refine g_iconst h (i := 48) rfl (v := 0) (by rfl) ?_
      refine g_callVx h hq (i := 49) rfl mv_X10_275 cls10 (lk_R hL) (ct_X10_isAsSeen l E w3 a 0 q (v20 p) hlo hL (by omega) (fun i hi => hs 0 (by omega) i hi)) rfl rfl ⟨rfl, rfl, Nat.le_of_ble_eq_true rfl, Nat.le_of_ble_eq_true rfl⟩ (Nat.le_of_ble_eq_true rfl) ⟨Nat.zero_le _, Nat.zero_le _⟩ ?_
      refine g_if_eq h (i := 50) 92 rfl rfl (fun c_85 => ?_) (fun c_85 => ?_)
      · skip
        refine g_iconst h (i := 53) rfl (v := 0) (by rfl) ?_
        refine g_istore_n h (i := 54) rfl hq rfl ?_
        refine g_iconst h (i := 55) rfl (v := 1) (by rfl) ?_
        refine g_istore h (i := 56) rfl hq rfl ?_
        have hd0 : dfI cf p q 0 = 0 := if_neg (bI_0.mp c_85)
        exact g_lv [(0, .ref a), (2, .int n), (3, .int (dfI cf p q 0)), (4, .int (nI (0 + 1)))] ⟨rfl, rfl, congrArg (fun z => some (Value.int z)) hd0.symm, rfl, trivial⟩ (k97 N 0 w3 q (by omega) hW hs q1 q2 (fun _ => rfl))
      · skip
        refine g_iconst h (i := 51) rfl (v := -1) (by rfl) ?_
        refine g_goto h (i := 52) 93 rfl rfl ?_
        refine g_istore_n h (i := 54) rfl hq rfl ?_
        refine g_iconst h (i := 55) rfl (v := 1) (by rfl) ?_
        refine g_istore h (i := 56) rfl hq rfl ?_
        have hd0 : dfI cf p q 0 = -1 := if_pos (bI_1.mp c_85)
        exact g_lv [(0, .ref a), (2, .int n), (3, .int (dfI cf p q 0)), (4, .int (nI (0 + 1)))] ⟨rfl, rfl, congrArg (fun z => some (Value.int z)) hd0.symm, rfl, trivial⟩ (k97 N 0 w3 q (by omega) hW hs q1 q2 (fun _ => rfl))
    have k54 : ∀ (d m : Nat) (w3 : Wd), m + d = N → RW a w w3 → (∀ s, s ≤ m → ∀ i, i < 20 → wJ w3 (a + 22) (20 * s + i) = v20 (tkI cf s p) i) → G X 0 0 54 (lf [(0, .ref a), (2, .int n), (3, .int (nI (m + 1)))]) [] (sRow w3 a (tkI cf m p)) := by
      intro d
      induction d with
      | zero =>
        intro m w3 hm hW hs
        have hL := (rw_L hW).1 hL
        have hmN : m = N := by omega
        have hgt : n < nI (m + 1) := by rw [hn, hmN]; exact i32lt.mpr (by rw [nIT (by omega), nIT (by omega)]; omega)
        refine g_iload_n h (i := 33) rfl rfl ?_
        refine g_iload_n h (i := 34) rfl rfl ?_
        refine g_icmp_gt h (i := 35) 74 rfl rfl (fun c_56 => ?_) (fun c_56 => absurd hgt c_56)
        rw [hmN]
        exact g_lv [(0, .ref a), (2, .int n)] ⟨rfl, rfl, trivial⟩ (k74 w3 hW (fun s h1 i h2 => hs s (by omega) i h2))
      | succ d ih =>
        intro m w3 hm hW hs
        have hL := (rw_L hW).1 hL
        have hlo : E.2.2 ≤ wN w3 := by rw [(rw_L hW).2.1]; exact hlo0
        have hgt : ¬ n < nI (m + 1) := by rw [hn]; exact fun z => by (have := i32lt.mp z; rw [nIT (by omega), nIT (by omega)] at this; omega)
        have hc3 : CfR (cfW w3 a) := by rw [hcfw hW]; exact hc
        have tk := tkI_ok hc p1 m
        refine g_iload_n h (i := 33) rfl rfl ?_
        refine g_iload_n h (i := 34) rfl rfl ?_
        refine g_icmp_gt h (i := 35) 74 rfl rfl (fun c_56 => absurd c_56 hgt) (fun c_56 => ?_)
        refine g_aload_n h (i := 36) rfl rfl ?_
        refine g_callVp (w0 := w) h hq (i := 37) rfl mv_X10_272 cls10 (lk_R hL) (ct_X10_goesIfGoing l E w3 a (tkI cf m p) hlo hL tk.1 hc3) rfl rfl ⟨rfl, rfl, Nat.le_of_ble_eq_true rfl, Nat.le_of_ble_eq_true rfl⟩ (Nat.le_of_ble_eq_true rfl) ⟨Nat.zero_le _, Nat.zero_le _⟩ (fun r60 w60 hp60 => ?_)
        obtain ⟨rfl, w4, hRS, rfl⟩ := hp60
        obtain ⟨hW4, hJ4⟩ := rw_RS hW hRS
        have hL := (rw_L hW4).1 (show LayR w a from hL0)
        have hlo : E.2.2 ≤ wN w4 := by rw [(rw_L hW4).2.1]; exact hlo0
        rw [hcfw hW]
        refine g_w (sRow w4 a (tkI cf (m + 1) p)) rfl ?_
        refine g_aload_n h (i := 38) rfl rfl ?_
        refine g_iload_n h (i := 39) rfl rfl ?_
        refine g_callVn h hq (i := 40) rfl mv_X10_269 cls10 (lk_R hL) (ct_X10_sees l E w4 a (m + 1) (tkI cf (m + 1) p) hlo hL (by omega)) rfl rfl ⟨rfl, rfl, Nat.le_of_ble_eq_true rfl, Nat.le_of_ble_eq_true rfl⟩ (Nat.le_of_ble_eq_true rfl) ⟨Nat.zero_le _, Nat.zero_le _⟩ ?_
        refine g_iinc h (i := 41) rfl rfl (dv := 1) (by rfl) ?_
        refine g_goto h (i := 42) 54 rfl rfl ?_
        exact g_lv [(0, .ref a), (2, .int n), (3, .int (nI (m + 1 + 1)))] ⟨rfl, rfl, congrArg (fun z => some (Value.int z)) (nI_1 (m + 1)), trivial⟩ (ih (m + 1) _ (by omega) (rw_se hW4) (fun s h1 i h2 => by
          show ua (wJ w4) (a + 22) (setn (wJ w4 (a + 22)) (20 * (m + 1)) (v20 (tkI cf (m + 1) p)) 20) (a + 22) (20 * s + i) = _
          rw [ua_s]
          by_cases e : s = m + 1
          · rw [e]; exact setn_i rfl h2
          · rw [setn_o (by omega), hJ4]; exact hs s (by omega) i h2))
    refine g_aload_n h (i := 18) rfl rfl ?_
    refine g_iconst h (i := 19) rfl (v := 5) (by rfl) ?_
    refine g_iconst h (i := 20) rfl (v := 0) (by rfl) ?_
    refine g_callVn h hq (i := 21) rfl mv_X10_263 cls10 (lk_R hL) (ct_X10_copy l E w a 5 0 r hlo hL (by omega) (by omega) (by omega)) rfl rfl ⟨rfl, rfl, Nat.le_of_ble_eq_true rfl, Nat.le_of_ble_eq_true rfl⟩ (Nat.le_of_ble_eq_true rfl) ⟨Nat.zero_le _, Nat.zero_le _⟩ ?_
    refine g_aload_n h (i := 22) rfl rfl ?_
    refine g_iconst h (i := 23) rfl (v := 0) (by rfl) ?_
    refine g_iload_n h (i := 24) rfl rfl ?_
    refine g_iconst h (i := 25) rfl (v := 1) (by rfl) ?_
    refine g_iadd h (i := 26) rfl ?_
    refine g_eqi (nI (pI k + 1)) hk1 ?_
    refine g_callVn h hq (i := 27) rfl mv_X10_263 cls10 (lk_R hL) (ct_X10_copy l E w a 0 (pI k + 1) (cpR 5 0 r) hlo hL (by omega) (by omega) (by omega)) rfl rfl ⟨rfl, rfl, Nat.le_of_ble_eq_true rfl, Nat.le_of_ble_eq_true rfl⟩ (Nat.le_of_ble_eq_true rfl) ⟨Nat.zero_le _, Nat.zero_le _⟩ ?_
    refine g_w (sRow w a p) (by rw [hp]) ?_
    refine g_aload_n h (i := 28) rfl rfl ?_
    refine g_iconst h (i := 29) rfl (v := 0) (by rfl) ?_
    refine g_callVn h hq (i := 30) rfl mv_X10_269 cls10 (lk_R hL) (ct_X10_sees l E w a 0 p hlo hL (by omega)) rfl rfl ⟨rfl, rfl, Nat.le_of_ble_eq_true rfl, Nat.le_of_ble_eq_true rfl⟩ (Nat.le_of_ble_eq_true rfl) ⟨Nat.zero_le _, Nat.zero_le _⟩ ?_
    refine g_iconst h (i := 31) rfl (v := 1) (by rfl) ?_
    refine g_istore_n h (i := 32) rfl hq rfl ?_
    exact g_lv [(0, .ref a), (2, .int n), (3, .int (nI (0 + 1)))] ⟨rfl, rfl, rfl, trivial⟩ (k54 N 0 _ (by omega) (rw_se rw_0) (fun s h1 i h2 => by
      show ua (wJ w) (a + 22) (setn (wJ w (a + 22)) (20 * 0) (v20 p) 20) (a + 22) (20 * s + i) = _
      have e : s = 0 := by omega
      rw [ua_s, e]; exact setn_i rfl h2))
  refine g_iload_n h (i := 0) rfl rfl ?_
  refine g_iconst h (i := 1) rfl (v := 0) (by rfl) ?_
  refine g_iconst h (i := 2) rfl (v := 3) (by rfl) ?_
  refine g_callSx h hq (i := 3) rfl ms_X10_82 (ct_X10_in l E _ k (0) (3) hlo) rfl rfl ⟨rfl, rfl, Nat.le_of_ble_eq_true rfl, Nat.le_of_ble_eq_true rfl⟩ (Nat.le_of_ble_eq_true rfl) ⟨Nat.zero_le _, Nat.zero_le _⟩ ?_
  refine g_if_eq h (i := 4) 19 rfl rfl (fun c_6 => ?_) (fun c_6 => ?_)
  · skip
    refine g_bipush h (i := 10) rfl (v := -2) (by rfl) ?_
    exact g_iret hq h (i := 11) rfl (by unfold rpS; rw [if_neg (fun q => bI_0.mp c_6 q.1)]; exact ⟨rfl, ri_0⟩)
  · skip
    refine g_iload_n h (i := 5) rfl rfl ?_
    refine g_iconst h (i := 6) rfl (v := 1) (by rfl) ?_
    refine g_bipush h (i := 7) rfl (v := 100) (by rfl) ?_
    refine g_callSx h hq (i := 8) rfl ms_X10_82 (ct_X10_in l E _ n (1) (100) hlo) rfl rfl ⟨rfl, rfl, Nat.le_of_ble_eq_true rfl, Nat.le_of_ble_eq_true rfl⟩ (Nat.le_of_ble_eq_true rfl) ⟨Nat.zero_le _, Nat.zero_le _⟩ ?_
    refine g_if_ne h (i := 9) 22 rfl rfl (fun c_16 => ?_) (fun c_16 => ?_)
    · skip
      obtain ⟨hk, hk3⟩ := jx (M := 3) (bI_1.mp c_6) (by decide)
      have hag := ct_X10_against l E w a (pI k) r hlo hL (by omega) (hz _ (by omega))
      rw [← hk] at hag
      refine g_aload_n h (i := 12) rfl rfl ?_
      refine g_iload_n h (i := 13) rfl rfl ?_
      refine g_callVx h hq (i := 14) rfl mv_X10_266 cls10 (lk_R hL) (hag) rfl rfl ⟨rfl, rfl, Nat.le_of_ble_eq_true rfl, Nat.le_of_ble_eq_true rfl⟩ (Nat.le_of_ble_eq_true rfl) ⟨Nat.zero_le _, Nat.zero_le _⟩ ?_
      refine g_if_eq h (i := 15) 33 rfl rfl (fun c_27 => ?_) (fun c_27 => ?_)
      · skip
        exact g_lv [(0, .ref a), (1, .int k), (2, .int n)] ⟨rfl, rfl, rfl, trivial⟩ (main ⟨bI_1.mp c_6, bI_1.mp c_16⟩ (ite_0.mp c_27))
      · skip
        refine g_bipush h (i := 16) rfl (v := -3) (by rfl) ?_
        exact g_iret hq h (i := 17) rfl (by unfold rpS; rw [if_pos ⟨bI_1.mp c_6, bI_1.mp c_16⟩, if_neg (fun z => c_27 (ite_0.mpr z))]; exact ⟨rfl, ri_0⟩)
    · skip
      refine g_bipush h (i := 10) rfl (v := -2) (by rfl) ?_
      exact g_iret hq h (i := 11) rfl (by unfold rpS; rw [if_neg (fun q => bI_0.mp c_16 q.2)]; exact ⟨rfl, ri_0⟩)
