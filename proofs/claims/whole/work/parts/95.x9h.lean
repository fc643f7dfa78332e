theorem ab_in {k : Nat} {r : Nat → Int64} (h : k ≤ 8) : abA (nI k) r = abO (nI k) r := if_pos ⟨i32le.mpr (by rw [nIT (by omega)]; have e0 : (0 : Int32).toInt = 0 := rfl; omega), i32le.mpr (by rw [nIT (by omega)]; have e0 : (8 : Int32).toInt = 8 := rfl; omega)⟩
theorem nI_gt {c i : Nat} (h : i ≤ c) (hc : c < 2147483648) : ¬ nI c < nI i := fun z => by
  have := i32lt.mp z
  rw [nIT hc, nIT (by omega)] at this
  omega
theorem nI_lt1 {c : Nat} (hc : c < 2147483647) : nI c < nI (c + 1) := i32lt.mpr (by rw [nIT (by omega), nIT (by omega)]; omega)
-- digest
set_option maxRecDepth 100000 in
set_option maxHeartbeats 4000000 in
theorem ct_X9_digest (l : Launch) (E : EE) (w : Wd) (b : Nat) (cf : Nat → Nat → Int32) (R : Nat → Int64) (hlo : E.2.2 ≤ wN w) (hL : LayB w b) (hB : RepB w b cf R) (hr : FA R) (hc : CfA cf) : Ct l E yX9_digest cX9_digest 5 (some .long) ({ frames := 3, cells := 0, slots := 0, locals := 76 } : Room) [.ref b] w 0 0 (CS b w ((.long (dg6 cf R), cf, R))) := by
  refine ct_in (il := il_X9_digest) (by decide) dk_X9_digest (Nat.le_of_ble_eq_true rfl) hlo ?_
  intro X h hq

  have hlo0 := hlo
  have hL0 := hL
  obtain ⟨d3, hd3⟩ : ∃ d3, d3 = dg3 cf R := ⟨_, rfl⟩
  obtain ⟨d1, hd1⟩ : ∃ d1, d1 = fo (fun k => (coA (nI k) cf).toInt64) 4 113 := ⟨_, rfl⟩
  obtain ⟨t0, ht0⟩ : ∃ t0, t0 = tiA 0 cf R := ⟨_, rfl⟩
  obtain ⟨t1, ht1⟩ : ∃ t1, t1 = tiA 1 cf R := ⟨_, rfl⟩
  obtain ⟨d2, hd2⟩ : ∃ d2, d2 = dg2 cf R := ⟨_, rfl⟩
  have hdb : d2 = fo R 4 d1 := by rw [hd2]; unfold dg2 dg1; rw [hd1]
  have hd6 : dg6 cf R = fo (fun j => R (64 + j)) 4 (fo3 (fun x i => (atA (nI x) (nI i) R).toInt64) 3 (fo (fun k => (abO (nI k) R).toInt64) 9 d3)) := by
    unfold dg6 dg5 dg4
    rw [hd3]
  rw [hd6] at hq
  obtain ⟨d4, hd4⟩ : ∃ d4, d4 = fo (fun k => (abO (nI k) R).toInt64) 9 d3 := ⟨_, rfl⟩
  rw [← hd4] at hq
  have k157 : ∀ w3, BF b w w3 → RepB w3 b cf R → ∀ (d i : Nat), i + d = 4 → G X 0 0 157 (lf [(0, .ref b), (1, .long (fo (fun j => R (64 + j)) i (fo3 (fun x i => (atA (nI x) (nI i) R).toInt64) 3 d4))), (3, .int (nI i))]) [] w3 := by
    intro w3 hF hB
    have hL := (bf_L hF).1 b hL0
    have hlo : E.2.2 ≤ wN w3 := by rw [(bf_L hF).2.1]; exact hlo0
    intro d
    induction d with
    | zero =>
      intro i hi
      have hi4 : i = 4 := by omega
      subst hi4
      refine g_iload_n h (i := 94) rfl rfl ?_
      refine g_iconst h (i := 95) rfl (v := 4) (by rfl) ?_
      refine g_icmp_ge h (i := 96) 184 rfl rfl (fun c_159 => ?_) (fun c_159 => absurd (by decide : ((4 : Int32)) ≤ nI 4) c_159)
      refine g_lload_n h (i := 109) rfl rfl ?_
      exact g_lret hq h (i := 110) rfl (⟨rfl, hF, hB⟩)
    | succ d ih =>
      intro i hid
      have hi : i < 4 := by omega
      have hnge : ¬ (4 : Int32) ≤ nI i := nI_ge (b := 4) hi (by omega)
      refine g_iload_n h (i := 94) rfl rfl ?_
      refine g_iconst h (i := 95) rfl (v := 4) (by rfl) ?_
      refine g_icmp_ge h (i := 96) 184 rfl rfl (fun c_159 => absurd c_159 hnge) (fun c_159 => ?_)
      refine g_ldc2 h (i := 97) rfl k_X9_277 ?_
      refine g_lload_n h (i := 98) rfl rfl ?_
      refine g_lmul h (i := 99) rfl ?_
      refine g_aload_n h (i := 100) rfl rfl ?_
      refine g_getR h (i := 101) rfl fl_X9_19 (fun _ _ _ => rfl) (lb_k hL) (lb_now hL) ?_
      refine g_getR h (i := 102) rfl fl_X9_251 (fun _ _ _ => rfl) (lk_M (lb_M hL)) (lm_travelled (lb_M hL)) ?_
      refine g_iload_n h (i := 103) rfl rfl ?_
      refine g_lald h (i := 104) rfl (ln_travelled (lb_M hL)) (vp_in_nI (by omega) (by omega)) ?_
      refine g_eql (R (64 + i)) (by rw [nI_clamp (by omega)]; exact hB.2.1.2.2.2.2.2.2.2.2.2.2.2.2.1 i hi) ?_
      refine g_ladd h (i := 105) rfl ?_
      refine g_lstore_n h (i := 106) rfl hq rfl ?_
      refine g_iinc h (i := 107) rfl rfl (dv := 1) (by rfl) ?_
      refine g_goto h (i := 108) 157 rfl rfl ?_
      exact g_lv [(0, .ref b), (1, .long (fo (fun j => R (64 + j)) (i + 1) (fo3 (fun x i => (atA (nI x) (nI i) R).toInt64) 3 d4))), (3, .int (nI (i + 1)))] ⟨rfl, congrArg (fun z => some (Value.long z)) (fo_1 _ _ _), congrArg (fun z => some (Value.int z)) (nI_1 i), trivial⟩ (ih (i + 1) (by omega))
  have k121 : ∀ w3, BF b w w3 → RepB w3 b cf R → ∀ (x : Nat), x < 3 → G X 0 0 113 (lf [(0, .ref b), (1, .long (fo3 (fun x i => (atA (nI x) (nI i) R).toInt64) (x + 1) d4)), (3, .int (nI (x + 1)))]) [] w3 → ∀ (d i : Nat), i + d = 8 → G X 0 0 121 (lf [(0, .ref b), (1, .long (fo ((fun x i => (atA (nI x) (nI i) R).toInt64) x) i (fo3 (fun x i => (atA (nI x) (nI i) R).toInt64) x d4))), (3, .int (nI x)), (4, .int (nI i))]) [] w3 := by
    intro w3 hF hB
    have hL := (bf_L hF).1 b hL0
    have hlo : E.2.2 ≤ wN w3 := by rw [(bf_L hF).2.1]; exact hlo0
    intro x hx hnx d
    induction d with
    | zero =>
      intro i hi
      have hi4 : i = 8 := by omega
      subst hi4
      refine g_iload h (i := 75) rfl rfl ?_
      refine g_bipush h (i := 76) rfl (v := 8) (by rfl) ?_
      refine g_icmp_ge h (i := 77) 149 rfl rfl (fun c_125 => ?_) (fun c_125 => absurd (by decide : (8 : Int32) ≤ nI 8) c_125)
      refine g_iinc h (i := 90) rfl rfl (dv := 1) (by rfl) ?_
      refine g_goto h (i := 91) 113 rfl rfl ?_
      exact g_lv [(0, .ref b), (1, .long (fo3 (fun x i => (atA (nI x) (nI i) R).toInt64) (x + 1) d4)), (3, .int (nI (x + 1)))] ⟨rfl, congrArg (fun z => some (Value.long z)) (fo3_1 _ _ _), congrArg (fun z => some (Value.int z)) (nI_1 x), trivial⟩ hnx
    | succ d ih =>
      intro i hid
      have hi : i < 8 := by omega
      have hnge : ¬ (8 : Int32) ≤ nI i := nI_ge (b := 8) hi (by omega)
      refine g_iload h (i := 75) rfl rfl ?_
      refine g_bipush h (i := 76) rfl (v := 8) (by rfl) ?_
      refine g_icmp_ge h (i := 77) 149 rfl rfl (fun c_125 => absurd c_125 hnge) (fun c_125 => ?_)
      refine g_ldc2 h (i := 78) rfl k_X9_277 ?_
      refine g_lload_n h (i := 79) rfl rfl ?_
      refine g_lmul h (i := 80) rfl ?_
      refine g_aload_n h (i := 81) rfl rfl ?_
      refine g_iload_n h (i := 82) rfl rfl ?_
      refine g_iload h (i := 83) rfl rfl ?_
      refine g_callVx h hq (i := 84) rfl mv_X9_287 cls9 (lb_k hL) (ct_X9_at l E w3 b cf R (nI x) (nI i) hlo hL hB hr) rfl rfl ⟨rfl, rfl, Nat.le_of_ble_eq_true rfl, Nat.le_of_ble_eq_true rfl⟩ (Nat.le_of_ble_eq_true rfl) ⟨Nat.zero_le _, Nat.zero_le _⟩ ?_
      refine g_i2l h (i := 85) rfl ?_
      refine g_ladd h (i := 86) rfl ?_
      refine g_lstore_n h (i := 87) rfl hq rfl ?_
      refine g_iinc h (i := 88) rfl rfl (dv := 1) (by rfl) ?_
      refine g_goto h (i := 89) 121 rfl rfl ?_
      exact g_lv [(0, .ref b), (1, .long (fo ((fun x i => (atA (nI x) (nI i) R).toInt64) x) (i + 1) (fo3 (fun x i => (atA (nI x) (nI i) R).toInt64) x d4))), (3, .int (nI x)), (4, .int (nI (i + 1)))] ⟨rfl, congrArg (fun z => some (Value.long z)) (fo_1 _ _ _), rfl, congrArg (fun z => some (Value.int z)) (nI_1 i), trivial⟩ (ih (i + 1) (by omega))
  have k113 : ∀ w3, BF b w w3 → RepB w3 b cf R → ∀ (d x : Nat), x + d = 3 → G X 0 0 113 (lf [(0, .ref b), (1, .long (fo3 (fun x i => (atA (nI x) (nI i) R).toInt64) x d4)), (3, .int (nI x))]) [] w3 := by
    intro w3 hF hB
    have hL := (bf_L hF).1 b hL0
    have hlo : E.2.2 ≤ wN w3 := by rw [(bf_L hF).2.1]; exact hlo0
    intro d
    induction d with
    | zero =>
      intro i hi
      have hi4 : i = 3 := by omega
      subst hi4
      refine g_iload_n h (i := 70) rfl rfl ?_
      refine g_iconst h (i := 71) rfl (v := 2) (by rfl) ?_
      refine g_icmp_gt h (i := 72) 155 rfl rfl (fun c_115 => ?_) (fun c_115 => absurd (by decide : (2 : Int32) < nI 3) c_115)
      refine g_iconst h (i := 92) rfl (v := 0) (by rfl) ?_
      refine g_istore_n h (i := 93) rfl hq rfl ?_
      exact g_lv [(0, .ref b), (1, .long (fo (fun j => R (64 + j)) 0 (fo3 (fun x i => (atA (nI x) (nI i) R).toInt64) 3 d4))), (3, .int (nI 0))] ⟨rfl, congrArg (fun z => some (Value.long z)) (fo_0 _ _), rfl, trivial⟩ (k157 w3 hF hB 4 0 (by omega))
    | succ d ih =>
      intro i hid
      have hi : i < 3 := by omega
      have hnge : ¬ (2 : Int32) < nI i := nI_gt (c := 2) (by omega) (by omega)
      refine g_iload_n h (i := 70) rfl rfl ?_
      refine g_iconst h (i := 71) rfl (v := 2) (by rfl) ?_
      refine g_icmp_gt h (i := 72) 155 rfl rfl (fun c_115 => absurd c_115 hnge) (fun c_115 => ?_)
      refine g_iconst h (i := 73) rfl (v := 0) (by rfl) ?_
      refine g_istore h (i := 74) rfl hq rfl ?_
      exact g_lv [(0, .ref b), (1, .long (fo ((fun x i => (atA (nI x) (nI i) R).toInt64) i) 0 (fo3 (fun x i => (atA (nI x) (nI i) R).toInt64) i d4))), (3, .int (nI i)), (4, .int (nI 0))] ⟨rfl, congrArg (fun z => some (Value.long z)) (fo_0 _ _), rfl, rfl, trivial⟩ (k121 w3 hF hB i hi (ih (i + 1) (by omega)) 8 0 (by omega))
  have k86 : ∀ w3, BF b w w3 → RepB w3 b cf R → ∀ (d i : Nat), i + d = 9 → G X 0 0 86 (lf [(0, .ref b), (1, .long (fo (fun k => (abO (nI k) R).toInt64) i (d3))), (3, .int (nI i))]) [] w3 := by
    intro w3 hF hB
    have hL := (bf_L hF).1 b hL0
    have hlo : E.2.2 ≤ wN w3 := by rw [(bf_L hF).2.1]; exact hlo0
    intro d
    induction d with
    | zero =>
      intro i hi
      have hi4 : i = 9 := by omega
      subst hi4
      refine g_iload_n h (i := 54) rfl rfl ?_
      refine g_bipush h (i := 55) rfl (v := 8) (by rfl) ?_
      refine g_icmp_gt h (i := 56) 111 rfl rfl (fun c_89 => ?_) (fun c_89 => absurd (by decide : (8 : Int32) < nI 9) c_89)
      refine g_iconst h (i := 68) rfl (v := 0) (by rfl) ?_
      refine g_istore_n h (i := 69) rfl hq rfl ?_
      exact g_lv [(0, .ref b), (1, .long (fo3 (fun x i => (atA (nI x) (nI i) R).toInt64) 0 d4)), (3, .int (nI 0))] ⟨rfl, congrArg (fun z => some (Value.long z)) (hd4.symm.trans (fo3_0 _ _)), rfl, trivial⟩ (k113 w3 hF hB 3 0 (by omega))
    | succ d ih =>
      intro i hid
      have hi : i < 9 := by omega
      have hnge : ¬ (8 : Int32) < nI i := nI_gt (c := 8) (by omega) (by omega)
      refine g_iload_n h (i := 54) rfl rfl ?_
      refine g_bipush h (i := 55) rfl (v := 8) (by rfl) ?_
      refine g_icmp_gt h (i := 56) 111 rfl rfl (fun c_89 => absurd c_89 hnge) (fun c_89 => ?_)
      refine g_ldc2 h (i := 57) rfl k_X9_277 ?_
      refine g_lload_n h (i := 58) rfl rfl ?_
      refine g_lmul h (i := 59) rfl ?_
      refine g_aload_n h (i := 60) rfl rfl ?_
      refine g_iload_n h (i := 61) rfl rfl ?_
      refine g_callVx h hq (i := 62) rfl mv_X9_284 cls9 (lb_k hL) ((by have q := ct_X9_about l E w3 b cf R (nI i) hlo hL hB; rw [ab_in (by omega)] at q; exact q)) rfl rfl ⟨rfl, rfl, Nat.le_of_ble_eq_true rfl, Nat.le_of_ble_eq_true rfl⟩ (Nat.le_of_ble_eq_true rfl) ⟨Nat.zero_le _, Nat.zero_le _⟩ ?_
      refine g_i2l h (i := 63) rfl ?_
      refine g_ladd h (i := 64) rfl ?_
      refine g_lstore_n h (i := 65) rfl hq rfl ?_
      refine g_iinc h (i := 66) rfl rfl (dv := 1) (by rfl) ?_
      refine g_goto h (i := 67) 86 rfl rfl ?_
      exact g_lv [(0, .ref b), (1, .long (fo (fun k => (abO (nI k) R).toInt64) (i + 1) (d3))), (3, .int (nI (i + 1)))] ⟨rfl, congrArg (fun z => some (Value.long z)) (fo_1 _ _ _), congrArg (fun z => some (Value.int z)) (nI_1 i), trivial⟩ (ih (i + 1) (by omega))
  have k60x : ∀ w3, BF b w w3 → RepB w3 b cf R → G X 0 0 60 (lf [(0, .ref b), (1, .long d2)]) [] w3 := by
    intro w3 hF hB
    have hL := (bf_L hF).1 b hL0
    have hlo : E.2.2 ≤ wN w3 := by rw [(bf_L hF).2.1]; exact hlo0
    have ct0 := ct_X9_tip l E w3 b cf R 0 hlo hL hB hr hc
    rw [← ht0] at ct0
    refine g_ldc2 h (i := 36) rfl k_X9_277 ?_
    refine g_lload_n h (i := 37) rfl rfl ?_
    refine g_lmul h (i := 38) rfl ?_
    refine g_aload_n h (i := 39) rfl rfl ?_
    refine g_iconst h (i := 40) rfl (v := 0) (by rfl) ?_
    refine g_callVp (w0 := w) h hq (i := 41) rfl mv_X9_282 cls9 (lb_k hL) (ct0) rfl rfl ⟨rfl, rfl, Nat.le_of_ble_eq_true rfl, Nat.le_of_ble_eq_true rfl⟩ (Nat.le_of_ble_eq_true rfl) ⟨Nat.zero_le _, Nat.zero_le _⟩ (fun r67 w67 hp67 => ?_)
    obtain ⟨rfl, hF1, hB1, hL1⟩ := hp67
    have hlo1 : E.2.2 ≤ wN w67 := by rw [(bf_L hF1).2.1]; exact hlo
    have ct1 := ct_X9_tip l E w67 b cf R 1 hlo1 hL1 hB1 hr hc
    rw [← ht1] at ct1
    have hL := hL1
    refine g_ladd h (i := 42) rfl ?_
    refine g_lstore_n h (i := 43) rfl hq rfl ?_
    refine g_ldc2 h (i := 44) rfl k_X9_277 ?_
    refine g_lload_n h (i := 45) rfl rfl ?_
    refine g_lmul h (i := 46) rfl ?_
    refine g_aload_n h (i := 47) rfl rfl ?_
    refine g_iconst h (i := 48) rfl (v := 1) (by rfl) ?_
    refine g_callVp (w0 := w) h hq (i := 49) rfl mv_X9_282 cls9 (lb_k hL) (ct1) rfl rfl ⟨rfl, rfl, Nat.le_of_ble_eq_true rfl, Nat.le_of_ble_eq_true rfl⟩ (Nat.le_of_ble_eq_true rfl) ⟨Nat.zero_le _, Nat.zero_le _⟩ (fun r79 w79 hp79 => ?_)
    obtain ⟨rfl, hF2, hB2, hL2⟩ := hp79
    refine g_ladd h (i := 50) rfl ?_
    refine g_eql d3 (by rw [hd3]; unfold dg3; rw [hd2, ht0, ht1]) ?_
    refine g_lstore_n h (i := 51) rfl hq rfl ?_
    refine g_iconst h (i := 52) rfl (v := 0) (by rfl) ?_
    refine g_istore_n h (i := 53) rfl hq rfl ?_
    exact g_lv [(0, .ref b), (1, .long (fo (fun k => (abO (nI k) R).toInt64) 0 d3)), (3, .int (nI 0))] ⟨rfl, congrArg (fun z => some (Value.long z)) (fo_0 _ _), rfl, trivial⟩ (k86 _ (bf_t hF (bf_t hF1 hF2)) hB2 9 0 (by omega))
  have k32 : ∀ w3, BF b w w3 → RepB w3 b cf R → ∀ (d i : Nat), i + d = 4 → G X 0 0 32 (lf [(0, .ref b), (1, .long (fo (R) i (d1))), (3, .int (nI i))]) [] w3 := by
    intro w3 hF hB
    have hL := (bf_L hF).1 b hL0
    have hlo : E.2.2 ≤ wN w3 := by rw [(bf_L hF).2.1]; exact hlo0
    intro d
    induction d with
    | zero =>
      intro i hi
      have hi4 : i = 4 := by omega
      subst hi4
      refine g_iload_n h (i := 20) rfl rfl ?_
      refine g_iconst h (i := 21) rfl (v := 4) (by rfl) ?_
      refine g_icmp_ge h (i := 22) 60 rfl rfl (fun c_34 => ?_) (fun c_34 => absurd (by decide : ((4 : Int32)) ≤ nI 4) c_34)
      exact g_lv [(0, .ref b), (1, .long d2)] ⟨rfl, congrArg (fun z => some (Value.long z)) (hdb.symm), trivial⟩ (k60x w3 hF hB)
    | succ d ih =>
      intro i hid
      have hi : i < 4 := by omega
      have hnge : ¬ (4 : Int32) ≤ nI i := nI_ge (b := 4) hi (by omega)
      refine g_iload_n h (i := 20) rfl rfl ?_
      refine g_iconst h (i := 21) rfl (v := 4) (by rfl) ?_
      refine g_icmp_ge h (i := 22) 60 rfl rfl (fun c_34 => absurd c_34 hnge) (fun c_34 => ?_)
      refine g_ldc2 h (i := 23) rfl k_X9_277 ?_
      refine g_lload_n h (i := 24) rfl rfl ?_
      refine g_lmul h (i := 25) rfl ?_
      refine g_aload_n h (i := 26) rfl rfl ?_
      refine g_getR h (i := 27) rfl fl_X9_19 (fun _ _ _ => rfl) (lb_k hL) (lb_now hL) ?_
      refine g_getR h (i := 28) rfl fl_X9_85 (fun _ _ _ => rfl) (lk_M (lb_M hL)) (lm_states (lb_M hL)) ?_
      refine g_iload_n h (i := 29) rfl rfl ?_
      refine g_iald h (i := 30) rfl (ln_states (lb_M hL)) (vp_in_nI (by omega) (by omega)) ?_
      refine g_eqi (R i).toInt32 (by rw [nI_clamp (by omega)]; exact hB.2.1.2.2.2.2.2.2.2.2.2.2.2.1 i hi) ?_
      refine g_i2l h (i := 31) rfl ?_
      refine g_eql (R i) (fa32 hr (by omega)).symm ?_
      refine g_ladd h (i := 32) rfl ?_
      refine g_lstore_n h (i := 33) rfl hq rfl ?_
      refine g_iinc h (i := 34) rfl rfl (dv := 1) (by rfl) ?_
      refine g_goto h (i := 35) 32 rfl rfl ?_
      exact g_lv [(0, .ref b), (1, .long (fo (R) (i + 1) (d1))), (3, .int (nI (i + 1)))] ⟨rfl, congrArg (fun z => some (Value.long z)) (fo_1 _ _ _), congrArg (fun z => some (Value.int z)) (nI_1 i), trivial⟩ (ih (i + 1) (by omega))
  have k6 : ∀ w3, BF b w w3 → RepB w3 b cf R → ∀ (d i : Nat), i + d = 4 → G X 0 0 6 (lf [(0, .ref b), (1, .long (fo (fun k => (coA (nI k) cf).toInt64) i (113))), (3, .int (nI i))]) [] w3 := by
    intro w3 hF hB
    have hL := (bf_L hF).1 b hL0
    have hlo : E.2.2 ≤ wN w3 := by rw [(bf_L hF).2.1]; exact hlo0
    intro d
    induction d with
    | zero =>
      intro i hi
      have hi4 : i = 4 := by omega
      subst hi4
      refine g_iload_n h (i := 4) rfl rfl ?_
      refine g_iconst h (i := 5) rfl (v := 3) (by rfl) ?_
      refine g_icmp_gt h (i := 6) 30 rfl rfl (fun c_8 => ?_) (fun c_8 => absurd (by decide : (3 : Int32) < nI 4) c_8)
      refine g_iconst h (i := 18) rfl (v := 0) (by rfl) ?_
      refine g_istore_n h (i := 19) rfl hq rfl ?_
      exact g_lv [(0, .ref b), (1, .long (fo R 0 d1)), (3, .int (nI 0))] ⟨rfl, congrArg (fun z => some (Value.long z)) (hd1.symm.trans (fo_0 _ _)), rfl, trivial⟩ (k32 w3 hF hB 4 0 (by omega))
    | succ d ih =>
      intro i hid
      have hi : i < 4 := by omega
      have hnge : ¬ (3 : Int32) < nI i := nI_gt (c := 3) (by omega) (by omega)
      refine g_iload_n h (i := 4) rfl rfl ?_
      refine g_iconst h (i := 5) rfl (v := 3) (by rfl) ?_
      refine g_icmp_gt h (i := 6) 30 rfl rfl (fun c_8 => absurd c_8 hnge) (fun c_8 => ?_)
      refine g_ldc2 h (i := 7) rfl k_X9_277 ?_
      refine g_lload_n h (i := 8) rfl rfl ?_
      refine g_lmul h (i := 9) rfl ?_
      refine g_aload_n h (i := 10) rfl rfl ?_
      refine g_iload_n h (i := 11) rfl rfl ?_
      refine g_callVx h hq (i := 12) rfl mv_X9_279 cls9 (lb_k hL) (ct_X9_count l E w3 b cf R (nI i) hlo hL hB) rfl rfl ⟨rfl, rfl, Nat.le_of_ble_eq_true rfl, Nat.le_of_ble_eq_true rfl⟩ (Nat.le_of_ble_eq_true rfl) ⟨Nat.zero_le _, Nat.zero_le _⟩ ?_
      refine g_i2l h (i := 13) rfl ?_
      refine g_ladd h (i := 14) rfl ?_
      refine g_lstore_n h (i := 15) rfl hq rfl ?_
      refine g_iinc h (i := 16) rfl rfl (dv := 1) (by rfl) ?_
      refine g_goto h (i := 17) 6 rfl rfl ?_
      exact g_lv [(0, .ref b), (1, .long (fo (fun k => (coA (nI k) cf).toInt64) (i + 1) (113))), (3, .int (nI (i + 1)))] ⟨rfl, congrArg (fun z => some (Value.long z)) (fo_1 _ _ _), congrArg (fun z => some (Value.int z)) (nI_1 i), trivial⟩ (ih (i + 1) (by omega))
  refine g_ldc2 h (i := 0) rfl k_X9_275 ?_
  refine g_lstore_n h (i := 1) rfl hq rfl ?_
  refine g_iconst h (i := 2) rfl (v := 0) (by rfl) ?_
  refine g_istore_n h (i := 3) rfl hq rfl ?_
  exact g_lv [(0, .ref b), (1, .long (fo (fun k => (coA (nI k) cf).toInt64) 0 113)), (3, .int (nI 0))] ⟨rfl, congrArg (fun z => some (Value.long z)) (fo_0 _ _), rfl, trivial⟩ (k6 w bf_0 hB 4 0 (by omega))
