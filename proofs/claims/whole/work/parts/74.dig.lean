def fo (f : Nat → Int64) : Nat → Int64 → Int64
  | 0, h => h
  | n + 1, h => 31 * fo f n h + f n
theorem fo_1 (f : Nat → Int64) (n : Nat) (h : Int64) : 31 * fo f n h + f n = fo f (n + 1) h := rfl
theorem fo_0 (f : Nat → Int64) (h : Int64) : h = fo f 0 h := rfl
def fo3 (g : Nat → Nat → Int64) : Nat → Int64 → Int64
  | 0, h => h
  | n + 1, h => fo (g n) 8 (fo3 g n h)
theorem fo3_1 (g : Nat → Nat → Int64) (n : Nat) (h : Int64) : fo (g n) 8 (fo3 g n h) = fo3 g (n + 1) h := rfl
theorem fo3_0 (g : Nat → Nat → Int64) (h : Int64) : h = fo3 g 0 h := rfl
def dg1 (cf : Nat → Nat → Int32) : Int64 := fo (fun k => (coA (nI k) cf).toInt64) 4 113
def dg2 (cf : Nat → Nat → Int32) (r : Nat → Int64) : Int64 := fo r 4 (dg1 cf)
def dg3 (cf : Nat → Nat → Int32) (r : Nat → Int64) : Int64 := 31 * (31 * dg2 cf r + tiA 0 cf r) + tiA 1 cf r
def dg4 (cf : Nat → Nat → Int32) (r : Nat → Int64) : Int64 := fo (fun k => (abO (nI k) r).toInt64) 9 (dg3 cf r)
def dg5 (cf : Nat → Nat → Int32) (r : Nat → Int64) : Int64 := fo3 (fun x i => (atA (nI x) (nI i) r).toInt64) 3 (dg4 cf r)
def dg6 (cf : Nat → Nat → Int32) (r : Nat → Int64) : Int64 := fo (fun j => r (64 + j)) 4 (dg5 cf r)
-- digest
set_option maxRecDepth 100000 in
set_option maxHeartbeats 4000000 in
theorem ct_X10_digest (l : Launch) (E : EE) (w : Wd) (a : Nat) (r : Nat → Int64) (hlo : E.2.2 ≤ wN (sRow w a r)) (hL : LayR w a) (hr : FA r) (hc : CfA (cfW w a)) : Ct l E yX10_digest cX10_digest 5 (some .long) ({ frames := 3, cells := 0, slots := 0, locals := 77 } : Room) [.ref a] (sRow w a r) 0 0 (PS a w ((.long (dg6 (cfW w a) r), cfW w a, r))) := by
  refine ct_in (il := il_X10_digest) (by decide) dk_X10_digest (Nat.le_of_ble_eq_true rfl) hlo ?_
  intro X h hq

  obtain ⟨cf, hcf⟩ : ∃ cf, cf = cfW w a := ⟨_, rfl⟩
  have hlo0 : E.2.2 ≤ wN w := hlo
  have hL0 := hL
  rw [← hcf] at hq hc
  obtain ⟨d3, hd3⟩ : ∃ d3, d3 = dg3 cf r := ⟨_, rfl⟩
  obtain ⟨d1, hd1⟩ : ∃ d1, d1 = fo (fun k => (coA (nI k) cf).toInt64) 4 113 := ⟨_, rfl⟩
  obtain ⟨t0, ht0⟩ : ∃ t0, t0 = tiA 0 cf r := ⟨_, rfl⟩
  obtain ⟨t1, ht1⟩ : ∃ t1, t1 = tiA 1 cf r := ⟨_, rfl⟩
  obtain ⟨d2, hd2⟩ : ∃ d2, d2 = dg2 cf r := ⟨_, rfl⟩
  have hdb : d2 = fo r 4 d1 := by rw [hd2]; unfold dg2 dg1; rw [hd1]
  have hd6 : dg6 cf r = fo (fun j => r (64 + j)) 4 (fo3 (fun x i => (atA (nI x) (nI i) r).toInt64) 3 (fo (fun k => (abO (nI k) r).toInt64) 9 d3)) := by
    unfold dg6 dg5 dg4
    rw [hd3]
  rw [hd6] at hq
  obtain ⟨d4, hd4⟩ : ∃ d4, d4 = fo (fun k => (abO (nI k) r).toInt64) 9 d3 := ⟨_, rfl⟩
  rw [← hd4] at hq
  have k152 : ∀ (w3 : Wd), RS a w w3 → ∀ (d i : Nat), i + d = 4 → G X 0 0 153 (lf [(0, .ref a), (1, .long (fo (fun j => r (64 + j)) i (fo3 (fun x i => (atA (nI x) (nI i) r).toInt64) 3 d4))), (3, .int (nI i))]) [] (sRow w3 a r) := by
    intro w3 hRS
    have hL := (RS_L hRS).1 a hL
    have hlo : E.2.2 ≤ wN w3 := by rw [(RS_L hRS).2.1]; exact hlo0
    have hcw : cfW w3 a = cf := (RS_cf hRS).trans hcf.symm
    intro d
    induction d with
    | zero =>
      intro i hi
      have hi4 : i = 4 := by omega
      subst hi4
      refine g_iload_n h (i := 92) rfl rfl ?_
      refine g_iconst h (i := 93) rfl (v := 4) (by rfl) ?_
      refine g_icmp_ge h (i := 94) 180 rfl rfl (fun c_155 => ?_) (fun c_155 => absurd (by decide : (4 : Int32) ≤ nI 4) c_155)
      refine g_lload_n h (i := 108) rfl rfl ?_
      exact g_lret hq h (i := 109) rfl (⟨rfl, by rw [hcf]; exact ri_RS hRS⟩)
    | succ d ih =>
      intro i hid
      have hi : i < 4 := by omega
      have hnge : ¬ (4 : Int32) ≤ nI i := nI_ge (b := 4) hi (by omega)
      refine g_iload_n h (i := 92) rfl rfl ?_
      refine g_iconst h (i := 93) rfl (v := 4) (by rfl) ?_
      refine g_icmp_ge h (i := 94) 180 rfl rfl (fun c_155 => absurd c_155 hnge) (fun c_155 => ?_)
      refine g_ldc2 h (i := 95) rfl k_X10_280 ?_
      refine g_lload_n h (i := 96) rfl rfl ?_
      refine g_lmul h (i := 97) rfl ?_
      refine g_aload_n h (i := 98) rfl rfl ?_
      refine g_getR h (i := 99) rfl fl_X10_7 (fun _ _ _ => rfl) (lk_R hL) (lr_row hL) ?_
      refine g_bipush h (i := 100) rfl (v := 64) (by rfl) ?_
      refine g_iload_n h (i := 101) rfl rfl ?_
      refine g_iadd h (i := 102) rfl ?_
      refine g_eqi (nI (64 + i)) (nI_add 64 i) ?_
      refine g_lald h (i := 103) rfl (lq_row hL) (vp_in_nI (by omega) (by omega)) ?_
      refine g_eql _ (sRow_jx _ _ _ (n := 64 + i) (nI_clamp (by omega))) ?_
      refine g_ladd h (i := 104) rfl ?_
      refine g_lstore_n h (i := 105) rfl hq rfl ?_
      refine g_iinc h (i := 106) rfl rfl (dv := 1) (by rfl) ?_
      refine g_goto h (i := 107) 153 rfl rfl ?_
      exact g_lv [(0, .ref a), (1, .long (fo (fun j => r (64 + j)) (i + 1) (fo3 (fun x i => (atA (nI x) (nI i) r).toInt64) 3 d4))), (3, .int (nI (i + 1)))] ⟨rfl, congrArg (fun z => some (Value.long z)) (fo_1 _ _ _), congrArg (fun z => some (Value.int z)) (nI_1 i), trivial⟩ (ih (i + 1) (by omega))
  have k117 : ∀ (w3 : Wd), RS a w w3 → ∀ (x : Nat), x < 3 → G X 0 0 109 (lf [(0, .ref a), (1, .long (fo3 (fun x i => (atA (nI x) (nI i) r).toInt64) (x + 1) (d4))), (3, .int (nI (x + 1)))]) [] (sRow w3 a r) → ∀ (d i : Nat), i + d = 8 → G X 0 0 117 (lf [(0, .ref a), (1, .long (fo ((fun x i => (atA (nI x) (nI i) r).toInt64) x) i (fo3 (fun x i => (atA (nI x) (nI i) r).toInt64) x (d4)))), (3, .int (nI x)), (4, .int (nI i))]) [] (sRow w3 a r) := by
    intro w3 hRS x hx hnx
    have hL := (RS_L hRS).1 a hL
    have hlo : E.2.2 ≤ wN w3 := by rw [(RS_L hRS).2.1]; exact hlo0
    intro d
    induction d with
    | zero =>
      intro i hi
      have hi4 : i = 8 := by omega
      subst hi4
      refine g_iload h (i := 73) rfl rfl ?_
      refine g_bipush h (i := 74) rfl (v := 8) (by rfl) ?_
      refine g_icmp_ge h (i := 75) 145 rfl rfl (fun c_121 => ?_) (fun c_121 => absurd (by decide : (8 : Int32) ≤ nI 8) c_121)
      refine g_iinc h (i := 88) rfl rfl (dv := 1) (by rfl) ?_
      refine g_goto h (i := 89) 109 rfl rfl ?_
      exact g_lv [(0, .ref a), (1, .long (fo3 (fun x i => (atA (nI x) (nI i) r).toInt64) (x + 1) (d4))), (3, .int (nI (x + 1)))] ⟨rfl, congrArg (fun z => some (Value.long z)) (fo3_1 _ _ _), congrArg (fun z => some (Value.int z)) (nI_1 x), trivial⟩ hnx
    | succ d ih =>
      intro i hid
      have hi : i < 8 := by omega
      have hnge : ¬ (8 : Int32) ≤ nI i := nI_ge (b := 8) hi (by omega)
      refine g_iload h (i := 73) rfl rfl ?_
      refine g_bipush h (i := 74) rfl (v := 8) (by rfl) ?_
      refine g_icmp_ge h (i := 75) 145 rfl rfl (fun c_121 => absurd c_121 hnge) (fun c_121 => ?_)
      refine g_ldc2 h (i := 76) rfl k_X10_280 ?_
      refine g_lload_n h (i := 77) rfl rfl ?_
      refine g_lmul h (i := 78) rfl ?_
      refine g_aload_n h (i := 79) rfl rfl ?_
      refine g_iload_n h (i := 80) rfl rfl ?_
      refine g_iload h (i := 81) rfl rfl ?_
      refine g_callVx h hq (i := 82) rfl mv_X10_289 cls10 (lk_R hL) (ct_X10_at l E w3 a r (nI x) (nI i) hlo hL) rfl rfl ⟨rfl, rfl, Nat.le_of_ble_eq_true rfl, Nat.le_of_ble_eq_true rfl⟩ (Nat.le_of_ble_eq_true rfl) ⟨Nat.zero_le _, Nat.zero_le _⟩ ?_
      refine g_i2l h (i := 83) rfl ?_
      refine g_ladd h (i := 84) rfl ?_
      refine g_lstore_n h (i := 85) rfl hq rfl ?_
      refine g_iinc h (i := 86) rfl rfl (dv := 1) (by rfl) ?_
      refine g_goto h (i := 87) 117 rfl rfl ?_
      exact g_lv [(0, .ref a), (1, .long (fo ((fun x i => (atA (nI x) (nI i) r).toInt64) x) (i + 1) (fo3 (fun x i => (atA (nI x) (nI i) r).toInt64) x (d4)))), (3, .int (nI x)), (4, .int (nI (i + 1)))] ⟨rfl, congrArg (fun z => some (Value.long z)) (fo_1 _ _ _), rfl, congrArg (fun z => some (Value.int z)) (nI_1 i), trivial⟩ (ih (i + 1) (by omega))
  have k109 : ∀ (w3 : Wd), RS a w w3 → ∀ (d x : Nat), x + d = 3 → G X 0 0 109 (lf [(0, .ref a), (1, .long (fo3 (fun x i => (atA (nI x) (nI i) r).toInt64) x (d4))), (3, .int (nI x))]) [] (sRow w3 a r) := by
    intro w3 hRS d
    induction d with
    | zero =>
      intro i hi
      have hi4 : i = 3 := by omega
      subst hi4
      refine g_iload_n h (i := 68) rfl rfl ?_
      refine g_iconst h (i := 69) rfl (v := 3) (by rfl) ?_
      refine g_icmp_ge h (i := 70) 151 rfl rfl (fun c_111 => ?_) (fun c_111 => absurd (by decide : (3 : Int32) ≤ nI 3) c_111)
      refine g_iconst h (i := 90) rfl (v := 0) (by rfl) ?_
      refine g_istore_n h (i := 91) rfl hq rfl ?_
      exact g_lv [(0, .ref a), (1, .long (fo (fun j => r (64 + j)) 0 (fo3 (fun x i => (atA (nI x) (nI i) r).toInt64) 3 d4))), (3, .int (nI 0))] ⟨rfl, congrArg (fun z => some (Value.long z)) (fo_0 _ _), rfl, trivial⟩ (k152 w3 hRS 4 0 (by omega))
    | succ d ih =>
      intro i hid
      have hi : i < 3 := by omega
      have hnge : ¬ (3 : Int32) ≤ nI i := nI_ge (b := 3) hi (by omega)
      refine g_iload_n h (i := 68) rfl rfl ?_
      refine g_iconst h (i := 69) rfl (v := 3) (by rfl) ?_
      refine g_icmp_ge h (i := 70) 151 rfl rfl (fun c_111 => absurd c_111 hnge) (fun c_111 => ?_)
      refine g_iconst h (i := 71) rfl (v := 0) (by rfl) ?_
      refine g_istore h (i := 72) rfl hq rfl ?_
      exact g_lv [(0, .ref a), (1, .long (fo ((fun x i => (atA (nI x) (nI i) r).toInt64) i) 0 (fo3 (fun x i => (atA (nI x) (nI i) r).toInt64) i (d4)))), (3, .int (nI i)), (4, .int (nI 0))] ⟨rfl, congrArg (fun z => some (Value.long z)) (fo_0 _ _), rfl, rfl, trivial⟩ (k117 w3 hRS i hi (ih (i + 1) (by omega)) 8 0 (by omega))
  have k82 : ∀ (w3 : Wd), RS a w w3 → ∀ (d i : Nat), i + d = 9 → G X 0 0 82 (lf [(0, .ref a), (1, .long (fo (fun k => (abO (nI k) r).toInt64) i (d3))), (3, .int (nI i))]) [] (sRow w3 a r) := by
    intro w3 hRS
    have hL := (RS_L hRS).1 a hL
    have hlo : E.2.2 ≤ wN w3 := by rw [(RS_L hRS).2.1]; exact hlo0
    have hcw : cfW w3 a = cf := (RS_cf hRS).trans hcf.symm
    intro d
    induction d with
    | zero =>
      intro i hi
      have hi4 : i = 9 := by omega
      subst hi4
      refine g_iload_n h (i := 52) rfl rfl ?_
      refine g_bipush h (i := 53) rfl (v := 9) (by rfl) ?_
      refine g_icmp_ge h (i := 54) 107 rfl rfl (fun c_85 => ?_) (fun c_85 => absurd (by decide : (9 : Int32) ≤ nI 9) c_85)
      refine g_iconst h (i := 66) rfl (v := 0) (by rfl) ?_
      refine g_istore_n h (i := 67) rfl hq rfl ?_
      exact g_lv [(0, .ref a), (1, .long (fo3 (fun x i => (atA (nI x) (nI i) r).toInt64) 0 d4)), (3, .int (nI 0))] ⟨rfl, congrArg (fun z => some (Value.long z)) (hd4.symm.trans (fo3_0 _ _)), rfl, trivial⟩ (k109 w3 hRS 3 0 (by omega))
    | succ d ih =>
      intro i hid
      have hi : i < 9 := by omega
      have hnge : ¬ (9 : Int32) ≤ nI i := nI_ge (b := 9) hi (by omega)
      refine g_iload_n h (i := 52) rfl rfl ?_
      refine g_bipush h (i := 53) rfl (v := 9) (by rfl) ?_
      refine g_icmp_ge h (i := 54) 107 rfl rfl (fun c_85 => absurd c_85 hnge) (fun c_85 => ?_)
      refine g_ldc2 h (i := 55) rfl k_X10_280 ?_
      refine g_lload_n h (i := 56) rfl rfl ?_
      refine g_lmul h (i := 57) rfl ?_
      refine g_aload_n h (i := 58) rfl rfl ?_
      refine g_iload_n h (i := 59) rfl rfl ?_
      refine g_callVx h hq (i := 60) rfl mv_X10_260 cls10 (lk_R hL) (ct_X10_aboutOf l E w3 a r (nI i) hlo hL) rfl rfl ⟨rfl, rfl, Nat.le_of_ble_eq_true rfl, Nat.le_of_ble_eq_true rfl⟩ (Nat.le_of_ble_eq_true rfl) ⟨Nat.zero_le _, Nat.zero_le _⟩ ?_
      refine g_i2l h (i := 61) rfl ?_
      refine g_ladd h (i := 62) rfl ?_
      refine g_lstore_n h (i := 63) rfl hq rfl ?_
      refine g_iinc h (i := 64) rfl rfl (dv := 1) (by rfl) ?_
      refine g_goto h (i := 65) 82 rfl rfl ?_
      exact g_lv [(0, .ref a), (1, .long (fo (fun k => (abO (nI k) r).toInt64) (i + 1) (d3))), (3, .int (nI (i + 1)))] ⟨rfl, congrArg (fun z => some (Value.long z)) (fo_1 _ _ _), congrArg (fun z => some (Value.int z)) (nI_1 i), trivial⟩ (ih (i + 1) (by omega))
  have k58 : G X 0 0 58 (lf [(0, .ref a), (1, .long d2)]) [] (sRow w a r) := by
    have hc1 : CfA (cfW w a) := by rw [← hcf]; exact hc
    have ct0 := ct_X10_tip l E w a r 0 hlo hL hr hc1
    rw [← hcf, ← ht0] at ct0
    refine g_ldc2 h (i := 36) rfl k_X10_280 ?_
    refine g_ldc2 h (i := 37) rfl k_X10_280 ?_
    refine g_lload_n h (i := 38) rfl rfl ?_
    refine g_lmul h (i := 39) rfl ?_
    refine g_aload_n h (i := 40) rfl rfl ?_
    refine g_iconst h (i := 41) rfl (v := 0) (by rfl) ?_
    refine g_callVp (w0 := w) h hq (i := 42) rfl mv_X10_285 cls10 (lk_R hL) (ct0) rfl rfl ⟨rfl, rfl, Nat.le_of_ble_eq_true rfl, Nat.le_of_ble_eq_true rfl⟩ (Nat.le_of_ble_eq_true rfl) ⟨Nat.zero_le _, Nat.zero_le _⟩ (fun r68 w68 hp68 => ?_)
    obtain ⟨w3, hRS, rfl, rfl⟩ := hp68
    have hL := (RS_L hRS).1 a hL
    have hlo : E.2.2 ≤ wN w3 := by rw [(RS_L hRS).2.1]; exact hlo0
    have hc3 : CfA (cfW w3 a) := by rw [RS_cf hRS]; exact hc1
    have ct1 := ct_X10_tip l E w3 a r 1 hlo hL hr hc3
    rw [RS_cf hRS, ← hcf, ← ht1] at ct1
    refine g_ladd h (i := 43) rfl ?_
    refine g_lmul h (i := 44) rfl ?_
    refine g_aload_n h (i := 45) rfl rfl ?_
    refine g_iconst h (i := 46) rfl (v := 1) (by rfl) ?_
    refine g_callVp (w0 := w) h hq (i := 47) rfl mv_X10_285 cls10 (lk_R hL) (ct1) rfl rfl ⟨rfl, rfl, Nat.le_of_ble_eq_true rfl, Nat.le_of_ble_eq_true rfl⟩ (Nat.le_of_ble_eq_true rfl) ⟨Nat.zero_le _, Nat.zero_le _⟩ (fun r75 w75 hp75 => ?_)
    obtain ⟨w4, hRS4, rfl, rfl⟩ := hp75
    refine g_ladd h (i := 48) rfl ?_
    refine g_eql d3 (by rw [hd3]; unfold dg3; rw [hd2, ht0, ht1]) ?_
    refine g_lstore_n h (i := 49) rfl hq rfl ?_
    refine g_iconst h (i := 50) rfl (v := 0) (by rfl) ?_
    refine g_istore_n h (i := 51) rfl hq rfl ?_
    exact g_lv [(0, .ref a), (1, .long (fo (fun k => (abO (nI k) r).toInt64) 0 d3)), (3, .int (nI 0))] ⟨rfl, congrArg (fun z => some (Value.long z)) (fo_0 _ _), rfl, trivial⟩ (k82 w4 (RS_t hRS hRS4) 9 0 (by omega))
  have k32 : ∀ (d i : Nat), i + d = 4 → G X 0 0 32 (lf [(0, .ref a), (1, .long (fo (r) i (d1))), (3, .int (nI i))]) [] (sRow w a r) := by
    intro d
    induction d with
    | zero =>
      intro i hi
      have hi4 : i = 4 := by omega
      subst hi4
      refine g_iload_n h (i := 20) rfl rfl ?_
      refine g_iconst h (i := 21) rfl (v := 4) (by rfl) ?_
      refine g_icmp_ge h (i := 22) 58 rfl rfl (fun c_34 => ?_) (fun c_34 => absurd (by decide : (4 : Int32) ≤ nI 4) c_34)
      exact g_lv [(0, .ref a), (1, .long d2)] ⟨rfl, congrArg (fun z => some (Value.long z)) hdb.symm, trivial⟩ k58
    | succ d ih =>
      intro i hid
      have hi : i < 4 := by omega
      have hnge : ¬ (4 : Int32) ≤ nI i := nI_ge (b := 4) hi (by omega)
      refine g_iload_n h (i := 20) rfl rfl ?_
      refine g_iconst h (i := 21) rfl (v := 4) (by rfl) ?_
      refine g_icmp_ge h (i := 22) 58 rfl rfl (fun c_34 => absurd c_34 hnge) (fun c_34 => ?_)
      refine g_ldc2 h (i := 23) rfl k_X10_280 ?_
      refine g_lload_n h (i := 24) rfl rfl ?_
      refine g_lmul h (i := 25) rfl ?_
      refine g_aload_n h (i := 26) rfl rfl ?_
      refine g_getR h (i := 27) rfl fl_X10_7 (fun _ _ _ => rfl) (lk_R hL) (lr_row hL) ?_
      refine g_iconst h (i := 28) rfl (v := 0) (by rfl) ?_
      refine g_iload_n h (i := 29) rfl rfl ?_
      refine g_iadd h (i := 30) rfl ?_
      refine g_eqi (nI i) ((nI_add 0 i).trans (by rw [Nat.zero_add])) ?_
      refine g_lald h (i := 31) rfl (lq_row hL) (vp_in_nI (by omega) (by omega)) ?_
      refine g_eql _ (sRow_jx _ _ _ (n := i) (nI_clamp (by omega))) ?_
      refine g_ladd h (i := 32) rfl ?_
      refine g_lstore_n h (i := 33) rfl hq rfl ?_
      refine g_iinc h (i := 34) rfl rfl (dv := 1) (by rfl) ?_
      refine g_goto h (i := 35) 32 rfl rfl ?_
      exact g_lv [(0, .ref a), (1, .long (fo (r) (i + 1) (d1))), (3, .int (nI (i + 1)))] ⟨rfl, congrArg (fun z => some (Value.long z)) (fo_1 _ _ _), congrArg (fun z => some (Value.int z)) (nI_1 i), trivial⟩ (ih (i + 1) (by omega))
  have k6 : ∀ (d i : Nat), i + d = 4 → G X 0 0 6 (lf [(0, .ref a), (1, .long (fo (fun k => (coA (nI k) cf).toInt64) i (113))), (3, .int (nI i))]) [] (sRow w a r) := by
    intro d
    induction d with
    | zero =>
      intro i hi
      have hi4 : i = 4 := by omega
      subst hi4
      refine g_iload_n h (i := 4) rfl rfl ?_
      refine g_iconst h (i := 5) rfl (v := 4) (by rfl) ?_
      refine g_icmp_ge h (i := 6) 30 rfl rfl (fun c_8 => ?_) (fun c_8 => absurd (by decide : (4 : Int32) ≤ nI 4) c_8)
      refine g_iconst h (i := 18) rfl (v := 0) (by rfl) ?_
      refine g_istore_n h (i := 19) rfl hq rfl ?_
      exact g_lv [(0, .ref a), (1, .long (fo r 0 d1)), (3, .int (nI 0))] ⟨rfl, congrArg (fun z => some (Value.long z)) (hd1.symm.trans (fo_0 _ _)), rfl, trivial⟩ (k32 4 0 (by omega))
    | succ d ih =>
      intro i hid
      have hi : i < 4 := by omega
      have hnge : ¬ (4 : Int32) ≤ nI i := nI_ge (b := 4) hi (by omega)
      refine g_iload_n h (i := 4) rfl rfl ?_
      refine g_iconst h (i := 5) rfl (v := 4) (by rfl) ?_
      refine g_icmp_ge h (i := 6) 30 rfl rfl (fun c_8 => absurd c_8 hnge) (fun c_8 => ?_)
      refine g_ldc2 h (i := 7) rfl k_X10_280 ?_
      refine g_lload_n h (i := 8) rfl rfl ?_
      refine g_lmul h (i := 9) rfl ?_
      refine g_aload_n h (i := 10) rfl rfl ?_
      refine g_iload_n h (i := 11) rfl rfl ?_
      refine g_callVx h hq (i := 12) rfl mv_X10_282 cls10 (lk_R hL) ((by have q := ct_X10_count l E w a r (nI i) hlo hL; rw [← hcf] at q; exact q)) rfl rfl ⟨rfl, rfl, Nat.le_of_ble_eq_true rfl, Nat.le_of_ble_eq_true rfl⟩ (Nat.le_of_ble_eq_true rfl) ⟨Nat.zero_le _, Nat.zero_le _⟩ ?_
      refine g_i2l h (i := 13) rfl ?_
      refine g_ladd h (i := 14) rfl ?_
      refine g_lstore_n h (i := 15) rfl hq rfl ?_
      refine g_iinc h (i := 16) rfl rfl (dv := 1) (by rfl) ?_
      refine g_goto h (i := 17) 6 rfl rfl ?_
      exact g_lv [(0, .ref a), (1, .long (fo (fun k => (coA (nI k) cf).toInt64) (i + 1) (113))), (3, .int (nI (i + 1)))] ⟨rfl, congrArg (fun z => some (Value.long z)) (fo_1 _ _ _), congrArg (fun z => some (Value.int z)) (nI_1 i), trivial⟩ (ih (i + 1) (by omega))
  refine g_ldc2 h (i := 0) rfl k_X10_278 ?_
  refine g_lstore_n h (i := 1) rfl hq rfl ?_
  refine g_iconst h (i := 2) rfl (v := 0) (by rfl) ?_
  refine g_istore_n h (i := 3) rfl hq rfl ?_
  exact g_lv [(0, .ref a), (1, .long (fo (fun k => (coA (nI k) cf).toInt64) 0 113)), (3, .int (nI 0))] ⟨rfl, congrArg (fun z => some (Value.long z)) (fo_0 _ _), rfl, trivial⟩ (k6 4 0 (by omega))
