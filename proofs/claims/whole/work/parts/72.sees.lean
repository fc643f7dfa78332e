def seW (w : Wd) (a : Nat) (r : Nat → Int64) (t i : Nat) : Wd := dW w (wI w) (ua (wJ w) (a + 22) (setn (wJ w (a + 22)) (20 * t) (v20 r) i)) (wD w)
theorem se_0 (w : Wd) (a : Nat) (r : Nat → Int64) (t : Nat) : seW w a r t 0 = w := by
  unfold seW; rw [setn_0, ua_self]; rfl
theorem se_1 {w : Wd} {a t i : Nat} {r : Nat → Int64} {v : Int64} (hv : v = v20 r i) : sJ (sRow (seW w a r t i) a r) (a + 22) (20 * t + i) v = sRow (seW w a r t (i + 1)) a r := by
  rw [sRow_cj (by omega)]
  have e : up2 (ua (wJ w) (a + 22) (setn (wJ w (a + 22)) (20 * t) (v20 r) i)) (a + 22) (20 * t + i) v = ua (wJ w) (a + 22) (setn (wJ w (a + 22)) (20 * t) (v20 r) (i + 1)) := by rw [up2_ua, ua_ua, ua_s, setn_1 _ _ _ _ hv]
  exact congrArg (fun J => sRow (dW w (wI w) J (wD w)) a r) e
theorem v20_s {r : Nat → Int64} {i : Nat} (h : i < 4) : r i = v20 r i := (if_pos h).symm
theorem v20_o {r : Nat → Int64} {i : Nat} (h : ¬ i < 4) : r (8 + i) = v20 r i := (if_neg h).symm
theorem i_124 (i : Nat) : (12 : Int32) + nI i - 4 = nI (8 + i) := by
  have e1 : (12 : Int32) + nI i = nI (12 + i) := nI_add 12 i
  rw [e1]
  have e2 : nI (12 + i) - nI 4 = nI (12 + i - 4) := pk_sub (by omega)
  exact e2.trans (congrArg nI (by omega))
theorem i_04 {i : Nat} : (4 : Int32) ≤ nI i → i < 2147483648 → ¬ i < 4 := fun h h2 q => absurd h (nI_ge (b := 4) q (by omega))
theorem i_04' {i : Nat} : ¬ (4 : Int32) ≤ nI i → i < 2147483648 → i < 4 := fun h h2 => by
  have := i32lt.mp (i32nl.mp h)
  rw [nIT h2] at this
  have e : (4 : Int32).toInt = 4 := rfl
  omega
-- sees
set_option maxRecDepth 100000 in
set_option maxHeartbeats 4000000 in
theorem ct_X10_sees (l : Launch) (E : EE) (w : Wd) (a t : Nat) (r : Nat → Int64) (hlo : E.2.2 ≤ wN (sRow w a r)) (hL : LayR w a) (ht : t ≤ 100) : Ct l E yX10_sees cX10_sees 3 none ({ frames := 0, cells := 0, slots := 0, locals := 0 } : Room) [.ref a, .int (nI t)] (sRow w a r) 0 0 (Px none (sRow (seW w a r t 20) a r)) := by
  refine ct_in (il := il_X10_sees) (by decide) dk_X10_sees (Nat.le_of_ble_eq_true rfl) hlo ?_
  intro X h hq

  have hL0 := hL
  have key : ∀ (d i : Nat), i + d = 20 → G X 0 0 2 (lf [(0, .ref a), (1, .int (nI t)), (2, .int (nI i))]) [] (sRow (seW w a r t i) a r) := by
    intro d
    induction d with
    | zero =>
      intro i hi
      have hi4 : i = 20 := by omega
      subst hi4
      refine g_iload_n h (i := 2) rfl rfl ?_
      refine g_bipush h (i := 3) rfl (v := 20) (by rfl) ?_
      refine g_icmp_ge h (i := 4) 47 rfl rfl (fun c_5 => ?_) (fun c_5 => absurd (by decide : (20 : Int32) ≤ nI 20) c_5)
      exact g_vret hq h (i := 30) rfl (⟨rfl, rfl⟩)
    | succ d ih =>
      intro i hid
      have hi : i < 20 := by omega
      have hL : LayR (seW w a r t i) a := hL0
      have hnge : ¬ (20 : Int32) ≤ nI i := nI_ge (b := 20) hi (by omega)
      have k39 : ∀ (x : Int32) (n : Nat), x = nI n → n < 28 → r n = v20 r i → G X 0 0 39 (lf [(0, .ref a), (1, .int (nI t)), (2, .int (nI i))]) [.int x, .ref (a + 1), .int (nI (20 * t + i)), .ref (a + 22)] (sRow (seW w a r t i) a r) := by
        intro x n hx hn hv
        subst hx
        refine g_lald h (i := 26) rfl (lq_row hL) (vp_in_nI (by omega) (by omega)) ?_
        refine g_eql _ (sRow_jx _ _ _ (n := n) (nI_clamp (by omega))) ?_
        refine g_last h (i := 27) rfl (lq_seen hL) (vp_in_nI (by omega) (by omega)) ?_
        refine g_w (sRow (seW w a r t (i + 1)) a r) (by rw [nI_clamp (by omega)]; exact se_1 hv) ?_
        refine g_iinc h (i := 28) rfl rfl (dv := 1) (by rfl) ?_
        refine g_goto h (i := 29) 2 rfl rfl ?_
        exact g_lv [(0, .ref a), (1, .int (nI t)), (2, .int (nI (i + 1)))] ⟨rfl, rfl, congrArg (fun z => some (Value.int z)) (nI_1 i), trivial⟩ (ih (i + 1) (by omega))
      refine g_iload_n h (i := 2) rfl rfl ?_
      refine g_bipush h (i := 3) rfl (v := 20) (by rfl) ?_
      refine g_icmp_ge h (i := 4) 47 rfl rfl (fun c_5 => absurd c_5 hnge) (fun c_5 => ?_)
      refine g_aload_n h (i := 5) rfl rfl ?_
      refine g_getR h (i := 6) rfl fl_X10_77 (fun _ _ _ => rfl) (lk_R hL) (lr_seen hL) ?_
      refine g_bipush h (i := 7) rfl (v := 20) (by rfl) ?_
      refine g_iload_n h (i := 8) rfl rfl ?_
      refine g_imul h (i := 9) rfl ?_
      refine g_eqi (nI (20 * t)) (pk_mul 20 t) ?_
      refine g_iload_n h (i := 10) rfl rfl ?_
      refine g_iadd h (i := 11) rfl ?_
      refine g_eqi (nI (20 * t + i)) (nI_add (20 * t) i) ?_
      refine g_aload_n h (i := 12) rfl rfl ?_
      refine g_getR h (i := 13) rfl fl_X10_7 (fun _ _ _ => rfl) (lk_R hL) (lr_row hL) ?_
      refine g_iload_n h (i := 14) rfl rfl ?_
      refine g_iconst h (i := 15) rfl (v := 4) (by rfl) ?_
      refine g_icmp_ge h (i := 16) 33 rfl rfl (fun c_24 => ?_) (fun c_24 => ?_)
      · skip
        refine g_bipush h (i := 21) rfl (v := 12) (by rfl) ?_
        refine g_iload_n h (i := 22) rfl rfl ?_
        refine g_iadd h (i := 23) rfl ?_
        refine g_iconst h (i := 24) rfl (v := 4) (by rfl) ?_
        refine g_isub h (i := 25) rfl ?_
        exact g_lv [(0, .ref a), (1, .int (nI t)), (2, .int (nI i))] ⟨rfl, rfl, rfl, trivial⟩ (k39 _ (8 + i) (i_124 i) (by omega) (v20_o (i_04 c_24 (by omega))))
      · skip
        refine g_iconst h (i := 17) rfl (v := 0) (by rfl) ?_
        refine g_iload_n h (i := 18) rfl rfl ?_
        refine g_iadd h (i := 19) rfl ?_
        refine g_goto h (i := 20) 39 rfl rfl ?_
        exact g_lv [(0, .ref a), (1, .int (nI t)), (2, .int (nI i))] ⟨rfl, rfl, rfl, trivial⟩ (k39 _ i ((nI_add 0 i).trans (by rw [Nat.zero_add])) (by omega) (v20_s (i_04' c_24 (by omega))))
  refine g_iconst h (i := 0) rfl (v := 0) (by rfl) ?_
  refine g_istore_n h (i := 1) rfl hq rfl ?_
  exact g_lv [(0, .ref a), (1, .int (nI t)), (2, .int (nI 0))] ⟨rfl, rfl, rfl, trivial⟩ (by have := key 20 0 (by omega); rw [se_0] at this; exact this)
-- as it was seen
set_option maxRecDepth 100000 in
set_option maxHeartbeats 4000000 in
theorem ct_X10_isAsSeen (l : Launch) (E : EE) (w : Wd) (a t : Nat) (r sn : Nat → Int64) (hlo : E.2.2 ≤ wN (sRow w a r)) (hL : LayR w a) (ht : t ≤ 100) (hs : ∀ i, i < 20 → wJ w (a + 22) (20 * t + i) = sn i) : Ct l E yX10_isAsSeen cX10_isAsSeen 4 (some .boolean) ({ frames := 0, cells := 0, slots := 0, locals := 0 } : Room) [.ref a, .int (nI t)] (sRow w a r) 0 0 (Px (some (.int (bI (eqB sn (v20 r) 20 = true)))) (sRow w a r)) := by
  refine ct_in (il := il_X10_isAsSeen) (by decide) dk_X10_isAsSeen (Nat.le_of_ble_eq_true rfl) hlo ?_
  intro X h hq

  have key : ∀ (d i : Nat), i + d = 20 → G X 0 0 4 (lf [(0, .ref a), (1, .int (nI t)), (2, .int (bI (eqB sn (v20 r) i = true))), (3, .int (nI i))]) [] (sRow w a r) := by
    intro d
    induction d with
    | zero =>
      intro i hi
      have hi4 : i = 20 := by omega
      subst hi4
      refine g_iload_n h (i := 4) rfl rfl ?_
      refine g_bipush h (i := 5) rfl (v := 20) (by rfl) ?_
      refine g_icmp_ge h (i := 6) 63 rfl rfl (fun c_7 => ?_) (fun c_7 => absurd (by decide : (20 : Int32) ≤ nI 20) c_7)
      refine g_iload_n h (i := 40) rfl rfl ?_
      exact g_zret hq h (i := 41) rfl (bI_n _) (⟨rfl, rfl⟩)
    | succ d ih =>
      intro i hid
      have hi : i < 20 := by omega
      have hnge : ¬ (20 : Int32) ≤ nI i := nI_ge (b := 20) hi (by omega)
      have hS : eqB sn (v20 r) (i + 1) = true ↔ (eqB sn (v20 r) i = true ∧ sn i = v20 r i) := by
        show (eqB sn (v20 r) i && decide (sn i = v20 r i)) = true ↔ _
        rw [Bool.and_eq_true, decide_eq_true_iff]
      have k56 : ∀ v : Int32, v = bI (eqB sn (v20 r) (i + 1) = true) → G X 0 0 56 (lf [(0, .ref a), (1, .int (nI t)), (3, .int (nI i))]) [.int v] (sRow w a r) := by
        intro v hv
        refine g_istore_n h (i := 37) rfl hq rfl ?_
        refine g_iinc h (i := 38) rfl rfl (dv := 1) (by rfl) ?_
        refine g_goto h (i := 39) 4 rfl rfl ?_
        exact g_lv [(0, .ref a), (1, .int (nI t)), (2, .int (bI (eqB sn (v20 r) (i + 1) = true))), (3, .int (nI (i + 1)))] ⟨rfl, rfl, congrArg (fun z => some (Value.int z)) hv, congrArg (fun z => some (Value.int z)) (nI_1 i), trivial⟩ (ih (i + 1) (by omega))
      have k46 : ∀ (x : Int32) (n : Nat), x = nI n → n < 28 → r n = v20 r i → eqB sn (v20 r) i = true → G X 0 0 46 (lf [(0, .ref a), (1, .int (nI t)), (3, .int (nI i))]) [.int x, .ref (a + 1), .long (sn i)] (sRow w a r) := by
        intro x n hx hn hv hb
        subst hx
        refine g_lald h (i := 31) rfl (lq_row hL) (vp_in_nI (by omega) (by omega)) ?_
        refine g_eql _ (sRow_jx _ _ _ (n := n) (nI_clamp (by omega))) ?_
        refine g_lcmp h (i := 32) rfl ?_
        refine g_if_ne h (i := 33) 55 rfl rfl (fun c_48 => ?_) (fun c_48 => ?_)
        · skip
          refine g_iconst h (i := 36) rfl (v := 0) (by rfl) ?_
          exact g_lv [(0, .ref a), (1, .int (nI t)), (3, .int (nI i))] ⟨rfl, rfl, rfl, trivial⟩ (k56 _ ((bI_f (fun q => c_48 ((lg_cmp_eq _ _).mpr ((hS.mp q).2.trans hv.symm)))).symm))
        · skip
          refine g_iconst h (i := 34) rfl (v := 1) (by rfl) ?_
          refine g_goto h (i := 35) 56 rfl rfl ?_
          exact g_lv [(0, .ref a), (1, .int (nI t)), (3, .int (nI i))] ⟨rfl, rfl, rfl, trivial⟩ (k56 _ ((bI_t (hS.mpr ⟨hb, ((lg_cmp_eq _ _).mp c_48).trans hv⟩)).symm))
      refine g_iload_n h (i := 4) rfl rfl ?_
      refine g_bipush h (i := 5) rfl (v := 20) (by rfl) ?_
      refine g_icmp_ge h (i := 6) 63 rfl rfl (fun c_7 => absurd c_7 hnge) (fun c_7 => ?_)
      refine g_iload_n h (i := 7) rfl rfl ?_
      refine g_if_eq h (i := 8) 55 rfl rfl (fun c_11 => ?_) (fun c_11 => ?_)
      · skip
        refine g_iconst h (i := 36) rfl (v := 0) (by rfl) ?_
        exact g_lv [(0, .ref a), (1, .int (nI t)), (3, .int (nI i))] ⟨rfl, rfl, rfl, trivial⟩ (k56 _ ((bI_f (fun q => bI_0.mp c_11 (hS.mp q).1)).symm))
      · skip
        refine g_aload_n h (i := 9) rfl rfl ?_
        refine g_getR h (i := 10) rfl fl_X10_77 (fun _ _ _ => rfl) (lk_R hL) (lr_seen hL) ?_
        refine g_bipush h (i := 11) rfl (v := 20) (by rfl) ?_
        refine g_iload_n h (i := 12) rfl rfl ?_
        refine g_imul h (i := 13) rfl ?_
        refine g_eqi (nI (20 * t)) (pk_mul 20 t) ?_
        refine g_iload_n h (i := 14) rfl rfl ?_
        refine g_iadd h (i := 15) rfl ?_
        refine g_eqi (nI (20 * t + i)) (nI_add (20 * t) i) ?_
        refine g_lald h (i := 16) rfl (lq_seen hL) (vp_in_nI (by omega) (by omega)) ?_
        refine g_eql (sn i) (by rw [nI_clamp (by omega)]; exact (sRow_o (by omega)).trans (hs i hi)) ?_
        refine g_aload_n h (i := 17) rfl rfl ?_
        refine g_getR h (i := 18) rfl fl_X10_7 (fun _ _ _ => rfl) (lk_R hL) (lr_row hL) ?_
        refine g_iload_n h (i := 19) rfl rfl ?_
        refine g_iconst h (i := 20) rfl (v := 4) (by rfl) ?_
        refine g_icmp_ge h (i := 21) 40 rfl rfl (fun c_31 => ?_) (fun c_31 => ?_)
        · skip
          refine g_bipush h (i := 26) rfl (v := 12) (by rfl) ?_
          refine g_iload_n h (i := 27) rfl rfl ?_
          refine g_iadd h (i := 28) rfl ?_
          refine g_iconst h (i := 29) rfl (v := 4) (by rfl) ?_
          refine g_isub h (i := 30) rfl ?_
          exact g_lv [(0, .ref a), (1, .int (nI t)), (3, .int (nI i))] ⟨rfl, rfl, rfl, trivial⟩ (k46 _ (8 + i) (i_124 i) (by omega) (v20_o (i_04 c_31 (by omega))) (bI_1.mp c_11))
        · skip
          refine g_iconst h (i := 22) rfl (v := 0) (by rfl) ?_
          refine g_iload_n h (i := 23) rfl rfl ?_
          refine g_iadd h (i := 24) rfl ?_
          refine g_goto h (i := 25) 46 rfl rfl ?_
          exact g_lv [(0, .ref a), (1, .int (nI t)), (3, .int (nI i))] ⟨rfl, rfl, rfl, trivial⟩ (k46 _ i ((nI_add 0 i).trans (by rw [Nat.zero_add])) (by omega) (v20_s (i_04' c_31 (by omega))) (bI_1.mp c_11))
  refine g_iconst h (i := 0) rfl (v := 1) (by rfl) ?_
  refine g_istore_n h (i := 1) rfl hq rfl ?_
  refine g_iconst h (i := 2) rfl (v := 0) (by rfl) ?_
  refine g_istore_n h (i := 3) rfl hq rfl ?_
  exact g_lv [(0, .ref a), (1, .int (nI t)), (2, .int (bI (eqB sn (v20 r) 0 = true))), (3, .int (nI 0))] ⟨rfl, rfl, rfl, rfl, trivial⟩ (key 20 0 (by omega))
-- goes if going
set_option maxRecDepth 100000 in
set_option maxHeartbeats 4000000 in
theorem ct_X10_goesIfGoing (l : Launch) (E : EE) (w : Wd) (a : Nat) (r : Nat → Int64) (hlo : E.2.2 ≤ wN (sRow w a r)) (hL : LayR w a) (hr : RR r) (hc : CfR (cfW w a)) : Ct l E yX10_goesIfGoing cX10_goesIfGoing 1 none ({ frames := 7, cells := 0, slots := 0, locals := 187 } : Room) [.ref a] (sRow w a r) 0 0 (fun q w2 => q = none ∧ ∃ w3, RS a w w3 ∧ w2 = sRow w3 a (tkG (cfW w a) r)) := by
  refine ct_in (il := il_X10_goesIfGoing) (by decide) dk_X10_goesIfGoing (Nat.le_of_ble_eq_true rfl) hlo ?_
  intro X h hq

  refine g_aload_n h (i := 0) rfl rfl ?_
  refine g_callVx h hq (i := 1) rfl mv_X10_91 cls10 (lk_R hL) (ct_X10_isGoing l E w a r hlo hL) rfl rfl ⟨rfl, rfl, Nat.le_of_ble_eq_true rfl, Nat.le_of_ble_eq_true rfl⟩ (Nat.le_of_ble_eq_true rfl) ⟨Nat.zero_le _, Nat.zero_le _⟩ ?_
  refine g_if_eq h (i := 2) 11 rfl rfl (fun c_4 => ?_) (fun c_4 => ?_)
  · skip
    exact g_vret hq h (i := 5) rfl (⟨rfl, w, RS_r a w, by unfold tkG; rw [if_neg (bI_0.mp c_4)]⟩)
  · skip
    refine g_aload_n h (i := 3) rfl rfl ?_
    refine g_callVp (w0 := w) h hq (i := 4) rfl mv_X10_255 cls10 (lk_R hL) (ct_X10_ticks l E w a r hlo hL hr hc (bI_1.mp c_4)) rfl rfl ⟨rfl, rfl, Nat.le_of_ble_eq_true rfl, Nat.le_of_ble_eq_true rfl⟩ (Nat.le_of_ble_eq_true rfl) ⟨Nat.zero_le _, Nat.zero_le _⟩ (fun r8 w8 hp8 => ?_)
    obtain ⟨rfl, w3, hRS, rfl⟩ := hp8
    exact g_vret hq h (i := 5) rfl (⟨rfl, w3, hRS, by unfold tkG; rw [if_pos (bI_1.mp c_4)]⟩)
