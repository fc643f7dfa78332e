def runF : Nat → Int64 := fun j => if j = 19 ∨ j = 20 ∨ j = 21 then -1 else 0
def runR (r : Nat → Int64) : Nat → Int64 := setn (setn (setn (up1 r 28 1) 29 runF 22) 12 (fun _ => 0) 8) 20 (fun _ => 0) 8
def rnS (cf : Nat → Nat → Int32) (r : Nat → Int64) : St := if r 28 = 1 then (.int (-3), cf, r) else (.int 1, cf, runR r)
theorem nIx {x y : Nat} (hx : x < 2147483648) (hy : y < 2147483648) : nI x = nI y ↔ x = y := ⟨fun h => by have := congrArg Int32.toInt h; rw [nIT hx, nIT hy] at this; omega, fun h => by rw [h]⟩
-- run
set_option maxRecDepth 100000 in
set_option maxHeartbeats 4000000 in
theorem ct_X10_run (l : Launch) (E : EE) (w : Wd) (a : Nat) (r : Nat → Int64) (hlo : E.2.2 ≤ wN (sRow w a r)) (hL : LayR w a) : Ct l E yX10_run cX10_run 2 (some .int) ({ frames := 1, cells := 0, slots := 0, locals := 20 } : Room) [.ref a] (sRow w a r) 0 0 (PS a w (rnS (cfW w a) r)) := by
  refine ct_in (il := il_X10_run) (by decide) dk_X10_run (Nat.le_of_ble_eq_true rfl) hlo ?_
  intro X h hq

  obtain ⟨z8, hz8⟩ : ∃ z8 : Nat → Int64, z8 = fun _ => 0 := ⟨_, rfl⟩
  obtain ⟨R, hR⟩ : ∃ R, R = setn (up1 r 28 1) 29 runF 22 := ⟨_, rfl⟩
  have k66 : ¬ r 28 = 1 → ∀ (d i : Nat), i + d = 8 → G X 0 0 66 (lf [(0, .ref a), (1, .int (nI i))]) [] (sRow w a (setn (setn R 12 z8 i) 20 z8 i)) := by
    intro hr0 d
    induction d with
    | zero =>
      intro i hi
      have hi4 : i = 8 := by omega
      subst hi4
      refine g_iload_n h (i := 35) rfl rfl ?_
      refine g_bipush h (i := 36) rfl (v := 8) (by rfl) ?_
      refine g_icmp_ge h (i := 37) 98 rfl rfl (fun c_69 => ?_) (fun c_69 => absurd (by decide : (8 : Int32) ≤ nI 8) c_69)
      refine g_iconst h (i := 54) rfl (v := 1) (by rfl) ?_
      exact g_iret hq h (i := 55) rfl (by unfold rnS; rw [if_neg hr0]; exact ⟨rfl, by rw [hR, hz8]; exact ri_0⟩)
    | succ d ih =>
      intro i hid
      have hi : i < 8 := by omega
      have hnge : ¬ (8 : Int32) ≤ nI i := nI_ge (b := 8) hi (by omega)
      have s1 : up1 (setn (setn R 12 z8 i) 20 z8 i) (12 + i) 0 = setn (setn R 12 z8 (i + 1)) 20 z8 i := by rw [setn_u (by omega), setn_1 _ _ _ _ (by rw [hz8])]
      have s2 : up1 (setn (setn R 12 z8 (i + 1)) 20 z8 i) (20 + i) 0 = setn (setn R 12 z8 (i + 1)) 20 z8 (i + 1) := setn_1 _ _ _ _ (by rw [hz8])
      refine g_iload_n h (i := 35) rfl rfl ?_
      refine g_bipush h (i := 36) rfl (v := 8) (by rfl) ?_
      refine g_icmp_ge h (i := 37) 98 rfl rfl (fun c_69 => absurd c_69 hnge) (fun c_69 => ?_)
      refine g_aload_n h (i := 38) rfl rfl ?_
      refine g_getR h (i := 39) rfl fl_X10_7 (fun _ _ _ => rfl) (lk_R hL) (lr_row hL) ?_
      refine g_bipush h (i := 40) rfl (v := 12) (by rfl) ?_
      refine g_iload_n h (i := 41) rfl rfl ?_
      refine g_iadd h (i := 42) rfl ?_
      refine g_eqi (nI (12 + i)) (nI_add 12 i) ?_
      refine g_lconst h (i := 43) rfl (v := 0) (by rfl) ?_
      refine g_last h (i := 44) rfl (lq_row hL) (vp_in_nI (by omega) (by omega)) ?_
      refine g_w _ (sRow_ux _ _ _ _ (n := 12 + i) (nI_clamp (by omega))) ?_
      refine g_w (sRow w a (setn (setn R 12 z8 (i + 1)) 20 z8 i)) (by rw [← s1]) ?_
      refine g_aload_n h (i := 45) rfl rfl ?_
      refine g_getR h (i := 46) rfl fl_X10_7 (fun _ _ _ => rfl) (lk_R hL) (lr_row hL) ?_
      refine g_bipush h (i := 47) rfl (v := 20) (by rfl) ?_
      refine g_iload_n h (i := 48) rfl rfl ?_
      refine g_iadd h (i := 49) rfl ?_
      refine g_eqi (nI (20 + i)) (nI_add 20 i) ?_
      refine g_lconst h (i := 50) rfl (v := 0) (by rfl) ?_
      refine g_last h (i := 51) rfl (lq_row hL) (vp_in_nI (by omega) (by omega)) ?_
      refine g_w _ (sRow_ux _ _ _ _ (n := 20 + i) (nI_clamp (by omega))) ?_
      refine g_w (sRow w a (setn (setn R 12 z8 (i + 1)) 20 z8 (i + 1))) (by rw [← s2]) ?_
      refine g_iinc h (i := 52) rfl rfl (dv := 1) (by rfl) ?_
      refine g_goto h (i := 53) 66 rfl rfl ?_
      exact g_lv [(0, .ref a), (1, .int (nI (i + 1)))] ⟨rfl, congrArg (fun z => some (Value.int z)) (nI_1 i), trivial⟩ (ih (i + 1) (by omega))
  have k21 : ¬ r 28 = 1 → ∀ (d i : Nat), i + d = 22 → G X 0 0 21 (lf [(0, .ref a), (1, .int (nI (29 + i)))]) [] (sRow w a (setn (up1 r 28 1) 29 runF i)) := by
    intro hr0 d
    induction d with
    | zero =>
      intro i hi
      have hi4 : i = 22 := by omega
      subst hi4
      refine g_iload_n h (i := 12) rfl rfl ?_
      refine g_bipush h (i := 13) rfl (v := 51) (by rfl) ?_
      refine g_icmp_ge h (i := 14) 64 rfl rfl (fun c_24 => ?_) (fun c_24 => absurd (by decide : (51 : Int32) ≤ nI 51) c_24)
      refine g_iconst h (i := 33) rfl (v := 0) (by rfl) ?_
      refine g_istore_n h (i := 34) rfl hq rfl ?_
      exact g_lv [(0, .ref a), (1, .int (nI 0))] ⟨rfl, rfl, trivial⟩ (by have := k66 hr0 8 0 (by omega); rw [setn_0, setn_0, hR] at this; exact this)
    | succ d ih =>
      intro i hid
      have hi : i < 22 := by omega
      have hnge : ¬ (51 : Int32) ≤ nI (29 + i) := nI_ge (b := 51) (by omega) (by omega)
      have x48 : nI (29 + i) = 48 ↔ i = 19 := (nIx (y := 48) (by omega) (by omega)).trans (by omega)
      have x49 : nI (29 + i) = 49 ↔ i = 20 := (nIx (y := 49) (by omega) (by omega)).trans (by omega)
      have x50 : nI (29 + i) = 50 ↔ i = 21 := (nIx (y := 50) (by omega) (by omega)).trans (by omega)
      have k57 : ∀ v : Int64, v = runF i → G X 0 0 57 (lf [(0, .ref a), (1, .int (nI (29 + i)))]) [.long v, .int (nI (29 + i)), .ref (a + 1)] (sRow w a (setn (up1 r 28 1) 29 runF i)) := by
        intro v hv
        refine g_last h (i := 30) rfl (lq_row hL) (vp_in_nI (by omega) (by omega)) ?_
        refine g_w _ (sRow_ux _ _ _ _ (n := 29 + i) (nI_clamp (by omega))) ?_
        refine g_w (sRow w a (setn (up1 r 28 1) 29 runF (i + 1))) (by rw [setn_1 _ _ _ _ hv]) ?_
        refine g_iinc h (i := 31) rfl rfl (dv := 1) (by rfl) ?_
        refine g_goto h (i := 32) 21 rfl rfl ?_
        exact g_lv [(0, .ref a), (1, .int (nI (29 + (i + 1))))] ⟨rfl, congrArg (fun z => some (Value.int z)) (nI_1 (29 + i)), trivial⟩ (ih (i + 1) (by omega))
      refine g_iload_n h (i := 12) rfl rfl ?_
      refine g_bipush h (i := 13) rfl (v := 51) (by rfl) ?_
      refine g_icmp_ge h (i := 14) 64 rfl rfl (fun c_24 => absurd c_24 hnge) (fun c_24 => ?_)
      refine g_aload_n h (i := 15) rfl rfl ?_
      refine g_getR h (i := 16) rfl fl_X10_7 (fun _ _ _ => rfl) (lk_R hL) (lr_row hL) ?_
      refine g_iload_n h (i := 17) rfl rfl ?_
      refine g_iload_n h (i := 18) rfl rfl ?_
      refine g_bipush h (i := 19) rfl (v := 48) (by rfl) ?_
      refine g_icmp_eq h (i := 20) 50 rfl rfl (fun c_35 => ?_) (fun c_35 => ?_)
      · skip
        refine g_ldc2 h (i := 27) rfl k_X10_80 ?_
        refine g_goto h (i := 28) 57 rfl rfl ?_
        exact g_lv [(0, .ref a), (1, .int (nI (29 + i)))] ⟨rfl, rfl, trivial⟩ (k57 _ (by unfold runF; rw [if_pos (Or.inl (x48.mp c_35))]))
      · skip
        refine g_iload_n h (i := 21) rfl rfl ?_
        refine g_bipush h (i := 22) rfl (v := 49) (by rfl) ?_
        refine g_icmp_eq h (i := 23) 50 rfl rfl (fun c_41 => ?_) (fun c_41 => ?_)
        · skip
          refine g_ldc2 h (i := 27) rfl k_X10_80 ?_
          refine g_goto h (i := 28) 57 rfl rfl ?_
          exact g_lv [(0, .ref a), (1, .int (nI (29 + i)))] ⟨rfl, rfl, trivial⟩ (k57 _ (by unfold runF; rw [if_pos (Or.inr (Or.inl (x49.mp c_41)))]))
        · skip
          refine g_iload_n h (i := 24) rfl rfl ?_
          refine g_bipush h (i := 25) rfl (v := 50) (by rfl) ?_
          refine g_icmp_ne h (i := 26) 56 rfl rfl (fun c_47 => ?_) (fun c_47 => ?_)
          · skip
            refine g_lconst h (i := 29) rfl (v := 0) (by rfl) ?_
            exact g_lv [(0, .ref a), (1, .int (nI (29 + i)))] ⟨rfl, rfl, trivial⟩ (k57 _ (by unfold runF; rw [if_neg (fun q => q.elim (fun q => c_35 (x48.mpr q)) (fun q => q.elim (fun q => c_41 (x49.mpr q)) (fun q => c_47 (x50.mpr q))))]))
          · skip
            refine g_ldc2 h (i := 27) rfl k_X10_80 ?_
            refine g_goto h (i := 28) 57 rfl rfl ?_
            exact g_lv [(0, .ref a), (1, .int (nI (29 + i)))] ⟨rfl, rfl, trivial⟩ (k57 _ (by unfold runF; rw [if_pos (Or.inr (Or.inr (x50.mp c_47)))]))
  refine g_aload_n h (i := 0) rfl rfl ?_
  refine g_callVx h hq (i := 1) rfl mv_X10_91 cls10 (lk_R hL) (ct_X10_isGoing l E w a r hlo hL) rfl rfl ⟨rfl, rfl, Nat.le_of_ble_eq_true rfl, Nat.le_of_ble_eq_true rfl⟩ (Nat.le_of_ble_eq_true rfl) ⟨Nat.zero_le _, Nat.zero_le _⟩ ?_
  refine g_if_eq h (i := 2) 10 rfl rfl (fun c_4 => ?_) (fun c_4 => ?_)
  · skip
    refine g_aload_n h (i := 5) rfl rfl ?_
    refine g_getR h (i := 6) rfl fl_X10_7 (fun _ _ _ => rfl) (lk_R hL) (lr_row hL) ?_
    refine g_bipush h (i := 7) rfl (v := 28) (by rfl) ?_
    refine g_lconst h (i := 8) rfl (v := 1) (by rfl) ?_
    refine g_last h (i := 9) rfl (lq_row hL) (vpD (by decide)) ?_
    refine g_w _ (sRow_ux _ _ _ _ (n := 28) (by rfl)) ?_
    refine g_bipush h (i := 10) rfl (v := 29) (by rfl) ?_
    refine g_istore_n h (i := 11) rfl hq rfl ?_
    exact g_lv [(0, .ref a), (1, .int (nI 29))] ⟨rfl, rfl, trivial⟩ (by have := k21 (bI_0.mp c_4) 22 0 (by omega); rw [setn_0] at this; exact this)
  · skip
    refine g_bipush h (i := 3) rfl (v := -3) (by rfl) ?_
    exact g_iret hq h (i := 4) rfl (by unfold rnS; rw [if_pos (bI_1.mp c_4)]; exact ⟨rfl, ri_0⟩)
