/-- n ticks, while it goes -/
def tickN (cf : Nat → Nat → Int32) : Nat → (Nat → Int64) → (Nat → Int64)
  | 0, r => r
  | n + 1, r => if r 28 = 1 then tickN cf n (ticksR cf r) else r
def tickA (cf : Nat → Nat → Int32) (v : Int32) (r : Nat → Int64) : Int32 × (Nat → Int64) := if 1 ≤ v ∧ v ≤ 200 then ((tickN cf (pI v) r 28).toInt32, tickN cf (pI v) r) else (-2, r)
theorem rr_tickN {cf : Nat → Nat → Int32} (hc : CfR cf) : ∀ (n : Nat) (r : Nat → Int64), RR r → RR (tickN cf n r)
  | 0, _, h => h
  | n + 1, r, h => by
    unfold tickN
    exact rr_ite (fun q => rr_tickN hc n _ (rr_ticks hc h q)) (fun _ => h)
theorem isI_of {v : Int32} {lo hi : Int32} (h : lo ≤ v ∧ v ≤ hi) (h0 : 0 ≤ lo.toInt) : v = nI (pI v) ∧ (pI v : Int) = v.toInt := by
  have a := i32le.mp h.1
  have b := i32b v
  have e : (pI v : Int) = v.toInt := by unfold pI; omega
  exact ⟨i32x (by rw [nIT (by omega)]; exact e.symm), e⟩
-- ticks
set_option maxRecDepth 100000 in
set_option maxHeartbeats 4000000 in
theorem ct_X10_tick (l : Launch) (E : EE) (w : Wd) (a : Nat) (r : Nat → Int64) (v : Int32) (hlo : E.2.2 ≤ wN (sRow w a r)) (hL : LayR w a) (hr : RR r) (hc : CfR (cfW w a)) : Ct l E yX10_tick cX10_tick 3 (some .int) ({ frames := 7, cells := 0, slots := 0, locals := 187 } : Room) [.ref a, .int v] (sRow w a r) 0 0 (fun q w2 => ∃ w3, RS a w w3 ∧ q = some (.int (tickA (cfW w a) v r).1) ∧ w2 = sRow w3 a (tickA (cfW w a) v r).2) := by
  refine ct_in (il := il_X10_tick) (by decide) dk_X10_tick (Nat.le_of_ble_eq_true rfl) hlo ?_
  intro X h hq

  obtain ⟨cf, hcf⟩ : ∃ cf, cf = cfW w a := ⟨_, rfl⟩
  rw [← hcf] at hq hc
  have loop : (1 ≤ v ∧ v ≤ 200) → ∀ (d i : Nat) (w3 : Wd) (q : Nat → Int64), i + d = pI v → RS a w w3 → RR q → tickN cf d q = tickN cf (pI v) r → G X 0 0 16 (lf [(0, .ref a), (1, .int v), (2, .int (nI i))]) [] (sRow w3 a q) := by
    intro hv
    obtain ⟨v1, v2⟩ := isI_of hv (by decide)
    have v3 : pI v ≤ 200 := by have := i32le.mp hv.2; rw [← v2] at this; have e : (200 : Int32).toInt = 200 := rfl; omega
    have fin : ∀ (w3 : Wd), RS a w w3 → G X 0 0 38 (lf [(0, .ref a)]) [] (sRow w3 a (tickN cf (pI v) r)) := by
      intro w3 hRS
      have hL3 := (RS_L hRS).1 a hL
      have hL := hL3
      have hlo3 : E.2.2 ≤ wN w3 := by rw [(RS_L hRS).2.1]; exact hlo
      refine g_aload_n h (i := 19) rfl rfl ?_
      refine g_bipush h (i := 20) rfl (v := 28) (by rfl) ?_
      refine g_callVx h hq (i := 21) rfl mv_X10_97 cls10 (lk_R hL) (ct_X10_rowAt l E w3 a 28 _ _ hlo3 hL (vpD (by decide)) (by rfl)) rfl rfl ⟨rfl, rfl, Nat.le_of_ble_eq_true rfl, Nat.le_of_ble_eq_true rfl⟩ (Nat.le_of_ble_eq_true rfl) ⟨Nat.zero_le _, Nat.zero_le _⟩ ?_
      exact g_iret hq h (i := 22) rfl (⟨w3, hRS, by unfold tickA; rw [if_pos hv], by unfold tickA; rw [if_pos hv]⟩)
    intro d
    induction d with
    | zero =>
      intro i w3 q hi hRS hq0 hg
      have hi4 : i = pI v := by omega
      have hqe : q = tickN cf (pI v) r := hg
      refine g_iload_n h (i := 9) rfl rfl ?_
      refine g_iload_n h (i := 10) rfl rfl ?_
      refine g_icmp_ge h (i := 11) 38 rfl rfl (fun c_18 => ?_) (fun c_18 => absurd (show v ≤ nI i by rw [hi4, ← v1]; exact Int32.le_refl _) c_18)
      rw [hqe]
      exact g_lv [(0, .ref a)] ⟨rfl, trivial⟩ (fin w3 hRS)
    | succ d ih =>
      intro i w3 q hi hRS hq0 hg
      have hL3 := (RS_L hRS).1 a hL
      have hL0 := hL
      have hL := hL3
      have hI : cfW w3 a = cf := by rw [RS_cf hRS, hcf]
      have hlo3 : E.2.2 ≤ wN w3 := by rw [(RS_L hRS).2.1]; exact hlo
      have hnge : ¬ v ≤ nI i := fun z => by rw [v1] at z; exact absurd z (nI_ge (by omega) (by omega))
      refine g_iload_n h (i := 9) rfl rfl ?_
      refine g_iload_n h (i := 10) rfl rfl ?_
      refine g_icmp_ge h (i := 11) 38 rfl rfl (fun c_18 => absurd c_18 hnge) (fun c_18 => ?_)
      refine g_aload_n h (i := 12) rfl rfl ?_
      refine g_callVx h hq (i := 13) rfl mv_X10_91 cls10 (lk_R hL) (ct_X10_isGoing l E w3 a q hlo3 hL) rfl rfl ⟨rfl, rfl, Nat.le_of_ble_eq_true rfl, Nat.le_of_ble_eq_true rfl⟩ (Nat.le_of_ble_eq_true rfl) ⟨Nat.zero_le _, Nat.zero_le _⟩ ?_
      refine g_if_eq h (i := 14) 38 rfl rfl (fun c_25 => ?_) (fun c_25 => ?_)
      · skip
        have hqe : q = tickN cf (pI v) r := by rw [← hg]; exact (if_neg (bI_0.mp c_25)).symm
        rw [hqe]
        exact g_lv [(0, .ref a)] ⟨rfl, trivial⟩ (fin w3 hRS)
      · skip
        refine g_aload_n h (i := 15) rfl rfl ?_
        refine g_callVp (w0 := w) h hq (i := 16) rfl mv_X10_255 cls10 (lk_R hL) (ct_X10_ticks l E w3 a q hlo3 hL hq0 (by rw [hI]; exact hc) (bI_1.mp c_25)) rfl rfl ⟨rfl, rfl, Nat.le_of_ble_eq_true rfl, Nat.le_of_ble_eq_true rfl⟩ (Nat.le_of_ble_eq_true rfl) ⟨Nat.zero_le _, Nat.zero_le _⟩ (fun r29 w29 hp29 => ?_)
        obtain ⟨rfl, w4, hRS4, rfl⟩ := hp29
        rw [hI]
        refine g_iinc h (i := 17) rfl rfl (dv := 1) (by rfl) ?_
        refine g_goto h (i := 18) 16 rfl rfl ?_
        exact g_lv [(0, .ref a), (1, .int v), (2, .int (nI (i + 1)))] ⟨rfl, rfl, congrArg (fun z => some (Value.int z)) (nI_1 i), trivial⟩ (ih (i + 1) w4 _ (by omega) (RS_t hRS hRS4) (rr_ticks hc hq0 (bI_1.mp c_25)) (by rw [← hg]; exact (if_pos (bI_1.mp c_25)).symm))
  refine g_iload_n h (i := 0) rfl rfl ?_
  refine g_iconst h (i := 1) rfl (v := 1) (by rfl) ?_
  refine g_sipush h (i := 2) rfl (v := 200) (by rfl) ?_
  refine g_callSx h hq (i := 3) rfl ms_X10_82 (ct_X10_in l E _ v 1 200 hlo) rfl rfl ⟨rfl, rfl, Nat.le_of_ble_eq_true rfl, Nat.le_of_ble_eq_true rfl⟩ (Nat.le_of_ble_eq_true rfl) ⟨Nat.zero_le _, Nat.zero_le _⟩ ?_
  refine g_if_ne h (i := 4) 14 rfl rfl (fun c_8 => ?_) (fun c_8 => ?_)
  · skip
    refine g_iconst h (i := 7) rfl (v := 0) (by rfl) ?_
    refine g_istore_n h (i := 8) rfl hq rfl ?_
    exact g_lv [(0, .ref a), (1, .int v), (2, .int (nI 0))] ⟨rfl, rfl, rfl, trivial⟩ (loop (bI_1.mp c_8) (pI v) 0 w r (by omega) (RS_r a w) hr rfl)
  · skip
    refine g_bipush h (i := 5) rfl (v := -2) (by rfl) ?_
    exact g_iret hq h (i := 6) rfl (⟨w, RS_r a w, by unfold tickA; rw [if_neg (bI_0.mp c_8)], by unfold tickA; rw [if_neg (bI_0.mp c_8)]⟩)
