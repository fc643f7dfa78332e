theorem cf_I (w : Wd) (m f k : Nat) (v : Int32) : cfW (sI w (m + f) k v) m = up2 (cfW w m) f k v := by
  funext g y
  show up2 (wI w) (m + f) k v (m + g) y = up2 (cfW w m) f k v g y
  unfold up2
  by_cases e : g = f
  · subst e
    by_cases e2 : y = k
    · rw [if_pos ⟨rfl, e2⟩, if_pos ⟨rfl, e2⟩]
    · rw [if_neg (fun q => e2 q.2), if_neg (fun q => e2 q.2)]; rfl
  · rw [if_neg (fun q => e (by omega)), if_neg (fun q => e q.1)]; rfl
theorem cf_0 (w : Wd) (m k : Nat) (v : Int32) : cfW (sI w m k v) m = up2 (cfW w m) 0 k v := cf_I w m 0 k v
/-- a motion, in the window of its moment -/
def MotV (M : Nat → Nat → Int32) (r : Nat → Int64) : Prop := M 7 2 = (r 59).toInt32 ∧ M 7 3 = (r 62).toInt32 ∧ M 7 4 = (r 61).toInt32 ∧ M 7 5 = (r 60).toInt32 ∧ ∀ j, j < 4 → M 8 j = (r (51 + j)).toInt32 ∧ M 9 j = (r (55 + j)).toInt32 - (r (51 + j)).toInt32
/-- a moment's window holds a row -/
def RepV (M : Nat → Nat → Int32) (T r : Nat → Int64) : Prop := M 0 7 = (r 32).toInt32 ∧ M 0 8 = (r 28).toInt32 ∧ M 0 9 = (r 29).toInt32 ∧ M 0 10 = (r 30).toInt32 ∧ M 0 11 = (r 31).toInt32 ∧ M 0 12 = (r 45).toInt32 ∧ M 0 13 = (r 47).toInt32 ∧ M 0 14 = bI (r 46 = 1) ∧ M 0 15 = (r 48).toInt32 ∧ M 0 16 = (r 49).toInt32 ∧ (r 46 = 1 → M 0 17 = (r 50).toInt32) ∧ (∀ j, j < 4 → M 1 j = (r j).toInt32) ∧ (∀ j, j < 4 → T j = r (64 + j)) ∧ (∀ i, i < 8 → M 3 i = (r (4 + i)).toInt32) ∧ (∀ i, i < 8 → M 4 i = (r (12 + i)).toInt32) ∧ (∀ i, i < 8 → M 5 i = (r (20 + i)).toInt32) ∧ (∀ i, i < 12 → i < pN (r 32) → M 6 i = (r (33 + i)).toInt32) ∧ (r 46 = 1 → MotV M r)
def dropW (w : Wd) (m : Nat) : Wd := sI (sI w m 14 0) m 13 0
def passW (w : Wd) (m : Nat) : Wd := sI (dropW w m) m 10 (wI w m 10 + 1)
def endW (w : Wd) (m : Nat) (x : Int32) : Wd := sI (sI w m 8 2) m 10 x
def stopW (w : Wd) (m : Nat) (e : Int32) : Wd := dropW (sI (sI w m 8 3) m 11 e) m
def spendW (w : Wd) (m : Nat) : Wd := if wI w m 13 - 1 ≤ 0 then passW (sI w m 13 (wI w m 13 - 1)) m else sI w m 13 (wI w m 13 - 1)
-- drop
set_option maxRecDepth 100000 in
set_option maxHeartbeats 4000000 in
theorem ct_X3_dropWhatIsUnderWay (l : Launch) (E : EE) (w : Wd) (m : Nat) (hlo : E.2.2 ≤ wN w) (hM : LayM w m) : Ct l E yX3_dropWhatIsUnderWay cX3_dropWhatIsUnderWay 1 none ({ frames := 0, cells := 0, slots := 0, locals := 0 } : Room) [.ref m] w 0 0 (Px none (dropW w m)) := by
  refine ct_in (il := il_X3_dropWhatIsUnderWay) (by decide) dk_X3_dropWhatIsUnderWay (Nat.le_of_ble_eq_true rfl) hlo ?_
  intro X h hq

  refine g_aload_n h (i := 0) rfl rfl ?_
  refine g_iconst h (i := 1) rfl (v := 0) (by rfl) ?_
  refine g_putI_0 h (i := 2) rfl fl_X3_67 nf_3_14 (fun _ _ _ => rfl) (lk_M hM) (rfl) (by rfl) ?_
  refine g_aload_n h (i := 3) rfl rfl ?_
  refine g_iconst h (i := 4) rfl (v := 0) (by rfl) ?_
  refine g_putI_0 h (i := 5) rfl fl_X3_71 nf_3_13 (fun _ _ _ => rfl) (lk_M hM) (rfl) (by rfl) ?_
  exact g_vret hq h (i := 6) rfl (⟨rfl, rfl⟩)
-- pass
set_option maxRecDepth 100000 in
set_option maxHeartbeats 4000000 in
theorem ct_X3_passLine (l : Launch) (E : EE) (w : Wd) (m : Nat) (hlo : E.2.2 ≤ wN w) (hM : LayM w m) : Ct l E yX3_passLine cX3_passLine 1 none ({ frames := 1, cells := 0, slots := 0, locals := 20 } : Room) [.ref m] w 0 0 (Px none (passW w m)) := by
  refine ct_in (il := il_X3_passLine) (by decide) dk_X3_passLine (Nat.le_of_ble_eq_true rfl) hlo ?_
  intro X h hq

  refine g_aload_n h (i := 0) rfl rfl ?_
  refine g_callVn h hq (i := 1) rfl mv_X3_74 cls3 (lk_M hM) (ct_X3_dropWhatIsUnderWay l E w m hlo hM) rfl rfl ⟨rfl, rfl, Nat.le_of_ble_eq_true rfl, Nat.le_of_ble_eq_true rfl⟩ (Nat.le_of_ble_eq_true rfl) ⟨Nat.zero_le _, Nat.zero_le _⟩ ?_
  refine g_aload_n h (i := 2) rfl rfl ?_
  refine g_dup h (i := 3) rfl rfl ?_
  refine g_getI h (i := 4) rfl fl_X3_55 (fun _ _ _ => rfl) (lk_M hM) ?_
  refine g_eqi (wI w m 10) ((up2_k (by decide)).trans (up2_k (by decide))) ?_
  refine g_iconst h (i := 5) rfl (v := 1) (by rfl) ?_
  refine g_iadd h (i := 6) rfl ?_
  refine g_putI_0 h (i := 7) rfl fl_X3_55 nf_3_10 (fun _ _ _ => rfl) (lk_M hM) (rfl) (by rfl) ?_
  exact g_vret hq h (i := 8) rfl (⟨rfl, rfl⟩)
-- end
set_option maxRecDepth 100000 in
set_option maxHeartbeats 4000000 in
theorem ct_X3_end (l : Launch) (E : EE) (w : Wd) (m : Nat) (x : Int32) (hlo : E.2.2 ≤ wN w) (hM : LayM w m) : Ct l E yX3_end cX3_end 2 none ({ frames := 0, cells := 0, slots := 0, locals := 0 } : Room) [.ref m, .int x] w 0 0 (Px none (endW w m x)) := by
  refine ct_in (il := il_X3_end) (by decide) dk_X3_end (Nat.le_of_ble_eq_true rfl) hlo ?_
  intro X h hq

  refine g_aload_n h (i := 0) rfl rfl ?_
  refine g_iconst h (i := 1) rfl (v := 2) (by rfl) ?_
  refine g_putI_0 h (i := 2) rfl fl_X3_39 nf_3_8 (fun _ _ _ => rfl) (lk_M hM) (rfl) (by rfl) ?_
  refine g_aload_n h (i := 3) rfl rfl ?_
  refine g_iload_n h (i := 4) rfl rfl ?_
  refine g_putI_0 h (i := 5) rfl fl_X3_55 nf_3_10 (fun _ _ _ => rfl) (lk_M hM) (rfl) (by rfl) ?_
  exact g_vret hq h (i := 6) rfl (⟨rfl, rfl⟩)
-- stop by
set_option maxRecDepth 100000 in
set_option maxHeartbeats 4000000 in
theorem ct_X3_stopBy (l : Launch) (E : EE) (w : Wd) (m : Nat) (x : Int32) (hlo : E.2.2 ≤ wN w) (hM : LayM w m) : Ct l E yX3_stopBy cX3_stopBy 2 none ({ frames := 1, cells := 0, slots := 0, locals := 20 } : Room) [.ref m, .int x] w 0 0 (Px none (stopW w m x)) := by
  refine ct_in (il := il_X3_stopBy) (by decide) dk_X3_stopBy (Nat.le_of_ble_eq_true rfl) hlo ?_
  intro X h hq

  refine g_aload_n h (i := 0) rfl rfl ?_
  refine g_iconst h (i := 1) rfl (v := 3) (by rfl) ?_
  refine g_putI_0 h (i := 2) rfl fl_X3_39 nf_3_8 (fun _ _ _ => rfl) (lk_M hM) (rfl) (by rfl) ?_
  refine g_aload_n h (i := 3) rfl rfl ?_
  refine g_iload_n h (i := 4) rfl rfl ?_
  refine g_putI_0 h (i := 5) rfl fl_X3_58 nf_3_11 (fun _ _ _ => rfl) (lk_M hM) (rfl) (by rfl) ?_
  refine g_aload_n h (i := 6) rfl rfl ?_
  refine g_callVn h hq (i := 7) rfl mv_X3_74 cls3 (lk_M hM) (ct_X3_dropWhatIsUnderWay l E _ m hlo hM) rfl rfl ⟨rfl, rfl, Nat.le_of_ble_eq_true rfl, Nat.le_of_ble_eq_true rfl⟩ (Nat.le_of_ble_eq_true rfl) ⟨Nat.zero_le _, Nat.zero_le _⟩ ?_
  exact g_vret hq h (i := 8) rfl (⟨rfl, rfl⟩)
-- spend
set_option maxRecDepth 100000 in
set_option maxHeartbeats 4000000 in
theorem ct_X3_spendTick (l : Launch) (E : EE) (w : Wd) (m : Nat) (hlo : E.2.2 ≤ wN w) (hM : LayM w m) : Ct l E yX3_spendTick cX3_spendTick 1 none ({ frames := 2, cells := 0, slots := 0, locals := 40 } : Room) [.ref m] w 0 0 (Px none (spendW w m)) := by
  refine ct_in (il := il_X3_spendTick) (by decide) dk_X3_spendTick (Nat.le_of_ble_eq_true rfl) hlo ?_
  intro X h hq

  refine g_aload_n h (i := 0) rfl rfl ?_
  refine g_dup h (i := 1) rfl rfl ?_
  refine g_getI h (i := 2) rfl fl_X3_71 (fun _ _ _ => rfl) (lk_M hM) ?_
  refine g_iconst h (i := 3) rfl (v := 1) (by rfl) ?_
  refine g_isub h (i := 4) rfl ?_
  refine g_putI_0 h (i := 5) rfl fl_X3_71 nf_3_13 (fun _ _ _ => rfl) (lk_M hM) (rfl) (by rfl) ?_
  refine g_aload_n h (i := 6) rfl rfl ?_
  refine g_getI h (i := 7) rfl fl_X3_71 (fun _ _ _ => rfl) (lk_M hM) ?_
  refine g_eqi (wI w m 13 - 1) (up2_s _ _ _ _) ?_
  refine g_if_gt h (i := 8) 21 rfl rfl (fun c_14 => ?_) (fun c_14 => ?_)
  · skip
    exact g_vret hq h (i := 11) rfl (⟨rfl, by unfold spendW; rw [if_neg (i32nl.mpr c_14)]⟩)
  · skip
    refine g_aload_n h (i := 9) rfl rfl ?_
    refine g_callVn h hq (i := 10) rfl mv_X3_77 cls3 (lk_M hM) (ct_X3_passLine l E _ m hlo hM) rfl rfl ⟨rfl, rfl, Nat.le_of_ble_eq_true rfl, Nat.le_of_ble_eq_true rfl⟩ (Nat.le_of_ble_eq_true rfl) ⟨Nat.zero_le _, Nat.zero_le _⟩ ?_
    exact g_vret hq h (i := 11) rfl (⟨rfl, by unfold spendW; rw [if_pos (i32nlt.mp c_14)]⟩)
-- allows
set_option maxRecDepth 100000 in
set_option maxHeartbeats 4000000 in
theorem ct_X2_allows (l : Launch) (E : EE) (w : Wd) (j : Nat) (x : Int32) (hlo : E.2.2 ≤ wN w) (hJ : wK w j = some (.inl 2)) : Ct l E yX2_allows cX2_allows 2 (some .boolean) ({ frames := 0, cells := 0, slots := 0, locals := 0 } : Room) [.ref j, .int x] w 0 0 (Px (some (.int (bI (wI w j 2 ≤ x ∧ x ≤ wI w j 3)))) w) := by
  refine ct_in (il := il_X2_allows) (by decide) dk_X2_allows (Nat.le_of_ble_eq_true rfl) hlo ?_
  intro X h hq

  refine g_aload_n h (i := 0) rfl rfl ?_
  refine g_getI h (i := 1) rfl fl_X2_17 (fun _ _ _ => rfl) hJ ?_
  refine g_iload_n h (i := 2) rfl rfl ?_
  refine g_icmp_gt h (i := 3) 20 rfl rfl (fun c_5 => ?_) (fun c_5 => ?_)
  · skip
    refine g_iconst h (i := 10) rfl (v := 0) (by rfl) ?_
    exact g_zret hq h (i := 11) rfl (rfl) (⟨rF (fun q => absurd q.1 (i32nl.mpr c_5)), rfl⟩)
  · skip
    refine g_iload_n h (i := 4) rfl rfl ?_
    refine g_aload_n h (i := 5) rfl rfl ?_
    refine g_getI h (i := 6) rfl fl_X2_21 (fun _ _ _ => rfl) hJ ?_
    refine g_icmp_gt h (i := 7) 20 rfl rfl (fun c_13 => ?_) (fun c_13 => ?_)
    · skip
      refine g_iconst h (i := 10) rfl (v := 0) (by rfl) ?_
      exact g_zret hq h (i := 11) rfl (rfl) (⟨rF (fun q => absurd q.2 (i32nl.mpr c_13)), rfl⟩)
    · skip
      refine g_iconst h (i := 8) rfl (v := 1) (by rfl) ?_
      refine g_goto h (i := 9) 21 rfl rfl ?_
      exact g_zret hq h (i := 11) rfl (rfl) (⟨rT ⟨i32nlt.mp c_5, i32nlt.mp c_13⟩, rfl⟩)
def tellW (w : Wd) (b : Nat) (x0 y0 x1 y1 : Int32) : Wd := sI (sI (sI (sI (sI w b 0 1) b 1 x0) b 2 y0) b 3 x1) b 4 y1
-- tell
set_option maxRecDepth 100000 in
set_option maxHeartbeats 4000000 in
theorem ct_X0_tell (l : Launch) (E : EE) (w : Wd) (b : Nat) (x0 y0 x1 y1 : Int32) (hlo : E.2.2 ≤ wN w) (hB : wK w b = some (.inl 0)) : Ct l E yX0_tell cX0_tell 5 none ({ frames := 0, cells := 0, slots := 0, locals := 0 } : Room) [.ref b, .int x0, .int y0, .int x1, .int y1] w 0 0 (Px none (tellW w b x0 y0 x1 y1)) := by
  refine ct_in (il := il_X0_tell) (by decide) dk_X0_tell (Nat.le_of_ble_eq_true rfl) hlo ?_
  intro X h hq

  refine g_aload_n h (i := 0) rfl rfl ?_
  refine g_iconst h (i := 1) rfl (v := 1) (by rfl) ?_
  refine g_putI_0 h (i := 2) rfl fl_X0_7 nf_0_0 (fun _ _ _ => rfl) hB (rfl) (by rfl) ?_
  refine g_aload_n h (i := 3) rfl rfl ?_
  refine g_iload_n h (i := 4) rfl rfl ?_
  refine g_putI_0 h (i := 5) rfl fl_X0_13 nf_0_1 (fun _ _ _ => rfl) hB (rfl) (by rfl) ?_
  refine g_aload_n h (i := 6) rfl rfl ?_
  refine g_iload_n h (i := 7) rfl rfl ?_
  refine g_putI_0 h (i := 8) rfl fl_X0_17 nf_0_2 (fun _ _ _ => rfl) hB (rfl) (by rfl) ?_
  refine g_aload_n h (i := 9) rfl rfl ?_
  refine g_iload_n h (i := 10) rfl rfl ?_
  refine g_putI_0 h (i := 11) rfl fl_X0_20 nf_0_3 (fun _ _ _ => rfl) hB (rfl) (by rfl) ?_
  refine g_aload_n h (i := 12) rfl rfl ?_
  refine g_iload h (i := 13) rfl rfl ?_
  refine g_putI_0 h (i := 14) rfl fl_X0_23 nf_0_4 (fun _ _ _ => rfl) hB (rfl) (by rfl) ?_
  exact g_vret hq h (i := 15) rfl (⟨rfl, rfl⟩)
def errW (w : Wd) (c m : Nat) (e : Int32) : Wd := if wI w m 15 = -1 then stopW w m e else if wI w (c + 4) 3 ≤ wI w m 15 then stopW w m 3 else sI (sI (sI (sI (dropW w m) m 11 e) m 10 (wI w m 15)) m 15 (-1)) m 7 0
def jumpW (w : Wd) (c m : Nat) (x : Int32) : Int32 × Wd := if wI w (c + 4) 3 ≤ x then (1, errW w c m 3) else (0, sI w m 10 x)
def callW (w : Wd) (c m : Nat) (x : Int32) : Int32 × Wd := if wI w (c + 4) 3 ≤ x then (1, errW w c m 3) else if 12 ≤ wI w m 7 then (1, errW w c m 5) else (0, sI (sI (sI w (m + 6) (pI (wI w m 7)) (wI w m 10 + 1)) m 7 (wI w m 7 + 1)) m 10 x)
def backW (w : Wd) (m : Nat) : Int32 × Wd := if wI w m 7 ≤ 0 then (1, endW w m (wI w m 10)) else (0, sI (sI w m 7 (wI w m 7 - 1)) m 10 (wI w (m + 6) (pI (wI w m 7 - 1))))
-- an error
set_option maxRecDepth 100000 in
set_option maxHeartbeats 4000000 in
theorem ct_X1_err (l : Launch) (E : EE) (w : Wd) (c m : Nat) (e : Int32) (hlo : E.2.2 ≤ wN w) (hC : LayC w c) (hM : LayM w m) (hcm : c + 54 ≤ m) : Ct l E yX1_err cX1_err 3 (some .boolean) ({ frames := 2, cells := 0, slots := 0, locals := 41 } : Room) [.ref c, .ref m, .int e] w 0 0 (Px (some (.int 1)) (errW w c m e)) := by
  refine ct_in (il := il_X1_err) (by decide) dk_X1_err (Nat.le_of_ble_eq_true rfl) hlo ?_
  intro X h hq

  refine g_aload_n h (i := 0) rfl rfl ?_
  refine g_getI h (i := 1) rfl fl_X1_197 (fun _ _ _ => rfl) (lk_M hM) ?_
  refine g_iconst h (i := 2) rfl (v := -1) (by rfl) ?_
  refine g_icmp_ne h (i := 3) 16 rfl rfl (fun c_5 => ?_) (fun c_5 => ?_)
  · skip
    refine g_aload_n h (i := 8) rfl rfl ?_
    refine g_getI h (i := 9) rfl fl_X1_197 (fun _ _ _ => rfl) (lk_M hM) ?_
    refine g_aload_n h (i := 10) rfl rfl ?_
    refine g_getR h (i := 11) rfl fl_X1_32 (fun _ _ _ => rfl) (lc_k hC) (lc_prog hC) ?_
    refine g_getI h (i := 12) rfl fl_X1_92 (fun _ _ _ => rfl) (lk_prog hC) ?_
    refine g_icmp_lt h (i := 13) 38 rfl rfl (fun c_27 => ?_) (fun c_27 => ?_)
    · skip
      refine g_aload_n h (i := 18) rfl rfl ?_
      refine g_callVn h hq (i := 19) rfl mv_X1_217 cls3 (lk_M hM) (ct_X3_dropWhatIsUnderWay l E w m hlo hM) rfl rfl ⟨rfl, rfl, Nat.le_of_ble_eq_true rfl, Nat.le_of_ble_eq_true rfl⟩ (Nat.le_of_ble_eq_true rfl) ⟨Nat.zero_le _, Nat.zero_le _⟩ ?_
      refine g_aload_n h (i := 20) rfl rfl ?_
      refine g_iload_n h (i := 21) rfl rfl ?_
      refine g_putI_0 h (i := 22) rfl fl_X1_220 nf_3_11 (fun _ _ _ => rfl) (lk_M hM) (rfl) (by rfl) ?_
      refine g_aload_n h (i := 23) rfl rfl ?_
      refine g_aload_n h (i := 24) rfl rfl ?_
      refine g_getI h (i := 25) rfl fl_X1_197 (fun _ _ _ => rfl) (lk_M hM) ?_
      refine g_eqi (wI w m 15) ((up2_k (by decide)).trans ((up2_k (by decide)).trans (up2_k (by decide)))) ?_
      refine g_putI_0 h (i := 26) rfl fl_X1_89 nf_3_10 (fun _ _ _ => rfl) (lk_M hM) (rfl) (by rfl) ?_
      refine g_aload_n h (i := 27) rfl rfl ?_
      refine g_iconst h (i := 28) rfl (v := -1) (by rfl) ?_
      refine g_putI_0 h (i := 29) rfl fl_X1_197 nf_3_15 (fun _ _ _ => rfl) (lk_M hM) (rfl) (by rfl) ?_
      refine g_aload_n h (i := 30) rfl rfl ?_
      refine g_iconst h (i := 31) rfl (v := 0) (by rfl) ?_
      refine g_putI_0 h (i := 32) rfl fl_X1_208 nf_3_7 (fun _ _ _ => rfl) (lk_M hM) (rfl) (by rfl) ?_
      refine g_iconst h (i := 33) rfl (v := 1) (by rfl) ?_
      exact g_zret hq h (i := 34) rfl (rfl) (⟨rfl, by unfold errW; rw [if_neg c_5, if_neg (i32nl.mpr c_27)]⟩)
    · skip
      refine g_aload_n h (i := 14) rfl rfl ?_
      refine g_iconst h (i := 15) rfl (v := 3) (by rfl) ?_
      refine g_callVn h hq (i := 16) rfl mv_X1_214 cls3 (lk_M hM) (ct_X3_stopBy l E w m 3 hlo hM) rfl rfl ⟨rfl, rfl, Nat.le_of_ble_eq_true rfl, Nat.le_of_ble_eq_true rfl⟩ (Nat.le_of_ble_eq_true rfl) ⟨Nat.zero_le _, Nat.zero_le _⟩ ?_
      refine g_goto h (i := 17) 65 rfl rfl ?_
      refine g_iconst h (i := 33) rfl (v := 1) (by rfl) ?_
      exact g_zret hq h (i := 34) rfl (rfl) (⟨rfl, by unfold errW; rw [if_neg c_5, if_pos (i32nlt.mp c_27)]⟩)
  · skip
    refine g_aload_n h (i := 4) rfl rfl ?_
    refine g_iload_n h (i := 5) rfl rfl ?_
    refine g_callVn h hq (i := 6) rfl mv_X1_214 cls3 (lk_M hM) (ct_X3_stopBy l E w m e hlo hM) rfl rfl ⟨rfl, rfl, Nat.le_of_ble_eq_true rfl, Nat.le_of_ble_eq_true rfl⟩ (Nat.le_of_ble_eq_true rfl) ⟨Nat.zero_le _, Nat.zero_le _⟩ ?_
    refine g_goto h (i := 7) 65 rfl rfl ?_
    refine g_iconst h (i := 33) rfl (v := 1) (by rfl) ?_
    exact g_zret hq h (i := 34) rfl (rfl) (⟨rfl, by unfold errW; rw [if_pos c_5]⟩)
-- a jump
set_option maxRecDepth 100000 in
set_option maxHeartbeats 4000000 in
theorem ct_X1_jump (l : Launch) (E : EE) (w : Wd) (c m : Nat) (x : Int32) (hlo : E.2.2 ≤ wN w) (hC : LayC w c) (hM : LayM w m) (hcm : c + 54 ≤ m) : Ct l E yX1_jump cX1_jump 3 (some .boolean) ({ frames := 3, cells := 0, slots := 0, locals := 63 } : Room) [.ref c, .ref m, .int x] w 0 0 (Px (some (.int (jumpW w c m x).1)) (jumpW w c m x).2) := by
  refine ct_in (il := il_X1_jump) (by decide) dk_X1_jump (Nat.le_of_ble_eq_true rfl) hlo ?_
  intro X h hq

  refine g_iload_n h (i := 0) rfl rfl ?_
  refine g_aload_n h (i := 1) rfl rfl ?_
  refine g_getR h (i := 2) rfl fl_X1_32 (fun _ _ _ => rfl) (lc_k hC) (lc_prog hC) ?_
  refine g_getI h (i := 3) rfl fl_X1_92 (fun _ _ _ => rfl) (lk_prog hC) ?_
  refine g_icmp_lt h (i := 4) 18 rfl rfl (fun c_8 => ?_) (fun c_8 => ?_)
  · skip
    refine g_aload_n h (i := 10) rfl rfl ?_
    refine g_iload_n h (i := 11) rfl rfl ?_
    refine g_putI_0 h (i := 12) rfl fl_X1_89 nf_3_10 (fun _ _ _ => rfl) (lk_M hM) (rfl) (by rfl) ?_
    refine g_iconst h (i := 13) rfl (v := 0) (by rfl) ?_
    exact g_zret hq h (i := 14) rfl (rfl) (by unfold jumpW; rw [if_neg (i32nl.mpr c_8)]; exact ⟨rfl, rfl⟩)
  · skip
    refine g_aload_n h (i := 5) rfl rfl ?_
    refine g_aload_n h (i := 6) rfl rfl ?_
    refine g_iconst h (i := 7) rfl (v := 3) (by rfl) ?_
    refine g_callVx h hq (i := 8) rfl mv_X1_99 cls1 (lc_k hC) (ct_X1_err l E w c m 3 hlo hC hM hcm) rfl rfl ⟨rfl, rfl, Nat.le_of_ble_eq_true rfl, Nat.le_of_ble_eq_true rfl⟩ (Nat.le_of_ble_eq_true rfl) ⟨Nat.zero_le _, Nat.zero_le _⟩ ?_
    exact g_zret hq h (i := 9) rfl (rfl) (by unfold jumpW; rw [if_pos (i32nlt.mp c_8)]; exact ⟨rfl, rfl⟩)
-- come back
set_option maxRecDepth 100000 in
set_option maxHeartbeats 4000000 in
theorem ct_X1_comeBack (l : Launch) (E : EE) (w : Wd) (c m : Nat) (hlo : E.2.2 ≤ wN w) (hC : LayC w c) (hM : LayM w m) (hcm : c + 54 ≤ m) (hp : isI (wI w m 7) 12) : Ct l E yX1_comeBack cX1_comeBack 2 (some .boolean) ({ frames := 1, cells := 0, slots := 0, locals := 21 } : Room) [.ref c, .ref m] w 0 0 (Px (some (.int (backW w m).1)) (backW w m).2) := by
  refine ct_in (il := il_X1_comeBack) (by decide) dk_X1_comeBack (Nat.le_of_ble_eq_true rfl) hlo ?_
  intro X h hq

  have hv : ¬ wI w m 7 ≤ 0 → vp_in (wI w m 7 - 1) 12 := fun g => by
    have a := i32lt.mp (i32nl.mp g)
    have e0 : (0 : Int32).toInt = 0 := rfl
    have z := hp.2
    have b : 0 < pI (wI w m 7) := by unfold pI; omega
    have e : wI w m 7 - 1 = nI (pI (wI w m 7) - 1) := (congrArg (fun z => z - 1) hp.1).trans (pk_sub (b := 1) b)
    rw [e]; exact vp_in_nI (by omega) (by omega)
  refine g_aload_n h (i := 0) rfl rfl ?_
  refine g_getI h (i := 1) rfl fl_X1_208 (fun _ _ _ => rfl) (lk_M hM) ?_
  refine g_if_gt h (i := 2) 17 rfl rfl (fun c_4 => ?_) (fun c_4 => ?_)
  · skip
    refine g_aload_n h (i := 9) rfl rfl ?_
    refine g_dup h (i := 10) rfl rfl ?_
    refine g_getI h (i := 11) rfl fl_X1_208 (fun _ _ _ => rfl) (lk_M hM) ?_
    refine g_iconst h (i := 12) rfl (v := 1) (by rfl) ?_
    refine g_isub h (i := 13) rfl ?_
    refine g_putI_0 h (i := 14) rfl fl_X1_208 nf_3_7 (fun _ _ _ => rfl) (lk_M hM) (rfl) (by rfl) ?_
    refine g_aload_n h (i := 15) rfl rfl ?_
    refine g_aload_n h (i := 16) rfl rfl ?_
    refine g_getR h (i := 17) rfl fl_X1_211 (fun _ _ _ => rfl) (lk_M hM) (lm_putBy hM) ?_
    refine g_aload_n h (i := 18) rfl rfl ?_
    refine g_getI h (i := 19) rfl fl_X1_208 (fun _ _ _ => rfl) (lk_M hM) ?_
    refine g_eqi (wI w m 7 - 1) (up2_s _ _ _ _) ?_
    refine g_iald h (i := 20) rfl (ln_putBy hM) (hv (i32nl.mpr c_4)) ?_
    refine g_eqi (wI w (m + 6) (pI (wI w m 7 - 1))) (up2_a (by omega)) ?_
    refine g_putI_0 h (i := 21) rfl fl_X1_89 nf_3_10 (fun _ _ _ => rfl) (lk_M hM) (rfl) (by rfl) ?_
    refine g_iconst h (i := 22) rfl (v := 0) (by rfl) ?_
    exact g_zret hq h (i := 23) rfl (rfl) (by unfold backW; rw [if_neg (i32nl.mpr c_4)]; exact ⟨rfl, rfl⟩)
  · skip
    refine g_aload_n h (i := 3) rfl rfl ?_
    refine g_aload_n h (i := 4) rfl rfl ?_
    refine g_getI h (i := 5) rfl fl_X1_89 (fun _ _ _ => rfl) (lk_M hM) ?_
    refine g_callVn h hq (i := 6) rfl mv_X1_95 cls3 (lk_M hM) (ct_X3_end l E w m _ hlo hM) rfl rfl ⟨rfl, rfl, Nat.le_of_ble_eq_true rfl, Nat.le_of_ble_eq_true rfl⟩ (Nat.le_of_ble_eq_true rfl) ⟨Nat.zero_le _, Nat.zero_le _⟩ ?_
    refine g_iconst h (i := 7) rfl (v := 1) (by rfl) ?_
    exact g_zret hq h (i := 8) rfl (rfl) (by unfold backW; rw [if_pos (i32nlt.mp c_4)]; exact ⟨rfl, rfl⟩)
-- a call
set_option maxRecDepth 100000 in
set_option maxHeartbeats 4000000 in
theorem ct_X1_call (l : Launch) (E : EE) (w : Wd) (c m : Nat) (x : Int32) (hlo : E.2.2 ≤ wN w) (hC : LayC w c) (hM : LayM w m) (hcm : c + 54 ≤ m) (hp : isI (wI w m 7) 12) : Ct l E yX1_call cX1_call 3 (some .boolean) ({ frames := 3, cells := 0, slots := 0, locals := 63 } : Room) [.ref c, .ref m, .int x] w 0 0 (Px (some (.int (callW w c m x).1)) (callW w c m x).2) := by
  refine ct_in (il := il_X1_call) (by decide) dk_X1_call (Nat.le_of_ble_eq_true rfl) hlo ?_
  intro X h hq

  have hv : wI w m 7 < 12 → vp_in (wI w m 7) 12 := fun g => by
    have a := i32lt.mp g
    have e0 : (12 : Int32).toInt = 12 := rfl
    have z : (pI (wI w m 7) : Int) < 12 := by unfold pI; omega
    rw [hp.1]; exact vp_in_nI (by omega) (by omega)
  refine g_iload_n h (i := 0) rfl rfl ?_
  refine g_aload_n h (i := 1) rfl rfl ?_
  refine g_getR h (i := 2) rfl fl_X1_32 (fun _ _ _ => rfl) (lc_k hC) (lc_prog hC) ?_
  refine g_getI h (i := 3) rfl fl_X1_92 (fun _ _ _ => rfl) (lk_prog hC) ?_
  refine g_icmp_lt h (i := 4) 18 rfl rfl (fun c_8 => ?_) (fun c_8 => ?_)
  · skip
    refine g_aload_n h (i := 10) rfl rfl ?_
    refine g_getI h (i := 11) rfl fl_X1_208 (fun _ _ _ => rfl) (lk_M hM) ?_
    refine g_bipush h (i := 12) rfl (v := 12) (by rfl) ?_
    refine g_icmp_lt h (i := 13) 34 rfl rfl (fun c_24 => ?_) (fun c_24 => ?_)
    · skip
      refine g_aload_n h (i := 19) rfl rfl ?_
      refine g_getR h (i := 20) rfl fl_X1_211 (fun _ _ _ => rfl) (lk_M hM) (lm_putBy hM) ?_
      refine g_aload_n h (i := 21) rfl rfl ?_
      refine g_getI h (i := 22) rfl fl_X1_208 (fun _ _ _ => rfl) (lk_M hM) ?_
      refine g_aload_n h (i := 23) rfl rfl ?_
      refine g_getI h (i := 24) rfl fl_X1_89 (fun _ _ _ => rfl) (lk_M hM) ?_
      refine g_iconst h (i := 25) rfl (v := 1) (by rfl) ?_
      refine g_iadd h (i := 26) rfl ?_
      refine g_iast h (i := 27) rfl (ln_putBy hM) (hv c_24) ?_
      refine g_aload_n h (i := 28) rfl rfl ?_
      refine g_dup h (i := 29) rfl rfl ?_
      refine g_getI h (i := 30) rfl fl_X1_208 (fun _ _ _ => rfl) (lk_M hM) ?_
      refine g_eqi (wI w m 7) (up2_a (by omega)) ?_
      refine g_iconst h (i := 31) rfl (v := 1) (by rfl) ?_
      refine g_iadd h (i := 32) rfl ?_
      refine g_putI_0 h (i := 33) rfl fl_X1_208 nf_3_7 (fun _ _ _ => rfl) (lk_M hM) (rfl) (by rfl) ?_
      refine g_aload_n h (i := 34) rfl rfl ?_
      refine g_iload_n h (i := 35) rfl rfl ?_
      refine g_putI_0 h (i := 36) rfl fl_X1_89 nf_3_10 (fun _ _ _ => rfl) (lk_M hM) (rfl) (by rfl) ?_
      refine g_iconst h (i := 37) rfl (v := 0) (by rfl) ?_
      exact g_zret hq h (i := 38) rfl (rfl) (by unfold callW; rw [if_neg (i32nl.mpr c_8), if_neg (i32nl.mpr c_24)]; exact ⟨rfl, rfl⟩)
    · skip
      refine g_aload_n h (i := 14) rfl rfl ?_
      refine g_aload_n h (i := 15) rfl rfl ?_
      refine g_iconst h (i := 16) rfl (v := 5) (by rfl) ?_
      refine g_callVx h hq (i := 17) rfl mv_X1_99 cls1 (lc_k hC) (ct_X1_err l E w c m 5 hlo hC hM hcm) rfl rfl ⟨rfl, rfl, Nat.le_of_ble_eq_true rfl, Nat.le_of_ble_eq_true rfl⟩ (Nat.le_of_ble_eq_true rfl) ⟨Nat.zero_le _, Nat.zero_le _⟩ ?_
      exact g_zret hq h (i := 18) rfl (rfl) (by unfold callW; rw [if_neg (i32nl.mpr c_8), if_pos (i32nlt.mp c_24)]; exact ⟨rfl, rfl⟩)
  · skip
    refine g_aload_n h (i := 5) rfl rfl ?_
    refine g_aload_n h (i := 6) rfl rfl ?_
    refine g_iconst h (i := 7) rfl (v := 3) (by rfl) ?_
    refine g_callVx h hq (i := 8) rfl mv_X1_99 cls1 (lc_k hC) (ct_X1_err l E w c m 3 hlo hC hM hcm) rfl rfl ⟨rfl, rfl, Nat.le_of_ble_eq_true rfl, Nat.le_of_ble_eq_true rfl⟩ (Nat.le_of_ble_eq_true rfl) ⟨Nat.zero_le _, Nat.zero_le _⟩ ?_
    exact g_zret hq h (i := 9) rfl (rfl) (by unfold callW; rw [if_pos (i32nlt.mp c_8)]; exact ⟨rfl, rfl⟩)
