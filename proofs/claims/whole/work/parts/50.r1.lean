-- within
set_option maxRecDepth 100000 in
set_option maxHeartbeats 4000000 in
theorem ct_X10_in (l : Launch) (E : EE) (w : Wd) (v lo hi : Int32) (hlo : E.2.2 ≤ wN w) : Ct l E yX10_in cX10_in 3 (some .boolean) ({ frames := 0, cells := 0, slots := 0, locals := 0 } : Room) [.int v, .int lo, .int hi] w 0 0 (Px (some (.int (bI (lo ≤ v ∧ v ≤ hi)))) w) := by
  refine ct_in (il := il_X10_in) (by decide) dk_X10_in (Nat.le_of_ble_eq_true rfl) hlo ?_
  intro X h hq

  refine g_iload_n h (i := 0) rfl rfl ?_
  refine g_iload_n h (i := 1) rfl rfl ?_
  refine g_icmp_lt h (i := 2) 14 rfl rfl (fun c_2 => ?_) (fun c_2 => ?_)
  · skip
    refine g_iconst h (i := 8) rfl (v := 0) (by rfl) ?_
    exact g_zret hq h (i := 9) rfl (rfl) (⟨rF (fun q => absurd q.1 (i32nl.mpr c_2)), rfl⟩)
  · skip
    refine g_iload_n h (i := 3) rfl rfl ?_
    refine g_iload_n h (i := 4) rfl rfl ?_
    refine g_icmp_gt h (i := 5) 14 rfl rfl (fun c_7 => ?_) (fun c_7 => ?_)
    · skip
      refine g_iconst h (i := 8) rfl (v := 0) (by rfl) ?_
      exact g_zret hq h (i := 9) rfl (rfl) (⟨rF (fun q => absurd q.2 (i32nl.mpr c_7)), rfl⟩)
    · skip
      refine g_iconst h (i := 6) rfl (v := 1) (by rfl) ?_
      refine g_goto h (i := 7) 15 rfl rfl ?_
      exact g_zret hq h (i := 9) rfl (rfl) (⟨rT ⟨i32nlt.mp c_2, i32nlt.mp c_7⟩, rfl⟩)
-- within
set_option maxRecDepth 100000 in
set_option maxHeartbeats 4000000 in
theorem ct_X10_isPose (l : Launch) (E : EE) (w : Wd) (v : Int32) (hlo : E.2.2 ≤ wN w) : Ct l E yX10_isPose cX10_isPose 1 (some .boolean) ({ frames := 1, cells := 0, slots := 0, locals := 22 } : Room) [.int v] w 0 0 (Px (some (.int (bI (0 ≤ v ∧ v ≤ 15)))) w) := by
  refine ct_in (il := il_X10_isPose) (by decide) dk_X10_isPose (Nat.le_of_ble_eq_true rfl) hlo ?_
  intro X h hq

  refine g_iload_n h (i := 0) rfl rfl ?_
  refine g_iconst h (i := 1) rfl (v := 0) (by rfl) ?_
  refine g_bipush h (i := 2) rfl (v := 15) (by rfl) ?_
  refine g_callSx h hq (i := 3) rfl ms_X10_82 (ct_X10_in l E _ v 0 15 hlo) rfl rfl ⟨rfl, rfl, Nat.le_of_ble_eq_true rfl, Nat.le_of_ble_eq_true rfl⟩ (Nat.le_of_ble_eq_true rfl) ⟨Nat.zero_le _, Nat.zero_le _⟩ ?_
  exact g_zret hq h (i := 4) rfl (bI_n _) (⟨rfl, rfl⟩)
-- within
set_option maxRecDepth 100000 in
set_option maxHeartbeats 4000000 in
theorem ct_X10_isJoint (l : Launch) (E : EE) (w : Wd) (a : Nat) (v : Int32) (hlo : E.2.2 ≤ wN w) : Ct l E yX10_isJoint cX10_isJoint 2 (some .boolean) ({ frames := 1, cells := 0, slots := 0, locals := 22 } : Room) [.ref a, .int v] w 0 0 (Px (some (.int (bI (0 ≤ v ∧ v ≤ 3)))) w) := by
  refine ct_in (il := il_X10_isJoint) (by decide) dk_X10_isJoint (Nat.le_of_ble_eq_true rfl) hlo ?_
  intro X h hq

  refine g_iload_n h (i := 0) rfl rfl ?_
  refine g_iconst h (i := 1) rfl (v := 0) (by rfl) ?_
  refine g_iconst h (i := 2) rfl (v := 3) (by rfl) ?_
  refine g_callSx h hq (i := 3) rfl ms_X10_82 (ct_X10_in l E _ v 0 3 hlo) rfl rfl ⟨rfl, rfl, Nat.le_of_ble_eq_true rfl, Nat.le_of_ble_eq_true rfl⟩ (Nat.le_of_ble_eq_true rfl) ⟨Nat.zero_le _, Nat.zero_le _⟩ ?_
  exact g_zret hq h (i := 4) rfl (bI_n _) (⟨rfl, rfl⟩)
-- a place of the row
set_option maxRecDepth 100000 in
set_option maxHeartbeats 4000000 in
theorem ct_X10_rowAt (l : Launch) (E : EE) (w : Wd) (a n : Nat) (r : Nat → Int64) (x : Int32) (hlo : E.2.2 ≤ wN (sRow w a r)) (hL : LayR w a) (hx : vp_in x 408) (hn : x.toNatClampNeg = n) : Ct l E yX10_rowAt cX10_rowAt 2 (some .int) ({ frames := 0, cells := 0, slots := 0, locals := 0 } : Room) [.ref a, .int x] (sRow w a r) 0 0 (Px (some (.int (r n).toInt32)) (sRow w a r)) := by
  refine ct_in (il := il_X10_rowAt) (by decide) dk_X10_rowAt (Nat.le_of_ble_eq_true rfl) hlo ?_
  intro X h hq

  refine g_aload_n h (i := 0) rfl rfl ?_
  refine g_getR h (i := 1) rfl fl_X10_7 (fun _ _ _ => rfl) (lk_R hL) (lr_row hL) ?_
  refine g_iload_n h (i := 2) rfl rfl ?_
  refine g_lald h (i := 3) rfl (lq_row hL) (hx) ?_
  refine g_eql _ (sRow_jx _ _ _ (n := n) (hn)) ?_
  refine g_l2i h (i := 4) rfl ?_
  exact g_iret hq h (i := 5) rfl (⟨rfl, rfl⟩)
-- going
set_option maxRecDepth 100000 in
set_option maxHeartbeats 4000000 in
theorem ct_X10_isGoing (l : Launch) (E : EE) (w : Wd) (a : Nat) (r : Nat → Int64) (hlo : E.2.2 ≤ wN (sRow w a r)) (hL : LayR w a) : Ct l E yX10_isGoing cX10_isGoing 1 (some .boolean) ({ frames := 0, cells := 0, slots := 0, locals := 0 } : Room) [.ref a] (sRow w a r) 0 0 (Px (some (.int (bI (r 28 = 1)))) (sRow w a r)) := by
  refine ct_in (il := il_X10_isGoing) (by decide) dk_X10_isGoing (Nat.le_of_ble_eq_true rfl) hlo ?_
  intro X h hq

  refine g_aload_n h (i := 0) rfl rfl ?_
  refine g_getR h (i := 1) rfl fl_X10_7 (fun _ _ _ => rfl) (lk_R hL) (lr_row hL) ?_
  refine g_bipush h (i := 2) rfl (v := 28) (by rfl) ?_
  refine g_lald h (i := 3) rfl (lq_row hL) (vpD (by decide)) ?_
  refine g_eql _ (sRow_jx _ _ _ (n := 28) (by rfl)) ?_
  refine g_lconst h (i := 4) rfl (v := 1) (by rfl) ?_
  refine g_lcmp h (i := 5) rfl ?_
  refine g_if_ne h (i := 6) 16 rfl rfl (fun c_9 => ?_) (fun c_9 => ?_)
  · skip
    refine g_iconst h (i := 9) rfl (v := 0) (by rfl) ?_
    exact g_zret hq h (i := 10) rfl (rfl) (⟨rF (fun q => c_9 ((lg_cmp_eq _ _).mpr q)), rfl⟩)
  · skip
    refine g_iconst h (i := 7) rfl (v := 1) (by rfl) ?_
    refine g_goto h (i := 8) 17 rfl rfl ?_
    exact g_zret hq h (i := 10) rfl (rfl) (⟨rT ((lg_cmp_eq _ _).mp c_9), rfl⟩)
/-- over: the line is done -/
def overR (r : Nat → Int64) : Nat → Int64 := up1 (up1 (up1 r 46 0) 47 0) 30 (r 30 + 1)
/-- an error -/
def errsR (ln e : Int32) (r : Nat → Int64) : Nat → Int64 := if (r 48).toInt32 = -1 then up1 (up1 (up1 (up1 r 46 0) 47 0) 31 e.toInt64) 28 3 else if ln ≤ (r 48).toInt32 then up1 (up1 (up1 (up1 (up1 r 46 0) 47 0) 31 e.toInt64) 31 3) 28 3 else up1 (up1 (up1 (up1 (up1 (up1 r 46 0) 47 0) 31 e.toInt64) 30 (r 48).toInt32.toInt64) 32 0) 48 (-1)
-- over
set_option maxRecDepth 100000 in
set_option maxHeartbeats 4000000 in
theorem ct_X10_over (l : Launch) (E : EE) (w : Wd) (a : Nat) (r : Nat → Int64) (hlo : E.2.2 ≤ wN (sRow w a r)) (hL : LayR w a) : Ct l E yX10_over cX10_over 1 none ({ frames := 0, cells := 0, slots := 0, locals := 0 } : Room) [.ref a] (sRow w a r) 0 0 (Px none (sRow w a (overR r))) := by
  refine ct_in (il := il_X10_over) (by decide) dk_X10_over (Nat.le_of_ble_eq_true rfl) hlo ?_
  intro X h hq

  refine g_aload_n h (i := 0) rfl rfl ?_
  refine g_getR h (i := 1) rfl fl_X10_7 (fun _ _ _ => rfl) (lk_R hL) (lr_row hL) ?_
  refine g_bipush h (i := 2) rfl (v := 46) (by rfl) ?_
  refine g_lconst h (i := 3) rfl (v := 0) (by rfl) ?_
  refine g_last h (i := 4) rfl (lq_row hL) (vpD (by decide)) ?_
  refine g_w _ (sRow_ux _ _ _ _ (n := 46) (by rfl)) ?_
  refine g_aload_n h (i := 5) rfl rfl ?_
  refine g_getR h (i := 6) rfl fl_X10_7 (fun _ _ _ => rfl) (lk_R hL) (lr_row hL) ?_
  refine g_bipush h (i := 7) rfl (v := 47) (by rfl) ?_
  refine g_lconst h (i := 8) rfl (v := 0) (by rfl) ?_
  refine g_last h (i := 9) rfl (lq_row hL) (vpD (by decide)) ?_
  refine g_w _ (sRow_ux _ _ _ _ (n := 47) (by rfl)) ?_
  refine g_aload_n h (i := 10) rfl rfl ?_
  refine g_getR h (i := 11) rfl fl_X10_7 (fun _ _ _ => rfl) (lk_R hL) (lr_row hL) ?_
  refine g_bipush h (i := 12) rfl (v := 30) (by rfl) ?_
  refine g_dup2 h (i := 13) rfl rfl rfl ?_
  refine g_lald h (i := 14) rfl (lq_row hL) (vpD (by decide)) ?_
  refine g_eql _ (sRow_jx _ _ _ (n := 30) (by rfl)) ?_
  refine g_eql (r 30) (by rw [up1_k (by decide), up1_k (by decide)]) ?_
  refine g_lconst h (i := 15) rfl (v := 1) (by rfl) ?_
  refine g_ladd h (i := 16) rfl ?_
  refine g_last h (i := 17) rfl (lq_row hL) (vpD (by decide)) ?_
  refine g_w _ (sRow_ux _ _ _ _ (n := 30) (by rfl)) ?_
  exact g_vret hq h (i := 18) rfl (⟨rfl, rfl⟩)
-- an error
set_option maxRecDepth 100000 in
set_option maxHeartbeats 4000000 in
theorem ct_X10_errs (l : Launch) (E : EE) (w : Wd) (a : Nat) (r : Nat → Int64) (e : Int32) (hlo : E.2.2 ≤ wN (sRow w a r)) (hL : LayR w a) : Ct l E yX10_errs cX10_errs 3 none ({ frames := 1, cells := 0, slots := 0, locals := 21 } : Room) [.ref a, .int e] (sRow w a r) 0 0 (Px none (sRow w a (errsR (wI w a 12) e r))) := by
  refine ct_in (il := il_X10_errs) (by decide) dk_X10_errs (Nat.le_of_ble_eq_true rfl) hlo ?_
  intro X h hq

  refine g_aload_n h (i := 0) rfl rfl ?_
  refine g_getR h (i := 1) rfl fl_X10_7 (fun _ _ _ => rfl) (lk_R hL) (lr_row hL) ?_
  refine g_bipush h (i := 2) rfl (v := 46) (by rfl) ?_
  refine g_lconst h (i := 3) rfl (v := 0) (by rfl) ?_
  refine g_last h (i := 4) rfl (lq_row hL) (vpD (by decide)) ?_
  refine g_w _ (sRow_ux _ _ _ _ (n := 46) (by rfl)) ?_
  refine g_aload_n h (i := 5) rfl rfl ?_
  refine g_getR h (i := 6) rfl fl_X10_7 (fun _ _ _ => rfl) (lk_R hL) (lr_row hL) ?_
  refine g_bipush h (i := 7) rfl (v := 47) (by rfl) ?_
  refine g_lconst h (i := 8) rfl (v := 0) (by rfl) ?_
  refine g_last h (i := 9) rfl (lq_row hL) (vpD (by decide)) ?_
  refine g_w _ (sRow_ux _ _ _ _ (n := 47) (by rfl)) ?_
  refine g_aload_n h (i := 10) rfl rfl ?_
  refine g_getR h (i := 11) rfl fl_X10_7 (fun _ _ _ => rfl) (lk_R hL) (lr_row hL) ?_
  refine g_bipush h (i := 12) rfl (v := 31) (by rfl) ?_
  refine g_iload_n h (i := 13) rfl rfl ?_
  refine g_i2l h (i := 14) rfl ?_
  refine g_last h (i := 15) rfl (lq_row hL) (vpD (by decide)) ?_
  refine g_w _ (sRow_ux _ _ _ _ (n := 31) (by rfl)) ?_
  refine g_aload_n h (i := 16) rfl rfl ?_
  refine g_bipush h (i := 17) rfl (v := 48) (by rfl) ?_
  refine g_callVx h hq (i := 18) rfl mv_X10_97 cls10 (lk_R hL) (ct_X10_rowAt l E w a 48 _ _ hlo hL (vpD (by decide)) (by rfl)) rfl rfl ⟨rfl, rfl, Nat.le_of_ble_eq_true rfl, Nat.le_of_ble_eq_true rfl⟩ (Nat.le_of_ble_eq_true rfl) ⟨Nat.zero_le _, Nat.zero_le _⟩ ?_
  refine g_eqi (r 48).toInt32 (congrArg Int64.toInt32 (by rw [up1_k (by decide), up1_k (by decide), up1_k (by decide)])) ?_
  refine g_istore_n h (i := 19) rfl hq rfl ?_
  refine g_iload_n h (i := 20) rfl rfl ?_
  refine g_iconst h (i := 21) rfl (v := -1) (by rfl) ?_
  refine g_icmp_ne h (i := 22) 50 rfl rfl (fun c_34 => ?_) (fun c_34 => ?_)
  · skip
    refine g_iload_n h (i := 29) rfl rfl ?_
    refine g_aload_n h (i := 30) rfl rfl ?_
    refine g_getI h (i := 31) rfl fl_X10_207 (fun _ _ _ => rfl) (lk_R hL) ?_
    refine g_eqi (wI w a 12) rfl ?_
    refine g_icmp_lt h (i := 32) 81 rfl rfl (fun c_55 => ?_) (fun c_55 => ?_)
    · skip
      refine g_aload_n h (i := 44) rfl rfl ?_
      refine g_getR h (i := 45) rfl fl_X10_7 (fun _ _ _ => rfl) (lk_R hL) (lr_row hL) ?_
      refine g_bipush h (i := 46) rfl (v := 30) (by rfl) ?_
      refine g_iload_n h (i := 47) rfl rfl ?_
      refine g_i2l h (i := 48) rfl ?_
      refine g_last h (i := 49) rfl (lq_row hL) (vpD (by decide)) ?_
      refine g_w _ (sRow_ux _ _ _ _ (n := 30) (by rfl)) ?_
      refine g_aload_n h (i := 50) rfl rfl ?_
      refine g_getR h (i := 51) rfl fl_X10_7 (fun _ _ _ => rfl) (lk_R hL) (lr_row hL) ?_
      refine g_bipush h (i := 52) rfl (v := 32) (by rfl) ?_
      refine g_lconst h (i := 53) rfl (v := 0) (by rfl) ?_
      refine g_last h (i := 54) rfl (lq_row hL) (vpD (by decide)) ?_
      refine g_w _ (sRow_ux _ _ _ _ (n := 32) (by rfl)) ?_
      refine g_aload_n h (i := 55) rfl rfl ?_
      refine g_getR h (i := 56) rfl fl_X10_7 (fun _ _ _ => rfl) (lk_R hL) (lr_row hL) ?_
      refine g_bipush h (i := 57) rfl (v := 48) (by rfl) ?_
      refine g_ldc2 h (i := 58) rfl k_X10_80 ?_
      refine g_last h (i := 59) rfl (lq_row hL) (vpD (by decide)) ?_
      refine g_w _ (sRow_ux _ _ _ _ (n := 48) (by rfl)) ?_
      exact g_vret hq h (i := 60) rfl (⟨rfl, by unfold errsR; rw [if_neg c_34, if_neg (i32nl.mpr c_55)]⟩)
    · skip
      refine g_aload_n h (i := 33) rfl rfl ?_
      refine g_getR h (i := 34) rfl fl_X10_7 (fun _ _ _ => rfl) (lk_R hL) (lr_row hL) ?_
      refine g_bipush h (i := 35) rfl (v := 31) (by rfl) ?_
      refine g_ldc2 h (i := 36) rfl k_X10_214 ?_
      refine g_last h (i := 37) rfl (lq_row hL) (vpD (by decide)) ?_
      refine g_w _ (sRow_ux _ _ _ _ (n := 31) (by rfl)) ?_
      refine g_aload_n h (i := 38) rfl rfl ?_
      refine g_getR h (i := 39) rfl fl_X10_7 (fun _ _ _ => rfl) (lk_R hL) (lr_row hL) ?_
      refine g_bipush h (i := 40) rfl (v := 28) (by rfl) ?_
      refine g_ldc2 h (i := 41) rfl k_X10_214 ?_
      refine g_last h (i := 42) rfl (lq_row hL) (vpD (by decide)) ?_
      refine g_w _ (sRow_ux _ _ _ _ (n := 28) (by rfl)) ?_
      refine g_goto h (i := 43) 108 rfl rfl ?_
      exact g_vret hq h (i := 60) rfl (⟨rfl, by unfold errsR; rw [if_neg c_34, if_pos (i32nlt.mp c_55)]⟩)
  · skip
    refine g_aload_n h (i := 23) rfl rfl ?_
    refine g_getR h (i := 24) rfl fl_X10_7 (fun _ _ _ => rfl) (lk_R hL) (lr_row hL) ?_
    refine g_bipush h (i := 25) rfl (v := 28) (by rfl) ?_
    refine g_ldc2 h (i := 26) rfl k_X10_214 ?_
    refine g_last h (i := 27) rfl (lq_row hL) (vpD (by decide)) ?_
    refine g_w _ (sRow_ux _ _ _ _ (n := 28) (by rfl)) ?_
    refine g_goto h (i := 28) 108 rfl rfl ?_
    exact g_vret hq h (i := 60) rfl (⟨rfl, by unfold errsR; rw [if_pos c_34]⟩)
def pN (x : Int64) : Nat := x.toInt.toNat
def pI (x : Int32) : Nat := x.toInt.toNat
theorem pN_l {n : Nat} (h : n < 9223372036854775808) : pN (lN n) = n := by unfold pN; rw [lNT h]; exact Int.toNat_natCast n
theorem pI_n {n : Nat} (h : n < 2147483648) : pI (nI n) = n := by unfold pI; rw [nIT h]; exact Int.toNat_natCast n
abbrev onP (r : Nat → Int64) (i : Int32) : Prop := i ≠ -1 ∧ r (4 + pI i) = 1
def goesToR (ln x : Int32) (r : Nat → Int64) : Nat → Int64 := if ln ≤ x then errsR ln 3 r else up1 r 30 x.toInt64
def callsR (ln x : Int32) (r : Nat → Int64) : Nat → Int64 := if ln ≤ x then errsR ln 3 r else if r 32 = 12 then errsR ln 5 r else up1 (up1 (up1 r (33 + pN (r 32)) (r 30 + 1)) 32 (r 32 + 1)) 30 x.toInt64
def backR (r : Nat → Int64) : Nat → Int64 := if r 32 = 0 then up1 r 28 2 else up1 (up1 r 32 (r 32 - 1)) 30 (r (33 + (pN (r 32) - 1)))
theorem lN_32 {n : Nat} (h : n < 2147483648) : (lN n).toInt32 = nI n := i32x (by rw [l_i (by rw [lNT (by omega)]; omega) (by rw [lNT (by omega)]; omega), lNT (by omega), nIT h])
theorem lN_x {a b : Nat} (ha : a < 9223372036854775808) (hb : b < 9223372036854775808) : lN a = lN b ↔ a = b := pk_lEQ (by omega) (by omega)
theorem up1_p {α : Type} {f : Nat → α} {k y : Nat} {v : α} (h : k ≠ y) : up1 f k v y = f y := if_neg (fun q => h q.symm)
-- a jump
set_option maxRecDepth 100000 in
set_option maxHeartbeats 4000000 in
theorem ct_X10_goesTo (l : Launch) (E : EE) (w : Wd) (a : Nat) (r : Nat → Int64) (x : Int32) (hlo : E.2.2 ≤ wN (sRow w a r)) (hL : LayR w a) : Ct l E yX10_goesTo cX10_goesTo 2 none ({ frames := 2, cells := 0, slots := 0, locals := 43 } : Room) [.ref a, .int x] (sRow w a r) 0 0 (Px none (sRow w a (goesToR (wI w a 12) x r))) := by
  refine ct_in (il := il_X10_goesTo) (by decide) dk_X10_goesTo (Nat.le_of_ble_eq_true rfl) hlo ?_
  intro X h hq

  refine g_iload_n h (i := 0) rfl rfl ?_
  refine g_aload_n h (i := 1) rfl rfl ?_
  refine g_getI h (i := 2) rfl fl_X10_207 (fun _ _ _ => rfl) (lk_R hL) ?_
  refine g_eqi (wI w a 12) rfl ?_
  refine g_icmp_lt h (i := 3) 16 rfl rfl (fun c_5 => ?_) (fun c_5 => ?_)
  · skip
    refine g_aload_n h (i := 8) rfl rfl ?_
    refine g_getR h (i := 9) rfl fl_X10_7 (fun _ _ _ => rfl) (lk_R hL) (lr_row hL) ?_
    refine g_bipush h (i := 10) rfl (v := 30) (by rfl) ?_
    refine g_iload_n h (i := 11) rfl rfl ?_
    refine g_i2l h (i := 12) rfl ?_
    refine g_last h (i := 13) rfl (lq_row hL) (vpD (by decide)) ?_
    refine g_w _ (sRow_ux _ _ _ _ (n := 30) (by rfl)) ?_
    exact g_vret hq h (i := 14) rfl (⟨rfl, by unfold goesToR; rw [if_neg (i32nl.mpr c_5)]⟩)
  · skip
    refine g_aload_n h (i := 4) rfl rfl ?_
    refine g_iconst h (i := 5) rfl (v := 3) (by rfl) ?_
    refine g_callVn h hq (i := 6) rfl mv_X10_219 cls10 (lk_R hL) (ct_X10_errs l E w a r _ hlo hL) rfl rfl ⟨rfl, rfl, Nat.le_of_ble_eq_true rfl, Nat.le_of_ble_eq_true rfl⟩ (Nat.le_of_ble_eq_true rfl) ⟨Nat.zero_le _, Nat.zero_le _⟩ ?_
    refine g_goto h (i := 7) 25 rfl rfl ?_
    exact g_vret hq h (i := 14) rfl (⟨rfl, by unfold goesToR; rw [if_pos (i32nlt.mp c_5)]⟩)
-- a call
set_option maxRecDepth 100000 in
set_option maxHeartbeats 4000000 in
theorem ct_X10_calls (l : Launch) (E : EE) (w : Wd) (a p : Nat) (r : Nat → Int64) (x : Int32) (hlo : E.2.2 ≤ wN (sRow w a r)) (hL : LayR w a) (hp : r 32 = lN p) (hp2 : p ≤ 12) : Ct l E yX10_calls cX10_calls 2 none ({ frames := 2, cells := 0, slots := 0, locals := 43 } : Room) [.ref a, .int x] (sRow w a r) 0 0 (Px none (sRow w a (callsR (wI w a 12) x r))) := by
  refine ct_in (il := il_X10_calls) (by decide) dk_X10_calls (Nat.le_of_ble_eq_true rfl) hlo ?_
  intro X h hq

  refine g_iload_n h (i := 0) rfl rfl ?_
  refine g_aload_n h (i := 1) rfl rfl ?_
  refine g_getI h (i := 2) rfl fl_X10_207 (fun _ _ _ => rfl) (lk_R hL) ?_
  refine g_eqi (wI w a 12) rfl ?_
  refine g_icmp_lt h (i := 3) 16 rfl rfl (fun c_5 => ?_) (fun c_5 => ?_)
  · skip
    refine g_aload_n h (i := 8) rfl rfl ?_
    refine g_getR h (i := 9) rfl fl_X10_7 (fun _ _ _ => rfl) (lk_R hL) (lr_row hL) ?_
    refine g_bipush h (i := 10) rfl (v := 32) (by rfl) ?_
    refine g_lald h (i := 11) rfl (lq_row hL) (vpD (by decide)) ?_
    refine g_eql _ (sRow_jx _ _ _ (n := 32) (by rfl)) ?_
    refine g_ldc2 h (i := 12) rfl k_X10_235 ?_
    refine g_lcmp h (i := 13) rfl ?_
    refine g_if_ne h (i := 14) 38 rfl rfl (fun c_27 => ?_) (fun c_27 => ?_)
    · skip
      have hp3 : p < 12 := by
        have : p ≠ 12 := fun q => c_27 ((lg_cmp_eq _ _).mpr (by rw [hp, q]; rfl))
        omega
      refine g_aload_n h (i := 19) rfl rfl ?_
      refine g_getR h (i := 20) rfl fl_X10_7 (fun _ _ _ => rfl) (lk_R hL) (lr_row hL) ?_
      refine g_bipush h (i := 21) rfl (v := 33) (by rfl) ?_
      refine g_aload_n h (i := 22) rfl rfl ?_
      refine g_bipush h (i := 23) rfl (v := 32) (by rfl) ?_
      refine g_callVx h hq (i := 24) rfl mv_X10_97 cls10 (lk_R hL) (ct_X10_rowAt l E w a 32 _ _ hlo hL (vpD (by decide)) (by rfl)) rfl rfl ⟨rfl, rfl, Nat.le_of_ble_eq_true rfl, Nat.le_of_ble_eq_true rfl⟩ (Nat.le_of_ble_eq_true rfl) ⟨Nat.zero_le _, Nat.zero_le _⟩ ?_
      refine g_iadd h (i := 25) rfl ?_
      refine g_eqi (nI (33 + p)) (by rw [hp, lN_32 (by omega)]; exact nI_add 33 p) ?_
      refine g_aload_n h (i := 26) rfl rfl ?_
      refine g_getR h (i := 27) rfl fl_X10_7 (fun _ _ _ => rfl) (lk_R hL) (lr_row hL) ?_
      refine g_bipush h (i := 28) rfl (v := 30) (by rfl) ?_
      refine g_lald h (i := 29) rfl (lq_row hL) (vpD (by decide)) ?_
      refine g_eql _ (sRow_jx _ _ _ (n := 30) (by rfl)) ?_
      refine g_lconst h (i := 30) rfl (v := 1) (by rfl) ?_
      refine g_ladd h (i := 31) rfl ?_
      refine g_last h (i := 32) rfl (lq_row hL) (vp_in_nI (by omega) (by omega)) ?_
      refine g_w _ (sRow_ux _ _ _ _ (n := 33 + p) (nI_clamp (by omega))) ?_
      refine g_aload_n h (i := 33) rfl rfl ?_
      refine g_getR h (i := 34) rfl fl_X10_7 (fun _ _ _ => rfl) (lk_R hL) (lr_row hL) ?_
      refine g_bipush h (i := 35) rfl (v := 32) (by rfl) ?_
      refine g_dup2 h (i := 36) rfl rfl rfl ?_
      refine g_lald h (i := 37) rfl (lq_row hL) (vpD (by decide)) ?_
      refine g_eql _ (sRow_jx _ _ _ (n := 32) (by rfl)) ?_
      refine g_eql (r 32) (up1_p (by omega)) ?_
      refine g_lconst h (i := 38) rfl (v := 1) (by rfl) ?_
      refine g_ladd h (i := 39) rfl ?_
      refine g_last h (i := 40) rfl (lq_row hL) (vpD (by decide)) ?_
      refine g_w _ (sRow_ux _ _ _ _ (n := 32) (by rfl)) ?_
      refine g_aload_n h (i := 41) rfl rfl ?_
      refine g_getR h (i := 42) rfl fl_X10_7 (fun _ _ _ => rfl) (lk_R hL) (lr_row hL) ?_
      refine g_bipush h (i := 43) rfl (v := 30) (by rfl) ?_
      refine g_iload_n h (i := 44) rfl rfl ?_
      refine g_i2l h (i := 45) rfl ?_
      refine g_last h (i := 46) rfl (lq_row hL) (vpD (by decide)) ?_
      refine g_w _ (sRow_ux _ _ _ _ (n := 30) (by rfl)) ?_
      exact g_vret hq h (i := 47) rfl (⟨rfl, by unfold callsR; rw [if_neg (i32nl.mpr c_5), if_neg (fun q => c_27 ((lg_cmp_eq _ _).mpr q)), hp, pN_l (by omega)]⟩)
    · skip
      refine g_aload_n h (i := 15) rfl rfl ?_
      refine g_iconst h (i := 16) rfl (v := 5) (by rfl) ?_
      refine g_callVn h hq (i := 17) rfl mv_X10_219 cls10 (lk_R hL) (ct_X10_errs l E w a r _ hlo hL) rfl rfl ⟨rfl, rfl, Nat.le_of_ble_eq_true rfl, Nat.le_of_ble_eq_true rfl⟩ (Nat.le_of_ble_eq_true rfl) ⟨Nat.zero_le _, Nat.zero_le _⟩ ?_
      refine g_goto h (i := 18) 81 rfl rfl ?_
      exact g_vret hq h (i := 47) rfl (⟨rfl, by unfold callsR; rw [if_neg (i32nl.mpr c_5), if_pos ((lg_cmp_eq _ _).mp c_27)]⟩)
  · skip
    refine g_aload_n h (i := 4) rfl rfl ?_
    refine g_iconst h (i := 5) rfl (v := 3) (by rfl) ?_
    refine g_callVn h hq (i := 6) rfl mv_X10_219 cls10 (lk_R hL) (ct_X10_errs l E w a r _ hlo hL) rfl rfl ⟨rfl, rfl, Nat.le_of_ble_eq_true rfl, Nat.le_of_ble_eq_true rfl⟩ (Nat.le_of_ble_eq_true rfl) ⟨Nat.zero_le _, Nat.zero_le _⟩ ?_
    refine g_goto h (i := 7) 81 rfl rfl ?_
    exact g_vret hq h (i := 47) rfl (⟨rfl, by unfold callsR; rw [if_pos (i32nlt.mp c_5)]⟩)
-- back from a call
set_option maxRecDepth 100000 in
set_option maxHeartbeats 4000000 in
theorem ct_X10_comesBack (l : Launch) (E : EE) (w : Wd) (a p : Nat) (r : Nat → Int64) (hlo : E.2.2 ≤ wN (sRow w a r)) (hL : LayR w a) (hp : r 32 = lN p) (hp2 : p ≤ 12) : Ct l E yX10_comesBack cX10_comesBack 1 none ({ frames := 1, cells := 0, slots := 0, locals := 21 } : Room) [.ref a] (sRow w a r) 0 0 (Px none (sRow w a (backR r))) := by
  refine ct_in (il := il_X10_comesBack) (by decide) dk_X10_comesBack (Nat.le_of_ble_eq_true rfl) hlo ?_
  intro X h hq

  refine g_aload_n h (i := 0) rfl rfl ?_
  refine g_getR h (i := 1) rfl fl_X10_7 (fun _ _ _ => rfl) (lk_R hL) (lr_row hL) ?_
  refine g_bipush h (i := 2) rfl (v := 32) (by rfl) ?_
  refine g_lald h (i := 3) rfl (lq_row hL) (vpD (by decide)) ?_
  refine g_eql _ (sRow_jx _ _ _ (n := 32) (by rfl)) ?_
  refine g_lconst h (i := 4) rfl (v := 0) (by rfl) ?_
  refine g_lcmp h (i := 5) rfl ?_
  refine g_if_ne h (i := 6) 25 rfl rfl (fun c_9 => ?_) (fun c_9 => ?_)
  · skip
    have hp3 : 0 < p := by
      have : p ≠ 0 := fun q => c_9 ((lg_cmp_eq _ _).mpr (by rw [hp, q]; rfl))
      omega
    have hm : r 32 - 1 = lN (p - 1) := by rw [hp]; exact lN_sub (b := 1) hp3
    refine g_aload_n h (i := 13) rfl rfl ?_
    refine g_getR h (i := 14) rfl fl_X10_7 (fun _ _ _ => rfl) (lk_R hL) (lr_row hL) ?_
    refine g_bipush h (i := 15) rfl (v := 32) (by rfl) ?_
    refine g_dup2 h (i := 16) rfl rfl rfl ?_
    refine g_lald h (i := 17) rfl (lq_row hL) (vpD (by decide)) ?_
    refine g_eql _ (sRow_jx _ _ _ (n := 32) (by rfl)) ?_
    refine g_lconst h (i := 18) rfl (v := 1) (by rfl) ?_
    refine g_lsub h (i := 19) rfl ?_
    refine g_last h (i := 20) rfl (lq_row hL) (vpD (by decide)) ?_
    refine g_w _ (sRow_ux _ _ _ _ (n := 32) (by rfl)) ?_
    refine g_aload_n h (i := 21) rfl rfl ?_
    refine g_getR h (i := 22) rfl fl_X10_7 (fun _ _ _ => rfl) (lk_R hL) (lr_row hL) ?_
    refine g_bipush h (i := 23) rfl (v := 30) (by rfl) ?_
    refine g_aload_n h (i := 24) rfl rfl ?_
    refine g_getR h (i := 25) rfl fl_X10_7 (fun _ _ _ => rfl) (lk_R hL) (lr_row hL) ?_
    refine g_bipush h (i := 26) rfl (v := 33) (by rfl) ?_
    refine g_aload_n h (i := 27) rfl rfl ?_
    refine g_bipush h (i := 28) rfl (v := 32) (by rfl) ?_
    refine g_callVx h hq (i := 29) rfl mv_X10_97 cls10 (lk_R hL) (ct_X10_rowAt l E w a 32 _ _ hlo hL (vpD (by decide)) (by rfl)) rfl rfl ⟨rfl, rfl, Nat.le_of_ble_eq_true rfl, Nat.le_of_ble_eq_true rfl⟩ (Nat.le_of_ble_eq_true rfl) ⟨Nat.zero_le _, Nat.zero_le _⟩ ?_
    refine g_eqi (nI (p - 1)) (by rw [up1_s, hm, lN_32 (by omega)]) ?_
    refine g_iadd h (i := 30) rfl ?_
    refine g_eqi (nI (33 + (p - 1))) (nI_add 33 (p - 1)) ?_
    refine g_lald h (i := 31) rfl (lq_row hL) (vp_in_nI (by omega) (by omega)) ?_
    refine g_eql _ (sRow_jx _ _ _ (n := 33 + (p - 1)) (nI_clamp (by omega))) ?_
    refine g_eql (r (33 + (p - 1))) (up1_k (by omega)) ?_
    refine g_last h (i := 32) rfl (lq_row hL) (vpD (by decide)) ?_
    refine g_w _ (sRow_ux _ _ _ _ (n := 30) (by rfl)) ?_
    exact g_vret hq h (i := 33) rfl (⟨rfl, by unfold backR; rw [if_neg (fun q => c_9 ((lg_cmp_eq _ _).mpr q)), hp, pN_l (by omega)]⟩)
  · skip
    refine g_aload_n h (i := 7) rfl rfl ?_
    refine g_getR h (i := 8) rfl fl_X10_7 (fun _ _ _ => rfl) (lk_R hL) (lr_row hL) ?_
    refine g_bipush h (i := 9) rfl (v := 28) (by rfl) ?_
    refine g_ldc2 h (i := 10) rfl k_X10_168 ?_
    refine g_last h (i := 11) rfl (lq_row hL) (vpD (by decide)) ?_
    refine g_w _ (sRow_ux _ _ _ _ (n := 28) (by rfl)) ?_
    refine g_goto h (i := 12) 57 rfl rfl ?_
    exact g_vret hq h (i := 33) rfl (⟨rfl, by unfold backR; rw [if_pos ((lg_cmp_eq _ _).mp c_9)]⟩)
-- an input
set_option maxRecDepth 100000 in
set_option maxHeartbeats 4000000 in
theorem ct_X10_isOn (l : Launch) (E : EE) (w : Wd) (a : Nat) (r : Nat → Int64) (i : Int32) (hlo : E.2.2 ≤ wN (sRow w a r)) (hL : LayR w a) (hi : i ≠ -1 → ∃ n, n < 8 ∧ i = nI n) : Ct l E yX10_isOn cX10_isOn 2 (some .boolean) ({ frames := 0, cells := 0, slots := 0, locals := 0 } : Room) [.ref a, .int i] (sRow w a r) 0 0 (Px (some (.int (bI (onP r i)))) (sRow w a r)) := by
  refine ct_in (il := il_X10_isOn) (by decide) dk_X10_isOn (Nat.le_of_ble_eq_true rfl) hlo ?_
  intro X h hq

  refine g_iload_n h (i := 0) rfl rfl ?_
  refine g_iconst h (i := 1) rfl (v := -1) (by rfl) ?_
  refine g_icmp_eq h (i := 2) 22 rfl rfl (fun c_2 => ?_) (fun c_2 => ?_)
  · skip
    refine g_iconst h (i := 14) rfl (v := 0) (by rfl) ?_
    exact g_zret hq h (i := 15) rfl (rfl) (⟨rF (fun q => q.1 c_2), rfl⟩)
  · skip
    obtain ⟨n, hn, he⟩ := hi c_2
    refine g_aload_n h (i := 3) rfl rfl ?_
    refine g_getR h (i := 4) rfl fl_X10_7 (fun _ _ _ => rfl) (lk_R hL) (lr_row hL) ?_
    refine g_iconst h (i := 5) rfl (v := 4) (by rfl) ?_
    refine g_iload_n h (i := 6) rfl rfl ?_
    refine g_iadd h (i := 7) rfl ?_
    refine g_eqi (nI (4 + n)) (by rw [he]; exact nI_add 4 n) ?_
    refine g_lald h (i := 8) rfl (lq_row hL) (vp_in_nI (by omega) (by omega)) ?_
    refine g_eql _ (sRow_jx _ _ _ (n := 4 + n) (nI_clamp (by omega))) ?_
    refine g_lconst h (i := 9) rfl (v := 1) (by rfl) ?_
    refine g_lcmp h (i := 10) rfl ?_
    refine g_if_ne h (i := 11) 22 rfl rfl (fun c_15 => ?_) (fun c_15 => ?_)
    · skip
      refine g_iconst h (i := 14) rfl (v := 0) (by rfl) ?_
      exact g_zret hq h (i := 15) rfl (rfl) (⟨rF (fun q => c_15 ((lg_cmp_eq _ _).mpr (by have := q.2; rw [he, pI_n (by omega)] at this; exact this))), rfl⟩)
    · skip
      refine g_iconst h (i := 12) rfl (v := 1) (by rfl) ?_
      refine g_goto h (i := 13) 23 rfl rfl ?_
      exact g_zret hq h (i := 15) rfl (rfl) (⟨rT ⟨c_2, by rw [he, pI_n (by omega)]; exact (lg_cmp_eq _ _).mp c_15⟩, rfl⟩)
def stopR (r : Nat → Int64) : Nat → Int64 := up1 (up1 (up1 (up1 r 28 3) 31 9) 46 0) 47 0
-- stop
set_option maxRecDepth 100000 in
set_option maxHeartbeats 4000000 in
theorem ct_X10_stop (l : Launch) (E : EE) (w : Wd) (a : Nat) (r : Nat → Int64) (hlo : E.2.2 ≤ wN (sRow w a r)) (hL : LayR w a) : Ct l E yX10_stop cX10_stop 1 (some .int) ({ frames := 1, cells := 0, slots := 0, locals := 20 } : Room) [.ref a] (sRow w a r) 0 0 (Px (some (.int (if r 28 = 1 then 1 else -3))) (sRow w a (if r 28 = 1 then stopR r else r))) := by
  refine ct_in (il := il_X10_stop) (by decide) dk_X10_stop (Nat.le_of_ble_eq_true rfl) hlo ?_
  intro X h hq

  refine g_aload_n h (i := 0) rfl rfl ?_
  refine g_callVx h hq (i := 1) rfl mv_X10_91 cls10 (lk_R hL) (ct_X10_isGoing l E w a r hlo hL) rfl rfl ⟨rfl, rfl, Nat.le_of_ble_eq_true rfl, Nat.le_of_ble_eq_true rfl⟩ (Nat.le_of_ble_eq_true rfl) ⟨Nat.zero_le _, Nat.zero_le _⟩ ?_
  refine g_if_ne h (i := 2) 10 rfl rfl (fun c_4 => ?_) (fun c_4 => ?_)
  · skip
    refine g_aload_n h (i := 5) rfl rfl ?_
    refine g_getR h (i := 6) rfl fl_X10_7 (fun _ _ _ => rfl) (lk_R hL) (lr_row hL) ?_
    refine g_bipush h (i := 7) rfl (v := 28) (by rfl) ?_
    refine g_ldc2 h (i := 8) rfl k_X10_214 ?_
    refine g_last h (i := 9) rfl (lq_row hL) (vpD (by decide)) ?_
    refine g_w _ (sRow_ux _ _ _ _ (n := 28) (by rfl)) ?_
    refine g_aload_n h (i := 10) rfl rfl ?_
    refine g_getR h (i := 11) rfl fl_X10_7 (fun _ _ _ => rfl) (lk_R hL) (lr_row hL) ?_
    refine g_bipush h (i := 12) rfl (v := 31) (by rfl) ?_
    refine g_ldc2 h (i := 13) rfl k_X10_258 ?_
    refine g_last h (i := 14) rfl (lq_row hL) (vpD (by decide)) ?_
    refine g_w _ (sRow_ux _ _ _ _ (n := 31) (by rfl)) ?_
    refine g_aload_n h (i := 15) rfl rfl ?_
    refine g_getR h (i := 16) rfl fl_X10_7 (fun _ _ _ => rfl) (lk_R hL) (lr_row hL) ?_
    refine g_bipush h (i := 17) rfl (v := 46) (by rfl) ?_
    refine g_lconst h (i := 18) rfl (v := 0) (by rfl) ?_
    refine g_last h (i := 19) rfl (lq_row hL) (vpD (by decide)) ?_
    refine g_w _ (sRow_ux _ _ _ _ (n := 46) (by rfl)) ?_
    refine g_aload_n h (i := 20) rfl rfl ?_
    refine g_getR h (i := 21) rfl fl_X10_7 (fun _ _ _ => rfl) (lk_R hL) (lr_row hL) ?_
    refine g_bipush h (i := 22) rfl (v := 47) (by rfl) ?_
    refine g_lconst h (i := 23) rfl (v := 0) (by rfl) ?_
    refine g_last h (i := 24) rfl (lq_row hL) (vpD (by decide)) ?_
    refine g_w _ (sRow_ux _ _ _ _ (n := 47) (by rfl)) ?_
    refine g_iconst h (i := 25) rfl (v := 1) (by rfl) ?_
    exact g_iret hq h (i := 26) rfl (⟨by rw [if_pos (bI_1.mp c_4)], by rw [if_pos (bI_1.mp c_4)]; rfl⟩)
  · skip
    refine g_bipush h (i := 3) rfl (v := -3) (by rfl) ?_
    exact g_iret hq h (i := 4) rfl (⟨by rw [if_neg (bI_0.mp c_4)], by rw [if_neg (bI_0.mp c_4)]⟩)
