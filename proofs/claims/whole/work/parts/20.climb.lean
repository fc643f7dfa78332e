def climbV (t p r : Int32) : Int64 := if t ≤ (if 0 < r then p / r else 0) then r.toInt64 * t.toInt64 * (t + 1).toInt64 / 2 else r.toInt64 * (if 0 < r then p / r else 0).toInt64 * ((if 0 < r then p / r else 0) + 1).toInt64 / 2 + p.toInt64 * (t - (if 0 < r then p / r else 0)).toInt64
set_option maxRecDepth 100000 in
set_option maxHeartbeats 4000000 in
theorem ct_X4_climb (l : Launch) (E : EE) (w : Wd) (t p r : Int32) (hlo : E.2.2 ≤ wN w) : Ct l E yX4_climb cX4_climb 4 (some .long) ({ frames := 0, cells := 0, slots := 0, locals := 0 } : Room) [.int t, .int p, .int r] w 0 0 (Px (some (.long (climbV t p r))) w) := by
  refine ct_in (il := il_X4_climb) (by decide) dk_X4_climb (Nat.le_of_ble_eq_true rfl) hlo ?_
  intro X h hq
  refine g_iload_n h (i := 0) rfl rfl ?_
  refine g_if_le h (i := 1) 10 rfl rfl (fun c_1 => ?_) (fun c_1 => ?_)
  · skip
    refine g_iconst h (i := 6) rfl (v := 0) (by rfl) ?_
    refine g_istore_n h (i := 7) rfl hq rfl ?_
    refine g_iload_n h (i := 8) rfl rfl ?_
    refine g_iload_n h (i := 9) rfl rfl ?_
    refine g_icmp_gt h (i := 10) 32 rfl rfl (fun c_14 => ?_) (fun c_14 => ?_)
    · skip
      refine g_iload_n h (i := 24) rfl rfl ?_
      refine g_i2l h (i := 25) rfl ?_
      refine g_iload_n h (i := 26) rfl rfl ?_
      refine g_i2l h (i := 27) rfl ?_
      refine g_lmul h (i := 28) rfl ?_
      refine g_iload_n h (i := 29) rfl rfl ?_
      refine g_iconst h (i := 30) rfl (v := 1) (by rfl) ?_
      refine g_iadd h (i := 31) rfl ?_
      refine g_i2l h (i := 32) rfl ?_
      refine g_lmul h (i := 33) rfl ?_
      refine g_ldc2 h (i := 34) rfl k_X4_59 ?_
      refine g_ldiv h (i := 35) rfl (by decide) ?_
      refine g_iload_n h (i := 36) rfl rfl ?_
      refine g_i2l h (i := 37) rfl ?_
      refine g_iload_n h (i := 38) rfl rfl ?_
      refine g_iload_n h (i := 39) rfl rfl ?_
      refine g_isub h (i := 40) rfl ?_
      refine g_i2l h (i := 41) rfl ?_
      refine g_lmul h (i := 42) rfl ?_
      refine g_ladd h (i := 43) rfl ?_
      exact g_lret hq h (i := 44) rfl (⟨by unfold climbV; simp only [*]; first | rfl | simp [*], rfl⟩)
    · skip
      refine g_iload_n h (i := 11) rfl rfl ?_
      refine g_i2l h (i := 12) rfl ?_
      refine g_iload_n h (i := 13) rfl rfl ?_
      refine g_i2l h (i := 14) rfl ?_
      refine g_lmul h (i := 15) rfl ?_
      refine g_iload_n h (i := 16) rfl rfl ?_
      refine g_iconst h (i := 17) rfl (v := 1) (by rfl) ?_
      refine g_iadd h (i := 18) rfl ?_
      refine g_i2l h (i := 19) rfl ?_
      refine g_lmul h (i := 20) rfl ?_
      refine g_ldc2 h (i := 21) rfl k_X4_59 ?_
      refine g_ldiv h (i := 22) rfl (by decide) ?_
      exact g_lret hq h (i := 23) rfl (⟨by unfold climbV; simp only [*]; first | rfl | simp [*], rfl⟩)
  · skip
    refine g_iload_n h (i := 2) rfl rfl ?_
    refine g_iload_n h (i := 3) rfl rfl ?_
    refine g_idiv h (i := 4) rfl (by decide) ?_
    refine g_goto h (i := 5) 11 rfl rfl ?_
    refine g_istore_n h (i := 7) rfl hq rfl ?_
    refine g_iload_n h (i := 8) rfl rfl ?_
    refine g_iload_n h (i := 9) rfl rfl ?_
    refine g_icmp_gt h (i := 10) 32 rfl rfl (fun c_14 => ?_) (fun c_14 => ?_)
    · skip
      refine g_iload_n h (i := 24) rfl rfl ?_
      refine g_i2l h (i := 25) rfl ?_
      refine g_iload_n h (i := 26) rfl rfl ?_
      refine g_i2l h (i := 27) rfl ?_
      refine g_lmul h (i := 28) rfl ?_
      refine g_iload_n h (i := 29) rfl rfl ?_
      refine g_iconst h (i := 30) rfl (v := 1) (by rfl) ?_
      refine g_iadd h (i := 31) rfl ?_
      refine g_i2l h (i := 32) rfl ?_
      refine g_lmul h (i := 33) rfl ?_
      refine g_ldc2 h (i := 34) rfl k_X4_59 ?_
      refine g_ldiv h (i := 35) rfl (by decide) ?_
      refine g_iload_n h (i := 36) rfl rfl ?_
      refine g_i2l h (i := 37) rfl ?_
      refine g_iload_n h (i := 38) rfl rfl ?_
      refine g_iload_n h (i := 39) rfl rfl ?_
      refine g_isub h (i := 40) rfl ?_
      refine g_i2l h (i := 41) rfl ?_
      refine g_lmul h (i := 42) rfl ?_
      refine g_ladd h (i := 43) rfl ?_
      exact g_lret hq h (i := 44) rfl (⟨by unfold climbV; simp only [*]; first | rfl | simp [*], rfl⟩)
    · skip
      refine g_iload_n h (i := 11) rfl rfl ?_
      refine g_i2l h (i := 12) rfl ?_
      refine g_iload_n h (i := 13) rfl rfl ?_
      refine g_i2l h (i := 14) rfl ?_
      refine g_lmul h (i := 15) rfl ?_
      refine g_iload_n h (i := 16) rfl rfl ?_
      refine g_iconst h (i := 17) rfl (v := 1) (by rfl) ?_
      refine g_iadd h (i := 18) rfl ?_
      refine g_i2l h (i := 19) rfl ?_
      refine g_lmul h (i := 20) rfl ?_
      refine g_ldc2 h (i := 21) rfl k_X4_59 ?_
      refine g_ldiv h (i := 22) rfl (by decide) ?_
      exact g_lret hq h (i := 23) rfl (⟨by unfold climbV; simp only [*]; first | rfl | simp [*], rfl⟩)
