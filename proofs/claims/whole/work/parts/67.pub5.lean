def trS (j : Int32) (cf : Nat → Nat → Int32) (r : Nat → Int64) : St := (if 0 ≤ j ∧ j ≤ 3 then .long (r (64 + pI j)) else .long (-1), cf, r)
-- travel
set_option maxRecDepth 100000 in
set_option maxHeartbeats 4000000 in
theorem ct_X10_travel (l : Launch) (E : EE) (w : Wd) (a : Nat) (r : Nat → Int64) (j : Int32) (hlo : E.2.2 ≤ wN (sRow w a r)) (hL : LayR w a) : Ct l E yX10_travel cX10_travel 2 (some .long) ({ frames := 2, cells := 0, slots := 0, locals := 43 } : Room) [.ref a, .int j] (sRow w a r) 0 0 (PS a w (trS j (cfW w a) r)) := by
  refine ct_in (il := il_X10_travel) (by decide) dk_X10_travel (Nat.le_of_ble_eq_true rfl) hlo ?_
  intro X h hq

  refine g_aload_n h (i := 0) rfl rfl ?_
  refine g_iload_n h (i := 1) rfl rfl ?_
  refine g_callVx h hq (i := 2) rfl mv_X10_86 cls10 (lk_R hL) (ct_X10_isJoint l E _ a j hlo) rfl rfl ⟨rfl, rfl, Nat.le_of_ble_eq_true rfl, Nat.le_of_ble_eq_true rfl⟩ (Nat.le_of_ble_eq_true rfl) ⟨Nat.zero_le _, Nat.zero_le _⟩ ?_
  refine g_if_eq h (i := 3) 20 rfl rfl (fun c_5 => ?_) (fun c_5 => ?_)
  · skip
    refine g_ldc2 h (i := 11) rfl k_X10_80 ?_
    exact g_lret hq h (i := 12) rfl (by unfold trS; rw [if_neg (bI_0.mp c_5)]; exact ⟨rfl, ri_0⟩)
  · skip
    obtain ⟨hj, hj3⟩ := jx (M := 3) (bI_1.mp c_5) (by decide)
    refine g_aload_n h (i := 4) rfl rfl ?_
    refine g_getR h (i := 5) rfl fl_X10_7 (fun _ _ _ => rfl) (lk_R hL) (lr_row hL) ?_
    refine g_bipush h (i := 6) rfl (v := 64) (by rfl) ?_
    refine g_iload_n h (i := 7) rfl rfl ?_
    refine g_iadd h (i := 8) rfl ?_
    refine g_lald h (i := 9) rfl (lq_row hL) (jin 64 _ hj (by omega) (by omega)) ?_
    refine g_eql _ (sRow_jx _ _ _ (n := 64 + pI j) (jcl 64 hj (by omega) (by omega))) ?_
    refine g_goto h (i := 10) 23 rfl rfl ?_
    exact g_lret hq h (i := 12) rfl (by unfold trS; rw [if_pos (bI_1.mp c_5)]; exact ⟨rfl, ri_0⟩)
def abO (x : Int32) (r : Nat → Int64) : Int32 := if x = 0 then (r 28).toInt32 else if x = 1 then (r 29).toInt32 else if x = 2 then (r 30).toInt32 else if x = 3 then (r 31).toInt32 else if x = 4 then (r 32).toInt32 else if x = 5 then (r 45).toInt32 else if x = 6 then (r 47).toInt32 else if x = 7 then bI (r 46 = 1) else (r 48).toInt32
theorem n8 {n : Nat} (h : n ≤ 7) : n = 0 ∨ n = 1 ∨ n = 2 ∨ n = 3 ∨ n = 4 ∨ n = 5 ∨ n = 6 ∨ n = 7 := by omega
theorem n8e (o : Int32) : (o = 0 ∨ o = 1 ∨ o = 2 ∨ o = 3 ∨ o = 4 ∨ o = 5 ∨ o = 6 ∨ o = 7) ∨ (o.toInt < 0 ∨ 7 < o.toInt) := by
  by_cases h : o.toInt < 0 ∨ 7 < o.toInt
  · exact Or.inr h
  · left
    have e : o = nI (pI o) := i32x (by unfold pI; rw [nIT (by omega)]; omega)
    have l : pI o ≤ 7 := by unfold pI; omega
    rcases n8 l with n | n | n | n | n | n | n | n
    all_goals (rw [n] at e; rw [e]; decide)
theorem n4e (o : Int32) : (o = 0 ∨ o = 1 ∨ o = 2 ∨ o = 3) ∨ (o.toInt < 0 ∨ 3 < o.toInt) := by
  by_cases h : o.toInt < 0 ∨ 3 < o.toInt
  · exact Or.inr h
  · left
    have e : o = nI (pI o) := i32x (by unfold pI; rw [nIT (by omega)]; omega)
    have l : pI o ≤ 3 := by unfold pI; omega
    have : pI o = 0 ∨ pI o = 1 ∨ pI o = 2 ∨ pI o = 3 := by omega
    rcases this with n | n | n | n
    all_goals (rw [n] at e; rw [e]; decide)
/-- about: one number -/
def abS (x : Int32) (cf : Nat → Nat → Int32) (r : Nat → Int64) : St := (.int (if 0 ≤ x ∧ x ≤ 8 then abO x r else -2), cf, r)
-- about of
set_option maxRecDepth 100000 in
set_option maxHeartbeats 4000000 in
theorem ct_X10_aboutOf (l : Launch) (E : EE) (w : Wd) (a : Nat) (r : Nat → Int64) (x : Int32) (hlo : E.2.2 ≤ wN (sRow w a r)) (hL : LayR w a) : Ct l E yX10_aboutOf cX10_aboutOf 2 (some .int) ({ frames := 1, cells := 0, slots := 0, locals := 21 } : Room) [.ref a, .int x] (sRow w a r) 0 0 (Px (some (.int (abO x r))) (sRow w a r)) := by
  refine ct_in (il := il_X10_aboutOf) (by decide) dk_X10_aboutOf (Nat.le_of_ble_eq_true rfl) hlo ?_
  intro X h hq

  rcases n8e x with hsw | hsw
  · skip
    refine g_iload_n h (i := 0) rfl rfl ?_
    rcases hsw with e | e | e | e | e | e | e | e
    · skip
      subst e
      refine g_tin h (i := 1) 48 rfl (by decide) (by decide) rfl rfl ?_
      refine g_aload_n h (i := 2) rfl rfl ?_
      refine g_bipush h (i := 3) rfl (v := 28) (by rfl) ?_
      refine g_callVx h hq (i := 4) rfl mv_X10_97 cls10 (lk_R hL) (ct_X10_rowAt l E w a 28 _ _ hlo hL (vpD (by decide)) (by rfl)) rfl rfl ⟨rfl, rfl, Nat.le_of_ble_eq_true rfl, Nat.le_of_ble_eq_true rfl⟩ (Nat.le_of_ble_eq_true rfl) ⟨Nat.zero_le _, Nat.zero_le _⟩ ?_
      exact g_iret hq h (i := 5) rfl (⟨by unfold abO; rw [if_pos rfl], rfl⟩)
    · skip
      subst e
      refine g_tin h (i := 1) 55 rfl (by decide) (by decide) rfl rfl ?_
      refine g_aload_n h (i := 6) rfl rfl ?_
      refine g_bipush h (i := 7) rfl (v := 29) (by rfl) ?_
      refine g_callVx h hq (i := 8) rfl mv_X10_97 cls10 (lk_R hL) (ct_X10_rowAt l E w a 29 _ _ hlo hL (vpD (by decide)) (by rfl)) rfl rfl ⟨rfl, rfl, Nat.le_of_ble_eq_true rfl, Nat.le_of_ble_eq_true rfl⟩ (Nat.le_of_ble_eq_true rfl) ⟨Nat.zero_le _, Nat.zero_le _⟩ ?_
      exact g_iret hq h (i := 9) rfl (⟨by unfold abO; rw [if_neg (by decide), if_pos rfl], rfl⟩)
    · skip
      subst e
      refine g_tin h (i := 1) 62 rfl (by decide) (by decide) rfl rfl ?_
      refine g_aload_n h (i := 10) rfl rfl ?_
      refine g_bipush h (i := 11) rfl (v := 30) (by rfl) ?_
      refine g_callVx h hq (i := 12) rfl mv_X10_97 cls10 (lk_R hL) (ct_X10_rowAt l E w a 30 _ _ hlo hL (vpD (by decide)) (by rfl)) rfl rfl ⟨rfl, rfl, Nat.le_of_ble_eq_true rfl, Nat.le_of_ble_eq_true rfl⟩ (Nat.le_of_ble_eq_true rfl) ⟨Nat.zero_le _, Nat.zero_le _⟩ ?_
      exact g_iret hq h (i := 13) rfl (⟨by unfold abO; rw [if_neg (by decide), if_neg (by decide), if_pos rfl], rfl⟩)
    · skip
      subst e
      refine g_tin h (i := 1) 69 rfl (by decide) (by decide) rfl rfl ?_
      refine g_aload_n h (i := 14) rfl rfl ?_
      refine g_bipush h (i := 15) rfl (v := 31) (by rfl) ?_
      refine g_callVx h hq (i := 16) rfl mv_X10_97 cls10 (lk_R hL) (ct_X10_rowAt l E w a 31 _ _ hlo hL (vpD (by decide)) (by rfl)) rfl rfl ⟨rfl, rfl, Nat.le_of_ble_eq_true rfl, Nat.le_of_ble_eq_true rfl⟩ (Nat.le_of_ble_eq_true rfl) ⟨Nat.zero_le _, Nat.zero_le _⟩ ?_
      exact g_iret hq h (i := 17) rfl (⟨by unfold abO; rw [if_neg (by decide), if_neg (by decide), if_neg (by decide), if_pos rfl], rfl⟩)
    · skip
      subst e
      refine g_tin h (i := 1) 76 rfl (by decide) (by decide) rfl rfl ?_
      refine g_aload_n h (i := 18) rfl rfl ?_
      refine g_bipush h (i := 19) rfl (v := 32) (by rfl) ?_
      refine g_callVx h hq (i := 20) rfl mv_X10_97 cls10 (lk_R hL) (ct_X10_rowAt l E w a 32 _ _ hlo hL (vpD (by decide)) (by rfl)) rfl rfl ⟨rfl, rfl, Nat.le_of_ble_eq_true rfl, Nat.le_of_ble_eq_true rfl⟩ (Nat.le_of_ble_eq_true rfl) ⟨Nat.zero_le _, Nat.zero_le _⟩ ?_
      exact g_iret hq h (i := 21) rfl (⟨by unfold abO; rw [if_neg (by decide), if_neg (by decide), if_neg (by decide), if_neg (by decide), if_pos rfl], rfl⟩)
    · skip
      subst e
      refine g_tin h (i := 1) 83 rfl (by decide) (by decide) rfl rfl ?_
      refine g_aload_n h (i := 22) rfl rfl ?_
      refine g_bipush h (i := 23) rfl (v := 45) (by rfl) ?_
      refine g_callVx h hq (i := 24) rfl mv_X10_97 cls10 (lk_R hL) (ct_X10_rowAt l E w a 45 _ _ hlo hL (vpD (by decide)) (by rfl)) rfl rfl ⟨rfl, rfl, Nat.le_of_ble_eq_true rfl, Nat.le_of_ble_eq_true rfl⟩ (Nat.le_of_ble_eq_true rfl) ⟨Nat.zero_le _, Nat.zero_le _⟩ ?_
      exact g_iret hq h (i := 25) rfl (⟨by unfold abO; rw [if_neg (by decide), if_neg (by decide), if_neg (by decide), if_neg (by decide), if_neg (by decide), if_pos rfl], rfl⟩)
    · skip
      subst e
      refine g_tin h (i := 1) 90 rfl (by decide) (by decide) rfl rfl ?_
      refine g_aload_n h (i := 26) rfl rfl ?_
      refine g_bipush h (i := 27) rfl (v := 47) (by rfl) ?_
      refine g_callVx h hq (i := 28) rfl mv_X10_97 cls10 (lk_R hL) (ct_X10_rowAt l E w a 47 _ _ hlo hL (vpD (by decide)) (by rfl)) rfl rfl ⟨rfl, rfl, Nat.le_of_ble_eq_true rfl, Nat.le_of_ble_eq_true rfl⟩ (Nat.le_of_ble_eq_true rfl) ⟨Nat.zero_le _, Nat.zero_le _⟩ ?_
      exact g_iret hq h (i := 29) rfl (⟨by unfold abO; rw [if_neg (by decide), if_neg (by decide), if_neg (by decide), if_neg (by decide), if_neg (by decide), if_neg (by decide), if_pos rfl], rfl⟩)
    · skip
      subst e
      refine g_tin h (i := 1) 97 rfl (by decide) (by decide) rfl rfl ?_
      refine g_aload_n h (i := 30) rfl rfl ?_
      refine g_getR h (i := 31) rfl fl_X10_7 (fun _ _ _ => rfl) (lk_R hL) (lr_row hL) ?_
      refine g_bipush h (i := 32) rfl (v := 46) (by rfl) ?_
      refine g_lald h (i := 33) rfl (lq_row hL) (vpD (by decide)) ?_
      refine g_eql _ (sRow_jx _ _ _ (n := 46) (by rfl)) ?_
      refine g_lconst h (i := 34) rfl (v := 1) (by rfl) ?_
      refine g_lcmp h (i := 35) rfl ?_
      refine g_if_ne h (i := 36) 113 rfl rfl (fun c_106 => ?_) (fun c_106 => ?_)
      · skip
        refine g_iconst h (i := 39) rfl (v := 0) (by rfl) ?_
        exact g_iret hq h (i := 40) rfl (⟨by unfold abO; rw [if_neg (by decide), if_neg (by decide), if_neg (by decide), if_neg (by decide), if_neg (by decide), if_neg (by decide), if_neg (by decide), if_pos rfl]; exact rF (fun q => c_106 ((lg_cmp_eq _ _).mpr q)), rfl⟩)
      · skip
        refine g_iconst h (i := 37) rfl (v := 1) (by rfl) ?_
        refine g_goto h (i := 38) 114 rfl rfl ?_
        exact g_iret hq h (i := 40) rfl (⟨by unfold abO; rw [if_neg (by decide), if_neg (by decide), if_neg (by decide), if_neg (by decide), if_neg (by decide), if_neg (by decide), if_neg (by decide), if_pos rfl]; exact rT ((lg_cmp_eq _ _).mp c_106), rfl⟩)
  · skip
    refine g_iload_n h (i := 0) rfl rfl ?_
    skip
    · skip
      skip
      refine g_tout h (i := 1) 115 rfl (hsw) rfl ?_
      refine g_aload_n h (i := 41) rfl rfl ?_
      refine g_bipush h (i := 42) rfl (v := 48) (by rfl) ?_
      refine g_callVx h hq (i := 43) rfl mv_X10_97 cls10 (lk_R hL) (ct_X10_rowAt l E w a 48 _ _ hlo hL (vpD (by decide)) (by rfl)) rfl rfl ⟨rfl, rfl, Nat.le_of_ble_eq_true rfl, Nat.le_of_ble_eq_true rfl⟩ (Nat.le_of_ble_eq_true rfl) ⟨Nat.zero_le _, Nat.zero_le _⟩ ?_
      exact g_iret hq h (i := 44) rfl (⟨by unfold abO; rw [if_neg (fun q => by subst q; exact absurd hsw (by decide)), if_neg (fun q => by subst q; exact absurd hsw (by decide)), if_neg (fun q => by subst q; exact absurd hsw (by decide)), if_neg (fun q => by subst q; exact absurd hsw (by decide)), if_neg (fun q => by subst q; exact absurd hsw (by decide)), if_neg (fun q => by subst q; exact absurd hsw (by decide)), if_neg (fun q => by subst q; exact absurd hsw (by decide)), if_neg (fun q => by subst q; exact absurd hsw (by decide))], rfl⟩)
-- about
set_option maxRecDepth 100000 in
set_option maxHeartbeats 4000000 in
theorem ct_X10_about (l : Launch) (E : EE) (w : Wd) (a : Nat) (r : Nat → Int64) (x : Int32) (hlo : E.2.2 ≤ wN (sRow w a r)) (hL : LayR w a) : Ct l E yX10_about cX10_about 2 (some .int) ({ frames := 2, cells := 0, slots := 0, locals := 42 } : Room) [.ref a, .int x] (sRow w a r) 0 0 (PS a w (abS x (cfW w a) r)) := by
  refine ct_in (il := il_X10_about) (by decide) dk_X10_about (Nat.le_of_ble_eq_true rfl) hlo ?_
  intro X h hq

  refine g_iload_n h (i := 0) rfl rfl ?_
  refine g_iconst h (i := 1) rfl (v := 0) (by rfl) ?_
  refine g_bipush h (i := 2) rfl (v := 8) (by rfl) ?_
  refine g_callSx h hq (i := 3) rfl ms_X10_82 (ct_X10_in l E _ x (0) (8) hlo) rfl rfl ⟨rfl, rfl, Nat.le_of_ble_eq_true rfl, Nat.le_of_ble_eq_true rfl⟩ (Nat.le_of_ble_eq_true rfl) ⟨Nat.zero_le _, Nat.zero_le _⟩ ?_
  refine g_if_eq h (i := 4) 18 rfl rfl (fun c_7 => ?_) (fun c_7 => ?_)
  · skip
    refine g_bipush h (i := 9) rfl (v := -2) (by rfl) ?_
    exact g_iret hq h (i := 10) rfl (by unfold abS; rw [if_neg (bI_0.mp c_7)]; exact ⟨rfl, ri_0⟩)
  · skip
    refine g_aload_n h (i := 5) rfl rfl ?_
    refine g_iload_n h (i := 6) rfl rfl ?_
    refine g_callVx h hq (i := 7) rfl mv_X10_260 cls10 (lk_R hL) (ct_X10_aboutOf l E w a r x hlo hL) rfl rfl ⟨rfl, rfl, Nat.le_of_ble_eq_true rfl, Nat.le_of_ble_eq_true rfl⟩ (Nat.le_of_ble_eq_true rfl) ⟨Nat.zero_le _, Nat.zero_le _⟩ ?_
    refine g_goto h (i := 8) 20 rfl rfl ?_
    exact g_iret hq h (i := 10) rfl (by unfold abS; rw [if_pos (bI_1.mp c_7)]; exact ⟨rfl, ri_0⟩)
def atA (x i : Int32) (r : Nat → Int64) : Int32 := if (0 ≤ x ∧ x ≤ 2) ∧ (0 ≤ i ∧ i ≤ 7) then (if x = 0 then (r (12 + pI i)).toInt32 else if x = 1 then (r (20 + pI i)).toInt32 else (r (4 + pI i)).toInt32) else -2000000
-- at
set_option maxRecDepth 100000 in
set_option maxHeartbeats 4000000 in
theorem ct_X10_at (l : Launch) (E : EE) (w : Wd) (a : Nat) (r : Nat → Int64) (x i : Int32) (hlo : E.2.2 ≤ wN (sRow w a r)) (hL : LayR w a) : Ct l E yX10_at cX10_at 3 (some .int) ({ frames := 1, cells := 0, slots := 0, locals := 22 } : Room) [.ref a, .int x, .int i] (sRow w a r) 0 0 (Px (some (.int (atA x i r))) (sRow w a r)) := by
  refine ct_in (il := il_X10_at) (by decide) dk_X10_at (Nat.le_of_ble_eq_true rfl) hlo ?_
  intro X h hq

  refine g_iload_n h (i := 0) rfl rfl ?_
  refine g_iconst h (i := 1) rfl (v := 0) (by rfl) ?_
  refine g_iconst h (i := 2) rfl (v := 2) (by rfl) ?_
  refine g_callSx h hq (i := 3) rfl ms_X10_82 (ct_X10_in l E _ x (0) (2) hlo) rfl rfl ⟨rfl, rfl, Nat.le_of_ble_eq_true rfl, Nat.le_of_ble_eq_true rfl⟩ (Nat.le_of_ble_eq_true rfl) ⟨Nat.zero_le _, Nat.zero_le _⟩ ?_
  refine g_if_eq h (i := 4) 19 rfl rfl (fun c_6 => ?_) (fun c_6 => ?_)
  · skip
    refine g_ldc h (i := 10) rfl k_X10_101 ?_
    refine g_goto h (i := 11) 54 rfl rfl ?_
    exact g_iret hq h (i := 30) rfl (⟨by unfold atA; rw [if_neg (fun q => bI_0.mp c_6 q.1)], rfl⟩)
  · skip
    refine g_iload_n h (i := 5) rfl rfl ?_
    refine g_iconst h (i := 6) rfl (v := 0) (by rfl) ?_
    refine g_bipush h (i := 7) rfl (v := 7) (by rfl) ?_
    refine g_callSx h hq (i := 8) rfl ms_X10_82 (ct_X10_in l E _ i (0) (7) hlo) rfl rfl ⟨rfl, rfl, Nat.le_of_ble_eq_true rfl, Nat.le_of_ble_eq_true rfl⟩ (Nat.le_of_ble_eq_true rfl) ⟨Nat.zero_le _, Nat.zero_le _⟩ ?_
    refine g_if_ne h (i := 9) 24 rfl rfl (fun c_16 => ?_) (fun c_16 => ?_)
    · skip
      obtain ⟨hj, hj3⟩ := jx (M := 7) (bI_1.mp c_16) (by decide)
      refine g_aload_n h (i := 12) rfl rfl ?_
      refine g_iload_n h (i := 13) rfl rfl ?_
      refine g_if_ne h (i := 14) 36 rfl rfl (fun c_26 => ?_) (fun c_26 => ?_)
      · skip
        refine g_iload_n h (i := 19) rfl rfl ?_
        refine g_iconst h (i := 20) rfl (v := 1) (by rfl) ?_
        refine g_icmp_ne h (i := 21) 48 rfl rfl (fun c_38 => ?_) (fun c_38 => ?_)
        · skip
          refine g_iconst h (i := 26) rfl (v := 4) (by rfl) ?_
          refine g_iload_n h (i := 27) rfl rfl ?_
          refine g_iadd h (i := 28) rfl ?_
          refine g_eqi (nI (4 + pI i)) (jadd 4 hj) ?_
          refine g_callVx h hq (i := 29) rfl mv_X10_97 cls10 (lk_R hL) (ct_X10_rowAt l E w a (4 + pI i) r _ hlo hL (vp_in_nI (by omega) (by omega)) (nI_clamp (by omega))) rfl rfl ⟨rfl, rfl, Nat.le_of_ble_eq_true rfl, Nat.le_of_ble_eq_true rfl⟩ (Nat.le_of_ble_eq_true rfl) ⟨Nat.zero_le _, Nat.zero_le _⟩ ?_
          exact g_iret hq h (i := 30) rfl (⟨by unfold atA; rw [if_pos ⟨bI_1.mp c_6, bI_1.mp c_16⟩, if_neg c_26, if_neg c_38], rfl⟩)
        · skip
          refine g_bipush h (i := 22) rfl (v := 20) (by rfl) ?_
          refine g_iload_n h (i := 23) rfl rfl ?_
          refine g_iadd h (i := 24) rfl ?_
          refine g_goto h (i := 25) 51 rfl rfl ?_
          refine g_eqi (nI (20 + pI i)) (jadd 20 hj) ?_
          refine g_callVx h hq (i := 29) rfl mv_X10_97 cls10 (lk_R hL) (ct_X10_rowAt l E w a (20 + pI i) r _ hlo hL (vp_in_nI (by omega) (by omega)) (nI_clamp (by omega))) rfl rfl ⟨rfl, rfl, Nat.le_of_ble_eq_true rfl, Nat.le_of_ble_eq_true rfl⟩ (Nat.le_of_ble_eq_true rfl) ⟨Nat.zero_le _, Nat.zero_le _⟩ ?_
          exact g_iret hq h (i := 30) rfl (⟨by unfold atA; rw [if_pos ⟨bI_1.mp c_6, bI_1.mp c_16⟩, if_neg c_26, if_pos c_38], rfl⟩)
      · skip
        refine g_bipush h (i := 15) rfl (v := 12) (by rfl) ?_
        refine g_iload_n h (i := 16) rfl rfl ?_
        refine g_iadd h (i := 17) rfl ?_
        refine g_goto h (i := 18) 51 rfl rfl ?_
        refine g_eqi (nI (12 + pI i)) (jadd 12 hj) ?_
        refine g_callVx h hq (i := 29) rfl mv_X10_97 cls10 (lk_R hL) (ct_X10_rowAt l E w a (12 + pI i) r _ hlo hL (vp_in_nI (by omega) (by omega)) (nI_clamp (by omega))) rfl rfl ⟨rfl, rfl, Nat.le_of_ble_eq_true rfl, Nat.le_of_ble_eq_true rfl⟩ (Nat.le_of_ble_eq_true rfl) ⟨Nat.zero_le _, Nat.zero_le _⟩ ?_
        exact g_iret hq h (i := 30) rfl (⟨by unfold atA; rw [if_pos ⟨bI_1.mp c_6, bI_1.mp c_16⟩, if_pos c_26], rfl⟩)
    · skip
      refine g_ldc h (i := 10) rfl k_X10_101 ?_
      refine g_goto h (i := 11) 54 rfl rfl ?_
      exact g_iret hq h (i := 30) rfl (⟨by unfold atA; rw [if_neg (fun q => bI_0.mp c_16 q.2)], rfl⟩)
def cnN (f : Nat → Int32) : Nat → Nat
  | 0 => 0
  | n + 1 => cnN f n + (if f n = 0 then 0 else 1)
theorem cn_le (f : Nat → Int32) : ∀ n, cnN f n ≤ n
  | 0 => Nat.le_refl _
  | n + 1 => by
    have := cn_le f n
    unfold cnN
    by_cases e : f n = 0
    · rw [if_pos e]; omega
    · rw [if_neg e]; omega
theorem cn_0 {f : Nat → Int32} {n : Nat} (h : f n = 0) : nI (cnN f n) + 0 = nI (cnN f (n + 1)) := by
  rw [Int32.add_zero]
  exact congrArg nI (show cnN f n = cnN f n + (if f n = 0 then 0 else 1) by rw [if_pos h, Nat.add_zero])
theorem cn_1 {f : Nat → Int32} {n : Nat} (h : ¬ f n = 0) : nI (cnN f n) + 1 = nI (cnN f (n + 1)) := by
  rw [nI_1 (cnN f n)]
  exact congrArg nI (show cnN f n + 1 = cnN f n + (if f n = 0 then 0 else 1) by rw [if_neg h])
def coA (x : Int32) (cf : Nat → Nat → Int32) : Int32 := if x = 0 then cf 0 12 else if x = 1 then cf 0 16 else if x = 2 then nI (cnN (cf 9) 4) else if x = 3 then nI (cnN (cf 11) 16) else -2
-- count
set_option maxRecDepth 100000 in
set_option maxHeartbeats 4000000 in
theorem ct_X10_count (l : Launch) (E : EE) (w : Wd) (a : Nat) (r : Nat → Int64) (x : Int32) (hlo : E.2.2 ≤ wN (sRow w a r)) (hL : LayR w a) : Ct l E yX10_count cX10_count 4 (some .int) ({ frames := 0, cells := 0, slots := 0, locals := 0 } : Room) [.ref a, .int x] (sRow w a r) 0 0 (Px (some (.int (coA x (cfW w a)))) (sRow w a r)) := by
  refine ct_in (il := il_X10_count) (by decide) dk_X10_count (Nat.le_of_ble_eq_true rfl) hlo ?_
  intro X h hq

  have k44 : x = 2 → ∀ (d i : Nat), i + d = 4 → G X 0 0 44 (lf [(0, .ref a), (2, .int (nI (cnN (cfW w a 9) i))), (3, .int (nI i))]) [] (sRow w a r) := by
    intro hx d
    induction d with
    | zero =>
      intro i hi
      have hi4 : i = 4 := by omega
      subst hi4
      refine g_iload_n h (i := 12) rfl rfl ?_
      refine g_iconst h (i := 13) rfl (v := 4) (by rfl) ?_
      refine g_icmp_ge h (i := 14) 72 rfl rfl (fun c_46 => ?_) (fun c_46 => absurd (by decide : (4 : Int32) ≤ nI 4) c_46)
      refine g_iload_n h (i := 28) rfl rfl ?_
      exact g_iret hq h (i := 29) rfl (⟨by rw [hx]; unfold coA; rw [if_neg (by decide), if_neg (by decide), if_pos rfl], rfl⟩)
    | succ d ih =>
      intro i hid
      have hi : i < 4 := by omega
      have hnge : ¬ (4 : Int32) ≤ nI i := nI_ge (b := 4) hi (by omega)
      have hcl : (nI i).toNatClampNeg = i := nI_clamp (by omega)
      refine g_iload_n h (i := 12) rfl rfl ?_
      refine g_iconst h (i := 13) rfl (v := 4) (by rfl) ?_
      refine g_icmp_ge h (i := 14) 72 rfl rfl (fun c_46 => absurd c_46 hnge) (fun c_46 => ?_)
      refine g_iload_n h (i := 15) rfl rfl ?_
      refine g_aload_n h (i := 16) rfl rfl ?_
      refine g_getR h (i := 17) rfl fl_X10_38 (fun _ _ _ => rfl) (lk_R hL) (lr_isBox hL) ?_
      refine g_iload_n h (i := 18) rfl rfl ?_
      refine g_zald h (i := 19) rfl (lq_isBox hL) (vp_in_nI (by omega) (by omega)) ?_
      refine g_eqi (wI w (a + 9) _) rfl ?_
      refine g_if_eq h (i := 20) 63 rfl rfl (fun c_56 => ?_) (fun c_56 => ?_)
      · skip
        refine g_iconst h (i := 23) rfl (v := 0) (by rfl) ?_
        refine g_iadd h (i := 24) rfl ?_
        refine g_istore_n h (i := 25) rfl hq rfl ?_
        refine g_iinc h (i := 26) rfl rfl (dv := 1) (by rfl) ?_
        refine g_goto h (i := 27) 44 rfl rfl ?_
        exact g_lv [(0, .ref a), (2, .int (nI (cnN (cfW w a 9) (i + 1)))), (3, .int (nI (i + 1)))] ⟨rfl, congrArg (fun z => some (Value.int z)) (cn_0 (show cfW w a 9 i = 0 by rw [hcl] at c_56; exact c_56)), congrArg (fun z => some (Value.int z)) (nI_1 i), trivial⟩ (ih (i + 1) (by omega))
      · skip
        refine g_iconst h (i := 21) rfl (v := 1) (by rfl) ?_
        refine g_goto h (i := 22) 64 rfl rfl ?_
        refine g_iadd h (i := 24) rfl ?_
        refine g_istore_n h (i := 25) rfl hq rfl ?_
        refine g_iinc h (i := 26) rfl rfl (dv := 1) (by rfl) ?_
        refine g_goto h (i := 27) 44 rfl rfl ?_
        exact g_lv [(0, .ref a), (2, .int (nI (cnN (cfW w a 9) (i + 1)))), (3, .int (nI (i + 1)))] ⟨rfl, congrArg (fun z => some (Value.int z)) (cn_1 (show ¬ cfW w a 9 i = 0 by rw [hcl] at c_56; exact c_56)), congrArg (fun z => some (Value.int z)) (nI_1 i), trivial⟩ (ih (i + 1) (by omega))
  have k76 : x = 3 → ∀ (d i : Nat), i + d = 16 → G X 0 0 76 (lf [(0, .ref a), (2, .int (nI (cnN (cfW w a 11) i))), (3, .int (nI i))]) [] (sRow w a r) := by
    intro hx d
    induction d with
    | zero =>
      intro i hi
      have hi4 : i = 16 := by omega
      subst hi4
      refine g_iload_n h (i := 32) rfl rfl ?_
      refine g_bipush h (i := 33) rfl (v := 16) (by rfl) ?_
      refine g_icmp_ge h (i := 34) 105 rfl rfl (fun c_79 => ?_) (fun c_79 => absurd (by decide : (16 : Int32) ≤ nI 16) c_79)
      refine g_iload_n h (i := 48) rfl rfl ?_
      exact g_iret hq h (i := 49) rfl (⟨by rw [hx]; unfold coA; rw [if_neg (by decide), if_neg (by decide), if_neg (by decide), if_pos rfl], rfl⟩)
    | succ d ih =>
      intro i hid
      have hi : i < 16 := by omega
      have hnge : ¬ (16 : Int32) ≤ nI i := nI_ge (b := 16) hi (by omega)
      have hcl : (nI i).toNatClampNeg = i := nI_clamp (by omega)
      refine g_iload_n h (i := 32) rfl rfl ?_
      refine g_bipush h (i := 33) rfl (v := 16) (by rfl) ?_
      refine g_icmp_ge h (i := 34) 105 rfl rfl (fun c_79 => absurd c_79 hnge) (fun c_79 => ?_)
      refine g_iload_n h (i := 35) rfl rfl ?_
      refine g_aload_n h (i := 36) rfl rfl ?_
      refine g_getR h (i := 37) rfl fl_X10_44 (fun _ _ _ => rfl) (lk_R hL) (lr_isTaught hL) ?_
      refine g_iload_n h (i := 38) rfl rfl ?_
      refine g_zald h (i := 39) rfl (lq_isTaught hL) (vp_in_nI (by omega) (by omega)) ?_
      refine g_eqi (wI w (a + 11) _) rfl ?_
      refine g_if_eq h (i := 40) 96 rfl rfl (fun c_89 => ?_) (fun c_89 => ?_)
      · skip
        refine g_iconst h (i := 43) rfl (v := 0) (by rfl) ?_
        refine g_iadd h (i := 44) rfl ?_
        refine g_istore_n h (i := 45) rfl hq rfl ?_
        refine g_iinc h (i := 46) rfl rfl (dv := 1) (by rfl) ?_
        refine g_goto h (i := 47) 76 rfl rfl ?_
        exact g_lv [(0, .ref a), (2, .int (nI (cnN (cfW w a 11) (i + 1)))), (3, .int (nI (i + 1)))] ⟨rfl, congrArg (fun z => some (Value.int z)) (cn_0 (show cfW w a 11 i = 0 by rw [hcl] at c_89; exact c_89)), congrArg (fun z => some (Value.int z)) (nI_1 i), trivial⟩ (ih (i + 1) (by omega))
      · skip
        refine g_iconst h (i := 41) rfl (v := 1) (by rfl) ?_
        refine g_goto h (i := 42) 97 rfl rfl ?_
        refine g_iadd h (i := 44) rfl ?_
        refine g_istore_n h (i := 45) rfl hq rfl ?_
        refine g_iinc h (i := 46) rfl rfl (dv := 1) (by rfl) ?_
        refine g_goto h (i := 47) 76 rfl rfl ?_
        exact g_lv [(0, .ref a), (2, .int (nI (cnN (cfW w a 11) (i + 1)))), (3, .int (nI (i + 1)))] ⟨rfl, congrArg (fun z => some (Value.int z)) (cn_1 (show ¬ cfW w a 11 i = 0 by rw [hcl] at c_89; exact c_89)), congrArg (fun z => some (Value.int z)) (nI_1 i), trivial⟩ (ih (i + 1) (by omega))
  rcases n4e x with hsw | hsw
  · skip
    refine g_iconst h (i := 0) rfl (v := 0) (by rfl) ?_
    refine g_istore_n h (i := 1) rfl hq rfl ?_
    refine g_iload_n h (i := 2) rfl rfl ?_
    rcases hsw with e | e | e | e
    · skip
      subst e
      refine g_tin h (i := 3) 32 rfl (by decide) (by decide) rfl rfl ?_
      refine g_aload_n h (i := 4) rfl rfl ?_
      refine g_getI h (i := 5) rfl fl_X10_207 (fun _ _ _ => rfl) (lk_R hL) ?_
      refine g_eqi (wI w a 12) (rfl) ?_
      exact g_iret hq h (i := 6) rfl (⟨by unfold coA; rw [if_pos rfl]; rfl, rfl⟩)
    · skip
      subst e
      refine g_tin h (i := 3) 37 rfl (by decide) (by decide) rfl rfl ?_
      refine g_aload_n h (i := 7) rfl rfl ?_
      refine g_getI h (i := 8) rfl fl_X10_211 (fun _ _ _ => rfl) (lk_R hL) ?_
      refine g_eqi (wI w a 16) (rfl) ?_
      exact g_iret hq h (i := 9) rfl (⟨by unfold coA; rw [if_neg (by decide), if_pos rfl]; rfl, rfl⟩)
    · skip
      subst e
      refine g_tin h (i := 3) 42 rfl (by decide) (by decide) rfl rfl ?_
      refine g_iconst h (i := 10) rfl (v := 0) (by rfl) ?_
      refine g_istore_n h (i := 11) rfl hq rfl ?_
      exact g_lv [(0, .ref a), (2, .int (nI (cnN (cfW w a 9) 0))), (3, .int (nI 0))] ⟨rfl, rfl, rfl, trivial⟩ (k44 rfl 4 0 (by omega))
    · skip
      subst e
      refine g_tin h (i := 3) 74 rfl (by decide) (by decide) rfl rfl ?_
      refine g_iconst h (i := 30) rfl (v := 0) (by rfl) ?_
      refine g_istore_n h (i := 31) rfl hq rfl ?_
      exact g_lv [(0, .ref a), (2, .int (nI (cnN (cfW w a 11) 0))), (3, .int (nI 0))] ⟨rfl, rfl, rfl, trivial⟩ (k76 rfl 16 0 (by omega))
  · skip
    refine g_iconst h (i := 0) rfl (v := 0) (by rfl) ?_
    refine g_istore_n h (i := 1) rfl hq rfl ?_
    refine g_iload_n h (i := 2) rfl rfl ?_
    skip
    · skip
      skip
      refine g_tout h (i := 3) 107 rfl (hsw) rfl ?_
      refine g_bipush h (i := 50) rfl (v := -2) (by rfl) ?_
      exact g_iret hq h (i := 51) rfl (⟨by unfold coA; rw [if_neg (fun q => by subst q; exact absurd hsw (by decide)), if_neg (fun q => by subst q; exact absurd hsw (by decide)), if_neg (fun q => by subst q; exact absurd hsw (by decide)), if_neg (fun q => by subst q; exact absurd hsw (by decide))], rfl⟩)
