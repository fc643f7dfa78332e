/-- the go ends by its input -/
abbrev gtB (r : Nat → Int64) : Prop := r 46 = 1 ∧ onP r (r 50).toInt32
def goesTickR (cf : Nat → Nat → Int32) (r : Nat → Int64) : Nat → Int64 := if gtB r then overR r else if r 46 = 1 then goesOnR cf r else if r 47 - 1 = 0 then overR (up1 r 47 (r 47 - 1)) else up1 r 47 (r 47 - 1)
theorem on_hi {r : Nat → Int64} {k : Nat} (h : r k = -1 ∨ isN (r k) 7) : (r k).toInt32 ≠ -1 → ∃ n, n < 8 ∧ (r k).toInt32 = nI n := fun q => by
  have g : isN (r k) 7 := h.resolve_left (fun z => q (by rw [z]; rfl))
  exact ⟨pN (r k), by have := g.2; omega, (isN_i g (by omega)).1⟩
theorem RS_L {w w3 : Wd} {a : Nat} (h : RS a w w3) : (∀ b, LayR w b → LayR w3 b) ∧ wN w3 = wN w ∧ wI w3 = wI w ∧ wK w3 = wK w ∧ wR w3 = wR w := by
  obtain ⟨J, D, rfl, -, -⟩ := h
  exact ⟨fun _ q => q, rfl, rfl, rfl, rfl⟩
theorem RS_cf {w w3 : Wd} {a : Nat} (h : RS a w w3) : cfW w3 a = cfW w a := by
  unfold cfW; rw [(RS_L h).2.2.1]
-- a tick of what is under way
set_option maxRecDepth 100000 in
set_option maxHeartbeats 4000000 in
theorem ct_X10_goesTick (l : Launch) (E : EE) (w : Wd) (a : Nat) (r : Nat → Int64) (hlo : E.2.2 ≤ wN (sRow w a r)) (hL : LayR w a) (hr : RR r) (hc : CfA (cfW w a)) : Ct l E yX10_goesTick cX10_goesTick 1 (some .boolean) ({ frames := 4, cells := 0, slots := 0, locals := 114 } : Room) [.ref a] (sRow w a r) 0 0 (fun q w2 => q = some (.int (bI (¬ gtB r))) ∧ ∃ w3, RS a w w3 ∧ w2 = sRow w3 a (goesTickR (cfW w a) r)) := by
  refine ct_in (il := il_X10_goesTick) (by decide) dk_X10_goesTick (Nat.le_of_ble_eq_true rfl) hlo ?_
  intro X h hq

  refine g_aload_n h (i := 0) rfl rfl ?_
  refine g_getR h (i := 1) rfl fl_X10_7 (fun _ _ _ => rfl) (lk_R hL) (lr_row hL) ?_
  refine g_bipush h (i := 2) rfl (v := 46) (by rfl) ?_
  refine g_lald h (i := 3) rfl (lq_row hL) (vpD (by decide)) ?_
  refine g_eql _ (sRow_jx _ _ _ (n := 46) (by rfl)) ?_
  refine g_lconst h (i := 4) rfl (v := 1) (by rfl) ?_
  refine g_lcmp h (i := 5) rfl ?_
  refine g_if_ne h (i := 6) 31 rfl rfl (fun c_9 => ?_) (fun c_9 => ?_)
  · skip
    refine g_aload_n h (i := 17) rfl rfl ?_
    refine g_getR h (i := 18) rfl fl_X10_7 (fun _ _ _ => rfl) (lk_R hL) (lr_row hL) ?_
    refine g_bipush h (i := 19) rfl (v := 46) (by rfl) ?_
    refine g_lald h (i := 20) rfl (lq_row hL) (vpD (by decide)) ?_
    refine g_eql _ (sRow_jx _ _ _ (n := 46) (by rfl)) ?_
    refine g_lconst h (i := 21) rfl (v := 1) (by rfl) ?_
    refine g_lcmp h (i := 22) rfl ?_
    refine g_if_ne h (i := 23) 50 rfl rfl (fun c_40 => ?_) (fun c_40 => ?_)
    · skip
      refine g_aload_n h (i := 27) rfl rfl ?_
      refine g_getR h (i := 28) rfl fl_X10_7 (fun _ _ _ => rfl) (lk_R hL) (lr_row hL) ?_
      refine g_bipush h (i := 29) rfl (v := 47) (by rfl) ?_
      refine g_dup2 h (i := 30) rfl rfl rfl ?_
      refine g_lald h (i := 31) rfl (lq_row hL) (vpD (by decide)) ?_
      refine g_eql _ (sRow_jx _ _ _ (n := 47) (by rfl)) ?_
      refine g_lconst h (i := 32) rfl (v := 1) (by rfl) ?_
      refine g_lsub h (i := 33) rfl ?_
      refine g_last h (i := 34) rfl (lq_row hL) (vpD (by decide)) ?_
      refine g_w _ (sRow_ux _ _ _ _ (n := 47) (by rfl)) ?_
      refine g_aload_n h (i := 35) rfl rfl ?_
      refine g_getR h (i := 36) rfl fl_X10_7 (fun _ _ _ => rfl) (lk_R hL) (lr_row hL) ?_
      refine g_bipush h (i := 37) rfl (v := 47) (by rfl) ?_
      refine g_lald h (i := 38) rfl (lq_row hL) (vpD (by decide)) ?_
      refine g_eql _ (sRow_jx _ _ _ (n := 47) (by rfl)) ?_
      refine g_eql (r 47 - 1) (up1_s _ _ _) ?_
      refine g_lconst h (i := 39) rfl (v := 0) (by rfl) ?_
      refine g_lcmp h (i := 40) rfl ?_
      refine g_if_ne h (i := 41) 77 rfl rfl (fun c_70 => ?_) (fun c_70 => ?_)
      · skip
        refine g_iconst h (i := 44) rfl (v := 1) (by rfl) ?_
        exact g_zret hq h (i := 45) rfl (rfl) (⟨rT (fun q => c_9 ((lg_cmp_eq _ _).mpr q.1)), w, RS_r a w, by unfold goesTickR; rw [if_neg (fun q => c_9 ((lg_cmp_eq _ _).mpr q.1)), if_neg (fun q => c_40 ((lg_cmp_eq _ _).mpr q)), if_neg (fun q => c_70 ((lg_cmp_eq _ _).mpr q))]⟩)
      · skip
        refine g_aload_n h (i := 42) rfl rfl ?_
        refine g_callVn h hq (i := 43) rfl mv_X10_223 cls10 (lk_R hL) (ct_X10_over l E w a _ hlo hL) rfl rfl ⟨rfl, rfl, Nat.le_of_ble_eq_true rfl, Nat.le_of_ble_eq_true rfl⟩ (Nat.le_of_ble_eq_true rfl) ⟨Nat.zero_le _, Nat.zero_le _⟩ ?_
        refine g_iconst h (i := 44) rfl (v := 1) (by rfl) ?_
        exact g_zret hq h (i := 45) rfl (rfl) (⟨rT (fun q => c_9 ((lg_cmp_eq _ _).mpr q.1)), w, RS_r a w, by unfold goesTickR; rw [if_neg (fun q => c_9 ((lg_cmp_eq _ _).mpr q.1)), if_neg (fun q => c_40 ((lg_cmp_eq _ _).mpr q)), if_pos ((lg_cmp_eq _ _).mp c_70)]⟩)
    · skip
      refine g_aload_n h (i := 24) rfl rfl ?_
      refine g_callVp (w0 := w) h hq (i := 25) rfl mv_X10_229 cls10 (lk_R hL) (ct_X10_goesOn l E w a r hlo hL (rr_mo hr ((lg_cmp_eq _ _).mp c_40)) hc) rfl rfl ⟨rfl, rfl, Nat.le_of_ble_eq_true rfl, Nat.le_of_ble_eq_true rfl⟩ (Nat.le_of_ble_eq_true rfl) ⟨Nat.zero_le _, Nat.zero_le _⟩ (fun r44 w44 hp44 => ?_)
      obtain ⟨rfl, w3, hRS, rfl⟩ := hp44
      refine g_goto h (i := 26) 77 rfl rfl ?_
      refine g_iconst h (i := 44) rfl (v := 1) (by rfl) ?_
      exact g_zret hq h (i := 45) rfl (rfl) (⟨rT (fun q => c_9 ((lg_cmp_eq _ _).mpr q.1)), w3, hRS, by unfold goesTickR; rw [if_neg (fun q => c_9 ((lg_cmp_eq _ _).mpr q.1)), if_pos ((lg_cmp_eq _ _).mp c_40)]⟩)
  · skip
    refine g_aload_n h (i := 7) rfl rfl ?_
    refine g_aload_n h (i := 8) rfl rfl ?_
    refine g_bipush h (i := 9) rfl (v := 50) (by rfl) ?_
    refine g_callVx h hq (i := 10) rfl mv_X10_97 cls10 (lk_R hL) (ct_X10_rowAt l E w a 50 _ _ hlo hL (vpD (by decide)) (by rfl)) rfl rfl ⟨rfl, rfl, Nat.le_of_ble_eq_true rfl, Nat.le_of_ble_eq_true rfl⟩ (Nat.le_of_ble_eq_true rfl) ⟨Nat.zero_le _, Nat.zero_le _⟩ ?_
    refine g_callVx h hq (i := 11) rfl mv_X10_226 cls10 (lk_R hL) (ct_X10_isOn l E w a r _ hlo hL (on_hi (hr.1 50))) rfl rfl ⟨rfl, rfl, Nat.le_of_ble_eq_true rfl, Nat.le_of_ble_eq_true rfl⟩ (Nat.le_of_ble_eq_true rfl) ⟨Nat.zero_le _, Nat.zero_le _⟩ ?_
    refine g_if_eq h (i := 12) 31 rfl rfl (fun c_22 => ?_) (fun c_22 => ?_)
    · skip
      refine g_aload_n h (i := 17) rfl rfl ?_
      refine g_getR h (i := 18) rfl fl_X10_7 (fun _ _ _ => rfl) (lk_R hL) (lr_row hL) ?_
      refine g_bipush h (i := 19) rfl (v := 46) (by rfl) ?_
      refine g_lald h (i := 20) rfl (lq_row hL) (vpD (by decide)) ?_
      refine g_eql _ (sRow_jx _ _ _ (n := 46) (by rfl)) ?_
      refine g_lconst h (i := 21) rfl (v := 1) (by rfl) ?_
      refine g_lcmp h (i := 22) rfl ?_
      refine g_if_ne h (i := 23) 50 rfl rfl (fun c_40 => ?_) (fun c_40 => ?_)
      · skip
        refine g_aload_n h (i := 27) rfl rfl ?_
        refine g_getR h (i := 28) rfl fl_X10_7 (fun _ _ _ => rfl) (lk_R hL) (lr_row hL) ?_
        refine g_bipush h (i := 29) rfl (v := 47) (by rfl) ?_
        refine g_dup2 h (i := 30) rfl rfl rfl ?_
        refine g_lald h (i := 31) rfl (lq_row hL) (vpD (by decide)) ?_
        refine g_eql _ (sRow_jx _ _ _ (n := 47) (by rfl)) ?_
        refine g_lconst h (i := 32) rfl (v := 1) (by rfl) ?_
        refine g_lsub h (i := 33) rfl ?_
        refine g_last h (i := 34) rfl (lq_row hL) (vpD (by decide)) ?_
        refine g_w _ (sRow_ux _ _ _ _ (n := 47) (by rfl)) ?_
        refine g_aload_n h (i := 35) rfl rfl ?_
        refine g_getR h (i := 36) rfl fl_X10_7 (fun _ _ _ => rfl) (lk_R hL) (lr_row hL) ?_
        refine g_bipush h (i := 37) rfl (v := 47) (by rfl) ?_
        refine g_lald h (i := 38) rfl (lq_row hL) (vpD (by decide)) ?_
        refine g_eql _ (sRow_jx _ _ _ (n := 47) (by rfl)) ?_
        refine g_eql (r 47 - 1) (up1_s _ _ _) ?_
        refine g_lconst h (i := 39) rfl (v := 0) (by rfl) ?_
        refine g_lcmp h (i := 40) rfl ?_
        refine g_if_ne h (i := 41) 77 rfl rfl (fun c_70 => ?_) (fun c_70 => ?_)
        · skip
          refine g_iconst h (i := 44) rfl (v := 1) (by rfl) ?_
          exact g_zret hq h (i := 45) rfl (rfl) (⟨rT (fun q => bI_0.mp c_22 q.2), w, RS_r a w, by unfold goesTickR; rw [if_neg (fun q => bI_0.mp c_22 q.2), if_neg (fun q => c_40 ((lg_cmp_eq _ _).mpr q)), if_neg (fun q => c_70 ((lg_cmp_eq _ _).mpr q))]⟩)
        · skip
          refine g_aload_n h (i := 42) rfl rfl ?_
          refine g_callVn h hq (i := 43) rfl mv_X10_223 cls10 (lk_R hL) (ct_X10_over l E w a _ hlo hL) rfl rfl ⟨rfl, rfl, Nat.le_of_ble_eq_true rfl, Nat.le_of_ble_eq_true rfl⟩ (Nat.le_of_ble_eq_true rfl) ⟨Nat.zero_le _, Nat.zero_le _⟩ ?_
          refine g_iconst h (i := 44) rfl (v := 1) (by rfl) ?_
          exact g_zret hq h (i := 45) rfl (rfl) (⟨rT (fun q => bI_0.mp c_22 q.2), w, RS_r a w, by unfold goesTickR; rw [if_neg (fun q => bI_0.mp c_22 q.2), if_neg (fun q => c_40 ((lg_cmp_eq _ _).mpr q)), if_pos ((lg_cmp_eq _ _).mp c_70)]⟩)
      · skip
        refine g_aload_n h (i := 24) rfl rfl ?_
        refine g_callVp (w0 := w) h hq (i := 25) rfl mv_X10_229 cls10 (lk_R hL) (ct_X10_goesOn l E w a r hlo hL (rr_mo hr ((lg_cmp_eq _ _).mp c_40)) hc) rfl rfl ⟨rfl, rfl, Nat.le_of_ble_eq_true rfl, Nat.le_of_ble_eq_true rfl⟩ (Nat.le_of_ble_eq_true rfl) ⟨Nat.zero_le _, Nat.zero_le _⟩ (fun r44 w44 hp44 => ?_)
        obtain ⟨rfl, w3, hRS, rfl⟩ := hp44
        refine g_goto h (i := 26) 77 rfl rfl ?_
        refine g_iconst h (i := 44) rfl (v := 1) (by rfl) ?_
        exact g_zret hq h (i := 45) rfl (rfl) (⟨rT (fun q => bI_0.mp c_22 q.2), w3, hRS, by unfold goesTickR; rw [if_neg (fun q => bI_0.mp c_22 q.2), if_pos ((lg_cmp_eq _ _).mp c_40)]⟩)
    · skip
      refine g_aload_n h (i := 13) rfl rfl ?_
      refine g_callVn h hq (i := 14) rfl mv_X10_223 cls10 (lk_R hL) (ct_X10_over l E w a r hlo hL) rfl rfl ⟨rfl, rfl, Nat.le_of_ble_eq_true rfl, Nat.le_of_ble_eq_true rfl⟩ (Nat.le_of_ble_eq_true rfl) ⟨Nat.zero_le _, Nat.zero_le _⟩ ?_
      refine g_iconst h (i := 15) rfl (v := 0) (by rfl) ?_
      exact g_zret hq h (i := 16) rfl (rfl) (⟨rF (fun q => q ⟨(lg_cmp_eq _ _).mp c_9, bI_1.mp c_22⟩), w, RS_r a w, by unfold goesTickR; rw [if_pos ⟨(lg_cmp_eq _ _).mp c_9, bI_1.mp c_22⟩]⟩)
/-- a pose that is taught and within the limits -/
def inL (cf : Nat → Nat → Int32) (st : Nat → Int32) : Nat → Bool
  | 0 => true
  | j + 1 => inL cf st j && decide (cf 5 j ≤ st j ∧ st j ≤ cf 6 j)
abbrev wiP (cf : Nat → Nat → Int32) (k : Nat) : Prop := cf 11 k ≠ 0 ∧ inL cf (fun j => cf 12 (4 * k + j)) 4 = true
-- a pose within the limits
set_option maxRecDepth 100000 in
set_option maxHeartbeats 4000000 in
theorem ct_X10_isWithin (l : Launch) (E : EE) (w : Wd) (a k : Nat) (r : Nat → Int64) (hlo : E.2.2 ≤ wN (sRow w a r)) (hL : LayR w a) (hk : k < 16) (hz : cfW w a 11 k = 0 ∨ cfW w a 11 k = 1) : Ct l E yX10_isWithin cX10_isWithin 4 (some .boolean) ({ frames := 1, cells := 0, slots := 0, locals := 22 } : Room) [.ref a, .int (nI k)] (sRow w a r) 0 0 (Px (some (.int (bI (wiP (cfW w a) k)))) (sRow w a r)) := by
  refine ct_in (il := il_X10_isWithin) (by decide) dk_X10_isWithin (Nat.le_of_ble_eq_true rfl) hlo ?_
  intro X h hq

  obtain ⟨st, hst⟩ : ∃ st : Nat → Int32, st = fun j => cfW w a 12 (4 * k + j) := ⟨_, rfl⟩
  have key : ∀ (d i : Nat), i + d = 4 → G X 0 0 9 (lf [(0, .ref a), (1, .int (nI k)), (2, .int (bI (cfW w a 11 k ≠ 0 ∧ inL (cfW w a) st i = true))), (3, .int (nI i))]) [] (sRow w a r) := by
    intro d
    induction d with
    | zero =>
      intro i hi
      have hi4 : i = 4 := by omega
      subst hi4
      refine g_iload_n h (i := 7) rfl rfl ?_
      refine g_iconst h (i := 8) rfl (v := 4) (by rfl) ?_
      refine g_icmp_ge h (i := 9) 58 rfl rfl (fun c_11 => ?_) (fun c_11 => absurd (by decide : (4 : Int32) ≤ nI 4) c_11)
      refine g_iload_n h (i := 36) rfl rfl ?_
      exact g_zret hq h (i := 37) rfl (bI_n _) (⟨by rw [hst], rfl⟩)
    | succ d ih =>
      intro i hid
      have hi : i < 4 := by omega
      have hcl : (nI i).toNatClampNeg = i := nI_clamp (by omega)
      have hvp : vp_in (nI i) 4 := vp_in_nI hi (by omega)
      have hnge : ¬ (4 : Int32) ≤ nI i := nI_ge (b := 4) hi (by omega)
      have hxk : (4 : Int32) * nI k + nI i = nI (4 * k + i) := by rw [nI_mul4]; exact nI_add (4 * k) i
      have hS : (cfW w a 11 k ≠ 0 ∧ inL (cfW w a) st (i + 1) = true) ↔ ((cfW w a 11 k ≠ 0 ∧ inL (cfW w a) st i = true) ∧ (cfW w a 5 i ≤ st i ∧ st i ≤ cfW w a 6 i)) := by
        show (_ ∧ (inL (cfW w a) st i && decide (cfW w a 5 i ≤ st i ∧ st i ≤ cfW w a 6 i)) = true) ↔ _
        rw [Bool.and_eq_true, decide_eq_true_iff, and_assoc]
      have k51 : ∀ v : Int32, v = bI (cfW w a 11 k ≠ 0 ∧ inL (cfW w a) st (i + 1) = true) → G X 0 0 51 (lf [(0, .ref a), (1, .int (nI k)), (3, .int (nI i))]) [.int v] (sRow w a r) := by
        intro v hv
        refine g_istore_n h (i := 33) rfl hq rfl ?_
        refine g_iinc h (i := 34) rfl rfl (dv := 1) (by rfl) ?_
        refine g_goto h (i := 35) 9 rfl rfl ?_
        exact g_lv [(0, .ref a), (1, .int (nI k)), (2, .int (bI (cfW w a 11 k ≠ 0 ∧ inL (cfW w a) st (i + 1) = true))), (3, .int (nI (i + 1)))] ⟨rfl, rfl, congrArg (fun z => some (Value.int z)) hv, congrArg (fun z => some (Value.int z)) (nI_1 i), trivial⟩ (ih (i + 1) (by omega))
      refine g_iload_n h (i := 7) rfl rfl ?_
      refine g_iconst h (i := 8) rfl (v := 4) (by rfl) ?_
      refine g_icmp_ge h (i := 9) 58 rfl rfl (fun c_11 => absurd c_11 hnge) (fun c_11 => ?_)
      refine g_iload_n h (i := 10) rfl rfl ?_
      refine g_if_eq h (i := 11) 50 rfl rfl (fun c_15 => ?_) (fun c_15 => ?_)
      · skip
        refine g_iconst h (i := 32) rfl (v := 0) (by rfl) ?_
        exact g_lv [(0, .ref a), (1, .int (nI k)), (3, .int (nI i))] ⟨rfl, rfl, rfl, trivial⟩ (k51 _ ((bI_f (fun q => bI_0.mp c_15 (hS.mp q).1)).symm))
      · skip
        refine g_aload_n h (i := 12) rfl rfl ?_
        refine g_getR h (i := 13) rfl fl_X10_47 (fun _ _ _ => rfl) (lk_R hL) (lr_pose hL) ?_
        refine g_iconst h (i := 14) rfl (v := 4) (by rfl) ?_
        refine g_iload_n h (i := 15) rfl rfl ?_
        refine g_imul h (i := 16) rfl ?_
        refine g_iload_n h (i := 17) rfl rfl ?_
        refine g_iadd h (i := 18) rfl ?_
        refine g_eqi (nI (4 * k + i)) hxk ?_
        refine g_iald h (i := 19) rfl (lq_pose hL) (vp_in_nI (by omega) (by omega)) ?_
        refine g_eqi (wI w (a + 12) _) rfl ?_
        refine g_eqi (st i) (by rw [nI_clamp (by omega), hst]; rfl) ?_
        refine g_aload_n h (i := 20) rfl rfl ?_
        refine g_getR h (i := 21) rfl fl_X10_25 (fun _ _ _ => rfl) (lk_R hL) (lr_low hL) ?_
        refine g_iload_n h (i := 22) rfl rfl ?_
        refine g_iald h (i := 23) rfl (lq_low hL) (hvp) ?_
        refine g_eqi (wI w (a + 5) _) rfl ?_
        refine g_eqi (cfW w a 5 i) (by rw [hcl]; rfl) ?_
        refine g_aload_n h (i := 24) rfl rfl ?_
        refine g_getR h (i := 25) rfl fl_X10_29 (fun _ _ _ => rfl) (lk_R hL) (lr_high hL) ?_
        refine g_iload_n h (i := 26) rfl rfl ?_
        refine g_iald h (i := 27) rfl (lq_high hL) (hvp) ?_
        refine g_eqi (wI w (a + 6) _) rfl ?_
        refine g_eqi (cfW w a 6 i) (by rw [hcl]; rfl) ?_
        refine g_callSx h hq (i := 28) rfl ms_X10_82 (ct_X10_in l E _ (st i) (cfW w a 5 i) (cfW w a 6 i) hlo) rfl rfl ⟨rfl, rfl, Nat.le_of_ble_eq_true rfl, Nat.le_of_ble_eq_true rfl⟩ (Nat.le_of_ble_eq_true rfl) ⟨Nat.zero_le _, Nat.zero_le _⟩ ?_
        refine g_if_eq h (i := 29) 50 rfl rfl (fun c_43 => ?_) (fun c_43 => ?_)
        · skip
          refine g_iconst h (i := 32) rfl (v := 0) (by rfl) ?_
          exact g_lv [(0, .ref a), (1, .int (nI k)), (3, .int (nI i))] ⟨rfl, rfl, rfl, trivial⟩ (k51 _ ((bI_f (fun q => bI_0.mp c_43 (hS.mp q).2)).symm))
        · skip
          refine g_iconst h (i := 30) rfl (v := 1) (by rfl) ?_
          refine g_goto h (i := 31) 51 rfl rfl ?_
          exact g_lv [(0, .ref a), (1, .int (nI k)), (3, .int (nI i))] ⟨rfl, rfl, rfl, trivial⟩ (k51 _ ((bI_t (hS.mpr ⟨bI_1.mp c_15, bI_1.mp c_43⟩)).symm))
  have h0 : cfW w a 11 k = bI (cfW w a 11 k ≠ 0 ∧ inL (cfW w a) st 0 = true) := by
    rcases hz with z | z
    · rw [z, bI_f (fun q => q.1 rfl)]
    · rw [z, bI_t ⟨by decide, rfl⟩]
  refine g_aload_n h (i := 0) rfl rfl ?_
  refine g_getR h (i := 1) rfl fl_X10_44 (fun _ _ _ => rfl) (lk_R hL) (lr_isTaught hL) ?_
  refine g_iload_n h (i := 2) rfl rfl ?_
  refine g_zald h (i := 3) rfl (lq_isTaught hL) (vp_in_nI hk (by omega)) ?_
  refine g_eqi (wI w (a + 11) _) rfl ?_
  refine g_eqi (bI (cfW w a 11 k ≠ 0 ∧ inL (cfW w a) st 0 = true)) (by rw [nI_clamp (by omega)]; exact h0) ?_
  refine g_istore_n h (i := 4) rfl hq rfl ?_
  refine g_iconst h (i := 5) rfl (v := 0) (by rfl) ?_
  refine g_istore_n h (i := 6) rfl hq rfl ?_
  exact g_lv [(0, .ref a), (1, .int (nI k)), (2, .int (bI (cfW w a 11 k ≠ 0 ∧ inL (cfW w a) st 0 = true))), (3, .int (nI 0))] ⟨rfl, rfl, rfl, rfl, trivial⟩ (key 4 0 (by omega))
