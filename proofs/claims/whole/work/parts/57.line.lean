/-- a line, done: op, a, b -/
def lineO (cf : Nat → Nat → Int32) (o x y : Int32) (r : Nat → Int64) : Nat → Int64 :=
  if o = 0 then beginsR cf (pI x) (pI y) r
  else if o = 1 then up1 (up1 (up1 r 46 (if x ≤ 0 then 0 else 2)) 47 x.toInt64) 30 (r 30 + (if x ≤ 0 then 1 else 0))
  else if o = 2 then up1 (up1 r (12 + pI x) y.toInt64) 30 (r 30 + 1)
  else if o = 3 then up1 r 30 (r 30 + (if r (4 + pI x) = y.toInt64 then 2 else 1))
  else if o = 4 then goesToR (cf 0 12) x r
  else if o = 5 then callsR (cf 0 12) x r
  else if o = 6 then backR r
  else if o = 7 then up1 (up1 r (20 + pI x) (r (20 + pI x) + y.toInt64).toInt32.toInt64) 30 (r 30 + 1)
  else if o = 8 then up1 r 30 (r 30 + (if y.toInt64 ≤ r (20 + pI x) then 1 else 2))
  else if o = 9 then up1 (up1 r 49 x.toInt64) 30 (r 30 + 1)
  else if o = 10 then up1 r 28 2
  else up1 (up1 r 48 x.toInt64) 30 (r 30 + 1)
def lineR (cf : Nat → Nat → Int32) (r : Nat → Int64) : Nat → Int64 := lineO cf (cf 13 (pN (r 30))) (cf 14 (pN (r 30))) (cf 15 (pN (r 30))) (up1 r 45 (r 45 + 1))
theorem n12 {n : Nat} (h : n ≤ 11) : n = 0 ∨ n = 1 ∨ n = 2 ∨ n = 3 ∨ n = 4 ∨ n = 5 ∨ n = 6 ∨ n = 7 ∨ n = 8 ∨ n = 9 ∨ n = 10 ∨ n = 11 := by omega
-- a line is done
set_option maxRecDepth 100000 in
set_option maxHeartbeats 4000000 in
theorem ct_X10_doesLine (l : Launch) (E : EE) (w : Wd) (a : Nat) (r : Nat → Int64) (hlo : E.2.2 ≤ wN (sRow w a r)) (hL : LayR w a) (hr : FA r) (hc : CfR (cfW w a)) (hk : pN (r 30) < pI (cfW w a 0 12)) : Ct l E yX10_doesLine cX10_doesLine 4 none ({ frames := 5, cells := 0, slots := 0, locals := 139 } : Room) [.ref a] (sRow w a r) 0 0 (fun q w2 => q = none ∧ ∃ w3, RS a w w3 ∧ w2 = sRow w3 a (lineR (cfW w a) r)) := by
  refine ct_in (il := il_X10_doesLine) (by decide) dk_X10_doesLine (Nat.le_of_ble_eq_true rfl) hlo ?_
  intro X h hq

  have h30 : isN (r 30) 61 := hr 30
  obtain ⟨k, hke⟩ : ∃ k, k = pN (r 30) := ⟨_, rfl⟩
  have hk60 : k < 60 := by have := hc.2.2.2.2.2.2.1.2; omega
  have hln := hc.2.2.2.2.2.2.2.1 k (by rw [hke]; exact hk)
  have e30 : (r 30).toInt32 = nI k := by rw [hke]; exact (isN_i h30 (by omega)).1
  obtain ⟨op, hop⟩ : ∃ op, op = cfW w a 13 k := ⟨_, rfl⟩
  obtain ⟨x, hx⟩ : ∃ x, x = cfW w a 14 k := ⟨_, rfl⟩
  obtain ⟨y, hy⟩ : ∃ y, y = cfW w a 15 k := ⟨_, rfl⟩
  rw [← hop, ← hx, ← hy] at hln
  obtain ⟨l1, l2, l3, l4, l5, l6⟩ := hln
  have hR : lineR (cfW w a) r = lineO (cfW w a) op x y (up1 r 45 (r 45 + 1)) := by unfold lineR; rw [← hke, ← hop, ← hx, ← hy]
  rw [hR] at hq
  have hv : vp_in (nI k) 60 := vp_in_nI hk60 (by omega)
  have hcl : (nI k).toNatClampNeg = k := nI_clamp (by omega)
  obtain ⟨r', hr'⟩ : ∃ r', r' = up1 r 45 (r 45 + 1) := ⟨_, rfl⟩
  rw [← hr'] at hq
  have hfa : FA r' := by rw [hr']; exact fa_u hr True.intro
  refine g_aload_n h (i := 0) rfl rfl ?_
  refine g_bipush h (i := 1) rfl (v := 30) (by rfl) ?_
  refine g_callVx h hq (i := 2) rfl mv_X10_97 cls10 (lk_R hL) (ct_X10_rowAt l E w a 30 _ _ hlo hL (vpD (by decide)) (by rfl)) rfl rfl ⟨rfl, rfl, Nat.le_of_ble_eq_true rfl, Nat.le_of_ble_eq_true rfl⟩ (Nat.le_of_ble_eq_true rfl) ⟨Nat.zero_le _, Nat.zero_le _⟩ ?_
  refine g_eqi (nI k) e30 ?_
  refine g_istore_n h (i := 3) rfl hq rfl ?_
  refine g_aload_n h (i := 4) rfl rfl ?_
  refine g_getR h (i := 5) rfl fl_X10_53 (fun _ _ _ => rfl) (lk_R hL) (lr_first hL) ?_
  refine g_iload_n h (i := 6) rfl rfl ?_
  refine g_iald h (i := 7) rfl (lq_first hL) (hv) ?_
  refine g_eqi (wI w (a + 14) _) rfl ?_
  refine g_eqi x (by rw [hcl]; exact hx.symm) ?_
  refine g_istore_n h (i := 8) rfl hq rfl ?_
  refine g_aload_n h (i := 9) rfl rfl ?_
  refine g_getR h (i := 10) rfl fl_X10_56 (fun _ _ _ => rfl) (lk_R hL) (lr_second hL) ?_
  refine g_iload_n h (i := 11) rfl rfl ?_
  refine g_iald h (i := 12) rfl (lq_second hL) (hv) ?_
  refine g_eqi (wI w (a + 15) _) rfl ?_
  refine g_eqi y (by rw [hcl]; exact hy.symm) ?_
  refine g_istore_n h (i := 13) rfl hq rfl ?_
  refine g_aload_n h (i := 14) rfl rfl ?_
  refine g_getR h (i := 15) rfl fl_X10_7 (fun _ _ _ => rfl) (lk_R hL) (lr_row hL) ?_
  refine g_bipush h (i := 16) rfl (v := 45) (by rfl) ?_
  refine g_dup2 h (i := 17) rfl rfl rfl ?_
  refine g_lald h (i := 18) rfl (lq_row hL) (vpD (by decide)) ?_
  refine g_eql _ (sRow_jx _ _ _ (n := 45) (by rfl)) ?_
  refine g_lconst h (i := 19) rfl (v := 1) (by rfl) ?_
  refine g_ladd h (i := 20) rfl ?_
  refine g_last h (i := 21) rfl (lq_row hL) (vpD (by decide)) ?_
  refine g_w _ (sRow_ux _ _ _ _ (n := 45) (by rfl)) ?_
  refine g_w (sRow w a r') (by rw [hr']) ?_
  refine g_aload_n h (i := 22) rfl rfl ?_
  refine g_getR h (i := 23) rfl fl_X10_50 (fun _ _ _ => rfl) (lk_R hL) (lr_op hL) ?_
  refine g_iload_n h (i := 24) rfl rfl ?_
  refine g_iald h (i := 25) rfl (lq_op hL) (hv) ?_
  refine g_eqi (wI w (a + 13) _) rfl ?_
  refine g_eqi op (by rw [hcl]; exact hop.symm) ?_
  have hsw : op = 0 ∨ op = 1 ∨ op = 2 ∨ op = 3 ∨ op = 4 ∨ op = 5 ∨ op = 6 ∨ op = 7 ∨ op = 8 ∨ op = 9 ∨ op = 10 ∨ op = 11 := by
    rcases n12 l1.2 with n | n | n | n | n | n | n | n | n | n | n | n
    all_goals (have z := l1.1; rw [n] at z; rw [z]; decide)
  rcases hsw with e | e | e | e | e | e | e | e | e | e | e | e
  · skip
    refine g_eqi (0) e ?_
    refine g_tin h (i := 26) 96 rfl (by decide) (by decide) rfl rfl ?_
    obtain ⟨⟨z1, z2⟩, ⟨z3, z4⟩, z5⟩ := l2 e
    refine g_aload_n h (i := 27) rfl rfl ?_
    refine g_iload_n h (i := 28) rfl rfl ?_
    refine g_iload_n h (i := 29) rfl rfl ?_
    rw [z1, z3]
    have hbg := ct_X10_begins l E w a (pI x) (pI y) r' hlo hL hfa hc (by omega) z4
    refine g_callVp (w0 := w) h hq (i := 30) rfl mv_X10_237 cls10 (lk_R hL) (hbg) rfl rfl ⟨rfl, rfl, Nat.le_of_ble_eq_true rfl, Nat.le_of_ble_eq_true rfl⟩ (Nat.le_of_ble_eq_true rfl) ⟨Nat.zero_le _, Nat.zero_le _⟩ (fun r99 w99 hp99 => ?_)
    obtain ⟨rfl, w3, hRS, rfl⟩ := hp99
    refine g_goto h (i := 31) 364 rfl rfl ?_
    exact g_vret hq h (i := 191) rfl (⟨rfl, w3, hRS, by unfold lineO; rw [if_pos (show op = 0 from e)]⟩)
  · skip
    refine g_eqi (1) e ?_
    refine g_tin h (i := 26) 105 rfl (by decide) (by decide) rfl rfl ?_
    refine g_aload_n h (i := 32) rfl rfl ?_
    refine g_getR h (i := 33) rfl fl_X10_7 (fun _ _ _ => rfl) (lk_R hL) (lr_row hL) ?_
    refine g_bipush h (i := 34) rfl (v := 46) (by rfl) ?_
    refine g_iload_n h (i := 35) rfl rfl ?_
    refine g_if_le h (i := 36) 121 rfl rfl (fun c_112 => ?_) (fun c_112 => ?_)
    · skip
      refine g_lconst h (i := 39) rfl (v := 0) (by rfl) ?_
      refine g_last h (i := 40) rfl (lq_row hL) (vpD (by decide)) ?_
      refine g_w _ (sRow_ux _ _ _ _ (n := 46) (by rfl)) ?_
      refine g_aload_n h (i := 41) rfl rfl ?_
      refine g_getR h (i := 42) rfl fl_X10_7 (fun _ _ _ => rfl) (lk_R hL) (lr_row hL) ?_
      refine g_bipush h (i := 43) rfl (v := 47) (by rfl) ?_
      refine g_iload_n h (i := 44) rfl rfl ?_
      refine g_i2l h (i := 45) rfl ?_
      refine g_last h (i := 46) rfl (lq_row hL) (vpD (by decide)) ?_
      refine g_w _ (sRow_ux _ _ _ _ (n := 47) (by rfl)) ?_
      refine g_aload_n h (i := 47) rfl rfl ?_
      refine g_getR h (i := 48) rfl fl_X10_7 (fun _ _ _ => rfl) (lk_R hL) (lr_row hL) ?_
      refine g_bipush h (i := 49) rfl (v := 30) (by rfl) ?_
      refine g_dup2 h (i := 50) rfl rfl rfl ?_
      refine g_lald h (i := 51) rfl (lq_row hL) (vpD (by decide)) ?_
      refine g_eql _ (sRow_jx _ _ _ (n := 30) (by rfl)) ?_
      refine g_eql (r' 30) (by first | rfl | rw [up1_k (by omega)] | rw [up1_k (by omega), up1_k (by omega)]) ?_
      refine g_iload_n h (i := 52) rfl rfl ?_
      refine g_if_le h (i := 53) 148 rfl rfl (fun c_141 => ?_) (fun c_141 => absurd c_112 c_141)
      refine g_lconst h (i := 56) rfl (v := 1) (by rfl) ?_
      refine g_ladd h (i := 57) rfl ?_
      refine g_last h (i := 58) rfl (lq_row hL) (vpD (by decide)) ?_
      refine g_w _ (sRow_ux _ _ _ _ (n := 30) (by rfl)) ?_
      refine g_goto h (i := 59) 364 rfl rfl ?_
      exact g_vret hq h (i := 191) rfl (⟨rfl, w, RS_r a w, by unfold lineO; rw [if_neg (show ¬ op = 0 by rw [e]; decide), if_pos (show op = 1 from e), if_pos c_112, if_pos c_112]⟩)
    · skip
      refine g_ldc2 h (i := 37) rfl k_X10_168 ?_
      refine g_goto h (i := 38) 122 rfl rfl ?_
      refine g_last h (i := 40) rfl (lq_row hL) (vpD (by decide)) ?_
      refine g_w _ (sRow_ux _ _ _ _ (n := 46) (by rfl)) ?_
      refine g_aload_n h (i := 41) rfl rfl ?_
      refine g_getR h (i := 42) rfl fl_X10_7 (fun _ _ _ => rfl) (lk_R hL) (lr_row hL) ?_
      refine g_bipush h (i := 43) rfl (v := 47) (by rfl) ?_
      refine g_iload_n h (i := 44) rfl rfl ?_
      refine g_i2l h (i := 45) rfl ?_
      refine g_last h (i := 46) rfl (lq_row hL) (vpD (by decide)) ?_
      refine g_w _ (sRow_ux _ _ _ _ (n := 47) (by rfl)) ?_
      refine g_aload_n h (i := 47) rfl rfl ?_
      refine g_getR h (i := 48) rfl fl_X10_7 (fun _ _ _ => rfl) (lk_R hL) (lr_row hL) ?_
      refine g_bipush h (i := 49) rfl (v := 30) (by rfl) ?_
      refine g_dup2 h (i := 50) rfl rfl rfl ?_
      refine g_lald h (i := 51) rfl (lq_row hL) (vpD (by decide)) ?_
      refine g_eql _ (sRow_jx _ _ _ (n := 30) (by rfl)) ?_
      refine g_eql (r' 30) (by first | rfl | rw [up1_k (by omega)] | rw [up1_k (by omega), up1_k (by omega)]) ?_
      refine g_iload_n h (i := 52) rfl rfl ?_
      refine g_if_le h (i := 53) 148 rfl rfl (fun c_141 => absurd c_141 c_112) (fun c_141 => ?_)
      refine g_lconst h (i := 54) rfl (v := 0) (by rfl) ?_
      refine g_goto h (i := 55) 149 rfl rfl ?_
      refine g_ladd h (i := 57) rfl ?_
      refine g_last h (i := 58) rfl (lq_row hL) (vpD (by decide)) ?_
      refine g_w _ (sRow_ux _ _ _ _ (n := 30) (by rfl)) ?_
      refine g_goto h (i := 59) 364 rfl rfl ?_
      exact g_vret hq h (i := 191) rfl (⟨rfl, w, RS_r a w, by unfold lineO; rw [if_neg (show ¬ op = 0 by rw [e]; decide), if_pos (show op = 1 from e), if_neg c_112, if_neg c_112]⟩)
  · skip
    refine g_eqi (2) e ?_
    refine g_tin h (i := 26) 154 rfl (by decide) (by decide) rfl rfl ?_
    obtain ⟨hxn, hx7⟩ := (l4 (Or.inl e)).1
    have hx12 : (12 : Int32) + x = nI (12 + pI x) := (congrArg (fun z => (12 : Int32) + z) hxn).trans (nI_add 12 (pI x))
    refine g_aload_n h (i := 60) rfl rfl ?_
    refine g_getR h (i := 61) rfl fl_X10_7 (fun _ _ _ => rfl) (lk_R hL) (lr_row hL) ?_
    refine g_bipush h (i := 62) rfl (v := 12) (by rfl) ?_
    refine g_iload_n h (i := 63) rfl rfl ?_
    refine g_iadd h (i := 64) rfl ?_
    refine g_eqi (nI (12 + pI x)) hx12 ?_
    refine g_iload_n h (i := 65) rfl rfl ?_
    refine g_i2l h (i := 66) rfl ?_
    refine g_last h (i := 67) rfl (lq_row hL) (vp_in_nI (by omega) (by omega)) ?_
    refine g_w _ (sRow_ux _ _ _ _ (n := 12 + pI x) (nI_clamp (by omega))) ?_
    refine g_aload_n h (i := 68) rfl rfl ?_
    refine g_getR h (i := 69) rfl fl_X10_7 (fun _ _ _ => rfl) (lk_R hL) (lr_row hL) ?_
    refine g_bipush h (i := 70) rfl (v := 30) (by rfl) ?_
    refine g_dup2 h (i := 71) rfl rfl rfl ?_
    refine g_lald h (i := 72) rfl (lq_row hL) (vpD (by decide)) ?_
    refine g_eql _ (sRow_jx _ _ _ (n := 30) (by rfl)) ?_
    refine g_eql (r' 30) (by first | rfl | rw [up1_k (by omega)] | rw [up1_k (by omega), up1_k (by omega)]) ?_
    refine g_lconst h (i := 73) rfl (v := 1) (by rfl) ?_
    refine g_ladd h (i := 74) rfl ?_
    refine g_last h (i := 75) rfl (lq_row hL) (vpD (by decide)) ?_
    refine g_w _ (sRow_ux _ _ _ _ (n := 30) (by rfl)) ?_
    refine g_goto h (i := 76) 364 rfl rfl ?_
    exact g_vret hq h (i := 191) rfl (⟨rfl, w, RS_r a w, by unfold lineO; rw [if_neg (show ¬ op = 0 by rw [e]; decide), if_neg (show ¬ op = 1 by rw [e]; decide), if_pos (show op = 2 from e)]⟩)
  · skip
    refine g_eqi (3) e ?_
    refine g_tin h (i := 26) 179 rfl (by decide) (by decide) rfl rfl ?_
    obtain ⟨hxn, hx7⟩ := (l4 (Or.inr e)).1
    have hx4 : (4 : Int32) + x = nI (4 + pI x) := (congrArg (fun z => (4 : Int32) + z) hxn).trans (nI_add 4 (pI x))
    refine g_aload_n h (i := 77) rfl rfl ?_
    refine g_getR h (i := 78) rfl fl_X10_7 (fun _ _ _ => rfl) (lk_R hL) (lr_row hL) ?_
    refine g_bipush h (i := 79) rfl (v := 30) (by rfl) ?_
    refine g_dup2 h (i := 80) rfl rfl rfl ?_
    refine g_lald h (i := 81) rfl (lq_row hL) (vpD (by decide)) ?_
    refine g_eql _ (sRow_jx _ _ _ (n := 30) (by rfl)) ?_
    refine g_aload_n h (i := 82) rfl rfl ?_
    refine g_getR h (i := 83) rfl fl_X10_7 (fun _ _ _ => rfl) (lk_R hL) (lr_row hL) ?_
    refine g_iconst h (i := 84) rfl (v := 4) (by rfl) ?_
    refine g_iload_n h (i := 85) rfl rfl ?_
    refine g_iadd h (i := 86) rfl ?_
    refine g_eqi (nI (4 + pI x)) hx4 ?_
    refine g_lald h (i := 87) rfl (lq_row hL) (vp_in_nI (by omega) (by omega)) ?_
    refine g_eql _ (sRow_jx _ _ _ (n := 4 + pI x) (nI_clamp (by omega))) ?_
    refine g_iload_n h (i := 88) rfl rfl ?_
    refine g_i2l h (i := 89) rfl ?_
    refine g_lcmp h (i := 90) rfl ?_
    refine g_if_ne h (i := 91) 207 rfl rfl (fun c_198 => ?_) (fun c_198 => ?_)
    · skip
      refine g_lconst h (i := 94) rfl (v := 1) (by rfl) ?_
      refine g_ladd h (i := 95) rfl ?_
      refine g_last h (i := 96) rfl (lq_row hL) (vpD (by decide)) ?_
      refine g_w _ (sRow_ux _ _ _ _ (n := 30) (by rfl)) ?_
      refine g_goto h (i := 97) 364 rfl rfl ?_
      exact g_vret hq h (i := 191) rfl (⟨rfl, w, RS_r a w, by unfold lineO; rw [if_neg (show ¬ op = 0 by rw [e]; decide), if_neg (show ¬ op = 1 by rw [e]; decide), if_neg (show ¬ op = 2 by rw [e]; decide), if_pos (show op = 3 from e), if_neg (fun q => c_198 ((lg_cmp_eq _ _).mpr q))]⟩)
    · skip
      refine g_ldc2 h (i := 92) rfl k_X10_168 ?_
      refine g_goto h (i := 93) 208 rfl rfl ?_
      refine g_ladd h (i := 95) rfl ?_
      refine g_last h (i := 96) rfl (lq_row hL) (vpD (by decide)) ?_
      refine g_w _ (sRow_ux _ _ _ _ (n := 30) (by rfl)) ?_
      refine g_goto h (i := 97) 364 rfl rfl ?_
      exact g_vret hq h (i := 191) rfl (⟨rfl, w, RS_r a w, by unfold lineO; rw [if_neg (show ¬ op = 0 by rw [e]; decide), if_neg (show ¬ op = 1 by rw [e]; decide), if_neg (show ¬ op = 2 by rw [e]; decide), if_pos (show op = 3 from e), if_pos ((lg_cmp_eq _ _).mp c_198)]⟩)
  · skip
    refine g_eqi (4) e ?_
    refine g_tin h (i := 26) 213 rfl (by decide) (by decide) rfl rfl ?_
    refine g_aload_n h (i := 98) rfl rfl ?_
    refine g_iload_n h (i := 99) rfl rfl ?_
    refine g_callVn h hq (i := 100) rfl mv_X10_240 cls10 (lk_R hL) (ct_X10_goesTo l E w a r' x hlo hL) rfl rfl ⟨rfl, rfl, Nat.le_of_ble_eq_true rfl, Nat.le_of_ble_eq_true rfl⟩ (Nat.le_of_ble_eq_true rfl) ⟨Nat.zero_le _, Nat.zero_le _⟩ ?_
    refine g_goto h (i := 101) 364 rfl rfl ?_
    exact g_vret hq h (i := 191) rfl (⟨rfl, w, RS_r a w, by unfold lineO; rw [if_neg (show ¬ op = 0 by rw [e]; decide), if_neg (show ¬ op = 1 by rw [e]; decide), if_neg (show ¬ op = 2 by rw [e]; decide), if_neg (show ¬ op = 3 by rw [e]; decide), if_pos (show op = 4 from e)]; rfl⟩)
  · skip
    refine g_eqi (5) e ?_
    refine g_tin h (i := 26) 221 rfl (by decide) (by decide) rfl rfl ?_
    refine g_aload_n h (i := 102) rfl rfl ?_
    refine g_iload_n h (i := 103) rfl rfl ?_
    refine g_callVn h hq (i := 104) rfl mv_X10_243 cls10 (lk_R hL) (ct_X10_calls l E w a (pN (r' 32)) r' x hlo hL (show isN (r' 32) 12 from hfa 32).1 (show isN (r' 32) 12 from hfa 32).2) rfl rfl ⟨rfl, rfl, Nat.le_of_ble_eq_true rfl, Nat.le_of_ble_eq_true rfl⟩ (Nat.le_of_ble_eq_true rfl) ⟨Nat.zero_le _, Nat.zero_le _⟩ ?_
    refine g_goto h (i := 105) 364 rfl rfl ?_
    exact g_vret hq h (i := 191) rfl (⟨rfl, w, RS_r a w, by unfold lineO; rw [if_neg (show ¬ op = 0 by rw [e]; decide), if_neg (show ¬ op = 1 by rw [e]; decide), if_neg (show ¬ op = 2 by rw [e]; decide), if_neg (show ¬ op = 3 by rw [e]; decide), if_neg (show ¬ op = 4 by rw [e]; decide), if_pos (show op = 5 from e)]; rfl⟩)
  · skip
    refine g_eqi (6) e ?_
    refine g_tin h (i := 26) 229 rfl (by decide) (by decide) rfl rfl ?_
    refine g_aload_n h (i := 106) rfl rfl ?_
    refine g_callVn h hq (i := 107) rfl mv_X10_246 cls10 (lk_R hL) (ct_X10_comesBack l E w a (pN (r' 32)) r' hlo hL (show isN (r' 32) 12 from hfa 32).1 (show isN (r' 32) 12 from hfa 32).2) rfl rfl ⟨rfl, rfl, Nat.le_of_ble_eq_true rfl, Nat.le_of_ble_eq_true rfl⟩ (Nat.le_of_ble_eq_true rfl) ⟨Nat.zero_le _, Nat.zero_le _⟩ ?_
    refine g_goto h (i := 108) 364 rfl rfl ?_
    exact g_vret hq h (i := 191) rfl (⟨rfl, w, RS_r a w, by unfold lineO; rw [if_neg (show ¬ op = 0 by rw [e]; decide), if_neg (show ¬ op = 1 by rw [e]; decide), if_neg (show ¬ op = 2 by rw [e]; decide), if_neg (show ¬ op = 3 by rw [e]; decide), if_neg (show ¬ op = 4 by rw [e]; decide), if_neg (show ¬ op = 5 by rw [e]; decide), if_pos (show op = 6 from e)]⟩)
  · skip
    refine g_eqi (7) e ?_
    refine g_tin h (i := 26) 236 rfl (by decide) (by decide) rfl rfl ?_
    obtain ⟨hxn, hx7⟩ := l6 (Or.inl e)
    have hx20 : (20 : Int32) + x = nI (20 + pI x) := (congrArg (fun z => (20 : Int32) + z) hxn).trans (nI_add 20 (pI x))
    refine g_aload_n h (i := 109) rfl rfl ?_
    refine g_getR h (i := 110) rfl fl_X10_7 (fun _ _ _ => rfl) (lk_R hL) (lr_row hL) ?_
    refine g_bipush h (i := 111) rfl (v := 20) (by rfl) ?_
    refine g_iload_n h (i := 112) rfl rfl ?_
    refine g_iadd h (i := 113) rfl ?_
    refine g_eqi (nI (20 + pI x)) hx20 ?_
    refine g_aload_n h (i := 114) rfl rfl ?_
    refine g_getR h (i := 115) rfl fl_X10_7 (fun _ _ _ => rfl) (lk_R hL) (lr_row hL) ?_
    refine g_bipush h (i := 116) rfl (v := 20) (by rfl) ?_
    refine g_iload_n h (i := 117) rfl rfl ?_
    refine g_iadd h (i := 118) rfl ?_
    refine g_eqi (nI (20 + pI x)) hx20 ?_
    refine g_lald h (i := 119) rfl (lq_row hL) (vp_in_nI (by omega) (by omega)) ?_
    refine g_eql _ (sRow_jx _ _ _ (n := 20 + pI x) (nI_clamp (by omega))) ?_
    refine g_iload_n h (i := 120) rfl rfl ?_
    refine g_i2l h (i := 121) rfl ?_
    refine g_ladd h (i := 122) rfl ?_
    refine g_l2i h (i := 123) rfl ?_
    refine g_i2l h (i := 124) rfl ?_
    refine g_last h (i := 125) rfl (lq_row hL) (vp_in_nI (by omega) (by omega)) ?_
    refine g_w _ (sRow_ux _ _ _ _ (n := 20 + pI x) (nI_clamp (by omega))) ?_
    refine g_aload_n h (i := 126) rfl rfl ?_
    refine g_getR h (i := 127) rfl fl_X10_7 (fun _ _ _ => rfl) (lk_R hL) (lr_row hL) ?_
    refine g_bipush h (i := 128) rfl (v := 30) (by rfl) ?_
    refine g_dup2 h (i := 129) rfl rfl rfl ?_
    refine g_lald h (i := 130) rfl (lq_row hL) (vpD (by decide)) ?_
    refine g_eql _ (sRow_jx _ _ _ (n := 30) (by rfl)) ?_
    refine g_eql (r' 30) (by first | rfl | rw [up1_k (by omega)] | rw [up1_k (by omega), up1_k (by omega)]) ?_
    refine g_lconst h (i := 131) rfl (v := 1) (by rfl) ?_
    refine g_ladd h (i := 132) rfl ?_
    refine g_last h (i := 133) rfl (lq_row hL) (vpD (by decide)) ?_
    refine g_w _ (sRow_ux _ _ _ _ (n := 30) (by rfl)) ?_
    refine g_goto h (i := 134) 364 rfl rfl ?_
    exact g_vret hq h (i := 191) rfl (⟨rfl, w, RS_r a w, by unfold lineO; rw [if_neg (show ¬ op = 0 by rw [e]; decide), if_neg (show ¬ op = 1 by rw [e]; decide), if_neg (show ¬ op = 2 by rw [e]; decide), if_neg (show ¬ op = 3 by rw [e]; decide), if_neg (show ¬ op = 4 by rw [e]; decide), if_neg (show ¬ op = 5 by rw [e]; decide), if_neg (show ¬ op = 6 by rw [e]; decide), if_pos (show op = 7 from e)]⟩)
  · skip
    refine g_eqi (8) e ?_
    refine g_tin h (i := 26) 273 rfl (by decide) (by decide) rfl rfl ?_
    obtain ⟨hxn, hx7⟩ := l6 (Or.inr (Or.inl e))
    have hx20 : (20 : Int32) + x = nI (20 + pI x) := (congrArg (fun z => (20 : Int32) + z) hxn).trans (nI_add 20 (pI x))
    refine g_aload_n h (i := 135) rfl rfl ?_
    refine g_getR h (i := 136) rfl fl_X10_7 (fun _ _ _ => rfl) (lk_R hL) (lr_row hL) ?_
    refine g_bipush h (i := 137) rfl (v := 30) (by rfl) ?_
    refine g_dup2 h (i := 138) rfl rfl rfl ?_
    refine g_lald h (i := 139) rfl (lq_row hL) (vpD (by decide)) ?_
    refine g_eql _ (sRow_jx _ _ _ (n := 30) (by rfl)) ?_
    refine g_aload_n h (i := 140) rfl rfl ?_
    refine g_getR h (i := 141) rfl fl_X10_7 (fun _ _ _ => rfl) (lk_R hL) (lr_row hL) ?_
    refine g_bipush h (i := 142) rfl (v := 20) (by rfl) ?_
    refine g_iload_n h (i := 143) rfl rfl ?_
    refine g_iadd h (i := 144) rfl ?_
    refine g_eqi (nI (20 + pI x)) hx20 ?_
    refine g_lald h (i := 145) rfl (lq_row hL) (vp_in_nI (by omega) (by omega)) ?_
    refine g_eql _ (sRow_jx _ _ _ (n := 20 + pI x) (nI_clamp (by omega))) ?_
    refine g_iload_n h (i := 146) rfl rfl ?_
    refine g_i2l h (i := 147) rfl ?_
    refine g_lcmp h (i := 148) rfl ?_
    refine g_if_ge h (i := 149) 302 rfl rfl (fun c_293 => ?_) (fun c_293 => ?_)
    · skip
      refine g_lconst h (i := 152) rfl (v := 1) (by rfl) ?_
      refine g_ladd h (i := 153) rfl ?_
      refine g_last h (i := 154) rfl (lq_row hL) (vpD (by decide)) ?_
      refine g_w _ (sRow_ux _ _ _ _ (n := 30) (by rfl)) ?_
      refine g_goto h (i := 155) 364 rfl rfl ?_
      exact g_vret hq h (i := 191) rfl (⟨rfl, w, RS_r a w, by unfold lineO; rw [if_neg (show ¬ op = 0 by rw [e]; decide), if_neg (show ¬ op = 1 by rw [e]; decide), if_neg (show ¬ op = 2 by rw [e]; decide), if_neg (show ¬ op = 3 by rw [e]; decide), if_neg (show ¬ op = 4 by rw [e]; decide), if_neg (show ¬ op = 5 by rw [e]; decide), if_neg (show ¬ op = 6 by rw [e]; decide), if_neg (show ¬ op = 7 by rw [e]; decide), if_pos (show op = 8 from e), if_pos ((lg_cmp_ge _ _).mp c_293)]⟩)
    · skip
      refine g_ldc2 h (i := 150) rfl k_X10_168 ?_
      refine g_goto h (i := 151) 303 rfl rfl ?_
      refine g_ladd h (i := 153) rfl ?_
      refine g_last h (i := 154) rfl (lq_row hL) (vpD (by decide)) ?_
      refine g_w _ (sRow_ux _ _ _ _ (n := 30) (by rfl)) ?_
      refine g_goto h (i := 155) 364 rfl rfl ?_
      exact g_vret hq h (i := 191) rfl (⟨rfl, w, RS_r a w, by unfold lineO; rw [if_neg (show ¬ op = 0 by rw [e]; decide), if_neg (show ¬ op = 1 by rw [e]; decide), if_neg (show ¬ op = 2 by rw [e]; decide), if_neg (show ¬ op = 3 by rw [e]; decide), if_neg (show ¬ op = 4 by rw [e]; decide), if_neg (show ¬ op = 5 by rw [e]; decide), if_neg (show ¬ op = 6 by rw [e]; decide), if_neg (show ¬ op = 7 by rw [e]; decide), if_pos (show op = 8 from e), if_neg (fun q => c_293 ((lg_cmp_ge _ _).mpr q))]⟩)
  · skip
    refine g_eqi (9) e ?_
    refine g_tin h (i := 26) 308 rfl (by decide) (by decide) rfl rfl ?_
    refine g_aload_n h (i := 156) rfl rfl ?_
    refine g_getR h (i := 157) rfl fl_X10_7 (fun _ _ _ => rfl) (lk_R hL) (lr_row hL) ?_
    refine g_bipush h (i := 158) rfl (v := 49) (by rfl) ?_
    refine g_iload_n h (i := 159) rfl rfl ?_
    refine g_i2l h (i := 160) rfl ?_
    refine g_last h (i := 161) rfl (lq_row hL) (vpD (by decide)) ?_
    refine g_w _ (sRow_ux _ _ _ _ (n := 49) (by rfl)) ?_
    refine g_aload_n h (i := 162) rfl rfl ?_
    refine g_getR h (i := 163) rfl fl_X10_7 (fun _ _ _ => rfl) (lk_R hL) (lr_row hL) ?_
    refine g_bipush h (i := 164) rfl (v := 30) (by rfl) ?_
    refine g_dup2 h (i := 165) rfl rfl rfl ?_
    refine g_lald h (i := 166) rfl (lq_row hL) (vpD (by decide)) ?_
    refine g_eql _ (sRow_jx _ _ _ (n := 30) (by rfl)) ?_
    refine g_eql (r' 30) (by first | rfl | rw [up1_k (by omega)] | rw [up1_k (by omega), up1_k (by omega)]) ?_
    refine g_lconst h (i := 167) rfl (v := 1) (by rfl) ?_
    refine g_ladd h (i := 168) rfl ?_
    refine g_last h (i := 169) rfl (lq_row hL) (vpD (by decide)) ?_
    refine g_w _ (sRow_ux _ _ _ _ (n := 30) (by rfl)) ?_
    refine g_goto h (i := 170) 364 rfl rfl ?_
    exact g_vret hq h (i := 191) rfl (⟨rfl, w, RS_r a w, by unfold lineO; rw [if_neg (show ¬ op = 0 by rw [e]; decide), if_neg (show ¬ op = 1 by rw [e]; decide), if_neg (show ¬ op = 2 by rw [e]; decide), if_neg (show ¬ op = 3 by rw [e]; decide), if_neg (show ¬ op = 4 by rw [e]; decide), if_neg (show ¬ op = 5 by rw [e]; decide), if_neg (show ¬ op = 6 by rw [e]; decide), if_neg (show ¬ op = 7 by rw [e]; decide), if_neg (show ¬ op = 8 by rw [e]; decide), if_pos (show op = 9 from e)]⟩)
  · skip
    refine g_eqi (10) e ?_
    refine g_tin h (i := 26) 331 rfl (by decide) (by decide) rfl rfl ?_
    refine g_aload_n h (i := 171) rfl rfl ?_
    refine g_getR h (i := 172) rfl fl_X10_7 (fun _ _ _ => rfl) (lk_R hL) (lr_row hL) ?_
    refine g_bipush h (i := 173) rfl (v := 28) (by rfl) ?_
    refine g_ldc2 h (i := 174) rfl k_X10_168 ?_
    refine g_last h (i := 175) rfl (lq_row hL) (vpD (by decide)) ?_
    refine g_w _ (sRow_ux _ _ _ _ (n := 28) (by rfl)) ?_
    refine g_goto h (i := 176) 364 rfl rfl ?_
    exact g_vret hq h (i := 191) rfl (⟨rfl, w, RS_r a w, by unfold lineO; rw [if_neg (show ¬ op = 0 by rw [e]; decide), if_neg (show ¬ op = 1 by rw [e]; decide), if_neg (show ¬ op = 2 by rw [e]; decide), if_neg (show ¬ op = 3 by rw [e]; decide), if_neg (show ¬ op = 4 by rw [e]; decide), if_neg (show ¬ op = 5 by rw [e]; decide), if_neg (show ¬ op = 6 by rw [e]; decide), if_neg (show ¬ op = 7 by rw [e]; decide), if_neg (show ¬ op = 8 by rw [e]; decide), if_neg (show ¬ op = 9 by rw [e]; decide), if_pos (show op = 10 from e)]⟩)
  · skip
    refine g_eqi (11) e ?_
    refine g_tout h (i := 26) 344 rfl (Or.inr (by decide)) rfl ?_
    refine g_aload_n h (i := 177) rfl rfl ?_
    refine g_getR h (i := 178) rfl fl_X10_7 (fun _ _ _ => rfl) (lk_R hL) (lr_row hL) ?_
    refine g_bipush h (i := 179) rfl (v := 48) (by rfl) ?_
    refine g_iload_n h (i := 180) rfl rfl ?_
    refine g_i2l h (i := 181) rfl ?_
    refine g_last h (i := 182) rfl (lq_row hL) (vpD (by decide)) ?_
    refine g_w _ (sRow_ux _ _ _ _ (n := 48) (by rfl)) ?_
    refine g_aload_n h (i := 183) rfl rfl ?_
    refine g_getR h (i := 184) rfl fl_X10_7 (fun _ _ _ => rfl) (lk_R hL) (lr_row hL) ?_
    refine g_bipush h (i := 185) rfl (v := 30) (by rfl) ?_
    refine g_dup2 h (i := 186) rfl rfl rfl ?_
    refine g_lald h (i := 187) rfl (lq_row hL) (vpD (by decide)) ?_
    refine g_eql _ (sRow_jx _ _ _ (n := 30) (by rfl)) ?_
    refine g_eql (r' 30) (by first | rfl | rw [up1_k (by omega)] | rw [up1_k (by omega), up1_k (by omega)]) ?_
    refine g_lconst h (i := 188) rfl (v := 1) (by rfl) ?_
    refine g_ladd h (i := 189) rfl ?_
    refine g_last h (i := 190) rfl (lq_row hL) (vpD (by decide)) ?_
    refine g_w _ (sRow_ux _ _ _ _ (n := 30) (by rfl)) ?_
    exact g_vret hq h (i := 191) rfl (⟨rfl, w, RS_r a w, by unfold lineO; rw [if_neg (show ¬ op = 0 by rw [e]; decide), if_neg (show ¬ op = 1 by rw [e]; decide), if_neg (show ¬ op = 2 by rw [e]; decide), if_neg (show ¬ op = 3 by rw [e]; decide), if_neg (show ¬ op = 4 by rw [e]; decide), if_neg (show ¬ op = 5 by rw [e]; decide), if_neg (show ¬ op = 6 by rw [e]; decide), if_neg (show ¬ op = 7 by rw [e]; decide), if_neg (show ¬ op = 8 by rw [e]; decide), if_neg (show ¬ op = 9 by rw [e]; decide), if_neg (show ¬ op = 10 by rw [e]; decide)]⟩)
