def isI (x : Int32) (m : Nat) : Prop := x = nI (pI x) ∧ pI x ≤ m
/-- a line that was taken -/
def LnR (o a b : Int32) : Prop := isI o 11 ∧ (o = 0 → isI a 15 ∧ isI b 100 ∧ 0 < pI b) ∧ (o = 1 → isI a 1000) ∧ (o = 2 ∨ o = 3 → isI a 7 ∧ (b = 0 ∨ b = 1)) ∧ (o = 4 ∨ o = 5 ∨ o = 11 → isI a 59) ∧ (o = 7 ∨ o = 8 ∨ o = 9 → isI a 7)
/-- what holds of a config: kinds and lengths, paces, rises, poses, taught, boxes, lines, scripts, limits -/
def CfR (cf : Nat → Nat → Int32) : Prop := CfA cf ∧ (∀ j, j < 4 → isI (cf 7 j) 100000 ∧ 0 < pI (cf 7 j)) ∧ (∀ j, j < 4 → isI (cf 8 j) 100000 ∧ 0 < pI (cf 8 j)) ∧ (∀ i, i < 64 → (cf 12 i).toInt.natAbs ≤ 1000000) ∧ (∀ k, k < 16 → cf 11 k = 0 ∨ cf 11 k = 1) ∧ (∀ k, k < 4 → cf 9 k = 0 ∨ cf 9 k = 1) ∧ isI (cf 0 12) 60 ∧ (∀ k, k < pI (cf 0 12) → LnR (cf 13 k) (cf 14 k) (cf 15 k)) ∧ isI (cf 0 16) 40 ∧ (∀ k, k < pI (cf 0 16) → isI (cf 17 k) 7 ∧ (cf 18 k = 0 ∨ cf 18 k = 1)) ∧ (∀ j, j < 4 → (cf 5 j).toInt.natAbs ≤ 1000000 ∧ (cf 6 j).toInt.natAbs ≤ 1000000)
theorem l_sm {x : Int64} (h : x.toInt.natAbs ≤ 1000000) : x = x.toInt32.toInt64 ∧ x.toInt32.toInt = x.toInt := by
  have e := l_i (x := x) (by omega) (by omega)
  exact ⟨i64x (by rw [i_l, e]), e⟩
theorem setn_u {α : Type} {r : Nat → α} {o n y : Nat} {f : Nat → α} {v : α} (h : ¬ (o ≤ y ∧ y < o + n)) : up1 (setn r o f n) y v = setn (up1 r y v) o f n := by
  funext z
  by_cases e : z = y
  · subst e; rw [up1_s, setn_o h, up1_s]
  · rw [up1_k e]
    unfold setn
    by_cases g : o ≤ z ∧ z < o + n
    · rw [if_pos g, if_pos g]
    · rw [if_neg g, if_neg g, up1_k e]
def plR (cf : Nat → Nat → Int32) (k sh : Nat) (r : Nat → Int64) : Nat × Nat × Nat × Nat := plS (fun j => pI (cf 8 j)) (pvN (fun j => pI (cf 7 j)) sh) (wdN (fun j => (r j).toInt32) (fun j => cf 12 (4 * k + j))) 1 4
def begins0 (r : Nat → Int64) : Nat → Int64 := up1 (up1 r 50 (r 49)) 49 (-1)
def begins1 (q : Nat × Nat × Nat × Nat) (go : Nat → Int32) (r : Nat → Int64) : Nat → Int64 := up1 (up1 (up1 (up1 (up1 (up1 (up1 (setn (setn (begins0 r) 51 r 4) 55 (fun j => (go j).toInt64) 4) 59 (lN q.1)) 60 (lN q.2.1)) 61 (lN q.2.2.1)) 62 (lN q.2.2.2)) 63 0) 47 (lN q.1)) 46 1
def beginsR (cf : Nat → Nat → Int32) (k sh : Nat) (r : Nat → Int64) : Nat → Int64 := if wiP cf k then (if (plR cf k sh r).1 = 0 then up1 (begins0 r) 30 (r 30 + 1) else begins1 (plR cf k sh r) (fun j => cf 12 (4 * k + j)) r) else errsR (cf 0 12) 1 (begins0 r)
theorem plR_ok {cf : Nat → Nat → Int32} {k sh : Nat} {r : Nat → Int64} (hc : CfR cf) (hr : FA r) (hk : k < 16) (hs : sh ≤ 100) : (plR cf k sh r).1 ≤ 2000000 ∧ mB (plR cf k sh r).2.1 (plR cf k sh r).2.2.1 ∧ (plR cf k sh r).2.2.2 ≤ 2000000 ∧ (0 < (plR cf k sh r).1 → 0 < (plR cf k sh r).2.2.2) := by
  refine pl_ok (by omega) (fun j hj => ⟨⟨(hc.2.2.1 j hj).2, (hc.2.2.1 j hj).1.2, pv_ok (hc.2.1 j hj).1.2 hs⟩, ?_⟩)
  have a := (fr_st hj).mp (hr j)
  have b := (l_sm a).2
  have c := hc.2.2.2.1 (4 * k + j) (by omega)
  show ((cf 12 (4 * k + j)).toInt - (r j).toInt32.toInt).natAbs ≤ 2000000
  omega
theorem RS_pl {w : Wd} {a : Nat} {r : Nat → Int64} {go : Nat → Int32} {q : Nat × Nat × Nat × Nat} {J : Nat → Nat → Int64} (h : PlI w a r go q 4 J) : RS a w (dW w (wI w) J (wD w)) := ⟨J, wD w, rfl, fun p p1 p2 p3 _ _ => h.1 p p1 p2 p3, fun _ _ => rfl⟩
-- a go begins
set_option maxRecDepth 100000 in
set_option maxHeartbeats 4000000 in
theorem ct_X10_begins (l : Launch) (E : EE) (w : Wd) (a k sh : Nat) (r : Nat → Int64) (hlo : E.2.2 ≤ wN (sRow w a r)) (hL : LayR w a) (hr : FA r) (hc : CfR (cfW w a)) (hk : k < 16) (hsh : sh ≤ 100) : Ct l E yX10_begins cX10_begins 4 none ({ frames := 4, cells := 0, slots := 0, locals := 116 } : Room) [.ref a, .int (nI k), .int (nI sh)] (sRow w a r) 0 0 (fun q w2 => q = none ∧ ∃ w3, RS a w w3 ∧ w2 = sRow w3 a (beginsR (cfW w a) k sh r)) := by
  refine ct_in (il := il_X10_begins) (by decide) dk_X10_begins (Nat.le_of_ble_eq_true rfl) hlo ?_
  intro X h hq

  obtain ⟨q, hqe⟩ : ∃ q, q = plR (cfW w a) k sh r := ⟨_, rfl⟩
  obtain ⟨go, hgo⟩ : ∃ go : Nat → Int32, go = fun j => cfW w a 12 (4 * k + j) := ⟨_, rfl⟩
  have hpo := plR_ok hc hr hk hsh
  rw [← hqe] at hpo
  have hL0 := hL
  have k44 : ∀ J, PlI w a (begins0 r) go q 4 J → wiP (cfW w a) k → G X 0 0 44 (lf [(0, .ref a)]) [] (sRow (dW w (wI w) J (wD w)) a (begins0 r)) := by
    intro J hJ hwi
    obtain ⟨m1, m2, m3, m4, m5⟩ := hJ.2
    have hRS := RS_pl hJ
    have q24 : ∀ R : Nat → Int64, wJ (sRow (dW w (wI w) J (wD w)) a R) a 24 = lN q.1 := fun R => (sRow_o (by omega)).trans m2
    have q25 : ∀ R : Nat → Int64, wJ (sRow (dW w (wI w) J (wD w)) a R) a 25 = lN q.2.1 := fun R => (sRow_o (by omega)).trans m5
    have q26 : ∀ R : Nat → Int64, wJ (sRow (dW w (wI w) J (wD w)) a R) a 26 = lN q.2.2.1 := fun R => (sRow_o (by omega)).trans m4
    have q27 : ∀ R : Nat → Int64, wJ (sRow (dW w (wI w) J (wD w)) a R) a 27 = lN q.2.2.2 := fun R => (sRow_o (by omega)).trans m3
    obtain ⟨tv, htv⟩ : ∃ tv : Nat → Int64, tv = fun j => (go j).toInt64 := ⟨_, rfl⟩
    have key : ∀ (d i : Nat), i + d = 4 → ¬ q.1 = 0 → G X 0 0 67 (lf [(0, .ref a), (3, .int (nI i))]) [] (sRow (dW w (wI w) J (wD w)) a (setn (setn (begins0 r) 51 r i) 55 tv i)) := by
      intro d
      induction d with
      | zero =>
        intro i hi hq0
        have hi4 : i = 4 := by omega
        subst hi4
        refine g_iload_n h (i := 41) rfl rfl ?_
        refine g_iconst h (i := 42) rfl (v := 4) (by rfl) ?_
        refine g_icmp_ge h (i := 43) 108 rfl rfl (fun c_69 => ?_) (fun c_69 => absurd (by decide : (4 : Int32) ≤ nI 4) c_69)
        refine g_aload_n h (i := 66) rfl rfl ?_
        refine g_getR h (i := 67) rfl fl_X10_7 (fun _ _ _ => rfl) (lk_R hL) (lr_row hL) ?_
        refine g_bipush h (i := 68) rfl (v := 59) (by rfl) ?_
        refine g_aload_n h (i := 69) rfl rfl ?_
        refine g_getJ h (i := 70) rfl fl_X10_178 (fun _ _ _ => rfl) (lk_R hL) ?_
        refine g_eql (lN q.1) (q24 _) ?_
        refine g_last h (i := 71) rfl (lq_row hL) (vpD (by decide)) ?_
        refine g_w _ (sRow_ux _ _ _ _ (n := 59) (by rfl)) ?_
        refine g_aload_n h (i := 72) rfl rfl ?_
        refine g_getR h (i := 73) rfl fl_X10_7 (fun _ _ _ => rfl) (lk_R hL) (lr_row hL) ?_
        refine g_bipush h (i := 74) rfl (v := 60) (by rfl) ?_
        refine g_aload_n h (i := 75) rfl rfl ?_
        refine g_getJ h (i := 76) rfl fl_X10_182 (fun _ _ _ => rfl) (lk_R hL) ?_
        refine g_eql (lN q.2.1) (q25 _) ?_
        refine g_last h (i := 77) rfl (lq_row hL) (vpD (by decide)) ?_
        refine g_w _ (sRow_ux _ _ _ _ (n := 60) (by rfl)) ?_
        refine g_aload_n h (i := 78) rfl rfl ?_
        refine g_getR h (i := 79) rfl fl_X10_7 (fun _ _ _ => rfl) (lk_R hL) (lr_row hL) ?_
        refine g_bipush h (i := 80) rfl (v := 61) (by rfl) ?_
        refine g_aload_n h (i := 81) rfl rfl ?_
        refine g_getJ h (i := 82) rfl fl_X10_185 (fun _ _ _ => rfl) (lk_R hL) ?_
        refine g_eql (lN q.2.2.1) (q26 _) ?_
        refine g_last h (i := 83) rfl (lq_row hL) (vpD (by decide)) ?_
        refine g_w _ (sRow_ux _ _ _ _ (n := 61) (by rfl)) ?_
        refine g_aload_n h (i := 84) rfl rfl ?_
        refine g_getR h (i := 85) rfl fl_X10_7 (fun _ _ _ => rfl) (lk_R hL) (lr_row hL) ?_
        refine g_bipush h (i := 86) rfl (v := 62) (by rfl) ?_
        refine g_aload_n h (i := 87) rfl rfl ?_
        refine g_getJ h (i := 88) rfl fl_X10_188 (fun _ _ _ => rfl) (lk_R hL) ?_
        refine g_eql (lN q.2.2.2) (q27 _) ?_
        refine g_last h (i := 89) rfl (lq_row hL) (vpD (by decide)) ?_
        refine g_w _ (sRow_ux _ _ _ _ (n := 62) (by rfl)) ?_
        refine g_aload_n h (i := 90) rfl rfl ?_
        refine g_getR h (i := 91) rfl fl_X10_7 (fun _ _ _ => rfl) (lk_R hL) (lr_row hL) ?_
        refine g_bipush h (i := 92) rfl (v := 63) (by rfl) ?_
        refine g_lconst h (i := 93) rfl (v := 0) (by rfl) ?_
        refine g_last h (i := 94) rfl (lq_row hL) (vpD (by decide)) ?_
        refine g_w _ (sRow_ux _ _ _ _ (n := 63) (by rfl)) ?_
        refine g_aload_n h (i := 95) rfl rfl ?_
        refine g_getR h (i := 96) rfl fl_X10_7 (fun _ _ _ => rfl) (lk_R hL) (lr_row hL) ?_
        refine g_bipush h (i := 97) rfl (v := 47) (by rfl) ?_
        refine g_aload_n h (i := 98) rfl rfl ?_
        refine g_getJ h (i := 99) rfl fl_X10_178 (fun _ _ _ => rfl) (lk_R hL) ?_
        refine g_eql (lN q.1) (q24 _) ?_
        refine g_last h (i := 100) rfl (lq_row hL) (vpD (by decide)) ?_
        refine g_w _ (sRow_ux _ _ _ _ (n := 47) (by rfl)) ?_
        refine g_aload_n h (i := 101) rfl rfl ?_
        refine g_getR h (i := 102) rfl fl_X10_7 (fun _ _ _ => rfl) (lk_R hL) (lr_row hL) ?_
        refine g_bipush h (i := 103) rfl (v := 46) (by rfl) ?_
        refine g_lconst h (i := 104) rfl (v := 1) (by rfl) ?_
        refine g_last h (i := 105) rfl (lq_row hL) (vpD (by decide)) ?_
        refine g_w _ (sRow_ux _ _ _ _ (n := 46) (by rfl)) ?_
        exact g_vret hq h (i := 106) rfl (⟨rfl, _, hRS, by unfold beginsR; rw [if_pos hwi, ← hqe, if_neg hq0, ← hgo, htv]; rfl⟩)
      | succ d ih =>
        intro i hid hq0
        have hi : i < 4 := by omega
        have hcl : (nI i).toNatClampNeg = i := nI_clamp (by omega)
        have hvp : vp_in (nI i) 4 := vp_in_nI hi (by omega)
        have hnge : ¬ (4 : Int32) ≤ nI i := nI_ge (b := 4) hi (by omega)
        have s1 : up1 (setn (setn (begins0 r) 51 r i) 55 tv i) (51 + i) (r i) = setn (setn (begins0 r) 51 r (i + 1)) 55 tv i := by rw [setn_u (by omega), setn_1 _ _ _ _ rfl]
        have s2 : up1 (setn (setn (begins0 r) 51 r (i + 1)) 55 tv i) (55 + i) (tv i) = setn (setn (begins0 r) 51 r (i + 1)) 55 tv (i + 1) := setn_1 _ _ _ _ rfl
        have b0 : begins0 r i = r i := by unfold begins0; rw [up1_k (by omega), up1_k (by omega)]
        refine g_iload_n h (i := 41) rfl rfl ?_
        refine g_iconst h (i := 42) rfl (v := 4) (by rfl) ?_
        refine g_icmp_ge h (i := 43) 108 rfl rfl (fun c_69 => absurd c_69 hnge) (fun c_69 => ?_)
        refine g_aload_n h (i := 44) rfl rfl ?_
        refine g_getR h (i := 45) rfl fl_X10_7 (fun _ _ _ => rfl) (lk_R hL) (lr_row hL) ?_
        refine g_bipush h (i := 46) rfl (v := 51) (by rfl) ?_
        refine g_iload_n h (i := 47) rfl rfl ?_
        refine g_iadd h (i := 48) rfl ?_
        refine g_eqi (nI (51 + i)) (nI_add 51 i) ?_
        refine g_aload_n h (i := 49) rfl rfl ?_
        refine g_getR h (i := 50) rfl fl_X10_68 (fun _ _ _ => rfl) (lk_R hL) (lr_planFrom hL) ?_
        refine g_iload_n h (i := 51) rfl rfl ?_
        refine g_lald h (i := 52) rfl (lq_planFrom hL) (hvp) ?_
        refine g_eql (r i) (by rw [hcl]; exact (sRow_o (by omega)).trans ((m1 i hi).1.trans b0)) ?_
        refine g_last h (i := 53) rfl (lq_row hL) (vp_in_nI (by omega) (by omega)) ?_
        refine g_w _ (sRow_ux _ _ _ _ (n := 51 + i) (nI_clamp (by omega))) ?_
        refine g_w (sRow (dW w (wI w) J (wD w)) a (setn (setn (begins0 r) 51 r (i + 1)) 55 tv i)) (by rw [s1]) ?_
        refine g_aload_n h (i := 54) rfl rfl ?_
        refine g_getR h (i := 55) rfl fl_X10_7 (fun _ _ _ => rfl) (lk_R hL) (lr_row hL) ?_
        refine g_bipush h (i := 56) rfl (v := 55) (by rfl) ?_
        refine g_iload_n h (i := 57) rfl rfl ?_
        refine g_iadd h (i := 58) rfl ?_
        refine g_eqi (nI (55 + i)) (nI_add 55 i) ?_
        refine g_aload_n h (i := 59) rfl rfl ?_
        refine g_getR h (i := 60) rfl fl_X10_71 (fun _ _ _ => rfl) (lk_R hL) (lr_planTo hL) ?_
        refine g_iload_n h (i := 61) rfl rfl ?_
        refine g_lald h (i := 62) rfl (lq_planTo hL) (hvp) ?_
        refine g_eql (tv i) (by rw [hcl, htv]; exact (sRow_o (by omega)).trans (m1 i hi).2) ?_
        refine g_last h (i := 63) rfl (lq_row hL) (vp_in_nI (by omega) (by omega)) ?_
        refine g_w _ (sRow_ux _ _ _ _ (n := 55 + i) (nI_clamp (by omega))) ?_
        refine g_w (sRow (dW w (wI w) J (wD w)) a (setn (setn (begins0 r) 51 r (i + 1)) 55 tv (i + 1))) (by rw [s2]) ?_
        refine g_iinc h (i := 64) rfl rfl (dv := 1) (by rfl) ?_
        refine g_goto h (i := 65) 67 rfl rfl ?_
        exact g_lv [(0, .ref a), (3, .int (nI (i + 1)))] ⟨rfl, congrArg (fun z => some (Value.int z)) (nI_1 i), trivial⟩ (ih (i + 1) (by omega) hq0)
    have z0 : lg_cmp (lN q.1) 0 = 0 ↔ q.1 = 0 := (lg_cmp_eq _ _).trans (lN_x (b := 0) (by omega) (by omega))
    refine g_aload_n h (i := 25) rfl rfl ?_
    refine g_getJ h (i := 26) rfl fl_X10_178 (fun _ _ _ => rfl) (lk_R hL) ?_
    refine g_eql (lN q.1) (q24 _) ?_
    refine g_lconst h (i := 27) rfl (v := 0) (by rfl) ?_
    refine g_lcmp h (i := 28) rfl ?_
    refine g_if_ne h (i := 29) 65 rfl rfl (fun c_50 => ?_) (fun c_50 => ?_)
    · skip
      refine g_iconst h (i := 39) rfl (v := 0) (by rfl) ?_
      refine g_istore_n h (i := 40) rfl hq rfl ?_
      exact g_lv [(0, .ref a), (3, .int (nI 0))] ⟨rfl, rfl, trivial⟩ (by have := key 4 0 (by omega) (fun z => c_50 (z0.mpr z)); rw [setn_0, setn_0] at this; exact this)
    · skip
      refine g_aload_n h (i := 30) rfl rfl ?_
      refine g_getR h (i := 31) rfl fl_X10_7 (fun _ _ _ => rfl) (lk_R hL) (lr_row hL) ?_
      refine g_bipush h (i := 32) rfl (v := 30) (by rfl) ?_
      refine g_dup2 h (i := 33) rfl rfl rfl ?_
      refine g_lald h (i := 34) rfl (lq_row hL) (vpD (by decide)) ?_
      refine g_eql _ (sRow_jx _ _ _ (n := 30) (by rfl)) ?_
      refine g_eql (r 30) (by unfold begins0; rw [up1_k (by omega), up1_k (by omega)]) ?_
      refine g_lconst h (i := 35) rfl (v := 1) (by rfl) ?_
      refine g_ladd h (i := 36) rfl ?_
      refine g_last h (i := 37) rfl (lq_row hL) (vpD (by decide)) ?_
      refine g_w _ (sRow_ux _ _ _ _ (n := 30) (by rfl)) ?_
      exact g_vret hq h (i := 38) rfl (⟨rfl, _, hRS, by unfold beginsR; rw [if_pos hwi, ← hqe, if_pos (z0.mp c_50)]⟩)
  have hpl := ct_X10_plans l E w a k sh (begins0 r) (fun j => pI (cfW w a 7 j)) (fun j => pI (cfW w a 8 j)) (fun j => (r j).toInt32) go hlo hL hk (fun j hj => ⟨(hc.2.1 j hj).1.1, (hc.2.1 j hj).2, (hc.2.1 j hj).1.2⟩) (fun j hj => ⟨(hc.2.2.1 j hj).1.1, (hc.2.2.1 j hj).2, (hc.2.2.1 j hj).1.2⟩) (fun j hj => by
    have f := l_sm ((fr_st hj).mp (hr j))
    have b0 : begins0 r j = r j := by unfold begins0; rw [up1_k (by omega), up1_k (by omega)]
    rw [b0]
    exact ⟨f.1, by rw [f.2]; exact (fr_st hj).mp (hr j)⟩) (fun j hj => by rw [hgo]; exact ⟨rfl, hc.2.2.2.1 (4 * k + j) (by omega)⟩) hsh
  refine g_aload_n h (i := 0) rfl rfl ?_
  refine g_getR h (i := 1) rfl fl_X10_7 (fun _ _ _ => rfl) (lk_R hL) (lr_row hL) ?_
  refine g_bipush h (i := 2) rfl (v := 50) (by rfl) ?_
  refine g_aload_n h (i := 3) rfl rfl ?_
  refine g_getR h (i := 4) rfl fl_X10_7 (fun _ _ _ => rfl) (lk_R hL) (lr_row hL) ?_
  refine g_bipush h (i := 5) rfl (v := 49) (by rfl) ?_
  refine g_lald h (i := 6) rfl (lq_row hL) (vpD (by decide)) ?_
  refine g_eql _ (sRow_jx _ _ _ (n := 49) (by rfl)) ?_
  refine g_last h (i := 7) rfl (lq_row hL) (vpD (by decide)) ?_
  refine g_w _ (sRow_ux _ _ _ _ (n := 50) (by rfl)) ?_
  refine g_aload_n h (i := 8) rfl rfl ?_
  refine g_getR h (i := 9) rfl fl_X10_7 (fun _ _ _ => rfl) (lk_R hL) (lr_row hL) ?_
  refine g_bipush h (i := 10) rfl (v := 49) (by rfl) ?_
  refine g_ldc2 h (i := 11) rfl k_X10_80 ?_
  refine g_last h (i := 12) rfl (lq_row hL) (vpD (by decide)) ?_
  refine g_w _ (sRow_ux _ _ _ _ (n := 49) (by rfl)) ?_
  refine g_aload_n h (i := 13) rfl rfl ?_
  refine g_iload_n h (i := 14) rfl rfl ?_
  refine g_callVx h hq (i := 15) rfl mv_X10_232 cls10 (lk_R hL) (ct_X10_isWithin l E w a k _ hlo hL hk (hc.2.2.2.2.1 k hk)) rfl rfl ⟨rfl, rfl, Nat.le_of_ble_eq_true rfl, Nat.le_of_ble_eq_true rfl⟩ (Nat.le_of_ble_eq_true rfl) ⟨Nat.zero_le _, Nat.zero_le _⟩ ?_
  refine g_if_ne h (i := 16) 38 rfl rfl (fun c_29 => ?_) (fun c_29 => ?_)
  · skip
    refine g_aload_n h (i := 21) rfl rfl ?_
    refine g_iload_n h (i := 22) rfl rfl ?_
    refine g_iload_n h (i := 23) rfl rfl ?_
    refine g_callVp (w0 := w) h hq (i := 24) rfl mv_X10_196 cls10 (lk_R hL) (hpl) rfl rfl ⟨rfl, rfl, Nat.le_of_ble_eq_true rfl, Nat.le_of_ble_eq_true rfl⟩ (Nat.le_of_ble_eq_true rfl) ⟨Nat.zero_le _, Nat.zero_le _⟩ (fun r41 w41 hp41 => ?_)
    obtain ⟨rfl, J, rfl, hJ⟩ := hp41
    exact g_lv [(0, .ref a)] ⟨rfl, trivial⟩ (k44 J (by rw [hqe]; unfold plR; rw [← hgo]; exact hJ) (bI_1.mp c_29))
  · skip
    refine g_aload_n h (i := 17) rfl rfl ?_
    refine g_iconst h (i := 18) rfl (v := 1) (by rfl) ?_
    refine g_callVn h hq (i := 19) rfl mv_X10_219 cls10 (lk_R hL) (ct_X10_errs l E w a _ 1 hlo hL) rfl rfl ⟨rfl, rfl, Nat.le_of_ble_eq_true rfl, Nat.le_of_ble_eq_true rfl⟩ (Nat.le_of_ble_eq_true rfl) ⟨Nat.zero_le _, Nat.zero_le _⟩ ?_
    exact g_vret hq h (i := 20) rfl (⟨rfl, w, RS_r a w, by unfold beginsR; rw [if_neg (bI_0.mp c_29)]; rfl⟩)
