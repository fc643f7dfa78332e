theorem wI_s {W : Wd} {a k x y : Nat} {v : Int32} (h : x ≠ a) : wI (sI W a k v) x y = wI W x y := up2_a h
theorem wI_c {W : Wd} {s d n x : Nat} (h : x ≠ d) : wI (cpI W s d n) x = wI W x := by rw [cpI_ua]; exact ua_a h
theorem wI_h {W : Wd} {s d n y : Nat} (h : y < n) : wI (cpI W s d n) d y = wI W s y := by rw [cpI_ua]; exact (congrFun (ua_s _ _ _) y).trans (setn_i (Nat.zero_add y).symm h)
theorem wI_j {W : Wd} {s d n : Nat} : wI (cpJ W s d n) = wI W := rfl
theorem wJ_c {W : Wd} {s d n x : Nat} (h : x ≠ d) : wJ (cpJ W s d n) x = wJ W x := by rw [cpJ_ua]; exact ua_a h
theorem wJ_h {W : Wd} {s d n y : Nat} (h : y < n) : wJ (cpJ W s d n) d y = wJ W s y := by rw [cpJ_ua]; exact (congrFun (ua_s _ _ _) y).trans (setn_i (Nat.zero_add y).symm h)
theorem bI_fit (p : Prop) [Decidable p] : fits .boolean (.int (bI p)) = true := by
  by_cases h : p
  · rw [bI_t h]; rfl
  · rw [bI_f h]; rfl
def mbW (w : Wd) (t s : Nat) : Wd := sI (sI (sI (sI (cpI (cpI w (s + 1) (t + 1) 4) (s + 2) (t + 2) 4) t 2 (wI w s 2)) t 3 (wI w s 3)) t 4 (wI w s 4)) t 5 (wI w s 5)
theorem tf_cp {c m s d n : Nat} {w w2 : Wd} (h : TF c m w w2) (hd : m ≤ d ∧ d < m + 10) : TF c m w (cpI w2 s d n) := by
  rw [cpI_ua]
  exact tf_d h (fun p h1 h2 => ua_a (by omega)) (fun _ _ => rfl) (fun _ _ => rfl)
theorem tf_cj {c m s n : Nat} {w w2 : Wd} (h : TF c m w w2) : TF c m w (cpJ w2 s (m + 2) n) := by
  rw [cpJ_ua]
  exact tf_d h (fun p h1 h2 => rfl) (fun p h1 => ua_a h1) (fun _ _ => rfl)
def bgJ (w : Wd) (p q : Nat) (f g : Nat → Int32) (i : Nat) : Wd := dW w (ua (ua (wI w) p (setn (wI w p) 0 f i)) q (setn (wI w q) 0 g i)) (wJ w) (wD w)
theorem bgJ_0 (w : Wd) (p q : Nat) (f g : Nat → Int32) : bgJ w p q f g 0 = w := by
  unfold bgJ
  rw [setn_0, setn_0, ua_self]
  have e : ua (wI w) q (wI w q) = wI w := ua_self _ _
  rw [e]; rfl
theorem bgJ_1 (w : Wd) {p q : Nat} {f g : Nat → Int32} {i : Nat} {v u : Int32} (h : p ≠ q) (hv : v = f i) (hu : u = g i) : sI (sI (bgJ w p q f g i) p i v) q i u = bgJ w p q f g (i + 1) := by
  have e4 : up1 (setn (wI w p) 0 f i) i v = setn (wI w p) 0 f (i + 1) := by
    have := setn_1 (wI w p) 0 f i hv
    rw [Nat.zero_add] at this; exact this
  have e5 : up1 (setn (wI w q) 0 g i) i u = setn (wI w q) 0 g (i + 1) := by
    have := setn_1 (wI w q) 0 g i hu
    rw [Nat.zero_add] at this; exact this
  have e : up2 (up2 (ua (ua (wI w) p (setn (wI w p) 0 f i)) q (setn (wI w q) 0 g i)) p i v) q i u = ua (ua (wI w) p (setn (wI w p) 0 f (i + 1))) q (setn (wI w q) 0 g (i + 1)) := by
    rw [up2_ua, up2_ua, ua_a h, ua_s, ua_a (Ne.symm h), ua_s, e4, e5]
    funext x
    by_cases h5 : x = q
    · subst h5; rw [ua_s, ua_s]
    · rw [ua_a h5, ua_a h5]
      by_cases h4 : x = p
      · subst h4; rw [ua_s, ua_s]
      · rw [ua_a h4, ua_a h5, ua_a h4, ua_a h4]
  exact congrArg (fun I => dW w I (wJ w) (wD w)) e
theorem bgJ_o {w : Wd} {p q x : Nat} {f g : Nat → Int32} {i : Nat} (h : x ≠ p) (h2 : x ≠ q) : wI (bgJ w p q f g i) x = wI w x := (ua_a h2).trans (ua_a h)
theorem bgJ_p {w : Wd} {p q : Nat} {f g : Nat → Int32} {i j : Nat} (h : p ≠ q) (hj : j < i) : wI (bgJ w p q f g i) p j = f j := (congrFun ((ua_a h).trans (ua_s _ _ _)) j).trans (setn_i (Nat.zero_add j).symm hj)
theorem bgJ_q {w : Wd} {p q : Nat} {f g : Nat → Int32} {i j : Nat} (hj : j < i) : wI (bgJ w p q f g i) q j = g j := (congrFun (ua_s _ _ _) j).trans (setn_i (Nat.zero_add j).symm hj)
-- a motion becomes another
set_option maxRecDepth 100000 in
set_option maxHeartbeats 4000000 in
theorem ct_X4_become (l : Launch) (E : EE) (w : Wd) (t s : Nat) (hlo : E.2.2 ≤ wN w) (hT : LayT w t) (hS : LayT w s) (hd : s + 3 ≤ t ∨ t + 3 ≤ s) : Ct l E yX4_become cX4_become 2 none ({ frames := 1, cells := 0, slots := 0, locals := 48 } : Room) [.ref t, .ref s] w 0 0 (Px none (mbW w t s)) := by
  refine ct_in (il := il_X4_become) (by decide) dk_X4_become (Nat.le_of_ble_eq_true rfl) hlo ?_
  intro X h hq

  refine g_aload_n h (i := 0) rfl rfl ?_
  refine g_getR h (i := 1) rfl fl_X4_9 (fun _ _ _ => rfl) (lk_T hS) (lt_from hS) ?_
  refine g_iconst h (i := 2) rfl (v := 0) (by rfl) ?_
  refine g_aload_n h (i := 3) rfl rfl ?_
  refine g_getR h (i := 4) rfl fl_X4_9 (fun _ _ _ => rfl) (lk_T hT) (lt_from hT) ?_
  refine g_iconst h (i := 5) rfl (v := 0) (by rfl) ?_
  refine g_iconst h (i := 6) rfl (v := 4) (by rfl) ?_
  refine g_copyI (w0 := w) h hq (i := 7) (n := 4) rfl ml_X4_53 (lu_from hS) (lu_from hT) rfl (by decide) (by decide) (by decide) ⟨rfl, Nat.le_of_ble_eq_true rfl⟩ ?_
  refine g_aload_n h (i := 8) rfl rfl ?_
  refine g_getR h (i := 9) rfl fl_X4_15 (fun _ _ _ => rfl) (lk_T hS) (lt_by hS) ?_
  refine g_iconst h (i := 10) rfl (v := 0) (by rfl) ?_
  refine g_aload_n h (i := 11) rfl rfl ?_
  refine g_getR h (i := 12) rfl fl_X4_15 (fun _ _ _ => rfl) (lk_T hT) (lt_by hT) ?_
  refine g_iconst h (i := 13) rfl (v := 0) (by rfl) ?_
  refine g_iconst h (i := 14) rfl (v := 4) (by rfl) ?_
  refine g_copyI (w0 := w) h hq (i := 15) (n := 4) rfl ml_X4_53 (lu_by hS) (lu_by hT) rfl (by decide) (by decide) (by decide) ⟨rfl, Nat.le_of_ble_eq_true rfl⟩ ?_
  refine g_aload_n h (i := 16) rfl rfl ?_
  refine g_aload_n h (i := 17) rfl rfl ?_
  refine g_getI h (i := 18) rfl fl_X4_18 (fun _ _ _ => rfl) (lk_T hS) ?_
  refine g_eqi (wI w s 2) (by (repeat rw [wI_s (by omega)]); rw [wI_c (by omega), wI_c (by omega)]) ?_
  refine g_putI_0 h (i := 19) rfl fl_X4_18 nf_4_2 (fun _ _ _ => rfl) (lk_T hT) (rfl) (by rfl) ?_
  refine g_aload_n h (i := 20) rfl rfl ?_
  refine g_aload_n h (i := 21) rfl rfl ?_
  refine g_getI h (i := 22) rfl fl_X4_22 (fun _ _ _ => rfl) (lk_T hS) ?_
  refine g_eqi (wI w s 3) (by (repeat rw [wI_s (by omega)]); rw [wI_c (by omega), wI_c (by omega)]) ?_
  refine g_putI_0 h (i := 23) rfl fl_X4_22 nf_4_3 (fun _ _ _ => rfl) (lk_T hT) (rfl) (by rfl) ?_
  refine g_aload_n h (i := 24) rfl rfl ?_
  refine g_aload_n h (i := 25) rfl rfl ?_
  refine g_getI h (i := 26) rfl fl_X4_25 (fun _ _ _ => rfl) (lk_T hS) ?_
  refine g_eqi (wI w s 4) (by (repeat rw [wI_s (by omega)]); rw [wI_c (by omega), wI_c (by omega)]) ?_
  refine g_putI_0 h (i := 27) rfl fl_X4_25 nf_4_4 (fun _ _ _ => rfl) (lk_T hT) (rfl) (by rfl) ?_
  refine g_aload_n h (i := 28) rfl rfl ?_
  refine g_aload_n h (i := 29) rfl rfl ?_
  refine g_getI h (i := 30) rfl fl_X4_28 (fun _ _ _ => rfl) (lk_T hS) ?_
  refine g_eqi (wI w s 5) (by (repeat rw [wI_s (by omega)]); rw [wI_c (by omega), wI_c (by omega)]) ?_
  refine g_putI_0 h (i := 31) rfl fl_X4_28 nf_4_5 (fun _ _ _ => rfl) (lk_T hT) (rfl) (by rfl) ?_
  exact g_vret hq h (i := 32) rfl (⟨rfl, rfl⟩)
-- a moment becomes another
set_option maxRecDepth 100000 in
set_option maxHeartbeats 4000000 in
theorem ct_X3_become (l : Launch) (E : EE) (w : Wd) (m s c : Nat) (r : Nat → Int64) (hlo : E.2.2 ≤ wN w) (hM : LayM w m) (hS : LayM w s) (hd : s + 10 ≤ m ∨ m + 10 ≤ s) (hV : RepM w s r) (hr : FA r) : Ct l E yX3_become cX3_become 3 none ({ frames := 2, cells := 0, slots := 0, locals := 69 } : Room) [.ref m, .ref s] w 0 0 (fun q w2 => q = none ∧ TF c m w w2 ∧ RepM w2 m r) := by
  refine ct_in (il := il_X3_become) (by decide) dk_X3_become (Nat.le_of_ble_eq_true rfl) hlo ?_
  intro X h hq

  have hnb : ∀ u : Int64, isN u 1 → narrow .boolean (.int u.toInt32) = .int u.toInt32 := fun u hu => by
    have e := i32eta hu (by omega)
    have l := hu.2
    rw [e]
    rcases (by omega : pN u = 0 ∨ pN u = 1) with z | z
    · rw [z]; rfl
    · rw [z]; rfl
  obtain ⟨w4, hw4⟩ : ∃ w4, w4 = cpI (cpI (cpJ (cpI w (s + 1) (m + 1) 4) (s + 2) (m + 2) 4) (s + 5) (m + 5) 8) (s + 6) (m + 6) 12 := ⟨_, rfl⟩
  have htf4 : TF c m w w4 := by rw [hw4]; exact tf_cp (tf_cp (tf_cj (tf_cp tf_0 (by omega))) (by omega)) (by omega)
  have o4 : ∀ p, ¬ (m ≤ p ∧ p < m + 10) → wI w4 p = wI w p := fun p hp => by rw [hw4, wI_c (by omega), wI_c (by omega), wI_j, wI_c (by omega)]
  have c1 : ∀ j, j < 4 → wI w4 (m + 1) j = wI w (s + 1) j := fun j hj => by rw [hw4, wI_c (by omega), wI_c (by omega), wI_j, wI_h hj]
  have c5 : ∀ j, j < 8 → wI w4 (m + 5) j = wI w (s + 5) j := fun j hj => by rw [hw4, wI_c (by omega), wI_h hj, wI_j, wI_c (by omega)]
  have c6 : ∀ j, j < 12 → wI w4 (m + 6) j = wI w (s + 6) j := fun j hj => by rw [hw4, wI_h hj, wI_c (by omega), wI_j, wI_c (by omega)]
  have cj : ∀ j, j < 4 → wJ w4 (m + 2) j = wJ w (s + 2) j := fun j hj => by rw [hw4]; exact wJ_h hj
  have hM4 : LayM w4 m := (tf_L htf4).2.1 m hM
  have hS4 : LayM w4 s := (tf_L htf4).2.1 s hS
  have hlo4 : E.2.2 ≤ wN w4 := by rw [(tf_L htf4).2.2]; exact hlo
  have hlo0 := hlo
  have hM0 := hM
  have hS0 := hS
  have fin : ∀ w5, w5 = bgJ w4 (m + 3) (m + 4) (wI w (s + 3)) (wI w (s + 4)) 8 → G X 0 0 96 (lf [(0, .ref m), (1, .ref s)]) [] w5 := by
    intro w5 hw5
    have htf5 : TF c m w w5 := by rw [hw5]; exact tf_d htf4 (fun p h1 h2 => bgJ_o (by omega) (by omega)) (fun _ _ => rfl) (fun _ _ => rfl)
    have o5 : ∀ p, ¬ (m ≤ p ∧ p < m + 10) → wI w5 p = wI w p := fun p hp => by rw [hw5, bgJ_o (by omega) (by omega)]; exact o4 p hp
    have d1 : ∀ j, j < 4 → wI w5 (m + 1) j = wI w (s + 1) j := fun j hj => by rw [hw5, bgJ_o (by omega) (by omega)]; exact c1 j hj
    have d5 : ∀ j, j < 8 → wI w5 (m + 5) j = wI w (s + 5) j := fun j hj => by rw [hw5, bgJ_o (by omega) (by omega)]; exact c5 j hj
    have d6 : ∀ j, j < 12 → wI w5 (m + 6) j = wI w (s + 6) j := fun j hj => by rw [hw5, bgJ_o (by omega) (by omega)]; exact c6 j hj
    have d3 : ∀ j, j < 8 → wI w5 (m + 3) j = wI w (s + 3) j := fun j hj => by rw [hw5]; exact bgJ_p (by omega) hj
    have d4 : ∀ j, j < 8 → wI w5 (m + 4) j = wI w (s + 4) j := fun j hj => by rw [hw5]; exact bgJ_q hj
    have dj : ∀ j, j < 4 → wJ w5 (m + 2) j = wJ w (s + 2) j := fun j hj => by rw [hw5]; exact cj j hj
    have hM := (tf_L htf5).2.1 m hM
    have hS := (tf_L htf5).2.1 s hS
    have hlo : E.2.2 ≤ wN w5 := by rw [(tf_L htf5).2.2]; exact hlo0
    obtain ⟨w6, hw6⟩ : ∃ w6, w6 = mbW w5 (m + 7) (s + 7) := ⟨_, rfl⟩
    have htf6 : TF c m w w6 := by rw [hw6]; exact tf_I (tf_I (tf_I (tf_I (tf_cp (tf_cp htf5 (by omega)) (by omega)) (by omega)) (by omega)) (by omega)) (by omega)
    have o6 : ∀ p y, p ≠ m + 7 → p ≠ m + 8 → p ≠ m + 9 → wI w6 p y = wI w5 p y := fun p y h1 h2 h3 => by rw [hw6]; unfold mbW; rw [wI_s h1, wI_s h1, wI_s h1, wI_s h1, wI_c (by omega), wI_c (by omega)]
    have m2 : wI w6 (m + 7) 2 = wI w (s + 7) 2 := by rw [hw6, ← o5 _ (by omega)]; exact (up2_k (by decide)).trans ((up2_k (by decide)).trans ((up2_k (by decide)).trans (up2_s _ _ _ _)))
    have m3 : wI w6 (m + 7) 3 = wI w (s + 7) 3 := by rw [hw6, ← o5 _ (by omega)]; exact (up2_k (by decide)).trans ((up2_k (by decide)).trans (up2_s _ _ _ _))
    have m4 : wI w6 (m + 7) 4 = wI w (s + 7) 4 := by rw [hw6, ← o5 _ (by omega)]; exact (up2_k (by decide)).trans (up2_s _ _ _ _)
    have m5 : wI w6 (m + 7) 5 = wI w (s + 7) 5 := by rw [hw6, ← o5 _ (by omega)]; exact up2_s _ _ _ _
    have m8 : ∀ j, j < 4 → wI w6 (m + 8) j = wI w (s + 8) j := fun j hj => by
      rw [hw6, ← o5 _ (by omega)]; unfold mbW
      rw [wI_s (by omega), wI_s (by omega), wI_s (by omega), wI_s (by omega), wI_c (by omega)]
      exact wI_h hj
    have m9 : ∀ j, j < 4 → wI w6 (m + 9) j = wI w (s + 9) j := fun j hj => by
      rw [hw6, ← o5 _ (by omega)]; unfold mbW
      rw [wI_s (by omega), wI_s (by omega), wI_s (by omega), wI_s (by omega)]
      exact (wI_h hj).trans (congrFun (wI_c (by omega)) j)
    have rs : ∀ k, wI w6 s k = wI w s k := fun k => (o6 s k (by omega) (by omega) (by omega)).trans (congrFun (o5 s (by omega)) k)
    have hJ6 : wJ w6 = wJ w5 := by rw [hw6]; rfl
    have hne : s ≠ m := by omega
    have hin : (m ≤ m ∧ m < m + 10) ∨ m = c + 13 := by omega
    have hmb := ct_X4_become l E w5 (m + 7) (s + 7) hlo (lm_T hM) (lm_T hS) (by omega)
    rw [← hw6] at hmb
    have hM6 := (tf_L htf6).2.1 m (show LayM w m from hM0)
    have hS6 := (tf_L htf6).2.1 s (show LayM w s from hS0)
    refine g_aload_n h (i := 55) rfl rfl ?_
    refine g_getR h (i := 56) rfl fl_X3_35 (fun _ _ _ => rfl) (lk_M hM) (lm_6 hM) ?_
    refine g_aload_n h (i := 57) rfl rfl ?_
    refine g_getR h (i := 58) rfl fl_X3_35 (fun _ _ _ => rfl) (lk_M hS) (lm_6 hS) ?_
    refine g_callVn h hq (i := 59) rfl mv_X3_86 cls4 (lk_T (lm_T hM)) (hmb) rfl rfl ⟨rfl, rfl, Nat.le_of_ble_eq_true rfl, Nat.le_of_ble_eq_true rfl⟩ (Nat.le_of_ble_eq_true rfl) ⟨Nat.zero_le _, Nat.zero_le _⟩ ?_
    have hM := hM6
    have hS := hS6
    refine g_aload_n h (i := 60) rfl rfl ?_
    refine g_aload_n h (i := 61) rfl rfl ?_
    refine g_getI h (i := 62) rfl fl_X3_61 (fun _ _ _ => rfl) (lk_M hS) ?_
    refine g_eqi (wI w s 7) (by (repeat rw [wI_s hne]); exact rs 7) ?_
    refine g_putI_0 h (i := 63) rfl fl_X3_61 nf_3_7 (fun _ _ _ => rfl) (lk_M hM) (rfl) (by rfl) ?_
    refine g_aload_n h (i := 64) rfl rfl ?_
    refine g_aload_n h (i := 65) rfl rfl ?_
    refine g_getI h (i := 66) rfl fl_X3_39 (fun _ _ _ => rfl) (lk_M hS) ?_
    refine g_eqi (wI w s 8) (by (repeat rw [wI_s hne]); exact rs 8) ?_
    refine g_putI_0 h (i := 67) rfl fl_X3_39 nf_3_8 (fun _ _ _ => rfl) (lk_M hM) (rfl) (by rfl) ?_
    refine g_aload_n h (i := 68) rfl rfl ?_
    refine g_aload_n h (i := 69) rfl rfl ?_
    refine g_getI h (i := 70) rfl fl_X3_52 (fun _ _ _ => rfl) (lk_M hS) ?_
    refine g_eqi (wI w s 9) (by (repeat rw [wI_s hne]); exact rs 9) ?_
    refine g_putI_0 h (i := 71) rfl fl_X3_52 nf_3_9 (fun _ _ _ => rfl) (lk_M hM) (rfl) (by rfl) ?_
    refine g_aload_n h (i := 72) rfl rfl ?_
    refine g_aload_n h (i := 73) rfl rfl ?_
    refine g_getI h (i := 74) rfl fl_X3_55 (fun _ _ _ => rfl) (lk_M hS) ?_
    refine g_eqi (wI w s 10) (by (repeat rw [wI_s hne]); exact rs 10) ?_
    refine g_putI_0 h (i := 75) rfl fl_X3_55 nf_3_10 (fun _ _ _ => rfl) (lk_M hM) (rfl) (by rfl) ?_
    refine g_aload_n h (i := 76) rfl rfl ?_
    refine g_aload_n h (i := 77) rfl rfl ?_
    refine g_getI h (i := 78) rfl fl_X3_58 (fun _ _ _ => rfl) (lk_M hS) ?_
    refine g_eqi (wI w s 11) (by (repeat rw [wI_s hne]); exact rs 11) ?_
    refine g_putI_0 h (i := 79) rfl fl_X3_58 nf_3_11 (fun _ _ _ => rfl) (lk_M hM) (rfl) (by rfl) ?_
    refine g_aload_n h (i := 80) rfl rfl ?_
    refine g_aload_n h (i := 81) rfl rfl ?_
    refine g_getI h (i := 82) rfl fl_X3_64 (fun _ _ _ => rfl) (lk_M hS) ?_
    refine g_eqi (wI w s 12) (by (repeat rw [wI_s hne]); exact rs 12) ?_
    refine g_putI_0 h (i := 83) rfl fl_X3_64 nf_3_12 (fun _ _ _ => rfl) (lk_M hM) (rfl) (by rfl) ?_
    refine g_aload_n h (i := 84) rfl rfl ?_
    refine g_aload_n h (i := 85) rfl rfl ?_
    refine g_getI h (i := 86) rfl fl_X3_71 (fun _ _ _ => rfl) (lk_M hS) ?_
    refine g_eqi (wI w s 13) (by (repeat rw [wI_s hne]); exact rs 13) ?_
    refine g_putI_0 h (i := 87) rfl fl_X3_71 nf_3_13 (fun _ _ _ => rfl) (lk_M hM) (rfl) (by rfl) ?_
    refine g_aload_n h (i := 88) rfl rfl ?_
    refine g_aload_n h (i := 89) rfl rfl ?_
    refine g_getI h (i := 90) rfl fl_X3_67 (fun _ _ _ => rfl) (lk_M hS) ?_
    refine g_eqi (bI (r 46 = 1)) (by (repeat rw [wI_s hne]); exact (rs 14).trans (hV.2.2.2.2.2.2.2.1)) ?_
    refine g_putI_0 h (i := 91) rfl fl_X3_67 nf_3_14 (fun _ _ _ => rfl) (lk_M hM) (bI_n _) (bI_fit _) ?_
    refine g_aload_n h (i := 92) rfl rfl ?_
    refine g_aload_n h (i := 93) rfl rfl ?_
    refine g_getI h (i := 94) rfl fl_X3_43 (fun _ _ _ => rfl) (lk_M hS) ?_
    refine g_eqi (wI w s 15) (by (repeat rw [wI_s hne]); exact rs 15) ?_
    refine g_putI_0 h (i := 95) rfl fl_X3_43 nf_3_15 (fun _ _ _ => rfl) (lk_M hM) (rfl) (by rfl) ?_
    refine g_aload_n h (i := 96) rfl rfl ?_
    refine g_aload_n h (i := 97) rfl rfl ?_
    refine g_getI h (i := 98) rfl fl_X3_46 (fun _ _ _ => rfl) (lk_M hS) ?_
    refine g_eqi (wI w s 16) (by (repeat rw [wI_s hne]); exact rs 16) ?_
    refine g_putI_0 h (i := 99) rfl fl_X3_46 nf_3_16 (fun _ _ _ => rfl) (lk_M hM) (rfl) (by rfl) ?_
    refine g_aload_n h (i := 100) rfl rfl ?_
    refine g_aload_n h (i := 101) rfl rfl ?_
    refine g_getI h (i := 102) rfl fl_X3_49 (fun _ _ _ => rfl) (lk_M hS) ?_
    refine g_eqi (wI w s 17) (by (repeat rw [wI_s hne]); exact rs 17) ?_
    refine g_putI_0 h (i := 103) rfl fl_X3_49 nf_3_17 (fun _ _ _ => rfl) (lk_M hM) (rfl) (by rfl) ?_
    exact g_vret hq h (i := 104) rfl (by
      refine ⟨rfl, (tf_I (tf_I (tf_I (tf_I (tf_I (tf_I (tf_I (tf_I (tf_I (tf_I (tf_I htf6 hin) hin) hin) hin) hin) hin) hin) hin) hin) hin) hin), ?_⟩
      show RepV _ (wJ w6 (m + 2)) r
      rw [cf_0, cf_0, cf_0, cf_0, cf_0, cf_0, cf_0, cf_0, cf_0, cf_0, cf_0, hJ6]
      exact ⟨hV.1, hV.2.1, hV.2.2.1, hV.2.2.2.1, hV.2.2.2.2.1, hV.2.2.2.2.2.1, hV.2.2.2.2.2.2.1, rfl, hV.2.2.2.2.2.2.2.2.1, hV.2.2.2.2.2.2.2.2.2.1, hV.2.2.2.2.2.2.2.2.2.2.1, fun j hj => (o6 (m + 1) j (by omega) (by omega) (by omega)).trans ((d1 j hj).trans (hV.2.2.2.2.2.2.2.2.2.2.2.1 j hj)), fun j hj => (dj j hj).trans (hV.2.2.2.2.2.2.2.2.2.2.2.2.1 j hj), fun j hj => (o6 (m + 3) j (by omega) (by omega) (by omega)).trans ((d3 j hj).trans (hV.2.2.2.2.2.2.2.2.2.2.2.2.2.1 j hj)), fun j hj => (o6 (m + 4) j (by omega) (by omega) (by omega)).trans ((d4 j hj).trans (hV.2.2.2.2.2.2.2.2.2.2.2.2.2.2.1 j hj)), fun j hj => (o6 (m + 5) j (by omega) (by omega) (by omega)).trans ((d5 j hj).trans (hV.2.2.2.2.2.2.2.2.2.2.2.2.2.2.2.1 j hj)), fun j hj hj2 => (o6 (m + 6) j (by omega) (by omega) (by omega)).trans ((d6 j hj).trans (hV.2.2.2.2.2.2.2.2.2.2.2.2.2.2.2.2.1 j hj hj2)), fun t => ⟨m2.trans ((hV.2.2.2.2.2.2.2.2.2.2.2.2.2.2.2.2.2 t).1), m3.trans ((hV.2.2.2.2.2.2.2.2.2.2.2.2.2.2.2.2.2 t).2.1), m4.trans ((hV.2.2.2.2.2.2.2.2.2.2.2.2.2.2.2.2.2 t).2.2.1), m5.trans ((hV.2.2.2.2.2.2.2.2.2.2.2.2.2.2.2.2.2 t).2.2.2.1), fun j hj => ⟨(m8 j hj).trans (((hV.2.2.2.2.2.2.2.2.2.2.2.2.2.2.2.2.2 t).2.2.2.2 j hj).1), (m9 j hj).trans (((hV.2.2.2.2.2.2.2.2.2.2.2.2.2.2.2.2.2 t).2.2.2.2 j hj).2)⟩⟩⟩)
  have key : ∀ (d i : Nat), i + d = 8 → G X 0 0 60 (lf [(0, .ref m), (1, .ref s), (2, .int (nI i))]) [] (bgJ w4 (m + 3) (m + 4) (wI w (s + 3)) (wI w (s + 4)) i) := by
    intro d
    induction d with
    | zero =>
      intro i hi
      have hi4 : i = 8 := by omega
      subst hi4
      refine g_iload_n h (i := 34) rfl rfl ?_
      refine g_bipush h (i := 35) rfl (v := 8) (by rfl) ?_
      refine g_icmp_ge h (i := 36) 96 rfl rfl (fun c_63 => ?_) (fun c_63 => absurd (by decide : (8 : Int32) ≤ nI 8) c_63)
      exact g_lv [(0, .ref m), (1, .ref s)] ⟨rfl, rfl, trivial⟩ (fin _ rfl)
    | succ d ih =>
      intro i hid
      have hi : i < 8 := by omega
      have hM : LayM (bgJ w4 (m + 3) (m + 4) (wI w (s + 3)) (wI w (s + 4)) i) m := hM4
      have hS : LayM (bgJ w4 (m + 3) (m + 4) (wI w (s + 3)) (wI w (s + 4)) i) s := hS4
      have hnge : ¬ (8 : Int32) ≤ nI i := nI_ge (b := 8) hi (by omega)
      have hvp : vp_in (nI i) 8 := vp_in_nI hi (by omega)
      have hcl : (nI i).toNatClampNeg = i := nI_clamp (by omega)
      have v3 : wI (bgJ w4 (m + 3) (m + 4) (wI w (s + 3)) (wI w (s + 4)) i) (s + 3) i = wI w (s + 3) i := (congrFun (bgJ_o (by omega) (by omega)) i).trans (congrFun (o4 _ (by omega)) i)
      have v4 : wI (bgJ w4 (m + 3) (m + 4) (wI w (s + 3)) (wI w (s + 4)) i) (s + 4) i = wI w (s + 4) i := (congrFun (bgJ_o (by omega) (by omega)) i).trans (congrFun (o4 _ (by omega)) i)
      have n3 : narrow .boolean (.int (wI w (s + 3) i)) = .int (wI w (s + 3) i) := by rw [show wI w (s + 3) i = (r (4 + i)).toInt32 from hV.2.2.2.2.2.2.2.2.2.2.2.2.2.1 i hi]; exact hnb _ ((fr_io (k := 4 + i) (by omega) (by omega)).mp (hr (4 + i)))
      have n4 : narrow .boolean (.int (wI w (s + 4) i)) = .int (wI w (s + 4) i) := by rw [show wI w (s + 4) i = (r (12 + i)).toInt32 from hV.2.2.2.2.2.2.2.2.2.2.2.2.2.2.1 i hi]; exact hnb _ ((fr_io (k := 12 + i) (by omega) (by omega)).mp (hr (12 + i)))
      refine g_iload_n h (i := 34) rfl rfl ?_
      refine g_bipush h (i := 35) rfl (v := 8) (by rfl) ?_
      refine g_icmp_ge h (i := 36) 96 rfl rfl (fun c_63 => absurd c_63 hnge) (fun c_63 => ?_)
      refine g_aload_n h (i := 37) rfl rfl ?_
      refine g_getR h (i := 38) rfl fl_X3_19 (fun _ _ _ => rfl) (lk_M hM) (lm_inputs hM) ?_
      refine g_iload_n h (i := 39) rfl rfl ?_
      refine g_aload_n h (i := 40) rfl rfl ?_
      refine g_getR h (i := 41) rfl fl_X3_19 (fun _ _ _ => rfl) (lk_M hS) (lm_inputs hS) ?_
      refine g_iload_n h (i := 42) rfl rfl ?_
      refine g_zald h (i := 43) rfl (ln_inputs hS) (hvp) ?_
      refine g_eqi (wI w (s + 3) i) (by rw [hcl]; exact v3) ?_
      refine g_zast h (i := 44) rfl (ln_inputs hM) (hvp) (n3) ?_
      refine g_aload_n h (i := 45) rfl rfl ?_
      refine g_getR h (i := 46) rfl fl_X3_23 (fun _ _ _ => rfl) (lk_M hM) (lm_outs hM) ?_
      refine g_iload_n h (i := 47) rfl rfl ?_
      refine g_aload_n h (i := 48) rfl rfl ?_
      refine g_getR h (i := 49) rfl fl_X3_23 (fun _ _ _ => rfl) (lk_M hS) (lm_outs hS) ?_
      refine g_iload_n h (i := 50) rfl rfl ?_
      refine g_zald h (i := 51) rfl (ln_outs hS) (hvp) ?_
      refine g_eqi (wI w (s + 4) i) (by rw [hcl, wI_s (by omega)]; exact v4) ?_
      refine g_zast h (i := 52) rfl (ln_outs hM) (hvp) (n4) ?_
      refine g_w (bgJ w4 (m + 3) (m + 4) (wI w (s + 3)) (wI w (s + 4)) (i + 1)) (by rw [hcl]; exact bgJ_1 w4 (by omega) rfl rfl) ?_
      refine g_iinc h (i := 53) rfl rfl (dv := 1) (by rfl) ?_
      refine g_goto h (i := 54) 60 rfl rfl ?_
      exact g_lv [(0, .ref m), (1, .ref s), (2, .int (nI (i + 1)))] ⟨rfl, rfl, congrArg (fun z => some (Value.int z)) (nI_1 i), trivial⟩ (ih (i + 1) (by omega))
  refine g_aload_n h (i := 0) rfl rfl ?_
  refine g_getR h (i := 1) rfl fl_X3_9 (fun _ _ _ => rfl) (lk_M hS) (lm_states hS) ?_
  refine g_iconst h (i := 2) rfl (v := 0) (by rfl) ?_
  refine g_aload_n h (i := 3) rfl rfl ?_
  refine g_getR h (i := 4) rfl fl_X3_9 (fun _ _ _ => rfl) (lk_M hM) (lm_states hM) ?_
  refine g_iconst h (i := 5) rfl (v := 0) (by rfl) ?_
  refine g_iconst h (i := 6) rfl (v := 4) (by rfl) ?_
  refine g_copyI (w0 := w) h hq (i := 7) (n := 4) rfl ml_X3_80 (ln_states hS) (ln_states hM) rfl (by decide) (by decide) (by decide) ⟨rfl, Nat.le_of_ble_eq_true rfl⟩ ?_
  refine g_aload_n h (i := 8) rfl rfl ?_
  refine g_getR h (i := 9) rfl fl_X3_15 (fun _ _ _ => rfl) (lk_M hS) (lm_travelled hS) ?_
  refine g_iconst h (i := 10) rfl (v := 0) (by rfl) ?_
  refine g_aload_n h (i := 11) rfl rfl ?_
  refine g_getR h (i := 12) rfl fl_X3_15 (fun _ _ _ => rfl) (lk_M hM) (lm_travelled hM) ?_
  refine g_iconst h (i := 13) rfl (v := 0) (by rfl) ?_
  refine g_iconst h (i := 14) rfl (v := 4) (by rfl) ?_
  refine g_copyJ (w0 := w) h hq (i := 15) (n := 4) rfl ml_X3_80 (ln_travelled hS) (ln_travelled hM) rfl (by decide) (by decide) (by decide) ⟨rfl, Nat.le_of_ble_eq_true rfl⟩ ?_
  refine g_aload_n h (i := 16) rfl rfl ?_
  refine g_getR h (i := 17) rfl fl_X3_26 (fun _ _ _ => rfl) (lk_M hS) (lm_registers hS) ?_
  refine g_iconst h (i := 18) rfl (v := 0) (by rfl) ?_
  refine g_aload_n h (i := 19) rfl rfl ?_
  refine g_getR h (i := 20) rfl fl_X3_26 (fun _ _ _ => rfl) (lk_M hM) (lm_registers hM) ?_
  refine g_iconst h (i := 21) rfl (v := 0) (by rfl) ?_
  refine g_bipush h (i := 22) rfl (v := 8) (by rfl) ?_
  refine g_copyI (w0 := w) h hq (i := 23) (n := 8) rfl ml_X3_80 (ln_registers hS) (ln_registers hM) rfl (by decide) (by decide) (by decide) ⟨rfl, Nat.le_of_ble_eq_true rfl⟩ ?_
  refine g_aload_n h (i := 24) rfl rfl ?_
  refine g_getR h (i := 25) rfl fl_X3_29 (fun _ _ _ => rfl) (lk_M hS) (lm_putBy hS) ?_
  refine g_iconst h (i := 26) rfl (v := 0) (by rfl) ?_
  refine g_aload_n h (i := 27) rfl rfl ?_
  refine g_getR h (i := 28) rfl fl_X3_29 (fun _ _ _ => rfl) (lk_M hM) (lm_putBy hM) ?_
  refine g_iconst h (i := 29) rfl (v := 0) (by rfl) ?_
  refine g_bipush h (i := 30) rfl (v := 12) (by rfl) ?_
  refine g_copyI (w0 := w) h hq (i := 31) (n := 12) rfl ml_X3_80 (ln_putBy hS) (ln_putBy hM) rfl (by decide) (by decide) (by decide) ⟨rfl, Nat.le_of_ble_eq_true rfl⟩ ?_
  refine g_w w4 (by rw [hw4]) ?_
  refine g_iconst h (i := 32) rfl (v := 0) (by rfl) ?_
  refine g_istore_n h (i := 33) rfl hq rfl ?_
  exact g_lv [(0, .ref m), (1, .ref s), (2, .int (nI 0))] ⟨rfl, rfl, rfl, trivial⟩ (by have := key 8 0 (by omega); rw [bgJ_0] at this; exact this)
