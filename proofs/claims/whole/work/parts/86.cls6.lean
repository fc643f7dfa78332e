theorem rm_9 {w : Wd} {m : Nat} {r : Nat → Int64} (h : RepM w m r) : RepM (sI w m 9 (wI w m 9 + 1)) m (up1 r 29 (r 29 + 1)) := by
  have e : wI w m 9 + 1 = (r 29 + 1).toInt32 := by rw [show wI w m 9 = (r 29).toInt32 from h.2.2.1]; exact l32_1 _
  show RepV (cfW (sI w m 9 _) m) (wJ w (m + 2)) _
  rw [cf_0]
  exact ⟨h.1, h.2.1, e, h.2.2.2.1, h.2.2.2.2.1, h.2.2.2.2.2.1, h.2.2.2.2.2.2.1, h.2.2.2.2.2.2.2.1, h.2.2.2.2.2.2.2.2.1, h.2.2.2.2.2.2.2.2.2.1, h.2.2.2.2.2.2.2.2.2.2.1, fun j hj => (h.2.2.2.2.2.2.2.2.2.2.2.1 j hj).trans (congrArg Int64.toInt32 (Eq.symm (by first | rfl | ((try unfold overR); (repeat first | rw [up1_k (by omega)] | rw [setn_o (by omega)]))))), fun j hj => (h.2.2.2.2.2.2.2.2.2.2.2.2.1 j hj).trans (Eq.symm (by first | rfl | ((try unfold overR); (repeat first | rw [up1_k (by omega)] | rw [setn_o (by omega)])))), fun j hj => (h.2.2.2.2.2.2.2.2.2.2.2.2.2.1 j hj).trans (congrArg Int64.toInt32 (Eq.symm (by first | rfl | ((try unfold overR); (repeat first | rw [up1_k (by omega)] | rw [setn_o (by omega)]))))), fun j hj => (h.2.2.2.2.2.2.2.2.2.2.2.2.2.2.1 j hj).trans (congrArg Int64.toInt32 (Eq.symm (by first | rfl | ((try unfold overR); (repeat first | rw [up1_k (by omega)] | rw [setn_o (by omega)]))))), fun j hj => (h.2.2.2.2.2.2.2.2.2.2.2.2.2.2.2.1 j hj).trans (congrArg Int64.toInt32 (Eq.symm (by first | rfl | ((try unfold overR); (repeat first | rw [up1_k (by omega)] | rw [setn_o (by omega)]))))), fun j hj hj2 => (h.2.2.2.2.2.2.2.2.2.2.2.2.2.2.2.2.1 j hj hj2).trans (congrArg Int64.toInt32 (Eq.symm (by first | rfl | ((try unfold overR); (repeat first | rw [up1_k (by omega)] | rw [setn_o (by omega)]))))), fun q => mv_c (h.2.2.2.2.2.2.2.2.2.2.2.2.2.2.2.2.2 q) (fun f k hf => (by first | rfl | (repeat first | rw [up2_f2 (by omega)] | rw [ua_a (by omega)]))) (fun y h1 h2 => (by first | rfl | ((try unfold overR); (repeat first | rw [up1_k (by omega)] | rw [setn_o (by omega)]))))⟩
theorem rm_scr {w : Wd} {m : Nat} {cf : Nat → Nat → Int32} {r : Nat → Int64} {t : Int32} (h : RepM w m r) (ht : ∀ x : Int32, x.toInt64 = r 29 ↔ x = t) : ∀ n, (∀ k, k < n → isI (cf 17 k) 7 ∧ (cf 18 k = 0 ∨ cf 18 k = 1)) → RepM (inpW w (m + 3) (siW cf t (wI w (m + 3)) n)) m (scrR cf r n)
  | 0, _ => by
    show RepM (inpW w (m + 3) (wI w (m + 3))) m r
    rw [inp_0]; exact h
  | n + 1, hc => by
    have ih := rm_scr (cf := cf) h ht n (fun k hk => hc k (by omega))
    obtain ⟨c1, c2⟩ := hc n (by omega)
    have c3 := c1.2
    show RepM (inpW w (m + 3) (if cf 16 n = t then up1 (siW cf t (wI w (m + 3)) n) (pI (cf 17 n)) (cf 18 n) else siW cf t (wI w (m + 3)) n)) m (if (cf 16 n).toInt64 = r 29 then up1 (scrR cf r n) (4 + pI (cf 17 n)) (if cf 18 n = 0 then 0 else 1) else scrR cf r n)
    by_cases g : cf 16 n = t
    · rw [if_pos g, if_pos ((ht _).mpr g), ← inp_1]
      refine rm_in ih (by omega) ?_
      rcases c2 with z | z
      · rw [z]; rfl
      · rw [z]; rfl
    · rw [if_neg g, if_neg (fun q => g ((ht _).mp q))]; exact ih
theorem tf_inp {c m : Nat} {w w2 : Wd} {f : Nat → Int32} (h : TF c m w w2) : TF c m w (inpW w2 (m + 3) f) := tf_d h (fun p h1 h2 => ua_a (by omega)) (fun _ _ => rfl) (fun _ _ => rfl)
-- a tick
set_option maxRecDepth 100000 in
set_option maxHeartbeats 4000000 in
theorem ct_X1_oneTick (l : Launch) (E : EE) (w : Wd) (c m : Nat) (cf : Nat → Nat → Int32) (r : Nat → Int64) (hlo : E.2.2 ≤ wN w) (hC : LayC w c) (hM : LayM w m) (hcm : c + 54 ≤ m) (hV : RepM w m r) (hRC : RepC (cfW w c) cf) (hr : RR r) (hc : CfR cf) (ht : isN (r 29) 2000000000) : Ct l E yX1_oneTick cX1_oneTick 4 none ({ frames := 5, cells := 0, slots := 0, locals := 125 } : Room) [.ref c, .ref m] w 0 0 (fun q w2 => q = none ∧ TF c m w w2 ∧ RepM w2 m (tkG cf r)) := by
  refine ct_in (il := il_X1_oneTick) (by decide) dk_X1_oneTick (Nat.le_of_ble_eq_true rfl) hlo ?_
  intro X h hq

  have f28 : isN (r 28) 3 := hr.1 28
  have l28 := f28.2
  have e8 : wI w m 8 = nI (pN (r 28)) := (hV.2.1).trans (i32eta f28 (by omega))
  have hz8 : nI (pN (r 28)) = 1 ↔ r 28 = 1 := by
    refine (nIx (y := 1) (by omega) (by omega)).trans ?_
    constructor
    · intro t; rw [f28.1, t]; rfl
    · intro t; rw [t]; rfl
  by_cases h28 : r 28 = 1
  case neg =>
    refine g_aload_n h (i := 0) rfl rfl ?_
    refine g_getI h (i := 1) rfl fl_X1_68 (fun _ _ _ => rfl) (lk_M hM) ?_
    refine g_eqi (nI (pN (r 28))) e8 ?_
    refine g_iconst h (i := 2) rfl (v := 1) (by rfl) ?_
    refine g_icmp_eq h (i := 3) 9 rfl rfl (fun c_5 => absurd (hz8.mp c_5) h28) (fun c_5 => ?_)
    exact g_vret hq h (i := 4) rfl (⟨rfl, tf_0, by unfold tkG; rw [if_neg h28]; exact hV⟩)
  have hnL := hc.2.2.2.2.2.2.1
  have hlo0 := hlo
  have hC0 := hC
  have hM0 := hM
  obtain ⟨N, hN⟩ : ∃ N, N = pI (cf 0 12) := ⟨_, rfl⟩
  have eN : cf 0 12 = nI N := by rw [hN]; exact hnL.1
  have lN60 : N ≤ 60 := by rw [hN]; exact hnL.2
  have kEnd : ∀ (w3 : Wd) (x : Int32), TF c m w w3 → RepM w3 m (ticksR cf r) → G X 0 0 42 (lf [(0, .ref c), (1, .ref m), (2, .int 1), (3, .int x)]) [] w3 := by
    intro w3 x hT hV3
    refine g_iload_n h (i := 24) rfl rfl ?_
    refine g_bipush h (i := 25) rfl (v := 100) (by rfl) ?_
    refine g_icmp_gt h (i := 26) 169 rfl rfl (fun c_45 => ?_) (fun c_45 => ?_)
    · skip
      exact g_vret hq h (i := 87) rfl (⟨rfl, hT, by unfold tkG; rw [if_pos h28]; exact hV3⟩)
    · skip
      refine g_iload_n h (i := 27) rfl rfl ?_
      refine g_if_ne h (i := 28) 169 rfl rfl (fun c_49 => ?_) (fun c_49 => absurd c_49 (by decide))
      exact g_vret hq h (i := 87) rfl (⟨rfl, hT, by unfold tkG; rw [if_pos h28]; exact hV3⟩)
  have kGo : ∀ (d i : Nat) (w3 : Wd) (q : Nat → Int64), i + d = 100 → TF c m w w3 → RepM w3 m q → RR q → q 46 = 0 → q 28 = 1 → goR cf d q = ticksR cf r → G X 0 0 42 (lf [(0, .ref c), (1, .ref m), (2, .int 0), (3, .int (nI i))]) [] w3 := by
    intro d
    induction d with
    | zero =>
      intro i w3 q hi hT hV3 hrq q46 q28 hg
      have hi4 : i = 100 := by omega
      subst hi4
      have hC := (tf_L hT).1 c hC
      have hM := (tf_L hT).2.1 m hM
      have hlo : E.2.2 ≤ wN w3 := by rw [(tf_L hT).2.2]; exact hlo0
      have hRC3 := tf_C hT hcm hRC
      have f30 : isN (q 30) 61 := hrq.1 30
      have l30 := f30.2
      have e10 : wI w3 m 10 = nI (pN (q 30)) := (hV3.2.2.2.1).trans (i32eta f30 (by omega))
      have ecn : wI w3 (c + 4) 3 = nI N := hRC3.2.2.2.1.trans eN
      have h0 : ¬ nI (pN (q 30)) < 0 := fun z => by (have a := i32lt.mp z; rw [nIT (by omega)] at a; have e0 : (0 : Int32).toInt = 0 := rfl; omega)
      have hle : (cf 0 12).toInt64 ≤ q 30 ↔ nI N ≤ nI (pN (q 30)) := by rw [eN, i64le, i_l, i32le, (isN_i f30 (by omega)).2.2, nIT (n := pN (q 30)) (by omega)]
      have hgd : goR cf 0 q = if (cf 0 12).toInt64 ≤ q 30 then up1 (up1 q 30 (cf 0 12).toInt64) 28 2 else errsR (cf 0 12) 4 q := rfl
      rw [hgd] at hg
      refine g_iload_n h (i := 24) rfl rfl ?_
      refine g_bipush h (i := 25) rfl (v := 100) (by rfl) ?_
      refine g_icmp_gt h (i := 26) 169 rfl rfl (fun c_45 => absurd c_45 (by decide)) (fun c_45 => ?_)
      refine g_iload_n h (i := 27) rfl rfl ?_
      refine g_if_ne h (i := 28) 169 rfl rfl (fun c_49 => absurd rfl c_49) (fun c_49 => ?_)
      refine g_aload_n h (i := 29) rfl rfl ?_
      refine g_getI h (i := 30) rfl fl_X1_89 (fun _ _ _ => rfl) (lk_M hM) ?_
      refine g_eqi (nI (pN (q 30))) e10 ?_
      refine g_if_lt h (i := 31) 73 rfl rfl (fun c_56 => absurd c_56 h0) (fun c_56 => ?_)
      refine g_aload_n h (i := 32) rfl rfl ?_
      refine g_getI h (i := 33) rfl fl_X1_89 (fun _ _ _ => rfl) (lk_M hM) ?_
      refine g_eqi (nI (pN (q 30))) e10 ?_
      refine g_aload_n h (i := 34) rfl rfl ?_
      refine g_getR h (i := 35) rfl fl_X1_32 (fun _ _ _ => rfl) (lc_k hC) (lc_prog hC) ?_
      refine g_getI h (i := 36) rfl fl_X1_92 (fun _ _ _ => rfl) (lk_prog hC) ?_
      refine g_eqi (nI N) ecn ?_
      refine g_icmp_lt h (i := 37) 89 rfl rfl (fun c_70 => ?_) (fun c_70 => ?_)
      · skip
        refine g_iload_n h (i := 46) rfl rfl ?_
        refine g_bipush h (i := 47) rfl (v := 100) (by rfl) ?_
        refine g_icmp_ne h (i := 48) 105 rfl rfl (fun c_92 => absurd rfl c_92) (fun c_92 => ?_)
        refine g_aload_n h (i := 49) rfl rfl ?_
        refine g_aload_n h (i := 50) rfl rfl ?_
        refine g_iconst h (i := 51) rfl (v := 4) (by rfl) ?_
        refine g_callVx h hq (i := 52) rfl mv_X1_99 cls1 (lc_k hC) (ct_X1_err l E w3 c m 4 hlo hC hM hcm) rfl rfl ⟨rfl, rfl, Nat.le_of_ble_eq_true rfl, Nat.le_of_ble_eq_true rfl⟩ (Nat.le_of_ble_eq_true rfl) ⟨Nat.zero_le _, Nat.zero_le _⟩ ?_
        refine g_istore_n h (i := 53) rfl hq rfl ?_
        refine g_goto h (i := 54) 163 rfl rfl ?_
        refine g_iinc h (i := 85) rfl rfl (dv := 1) (by rfl) ?_
        refine g_goto h (i := 86) 42 rfl rfl ?_
        exact g_lv [(0, .ref c), (1, .ref m), (2, .int 1), (3, .int (nI 100 + 1))] ⟨rfl, rfl, rfl, rfl, trivial⟩ (kEnd _ _ (tf_err hT) (by rw [← hg, if_neg (fun z => absurd c_70 (i32nlt.mpr (hle.mp z)))]; exact rm_err hV3 hRC3.2.2.2.1))
      · skip
        refine g_aload_n h (i := 38) rfl rfl ?_
        refine g_aload_n h (i := 39) rfl rfl ?_
        refine g_getR h (i := 40) rfl fl_X1_32 (fun _ _ _ => rfl) (lc_k hC) (lc_prog hC) ?_
        refine g_getI h (i := 41) rfl fl_X1_92 (fun _ _ _ => rfl) (lk_prog hC) ?_
        refine g_eqi (nI N) ecn ?_
        refine g_callVn h hq (i := 42) rfl mv_X1_95 cls3 (lk_M hM) (ct_X3_end l E w3 m (nI N) hlo hM) rfl rfl ⟨rfl, rfl, Nat.le_of_ble_eq_true rfl, Nat.le_of_ble_eq_true rfl⟩ (Nat.le_of_ble_eq_true rfl) ⟨Nat.zero_le _, Nat.zero_le _⟩ ?_
        refine g_iconst h (i := 43) rfl (v := 1) (by rfl) ?_
        refine g_istore_n h (i := 44) rfl hq rfl ?_
        refine g_goto h (i := 45) 163 rfl rfl ?_
        refine g_iinc h (i := 85) rfl rfl (dv := 1) (by rfl) ?_
        refine g_goto h (i := 86) 42 rfl rfl ?_
        exact g_lv [(0, .ref c), (1, .ref m), (2, .int 1), (3, .int (nI 100 + 1))] ⟨rfl, rfl, rfl, rfl, trivial⟩ (kEnd _ _ (tf_end hT) (by rw [← hg, if_pos (hle.mpr (i32nlt.mp c_70)), eN]; exact rv_endc hV3))
    | succ d ih =>
      intro i w3 q hi hT hV3 hrq q46 q28 hg
      have hC := (tf_L hT).1 c hC
      have hM := (tf_L hT).2.1 m hM
      have hlo : E.2.2 ≤ wN w3 := by rw [(tf_L hT).2.2]; exact hlo0
      have hRC3 := tf_C hT hcm hRC
      have f30 : isN (q 30) 61 := hrq.1 30
      have l30 := f30.2
      have e10 : wI w3 m 10 = nI (pN (q 30)) := (hV3.2.2.2.1).trans (i32eta f30 (by omega))
      have ecn : wI w3 (c + 4) 3 = nI N := hRC3.2.2.2.1.trans eN
      have h0 : ¬ nI (pN (q 30)) < 0 := fun z => by (have a := i32lt.mp z; rw [nIT (by omega)] at a; have e0 : (0 : Int32).toInt = 0 := rfl; omega)
      have hle : (cf 0 12).toInt64 ≤ q 30 ↔ nI N ≤ nI (pN (q 30)) := by rw [eN, i64le, i_l, i32le, (isN_i f30 (by omega)).2.2, nIT (n := pN (q 30)) (by omega)]
      have hgd : goR cf (d + 1) q = if (cf 0 12).toInt64 ≤ q 30 then up1 (up1 q 30 (cf 0 12).toInt64) 28 2 else if lnO cf q then ln3 cf q else goR cf d (ln3 cf q) := rfl
      rw [hgd] at hg
      have h100 : ¬ (100 : Int32) < nI i := fun z => by (have a := i32lt.mp z; rw [nIT (by omega)] at a; have e0 : (100 : Int32).toInt = 100 := rfl; omega)
      have hne : ¬ nI i = 100 := fun z => by (have a := congrArg Int32.toInt z; rw [nIT (by omega)] at a; have e0 : (100 : Int32).toInt = 100 := rfl; omega)
      have hn30 : nI (pN (q 30)) < nI N → ¬ (cf 0 12).toInt64 ≤ q 30 := fun z t => absurd z (i32nlt.mpr (hle.mp t))
      refine g_iload_n h (i := 24) rfl rfl ?_
      refine g_bipush h (i := 25) rfl (v := 100) (by rfl) ?_
      refine g_icmp_gt h (i := 26) 169 rfl rfl (fun c_45 => absurd c_45 h100) (fun c_45 => ?_)
      refine g_iload_n h (i := 27) rfl rfl ?_
      refine g_if_ne h (i := 28) 169 rfl rfl (fun c_49 => absurd rfl c_49) (fun c_49 => ?_)
      refine g_aload_n h (i := 29) rfl rfl ?_
      refine g_getI h (i := 30) rfl fl_X1_89 (fun _ _ _ => rfl) (lk_M hM) ?_
      refine g_eqi (nI (pN (q 30))) e10 ?_
      refine g_if_lt h (i := 31) 73 rfl rfl (fun c_56 => absurd c_56 h0) (fun c_56 => ?_)
      refine g_aload_n h (i := 32) rfl rfl ?_
      refine g_getI h (i := 33) rfl fl_X1_89 (fun _ _ _ => rfl) (lk_M hM) ?_
      refine g_eqi (nI (pN (q 30))) e10 ?_
      refine g_aload_n h (i := 34) rfl rfl ?_
      refine g_getR h (i := 35) rfl fl_X1_32 (fun _ _ _ => rfl) (lc_k hC) (lc_prog hC) ?_
      refine g_getI h (i := 36) rfl fl_X1_92 (fun _ _ _ => rfl) (lk_prog hC) ?_
      refine g_eqi (nI N) ecn ?_
      refine g_icmp_lt h (i := 37) 89 rfl rfl (fun c_70 => ?_) (fun c_70 => ?_)
      · skip
        refine g_iload_n h (i := 46) rfl rfl ?_
        refine g_bipush h (i := 47) rfl (v := 100) (by rfl) ?_
        refine g_icmp_ne h (i := 48) 105 rfl rfl (fun c_92 => ?_) (fun c_92 => absurd c_92 hne)
        have hk := ln_hk hc hrq.1 (hn30 c_70)
        obtain ⟨a1, a2, a3⟩ := hRC3.2.2.2.2.1 (pN (q 30)) (by omega)
        refine g_aload_n h (i := 55) rfl rfl ?_
        refine g_aload_n h (i := 56) rfl rfl ?_
        refine g_aload_n h (i := 57) rfl rfl ?_
        refine g_getR h (i := 58) rfl fl_X1_32 (fun _ _ _ => rfl) (lc_k hC) (lc_prog hC) ?_
        refine g_getR h (i := 59) rfl fl_X1_103 (fun _ _ _ => rfl) (lk_prog hC) (lp_r (lc_p hC) (f := 0) (a := 1) (t := 0) (n := 60) (by decide)) ?_
        refine g_aload_n h (i := 60) rfl rfl ?_
        refine g_getI h (i := 61) rfl fl_X1_89 (fun _ _ _ => rfl) (lk_M hM) ?_
        refine g_eqi (nI (pN (q 30))) e10 ?_
        refine g_iald h (i := 62) rfl (lp_k (lc_p hC) (f := 0) (a := 1) (t := 0) (n := 60) (by decide)) (vp_in_nI (by omega) (by omega)) ?_
        refine g_eqi (cf 13 (pN (q 30))) (by rw [nI_clamp (by omega)]; exact a1) ?_
        refine g_aload_n h (i := 63) rfl rfl ?_
        refine g_getR h (i := 64) rfl fl_X1_32 (fun _ _ _ => rfl) (lc_k hC) (lc_prog hC) ?_
        refine g_getR h (i := 65) rfl fl_X1_106 (fun _ _ _ => rfl) (lk_prog hC) (lp_r (lc_p hC) (f := 1) (a := 2) (t := 0) (n := 60) (by decide)) ?_
        refine g_aload_n h (i := 66) rfl rfl ?_
        refine g_getI h (i := 67) rfl fl_X1_89 (fun _ _ _ => rfl) (lk_M hM) ?_
        refine g_eqi (nI (pN (q 30))) e10 ?_
        refine g_iald h (i := 68) rfl (lp_k (lc_p hC) (f := 1) (a := 2) (t := 0) (n := 60) (by decide)) (vp_in_nI (by omega) (by omega)) ?_
        refine g_eqi (cf 14 (pN (q 30))) (by rw [nI_clamp (by omega)]; exact a2) ?_
        refine g_aload_n h (i := 69) rfl rfl ?_
        refine g_getR h (i := 70) rfl fl_X1_32 (fun _ _ _ => rfl) (lc_k hC) (lc_prog hC) ?_
        refine g_getR h (i := 71) rfl fl_X1_109 (fun _ _ _ => rfl) (lk_prog hC) (lp_r (lc_p hC) (f := 2) (a := 3) (t := 0) (n := 60) (by decide)) ?_
        refine g_aload_n h (i := 72) rfl rfl ?_
        refine g_getI h (i := 73) rfl fl_X1_89 (fun _ _ _ => rfl) (lk_M hM) ?_
        refine g_eqi (nI (pN (q 30))) e10 ?_
        refine g_iald h (i := 74) rfl (lp_k (lc_p hC) (f := 2) (a := 3) (t := 0) (n := 60) (by decide)) (vp_in_nI (by omega) (by omega)) ?_
        refine g_eqi (cf 15 (pN (q 30))) (by rw [nI_clamp (by omega)]; exact a3) ?_
        refine g_callVp (w0 := w) h hq (i := 75) rfl mv_X1_112 cls1 (lc_k hC) (ct_X1_doLine l E w3 c m cf q hlo hC hM hcm hV3 hRC3 hrq q46 q28 hc hk) rfl rfl ⟨rfl, rfl, Nat.le_of_ble_eq_true rfl, Nat.le_of_ble_eq_true rfl⟩ (Nat.le_of_ble_eq_true rfl) ⟨Nat.zero_le _, Nat.zero_le _⟩ (fun r143 w143 hp143 => ?_)
        obtain ⟨rfl, hT143, hV143⟩ := hp143
        refine g_if_ne h (i := 76) 157 rfl rfl (fun c_146 => ?_) (fun c_146 => ?_)
        · skip
          refine g_iconst h (i := 81) rfl (v := 1) (by rfl) ?_
          refine g_goto h (i := 82) 162 rfl rfl ?_
          refine g_istore_n h (i := 84) rfl hq rfl ?_
          refine g_iinc h (i := 85) rfl rfl (dv := 1) (by rfl) ?_
          refine g_goto h (i := 86) 42 rfl rfl ?_
          have hnn := hn30 c_70
          rw [if_neg hnn] at hg
          have hD : lnD cf q := Decidable.not_not.mp (fun t => c_146 (bI_f t))
          have hO : lnO cf q := hD.elim Or.inl (fun t => Or.inr (Or.inl t))
          have h3 : ln3 cf q = ln2 cf q := if_neg (fun t => hD.elim (fun z => z t.1) (fun z => z t.2.1))
          exact g_lv [(0, .ref c), (1, .ref m), (2, .int 1), (3, .int (nI (i + 1)))] ⟨rfl, rfl, rfl, congrArg (fun z => some (Value.int z)) (nI_1 i), trivial⟩ (kEnd _ _ (tf_t hT hT143) (by rw [← hg, if_pos hO, h3]; exact hV143))
        · skip
          have nD : ¬ lnD cf q := bI_0.mp c_146
          have h2 := rr_ln2 hc hrq q46 q28 hk
          have hTT := tf_t hT hT143
          have hC5 := (tf_L hTT).1 c hC0
          have hM5 := (tf_L hTT).2.1 m hM0
          have hlo5 : E.2.2 ≤ wN w143 := by rw [(tf_L hTT).2.2]; exact hlo0
          have hRC5 := tf_C hTT hcm hRC
          have hC := hC5
          have hM := hM5
          refine g_aload_n h (i := 77) rfl rfl ?_
          refine g_aload_n h (i := 78) rfl rfl ?_
          refine g_callVp (w0 := w) h hq (i := 79) rfl mv_X1_85 cls1 (lc_k hC) (ct_X1_carryOn l E w143 c m cf (ln2 cf q) hlo5 hC5 hM5 hcm hV143 hRC5 h2 hc) rfl rfl ⟨rfl, rfl, Nat.le_of_ble_eq_true rfl, Nat.le_of_ble_eq_true rfl⟩ (Nat.le_of_ble_eq_true rfl) ⟨Nat.zero_le _, Nat.zero_le _⟩ (fun r151 w151 hp151 => ?_)
          obtain ⟨rfl, hT151, hV151⟩ := hp151
          refine g_if_eq h (i := 80) 161 rfl rfl (fun c_154 => ?_) (fun c_154 => ?_)
          · skip
            refine g_iconst h (i := 83) rfl (v := 0) (by rfl) ?_
            refine g_istore_n h (i := 84) rfl hq rfl ?_
            refine g_iinc h (i := 85) rfl rfl (dv := 1) (by rfl) ?_
            refine g_goto h (i := 86) 42 rfl rfl ?_
            have hnn := hn30 c_70
            rw [if_neg hnn] at hg
            have e1 : ln1 cf q 31 = 0 := Decidable.not_not.mp (fun t => nD (Or.inl t))
            have e2 : ln2 cf q 28 = 1 := Decidable.not_not.mp (fun t => nD (Or.inr t))
            have h3 : ln3 cf q = coR cf (ln2 cf q) := by
              unfold ln3 coR
              by_cases z : ln2 cf q 46 = 0
              · rw [if_pos z, if_neg (fun t => t.2.2 z)]
              · rw [if_neg z, if_pos ⟨e1, e2, z⟩]
            have hO : ¬ lnO cf q := fun t => t.elim (fun z => z e1) (fun z => z.elim (fun y => y e2) (fun y => bI_0.mp c_154 y))
            obtain ⟨i1, i2, i3⟩ := ln3_idle h2 hO
            rw [← h3] at hV151
            exact g_lv [(0, .ref c), (1, .ref m), (2, .int 0), (3, .int (nI (i + 1)))] ⟨rfl, rfl, rfl, congrArg (fun z => some (Value.int z)) (nI_1 i), trivial⟩ (ih (i + 1) _ _ (by omega) (tf_t (tf_t hT hT143) hT151) hV151 i1 i2 i3 (by rw [← hg, if_neg hO]))
          · skip
            refine g_iconst h (i := 81) rfl (v := 1) (by rfl) ?_
            refine g_goto h (i := 82) 162 rfl rfl ?_
            refine g_istore_n h (i := 84) rfl hq rfl ?_
            refine g_iinc h (i := 85) rfl rfl (dv := 1) (by rfl) ?_
            refine g_goto h (i := 86) 42 rfl rfl ?_
            have hnn := hn30 c_70
            rw [if_neg hnn] at hg
            have e1 : ln1 cf q 31 = 0 := Decidable.not_not.mp (fun t => nD (Or.inl t))
            have e2 : ln2 cf q 28 = 1 := Decidable.not_not.mp (fun t => nD (Or.inr t))
            have h3 : ln3 cf q = coR cf (ln2 cf q) := by
              unfold ln3 coR
              by_cases z : ln2 cf q 46 = 0
              · rw [if_pos z, if_neg (fun t => t.2.2 z)]
              · rw [if_neg z, if_pos ⟨e1, e2, z⟩]
            have hO : lnO cf q := Or.inr (Or.inr (Decidable.not_not.mp (fun t => c_154 (bI_f t))))
            exact g_lv [(0, .ref c), (1, .ref m), (2, .int 1), (3, .int (nI (i + 1)))] ⟨rfl, rfl, rfl, congrArg (fun z => some (Value.int z)) (nI_1 i), trivial⟩ (kEnd _ _ (tf_t (tf_t hT hT143) hT151) (by rw [← hg, if_pos hO, h3]; exact hV151))
      · skip
        refine g_aload_n h (i := 38) rfl rfl ?_
        refine g_aload_n h (i := 39) rfl rfl ?_
        refine g_getR h (i := 40) rfl fl_X1_32 (fun _ _ _ => rfl) (lc_k hC) (lc_prog hC) ?_
        refine g_getI h (i := 41) rfl fl_X1_92 (fun _ _ _ => rfl) (lk_prog hC) ?_
        refine g_eqi (nI N) ecn ?_
        refine g_callVn h hq (i := 42) rfl mv_X1_95 cls3 (lk_M hM) (ct_X3_end l E w3 m (nI N) hlo hM) rfl rfl ⟨rfl, rfl, Nat.le_of_ble_eq_true rfl, Nat.le_of_ble_eq_true rfl⟩ (Nat.le_of_ble_eq_true rfl) ⟨Nat.zero_le _, Nat.zero_le _⟩ ?_
        refine g_iconst h (i := 43) rfl (v := 1) (by rfl) ?_
        refine g_istore_n h (i := 44) rfl hq rfl ?_
        refine g_goto h (i := 45) 163 rfl rfl ?_
        refine g_iinc h (i := 85) rfl rfl (dv := 1) (by rfl) ?_
        refine g_goto h (i := 86) 42 rfl rfl ?_
        exact g_lv [(0, .ref c), (1, .ref m), (2, .int 1), (3, .int (nI i + 1))] ⟨rfl, rfl, rfl, rfl, trivial⟩ (kEnd _ _ (tf_end hT) (by rw [← hg, if_pos (hle.mpr (i32nlt.mp c_70)), eN]; exact rv_endc hV3))
  obtain ⟨w1, hw1⟩ : ∃ w1, w1 = sI w m 9 (wI w m 9 + 1) := ⟨_, rfl⟩
  have htf1 : TF c m w w1 := by rw [hw1]; exact tf_I tf_0 (by omega)
  have hV1 : RepM w1 m (up1 r 29 (r 29 + 1)) := by rw [hw1]; exact rm_9 hV
  have hC1 : LayC w1 c := (tf_L htf1).1 c hC
  have hM1 : LayM w1 m := (tf_L htf1).2.1 m hM
  have hlo1 : E.2.2 ≤ wN w1 := by rw [(tf_L htf1).2.2]; exact hlo
  have hRC1 : RepC (cfW w1 c) cf := tf_C htf1 hcm hRC
  have t1 := isN_1 ht (by omega)
  have e9 : wI w1 m 9 = (r 29 + 1).toInt32 := hV1.2.2.1
  have hcs := hc.2.2.2.2.2.2.2.2.2.1
  have hsi := ct_X7_setInputs l E w1 (c + 8) (m + 3) cf (r 29 + 1).toInt32 hlo1 (lk_scr hC1) (lc_s hC1) (ln_inputs hM1) hRC1.2.2.2.2.2.1 hc.2.2.2.2.2.2.2.2.1 hRC1.2.2.2.2.2.2 hcs (by omega)
  have htt : ∀ x : Int32, x.toInt64 = up1 r 29 (r 29 + 1) 29 ↔ x = (r 29 + 1).toInt32 := fun x => by
    rw [up1_s]
    constructor
    · intro q; rw [← q, Int32.toInt32_toInt64]
    · intro q; rw [q]; exact (isN_i t1.1 (by omega)).2.1
  have hV2 := rm_scr (cf := cf) hV1 htt (pI (cf 0 16)) hcs
  obtain ⟨w2, hw2⟩ : ∃ w2, w2 = inpW w1 (m + 3) (siW cf (r 29 + 1).toInt32 (wI w1 (m + 3)) (pI (cf 0 16))) := ⟨_, rfl⟩
  have htf2 : TF c m w w2 := by rw [hw2]; exact tf_inp htf1
  rw [← hw2] at hsi hV2
  have hV2' : RepM w2 m (tk1 cf r) := hV2
  have hC2 : LayC w2 c := (tf_L htf2).1 c hC
  have hM2 : LayM w2 m := (tf_L htf2).2.1 m hM
  have hlo2 : E.2.2 ≤ wN w2 := by rw [(tf_L htf2).2.2]; exact hlo
  have hRC2 : RepC (cfW w2 c) cf := tf_C htf2 hcm hRC
  have htk := tk1_rr hc hr
  have h7 : ∀ k, k < pI (cf 0 16) → isI (cf 17 k) 7 := fun k hk => (hcs k hk).1
  have k28 : tk1 cf r 28 = 1 := by unfold tk1; rw [scr_o h7 (by omega), up1_k (by omega)]; exact h28
  refine g_aload_n h (i := 0) rfl rfl ?_
  refine g_getI h (i := 1) rfl fl_X1_68 (fun _ _ _ => rfl) (lk_M hM) ?_
  refine g_eqi (nI (pN (r 28))) e8 ?_
  refine g_iconst h (i := 2) rfl (v := 1) (by rfl) ?_
  refine g_icmp_eq h (i := 3) 9 rfl rfl (fun c_5 => ?_) (fun c_5 => absurd (hz8.mpr h28) c_5)
  refine g_aload_n h (i := 5) rfl rfl ?_
  refine g_dup h (i := 6) rfl rfl ?_
  refine g_getI h (i := 7) rfl fl_X1_74 (fun _ _ _ => rfl) (lk_M hM) ?_
  refine g_iconst h (i := 8) rfl (v := 1) (by rfl) ?_
  refine g_iadd h (i := 9) rfl ?_
  refine g_putI_0 h (i := 10) rfl fl_X1_74 nf_3_9 (fun _ _ _ => rfl) (lk_M hM) (rfl) (by rfl) ?_
  refine g_w w1 (by rw [hw1]) ?_
  have hC := hC1
  have hM := hM1
  refine g_aload_n h (i := 11) rfl rfl ?_
  refine g_getR h (i := 12) rfl fl_X1_39 (fun _ _ _ => rfl) (lc_k hC) (lc_scr hC) ?_
  refine g_aload_n h (i := 13) rfl rfl ?_
  refine g_getI h (i := 14) rfl fl_X1_74 (fun _ _ _ => rfl) (lk_M hM) ?_
  refine g_eqi (r 29 + 1).toInt32 e9 ?_
  refine g_aload_n h (i := 15) rfl rfl ?_
  refine g_getR h (i := 16) rfl fl_X1_77 (fun _ _ _ => rfl) (lk_M hM) (lm_inputs hM) ?_
  refine g_callVn h hq (i := 17) rfl mv_X1_81 cls7 (lk_scr hC) (hsi) rfl rfl ⟨rfl, rfl, Nat.le_of_ble_eq_true rfl, Nat.le_of_ble_eq_true rfl⟩ (Nat.le_of_ble_eq_true rfl) ⟨Nat.zero_le _, Nat.zero_le _⟩ ?_
  have hC := hC2
  have hM := hM2
  refine g_aload_n h (i := 18) rfl rfl ?_
  refine g_aload_n h (i := 19) rfl rfl ?_
  refine g_callVp (w0 := w) h hq (i := 20) rfl mv_X1_85 cls1 (lc_k hC) (ct_X1_carryOn l E w2 c m cf (tk1 cf r) hlo2 hC2 hM2 hcm hV2' hRC2 htk hc) rfl rfl ⟨rfl, rfl, Nat.le_of_ble_eq_true rfl, Nat.le_of_ble_eq_true rfl⟩ (Nat.le_of_ble_eq_true rfl) ⟨Nat.zero_le _, Nat.zero_le _⟩ (fun r36 w36 hp36 => ?_)
  obtain ⟨rfl, hT36, hV36⟩ := hp36
  refine g_istore_n h (i := 21) rfl hq rfl ?_
  refine g_iconst h (i := 22) rfl (v := 0) (by rfl) ?_
  refine g_istore_n h (i := 23) rfl hq rfl ?_
  have g1 : ∀ b : Int32, b = bI (coO (tk1 cf r)) → G X 0 0 42 (lf [(0, .ref c), (1, .ref m), (2, .int b), (3, .int (nI 0))]) [] w36 := by
    intro b hb
    by_cases hO : coO (tk1 cf r)
    · rw [hb, bI_t hO]
      exact kEnd w36 _ (tf_t htf2 hT36) (by unfold ticksR; rw [if_neg hO.1, if_neg hO.2]; unfold coR at hV36; rw [if_neg hO.1] at hV36; exact hV36)
    · rw [hb, bI_f hO]
      by_cases z : tk1 cf r 46 = 0
      · exact kGo 100 0 w36 (tk1 cf r) (by omega) (tf_t htf2 hT36) (by unfold coR at hV36; rw [if_pos z] at hV36; exact hV36) htk z k28 (by unfold ticksR; rw [if_pos z])
      · have hgt : gtB (tk1 cf r) := Decidable.not_not.mp (fun t => hO ⟨z, t⟩)
        exact kGo 100 0 w36 (goesTickR cf (tk1 cf r)) (by omega) (tf_t htf2 hT36) (by unfold coR at hV36; rw [if_neg z] at hV36; exact hV36) (rr_gt htk z) (by unfold goesTickR; rw [if_pos hgt]; rfl) (by unfold goesTickR; rw [if_pos hgt]; exact k28) (by unfold ticksR; rw [if_neg z, if_pos hgt])
  exact g_lv [(0, .ref c), (1, .ref m), (2, .int (bI (coO (tk1 cf r)))), (3, .int (nI 0))] ⟨rfl, rfl, rfl, rfl, trivial⟩ (g1 _ rfl)
