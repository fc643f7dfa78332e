/-- the states tried, as ints -/
def stN (r : Nat → Int64) (j : Nat) : Int32 := (nxR r j).toInt32
def tvN (r : Nat → Int64) (j : Nat) : Int64 := r (64 + j) + absL (nxR r j - r j)
theorem st_of {r : Nat → Int64} (h : MoR r) {j : Nat} (hj : j < 4) : Int32.ofInt (sbR r (pN (r 63) + 1) j) = stN r j := by
  have b := sb_ok h (t := pN (r 63) + 1) hj
  have e := (nx_i h hj).2.1
  exact i32x (by rw [ofI32 (by omega) (by omega)]; exact e.symm)
theorem tv_of {r : Nat → Int64} (h : MoR r) (hr : FA r) {j : Nat} (hj : j < 4) : r (64 + j) + (if 0 ≤ stN r j - (r j).toInt32 then stN r j - (r j).toInt32 else 0 - (stN r j - (r j).toInt32)).toInt64 = tvN r j := by
  have b := sb_ok h (t := pN (r 63) + 1) hj
  obtain ⟨e1, e2, e3⟩ := nx_i h hj
  have s := l_sm ((fr_st hj).mp (hr j))
  have sb := (fr_st hj).mp (hr j)
  have d1 : (stN r j - (r j).toInt32).toInt = sbR r (pN (r 63) + 1) j - (r j).toInt := by
    have z : (stN r j).toInt = sbR r (pN (r 63) + 1) j := e2
    rw [i_sub (by rw [z, s.2]; omega) (by rw [z, s.2]; omega), z, s.2]
  have d2 : (nxR r j - r j).toInt = sbR r (pN (r 63) + 1) j - (r j).toInt := by rw [l_sub (by rw [e1]; omega) (by rw [e1]; omega), e1]
  unfold tvN absL
  rw [i_abs (by rw [d1]; omega), l_abs (by rw [d2]; omega), d1, d2, nI_l (by omega)]
theorem cf_ua (w : Wd) (m f : Nat) (g : Nat → Int32) (J : Nat → Nat → Int64) (D : Nat → Nat → UInt64) : cfW (dW w (ua (wI w) (m + f) g) J D) m = ua (cfW w m) f g := by
  funext y
  show ua (wI w) (m + f) g (m + y) = ua (cfW w m) f g y
  by_cases e : y = f
  · subst e; rw [ua_s, ua_s]
  · rw [ua_a e, ua_a (by omega)]; rfl
theorem cf_far (w : Wd) (m p : Nat) (g : Nat → Int32) (J : Nat → Nat → Int64) (D : Nat → Nat → UInt64) (h : p < m) : cfW (dW w (ua (wI w) p g) J D) m = cfW w m := by
  funext y
  show ua (wI w) p g (m + y) = wI w (m + y)
  exact ua_a (by omega)
theorem rv_63 {M : Nat → Nat → Int32} {T r : Nat → Int64} {v : Int64} (h : RepV M T r) : RepV M T (up1 r 63 v) := ⟨h.1, h.2.1, h.2.2.1, h.2.2.2.1, h.2.2.2.2.1, h.2.2.2.2.2.1, h.2.2.2.2.2.2.1, h.2.2.2.2.2.2.2.1, h.2.2.2.2.2.2.2.2.1, h.2.2.2.2.2.2.2.2.2.1, h.2.2.2.2.2.2.2.2.2.2.1, fun j hj => (h.2.2.2.2.2.2.2.2.2.2.2.1 j hj).trans (congrArg Int64.toInt32 (Eq.symm (by first | rfl | ((try unfold overR); (repeat first | rw [up1_k (by omega)] | rw [setn_o (by omega)]))))), fun j hj => (h.2.2.2.2.2.2.2.2.2.2.2.2.1 j hj).trans (Eq.symm (by first | rfl | ((try unfold overR); (repeat first | rw [up1_k (by omega)] | rw [setn_o (by omega)])))), fun j hj => (h.2.2.2.2.2.2.2.2.2.2.2.2.2.1 j hj).trans (congrArg Int64.toInt32 (Eq.symm (by first | rfl | ((try unfold overR); (repeat first | rw [up1_k (by omega)] | rw [setn_o (by omega)]))))), fun j hj => (h.2.2.2.2.2.2.2.2.2.2.2.2.2.2.1 j hj).trans (congrArg Int64.toInt32 (Eq.symm (by first | rfl | ((try unfold overR); (repeat first | rw [up1_k (by omega)] | rw [setn_o (by omega)]))))), fun j hj => (h.2.2.2.2.2.2.2.2.2.2.2.2.2.2.2.1 j hj).trans (congrArg Int64.toInt32 (Eq.symm (by first | rfl | ((try unfold overR); (repeat first | rw [up1_k (by omega)] | rw [setn_o (by omega)]))))), fun j hj hj2 => (h.2.2.2.2.2.2.2.2.2.2.2.2.2.2.2.2.1 j hj hj2).trans (congrArg Int64.toInt32 (Eq.symm (by first | rfl | ((try unfold overR); (repeat first | rw [up1_k (by omega)] | rw [setn_o (by omega)]))))), fun q => mv_c (h.2.2.2.2.2.2.2.2.2.2.2.2.2.2.2.2.2 q) (fun f k hf => (by first | rfl | (repeat first | rw [up2_f2 (by omega)] | rw [ua_a (by omega)]))) (fun y h1 h2 => (by first | rfl | ((try unfold overR); (repeat first | rw [up1_k (by omega)] | rw [setn_o (by omega)]))))⟩
theorem rv_go {M : Nat → Nat → Int32} {T r : Nat → Int64} (v : Int64) (s : Nat → Int64) (u : Nat → Int64) (st : Nat → Int32) (h : RepV M T r) (hs : ∀ j, st j = (s j).toInt32) : RepV (ua M 1 (setn (M 1) 0 st 4)) (setn T 0 u 4) (setn (setn (up1 r 63 v) 0 s 4) 64 u 4) := ⟨h.1, h.2.1, h.2.2.1, h.2.2.2.1, h.2.2.2.2.1, h.2.2.2.2.2.1, h.2.2.2.2.2.2.1, h.2.2.2.2.2.2.2.1, h.2.2.2.2.2.2.2.2.1, h.2.2.2.2.2.2.2.2.2.1, h.2.2.2.2.2.2.2.2.2.2.1, fun j hj => by rw [setn_o (by omega)]; exact (setn_i (Nat.zero_add j).symm hj).trans ((hs j).trans (congrArg Int64.toInt32 (setn_i (Nat.zero_add j).symm hj).symm)), fun j hj => (setn_i (Nat.zero_add j).symm hj).trans (setn_i rfl hj).symm, fun j hj => (h.2.2.2.2.2.2.2.2.2.2.2.2.2.1 j hj).trans (congrArg Int64.toInt32 (Eq.symm (by first | rfl | ((try unfold overR); (repeat first | rw [up1_k (by omega)] | rw [setn_o (by omega)]))))), fun j hj => (h.2.2.2.2.2.2.2.2.2.2.2.2.2.2.1 j hj).trans (congrArg Int64.toInt32 (Eq.symm (by first | rfl | ((try unfold overR); (repeat first | rw [up1_k (by omega)] | rw [setn_o (by omega)]))))), fun j hj => (h.2.2.2.2.2.2.2.2.2.2.2.2.2.2.2.1 j hj).trans (congrArg Int64.toInt32 (Eq.symm (by first | rfl | ((try unfold overR); (repeat first | rw [up1_k (by omega)] | rw [setn_o (by omega)]))))), fun j hj hj2 => (h.2.2.2.2.2.2.2.2.2.2.2.2.2.2.2.2.1 j hj hj2).trans (congrArg Int64.toInt32 (Eq.symm (by first | rfl | ((try unfold overR); (repeat first | rw [up1_k (by omega)] | rw [setn_o (by omega)]))))), fun q => mv_c (h.2.2.2.2.2.2.2.2.2.2.2.2.2.2.2.2.2 q) (fun f k hf => (by first | rfl | (repeat first | rw [up2_f2 (by omega)] | rw [ua_a (by omega)]))) (fun y h1 h2 => (by first | rfl | ((try unfold overR); (repeat first | rw [up1_k (by omega)] | rw [setn_o (by omega)]))))⟩
def triW (w : Wd) (c : Nat) (r : Nat → Int64) (i : Nat) : Wd := inpW w (c + 13) (setn (wI w (c + 13)) 0 (stN r) i)
theorem tri_0 (w : Wd) (c : Nat) (r : Nat → Int64) : triW w c r 0 = w := by unfold triW; rw [setn_0, inp_0]
theorem tri_1 {w : Wd} {c i : Nat} {r : Nat → Int64} {v : Int32} (hv : v = stN r i) : sI (triW w c r i) (c + 13) i v = triW w c r (i + 1) := by
  unfold triW
  rw [inp_1]
  have := setn_1 (wI w (c + 13)) 0 (stN r) i hv
  rw [Nat.zero_add] at this
  rw [this]
theorem tri_i {w : Wd} {c i p : Nat} {r : Nat → Int64} (h : p ≠ c + 13) : wI (triW w c r i) p = wI w p := ua_a h
theorem tri_s {w : Wd} {c i n : Nat} {r : Nat → Int64} (h : i < n) : wI (triW w c r n) (c + 13) i = stN r i := by
  show ua (wI w) (c + 13) _ (c + 13) i = _
  rw [ua_s]; exact setn_i (Nat.zero_add i).symm h
def movW (w : Wd) (m : Nat) (r : Nat → Int64) (i : Nat) : Wd := dW w (ua (wI w) (m + 1) (setn (wI w (m + 1)) 0 (stN r) i)) (ua (wJ w) (m + 2) (setn (wJ w (m + 2)) 0 (tvN r) i)) (wD w)
theorem mov_0 (w : Wd) (m : Nat) (r : Nat → Int64) : movW w m r 0 = w := by unfold movW; rw [setn_0, setn_0, ua_self, ua_self]; rfl
theorem mov_1 {w : Wd} {m i : Nat} {r : Nat → Int64} {v : Int32} {u : Int64} (hv : v = stN r i) (hu : u = tvN r i) : sI (sJ (movW w m r i) (m + 2) i u) (m + 1) i v = movW w m r (i + 1) := by
  have e1 : up2 (ua (wI w) (m + 1) (setn (wI w (m + 1)) 0 (stN r) i)) (m + 1) i v = ua (wI w) (m + 1) (setn (wI w (m + 1)) 0 (stN r) (i + 1)) := by
    have := setn_1 (wI w (m + 1)) 0 (stN r) i hv
    rw [Nat.zero_add] at this
    rw [up2_ua, ua_ua, ua_s, this]
  have e2 : up2 (ua (wJ w) (m + 2) (setn (wJ w (m + 2)) 0 (tvN r) i)) (m + 2) i u = ua (wJ w) (m + 2) (setn (wJ w (m + 2)) 0 (tvN r) (i + 1)) := by
    have := setn_1 (wJ w (m + 2)) 0 (tvN r) i hu
    rw [Nat.zero_add] at this
    rw [up2_ua, ua_ua, ua_s, this]
  show dW w (up2 (ua (wI w) (m + 1) (setn (wI w (m + 1)) 0 (stN r) i)) (m + 1) i v) (up2 (ua (wJ w) (m + 2) (setn (wJ w (m + 2)) 0 (tvN r) i)) (m + 2) i u) (wD w) = _
  rw [e1, e2]; rfl
theorem mov_t {w : Wd} {m i j : Nat} {r : Nat → Int64} (h : i ≤ j) : wJ (movW w m r i) (m + 2) j = wJ w (m + 2) j ∧ wI (movW w m r i) (m + 1) j = wI w (m + 1) j := by
  constructor
  · show ua (wJ w) (m + 2) _ (m + 2) j = _
    rw [ua_s]; exact setn_o (by omega)
  · show ua (wI w) (m + 1) _ (m + 1) j = _
    rw [ua_s]; exact setn_o (by omega)
-- a go goes on
set_option maxRecDepth 100000 in
set_option maxHeartbeats 4000000 in
theorem ct_X1_carryOnGo (l : Launch) (E : EE) (w : Wd) (c m : Nat) (cf : Nat → Nat → Int32) (r : Nat → Int64) (hlo : E.2.2 ≤ wN w) (hC : LayC w c) (hM : LayM w m) (hcm : c + 54 ≤ m) (hV : RepM w m r) (hRC : RepC (cfW w c) cf) (hr : RR r) (hb : r 46 = 1) (hc : CfR cf) : Ct l E yX1_carryOnGo cX1_carryOnGo 5 (some .boolean) ({ frames := 3, cells := 0, slots := 0, locals := 63 } : Room) [.ref c, .ref m] w 0 0 (fun q w2 => q = some (.int (if gtB r then 0 else 1)) ∧ TF c m w w2 ∧ RepM w2 m (goesTickR cf r)) := by
  refine ct_in (il := il_X1_carryOnGo) (by decide) dk_X1_carryOnGo (Nat.le_of_ble_eq_true rfl) hlo ?_
  intro X h hq

  have hmo := rr_mo hr hb
  obtain ⟨m59, m62, m62p, m60, m61, mB', m63, m47, msum, m47p, mft⟩ := hmo
  obtain ⟨o2, o3, o4, o5, oj⟩ := hV.2.2.2.2.2.2.2.2.2.2.2.2.2.2.2.2.2 hb
  have i50 : wI w m 17 = (r 50).toInt32 := hV.2.2.2.2.2.2.2.2.2.2.1 hb
  have e59 : wI w (m + 7) 2 = nI (pN (r 59)) := o2.trans (i32eta m59 (by omega))
  have e62 : wI w (m + 7) 3 = nI (pN (r 62)) := o3.trans (i32eta m62 (by omega))
  have e61 : wI w (m + 7) 4 = nI (pN (r 61)) := o4.trans (by rw [m61, lN_32 (by have := mB'.2.2; omega), pN_l (by have := mB'.2.2; omega)])
  have e60 : wI w (m + 7) 5 = nI (pN (r 60)) := o5.trans (by rw [m60, lN_32 (by have := mB'.2.1; omega), pN_l (by have := mB'.2.1; omega)])
  have e47 : wI w m 13 = nI (pN (r 47)) := (hV.2.2.2.2.2.2.1).trans (i32eta (hr.1 47) (by omega))
  have l59 := m59.2
  have l62 := m62.2
  obtain ⟨g, hg⟩ : ∃ g, g = min (gnN (pN (r 60)) (pN (r 61)) (pN (r 59)) (pN (r 63) + 1)) (pN (r 62)) := ⟨_, rfl⟩
  have hsb : ∀ j, sbR r (pN (r 63) + 1) j = mvS (r (51 + j)).toInt ((r (55 + j)).toInt - (r (51 + j)).toInt) g (pN (r 62)) := fun j => by rw [hg]; rfl
  have hgl : g ≤ pN (r 62) := by rw [hg]; exact Nat.min_le_right _ _
  have hgb := ct_X4_goneBehind l E w (m + 7) (pN (r 60)) (pN (r 61)) (pN (r 59)) (pN (r 62)) (pN (r 63) + 1) hlo (lk_T (lm_T hM)) e59 e62 e61 e60 mB' (by omega) (by omega) (by omega)
  rw [← hg] at hgb
  have hMor := rr_mo hr hb
  have htr : TF c m w (triW w c r 4) := tf_d tf_0 (fun p h1 h2 => ua_a h2) (fun _ _ => rfl) (fun _ _ => rfl)
  obtain ⟨x, hx⟩ : ∃ x, x = tpX (cf 3) (cf 4) (stN r) 4 := ⟨_, rfl⟩
  obtain ⟨z, hz⟩ : ∃ z, z = tpY (cf 3) (cf 4) (stN r) 4 := ⟨_, rfl⟩
  have hbar : barC cf (stN r) = barB (cf 9) (cf 10) x z 4 := by unfold barC; rw [hx, hz]
  have hfo := ct_X8_follow l E (triW w c r 4) (c + 12) (c + 1) (c + 13) (fun j => c + 14 + j) (cf 3) (cf 4) (stN r) hlo (lk_tried hC) (lk_joints hC) (lk_tst hC) (fun j hj => lc_jo hC hj) (fun j hj => lk_jo hC hj) (fun j hj => by rw [tri_i (by omega), Nat.add_assoc]; exact (hRC.1 j hj).1) (fun j hj => by rw [tri_i (by omega), Nat.add_assoc]; exact (hRC.1 j hj).2.1) (fun j hj => tri_s hj) (okA_of hc.1 (fun j hj => by
    have b := sb_ok hMor (t := pN (r 63) + 1) hj
    have e : (stN r j).toInt = sbR r (pN (r 63) + 1) j := (nx_i hMor hj).2.1
    rw [e]; exact b))
  rw [← hx, ← hz] at hfo
  obtain ⟨w5, hw5⟩ : ∃ w5, w5 = tipW (triW w c r 4) (c + 12) 0 x z := ⟨_, rfl⟩
  rw [← hw5] at hfo
  have tx : wD w5 (c + 12) 0 = x := by rw [hw5]; exact (up2_k (by decide)).trans (up2_s _ _ _ _)
  have tz : wD w5 (c + 12) 1 = z := by rw [hw5]; exact up2_s _ _ _ _
  have htf5 : TF c m w w5 := by rw [hw5]; exact tf_tip htr
  have hC5 : LayC w5 c := (tf_L htf5).1 c hC
  have hM5 : LayM w5 m := (tf_L htf5).2.1 m hM
  have hlo5 : E.2.2 ≤ wN w5 := by rw [(tf_L htf5).2.2]; exact hlo
  have hRC5 : RepC (cfW w5 c) cf := tf_C htf5 hcm hRC
  have hV5 : RepM w5 m r := by
    have e1 : cfW w5 m = cfW w m := by rw [hw5]; exact cf_far w m (c + 13) _ _ _ (by omega)
    have e2 : wJ w5 = wJ w := by rw [hw5]; rfl
    show RepV (cfW w5 m) (wJ w5 (m + 2)) r
    rw [e1, e2]; exact hV
  have s5 : ∀ j, j < 4 → wI w5 (c + 13) j = stN r j := fun j hj => by rw [hw5]; exact tri_s hj
  have hng : ¬ gtB r → goesTickR cf r = goesOnR cf r := fun q => by unfold goesTickR; rw [if_neg q, if_pos hb]
  have k137 : ¬ gtB r → barC cf (stN r) = false → ∀ (d i : Nat), i + d = 4 → G X 0 0 137 (lf [(0, .ref c), (1, .ref m), (4, .int (nI i))]) [] (movW w5 m r i) := by
    intro hng0 hba d
    induction d with
    | zero =>
      intro i hi
      have hi4 : i = 4 := by omega
      subst hi4
      have hC := hC5
      have hM : LayM (movW w5 m r 4) m := hM5
      have hlo := hlo5
      refine g_iload h (i := 71) rfl rfl ?_
      refine g_iconst h (i := 72) rfl (v := 4) (by rfl) ?_
      refine g_icmp_ge h (i := 73) 192 rfl rfl (fun c_140 => ?_) (fun c_140 => absurd (by decide : (4 : Int32) ≤ nI 4) c_140)
      refine g_aload_n h (i := 102) rfl rfl ?_
      refine g_callVn h hq (i := 103) rfl mv_X1_125 cls3 (lk_M hM) (ct_X3_spendTick l E (movW w5 m r 4) m hlo hM) rfl rfl ⟨rfl, rfl, Nat.le_of_ble_eq_true rfl, Nat.le_of_ble_eq_true rfl⟩ (Nat.le_of_ble_eq_true rfl) ⟨Nat.zero_le _, Nat.zero_le _⟩ ?_
      refine g_iconst h (i := 104) rfl (v := 1) (by rfl) ?_
      exact g_zret hq h (i := 105) rfl (rfl) (by
        rw [if_neg hng0]
        refine ⟨rfl, tf_spend (tf_d htf5 (fun p h1 h2 => ua_a (by omega)) (fun p h => ua_a h) (fun _ _ => rfl)), ?_⟩
        have b : RepV (cfW (movW w5 m r 4) m) (wJ (movW w5 m r 4) (m + 2)) (setn (setn (up1 r 63 (r 63 + 1)) 0 (nxR r) 4) 64 (tvN r) 4) := by
          have e1 : cfW (movW w5 m r 4) m = ua (cfW w5 m) 1 (setn (cfW w5 m 1) 0 (stN r) 4) := cf_ua _ _ _ _ _ _
          have e2 : wJ (movW w5 m r 4) (m + 2) = setn (wJ w5 (m + 2)) 0 (tvN r) 4 := ua_s _ _ _
          rw [e1, e2]
          exact rv_go _ _ _ _ hV5 (fun j => rfl)
        have q := rv_spend b (show isN (r 47) 2000000 from hr.1 47) (show 0 < pN (r 47) from m47p)
        rw [hng hng0]
        have e3 : goesOnR cf r = (if r 47 - 1 = 0 then overR (up1 (setn (setn (up1 r 63 (r 63 + 1)) 0 (nxR r) 4) 64 (tvN r) 4) 47 (r 47 - 1)) else up1 (setn (setn (up1 r 63 (r 63 + 1)) 0 (nxR r) 4) 64 (tvN r) 4) 47 (r 47 - 1)) := by
          unfold goesOnR
          rw [if_neg (show ¬ barC cf (fun j => (nxR r j).toInt32) = true from fun t => by rw [show barC cf (fun j => (nxR r j).toInt32) = false from hba] at t; exact absurd t (by decide))]
          rfl
        rw [e3]
        show RepV _ (wJ (spendW (movW w5 m r 4) m) (m + 2)) _
        rw [j_spend]
        exact q)
    | succ d ih =>
      intro i hid
      have hi : i < 4 := by omega
      have hC : LayC (movW w5 m r i) c := hC5
      have hM : LayM (movW w5 m r i) m := hM5
      have hnge : ¬ (4 : Int32) ≤ nI i := nI_ge (b := 4) hi (by omega)
      have hcl : (nI i).toNatClampNeg = i := nI_clamp (by omega)
      have hvp : vp_in (nI i) 4 := vp_in_nI hi (by omega)
      obtain ⟨t1, t2⟩ := mov_t (w := w5) (m := m) (r := r) (Nat.le_refl i)
      have t3 : wI (movW w5 m r i) (c + 13) i = stN r i := (congrFun (ua_a (by omega)) i).trans (s5 i hi)
      refine g_iload h (i := 71) rfl rfl ?_
      refine g_iconst h (i := 72) rfl (v := 4) (by rfl) ?_
      refine g_icmp_ge h (i := 73) 192 rfl rfl (fun c_140 => absurd c_140 hnge) (fun c_140 => ?_)
      refine g_aload_n h (i := 74) rfl rfl ?_
      refine g_getR h (i := 75) rfl fl_X1_159 (fun _ _ _ => rfl) (lk_M hM) (lm_travelled hM) ?_
      refine g_iload h (i := 76) rfl rfl ?_
      refine g_dup2 h (i := 77) rfl rfl rfl ?_
      refine g_lald h (i := 78) rfl (ln_travelled hM) (hvp) ?_
      refine g_eql (r (64 + i)) (by rw [hcl]; exact t1.trans (hV5.2.2.2.2.2.2.2.2.2.2.2.2.1 i hi)) ?_
      refine g_aload_n h (i := 79) rfl rfl ?_
      refine g_getR h (i := 80) rfl fl_X1_50 (fun _ _ _ => rfl) (lc_k hC) (lc_tst hC) ?_
      refine g_iload h (i := 81) rfl rfl ?_
      refine g_iald h (i := 82) rfl (lk_tst hC) (hvp) ?_
      refine g_eqi (stN r i) (by rw [hcl]; exact t3) ?_
      refine g_aload_n h (i := 83) rfl rfl ?_
      refine g_getR h (i := 84) rfl fl_X1_163 (fun _ _ _ => rfl) (lk_M hM) (lm_states hM) ?_
      refine g_iload h (i := 85) rfl rfl ?_
      refine g_iald h (i := 86) rfl (ln_states hM) (hvp) ?_
      refine g_eqi (r i).toInt32 (by rw [hcl]; exact t2.trans (hV5.2.2.2.2.2.2.2.2.2.2.2.1 i hi)) ?_
      refine g_isub h (i := 87) rfl ?_
      refine g_mabs (w0 := w) h hq (i := 88) rfl ml_X1_166 ⟨rfl, Nat.le_of_ble_eq_true rfl, Nat.zero_le _, Nat.zero_le _⟩ ?_
      refine g_i2l h (i := 89) rfl ?_
      refine g_ladd h (i := 90) rfl ?_
      refine g_eql (tvN r i) (tv_of hMor hr.1 hi) ?_
      refine g_last h (i := 91) rfl (ln_travelled hM) (hvp) ?_
      refine g_w (sJ (movW w5 m r i) (m + 2) i (tvN r i)) (by rw [hcl]) ?_
      refine g_aload_n h (i := 92) rfl rfl ?_
      refine g_getR h (i := 93) rfl fl_X1_163 (fun _ _ _ => rfl) (lk_M hM) (lm_states hM) ?_
      refine g_iload h (i := 94) rfl rfl ?_
      refine g_aload_n h (i := 95) rfl rfl ?_
      refine g_getR h (i := 96) rfl fl_X1_50 (fun _ _ _ => rfl) (lc_k hC) (lc_tst hC) ?_
      refine g_iload h (i := 97) rfl rfl ?_
      refine g_iald h (i := 98) rfl (lk_tst hC) (hvp) ?_
      refine g_eqi (stN r i) (by rw [hcl]; exact t3) ?_
      refine g_iast h (i := 99) rfl (ln_states hM) (hvp) ?_
      refine g_w (movW w5 m r (i + 1)) (by rw [hcl]; exact mov_1 rfl rfl) ?_
      refine g_iinc h (i := 100) rfl rfl (dv := 1) (by rfl) ?_
      refine g_goto h (i := 101) 137 rfl rfl ?_
      exact g_lv [(0, .ref c), (1, .ref m), (4, .int (nI (i + 1)))] ⟨rfl, rfl, congrArg (fun z => some (Value.int z)) (nI_1 i), trivial⟩ (ih (i + 1) (by omega))
  have k98 : ¬ gtB r → ∀ (d i : Nat), i + d = 4 → barB (cf 9) (cf 10) x z i = false → G X 0 0 98 (lf [(0, .ref c), (1, .ref m), (4, .int (nI i))]) [] w5 := by
    intro hng0 d
    have hC := hC5
    have hM := hM5
    have hlo := hlo5
    induction d with
    | zero =>
      intro i hi hba
      have hi4 : i = 4 := by omega
      subst hi4
      refine g_iload h (i := 51) rfl rfl ?_
      refine g_iconst h (i := 52) rfl (v := 4) (by rfl) ?_
      refine g_icmp_ge h (i := 53) 134 rfl rfl (fun c_101 => ?_) (fun c_101 => absurd (by decide : (4 : Int32) ≤ nI 4) c_101)
      refine g_iconst h (i := 69) rfl (v := 0) (by rfl) ?_
      refine g_istore h (i := 70) rfl hq rfl ?_
      exact g_lv [(0, .ref c), (1, .ref m), (4, .int (nI 0))] ⟨rfl, rfl, rfl, trivial⟩ (by have := k137 hng0 (hbar.trans hba) 4 0 (by omega); rw [mov_0] at this; exact this)
    | succ d ih =>
      intro i hid hba
      have hi : i < 4 := by omega
      have hnge : ¬ (4 : Int32) ≤ nI i := nI_ge (b := 4) hi (by omega)
      have hcl : (nI i).toNatClampNeg = i := nI_clamp (by omega)
      obtain ⟨b0, b1, b2, b3, b4⟩ := hRC5.2.1 i hi
      have hho := ct_X0_holds l E w5 (c + 18 + i) (c + 12) hlo (lk_bx hC hi) (lk_tried hC)
      rw [tx, tz, show wI w5 (c + 18 + i) 0 = cf 9 i by rw [Nat.add_assoc]; exact b0, show wI w5 (c + 18 + i) 1 = cf 10 (4 * i) by rw [Nat.add_assoc]; exact b1, show wI w5 (c + 18 + i) 2 = cf 10 (4 * i + 1) by rw [Nat.add_assoc]; exact b2, show wI w5 (c + 18 + i) 3 = cf 10 (4 * i + 2) by rw [Nat.add_assoc]; exact b3, show wI w5 (c + 18 + i) 4 = cf 10 (4 * i + 3) by rw [Nat.add_assoc]; exact b4] at hho
      refine g_iload h (i := 51) rfl rfl ?_
      refine g_iconst h (i := 52) rfl (v := 4) (by rfl) ?_
      refine g_icmp_ge h (i := 53) 134 rfl rfl (fun c_101 => absurd c_101 hnge) (fun c_101 => ?_)
      refine g_aload_n h (i := 54) rfl rfl ?_
      refine g_getR h (i := 55) rfl fl_X1_19 (fun _ _ _ => rfl) (lc_k hC) (lc_boxes hC) ?_
      refine g_iload h (i := 56) rfl rfl ?_
      refine g_aald h (i := 57) rfl (by decide) (lk_boxes hC) (vp_in_nI (by omega) (by omega)) (by rw [hcl]; exact lc_bx hC hi) ?_
      refine g_aload_n h (i := 58) rfl rfl ?_
      refine g_getR h (i := 59) rfl fl_X1_46 (fun _ _ _ => rfl) (lc_k hC) (lc_tried hC) ?_
      refine g_callVx h hq (i := 60) rfl mv_X1_155 cls0 (lk_bx hC hi) (hho) rfl rfl ⟨rfl, rfl, Nat.le_of_ble_eq_true rfl, Nat.le_of_ble_eq_true rfl⟩ (Nat.le_of_ble_eq_true rfl) ⟨Nat.zero_le _, Nat.zero_le _⟩ ?_
      refine g_if_eq h (i := 61) 128 rfl rfl (fun c_118 => ?_) (fun c_118 => ?_)
      · skip
        refine g_iinc h (i := 67) rfl rfl (dv := 1) (by rfl) ?_
        refine g_goto h (i := 68) 98 rfl rfl ?_
        exact g_lv [(0, .ref c), (1, .ref m), (4, .int (nI (i + 1)))] ⟨rfl, rfl, congrArg (fun z => some (Value.int z)) (nI_1 i), trivial⟩ (ih (i + 1) (by omega) (bar_s hba (bI_0.mp c_118)))
      · skip
        refine g_aload_n h (i := 62) rfl rfl ?_
        refine g_aload_n h (i := 63) rfl rfl ?_
        refine g_iconst h (i := 64) rfl (v := 2) (by rfl) ?_
        refine g_callVx h hq (i := 65) rfl mv_X1_99 cls1 (lc_k hC) (ct_X1_err l E w5 c m 2 hlo hC hM hcm) rfl rfl ⟨rfl, rfl, Nat.le_of_ble_eq_true rfl, Nat.le_of_ble_eq_true rfl⟩ (Nat.le_of_ble_eq_true rfl) ⟨Nat.zero_le _, Nat.zero_le _⟩ ?_
        exact g_zret hq h (i := 66) rfl (rfl) (by
          rw [if_neg hng0]
          have q := bI_1.mp c_118
          have hb1 : barC cf (fun j => (nxR r j).toInt32) = true := hbar.trans (bar_t hi q.1 q.2)
          refine ⟨rfl, tf_err htf5, ?_⟩
          rw [hng hng0]
          unfold goesOnR
          rw [if_pos hb1]
          show RepV _ (wJ (errW w5 c m 2) (m + 2)) _
          rw [j_err]
          exact rv_err (rv_63 hV5) (show cfW w5 c 4 3 = cf 0 12 from hRC5.2.2.2.1))
  have k51 : ¬ gtB r → ∀ (d i : Nat), i + d = 4 → G X 0 0 51 (lf [(0, .ref c), (1, .ref m), (2, .long (lN g)), (4, .int (nI i))]) [] (triW w c r i) := by
    intro hng0 d
    induction d with
    | zero =>
      intro i hi
      have hi4 : i = 4 := by omega
      subst hi4
      have hC : LayC (triW w c r 4) c := hC
      have hM : LayM (triW w c r 4) m := hM
      refine g_iload h (i := 28) rfl rfl ?_
      refine g_iconst h (i := 29) rfl (v := 4) (by rfl) ?_
      refine g_icmp_ge h (i := 30) 80 rfl rfl (fun c_54 => ?_) (fun c_54 => absurd (by decide : (4 : Int32) ≤ nI 4) c_54)
      refine g_aload_n h (i := 42) rfl rfl ?_
      refine g_getR h (i := 43) rfl fl_X1_46 (fun _ _ _ => rfl) (lc_k hC) (lc_tried hC) ?_
      refine g_aload_n h (i := 44) rfl rfl ?_
      refine g_getR h (i := 45) rfl fl_X1_11 (fun _ _ _ => rfl) (lc_k hC) (lc_joints hC) ?_
      refine g_aload_n h (i := 46) rfl rfl ?_
      refine g_getR h (i := 47) rfl fl_X1_50 (fun _ _ _ => rfl) (lc_k hC) (lc_tst hC) ?_
      refine g_callVn h hq (i := 48) rfl mv_X1_151 cls8 (lk_tried hC) (hfo) rfl rfl ⟨rfl, rfl, Nat.le_of_ble_eq_true rfl, Nat.le_of_ble_eq_true rfl⟩ (Nat.le_of_ble_eq_true rfl) ⟨Nat.zero_le _, Nat.zero_le _⟩ ?_
      refine g_iconst h (i := 49) rfl (v := 0) (by rfl) ?_
      refine g_istore h (i := 50) rfl hq rfl ?_
      exact g_lv [(0, .ref c), (1, .ref m), (4, .int (nI 0))] ⟨rfl, rfl, rfl, trivial⟩ (k98 hng0 4 0 (by omega) rfl)
    | succ d ih =>
      intro i hid
      have hi : i < 4 := by omega
      have hC : LayC (triW w c r i) c := hC
      have hM : LayM (triW w c r i) m := hM
      have hnge : ¬ (4 : Int32) ≤ nI i := nI_ge (b := 4) hi (by omega)
      have hcl : (nI i).toNatClampNeg = i := nI_clamp (by omega)
      have hvp : vp_in (nI i) 4 := vp_in_nI hi (by omega)
      obtain ⟨j1, j2⟩ := oj i hi
      obtain ⟨f1, f2⟩ := mft i hi
      have s1 := l_sm f1
      have s2 := l_sm f2
      have ed : ((r (55 + i)).toInt32 - (r (51 + i)).toInt32).toInt = (r (55 + i)).toInt - (r (51 + i)).toInt := by rw [i_sub (by rw [s1.2, s2.2]; omega) (by rw [s1.2, s2.2]; omega), s1.2, s2.2]
      have hsa := ct_X4_stateAt l E (triW w c r i) (m + 7) (m + 7 + 1) (m + 7 + 2) i g (pN (r 62)) (r (51 + i)).toInt32 ((r (55 + i)).toInt32 - (r (51 + i)).toInt32) hlo (lk_T (lm_T hM)) (lt_from (lm_T hM)) (lt_by (lm_T hM)) (lu_from (lm_T hM)) (lu_by (lm_T hM)) ((congrFun (tri_i (by omega)) 3).trans e62) hi ((congrFun (tri_i (by omega)) i).trans j1) ((congrFun (tri_i (by omega)) i).trans j2) (by rw [s1.2]; exact f1) (by rw [ed]; omega) hgl (by omega)
      rw [ed, s1.2, ← hsb i, st_of hMor hi] at hsa
      refine g_iload h (i := 28) rfl rfl ?_
      refine g_iconst h (i := 29) rfl (v := 4) (by rfl) ?_
      refine g_icmp_ge h (i := 30) 80 rfl rfl (fun c_54 => absurd c_54 hnge) (fun c_54 => ?_)
      refine g_aload_n h (i := 31) rfl rfl ?_
      refine g_getR h (i := 32) rfl fl_X1_50 (fun _ _ _ => rfl) (lc_k hC) (lc_tst hC) ?_
      refine g_iload h (i := 33) rfl rfl ?_
      refine g_aload_n h (i := 34) rfl rfl ?_
      refine g_getR h (i := 35) rfl fl_X1_134 (fun _ _ _ => rfl) (lk_M hM) (lm_6 hM) ?_
      refine g_iload h (i := 36) rfl rfl ?_
      refine g_lload_n h (i := 37) rfl rfl ?_
      refine g_callVx h hq (i := 38) rfl mv_X1_147 cls4 (lk_T (lm_T hM)) (hsa) rfl rfl ⟨rfl, rfl, Nat.le_of_ble_eq_true rfl, Nat.le_of_ble_eq_true rfl⟩ (Nat.le_of_ble_eq_true rfl) ⟨Nat.zero_le _, Nat.zero_le _⟩ ?_
      refine g_iast h (i := 39) rfl (lk_tst hC) (hvp) ?_
      refine g_w (triW w c r (i + 1)) (by rw [hcl]; exact tri_1 rfl) ?_
      refine g_iinc h (i := 40) rfl rfl (dv := 1) (by rfl) ?_
      refine g_goto h (i := 41) 51 rfl rfl ?_
      exact g_lv [(0, .ref c), (1, .ref m), (2, .long (lN g)), (4, .int (nI (i + 1)))] ⟨rfl, rfl, rfl, congrArg (fun z => some (Value.int z)) (nI_1 i), trivial⟩ (ih (i + 1) (by omega))
  have k26 : ¬ gtB r → G X 0 0 26 (lf [(0, .ref c), (1, .ref m)]) [] w := by
    intro hng0
    refine g_aload_n h (i := 14) rfl rfl ?_
    refine g_getR h (i := 15) rfl fl_X1_134 (fun _ _ _ => rfl) (lk_M hM) (lm_6 hM) ?_
    refine g_aload_n h (i := 16) rfl rfl ?_
    refine g_getR h (i := 17) rfl fl_X1_134 (fun _ _ _ => rfl) (lk_M hM) (lm_6 hM) ?_
    refine g_getI h (i := 18) rfl fl_X1_138 (fun _ _ _ => rfl) (lk_T (lm_T hM)) ?_
    refine g_eqi (nI (pN (r 59))) e59 ?_
    refine g_aload_n h (i := 19) rfl rfl ?_
    refine g_getI h (i := 20) rfl fl_X1_116 (fun _ _ _ => rfl) (lk_M hM) ?_
    refine g_eqi (nI (pN (r 47))) e47 ?_
    refine g_isub h (i := 21) rfl ?_
    refine g_eqi (nI (pN (r 63))) (by rw [pk_sub (by omega)]; exact congrArg nI (by omega)) ?_
    refine g_iconst h (i := 22) rfl (v := 1) (by rfl) ?_
    refine g_iadd h (i := 23) rfl ?_
    refine g_eqi (nI (pN (r 63) + 1)) (nI_1 _) ?_
    refine g_callVx h hq (i := 24) rfl mv_X1_143 cls4 (lk_T (lm_T hM)) (hgb) rfl rfl ⟨rfl, rfl, Nat.le_of_ble_eq_true rfl, Nat.le_of_ble_eq_true rfl⟩ (Nat.le_of_ble_eq_true rfl) ⟨Nat.zero_le _, Nat.zero_le _⟩ ?_
    refine g_lstore_n h (i := 25) rfl hq rfl ?_
    refine g_iconst h (i := 26) rfl (v := 0) (by rfl) ?_
    refine g_istore h (i := 27) rfl hq rfl ?_
    exact g_lv [(0, .ref c), (1, .ref m), (2, .long (lN g)), (4, .int (nI 0))] ⟨rfl, rfl, rfl, rfl, trivial⟩ (by have := k51 hng0 4 0 (by omega); rw [tri_0] at this; exact this)
  refine g_aload_n h (i := 0) rfl rfl ?_
  refine g_getI h (i := 1) rfl fl_X1_128 (fun _ _ _ => rfl) (lk_M hM) ?_
  refine g_eqi (r 50).toInt32 i50 ?_
  refine g_iconst h (i := 2) rfl (v := -1) (by rfl) ?_
  refine g_icmp_eq h (i := 3) 26 rfl rfl (fun c_5 => ?_) (fun c_5 => ?_)
  · skip
    exact g_lv [(0, .ref c), (1, .ref m)] ⟨rfl, rfl, trivial⟩ (k26 (fun q => q.2.1 c_5))
  · skip
    obtain ⟨x8, hx8, hxe⟩ := on_hi (r := r) (k := 50) (hr.1 50) c_5
    refine g_aload_n h (i := 4) rfl rfl ?_
    refine g_getR h (i := 5) rfl fl_X1_77 (fun _ _ _ => rfl) (lk_M hM) (lm_inputs hM) ?_
    refine g_aload_n h (i := 6) rfl rfl ?_
    refine g_getI h (i := 7) rfl fl_X1_128 (fun _ _ _ => rfl) (lk_M hM) ?_
    refine g_eqi (nI x8) (i50.trans hxe) ?_
    refine g_zald h (i := 8) rfl (ln_inputs hM) (vp_in_nI hx8 (by omega)) ?_
    refine g_eqi (r (4 + x8)).toInt32 (by rw [nI_clamp (by omega)]; exact hV.2.2.2.2.2.2.2.2.2.2.2.2.2.1 x8 hx8) ?_
    refine g_if_eq h (i := 9) 26 rfl rfl (fun c_17 => ?_) (fun c_17 => ?_)
    · skip
      exact g_lv [(0, .ref c), (1, .ref m)] ⟨rfl, rfl, trivial⟩ (k26 (fun q => by have q2 := q.2.2; rw [hxe, pI_n (by omega)] at q2; rw [q2] at c_17; exact absurd c_17 (by decide)))
    · skip
      refine g_aload_n h (i := 10) rfl rfl ?_
      refine g_callVn h hq (i := 11) rfl mv_X1_131 cls3 (lk_M hM) (ct_X3_passLine l E w m hlo hM) rfl rfl ⟨rfl, rfl, Nat.le_of_ble_eq_true rfl, Nat.le_of_ble_eq_true rfl⟩ (Nat.le_of_ble_eq_true rfl) ⟨Nat.zero_le _, Nat.zero_le _⟩ ?_
      refine g_iconst h (i := 12) rfl (v := 0) (by rfl) ?_
      exact g_zret hq h (i := 13) rfl (rfl) (by
        have f := (fr_io (k := 4 + x8) (by omega) (by omega)).mp (hr.1 (4 + x8))
        have h1 : r (4 + x8) = 1 := by
          have f2 := f.2
          have ne : pN (r (4 + x8)) ≠ 0 := fun q => c_17 (by rw [f.1, q]; rfl)
          have e1 : pN (r (4 + x8)) = 1 := by omega
          rw [f.1, e1]; rfl
        have hgt : gtB r := ⟨hb, c_5, by rw [hxe, pI_n (by omega)]; exact h1⟩
        rw [if_pos hgt]
        refine ⟨rfl, tf_pass tf_0, ?_⟩
        unfold goesTickR
        rw [if_pos hgt]
        exact rv_pass hV)
