/-- whether what is under way, if anything, spends the tick, and what it leaves -/
abbrev coO (r : Nat → Int64) : Prop := r 46 ≠ 0 ∧ ¬ gtB r
def coR (cf : Nat → Nat → Int32) (r : Nat → Int64) : Nat → Int64 := if r 46 = 0 then r else goesTickR cf r
theorem rm_spend {w : Wd} {m : Nat} {r : Nat → Int64} (h : RepM w m r) (hr : RR r) (hb : r 46 ≠ 0) (hb1 : r 46 ≠ 1) : ¬ gtB r ∧ ∀ cf, RepM (spendW w m) m (goesTickR cf r) := by
  have hng : ¬ gtB r := fun q => hb1 q.1
  refine ⟨hng, fun cf => ?_⟩
  have q := rv_spend h (show isN (r 47) 2000000 from hr.1 47) (hr.2.2.1 hb).1
  show RepV _ (wJ (spendW w m) (m + 2)) _
  rw [j_spend]
  unfold goesTickR
  rw [if_neg hng, if_neg hb1]
  exact q
-- what is under way goes on
set_option maxRecDepth 100000 in
set_option maxHeartbeats 4000000 in
theorem ct_X1_carryOn (l : Launch) (E : EE) (w : Wd) (c m : Nat) (cf : Nat → Nat → Int32) (r : Nat → Int64) (hlo : E.2.2 ≤ wN w) (hC : LayC w c) (hM : LayM w m) (hcm : c + 54 ≤ m) (hV : RepM w m r) (hRC : RepC (cfW w c) cf) (hr : RR r) (hc : CfR cf) : Ct l E yX1_carryOn cX1_carryOn 2 (some .boolean) ({ frames := 4, cells := 0, slots := 0, locals := 87 } : Room) [.ref c, .ref m] w 0 0 (fun q w2 => q = some (.int (bI (coO r))) ∧ TF c m w w2 ∧ RepM w2 m (coR cf r)) := by
  refine ct_in (il := il_X1_carryOn) (by decide) dk_X1_carryOn (Nat.le_of_ble_eq_true rfl) hlo ?_
  intro X h hq

  have f47 : isN (r 47) 2000000 := hr.1 47
  have l47 := f47.2
  have e13 : wI w m 13 = nI (pN (r 47)) := (hV.2.2.2.2.2.2.1).trans (i32eta f47 (by omega))
  have hz : 0 < nI (pN (r 47)) ↔ r 46 ≠ 0 := by
    rw [i32lt, nIT (by omega)]
    have e0 : (0 : Int32).toInt = 0 := rfl
    constructor
    · intro q t
      have := (isN_0 f47).mp (hr.2.1 t)
      omega
    · intro q
      have := (hr.2.2.1 q).1
      omega
  refine g_aload_n h (i := 0) rfl rfl ?_
  refine g_getI h (i := 1) rfl fl_X1_116 (fun _ _ _ => rfl) (lk_M hM) ?_
  refine g_eqi (nI (pN (r 47))) e13 ?_
  refine g_if_gt h (i := 2) 9 rfl rfl (fun c_4 => ?_) (fun c_4 => ?_)
  · skip
    refine g_aload_n h (i := 5) rfl rfl ?_
    refine g_getI h (i := 6) rfl fl_X1_119 (fun _ _ _ => rfl) (lk_M hM) ?_
    refine g_eqi (bI (r 46 = 1)) hV.2.2.2.2.2.2.2.1 ?_
    refine g_if_eq h (i := 7) 22 rfl rfl (fun c_13 => ?_) (fun c_13 => ?_)
    · skip
      refine g_aload_n h (i := 12) rfl rfl ?_
      refine g_callVn h hq (i := 13) rfl mv_X1_125 cls3 (lk_M hM) (ct_X3_spendTick l E w m hlo hM) rfl rfl ⟨rfl, rfl, Nat.le_of_ble_eq_true rfl, Nat.le_of_ble_eq_true rfl⟩ (Nat.le_of_ble_eq_true rfl) ⟨Nat.zero_le _, Nat.zero_le _⟩ ?_
      refine g_iconst h (i := 14) rfl (v := 1) (by rfl) ?_
      exact g_zret hq h (i := 15) rfl (rfl) (by
        have nz := hz.mp c_4
        have q := rm_spend hV hr nz (bI_0.mp c_13)
        exact ⟨by rw [bI_t ⟨nz, q.1⟩], tf_spend tf_0, by unfold coR; rw [if_neg nz]; exact q.2 cf⟩)
    · skip
      refine g_aload_n h (i := 8) rfl rfl ?_
      refine g_aload_n h (i := 9) rfl rfl ?_
      refine g_callVp (w0 := w) h hq (i := 10) rfl mv_X1_122 cls1 (lc_k hC) (ct_X1_carryOnGo l E w c m cf r hlo hC hM hcm hV hRC hr (bI_1.mp c_13) hc) rfl rfl ⟨rfl, rfl, Nat.le_of_ble_eq_true rfl, Nat.le_of_ble_eq_true rfl⟩ (Nat.le_of_ble_eq_true rfl) ⟨Nat.zero_le _, Nat.zero_le _⟩ (fun r18 w18 hp18 => ?_)
      obtain ⟨rfl, hTF, hV2⟩ := hp18
      exact g_zret hq h (i := 11) rfl (by split <;> rfl) (by
        have nz := hz.mp c_4
        refine ⟨?_, hTF, by unfold coR; rw [if_neg nz]; exact hV2⟩
        by_cases g : gtB r
        · rw [if_pos g, bI_f (fun t => t.2 g)]
        · rw [if_neg g, bI_t ⟨nz, g⟩])
  · skip
    refine g_iconst h (i := 3) rfl (v := 0) (by rfl) ?_
    exact g_zret hq h (i := 4) rfl (rfl) (by
      have z : r 46 = 0 := Decidable.not_not.mp (fun t => c_4 (hz.mpr t))
      exact ⟨by rw [bI_f (fun t => t.1 z)], tf_0, by unfold coR; rw [if_pos z]; exact hV⟩)
theorem rv_beg {N M1 : Nat → Nat → Int32} {T r : Nat → Int64} {q : Nat × Nat × Nat × Nat} {go : Nat → Int32} (h : RepV N T (begins0 r)) (h17 : N 0 17 = (begins0 r 50).toInt32) (h0 : ∀ f, f < 7 → M1 f = N f) (m2 : M1 7 2 = nI q.1) (m3 : M1 7 3 = nI q.2.2.2) (m4 : M1 7 4 = nI q.2.2.1) (m5 : M1 7 5 = nI q.2.1) (mf : ∀ j, j < 4 → M1 8 j = (r j).toInt32 ∧ M1 9 j = go j - (r j).toInt32) (b1 : q.1 ≤ 2000000) (b2 : q.2.1 ≤ 100000) (b3 : q.2.2.1 ≤ 100000) (b4 : q.2.2.2 ≤ 2000000) : RepV (up2 (up2 M1 0 14 1) 0 13 (nI q.1)) T (begins1 q go r) := by
  have s51 : ∀ j, j < 4 → begins1 q go r (51 + j) = r j := fun j hj => by unfold begins1; (repeat first | rw [up1_k (by omega)] | rw [setn_o (by omega)]); exact setn_i rfl hj
  have s55 : ∀ j, j < 4 → begins1 q go r (55 + j) = (go j).toInt64 := fun j hj => by unfold begins1; (repeat rw [up1_k (by omega)]); exact setn_i rfl hj
  unfold begins1 at s51 s55 ⊢
  exact ⟨(congrFun (h0 0 (by omega)) 7).trans (h.1), (congrFun (h0 0 (by omega)) 8).trans (h.2.1), (congrFun (h0 0 (by omega)) 9).trans (h.2.2.1), (congrFun (h0 0 (by omega)) 10).trans (h.2.2.2.1), (congrFun (h0 0 (by omega)) 11).trans (h.2.2.2.2.1), (congrFun (h0 0 (by omega)) 12).trans (h.2.2.2.2.2.1), (lN_32 (by omega)).symm, rfl, (congrFun (h0 0 (by omega)) 15).trans (h.2.2.2.2.2.2.2.2.1), (congrFun (h0 0 (by omega)) 16).trans (h.2.2.2.2.2.2.2.2.2.1), fun _ => (congrFun (h0 0 (by omega)) 17).trans h17, fun j hj => (congrFun (h0 1 (by omega)) j).trans ((h.2.2.2.2.2.2.2.2.2.2.2.1 j hj).trans (congrArg Int64.toInt32 (Eq.symm (by (repeat first | rw [up1_k (by omega)] | rw [setn_o (by omega)]))))), fun j hj => (h.2.2.2.2.2.2.2.2.2.2.2.2.1 j hj).trans (Eq.symm (by (repeat first | rw [up1_k (by omega)] | rw [setn_o (by omega)]))), fun j hj => (congrFun (h0 3 (by omega)) j).trans ((h.2.2.2.2.2.2.2.2.2.2.2.2.2.1 j hj).trans (congrArg Int64.toInt32 (Eq.symm (by (repeat first | rw [up1_k (by omega)] | rw [setn_o (by omega)]))))), fun j hj => (congrFun (h0 4 (by omega)) j).trans ((h.2.2.2.2.2.2.2.2.2.2.2.2.2.2.1 j hj).trans (congrArg Int64.toInt32 (Eq.symm (by (repeat first | rw [up1_k (by omega)] | rw [setn_o (by omega)]))))), fun j hj => (congrFun (h0 5 (by omega)) j).trans ((h.2.2.2.2.2.2.2.2.2.2.2.2.2.2.2.1 j hj).trans (congrArg Int64.toInt32 (Eq.symm (by (repeat first | rw [up1_k (by omega)] | rw [setn_o (by omega)]))))), fun j hj hj2 => (congrFun (h0 6 (by omega)) j).trans ((h.2.2.2.2.2.2.2.2.2.2.2.2.2.2.2.2.1 j hj hj2).trans (congrArg Int64.toInt32 (Eq.symm (by (repeat first | rw [up1_k (by omega)] | rw [setn_o (by omega)]))))), fun _ => ⟨m2.trans (lN_32 (by omega)).symm, m3.trans (lN_32 (by omega)).symm, m4.trans (lN_32 (by omega)).symm, m5.trans (lN_32 (by omega)).symm, fun j hj => ⟨(mf j hj).1.trans (congrArg Int64.toInt32 (Eq.symm (by (repeat first | rw [up1_k (by omega)] | rw [setn_o (by omega)]); exact setn_i rfl hj))), (mf j hj).2.trans (by rw [s51 j hj, s55 j hj, Int32.toInt32_toInt64])⟩⟩⟩
theorem rv_beg0 {w : Wd} {m : Nat} {T r : Nat → Int64} (h : RepV (cfW w m) T r) : RepV (cfW (sI (sI w m 17 (wI w m 16)) m 16 (-1)) m) T (begins0 r) := by
  rw [cf_0, cf_0]
  unfold begins0
  exact ⟨h.1, h.2.1, h.2.2.1, h.2.2.2.1, h.2.2.2.2.1, h.2.2.2.2.2.1, h.2.2.2.2.2.2.1, h.2.2.2.2.2.2.2.1, h.2.2.2.2.2.2.2.2.1, rfl, fun _ => h.2.2.2.2.2.2.2.2.2.1, fun j hj => (h.2.2.2.2.2.2.2.2.2.2.2.1 j hj).trans (congrArg Int64.toInt32 (Eq.symm (by first | rfl | ((try unfold overR); (repeat first | rw [up1_k (by omega)] | rw [setn_o (by omega)]))))), fun j hj => (h.2.2.2.2.2.2.2.2.2.2.2.2.1 j hj).trans (Eq.symm (by first | rfl | ((try unfold overR); (repeat first | rw [up1_k (by omega)] | rw [setn_o (by omega)])))), fun j hj => (h.2.2.2.2.2.2.2.2.2.2.2.2.2.1 j hj).trans (congrArg Int64.toInt32 (Eq.symm (by first | rfl | ((try unfold overR); (repeat first | rw [up1_k (by omega)] | rw [setn_o (by omega)]))))), fun j hj => (h.2.2.2.2.2.2.2.2.2.2.2.2.2.2.1 j hj).trans (congrArg Int64.toInt32 (Eq.symm (by first | rfl | ((try unfold overR); (repeat first | rw [up1_k (by omega)] | rw [setn_o (by omega)]))))), fun j hj => (h.2.2.2.2.2.2.2.2.2.2.2.2.2.2.2.1 j hj).trans (congrArg Int64.toInt32 (Eq.symm (by first | rfl | ((try unfold overR); (repeat first | rw [up1_k (by omega)] | rw [setn_o (by omega)]))))), fun j hj hj2 => (h.2.2.2.2.2.2.2.2.2.2.2.2.2.2.2.2.1 j hj hj2).trans (congrArg Int64.toInt32 (Eq.symm (by first | rfl | ((try unfold overR); (repeat first | rw [up1_k (by omega)] | rw [setn_o (by omega)]))))), fun q => mv_c (h.2.2.2.2.2.2.2.2.2.2.2.2.2.2.2.2.2 q) (fun f k hf => (by first | rfl | (repeat first | rw [up2_f2 (by omega)] | rw [ua_a (by omega)]))) (fun y h1 h2 => (by first | rfl | ((try unfold overR); (repeat first | rw [up1_k (by omega)] | rw [setn_o (by omega)]))))⟩
theorem pl_c {rs pv wd wd' : Nat → Nat} {w0 : Nat} : ∀ n, (∀ j, j < n → wd j = wd' j) → plS rs pv wd w0 n = plS rs pv wd' w0 n
  | 0, _ => rfl
  | n + 1, h => by
    have ih := pl_c (rs := rs) (pv := pv) (w0 := w0) n (fun j hj => h j (by omega))
    have e := h n (by omega)
    show (if (plS rs pv wd w0 n).1 < lsN (rs n) (pv n) (wd n) then (lsN (rs n) (pv n) (wd n), rs n, pv n, wd n) else plS rs pv wd w0 n) = (if (plS rs pv wd' w0 n).1 < lsN (rs n) (pv n) (wd' n) then (lsN (rs n) (pv n) (wd' n), rs n, pv n, wd' n) else plS rs pv wd' w0 n)
    rw [ih, e]
/-- what a go's beginning answers and leaves -/
def bgB (cf : Nat → Nat → Int32) (k sh : Nat) (r : Nat → Int64) : Prop := wiP cf k ∧ ¬ (plR cf k sh r).1 = 0
def bgP (cf : Nat → Nat → Int32) (c m k sh : Nat) (r : Nat → Int64) (w : Wd) : Option Value → Wd → Prop := fun q w2 => TF c m w w2 ∧ ((¬ wiP cf k ∧ q = some (.int 1) ∧ RepM w2 m (beginsR cf k sh r)) ∨ (wiP cf k ∧ (plR cf k sh r).1 = 0 ∧ q = some (.int 0) ∧ RepM w2 m (overR (begins0 r))) ∨ (wiP cf k ∧ ¬ (plR cf k sh r).1 = 0 ∧ q = some (.int 0) ∧ RepM w2 m (beginsR cf k sh r)))
-- a go begins
set_option maxRecDepth 100000 in
set_option maxHeartbeats 4000000 in
theorem ct_X1_beginGo (l : Launch) (E : EE) (w : Wd) (c m k sh : Nat) (cf : Nat → Nat → Int32) (r : Nat → Int64) (hlo : E.2.2 ≤ wN w) (hC : LayC w c) (hM : LayM w m) (hcm : c + 54 ≤ m) (hV : RepM w m r) (hRC : RepC (cfW w c) cf) (hr : FA r) (h46 : r 46 = 0) (h47 : r 47 = 0) (h28 : r 28 = 1) (h30 : pN (r 30) ≤ 59) (hc : CfR cf) (hk : k < 16) (hsh : sh ≤ 100) : Ct l E yX1_beginGo cX1_beginGo 4 (some .boolean) ({ frames := 3, cells := 0, slots := 0, locals := 78 } : Room) [.ref c, .ref m, .ref (c + 22 + 2 * k), .int (nI sh)] w 0 0 (bgP cf c m k sh r w) := by
  refine ct_in (il := il_X1_beginGo) (by decide) dk_X1_beginGo (Nat.le_of_ble_eq_true rfl) hlo ?_
  intro X h hq

  obtain ⟨w1, hw1⟩ : ∃ w1, w1 = sI (sI w m 17 (wI w m 16)) m 16 (-1) := ⟨_, rfl⟩
  have htf1 : TF c m w w1 := by rw [hw1]; exact tf_I (tf_I tf_0 (by omega)) (by omega)
  have hV1 : RepM w1 m (begins0 r) := by rw [hw1]; exact rv_beg0 hV
  have hJ1 : wJ w1 = wJ w := by rw [hw1]; rfl
  have h17 : cfW w1 m 0 17 = (begins0 r 50).toInt32 := by
    rw [hw1]
    exact (up2_k (by decide)).trans ((up2_s _ _ _ _).trans (hV.2.2.2.2.2.2.2.2.2.1))
  have hC1 : LayC w1 c := (tf_L htf1).1 c hC
  have hM1 : LayM w1 m := (tf_L htf1).2.1 m hM
  have hlo1 : E.2.2 ≤ wN w1 := by rw [(tf_L htf1).2.2]; exact hlo
  have hRC1 : RepC (cfW w1 c) cf := tf_C htf1 hcm hRC
  obtain ⟨p0, pj⟩ := hRC1.2.2.1 k hk
  have hal := ct_X1_allows l E w1 c (c + 23 + 2 * k) cf (fun j => cf 12 (4 * k + j)) hlo1 hC1 hRC1 (lk_ps hC1 hk) (fun j hj => by rw [show c + 23 + 2 * k = c + (23 + 2 * k) by omega]; exact pj j hj)
  have hta : wI w1 (c + 22 + 2 * k) 0 = cf 11 k := by rw [show c + 22 + 2 * k = c + (22 + 2 * k) by omega]; exact p0
  have hfa0 := fa_b0 hr
  have hov : ∀ (b0 : Nat → Int64), b0 = begins0 r → b0 46 = 0 ∧ b0 47 = 0 ∧ b0 28 = 1 := fun b0 e => by
    rw [e]; unfold begins0
    exact ⟨h46, h47, h28⟩
  obtain ⟨q, hqe⟩ : ∃ q, q = plR cf k sh r := ⟨_, rfl⟩
  have hpo := plR_ok hc hr hk hsh
  rw [← hqe] at hpo
  obtain ⟨o1, o2, o3, o4⟩ := hpo
  obtain ⟨q', hq'⟩ : ∃ q', q' = plS (fun j => pI (cf 8 j)) (pvN (fun j => pI (cf 7 j)) sh) (wdN (fun j => (r j).toInt32) (fun j => cf 12 (4 * k + j))) 0 4 := ⟨_, rfl⟩
  have hqq := pl_1 (fun j => pI (cf 8 j)) (pvN (fun j => pI (cf 7 j)) sh) (wdN (fun j => (r j).toInt32) (fun j => cf 12 (4 * k + j))) 0 1 4
  rw [← hq', show plS (fun j => pI (cf 8 j)) (pvN (fun j => pI (cf 7 j)) sh) (wdN (fun j => (r j).toInt32) (fun j => cf 12 (4 * k + j))) 1 4 = q from hqe.symm] at hqq
  have hst : ∀ j, j < 4 → ((r j).toInt32).toInt.natAbs ≤ 1000000 := fun j hj => by rw [(l_sm ((fr_st hj).mp (hr j))).2]; exact (fr_st hj).mp (hr j)
  have b00 : ∀ j, j < 4 → begins0 r j = r j := fun j hj => by unfold begins0; rw [up1_k (by omega), up1_k (by omega)]
  have hai := ct_X4_aim l E w1 (m + 7) (c + 1) (m + 1) (c + 23 + 2 * k) sh (fun j => c + 14 + j) (fun j => pI (cf 7 j)) (fun j => pI (cf 8 j)) (fun j => (r j).toInt32) (fun j => cf 12 (4 * k + j)) hlo1 (lm_T hM1) (lk_joints hC1) (ln_states hM1) (lk_ps hC1 hk) (by omega) (by omega) (fun j hj => ⟨lc_jo hC1 hj, lk_jo hC1 hj, by omega, by omega, by omega⟩) (fun j hj => ⟨(by rw [Nat.add_assoc]; exact (hRC1.1 j hj).2.2.2.2.1.trans (hc.2.1 j hj).1.1), (hc.2.1 j hj).2, (hc.2.1 j hj).1.2⟩) (fun j hj => ⟨(by rw [Nat.add_assoc]; exact (hRC1.1 j hj).2.2.2.2.2.trans (hc.2.2.1 j hj).1.1), (hc.2.2.1 j hj).2, (hc.2.2.1 j hj).1.2⟩) (fun j hj => ⟨(hV1.2.2.2.2.2.2.2.2.2.2.2.1 j hj).trans (congrArg Int64.toInt32 (b00 j hj)), hst j hj⟩) (fun j hj => ⟨(by rw [show c + 23 + 2 * k = c + (23 + 2 * k) by omega]; exact pj j hj), hc.2.2.2.1 _ (by omega)⟩) hsh
  rw [← hq'] at hai
  have k58 : wiP cf k → ∀ I, AimI w1 (m + 7) (fun j => (r j).toInt32) (fun j => cf 12 (4 * k + j)) q' 4 I → G X 0 0 58 (lf [(0, .ref c), (1, .ref m)]) [] (dW w1 I (wJ w1) (wD w1)) := by
    intro hwi I hI
    obtain ⟨a1, a2, a3, a4, a5, a6⟩ := hI
    have hC : LayC (dW w1 I (wJ w1) (wD w1)) c := hC1
    have hM : LayM (dW w1 I (wJ w1) (wD w1)) m := hM1
    have hlo2 : E.2.2 ≤ wN (dW w1 I (wJ w1) (wD w1)) := hlo1
    have htf2 : TF c m w (dW w1 I (wJ w1) (wD w1)) := tf_d htf1 (fun p h1 h2 => a1 p (by omega) (by omega) (by omega)) (fun _ _ => rfl) (fun _ _ => rfl)
    have hM0 : ∀ f, f < 7 → cfW (dW w1 I (wJ w1) (wD w1)) m f = cfW w1 m f := fun f hf => a1 (m + f) (by omega) (by omega) (by omega)
    have hV2 : (plR cf k sh r).1 = 0 → RepM (dW w1 I (wJ w1) (wD w1)) m (begins0 r) := fun _ => ⟨(congrFun (hM0 0 (by omega)) 7).trans (hV1.1), (congrFun (hM0 0 (by omega)) 8).trans (hV1.2.1), (congrFun (hM0 0 (by omega)) 9).trans (hV1.2.2.1), (congrFun (hM0 0 (by omega)) 10).trans (hV1.2.2.2.1), (congrFun (hM0 0 (by omega)) 11).trans (hV1.2.2.2.2.1), (congrFun (hM0 0 (by omega)) 12).trans (hV1.2.2.2.2.2.1), (congrFun (hM0 0 (by omega)) 13).trans (hV1.2.2.2.2.2.2.1), (congrFun (hM0 0 (by omega)) 14).trans (hV1.2.2.2.2.2.2.2.1), (congrFun (hM0 0 (by omega)) 15).trans (hV1.2.2.2.2.2.2.2.2.1), (congrFun (hM0 0 (by omega)) 16).trans (hV1.2.2.2.2.2.2.2.2.2.1), fun t => absurd ((hov _ rfl).1.symm.trans t) (by decide), fun j hj => (congrFun (hM0 1 (by omega)) j).trans (hV1.2.2.2.2.2.2.2.2.2.2.2.1 j hj), hV1.2.2.2.2.2.2.2.2.2.2.2.2.1, fun j hj => (congrFun (hM0 3 (by omega)) j).trans (hV1.2.2.2.2.2.2.2.2.2.2.2.2.2.1 j hj), fun j hj => (congrFun (hM0 4 (by omega)) j).trans (hV1.2.2.2.2.2.2.2.2.2.2.2.2.2.2.1 j hj), fun j hj => (congrFun (hM0 5 (by omega)) j).trans (hV1.2.2.2.2.2.2.2.2.2.2.2.2.2.2.2.1 j hj), fun j hj hj2 => (congrFun (hM0 6 (by omega)) j).trans (hV1.2.2.2.2.2.2.2.2.2.2.2.2.2.2.2.2.1 j hj hj2), fun t => absurd ((hov _ rfl).1.symm.trans t) (by decide)⟩
    have ez : q'.1 = 0 ↔ (plR cf k sh r).1 = 0 := by rw [← hqe, hqq.1]
    have hbe : ¬ (plR cf k sh r).1 = 0 → beginsR cf k sh r = begins1 q (fun j => cf 12 (4 * k + j)) r := fun z => by unfold beginsR; rw [if_pos hwi, if_neg z, ← hqe]
    have hV3 : ¬ (plR cf k sh r).1 = 0 → RepM (sI (sI (dW w1 I (wJ w1) (wD w1)) m 14 1) m 13 (nI q'.1)) m (beginsR cf k sh r) := fun z => by
      have zq : q' = q := hqq.2 (by have : ¬ q'.1 = 0 := fun t => z (ez.mp t); omega)
      rw [hbe z, zq]
      show RepV (cfW (sI (sI (dW w1 I (wJ w1) (wD w1)) m 14 1) m 13 (nI q.1)) m) (wJ w1 (m + 2)) _
      rw [cf_0, cf_0]
      rw [zq] at a3 a4 a5 a6
      exact rv_beg hV1 h17 hM0 a3 a4 a5 a6 (fun j hj => a2 j hj) o1 o2.2.1 o2.2.2.2 o3
    refine g_aload_n h (i := 30) rfl rfl ?_
    refine g_getR h (i := 31) rfl fl_X1_134 (fun _ _ _ => rfl) (lk_M hM) (lm_6 hM) ?_
    refine g_getI h (i := 32) rfl fl_X1_138 (fun _ _ _ => rfl) (lk_T (lm_T hM)) ?_
    refine g_eqi (nI q'.1) a3 ?_
    refine g_if_ne h (i := 33) 74 rfl rfl (fun c_65 => ?_) (fun c_65 => ?_)
    · skip
      refine g_aload_n h (i := 38) rfl rfl ?_
      refine g_iconst h (i := 39) rfl (v := 1) (by rfl) ?_
      refine g_putI_0 h (i := 40) rfl fl_X1_119 nf_3_14 (fun _ _ _ => rfl) (lk_M hM) (rfl) (by rfl) ?_
      refine g_aload_n h (i := 41) rfl rfl ?_
      refine g_aload_n h (i := 42) rfl rfl ?_
      refine g_getR h (i := 43) rfl fl_X1_134 (fun _ _ _ => rfl) (lk_M hM) (lm_6 hM) ?_
      refine g_getI h (i := 44) rfl fl_X1_138 (fun _ _ _ => rfl) (lk_T (lm_T hM)) ?_
      refine g_eqi (nI q'.1) ((congrFun (up2_f (show m + 7 ≠ m by omega)) 2).trans a3) ?_
      refine g_putI_0 h (i := 45) rfl fl_X1_116 nf_3_13 (fun _ _ _ => rfl) (lk_M hM) (rfl) (by rfl) ?_
      refine g_iconst h (i := 46) rfl (v := 0) (by rfl) ?_
      exact g_zret hq h (i := 47) rfl (rfl) (by
        have ezf : ¬ (plR cf k sh r).1 = 0 := fun t => c_65 (by rw [ez.mpr t]; rfl)
        exact ⟨tf_I (tf_I htf2 (by omega)) (by omega), Or.inr (Or.inr ⟨hwi, ezf, rfl, hV3 ezf⟩)⟩)
    · skip
      refine g_aload_n h (i := 34) rfl rfl ?_
      refine g_callVn h hq (i := 35) rfl mv_X1_131 cls3 (lk_M hM) (ct_X3_passLine l E _ m hlo2 hM) rfl rfl ⟨rfl, rfl, Nat.le_of_ble_eq_true rfl, Nat.le_of_ble_eq_true rfl⟩ (Nat.le_of_ble_eq_true rfl) ⟨Nat.zero_le _, Nat.zero_le _⟩ ?_
      refine g_iconst h (i := 36) rfl (v := 0) (by rfl) ?_
      exact g_zret hq h (i := 37) rfl (rfl) (by
        have z : (plR cf k sh r).1 = 0 := ez.mp (by
          have t := c_65
          have tt := (nIx (x := q'.1) (y := 0) (by have := hqq.1; omega) (by omega)).mp t
          exact tt)
        exact ⟨tf_pass htf2, Or.inr (Or.inl ⟨hwi, z, rfl, rv_pass (hV2 z)⟩)⟩)
  refine g_aload_n h (i := 0) rfl rfl ?_
  refine g_aload_n h (i := 1) rfl rfl ?_
  refine g_getI h (i := 2) rfl fl_X1_194 (fun _ _ _ => rfl) (lk_M hM) ?_
  refine g_putI_0 h (i := 3) rfl fl_X1_128 nf_3_17 (fun _ _ _ => rfl) (lk_M hM) (rfl) (by rfl) ?_
  refine g_aload_n h (i := 4) rfl rfl ?_
  refine g_iconst h (i := 5) rfl (v := -1) (by rfl) ?_
  refine g_putI_0 h (i := 6) rfl fl_X1_194 nf_3_16 (fun _ _ _ => rfl) (lk_M hM) (rfl) (by rfl) ?_
  refine g_w w1 (by rw [hw1]) ?_
  have hC := hC1
  have hM := hM1
  have hlo2 := hlo1
  refine g_aload_n h (i := 7) rfl rfl ?_
  refine g_getI h (i := 8) rfl fl_X1_61 (fun _ _ _ => rfl) (lk_po hC hk) ?_
  refine g_eqi (cf 11 k) hta ?_
  refine g_if_eq h (i := 9) 31 rfl rfl (fun c_17 => ?_) (fun c_17 => ?_)
  · skip
    refine g_aload_n h (i := 15) rfl rfl ?_
    refine g_aload_n h (i := 16) rfl rfl ?_
    refine g_iconst h (i := 17) rfl (v := 1) (by rfl) ?_
    refine g_callVx h hq (i := 18) rfl mv_X1_99 cls1 (lc_k hC) (ct_X1_err l E w1 c m 1 hlo2 hC hM hcm) rfl rfl ⟨rfl, rfl, Nat.le_of_ble_eq_true rfl, Nat.le_of_ble_eq_true rfl⟩ (Nat.le_of_ble_eq_true rfl) ⟨Nat.zero_le _, Nat.zero_le _⟩ ?_
    exact g_zret hq h (i := 19) rfl (rfl) (by
      have hn : ¬ wiP cf k := fun t => t.1 c_17
      refine ⟨tf_err htf1, Or.inl ⟨hn, rfl, ?_⟩⟩
      unfold beginsR
      rw [if_neg hn]
      show RepV _ (wJ (errW w1 c m 1) (m + 2)) _
      rw [j_err]
      exact rv_err hV1 (show cfW w1 c 4 3 = cf 0 12 from hRC1.2.2.2.1))
  · skip
    refine g_aload_n h (i := 10) rfl rfl ?_
    refine g_aload_n h (i := 11) rfl rfl ?_
    refine g_getR h (i := 12) rfl fl_X1_200 (fun _ _ _ => rfl) (lk_po hC hk) (lc_ps hC hk) ?_
    refine g_callVx h hq (i := 13) rfl mv_X1_201 cls1 (lc_k hC) (hal) rfl rfl ⟨rfl, rfl, Nat.le_of_ble_eq_true rfl, Nat.le_of_ble_eq_true rfl⟩ (Nat.le_of_ble_eq_true rfl) ⟨Nat.zero_le _, Nat.zero_le _⟩ ?_
    refine g_if_ne h (i := 14) 38 rfl rfl (fun c_28 => ?_) (fun c_28 => ?_)
    · skip
      refine g_aload_n h (i := 20) rfl rfl ?_
      refine g_getR h (i := 21) rfl fl_X1_134 (fun _ _ _ => rfl) (lk_M hM) (lm_6 hM) ?_
      refine g_aload_n h (i := 22) rfl rfl ?_
      refine g_getR h (i := 23) rfl fl_X1_11 (fun _ _ _ => rfl) (lc_k hC) (lc_joints hC) ?_
      refine g_aload_n h (i := 24) rfl rfl ?_
      refine g_getR h (i := 25) rfl fl_X1_163 (fun _ _ _ => rfl) (lk_M hM) (lm_states hM) ?_
      refine g_aload_n h (i := 26) rfl rfl ?_
      refine g_getR h (i := 27) rfl fl_X1_200 (fun _ _ _ => rfl) (lk_po hC hk) (lc_ps hC hk) ?_
      refine g_iload_n h (i := 28) rfl rfl ?_
      refine g_callVp (w0 := w) h hq (i := 29) rfl mv_X1_204 cls4 (lk_T (lm_T hM)) (hai) rfl rfl ⟨rfl, rfl, Nat.le_of_ble_eq_true rfl, Nat.le_of_ble_eq_true rfl⟩ (Nat.le_of_ble_eq_true rfl) ⟨Nat.zero_le _, Nat.zero_le _⟩ (fun r55 w55 hp55 => ?_)
      obtain ⟨rfl, I, rfl, hI⟩ := hp55
      exact g_lv [(0, .ref c), (1, .ref m)] ⟨rfl, rfl, trivial⟩ (k58 ⟨c_17, bI_1.mp c_28⟩ I hI)
    · skip
      refine g_aload_n h (i := 15) rfl rfl ?_
      refine g_aload_n h (i := 16) rfl rfl ?_
      refine g_iconst h (i := 17) rfl (v := 1) (by rfl) ?_
      refine g_callVx h hq (i := 18) rfl mv_X1_99 cls1 (lc_k hC) (ct_X1_err l E w1 c m 1 hlo2 hC hM hcm) rfl rfl ⟨rfl, rfl, Nat.le_of_ble_eq_true rfl, Nat.le_of_ble_eq_true rfl⟩ (Nat.le_of_ble_eq_true rfl) ⟨Nat.zero_le _, Nat.zero_le _⟩ ?_
      exact g_zret hq h (i := 19) rfl (rfl) (by
        have hn : ¬ wiP cf k := fun t => bI_0.mp c_28 t.2
        refine ⟨tf_err htf1, Or.inl ⟨hn, rfl, ?_⟩⟩
        unfold beginsR
        rw [if_neg hn]
        show RepV _ (wJ (errW w1 c m 1) (m + 2)) _
        rw [j_err]
        exact rv_err hV1 (show cfW w1 c 4 3 = cf 0 12 from hRC1.2.2.2.1))
