theorem wl_cl_L_7 : Cond.classLink RL 7 RX9 ∈ lw_ok := lw_in (List.mem_of_getElem? (i := 49) (by decide +kernel)) rfl
theorem wl_cl_L_10 : Cond.classLink RL 10 RX10 ∈ lw_ok := lw_in (List.mem_of_getElem? (i := 715) (by decide +kernel)) rfl
theorem wl_in_X9 : Cond.instantiable RX9 (cN 9) ∈ lw_ok := lw_in (List.mem_of_getElem? (i := 50) (by decide +kernel)) rfl
theorem wl_ini_X9 : Cond.initialized RX9 ∈ lw_ok := lw_in (List.mem_of_getElem? (i := 36) (by decide +kernel)) rfl
theorem wl_in_X10 : Cond.instantiable RX10 (cN 10) ∈ lw_ok := lw_in (List.mem_of_getElem? (i := 716) (by decide +kernel)) rfl
theorem wl_ini_X10 : Cond.initialized RX10 ∈ lw_ok := lw_in (List.mem_of_getElem? (i := 46) (by decide +kernel)) rfl
def il_Lb : List (Nat × Instr × Nat) := [(0, .new 7, 3), (3, .dup, 1), (4, .invokespecial 9, 3), (7, .astore_n 1, 1), (8, .new 10, 3), (11, .dup, 1), (12, .invokespecial 12, 3), (15, .astore_n 2, 1), (16, .iconst 0, 1), (17, .istore_n 3, 1)]
theorem dk_Lb : ∀ q ∈ il_Lb, decode cL_law q.1 = .ok (q.2.1, q.2.2) := by decide +kernel
theorem repb_1 {W : Wd} {b : Nat} {cf : Nat → Nat → Int32} (e : Cf0 cf) (hI : ∀ o, o < 131 → wI W (b + o) = ivB o) (hJ : wJ W (b + 57) = z64) : RepB W b cf R0 := by
  refine ⟨repc_0 e (fun f hf => ?_), ?_, fun k hk => ?_⟩
  · show wI W (b + 1 + f) = ivC f
    rw [show b + 1 + f = b + (1 + f) by omega, hI _ (by omega), ivB_1 rfl (by omega)]
  · show RepV (cfW W (b + 55)) (wJ W (b + 55 + 2)) R0
    rw [show b + 55 + 2 = b + 57 by omega, hJ]
    refine repv_0 (fun f hf => ?_)
    show wI W (b + 55 + f) = ivM f
    rw [show b + 55 + f = b + (55 + f) by omega, hI _ (by omega), ivB_55 rfl (by omega)]
  · rw [e 2 (by decide), hI 66 (by decide), ivB_z (by omega)]
    exact ⟨rfl, fun q => absurd rfl q⟩
theorem li_start {E : EE} {w V W : Wd} {b : Nat} (hlo : E.2.2 ≤ b) (g1 : Sg (sNew w (.inl 9)) V b (b + 131) kvB ivB (LRb 4)) (g2 : Sg (sNew V (.inl 10)) W (b + 131) (b + 131 + 23) kvR ivR LRR) : LI E (sJ (sJ (sJ W (b + 131 + 1) 48 (-1)) (b + 131 + 1) 49 (-1)) (b + 131 + 1) 50 (-1)) b (b + 131) 0 := by
  have hz : rw1 W (b + 131) = z64 := (g2.2.1 1 (by omega)).2.2
  rw [sRow_J W (b + 131) 48 (-1), sRow_u, sRow_u, hz]
  show LI E (sRow W (b + 131) R0) b (b + 131) 0
  have eN := sg_N g1
  have fr : ∀ p, p < b + 131 → wK W p = wK V p ∧ wR W p = wR V p ∧ wI W p = wI V p ∧ wJ W p = wJ V p := fun p hp => by
    obtain ⟨a1, a2, a3, a4, -⟩ := g2.1.2 p hp
    have hne : p ≠ wN V := by omega
    exact ⟨a1.trans (wK_n (k := .inl 10) hne), a2.trans (wR_n (k := .inl 10) hne), a3.trans (wI_n (k := .inl 10) hne), a4.trans (wJ_n (k := .inl 10) hne)⟩
  have kB : KR W b 131 kvB (LRb 4) := ⟨fun o ho => (fr _ (by omega)).1.trans (g1.2.1 o (by omega)).1, fun o f t q => by
    obtain ⟨q1, q2⟩ := g1.2.2.1 o f t q
    rw [(fr _ q1).2.1]; exact q2⟩
  have hC : Cf0 (cfW (sRow W (b + 131) R0) (b + 131)) := fun f hf => (g2.2.1 f (by omega)).2.1
  have hR : wJ (sRow W (b + 131) R0) (b + 131 + 1) = R0 := rw1_s _ _ _
  have lR : LayR W (b + 131) := kr_R (kr_sg g2)
  have lB : LayB W b := kr_B kB
  refine ⟨?_, lB, lR, Nat.le_refl _, ?_, ?_⟩
  · show E.2.2 ≤ wN W
    rw [sg_N g2]; omega
  · show RepB (sRow W (b + 131) R0) b _ (wJ (sRow W (b + 131) R0) (b + 131 + 1))
    rw [hR]
    refine repb_1 hC (fun q hq => ?_) ?_
    · exact (fr _ (by omega)).2.2.1.trans (g1.2.1 q (by omega)).2.1
    · exact (ua_a (by omega)).trans ((fr _ (by omega)).2.2.2.trans (g1.2.1 57 (by omega)).2.2)
  · show Inv _ (wJ (sRow W (b + 131) R0) (b + 131 + 1)) 0
    rw [hR]; exact inv_0 hC
set_option maxRecDepth 100000 in
set_option maxHeartbeats 4000000 in
/-- the law from its entry -/
theorem lw_head {X : Cx} {mn : String} {l : Launch} {E : EE} {P0 : Option Value → Wd → Prop} {mc0 ms0 : Nat} {il : List (Nat × Instr × Nat)} {sb Ln : Nat} {w : Wd} {xs : Nat → Int32} (h0 : Ok X cL_law RL mn (some .boolean) il) (hq : Is X room_1 l E P0 mc0 ms0 4) (hNK : NK (cxS X)) (hX : XA X sb Ln xs) (hL : Ln ≤ 3072) (hlo : E.2.2 ≤ wN w) (hend : ∀ w lv, G X 154 3947 1009 lv [] w) : G X 0 0 0 (lf [(0, .ref sb)]) [] w := by
  have h := ok_il h0 dk_Lb
  obtain ⟨b, hb⟩ : ∃ b, wN w = b := ⟨_, rfl⟩
  refine g_new h hq (i := 0) rfl cls9 wl_cl_L_7 wl_in_X9 wl_ini_X9 (fun j hj => dv_ok (dv9 j hj)) ⟨by decide, by decide⟩ ?_
  refine g_ref hb ?_
  refine g_dup h (i := 1) rfl rfl ?_
  obtain ⟨n1, n2, n3, n4⟩ := sg_new (k := .inl 9) hb
  have cm := cn_X9_init l E (sNew w (.inl 9)) b (by rw [n1]; omega) n1 n2 n3 n4
  refine g_plain h hNK (i := 2) hq rfl mi_L_9 cm ⟨rfl, rfl, by decide, by decide⟩ (Nat.le_of_ble_eq_true rfl) ⟨by decide, by decide⟩ (fun r V hp => ?_)
  obtain ⟨rfl, g1⟩ := hp
  refine g_astore_n h (i := 3) rfl hq rfl ?_
  refine g_new h hq (i := 4) rfl cls10 wl_cl_L_10 wl_in_X10 wl_ini_X10 (fun j hj => dv_ok (dv10 j hj)) ⟨by decide, by decide⟩ ?_
  refine g_ref (sg_N g1) ?_
  refine g_dup h (i := 5) rfl rfl ?_
  obtain ⟨m1, m2, m3, m4⟩ := sg_new (k := .inl 10) (sg_N g1)
  have cm2 := cn_X10_init l E (sNew V (.inl 10)) (b + 131) (by rw [m1]; omega) m1 m2 m3 m4
  refine g_plain h hNK (i := 6) hq rfl mi_L_12 cm2 ⟨rfl, rfl, by decide, by decide⟩ (Nat.le_of_ble_eq_true rfl) ⟨by decide, by decide⟩ (fun r2 V2 hp2 => ?_)
  obtain ⟨rfl, W, g2, rfl⟩ := hp2
  refine g_astore_n h (i := 7) rfl hq rfl ?_
  refine g_iconst h (i := 8) rfl (v := nI 0) (by rfl) ?_
  refine g_istore_n h (i := 9) rfl hq rfl ?_
  refine g_cc (ce' := 154) (sl' := 3947) (by decide) (by decide) ?_
  exact g_lv [(0, .ref sb), (1, .ref b), (2, .ref (b + 131)), (3, .int (nI 0))] ⟨rfl, rfl, rfl, rfl, trivial⟩ (lw_loop h0 hq ⟨by decide, by decide⟩ hX hL hend Ln 0 0 _ (by omega) (by omega) (by omega) (li_start (by omega) g1 g2))
