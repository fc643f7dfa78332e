def kvRL : List (Option (Nat ⊕ (Nat × Nat))) := [some (.inl 10), some (.inr (2, 408)), some (.inr (1, 4)), some (.inr (1, 4)), some (.inr (0, 4)), some (.inr (0, 4)), some (.inr (0, 4)), some (.inr (0, 4)), some (.inr (0, 4)), some (.inr (1, 4)), some (.inr (0, 16)), some (.inr (1, 16)), some (.inr (0, 64)), some (.inr (0, 60)), some (.inr (0, 60)), some (.inr (0, 60)), some (.inr (0, 40)), some (.inr (0, 40)), some (.inr (1, 40)), some (.inr (2, 4)), some (.inr (2, 4)), some (.inr (2, 4)), some (.inr (2, 2020))]
def kvR : Nat → Option (Nat ⊕ (Nat × Nat)) := fun o => (kvRL[o]?).getD none
def fl4 (v : Int32) : Nat → Int32 := up1 (up1 (up1 (up1 z32 0 v) 1 v) 2 v) 3 v
def ivR : Nat → Nat → Int32 := fun o => if o = 4 then fl4 100 else if o = 5 then fl4 (-500000) else if o = 6 then fl4 500000 else if o = 7 then fl4 10000 else if o = 8 then fl4 1000 else z32
def LRR : Nat → Nat → Nat → Prop := fun o f t => o = 0 ∧ ((f = 0 ∧ t = 1) ∨ (f = 1 ∧ t = 2) ∨ (f = 2 ∧ t = 3) ∨ (f = 3 ∧ t = 4) ∨ (f = 4 ∧ t = 5) ∨ (f = 5 ∧ t = 6) ∨ (f = 6 ∧ t = 7) ∨ (f = 7 ∧ t = 8) ∨ (f = 8 ∧ t = 9) ∨ (f = 9 ∧ t = 10) ∨ (f = 10 ∧ t = 11) ∨ (f = 11 ∧ t = 12) ∨ (f = 13 ∧ t = 13) ∨ (f = 14 ∧ t = 14) ∨ (f = 15 ∧ t = 15) ∨ (f = 17 ∧ t = 16) ∨ (f = 18 ∧ t = 17) ∨ (f = 19 ∧ t = 18) ∨ (f = 22 ∧ t = 19) ∨ (f = 23 ∧ t = 20) ∨ (f = 28 ∧ t = 21) ∨ (f = 29 ∧ t = 22))
theorem wl_ol_X10 : Cond.methodLink RX10 1 objectInit ∈ lw_ok := lw_in (List.mem_of_getElem? (i := 720) (by decide +kernel)) rfl
theorem g_wJ5 {X : Cx} {ce sl pc : Nat} {lv : Nat → Option Value} {st : List Value} {w : Wd} {a x : Nat} {y : Nat} {v : Int64} (e : x = y) (k : G X ce sl pc lv st (sJ w a y v)) : G X ce sl pc lv st (sJ w a x v) := by rw [e]; exact k
-- X10_init
set_option maxRecDepth 100000 in
set_option maxHeartbeats 4000000 in
theorem cn_X10_init (l : Launch) (E : EE) (w : Wd) (m : Nat) (hlo : E.2.2 ≤ wN w) (hN : wN w = m + 1) (hK : wK w m = some (.inl 10)) (hI : wI w m = z32) (hJ : wJ w m = z64) : CtN l E yX10_init cX10_init 1 none ({ frames := 1, cells := 22, slots := 2868, locals := 12 } : Room) [.ref m] w 22 2868 (fun q w2 => q = none ∧ ∃ W, Sg w W m (m + 23) kvR ivR LRR ∧ w2 = sJ (sJ (sJ W (m + 1) 48 (-1)) (m + 1) 49 (-1)) (m + 1) 50 (-1)) := by
  refine ct_inN (il := il_X10_init) (by decide) dk_X10_init (Nat.le_of_ble_eq_true rfl) hlo ?_
  intro X h hq hNK
  have s0 := sg_0 (kv := kvR) (iv := ivR) hN hK hI hJ
  refine g_aload_n h (i := 0) rfl rfl ?_
  refine g_oinit h hq (i := 1) rfl wl_ol_X10 wl_oi wl_oc ⟨by decide, by decide⟩ ?_
  refine g_aload_n h (i := 2) rfl rfl ?_
  refine g_sipush h (i := 3) rfl (v := 408) (by rfl) ?_
  refine g_newar h hq (i := 4) 2 408 rfl (by decide) rfl wl_arr_long rfl (by decide) ⟨by decide, by decide⟩ ?_
  refine g_ref (sg_N s0) ?_
  refine g_putRF_0 h (i := 5) rfl rfl fl_X10_7 (fun C T q => by rw [clsT10 C T q]; exact ⟨rfl, rfl⟩) (fun _ _ _ => rfl) ((wK_n (k := .inr (2, 408)) (by rw [sg_N s0]; omega)).trans (sg_K s0 (o := 0) (by omega))) rfl rfl ?_
  have s1 := sg_arr 0 (k := .inr (2, 408)) s0 (sg_at (b := 1) (by omega) rfl) (sg_at (b := 1) (by omega) rfl) (fun o t q => q.elim)
  obtain ⟨W1, hW1⟩ : ∃ W1, W1 = sR (sNew w (.inr (2, 408))) m 0 (some (m + 1)) := ⟨_, rfl⟩
  rw [← hW1] at s1 ⊢
  have hlo1 : E.2.2 ≤ wN W1 := by rw [sg_N s1]; omega
  refine g_aload_n h (i := 6) rfl rfl ?_
  refine g_iconst h (i := 7) rfl (v := 4) (by rfl) ?_
  refine g_newar h hq (i := 8) 1 4 rfl (by decide) rfl wl_arr_boolean rfl (by decide) ⟨by decide, by decide⟩ ?_
  refine g_ref (sg_N s1) ?_
  refine g_putRF_0 h (i := 9) rfl rfl fl_X10_13 (fun C T q => by rw [clsT10 C T q]; exact ⟨rfl, rfl⟩) (fun _ _ _ => rfl) ((wK_n (k := .inr (1, 4)) (by rw [sg_N s1]; omega)).trans (sg_K s1 (o := 0) (by omega))) rfl rfl ?_
  have s2 := sg_arr 1 (k := .inr (1, 4)) s1 (sg_at (b := 2) (by omega) rfl) (sg_at (b := 2) (by omega) rfl) (fun o t q => q.elim (fun q => q.elim) (fun z => absurd z.2.1 (by decide)))
  obtain ⟨W2, hW2⟩ : ∃ W2, W2 = sR (sNew W1 (.inr (1, 4))) m 1 (some (m + 1 + 1)) := ⟨_, rfl⟩
  rw [← hW2] at s2 ⊢
  have hlo2 : E.2.2 ≤ wN W2 := by rw [sg_N s2]; omega
  refine g_aload_n h (i := 10) rfl rfl ?_
  refine g_iconst h (i := 11) rfl (v := 4) (by rfl) ?_
  refine g_newar h hq (i := 12) 1 4 rfl (by decide) rfl wl_arr_boolean rfl (by decide) ⟨by decide, by decide⟩ ?_
  refine g_ref (sg_N s2) ?_
  refine g_putRF_0 h (i := 13) rfl rfl fl_X10_17 (fun C T q => by rw [clsT10 C T q]; exact ⟨rfl, rfl⟩) (fun _ _ _ => rfl) ((wK_n (k := .inr (1, 4)) (by rw [sg_N s2]; omega)).trans (sg_K s2 (o := 0) (by omega))) rfl rfl ?_
  have s3 := sg_arr 2 (k := .inr (1, 4)) s2 (sg_at (b := 3) (by omega) rfl) (sg_at (b := 3) (by omega) rfl) (fun o t q => q.elim (fun q => q.elim (fun q => q.elim) (fun z => absurd z.2.1 (by decide))) (fun z => absurd z.2.1 (by decide)))
  obtain ⟨W3, hW3⟩ : ∃ W3, W3 = sR (sNew W2 (.inr (1, 4))) m 2 (some (m + 1 + 1 + 1)) := ⟨_, rfl⟩
  rw [← hW3] at s3 ⊢
  have hlo3 : E.2.2 ≤ wN W3 := by rw [sg_N s3]; omega
  refine g_aload_n h (i := 14) rfl rfl ?_
  refine g_iconst h (i := 15) rfl (v := 4) (by rfl) ?_
  refine g_newar h hq (i := 16) 0 4 rfl (by decide) rfl wl_arr_int rfl (by decide) ⟨by decide, by decide⟩ ?_
  refine g_ref (sg_N s3) ?_
  obtain ⟨n14, n24, n34, n44⟩ := sg_new (k := .inr (0, 4)) (sg_N s3)
  have g0 := sg_0 (kv := fun _ => some (.inr (0, 4))) (iv := fun _ => z32) n14 n24 n34 n44
  refine g_dup h (i := 17) rfl rfl ?_
  refine g_iconst h (i := 18) rfl (v := 0) (by rfl) ?_
  refine g_bipush h (i := 19) rfl (v := 100) (by rfl) ?_
  refine g_iast h (i := 20) rfl n24 (vpD (by decide)) ?_
  refine g_wp (y := 0) (by decide) ?_
  have g1 := sg_I (k := 0) (v := 100) g0
  refine g_dup h (i := 21) rfl rfl ?_
  refine g_iconst h (i := 22) rfl (v := 1) (by rfl) ?_
  refine g_bipush h (i := 23) rfl (v := 100) (by rfl) ?_
  refine g_iast h (i := 24) rfl n24 (vpD (by decide)) ?_
  refine g_wp (y := 1) (by decide) ?_
  have g2 := sg_I (k := 1) (v := 100) g1
  refine g_dup h (i := 25) rfl rfl ?_
  refine g_iconst h (i := 26) rfl (v := 2) (by rfl) ?_
  refine g_bipush h (i := 27) rfl (v := 100) (by rfl) ?_
  refine g_iast h (i := 28) rfl n24 (vpD (by decide)) ?_
  refine g_wp (y := 2) (by decide) ?_
  have g3 := sg_I (k := 2) (v := 100) g2
  refine g_dup h (i := 29) rfl rfl ?_
  refine g_iconst h (i := 30) rfl (v := 3) (by rfl) ?_
  refine g_bipush h (i := 31) rfl (v := 100) (by rfl) ?_
  refine g_iast h (i := 32) rfl n24 (vpD (by decide)) ?_
  refine g_wp (y := 3) (by decide) ?_
  have g4 := sg_I (k := 3) (v := 100) g3
  obtain ⟨V4, hV4⟩ : ∃ V4, V4 = sI (sI (sI (sI (sNew W3 (.inr (0, 4))) (m + 1 + 1 + 1 + 1) 0 (100)) (m + 1 + 1 + 1 + 1) 1 (100)) (m + 1 + 1 + 1 + 1) 2 (100)) (m + 1 + 1 + 1 + 1) 3 (100) := ⟨_, rfl⟩
  rw [← hV4] at g4 ⊢
  have km4 : wK V4 m = some (.inl 10) := ((g4.1.2 m (by omega)).1.trans (wK_n (k := .inr (0, 4)) (by rw [sg_N s3]; omega))).trans (sg_K s3 (o := 0) (by omega))
  refine g_putRF_0 h (i := 33) rfl rfl fl_X10_20 (fun C T q => by rw [clsT10 C T q]; exact ⟨rfl, rfl⟩) (fun _ _ _ => rfl) km4 rfl rfl ?_
  have s4 := sg_obj0 3 s3 g4 (fun o ho => sg_at (b := 4) (by omega) rfl) (fun o ho => by
    have e : o = 0 := by omega
    subst e
    exact sg_at (f := ivR) (b := 4) (by omega) rfl) (fun o t q => q.elim (fun q => q.elim (fun q => q.elim (fun q => q.elim) (fun z => absurd z.2.1 (by decide))) (fun z => absurd z.2.1 (by decide))) (fun z => absurd z.2.1 (by decide)))
  obtain ⟨W4, hW4⟩ : ∃ W4, W4 = sR V4 m 3 (some (m + 1 + 1 + 1 + 1)) := ⟨_, rfl⟩
  rw [← hW4] at s4 ⊢
  have hlo4 : E.2.2 ≤ wN W4 := by rw [sg_N s4]; omega
  clear g0 g1 g2 g3 g4 hV4
  refine g_aload_n h (i := 34) rfl rfl ?_
  refine g_iconst h (i := 35) rfl (v := 4) (by rfl) ?_
  refine g_newar h hq (i := 36) 0 4 rfl (by decide) rfl wl_arr_int rfl (by decide) ⟨by decide, by decide⟩ ?_
  refine g_ref (sg_N s4) ?_
  obtain ⟨n15, n25, n35, n45⟩ := sg_new (k := .inr (0, 4)) (sg_N s4)
  have g0 := sg_0 (kv := fun _ => some (.inr (0, 4))) (iv := fun _ => z32) n15 n25 n35 n45
  refine g_dup h (i := 37) rfl rfl ?_
  refine g_iconst h (i := 38) rfl (v := 0) (by rfl) ?_
  refine g_ldc h (i := 39) rfl k_X10_24 ?_
  refine g_iast h (i := 40) rfl n25 (vpD (by decide)) ?_
  refine g_wp (y := 0) (by decide) ?_
  have g1 := sg_I (k := 0) (v := -500000) g0
  refine g_dup h (i := 41) rfl rfl ?_
  refine g_iconst h (i := 42) rfl (v := 1) (by rfl) ?_
  refine g_ldc h (i := 43) rfl k_X10_24 ?_
  refine g_iast h (i := 44) rfl n25 (vpD (by decide)) ?_
  refine g_wp (y := 1) (by decide) ?_
  have g2 := sg_I (k := 1) (v := -500000) g1
  refine g_dup h (i := 45) rfl rfl ?_
  refine g_iconst h (i := 46) rfl (v := 2) (by rfl) ?_
  refine g_ldc h (i := 47) rfl k_X10_24 ?_
  refine g_iast h (i := 48) rfl n25 (vpD (by decide)) ?_
  refine g_wp (y := 2) (by decide) ?_
  have g3 := sg_I (k := 2) (v := -500000) g2
  refine g_dup h (i := 49) rfl rfl ?_
  refine g_iconst h (i := 50) rfl (v := 3) (by rfl) ?_
  refine g_ldc h (i := 51) rfl k_X10_24 ?_
  refine g_iast h (i := 52) rfl n25 (vpD (by decide)) ?_
  refine g_wp (y := 3) (by decide) ?_
  have g4 := sg_I (k := 3) (v := -500000) g3
  obtain ⟨V5, hV5⟩ : ∃ V5, V5 = sI (sI (sI (sI (sNew W4 (.inr (0, 4))) (m + 1 + 1 + 1 + 1 + 1) 0 (-500000)) (m + 1 + 1 + 1 + 1 + 1) 1 (-500000)) (m + 1 + 1 + 1 + 1 + 1) 2 (-500000)) (m + 1 + 1 + 1 + 1 + 1) 3 (-500000) := ⟨_, rfl⟩
  rw [← hV5] at g4 ⊢
  have km5 : wK V5 m = some (.inl 10) := ((g4.1.2 m (by omega)).1.trans (wK_n (k := .inr (0, 4)) (by rw [sg_N s4]; omega))).trans (sg_K s4 (o := 0) (by omega))
  refine g_putRF_0 h (i := 53) rfl rfl fl_X10_25 (fun C T q => by rw [clsT10 C T q]; exact ⟨rfl, rfl⟩) (fun _ _ _ => rfl) km5 rfl rfl ?_
  have s5 := sg_obj0 4 s4 g4 (fun o ho => sg_at (b := 5) (by omega) rfl) (fun o ho => by
    have e : o = 0 := by omega
    subst e
    exact sg_at (f := ivR) (b := 5) (by omega) rfl) (fun o t q => q.elim (fun q => q.elim (fun q => q.elim (fun q => q.elim (fun q => q.elim) (fun z => absurd z.2.1 (by decide))) (fun z => absurd z.2.1 (by decide))) (fun z => absurd z.2.1 (by decide))) (fun q => q.elim (fun z => absurd z.2.1 (by decide)) (fun z => z.2.2.elim)))
  obtain ⟨W5, hW5⟩ : ∃ W5, W5 = sR V5 m 4 (some (m + 1 + 1 + 1 + 1 + 1)) := ⟨_, rfl⟩
  rw [← hW5] at s5 ⊢
  have hlo5 : E.2.2 ≤ wN W5 := by rw [sg_N s5]; omega
  clear g0 g1 g2 g3 g4 hV5
  refine g_aload_n h (i := 54) rfl rfl ?_
  refine g_iconst h (i := 55) rfl (v := 4) (by rfl) ?_
  refine g_newar h hq (i := 56) 0 4 rfl (by decide) rfl wl_arr_int rfl (by decide) ⟨by decide, by decide⟩ ?_
  refine g_ref (sg_N s5) ?_
  obtain ⟨n16, n26, n36, n46⟩ := sg_new (k := .inr (0, 4)) (sg_N s5)
  have g0 := sg_0 (kv := fun _ => some (.inr (0, 4))) (iv := fun _ => z32) n16 n26 n36 n46
  refine g_dup h (i := 57) rfl rfl ?_
  refine g_iconst h (i := 58) rfl (v := 0) (by rfl) ?_
  refine g_ldc h (i := 59) rfl k_X10_28 ?_
  refine g_iast h (i := 60) rfl n26 (vpD (by decide)) ?_
  refine g_wp (y := 0) (by decide) ?_
  have g1 := sg_I (k := 0) (v := 500000) g0
  refine g_dup h (i := 61) rfl rfl ?_
  refine g_iconst h (i := 62) rfl (v := 1) (by rfl) ?_
  refine g_ldc h (i := 63) rfl k_X10_28 ?_
  refine g_iast h (i := 64) rfl n26 (vpD (by decide)) ?_
  refine g_wp (y := 1) (by decide) ?_
  have g2 := sg_I (k := 1) (v := 500000) g1
  refine g_dup h (i := 65) rfl rfl ?_
  refine g_iconst h (i := 66) rfl (v := 2) (by rfl) ?_
  refine g_ldc h (i := 67) rfl k_X10_28 ?_
  refine g_iast h (i := 68) rfl n26 (vpD (by decide)) ?_
  refine g_wp (y := 2) (by decide) ?_
  have g3 := sg_I (k := 2) (v := 500000) g2
  refine g_dup h (i := 69) rfl rfl ?_
  refine g_iconst h (i := 70) rfl (v := 3) (by rfl) ?_
  refine g_ldc h (i := 71) rfl k_X10_28 ?_
  refine g_iast h (i := 72) rfl n26 (vpD (by decide)) ?_
  refine g_wp (y := 3) (by decide) ?_
  have g4 := sg_I (k := 3) (v := 500000) g3
  obtain ⟨V6, hV6⟩ : ∃ V6, V6 = sI (sI (sI (sI (sNew W5 (.inr (0, 4))) (m + 1 + 1 + 1 + 1 + 1 + 1) 0 (500000)) (m + 1 + 1 + 1 + 1 + 1 + 1) 1 (500000)) (m + 1 + 1 + 1 + 1 + 1 + 1) 2 (500000)) (m + 1 + 1 + 1 + 1 + 1 + 1) 3 (500000) := ⟨_, rfl⟩
  rw [← hV6] at g4 ⊢
  have km6 : wK V6 m = some (.inl 10) := ((g4.1.2 m (by omega)).1.trans (wK_n (k := .inr (0, 4)) (by rw [sg_N s5]; omega))).trans (sg_K s5 (o := 0) (by omega))
  refine g_putRF_0 h (i := 73) rfl rfl fl_X10_29 (fun C T q => by rw [clsT10 C T q]; exact ⟨rfl, rfl⟩) (fun _ _ _ => rfl) km6 rfl rfl ?_
  have s6 := sg_obj0 5 s5 g4 (fun o ho => sg_at (b := 6) (by omega) rfl) (fun o ho => by
    have e : o = 0 := by omega
    subst e
    exact sg_at (f := ivR) (b := 6) (by omega) rfl) (fun o t q => q.elim (fun q => q.elim (fun q => q.elim (fun q => q.elim (fun q => q.elim (fun q => q.elim) (fun z => absurd z.2.1 (by decide))) (fun z => absurd z.2.1 (by decide))) (fun z => absurd z.2.1 (by decide))) (fun q => q.elim (fun z => absurd z.2.1 (by decide)) (fun z => z.2.2.elim))) (fun q => q.elim (fun z => absurd z.2.1 (by decide)) (fun z => z.2.2.elim)))
  obtain ⟨W6, hW6⟩ : ∃ W6, W6 = sR V6 m 5 (some (m + 1 + 1 + 1 + 1 + 1 + 1)) := ⟨_, rfl⟩
  rw [← hW6] at s6 ⊢
  have hlo6 : E.2.2 ≤ wN W6 := by rw [sg_N s6]; omega
  clear g0 g1 g2 g3 g4 hV6
  refine g_aload_n h (i := 74) rfl rfl ?_
  refine g_iconst h (i := 75) rfl (v := 4) (by rfl) ?_
  refine g_newar h hq (i := 76) 0 4 rfl (by decide) rfl wl_arr_int rfl (by decide) ⟨by decide, by decide⟩ ?_
  refine g_ref (sg_N s6) ?_
  obtain ⟨n17, n27, n37, n47⟩ := sg_new (k := .inr (0, 4)) (sg_N s6)
  have g0 := sg_0 (kv := fun _ => some (.inr (0, 4))) (iv := fun _ => z32) n17 n27 n37 n47
  refine g_dup h (i := 77) rfl rfl ?_
  refine g_iconst h (i := 78) rfl (v := 0) (by rfl) ?_
  refine g_sipush h (i := 79) rfl (v := 10000) (by rfl) ?_
  refine g_iast h (i := 80) rfl n27 (vpD (by decide)) ?_
  refine g_wp (y := 0) (by decide) ?_
  have g1 := sg_I (k := 0) (v := 10000) g0
  refine g_dup h (i := 81) rfl rfl ?_
  refine g_iconst h (i := 82) rfl (v := 1) (by rfl) ?_
  refine g_sipush h (i := 83) rfl (v := 10000) (by rfl) ?_
  refine g_iast h (i := 84) rfl n27 (vpD (by decide)) ?_
  refine g_wp (y := 1) (by decide) ?_
  have g2 := sg_I (k := 1) (v := 10000) g1
  refine g_dup h (i := 85) rfl rfl ?_
  refine g_iconst h (i := 86) rfl (v := 2) (by rfl) ?_
  refine g_sipush h (i := 87) rfl (v := 10000) (by rfl) ?_
  refine g_iast h (i := 88) rfl n27 (vpD (by decide)) ?_
  refine g_wp (y := 2) (by decide) ?_
  have g3 := sg_I (k := 2) (v := 10000) g2
  refine g_dup h (i := 89) rfl rfl ?_
  refine g_iconst h (i := 90) rfl (v := 3) (by rfl) ?_
  refine g_sipush h (i := 91) rfl (v := 10000) (by rfl) ?_
  refine g_iast h (i := 92) rfl n27 (vpD (by decide)) ?_
  refine g_wp (y := 3) (by decide) ?_
  have g4 := sg_I (k := 3) (v := 10000) g3
  obtain ⟨V7, hV7⟩ : ∃ V7, V7 = sI (sI (sI (sI (sNew W6 (.inr (0, 4))) (m + 1 + 1 + 1 + 1 + 1 + 1 + 1) 0 (10000)) (m + 1 + 1 + 1 + 1 + 1 + 1 + 1) 1 (10000)) (m + 1 + 1 + 1 + 1 + 1 + 1 + 1) 2 (10000)) (m + 1 + 1 + 1 + 1 + 1 + 1 + 1) 3 (10000) := ⟨_, rfl⟩
  rw [← hV7] at g4 ⊢
  have km7 : wK V7 m = some (.inl 10) := ((g4.1.2 m (by omega)).1.trans (wK_n (k := .inr (0, 4)) (by rw [sg_N s6]; omega))).trans (sg_K s6 (o := 0) (by omega))
  refine g_putRF_0 h (i := 93) rfl rfl fl_X10_32 (fun C T q => by rw [clsT10 C T q]; exact ⟨rfl, rfl⟩) (fun _ _ _ => rfl) km7 rfl rfl ?_
  have s7 := sg_obj0 6 s6 g4 (fun o ho => sg_at (b := 7) (by omega) rfl) (fun o ho => by
    have e : o = 0 := by omega
    subst e
    exact sg_at (f := ivR) (b := 7) (by omega) rfl) (fun o t q => q.elim (fun q => q.elim (fun q => q.elim (fun q => q.elim (fun q => q.elim (fun q => q.elim (fun q => q.elim) (fun z => absurd z.2.1 (by decide))) (fun z => absurd z.2.1 (by decide))) (fun z => absurd z.2.1 (by decide))) (fun q => q.elim (fun z => absurd z.2.1 (by decide)) (fun z => z.2.2.elim))) (fun q => q.elim (fun z => absurd z.2.1 (by decide)) (fun z => z.2.2.elim))) (fun q => q.elim (fun z => absurd z.2.1 (by decide)) (fun z => z.2.2.elim)))
  obtain ⟨W7, hW7⟩ : ∃ W7, W7 = sR V7 m 6 (some (m + 1 + 1 + 1 + 1 + 1 + 1 + 1)) := ⟨_, rfl⟩
  rw [← hW7] at s7 ⊢
  have hlo7 : E.2.2 ≤ wN W7 := by rw [sg_N s7]; omega
  clear g0 g1 g2 g3 g4 hV7
  refine g_aload_n h (i := 94) rfl rfl ?_
  refine g_iconst h (i := 95) rfl (v := 4) (by rfl) ?_
  refine g_newar h hq (i := 96) 0 4 rfl (by decide) rfl wl_arr_int rfl (by decide) ⟨by decide, by decide⟩ ?_
  refine g_ref (sg_N s7) ?_
  obtain ⟨n18, n28, n38, n48⟩ := sg_new (k := .inr (0, 4)) (sg_N s7)
  have g0 := sg_0 (kv := fun _ => some (.inr (0, 4))) (iv := fun _ => z32) n18 n28 n38 n48
  refine g_dup h (i := 97) rfl rfl ?_
  refine g_iconst h (i := 98) rfl (v := 0) (by rfl) ?_
  refine g_sipush h (i := 99) rfl (v := 1000) (by rfl) ?_
  refine g_iast h (i := 100) rfl n28 (vpD (by decide)) ?_
  refine g_wp (y := 0) (by decide) ?_
  have g1 := sg_I (k := 0) (v := 1000) g0
  refine g_dup h (i := 101) rfl rfl ?_
  refine g_iconst h (i := 102) rfl (v := 1) (by rfl) ?_
  refine g_sipush h (i := 103) rfl (v := 1000) (by rfl) ?_
  refine g_iast h (i := 104) rfl n28 (vpD (by decide)) ?_
  refine g_wp (y := 1) (by decide) ?_
  have g2 := sg_I (k := 1) (v := 1000) g1
  refine g_dup h (i := 105) rfl rfl ?_
  refine g_iconst h (i := 106) rfl (v := 2) (by rfl) ?_
  refine g_sipush h (i := 107) rfl (v := 1000) (by rfl) ?_
  refine g_iast h (i := 108) rfl n28 (vpD (by decide)) ?_
  refine g_wp (y := 2) (by decide) ?_
  have g3 := sg_I (k := 2) (v := 1000) g2
  refine g_dup h (i := 109) rfl rfl ?_
  refine g_iconst h (i := 110) rfl (v := 3) (by rfl) ?_
  refine g_sipush h (i := 111) rfl (v := 1000) (by rfl) ?_
  refine g_iast h (i := 112) rfl n28 (vpD (by decide)) ?_
  refine g_wp (y := 3) (by decide) ?_
  have g4 := sg_I (k := 3) (v := 1000) g3
  obtain ⟨V8, hV8⟩ : ∃ V8, V8 = sI (sI (sI (sI (sNew W7 (.inr (0, 4))) (m + 1 + 1 + 1 + 1 + 1 + 1 + 1 + 1) 0 (1000)) (m + 1 + 1 + 1 + 1 + 1 + 1 + 1 + 1) 1 (1000)) (m + 1 + 1 + 1 + 1 + 1 + 1 + 1 + 1) 2 (1000)) (m + 1 + 1 + 1 + 1 + 1 + 1 + 1 + 1) 3 (1000) := ⟨_, rfl⟩
  rw [← hV8] at g4 ⊢
  have km8 : wK V8 m = some (.inl 10) := ((g4.1.2 m (by omega)).1.trans (wK_n (k := .inr (0, 4)) (by rw [sg_N s7]; omega))).trans (sg_K s7 (o := 0) (by omega))
  refine g_putRF_0 h (i := 113) rfl rfl fl_X10_35 (fun C T q => by rw [clsT10 C T q]; exact ⟨rfl, rfl⟩) (fun _ _ _ => rfl) km8 rfl rfl ?_
  have s8 := sg_obj0 7 s7 g4 (fun o ho => sg_at (b := 8) (by omega) rfl) (fun o ho => by
    have e : o = 0 := by omega
    subst e
    exact sg_at (f := ivR) (b := 8) (by omega) rfl) (fun o t q => q.elim (fun q => q.elim (fun q => q.elim (fun q => q.elim (fun q => q.elim (fun q => q.elim (fun q => q.elim (fun q => q.elim) (fun z => absurd z.2.1 (by decide))) (fun z => absurd z.2.1 (by decide))) (fun z => absurd z.2.1 (by decide))) (fun q => q.elim (fun z => absurd z.2.1 (by decide)) (fun z => z.2.2.elim))) (fun q => q.elim (fun z => absurd z.2.1 (by decide)) (fun z => z.2.2.elim))) (fun q => q.elim (fun z => absurd z.2.1 (by decide)) (fun z => z.2.2.elim))) (fun q => q.elim (fun z => absurd z.2.1 (by decide)) (fun z => z.2.2.elim)))
  obtain ⟨W8, hW8⟩ : ∃ W8, W8 = sR V8 m 7 (some (m + 1 + 1 + 1 + 1 + 1 + 1 + 1 + 1)) := ⟨_, rfl⟩
  rw [← hW8] at s8 ⊢
  have hlo8 : E.2.2 ≤ wN W8 := by rw [sg_N s8]; omega
  clear g0 g1 g2 g3 g4 hV8
  refine g_aload_n h (i := 114) rfl rfl ?_
  refine g_iconst h (i := 115) rfl (v := 4) (by rfl) ?_
  refine g_newar h hq (i := 116) 1 4 rfl (by decide) rfl wl_arr_boolean rfl (by decide) ⟨by decide, by decide⟩ ?_
  refine g_ref (sg_N s8) ?_
  refine g_putRF_0 h (i := 117) rfl rfl fl_X10_38 (fun C T q => by rw [clsT10 C T q]; exact ⟨rfl, rfl⟩) (fun _ _ _ => rfl) ((wK_n (k := .inr (1, 4)) (by rw [sg_N s8]; omega)).trans (sg_K s8 (o := 0) (by omega))) rfl rfl ?_
  have s9 := sg_arr 8 (k := .inr (1, 4)) s8 (sg_at (b := 9) (by omega) rfl) (sg_at (b := 9) (by omega) rfl) (fun o t q => q.elim (fun q => q.elim (fun q => q.elim (fun q => q.elim (fun q => q.elim (fun q => q.elim (fun q => q.elim (fun q => q.elim (fun q => q.elim) (fun z => absurd z.2.1 (by decide))) (fun z => absurd z.2.1 (by decide))) (fun z => absurd z.2.1 (by decide))) (fun q => q.elim (fun z => absurd z.2.1 (by decide)) (fun z => z.2.2.elim))) (fun q => q.elim (fun z => absurd z.2.1 (by decide)) (fun z => z.2.2.elim))) (fun q => q.elim (fun z => absurd z.2.1 (by decide)) (fun z => z.2.2.elim))) (fun q => q.elim (fun z => absurd z.2.1 (by decide)) (fun z => z.2.2.elim))) (fun q => q.elim (fun z => absurd z.2.1 (by decide)) (fun z => z.2.2.elim)))
  obtain ⟨W9, hW9⟩ : ∃ W9, W9 = sR (sNew W8 (.inr (1, 4))) m 8 (some (m + 1 + 1 + 1 + 1 + 1 + 1 + 1 + 1 + 1)) := ⟨_, rfl⟩
  rw [← hW9] at s9 ⊢
  have hlo9 : E.2.2 ≤ wN W9 := by rw [sg_N s9]; omega
  refine g_aload_n h (i := 118) rfl rfl ?_
  refine g_bipush h (i := 119) rfl (v := 16) (by rfl) ?_
  refine g_newar h hq (i := 120) 0 16 rfl (by decide) rfl wl_arr_int rfl (by decide) ⟨by decide, by decide⟩ ?_
  refine g_ref (sg_N s9) ?_
  refine g_putRF_0 h (i := 121) rfl rfl fl_X10_41 (fun C T q => by rw [clsT10 C T q]; exact ⟨rfl, rfl⟩) (fun _ _ _ => rfl) ((wK_n (k := .inr (0, 16)) (by rw [sg_N s9]; omega)).trans (sg_K s9 (o := 0) (by omega))) rfl rfl ?_
  have s10 := sg_arr 9 (k := .inr (0, 16)) s9 (sg_at (b := 10) (by omega) rfl) (sg_at (b := 10) (by omega) rfl) (fun o t q => q.elim (fun q => q.elim (fun q => q.elim (fun q => q.elim (fun q => q.elim (fun q => q.elim (fun q => q.elim (fun q => q.elim (fun q => q.elim (fun q => q.elim) (fun z => absurd z.2.1 (by decide))) (fun z => absurd z.2.1 (by decide))) (fun z => absurd z.2.1 (by decide))) (fun q => q.elim (fun z => absurd z.2.1 (by decide)) (fun z => z.2.2.elim))) (fun q => q.elim (fun z => absurd z.2.1 (by decide)) (fun z => z.2.2.elim))) (fun q => q.elim (fun z => absurd z.2.1 (by decide)) (fun z => z.2.2.elim))) (fun q => q.elim (fun z => absurd z.2.1 (by decide)) (fun z => z.2.2.elim))) (fun q => q.elim (fun z => absurd z.2.1 (by decide)) (fun z => z.2.2.elim))) (fun z => absurd z.2.1 (by decide)))
  obtain ⟨W10, hW10⟩ : ∃ W10, W10 = sR (sNew W9 (.inr (0, 16))) m 9 (some (m + 1 + 1 + 1 + 1 + 1 + 1 + 1 + 1 + 1 + 1)) := ⟨_, rfl⟩
  rw [← hW10] at s10 ⊢
  have hlo10 : E.2.2 ≤ wN W10 := by rw [sg_N s10]; omega
  refine g_aload_n h (i := 122) rfl rfl ?_
  refine g_bipush h (i := 123) rfl (v := 16) (by rfl) ?_
  refine g_newar h hq (i := 124) 1 16 rfl (by decide) rfl wl_arr_boolean rfl (by decide) ⟨by decide, by decide⟩ ?_
  refine g_ref (sg_N s10) ?_
  refine g_putRF_0 h (i := 125) rfl rfl fl_X10_44 (fun C T q => by rw [clsT10 C T q]; exact ⟨rfl, rfl⟩) (fun _ _ _ => rfl) ((wK_n (k := .inr (1, 16)) (by rw [sg_N s10]; omega)).trans (sg_K s10 (o := 0) (by omega))) rfl rfl ?_
  have s11 := sg_arr 10 (k := .inr (1, 16)) s10 (sg_at (b := 11) (by omega) rfl) (sg_at (b := 11) (by omega) rfl) (fun o t q => q.elim (fun q => q.elim (fun q => q.elim (fun q => q.elim (fun q => q.elim (fun q => q.elim (fun q => q.elim (fun q => q.elim (fun q => q.elim (fun q => q.elim (fun q => q.elim) (fun z => absurd z.2.1 (by decide))) (fun z => absurd z.2.1 (by decide))) (fun z => absurd z.2.1 (by decide))) (fun q => q.elim (fun z => absurd z.2.1 (by decide)) (fun z => z.2.2.elim))) (fun q => q.elim (fun z => absurd z.2.1 (by decide)) (fun z => z.2.2.elim))) (fun q => q.elim (fun z => absurd z.2.1 (by decide)) (fun z => z.2.2.elim))) (fun q => q.elim (fun z => absurd z.2.1 (by decide)) (fun z => z.2.2.elim))) (fun q => q.elim (fun z => absurd z.2.1 (by decide)) (fun z => z.2.2.elim))) (fun z => absurd z.2.1 (by decide))) (fun z => absurd z.2.1 (by decide)))
  obtain ⟨W11, hW11⟩ : ∃ W11, W11 = sR (sNew W10 (.inr (1, 16))) m 10 (some (m + 1 + 1 + 1 + 1 + 1 + 1 + 1 + 1 + 1 + 1 + 1)) := ⟨_, rfl⟩
  rw [← hW11] at s11 ⊢
  have hlo11 : E.2.2 ≤ wN W11 := by rw [sg_N s11]; omega
  refine g_aload_n h (i := 126) rfl rfl ?_
  refine g_bipush h (i := 127) rfl (v := 64) (by rfl) ?_
  refine g_newar h hq (i := 128) 0 64 rfl (by decide) rfl wl_arr_int rfl (by decide) ⟨by decide, by decide⟩ ?_
  refine g_ref (sg_N s11) ?_
  refine g_putRF_0 h (i := 129) rfl rfl fl_X10_47 (fun C T q => by rw [clsT10 C T q]; exact ⟨rfl, rfl⟩) (fun _ _ _ => rfl) ((wK_n (k := .inr (0, 64)) (by rw [sg_N s11]; omega)).trans (sg_K s11 (o := 0) (by omega))) rfl rfl ?_
  have s12 := sg_arr 11 (k := .inr (0, 64)) s11 (sg_at (b := 12) (by omega) rfl) (sg_at (b := 12) (by omega) rfl) (fun o t q => q.elim (fun q => q.elim (fun q => q.elim (fun q => q.elim (fun q => q.elim (fun q => q.elim (fun q => q.elim (fun q => q.elim (fun q => q.elim (fun q => q.elim (fun q => q.elim (fun q => q.elim) (fun z => absurd z.2.1 (by decide))) (fun z => absurd z.2.1 (by decide))) (fun z => absurd z.2.1 (by decide))) (fun q => q.elim (fun z => absurd z.2.1 (by decide)) (fun z => z.2.2.elim))) (fun q => q.elim (fun z => absurd z.2.1 (by decide)) (fun z => z.2.2.elim))) (fun q => q.elim (fun z => absurd z.2.1 (by decide)) (fun z => z.2.2.elim))) (fun q => q.elim (fun z => absurd z.2.1 (by decide)) (fun z => z.2.2.elim))) (fun q => q.elim (fun z => absurd z.2.1 (by decide)) (fun z => z.2.2.elim))) (fun z => absurd z.2.1 (by decide))) (fun z => absurd z.2.1 (by decide))) (fun z => absurd z.2.1 (by decide)))
  obtain ⟨W12, hW12⟩ : ∃ W12, W12 = sR (sNew W11 (.inr (0, 64))) m 11 (some (m + 1 + 1 + 1 + 1 + 1 + 1 + 1 + 1 + 1 + 1 + 1 + 1)) := ⟨_, rfl⟩
  rw [← hW12] at s12 ⊢
  have hlo12 : E.2.2 ≤ wN W12 := by rw [sg_N s12]; omega
  refine g_aload_n h (i := 130) rfl rfl ?_
  refine g_bipush h (i := 131) rfl (v := 60) (by rfl) ?_
  refine g_newar h hq (i := 132) 0 60 rfl (by decide) rfl wl_arr_int rfl (by decide) ⟨by decide, by decide⟩ ?_
  refine g_ref (sg_N s12) ?_
  refine g_putRF_0 h (i := 133) rfl rfl fl_X10_50 (fun C T q => by rw [clsT10 C T q]; exact ⟨rfl, rfl⟩) (fun _ _ _ => rfl) ((wK_n (k := .inr (0, 60)) (by rw [sg_N s12]; omega)).trans (sg_K s12 (o := 0) (by omega))) rfl rfl ?_
  have s13 := sg_arr 13 (k := .inr (0, 60)) s12 (sg_at (b := 13) (by omega) rfl) (sg_at (b := 13) (by omega) rfl) (fun o t q => q.elim (fun q => q.elim (fun q => q.elim (fun q => q.elim (fun q => q.elim (fun q => q.elim (fun q => q.elim (fun q => q.elim (fun q => q.elim (fun q => q.elim (fun q => q.elim (fun q => q.elim (fun q => q.elim) (fun z => absurd z.2.1 (by decide))) (fun z => absurd z.2.1 (by decide))) (fun z => absurd z.2.1 (by decide))) (fun q => q.elim (fun z => absurd z.2.1 (by decide)) (fun z => z.2.2.elim))) (fun q => q.elim (fun z => absurd z.2.1 (by decide)) (fun z => z.2.2.elim))) (fun q => q.elim (fun z => absurd z.2.1 (by decide)) (fun z => z.2.2.elim))) (fun q => q.elim (fun z => absurd z.2.1 (by decide)) (fun z => z.2.2.elim))) (fun q => q.elim (fun z => absurd z.2.1 (by decide)) (fun z => z.2.2.elim))) (fun z => absurd z.2.1 (by decide))) (fun z => absurd z.2.1 (by decide))) (fun z => absurd z.2.1 (by decide))) (fun z => absurd z.2.1 (by decide)))
  obtain ⟨W13, hW13⟩ : ∃ W13, W13 = sR (sNew W12 (.inr (0, 60))) m 13 (some (m + 1 + 1 + 1 + 1 + 1 + 1 + 1 + 1 + 1 + 1 + 1 + 1 + 1)) := ⟨_, rfl⟩
  rw [← hW13] at s13 ⊢
  have hlo13 : E.2.2 ≤ wN W13 := by rw [sg_N s13]; omega
  refine g_aload_n h (i := 134) rfl rfl ?_
  refine g_bipush h (i := 135) rfl (v := 60) (by rfl) ?_
  refine g_newar h hq (i := 136) 0 60 rfl (by decide) rfl wl_arr_int rfl (by decide) ⟨by decide, by decide⟩ ?_
  refine g_ref (sg_N s13) ?_
  refine g_putRF_0 h (i := 137) rfl rfl fl_X10_53 (fun C T q => by rw [clsT10 C T q]; exact ⟨rfl, rfl⟩) (fun _ _ _ => rfl) ((wK_n (k := .inr (0, 60)) (by rw [sg_N s13]; omega)).trans (sg_K s13 (o := 0) (by omega))) rfl rfl ?_
  have s14 := sg_arr 14 (k := .inr (0, 60)) s13 (sg_at (b := 14) (by omega) rfl) (sg_at (b := 14) (by omega) rfl) (fun o t q => q.elim (fun q => q.elim (fun q => q.elim (fun q => q.elim (fun q => q.elim (fun q => q.elim (fun q => q.elim (fun q => q.elim (fun q => q.elim (fun q => q.elim (fun q => q.elim (fun q => q.elim (fun q => q.elim (fun q => q.elim) (fun z => absurd z.2.1 (by decide))) (fun z => absurd z.2.1 (by decide))) (fun z => absurd z.2.1 (by decide))) (fun q => q.elim (fun z => absurd z.2.1 (by decide)) (fun z => z.2.2.elim))) (fun q => q.elim (fun z => absurd z.2.1 (by decide)) (fun z => z.2.2.elim))) (fun q => q.elim (fun z => absurd z.2.1 (by decide)) (fun z => z.2.2.elim))) (fun q => q.elim (fun z => absurd z.2.1 (by decide)) (fun z => z.2.2.elim))) (fun q => q.elim (fun z => absurd z.2.1 (by decide)) (fun z => z.2.2.elim))) (fun z => absurd z.2.1 (by decide))) (fun z => absurd z.2.1 (by decide))) (fun z => absurd z.2.1 (by decide))) (fun z => absurd z.2.1 (by decide))) (fun z => absurd z.2.1 (by decide)))
  obtain ⟨W14, hW14⟩ : ∃ W14, W14 = sR (sNew W13 (.inr (0, 60))) m 14 (some (m + 1 + 1 + 1 + 1 + 1 + 1 + 1 + 1 + 1 + 1 + 1 + 1 + 1 + 1)) := ⟨_, rfl⟩
  rw [← hW14] at s14 ⊢
  have hlo14 : E.2.2 ≤ wN W14 := by rw [sg_N s14]; omega
  refine g_aload_n h (i := 138) rfl rfl ?_
  refine g_bipush h (i := 139) rfl (v := 60) (by rfl) ?_
  refine g_newar h hq (i := 140) 0 60 rfl (by decide) rfl wl_arr_int rfl (by decide) ⟨by decide, by decide⟩ ?_
  refine g_ref (sg_N s14) ?_
  refine g_putRF_0 h (i := 141) rfl rfl fl_X10_56 (fun C T q => by rw [clsT10 C T q]; exact ⟨rfl, rfl⟩) (fun _ _ _ => rfl) ((wK_n (k := .inr (0, 60)) (by rw [sg_N s14]; omega)).trans (sg_K s14 (o := 0) (by omega))) rfl rfl ?_
  have s15 := sg_arr 15 (k := .inr (0, 60)) s14 (sg_at (b := 15) (by omega) rfl) (sg_at (b := 15) (by omega) rfl) (fun o t q => q.elim (fun q => q.elim (fun q => q.elim (fun q => q.elim (fun q => q.elim (fun q => q.elim (fun q => q.elim (fun q => q.elim (fun q => q.elim (fun q => q.elim (fun q => q.elim (fun q => q.elim (fun q => q.elim (fun q => q.elim (fun q => q.elim) (fun z => absurd z.2.1 (by decide))) (fun z => absurd z.2.1 (by decide))) (fun z => absurd z.2.1 (by decide))) (fun q => q.elim (fun z => absurd z.2.1 (by decide)) (fun z => z.2.2.elim))) (fun q => q.elim (fun z => absurd z.2.1 (by decide)) (fun z => z.2.2.elim))) (fun q => q.elim (fun z => absurd z.2.1 (by decide)) (fun z => z.2.2.elim))) (fun q => q.elim (fun z => absurd z.2.1 (by decide)) (fun z => z.2.2.elim))) (fun q => q.elim (fun z => absurd z.2.1 (by decide)) (fun z => z.2.2.elim))) (fun z => absurd z.2.1 (by decide))) (fun z => absurd z.2.1 (by decide))) (fun z => absurd z.2.1 (by decide))) (fun z => absurd z.2.1 (by decide))) (fun z => absurd z.2.1 (by decide))) (fun z => absurd z.2.1 (by decide)))
  obtain ⟨W15, hW15⟩ : ∃ W15, W15 = sR (sNew W14 (.inr (0, 60))) m 15 (some (m + 1 + 1 + 1 + 1 + 1 + 1 + 1 + 1 + 1 + 1 + 1 + 1 + 1 + 1 + 1)) := ⟨_, rfl⟩
  rw [← hW15] at s15 ⊢
  have hlo15 : E.2.2 ≤ wN W15 := by rw [sg_N s15]; omega
  refine g_aload_n h (i := 142) rfl rfl ?_
  refine g_bipush h (i := 143) rfl (v := 40) (by rfl) ?_
  refine g_newar h hq (i := 144) 0 40 rfl (by decide) rfl wl_arr_int rfl (by decide) ⟨by decide, by decide⟩ ?_
  refine g_ref (sg_N s15) ?_
  refine g_putRF_0 h (i := 145) rfl rfl fl_X10_59 (fun C T q => by rw [clsT10 C T q]; exact ⟨rfl, rfl⟩) (fun _ _ _ => rfl) ((wK_n (k := .inr (0, 40)) (by rw [sg_N s15]; omega)).trans (sg_K s15 (o := 0) (by omega))) rfl rfl ?_
  have s16 := sg_arr 17 (k := .inr (0, 40)) s15 (sg_at (b := 16) (by omega) rfl) (sg_at (b := 16) (by omega) rfl) (fun o t q => q.elim (fun q => q.elim (fun q => q.elim (fun q => q.elim (fun q => q.elim (fun q => q.elim (fun q => q.elim (fun q => q.elim (fun q => q.elim (fun q => q.elim (fun q => q.elim (fun q => q.elim (fun q => q.elim (fun q => q.elim (fun q => q.elim (fun q => q.elim) (fun z => absurd z.2.1 (by decide))) (fun z => absurd z.2.1 (by decide))) (fun z => absurd z.2.1 (by decide))) (fun q => q.elim (fun z => absurd z.2.1 (by decide)) (fun z => z.2.2.elim))) (fun q => q.elim (fun z => absurd z.2.1 (by decide)) (fun z => z.2.2.elim))) (fun q => q.elim (fun z => absurd z.2.1 (by decide)) (fun z => z.2.2.elim))) (fun q => q.elim (fun z => absurd z.2.1 (by decide)) (fun z => z.2.2.elim))) (fun q => q.elim (fun z => absurd z.2.1 (by decide)) (fun z => z.2.2.elim))) (fun z => absurd z.2.1 (by decide))) (fun z => absurd z.2.1 (by decide))) (fun z => absurd z.2.1 (by decide))) (fun z => absurd z.2.1 (by decide))) (fun z => absurd z.2.1 (by decide))) (fun z => absurd z.2.1 (by decide))) (fun z => absurd z.2.1 (by decide)))
  obtain ⟨W16, hW16⟩ : ∃ W16, W16 = sR (sNew W15 (.inr (0, 40))) m 17 (some (m + 1 + 1 + 1 + 1 + 1 + 1 + 1 + 1 + 1 + 1 + 1 + 1 + 1 + 1 + 1 + 1)) := ⟨_, rfl⟩
  rw [← hW16] at s16 ⊢
  have hlo16 : E.2.2 ≤ wN W16 := by rw [sg_N s16]; omega
  refine g_aload_n h (i := 146) rfl rfl ?_
  refine g_bipush h (i := 147) rfl (v := 40) (by rfl) ?_
  refine g_newar h hq (i := 148) 0 40 rfl (by decide) rfl wl_arr_int rfl (by decide) ⟨by decide, by decide⟩ ?_
  refine g_ref (sg_N s16) ?_
  refine g_putRF_0 h (i := 149) rfl rfl fl_X10_62 (fun C T q => by rw [clsT10 C T q]; exact ⟨rfl, rfl⟩) (fun _ _ _ => rfl) ((wK_n (k := .inr (0, 40)) (by rw [sg_N s16]; omega)).trans (sg_K s16 (o := 0) (by omega))) rfl rfl ?_
  have s17 := sg_arr 18 (k := .inr (0, 40)) s16 (sg_at (b := 17) (by omega) rfl) (sg_at (b := 17) (by omega) rfl) (fun o t q => q.elim (fun q => q.elim (fun q => q.elim (fun q => q.elim (fun q => q.elim (fun q => q.elim (fun q => q.elim (fun q => q.elim (fun q => q.elim (fun q => q.elim (fun q => q.elim (fun q => q.elim (fun q => q.elim (fun q => q.elim (fun q => q.elim (fun q => q.elim (fun q => q.elim) (fun z => absurd z.2.1 (by decide))) (fun z => absurd z.2.1 (by decide))) (fun z => absurd z.2.1 (by decide))) (fun q => q.elim (fun z => absurd z.2.1 (by decide)) (fun z => z.2.2.elim))) (fun q => q.elim (fun z => absurd z.2.1 (by decide)) (fun z => z.2.2.elim))) (fun q => q.elim (fun z => absurd z.2.1 (by decide)) (fun z => z.2.2.elim))) (fun q => q.elim (fun z => absurd z.2.1 (by decide)) (fun z => z.2.2.elim))) (fun q => q.elim (fun z => absurd z.2.1 (by decide)) (fun z => z.2.2.elim))) (fun z => absurd z.2.1 (by decide))) (fun z => absurd z.2.1 (by decide))) (fun z => absurd z.2.1 (by decide))) (fun z => absurd z.2.1 (by decide))) (fun z => absurd z.2.1 (by decide))) (fun z => absurd z.2.1 (by decide))) (fun z => absurd z.2.1 (by decide))) (fun z => absurd z.2.1 (by decide)))
  obtain ⟨W17, hW17⟩ : ∃ W17, W17 = sR (sNew W16 (.inr (0, 40))) m 18 (some (m + 1 + 1 + 1 + 1 + 1 + 1 + 1 + 1 + 1 + 1 + 1 + 1 + 1 + 1 + 1 + 1 + 1)) := ⟨_, rfl⟩
  rw [← hW17] at s17 ⊢
  have hlo17 : E.2.2 ≤ wN W17 := by rw [sg_N s17]; omega
  refine g_aload_n h (i := 150) rfl rfl ?_
  refine g_bipush h (i := 151) rfl (v := 40) (by rfl) ?_
  refine g_newar h hq (i := 152) 1 40 rfl (by decide) rfl wl_arr_boolean rfl (by decide) ⟨by decide, by decide⟩ ?_
  refine g_ref (sg_N s17) ?_
  refine g_putRF_0 h (i := 153) rfl rfl fl_X10_65 (fun C T q => by rw [clsT10 C T q]; exact ⟨rfl, rfl⟩) (fun _ _ _ => rfl) ((wK_n (k := .inr (1, 40)) (by rw [sg_N s17]; omega)).trans (sg_K s17 (o := 0) (by omega))) rfl rfl ?_
  have s18 := sg_arr 19 (k := .inr (1, 40)) s17 (sg_at (b := 18) (by omega) rfl) (sg_at (b := 18) (by omega) rfl) (fun o t q => q.elim (fun q => q.elim (fun q => q.elim (fun q => q.elim (fun q => q.elim (fun q => q.elim (fun q => q.elim (fun q => q.elim (fun q => q.elim (fun q => q.elim (fun q => q.elim (fun q => q.elim (fun q => q.elim (fun q => q.elim (fun q => q.elim (fun q => q.elim (fun q => q.elim (fun q => q.elim) (fun z => absurd z.2.1 (by decide))) (fun z => absurd z.2.1 (by decide))) (fun z => absurd z.2.1 (by decide))) (fun q => q.elim (fun z => absurd z.2.1 (by decide)) (fun z => z.2.2.elim))) (fun q => q.elim (fun z => absurd z.2.1 (by decide)) (fun z => z.2.2.elim))) (fun q => q.elim (fun z => absurd z.2.1 (by decide)) (fun z => z.2.2.elim))) (fun q => q.elim (fun z => absurd z.2.1 (by decide)) (fun z => z.2.2.elim))) (fun q => q.elim (fun z => absurd z.2.1 (by decide)) (fun z => z.2.2.elim))) (fun z => absurd z.2.1 (by decide))) (fun z => absurd z.2.1 (by decide))) (fun z => absurd z.2.1 (by decide))) (fun z => absurd z.2.1 (by decide))) (fun z => absurd z.2.1 (by decide))) (fun z => absurd z.2.1 (by decide))) (fun z => absurd z.2.1 (by decide))) (fun z => absurd z.2.1 (by decide))) (fun z => absurd z.2.1 (by decide)))
  obtain ⟨W18, hW18⟩ : ∃ W18, W18 = sR (sNew W17 (.inr (1, 40))) m 19 (some (m + 1 + 1 + 1 + 1 + 1 + 1 + 1 + 1 + 1 + 1 + 1 + 1 + 1 + 1 + 1 + 1 + 1 + 1)) := ⟨_, rfl⟩
  rw [← hW18] at s18 ⊢
  have hlo18 : E.2.2 ≤ wN W18 := by rw [sg_N s18]; omega
  refine g_aload_n h (i := 154) rfl rfl ?_
  refine g_iconst h (i := 155) rfl (v := 4) (by rfl) ?_
  refine g_newar h hq (i := 156) 2 4 rfl (by decide) rfl wl_arr_long rfl (by decide) ⟨by decide, by decide⟩ ?_
  refine g_ref (sg_N s18) ?_
  refine g_putRF_0 h (i := 157) rfl rfl fl_X10_68 (fun C T q => by rw [clsT10 C T q]; exact ⟨rfl, rfl⟩) (fun _ _ _ => rfl) ((wK_n (k := .inr (2, 4)) (by rw [sg_N s18]; omega)).trans (sg_K s18 (o := 0) (by omega))) rfl rfl ?_
  have s19 := sg_arr 22 (k := .inr (2, 4)) s18 (sg_at (b := 19) (by omega) rfl) (sg_at (b := 19) (by omega) rfl) (fun o t q => q.elim (fun q => q.elim (fun q => q.elim (fun q => q.elim (fun q => q.elim (fun q => q.elim (fun q => q.elim (fun q => q.elim (fun q => q.elim (fun q => q.elim (fun q => q.elim (fun q => q.elim (fun q => q.elim (fun q => q.elim (fun q => q.elim (fun q => q.elim (fun q => q.elim (fun q => q.elim (fun q => q.elim) (fun z => absurd z.2.1 (by decide))) (fun z => absurd z.2.1 (by decide))) (fun z => absurd z.2.1 (by decide))) (fun q => q.elim (fun z => absurd z.2.1 (by decide)) (fun z => z.2.2.elim))) (fun q => q.elim (fun z => absurd z.2.1 (by decide)) (fun z => z.2.2.elim))) (fun q => q.elim (fun z => absurd z.2.1 (by decide)) (fun z => z.2.2.elim))) (fun q => q.elim (fun z => absurd z.2.1 (by decide)) (fun z => z.2.2.elim))) (fun q => q.elim (fun z => absurd z.2.1 (by decide)) (fun z => z.2.2.elim))) (fun z => absurd z.2.1 (by decide))) (fun z => absurd z.2.1 (by decide))) (fun z => absurd z.2.1 (by decide))) (fun z => absurd z.2.1 (by decide))) (fun z => absurd z.2.1 (by decide))) (fun z => absurd z.2.1 (by decide))) (fun z => absurd z.2.1 (by decide))) (fun z => absurd z.2.1 (by decide))) (fun z => absurd z.2.1 (by decide))) (fun z => absurd z.2.1 (by decide)))
  obtain ⟨W19, hW19⟩ : ∃ W19, W19 = sR (sNew W18 (.inr (2, 4))) m 22 (some (m + 1 + 1 + 1 + 1 + 1 + 1 + 1 + 1 + 1 + 1 + 1 + 1 + 1 + 1 + 1 + 1 + 1 + 1 + 1)) := ⟨_, rfl⟩
  rw [← hW19] at s19 ⊢
  have hlo19 : E.2.2 ≤ wN W19 := by rw [sg_N s19]; omega
  refine g_aload_n h (i := 158) rfl rfl ?_
  refine g_iconst h (i := 159) rfl (v := 4) (by rfl) ?_
  refine g_newar h hq (i := 160) 2 4 rfl (by decide) rfl wl_arr_long rfl (by decide) ⟨by decide, by decide⟩ ?_
  refine g_ref (sg_N s19) ?_
  refine g_putRF_0 h (i := 161) rfl rfl fl_X10_71 (fun C T q => by rw [clsT10 C T q]; exact ⟨rfl, rfl⟩) (fun _ _ _ => rfl) ((wK_n (k := .inr (2, 4)) (by rw [sg_N s19]; omega)).trans (sg_K s19 (o := 0) (by omega))) rfl rfl ?_
  have s20 := sg_arr 23 (k := .inr (2, 4)) s19 (sg_at (b := 20) (by omega) rfl) (sg_at (b := 20) (by omega) rfl) (fun o t q => q.elim (fun q => q.elim (fun q => q.elim (fun q => q.elim (fun q => q.elim (fun q => q.elim (fun q => q.elim (fun q => q.elim (fun q => q.elim (fun q => q.elim (fun q => q.elim (fun q => q.elim (fun q => q.elim (fun q => q.elim (fun q => q.elim (fun q => q.elim (fun q => q.elim (fun q => q.elim (fun q => q.elim (fun q => q.elim) (fun z => absurd z.2.1 (by decide))) (fun z => absurd z.2.1 (by decide))) (fun z => absurd z.2.1 (by decide))) (fun q => q.elim (fun z => absurd z.2.1 (by decide)) (fun z => z.2.2.elim))) (fun q => q.elim (fun z => absurd z.2.1 (by decide)) (fun z => z.2.2.elim))) (fun q => q.elim (fun z => absurd z.2.1 (by decide)) (fun z => z.2.2.elim))) (fun q => q.elim (fun z => absurd z.2.1 (by decide)) (fun z => z.2.2.elim))) (fun q => q.elim (fun z => absurd z.2.1 (by decide)) (fun z => z.2.2.elim))) (fun z => absurd z.2.1 (by decide))) (fun z => absurd z.2.1 (by decide))) (fun z => absurd z.2.1 (by decide))) (fun z => absurd z.2.1 (by decide))) (fun z => absurd z.2.1 (by decide))) (fun z => absurd z.2.1 (by decide))) (fun z => absurd z.2.1 (by decide))) (fun z => absurd z.2.1 (by decide))) (fun z => absurd z.2.1 (by decide))) (fun z => absurd z.2.1 (by decide))) (fun z => absurd z.2.1 (by decide)))
  obtain ⟨W20, hW20⟩ : ∃ W20, W20 = sR (sNew W19 (.inr (2, 4))) m 23 (some (m + 1 + 1 + 1 + 1 + 1 + 1 + 1 + 1 + 1 + 1 + 1 + 1 + 1 + 1 + 1 + 1 + 1 + 1 + 1 + 1)) := ⟨_, rfl⟩
  rw [← hW20] at s20 ⊢
  have hlo20 : E.2.2 ≤ wN W20 := by rw [sg_N s20]; omega
  refine g_aload_n h (i := 162) rfl rfl ?_
  refine g_iconst h (i := 163) rfl (v := 4) (by rfl) ?_
  refine g_newar h hq (i := 164) 2 4 rfl (by decide) rfl wl_arr_long rfl (by decide) ⟨by decide, by decide⟩ ?_
  refine g_ref (sg_N s20) ?_
  refine g_putRF_0 h (i := 165) rfl rfl fl_X10_74 (fun C T q => by rw [clsT10 C T q]; exact ⟨rfl, rfl⟩) (fun _ _ _ => rfl) ((wK_n (k := .inr (2, 4)) (by rw [sg_N s20]; omega)).trans (sg_K s20 (o := 0) (by omega))) rfl rfl ?_
  have s21 := sg_arr 28 (k := .inr (2, 4)) s20 (sg_at (b := 21) (by omega) rfl) (sg_at (b := 21) (by omega) rfl) (fun o t q => q.elim (fun q => q.elim (fun q => q.elim (fun q => q.elim (fun q => q.elim (fun q => q.elim (fun q => q.elim (fun q => q.elim (fun q => q.elim (fun q => q.elim (fun q => q.elim (fun q => q.elim (fun q => q.elim (fun q => q.elim (fun q => q.elim (fun q => q.elim (fun q => q.elim (fun q => q.elim (fun q => q.elim (fun q => q.elim (fun q => q.elim) (fun z => absurd z.2.1 (by decide))) (fun z => absurd z.2.1 (by decide))) (fun z => absurd z.2.1 (by decide))) (fun q => q.elim (fun z => absurd z.2.1 (by decide)) (fun z => z.2.2.elim))) (fun q => q.elim (fun z => absurd z.2.1 (by decide)) (fun z => z.2.2.elim))) (fun q => q.elim (fun z => absurd z.2.1 (by decide)) (fun z => z.2.2.elim))) (fun q => q.elim (fun z => absurd z.2.1 (by decide)) (fun z => z.2.2.elim))) (fun q => q.elim (fun z => absurd z.2.1 (by decide)) (fun z => z.2.2.elim))) (fun z => absurd z.2.1 (by decide))) (fun z => absurd z.2.1 (by decide))) (fun z => absurd z.2.1 (by decide))) (fun z => absurd z.2.1 (by decide))) (fun z => absurd z.2.1 (by decide))) (fun z => absurd z.2.1 (by decide))) (fun z => absurd z.2.1 (by decide))) (fun z => absurd z.2.1 (by decide))) (fun z => absurd z.2.1 (by decide))) (fun z => absurd z.2.1 (by decide))) (fun z => absurd z.2.1 (by decide))) (fun z => absurd z.2.1 (by decide)))
  obtain ⟨W21, hW21⟩ : ∃ W21, W21 = sR (sNew W20 (.inr (2, 4))) m 28 (some (m + 1 + 1 + 1 + 1 + 1 + 1 + 1 + 1 + 1 + 1 + 1 + 1 + 1 + 1 + 1 + 1 + 1 + 1 + 1 + 1 + 1)) := ⟨_, rfl⟩
  rw [← hW21] at s21 ⊢
  have hlo21 : E.2.2 ≤ wN W21 := by rw [sg_N s21]; omega
  refine g_aload_n h (i := 166) rfl rfl ?_
  refine g_sipush h (i := 167) rfl (v := 2020) (by rfl) ?_
  refine g_newar h hq (i := 168) 2 2020 rfl (by decide) rfl wl_arr_long rfl (by decide) ⟨by decide, by decide⟩ ?_
  refine g_ref (sg_N s21) ?_
  refine g_putRF_0 h (i := 169) rfl rfl fl_X10_77 (fun C T q => by rw [clsT10 C T q]; exact ⟨rfl, rfl⟩) (fun _ _ _ => rfl) ((wK_n (k := .inr (2, 2020)) (by rw [sg_N s21]; omega)).trans (sg_K s21 (o := 0) (by omega))) rfl rfl ?_
  have s22 := sg_arr 29 (k := .inr (2, 2020)) s21 (sg_at (b := 22) (by omega) rfl) (sg_at (b := 22) (by omega) rfl) (fun o t q => q.elim (fun q => q.elim (fun q => q.elim (fun q => q.elim (fun q => q.elim (fun q => q.elim (fun q => q.elim (fun q => q.elim (fun q => q.elim (fun q => q.elim (fun q => q.elim (fun q => q.elim (fun q => q.elim (fun q => q.elim (fun q => q.elim (fun q => q.elim (fun q => q.elim (fun q => q.elim (fun q => q.elim (fun q => q.elim (fun q => q.elim (fun q => q.elim) (fun z => absurd z.2.1 (by decide))) (fun z => absurd z.2.1 (by decide))) (fun z => absurd z.2.1 (by decide))) (fun q => q.elim (fun z => absurd z.2.1 (by decide)) (fun z => z.2.2.elim))) (fun q => q.elim (fun z => absurd z.2.1 (by decide)) (fun z => z.2.2.elim))) (fun q => q.elim (fun z => absurd z.2.1 (by decide)) (fun z => z.2.2.elim))) (fun q => q.elim (fun z => absurd z.2.1 (by decide)) (fun z => z.2.2.elim))) (fun q => q.elim (fun z => absurd z.2.1 (by decide)) (fun z => z.2.2.elim))) (fun z => absurd z.2.1 (by decide))) (fun z => absurd z.2.1 (by decide))) (fun z => absurd z.2.1 (by decide))) (fun z => absurd z.2.1 (by decide))) (fun z => absurd z.2.1 (by decide))) (fun z => absurd z.2.1 (by decide))) (fun z => absurd z.2.1 (by decide))) (fun z => absurd z.2.1 (by decide))) (fun z => absurd z.2.1 (by decide))) (fun z => absurd z.2.1 (by decide))) (fun z => absurd z.2.1 (by decide))) (fun z => absurd z.2.1 (by decide))) (fun z => absurd z.2.1 (by decide)))
  obtain ⟨W22, hW22⟩ : ∃ W22, W22 = sR (sNew W21 (.inr (2, 2020))) m 29 (some (m + 1 + 1 + 1 + 1 + 1 + 1 + 1 + 1 + 1 + 1 + 1 + 1 + 1 + 1 + 1 + 1 + 1 + 1 + 1 + 1 + 1 + 1)) := ⟨_, rfl⟩
  rw [← hW22] at s22 ⊢
  have hlo22 : E.2.2 ≤ wN W22 := by rw [sg_N s22]; omega
  have sB : Sg w W22 m (m + 23) kvR ivR LRR := sg_w s22 (fun _ _ => rfl) (fun _ _ => rfl) (fun o f t q => by
      obtain ⟨rfl, q⟩ := q
      rcases q with ⟨rfl, rfl⟩ | ⟨rfl, rfl⟩ | ⟨rfl, rfl⟩ | ⟨rfl, rfl⟩ | ⟨rfl, rfl⟩ | ⟨rfl, rfl⟩ | ⟨rfl, rfl⟩ | ⟨rfl, rfl⟩ | ⟨rfl, rfl⟩ | ⟨rfl, rfl⟩ | ⟨rfl, rfl⟩ | ⟨rfl, rfl⟩ | ⟨rfl, rfl⟩ | ⟨rfl, rfl⟩ | ⟨rfl, rfl⟩ | ⟨rfl, rfl⟩ | ⟨rfl, rfl⟩ | ⟨rfl, rfl⟩ | ⟨rfl, rfl⟩ | ⟨rfl, rfl⟩ | ⟨rfl, rfl⟩ | ⟨rfl, rfl⟩
      · exact Or.inl (Or.inl (Or.inl (Or.inl (Or.inl (Or.inl (Or.inl (Or.inl (Or.inl (Or.inl (Or.inl (Or.inl (Or.inl (Or.inl (Or.inl (Or.inl (Or.inl (Or.inl (Or.inl (Or.inl (Or.inl (Or.inr (⟨rfl, rfl, by omega⟩))))))))))))))))))))))
      · exact Or.inl (Or.inl (Or.inl (Or.inl (Or.inl (Or.inl (Or.inl (Or.inl (Or.inl (Or.inl (Or.inl (Or.inl (Or.inl (Or.inl (Or.inl (Or.inl (Or.inl (Or.inl (Or.inl (Or.inl (Or.inr (⟨rfl, rfl, by omega⟩)))))))))))))))))))))
      · exact Or.inl (Or.inl (Or.inl (Or.inl (Or.inl (Or.inl (Or.inl (Or.inl (Or.inl (Or.inl (Or.inl (Or.inl (Or.inl (Or.inl (Or.inl (Or.inl (Or.inl (Or.inl (Or.inl (Or.inr (⟨rfl, rfl, by omega⟩))))))))))))))))))))
      · exact Or.inl (Or.inl (Or.inl (Or.inl (Or.inl (Or.inl (Or.inl (Or.inl (Or.inl (Or.inl (Or.inl (Or.inl (Or.inl (Or.inl (Or.inl (Or.inl (Or.inl (Or.inl (Or.inr (Or.inl (⟨rfl, rfl, by omega⟩))))))))))))))))))))
      · exact Or.inl (Or.inl (Or.inl (Or.inl (Or.inl (Or.inl (Or.inl (Or.inl (Or.inl (Or.inl (Or.inl (Or.inl (Or.inl (Or.inl (Or.inl (Or.inl (Or.inl (Or.inr (Or.inl (⟨rfl, rfl, by omega⟩)))))))))))))))))))
      · exact Or.inl (Or.inl (Or.inl (Or.inl (Or.inl (Or.inl (Or.inl (Or.inl (Or.inl (Or.inl (Or.inl (Or.inl (Or.inl (Or.inl (Or.inl (Or.inl (Or.inr (Or.inl (⟨rfl, rfl, by omega⟩))))))))))))))))))
      · exact Or.inl (Or.inl (Or.inl (Or.inl (Or.inl (Or.inl (Or.inl (Or.inl (Or.inl (Or.inl (Or.inl (Or.inl (Or.inl (Or.inl (Or.inl (Or.inr (Or.inl (⟨rfl, rfl, by omega⟩)))))))))))))))))
      · exact Or.inl (Or.inl (Or.inl (Or.inl (Or.inl (Or.inl (Or.inl (Or.inl (Or.inl (Or.inl (Or.inl (Or.inl (Or.inl (Or.inl (Or.inr (Or.inl (⟨rfl, rfl, by omega⟩))))))))))))))))
      · exact Or.inl (Or.inl (Or.inl (Or.inl (Or.inl (Or.inl (Or.inl (Or.inl (Or.inl (Or.inl (Or.inl (Or.inl (Or.inl (Or.inr (⟨rfl, rfl, by omega⟩))))))))))))))
      · exact Or.inl (Or.inl (Or.inl (Or.inl (Or.inl (Or.inl (Or.inl (Or.inl (Or.inl (Or.inl (Or.inl (Or.inl (Or.inr (⟨rfl, rfl, by omega⟩)))))))))))))
      · exact Or.inl (Or.inl (Or.inl (Or.inl (Or.inl (Or.inl (Or.inl (Or.inl (Or.inl (Or.inl (Or.inl (Or.inr (⟨rfl, rfl, by omega⟩))))))))))))
      · exact Or.inl (Or.inl (Or.inl (Or.inl (Or.inl (Or.inl (Or.inl (Or.inl (Or.inl (Or.inl (Or.inr (⟨rfl, rfl, by omega⟩)))))))))))
      · exact Or.inl (Or.inl (Or.inl (Or.inl (Or.inl (Or.inl (Or.inl (Or.inl (Or.inl (Or.inr (⟨rfl, rfl, by omega⟩))))))))))
      · exact Or.inl (Or.inl (Or.inl (Or.inl (Or.inl (Or.inl (Or.inl (Or.inl (Or.inr (⟨rfl, rfl, by omega⟩)))))))))
      · exact Or.inl (Or.inl (Or.inl (Or.inl (Or.inl (Or.inl (Or.inl (Or.inr (⟨rfl, rfl, by omega⟩))))))))
      · exact Or.inl (Or.inl (Or.inl (Or.inl (Or.inl (Or.inl (Or.inr (⟨rfl, rfl, by omega⟩)))))))
      · exact Or.inl (Or.inl (Or.inl (Or.inl (Or.inl (Or.inr (⟨rfl, rfl, by omega⟩))))))
      · exact Or.inl (Or.inl (Or.inl (Or.inl (Or.inr (⟨rfl, rfl, by omega⟩)))))
      · exact Or.inl (Or.inl (Or.inl (Or.inr (⟨rfl, rfl, by omega⟩))))
      · exact Or.inl (Or.inl (Or.inr (⟨rfl, rfl, by omega⟩)))
      · exact Or.inl (Or.inr (⟨rfl, rfl, by omega⟩))
      · exact Or.inr (⟨rfl, rfl, by omega⟩))
  have kA : wK W22 m = some (.inl 10) := sg_K sB (o := 0) (by omega)
  have kB : wK W22 (m + 1) = some (.inr (2, 408)) := sg_K sB (o := 1) (by omega)
  have rB : wR W22 m 0 = some (m + 1) := sg_R sB (o := 0) (f := 0) (t := 1) ⟨rfl, Or.inl ⟨rfl, rfl⟩⟩
  refine g_aload_n h (i := 170) rfl rfl ?_
  refine g_getR h (i := 171) rfl fl_X10_7 (fun _ _ _ => rfl) kA rB ?_
  refine g_bipush h (i := 172) rfl (v := 48) (by rfl) ?_
  refine g_ldc2 h (i := 173) rfl k_X10_80 ?_
  refine g_last h (i := 174) rfl kB (vpD (by decide)) ?_
  refine g_wJ5 (y := 48) (by decide) ?_
  refine g_aload_n h (i := 175) rfl rfl ?_
  refine g_getR h (i := 176) rfl fl_X10_7 (fun _ _ _ => rfl) kA rB ?_
  refine g_bipush h (i := 177) rfl (v := 49) (by rfl) ?_
  refine g_ldc2 h (i := 178) rfl k_X10_80 ?_
  refine g_last h (i := 179) rfl kB (vpD (by decide)) ?_
  refine g_wJ5 (y := 49) (by decide) ?_
  refine g_aload_n h (i := 180) rfl rfl ?_
  refine g_getR h (i := 181) rfl fl_X10_7 (fun _ _ _ => rfl) kA rB ?_
  refine g_bipush h (i := 182) rfl (v := 50) (by rfl) ?_
  refine g_ldc2 h (i := 183) rfl k_X10_80 ?_
  refine g_last h (i := 184) rfl kB (vpD (by decide)) ?_
  refine g_wJ5 (y := 50) (by decide) ?_
  exact g_vret hq h (i := 185) rfl ⟨rfl, W22, sB, rfl⟩
