theorem sg_at {α : Type} {f : Nat → α} {a b : Nat} {x : α} (e : a = b) (h : f b = x) : f a = x := by rw [e]; exact h
def kvT : Nat → Option (Nat ⊕ (Nat × Nat)) := fun o => if o = 0 then some (.inl 4) else some (.inr (0, 4))
def iv0 : Nat → Nat → Int32 := fun _ => z32
def LRT : Nat → Nat → Nat → Prop := fun o f t => o = 0 ∧ f < 2 ∧ t = f + 1
def kvP5 : Nat → Option (Nat ⊕ (Nat × Nat)) := fun o => if o = 0 then some (.inl 5) else some (.inr (0, 4))
def LR5 : Nat → Nat → Nat → Prop := fun o f t => o = 0 ∧ f = 1 ∧ t = 1
def kvP6 : Nat → Option (Nat ⊕ (Nat × Nat)) := fun o => if o = 0 then some (.inl 6) else some (.inr (0, 60))
def kvP7 : Nat → Option (Nat ⊕ (Nat × Nat)) := fun o => if o = 0 then some (.inl 7) else if o = 3 then some (.inr (1, 40)) else some (.inr (0, 40))
def LR3 : Nat → Nat → Nat → Prop := fun o f t => o = 0 ∧ f < 3 ∧ t = f + 1
def kvO (ci : Nat) : Nat → Option (Nat ⊕ (Nat × Nat)) := fun _ => some (.inl ci)
def LRN : Nat → Nat → Nat → Prop := fun _ _ _ => False
def jv : Nat → Int32 := up1 (up1 (up1 (up1 (up1 (up1 z32 0 0) 1 100) 2 (-500000)) 3 500000) 4 10000) 5 1000
theorem wl_oi : Cond.instanceMethod objectInit ∈ lw_ok := lw_in (List.mem_of_getElem? (i := 55) (by decide +kernel)) rfl
theorem wl_oc : Cond.code objectInit ⟨#[0xb1]⟩ 1 none ∈ lw_ok := lw_in (List.mem_of_getElem? (i := 56) (by decide +kernel)) rfl
theorem wl_ol_X4 : Cond.methodLink RX4 3 objectInit ∈ lw_ok := lw_in (List.mem_of_getElem? (i := 242) (by decide +kernel)) rfl
theorem wl_arr_int : Cond.arrayClass (tA 0) ∈ lw_ok := lw_in (List.mem_of_getElem? (i := 93) (by decide +kernel)) rfl
-- X4_init
set_option maxRecDepth 100000 in
set_option maxHeartbeats 4000000 in
theorem cn_X4_init (l : Launch) (E : EE) (w : Wd) (m : Nat) (hlo : E.2.2 ≤ wN w) (hN : wN w = m + 1) (hK : wK w m = some (.inl 4)) (hI : wI w m = z32) (hJ : wJ w m = z64) : CtN l E yX4_init cX4_init 1 none ({ frames := 1, cells := 2, slots := 8, locals := 12 } : Room) [.ref m] w 2 8 (fun q w2 => q = none ∧ Sg w w2 m (m + 3) kvT iv0 LRT) := by
  refine ct_inN (il := il_X4_init) (by decide) dk_X4_init (Nat.le_of_ble_eq_true rfl) hlo ?_
  intro X h hq hNK
  have s0 := sg_0 (kv := kvT) (iv := iv0) hN hK hI hJ
  refine g_aload_n h (i := 0) rfl rfl ?_
  refine g_oinit h hq (i := 1) rfl wl_ol_X4 wl_oi wl_oc ⟨by decide, by decide⟩ ?_
  refine g_aload_n h (i := 2) rfl rfl ?_
  refine g_iconst h (i := 3) rfl (v := 4) (by rfl) ?_
  refine g_newar h hq (i := 4) 0 4 rfl (by decide) rfl wl_arr_int rfl (by decide) ⟨by decide, by decide⟩ ?_
  refine g_ref (sg_N s0) ?_
  refine g_putRF_0 h (i := 5) rfl rfl fl_X4_9 (fun C T q => by rw [clsT4 C T q]; exact ⟨rfl, rfl⟩) (fun _ _ _ => rfl) ((wK_n (k := .inr (0, 4)) (by rw [sg_N s0]; omega)).trans (sg_K s0 (o := 0) (by omega))) rfl rfl ?_
  have s1 := sg_arr 0 (k := .inr (0, 4)) s0 (sg_at (b := 1) (by omega) rfl) (sg_at (b := 1) (by omega) rfl) (fun o t q => q.elim)
  obtain ⟨W1, hW1⟩ : ∃ W1, W1 = sR (sNew w (.inr (0, 4))) m 0 (some (m + 1)) := ⟨_, rfl⟩
  rw [← hW1] at s1 ⊢
  have hlo1 : E.2.2 ≤ wN W1 := by rw [sg_N s1]; omega
  refine g_aload_n h (i := 6) rfl rfl ?_
  refine g_iconst h (i := 7) rfl (v := 4) (by rfl) ?_
  refine g_newar h hq (i := 8) 0 4 rfl (by decide) rfl wl_arr_int rfl (by decide) ⟨by decide, by decide⟩ ?_
  refine g_ref (sg_N s1) ?_
  refine g_putRF_0 h (i := 9) rfl rfl fl_X4_15 (fun C T q => by rw [clsT4 C T q]; exact ⟨rfl, rfl⟩) (fun _ _ _ => rfl) ((wK_n (k := .inr (0, 4)) (by rw [sg_N s1]; omega)).trans (sg_K s1 (o := 0) (by omega))) rfl rfl ?_
  have s2 := sg_arr 1 (k := .inr (0, 4)) s1 (sg_at (b := 2) (by omega) rfl) (sg_at (b := 2) (by omega) rfl) (fun o t q => q.elim (fun q => q.elim) (fun z => absurd z.2.1 (by decide)))
  obtain ⟨W2, hW2⟩ : ∃ W2, W2 = sR (sNew W1 (.inr (0, 4))) m 1 (some (m + 1 + 1)) := ⟨_, rfl⟩
  rw [← hW2] at s2 ⊢
  have hlo2 : E.2.2 ≤ wN W2 := by rw [sg_N s2]; omega
  exact g_vret hq h (i := 10) rfl (⟨rfl, sg_w s2 (fun _ _ => rfl) (fun _ _ => rfl) (fun o f t q => by unfold LRT at q; (try dsimp only); omega)⟩)
theorem wl_ol_X5 : Cond.methodLink RX5 3 objectInit ∈ lw_ok := lw_in (List.mem_of_getElem? (i := 193) (by decide +kernel)) rfl
-- X5_init
set_option maxRecDepth 100000 in
set_option maxHeartbeats 4000000 in
theorem cn_X5_init (l : Launch) (E : EE) (w : Wd) (m : Nat) (hlo : E.2.2 ≤ wN w) (hN : wN w = m + 1) (hK : wK w m = some (.inl 5)) (hI : wI w m = z32) (hJ : wJ w m = z64) : CtN l E yX5_init cX5_init 1 none ({ frames := 1, cells := 1, slots := 4, locals := 12 } : Room) [.ref m] w 1 4 (fun q w2 => q = none ∧ Sg w w2 m (m + 2) kvP5 iv0 LR5) := by
  refine ct_inN (il := il_X5_init) (by decide) dk_X5_init (Nat.le_of_ble_eq_true rfl) hlo ?_
  intro X h hq hNK
  have s0 := sg_0 (kv := kvP5) (iv := iv0) hN hK hI hJ
  refine g_aload_n h (i := 0) rfl rfl ?_
  refine g_oinit h hq (i := 1) rfl wl_ol_X5 wl_oi wl_oc ⟨by decide, by decide⟩ ?_
  refine g_aload_n h (i := 2) rfl rfl ?_
  refine g_iconst h (i := 3) rfl (v := 4) (by rfl) ?_
  refine g_newar h hq (i := 4) 0 4 rfl (by decide) rfl wl_arr_int rfl (by decide) ⟨by decide, by decide⟩ ?_
  refine g_ref (sg_N s0) ?_
  refine g_putRF_0 h (i := 5) rfl rfl fl_X5_9 (fun C T q => by rw [clsT5 C T q]; exact ⟨rfl, rfl⟩) (fun _ _ _ => rfl) ((wK_n (k := .inr (0, 4)) (by rw [sg_N s0]; omega)).trans (sg_K s0 (o := 0) (by omega))) rfl rfl ?_
  have s1 := sg_arr 1 (k := .inr (0, 4)) s0 (sg_at (b := 1) (by omega) rfl) (sg_at (b := 1) (by omega) rfl) (fun o t q => q.elim)
  obtain ⟨W1, hW1⟩ : ∃ W1, W1 = sR (sNew w (.inr (0, 4))) m 1 (some (m + 1)) := ⟨_, rfl⟩
  rw [← hW1] at s1 ⊢
  have hlo1 : E.2.2 ≤ wN W1 := by rw [sg_N s1]; omega
  exact g_vret hq h (i := 6) rfl (⟨rfl, sg_w s1 (fun _ _ => rfl) (fun _ _ => rfl) (fun o f t q => by unfold LR5 at q; (try dsimp only); omega)⟩)
theorem wl_ol_X6 : Cond.methodLink RX6 3 objectInit ∈ lw_ok := lw_in (List.mem_of_getElem? (i := 74) (by decide +kernel)) rfl
-- X6_init
set_option maxRecDepth 100000 in
set_option maxHeartbeats 4000000 in
theorem cn_X6_init (l : Launch) (E : EE) (w : Wd) (m : Nat) (hlo : E.2.2 ≤ wN w) (hN : wN w = m + 1) (hK : wK w m = some (.inl 6)) (hI : wI w m = z32) (hJ : wJ w m = z64) : CtN l E yX6_init cX6_init 1 none ({ frames := 1, cells := 3, slots := 180, locals := 12 } : Room) [.ref m] w 3 180 (fun q w2 => q = none ∧ Sg w w2 m (m + 4) kvP6 iv0 LR3) := by
  refine ct_inN (il := il_X6_init) (by decide) dk_X6_init (Nat.le_of_ble_eq_true rfl) hlo ?_
  intro X h hq hNK
  have s0 := sg_0 (kv := kvP6) (iv := iv0) hN hK hI hJ
  refine g_aload_n h (i := 0) rfl rfl ?_
  refine g_oinit h hq (i := 1) rfl wl_ol_X6 wl_oi wl_oc ⟨by decide, by decide⟩ ?_
  refine g_aload_n h (i := 2) rfl rfl ?_
  refine g_bipush h (i := 3) rfl (v := 60) (by rfl) ?_
  refine g_newar h hq (i := 4) 0 60 rfl (by decide) rfl wl_arr_int rfl (by decide) ⟨by decide, by decide⟩ ?_
  refine g_ref (sg_N s0) ?_
  refine g_putRF_0 h (i := 5) rfl rfl fl_X6_9 (fun C T q => by rw [clsT6 C T q]; exact ⟨rfl, rfl⟩) (fun _ _ _ => rfl) ((wK_n (k := .inr (0, 60)) (by rw [sg_N s0]; omega)).trans (sg_K s0 (o := 0) (by omega))) rfl rfl ?_
  have s1 := sg_arr 0 (k := .inr (0, 60)) s0 (sg_at (b := 1) (by omega) rfl) (sg_at (b := 1) (by omega) rfl) (fun o t q => q.elim)
  obtain ⟨W1, hW1⟩ : ∃ W1, W1 = sR (sNew w (.inr (0, 60))) m 0 (some (m + 1)) := ⟨_, rfl⟩
  rw [← hW1] at s1 ⊢
  have hlo1 : E.2.2 ≤ wN W1 := by rw [sg_N s1]; omega
  refine g_aload_n h (i := 6) rfl rfl ?_
  refine g_bipush h (i := 7) rfl (v := 60) (by rfl) ?_
  refine g_newar h hq (i := 8) 0 60 rfl (by decide) rfl wl_arr_int rfl (by decide) ⟨by decide, by decide⟩ ?_
  refine g_ref (sg_N s1) ?_
  refine g_putRF_0 h (i := 9) rfl rfl fl_X6_15 (fun C T q => by rw [clsT6 C T q]; exact ⟨rfl, rfl⟩) (fun _ _ _ => rfl) ((wK_n (k := .inr (0, 60)) (by rw [sg_N s1]; omega)).trans (sg_K s1 (o := 0) (by omega))) rfl rfl ?_
  have s2 := sg_arr 1 (k := .inr (0, 60)) s1 (sg_at (b := 2) (by omega) rfl) (sg_at (b := 2) (by omega) rfl) (fun o t q => q.elim (fun q => q.elim) (fun z => absurd z.2.1 (by decide)))
  obtain ⟨W2, hW2⟩ : ∃ W2, W2 = sR (sNew W1 (.inr (0, 60))) m 1 (some (m + 1 + 1)) := ⟨_, rfl⟩
  rw [← hW2] at s2 ⊢
  have hlo2 : E.2.2 ≤ wN W2 := by rw [sg_N s2]; omega
  refine g_aload_n h (i := 10) rfl rfl ?_
  refine g_bipush h (i := 11) rfl (v := 60) (by rfl) ?_
  refine g_newar h hq (i := 12) 0 60 rfl (by decide) rfl wl_arr_int rfl (by decide) ⟨by decide, by decide⟩ ?_
  refine g_ref (sg_N s2) ?_
  refine g_putRF_0 h (i := 13) rfl rfl fl_X6_18 (fun C T q => by rw [clsT6 C T q]; exact ⟨rfl, rfl⟩) (fun _ _ _ => rfl) ((wK_n (k := .inr (0, 60)) (by rw [sg_N s2]; omega)).trans (sg_K s2 (o := 0) (by omega))) rfl rfl ?_
  have s3 := sg_arr 2 (k := .inr (0, 60)) s2 (sg_at (b := 3) (by omega) rfl) (sg_at (b := 3) (by omega) rfl) (fun o t q => q.elim (fun q => q.elim (fun q => q.elim) (fun z => absurd z.2.1 (by decide))) (fun z => absurd z.2.1 (by decide)))
  obtain ⟨W3, hW3⟩ : ∃ W3, W3 = sR (sNew W2 (.inr (0, 60))) m 2 (some (m + 1 + 1 + 1)) := ⟨_, rfl⟩
  rw [← hW3] at s3 ⊢
  have hlo3 : E.2.2 ≤ wN W3 := by rw [sg_N s3]; omega
  exact g_vret hq h (i := 14) rfl (⟨rfl, sg_w s3 (fun _ _ => rfl) (fun _ _ => rfl) (fun o f t q => by unfold LR3 at q; (try dsimp only); omega)⟩)
theorem wl_ol_X7 : Cond.methodLink RX7 3 objectInit ∈ lw_ok := lw_in (List.mem_of_getElem? (i := 99) (by decide +kernel)) rfl
theorem wl_arr_boolean : Cond.arrayClass (tA 1) ∈ lw_ok := lw_in (List.mem_of_getElem? (i := 114) (by decide +kernel)) rfl
-- X7_init
set_option maxRecDepth 100000 in
set_option maxHeartbeats 4000000 in
theorem cn_X7_init (l : Launch) (E : EE) (w : Wd) (m : Nat) (hlo : E.2.2 ≤ wN w) (hN : wN w = m + 1) (hK : wK w m = some (.inl 7)) (hI : wI w m = z32) (hJ : wJ w m = z64) : CtN l E yX7_init cX7_init 1 none ({ frames := 1, cells := 3, slots := 120, locals := 12 } : Room) [.ref m] w 3 120 (fun q w2 => q = none ∧ Sg w w2 m (m + 4) kvP7 iv0 LR3) := by
  refine ct_inN (il := il_X7_init) (by decide) dk_X7_init (Nat.le_of_ble_eq_true rfl) hlo ?_
  intro X h hq hNK
  have s0 := sg_0 (kv := kvP7) (iv := iv0) hN hK hI hJ
  refine g_aload_n h (i := 0) rfl rfl ?_
  refine g_oinit h hq (i := 1) rfl wl_ol_X7 wl_oi wl_oc ⟨by decide, by decide⟩ ?_
  refine g_aload_n h (i := 2) rfl rfl ?_
  refine g_bipush h (i := 3) rfl (v := 40) (by rfl) ?_
  refine g_newar h hq (i := 4) 0 40 rfl (by decide) rfl wl_arr_int rfl (by decide) ⟨by decide, by decide⟩ ?_
  refine g_ref (sg_N s0) ?_
  refine g_putRF_0 h (i := 5) rfl rfl fl_X7_9 (fun C T q => by rw [clsT7 C T q]; exact ⟨rfl, rfl⟩) (fun _ _ _ => rfl) ((wK_n (k := .inr (0, 40)) (by rw [sg_N s0]; omega)).trans (sg_K s0 (o := 0) (by omega))) rfl rfl ?_
  have s1 := sg_arr 0 (k := .inr (0, 40)) s0 (sg_at (b := 1) (by omega) rfl) (sg_at (b := 1) (by omega) rfl) (fun o t q => q.elim)
  obtain ⟨W1, hW1⟩ : ∃ W1, W1 = sR (sNew w (.inr (0, 40))) m 0 (some (m + 1)) := ⟨_, rfl⟩
  rw [← hW1] at s1 ⊢
  have hlo1 : E.2.2 ≤ wN W1 := by rw [sg_N s1]; omega
  refine g_aload_n h (i := 6) rfl rfl ?_
  refine g_bipush h (i := 7) rfl (v := 40) (by rfl) ?_
  refine g_newar h hq (i := 8) 0 40 rfl (by decide) rfl wl_arr_int rfl (by decide) ⟨by decide, by decide⟩ ?_
  refine g_ref (sg_N s1) ?_
  refine g_putRF_0 h (i := 9) rfl rfl fl_X7_15 (fun C T q => by rw [clsT7 C T q]; exact ⟨rfl, rfl⟩) (fun _ _ _ => rfl) ((wK_n (k := .inr (0, 40)) (by rw [sg_N s1]; omega)).trans (sg_K s1 (o := 0) (by omega))) rfl rfl ?_
  have s2 := sg_arr 1 (k := .inr (0, 40)) s1 (sg_at (b := 2) (by omega) rfl) (sg_at (b := 2) (by omega) rfl) (fun o t q => q.elim (fun q => q.elim) (fun z => absurd z.2.1 (by decide)))
  obtain ⟨W2, hW2⟩ : ∃ W2, W2 = sR (sNew W1 (.inr (0, 40))) m 1 (some (m + 1 + 1)) := ⟨_, rfl⟩
  rw [← hW2] at s2 ⊢
  have hlo2 : E.2.2 ≤ wN W2 := by rw [sg_N s2]; omega
  refine g_aload_n h (i := 10) rfl rfl ?_
  refine g_bipush h (i := 11) rfl (v := 40) (by rfl) ?_
  refine g_newar h hq (i := 12) 1 40 rfl (by decide) rfl wl_arr_boolean rfl (by decide) ⟨by decide, by decide⟩ ?_
  refine g_ref (sg_N s2) ?_
  refine g_putRF_0 h (i := 13) rfl rfl fl_X7_18 (fun C T q => by rw [clsT7 C T q]; exact ⟨rfl, rfl⟩) (fun _ _ _ => rfl) ((wK_n (k := .inr (1, 40)) (by rw [sg_N s2]; omega)).trans (sg_K s2 (o := 0) (by omega))) rfl rfl ?_
  have s3 := sg_arr 2 (k := .inr (1, 40)) s2 (sg_at (b := 3) (by omega) rfl) (sg_at (b := 3) (by omega) rfl) (fun o t q => q.elim (fun q => q.elim (fun q => q.elim) (fun z => absurd z.2.1 (by decide))) (fun z => absurd z.2.1 (by decide)))
  obtain ⟨W3, hW3⟩ : ∃ W3, W3 = sR (sNew W2 (.inr (1, 40))) m 2 (some (m + 1 + 1 + 1)) := ⟨_, rfl⟩
  rw [← hW3] at s3 ⊢
  have hlo3 : E.2.2 ≤ wN W3 := by rw [sg_N s3]; omega
  exact g_vret hq h (i := 14) rfl (⟨rfl, sg_w s3 (fun _ _ => rfl) (fun _ _ => rfl) (fun o f t q => by unfold LR3 at q; (try dsimp only); omega)⟩)
theorem wl_ol_X0 : Cond.methodLink RX0 1 objectInit ∈ lw_ok := lw_in (List.mem_of_getElem? (i := 170) (by decide +kernel)) rfl
-- X0_init
set_option maxRecDepth 100000 in
set_option maxHeartbeats 4000000 in
theorem cn_X0_init (l : Launch) (E : EE) (w : Wd) (m : Nat) (hlo : E.2.2 ≤ wN w) (hN : wN w = m + 1) (hK : wK w m = some (.inl 0)) (hI : wI w m = z32) (hJ : wJ w m = z64) : CtN l E yX0_init cX0_init 1 none ({ frames := 1, cells := 0, slots := 0, locals := 12 } : Room) [.ref m] w 0 0 (fun q w2 => q = none ∧ Sg w w2 m (m + 1) (kvO 0) iv0 LRN) := by
  refine ct_inN (il := il_X0_init) (by decide) dk_X0_init (Nat.le_of_ble_eq_true rfl) hlo ?_
  intro X h hq hNK
  have s0 := sg_0 (kv := (kvO 0)) (iv := iv0) hN hK hI hJ
  refine g_aload_n h (i := 0) rfl rfl ?_
  refine g_oinit h hq (i := 1) rfl wl_ol_X0 wl_oi wl_oc ⟨by decide, by decide⟩ ?_
  exact g_vret hq h (i := 2) rfl (⟨rfl, s0⟩)
theorem wl_ol_X8 : Cond.methodLink RX8 3 objectInit ∈ lw_ok := lw_in (List.mem_of_getElem? (i := 120) (by decide +kernel)) rfl
-- X8_init
set_option maxRecDepth 100000 in
set_option maxHeartbeats 4000000 in
theorem cn_X8_init (l : Launch) (E : EE) (w : Wd) (m : Nat) (hlo : E.2.2 ≤ wN w) (hN : wN w = m + 1) (hK : wK w m = some (.inl 8)) (hI : wI w m = z32) (hJ : wJ w m = z64) : CtN l E yX8_init cX8_init 1 none ({ frames := 1, cells := 0, slots := 0, locals := 12 } : Room) [.ref m] w 0 0 (fun q w2 => q = none ∧ Sg w w2 m (m + 1) (kvO 8) iv0 LRN) := by
  refine ct_inN (il := il_X8_init) (by decide) dk_X8_init (Nat.le_of_ble_eq_true rfl) hlo ?_
  intro X h hq hNK
  have s0 := sg_0 (kv := (kvO 8)) (iv := iv0) hN hK hI hJ
  refine g_aload_n h (i := 0) rfl rfl ?_
  refine g_oinit h hq (i := 1) rfl wl_ol_X8 wl_oi wl_oc ⟨by decide, by decide⟩ ?_
  exact g_vret hq h (i := 2) rfl (⟨rfl, s0⟩)
theorem wl_ol_X2 : Cond.methodLink RX2 1 objectInit ∈ lw_ok := lw_in (List.mem_of_getElem? (i := 134) (by decide +kernel)) rfl
-- X2_init
set_option maxRecDepth 100000 in
set_option maxHeartbeats 4000000 in
theorem cn_X2_init (l : Launch) (E : EE) (w : Wd) (m : Nat) (hlo : E.2.2 ≤ wN w) (hN : wN w = m + 1) (hK : wK w m = some (.inl 2)) (hI : wI w m = z32) (hJ : wJ w m = z64) : CtN l E yX2_init cX2_init 1 none ({ frames := 1, cells := 0, slots := 0, locals := 12 } : Room) [.ref m] w 0 0 (fun q w2 => q = none ∧ Sg w w2 m (m + 1) (kvO 2) (fun _ => jv) LRN) := by
  refine ct_inN (il := il_X2_init) (by decide) dk_X2_init (Nat.le_of_ble_eq_true rfl) hlo ?_
  intro X h hq hNK
  have s0 := sg_0 (kv := (kvO 2)) (iv := iv0) hN hK hI hJ
  refine g_aload_n h (i := 0) rfl rfl ?_
  refine g_oinit h hq (i := 1) rfl wl_ol_X2 wl_oi wl_oc ⟨by decide, by decide⟩ ?_
  refine g_aload_n h (i := 2) rfl rfl ?_
  refine g_iconst h (i := 3) rfl (v := 0) (by rfl) ?_
  refine g_putI_0 h (i := 4) rfl fl_X2_7 nf_2_0 (fun _ _ _ => rfl) hK rfl (by rfl) ?_
  have s1 := sg_I (k := 0) (v := 0) s0
  refine g_aload_n h (i := 5) rfl rfl ?_
  refine g_bipush h (i := 6) rfl (v := 100) (by rfl) ?_
  refine g_putI_0 h (i := 7) rfl fl_X2_13 nf_2_1 (fun _ _ _ => rfl) hK rfl (by rfl) ?_
  have s2 := sg_I (k := 1) (v := 100) s1
  refine g_aload_n h (i := 8) rfl rfl ?_
  refine g_ldc h (i := 9) rfl k_X2_16 ?_
  refine g_putI_0 h (i := 10) rfl fl_X2_17 nf_2_2 (fun _ _ _ => rfl) hK rfl (by rfl) ?_
  have s3 := sg_I (k := 2) (v := -500000) s2
  refine g_aload_n h (i := 11) rfl rfl ?_
  refine g_ldc h (i := 12) rfl k_X2_20 ?_
  refine g_putI_0 h (i := 13) rfl fl_X2_21 nf_2_3 (fun _ _ _ => rfl) hK rfl (by rfl) ?_
  have s4 := sg_I (k := 3) (v := 500000) s3
  refine g_aload_n h (i := 14) rfl rfl ?_
  refine g_sipush h (i := 15) rfl (v := 10000) (by rfl) ?_
  refine g_putI_0 h (i := 16) rfl fl_X2_24 nf_2_4 (fun _ _ _ => rfl) hK rfl (by rfl) ?_
  have s5 := sg_I (k := 4) (v := 10000) s4
  refine g_aload_n h (i := 17) rfl rfl ?_
  refine g_sipush h (i := 18) rfl (v := 1000) (by rfl) ?_
  refine g_putI_0 h (i := 19) rfl fl_X2_27 nf_2_5 (fun _ _ _ => rfl) hK rfl (by rfl) ?_
  have s6 := sg_I (k := 5) (v := 1000) s5
  exact g_vret hq h (i := 20) rfl (⟨rfl, sg_w s6 (fun _ _ => rfl) (fun o ho => by (have e : o = 0 := by omega); subst e; rfl) (fun o f t q => q)⟩)
