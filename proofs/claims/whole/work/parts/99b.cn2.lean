theorem sg_obj0 {w W W2 : Wd} {m n n2 : Nat} {kv kv2 : Nat → Option (Nat ⊕ (Nat × Nat))} {iv iv2 : Nat → Nat → Int32} {LR LR2 : Nat → Nat → Nat → Prop} (f : Nat) {k : Nat ⊕ (Nat × Nat)} (h : Sg w W m n kv iv LR) (g : Sg (sNew W k) W2 n n2 kv2 iv2 LR2) (hk : ∀ o, n + o < n2 → kv (n - m + o) = kv2 o) (hi : ∀ o, n + o < n2 → iv (n - m + o) = iv2 o) (hf : ∀ o t, LR o f t → o ≠ 0) : Sg w (sR W2 m f (some n)) m n2 kv iv (fun o f' t => LR o f' t ∨ (o = 0 ∧ f' = f ∧ t = n - m) ∨ (n - m ≤ o ∧ n - m ≤ t ∧ LR2 (o - (n - m)) f' (t - (n - m)))) := sg_obj (o1 := 0) f h g hk hi (by have := h.2.2.2; omega) hf
def okT : FieldType → Bool
  | .int => true
  | .boolean => true
  | .long => true
  | .double => true
  | .object _ => true
  | .array _ => true
  | _ => false
theorem dv_ok {ty : FieldType} {w : Wd} {k : Nat ⊕ (Nat × Nat)} {j : Nat} (h : okT ty = true) : defaultValue ty = fv ty (sNew w k) (wN w) j := by
  cases ty with
  | int => exact (congrArg Value.int (nI_s (w := w) (k := k) (y := j))).symm
  | boolean => exact (congrArg Value.int (nI_s (w := w) (k := k) (y := j))).symm
  | long => exact (congrArg Value.long (nJ_s (w := w) (k := k) (y := j))).symm
  | double => exact (congrArg Value.double (nD_s (w := w) (k := k) (y := j))).symm
  | object C => exact (congrArg va_rf (nR_s (w := w) (k := k) (y := j))).symm
  | array C => exact (congrArg va_rf (nR_s (w := w) (k := k) (y := j))).symm
  | byte => exact absurd h (by decide)
  | char => exact absurd h (by decide)
  | float => exact absurd h (by decide)
  | short => exact absurd h (by decide)
theorem dv0 : ∀ j, j < cN 0 → okT (cT 0 j) = true := by decide
theorem dv1 : ∀ j, j < cN 1 → okT (cT 1 j) = true := by decide
theorem dv2 : ∀ j, j < cN 2 → okT (cT 2 j) = true := by decide
theorem dv3 : ∀ j, j < cN 3 → okT (cT 3 j) = true := by decide
theorem dv4 : ∀ j, j < cN 4 → okT (cT 4 j) = true := by decide
theorem dv5 : ∀ j, j < cN 5 → okT (cT 5 j) = true := by decide
theorem dv6 : ∀ j, j < cN 6 → okT (cT 6 j) = true := by decide
theorem dv7 : ∀ j, j < cN 7 → okT (cT 7 j) = true := by decide
theorem dv8 : ∀ j, j < cN 8 → okT (cT 8 j) = true := by decide
theorem dv9 : ∀ j, j < cN 9 → okT (cT 9 j) = true := by decide
theorem dv10 : ∀ j, j < cN 10 → okT (cT 10 j) = true := by decide
def kvM : Nat → Option (Nat ⊕ (Nat × Nat)) := fun o => if o < 7 then (match o with | 0 => some (.inl 3) | 1 => some (.inr (0, 4)) | 2 => some (.inr (2, 4)) | 3 => some (.inr (1, 8)) | 4 => some (.inr (1, 8)) | 5 => some (.inr (0, 8)) | _ => some (.inr (0, 12))) else kvT (o - 7)
def mv : Nat → Int32 := up1 (up1 (up1 (up1 z32 8 0) 15 (-1)) 16 (-1)) 17 (-1)
def ivM : Nat → Nat → Int32 := fun o => if o = 0 then mv else z32
def LRM : Nat → Nat → Nat → Prop := fun o f t => (o = 0 ∧ f < 7 ∧ t = f + 1) ∨ (o = 7 ∧ f < 2 ∧ t = f + 8)
theorem wl_ol_X3 : Cond.methodLink RX3 3 objectInit ∈ lw_ok := lw_in (List.mem_of_getElem? (i := 236) (by decide +kernel)) rfl
theorem wl_arr_long : Cond.arrayClass (tA 2) ∈ lw_ok := lw_in (List.mem_of_getElem? (i := 264) (by decide +kernel)) rfl
theorem wl_cl_X3_32 : Cond.classLink RX3 32 RX4 ∈ lw_ok := lw_in (List.mem_of_getElem? (i := 237) (by decide +kernel)) rfl
theorem wl_in_X4 : Cond.instantiable RX4 (cN 4) ∈ lw_ok := lw_in (List.mem_of_getElem? (i := 238) (by decide +kernel)) rfl
theorem wl_ini_X4 : Cond.initialized RX4 ∈ lw_ok := lw_in (List.mem_of_getElem? (i := 45) (by decide +kernel)) rfl
theorem wl_cd_X4_init : Cond.code yX4_init cX4_init 1 none ∈ lw_ok := lw_in (List.mem_of_getElem? (i := 241) (by decide +kernel)) rfl
theorem wl_im_X4_init : Cond.instanceMethod yX4_init ∈ lw_ok := lw_in (List.mem_of_getElem? (i := 240) (by decide +kernel)) rfl
-- X3_init
set_option maxRecDepth 100000 in
set_option maxHeartbeats 4000000 in
theorem cn_X3_init (l : Launch) (E : EE) (w : Wd) (m : Nat) (hlo : E.2.2 ≤ wN w) (hN : wN w = m + 1) (hK : wK w m = some (.inl 3)) (hI : wI w m = z32) (hJ : wJ w m = z64) : CtN l E yX3_init cX3_init 1 none ({ frames := 2, cells := 9, slots := 58, locals := 32 } : Room) [.ref m] w 9 58 (fun q w2 => q = none ∧ Sg w w2 m (m + 10) kvM ivM LRM) := by
  refine ct_inN (il := il_X3_init) (by decide) dk_X3_init (Nat.le_of_ble_eq_true rfl) hlo ?_
  intro X h hq hNK
  have s0 := sg_0 (kv := kvM) (iv := iv0) hN hK hI hJ
  refine g_aload_n h (i := 0) rfl rfl ?_
  refine g_oinit h hq (i := 1) rfl wl_ol_X3 wl_oi wl_oc ⟨by decide, by decide⟩ ?_
  refine g_aload_n h (i := 2) rfl rfl ?_
  refine g_iconst h (i := 3) rfl (v := 4) (by rfl) ?_
  refine g_newar h hq (i := 4) 0 4 rfl (by decide) rfl wl_arr_int rfl (by decide) ⟨by decide, by decide⟩ ?_
  refine g_ref (sg_N s0) ?_
  refine g_putRF_0 h (i := 5) rfl rfl fl_X3_9 (fun C T q => by rw [clsT3 C T q]; exact ⟨rfl, rfl⟩) (fun _ _ _ => rfl) ((wK_n (k := .inr (0, 4)) (by rw [sg_N s0]; omega)).trans (sg_K s0 (o := 0) (by omega))) rfl rfl ?_
  have s1 := sg_arr 0 (k := .inr (0, 4)) s0 (sg_at (b := 1) (by omega) rfl) (sg_at (b := 1) (by omega) rfl) (fun o t q => q.elim)
  obtain ⟨W1, hW1⟩ : ∃ W1, W1 = sR (sNew w (.inr (0, 4))) m 0 (some (m + 1)) := ⟨_, rfl⟩
  rw [← hW1] at s1 ⊢
  have hlo1 : E.2.2 ≤ wN W1 := by rw [sg_N s1]; omega
  refine g_aload_n h (i := 6) rfl rfl ?_
  refine g_iconst h (i := 7) rfl (v := 4) (by rfl) ?_
  refine g_newar h hq (i := 8) 2 4 rfl (by decide) rfl wl_arr_long rfl (by decide) ⟨by decide, by decide⟩ ?_
  refine g_ref (sg_N s1) ?_
  refine g_putRF_0 h (i := 9) rfl rfl fl_X3_15 (fun C T q => by rw [clsT3 C T q]; exact ⟨rfl, rfl⟩) (fun _ _ _ => rfl) ((wK_n (k := .inr (2, 4)) (by rw [sg_N s1]; omega)).trans (sg_K s1 (o := 0) (by omega))) rfl rfl ?_
  have s2 := sg_arr 1 (k := .inr (2, 4)) s1 (sg_at (b := 2) (by omega) rfl) (sg_at (b := 2) (by omega) rfl) (fun o t q => q.elim (fun q => q.elim) (fun z => absurd z.2.1 (by decide)))
  obtain ⟨W2, hW2⟩ : ∃ W2, W2 = sR (sNew W1 (.inr (2, 4))) m 1 (some (m + 1 + 1)) := ⟨_, rfl⟩
  rw [← hW2] at s2 ⊢
  have hlo2 : E.2.2 ≤ wN W2 := by rw [sg_N s2]; omega
  refine g_aload_n h (i := 10) rfl rfl ?_
  refine g_bipush h (i := 11) rfl (v := 8) (by rfl) ?_
  refine g_newar h hq (i := 12) 1 8 rfl (by decide) rfl wl_arr_boolean rfl (by decide) ⟨by decide, by decide⟩ ?_
  refine g_ref (sg_N s2) ?_
  refine g_putRF_0 h (i := 13) rfl rfl fl_X3_19 (fun C T q => by rw [clsT3 C T q]; exact ⟨rfl, rfl⟩) (fun _ _ _ => rfl) ((wK_n (k := .inr (1, 8)) (by rw [sg_N s2]; omega)).trans (sg_K s2 (o := 0) (by omega))) rfl rfl ?_
  have s3 := sg_arr 2 (k := .inr (1, 8)) s2 (sg_at (b := 3) (by omega) rfl) (sg_at (b := 3) (by omega) rfl) (fun o t q => q.elim (fun q => q.elim (fun q => q.elim) (fun z => absurd z.2.1 (by decide))) (fun z => absurd z.2.1 (by decide)))
  obtain ⟨W3, hW3⟩ : ∃ W3, W3 = sR (sNew W2 (.inr (1, 8))) m 2 (some (m + 1 + 1 + 1)) := ⟨_, rfl⟩
  rw [← hW3] at s3 ⊢
  have hlo3 : E.2.2 ≤ wN W3 := by rw [sg_N s3]; omega
  refine g_aload_n h (i := 14) rfl rfl ?_
  refine g_bipush h (i := 15) rfl (v := 8) (by rfl) ?_
  refine g_newar h hq (i := 16) 1 8 rfl (by decide) rfl wl_arr_boolean rfl (by decide) ⟨by decide, by decide⟩ ?_
  refine g_ref (sg_N s3) ?_
  refine g_putRF_0 h (i := 17) rfl rfl fl_X3_23 (fun C T q => by rw [clsT3 C T q]; exact ⟨rfl, rfl⟩) (fun _ _ _ => rfl) ((wK_n (k := .inr (1, 8)) (by rw [sg_N s3]; omega)).trans (sg_K s3 (o := 0) (by omega))) rfl rfl ?_
  have s4 := sg_arr 3 (k := .inr (1, 8)) s3 (sg_at (b := 4) (by omega) rfl) (sg_at (b := 4) (by omega) rfl) (fun o t q => q.elim (fun q => q.elim (fun q => q.elim (fun q => q.elim) (fun z => absurd z.2.1 (by decide))) (fun z => absurd z.2.1 (by decide))) (fun z => absurd z.2.1 (by decide)))
  obtain ⟨W4, hW4⟩ : ∃ W4, W4 = sR (sNew W3 (.inr (1, 8))) m 3 (some (m + 1 + 1 + 1 + 1)) := ⟨_, rfl⟩
  rw [← hW4] at s4 ⊢
  have hlo4 : E.2.2 ≤ wN W4 := by rw [sg_N s4]; omega
  refine g_aload_n h (i := 18) rfl rfl ?_
  refine g_bipush h (i := 19) rfl (v := 8) (by rfl) ?_
  refine g_newar h hq (i := 20) 0 8 rfl (by decide) rfl wl_arr_int rfl (by decide) ⟨by decide, by decide⟩ ?_
  refine g_ref (sg_N s4) ?_
  refine g_putRF_0 h (i := 21) rfl rfl fl_X3_26 (fun C T q => by rw [clsT3 C T q]; exact ⟨rfl, rfl⟩) (fun _ _ _ => rfl) ((wK_n (k := .inr (0, 8)) (by rw [sg_N s4]; omega)).trans (sg_K s4 (o := 0) (by omega))) rfl rfl ?_
  have s5 := sg_arr 4 (k := .inr (0, 8)) s4 (sg_at (b := 5) (by omega) rfl) (sg_at (b := 5) (by omega) rfl) (fun o t q => q.elim (fun q => q.elim (fun q => q.elim (fun q => q.elim (fun q => q.elim) (fun z => absurd z.2.1 (by decide))) (fun z => absurd z.2.1 (by decide))) (fun z => absurd z.2.1 (by decide))) (fun z => absurd z.2.1 (by decide)))
  obtain ⟨W5, hW5⟩ : ∃ W5, W5 = sR (sNew W4 (.inr (0, 8))) m 4 (some (m + 1 + 1 + 1 + 1 + 1)) := ⟨_, rfl⟩
  rw [← hW5] at s5 ⊢
  have hlo5 : E.2.2 ≤ wN W5 := by rw [sg_N s5]; omega
  refine g_aload_n h (i := 22) rfl rfl ?_
  refine g_bipush h (i := 23) rfl (v := 12) (by rfl) ?_
  refine g_newar h hq (i := 24) 0 12 rfl (by decide) rfl wl_arr_int rfl (by decide) ⟨by decide, by decide⟩ ?_
  refine g_ref (sg_N s5) ?_
  refine g_putRF_0 h (i := 25) rfl rfl fl_X3_29 (fun C T q => by rw [clsT3 C T q]; exact ⟨rfl, rfl⟩) (fun _ _ _ => rfl) ((wK_n (k := .inr (0, 12)) (by rw [sg_N s5]; omega)).trans (sg_K s5 (o := 0) (by omega))) rfl rfl ?_
  have s6 := sg_arr 5 (k := .inr (0, 12)) s5 (sg_at (b := 6) (by omega) rfl) (sg_at (b := 6) (by omega) rfl) (fun o t q => q.elim (fun q => q.elim (fun q => q.elim (fun q => q.elim (fun q => q.elim (fun q => q.elim) (fun z => absurd z.2.1 (by decide))) (fun z => absurd z.2.1 (by decide))) (fun z => absurd z.2.1 (by decide))) (fun z => absurd z.2.1 (by decide))) (fun z => absurd z.2.1 (by decide)))
  obtain ⟨W6, hW6⟩ : ∃ W6, W6 = sR (sNew W5 (.inr (0, 12))) m 5 (some (m + 1 + 1 + 1 + 1 + 1 + 1)) := ⟨_, rfl⟩
  rw [← hW6] at s6 ⊢
  have hlo6 : E.2.2 ≤ wN W6 := by rw [sg_N s6]; omega
  refine g_aload_n h (i := 26) rfl rfl ?_
  refine g_new h hq (i := 27) rfl cls4 wl_cl_X3_32 wl_in_X4 wl_ini_X4 (fun j hj => dv_ok (dv4 j hj)) ⟨by decide, by decide⟩ ?_
  refine g_ref (sg_N s6) ?_
  refine g_dup h (i := 28) rfl rfl ?_
  obtain ⟨n17, n27, n37, n47⟩ := sg_new (k := .inl 4) (sg_N s6)
  have cm7 := cn_X4_init l E (sNew W6 (.inl 4)) (m + 1 + 1 + 1 + 1 + 1 + 1 + 1) (by rw [n17]; have e := sg_N s6; omega) n17 n27 n37 n47
  refine g_nest h hNK (i := 29) hq rfl (List.mem_of_getElem? (i := 7) rfl) wl_cd_X4_init wl_im_X4_init wl_ini_X4 rfl ⟨by decide, by decide, by decide +kernel⟩ cm7 ⟨rfl, rfl, by decide, by decide⟩ (Nat.le_of_ble_eq_true rfl) ⟨by decide, by decide⟩ (fun r7 V7 hp7 => ?_)
  obtain ⟨rfl, sub7⟩ := hp7
  refine g_putRF_0 h (i := 30) rfl rfl fl_X3_35 (fun C T q => by rw [clsT3 C T q]; exact ⟨rfl, rfl⟩) (fun _ _ _ => rfl) (((sub7.1.2 m (by omega)).1.trans (wK_n (k := .inl 4) (by rw [sg_N s6]; omega))).trans (sg_K s6 (o := 0) (by omega))) rfl rfl ?_
  have s7 := sg_obj0 6 s6 sub7 (fun o ho => (if_neg (by omega)).trans (congrArg kvT (by omega))) (fun o ho => rfl) (fun o t q => q.elim (fun q => q.elim (fun q => q.elim (fun q => q.elim (fun q => q.elim (fun q => q.elim (fun q => q.elim) (fun z => absurd z.2.1 (by decide))) (fun z => absurd z.2.1 (by decide))) (fun z => absurd z.2.1 (by decide))) (fun z => absurd z.2.1 (by decide))) (fun z => absurd z.2.1 (by decide))) (fun z => absurd z.2.1 (by decide)))
  obtain ⟨W7, hW7⟩ : ∃ W7, W7 = sR V7 m 6 (some (m + 1 + 1 + 1 + 1 + 1 + 1 + 1)) := ⟨_, rfl⟩
  rw [← hW7] at s7 ⊢
  have hlo7 : E.2.2 ≤ wN W7 := by rw [sg_N s7]; have e := sg_N s6; omega
  refine g_aload_n h (i := 31) rfl rfl ?_
  refine g_iconst h (i := 32) rfl (v := 0) (by rfl) ?_
  refine g_putI_0 h (i := 33) rfl fl_X3_39 nf_3_8 (fun _ _ _ => rfl) (sg_K s7 (o := 0) (by omega)) rfl (by rfl) ?_
  have t1 := sg_I (k := 8) (v := 0) s7
  refine g_aload_n h (i := 34) rfl rfl ?_
  refine g_iconst h (i := 35) rfl (v := -1) (by rfl) ?_
  refine g_putI_0 h (i := 36) rfl fl_X3_43 nf_3_15 (fun _ _ _ => rfl) (sg_K s7 (o := 0) (by omega)) rfl (by rfl) ?_
  have t2 := sg_I (k := 15) (v := -1) t1
  refine g_aload_n h (i := 37) rfl rfl ?_
  refine g_iconst h (i := 38) rfl (v := -1) (by rfl) ?_
  refine g_putI_0 h (i := 39) rfl fl_X3_46 nf_3_16 (fun _ _ _ => rfl) (sg_K s7 (o := 0) (by omega)) rfl (by rfl) ?_
  have t3 := sg_I (k := 16) (v := -1) t2
  refine g_aload_n h (i := 40) rfl rfl ?_
  refine g_iconst h (i := 41) rfl (v := -1) (by rfl) ?_
  refine g_putI_0 h (i := 42) rfl fl_X3_49 nf_3_17 (fun _ _ _ => rfl) (sg_K s7 (o := 0) (by omega)) rfl (by rfl) ?_
  have t4 := sg_I (k := 17) (v := -1) t3
  exact g_vret hq h (i := 43) rfl (⟨rfl, sg_w t4 (fun _ _ => rfl) (fun o ho => by
      by_cases e : o = 0
      · subst e; rfl
      · unfold ivM; rw [if_neg e, if_neg e, if_neg e, if_neg e, if_neg e]; rfl) (fun o f t q => by
      rcases q with ⟨rfl, hf, rfl⟩ | ⟨rfl, hf, rfl⟩
      · have hf2 : f = 0 ∨ f = 1 ∨ f = 2 ∨ f = 3 ∨ f = 4 ∨ f = 5 ∨ f = 6 := by omega
        rcases hf2 with rfl | rfl | rfl | rfl | rfl | rfl | rfl
        · exact Or.inl (Or.inl (Or.inl (Or.inl (Or.inl (Or.inl (Or.inr (⟨rfl, rfl, by omega⟩)))))))
        · exact Or.inl (Or.inl (Or.inl (Or.inl (Or.inl (Or.inr (⟨rfl, rfl, by omega⟩))))))
        · exact Or.inl (Or.inl (Or.inl (Or.inl (Or.inr (⟨rfl, rfl, by omega⟩)))))
        · exact Or.inl (Or.inl (Or.inl (Or.inr (⟨rfl, rfl, by omega⟩))))
        · exact Or.inl (Or.inl (Or.inr (⟨rfl, rfl, by omega⟩)))
        · exact Or.inl (Or.inr (⟨rfl, rfl, by omega⟩))
        · exact Or.inr (Or.inl ⟨rfl, rfl, by omega⟩)
      · exact Or.inr (Or.inr ⟨by omega, by omega, by (show _ ∧ _ ∧ _); exact ⟨by omega, hf, by omega⟩⟩))⟩)
