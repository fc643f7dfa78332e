def kvC : Nat → Option (Nat ⊕ (Nat × Nat)) := fun o => if o < 4 then (match o with | 0 => some (.inl 1) | 1 => some (.inr (4, 4)) | 2 => some (.inr (3, 4)) | _ => some (.inr (6, 16))) else if o < 8 then kvP6 (o - 4) else if o < 12 then kvP7 (o - 8) else if o < 13 then kvO 8 (o - 12) else if o < 14 then some (.inr (0, 4)) else if o < 18 then some (.inl 2) else if o < 22 then some (.inl 0) else kvP5 ((o - 22) % 2)
def ivC : Nat → Nat → Int32 := fun o => if o < 14 then z32 else if o < 18 then jv else z32
theorem kvC_j {x : Nat} (h : 14 ≤ x) (h2 : x < 18) : kvC x = some (.inl 2) := by unfold kvC; rw [if_neg (by omega), if_neg (by omega), if_neg (by omega), if_neg (by omega), if_neg (by omega), if_pos h2]
theorem kvC_b {x : Nat} (h : 18 ≤ x) (h2 : x < 22) : kvC x = some (.inl 0) := by unfold kvC; rw [if_neg (by omega), if_neg (by omega), if_neg (by omega), if_neg (by omega), if_neg (by omega), if_neg (by omega), if_pos h2]
theorem kvC_p {x : Nat} (h : 22 ≤ x) : kvC x = kvP5 ((x - 22) % 2) := by unfold kvC; rw [if_neg (by omega), if_neg (by omega), if_neg (by omega), if_neg (by omega), if_neg (by omega), if_neg (by omega), if_neg (by omega)]
theorem kvC_6 {x y : Nat} (h : x = 4 + y) (h2 : y < 4) : kvC x = kvP6 y := by subst h; unfold kvC; rw [if_neg (by omega), if_pos (by omega), show 4 + y - 4 = y by omega]
theorem kvC_7 {x y : Nat} (h : x = 8 + y) (h2 : y < 4) : kvC x = kvP7 y := by subst h; unfold kvC; rw [if_neg (by omega), if_neg (by omega), if_pos (by omega), show 8 + y - 8 = y by omega]
theorem kvC_8 {x y : Nat} (h : x = 12 + y) (h2 : y < 1) : kvC x = kvO 8 y := by subst h; unfold kvC; rw [if_neg (by omega), if_neg (by omega), if_neg (by omega), if_pos (by omega), show 12 + y - 12 = y by omega]
theorem ivC_z {x : Nat} (h : x < 14 ∨ 18 ≤ x) : ivC x = z32 := by
  unfold ivC
  by_cases e : x < 14
  · rw [if_pos e]
  · rw [if_neg e, if_neg (by omega)]
theorem ivC_j {x : Nat} (h : 14 ≤ x) (h2 : x < 18) : ivC x = jv := by unfold ivC; rw [if_neg (by omega), if_pos h2]
def LRc0 : Nat → Nat → Nat → Prop := fun o f t => (o = 0 ∧ ((f = 0 ∧ t = 1) ∨ (f = 1 ∧ t = 2) ∨ (f = 2 ∧ t = 3) ∨ (f = 3 ∧ t = 4) ∨ (f = 4 ∧ t = 8) ∨ (f = 5 ∧ t = 12) ∨ (f = 6 ∧ t = 13))) ∨ (o = 4 ∧ f < 3 ∧ t = f + 5) ∨ (o = 8 ∧ f < 3 ∧ t = f + 9)
def LRc1 (i : Nat) : Nat → Nat → Nat → Prop := fun o f t => LRc0 o f t ∨ (o = 1 ∧ f < i ∧ t = 14 + f)
def LRc2 (i : Nat) : Nat → Nat → Nat → Prop := fun o f t => LRc1 4 o f t ∨ (o = 2 ∧ f < i ∧ t = 18 + f)
def LRc3 (i : Nat) : Nat → Nat → Nat → Prop := fun o f t => LRc2 4 o f t ∨ (o = 3 ∧ f < i ∧ t = 22 + 2 * f) ∨ (∃ k, k < i ∧ o = 22 + 2 * k ∧ f = 1 ∧ t = 23 + 2 * k)
theorem c0_o {o f t : Nat} (h : LRc0 o f t) : o = 0 ∨ o = 4 ∨ o = 8 := by
  rcases h with h | h | h
  · exact Or.inl h.1
  · exact Or.inr (Or.inl h.1)
  · exact Or.inr (Or.inr h.1)
theorem c1_o {o f t i : Nat} (h : LRc1 i o f t) : o = 0 ∨ o = 4 ∨ o = 8 ∨ (o = 1 ∧ f < i) := by
  rcases h with h | h
  · rcases c0_o h with z | z | z
    · exact Or.inl z
    · exact Or.inr (Or.inl z)
    · exact Or.inr (Or.inr (Or.inl z))
  · exact Or.inr (Or.inr (Or.inr ⟨h.1, h.2.1⟩))
theorem c2_o {o f t i : Nat} (h : LRc2 i o f t) : o = 0 ∨ o = 4 ∨ o = 8 ∨ o = 1 ∨ (o = 2 ∧ f < i) := by
  rcases h with h | h
  · have := c1_o h; omega
  · exact Or.inr (Or.inr (Or.inr (Or.inr ⟨h.1, h.2.1⟩)))
theorem c3_o {o f t i : Nat} (h : LRc3 i o f t) : o = 0 ∨ o = 4 ∨ o = 8 ∨ o = 1 ∨ o = 2 ∨ (o = 3 ∧ f < i) ∨ 22 ≤ o := by
  rcases h with h | h | ⟨k, h⟩
  · have := c2_o h; omega
  · exact Or.inr (Or.inr (Or.inr (Or.inr (Or.inr (Or.inl ⟨h.1, h.2.1⟩)))))
  · omega
theorem wl_ol_X1 : Cond.methodLink RX1 3 objectInit ∈ lw_ok := lw_in (List.mem_of_getElem? (i := 62) (by decide +kernel)) rfl
theorem wl_cl_X1_9 : Cond.classLink RX1 9 RX2 ∈ lw_ok := lw_in (List.mem_of_getElem? (i := 63) (by decide +kernel)) rfl
theorem wl_cl_X1_17 : Cond.classLink RX1 17 RX0 ∈ lw_ok := lw_in (List.mem_of_getElem? (i := 65) (by decide +kernel)) rfl
theorem wl_cl_X1_23 : Cond.classLink RX1 23 RX5 ∈ lw_ok := lw_in (List.mem_of_getElem? (i := 67) (by decide +kernel)) rfl
theorem wl_cl_X1_29 : Cond.classLink RX1 29 RX6 ∈ lw_ok := lw_in (List.mem_of_getElem? (i := 69) (by decide +kernel)) rfl
theorem wl_in_X6 : Cond.instantiable RX6 (cN 6) ∈ lw_ok := lw_in (List.mem_of_getElem? (i := 70) (by decide +kernel)) rfl
theorem wl_ini_X6 : Cond.initialized RX6 ∈ lw_ok := lw_in (List.mem_of_getElem? (i := 38) (by decide +kernel)) rfl
theorem wl_cd_X6_init : Cond.code yX6_init cX6_init 1 none ∈ lw_ok := lw_in (List.mem_of_getElem? (i := 73) (by decide +kernel)) rfl
theorem wl_im_X6_init : Cond.instanceMethod yX6_init ∈ lw_ok := lw_in (List.mem_of_getElem? (i := 72) (by decide +kernel)) rfl
theorem wl_cl_X1_36 : Cond.classLink RX1 36 RX7 ∈ lw_ok := lw_in (List.mem_of_getElem? (i := 94) (by decide +kernel)) rfl
theorem wl_in_X7 : Cond.instantiable RX7 (cN 7) ∈ lw_ok := lw_in (List.mem_of_getElem? (i := 95) (by decide +kernel)) rfl
theorem wl_ini_X7 : Cond.initialized RX7 ∈ lw_ok := lw_in (List.mem_of_getElem? (i := 39) (by decide +kernel)) rfl
theorem wl_cd_X7_init : Cond.code yX7_init cX7_init 1 none ∈ lw_ok := lw_in (List.mem_of_getElem? (i := 98) (by decide +kernel)) rfl
theorem wl_im_X7_init : Cond.instanceMethod yX7_init ∈ lw_ok := lw_in (List.mem_of_getElem? (i := 97) (by decide +kernel)) rfl
theorem wl_cl_X1_43 : Cond.classLink RX1 43 RX8 ∈ lw_ok := lw_in (List.mem_of_getElem? (i := 115) (by decide +kernel)) rfl
theorem wl_in_X8 : Cond.instantiable RX8 (cN 8) ∈ lw_ok := lw_in (List.mem_of_getElem? (i := 116) (by decide +kernel)) rfl
theorem wl_ini_X8 : Cond.initialized RX8 ∈ lw_ok := lw_in (List.mem_of_getElem? (i := 40) (by decide +kernel)) rfl
theorem wl_cd_X8_init : Cond.code yX8_init cX8_init 1 none ∈ lw_ok := lw_in (List.mem_of_getElem? (i := 119) (by decide +kernel)) rfl
theorem wl_im_X8_init : Cond.instanceMethod yX8_init ∈ lw_ok := lw_in (List.mem_of_getElem? (i := 118) (by decide +kernel)) rfl
theorem wl_in_X5 : Cond.instantiable RX5 (cN 5) ∈ lw_ok := lw_in (List.mem_of_getElem? (i := 189) (by decide +kernel)) rfl
theorem wl_ini_X5 : Cond.initialized RX5 ∈ lw_ok := lw_in (List.mem_of_getElem? (i := 43) (by decide +kernel)) rfl
theorem wl_cd_X5_init : Cond.code yX5_init cX5_init 1 none ∈ lw_ok := lw_in (List.mem_of_getElem? (i := 192) (by decide +kernel)) rfl
theorem wl_im_X5_init : Cond.instanceMethod yX5_init ∈ lw_ok := lw_in (List.mem_of_getElem? (i := 191) (by decide +kernel)) rfl
theorem wl_in_X0 : Cond.instantiable RX0 (cN 0) ∈ lw_ok := lw_in (List.mem_of_getElem? (i := 166) (by decide +kernel)) rfl
theorem wl_ini_X0 : Cond.initialized RX0 ∈ lw_ok := lw_in (List.mem_of_getElem? (i := 42) (by decide +kernel)) rfl
theorem wl_cd_X0_init : Cond.code yX0_init cX0_init 1 none ∈ lw_ok := lw_in (List.mem_of_getElem? (i := 169) (by decide +kernel)) rfl
theorem wl_im_X0_init : Cond.instanceMethod yX0_init ∈ lw_ok := lw_in (List.mem_of_getElem? (i := 168) (by decide +kernel)) rfl
theorem wl_in_X2 : Cond.instantiable RX2 (cN 2) ∈ lw_ok := lw_in (List.mem_of_getElem? (i := 130) (by decide +kernel)) rfl
theorem wl_ini_X2 : Cond.initialized RX2 ∈ lw_ok := lw_in (List.mem_of_getElem? (i := 41) (by decide +kernel)) rfl
theorem wl_cd_X2_init : Cond.code yX2_init cX2_init 1 none ∈ lw_ok := lw_in (List.mem_of_getElem? (i := 133) (by decide +kernel)) rfl
theorem wl_im_X2_init : Cond.instanceMethod yX2_init ∈ lw_ok := lw_in (List.mem_of_getElem? (i := 132) (by decide +kernel)) rfl
-- X1_init
set_option maxRecDepth 100000 in
set_option maxHeartbeats 4000000 in
theorem cn_X1_init (l : Launch) (E : EE) (w : Wd) (m : Nat) (hlo : E.2.2 ≤ wN w) (hN : wN w = m + 1) (hK : wK w m = some (.inl 1)) (hI : wI w m = z32) (hJ : wJ w m = z64) : CtN l E yX1_init cX1_init 2 none ({ frames := 2, cells := 53, slots := 478, locals := 32 } : Room) [.ref m] w 53 478 (fun q w2 => q = none ∧ Sg w w2 m (m + 54) kvC ivC (LRc3 16)) := by
  refine ct_inN (il := il_X1_init) (by decide) dk_X1_init (Nat.le_of_ble_eq_true rfl) hlo ?_
  intro X h hq hNK
  have hlm : E.2.2 ≤ m + 1 := by rw [← hN]; exact hlo
  have k123 : ∀ (d i : Nat) (V : Wd), i + d = 16 → Sg w V m (m + (22 + 2 * i)) kvC ivC (LRc3 i) → G X (21 + 2 * i) (382 + 6 * i) 123 (lf [(0, .ref m), (1, .int (nI i))]) [] V := by
    intro d
    induction d with
    | zero =>
      intro i V hi hs
      have hi4 : i = 16 := by omega
      subst hi4
      refine g_iload_n h (i := 63) rfl rfl ?_
      refine g_bipush h (i := 64) rfl (v := 16) (by rfl) ?_
      refine g_icmp_ge h (i := 65) 148 rfl rfl (fun c_126 => ?_) (fun c_126 => absurd (by decide : (16 : Int32) ≤ nI 16) c_126)
      exact g_vret hq h (i := 75) rfl (⟨rfl, hs⟩)
    | succ d ih =>
      intro i V hid hs
      have hi : i < 16 := by omega
      have hnge : ¬ (16 : Int32) ≤ nI i := nI_ge (b := 16) hi (by omega)
      refine g_iload_n h (i := 63) rfl rfl ?_
      refine g_bipush h (i := 64) rfl (v := 16) (by rfl) ?_
      refine g_icmp_ge h (i := 65) 148 rfl rfl (fun c_126 => absurd c_126 hnge) (fun c_126 => ?_)
      refine g_aload_n h (i := 66) rfl rfl ?_
      refine g_getR h (i := 67) rfl fl_X1_25 (fun _ _ _ => rfl) (sg_K hs (o := 0) (by omega)) (sg_R hs (o := 0) (f := 2) (t := 3) (Or.inl (Or.inl (Or.inl (Or.inl ⟨rfl, by decide⟩))))) ?_
      refine g_iload_n h (i := 68) rfl rfl ?_
      refine g_new h hq (i := 69) rfl cls5 wl_cl_X1_23 wl_in_X5 wl_ini_X5 (fun j hj => dv_ok (dv5 j hj)) ⟨by (show 21 + 2 * i + 1 ≤ 53); omega, by (show 382 + 6 * i + 2 ≤ 478); omega⟩ ?_
      refine g_ref (sg_N hs) ?_
      refine g_dup h (i := 70) rfl rfl ?_
      obtain ⟨n1, n2, n3, n4⟩ := sg_new (k := .inl 5) (sg_N hs)
      have cm := cn_X5_init l E (sNew V (.inl 5)) (m + (22 + 2 * i)) (by rw [n1]; omega) n1 n2 n3 n4
      refine g_nest h hNK (i := 71) hq rfl (List.mem_of_getElem? (i := 5) rfl) wl_cd_X5_init wl_im_X5_init wl_ini_X5 rfl ⟨by decide, by decide, by decide +kernel⟩ cm ⟨rfl, rfl, by decide, by decide⟩ (Nat.le_of_ble_eq_true rfl) ⟨by (show 21 + 2 * i + 1 + 1 ≤ 53); omega, by (show 382 + 6 * i + 2 + 4 ≤ 478); omega⟩ (fun r V2 hp => ?_)
      obtain ⟨rfl, sub⟩ := hp
      have hk1 : wK V2 (m + 3) = some (.inr (6, 16)) := ((sub.1.2 (m + 3) (by omega)).1.trans (wK_n (k := .inl 5) (by rw [sg_N hs]; omega))).trans (sg_K hs (o := 3) (by omega))
      have hk2 : wK V2 (m + (22 + 2 * i)) = some (.inl 5) := sg_K sub (o := 0) (by omega)
      refine g_aast h (i := 72) (t := 3) rfl (by decide) rfl hk1 (vp_in_nI hi (by omega)) hk2 (show vwCl[5]? = some (RX5, TX5, cN 5) from rfl) ?_
      refine g_w (sR V2 (m + 3) i (some (m + (22 + 2 * i)))) (by rw [nI_clamp (by omega)]) ?_
      have hs2 := sg_obj (o1 := 3) i hs sub (fun o ho => (kvC_p (by omega)).trans (congrArg kvP5 (by omega))) (fun o ho => ivC_z (by omega)) (by omega) (fun o t q => by have := c3_o q; omega)
      have hs3 : Sg w (sR V2 (m + 3) i (some (m + (22 + 2 * i)))) m (m + (22 + 2 * (i + 1))) kvC ivC (LRc3 (i + 1)) := sg_w hs2 (fun _ _ => rfl) (fun _ _ => rfl) (fun o f t q => by
        rcases q with q | ⟨rfl, hf, rfl⟩ | ⟨k, hk, rfl, rfl, rfl⟩
        · exact Or.inl (Or.inl q)
        · by_cases e : f = i
          · subst e; exact Or.inr (Or.inl ⟨rfl, rfl, by omega⟩)
          · exact Or.inl (Or.inr (Or.inl ⟨rfl, by omega, rfl⟩))
        · by_cases e : k = i
          · subst e; exact Or.inr (Or.inr ⟨by omega, by omega, by (show _ ∧ _ ∧ _); exact ⟨by omega, rfl, by omega⟩⟩)
          · exact Or.inl (Or.inr (Or.inr ⟨k, by omega, rfl, rfl, rfl⟩)))
      refine g_iinc h (i := 73) rfl rfl (dv := 1) (by rfl) ?_
      refine g_goto h (i := 74) 123 rfl rfl ?_
      refine g_cc (ce' := 21 + 2 * (i + 1)) (sl' := 382 + 6 * (i + 1)) (by (show 21 + 2 * i + 1 + 1 = 21 + 2 * (i + 1)); omega) (by (show 382 + 6 * i + 2 + 4 = 382 + 6 * (i + 1)); omega) ?_
      exact g_lv [(0, .ref m), (1, .int (nI (i + 1)))] ⟨rfl, congrArg (fun z => some (Value.int z)) (nI_1 i), trivial⟩ (ih (i + 1) _ (by omega) hs3)
  have k97 : ∀ (d i : Nat) (V : Wd), i + d = 4 → Sg w V m (m + (18 + i)) kvC ivC (LRc2 i) → G X (17 + i) (362 + 5 * i) 97 (lf [(0, .ref m), (1, .int (nI i))]) [] V := by
    intro d
    induction d with
    | zero =>
      intro i V hi hs
      have hi4 : i = 4 := by omega
      subst hi4
      refine g_iload_n h (i := 49) rfl rfl ?_
      refine g_iconst h (i := 50) rfl (v := 4) (by rfl) ?_
      refine g_icmp_ge h (i := 51) 121 rfl rfl (fun c_99 => ?_) (fun c_99 => absurd (by decide : (4 : Int32) ≤ nI 4) c_99)
      refine g_iconst h (i := 61) rfl (v := 0) (by rfl) ?_
      refine g_istore_n h (i := 62) rfl hq rfl ?_
      exact g_lv [(0, .ref m), (1, .int (nI 0))] ⟨rfl, rfl, trivial⟩ (k123 16 0 V (by omega) (sg_w hs (fun _ _ => rfl) (fun _ _ => rfl) (fun o f t q => by
        rcases q with q | ⟨_, hf, _⟩ | ⟨k, hk, _⟩
        · exact q
        · exact absurd hf (Nat.not_lt_zero _)
        · exact absurd hk (Nat.not_lt_zero _))))
    | succ d ih =>
      intro i V hid hs
      have hi : i < 4 := by omega
      have hnge : ¬ (4 : Int32) ≤ nI i := nI_ge (b := 4) hi (by omega)
      refine g_iload_n h (i := 49) rfl rfl ?_
      refine g_iconst h (i := 50) rfl (v := 4) (by rfl) ?_
      refine g_icmp_ge h (i := 51) 121 rfl rfl (fun c_99 => absurd c_99 hnge) (fun c_99 => ?_)
      refine g_aload_n h (i := 52) rfl rfl ?_
      refine g_getR h (i := 53) rfl fl_X1_19 (fun _ _ _ => rfl) (sg_K hs (o := 0) (by omega)) (sg_R hs (o := 0) (f := 1) (t := 2) (Or.inl (Or.inl (Or.inl ⟨rfl, by decide⟩)))) ?_
      refine g_iload_n h (i := 54) rfl rfl ?_
      refine g_new h hq (i := 55) rfl cls0 wl_cl_X1_17 wl_in_X0 wl_ini_X0 (fun j hj => dv_ok (dv0 j hj)) ⟨by (show 17 + i + 1 ≤ 53); omega, by (show 362 + 5 * i + 5 ≤ 478); omega⟩ ?_
      refine g_ref (sg_N hs) ?_
      refine g_dup h (i := 56) rfl rfl ?_
      obtain ⟨n1, n2, n3, n4⟩ := sg_new (k := .inl 0) (sg_N hs)
      have cm := cn_X0_init l E (sNew V (.inl 0)) (m + (18 + i)) (by rw [n1]; omega) n1 n2 n3 n4
      refine g_nest h hNK (i := 57) hq rfl (List.mem_of_getElem? (i := 4) rfl) wl_cd_X0_init wl_im_X0_init wl_ini_X0 rfl ⟨by decide, by decide, by decide +kernel⟩ cm ⟨rfl, rfl, by decide, by decide⟩ (Nat.le_of_ble_eq_true rfl) ⟨by (show 17 + i + 1 + 0 ≤ 53); omega, by (show 362 + 5 * i + 5 + 0 ≤ 478); omega⟩ (fun r V2 hp => ?_)
      obtain ⟨rfl, sub⟩ := hp
      have hk1 : wK V2 (m + 2) = some (.inr (3, 4)) := ((sub.1.2 (m + 2) (by omega)).1.trans (wK_n (k := .inl 0) (by rw [sg_N hs]; omega))).trans (sg_K hs (o := 2) (by omega))
      have hk2 : wK V2 (m + (18 + i)) = some (.inl 0) := sg_K sub (o := 0) (by omega)
      refine g_aast h (i := 58) (t := 0) rfl (by decide) rfl hk1 (vp_in_nI hi (by omega)) hk2 (show vwCl[0]? = some (RX0, TX0, cN 0) from rfl) ?_
      refine g_w (sR V2 (m + 2) i (some (m + (18 + i)))) (by rw [nI_clamp (by omega)]) ?_
      have hs2 := sg_obj (o1 := 2) i hs sub (fun o ho => kvC_b (by omega) (by omega)) (fun o ho => ivC_z (by omega)) (by omega) (fun o t q => by have := c2_o q; omega)
      have hs3 : Sg w (sR V2 (m + 2) i (some (m + (18 + i)))) m (m + (18 + (i + 1))) kvC ivC (LRc2 (i + 1)) := sg_w hs2 (fun _ _ => rfl) (fun _ _ => rfl) (fun o f t q => by
        rcases q with q | ⟨rfl, hf, rfl⟩
        · exact Or.inl (Or.inl q)
        · by_cases e : f = i
          · subst e; exact Or.inr (Or.inl ⟨rfl, rfl, by omega⟩)
          · exact Or.inl (Or.inr ⟨rfl, by omega, rfl⟩))
      refine g_iinc h (i := 59) rfl rfl (dv := 1) (by rfl) ?_
      refine g_goto h (i := 60) 97 rfl rfl ?_
      refine g_cc (ce' := 17 + (i + 1)) (sl' := 362 + 5 * (i + 1)) (by (show 17 + i + 1 + 0 = 17 + (i + 1)); omega) (by (show 362 + 5 * i + 5 + 0 = 362 + 5 * (i + 1)); omega) ?_
      exact g_lv [(0, .ref m), (1, .int (nI (i + 1)))] ⟨rfl, congrArg (fun z => some (Value.int z)) (nI_1 i), trivial⟩ (ih (i + 1) _ (by omega) hs3)
  have k71 : ∀ (d i : Nat) (V : Wd), i + d = 4 → Sg w V m (m + (14 + i)) kvC ivC (LRc1 i) → G X (13 + i) (338 + 6 * i) 71 (lf [(0, .ref m), (1, .int (nI i))]) [] V := by
    intro d
    induction d with
    | zero =>
      intro i V hi hs
      have hi4 : i = 4 := by omega
      subst hi4
      refine g_iload_n h (i := 35) rfl rfl ?_
      refine g_iconst h (i := 36) rfl (v := 4) (by rfl) ?_
      refine g_icmp_ge h (i := 37) 95 rfl rfl (fun c_73 => ?_) (fun c_73 => absurd (by decide : (4 : Int32) ≤ nI 4) c_73)
      refine g_iconst h (i := 47) rfl (v := 0) (by rfl) ?_
      refine g_istore_n h (i := 48) rfl hq rfl ?_
      exact g_lv [(0, .ref m), (1, .int (nI 0))] ⟨rfl, rfl, trivial⟩ (k97 4 0 V (by omega) (sg_w hs (fun _ _ => rfl) (fun _ _ => rfl) (fun o f t q => by
        rcases q with q | ⟨_, hf, _⟩
        · exact q
        · exact absurd hf (Nat.not_lt_zero _))))
    | succ d ih =>
      intro i V hid hs
      have hi : i < 4 := by omega
      have hnge : ¬ (4 : Int32) ≤ nI i := nI_ge (b := 4) hi (by omega)
      refine g_iload_n h (i := 35) rfl rfl ?_
      refine g_iconst h (i := 36) rfl (v := 4) (by rfl) ?_
      refine g_icmp_ge h (i := 37) 95 rfl rfl (fun c_73 => absurd c_73 hnge) (fun c_73 => ?_)
      refine g_aload_n h (i := 38) rfl rfl ?_
      refine g_getR h (i := 39) rfl fl_X1_11 (fun _ _ _ => rfl) (sg_K hs (o := 0) (by omega)) (sg_R hs (o := 0) (f := 0) (t := 1) (Or.inl (Or.inl ⟨rfl, by decide⟩))) ?_
      refine g_iload_n h (i := 40) rfl rfl ?_
      refine g_new h hq (i := 41) rfl cls2 wl_cl_X1_9 wl_in_X2 wl_ini_X2 (fun j hj => dv_ok (dv2 j hj)) ⟨by (show 13 + i + 1 ≤ 53); omega, by (show 338 + 6 * i + 6 ≤ 478); omega⟩ ?_
      refine g_ref (sg_N hs) ?_
      refine g_dup h (i := 42) rfl rfl ?_
      obtain ⟨n1, n2, n3, n4⟩ := sg_new (k := .inl 2) (sg_N hs)
      have cm := cn_X2_init l E (sNew V (.inl 2)) (m + (14 + i)) (by rw [n1]; omega) n1 n2 n3 n4
      refine g_nest h hNK (i := 43) hq rfl (List.mem_of_getElem? (i := 3) rfl) wl_cd_X2_init wl_im_X2_init wl_ini_X2 rfl ⟨by decide, by decide, by decide +kernel⟩ cm ⟨rfl, rfl, by decide, by decide⟩ (Nat.le_of_ble_eq_true rfl) ⟨by (show 13 + i + 1 + 0 ≤ 53); omega, by (show 338 + 6 * i + 6 + 0 ≤ 478); omega⟩ (fun r V2 hp => ?_)
      obtain ⟨rfl, sub⟩ := hp
      have hk1 : wK V2 (m + 1) = some (.inr (4, 4)) := ((sub.1.2 (m + 1) (by omega)).1.trans (wK_n (k := .inl 2) (by rw [sg_N hs]; omega))).trans (sg_K hs (o := 1) (by omega))
      have hk2 : wK V2 (m + (14 + i)) = some (.inl 2) := sg_K sub (o := 0) (by omega)
      refine g_aast h (i := 44) (t := 1) rfl (by decide) rfl hk1 (vp_in_nI hi (by omega)) hk2 (show vwCl[2]? = some (RX2, TX2, cN 2) from rfl) ?_
      refine g_w (sR V2 (m + 1) i (some (m + (14 + i)))) (by rw [nI_clamp (by omega)]) ?_
      have hs2 := sg_obj (o1 := 1) i hs sub (fun o ho => kvC_j (by omega) (by omega)) (fun o ho => ivC_j (by omega) (by omega)) (by omega) (fun o t q => by have := c1_o q; omega)
      have hs3 : Sg w (sR V2 (m + 1) i (some (m + (14 + i)))) m (m + (14 + (i + 1))) kvC ivC (LRc1 (i + 1)) := sg_w hs2 (fun _ _ => rfl) (fun _ _ => rfl) (fun o f t q => by
        rcases q with q | ⟨rfl, hf, rfl⟩
        · exact Or.inl (Or.inl q)
        · by_cases e : f = i
          · subst e; exact Or.inr (Or.inl ⟨rfl, rfl, by omega⟩)
          · exact Or.inl (Or.inr ⟨rfl, by omega, rfl⟩))
      refine g_iinc h (i := 45) rfl rfl (dv := 1) (by rfl) ?_
      refine g_goto h (i := 46) 71 rfl rfl ?_
      refine g_cc (ce' := 13 + (i + 1)) (sl' := 338 + 6 * (i + 1)) (by (show 13 + i + 1 + 0 = 13 + (i + 1)); omega) (by (show 338 + 6 * i + 6 + 0 = 338 + 6 * (i + 1)); omega) ?_
      exact g_lv [(0, .ref m), (1, .int (nI (i + 1)))] ⟨rfl, congrArg (fun z => some (Value.int z)) (nI_1 i), trivial⟩ (ih (i + 1) _ (by omega) hs3)
  have s0 := sg_0 (kv := kvC) (iv := ivC) hN hK hI hJ
  refine g_aload_n h (i := 0) rfl rfl ?_
  refine g_oinit h hq (i := 1) rfl wl_ol_X1 wl_oi wl_oc ⟨by decide, by decide⟩ ?_
  refine g_aload_n h (i := 2) rfl rfl ?_
  refine g_iconst h (i := 3) rfl (v := 4) (by rfl) ?_
  refine g_anew h hq (i := 4) 1 4 rfl (by decide) rfl wl_cl_X1_9 hNK.2.1 rfl (by decide) ⟨by decide, by decide⟩ ?_
  refine g_ref (sg_N s0) ?_
  refine g_w (sNew w (.inr (4, 4))) rfl ?_
  refine g_putRF_0 h (i := 5) rfl rfl fl_X1_11 (fun C T q => by rw [clsT1 C T q]; exact ⟨rfl, rfl⟩) (fun _ _ _ => rfl) ((wK_n (k := .inr (4, 4)) (by rw [sg_N s0]; omega)).trans (sg_K s0 (o := 0) (by omega))) rfl rfl ?_
  have s1 := sg_arr 0 (k := .inr (4, 4)) s0 (sg_at (b := 1) (by omega) rfl) (sg_at (b := 1) (by omega) rfl) (fun o t q => q.elim)
  obtain ⟨W1, hW1⟩ : ∃ W1, W1 = sR (sNew w (.inr (4, 4))) m 0 (some (m + 1)) := ⟨_, rfl⟩
  rw [← hW1] at s1 ⊢
  have hlo1 : E.2.2 ≤ wN W1 := by rw [sg_N s1]; omega
  refine g_aload_n h (i := 6) rfl rfl ?_
  refine g_iconst h (i := 7) rfl (v := 4) (by rfl) ?_
  refine g_anew h hq (i := 8) 0 4 rfl (by decide) rfl wl_cl_X1_17 hNK.2.2.1 rfl (by decide) ⟨by decide, by decide⟩ ?_
  refine g_ref (sg_N s1) ?_
  refine g_w (sNew W1 (.inr (3, 4))) rfl ?_
  refine g_putRF_0 h (i := 9) rfl rfl fl_X1_19 (fun C T q => by rw [clsT1 C T q]; exact ⟨rfl, rfl⟩) (fun _ _ _ => rfl) ((wK_n (k := .inr (3, 4)) (by rw [sg_N s1]; omega)).trans (sg_K s1 (o := 0) (by omega))) rfl rfl ?_
  have s2 := sg_arr 1 (k := .inr (3, 4)) s1 (sg_at (b := 2) (by omega) rfl) (sg_at (b := 2) (by omega) rfl) (fun o t q => q.elim (fun q => q.elim) (fun z => absurd z.2.1 (by decide)))
  obtain ⟨W2, hW2⟩ : ∃ W2, W2 = sR (sNew W1 (.inr (3, 4))) m 1 (some (m + 1 + 1)) := ⟨_, rfl⟩
  rw [← hW2] at s2 ⊢
  have hlo2 : E.2.2 ≤ wN W2 := by rw [sg_N s2]; omega
  refine g_aload_n h (i := 10) rfl rfl ?_
  refine g_bipush h (i := 11) rfl (v := 16) (by rfl) ?_
  refine g_anew h hq (i := 12) 3 16 rfl (by decide) rfl wl_cl_X1_23 hNK.2.2.2.1 rfl (by decide) ⟨by decide, by decide⟩ ?_
  refine g_ref (sg_N s2) ?_
  refine g_w (sNew W2 (.inr (6, 16))) rfl ?_
  refine g_putRF_0 h (i := 13) rfl rfl fl_X1_25 (fun C T q => by rw [clsT1 C T q]; exact ⟨rfl, rfl⟩) (fun _ _ _ => rfl) ((wK_n (k := .inr (6, 16)) (by rw [sg_N s2]; omega)).trans (sg_K s2 (o := 0) (by omega))) rfl rfl ?_
  have s3 := sg_arr 2 (k := .inr (6, 16)) s2 (sg_at (b := 3) (by omega) rfl) (sg_at (b := 3) (by omega) rfl) (fun o t q => q.elim (fun q => q.elim (fun q => q.elim) (fun z => absurd z.2.1 (by decide))) (fun z => absurd z.2.1 (by decide)))
  obtain ⟨W3, hW3⟩ : ∃ W3, W3 = sR (sNew W2 (.inr (6, 16))) m 2 (some (m + 1 + 1 + 1)) := ⟨_, rfl⟩
  rw [← hW3] at s3 ⊢
  have hlo3 : E.2.2 ≤ wN W3 := by rw [sg_N s3]; omega
  refine g_aload_n h (i := 14) rfl rfl ?_
  refine g_new h hq (i := 15) rfl cls6 wl_cl_X1_29 wl_in_X6 wl_ini_X6 (fun j hj => dv_ok (dv6 j hj)) ⟨by decide, by decide⟩ ?_
  refine g_ref (sg_N s3) ?_
  refine g_dup h (i := 16) rfl rfl ?_
  obtain ⟨n14, n24, n34, n44⟩ := sg_new (k := .inl 6) (sg_N s3)
  have cm4 := cn_X6_init l E (sNew W3 (.inl 6)) (m + 1 + 1 + 1 + 1) (by rw [n14]; have e := sg_N s3; omega) n14 n24 n34 n44
  refine g_nest h hNK (i := 17) hq rfl (List.mem_of_getElem? (i := 0) rfl) wl_cd_X6_init wl_im_X6_init wl_ini_X6 rfl ⟨by decide, by decide, by decide +kernel⟩ cm4 ⟨rfl, rfl, by decide, by decide⟩ (Nat.le_of_ble_eq_true rfl) ⟨by decide, by decide⟩ (fun r4 V4 hp4 => ?_)
  obtain ⟨rfl, sub4⟩ := hp4
  refine g_putRF_0 h (i := 18) rfl rfl fl_X1_32 (fun C T q => by rw [clsT1 C T q]; exact ⟨rfl, rfl⟩) (fun _ _ _ => rfl) (((sub4.1.2 m (by omega)).1.trans (wK_n (k := .inl 6) (by rw [sg_N s3]; omega))).trans (sg_K s3 (o := 0) (by omega))) rfl rfl ?_
  have s4 := sg_obj0 3 s3 sub4 (fun o ho => kvC_6 (by omega) (by omega)) (fun o ho => ivC_z (by omega)) (fun o t q => q.elim (fun q => q.elim (fun q => q.elim (fun q => q.elim) (fun z => absurd z.2.1 (by decide))) (fun z => absurd z.2.1 (by decide))) (fun z => absurd z.2.1 (by decide)))
  obtain ⟨W4, hW4⟩ : ∃ W4, W4 = sR V4 m 3 (some (m + 1 + 1 + 1 + 1)) := ⟨_, rfl⟩
  rw [← hW4] at s4 ⊢
  have hlo4 : E.2.2 ≤ wN W4 := by rw [sg_N s4]; have e := sg_N s3; omega
  refine g_aload_n h (i := 19) rfl rfl ?_
  refine g_new h hq (i := 20) rfl cls7 wl_cl_X1_36 wl_in_X7 wl_ini_X7 (fun j hj => dv_ok (dv7 j hj)) ⟨by decide, by decide⟩ ?_
  refine g_ref (sg_N s4) ?_
  refine g_dup h (i := 21) rfl rfl ?_
  obtain ⟨n15, n25, n35, n45⟩ := sg_new (k := .inl 7) (sg_N s4)
  have cm5 := cn_X7_init l E (sNew W4 (.inl 7)) (m + 1 + 1 + 1 + 1 + 4) (by rw [n15]; have e := sg_N s4; omega) n15 n25 n35 n45
  refine g_nest h hNK (i := 22) hq rfl (List.mem_of_getElem? (i := 1) rfl) wl_cd_X7_init wl_im_X7_init wl_ini_X7 rfl ⟨by decide, by decide, by decide +kernel⟩ cm5 ⟨rfl, rfl, by decide, by decide⟩ (Nat.le_of_ble_eq_true rfl) ⟨by decide, by decide⟩ (fun r5 V5 hp5 => ?_)
  obtain ⟨rfl, sub5⟩ := hp5
  refine g_putRF_0 h (i := 23) rfl rfl fl_X1_39 (fun C T q => by rw [clsT1 C T q]; exact ⟨rfl, rfl⟩) (fun _ _ _ => rfl) (((sub5.1.2 m (by omega)).1.trans (wK_n (k := .inl 7) (by rw [sg_N s4]; omega))).trans (sg_K s4 (o := 0) (by omega))) rfl rfl ?_
  have s5 := sg_obj0 4 s4 sub5 (fun o ho => kvC_7 (by omega) (by omega)) (fun o ho => ivC_z (by omega)) (fun o t q => q.elim (fun q => q.elim (fun q => q.elim (fun q => q.elim (fun q => q.elim) (fun z => absurd z.2.1 (by decide))) (fun z => absurd z.2.1 (by decide))) (fun z => absurd z.2.1 (by decide))) (fun q => q.elim (fun z => absurd z.2.1 (by decide)) (fun z => by have := z.1; omega)))
  obtain ⟨W5, hW5⟩ : ∃ W5, W5 = sR V5 m 4 (some (m + 1 + 1 + 1 + 1 + 4)) := ⟨_, rfl⟩
  rw [← hW5] at s5 ⊢
  have hlo5 : E.2.2 ≤ wN W5 := by rw [sg_N s5]; have e := sg_N s4; omega
  refine g_aload_n h (i := 24) rfl rfl ?_
  refine g_new h hq (i := 25) rfl cls8 wl_cl_X1_43 wl_in_X8 wl_ini_X8 (fun j hj => dv_ok (dv8 j hj)) ⟨by decide, by decide⟩ ?_
  refine g_ref (sg_N s5) ?_
  refine g_dup h (i := 26) rfl rfl ?_
  obtain ⟨n16, n26, n36, n46⟩ := sg_new (k := .inl 8) (sg_N s5)
  have cm6 := cn_X8_init l E (sNew W5 (.inl 8)) (m + 1 + 1 + 1 + 1 + 4 + 4) (by rw [n16]; have e := sg_N s5; omega) n16 n26 n36 n46
  refine g_nest h hNK (i := 27) hq rfl (List.mem_of_getElem? (i := 2) rfl) wl_cd_X8_init wl_im_X8_init wl_ini_X8 rfl ⟨by decide, by decide, by decide +kernel⟩ cm6 ⟨rfl, rfl, by decide, by decide⟩ (Nat.le_of_ble_eq_true rfl) ⟨by decide, by decide⟩ (fun r6 V6 hp6 => ?_)
  obtain ⟨rfl, sub6⟩ := hp6
  refine g_putRF_0 h (i := 28) rfl rfl fl_X1_46 (fun C T q => by rw [clsT1 C T q]; exact ⟨rfl, rfl⟩) (fun _ _ _ => rfl) (((sub6.1.2 m (by omega)).1.trans (wK_n (k := .inl 8) (by rw [sg_N s5]; omega))).trans (sg_K s5 (o := 0) (by omega))) rfl rfl ?_
  have s6 := sg_obj0 5 s5 sub6 (fun o ho => kvC_8 (by omega) (by omega)) (fun o ho => ivC_z (by omega)) (fun o t q => q.elim (fun q => q.elim (fun q => q.elim (fun q => q.elim (fun q => q.elim (fun q => q.elim) (fun z => absurd z.2.1 (by decide))) (fun z => absurd z.2.1 (by decide))) (fun z => absurd z.2.1 (by decide))) (fun q => q.elim (fun z => absurd z.2.1 (by decide)) (fun z => by have := z.1; omega))) (fun q => q.elim (fun z => absurd z.2.1 (by decide)) (fun z => by have := z.1; omega)))
  obtain ⟨W6, hW6⟩ : ∃ W6, W6 = sR V6 m 5 (some (m + 1 + 1 + 1 + 1 + 4 + 4)) := ⟨_, rfl⟩
  rw [← hW6] at s6 ⊢
  have hlo6 : E.2.2 ≤ wN W6 := by rw [sg_N s6]; have e := sg_N s5; omega
  refine g_aload_n h (i := 29) rfl rfl ?_
  refine g_iconst h (i := 30) rfl (v := 4) (by rfl) ?_
  refine g_newar h hq (i := 31) 0 4 rfl (by decide) rfl wl_arr_int rfl (by decide) ⟨by decide, by decide⟩ ?_
  refine g_ref (sg_N s6) ?_
  refine g_putRF_0 h (i := 32) rfl rfl fl_X1_50 (fun C T q => by rw [clsT1 C T q]; exact ⟨rfl, rfl⟩) (fun _ _ _ => rfl) ((wK_n (k := .inr (0, 4)) (by rw [sg_N s6]; omega)).trans (sg_K s6 (o := 0) (by omega))) rfl rfl ?_
  have s7 := sg_arr 6 (k := .inr (0, 4)) s6 (sg_at (b := 13) (by omega) rfl) (sg_at (b := 13) (by omega) rfl) (fun o t q => q.elim (fun q => q.elim (fun q => q.elim (fun q => q.elim (fun q => q.elim (fun q => q.elim (fun q => q.elim) (fun z => absurd z.2.1 (by decide))) (fun z => absurd z.2.1 (by decide))) (fun z => absurd z.2.1 (by decide))) (fun q => q.elim (fun z => absurd z.2.1 (by decide)) (fun z => by have := z.1; omega))) (fun q => q.elim (fun z => absurd z.2.1 (by decide)) (fun z => by have := z.1; omega))) (fun q => q.elim (fun z => absurd z.2.1 (by decide)) (fun z => by have := z.1; omega)))
  obtain ⟨W7, hW7⟩ : ∃ W7, W7 = sR (sNew W6 (.inr (0, 4))) m 6 (some (m + 1 + 1 + 1 + 1 + 4 + 4 + 1)) := ⟨_, rfl⟩
  rw [← hW7] at s7 ⊢
  have hlo7 : E.2.2 ≤ wN W7 := by rw [sg_N s7]; omega
  have sC : Sg w W7 m (m + 14) kvC ivC LRc0 := sg_w s7 (fun _ _ => rfl) (fun _ _ => rfl) (fun o f t q => by
      rcases q with ⟨rfl, q⟩ | ⟨rfl, hf, rfl⟩ | ⟨rfl, hf, rfl⟩
      · rcases q with ⟨rfl, rfl⟩ | ⟨rfl, rfl⟩ | ⟨rfl, rfl⟩ | ⟨rfl, rfl⟩ | ⟨rfl, rfl⟩ | ⟨rfl, rfl⟩ | ⟨rfl, rfl⟩
        · exact Or.inl (Or.inl (Or.inl (Or.inl (Or.inl (Or.inl (Or.inr (⟨rfl, rfl, by omega⟩)))))))
        · exact Or.inl (Or.inl (Or.inl (Or.inl (Or.inl (Or.inr (⟨rfl, rfl, by omega⟩))))))
        · exact Or.inl (Or.inl (Or.inl (Or.inl (Or.inr (⟨rfl, rfl, by omega⟩)))))
        · exact Or.inl (Or.inl (Or.inl (Or.inr (Or.inl (⟨rfl, rfl, by omega⟩)))))
        · exact Or.inl (Or.inl (Or.inr (Or.inl (⟨rfl, rfl, by omega⟩))))
        · exact Or.inl (Or.inr (Or.inl (⟨rfl, rfl, by omega⟩)))
        · exact Or.inr (⟨rfl, rfl, by omega⟩)
      · exact Or.inl (Or.inl (Or.inl (Or.inr (Or.inr ⟨by omega, by omega, by (show _ ∧ _ ∧ _); exact ⟨by omega, hf, by omega⟩⟩))))
      · exact Or.inl (Or.inl (Or.inr (Or.inr ⟨by omega, by omega, by (show _ ∧ _ ∧ _); exact ⟨by omega, hf, by omega⟩⟩))))
  refine g_iconst h (i := 33) rfl (v := 0) (by rfl) ?_
  refine g_istore_n h (i := 34) rfl hq rfl ?_
  exact g_lv [(0, .ref m), (1, .int (nI 0))] ⟨rfl, rfl, trivial⟩ (k71 4 0 _ (by omega) (sg_w sC (fun _ _ => rfl) (fun _ _ => rfl) (fun o f t q => by
    rcases q with q | ⟨_, hf, _⟩
    · exact q
    · exact absurd hf (Nat.not_lt_zero _))))
