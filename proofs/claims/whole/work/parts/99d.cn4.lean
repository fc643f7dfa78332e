def kvB : Nat → Option (Nat ⊕ (Nat × Nat)) := fun o => if o < 1 then some (.inl 9) else if o < 55 then kvC (o - 1) else if o < 65 then kvM (o - 55) else if o < 66 then some (.inr (5, 4)) else if o < 67 then some (.inr (1, 4)) else if o < 77 then kvM (o - 67) else if o < 87 then kvM (o - 77) else if o < 90 then kvT (o - 87) else if o < 91 then kvO 8 (o - 90) else kvM ((o - 91) % 10)
def ivB : Nat → Nat → Int32 := fun o => if o < 1 then z32 else if o < 55 then ivC (o - 1) else if o < 65 then ivM (o - 55) else if o < 67 then z32 else if o < 77 then ivM (o - 67) else if o < 87 then ivM (o - 77) else if o < 91 then z32 else ivM ((o - 91) % 10)
theorem kvB_1 {x y : Nat} (h : x = 1 + y) (h2 : y < 54) : kvB x = kvC y := by subst h; unfold kvB; rw [if_neg (by omega), if_pos (by omega), show 1 + y - 1 = y by omega]
theorem kvB_55 {x y : Nat} (h : x = 55 + y) (h2 : y < 10) : kvB x = kvM y := by subst h; unfold kvB; rw [if_neg (by omega), if_neg (by omega), if_pos (by omega), show 55 + y - 55 = y by omega]
theorem kvB_67 {x y : Nat} (h : x = 67 + y) (h2 : y < 10) : kvB x = kvM y := by subst h; unfold kvB; rw [if_neg (by omega), if_neg (by omega), if_neg (by omega), if_neg (by omega), if_neg (by omega), if_pos (by omega), show 67 + y - 67 = y by omega]
theorem kvB_77 {x y : Nat} (h : x = 77 + y) (h2 : y < 10) : kvB x = kvM y := by subst h; unfold kvB; rw [if_neg (by omega), if_neg (by omega), if_neg (by omega), if_neg (by omega), if_neg (by omega), if_neg (by omega), if_pos (by omega), show 77 + y - 77 = y by omega]
theorem kvB_87 {x y : Nat} (h : x = 87 + y) (h2 : y < 3) : kvB x = kvT y := by subst h; unfold kvB; rw [if_neg (by omega), if_neg (by omega), if_neg (by omega), if_neg (by omega), if_neg (by omega), if_neg (by omega), if_neg (by omega), if_pos (by omega), show 87 + y - 87 = y by omega]
theorem kvB_90 {x y : Nat} (h : x = 90 + y) (h2 : y < 1) : kvB x = kvO 8 y := by subst h; unfold kvB; rw [if_neg (by omega), if_neg (by omega), if_neg (by omega), if_neg (by omega), if_neg (by omega), if_neg (by omega), if_neg (by omega), if_neg (by omega), if_pos (by omega), show 90 + y - 90 = y by omega]
theorem kvB_91 {x y k : Nat} (h : x = 91 + 10 * k + y) (h2 : y < 10) : kvB x = kvM y := by subst h; unfold kvB; rw [if_neg (by omega), if_neg (by omega), if_neg (by omega), if_neg (by omega), if_neg (by omega), if_neg (by omega), if_neg (by omega), if_neg (by omega), if_neg (by omega), show (91 + 10 * k + y - 91) % 10 = y by omega]
theorem ivB_1 {x y : Nat} (h : x = 1 + y) (h2 : y < 54) : ivB x = ivC y := by subst h; unfold ivB; rw [if_neg (by omega), if_pos (by omega), show 1 + y - 1 = y by omega]
theorem ivB_55 {x y : Nat} (h : x = 55 + y) (h2 : y < 10) : ivB x = ivM y := by subst h; unfold ivB; rw [if_neg (by omega), if_neg (by omega), if_pos (by omega), show 55 + y - 55 = y by omega]
theorem ivB_67 {x y : Nat} (h : x = 67 + y) (h2 : y < 10) : ivB x = ivM y := by subst h; unfold ivB; rw [if_neg (by omega), if_neg (by omega), if_neg (by omega), if_neg (by omega), if_pos (by omega), show 67 + y - 67 = y by omega]
theorem ivB_77 {x y : Nat} (h : x = 77 + y) (h2 : y < 10) : ivB x = ivM y := by subst h; unfold ivB; rw [if_neg (by omega), if_neg (by omega), if_neg (by omega), if_neg (by omega), if_neg (by omega), if_pos (by omega), show 77 + y - 77 = y by omega]
theorem ivB_z {x : Nat} (h : x < 1 ∨ (65 ≤ x ∧ x < 67) ∨ (87 ≤ x ∧ x < 91)) : ivB x = z32 := by
  unfold ivB
  by_cases h1 : x < 1
  · rw [if_pos h1]
  · rw [if_neg h1, if_neg (by omega), if_neg (by omega)]
    by_cases h2 : x < 67
    · rw [if_pos h2]
    · rw [if_neg h2, if_neg (by omega), if_neg (by omega), if_pos (by omega)]
theorem ivB_91 {x y k : Nat} (h : x = 91 + 10 * k + y) (h2 : y < 10) : ivB x = ivM y := by subst h; unfold ivB; rw [if_neg (by omega), if_neg (by omega), if_neg (by omega), if_neg (by omega), if_neg (by omega), if_neg (by omega), if_neg (by omega), show (91 + 10 * k + y - 91) % 10 = y by omega]
def LRb0 : Nat → Nat → Nat → Prop := fun o f t => (o = 0 ∧ ((f = 0 ∧ t = 1) ∨ (f = 1 ∧ t = 55) ∨ (f = 2 ∧ t = 65) ∨ (f = 3 ∧ t = 66) ∨ (f = 4 ∧ t = 67) ∨ (f = 5 ∧ t = 77) ∨ (f = 6 ∧ t = 87) ∨ (f = 7 ∧ t = 90))) ∨ (1 ≤ o ∧ 1 ≤ t ∧ LRc3 16 (o - 1) f (t - 1)) ∨ (55 ≤ o ∧ 55 ≤ t ∧ LRM (o - 55) f (t - 55)) ∨ (67 ≤ o ∧ 67 ≤ t ∧ LRM (o - 67) f (t - 67)) ∨ (77 ≤ o ∧ 77 ≤ t ∧ LRM (o - 77) f (t - 77)) ∨ (87 ≤ o ∧ 87 ≤ t ∧ LRT (o - 87) f (t - 87))
def LRb (i : Nat) : Nat → Nat → Nat → Prop := fun o f t => LRb0 o f t ∨ (o = 65 ∧ f < i ∧ t = 91 + 10 * f) ∨ (∃ k, k < i ∧ 91 + 10 * k ≤ o ∧ 91 + 10 * k ≤ t ∧ LRM (o - (91 + 10 * k)) f (t - (91 + 10 * k)))
theorem c3_lt {o f t : Nat} (h : LRc3 16 o f t) : o < 54 := by
  rcases h with h | h | ⟨k, h⟩
  · have := c2_o h; omega
  · omega
  · omega
theorem lm_o {o f t : Nat} (h : LRM o f t) : o = 0 ∨ o = 7 := by
  rcases h with h | h
  · exact Or.inl h.1
  · exact Or.inr h.1
theorem lb_o {o f t i : Nat} (h : LRb i o f t) : o ≠ 65 ∨ f < i := by
  rcases h with h | h | ⟨k, h⟩
  · rcases h with h | h | h | h | h | h
    · omega
    · have := c3_lt h.2.2; omega
    · have := lm_o h.2.2; omega
    · omega
    · omega
    · omega
  · omega
  · omega
theorem wl_ol_X9 : Cond.methodLink RX9 1 objectInit ∈ lw_ok := lw_in (List.mem_of_getElem? (i := 54) (by decide +kernel)) rfl
theorem wl_cl_X9_7 : Cond.classLink RX9 7 RX1 ∈ lw_ok := lw_in (List.mem_of_getElem? (i := 57) (by decide +kernel)) rfl
theorem wl_in_X1 : Cond.instantiable RX1 (cN 1) ∈ lw_ok := lw_in (List.mem_of_getElem? (i := 58) (by decide +kernel)) rfl
theorem wl_ini_X1 : Cond.initialized RX1 ∈ lw_ok := lw_in (List.mem_of_getElem? (i := 37) (by decide +kernel)) rfl
theorem wl_cd_X1_init : Cond.code yX1_init cX1_init 2 none ∈ lw_ok := lw_in (List.mem_of_getElem? (i := 61) (by decide +kernel)) rfl
theorem wl_im_X1_init : Cond.instanceMethod yX1_init ∈ lw_ok := lw_in (List.mem_of_getElem? (i := 60) (by decide +kernel)) rfl
theorem wl_cl_X9_16 : Cond.classLink RX9 16 RX3 ∈ lw_ok := lw_in (List.mem_of_getElem? (i := 231) (by decide +kernel)) rfl
theorem wl_in_X3 : Cond.instantiable RX3 (cN 3) ∈ lw_ok := lw_in (List.mem_of_getElem? (i := 232) (by decide +kernel)) rfl
theorem wl_ini_X3 : Cond.initialized RX3 ∈ lw_ok := lw_in (List.mem_of_getElem? (i := 44) (by decide +kernel)) rfl
theorem wl_cd_X3_init : Cond.code yX3_init cX3_init 1 none ∈ lw_ok := lw_in (List.mem_of_getElem? (i := 235) (by decide +kernel)) rfl
theorem wl_im_X3_init : Cond.instanceMethod yX3_init ∈ lw_ok := lw_in (List.mem_of_getElem? (i := 234) (by decide +kernel)) rfl
theorem wl_cl_X9_37 : Cond.classLink RX9 37 RX4 ∈ lw_ok := lw_in (List.mem_of_getElem? (i := 353) (by decide +kernel)) rfl
theorem wl_cl_X9_44 : Cond.classLink RX9 44 RX8 ∈ lw_ok := lw_in (List.mem_of_getElem? (i := 355) (by decide +kernel)) rfl
-- X9_init
set_option maxRecDepth 100000 in
set_option maxHeartbeats 4000000 in
theorem cn_X9_init (l : Launch) (E : EE) (w : Wd) (m : Nat) (hlo : E.2.2 ≤ wN w) (hN : wN w = m + 1) (hK : wK w m = some (.inl 9)) (hI : wI w m = z32) (hJ : wJ w m = z64) : CtN l E yX9_init cX9_init 2 none ({ frames := 3, cells := 130, slots := 1041, locals := 53 } : Room) [.ref m] w 130 1041 (fun q w2 => q = none ∧ Sg w w2 m (m + 131) kvB ivB (LRb 4)) := by
  refine ct_inN (il := il_X9_init) (by decide) dk_X9_init (Nat.le_of_ble_eq_true rfl) hlo ?_
  intro X h hq hNK
  have hlm : E.2.2 ≤ m + 1 := by rw [← hN]; exact hlo
  have k87 : ∀ (d i : Nat) (V : Wd), i + d = 4 → Sg w V m (m + (91 + 10 * i)) kvB ivB (LRb i) → G X (90 + 10 * i) (737 + 76 * i) 87 (lf [(0, .ref m), (1, .int (nI i))]) [] V := by
    intro d
    induction d with
    | zero =>
      intro i V hi hs
      have hi4 : i = 4 := by omega
      subst hi4
      refine g_iload_n h (i := 42) rfl rfl ?_
      refine g_iconst h (i := 43) rfl (v := 4) (by rfl) ?_
      refine g_icmp_ge h (i := 44) 111 rfl rfl (fun c_89 => ?_) (fun c_89 => absurd (by decide : (4 : Int32) ≤ nI 4) c_89)
      exact g_vret hq h (i := 54) rfl (⟨rfl, hs⟩)
    | succ d ih =>
      intro i V hid hs
      have hi : i < 4 := by omega
      have hnge : ¬ (4 : Int32) ≤ nI i := nI_ge (b := 4) hi (by omega)
      refine g_iload_n h (i := 42) rfl rfl ?_
      refine g_iconst h (i := 43) rfl (v := 4) (by rfl) ?_
      refine g_icmp_ge h (i := 44) 111 rfl rfl (fun c_89 => absurd c_89 hnge) (fun c_89 => ?_)
      refine g_aload_n h (i := 45) rfl rfl ?_
      refine g_getR h (i := 46) rfl fl_X9_23 (fun _ _ _ => rfl) (sg_K hs (o := 0) (by omega)) (sg_R hs (o := 0) (f := 2) (t := 65) (Or.inl (Or.inl ⟨rfl, by decide⟩))) ?_
      refine g_iload_n h (i := 47) rfl rfl ?_
      refine g_new h hq (i := 48) rfl cls3 wl_cl_X9_16 wl_in_X3 wl_ini_X3 (fun j hj => dv_ok (dv3 j hj)) ⟨by (show 90 + 10 * i + 1 ≤ 130); omega, by (show 737 + 76 * i + 18 ≤ 1041); omega⟩ ?_
      refine g_ref (sg_N hs) ?_
      refine g_dup h (i := 49) rfl rfl ?_
      obtain ⟨n1, n2, n3, n4⟩ := sg_new (k := .inl 3) (sg_N hs)
      have cm := cn_X3_init l E (sNew V (.inl 3)) (m + (91 + 10 * i)) (by rw [n1]; omega) n1 n2 n3 n4
      refine g_nest h hNK (i := 50) hq rfl (List.mem_of_getElem? (i := 6) rfl) wl_cd_X3_init wl_im_X3_init wl_ini_X3 rfl ⟨by decide, by decide, by decide +kernel⟩ cm ⟨rfl, rfl, by decide, by decide⟩ (Nat.le_of_ble_eq_true rfl) ⟨by (show 90 + 10 * i + 1 + 9 ≤ 130); omega, by (show 737 + 76 * i + 18 + 58 ≤ 1041); omega⟩ (fun r V2 hp => ?_)
      obtain ⟨rfl, sub⟩ := hp
      have hk1 : wK V2 (m + 65) = some (.inr (5, 4)) := ((sub.1.2 (m + 65) (by omega)).1.trans (wK_n (k := .inl 3) (by rw [sg_N hs]; omega))).trans (sg_K hs (o := 65) (by omega))
      have hk2 : wK V2 (m + (91 + 10 * i)) = some (.inl 3) := sg_K sub (o := 0) (by omega)
      refine g_aast h (i := 51) (t := 2) rfl (by decide) rfl hk1 (vp_in_nI hi (by omega)) hk2 (show vwCl[3]? = some (RX3, TX3, cN 3) from rfl) ?_
      refine g_w (sR V2 (m + 65) i (some (m + (91 + 10 * i)))) (by rw [nI_clamp (by omega)]) ?_
      have hs2 := sg_obj (o1 := 65) i hs sub (fun o ho => kvB_91 (k := i) (by omega) (by omega)) (fun o ho => ivB_91 (k := i) (by omega) (by omega)) (by omega) (fun o t q => by have := lb_o q; omega)
      have hs3 : Sg w (sR V2 (m + 65) i (some (m + (91 + 10 * i)))) m (m + (91 + 10 * (i + 1))) kvB ivB (LRb (i + 1)) := sg_w hs2 (fun _ _ => rfl) (fun _ _ => rfl) (fun o f t q => by
        rcases q with q | ⟨rfl, hf, rfl⟩ | ⟨k, hk, h1, h2, q⟩
        · exact Or.inl (Or.inl q)
        · by_cases e : f = i
          · subst e; exact Or.inr (Or.inl ⟨rfl, rfl, by omega⟩)
          · exact Or.inl (Or.inr (Or.inl ⟨rfl, by omega, rfl⟩))
        · by_cases e : k = i
          · subst e; exact Or.inr (Or.inr ⟨by omega, by omega, by rw [show m + (91 + 10 * k) - m = 91 + 10 * k by omega]; exact q⟩)
          · exact Or.inl (Or.inr (Or.inr ⟨k, by omega, h1, h2, q⟩)))
      refine g_iinc h (i := 52) rfl rfl (dv := 1) (by rfl) ?_
      refine g_goto h (i := 53) 87 rfl rfl ?_
      refine g_cc (ce' := 90 + 10 * (i + 1)) (sl' := 737 + 76 * (i + 1)) (by (show 90 + 10 * i + 1 + 9 = 90 + 10 * (i + 1)); omega) (by (show 737 + 76 * i + 18 + 58 = 737 + 76 * (i + 1)); omega) ?_
      exact g_lv [(0, .ref m), (1, .int (nI (i + 1)))] ⟨rfl, congrArg (fun z => some (Value.int z)) (nI_1 i), trivial⟩ (ih (i + 1) _ (by omega) hs3)
  have s0 := sg_0 (kv := kvB) (iv := ivB) hN hK hI hJ
  refine g_aload_n h (i := 0) rfl rfl ?_
  refine g_oinit h hq (i := 1) rfl wl_ol_X9 wl_oi wl_oc ⟨by decide, by decide⟩ ?_
  refine g_aload_n h (i := 2) rfl rfl ?_
  refine g_new h hq (i := 3) rfl cls1 wl_cl_X9_7 wl_in_X1 wl_ini_X1 (fun j hj => dv_ok (dv1 j hj)) ⟨by decide, by decide⟩ ?_
  refine g_ref (sg_N s0) ?_
  refine g_dup h (i := 4) rfl rfl ?_
  obtain ⟨n11, n21, n31, n41⟩ := sg_new (k := .inl 1) (sg_N s0)
  have cm1 := cn_X1_init l E (sNew w (.inl 1)) (m + 1) (by rw [n11]; have e := sg_N s0; omega) n11 n21 n31 n41
  refine g_plain h hNK (i := 5) hq rfl mi_X9_9 cm1 ⟨rfl, rfl, by decide, by decide⟩ (Nat.le_of_ble_eq_true rfl) ⟨by decide, by decide⟩ (fun r1 V1 hp1 => ?_)
  obtain ⟨rfl, sub1⟩ := hp1
  refine g_putRF_0 h (i := 6) rfl rfl fl_X9_10 (fun C T q => by rw [clsT9 C T q]; exact ⟨rfl, rfl⟩) (fun _ _ _ => rfl) (((sub1.1.2 m (by omega)).1.trans (wK_n (k := .inl 1) (by rw [sg_N s0]; omega))).trans (sg_K s0 (o := 0) (by omega))) rfl rfl ?_
  have s1 := sg_obj0 0 s0 sub1 (fun o ho => kvB_1 (by omega) (by omega)) (fun o ho => ivB_1 (by omega) (by omega)) (fun o t q => q.elim)
  obtain ⟨W1, hW1⟩ : ∃ W1, W1 = sR V1 m 0 (some (m + 1)) := ⟨_, rfl⟩
  rw [← hW1] at s1 ⊢
  have hlo1 : E.2.2 ≤ wN W1 := by rw [sg_N s1]; have e := sg_N s0; omega
  refine g_aload_n h (i := 7) rfl rfl ?_
  refine g_new h hq (i := 8) rfl cls3 wl_cl_X9_16 wl_in_X3 wl_ini_X3 (fun j hj => dv_ok (dv3 j hj)) ⟨by decide, by decide⟩ ?_
  refine g_ref (sg_N s1) ?_
  refine g_dup h (i := 9) rfl rfl ?_
  obtain ⟨n12, n22, n32, n42⟩ := sg_new (k := .inl 3) (sg_N s1)
  have cm2 := cn_X3_init l E (sNew W1 (.inl 3)) (m + 1 + 54) (by rw [n12]; have e := sg_N s1; omega) n12 n22 n32 n42
  refine g_nest h hNK (i := 10) hq rfl (List.mem_of_getElem? (i := 6) rfl) wl_cd_X3_init wl_im_X3_init wl_ini_X3 rfl ⟨by decide, by decide, by decide +kernel⟩ cm2 ⟨rfl, rfl, by decide, by decide⟩ (Nat.le_of_ble_eq_true rfl) ⟨by decide, by decide⟩ (fun r2 V2 hp2 => ?_)
  obtain ⟨rfl, sub2⟩ := hp2
  refine g_putRF_0 h (i := 11) rfl rfl fl_X9_19 (fun C T q => by rw [clsT9 C T q]; exact ⟨rfl, rfl⟩) (fun _ _ _ => rfl) (((sub2.1.2 m (by omega)).1.trans (wK_n (k := .inl 3) (by rw [sg_N s1]; omega))).trans (sg_K s1 (o := 0) (by omega))) rfl rfl ?_
  have s2 := sg_obj0 1 s1 sub2 (fun o ho => kvB_55 (by omega) (by omega)) (fun o ho => ivB_55 (by omega) (by omega)) (fun o t q => q.elim (fun q => q.elim) (fun q => q.elim (fun z => absurd z.2.1 (by decide)) (fun z => by have := z.1; omega)))
  obtain ⟨W2, hW2⟩ : ∃ W2, W2 = sR V2 m 1 (some (m + 1 + 54)) := ⟨_, rfl⟩
  rw [← hW2] at s2 ⊢
  have hlo2 : E.2.2 ≤ wN W2 := by rw [sg_N s2]; have e := sg_N s1; omega
  refine g_aload_n h (i := 12) rfl rfl ?_
  refine g_iconst h (i := 13) rfl (v := 4) (by rfl) ?_
  refine g_anew h hq (i := 14) 2 4 rfl (by decide) rfl wl_cl_X9_16 hNK.2.2.2.2 rfl (by decide) ⟨by decide, by decide⟩ ?_
  refine g_ref (sg_N s2) ?_
  refine g_w (sNew W2 (.inr (5, 4))) rfl ?_
  refine g_putRF_0 h (i := 15) rfl rfl fl_X9_23 (fun C T q => by rw [clsT9 C T q]; exact ⟨rfl, rfl⟩) (fun _ _ _ => rfl) ((wK_n (k := .inr (5, 4)) (by rw [sg_N s2]; omega)).trans (sg_K s2 (o := 0) (by omega))) rfl rfl ?_
  have s3 := sg_arr 2 (k := .inr (5, 4)) s2 (sg_at (b := 65) (by omega) rfl) (sg_at (b := 65) (by omega) rfl) (fun o t q => q.elim (fun q => q.elim (fun q => q.elim) (fun q => q.elim (fun z => absurd z.2.1 (by decide)) (fun z => by have := z.1; omega))) (fun q => q.elim (fun z => absurd z.2.1 (by decide)) (fun z => by have := z.1; omega)))
  obtain ⟨W3, hW3⟩ : ∃ W3, W3 = sR (sNew W2 (.inr (5, 4))) m 2 (some (m + 1 + 54 + 10)) := ⟨_, rfl⟩
  rw [← hW3] at s3 ⊢
  have hlo3 : E.2.2 ≤ wN W3 := by rw [sg_N s3]; omega
  refine g_aload_n h (i := 16) rfl rfl ?_
  refine g_iconst h (i := 17) rfl (v := 4) (by rfl) ?_
  refine g_newar h hq (i := 18) 1 4 rfl (by decide) rfl wl_arr_boolean rfl (by decide) ⟨by decide, by decide⟩ ?_
  refine g_ref (sg_N s3) ?_
  refine g_putRF_0 h (i := 19) rfl rfl fl_X9_27 (fun C T q => by rw [clsT9 C T q]; exact ⟨rfl, rfl⟩) (fun _ _ _ => rfl) ((wK_n (k := .inr (1, 4)) (by rw [sg_N s3]; omega)).trans (sg_K s3 (o := 0) (by omega))) rfl rfl ?_
  have s4 := sg_arr 3 (k := .inr (1, 4)) s3 (sg_at (b := 66) (by omega) rfl) (sg_at (b := 66) (by omega) rfl) (fun o t q => q.elim (fun q => q.elim (fun q => q.elim (fun q => q.elim) (fun q => q.elim (fun z => absurd z.2.1 (by decide)) (fun z => by have := z.1; omega))) (fun q => q.elim (fun z => absurd z.2.1 (by decide)) (fun z => by have := z.1; omega))) (fun z => absurd z.2.1 (by decide)))
  obtain ⟨W4, hW4⟩ : ∃ W4, W4 = sR (sNew W3 (.inr (1, 4))) m 3 (some (m + 1 + 54 + 10 + 1)) := ⟨_, rfl⟩
  rw [← hW4] at s4 ⊢
  have hlo4 : E.2.2 ≤ wN W4 := by rw [sg_N s4]; omega
  refine g_aload_n h (i := 20) rfl rfl ?_
  refine g_new h hq (i := 21) rfl cls3 wl_cl_X9_16 wl_in_X3 wl_ini_X3 (fun j hj => dv_ok (dv3 j hj)) ⟨by decide, by decide⟩ ?_
  refine g_ref (sg_N s4) ?_
  refine g_dup h (i := 22) rfl rfl ?_
  obtain ⟨n15, n25, n35, n45⟩ := sg_new (k := .inl 3) (sg_N s4)
  have cm5 := cn_X3_init l E (sNew W4 (.inl 3)) (m + 1 + 54 + 10 + 1 + 1) (by rw [n15]; have e := sg_N s4; omega) n15 n25 n35 n45
  refine g_nest h hNK (i := 23) hq rfl (List.mem_of_getElem? (i := 6) rfl) wl_cd_X3_init wl_im_X3_init wl_ini_X3 rfl ⟨by decide, by decide, by decide +kernel⟩ cm5 ⟨rfl, rfl, by decide, by decide⟩ (Nat.le_of_ble_eq_true rfl) ⟨by decide, by decide⟩ (fun r5 V5 hp5 => ?_)
  obtain ⟨rfl, sub5⟩ := hp5
  refine g_putRF_0 h (i := 24) rfl rfl fl_X9_31 (fun C T q => by rw [clsT9 C T q]; exact ⟨rfl, rfl⟩) (fun _ _ _ => rfl) (((sub5.1.2 m (by omega)).1.trans (wK_n (k := .inl 3) (by rw [sg_N s4]; omega))).trans (sg_K s4 (o := 0) (by omega))) rfl rfl ?_
  have s5 := sg_obj0 4 s4 sub5 (fun o ho => kvB_67 (by omega) (by omega)) (fun o ho => ivB_67 (by omega) (by omega)) (fun o t q => q.elim (fun q => q.elim (fun q => q.elim (fun q => q.elim (fun q => q.elim) (fun q => q.elim (fun z => absurd z.2.1 (by decide)) (fun z => by have := z.1; omega))) (fun q => q.elim (fun z => absurd z.2.1 (by decide)) (fun z => by have := z.1; omega))) (fun z => absurd z.2.1 (by decide))) (fun z => absurd z.2.1 (by decide)))
  obtain ⟨W5, hW5⟩ : ∃ W5, W5 = sR V5 m 4 (some (m + 1 + 54 + 10 + 1 + 1)) := ⟨_, rfl⟩
  rw [← hW5] at s5 ⊢
  have hlo5 : E.2.2 ≤ wN W5 := by rw [sg_N s5]; have e := sg_N s4; omega
  refine g_aload_n h (i := 25) rfl rfl ?_
  refine g_new h hq (i := 26) rfl cls3 wl_cl_X9_16 wl_in_X3 wl_ini_X3 (fun j hj => dv_ok (dv3 j hj)) ⟨by decide, by decide⟩ ?_
  refine g_ref (sg_N s5) ?_
  refine g_dup h (i := 27) rfl rfl ?_
  obtain ⟨n16, n26, n36, n46⟩ := sg_new (k := .inl 3) (sg_N s5)
  have cm6 := cn_X3_init l E (sNew W5 (.inl 3)) (m + 1 + 54 + 10 + 1 + 1 + 10) (by rw [n16]; have e := sg_N s5; omega) n16 n26 n36 n46
  refine g_nest h hNK (i := 28) hq rfl (List.mem_of_getElem? (i := 6) rfl) wl_cd_X3_init wl_im_X3_init wl_ini_X3 rfl ⟨by decide, by decide, by decide +kernel⟩ cm6 ⟨rfl, rfl, by decide, by decide⟩ (Nat.le_of_ble_eq_true rfl) ⟨by decide, by decide⟩ (fun r6 V6 hp6 => ?_)
  obtain ⟨rfl, sub6⟩ := hp6
  refine g_putRF_0 h (i := 29) rfl rfl fl_X9_34 (fun C T q => by rw [clsT9 C T q]; exact ⟨rfl, rfl⟩) (fun _ _ _ => rfl) (((sub6.1.2 m (by omega)).1.trans (wK_n (k := .inl 3) (by rw [sg_N s5]; omega))).trans (sg_K s5 (o := 0) (by omega))) rfl rfl ?_
  have s6 := sg_obj0 5 s5 sub6 (fun o ho => kvB_77 (by omega) (by omega)) (fun o ho => ivB_77 (by omega) (by omega)) (fun o t q => q.elim (fun q => q.elim (fun q => q.elim (fun q => q.elim (fun q => q.elim (fun q => q.elim) (fun q => q.elim (fun z => absurd z.2.1 (by decide)) (fun z => by have := z.1; omega))) (fun q => q.elim (fun z => absurd z.2.1 (by decide)) (fun z => by have := z.1; omega))) (fun z => absurd z.2.1 (by decide))) (fun z => absurd z.2.1 (by decide))) (fun q => q.elim (fun z => absurd z.2.1 (by decide)) (fun z => by have := z.1; omega)))
  obtain ⟨W6, hW6⟩ : ∃ W6, W6 = sR V6 m 5 (some (m + 1 + 54 + 10 + 1 + 1 + 10)) := ⟨_, rfl⟩
  rw [← hW6] at s6 ⊢
  have hlo6 : E.2.2 ≤ wN W6 := by rw [sg_N s6]; have e := sg_N s5; omega
  refine g_aload_n h (i := 30) rfl rfl ?_
  refine g_new h hq (i := 31) rfl cls4 wl_cl_X9_37 wl_in_X4 wl_ini_X4 (fun j hj => dv_ok (dv4 j hj)) ⟨by decide, by decide⟩ ?_
  refine g_ref (sg_N s6) ?_
  refine g_dup h (i := 32) rfl rfl ?_
  obtain ⟨n17, n27, n37, n47⟩ := sg_new (k := .inl 4) (sg_N s6)
  have cm7 := cn_X4_init l E (sNew W6 (.inl 4)) (m + 1 + 54 + 10 + 1 + 1 + 10 + 10) (by rw [n17]; have e := sg_N s6; omega) n17 n27 n37 n47
  refine g_nest h hNK (i := 33) hq rfl (List.mem_of_getElem? (i := 8) rfl) wl_cd_X4_init wl_im_X4_init wl_ini_X4 rfl ⟨by decide, by decide, by decide +kernel⟩ cm7 ⟨rfl, rfl, by decide, by decide⟩ (Nat.le_of_ble_eq_true rfl) ⟨by decide, by decide⟩ (fun r7 V7 hp7 => ?_)
  obtain ⟨rfl, sub7⟩ := hp7
  refine g_putRF_0 h (i := 34) rfl rfl fl_X9_40 (fun C T q => by rw [clsT9 C T q]; exact ⟨rfl, rfl⟩) (fun _ _ _ => rfl) (((sub7.1.2 m (by omega)).1.trans (wK_n (k := .inl 4) (by rw [sg_N s6]; omega))).trans (sg_K s6 (o := 0) (by omega))) rfl rfl ?_
  have s7 := sg_obj0 6 s6 sub7 (fun o ho => kvB_87 (by omega) (by omega)) (fun o ho => ivB_z (by omega)) (fun o t q => q.elim (fun q => q.elim (fun q => q.elim (fun q => q.elim (fun q => q.elim (fun q => q.elim (fun q => q.elim) (fun q => q.elim (fun z => absurd z.2.1 (by decide)) (fun z => by have := z.1; omega))) (fun q => q.elim (fun z => absurd z.2.1 (by decide)) (fun z => by have := z.1; omega))) (fun z => absurd z.2.1 (by decide))) (fun z => absurd z.2.1 (by decide))) (fun q => q.elim (fun z => absurd z.2.1 (by decide)) (fun z => by have := z.1; omega))) (fun q => q.elim (fun z => absurd z.2.1 (by decide)) (fun z => by have := z.1; omega)))
  obtain ⟨W7, hW7⟩ : ∃ W7, W7 = sR V7 m 6 (some (m + 1 + 54 + 10 + 1 + 1 + 10 + 10)) := ⟨_, rfl⟩
  rw [← hW7] at s7 ⊢
  have hlo7 : E.2.2 ≤ wN W7 := by rw [sg_N s7]; have e := sg_N s6; omega
  refine g_aload_n h (i := 35) rfl rfl ?_
  refine g_new h hq (i := 36) rfl cls8 wl_cl_X9_44 wl_in_X8 wl_ini_X8 (fun j hj => dv_ok (dv8 j hj)) ⟨by decide, by decide⟩ ?_
  refine g_ref (sg_N s7) ?_
  refine g_dup h (i := 37) rfl rfl ?_
  obtain ⟨n18, n28, n38, n48⟩ := sg_new (k := .inl 8) (sg_N s7)
  have cm8 := cn_X8_init l E (sNew W7 (.inl 8)) (m + 1 + 54 + 10 + 1 + 1 + 10 + 10 + 3) (by rw [n18]; have e := sg_N s7; omega) n18 n28 n38 n48
  refine g_nest h hNK (i := 38) hq rfl (List.mem_of_getElem? (i := 9) rfl) wl_cd_X8_init wl_im_X8_init wl_ini_X8 rfl ⟨by decide, by decide, by decide +kernel⟩ cm8 ⟨rfl, rfl, by decide, by decide⟩ (Nat.le_of_ble_eq_true rfl) ⟨by decide, by decide⟩ (fun r8 V8 hp8 => ?_)
  obtain ⟨rfl, sub8⟩ := hp8
  refine g_putRF_0 h (i := 39) rfl rfl fl_X9_47 (fun C T q => by rw [clsT9 C T q]; exact ⟨rfl, rfl⟩) (fun _ _ _ => rfl) (((sub8.1.2 m (by omega)).1.trans (wK_n (k := .inl 8) (by rw [sg_N s7]; omega))).trans (sg_K s7 (o := 0) (by omega))) rfl rfl ?_
  have s8 := sg_obj0 7 s7 sub8 (fun o ho => kvB_90 (by omega) (by omega)) (fun o ho => ivB_z (by omega)) (fun o t q => q.elim (fun q => q.elim (fun q => q.elim (fun q => q.elim (fun q => q.elim (fun q => q.elim (fun q => q.elim (fun q => q.elim) (fun q => q.elim (fun z => absurd z.2.1 (by decide)) (fun z => by have := z.1; omega))) (fun q => q.elim (fun z => absurd z.2.1 (by decide)) (fun z => by have := z.1; omega))) (fun z => absurd z.2.1 (by decide))) (fun z => absurd z.2.1 (by decide))) (fun q => q.elim (fun z => absurd z.2.1 (by decide)) (fun z => by have := z.1; omega))) (fun q => q.elim (fun z => absurd z.2.1 (by decide)) (fun z => by have := z.1; omega))) (fun q => q.elim (fun z => absurd z.2.1 (by decide)) (fun z => by have := z.1; omega)))
  obtain ⟨W8, hW8⟩ : ∃ W8, W8 = sR V8 m 7 (some (m + 1 + 54 + 10 + 1 + 1 + 10 + 10 + 3)) := ⟨_, rfl⟩
  rw [← hW8] at s8 ⊢
  have hlo8 : E.2.2 ≤ wN W8 := by rw [sg_N s8]; have e := sg_N s7; omega
  have sB : Sg w W8 m (m + 91) kvB ivB LRb0 := sg_w s8 (fun _ _ => rfl) (fun _ _ => rfl) (fun o f t q => by
      rcases q with ⟨rfl, q⟩ | q | q | q | q | q
      · rcases q with ⟨rfl, rfl⟩ | ⟨rfl, rfl⟩ | ⟨rfl, rfl⟩ | ⟨rfl, rfl⟩ | ⟨rfl, rfl⟩ | ⟨rfl, rfl⟩ | ⟨rfl, rfl⟩ | ⟨rfl, rfl⟩
        · exact Or.inl (Or.inl (Or.inl (Or.inl (Or.inl (Or.inl (Or.inl (Or.inr (Or.inl (⟨rfl, rfl, by omega⟩)))))))))
        · exact Or.inl (Or.inl (Or.inl (Or.inl (Or.inl (Or.inl (Or.inr (Or.inl (⟨rfl, rfl, by omega⟩))))))))
        · exact Or.inl (Or.inl (Or.inl (Or.inl (Or.inl (Or.inr (⟨rfl, rfl, by omega⟩))))))
        · exact Or.inl (Or.inl (Or.inl (Or.inl (Or.inr (⟨rfl, rfl, by omega⟩)))))
        · exact Or.inl (Or.inl (Or.inl (Or.inr (Or.inl (⟨rfl, rfl, by omega⟩)))))
        · exact Or.inl (Or.inl (Or.inr (Or.inl (⟨rfl, rfl, by omega⟩))))
        · exact Or.inl (Or.inr (Or.inl (⟨rfl, rfl, by omega⟩)))
        · exact Or.inr (Or.inl (⟨rfl, rfl, by omega⟩))
      · exact Or.inl (Or.inl (Or.inl (Or.inl (Or.inl (Or.inl (Or.inl (Or.inr (Or.inr ⟨by omega, by omega, by rw [show m + 1 - m = 1 by omega]; exact q.2.2⟩))))))))
      · exact Or.inl (Or.inl (Or.inl (Or.inl (Or.inl (Or.inl (Or.inr (Or.inr ⟨by omega, by omega, by rw [show m + 1 + 54 - m = 55 by omega]; exact q.2.2⟩)))))))
      · exact Or.inl (Or.inl (Or.inl (Or.inr (Or.inr ⟨by omega, by omega, by rw [show m + 1 + 54 + 10 + 1 + 1 - m = 67 by omega]; exact q.2.2⟩))))
      · exact Or.inl (Or.inl (Or.inr (Or.inr ⟨by omega, by omega, by rw [show m + 1 + 54 + 10 + 1 + 1 + 10 - m = 77 by omega]; exact q.2.2⟩)))
      · exact Or.inl (Or.inr (Or.inr ⟨by omega, by omega, by rw [show m + 1 + 54 + 10 + 1 + 1 + 10 + 10 - m = 87 by omega]; exact q.2.2⟩)))
  refine g_iconst h (i := 40) rfl (v := 0) (by rfl) ?_
  refine g_istore_n h (i := 41) rfl hq rfl ?_
  exact g_lv [(0, .ref m), (1, .int (nI 0))] ⟨rfl, rfl, trivial⟩ (k87 4 0 _ (by omega) (sg_w sB (fun _ _ => rfl) (fun _ _ => rfl) (fun o f t q => by
    rcases q with q | ⟨_, hf, _⟩ | ⟨k, hk, _⟩
    · exact q
    · exact absurd hf (Nat.not_lt_zero _)
    · exact absurd hk (Nat.not_lt_zero _))))
