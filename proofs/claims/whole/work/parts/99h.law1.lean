def il_L0 : List (Nat × Instr × Nat) := [(156, .aload_n 1, 1), (157, .aload_n 0, 1), (158, .iload_n 3, 1), (159, .iconst 1, 1), (160, .iadd, 1), (161, .iaload, 1), (162, .aload_n 0, 1), (163, .iload_n 3, 1), (164, .iconst 2, 1), (165, .iadd, 1), (166, .iaload, 1), (167, .aload_n 0, 1), (168, .iload_n 3, 1), (169, .iconst 3, 1), (170, .iadd, 1), (171, .iaload, 1), (172, .aload_n 0, 1), (173, .iload_n 3, 1), (174, .iconst 4, 1), (175, .iadd, 1), (176, .iaload, 1), (177, .aload_n 0, 1), (178, .iload_n 3, 1), (179, .iconst 5, 1), (180, .iadd, 1), (181, .iaload, 1), (182, .invokevirtual 13, 3), (185, .aload_n 2, 1), (186, .aload_n 0, 1), (187, .iload_n 3, 1), (188, .iconst 1, 1), (189, .iadd, 1), (190, .iaload, 1), (191, .aload_n 0, 1), (192, .iload_n 3, 1), (193, .iconst 2, 1), (194, .iadd, 1), (195, .iaload, 1), (196, .aload_n 0, 1), (197, .iload_n 3, 1), (198, .iconst 3, 1), (199, .iadd, 1), (200, .iaload, 1), (201, .aload_n 0, 1), (202, .iload_n 3, 1), (203, .iconst 4, 1), (204, .iadd, 1), (205, .iaload, 1), (206, .aload_n 0, 1), (207, .iload_n 3, 1), (208, .iconst 5, 1), (209, .iadd, 1), (210, .iaload, 1), (211, .invokevirtual 17, 3), (214, .if_icmp .eq 789, 3), (217, .iconst 0, 1), (218, .ireturn, 1)]
theorem dk_L0 : ∀ q ∈ il_L0, decode cL_law q.1 = .ok (q.2.1, q.2.2) := by decide +kernel
theorem vl_joint (a b c d e : Int32) (cf : Nat → Nat → Int32) (R : Nat → Int64) : ∃ v, (jtS a b c d e cf R).1 = .int v := by
  unfold jtS
  repeat' split
  all_goals exact ⟨_, rfl⟩
set_option maxRecDepth 100000 in
set_option maxHeartbeats 4000000 in
theorem lw_0 {X : Cx} {mn : String} {l : Launch} {E : EE} {P0 : Option Value → Wd → Prop} {mc0 ms0 nL0 : Nat} {il : List (Nat × Instr × Nat)} {ce sl : Nat} {lv : Nat → Option Value} {w : Wd} {sb Ln n b A T : Nat} {xs : Nat → Int32} (h0 : Ok X cL_law RL mn (some .boolean) il) (hq : Is X room_1 l E P0 mc0 ms0 nL0) (hce : ce ≤ 600000 ∧ sl ≤ 7302250) (hX : XA X sb Ln xs) (hL : Ln ≤ 3072) (hn : n + 6 ≤ Ln) (hv0 : lv 0 = some (.ref sb)) (hv1 : lv 1 = some (.ref b)) (hv2 : lv 2 = some (.ref A)) (hv3 : lv 3 = some (.int (nI n))) (hT : T ≤ 1000000000) (hI : LI E w b A T) (K : ∀ w2, LI E w2 b A (T + 200) → G X ce sl 1003 lv [] w2) : G X ce sl 156 lv [] w := by
  have h := ok_il h0 dk_L0
  obtain ⟨hlo, hLB, hLR, hbA, hB, hV⟩ := id hI
  refine g_aload_n h (i := 0) rfl hv1 ?_
  refine g_xarg h hX hv0 hv3 hL 1 1 rfl rfl rfl rfl rfl (by rfl) (by omega) ?_
  refine g_xarg h hX hv0 hv3 hL 6 2 rfl rfl rfl rfl rfl (by rfl) (by omega) ?_
  refine g_xarg h hX hv0 hv3 hL 11 3 rfl rfl rfl rfl rfl (by rfl) (by omega) ?_
  refine g_xarg h hX hv0 hv3 hL 16 4 rfl rfl rfl rfl rfl (by rfl) (by omega) ?_
  refine g_xarg h hX hv0 hv3 hL 21 5 rfl rfl rfl rfl rfl (by rfl) (by omega) ?_
  refine g_callVp (w0 := w) h hq (i := 26) rfl mv_L_13 cls9 hLB.1 (ct_X9_joint l E w b (cfW w A) (wJ w (A + 1)) (xs (n + 1)) (xs (n + 2)) (xs (n + 3)) (xs (n + 4)) (xs (n + 5)) hlo hLB hB hV.2.1.1 ) rfl rfl ⟨rfl, rfl, Nat.le_of_ble_eq_true rfl, Nat.le_of_ble_eq_true rfl⟩ (Nat.le_of_ble_eq_true rfl) hce (fun r1 w1 hp => ?_)
  obtain ⟨rfl, hF, hB1⟩ := hp
  obtain ⟨lo1, hA1, hL1, e1, e2⟩ := li_1 hI hF
  obtain ⟨v, hv⟩ := vl_joint (xs (n + 1)) (xs (n + 2)) (xs (n + 3)) (xs (n + 4)) (xs (n + 5)) (cfW w A) (wJ w (A + 1))
  rw [hv]
  refine g_aload_n h (i := 27) rfl hv2 ?_
  refine g_xarg h hX hv0 hv3 hL 28 1 rfl rfl rfl rfl rfl (by rfl) (by omega) ?_
  refine g_xarg h hX hv0 hv3 hL 33 2 rfl rfl rfl rfl rfl (by rfl) (by omega) ?_
  refine g_xarg h hX hv0 hv3 hL 38 3 rfl rfl rfl rfl rfl (by rfl) (by omega) ?_
  refine g_xarg h hX hv0 hv3 hL 43 4 rfl rfl rfl rfl rfl (by rfl) (by omega) ?_
  refine g_xarg h hX hv0 hv3 hL 48 5 rfl rfl rfl rfl rfl (by rfl) (by omega) ?_
  refine g_w (sRow w1 A (wJ w (A + 1))) (by rw [← e2]; exact (sRow_self w1 A).symm) ?_
  refine g_callVp (w0 := sRow w1 A (wJ w (A + 1))) h hq (i := 53) rfl mv_L_17 cls10 (lk_R hA1) (ct_X10_joint l E w1 A (wJ w (A + 1)) (xs (n + 1)) (xs (n + 2)) (xs (n + 3)) (xs (n + 4)) (xs (n + 5)) lo1 hA1 ) rfl rfl ⟨rfl, rfl, Nat.le_of_ble_eq_true rfl, Nat.le_of_ble_eq_true rfl⟩ (Nat.le_of_ble_eq_true rfl) hce (fun r2 w2 hp => ?_)
  obtain ⟨rfl, hR⟩ := hp
  rw [e1] at hR ⊢
  rw [hv]
  refine g_icmp_eq h (i := 54) 1003 rfl rfl (fun _ => ?_) (fun c => absurd rfl c)
  exact K w2 (li_2 hI hF hB1 hR (iv_jt hV))
def il_L1 : List (Nat × Instr × Nat) := [(219, .aload_n 1, 1), (220, .aload_n 0, 1), (221, .iload_n 3, 1), (222, .iconst 1, 1), (223, .iadd, 1), (224, .iaload, 1), (225, .aload_n 0, 1), (226, .iload_n 3, 1), (227, .iconst 2, 1), (228, .iadd, 1), (229, .iaload, 1), (230, .aload_n 0, 1), (231, .iload_n 3, 1), (232, .iconst 3, 1), (233, .iadd, 1), (234, .iaload, 1), (235, .invokevirtual 18, 3), (238, .aload_n 2, 1), (239, .aload_n 0, 1), (240, .iload_n 3, 1), (241, .iconst 1, 1), (242, .iadd, 1), (243, .iaload, 1), (244, .aload_n 0, 1), (245, .iload_n 3, 1), (246, .iconst 2, 1), (247, .iadd, 1), (248, .iaload, 1), (249, .aload_n 0, 1), (250, .iload_n 3, 1), (251, .iconst 3, 1), (252, .iadd, 1), (253, .iaload, 1), (254, .invokevirtual 22, 3), (257, .if_icmp .eq 746, 3), (260, .iconst 0, 1), (261, .ireturn, 1)]
theorem dk_L1 : ∀ q ∈ il_L1, decode cL_law q.1 = .ok (q.2.1, q.2.2) := by decide +kernel
theorem vl_limits (a b c : Int32) (cf : Nat → Nat → Int32) (R : Nat → Int64) : ∃ v, (lmS a b c cf R).1 = .int v := by
  unfold lmS
  repeat' split
  all_goals exact ⟨_, rfl⟩
set_option maxRecDepth 100000 in
set_option maxHeartbeats 4000000 in
theorem lw_1 {X : Cx} {mn : String} {l : Launch} {E : EE} {P0 : Option Value → Wd → Prop} {mc0 ms0 nL0 : Nat} {il : List (Nat × Instr × Nat)} {ce sl : Nat} {lv : Nat → Option Value} {w : Wd} {sb Ln n b A T : Nat} {xs : Nat → Int32} (h0 : Ok X cL_law RL mn (some .boolean) il) (hq : Is X room_1 l E P0 mc0 ms0 nL0) (hce : ce ≤ 600000 ∧ sl ≤ 7302250) (hX : XA X sb Ln xs) (hL : Ln ≤ 3072) (hn : n + 6 ≤ Ln) (hv0 : lv 0 = some (.ref sb)) (hv1 : lv 1 = some (.ref b)) (hv2 : lv 2 = some (.ref A)) (hv3 : lv 3 = some (.int (nI n))) (hT : T ≤ 1000000000) (hI : LI E w b A T) (K : ∀ w2, LI E w2 b A (T + 200) → G X ce sl 1003 lv [] w2) : G X ce sl 219 lv [] w := by
  have h := ok_il h0 dk_L1
  obtain ⟨hlo, hLB, hLR, hbA, hB, hV⟩ := id hI
  refine g_aload_n h (i := 0) rfl hv1 ?_
  refine g_xarg h hX hv0 hv3 hL 1 1 rfl rfl rfl rfl rfl (by rfl) (by omega) ?_
  refine g_xarg h hX hv0 hv3 hL 6 2 rfl rfl rfl rfl rfl (by rfl) (by omega) ?_
  refine g_xarg h hX hv0 hv3 hL 11 3 rfl rfl rfl rfl rfl (by rfl) (by omega) ?_
  refine g_callVp (w0 := w) h hq (i := 16) rfl mv_L_18 cls9 hLB.1 (ct_X9_limits l E w b (cfW w A) (wJ w (A + 1)) (xs (n + 1)) (xs (n + 2)) (xs (n + 3)) hlo hLB hB hV.2.1.1 ) rfl rfl ⟨rfl, rfl, Nat.le_of_ble_eq_true rfl, Nat.le_of_ble_eq_true rfl⟩ (Nat.le_of_ble_eq_true rfl) hce (fun r1 w1 hp => ?_)
  obtain ⟨rfl, hF, hB1⟩ := hp
  obtain ⟨lo1, hA1, hL1, e1, e2⟩ := li_1 hI hF
  obtain ⟨v, hv⟩ := vl_limits (xs (n + 1)) (xs (n + 2)) (xs (n + 3)) (cfW w A) (wJ w (A + 1))
  rw [hv]
  refine g_aload_n h (i := 17) rfl hv2 ?_
  refine g_xarg h hX hv0 hv3 hL 18 1 rfl rfl rfl rfl rfl (by rfl) (by omega) ?_
  refine g_xarg h hX hv0 hv3 hL 23 2 rfl rfl rfl rfl rfl (by rfl) (by omega) ?_
  refine g_xarg h hX hv0 hv3 hL 28 3 rfl rfl rfl rfl rfl (by rfl) (by omega) ?_
  refine g_w (sRow w1 A (wJ w (A + 1))) (by rw [← e2]; exact (sRow_self w1 A).symm) ?_
  refine g_callVp (w0 := sRow w1 A (wJ w (A + 1))) h hq (i := 33) rfl mv_L_22 cls10 (lk_R hA1) (ct_X10_limits l E w1 A (wJ w (A + 1)) (xs (n + 1)) (xs (n + 2)) (xs (n + 3)) lo1 hA1 ) rfl rfl ⟨rfl, rfl, Nat.le_of_ble_eq_true rfl, Nat.le_of_ble_eq_true rfl⟩ (Nat.le_of_ble_eq_true rfl) hce (fun r2 w2 hp => ?_)
  obtain ⟨rfl, hR⟩ := hp
  rw [e1] at hR ⊢
  rw [hv]
  refine g_icmp_eq h (i := 34) 1003 rfl rfl (fun _ => ?_) (fun c => absurd rfl c)
  exact K w2 (li_2 hI hF hB1 hR (iv_lm hV))
def il_L2 : List (Nat × Instr × Nat) := [(262, .aload_n 1, 1), (263, .aload_n 0, 1), (264, .iload_n 3, 1), (265, .iconst 1, 1), (266, .iadd, 1), (267, .iaload, 1), (268, .aload_n 0, 1), (269, .iload_n 3, 1), (270, .iconst 2, 1), (271, .iadd, 1), (272, .iaload, 1), (273, .invokevirtual 23, 3), (276, .aload_n 2, 1), (277, .aload_n 0, 1), (278, .iload_n 3, 1), (279, .iconst 1, 1), (280, .iadd, 1), (281, .iaload, 1), (282, .aload_n 0, 1), (283, .iload_n 3, 1), (284, .iconst 2, 1), (285, .iadd, 1), (286, .iaload, 1), (287, .invokevirtual 27, 3), (290, .if_icmp .eq 713, 3), (293, .iconst 0, 1), (294, .ireturn, 1)]
theorem dk_L2 : ∀ q ∈ il_L2, decode cL_law q.1 = .ok (q.2.1, q.2.2) := by decide +kernel
theorem vl_jog (a b : Int32) (cf : Nat → Nat → Int32) (R : Nat → Int64) : ∃ v, (jgS a b cf R).1 = .int v := by
  unfold jgS
  repeat' split
  all_goals exact ⟨_, rfl⟩
set_option maxRecDepth 100000 in
set_option maxHeartbeats 4000000 in
theorem lw_2 {X : Cx} {mn : String} {l : Launch} {E : EE} {P0 : Option Value → Wd → Prop} {mc0 ms0 nL0 : Nat} {il : List (Nat × Instr × Nat)} {ce sl : Nat} {lv : Nat → Option Value} {w : Wd} {sb Ln n b A T : Nat} {xs : Nat → Int32} (h0 : Ok X cL_law RL mn (some .boolean) il) (hq : Is X room_1 l E P0 mc0 ms0 nL0) (hce : ce ≤ 600000 ∧ sl ≤ 7302250) (hX : XA X sb Ln xs) (hL : Ln ≤ 3072) (hn : n + 6 ≤ Ln) (hv0 : lv 0 = some (.ref sb)) (hv1 : lv 1 = some (.ref b)) (hv2 : lv 2 = some (.ref A)) (hv3 : lv 3 = some (.int (nI n))) (hT : T ≤ 1000000000) (hI : LI E w b A T) (K : ∀ w2, LI E w2 b A (T + 200) → G X ce sl 1003 lv [] w2) : G X ce sl 262 lv [] w := by
  have h := ok_il h0 dk_L2
  obtain ⟨hlo, hLB, hLR, hbA, hB, hV⟩ := id hI
  refine g_aload_n h (i := 0) rfl hv1 ?_
  refine g_xarg h hX hv0 hv3 hL 1 1 rfl rfl rfl rfl rfl (by rfl) (by omega) ?_
  refine g_xarg h hX hv0 hv3 hL 6 2 rfl rfl rfl rfl rfl (by rfl) (by omega) ?_
  refine g_callVp (w0 := w) h hq (i := 11) rfl mv_L_23 cls9 hLB.1 (ct_X9_jog l E w b (cfW w A) (wJ w (A + 1)) (xs (n + 1)) (xs (n + 2)) hlo hLB hB hV.2.1.1 ) rfl rfl ⟨rfl, rfl, Nat.le_of_ble_eq_true rfl, Nat.le_of_ble_eq_true rfl⟩ (Nat.le_of_ble_eq_true rfl) hce (fun r1 w1 hp => ?_)
  obtain ⟨rfl, hF, hB1⟩ := hp
  obtain ⟨lo1, hA1, hL1, e1, e2⟩ := li_1 hI hF
  obtain ⟨v, hv⟩ := vl_jog (xs (n + 1)) (xs (n + 2)) (cfW w A) (wJ w (A + 1))
  rw [hv]
  refine g_aload_n h (i := 12) rfl hv2 ?_
  refine g_xarg h hX hv0 hv3 hL 13 1 rfl rfl rfl rfl rfl (by rfl) (by omega) ?_
  refine g_xarg h hX hv0 hv3 hL 18 2 rfl rfl rfl rfl rfl (by rfl) (by omega) ?_
  refine g_w (sRow w1 A (wJ w (A + 1))) (by rw [← e2]; exact (sRow_self w1 A).symm) ?_
  refine g_callVp (w0 := sRow w1 A (wJ w (A + 1))) h hq (i := 23) rfl mv_L_27 cls10 (lk_R hA1) (ct_X10_jog l E w1 A (wJ w (A + 1)) (xs (n + 1)) (xs (n + 2)) lo1 hA1 ) rfl rfl ⟨rfl, rfl, Nat.le_of_ble_eq_true rfl, Nat.le_of_ble_eq_true rfl⟩ (Nat.le_of_ble_eq_true rfl) hce (fun r2 w2 hp => ?_)
  obtain ⟨rfl, hR⟩ := hp
  rw [e1] at hR ⊢
  rw [hv]
  refine g_icmp_eq h (i := 24) 1003 rfl rfl (fun _ => ?_) (fun c => absurd rfl c)
  exact K w2 (li_2 hI hF hB1 hR (iv_jg hV))
def il_L6 : List (Nat × Instr × Nat) := [(366, .aload_n 1, 1), (367, .aload_n 0, 1), (368, .iload_n 3, 1), (369, .iconst 1, 1), (370, .iadd, 1), (371, .iaload, 1), (372, .aload_n 0, 1), (373, .iload_n 3, 1), (374, .iconst 2, 1), (375, .iadd, 1), (376, .iaload, 1), (377, .aload_n 0, 1), (378, .iload_n 3, 1), (379, .iconst 3, 1), (380, .iadd, 1), (381, .iaload, 1), (382, .aload_n 0, 1), (383, .iload_n 3, 1), (384, .iconst 4, 1), (385, .iadd, 1), (386, .iaload, 1), (387, .aload_n 0, 1), (388, .iload_n 3, 1), (389, .iconst 5, 1), (390, .iadd, 1), (391, .iaload, 1), (392, .invokevirtual 42, 3), (395, .aload_n 2, 1), (396, .aload_n 0, 1), (397, .iload_n 3, 1), (398, .iconst 1, 1), (399, .iadd, 1), (400, .iaload, 1), (401, .aload_n 0, 1), (402, .iload_n 3, 1), (403, .iconst 2, 1), (404, .iadd, 1), (405, .iaload, 1), (406, .aload_n 0, 1), (407, .iload_n 3, 1), (408, .iconst 3, 1), (409, .iadd, 1), (410, .iaload, 1), (411, .aload_n 0, 1), (412, .iload_n 3, 1), (413, .iconst 4, 1), (414, .iadd, 1), (415, .iaload, 1), (416, .aload_n 0, 1), (417, .iload_n 3, 1), (418, .iconst 5, 1), (419, .iadd, 1), (420, .iaload, 1), (421, .invokevirtual 45, 3), (424, .if_icmp .eq 579, 3), (427, .iconst 0, 1), (428, .ireturn, 1)]
theorem dk_L6 : ∀ q ∈ il_L6, decode cL_law q.1 = .ok (q.2.1, q.2.2) := by decide +kernel
theorem vl_box (a b c d e : Int32) (cf : Nat → Nat → Int32) (R : Nat → Int64) : ∃ v, (bxS a b c d e cf R).1 = .int v := by
  unfold bxS
  repeat' split
  all_goals exact ⟨_, rfl⟩
set_option maxRecDepth 100000 in
set_option maxHeartbeats 4000000 in
theorem lw_6 {X : Cx} {mn : String} {l : Launch} {E : EE} {P0 : Option Value → Wd → Prop} {mc0 ms0 nL0 : Nat} {il : List (Nat × Instr × Nat)} {ce sl : Nat} {lv : Nat → Option Value} {w : Wd} {sb Ln n b A T : Nat} {xs : Nat → Int32} (h0 : Ok X cL_law RL mn (some .boolean) il) (hq : Is X room_1 l E P0 mc0 ms0 nL0) (hce : ce ≤ 600000 ∧ sl ≤ 7302250) (hX : XA X sb Ln xs) (hL : Ln ≤ 3072) (hn : n + 6 ≤ Ln) (hv0 : lv 0 = some (.ref sb)) (hv1 : lv 1 = some (.ref b)) (hv2 : lv 2 = some (.ref A)) (hv3 : lv 3 = some (.int (nI n))) (hT : T ≤ 1000000000) (hI : LI E w b A T) (K : ∀ w2, LI E w2 b A (T + 200) → G X ce sl 1003 lv [] w2) : G X ce sl 366 lv [] w := by
  have h := ok_il h0 dk_L6
  obtain ⟨hlo, hLB, hLR, hbA, hB, hV⟩ := id hI
  refine g_aload_n h (i := 0) rfl hv1 ?_
  refine g_xarg h hX hv0 hv3 hL 1 1 rfl rfl rfl rfl rfl (by rfl) (by omega) ?_
  refine g_xarg h hX hv0 hv3 hL 6 2 rfl rfl rfl rfl rfl (by rfl) (by omega) ?_
  refine g_xarg h hX hv0 hv3 hL 11 3 rfl rfl rfl rfl rfl (by rfl) (by omega) ?_
  refine g_xarg h hX hv0 hv3 hL 16 4 rfl rfl rfl rfl rfl (by rfl) (by omega) ?_
  refine g_xarg h hX hv0 hv3 hL 21 5 rfl rfl rfl rfl rfl (by rfl) (by omega) ?_
  refine g_callVp (w0 := w) h hq (i := 26) rfl mv_L_42 cls9 hLB.1 (ct_X9_box l E w b (cfW w A) (wJ w (A + 1)) (xs (n + 1)) (xs (n + 2)) (xs (n + 3)) (xs (n + 4)) (xs (n + 5)) hlo hLB hB hV.2.1.1 hV.1.1) rfl rfl ⟨rfl, rfl, Nat.le_of_ble_eq_true rfl, Nat.le_of_ble_eq_true rfl⟩ (Nat.le_of_ble_eq_true rfl) hce (fun r1 w1 hp => ?_)
  obtain ⟨rfl, hF, hB1⟩ := hp
  obtain ⟨lo1, hA1, hL1, e1, e2⟩ := li_1 hI hF
  obtain ⟨v, hv⟩ := vl_box (xs (n + 1)) (xs (n + 2)) (xs (n + 3)) (xs (n + 4)) (xs (n + 5)) (cfW w A) (wJ w (A + 1))
  rw [hv]
  refine g_aload_n h (i := 27) rfl hv2 ?_
  refine g_xarg h hX hv0 hv3 hL 28 1 rfl rfl rfl rfl rfl (by rfl) (by omega) ?_
  refine g_xarg h hX hv0 hv3 hL 33 2 rfl rfl rfl rfl rfl (by rfl) (by omega) ?_
  refine g_xarg h hX hv0 hv3 hL 38 3 rfl rfl rfl rfl rfl (by rfl) (by omega) ?_
  refine g_xarg h hX hv0 hv3 hL 43 4 rfl rfl rfl rfl rfl (by rfl) (by omega) ?_
  refine g_xarg h hX hv0 hv3 hL 48 5 rfl rfl rfl rfl rfl (by rfl) (by omega) ?_
  refine g_w (sRow w1 A (wJ w (A + 1))) (by rw [← e2]; exact (sRow_self w1 A).symm) ?_
  refine g_callVp (w0 := sRow w1 A (wJ w (A + 1))) h hq (i := 53) rfl mv_L_45 cls10 (lk_R hA1) (ct_X10_box l E w1 A (wJ w (A + 1)) (xs (n + 1)) (xs (n + 2)) (xs (n + 3)) (xs (n + 4)) (xs (n + 5)) lo1 hA1 hV.2.1.1 (by rw [e1]; exact hV.1.1)) rfl rfl ⟨rfl, rfl, Nat.le_of_ble_eq_true rfl, Nat.le_of_ble_eq_true rfl⟩ (Nat.le_of_ble_eq_true rfl) hce (fun r2 w2 hp => ?_)
  obtain ⟨rfl, hR⟩ := hp
  rw [e1] at hR ⊢
  rw [hv]
  refine g_icmp_eq h (i := 54) 1003 rfl rfl (fun _ => ?_) (fun c => absurd rfl c)
  exact K w2 (li_2 hI hF hB1 hR (iv_bx hV))
def il_L7 : List (Nat × Instr × Nat) := [(429, .aload_n 1, 1), (430, .aload_n 0, 1), (431, .iload_n 3, 1), (432, .iconst 1, 1), (433, .iadd, 1), (434, .iaload, 1), (435, .invokevirtual 46, 3), (438, .aload_n 2, 1), (439, .aload_n 0, 1), (440, .iload_n 3, 1), (441, .iconst 1, 1), (442, .iadd, 1), (443, .iaload, 1), (444, .invokevirtual 49, 3), (447, .if_icmp .eq 556, 3), (450, .iconst 0, 1), (451, .ireturn, 1)]
theorem dk_L7 : ∀ q ∈ il_L7, decode cL_law q.1 = .ok (q.2.1, q.2.2) := by decide +kernel
theorem vl_unbox (a : Int32) (cf : Nat → Nat → Int32) (R : Nat → Int64) : ∃ v, (ubS a cf R).1 = .int v := by
  unfold ubS
  repeat' split
  all_goals exact ⟨_, rfl⟩
set_option maxRecDepth 100000 in
set_option maxHeartbeats 4000000 in
theorem lw_7 {X : Cx} {mn : String} {l : Launch} {E : EE} {P0 : Option Value → Wd → Prop} {mc0 ms0 nL0 : Nat} {il : List (Nat × Instr × Nat)} {ce sl : Nat} {lv : Nat → Option Value} {w : Wd} {sb Ln n b A T : Nat} {xs : Nat → Int32} (h0 : Ok X cL_law RL mn (some .boolean) il) (hq : Is X room_1 l E P0 mc0 ms0 nL0) (hce : ce ≤ 600000 ∧ sl ≤ 7302250) (hX : XA X sb Ln xs) (hL : Ln ≤ 3072) (hn : n + 6 ≤ Ln) (hv0 : lv 0 = some (.ref sb)) (hv1 : lv 1 = some (.ref b)) (hv2 : lv 2 = some (.ref A)) (hv3 : lv 3 = some (.int (nI n))) (hT : T ≤ 1000000000) (hI : LI E w b A T) (K : ∀ w2, LI E w2 b A (T + 200) → G X ce sl 1003 lv [] w2) : G X ce sl 429 lv [] w := by
  have h := ok_il h0 dk_L7
  obtain ⟨hlo, hLB, hLR, hbA, hB, hV⟩ := id hI
  refine g_aload_n h (i := 0) rfl hv1 ?_
  refine g_xarg h hX hv0 hv3 hL 1 1 rfl rfl rfl rfl rfl (by rfl) (by omega) ?_
  refine g_callVp (w0 := w) h hq (i := 6) rfl mv_L_46 cls9 hLB.1 (ct_X9_unbox l E w b (cfW w A) (wJ w (A + 1)) (xs (n + 1)) hlo hLB hB hV.2.1.1 ) rfl rfl ⟨rfl, rfl, Nat.le_of_ble_eq_true rfl, Nat.le_of_ble_eq_true rfl⟩ (Nat.le_of_ble_eq_true rfl) hce (fun r1 w1 hp => ?_)
  obtain ⟨rfl, hF, hB1⟩ := hp
  obtain ⟨lo1, hA1, hL1, e1, e2⟩ := li_1 hI hF
  obtain ⟨v, hv⟩ := vl_unbox (xs (n + 1)) (cfW w A) (wJ w (A + 1))
  rw [hv]
  refine g_aload_n h (i := 7) rfl hv2 ?_
  refine g_xarg h hX hv0 hv3 hL 8 1 rfl rfl rfl rfl rfl (by rfl) (by omega) ?_
  refine g_w (sRow w1 A (wJ w (A + 1))) (by rw [← e2]; exact (sRow_self w1 A).symm) ?_
  refine g_callVp (w0 := sRow w1 A (wJ w (A + 1))) h hq (i := 13) rfl mv_L_49 cls10 (lk_R hA1) (ct_X10_unbox l E w1 A (wJ w (A + 1)) (xs (n + 1)) lo1 hA1 ) rfl rfl ⟨rfl, rfl, Nat.le_of_ble_eq_true rfl, Nat.le_of_ble_eq_true rfl⟩ (Nat.le_of_ble_eq_true rfl) hce (fun r2 w2 hp => ?_)
  obtain ⟨rfl, hR⟩ := hp
  rw [e1] at hR ⊢
  rw [hv]
  refine g_icmp_eq h (i := 14) 1003 rfl rfl (fun _ => ?_) (fun c => absurd rfl c)
  exact K w2 (li_2 hI hF hB1 hR (iv_ub hV))
def il_L8 : List (Nat × Instr × Nat) := [(452, .aload_n 1, 1), (453, .aload_n 0, 1), (454, .iload_n 3, 1), (455, .iconst 1, 1), (456, .iadd, 1), (457, .iaload, 1), (458, .invokevirtual 50, 3), (461, .aload_n 2, 1), (462, .aload_n 0, 1), (463, .iload_n 3, 1), (464, .iconst 1, 1), (465, .iadd, 1), (466, .iaload, 1), (467, .invokevirtual 53, 3), (470, .if_icmp .eq 533, 3), (473, .iconst 0, 1), (474, .ireturn, 1)]
theorem dk_L8 : ∀ q ∈ il_L8, decode cL_law q.1 = .ok (q.2.1, q.2.2) := by decide +kernel
theorem vl_teach (a : Int32) (cf : Nat → Nat → Int32) (R : Nat → Int64) : ∃ v, (tcS a cf R).1 = .int v := by
  unfold tcS
  repeat' split
  all_goals exact ⟨_, rfl⟩
set_option maxRecDepth 100000 in
set_option maxHeartbeats 4000000 in
theorem lw_8 {X : Cx} {mn : String} {l : Launch} {E : EE} {P0 : Option Value → Wd → Prop} {mc0 ms0 nL0 : Nat} {il : List (Nat × Instr × Nat)} {ce sl : Nat} {lv : Nat → Option Value} {w : Wd} {sb Ln n b A T : Nat} {xs : Nat → Int32} (h0 : Ok X cL_law RL mn (some .boolean) il) (hq : Is X room_1 l E P0 mc0 ms0 nL0) (hce : ce ≤ 600000 ∧ sl ≤ 7302250) (hX : XA X sb Ln xs) (hL : Ln ≤ 3072) (hn : n + 6 ≤ Ln) (hv0 : lv 0 = some (.ref sb)) (hv1 : lv 1 = some (.ref b)) (hv2 : lv 2 = some (.ref A)) (hv3 : lv 3 = some (.int (nI n))) (hT : T ≤ 1000000000) (hI : LI E w b A T) (K : ∀ w2, LI E w2 b A (T + 200) → G X ce sl 1003 lv [] w2) : G X ce sl 452 lv [] w := by
  have h := ok_il h0 dk_L8
  obtain ⟨hlo, hLB, hLR, hbA, hB, hV⟩ := id hI
  refine g_aload_n h (i := 0) rfl hv1 ?_
  refine g_xarg h hX hv0 hv3 hL 1 1 rfl rfl rfl rfl rfl (by rfl) (by omega) ?_
  refine g_callVp (w0 := w) h hq (i := 6) rfl mv_L_50 cls9 hLB.1 (ct_X9_teach l E w b (cfW w A) (wJ w (A + 1)) (xs (n + 1)) hlo hLB hB hV.2.1.1 ) rfl rfl ⟨rfl, rfl, Nat.le_of_ble_eq_true rfl, Nat.le_of_ble_eq_true rfl⟩ (Nat.le_of_ble_eq_true rfl) hce (fun r1 w1 hp => ?_)
  obtain ⟨rfl, hF, hB1⟩ := hp
  obtain ⟨lo1, hA1, hL1, e1, e2⟩ := li_1 hI hF
  obtain ⟨v, hv⟩ := vl_teach (xs (n + 1)) (cfW w A) (wJ w (A + 1))
  rw [hv]
  refine g_aload_n h (i := 7) rfl hv2 ?_
  refine g_xarg h hX hv0 hv3 hL 8 1 rfl rfl rfl rfl rfl (by rfl) (by omega) ?_
  refine g_w (sRow w1 A (wJ w (A + 1))) (by rw [← e2]; exact (sRow_self w1 A).symm) ?_
  refine g_callVp (w0 := sRow w1 A (wJ w (A + 1))) h hq (i := 13) rfl mv_L_53 cls10 (lk_R hA1) (ct_X10_teach l E w1 A (wJ w (A + 1)) (xs (n + 1)) lo1 hA1 ) rfl rfl ⟨rfl, rfl, Nat.le_of_ble_eq_true rfl, Nat.le_of_ble_eq_true rfl⟩ (Nat.le_of_ble_eq_true rfl) hce (fun r2 w2 hp => ?_)
  obtain ⟨rfl, hR⟩ := hp
  rw [e1] at hR ⊢
  rw [hv]
  refine g_icmp_eq h (i := 14) 1003 rfl rfl (fun _ => ?_) (fun c => absurd rfl c)
  exact K w2 (li_2 hI hF hB1 hR (iv_tc hV))
def il_L12 : List (Nat × Instr × Nat) := [(594, .aload_n 1, 1), (595, .aload_n 0, 1), (596, .iload_n 3, 1), (597, .iconst 1, 1), (598, .iadd, 1), (599, .iaload, 1), (600, .aload_n 0, 1), (601, .iload_n 3, 1), (602, .iconst 2, 1), (603, .iadd, 1), (604, .iaload, 1), (605, .aload_n 0, 1), (606, .iload_n 3, 1), (607, .iconst 3, 1), (608, .iadd, 1), (609, .iaload, 1), (610, .invokevirtual 67, 3), (613, .aload_n 2, 1), (614, .aload_n 0, 1), (615, .iload_n 3, 1), (616, .iconst 1, 1), (617, .iadd, 1), (618, .iaload, 1), (619, .aload_n 0, 1), (620, .iload_n 3, 1), (621, .iconst 2, 1), (622, .iadd, 1), (623, .iaload, 1), (624, .aload_n 0, 1), (625, .iload_n 3, 1), (626, .iconst 3, 1), (627, .iadd, 1), (628, .iaload, 1), (629, .invokevirtual 70, 3), (632, .if_icmp .eq 371, 3), (635, .iconst 0, 1), (636, .ireturn, 1)]
theorem dk_L12 : ∀ q ∈ il_L12, decode cL_law q.1 = .ok (q.2.1, q.2.2) := by decide +kernel
theorem vl_line (a b c : Int32) (cf : Nat → Nat → Int32) (R : Nat → Int64) : ∃ v, (liS a b c cf R).1 = .int v := by
  unfold liS
  repeat' split
  all_goals exact ⟨_, rfl⟩
set_option maxRecDepth 100000 in
set_option maxHeartbeats 4000000 in
theorem lw_12 {X : Cx} {mn : String} {l : Launch} {E : EE} {P0 : Option Value → Wd → Prop} {mc0 ms0 nL0 : Nat} {il : List (Nat × Instr × Nat)} {ce sl : Nat} {lv : Nat → Option Value} {w : Wd} {sb Ln n b A T : Nat} {xs : Nat → Int32} (h0 : Ok X cL_law RL mn (some .boolean) il) (hq : Is X room_1 l E P0 mc0 ms0 nL0) (hce : ce ≤ 600000 ∧ sl ≤ 7302250) (hX : XA X sb Ln xs) (hL : Ln ≤ 3072) (hn : n + 6 ≤ Ln) (hv0 : lv 0 = some (.ref sb)) (hv1 : lv 1 = some (.ref b)) (hv2 : lv 2 = some (.ref A)) (hv3 : lv 3 = some (.int (nI n))) (hT : T ≤ 1000000000) (hI : LI E w b A T) (K : ∀ w2, LI E w2 b A (T + 200) → G X ce sl 1003 lv [] w2) : G X ce sl 594 lv [] w := by
  have h := ok_il h0 dk_L12
  obtain ⟨hlo, hLB, hLR, hbA, hB, hV⟩ := id hI
  refine g_aload_n h (i := 0) rfl hv1 ?_
  refine g_xarg h hX hv0 hv3 hL 1 1 rfl rfl rfl rfl rfl (by rfl) (by omega) ?_
  refine g_xarg h hX hv0 hv3 hL 6 2 rfl rfl rfl rfl rfl (by rfl) (by omega) ?_
  refine g_xarg h hX hv0 hv3 hL 11 3 rfl rfl rfl rfl rfl (by rfl) (by omega) ?_
  refine g_callVp (w0 := w) h hq (i := 16) rfl mv_L_67 cls9 hLB.1 (ct_X9_line l E w b (cfW w A) (wJ w (A + 1)) (xs (n + 1)) (xs (n + 2)) (xs (n + 3)) hlo hLB hB hV.2.1.1 hV.1.2.2.2.2.2.2.1) rfl rfl ⟨rfl, rfl, Nat.le_of_ble_eq_true rfl, Nat.le_of_ble_eq_true rfl⟩ (Nat.le_of_ble_eq_true rfl) hce (fun r1 w1 hp => ?_)
  obtain ⟨rfl, hF, hB1⟩ := hp
  obtain ⟨lo1, hA1, hL1, e1, e2⟩ := li_1 hI hF
  obtain ⟨v, hv⟩ := vl_line (xs (n + 1)) (xs (n + 2)) (xs (n + 3)) (cfW w A) (wJ w (A + 1))
  rw [hv]
  refine g_aload_n h (i := 17) rfl hv2 ?_
  refine g_xarg h hX hv0 hv3 hL 18 1 rfl rfl rfl rfl rfl (by rfl) (by omega) ?_
  refine g_xarg h hX hv0 hv3 hL 23 2 rfl rfl rfl rfl rfl (by rfl) (by omega) ?_
  refine g_xarg h hX hv0 hv3 hL 28 3 rfl rfl rfl rfl rfl (by rfl) (by omega) ?_
  refine g_w (sRow w1 A (wJ w (A + 1))) (by rw [← e2]; exact (sRow_self w1 A).symm) ?_
  refine g_callVp (w0 := sRow w1 A (wJ w (A + 1))) h hq (i := 33) rfl mv_L_70 cls10 (lk_R hA1) (ct_X10_line l E w1 A (wJ w (A + 1)) (xs (n + 1)) (xs (n + 2)) (xs (n + 3)) lo1 hA1 (by have z := hV.1.2.2.2.2.2.2.1; rw [← e1] at z; exact z)) rfl rfl ⟨rfl, rfl, Nat.le_of_ble_eq_true rfl, Nat.le_of_ble_eq_true rfl⟩ (Nat.le_of_ble_eq_true rfl) hce (fun r2 w2 hp => ?_)
  obtain ⟨rfl, hR⟩ := hp
  rw [e1] at hR ⊢
  rw [hv]
  refine g_icmp_eq h (i := 34) 1003 rfl rfl (fun _ => ?_) (fun c => absurd rfl c)
  exact K w2 (li_2 hI hF hB1 hR (iv_li hV))
def il_L13 : List (Nat × Instr × Nat) := [(637, .aload_n 1, 1), (638, .invokevirtual 71, 3), (641, .aload_n 2, 1), (642, .invokevirtual 75, 3), (645, .if_icmp .eq 358, 3), (648, .iconst 0, 1), (649, .ireturn, 1)]
theorem dk_L13 : ∀ q ∈ il_L13, decode cL_law q.1 = .ok (q.2.1, q.2.2) := by decide +kernel
theorem vl_clear (cf : Nat → Nat → Int32) (R : Nat → Int64) : ∃ v, (clS  cf R).1 = .int v := by
  unfold clS
  repeat' split
  all_goals exact ⟨_, rfl⟩
set_option maxRecDepth 100000 in
set_option maxHeartbeats 4000000 in
theorem lw_13 {X : Cx} {mn : String} {l : Launch} {E : EE} {P0 : Option Value → Wd → Prop} {mc0 ms0 nL0 : Nat} {il : List (Nat × Instr × Nat)} {ce sl : Nat} {lv : Nat → Option Value} {w : Wd} {sb Ln n b A T : Nat} {xs : Nat → Int32} (h0 : Ok X cL_law RL mn (some .boolean) il) (hq : Is X room_1 l E P0 mc0 ms0 nL0) (hce : ce ≤ 600000 ∧ sl ≤ 7302250) (hX : XA X sb Ln xs) (hL : Ln ≤ 3072) (hn : n + 6 ≤ Ln) (hv0 : lv 0 = some (.ref sb)) (hv1 : lv 1 = some (.ref b)) (hv2 : lv 2 = some (.ref A)) (hv3 : lv 3 = some (.int (nI n))) (hT : T ≤ 1000000000) (hI : LI E w b A T) (K : ∀ w2, LI E w2 b A (T + 200) → G X ce sl 1003 lv [] w2) : G X ce sl 637 lv [] w := by
  have h := ok_il h0 dk_L13
  obtain ⟨hlo, hLB, hLR, hbA, hB, hV⟩ := id hI
  refine g_aload_n h (i := 0) rfl hv1 ?_
  refine g_callVp (w0 := w) h hq (i := 1) rfl mv_L_71 cls9 hLB.1 (ct_X9_clear l E w b (cfW w A) (wJ w (A + 1))  hlo hLB hB hV.2.1.1 ) rfl rfl ⟨rfl, rfl, Nat.le_of_ble_eq_true rfl, Nat.le_of_ble_eq_true rfl⟩ (Nat.le_of_ble_eq_true rfl) hce (fun r1 w1 hp => ?_)
  obtain ⟨rfl, hF, hB1⟩ := hp
  obtain ⟨lo1, hA1, hL1, e1, e2⟩ := li_1 hI hF
  obtain ⟨v, hv⟩ := vl_clear  (cfW w A) (wJ w (A + 1))
  rw [hv]
  refine g_aload_n h (i := 2) rfl hv2 ?_
  refine g_w (sRow w1 A (wJ w (A + 1))) (by rw [← e2]; exact (sRow_self w1 A).symm) ?_
  refine g_callVp (w0 := sRow w1 A (wJ w (A + 1))) h hq (i := 3) rfl mv_L_75 cls10 (lk_R hA1) (ct_X10_clear l E w1 A (wJ w (A + 1))  lo1 hA1 ) rfl rfl ⟨rfl, rfl, Nat.le_of_ble_eq_true rfl, Nat.le_of_ble_eq_true rfl⟩ (Nat.le_of_ble_eq_true rfl) hce (fun r2 w2 hp => ?_)
  obtain ⟨rfl, hR⟩ := hp
  rw [e1] at hR ⊢
  rw [hv]
  refine g_icmp_eq h (i := 4) 1003 rfl rfl (fun _ => ?_) (fun c => absurd rfl c)
  exact K w2 (li_2 hI hF hB1 hR (iv_cl hV))
def il_L16 : List (Nat × Instr × Nat) := [(758, .aload_n 1, 1), (759, .invokevirtual 86, 3), (762, .aload_n 2, 1), (763, .invokevirtual 89, 3), (766, .if_icmp .eq 237, 3), (769, .iconst 0, 1), (770, .ireturn, 1)]
theorem dk_L16 : ∀ q ∈ il_L16, decode cL_law q.1 = .ok (q.2.1, q.2.2) := by decide +kernel
theorem vl_run (cf : Nat → Nat → Int32) (R : Nat → Int64) : ∃ v, (rnS  cf R).1 = .int v := by
  unfold rnS
  repeat' split
  all_goals exact ⟨_, rfl⟩
set_option maxRecDepth 100000 in
set_option maxHeartbeats 4000000 in
theorem lw_16 {X : Cx} {mn : String} {l : Launch} {E : EE} {P0 : Option Value → Wd → Prop} {mc0 ms0 nL0 : Nat} {il : List (Nat × Instr × Nat)} {ce sl : Nat} {lv : Nat → Option Value} {w : Wd} {sb Ln n b A T : Nat} {xs : Nat → Int32} (h0 : Ok X cL_law RL mn (some .boolean) il) (hq : Is X room_1 l E P0 mc0 ms0 nL0) (hce : ce ≤ 600000 ∧ sl ≤ 7302250) (hX : XA X sb Ln xs) (hL : Ln ≤ 3072) (hn : n + 6 ≤ Ln) (hv0 : lv 0 = some (.ref sb)) (hv1 : lv 1 = some (.ref b)) (hv2 : lv 2 = some (.ref A)) (hv3 : lv 3 = some (.int (nI n))) (hT : T ≤ 1000000000) (hI : LI E w b A T) (K : ∀ w2, LI E w2 b A (T + 200) → G X ce sl 1003 lv [] w2) : G X ce sl 758 lv [] w := by
  have h := ok_il h0 dk_L16
  obtain ⟨hlo, hLB, hLR, hbA, hB, hV⟩ := id hI
  refine g_aload_n h (i := 0) rfl hv1 ?_
  refine g_callVp (w0 := w) h hq (i := 1) rfl mv_L_86 cls9 hLB.1 (ct_X9_run l E w b (cfW w A) (wJ w (A + 1))  hlo hLB hB hV.2.1.1 hV.2.1.2) rfl rfl ⟨rfl, rfl, Nat.le_of_ble_eq_true rfl, Nat.le_of_ble_eq_true rfl⟩ (Nat.le_of_ble_eq_true rfl) hce (fun r1 w1 hp => ?_)
  obtain ⟨rfl, hF, hB1⟩ := hp
  obtain ⟨lo1, hA1, hL1, e1, e2⟩ := li_1 hI hF
  obtain ⟨v, hv⟩ := vl_run  (cfW w A) (wJ w (A + 1))
  rw [hv]
  refine g_aload_n h (i := 2) rfl hv2 ?_
  refine g_w (sRow w1 A (wJ w (A + 1))) (by rw [← e2]; exact (sRow_self w1 A).symm) ?_
  refine g_callVp (w0 := sRow w1 A (wJ w (A + 1))) h hq (i := 3) rfl mv_L_89 cls10 (lk_R hA1) (ct_X10_run l E w1 A (wJ w (A + 1))  lo1 hA1 ) rfl rfl ⟨rfl, rfl, Nat.le_of_ble_eq_true rfl, Nat.le_of_ble_eq_true rfl⟩ (Nat.le_of_ble_eq_true rfl) hce (fun r2 w2 hp => ?_)
  obtain ⟨rfl, hR⟩ := hp
  rw [e1] at hR ⊢
  rw [hv]
  refine g_icmp_eq h (i := 4) 1003 rfl rfl (fun _ => ?_) (fun c => absurd rfl c)
  exact K w2 (li_2 hI hF hB1 hR (iv_rn hV))
def il_L22 : List (Nat × Instr × Nat) := [(887, .aload_n 1, 1), (888, .aload_n 0, 1), (889, .iload_n 3, 1), (890, .iconst 1, 1), (891, .iadd, 1), (892, .iaload, 1), (893, .invokevirtual 110, 3), (896, .aload_n 2, 1), (897, .aload_n 0, 1), (898, .iload_n 3, 1), (899, .iconst 1, 1), (900, .iadd, 1), (901, .iaload, 1), (902, .invokevirtual 113, 3), (905, .if_icmp .eq 98, 3), (908, .iconst 0, 1), (909, .ireturn, 1)]
theorem dk_L22 : ∀ q ∈ il_L22, decode cL_law q.1 = .ok (q.2.1, q.2.2) := by decide +kernel
theorem vl_keep (a : Int32) (cf : Nat → Nat → Int32) (R : Nat → Int64) : ∃ v, (kpS a cf R).1 = .int v := by
  unfold kpS
  repeat' split
  all_goals exact ⟨_, rfl⟩
set_option maxRecDepth 100000 in
set_option maxHeartbeats 4000000 in
theorem lw_22 {X : Cx} {mn : String} {l : Launch} {E : EE} {P0 : Option Value → Wd → Prop} {mc0 ms0 nL0 : Nat} {il : List (Nat × Instr × Nat)} {ce sl : Nat} {lv : Nat → Option Value} {w : Wd} {sb Ln n b A T : Nat} {xs : Nat → Int32} (h0 : Ok X cL_law RL mn (some .boolean) il) (hq : Is X room_1 l E P0 mc0 ms0 nL0) (hce : ce ≤ 600000 ∧ sl ≤ 7302250) (hX : XA X sb Ln xs) (hL : Ln ≤ 3072) (hn : n + 6 ≤ Ln) (hv0 : lv 0 = some (.ref sb)) (hv1 : lv 1 = some (.ref b)) (hv2 : lv 2 = some (.ref A)) (hv3 : lv 3 = some (.int (nI n))) (hT : T ≤ 1000000000) (hI : LI E w b A T) (K : ∀ w2, LI E w2 b A (T + 200) → G X ce sl 1003 lv [] w2) : G X ce sl 887 lv [] w := by
  have h := ok_il h0 dk_L22
  obtain ⟨hlo, hLB, hLR, hbA, hB, hV⟩ := id hI
  refine g_aload_n h (i := 0) rfl hv1 ?_
  refine g_xarg h hX hv0 hv3 hL 1 1 rfl rfl rfl rfl rfl (by rfl) (by omega) ?_
  refine g_callVp (w0 := w) h hq (i := 6) rfl mv_L_110 cls9 hLB.1 (ct_X9_keep l E w b (cfW w A) (wJ w (A + 1)) (xs (n + 1)) hlo hLB hB hV.2.1.1 ) rfl rfl ⟨rfl, rfl, Nat.le_of_ble_eq_true rfl, Nat.le_of_ble_eq_true rfl⟩ (Nat.le_of_ble_eq_true rfl) hce (fun r1 w1 hp => ?_)
  obtain ⟨rfl, hF, hB1⟩ := hp
  obtain ⟨lo1, hA1, hL1, e1, e2⟩ := li_1 hI hF
  obtain ⟨v, hv⟩ := vl_keep (xs (n + 1)) (cfW w A) (wJ w (A + 1))
  rw [hv]
  refine g_aload_n h (i := 7) rfl hv2 ?_
  refine g_xarg h hX hv0 hv3 hL 8 1 rfl rfl rfl rfl rfl (by rfl) (by omega) ?_
  refine g_w (sRow w1 A (wJ w (A + 1))) (by rw [← e2]; exact (sRow_self w1 A).symm) ?_
  refine g_callVp (w0 := sRow w1 A (wJ w (A + 1))) h hq (i := 13) rfl mv_L_113 cls10 (lk_R hA1) (ct_X10_keep l E w1 A (wJ w (A + 1)) (xs (n + 1)) lo1 hA1 ) rfl rfl ⟨rfl, rfl, Nat.le_of_ble_eq_true rfl, Nat.le_of_ble_eq_true rfl⟩ (Nat.le_of_ble_eq_true rfl) hce (fun r2 w2 hp => ?_)
  obtain ⟨rfl, hR⟩ := hp
  rw [e1] at hR ⊢
  rw [hv]
  refine g_icmp_eq h (i := 14) 1003 rfl rfl (fun _ => ?_) (fun c => absurd rfl c)
  exact K w2 (li_2 hI hF hB1 hR (iv_kp hV))
def il_L23 : List (Nat × Instr × Nat) := [(910, .aload_n 1, 1), (911, .aload_n 0, 1), (912, .iload_n 3, 1), (913, .iconst 1, 1), (914, .iadd, 1), (915, .iaload, 1), (916, .invokevirtual 114, 3), (919, .aload_n 2, 1), (920, .aload_n 0, 1), (921, .iload_n 3, 1), (922, .iconst 1, 1), (923, .iadd, 1), (924, .iaload, 1), (925, .invokevirtual 117, 3), (928, .if_icmp .eq 75, 3), (931, .iconst 0, 1), (932, .ireturn, 1)]
theorem dk_L23 : ∀ q ∈ il_L23, decode cL_law q.1 = .ok (q.2.1, q.2.2) := by decide +kernel
theorem vl_back (a : Int32) (cf : Nat → Nat → Int32) (R : Nat → Int64) : ∃ v, (bkS a cf R).1 = .int v := by
  unfold bkS
  repeat' split
  all_goals exact ⟨_, rfl⟩
set_option maxRecDepth 100000 in
set_option maxHeartbeats 4000000 in
theorem lw_23 {X : Cx} {mn : String} {l : Launch} {E : EE} {P0 : Option Value → Wd → Prop} {mc0 ms0 nL0 : Nat} {il : List (Nat × Instr × Nat)} {ce sl : Nat} {lv : Nat → Option Value} {w : Wd} {sb Ln n b A T : Nat} {xs : Nat → Int32} (h0 : Ok X cL_law RL mn (some .boolean) il) (hq : Is X room_1 l E P0 mc0 ms0 nL0) (hce : ce ≤ 600000 ∧ sl ≤ 7302250) (hX : XA X sb Ln xs) (hL : Ln ≤ 3072) (hn : n + 6 ≤ Ln) (hv0 : lv 0 = some (.ref sb)) (hv1 : lv 1 = some (.ref b)) (hv2 : lv 2 = some (.ref A)) (hv3 : lv 3 = some (.int (nI n))) (hT : T ≤ 1000000000) (hI : LI E w b A T) (K : ∀ w2, LI E w2 b A (T + 200) → G X ce sl 1003 lv [] w2) : G X ce sl 910 lv [] w := by
  have h := ok_il h0 dk_L23
  obtain ⟨hlo, hLB, hLR, hbA, hB, hV⟩ := id hI
  refine g_aload_n h (i := 0) rfl hv1 ?_
  refine g_xarg h hX hv0 hv3 hL 1 1 rfl rfl rfl rfl rfl (by rfl) (by omega) ?_
  refine g_callVp (w0 := w) h hq (i := 6) rfl mv_L_114 cls9 hLB.1 (ct_X9_back l E w b (cfW w A) (wJ w (A + 1)) (xs (n + 1)) hlo hLB hB hV.2.1.1 (fun k hk hn => (hV.2.2.2.1 k hk hn).1)) rfl rfl ⟨rfl, rfl, Nat.le_of_ble_eq_true rfl, Nat.le_of_ble_eq_true rfl⟩ (Nat.le_of_ble_eq_true rfl) hce (fun r1 w1 hp => ?_)
  obtain ⟨rfl, hF, hB1⟩ := hp
  obtain ⟨lo1, hA1, hL1, e1, e2⟩ := li_1 hI hF
  obtain ⟨v, hv⟩ := vl_back (xs (n + 1)) (cfW w A) (wJ w (A + 1))
  rw [hv]
  refine g_aload_n h (i := 7) rfl hv2 ?_
  refine g_xarg h hX hv0 hv3 hL 8 1 rfl rfl rfl rfl rfl (by rfl) (by omega) ?_
  refine g_w (sRow w1 A (wJ w (A + 1))) (by rw [← e2]; exact (sRow_self w1 A).symm) ?_
  refine g_callVp (w0 := sRow w1 A (wJ w (A + 1))) h hq (i := 13) rfl mv_L_117 cls10 (lk_R hA1) (ct_X10_back l E w1 A (wJ w (A + 1)) (xs (n + 1)) lo1 hA1 (by rw [e1]; exact hV.2.2.1)) rfl rfl ⟨rfl, rfl, Nat.le_of_ble_eq_true rfl, Nat.le_of_ble_eq_true rfl⟩ (Nat.le_of_ble_eq_true rfl) hce (fun r2 w2 hp => ?_)
  obtain ⟨rfl, hR⟩ := hp
  rw [e1] at hR ⊢
  rw [hv]
  refine g_icmp_eq h (i := 14) 1003 rfl rfl (fun _ => ?_) (fun c => absurd rfl c)
  exact K w2 (li_2 hI hF hB1 hR (iv_bk hV))
def il_L24 : List (Nat × Instr × Nat) := [(933, .aload_n 1, 1), (934, .aload_n 0, 1), (935, .iload_n 3, 1), (936, .iconst 1, 1), (937, .iadd, 1), (938, .iaload, 1), (939, .aload_n 0, 1), (940, .iload_n 3, 1), (941, .iconst 2, 1), (942, .iadd, 1), (943, .iaload, 1), (944, .invokevirtual 118, 3), (947, .aload_n 2, 1), (948, .aload_n 0, 1), (949, .iload_n 3, 1), (950, .iconst 1, 1), (951, .iadd, 1), (952, .iaload, 1), (953, .aload_n 0, 1), (954, .iload_n 3, 1), (955, .iconst 2, 1), (956, .iadd, 1), (957, .iaload, 1), (958, .invokevirtual 121, 3), (961, .if_icmp .eq 42, 3), (964, .iconst 0, 1), (965, .ireturn, 1)]
theorem dk_L24 : ∀ q ∈ il_L24, decode cL_law q.1 = .ok (q.2.1, q.2.2) := by decide +kernel
theorem vl_replay (a b : Int32) (cf : Nat → Nat → Int32) (R : Nat → Int64) : ∃ v, (rpS a b cf R).1 = .int v := by
  unfold rpS
  repeat' split
  all_goals exact ⟨_, rfl⟩
set_option maxRecDepth 100000 in
set_option maxHeartbeats 4000000 in
theorem lw_24 {X : Cx} {mn : String} {l : Launch} {E : EE} {P0 : Option Value → Wd → Prop} {mc0 ms0 nL0 : Nat} {il : List (Nat × Instr × Nat)} {ce sl : Nat} {lv : Nat → Option Value} {w : Wd} {sb Ln n b A T : Nat} {xs : Nat → Int32} (h0 : Ok X cL_law RL mn (some .boolean) il) (hq : Is X room_1 l E P0 mc0 ms0 nL0) (hce : ce ≤ 600000 ∧ sl ≤ 7302250) (hX : XA X sb Ln xs) (hL : Ln ≤ 3072) (hn : n + 6 ≤ Ln) (hv0 : lv 0 = some (.ref sb)) (hv1 : lv 1 = some (.ref b)) (hv2 : lv 2 = some (.ref A)) (hv3 : lv 3 = some (.int (nI n))) (hT : T ≤ 1000000000) (hI : LI E w b A T) (K : ∀ w2, LI E w2 b A (T + 200) → G X ce sl 1003 lv [] w2) : G X ce sl 933 lv [] w := by
  have h := ok_il h0 dk_L24
  obtain ⟨hlo, hLB, hLR, hbA, hB, hV⟩ := id hI
  refine g_aload_n h (i := 0) rfl hv1 ?_
  refine g_xarg h hX hv0 hv3 hL 1 1 rfl rfl rfl rfl rfl (by rfl) (by omega) ?_
  refine g_xarg h hX hv0 hv3 hL 6 2 rfl rfl rfl rfl rfl (by rfl) (by omega) ?_
  refine g_callVp (w0 := w) h hq (i := 11) rfl mv_L_118 cls9 hLB.1 (ct_X9_replay l E w b (cfW w A) (wJ w (A + 1)) (xs (n + 1)) (xs (n + 2)) hlo hLB hB hV.2.1 hV.1 (fun k hk hn => ⟨(hV.2.2.2.1 k hk hn).1, isN_up (hV.2.2.2.1 k hk hn).2 hT⟩) (isN_up hV.2.2.2.2 hT)) rfl rfl ⟨rfl, rfl, Nat.le_of_ble_eq_true rfl, Nat.le_of_ble_eq_true rfl⟩ (Nat.le_of_ble_eq_true rfl) hce (fun r1 w1 hp => ?_)
  obtain ⟨rfl, hF, hB1⟩ := hp
  obtain ⟨lo1, hA1, hL1, e1, e2⟩ := li_1 hI hF
  obtain ⟨v, hv⟩ := vl_replay (xs (n + 1)) (xs (n + 2)) (cfW w A) (wJ w (A + 1))
  rw [hv]
  refine g_aload_n h (i := 12) rfl hv2 ?_
  refine g_xarg h hX hv0 hv3 hL 13 1 rfl rfl rfl rfl rfl (by rfl) (by omega) ?_
  refine g_xarg h hX hv0 hv3 hL 18 2 rfl rfl rfl rfl rfl (by rfl) (by omega) ?_
  refine g_w (sRow w1 A (wJ w (A + 1))) (by rw [← e2]; exact (sRow_self w1 A).symm) ?_
  refine g_callVp (w0 := sRow w1 A (wJ w (A + 1))) h hq (i := 23) rfl mv_L_121 cls10 (lk_R hA1) (ct_X10_replay l E w1 A (wJ w (A + 1)) (xs (n + 1)) (xs (n + 2)) lo1 hA1 hV.2.1 (by rw [e1]; exact hV.1) (by rw [e1]; exact hV.2.2.1) (by rw [e1]; exact fun k hk hn => (hV.2.2.2.1 k hk hn).1)) rfl rfl ⟨rfl, rfl, Nat.le_of_ble_eq_true rfl, Nat.le_of_ble_eq_true rfl⟩ (Nat.le_of_ble_eq_true rfl) hce (fun r2 w2 hp => ?_)
  obtain ⟨rfl, hR⟩ := hp
  rw [e1] at hR ⊢
  rw [hv]
  refine g_icmp_eq h (i := 24) 1003 rfl rfl (fun _ => ?_) (fun c => absurd rfl c)
  exact K w2 (li_2 hI hF hB1 hR (iv_rp hV))
