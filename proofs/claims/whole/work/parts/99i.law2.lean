theorem lcmp_self (v : Int64) : lg_cmp v v = 0 := by
  unfold lg_cmp
  rw [if_neg (fun h => absurd (Int64.lt_iff_toInt_lt.mp h) (Int.lt_irrefl _)), if_pos rfl]
def il_L3 : List (Nat × Instr × Nat) := [(295, .aload_n 1, 1), (296, .aload_n 0, 1), (297, .iload_n 3, 1), (298, .iconst 1, 1), (299, .iadd, 1), (300, .iaload, 1), (301, .invokevirtual 28, 3), (304, .aload_n 2, 1), (305, .aload_n 0, 1), (306, .iload_n 3, 1), (307, .iconst 1, 1), (308, .iadd, 1), (309, .iaload, 1), (310, .invokevirtual 32, 3), (313, .if_icmp .eq 690, 3), (316, .iconst 0, 1), (317, .ireturn, 1)]
theorem dk_L3 : ∀ q ∈ il_L3, decode cL_law q.1 = .ok (q.2.1, q.2.2) := by decide +kernel
theorem vl_state (a : Int32) (cf : Nat → Nat → Int32) (R : Nat → Int64) : ∃ v, (stS a cf R).1 = .int v := by
  unfold stS
  repeat' split
  all_goals exact ⟨_, rfl⟩
theorem pu_state {a : Int32} {cf : Nat → Nat → Int32} {R : Nat → Int64} : (stS a cf R).2 = (cf, R) := by
  unfold stS
  repeat' split
  all_goals rfl
set_option maxRecDepth 100000 in
set_option maxHeartbeats 4000000 in
theorem lw_3 {X : Cx} {mn : String} {l : Launch} {E : EE} {P0 : Option Value → Wd → Prop} {mc0 ms0 nL0 : Nat} {il : List (Nat × Instr × Nat)} {ce sl : Nat} {lv : Nat → Option Value} {w : Wd} {sb Ln n b A T : Nat} {xs : Nat → Int32} (h0 : Ok X cL_law RL mn (some .boolean) il) (hq : Is X room_1 l E P0 mc0 ms0 nL0) (hce : ce ≤ 600000 ∧ sl ≤ 7302250) (hX : XA X sb Ln xs) (hL : Ln ≤ 3072) (hn : n + 6 ≤ Ln) (hv0 : lv 0 = some (.ref sb)) (hv1 : lv 1 = some (.ref b)) (hv2 : lv 2 = some (.ref A)) (hv3 : lv 3 = some (.int (nI n))) (hT : T ≤ 1000000000) (hI : LI E w b A T) (K : ∀ w2, LI E w2 b A (T + 200) → G X ce sl 1003 lv [] w2) : G X ce sl 295 lv [] w := by
  have h := ok_il h0 dk_L3
  obtain ⟨hlo, hLB, hLR, hbA, hB, hV⟩ := id hI
  refine g_aload_n h (i := 0) rfl hv1 ?_
  refine g_xarg h hX hv0 hv3 hL 1 1 rfl rfl rfl rfl rfl (by rfl) (by omega) ?_
  refine g_callVp (w0 := w) h hq (i := 6) rfl mv_L_28 cls9 hLB.1 (ct_X9_state l E w b (cfW w A) (wJ w (A + 1)) (xs (n + 1)) hlo hLB hB hV.2.1.1 ) rfl rfl ⟨rfl, rfl, Nat.le_of_ble_eq_true rfl, Nat.le_of_ble_eq_true rfl⟩ (Nat.le_of_ble_eq_true rfl) hce (fun r1 w1 hp => ?_)
  obtain ⟨rfl, hF, hB1⟩ := hp
  obtain ⟨lo1, hA1, hL1, e1, e2⟩ := li_1 hI hF
  obtain ⟨v, hv⟩ := vl_state (xs (n + 1)) (cfW w A) (wJ w (A + 1))
  rw [hv]
  refine g_aload_n h (i := 7) rfl hv2 ?_
  refine g_xarg h hX hv0 hv3 hL 8 1 rfl rfl rfl rfl rfl (by rfl) (by omega) ?_
  refine g_w (sRow w1 A (wJ w (A + 1))) (by rw [← e2]; exact (sRow_self w1 A).symm) ?_
  refine g_callVp (w0 := sRow w1 A (wJ w (A + 1))) h hq (i := 13) rfl mv_L_32 cls10 (lk_R hA1) (ct_X10_state l E w1 A (wJ w (A + 1)) (xs (n + 1)) lo1 hA1 ) rfl rfl ⟨rfl, rfl, Nat.le_of_ble_eq_true rfl, Nat.le_of_ble_eq_true rfl⟩ (Nat.le_of_ble_eq_true rfl) hce (fun r2 w2 hp => ?_)
  obtain ⟨rfl, hR⟩ := hp
  rw [e1] at hR ⊢
  rw [hv]
  refine g_icmp_eq h (i := 14) 1003 rfl rfl (fun _ => ?_) (fun c => absurd rfl c)
  exact K w2 (li_2 hI hF hB1 hR (by rw [pu_state]; exact inv_up hV (by omega)))
def il_L5 : List (Nat × Instr × Nat) := [(342, .aload_n 1, 1), (343, .aload_n 0, 1), (344, .iload_n 3, 1), (345, .iconst 1, 1), (346, .iadd, 1), (347, .iaload, 1), (348, .invokevirtual 38, 3), (351, .aload_n 2, 1), (352, .aload_n 0, 1), (353, .iload_n 3, 1), (354, .iconst 1, 1), (355, .iadd, 1), (356, .iaload, 1), (357, .invokevirtual 41, 3), (360, .lcmp, 1), (361, .ifCond .eq 642, 3), (364, .iconst 0, 1), (365, .ireturn, 1)]
theorem dk_L5 : ∀ q ∈ il_L5, decode cL_law q.1 = .ok (q.2.1, q.2.2) := by decide +kernel
theorem vl_sine (a : Int32) (cf : Nat → Nat → Int32) (R : Nat → Int64) : ∃ v, (snS a cf R).1 = .long v := by
  unfold snS
  repeat' split
  all_goals exact ⟨_, rfl⟩
theorem pu_sine {a : Int32} {cf : Nat → Nat → Int32} {R : Nat → Int64} : (snS a cf R).2 = (cf, R) := by
  unfold snS
  repeat' split
  all_goals rfl
set_option maxRecDepth 100000 in
set_option maxHeartbeats 4000000 in
theorem lw_5 {X : Cx} {mn : String} {l : Launch} {E : EE} {P0 : Option Value → Wd → Prop} {mc0 ms0 nL0 : Nat} {il : List (Nat × Instr × Nat)} {ce sl : Nat} {lv : Nat → Option Value} {w : Wd} {sb Ln n b A T : Nat} {xs : Nat → Int32} (h0 : Ok X cL_law RL mn (some .boolean) il) (hq : Is X room_1 l E P0 mc0 ms0 nL0) (hce : ce ≤ 600000 ∧ sl ≤ 7302250) (hX : XA X sb Ln xs) (hL : Ln ≤ 3072) (hn : n + 6 ≤ Ln) (hv0 : lv 0 = some (.ref sb)) (hv1 : lv 1 = some (.ref b)) (hv2 : lv 2 = some (.ref A)) (hv3 : lv 3 = some (.int (nI n))) (hT : T ≤ 1000000000) (hI : LI E w b A T) (K : ∀ w2, LI E w2 b A (T + 200) → G X ce sl 1003 lv [] w2) : G X ce sl 342 lv [] w := by
  have h := ok_il h0 dk_L5
  obtain ⟨hlo, hLB, hLR, hbA, hB, hV⟩ := id hI
  refine g_aload_n h (i := 0) rfl hv1 ?_
  refine g_xarg h hX hv0 hv3 hL 1 1 rfl rfl rfl rfl rfl (by rfl) (by omega) ?_
  refine g_callVp (w0 := w) h hq (i := 6) rfl mv_L_38 cls9 hLB.1 (ct_X9_sine l E w b (cfW w A) (wJ w (A + 1)) (xs (n + 1)) hlo hLB hB hV.2.1.1 ) rfl rfl ⟨rfl, rfl, Nat.le_of_ble_eq_true rfl, Nat.le_of_ble_eq_true rfl⟩ (Nat.le_of_ble_eq_true rfl) hce (fun r1 w1 hp => ?_)
  obtain ⟨rfl, hF, hB1⟩ := hp
  obtain ⟨lo1, hA1, hL1, e1, e2⟩ := li_1 hI hF
  obtain ⟨v, hv⟩ := vl_sine (xs (n + 1)) (cfW w A) (wJ w (A + 1))
  rw [hv]
  refine g_aload_n h (i := 7) rfl hv2 ?_
  refine g_xarg h hX hv0 hv3 hL 8 1 rfl rfl rfl rfl rfl (by rfl) (by omega) ?_
  refine g_w (sRow w1 A (wJ w (A + 1))) (by rw [← e2]; exact (sRow_self w1 A).symm) ?_
  refine g_callVp (w0 := sRow w1 A (wJ w (A + 1))) h hq (i := 13) rfl mv_L_41 cls10 (lk_R hA1) (ct_X10_sine l E w1 A (wJ w (A + 1)) (xs (n + 1)) lo1 hA1 ) rfl rfl ⟨rfl, rfl, Nat.le_of_ble_eq_true rfl, Nat.le_of_ble_eq_true rfl⟩ (Nat.le_of_ble_eq_true rfl) hce (fun r2 w2 hp => ?_)
  obtain ⟨rfl, hR⟩ := hp
  rw [e1] at hR ⊢
  rw [hv]
  refine g_lcmp h (i := 14) rfl ?_
  refine g_if_eq h (i := 15) 1003 rfl rfl (fun _ => ?_) (fun c => absurd (lcmp_self v) c)
  exact K w2 (li_2 hI hF hB1 hR (by rw [pu_sine]; exact inv_up hV (by omega)))
def il_L9 : List (Nat × Instr × Nat) := [(475, .aload_n 1, 1), (476, .aload_n 0, 1), (477, .iload_n 3, 1), (478, .iconst 1, 1), (479, .iadd, 1), (480, .iaload, 1), (481, .aload_n 0, 1), (482, .iload_n 3, 1), (483, .iconst 2, 1), (484, .iadd, 1), (485, .iaload, 1), (486, .invokevirtual 54, 3), (489, .aload_n 2, 1), (490, .aload_n 0, 1), (491, .iload_n 3, 1), (492, .iconst 1, 1), (493, .iadd, 1), (494, .iaload, 1), (495, .aload_n 0, 1), (496, .iload_n 3, 1), (497, .iconst 2, 1), (498, .iadd, 1), (499, .iaload, 1), (500, .invokevirtual 57, 3), (503, .if_icmp .eq 500, 3), (506, .iconst 0, 1), (507, .ireturn, 1)]
theorem dk_L9 : ∀ q ∈ il_L9, decode cL_law q.1 = .ok (q.2.1, q.2.2) := by decide +kernel
theorem vl_pose (a b : Int32) (cf : Nat → Nat → Int32) (R : Nat → Int64) : ∃ v, (poS a b cf R).1 = .int v := by
  unfold poS
  repeat' split
  all_goals exact ⟨_, rfl⟩
theorem pu_pose {a b : Int32} {cf : Nat → Nat → Int32} {R : Nat → Int64} : (poS a b cf R).2 = (cf, R) := by
  unfold poS
  repeat' split
  all_goals rfl
set_option maxRecDepth 100000 in
set_option maxHeartbeats 4000000 in
theorem lw_9 {X : Cx} {mn : String} {l : Launch} {E : EE} {P0 : Option Value → Wd → Prop} {mc0 ms0 nL0 : Nat} {il : List (Nat × Instr × Nat)} {ce sl : Nat} {lv : Nat → Option Value} {w : Wd} {sb Ln n b A T : Nat} {xs : Nat → Int32} (h0 : Ok X cL_law RL mn (some .boolean) il) (hq : Is X room_1 l E P0 mc0 ms0 nL0) (hce : ce ≤ 600000 ∧ sl ≤ 7302250) (hX : XA X sb Ln xs) (hL : Ln ≤ 3072) (hn : n + 6 ≤ Ln) (hv0 : lv 0 = some (.ref sb)) (hv1 : lv 1 = some (.ref b)) (hv2 : lv 2 = some (.ref A)) (hv3 : lv 3 = some (.int (nI n))) (hT : T ≤ 1000000000) (hI : LI E w b A T) (K : ∀ w2, LI E w2 b A (T + 200) → G X ce sl 1003 lv [] w2) : G X ce sl 475 lv [] w := by
  have h := ok_il h0 dk_L9
  obtain ⟨hlo, hLB, hLR, hbA, hB, hV⟩ := id hI
  refine g_aload_n h (i := 0) rfl hv1 ?_
  refine g_xarg h hX hv0 hv3 hL 1 1 rfl rfl rfl rfl rfl (by rfl) (by omega) ?_
  refine g_xarg h hX hv0 hv3 hL 6 2 rfl rfl rfl rfl rfl (by rfl) (by omega) ?_
  refine g_callVp (w0 := w) h hq (i := 11) rfl mv_L_54 cls9 hLB.1 (ct_X9_pose l E w b (cfW w A) (wJ w (A + 1)) (xs (n + 1)) (xs (n + 2)) hlo hLB hB hV.2.1.1 ) rfl rfl ⟨rfl, rfl, Nat.le_of_ble_eq_true rfl, Nat.le_of_ble_eq_true rfl⟩ (Nat.le_of_ble_eq_true rfl) hce (fun r1 w1 hp => ?_)
  obtain ⟨rfl, hF, hB1⟩ := hp
  obtain ⟨lo1, hA1, hL1, e1, e2⟩ := li_1 hI hF
  obtain ⟨v, hv⟩ := vl_pose (xs (n + 1)) (xs (n + 2)) (cfW w A) (wJ w (A + 1))
  rw [hv]
  refine g_aload_n h (i := 12) rfl hv2 ?_
  refine g_xarg h hX hv0 hv3 hL 13 1 rfl rfl rfl rfl rfl (by rfl) (by omega) ?_
  refine g_xarg h hX hv0 hv3 hL 18 2 rfl rfl rfl rfl rfl (by rfl) (by omega) ?_
  refine g_w (sRow w1 A (wJ w (A + 1))) (by rw [← e2]; exact (sRow_self w1 A).symm) ?_
  refine g_callVp (w0 := sRow w1 A (wJ w (A + 1))) h hq (i := 23) rfl mv_L_57 cls10 (lk_R hA1) (ct_X10_pose l E w1 A (wJ w (A + 1)) (xs (n + 1)) (xs (n + 2)) lo1 hA1 ) rfl rfl ⟨rfl, rfl, Nat.le_of_ble_eq_true rfl, Nat.le_of_ble_eq_true rfl⟩ (Nat.le_of_ble_eq_true rfl) hce (fun r2 w2 hp => ?_)
  obtain ⟨rfl, hR⟩ := hp
  rw [e1] at hR ⊢
  rw [hv]
  refine g_icmp_eq h (i := 24) 1003 rfl rfl (fun _ => ?_) (fun c => absurd rfl c)
  exact K w2 (li_2 hI hF hB1 hR (by rw [pu_pose]; exact inv_up hV (by omega)))
def il_L10 : List (Nat × Instr × Nat) := [(508, .aload_n 1, 1), (509, .aload_n 0, 1), (510, .iload_n 3, 1), (511, .iconst 1, 1), (512, .iadd, 1), (513, .iaload, 1), (514, .aload_n 0, 1), (515, .iload_n 3, 1), (516, .iconst 2, 1), (517, .iadd, 1), (518, .iaload, 1), (519, .invokevirtual 58, 3), (522, .aload_n 2, 1), (523, .aload_n 0, 1), (524, .iload_n 3, 1), (525, .iconst 1, 1), (526, .iadd, 1), (527, .iaload, 1), (528, .aload_n 0, 1), (529, .iload_n 3, 1), (530, .iconst 2, 1), (531, .iadd, 1), (532, .iaload, 1), (533, .invokevirtual 61, 3), (536, .if_icmp .eq 467, 3), (539, .iconst 0, 1), (540, .ireturn, 1)]
theorem dk_L10 : ∀ q ∈ il_L10, decode cL_law q.1 = .ok (q.2.1, q.2.2) := by decide +kernel
theorem vl_plan (a b : Int32) (cf : Nat → Nat → Int32) (R : Nat → Int64) : ∃ v, (plnS a b cf R).1 = .int v := by
  unfold plnS
  repeat' split
  all_goals exact ⟨_, rfl⟩
theorem pu_plan {a b : Int32} {cf : Nat → Nat → Int32} {R : Nat → Int64} : (plnS a b cf R).2 = (cf, R) := by
  unfold plnS
  repeat' split
  all_goals rfl
set_option maxRecDepth 100000 in
set_option maxHeartbeats 4000000 in
theorem lw_10 {X : Cx} {mn : String} {l : Launch} {E : EE} {P0 : Option Value → Wd → Prop} {mc0 ms0 nL0 : Nat} {il : List (Nat × Instr × Nat)} {ce sl : Nat} {lv : Nat → Option Value} {w : Wd} {sb Ln n b A T : Nat} {xs : Nat → Int32} (h0 : Ok X cL_law RL mn (some .boolean) il) (hq : Is X room_1 l E P0 mc0 ms0 nL0) (hce : ce ≤ 600000 ∧ sl ≤ 7302250) (hX : XA X sb Ln xs) (hL : Ln ≤ 3072) (hn : n + 6 ≤ Ln) (hv0 : lv 0 = some (.ref sb)) (hv1 : lv 1 = some (.ref b)) (hv2 : lv 2 = some (.ref A)) (hv3 : lv 3 = some (.int (nI n))) (hT : T ≤ 1000000000) (hI : LI E w b A T) (K : ∀ w2, LI E w2 b A (T + 200) → G X ce sl 1003 lv [] w2) : G X ce sl 508 lv [] w := by
  have h := ok_il h0 dk_L10
  obtain ⟨hlo, hLB, hLR, hbA, hB, hV⟩ := id hI
  refine g_aload_n h (i := 0) rfl hv1 ?_
  refine g_xarg h hX hv0 hv3 hL 1 1 rfl rfl rfl rfl rfl (by rfl) (by omega) ?_
  refine g_xarg h hX hv0 hv3 hL 6 2 rfl rfl rfl rfl rfl (by rfl) (by omega) ?_
  refine g_callVp (w0 := w) h hq (i := 11) rfl mv_L_58 cls9 hLB.1 (ct_X9_plan l E w b (cfW w A) (wJ w (A + 1)) (xs (n + 1)) (xs (n + 2)) hlo hLB hB hV.2.1.1 hV.1) rfl rfl ⟨rfl, rfl, Nat.le_of_ble_eq_true rfl, Nat.le_of_ble_eq_true rfl⟩ (Nat.le_of_ble_eq_true rfl) hce (fun r1 w1 hp => ?_)
  obtain ⟨rfl, hF, hB1⟩ := hp
  obtain ⟨lo1, hA1, hL1, e1, e2⟩ := li_1 hI hF
  obtain ⟨v, hv⟩ := vl_plan (xs (n + 1)) (xs (n + 2)) (cfW w A) (wJ w (A + 1))
  rw [hv]
  refine g_aload_n h (i := 12) rfl hv2 ?_
  refine g_xarg h hX hv0 hv3 hL 13 1 rfl rfl rfl rfl rfl (by rfl) (by omega) ?_
  refine g_xarg h hX hv0 hv3 hL 18 2 rfl rfl rfl rfl rfl (by rfl) (by omega) ?_
  refine g_w (sRow w1 A (wJ w (A + 1))) (by rw [← e2]; exact (sRow_self w1 A).symm) ?_
  refine g_callVp (w0 := sRow w1 A (wJ w (A + 1))) h hq (i := 23) rfl mv_L_61 cls10 (lk_R hA1) (ct_X10_plan l E w1 A (wJ w (A + 1)) (xs (n + 1)) (xs (n + 2)) lo1 hA1 hV.2.1.1 (by rw [e1]; exact hV.1)) rfl rfl ⟨rfl, rfl, Nat.le_of_ble_eq_true rfl, Nat.le_of_ble_eq_true rfl⟩ (Nat.le_of_ble_eq_true rfl) hce (fun r2 w2 hp => ?_)
  obtain ⟨rfl, hR⟩ := hp
  rw [e1] at hR ⊢
  rw [hv]
  refine g_icmp_eq h (i := 24) 1003 rfl rfl (fun _ => ?_) (fun c => absurd rfl c)
  exact K w2 (li_2 hI hF hB1 hR (by rw [pu_plan]; exact inv_up hV (by omega)))
def il_L11 : List (Nat × Instr × Nat) := [(541, .aload_n 1, 1), (542, .aload_n 0, 1), (543, .iload_n 3, 1), (544, .iconst 1, 1), (545, .iadd, 1), (546, .iaload, 1), (547, .aload_n 0, 1), (548, .iload_n 3, 1), (549, .iconst 2, 1), (550, .iadd, 1), (551, .iaload, 1), (552, .aload_n 0, 1), (553, .iload_n 3, 1), (554, .iconst 3, 1), (555, .iadd, 1), (556, .iaload, 1), (557, .aload_n 0, 1), (558, .iload_n 3, 1), (559, .iconst 4, 1), (560, .iadd, 1), (561, .iaload, 1), (562, .invokevirtual 62, 3), (565, .aload_n 2, 1), (566, .aload_n 0, 1), (567, .iload_n 3, 1), (568, .iconst 1, 1), (569, .iadd, 1), (570, .iaload, 1), (571, .aload_n 0, 1), (572, .iload_n 3, 1), (573, .iconst 2, 1), (574, .iadd, 1), (575, .iaload, 1), (576, .aload_n 0, 1), (577, .iload_n 3, 1), (578, .iconst 3, 1), (579, .iadd, 1), (580, .iaload, 1), (581, .aload_n 0, 1), (582, .iload_n 3, 1), (583, .iconst 4, 1), (584, .iadd, 1), (585, .iaload, 1), (586, .invokevirtual 66, 3), (589, .if_icmp .eq 414, 3), (592, .iconst 0, 1), (593, .ireturn, 1)]
theorem dk_L11 : ∀ q ∈ il_L11, decode cL_law q.1 = .ok (q.2.1, q.2.2) := by decide +kernel
theorem vl_along (a b c d : Int32) (cf : Nat → Nat → Int32) (R : Nat → Int64) : ∃ v, (alS a b c d cf R).1 = .int v := by
  unfold alS
  repeat' split
  all_goals exact ⟨_, rfl⟩
theorem pu_along {a b c d : Int32} {cf : Nat → Nat → Int32} {R : Nat → Int64} : (alS a b c d cf R).2 = (cf, R) := by
  unfold alS
  repeat' split
  all_goals rfl
set_option maxRecDepth 100000 in
set_option maxHeartbeats 4000000 in
theorem lw_11 {X : Cx} {mn : String} {l : Launch} {E : EE} {P0 : Option Value → Wd → Prop} {mc0 ms0 nL0 : Nat} {il : List (Nat × Instr × Nat)} {ce sl : Nat} {lv : Nat → Option Value} {w : Wd} {sb Ln n b A T : Nat} {xs : Nat → Int32} (h0 : Ok X cL_law RL mn (some .boolean) il) (hq : Is X room_1 l E P0 mc0 ms0 nL0) (hce : ce ≤ 600000 ∧ sl ≤ 7302250) (hX : XA X sb Ln xs) (hL : Ln ≤ 3072) (hn : n + 6 ≤ Ln) (hv0 : lv 0 = some (.ref sb)) (hv1 : lv 1 = some (.ref b)) (hv2 : lv 2 = some (.ref A)) (hv3 : lv 3 = some (.int (nI n))) (hT : T ≤ 1000000000) (hI : LI E w b A T) (K : ∀ w2, LI E w2 b A (T + 200) → G X ce sl 1003 lv [] w2) : G X ce sl 541 lv [] w := by
  have h := ok_il h0 dk_L11
  obtain ⟨hlo, hLB, hLR, hbA, hB, hV⟩ := id hI
  refine g_aload_n h (i := 0) rfl hv1 ?_
  refine g_xarg h hX hv0 hv3 hL 1 1 rfl rfl rfl rfl rfl (by rfl) (by omega) ?_
  refine g_xarg h hX hv0 hv3 hL 6 2 rfl rfl rfl rfl rfl (by rfl) (by omega) ?_
  refine g_xarg h hX hv0 hv3 hL 11 3 rfl rfl rfl rfl rfl (by rfl) (by omega) ?_
  refine g_xarg h hX hv0 hv3 hL 16 4 rfl rfl rfl rfl rfl (by rfl) (by omega) ?_
  refine g_callVp (w0 := w) h hq (i := 21) rfl mv_L_62 cls9 hLB.1 (ct_X9_along l E w b (cfW w A) (wJ w (A + 1)) (xs (n + 1)) (xs (n + 2)) (xs (n + 3)) (xs (n + 4)) hlo hLB hB hV.2.1.1 hV.1) rfl rfl ⟨rfl, rfl, Nat.le_of_ble_eq_true rfl, Nat.le_of_ble_eq_true rfl⟩ (Nat.le_of_ble_eq_true rfl) hce (fun r1 w1 hp => ?_)
  obtain ⟨rfl, hF, hB1⟩ := hp
  obtain ⟨lo1, hA1, hL1, e1, e2⟩ := li_1 hI hF
  obtain ⟨v, hv⟩ := vl_along (xs (n + 1)) (xs (n + 2)) (xs (n + 3)) (xs (n + 4)) (cfW w A) (wJ w (A + 1))
  rw [hv]
  refine g_aload_n h (i := 22) rfl hv2 ?_
  refine g_xarg h hX hv0 hv3 hL 23 1 rfl rfl rfl rfl rfl (by rfl) (by omega) ?_
  refine g_xarg h hX hv0 hv3 hL 28 2 rfl rfl rfl rfl rfl (by rfl) (by omega) ?_
  refine g_xarg h hX hv0 hv3 hL 33 3 rfl rfl rfl rfl rfl (by rfl) (by omega) ?_
  refine g_xarg h hX hv0 hv3 hL 38 4 rfl rfl rfl rfl rfl (by rfl) (by omega) ?_
  refine g_w (sRow w1 A (wJ w (A + 1))) (by rw [← e2]; exact (sRow_self w1 A).symm) ?_
  refine g_callVp (w0 := sRow w1 A (wJ w (A + 1))) h hq (i := 43) rfl mv_L_66 cls10 (lk_R hA1) (ct_X10_along l E w1 A (wJ w (A + 1)) (xs (n + 1)) (xs (n + 2)) (xs (n + 3)) (xs (n + 4)) lo1 hA1 hV.2.1.1 (by rw [e1]; exact hV.1)) rfl rfl ⟨rfl, rfl, Nat.le_of_ble_eq_true rfl, Nat.le_of_ble_eq_true rfl⟩ (Nat.le_of_ble_eq_true rfl) hce (fun r2 w2 hp => ?_)
  obtain ⟨rfl, hR⟩ := hp
  rw [e1] at hR ⊢
  rw [hv]
  refine g_icmp_eq h (i := 44) 1003 rfl rfl (fun _ => ?_) (fun c => absurd rfl c)
  exact K w2 (li_2 hI hF hB1 hR (by rw [pu_along]; exact inv_up hV (by omega)))
def il_L21 : List (Nat × Instr × Nat) := [(863, .aload_n 1, 1), (864, .aload_n 0, 1), (865, .iload_n 3, 1), (866, .iconst 1, 1), (867, .iadd, 1), (868, .iaload, 1), (869, .invokevirtual 106, 3), (872, .aload_n 2, 1), (873, .aload_n 0, 1), (874, .iload_n 3, 1), (875, .iconst 1, 1), (876, .iadd, 1), (877, .iaload, 1), (878, .invokevirtual 109, 3), (881, .lcmp, 1), (882, .ifCond .eq 121, 3), (885, .iconst 0, 1), (886, .ireturn, 1)]
theorem dk_L21 : ∀ q ∈ il_L21, decode cL_law q.1 = .ok (q.2.1, q.2.2) := by decide +kernel
theorem vl_travel (a : Int32) (cf : Nat → Nat → Int32) (R : Nat → Int64) : ∃ v, (trS a cf R).1 = .long v := by
  unfold trS
  repeat' split
  all_goals exact ⟨_, rfl⟩
theorem pu_travel {a : Int32} {cf : Nat → Nat → Int32} {R : Nat → Int64} : (trS a cf R).2 = (cf, R) := by
  unfold trS
  repeat' split
  all_goals rfl
set_option maxRecDepth 100000 in
set_option maxHeartbeats 4000000 in
theorem lw_21 {X : Cx} {mn : String} {l : Launch} {E : EE} {P0 : Option Value → Wd → Prop} {mc0 ms0 nL0 : Nat} {il : List (Nat × Instr × Nat)} {ce sl : Nat} {lv : Nat → Option Value} {w : Wd} {sb Ln n b A T : Nat} {xs : Nat → Int32} (h0 : Ok X cL_law RL mn (some .boolean) il) (hq : Is X room_1 l E P0 mc0 ms0 nL0) (hce : ce ≤ 600000 ∧ sl ≤ 7302250) (hX : XA X sb Ln xs) (hL : Ln ≤ 3072) (hn : n + 6 ≤ Ln) (hv0 : lv 0 = some (.ref sb)) (hv1 : lv 1 = some (.ref b)) (hv2 : lv 2 = some (.ref A)) (hv3 : lv 3 = some (.int (nI n))) (hT : T ≤ 1000000000) (hI : LI E w b A T) (K : ∀ w2, LI E w2 b A (T + 200) → G X ce sl 1003 lv [] w2) : G X ce sl 863 lv [] w := by
  have h := ok_il h0 dk_L21
  obtain ⟨hlo, hLB, hLR, hbA, hB, hV⟩ := id hI
  refine g_aload_n h (i := 0) rfl hv1 ?_
  refine g_xarg h hX hv0 hv3 hL 1 1 rfl rfl rfl rfl rfl (by rfl) (by omega) ?_
  refine g_callVp (w0 := w) h hq (i := 6) rfl mv_L_106 cls9 hLB.1 (ct_X9_travel l E w b (cfW w A) (wJ w (A + 1)) (xs (n + 1)) hlo hLB hB hV.2.1.1 ) rfl rfl ⟨rfl, rfl, Nat.le_of_ble_eq_true rfl, Nat.le_of_ble_eq_true rfl⟩ (Nat.le_of_ble_eq_true rfl) hce (fun r1 w1 hp => ?_)
  obtain ⟨rfl, hF, hB1⟩ := hp
  obtain ⟨lo1, hA1, hL1, e1, e2⟩ := li_1 hI hF
  obtain ⟨v, hv⟩ := vl_travel (xs (n + 1)) (cfW w A) (wJ w (A + 1))
  rw [hv]
  refine g_aload_n h (i := 7) rfl hv2 ?_
  refine g_xarg h hX hv0 hv3 hL 8 1 rfl rfl rfl rfl rfl (by rfl) (by omega) ?_
  refine g_w (sRow w1 A (wJ w (A + 1))) (by rw [← e2]; exact (sRow_self w1 A).symm) ?_
  refine g_callVp (w0 := sRow w1 A (wJ w (A + 1))) h hq (i := 13) rfl mv_L_109 cls10 (lk_R hA1) (ct_X10_travel l E w1 A (wJ w (A + 1)) (xs (n + 1)) lo1 hA1 ) rfl rfl ⟨rfl, rfl, Nat.le_of_ble_eq_true rfl, Nat.le_of_ble_eq_true rfl⟩ (Nat.le_of_ble_eq_true rfl) hce (fun r2 w2 hp => ?_)
  obtain ⟨rfl, hR⟩ := hp
  rw [e1] at hR ⊢
  rw [hv]
  refine g_lcmp h (i := 14) rfl ?_
  refine g_if_eq h (i := 15) 1003 rfl rfl (fun _ => ?_) (fun c => absurd (lcmp_self v) c)
  exact K w2 (li_2 hI hF hB1 hR (by rw [pu_travel]; exact inv_up hV (by omega)))
