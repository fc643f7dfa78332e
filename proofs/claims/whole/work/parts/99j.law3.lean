theorem g_bool {X : Cx} {cc : ByteArray} {own mname : String} {ret : Option FieldType} {il : List (Nat × Instr × Nat)} {ce sl pc : Nat} {lv : Nat → Option Value} {st : List Value} {w : Wd} (h : Ok X cc own mname ret il) (i t1 t2 : Nat) {d1 d2 : Int} {x on : Int32} (hon : (x = 0 ∧ on = 0) ∨ (x ≠ 0 ∧ on = 1)) (h0 : il[i]? = some (pc, .ifCond .eq d1, 3)) (ht1 : (pc : Int) + d1 = (t1 : Int)) (h1 : il[i + 1]? = some (pc + 3, .iconst 1, 1)) (h2 : il[i + 2]? = some (pc + 3 + 1, .goto d2, 3)) (ht2 : ((pc + 3 + 1 : Nat) : Int) + d2 = (t2 : Int)) (h3 : il[i + 3]? = some (t1, .iconst 0, 1)) (ht : t1 + 1 = t2) (kk : G X ce sl t2 lv (.int on :: st) w) : G X ce sl pc lv (.int x :: st) w := by
  refine g_if_eq h i t1 h0 ht1 (fun c => ?_) (fun c => ?_)
  · refine g_iconst h (i + 3) (v := 0) h3 (by rfl) ?_
    rcases hon with ⟨-, e⟩ | ⟨e, -⟩
    · rw [ht, ← e]; exact kk
    · exact absurd c e
  · refine g_iconst h (i + 1) (v := 1) h1 (by rfl) ?_
    refine g_goto h (i + 2) t2 h2 ht2 ?_
    rcases hon with ⟨e, -⟩ | ⟨-, e⟩
    · exact absurd e c
    · rw [← e]; exact kk
def il_L4 : List (Nat × Instr × Nat) := [(318, .aload_n 1, 1), (319, .aload_n 0, 1), (320, .iload_n 3, 1), (321, .iconst 1, 1), (322, .iadd, 1), (323, .iaload, 1), (324, .invokevirtual 33, 3), (327, .aload_n 2, 1), (328, .aload_n 0, 1), (329, .iload_n 3, 1), (330, .iconst 1, 1), (331, .iadd, 1), (332, .iaload, 1), (333, .invokevirtual 37, 3), (336, .lcmp, 1), (337, .ifCond .eq 666, 3), (340, .iconst 0, 1), (341, .ireturn, 1)]
theorem dk_L4 : ∀ q ∈ il_L4, decode cL_law q.1 = .ok (q.2.1, q.2.2) := by decide +kernel
set_option maxRecDepth 100000 in
set_option maxHeartbeats 4000000 in
theorem lw_4 {X : Cx} {mn : String} {l : Launch} {E : EE} {P0 : Option Value → Wd → Prop} {mc0 ms0 nL0 : Nat} {il : List (Nat × Instr × Nat)} {ce sl : Nat} {lv : Nat → Option Value} {w : Wd} {sb Ln n b A T : Nat} {xs : Nat → Int32} (h0 : Ok X cL_law RL mn (some .boolean) il) (hq : Is X room_1 l E P0 mc0 ms0 nL0) (hce : ce ≤ 600000 ∧ sl ≤ 7302250) (hX : XA X sb Ln xs) (hL : Ln ≤ 3072) (hn : n + 6 ≤ Ln) (hv0 : lv 0 = some (.ref sb)) (hv1 : lv 1 = some (.ref b)) (hv2 : lv 2 = some (.ref A)) (hv3 : lv 3 = some (.int (nI n))) (hT : T ≤ 1000000000) (hI : LI E w b A T) (K : ∀ w2, LI E w2 b A (T + 200) → G X ce sl 1003 lv [] w2) : G X ce sl 318 lv [] w := by
  have h := ok_il h0 dk_L4
  obtain ⟨hlo, hLB, hLR, hbA, hB, hV⟩ := id hI
  refine g_aload_n h (i := 0) rfl hv1 ?_
  refine g_xarg h hX hv0 hv3 hL 1 1 rfl rfl rfl rfl rfl (by rfl) (by omega) ?_
  refine g_callVp (w0 := w) h hq (i := 6) rfl mv_L_33 cls9 hLB.1 (ct_X9_tip l E w b (cfW w A) (wJ w (A + 1)) (xs (n + 1)) hlo hLB hB hV.2.1.1 hV.1.1) rfl rfl ⟨rfl, rfl, Nat.le_of_ble_eq_true rfl, Nat.le_of_ble_eq_true rfl⟩ (Nat.le_of_ble_eq_true rfl) hce (fun r1 w1 hp => ?_)
  obtain ⟨rfl, hF, hB1, -⟩ := hp
  obtain ⟨lo1, hA1, hL1, e1, e2⟩ := li_1 hI hF
  refine g_aload_n h (i := 7) rfl hv2 ?_
  refine g_xarg h hX hv0 hv3 hL 8 1 rfl rfl rfl rfl rfl (by rfl) (by omega) ?_
  refine g_w (sRow w1 A (wJ w (A + 1))) (by rw [← e2]; exact (sRow_self w1 A).symm) ?_
  refine g_callVp (w0 := sRow w1 A (wJ w (A + 1))) h hq (i := 13) rfl mv_L_37 cls10 (lk_R hA1) (ct_X10_tip l E w1 A (wJ w (A + 1)) (xs (n + 1)) lo1 hA1 hV.2.1.1 (by rw [e1]; exact hV.1.1)) rfl rfl ⟨rfl, rfl, Nat.le_of_ble_eq_true rfl, Nat.le_of_ble_eq_true rfl⟩ (Nat.le_of_ble_eq_true rfl) hce (fun r2 w2 hp => ?_)
  obtain ⟨w3, hRS, rfl, rfl⟩ := hp
  have hR := ri_RS (r := (wJ w (A + 1))) hRS
  rw [e1] at hR ⊢
  refine g_lcmp h (i := 14) rfl ?_
  refine g_if_eq h (i := 15) 1003 rfl rfl (fun _ => ?_) (fun c => absurd (lcmp_self _) c)
  exact K _ (li_2 hI hF hB1 hR (inv_up hV (by omega)))
def il_L14 : List (Nat × Instr × Nat) := [(650, .aload_n 1, 1), (651, .aload_n 0, 1), (652, .iload_n 3, 1), (653, .iconst 1, 1), (654, .iadd, 1), (655, .iaload, 1), (656, .aload_n 0, 1), (657, .iload_n 3, 1), (658, .iconst 2, 1), (659, .iadd, 1), (660, .iaload, 1), (661, .aload_n 0, 1), (662, .iload_n 3, 1), (663, .iconst 3, 1), (664, .iadd, 1), (665, .iaload, 1), (666, .ifCond .eq 7, 3), (669, .iconst 1, 1), (670, .goto 4, 3), (673, .iconst 0, 1), (674, .invokevirtual 76, 3), (677, .aload_n 2, 1), (678, .aload_n 0, 1), (679, .iload_n 3, 1), (680, .iconst 1, 1), (681, .iadd, 1), (682, .iaload, 1), (683, .aload_n 0, 1), (684, .iload_n 3, 1), (685, .iconst 2, 1), (686, .iadd, 1), (687, .iaload, 1), (688, .aload_n 0, 1), (689, .iload_n 3, 1), (690, .iconst 3, 1), (691, .iadd, 1), (692, .iaload, 1), (693, .ifCond .eq 7, 3), (696, .iconst 1, 1), (697, .goto 4, 3), (700, .iconst 0, 1), (701, .invokevirtual 80, 3), (704, .if_icmp .eq 299, 3), (707, .iconst 0, 1), (708, .ireturn, 1)]
theorem dk_L14 : ∀ q ∈ il_L14, decode cL_law q.1 = .ok (q.2.1, q.2.2) := by decide +kernel
theorem vl_script (a b c : Int32) (cf : Nat → Nat → Int32) (R : Nat → Int64) : ∃ v, (scS a b c cf R).1 = .int v := by
  unfold scS
  repeat' split
  all_goals exact ⟨_, rfl⟩
set_option maxRecDepth 100000 in
set_option maxHeartbeats 4000000 in
theorem lw_14 {X : Cx} {mn : String} {l : Launch} {E : EE} {P0 : Option Value → Wd → Prop} {mc0 ms0 nL0 : Nat} {il : List (Nat × Instr × Nat)} {ce sl : Nat} {lv : Nat → Option Value} {w : Wd} {sb Ln n b A T : Nat} {xs : Nat → Int32} (h0 : Ok X cL_law RL mn (some .boolean) il) (hq : Is X room_1 l E P0 mc0 ms0 nL0) (hce : ce ≤ 600000 ∧ sl ≤ 7302250) (hX : XA X sb Ln xs) (hL : Ln ≤ 3072) (hn : n + 6 ≤ Ln) (hv0 : lv 0 = some (.ref sb)) (hv1 : lv 1 = some (.ref b)) (hv2 : lv 2 = some (.ref A)) (hv3 : lv 3 = some (.int (nI n))) (hT : T ≤ 1000000000) (hI : LI E w b A T) (K : ∀ w2, LI E w2 b A (T + 200) → G X ce sl 1003 lv [] w2) : G X ce sl 650 lv [] w := by
  have h := ok_il h0 dk_L14
  obtain ⟨hlo, hLB, hLR, hbA, hB, hV⟩ := id hI
  obtain ⟨on, hon, hxo⟩ : ∃ on : Int32, (on = 0 ∨ on = 1) ∧ ((xs (n + 3) = 0 ∧ on = 0) ∨ (xs (n + 3) ≠ 0 ∧ on = 1)) := by
    by_cases e : xs (n + 3) = 0
    · exact ⟨0, Or.inl rfl, Or.inl ⟨e, rfl⟩⟩
    · exact ⟨1, Or.inr rfl, Or.inr ⟨e, rfl⟩⟩
  refine g_aload_n h (i := 0) rfl hv1 ?_
  refine g_xarg h hX hv0 hv3 hL 1 1 rfl rfl rfl rfl rfl (by rfl) (by omega) ?_
  refine g_xarg h hX hv0 hv3 hL 6 2 rfl rfl rfl rfl rfl (by rfl) (by omega) ?_
  refine g_xarg h hX hv0 hv3 hL 11 3 rfl rfl rfl rfl rfl (by rfl) (by omega) ?_
  refine g_bool h 16 673 674 hxo rfl rfl rfl rfl rfl rfl rfl ?_
  refine g_callVp (w0 := w) h hq (i := 20) rfl mv_L_76 cls9 hLB.1 (ct_X9_script l E w b (cfW w A) (wJ w (A + 1)) (xs (n + 1)) (xs (n + 2)) on hlo hLB hB hV.2.1.1 hV.1.2.2.2.2.2.2.2.2.1 hon) rfl rfl ⟨rfl, rfl, Nat.le_of_ble_eq_true rfl, Nat.le_of_ble_eq_true rfl⟩ (Nat.le_of_ble_eq_true rfl) hce (fun r1 w1 hp => ?_)
  obtain ⟨rfl, hF, hB1⟩ := hp
  obtain ⟨lo1, hA1, hL1, e1, e2⟩ := li_1 hI hF
  obtain ⟨v, hv⟩ := vl_script (xs (n + 1)) (xs (n + 2)) on (cfW w A) (wJ w (A + 1))
  rw [hv]
  refine g_aload_n h (i := 21) rfl hv2 ?_
  refine g_xarg h hX hv0 hv3 hL 22 1 rfl rfl rfl rfl rfl (by rfl) (by omega) ?_
  refine g_xarg h hX hv0 hv3 hL 27 2 rfl rfl rfl rfl rfl (by rfl) (by omega) ?_
  refine g_xarg h hX hv0 hv3 hL 32 3 rfl rfl rfl rfl rfl (by rfl) (by omega) ?_
  refine g_bool h 37 700 701 hxo rfl rfl rfl rfl rfl rfl rfl ?_
  refine g_w (sRow w1 A (wJ w (A + 1))) (by rw [← e2]; exact (sRow_self w1 A).symm) ?_
  refine g_callVp (w0 := sRow w1 A (wJ w (A + 1))) h hq (i := 41) rfl mv_L_80 cls10 (lk_R hA1) (ct_X10_script l E w1 A (wJ w (A + 1)) (xs (n + 1)) (xs (n + 2)) on lo1 hA1 (by have z := hV.1.2.2.2.2.2.2.2.2.1; rw [← e1] at z; exact z) hon) rfl rfl ⟨rfl, rfl, Nat.le_of_ble_eq_true rfl, Nat.le_of_ble_eq_true rfl⟩ (Nat.le_of_ble_eq_true rfl) hce (fun r2 w2 hp => ?_)
  obtain ⟨rfl, hR⟩ := hp
  rw [e1] at hR ⊢
  rw [hv]
  refine g_icmp_eq h (i := 42) 1003 rfl rfl (fun _ => ?_) (fun c => absurd rfl c)
  exact K _ (li_2 hI hF hB1 hR (iv_sc hV hon))
def il_L15 : List (Nat × Instr × Nat) := [(709, .aload_n 1, 1), (710, .aload_n 0, 1), (711, .iload_n 3, 1), (712, .iconst 1, 1), (713, .iadd, 1), (714, .iaload, 1), (715, .aload_n 0, 1), (716, .iload_n 3, 1), (717, .iconst 2, 1), (718, .iadd, 1), (719, .iaload, 1), (720, .ifCond .eq 7, 3), (723, .iconst 1, 1), (724, .goto 4, 3), (727, .iconst 0, 1), (728, .invokevirtual 81, 3), (731, .aload_n 2, 1), (732, .aload_n 0, 1), (733, .iload_n 3, 1), (734, .iconst 1, 1), (735, .iadd, 1), (736, .iaload, 1), (737, .aload_n 0, 1), (738, .iload_n 3, 1), (739, .iconst 2, 1), (740, .iadd, 1), (741, .iaload, 1), (742, .ifCond .eq 7, 3), (745, .iconst 1, 1), (746, .goto 4, 3), (749, .iconst 0, 1), (750, .invokevirtual 85, 3), (753, .if_icmp .eq 250, 3), (756, .iconst 0, 1), (757, .ireturn, 1)]
theorem dk_L15 : ∀ q ∈ il_L15, decode cL_law q.1 = .ok (q.2.1, q.2.2) := by decide +kernel
theorem vl_input (a b : Int32) (cf : Nat → Nat → Int32) (R : Nat → Int64) : ∃ v, (inS a b cf R).1 = .int v := by
  unfold inS
  repeat' split
  all_goals exact ⟨_, rfl⟩
set_option maxRecDepth 100000 in
set_option maxHeartbeats 4000000 in
theorem lw_15 {X : Cx} {mn : String} {l : Launch} {E : EE} {P0 : Option Value → Wd → Prop} {mc0 ms0 nL0 : Nat} {il : List (Nat × Instr × Nat)} {ce sl : Nat} {lv : Nat → Option Value} {w : Wd} {sb Ln n b A T : Nat} {xs : Nat → Int32} (h0 : Ok X cL_law RL mn (some .boolean) il) (hq : Is X room_1 l E P0 mc0 ms0 nL0) (hce : ce ≤ 600000 ∧ sl ≤ 7302250) (hX : XA X sb Ln xs) (hL : Ln ≤ 3072) (hn : n + 6 ≤ Ln) (hv0 : lv 0 = some (.ref sb)) (hv1 : lv 1 = some (.ref b)) (hv2 : lv 2 = some (.ref A)) (hv3 : lv 3 = some (.int (nI n))) (hT : T ≤ 1000000000) (hI : LI E w b A T) (K : ∀ w2, LI E w2 b A (T + 200) → G X ce sl 1003 lv [] w2) : G X ce sl 709 lv [] w := by
  have h := ok_il h0 dk_L15
  obtain ⟨hlo, hLB, hLR, hbA, hB, hV⟩ := id hI
  obtain ⟨on, hon, hxo⟩ : ∃ on : Int32, (on = 0 ∨ on = 1) ∧ ((xs (n + 2) = 0 ∧ on = 0) ∨ (xs (n + 2) ≠ 0 ∧ on = 1)) := by
    by_cases e : xs (n + 2) = 0
    · exact ⟨0, Or.inl rfl, Or.inl ⟨e, rfl⟩⟩
    · exact ⟨1, Or.inr rfl, Or.inr ⟨e, rfl⟩⟩
  refine g_aload_n h (i := 0) rfl hv1 ?_
  refine g_xarg h hX hv0 hv3 hL 1 1 rfl rfl rfl rfl rfl (by rfl) (by omega) ?_
  refine g_xarg h hX hv0 hv3 hL 6 2 rfl rfl rfl rfl rfl (by rfl) (by omega) ?_
  refine g_bool h 11 727 728 hxo rfl rfl rfl rfl rfl rfl rfl ?_
  refine g_callVp (w0 := w) h hq (i := 15) rfl mv_L_81 cls9 hLB.1 (ct_X9_input l E w b (cfW w A) (wJ w (A + 1)) (xs (n + 1)) on hlo hLB hB hV.2.1.1 hon) rfl rfl ⟨rfl, rfl, Nat.le_of_ble_eq_true rfl, Nat.le_of_ble_eq_true rfl⟩ (Nat.le_of_ble_eq_true rfl) hce (fun r1 w1 hp => ?_)
  obtain ⟨rfl, hF, hB1⟩ := hp
  obtain ⟨lo1, hA1, hL1, e1, e2⟩ := li_1 hI hF
  obtain ⟨v, hv⟩ := vl_input (xs (n + 1)) on (cfW w A) (wJ w (A + 1))
  rw [hv]
  refine g_aload_n h (i := 16) rfl hv2 ?_
  refine g_xarg h hX hv0 hv3 hL 17 1 rfl rfl rfl rfl rfl (by rfl) (by omega) ?_
  refine g_xarg h hX hv0 hv3 hL 22 2 rfl rfl rfl rfl rfl (by rfl) (by omega) ?_
  refine g_bool h 27 749 750 hxo rfl rfl rfl rfl rfl rfl rfl ?_
  refine g_w (sRow w1 A (wJ w (A + 1))) (by rw [← e2]; exact (sRow_self w1 A).symm) ?_
  refine g_callVp (w0 := sRow w1 A (wJ w (A + 1))) h hq (i := 31) rfl mv_L_85 cls10 (lk_R hA1) (ct_X10_input l E w1 A (wJ w (A + 1)) (xs (n + 1)) on lo1 hA1 ) rfl rfl ⟨rfl, rfl, Nat.le_of_ble_eq_true rfl, Nat.le_of_ble_eq_true rfl⟩ (Nat.le_of_ble_eq_true rfl) hce (fun r2 w2 hp => ?_)
  obtain ⟨rfl, hR⟩ := hp
  rw [e1] at hR ⊢
  rw [hv]
  refine g_icmp_eq h (i := 32) 1003 rfl rfl (fun _ => ?_) (fun c => absurd rfl c)
  exact K _ (li_2 hI hF hB1 hR (iv_in hV))
def il_L17 : List (Nat × Instr × Nat) := [(771, .aload_n 1, 1), (772, .aload_n 0, 1), (773, .iload_n 3, 1), (774, .iconst 1, 1), (775, .iadd, 1), (776, .iaload, 1), (777, .invokevirtual 90, 3), (780, .aload_n 2, 1), (781, .aload_n 0, 1), (782, .iload_n 3, 1), (783, .iconst 1, 1), (784, .iadd, 1), (785, .iaload, 1), (786, .invokevirtual 93, 3), (789, .if_icmp .eq 214, 3), (792, .iconst 0, 1), (793, .ireturn, 1)]
theorem dk_L17 : ∀ q ∈ il_L17, decode cL_law q.1 = .ok (q.2.1, q.2.2) := by decide +kernel
set_option maxRecDepth 100000 in
set_option maxHeartbeats 4000000 in
theorem lw_17 {X : Cx} {mn : String} {l : Launch} {E : EE} {P0 : Option Value → Wd → Prop} {mc0 ms0 nL0 : Nat} {il : List (Nat × Instr × Nat)} {ce sl : Nat} {lv : Nat → Option Value} {w : Wd} {sb Ln n b A T : Nat} {xs : Nat → Int32} (h0 : Ok X cL_law RL mn (some .boolean) il) (hq : Is X room_1 l E P0 mc0 ms0 nL0) (hce : ce ≤ 600000 ∧ sl ≤ 7302250) (hX : XA X sb Ln xs) (hL : Ln ≤ 3072) (hn : n + 6 ≤ Ln) (hv0 : lv 0 = some (.ref sb)) (hv1 : lv 1 = some (.ref b)) (hv2 : lv 2 = some (.ref A)) (hv3 : lv 3 = some (.int (nI n))) (hT : T < 1000000000) (hI : LI E w b A T) (K : ∀ w2, LI E w2 b A (T + 200) → G X ce sl 1003 lv [] w2) : G X ce sl 771 lv [] w := by
  have h := ok_il h0 dk_L17
  obtain ⟨hlo, hLB, hLR, hbA, hB, hV⟩ := id hI
  refine g_aload_n h (i := 0) rfl hv1 ?_
  refine g_xarg h hX hv0 hv3 hL 1 1 rfl rfl rfl rfl rfl (by rfl) (by omega) ?_
  refine g_callVp (w0 := w) h hq (i := 6) rfl mv_L_90 cls9 hLB.1 (ct_X9_tick l E w b (cfW w A) (wJ w (A + 1)) (xs (n + 1)) hlo hLB hB hV.2.1 hV.1 (isN_up hV.2.2.2.2 (Nat.le_of_lt hT))) rfl rfl ⟨rfl, rfl, Nat.le_of_ble_eq_true rfl, Nat.le_of_ble_eq_true rfl⟩ (Nat.le_of_ble_eq_true rfl) hce (fun r1 w1 hp => ?_)
  obtain ⟨rfl, hF, hB1⟩ := hp
  obtain ⟨lo1, hA1, hL1, e1, e2⟩ := li_1 hI hF
  refine g_aload_n h (i := 7) rfl hv2 ?_
  refine g_xarg h hX hv0 hv3 hL 8 1 rfl rfl rfl rfl rfl (by rfl) (by omega) ?_
  refine g_w (sRow w1 A (wJ w (A + 1))) (by rw [← e2]; exact (sRow_self w1 A).symm) ?_
  refine g_callVp (w0 := sRow w1 A (wJ w (A + 1))) h hq (i := 13) rfl mv_L_93 cls10 (lk_R hA1) (ct_X10_tick l E w1 A (wJ w (A + 1)) (xs (n + 1)) lo1 hA1 hV.2.1 (by rw [e1]; exact hV.1)) rfl rfl ⟨rfl, rfl, Nat.le_of_ble_eq_true rfl, Nat.le_of_ble_eq_true rfl⟩ (Nat.le_of_ble_eq_true rfl) hce (fun r2 w2 hp => ?_)
  obtain ⟨w3, hRS, rfl, rfl⟩ := hp
  have hR := ri_RS (r := (tickA (cfW w1 A) (xs (n + 1)) (wJ w (A + 1))).2) hRS
  rw [e1] at hR ⊢
  refine g_icmp_eq h (i := 14) 1003 rfl rfl (fun _ => ?_) (fun c => absurd rfl c)
  exact K _ (li_2 hI hF hB1 hR (iv_tk hV hT))
def il_L18 : List (Nat × Instr × Nat) := [(794, .aload_n 1, 1), (795, .invokevirtual 94, 3), (798, .aload_n 2, 1), (799, .invokevirtual 97, 3), (802, .if_icmp .eq 201, 3), (805, .iconst 0, 1), (806, .ireturn, 1)]
theorem dk_L18 : ∀ q ∈ il_L18, decode cL_law q.1 = .ok (q.2.1, q.2.2) := by decide +kernel
set_option maxRecDepth 100000 in
set_option maxHeartbeats 4000000 in
theorem lw_18 {X : Cx} {mn : String} {l : Launch} {E : EE} {P0 : Option Value → Wd → Prop} {mc0 ms0 nL0 : Nat} {il : List (Nat × Instr × Nat)} {ce sl : Nat} {lv : Nat → Option Value} {w : Wd} {sb Ln n b A T : Nat} {xs : Nat → Int32} (h0 : Ok X cL_law RL mn (some .boolean) il) (hq : Is X room_1 l E P0 mc0 ms0 nL0) (hce : ce ≤ 600000 ∧ sl ≤ 7302250) (hX : XA X sb Ln xs) (hL : Ln ≤ 3072) (hn : n + 6 ≤ Ln) (hv0 : lv 0 = some (.ref sb)) (hv1 : lv 1 = some (.ref b)) (hv2 : lv 2 = some (.ref A)) (hv3 : lv 3 = some (.int (nI n))) (hT : T ≤ 1000000000) (hI : LI E w b A T) (K : ∀ w2, LI E w2 b A (T + 200) → G X ce sl 1003 lv [] w2) : G X ce sl 794 lv [] w := by
  have h := ok_il h0 dk_L18
  obtain ⟨hlo, hLB, hLR, hbA, hB, hV⟩ := id hI
  refine g_aload_n h (i := 0) rfl hv1 ?_
  refine g_callVp (w0 := w) h hq (i := 1) rfl mv_L_94 cls9 hLB.1 (ct_X9_stop l E w b (cfW w A) (wJ w (A + 1))  hlo hLB hB hV.2.1.1) rfl rfl ⟨rfl, rfl, Nat.le_of_ble_eq_true rfl, Nat.le_of_ble_eq_true rfl⟩ (Nat.le_of_ble_eq_true rfl) hce (fun r1 w1 hp => ?_)
  obtain ⟨rfl, hF, hB1⟩ := hp
  obtain ⟨lo1, hA1, hL1, e1, e2⟩ := li_1 hI hF
  have hs : spS (cfW w A) (wJ w (A + 1)) = (.int (if wJ w (A + 1) 28 = 1 then 1 else -3), cfW w A, if wJ w (A + 1) 28 = 1 then stopR (wJ w (A + 1)) else wJ w (A + 1)) := by
    unfold spS
    by_cases e : wJ w (A + 1) 28 = 1
    · rw [if_pos e, if_pos e, if_pos e]
    · rw [if_neg e, if_neg e, if_neg e]
  have hV2 := iv_sp hV
  rw [hs] at hB1 hV2 ⊢
  refine g_aload_n h (i := 2) rfl hv2 ?_
  refine g_w (sRow w1 A (wJ w (A + 1))) (by rw [← e2]; exact (sRow_self w1 A).symm) ?_
  refine g_callVp (w0 := sRow w1 A (wJ w (A + 1))) h hq (i := 3) rfl mv_L_97 cls10 (lk_R hA1) (ct_X10_stop l E w1 A (wJ w (A + 1))  lo1 hA1 ) rfl rfl ⟨rfl, rfl, Nat.le_of_ble_eq_true rfl, Nat.le_of_ble_eq_true rfl⟩ (Nat.le_of_ble_eq_true rfl) hce (fun r2 w2 hp => ?_)
  obtain ⟨rfl, ew2⟩ := hp
  have hR : RI A w1 (cfW w1 A) (if wJ w (A + 1) 28 = 1 then stopR (wJ w (A + 1)) else wJ w (A + 1)) w2 := by rw [ew2]; exact ri_0
  rw [e1] at hR
  refine g_icmp_eq h (i := 4) 1003 rfl rfl (fun _ => ?_) (fun c => absurd rfl c)
  exact K _ (li_2 hI hF hB1 hR hV2)
def il_L19 : List (Nat × Instr × Nat) := [(807, .aload_n 1, 1), (808, .aload_n 0, 1), (809, .iload_n 3, 1), (810, .iconst 1, 1), (811, .iadd, 1), (812, .iaload, 1), (813, .invokevirtual 98, 3), (816, .aload_n 2, 1), (817, .aload_n 0, 1), (818, .iload_n 3, 1), (819, .iconst 1, 1), (820, .iadd, 1), (821, .iaload, 1), (822, .invokevirtual 101, 3), (825, .if_icmp .eq 178, 3), (828, .iconst 0, 1), (829, .ireturn, 1)]
theorem dk_L19 : ∀ q ∈ il_L19, decode cL_law q.1 = .ok (q.2.1, q.2.2) := by decide +kernel
set_option maxRecDepth 100000 in
set_option maxHeartbeats 4000000 in
theorem lw_19 {X : Cx} {mn : String} {l : Launch} {E : EE} {P0 : Option Value → Wd → Prop} {mc0 ms0 nL0 : Nat} {il : List (Nat × Instr × Nat)} {ce sl : Nat} {lv : Nat → Option Value} {w : Wd} {sb Ln n b A T : Nat} {xs : Nat → Int32} (h0 : Ok X cL_law RL mn (some .boolean) il) (hq : Is X room_1 l E P0 mc0 ms0 nL0) (hce : ce ≤ 600000 ∧ sl ≤ 7302250) (hX : XA X sb Ln xs) (hL : Ln ≤ 3072) (hn : n + 6 ≤ Ln) (hv0 : lv 0 = some (.ref sb)) (hv1 : lv 1 = some (.ref b)) (hv2 : lv 2 = some (.ref A)) (hv3 : lv 3 = some (.int (nI n))) (hT : T ≤ 1000000000) (hI : LI E w b A T) (K : ∀ w2, LI E w2 b A (T + 200) → G X ce sl 1003 lv [] w2) : G X ce sl 807 lv [] w := by
  have h := ok_il h0 dk_L19
  obtain ⟨hlo, hLB, hLR, hbA, hB, hV⟩ := id hI
  refine g_aload_n h (i := 0) rfl hv1 ?_
  refine g_xarg h hX hv0 hv3 hL 1 1 rfl rfl rfl rfl rfl (by rfl) (by omega) ?_
  refine g_callVp (w0 := w) h hq (i := 6) rfl mv_L_98 cls9 hLB.1 (ct_X9_about l E w b (cfW w A) (wJ w (A + 1)) (xs (n + 1)) hlo hLB hB) rfl rfl ⟨rfl, rfl, Nat.le_of_ble_eq_true rfl, Nat.le_of_ble_eq_true rfl⟩ (Nat.le_of_ble_eq_true rfl) hce (fun r1 w1 hp => ?_)
  obtain ⟨rfl, ew⟩ := hp
  have hF : BF b w w1 := by rw [ew]; exact bf_0
  have hB1 : RepB w1 b (cfW w A) (wJ w (A + 1)) := by rw [ew]; exact hB
  obtain ⟨lo1, hA1, hL1, e1, e2⟩ := li_1 hI hF
  refine g_aload_n h (i := 7) rfl hv2 ?_
  refine g_xarg h hX hv0 hv3 hL 8 1 rfl rfl rfl rfl rfl (by rfl) (by omega) ?_
  refine g_w (sRow w1 A (wJ w (A + 1))) (by rw [← e2]; exact (sRow_self w1 A).symm) ?_
  refine g_callVp (w0 := sRow w1 A (wJ w (A + 1))) h hq (i := 13) rfl mv_L_101 cls10 (lk_R hA1) (ct_X10_about l E w1 A (wJ w (A + 1)) (xs (n + 1)) lo1 hA1 ) rfl rfl ⟨rfl, rfl, Nat.le_of_ble_eq_true rfl, Nat.le_of_ble_eq_true rfl⟩ (Nat.le_of_ble_eq_true rfl) hce (fun r2 w2 hp => ?_)
  obtain ⟨rfl, hR⟩ := hp
  rw [e1] at hR ⊢
  refine g_icmp_eq h (i := 14) 1003 rfl rfl (fun _ => ?_) (fun c => absurd rfl c)
  exact K _ (li_2 hI hF hB1 hR (inv_up hV (by omega)))
def il_L20 : List (Nat × Instr × Nat) := [(830, .aload_n 1, 1), (831, .aload_n 0, 1), (832, .iload_n 3, 1), (833, .iconst 1, 1), (834, .iadd, 1), (835, .iaload, 1), (836, .aload_n 0, 1), (837, .iload_n 3, 1), (838, .iconst 2, 1), (839, .iadd, 1), (840, .iaload, 1), (841, .invokevirtual 102, 3), (844, .aload_n 2, 1), (845, .aload_n 0, 1), (846, .iload_n 3, 1), (847, .iconst 1, 1), (848, .iadd, 1), (849, .iaload, 1), (850, .aload_n 0, 1), (851, .iload_n 3, 1), (852, .iconst 2, 1), (853, .iadd, 1), (854, .iaload, 1), (855, .invokevirtual 105, 3), (858, .if_icmp .eq 145, 3), (861, .iconst 0, 1), (862, .ireturn, 1)]
theorem dk_L20 : ∀ q ∈ il_L20, decode cL_law q.1 = .ok (q.2.1, q.2.2) := by decide +kernel
set_option maxRecDepth 100000 in
set_option maxHeartbeats 4000000 in
theorem lw_20 {X : Cx} {mn : String} {l : Launch} {E : EE} {P0 : Option Value → Wd → Prop} {mc0 ms0 nL0 : Nat} {il : List (Nat × Instr × Nat)} {ce sl : Nat} {lv : Nat → Option Value} {w : Wd} {sb Ln n b A T : Nat} {xs : Nat → Int32} (h0 : Ok X cL_law RL mn (some .boolean) il) (hq : Is X room_1 l E P0 mc0 ms0 nL0) (hce : ce ≤ 600000 ∧ sl ≤ 7302250) (hX : XA X sb Ln xs) (hL : Ln ≤ 3072) (hn : n + 6 ≤ Ln) (hv0 : lv 0 = some (.ref sb)) (hv1 : lv 1 = some (.ref b)) (hv2 : lv 2 = some (.ref A)) (hv3 : lv 3 = some (.int (nI n))) (hT : T ≤ 1000000000) (hI : LI E w b A T) (K : ∀ w2, LI E w2 b A (T + 200) → G X ce sl 1003 lv [] w2) : G X ce sl 830 lv [] w := by
  have h := ok_il h0 dk_L20
  obtain ⟨hlo, hLB, hLR, hbA, hB, hV⟩ := id hI
  refine g_aload_n h (i := 0) rfl hv1 ?_
  refine g_xarg h hX hv0 hv3 hL 1 1 rfl rfl rfl rfl rfl (by rfl) (by omega) ?_
  refine g_xarg h hX hv0 hv3 hL 6 2 rfl rfl rfl rfl rfl (by rfl) (by omega) ?_
  refine g_callVp (w0 := w) h hq (i := 11) rfl mv_L_102 cls9 hLB.1 (ct_X9_at l E w b (cfW w A) (wJ w (A + 1)) (xs (n + 1)) (xs (n + 2)) hlo hLB hB hV.2.1.1) rfl rfl ⟨rfl, rfl, Nat.le_of_ble_eq_true rfl, Nat.le_of_ble_eq_true rfl⟩ (Nat.le_of_ble_eq_true rfl) hce (fun r1 w1 hp => ?_)
  obtain ⟨rfl, ew⟩ := hp
  have hF : BF b w w1 := by rw [ew]; exact bf_0
  have hB1 : RepB w1 b (cfW w A) (wJ w (A + 1)) := by rw [ew]; exact hB
  obtain ⟨lo1, hA1, hL1, e1, e2⟩ := li_1 hI hF
  refine g_aload_n h (i := 12) rfl hv2 ?_
  refine g_xarg h hX hv0 hv3 hL 13 1 rfl rfl rfl rfl rfl (by rfl) (by omega) ?_
  refine g_xarg h hX hv0 hv3 hL 18 2 rfl rfl rfl rfl rfl (by rfl) (by omega) ?_
  refine g_w (sRow w1 A (wJ w (A + 1))) (by rw [← e2]; exact (sRow_self w1 A).symm) ?_
  refine g_callVp (w0 := sRow w1 A (wJ w (A + 1))) h hq (i := 23) rfl mv_L_105 cls10 (lk_R hA1) (ct_X10_at l E w1 A (wJ w (A + 1)) (xs (n + 1)) (xs (n + 2)) lo1 hA1 ) rfl rfl ⟨rfl, rfl, Nat.le_of_ble_eq_true rfl, Nat.le_of_ble_eq_true rfl⟩ (Nat.le_of_ble_eq_true rfl) hce (fun r2 w2 hp => ?_)
  obtain ⟨rfl, ew2⟩ := hp
  have hR : RI A w1 (cfW w1 A) (wJ w (A + 1)) w2 := by rw [ew2]; exact ri_0
  rw [e1] at hR
  refine g_icmp_eq h (i := 24) 1003 rfl rfl (fun _ => ?_) (fun c => absurd rfl c)
  exact K _ (li_2 hI hF hB1 hR (inv_up hV (by omega)))
def il_L25 : List (Nat × Instr × Nat) := [(966, .aload_n 1, 1), (967, .aload_n 0, 1), (968, .iload_n 3, 1), (969, .iconst 1, 1), (970, .iadd, 1), (971, .iaload, 1), (972, .invokevirtual 122, 3), (975, .aload_n 2, 1), (976, .aload_n 0, 1), (977, .iload_n 3, 1), (978, .iconst 1, 1), (979, .iadd, 1), (980, .iaload, 1), (981, .invokevirtual 125, 3), (984, .if_icmp .eq 19, 3), (987, .iconst 0, 1), (988, .ireturn, 1)]
theorem dk_L25 : ∀ q ∈ il_L25, decode cL_law q.1 = .ok (q.2.1, q.2.2) := by decide +kernel
set_option maxRecDepth 100000 in
set_option maxHeartbeats 4000000 in
theorem lw_25 {X : Cx} {mn : String} {l : Launch} {E : EE} {P0 : Option Value → Wd → Prop} {mc0 ms0 nL0 : Nat} {il : List (Nat × Instr × Nat)} {ce sl : Nat} {lv : Nat → Option Value} {w : Wd} {sb Ln n b A T : Nat} {xs : Nat → Int32} (h0 : Ok X cL_law RL mn (some .boolean) il) (hq : Is X room_1 l E P0 mc0 ms0 nL0) (hce : ce ≤ 600000 ∧ sl ≤ 7302250) (hX : XA X sb Ln xs) (hL : Ln ≤ 3072) (hn : n + 6 ≤ Ln) (hv0 : lv 0 = some (.ref sb)) (hv1 : lv 1 = some (.ref b)) (hv2 : lv 2 = some (.ref A)) (hv3 : lv 3 = some (.int (nI n))) (hT : T ≤ 1000000000) (hI : LI E w b A T) (K : ∀ w2, LI E w2 b A (T + 200) → G X ce sl 1003 lv [] w2) : G X ce sl 966 lv [] w := by
  have h := ok_il h0 dk_L25
  obtain ⟨hlo, hLB, hLR, hbA, hB, hV⟩ := id hI
  refine g_aload_n h (i := 0) rfl hv1 ?_
  refine g_xarg h hX hv0 hv3 hL 1 1 rfl rfl rfl rfl rfl (by rfl) (by omega) ?_
  refine g_callVp (w0 := w) h hq (i := 6) rfl mv_L_122 cls9 hLB.1 (ct_X9_count l E w b (cfW w A) (wJ w (A + 1)) (xs (n + 1)) hlo hLB hB) rfl rfl ⟨rfl, rfl, Nat.le_of_ble_eq_true rfl, Nat.le_of_ble_eq_true rfl⟩ (Nat.le_of_ble_eq_true rfl) hce (fun r1 w1 hp => ?_)
  obtain ⟨rfl, ew⟩ := hp
  have hF : BF b w w1 := by rw [ew]; exact bf_0
  have hB1 : RepB w1 b (cfW w A) (wJ w (A + 1)) := by rw [ew]; exact hB
  obtain ⟨lo1, hA1, hL1, e1, e2⟩ := li_1 hI hF
  refine g_aload_n h (i := 7) rfl hv2 ?_
  refine g_xarg h hX hv0 hv3 hL 8 1 rfl rfl rfl rfl rfl (by rfl) (by omega) ?_
  refine g_w (sRow w1 A (wJ w (A + 1))) (by rw [← e2]; exact (sRow_self w1 A).symm) ?_
  refine g_callVp (w0 := sRow w1 A (wJ w (A + 1))) h hq (i := 13) rfl mv_L_125 cls10 (lk_R hA1) (ct_X10_count l E w1 A (wJ w (A + 1)) (xs (n + 1)) lo1 hA1 ) rfl rfl ⟨rfl, rfl, Nat.le_of_ble_eq_true rfl, Nat.le_of_ble_eq_true rfl⟩ (Nat.le_of_ble_eq_true rfl) hce (fun r2 w2 hp => ?_)
  obtain ⟨rfl, ew2⟩ := hp
  have hR : RI A w1 (cfW w1 A) (wJ w (A + 1)) w2 := by rw [ew2]; exact ri_0
  rw [e1] at hR ⊢
  refine g_icmp_eq h (i := 14) 1003 rfl rfl (fun _ => ?_) (fun c => absurd rfl c)
  exact K _ (li_2 hI hF hB1 hR (inv_up hV (by omega)))
def il_L26 : List (Nat × Instr × Nat) := [(989, .aload_n 1, 1), (990, .invokevirtual 126, 3), (993, .aload_n 2, 1), (994, .invokevirtual 130, 3), (997, .lcmp, 1), (998, .ifCond .eq 5, 3), (1001, .iconst 0, 1), (1002, .ireturn, 1)]
theorem dk_L26 : ∀ q ∈ il_L26, decode cL_law q.1 = .ok (q.2.1, q.2.2) := by decide +kernel
set_option maxRecDepth 100000 in
set_option maxHeartbeats 4000000 in
theorem lw_26 {X : Cx} {mn : String} {l : Launch} {E : EE} {P0 : Option Value → Wd → Prop} {mc0 ms0 nL0 : Nat} {il : List (Nat × Instr × Nat)} {ce sl : Nat} {lv : Nat → Option Value} {w : Wd} {sb Ln n b A T : Nat} {xs : Nat → Int32} (h0 : Ok X cL_law RL mn (some .boolean) il) (hq : Is X room_1 l E P0 mc0 ms0 nL0) (hce : ce ≤ 600000 ∧ sl ≤ 7302250) (hX : XA X sb Ln xs) (hL : Ln ≤ 3072) (hn : n + 6 ≤ Ln) (hv0 : lv 0 = some (.ref sb)) (hv1 : lv 1 = some (.ref b)) (hv2 : lv 2 = some (.ref A)) (hv3 : lv 3 = some (.int (nI n))) (hT : T ≤ 1000000000) (hI : LI E w b A T) (K : ∀ w2, LI E w2 b A (T + 200) → G X ce sl 1003 lv [] w2) : G X ce sl 989 lv [] w := by
  have h := ok_il h0 dk_L26
  obtain ⟨hlo, hLB, hLR, hbA, hB, hV⟩ := id hI
  refine g_aload_n h (i := 0) rfl hv1 ?_
  refine g_callVp (w0 := w) h hq (i := 1) rfl mv_L_126 cls9 hLB.1 (ct_X9_digest l E w b (cfW w A) (wJ w (A + 1))  hlo hLB hB hV.2.1.1 hV.1.1) rfl rfl ⟨rfl, rfl, Nat.le_of_ble_eq_true rfl, Nat.le_of_ble_eq_true rfl⟩ (Nat.le_of_ble_eq_true rfl) hce (fun r1 w1 hp => ?_)
  obtain ⟨rfl, hF, hB1⟩ := hp
  obtain ⟨lo1, hA1, hL1, e1, e2⟩ := li_1 hI hF
  refine g_aload_n h (i := 2) rfl hv2 ?_
  refine g_w (sRow w1 A (wJ w (A + 1))) (by rw [← e2]; exact (sRow_self w1 A).symm) ?_
  refine g_callVp (w0 := sRow w1 A (wJ w (A + 1))) h hq (i := 3) rfl mv_L_130 cls10 (lk_R hA1) (ct_X10_digest l E w1 A (wJ w (A + 1))  lo1 hA1 hV.2.1.1 (by rw [e1]; exact hV.1.1)) rfl rfl ⟨rfl, rfl, Nat.le_of_ble_eq_true rfl, Nat.le_of_ble_eq_true rfl⟩ (Nat.le_of_ble_eq_true rfl) hce (fun r2 w2 hp => ?_)
  obtain ⟨rfl, hR⟩ := hp
  rw [e1] at hR ⊢
  refine g_lcmp h (i := 4) rfl ?_
  refine g_if_eq h (i := 5) 1003 rfl rfl (fun _ => ?_) (fun c => absurd (lcmp_self _) c)
  exact K _ (li_2 hI hF hB1 hR (inv_up hV (by omega)))
