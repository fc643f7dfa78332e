def il_Lh : List (Nat × Instr × Nat) := [(18, .iload_n 3, 1), (19, .aload_n 0, 1), (20, .arraylength, 1), (21, .bipush 6, 2), (23, .isub, 1), (24, .if_icmp .gt 985, 3), (27, .aload_n 0, 1), (28, .iload_n 3, 1), (29, .iaload, 1), (30, .bipush 31, 2), (32, .iand, 1), (33, .tableswitch 970 0 26 #[123, 186, 229, 262, 285, 309, 333, 396, 419, 442, 475, 508, 561, 604, 617, 676, 725, 738, 761, 774, 797, 830, 854, 877, 900, 933, 956], 123)]
theorem dk_Lh : ∀ q ∈ il_Lh, decode cL_law q.1 = .ok (q.2.1, q.2.2) := by decide +kernel
def il_Lt : List (Nat × Instr × Nat) := [(1003, .iinc 3 6, 3), (1006, .goto (-988), 3), (1009, .iconst 1, 1), (1010, .ireturn, 1)]
theorem dk_Lt : ∀ q ∈ il_Lt, decode cL_law q.1 = .ok (q.2.1, q.2.2) := by decide +kernel
set_option maxRecDepth 100000 in
set_option maxHeartbeats 4000000 in
/-- from the switch to the next round -/
theorem lw_sw {X : Cx} {mn : String} {l : Launch} {E : EE} {P0 : Option Value → Wd → Prop} {mc0 ms0 nL0 : Nat} {il : List (Nat × Instr × Nat)} {ce sl : Nat} {w : Wd} {sb Ln n b A T : Nat} {xs : Nat → Int32} {x : Int32} (h0 : Ok X cL_law RL mn (some .boolean) il) (hq : Is X room_1 l E P0 mc0 ms0 nL0) (hce : ce ≤ 600000 ∧ sl ≤ 7302250) (hX : XA X sb Ln xs) (hL : Ln ≤ 3072) (hn : n + 6 ≤ Ln) (hT : T < 1000000000) (hI : LI E w b A T) (K : ∀ w2, LI E w2 b A (T + 200) → G X ce sl 1003 (lf [(0, .ref sb), (1, .ref b), (2, .ref A), (3, .int (nI n))]) [] w2) : G X ce sl 33 (lf [(0, .ref sb), (1, .ref b), (2, .ref A), (3, .int (nI n))]) [.int x] w := by
  have hh := ok_il h0 dk_Lh
  by_cases hr : x.toInt < 0 ∨ 26 < x.toInt
  · refine g_tout hh (i := 11) 1003 rfl hr rfl ?_
    obtain ⟨a1, a2, a3, a4, a5, a6⟩ := hI
    exact K w ⟨a1, a2, a3, a4, a5, inv_up a6 (by omega)⟩
  · have h1 : ¬ x.toInt < 0 := fun z => hr (Or.inl z)
    have h2 : ¬ 26 < x.toInt := fun z => hr (Or.inr z)
    have hm : x.toInt.toNat = 0 ∨ x.toInt.toNat = 1 ∨ x.toInt.toNat = 2 ∨ x.toInt.toNat = 3 ∨ x.toInt.toNat = 4 ∨ x.toInt.toNat = 5 ∨ x.toInt.toNat = 6 ∨ x.toInt.toNat = 7 ∨ x.toInt.toNat = 8 ∨ x.toInt.toNat = 9 ∨ x.toInt.toNat = 10 ∨ x.toInt.toNat = 11 ∨ x.toInt.toNat = 12 ∨ x.toInt.toNat = 13 ∨ x.toInt.toNat = 14 ∨ x.toInt.toNat = 15 ∨ x.toInt.toNat = 16 ∨ x.toInt.toNat = 17 ∨ x.toInt.toNat = 18 ∨ x.toInt.toNat = 19 ∨ x.toInt.toNat = 20 ∨ x.toInt.toNat = 21 ∨ x.toInt.toNat = 22 ∨ x.toInt.toNat = 23 ∨ x.toInt.toNat = 24 ∨ x.toInt.toNat = 25 ∨ x.toInt.toNat = 26 := by omega
    clear hr
    rcases hm with hm | hm | hm | hm | hm | hm | hm | hm | hm | hm | hm | hm | hm | hm | hm | hm | hm | hm | hm | hm | hm | hm | hm | hm | hm | hm | hm
    · refine g_tin hh (i := 11) (off := 123) 156 rfl h1 h2 (by rw [show (x.toInt - 0).toNat = 0 by omega]; rfl) rfl ?_
      exact lw_0 h0 hq hce hX hL hn rfl rfl rfl rfl (by omega) hI K
    · refine g_tin hh (i := 11) (off := 186) 219 rfl h1 h2 (by rw [show (x.toInt - 0).toNat = 1 by omega]; rfl) rfl ?_
      exact lw_1 h0 hq hce hX hL hn rfl rfl rfl rfl (by omega) hI K
    · refine g_tin hh (i := 11) (off := 229) 262 rfl h1 h2 (by rw [show (x.toInt - 0).toNat = 2 by omega]; rfl) rfl ?_
      exact lw_2 h0 hq hce hX hL hn rfl rfl rfl rfl (by omega) hI K
    · refine g_tin hh (i := 11) (off := 262) 295 rfl h1 h2 (by rw [show (x.toInt - 0).toNat = 3 by omega]; rfl) rfl ?_
      exact lw_3 h0 hq hce hX hL hn rfl rfl rfl rfl (by omega) hI K
    · refine g_tin hh (i := 11) (off := 285) 318 rfl h1 h2 (by rw [show (x.toInt - 0).toNat = 4 by omega]; rfl) rfl ?_
      exact lw_4 h0 hq hce hX hL hn rfl rfl rfl rfl (by omega) hI K
    · refine g_tin hh (i := 11) (off := 309) 342 rfl h1 h2 (by rw [show (x.toInt - 0).toNat = 5 by omega]; rfl) rfl ?_
      exact lw_5 h0 hq hce hX hL hn rfl rfl rfl rfl (by omega) hI K
    · refine g_tin hh (i := 11) (off := 333) 366 rfl h1 h2 (by rw [show (x.toInt - 0).toNat = 6 by omega]; rfl) rfl ?_
      exact lw_6 h0 hq hce hX hL hn rfl rfl rfl rfl (by omega) hI K
    · refine g_tin hh (i := 11) (off := 396) 429 rfl h1 h2 (by rw [show (x.toInt - 0).toNat = 7 by omega]; rfl) rfl ?_
      exact lw_7 h0 hq hce hX hL hn rfl rfl rfl rfl (by omega) hI K
    · refine g_tin hh (i := 11) (off := 419) 452 rfl h1 h2 (by rw [show (x.toInt - 0).toNat = 8 by omega]; rfl) rfl ?_
      exact lw_8 h0 hq hce hX hL hn rfl rfl rfl rfl (by omega) hI K
    · refine g_tin hh (i := 11) (off := 442) 475 rfl h1 h2 (by rw [show (x.toInt - 0).toNat = 9 by omega]; rfl) rfl ?_
      exact lw_9 h0 hq hce hX hL hn rfl rfl rfl rfl (by omega) hI K
    · refine g_tin hh (i := 11) (off := 475) 508 rfl h1 h2 (by rw [show (x.toInt - 0).toNat = 10 by omega]; rfl) rfl ?_
      exact lw_10 h0 hq hce hX hL hn rfl rfl rfl rfl (by omega) hI K
    · refine g_tin hh (i := 11) (off := 508) 541 rfl h1 h2 (by rw [show (x.toInt - 0).toNat = 11 by omega]; rfl) rfl ?_
      exact lw_11 h0 hq hce hX hL hn rfl rfl rfl rfl (by omega) hI K
    · refine g_tin hh (i := 11) (off := 561) 594 rfl h1 h2 (by rw [show (x.toInt - 0).toNat = 12 by omega]; rfl) rfl ?_
      exact lw_12 h0 hq hce hX hL hn rfl rfl rfl rfl (by omega) hI K
    · refine g_tin hh (i := 11) (off := 604) 637 rfl h1 h2 (by rw [show (x.toInt - 0).toNat = 13 by omega]; rfl) rfl ?_
      exact lw_13 h0 hq hce hX hL hn rfl rfl rfl rfl (by omega) hI K
    · refine g_tin hh (i := 11) (off := 617) 650 rfl h1 h2 (by rw [show (x.toInt - 0).toNat = 14 by omega]; rfl) rfl ?_
      exact lw_14 h0 hq hce hX hL hn rfl rfl rfl rfl (by omega) hI K
    · refine g_tin hh (i := 11) (off := 676) 709 rfl h1 h2 (by rw [show (x.toInt - 0).toNat = 15 by omega]; rfl) rfl ?_
      exact lw_15 h0 hq hce hX hL hn rfl rfl rfl rfl (by omega) hI K
    · refine g_tin hh (i := 11) (off := 725) 758 rfl h1 h2 (by rw [show (x.toInt - 0).toNat = 16 by omega]; rfl) rfl ?_
      exact lw_16 h0 hq hce hX hL hn rfl rfl rfl rfl (by omega) hI K
    · refine g_tin hh (i := 11) (off := 738) 771 rfl h1 h2 (by rw [show (x.toInt - 0).toNat = 17 by omega]; rfl) rfl ?_
      exact lw_17 h0 hq hce hX hL hn rfl rfl rfl rfl (by omega) hI K
    · refine g_tin hh (i := 11) (off := 761) 794 rfl h1 h2 (by rw [show (x.toInt - 0).toNat = 18 by omega]; rfl) rfl ?_
      exact lw_18 h0 hq hce hX hL hn rfl rfl rfl rfl (by omega) hI K
    · refine g_tin hh (i := 11) (off := 774) 807 rfl h1 h2 (by rw [show (x.toInt - 0).toNat = 19 by omega]; rfl) rfl ?_
      exact lw_19 h0 hq hce hX hL hn rfl rfl rfl rfl (by omega) hI K
    · refine g_tin hh (i := 11) (off := 797) 830 rfl h1 h2 (by rw [show (x.toInt - 0).toNat = 20 by omega]; rfl) rfl ?_
      exact lw_20 h0 hq hce hX hL hn rfl rfl rfl rfl (by omega) hI K
    · refine g_tin hh (i := 11) (off := 830) 863 rfl h1 h2 (by rw [show (x.toInt - 0).toNat = 21 by omega]; rfl) rfl ?_
      exact lw_21 h0 hq hce hX hL hn rfl rfl rfl rfl (by omega) hI K
    · refine g_tin hh (i := 11) (off := 854) 887 rfl h1 h2 (by rw [show (x.toInt - 0).toNat = 22 by omega]; rfl) rfl ?_
      exact lw_22 h0 hq hce hX hL hn rfl rfl rfl rfl (by omega) hI K
    · refine g_tin hh (i := 11) (off := 877) 910 rfl h1 h2 (by rw [show (x.toInt - 0).toNat = 23 by omega]; rfl) rfl ?_
      exact lw_23 h0 hq hce hX hL hn rfl rfl rfl rfl (by omega) hI K
    · refine g_tin hh (i := 11) (off := 900) 933 rfl h1 h2 (by rw [show (x.toInt - 0).toNat = 24 by omega]; rfl) rfl ?_
      exact lw_24 h0 hq hce hX hL hn rfl rfl rfl rfl (by omega) hI K
    · refine g_tin hh (i := 11) (off := 933) 966 rfl h1 h2 (by rw [show (x.toInt - 0).toNat = 25 by omega]; rfl) rfl ?_
      exact lw_25 h0 hq hce hX hL hn rfl rfl rfl rfl (by omega) hI K
    · refine g_tin hh (i := 11) (off := 956) 989 rfl h1 h2 (by rw [show (x.toInt - 0).toNat = 26 by omega]; rfl) rfl ?_
      exact lw_26 h0 hq hce hX hL hn rfl rfl rfl rfl (by omega) hI K
theorem lw_lt {Ln n : Nat} (hL : Ln ≤ 3072) (hn : n ≤ 3072) (h : ¬ nI Ln - nI 6 < nI n) : n + 6 ≤ Ln := by
  have e1 := nIT (n := Ln) (by omega)
  have e2 := nIT (n := 6) (by omega)
  have e3 := nIT (n := n) (by omega)
  have e4 := i_sub (x := nI Ln) (y := nI 6) (by omega) (by omega)
  rw [i32lt, e4, e1, e2, e3] at h
  omega
set_option maxRecDepth 100000 in
set_option maxHeartbeats 4000000 in
/-- the law's loop -/
theorem lw_loop {X : Cx} {mn : String} {l : Launch} {E : EE} {P0 : Option Value → Wd → Prop} {mc0 ms0 : Nat} {il : List (Nat × Instr × Nat)} {ce sl : Nat} {sb Ln b A : Nat} {xs : Nat → Int32} (h0 : Ok X cL_law RL mn (some .boolean) il) (hq : Is X room_1 l E P0 mc0 ms0 4) (hce : ce ≤ 600000 ∧ sl ≤ 7302250) (hX : XA X sb Ln xs) (hL : Ln ≤ 3072) (hend : ∀ w lv, G X ce sl 1009 lv [] w) : ∀ (d n T : Nat) (w : Wd), Ln ≤ n + d → n ≤ 3072 → T ≤ 200 * n → LI E w b A T → G X ce sl 18 (lf [(0, .ref sb), (1, .ref b), (2, .ref A), (3, .int (nI n))]) [] w := by
  have hh := ok_il h0 dk_Lh
  have ht := ok_il h0 dk_Lt
  intro d
  induction d with
  | zero =>
    intro n T w hd hn3 hT hI
    refine g_iload_n hh (i := 0) rfl rfl ?_
    refine g_aload_n hh (i := 1) rfl rfl ?_
    refine g_xlen hh hX (i := 2) rfl ?_
    refine g_bipush hh (i := 3) rfl (v := nI 6) (by rfl) ?_
    refine g_isub hh (i := 4) rfl ?_
    refine g_icmp_gt hh (i := 5) 1009 rfl rfl (fun _ => hend w _) (fun c => ?_)
    exact absurd (lw_lt hL hn3 c) (by omega)
  | succ d ih =>
    intro n T w hd hn3 hT hI
    refine g_iload_n hh (i := 0) rfl rfl ?_
    refine g_aload_n hh (i := 1) rfl rfl ?_
    refine g_xlen hh hX (i := 2) rfl ?_
    refine g_bipush hh (i := 3) rfl (v := nI 6) (by rfl) ?_
    refine g_isub hh (i := 4) rfl ?_
    refine g_icmp_gt hh (i := 5) 1009 rfl rfl (fun _ => hend w _) (fun c => ?_)
    have hn : n + 6 ≤ Ln := lw_lt hL hn3 c
    refine g_aload_n hh (i := 6) rfl rfl ?_
    refine g_iload_n hh (i := 7) rfl rfl ?_
    refine g_xald hh hX (i := 8) rfl (vp_in_nI (by omega) (by omega)) ?_
    refine g_bipush hh (i := 9) rfl (v := 31) (by rfl) ?_
    refine g_iand hh (i := 10) rfl ?_
    refine lw_sw h0 hq hce hX hL hn (by omega) hI (fun w2 hI2 => ?_)
    refine g_iinc ht (i := 0) rfl rfl (dv := nI 6) (by rfl) ?_
    refine g_goto ht (i := 1) 18 rfl rfl ?_
    exact g_lv [(0, .ref sb), (1, .ref b), (2, .ref A), (3, .int (nI (n + 6)))] ⟨rfl, rfl, rfl, congrArg (fun z => some (Value.int z)) (nI_add n 6), trivial⟩ (ih (n + 6) (T + 200) w2 (by omega) (by omega) (by omega) hI2)
