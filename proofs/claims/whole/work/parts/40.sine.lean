def sN (r : Nat) : UInt64 := if 1 < r / 250000 then FP.dsub FP.dconst0 (sP (nI (if r / 250000 % 2 = 1 then 250000 - r % 250000 else r % 250000))) else sP (nI (if r / 250000 % 2 = 1 then 250000 - r % 250000 else r % 250000))
/-- the document's SINE of u -/
def sV (u : Int) : UInt64 := sN (u % 1000000).toNat
theorem fg_sP {p : Nat} (h : p ≤ 250000) : FG 153 1075 (sP (nI p)) ∧ NZ (sP (nI p)) := by
  have hp : (nI p).toInt = (p : Int) := nIT (by omega)
  unfold sP
  by_cases hc : 125000 < nI p
  · rw [if_pos hc]
    rw [i32lt, hp] at hc
    have e : (250000 - nI p).toInt = 250000 - (p : Int) := by rw [i_sub (by rw [hp, show (250000 : Int32).toInt = 250000 by decide]; omega) (by rw [hp, show (250000 : Int32).toInt = 250000 by decide]; omega), hp]; rfl
    have hc2 : (125000 : Int) < p := by rw [show (125000 : Int32).toInt = 125000 by decide] at hc; exact hc
    have f := fg_pC (fg_sB (p := 250000 - nI p) (by rw [e]; omega) (by rw [e]; omega))
    exact f.2
  · rw [if_neg hc]
    rw [i32lt, hp] at hc
    have hc2 : (p : Int) ≤ 125000 := by rw [show (125000 : Int32).toInt = 125000 by decide] at hc; omega
    have a := fg_sA (p := nI p) (by rw [hp]; omega) (by rw [hp]; omega)
    have f := fg_pS a.1 a.2 (fg_sB (p := nI p) (by rw [hp]; omega) (by rw [hp]; omega))
    exact ⟨f.2.1.mono (by omega) (by omega), f.2.2.nz⟩
theorem arm1 {p : Nat} (h : p ≤ 250000) (c : ¬ 125000 < nI p) : vf_n64 (FP.dmul (FP.i2d (nI p)) 4529031901805048957) ∧ (FG 1004 1074 (sA (nI p)) ∧ SP (sA (nI p))) ∧ FG 934 1074 (FP.dmul (sA (nI p)) (sA (nI p))) := by
  have hp : (nI p).toInt = (p : Int) := nIT (by omega)
  rw [i32lt, hp, show (125000 : Int32).toInt = 125000 by decide] at c
  have h0 : 0 ≤ (nI p).toInt := by omega
  have h1 : (nI p).toInt ≤ 125000 := by omega
  exact ⟨(fg_mul (fg_i2d (x := nI p) (k := 17) (by omega) (by omega)).1 kg_C (by omega) (by omega) (by omega)).n64, fg_sA h0 h1, fg_sB h0 h1⟩
theorem arm2 {p : Nat} (h : p ≤ 250000) (c : 125000 < nI p) : vf_n64 (FP.dmul (FP.i2d (250000 - nI p)) 4529031901805048957) ∧ (FG 1004 1074 (sA (250000 - nI p)) ∧ SP (sA (250000 - nI p))) ∧ FG 934 1074 (FP.dmul (sA (250000 - nI p)) (sA (250000 - nI p))) := by
  have hp : (nI p).toInt = (p : Int) := nIT (by omega)
  rw [i32lt, hp, show (125000 : Int32).toInt = 125000 by decide] at c
  have e : (250000 - nI p).toInt = 250000 - (p : Int) := by rw [i_sub (by rw [hp, show (250000 : Int32).toInt = 250000 by decide]; omega) (by rw [hp, show (250000 : Int32).toInt = 250000 by decide]; omega), hp]; rfl
  have h0 : 0 ≤ (250000 - nI p).toInt := by omega
  have h1 : (250000 - nI p).toInt ≤ 125000 := by omega
  exact ⟨(fg_mul (fg_i2d (x := 250000 - nI p) (k := 17) (by omega) (by omega)).1 kg_C (by omega) (by omega) (by omega)).n64, fg_sA h0 h1, fg_sB h0 h1⟩
theorem sPlim (r : Nat) : (if r / 250000 % 2 = 1 then 250000 - r % 250000 else r % 250000) ≤ 250000 := by split <;> omega
theorem fg_sN (r : Nat) : FG 153 1076 (sN r) ∧ NZ (sN r) := by
  have f := fg_sP (sPlim r)
  unfold sN
  split
  · have g := fg_sub (kg_0 153 1075) f.1 (by omega)
    exact ⟨g.1, g.2 kn_0⟩
  · exact ⟨f.1.mono (by omega) (by omega), f.2⟩
theorem fg_sV (u : Int) : FG 153 1076 (sV u) ∧ NZ (sV u) := fg_sN _
theorem rrF {rr : Nat} (h : rr < 1000000) : nI rr / 250000 = nI (rr / 250000) ∧ nI rr - nI rr / 250000 * 250000 = nI (rr % 250000) ∧ nI (rr / 250000) - nI (rr / 250000) / 2 * 2 = nI (rr / 250000 % 2) ∧ lN rr / 250000 = lN (rr / 250000) ∧ lN rr - lN rr / 250000 * 250000 = lN (rr % 250000) ∧ (nI (rr / 250000 % 2) = 1 ↔ rr / 250000 % 2 = 1) ∧ 250000 - nI (rr % 250000) = nI (250000 - rr % 250000) :=
  ⟨pk_div (d := 250000) (by omega) (by omega) (by omega), pk_rem (d := 250000) (by omega) (by omega) (by omega), pk_rem (d := 2) (by omega) (by omega) (by omega), pk_lDiv (b := 250000) (by omega) (by omega) (by omega), pk_lRem (b := 250000) (by omega) (by omega) (by omega), nI_eq (b := 1) (by omega) (by omega), pk_sub (a := 250000) (by omega)⟩
theorem tm_mod (a : Int) : (a.tmod 1000000 < 0 → a.tmod 1000000 + 1000000 = a % 1000000) ∧ (0 ≤ a.tmod 1000000 → a.tmod 1000000 = a % 1000000) := by
  have h := Int.tmod_eq_emod (a := a) (b := 1000000)
  have h1 := Int.emod_nonneg a (b := 1000000) (by decide)
  have h2 := Int.emod_lt_of_pos a (b := 1000000) (by decide)
  rw [h]
  split <;> simp <;> omega
-- SINE(u)
set_option maxRecDepth 100000 in
set_option maxHeartbeats 4000000 in
theorem ct_X8_sineOf (l : Launch) (E : EE) (w : Wd) (u : Int32) (hlo : E.2.2 ≤ wN w) : Ct l E yX8_sineOf cX8_sineOf 10 (some .double) ({ frames := 0, cells := 0, slots := 0, locals := 0 } : Room) [.int u] w 0 0 (Px (some (.double (sV u.toInt))) w) := by
  refine ct_in (il := il_X8_sineOf) (by decide) dk_X8_sineOf (Nat.le_of_ble_eq_true rfl) hlo ?_
  intro X h hq

  obtain ⟨rr, hrr⟩ : ∃ rr : Nat, rr = (u.toInt % 1000000).toNat := ⟨_, rfl⟩
  have hr6 : rr < 1000000 := by omega
  obtain ⟨r1, r2, r3, r4, r5, r6, r7⟩ := rrF hr6
  obtain ⟨p2, hp2⟩ : ∃ p2 : Nat, p2 = (if rr / 250000 % 2 = 1 then 250000 - rr % 250000 else rr % 250000) := ⟨_, rfl⟩
  have hp2l : p2 ≤ 250000 := by rw [hp2]; exact sPlim rr
  have hpi : (nI p2).toInt = (p2 : Int) := nIT (by omega)
  have f := fg_sP hp2l
  have hsv : sV u.toInt = if 1 < rr / 250000 then FP.dsub FP.dconst0 (sP (nI p2)) else sP (nI p2) := by unfold sV sN; rw [← hrr, ← hp2]
  have hq1 : (nI (rr / 250000)).toInt = ((rr / 250000 : Nat) : Int) := nIT (by omega)
  have h11 : (1 : Int32).toInt = 1 := by decide
  have hs1 : nI (rr / 250000) ≤ 1 → sV u.toInt = sP (nI p2) := fun g => by rw [hsv, if_neg]; rw [i32le, hq1, h11] at g; omega
  have hs2 : ¬ nI (rr / 250000) ≤ 1 → sV u.toInt = FP.dsub FP.dconst0 (sP (nI p2)) := fun g => by rw [hsv, if_pos]; rw [i32le, hq1, h11] at g; omega
  have k3 : ∀ s : UInt64, s = sP (nI p2) → G X 0 0 164 (lf [(2, .int (nI (rr / 250000))), (4, .double s)]) [] w := by
    intro s hs
    subst hs
    refine g_iload_n h (i := 101) rfl rfl ?_
    refine g_iconst h (i := 102) rfl (v := 1) (by rfl) ?_
    refine g_icmp_le h (i := 103) 176 rfl rfl (fun c_166 => ?_) (fun c_166 => ?_)
    · skip
      refine g_dload h (i := 108) rfl rfl ?_
      exact g_dret hq h (i := 109) rfl (⟨congrArg (fun z => some (Value.double z)) (hs1 c_166).symm, rfl⟩)
    · skip
      refine g_dconst0 h (i := 104) rfl ?_
      refine g_dload h (i := 105) rfl rfl ?_
      refine g_dsub h (i := 106) rfl ((fg_sub (kg_0 153 1075) f.1 (by omega)).1.n64) ?_
      refine g_goto h (i := 107) 178 rfl rfl ?_
      exact g_dret hq h (i := 109) rfl (⟨congrArg (fun z => some (Value.double z)) (hs2 c_166).symm, rfl⟩)
  have k2 : G X 0 0 36 (lf [(2, .int (nI (rr / 250000))), (3, .int (nI p2))]) [] w := by
    refine g_iload_n h (i := 27) rfl rfl ?_
    refine g_ldc h (i := 28) rfl k_X8_35 ?_
    refine g_icmp_gt h (i := 29) 101 rfl rfl (fun c_39 => ?_) (fun c_39 => ?_)
    · skip
      obtain ⟨na2, fa2, fb2⟩ := arm2 hp2l c_39
      obtain ⟨a2, ha2⟩ : ∃ z, z = sA (250000 - nI p2) := ⟨_, rfl⟩
      obtain ⟨b2, hb2⟩ : ∃ z, z = FP.dmul a2 a2 := ⟨_, rfl⟩
      rw [← ha2] at fa2 fb2
      rw [← hb2] at fb2
      have C := fg_pC fb2
      refine g_ldc h (i := 64) rfl k_X8_29 ?_
      refine g_iload_n h (i := 65) rfl rfl ?_
      refine g_isub h (i := 66) rfl ?_
      refine g_i2d h (i := 67) rfl ?_
      refine g_ldc2d h (i := 68) rfl k_X8_36 ?_
      refine g_dmul h (i := 69) rfl (na2) ?_
      refine g_eqd a2 ha2.symm ?_
      refine g_dstore h (i := 70) rfl hq rfl ?_
      refine g_dload h (i := 71) rfl rfl ?_
      refine g_dload h (i := 72) rfl rfl ?_
      refine g_dmul h (i := 73) rfl (by rw [← hb2]; exact fb2.n64) ?_
      refine g_eqd b2 hb2.symm ?_
      refine g_dstore h (i := 74) rfl hq rfl ?_
      refine g_dconst1 h (i := 75) rfl ?_
      refine g_dload h (i := 76) rfl rfl ?_
      refine g_ldc2d h (i := 77) rfl k_X8_48 ?_
      refine g_dload h (i := 78) rfl rfl ?_
      refine g_ldc2d h (i := 79) rfl k_X8_50 ?_
      refine g_dload h (i := 80) rfl rfl ?_
      refine g_ldc2d h (i := 81) rfl k_X8_52 ?_
      refine g_dload h (i := 82) rfl rfl ?_
      refine g_ldc2d h (i := 83) rfl k_X8_54 ?_
      refine g_dload h (i := 84) rfl rfl ?_
      refine g_ldc2d h (i := 85) rfl k_X8_56 ?_
      refine g_dload h (i := 86) rfl rfl ?_
      refine g_ldc2d h (i := 87) rfl k_X8_58 ?_
      refine g_dmul h (i := 88) rfl (C.1.1) ?_
      refine g_dadd h (i := 89) rfl (C.1.2.1) ?_
      refine g_dmul h (i := 90) rfl (C.1.2.2.1) ?_
      refine g_dadd h (i := 91) rfl (C.1.2.2.2.1) ?_
      refine g_dmul h (i := 92) rfl (C.1.2.2.2.2.1) ?_
      refine g_dadd h (i := 93) rfl (C.1.2.2.2.2.2.1) ?_
      refine g_dmul h (i := 94) rfl (C.1.2.2.2.2.2.2.1) ?_
      refine g_dadd h (i := 95) rfl (C.1.2.2.2.2.2.2.2.1) ?_
      refine g_dmul h (i := 96) rfl (C.1.2.2.2.2.2.2.2.2.1) ?_
      refine g_dadd h (i := 97) rfl (C.1.2.2.2.2.2.2.2.2.2.1) ?_
      refine g_dmul h (i := 98) rfl (C.1.2.2.2.2.2.2.2.2.2.2.1) ?_
      refine g_dadd h (i := 99) rfl (C.1.2.2.2.2.2.2.2.2.2.2.2) ?_
      refine g_dstore h (i := 100) rfl hq rfl ?_
      refine g_lv [(2, .int (nI (rr / 250000))), (4, .double _)] ⟨rfl, rfl, trivial⟩ (k3 _ ?_)
      unfold sP
      rw [if_pos c_39, ← ha2, ← hb2]
      unfold pC
      exact Eq.refl _
    · skip
      obtain ⟨na1, fa1, fb1⟩ := arm1 hp2l c_39
      obtain ⟨a1, ha1⟩ : ∃ z, z = sA (nI p2) := ⟨_, rfl⟩
      obtain ⟨b1, hb1⟩ : ∃ z, z = FP.dmul a1 a1 := ⟨_, rfl⟩
      rw [← ha1] at fa1 fb1
      rw [← hb1] at fb1
      have F := fg_pS fa1.1 fa1.2 fb1
      refine g_iload_n h (i := 30) rfl rfl ?_
      refine g_i2d h (i := 31) rfl ?_
      refine g_ldc2d h (i := 32) rfl k_X8_36 ?_
      refine g_dmul h (i := 33) rfl (na1) ?_
      refine g_eqd a1 ha1.symm ?_
      refine g_dstore h (i := 34) rfl hq rfl ?_
      refine g_dload h (i := 35) rfl rfl ?_
      refine g_dload h (i := 36) rfl rfl ?_
      refine g_dmul h (i := 37) rfl (by rw [← hb1]; exact fb1.n64) ?_
      refine g_eqd b1 hb1.symm ?_
      refine g_dstore h (i := 38) rfl hq rfl ?_
      refine g_dload h (i := 39) rfl rfl ?_
      refine g_dconst1 h (i := 40) rfl ?_
      refine g_dload h (i := 41) rfl rfl ?_
      refine g_ldc2d h (i := 42) rfl k_X8_38 ?_
      refine g_dload h (i := 43) rfl rfl ?_
      refine g_ldc2d h (i := 44) rfl k_X8_40 ?_
      refine g_dload h (i := 45) rfl rfl ?_
      refine g_ldc2d h (i := 46) rfl k_X8_42 ?_
      refine g_dload h (i := 47) rfl rfl ?_
      refine g_ldc2d h (i := 48) rfl k_X8_44 ?_
      refine g_dload h (i := 49) rfl rfl ?_
      refine g_ldc2d h (i := 50) rfl k_X8_46 ?_
      refine g_dmul h (i := 51) rfl (F.1.1) ?_
      refine g_dadd h (i := 52) rfl (F.1.2.1) ?_
      refine g_dmul h (i := 53) rfl (F.1.2.2.1) ?_
      refine g_dadd h (i := 54) rfl (F.1.2.2.2.1) ?_
      refine g_dmul h (i := 55) rfl (F.1.2.2.2.2.1) ?_
      refine g_dadd h (i := 56) rfl (F.1.2.2.2.2.2.1) ?_
      refine g_dmul h (i := 57) rfl (F.1.2.2.2.2.2.2.1) ?_
      refine g_dadd h (i := 58) rfl (F.1.2.2.2.2.2.2.2.1) ?_
      refine g_dmul h (i := 59) rfl (F.1.2.2.2.2.2.2.2.2.1) ?_
      refine g_dadd h (i := 60) rfl (F.1.2.2.2.2.2.2.2.2.2.1) ?_
      refine g_dmul h (i := 61) rfl (F.1.2.2.2.2.2.2.2.2.2.2) ?_
      refine g_dstore h (i := 62) rfl hq rfl ?_
      refine g_goto h (i := 63) 164 rfl rfl ?_
      refine g_lv [(2, .int (nI (rr / 250000))), (4, .double _)] ⟨rfl, rfl, trivial⟩ (k3 _ ?_)
      unfold sP
      rw [if_neg c_39, ← ha1, ← hb1]
      unfold pS
      exact Eq.refl _
  have k1 : G X 0 0 14 (lf [(1, .int (nI rr))]) [] w := by
    refine g_iload_n h (i := 10) rfl rfl ?_
    refine g_ldc h (i := 11) rfl k_X8_29 ?_
    refine g_idiv h (i := 12) rfl (by decide) ?_
    refine g_eqi (nI (rr / 250000)) r1 ?_
    refine g_istore_n h (i := 13) rfl hq rfl ?_
    refine g_iload_n h (i := 14) rfl rfl ?_
    refine g_ldc h (i := 15) rfl k_X8_29 ?_
    refine g_irem h (i := 16) rfl (by decide) ?_
    refine g_eqi (nI (rr % 250000)) r2 ?_
    refine g_istore_n h (i := 17) rfl hq rfl ?_
    refine g_iload_n h (i := 18) rfl rfl ?_
    refine g_iconst h (i := 19) rfl (v := 2) (by rfl) ?_
    refine g_irem h (i := 20) rfl (by decide) ?_
    refine g_eqi (nI (rr / 250000 % 2)) r3 ?_
    refine g_iconst h (i := 21) rfl (v := 1) (by rfl) ?_
    refine g_icmp_ne h (i := 22) 36 rfl rfl (fun c_28 => ?_) (fun c_28 => ?_)
    · skip
      refine g_lv [(2, .int (nI (rr / 250000))), (3, .int (nI p2))] ⟨rfl, ?_, trivial⟩ k2
      refine congrArg (fun z => some (Value.int z)) ?_
      rw [hp2]
      rw [if_neg (fun h9 => c_28 (r6.mpr h9))]
    · skip
      refine g_ldc h (i := 23) rfl k_X8_29 ?_
      refine g_iload_n h (i := 24) rfl rfl ?_
      refine g_isub h (i := 25) rfl ?_
      refine g_istore_n h (i := 26) rfl hq rfl ?_
      refine g_lv [(2, .int (nI (rr / 250000))), (3, .int (nI p2))] ⟨rfl, ?_, trivial⟩ k2
      refine congrArg (fun z => some (Value.int z)) ?_
      rw [hp2]
      rw [if_pos (r6.mp c_28)]
      exact r7
  have hu : (u - u / 1000000 * 1000000).toInt = u.toInt.tmod 1000000 := rem_toInt u 1000000
  have tm := tm_mod u.toInt
  have hrn : (nI rr).toInt = (rr : Int) := nIT (by omega)
  refine g_iload_n h (i := 0) rfl rfl ?_
  refine g_ldc h (i := 1) rfl k_X8_34 ?_
  refine g_irem h (i := 2) rfl (by decide) ?_
  refine g_istore_n h (i := 3) rfl hq rfl ?_
  refine g_iload_n h (i := 4) rfl rfl ?_
  refine g_if_ge h (i := 5) 14 rfl rfl (fun c_6 => ?_) (fun c_6 => ?_)
  · skip
    refine g_lv [(1, .int (nI rr))] ⟨?_, trivial⟩ k1
    refine congrArg (fun z => some (Value.int z)) (i32x ?_)
    rw [hrn]
    first
      | (have h9 := c_6; rw [i32le, hu, show (0 : Int32).toInt = 0 by decide] at h9; rw [hu, tm.2 h9, hrr]; omega)
      | (have h9 := c_6; rw [i32le, hu, show (0 : Int32).toInt = 0 by decide] at h9; have h8 := tm.1 (by omega); rw [i_add (by rw [hu, show (1000000 : Int32).toInt = 1000000 by decide]; omega) (by rw [hu, show (1000000 : Int32).toInt = 1000000 by decide]; omega), hu, show (1000000 : Int32).toInt = 1000000 by decide, h8, hrr]; omega)
  · skip
    refine g_iload_n h (i := 6) rfl rfl ?_
    refine g_ldc h (i := 7) rfl k_X8_34 ?_
    refine g_iadd h (i := 8) rfl ?_
    refine g_istore_n h (i := 9) rfl hq rfl ?_
    refine g_lv [(1, .int (nI rr))] ⟨?_, trivial⟩ k1
    refine congrArg (fun z => some (Value.int z)) (i32x ?_)
    rw [hrn]
    first
      | (have h9 := c_6; rw [i32le, hu, show (0 : Int32).toInt = 0 by decide] at h9; rw [hu, tm.2 h9, hrr]; omega)
      | (have h9 := c_6; rw [i32le, hu, show (0 : Int32).toInt = 0 by decide] at h9; have h8 := tm.1 (by omega); rw [i_add (by rw [hu, show (1000000 : Int32).toInt = 1000000 by decide]; omega) (by rw [hu, show (1000000 : Int32).toInt = 1000000 by decide]; omega), hu, show (1000000 : Int32).toInt = 1000000 by decide, h8, hrr]; omega)
-- SINE(u)
set_option maxRecDepth 100000 in
set_option maxHeartbeats 4000000 in
theorem ct_X10_sineOf (l : Launch) (E : EE) (w : Wd) (u : Int64) (hlo : E.2.2 ≤ wN w) : Ct l E yX10_sineOf cX10_sineOf 12 (some .double) ({ frames := 0, cells := 0, slots := 0, locals := 0 } : Room) [.long u] w 0 0 (Px (some (.double (sV u.toInt))) w) := by
  refine ct_in (il := il_X10_sineOf) (by decide) dk_X10_sineOf (Nat.le_of_ble_eq_true rfl) hlo ?_
  intro X h hq

  obtain ⟨rr, hrr⟩ : ∃ rr : Nat, rr = (u.toInt % 1000000).toNat := ⟨_, rfl⟩
  have hr6 : rr < 1000000 := by omega
  obtain ⟨r1, r2, r3, r4, r5, r6, r7⟩ := rrF hr6
  obtain ⟨p2, hp2⟩ : ∃ p2 : Nat, p2 = (if rr / 250000 % 2 = 1 then 250000 - rr % 250000 else rr % 250000) := ⟨_, rfl⟩
  have hp2l : p2 ≤ 250000 := by rw [hp2]; exact sPlim rr
  have hpi : (nI p2).toInt = (p2 : Int) := nIT (by omega)
  have f := fg_sP hp2l
  have hsv : sV u.toInt = if 1 < rr / 250000 then FP.dsub FP.dconst0 (sP (nI p2)) else sP (nI p2) := by unfold sV sN; rw [← hrr, ← hp2]
  have hq1 : (nI (rr / 250000)).toInt = ((rr / 250000 : Nat) : Int) := nIT (by omega)
  have h11 : (1 : Int32).toInt = 1 := by decide
  have hs1 : nI (rr / 250000) ≤ 1 → sV u.toInt = sP (nI p2) := fun g => by rw [hsv, if_neg]; rw [i32le, hq1, h11] at g; omega
  have hs2 : ¬ nI (rr / 250000) ≤ 1 → sV u.toInt = FP.dsub FP.dconst0 (sP (nI p2)) := fun g => by rw [hsv, if_pos]; rw [i32le, hq1, h11] at g; omega
  have k3 : ∀ s : UInt64, s = sP (nI p2) → G X 0 0 189 (lf [(4, .int (nI (rr / 250000))), (6, .double s)]) [] w := by
    intro s hs
    subst hs
    refine g_iload h (i := 109) rfl rfl ?_
    refine g_iconst h (i := 110) rfl (v := 1) (by rfl) ?_
    refine g_icmp_le h (i := 111) 202 rfl rfl (fun c_192 => ?_) (fun c_192 => ?_)
    · skip
      refine g_dload h (i := 116) rfl rfl ?_
      exact g_dret hq h (i := 117) rfl (⟨congrArg (fun z => some (Value.double z)) (hs1 c_192).symm, rfl⟩)
    · skip
      refine g_dconst0 h (i := 112) rfl ?_
      refine g_dload h (i := 113) rfl rfl ?_
      refine g_dsub h (i := 114) rfl ((fg_sub (kg_0 153 1075) f.1 (by omega)).1.n64) ?_
      refine g_goto h (i := 115) 204 rfl rfl ?_
      exact g_dret hq h (i := 117) rfl (⟨congrArg (fun z => some (Value.double z)) (hs2 c_192).symm, rfl⟩)
  have k2 : G X 0 0 58 (lf [(4, .int (nI (rr / 250000))), (5, .int (nI p2))]) [] w := by
    refine g_iload h (i := 35) rfl rfl ?_
    refine g_ldc h (i := 36) rfl k_X10_107 ?_
    refine g_icmp_gt h (i := 37) 125 rfl rfl (fun c_62 => ?_) (fun c_62 => ?_)
    · skip
      obtain ⟨na2, fa2, fb2⟩ := arm2 hp2l c_62
      obtain ⟨a2, ha2⟩ : ∃ z, z = sA (250000 - nI p2) := ⟨_, rfl⟩
      obtain ⟨b2, hb2⟩ : ∃ z, z = FP.dmul a2 a2 := ⟨_, rfl⟩
      rw [← ha2] at fa2 fb2
      rw [← hb2] at fb2
      have C := fg_pC fb2
      refine g_ldc h (i := 72) rfl k_X10_106 ?_
      refine g_iload h (i := 73) rfl rfl ?_
      refine g_isub h (i := 74) rfl ?_
      refine g_i2d h (i := 75) rfl ?_
      refine g_ldc2d h (i := 76) rfl k_X10_108 ?_
      refine g_dmul h (i := 77) rfl (na2) ?_
      refine g_eqd a2 ha2.symm ?_
      refine g_dstore h (i := 78) rfl hq rfl ?_
      refine g_dload h (i := 79) rfl rfl ?_
      refine g_dload h (i := 80) rfl rfl ?_
      refine g_dmul h (i := 81) rfl (by rw [← hb2]; exact fb2.n64) ?_
      refine g_eqd b2 hb2.symm ?_
      refine g_dstore h (i := 82) rfl hq rfl ?_
      refine g_dconst1 h (i := 83) rfl ?_
      refine g_dload h (i := 84) rfl rfl ?_
      refine g_ldc2d h (i := 85) rfl k_X10_120 ?_
      refine g_dload h (i := 86) rfl rfl ?_
      refine g_ldc2d h (i := 87) rfl k_X10_122 ?_
      refine g_dload h (i := 88) rfl rfl ?_
      refine g_ldc2d h (i := 89) rfl k_X10_124 ?_
      refine g_dload h (i := 90) rfl rfl ?_
      refine g_ldc2d h (i := 91) rfl k_X10_126 ?_
      refine g_dload h (i := 92) rfl rfl ?_
      refine g_ldc2d h (i := 93) rfl k_X10_128 ?_
      refine g_dload h (i := 94) rfl rfl ?_
      refine g_ldc2d h (i := 95) rfl k_X10_130 ?_
      refine g_dmul h (i := 96) rfl (C.1.1) ?_
      refine g_dadd h (i := 97) rfl (C.1.2.1) ?_
      refine g_dmul h (i := 98) rfl (C.1.2.2.1) ?_
      refine g_dadd h (i := 99) rfl (C.1.2.2.2.1) ?_
      refine g_dmul h (i := 100) rfl (C.1.2.2.2.2.1) ?_
      refine g_dadd h (i := 101) rfl (C.1.2.2.2.2.2.1) ?_
      refine g_dmul h (i := 102) rfl (C.1.2.2.2.2.2.2.1) ?_
      refine g_dadd h (i := 103) rfl (C.1.2.2.2.2.2.2.2.1) ?_
      refine g_dmul h (i := 104) rfl (C.1.2.2.2.2.2.2.2.2.1) ?_
      refine g_dadd h (i := 105) rfl (C.1.2.2.2.2.2.2.2.2.2.1) ?_
      refine g_dmul h (i := 106) rfl (C.1.2.2.2.2.2.2.2.2.2.2.1) ?_
      refine g_dadd h (i := 107) rfl (C.1.2.2.2.2.2.2.2.2.2.2.2) ?_
      refine g_dstore h (i := 108) rfl hq rfl ?_
      refine g_lv [(4, .int (nI (rr / 250000))), (6, .double _)] ⟨rfl, rfl, trivial⟩ (k3 _ ?_)
      unfold sP
      rw [if_pos c_62, ← ha2, ← hb2]
      unfold pC
      exact Eq.refl _
    · skip
      obtain ⟨na1, fa1, fb1⟩ := arm1 hp2l c_62
      obtain ⟨a1, ha1⟩ : ∃ z, z = sA (nI p2) := ⟨_, rfl⟩
      obtain ⟨b1, hb1⟩ : ∃ z, z = FP.dmul a1 a1 := ⟨_, rfl⟩
      rw [← ha1] at fa1 fb1
      rw [← hb1] at fb1
      have F := fg_pS fa1.1 fa1.2 fb1
      refine g_iload h (i := 38) rfl rfl ?_
      refine g_i2d h (i := 39) rfl ?_
      refine g_ldc2d h (i := 40) rfl k_X10_108 ?_
      refine g_dmul h (i := 41) rfl (na1) ?_
      refine g_eqd a1 ha1.symm ?_
      refine g_dstore h (i := 42) rfl hq rfl ?_
      refine g_dload h (i := 43) rfl rfl ?_
      refine g_dload h (i := 44) rfl rfl ?_
      refine g_dmul h (i := 45) rfl (by rw [← hb1]; exact fb1.n64) ?_
      refine g_eqd b1 hb1.symm ?_
      refine g_dstore h (i := 46) rfl hq rfl ?_
      refine g_dload h (i := 47) rfl rfl ?_
      refine g_dconst1 h (i := 48) rfl ?_
      refine g_dload h (i := 49) rfl rfl ?_
      refine g_ldc2d h (i := 50) rfl k_X10_110 ?_
      refine g_dload h (i := 51) rfl rfl ?_
      refine g_ldc2d h (i := 52) rfl k_X10_112 ?_
      refine g_dload h (i := 53) rfl rfl ?_
      refine g_ldc2d h (i := 54) rfl k_X10_114 ?_
      refine g_dload h (i := 55) rfl rfl ?_
      refine g_ldc2d h (i := 56) rfl k_X10_116 ?_
      refine g_dload h (i := 57) rfl rfl ?_
      refine g_ldc2d h (i := 58) rfl k_X10_118 ?_
      refine g_dmul h (i := 59) rfl (F.1.1) ?_
      refine g_dadd h (i := 60) rfl (F.1.2.1) ?_
      refine g_dmul h (i := 61) rfl (F.1.2.2.1) ?_
      refine g_dadd h (i := 62) rfl (F.1.2.2.2.1) ?_
      refine g_dmul h (i := 63) rfl (F.1.2.2.2.2.1) ?_
      refine g_dadd h (i := 64) rfl (F.1.2.2.2.2.2.1) ?_
      refine g_dmul h (i := 65) rfl (F.1.2.2.2.2.2.2.1) ?_
      refine g_dadd h (i := 66) rfl (F.1.2.2.2.2.2.2.2.1) ?_
      refine g_dmul h (i := 67) rfl (F.1.2.2.2.2.2.2.2.2.1) ?_
      refine g_dadd h (i := 68) rfl (F.1.2.2.2.2.2.2.2.2.2.1) ?_
      refine g_dmul h (i := 69) rfl (F.1.2.2.2.2.2.2.2.2.2.2) ?_
      refine g_dstore h (i := 70) rfl hq rfl ?_
      refine g_goto h (i := 71) 189 rfl rfl ?_
      refine g_lv [(4, .int (nI (rr / 250000))), (6, .double _)] ⟨rfl, rfl, trivial⟩ (k3 _ ?_)
      unfold sP
      rw [if_neg c_62, ← ha1, ← hb1]
      unfold pS
      exact Eq.refl _
  have k1 : G X 0 0 22 (lf [(2, .long (lN rr))]) [] w := by
    refine g_lload_n h (i := 14) rfl rfl ?_
    refine g_ldc2 h (i := 15) rfl k_X10_104 ?_
    refine g_ldiv h (i := 16) rfl (by decide) ?_
    refine g_eql (lN (rr / 250000)) r4 ?_
    refine g_l2i h (i := 17) rfl ?_
    refine g_eqi (nI (rr / 250000)) (lN_i _) ?_
    refine g_istore h (i := 18) rfl hq rfl ?_
    refine g_lload_n h (i := 19) rfl rfl ?_
    refine g_ldc2 h (i := 20) rfl k_X10_104 ?_
    refine g_lrem h (i := 21) rfl (by decide) ?_
    refine g_eql (lN (rr % 250000)) r5 ?_
    refine g_l2i h (i := 22) rfl ?_
    refine g_eqi (nI (rr % 250000)) (lN_i _) ?_
    refine g_istore h (i := 23) rfl hq rfl ?_
    refine g_iload h (i := 24) rfl rfl ?_
    refine g_iconst h (i := 25) rfl (v := 2) (by rfl) ?_
    refine g_irem h (i := 26) rfl (by decide) ?_
    refine g_eqi (nI (rr / 250000 % 2)) r3 ?_
    refine g_iconst h (i := 27) rfl (v := 1) (by rfl) ?_
    refine g_icmp_ne h (i := 28) 54 rfl rfl (fun c_43 => ?_) (fun c_43 => ?_)
    · skip
      refine g_iload h (i := 33) rfl rfl ?_
      refine g_istore h (i := 34) rfl hq rfl ?_
      refine g_lv [(4, .int (nI (rr / 250000))), (5, .int (nI p2))] ⟨rfl, ?_, trivial⟩ k2
      refine congrArg (fun z => some (Value.int z)) ?_
      rw [hp2]
      rw [if_neg (fun h9 => c_43 (r6.mpr h9))]
    · skip
      refine g_ldc h (i := 29) rfl k_X10_106 ?_
      refine g_iload h (i := 30) rfl rfl ?_
      refine g_isub h (i := 31) rfl ?_
      refine g_goto h (i := 32) 56 rfl rfl ?_
      refine g_istore h (i := 34) rfl hq rfl ?_
      refine g_lv [(4, .int (nI (rr / 250000))), (5, .int (nI p2))] ⟨rfl, ?_, trivial⟩ k2
      refine congrArg (fun z => some (Value.int z)) ?_
      rw [hp2]
      rw [if_pos (r6.mp c_43)]
      exact r7
  have hu : (u - u / 1000000 * 1000000).toInt = u.toInt.tmod 1000000 := l_rem u 1000000
  have tm := tm_mod u.toInt
  have hrn : (lN rr).toInt = (rr : Int) := lNT (by omega)
  refine g_lload_n h (i := 0) rfl rfl ?_
  refine g_ldc2 h (i := 1) rfl k_X10_102 ?_
  refine g_lrem h (i := 2) rfl (by decide) ?_
  refine g_lstore_n h (i := 3) rfl hq rfl ?_
  refine g_lload_n h (i := 4) rfl rfl ?_
  refine g_lconst h (i := 5) rfl (v := 0) (by rfl) ?_
  refine g_lcmp h (i := 6) rfl ?_
  refine g_if_ge h (i := 7) 20 rfl rfl (fun c_9 => ?_) (fun c_9 => ?_)
  · skip
    refine g_lload_n h (i := 12) rfl rfl ?_
    refine g_lstore_n h (i := 13) rfl hq rfl ?_
    refine g_lv [(2, .long (lN rr))] ⟨?_, trivial⟩ k1
    refine congrArg (fun z => some (Value.long z)) (i64x ?_)
    rw [hrn]
    first
      | (have h9 := (lg_cmp_ge _ _).mp c_9; rw [i64le, hu, show (0 : Int64).toInt = 0 by decide] at h9; rw [hu, tm.2 h9, hrr]; omega)
      | (have h9 := mt (lg_cmp_ge _ _).mpr c_9; rw [i64le, hu, show (0 : Int64).toInt = 0 by decide] at h9; have h8 := tm.1 (by omega); rw [l_add (by rw [hu, show (1000000 : Int64).toInt = 1000000 by decide]; omega) (by rw [hu, show (1000000 : Int64).toInt = 1000000 by decide]; omega), hu, show (1000000 : Int64).toInt = 1000000 by decide, h8, hrr]; omega)
  · skip
    refine g_lload_n h (i := 8) rfl rfl ?_
    refine g_ldc2 h (i := 9) rfl k_X10_102 ?_
    refine g_ladd h (i := 10) rfl ?_
    refine g_goto h (i := 11) 21 rfl rfl ?_
    refine g_lstore_n h (i := 13) rfl hq rfl ?_
    refine g_lv [(2, .long (lN rr))] ⟨?_, trivial⟩ k1
    refine congrArg (fun z => some (Value.long z)) (i64x ?_)
    rw [hrn]
    first
      | (have h9 := (lg_cmp_ge _ _).mp c_9; rw [i64le, hu, show (0 : Int64).toInt = 0 by decide] at h9; rw [hu, tm.2 h9, hrr]; omega)
      | (have h9 := mt (lg_cmp_ge _ _).mpr c_9; rw [i64le, hu, show (0 : Int64).toInt = 0 by decide] at h9; have h8 := tm.1 (by omega); rw [l_add (by rw [hu, show (1000000 : Int64).toInt = 1000000 by decide]; omega) (by rw [hu, show (1000000 : Int64).toInt = 1000000 by decide]; omega), hu, show (1000000 : Int64).toInt = 1000000 by decide, h8, hrr]; omega)
