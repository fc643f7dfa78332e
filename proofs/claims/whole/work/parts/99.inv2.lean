/-- what holds of config and row between calls -/
def Inv (cf : Nat → Nat → Int32) (R : Nat → Int64) (T : Nat) : Prop := CfR cf ∧ RR R ∧ (∀ k, k < 4 → cf 2 k = 0 ∨ cf 2 k = 1) ∧ (∀ k, k < 4 → cf 2 k ≠ 0 → RR (fun y => R (68 * (k + 1) + y)) ∧ isN (R (68 * (k + 1) + 29)) T) ∧ isN (R 29) T
theorem inv_cf {cf cf' : Nat → Nat → Int32} {R : Nat → Int64} {T T' : Nat} (h : Inv cf R T) (hT : T ≤ T') (hc : CfR cf') (h2 : ∀ k, cf' 2 k = cf 2 k) : Inv cf' R T' := ⟨hc, h.2.1, fun k hk => by rw [h2]; exact h.2.2.1 k hk, fun k hk hn => by rw [h2] at hn; exact ⟨(h.2.2.2.1 k hk hn).1, isN_up (h.2.2.2.1 k hk hn).2 hT⟩, isN_up h.2.2.2.2 hT⟩
theorem inv_R {cf : Nat → Nat → Int32} {R R' : Nat → Int64} {T T' : Nat} (h : Inv cf R T) (hT : T ≤ T') (hr : RR R') (h2 : ∀ y, 68 ≤ y → y < 340 → R' y = R y) (ht : isN (R' 29) T') : Inv cf R' T' := ⟨h.1, hr, h.2.2.1, fun k hk hn => ⟨rr_c (h.2.2.2.1 k hk hn).1 (fun y hy => h2 _ (by omega) (by omega)), by rw [h2 _ (by omega) (by omega)]; exact isN_up (h.2.2.2.1 k hk hn).2 hT⟩, ht⟩
theorem inv_up {cf : Nat → Nat → Int32} {R : Nat → Int64} {T T' : Nat} (h : Inv cf R T) (hT : T ≤ T') : Inv cf R T' := inv_cf h hT h.1 (fun _ => rfl)
theorem c_3 {cf : Nat → Nat → Int32} {n : Nat} {v : Int32} (h : CfR cf) (hv : v = 0 ∨ v = 1) : CfR (up2 cf 3 n v) := ⟨fun j hj => ⟨(by
    by_cases e : j = n
    · subst e; rw [up2_s]; exact hv
    · rw [up2_k e]; exact (h.1 j hj).1), (h.1 j hj).2⟩, h.2.1, h.2.2.1, h.2.2.2.1, h.2.2.2.2.1, h.2.2.2.2.2.1, h.2.2.2.2.2.2.1, h.2.2.2.2.2.2.2.1, h.2.2.2.2.2.2.2.2.1, h.2.2.2.2.2.2.2.2.2.1, h.2.2.2.2.2.2.2.2.2.2⟩
theorem c_4 {cf : Nat → Nat → Int32} {n : Nat} {v : Int32} (h : CfR cf) (hv : v.toInt.natAbs ≤ 1000) : CfR (up2 cf 4 n v) := ⟨fun j hj => ⟨(h.1 j hj).1, (by
    by_cases e : j = n
    · subst e; rw [up2_s]; exact hv
    · rw [up2_k e]; exact (h.1 j hj).2)⟩, h.2.1, h.2.2.1, h.2.2.2.1, h.2.2.2.2.1, h.2.2.2.2.2.1, h.2.2.2.2.2.2.1, h.2.2.2.2.2.2.2.1, h.2.2.2.2.2.2.2.2.1, h.2.2.2.2.2.2.2.2.2.1, h.2.2.2.2.2.2.2.2.2.2⟩
theorem c_7 {cf : Nat → Nat → Int32} {n : Nat} {v : Int32} (h : CfR cf) (hv : isI v 100000 ∧ 0 < pI v) : CfR (up2 cf 7 n v) := ⟨h.1, fun j hj => by
    by_cases e : j = n
    · subst e; rw [up2_s]; exact hv
    · rw [up2_k e]; exact h.2.1 j hj, h.2.2.1, h.2.2.2.1, h.2.2.2.2.1, h.2.2.2.2.2.1, h.2.2.2.2.2.2.1, h.2.2.2.2.2.2.2.1, h.2.2.2.2.2.2.2.2.1, h.2.2.2.2.2.2.2.2.2.1, h.2.2.2.2.2.2.2.2.2.2⟩
theorem c_8 {cf : Nat → Nat → Int32} {n : Nat} {v : Int32} (h : CfR cf) (hv : isI v 100000 ∧ 0 < pI v) : CfR (up2 cf 8 n v) := ⟨h.1, h.2.1, fun j hj => by
    by_cases e : j = n
    · subst e; rw [up2_s]; exact hv
    · rw [up2_k e]; exact h.2.2.1 j hj, h.2.2.2.1, h.2.2.2.2.1, h.2.2.2.2.2.1, h.2.2.2.2.2.2.1, h.2.2.2.2.2.2.2.1, h.2.2.2.2.2.2.2.2.1, h.2.2.2.2.2.2.2.2.2.1, h.2.2.2.2.2.2.2.2.2.2⟩
theorem c_9 {cf : Nat → Nat → Int32} {n : Nat} {v : Int32} (h : CfR cf) (hv : v = 0 ∨ v = 1) : CfR (up2 cf 9 n v) := ⟨h.1, h.2.1, h.2.2.1, h.2.2.2.1, h.2.2.2.2.1, fun j hj => by
    by_cases e : j = n
    · subst e; rw [up2_s]; exact hv
    · rw [up2_k e]; exact h.2.2.2.2.2.1 j hj, h.2.2.2.2.2.2.1, h.2.2.2.2.2.2.2.1, h.2.2.2.2.2.2.2.2.1, h.2.2.2.2.2.2.2.2.2.1, h.2.2.2.2.2.2.2.2.2.2⟩
theorem c_10 {cf : Nat → Nat → Int32} {n : Nat} {v : Int32} (h : CfR cf) : CfR (up2 cf 10 n v) := ⟨h.1, h.2.1, h.2.2.1, h.2.2.2.1, h.2.2.2.2.1, h.2.2.2.2.2.1, h.2.2.2.2.2.2.1, h.2.2.2.2.2.2.2.1, h.2.2.2.2.2.2.2.2.1, h.2.2.2.2.2.2.2.2.2.1, h.2.2.2.2.2.2.2.2.2.2⟩
theorem c_11 {cf : Nat → Nat → Int32} {n : Nat} {v : Int32} (h : CfR cf) (hv : v = 0 ∨ v = 1) : CfR (up2 cf 11 n v) := ⟨h.1, h.2.1, h.2.2.1, h.2.2.2.1, fun j hj => by
    by_cases e : j = n
    · subst e; rw [up2_s]; exact hv
    · rw [up2_k e]; exact h.2.2.2.2.1 j hj, h.2.2.2.2.2.1, h.2.2.2.2.2.2.1, h.2.2.2.2.2.2.2.1, h.2.2.2.2.2.2.2.2.1, h.2.2.2.2.2.2.2.2.2.1, h.2.2.2.2.2.2.2.2.2.2⟩
theorem c_2 {cf : Nat → Nat → Int32} {n : Nat} {v : Int32} (h : CfR cf) : CfR (up2 cf 2 n v) := ⟨h.1, h.2.1, h.2.2.1, h.2.2.2.1, h.2.2.2.2.1, h.2.2.2.2.2.1, h.2.2.2.2.2.2.1, h.2.2.2.2.2.2.2.1, h.2.2.2.2.2.2.2.2.1, h.2.2.2.2.2.2.2.2.2.1, h.2.2.2.2.2.2.2.2.2.2⟩
theorem c_5 {cf : Nat → Nat → Int32} {n : Nat} {v : Int32} (h : CfR cf) (hv : v.toInt.natAbs ≤ 1000000) : CfR (up2 cf 5 n v) := ⟨h.1, h.2.1, h.2.2.1, h.2.2.2.1, h.2.2.2.2.1, h.2.2.2.2.2.1, h.2.2.2.2.2.2.1, h.2.2.2.2.2.2.2.1, h.2.2.2.2.2.2.2.2.1, h.2.2.2.2.2.2.2.2.2.1, fun j hj => ⟨(by
    by_cases e : j = n
    · subst e; rw [up2_s]; exact hv
    · rw [up2_k e]; exact (h.2.2.2.2.2.2.2.2.2.2 j hj).1), (h.2.2.2.2.2.2.2.2.2.2 j hj).2⟩⟩
theorem c_6 {cf : Nat → Nat → Int32} {n : Nat} {v : Int32} (h : CfR cf) (hv : v.toInt.natAbs ≤ 1000000) : CfR (up2 cf 6 n v) := ⟨h.1, h.2.1, h.2.2.1, h.2.2.2.1, h.2.2.2.2.1, h.2.2.2.2.2.1, h.2.2.2.2.2.2.1, h.2.2.2.2.2.2.2.1, h.2.2.2.2.2.2.2.2.1, h.2.2.2.2.2.2.2.2.2.1, fun j hj => ⟨(h.2.2.2.2.2.2.2.2.2.2 j hj).1, (by
    by_cases e : j = n
    · subst e; rw [up2_s]; exact hv
    · rw [up2_k e]; exact (h.2.2.2.2.2.2.2.2.2.2 j hj).2)⟩⟩
theorem c_12 {cf : Nat → Nat → Int32} {n : Nat} {f : Nat → Int32} (h : CfR cf) (hv : ∀ j, j < 4 → (f j).toInt.natAbs ≤ 1000000) : CfR (ua cf 12 (setn (cf 12) (4 * n) f 4)) := ⟨h.1, h.2.1, h.2.2.1, fun i hi => by
    rw [ua_s]
    by_cases e : 4 * n ≤ i ∧ i < 4 * n + 4
    · rw [setn_i (j := i - 4 * n) (by omega) (by omega)]; exact hv _ (by omega)
    · rw [setn_o e]; exact h.2.2.2.1 i hi, h.2.2.2.2.1, h.2.2.2.2.2.1, h.2.2.2.2.2.2.1, h.2.2.2.2.2.2.2.1, h.2.2.2.2.2.2.2.2.1, h.2.2.2.2.2.2.2.2.2.1, h.2.2.2.2.2.2.2.2.2.2⟩
theorem c_cl {cf : Nat → Nat → Int32} (h : CfR cf) : CfR (up2 cf 0 12 0) := ⟨h.1, h.2.1, h.2.2.1, h.2.2.2.1, h.2.2.2.2.1, h.2.2.2.2.2.1, ⟨rfl, (by decide : pI 0 ≤ 60)⟩, fun k hk => absurd (show k < pI 0 from hk) (Nat.not_lt_zero k), h.2.2.2.2.2.2.2.2.1, h.2.2.2.2.2.2.2.2.2.1, h.2.2.2.2.2.2.2.2.2.2⟩
theorem isI_1 {c : Int32} {m M : Nat} (h : isI c M) (hm : M < 2147483646) (hlt : pI c < M) : isI (c + 1) M ∧ pI (c + 1) = pI c + 1 := by
  have e : c + 1 = nI (pI c + 1) := (congrArg (fun z => z + 1) h.1).trans (nI_1 _)
  have e2 : pI (c + 1) = pI c + 1 := by rw [e]; exact pI_n (by omega)
  exact ⟨⟨by rw [e2]; exact e, by omega⟩, e2⟩
theorem c_ln {cf : Nat → Nat → Int32} {o x y : Int32} (h : CfR cf) (hl : LnR o x y) (hn : ¬ cf 0 12 = 60) : CfR (up2 (up2 (up2 (up2 cf 13 (pI (cf 0 12)) o) 14 (pI (cf 0 12)) x) 15 (pI (cf 0 12)) y) 0 12 (cf 0 12 + 1)) := by
  have hk := c60 h.2.2.2.2.2.2.1 (by omega) (by rfl : (60 : Int32) = nI 60) hn
  obtain ⟨i1, i2⟩ := isI_1 (m := 0) h.2.2.2.2.2.2.1 (by omega) hk
  obtain ⟨n, hn2⟩ : ∃ n, n = pI (cf 0 12) := ⟨_, rfl⟩
  rw [← hn2] at hk i2 ⊢
  exact ⟨h.1, h.2.1, h.2.2.1, h.2.2.2.1, h.2.2.2.2.1, h.2.2.2.2.2.1, i1, fun k hk2 => by
    have hk3 : k < n + 1 := by rw [← i2]; exact hk2
    show LnR (up2 cf 13 n o 13 k) (up2 cf 14 n x 14 k) (up2 cf 15 n y 15 k)
    by_cases e : k = n
    · subst e; rw [up2_s, up2_s, up2_s]; exact hl
    · rw [up2_k e, up2_k e, up2_k e]; exact h.2.2.2.2.2.2.2.1 k (by rw [← hn2]; omega), h.2.2.2.2.2.2.2.2.1, h.2.2.2.2.2.2.2.2.2.1, h.2.2.2.2.2.2.2.2.2.2⟩
theorem c_sc {cf : Nat → Nat → Int32} {t i on : Int32} (h : CfR cf) (hi : isI i 7) (hon : on = 0 ∨ on = 1) (hn : ¬ cf 0 16 = 40) : CfR (up2 (up2 (up2 (up2 cf 16 (pI (cf 0 16)) t) 17 (pI (cf 0 16)) i) 18 (pI (cf 0 16)) on) 0 16 (cf 0 16 + 1)) := by
  have hk := c60 h.2.2.2.2.2.2.2.2.1 (by omega) (by rfl : (40 : Int32) = nI 40) hn
  obtain ⟨i1, i2⟩ := isI_1 (m := 0) h.2.2.2.2.2.2.2.2.1 (by omega) hk
  obtain ⟨n, hn2⟩ : ∃ n, n = pI (cf 0 16) := ⟨_, rfl⟩
  rw [← hn2] at hk i2 ⊢
  exact ⟨h.1, h.2.1, h.2.2.1, h.2.2.2.1, h.2.2.2.2.1, h.2.2.2.2.2.1, h.2.2.2.2.2.2.1, h.2.2.2.2.2.2.2.1, i1, fun k hk2 => by
    have hk3 : k < n + 1 := by rw [← i2]; exact hk2
    show isI (up2 cf 17 n i 17 k) 7 ∧ (up2 cf 18 n on 18 k = 0 ∨ up2 cf 18 n on 18 k = 1)
    by_cases e : k = n
    · subst e; rw [up2_s, up2_s]; exact ⟨hi, hon⟩
    · rw [up2_k e, up2_k e]; exact h.2.2.2.2.2.2.2.2.2.1 k (by rw [← hn2]; omega), h.2.2.2.2.2.2.2.2.2.2⟩
theorem isI_g {v lo hi : Int32} {M : Nat} (h : lo ≤ v ∧ v ≤ hi) (h0 : 0 ≤ lo.toInt) (hM : hi.toInt = (M : Int)) : isI v M ∧ (pI v : Int) = v.toInt := by
  have q := isI_of h h0
  have h2 := i32le.mp h.2
  exact ⟨⟨q.1, by omega⟩, q.2⟩
theorem lnB_ok {o x y : Int32} (h : ¬ lnB o x y = 0) : LnR o x y := by
  have io : ∀ (n : Nat), n ≤ 11 → o = nI n → isI o 11 := fun n hn e => by
    rw [e]; exact ⟨by rw [pI_n (by omega)], by rw [pI_n (by omega)]; exact hn⟩
  unfold lnB at h
  by_cases h0 : o = 0
  · rw [if_pos h0] at h
    have g := bI_1.mp h
    have a := isI_g g.1 (by decide) (M := 15) (by decide)
    have b := isI_g g.2 (by decide) (M := 100) (by decide)
    have b2 := i32le.mp g.2.1
    have e1 : (1 : Int32).toInt = 1 := rfl
    subst h0
    exact ⟨io 0 (by omega) rfl, fun _ => ⟨a.1, b.1, by omega⟩, fun z => absurd z (by decide), fun z => by rcases z with z | z <;> exact absurd z (by decide), fun z => by rcases z with z | z | z <;> exact absurd z (by decide), fun z => by rcases z with z | z | z <;> exact absurd z (by decide)⟩
  · rw [if_neg h0] at h
    by_cases h1 : o = 1
    · rw [if_pos h1] at h
      have a := isI_g (bI_1.mp h) (by decide) (M := 1000) (by decide)
      subst h1
      exact ⟨io 1 (by omega) rfl, fun z => absurd z (by decide), fun _ => a.1, fun z => by rcases z with z | z <;> exact absurd z (by decide), fun z => by rcases z with z | z | z <;> exact absurd z (by decide), fun z => by rcases z with z | z | z <;> exact absurd z (by decide)⟩
    · rw [if_neg h1] at h
      by_cases h2 : o = 2 ∨ o = 3
      · rw [if_pos h2] at h
        have g := bI_1.mp h
        have a := isI_g g.1 (by decide) (M := 7) (by decide)
        have b := jx (M := 1) g.2 (by decide)
        have b3 : y = 0 ∨ y = 1 := by
          rcases (by omega : pI y = 0 ∨ pI y = 1) with z | z
          · left; rw [b.1, z]; rfl
          · right; rw [b.1, z]; rfl
        refine ⟨?_, fun z => absurd z h0, fun z => absurd z h1, fun _ => ⟨a.1, b3⟩, fun z => ?_, fun z => ?_⟩
        · rcases h2 with z | z
          · exact io 2 (by omega) z
          · exact io 3 (by omega) z
        · rcases h2 with w | w <;> subst w <;> rcases z with z | z | z <;> exact absurd z (by decide)
        · rcases h2 with w | w <;> subst w <;> rcases z with z | z | z <;> exact absurd z (by decide)
      · rw [if_neg h2] at h
        by_cases h4 : o = 4 ∨ o = 5 ∨ o = 11
        · rw [if_pos h4] at h
          have a := isI_g (bI_1.mp h) (by decide) (M := 59) (by decide)
          refine ⟨?_, fun z => absurd z h0, fun z => absurd z h1, fun z => absurd z h2, fun _ => a.1, fun z => ?_⟩
          · rcases h4 with z | z | z
            · exact io 4 (by omega) z
            · exact io 5 (by omega) z
            · exact io 11 (by omega) z
          · rcases h4 with w | w | w <;> subst w <;> rcases z with z | z | z <;> exact absurd z (by decide)
        · rw [if_neg h4] at h
          by_cases h7 : o = 7 ∨ o = 8 ∨ o = 9
          · rw [if_pos h7] at h
            have a := isI_g (bI_1.mp h) (by decide) (M := 7) (by decide)
            refine ⟨?_, fun z => absurd z h0, fun z => absurd z h1, fun z => absurd z h2, fun z => absurd z h4, fun _ => a.1⟩
            rcases h7 with z | z | z
            · exact io 7 (by omega) z
            · exact io 8 (by omega) z
            · exact io 9 (by omega) z
          · rw [if_neg h7] at h
            have g := bI_1.mp h
            refine ⟨?_, fun z => absurd z h0, fun z => absurd z h1, fun z => absurd z h2, fun z => absurd z h4, fun z => absurd z h7⟩
            rcases g with z | z
            · exact io 6 (by omega) z
            · exact io 10 (by omega) z
/-- each call keeps it -/
theorem iv_jt {j kd ln pc rs : Int32} {cf : Nat → Nat → Int32} {R : Nat → Int64} {T : Nat} (h : Inv cf R T) : Inv (jtS j kd ln pc rs cf R).2.1 (jtS j kd ln pc rs cf R).2.2 (T + 200) := by
  unfold jtS
  by_cases g : jtG j kd ln pc rs
  · rw [if_pos g]
    by_cases g2 : R 28 = 1
    · rw [if_pos g2]; exact inv_up h (by omega)
    · rw [if_neg g2]
      obtain ⟨g1, g2, g3, g4, g5⟩ := g
      have a := isI_g g4 (by decide) (M := 100000) (by decide)
      have b := isI_g g5 (by decide) (M := 100000) (by decide)
      have a1 := i32le.mp g4.1
      have b1 := i32le.mp g5.1
      have c1 := i32le.mp g3.1
      have c2 := i32le.mp g3.2
      have e1 : (1 : Int32).toInt = 1 := rfl
      have e0 : (0 : Int32).toInt = 0 := rfl
      have e2 : (1000 : Int32).toInt = 1000 := rfl
      have bb : bI (kd = 1) = 0 ∨ bI (kd = 1) = 1 := by
        by_cases z : kd = 1
        · exact Or.inr (bI_t z)
        · exact Or.inl (bI_f z)
      exact inv_cf h (by omega) (c_8 (c_7 (c_4 (c_3 h.1 bb) (by omega)) ⟨a.1, by omega⟩) ⟨b.1, by omega⟩) (fun k => rfl)
  · rw [if_neg g]; exact inv_up h (by omega)
theorem iv_lm {j x y : Int32} {cf : Nat → Nat → Int32} {R : Nat → Int64} {T : Nat} (h : Inv cf R T) : Inv (lmS j x y cf R).2.1 (lmS j x y cf R).2.2 (T + 200) := by
  unfold lmS
  by_cases g : lmG j x y
  · rw [if_pos g]
    by_cases g2 : R 28 = 1
    · rw [if_pos g2]; exact inv_up h (by omega)
    · rw [if_neg g2]
      by_cases g3 : x ≤ (R (pI j)).toInt32 ∧ (R (pI j)).toInt32 ≤ y
      · rw [if_pos g3]
        obtain ⟨q1, q2, q3⟩ := g
        have a1 := i32le.mp q2.1
        have a2 := i32le.mp q2.2
        have a3 := i32le.mp q3.1
        have a4 := i32le.mp q3.2
        have e1 : (-1000000 : Int32).toInt = -1000000 := rfl
        have e2 : (1000000 : Int32).toInt = 1000000 := rfl
        exact inv_cf h (by omega) (c_6 (c_5 h.1 (by omega)) (by omega)) (fun k => rfl)
      · rw [if_neg g3]; exact inv_up h (by omega)
  · rw [if_neg g]; exact inv_up h (by omega)
theorem iv_jg {j x : Int32} {cf : Nat → Nat → Int32} {R : Nat → Int64} {T : Nat} (h : Inv cf R T) : Inv (jgS j x cf R).2.1 (jgS j x cf R).2.2 (T + 200) := by
  unfold jgS
  by_cases g : (0 ≤ j ∧ j ≤ 3) ∧ (cf 5 (pI j) ≤ x ∧ x ≤ cf 6 (pI j))
  · rw [if_pos g]
    by_cases g2 : R 28 = 1
    · rw [if_pos g2]; exact inv_up h (by omega)
    · rw [if_neg g2]
      obtain ⟨hj, hj3⟩ := jx (M := 3) g.1 (by decide)
      obtain ⟨l1, l2⟩ := h.1.2.2.2.2.2.2.2.2.2.2 (pI j) (by omega)
      have a1 := i32le.mp g.2.1
      have a2 := i32le.mp g.2.2
      have hf : FR (pI j) x.toInt64 := (fr_st (by omega)).mpr (by rw [i_l]; omega)
      refine inv_R h (by omega) ⟨fa_u h.2.1.1 hf, xr_c h.2.1.2 (fun y hy => up1_k (by omega))⟩ (fun y h1 h2 => up1_k (by omega)) ?_
      show isN (up1 R (pI j) x.toInt64 29) (T + 200)
      rw [up1_k (by omega)]; exact isN_up h.2.2.2.2 (by omega)
  · rw [if_neg g]; exact inv_up h (by omega)
theorem iv_ub {k : Int32} {cf : Nat → Nat → Int32} {R : Nat → Int64} {T : Nat} (h : Inv cf R T) : Inv (ubS k cf R).2.1 (ubS k cf R).2.2 (T + 200) := by
  unfold ubS
  split
  · split
    · exact inv_up h (by omega)
    · split
      · exact inv_up h (by omega)
      · exact inv_cf h (by omega) (c_9 h.1 (Or.inl rfl)) (fun k => rfl)
  · exact inv_up h (by omega)
theorem iv_in {i on : Int32} {cf : Nat → Nat → Int32} {R : Nat → Int64} {T : Nat} (h : Inv cf R T) : Inv (inS i on cf R).2.1 (inS i on cf R).2.2 (T + 200) := by
  unfold inS
  by_cases g : 0 ≤ i ∧ i ≤ 7
  · rw [if_pos g]
    obtain ⟨hj, hj3⟩ := jx (M := 7) g (by decide)
    have hf : FR (4 + pI i) (if on = 0 then 0 else 1) := (fr_io (by omega) (by omega)).mpr (by split; exact isN_mk (n := 0) (by omega) (by omega); exact isN_mk (n := 1) (by omega) (by omega))
    refine inv_R h (by omega) ⟨fa_u h.2.1.1 hf, xr_c h.2.1.2 (fun y hy => up1_k (by omega))⟩ (fun y h1 h2 => up1_k (by omega)) ?_
    show isN (up1 R (4 + pI i) _ 29) (T + 200)
    rw [up1_k (by omega)]; exact isN_up h.2.2.2.2 (by omega)
  · rw [if_neg g]; exact inv_up h (by omega)
theorem iv_cl {cf : Nat → Nat → Int32} {R : Nat → Int64} {T : Nat} (h : Inv cf R T) : Inv (clS cf R).2.1 (clS cf R).2.2 (T + 200) := by
  unfold clS
  split
  · exact inv_up h (by omega)
  · exact inv_cf h (by omega) (c_cl h.1) (fun k => rfl)
theorem iv_sc {t i on : Int32} {cf : Nat → Nat → Int32} {R : Nat → Int64} {T : Nat} (h : Inv cf R T) (hon : on = 0 ∨ on = 1) : Inv (scS t i on cf R).2.1 (scS t i on cf R).2.2 (T + 200) := by
  unfold scS
  by_cases g : (1 ≤ t ∧ t ≤ 100000) ∧ (0 ≤ i ∧ i ≤ 7)
  · rw [if_pos g]
    by_cases g2 : cf 0 16 = 40
    · rw [if_pos g2]; exact inv_up h (by omega)
    · rw [if_neg g2]
      exact inv_cf h (by omega) (c_sc h.1 (isI_g g.2 (by decide) (M := 7) (by decide)).1 hon g2) (fun k => rfl)
  · rw [if_neg g]; exact inv_up h (by omega)
theorem iv_li {o x y : Int32} {cf : Nat → Nat → Int32} {R : Nat → Int64} {T : Nat} (h : Inv cf R T) : Inv (liS o x y cf R).2.1 (liS o x y cf R).2.2 (T + 200) := by
  unfold liS
  by_cases g : lnB o x y = 0
  · rw [if_pos g]; exact inv_up h (by omega)
  · rw [if_neg g]
    by_cases g1 : R 28 = 1
    · rw [if_pos g1]; exact inv_up h (by omega)
    · rw [if_neg g1]
      by_cases g2 : cf 0 12 = 60
      · rw [if_pos g2]; exact inv_up h (by omega)
      · rw [if_neg g2]
        exact inv_cf h (by omega) (c_ln h.1 (lnB_ok g) g2) (fun k => rfl)
theorem iv_bx {k x0 y0 x1 y1 : Int32} {cf : Nat → Nat → Int32} {R : Nat → Int64} {T : Nat} (h : Inv cf R T) : Inv (bxS k x0 y0 x1 y1 cf R).2.1 (bxS k x0 y0 x1 y1 cf R).2.2 (T + 200) := by
  by_cases g : bxG k x0 y0 x1 y1
  · by_cases g2 : R 28 = 1 ∨ inB (tpC cf R).1 (tpC cf R).2 x0 y0 x1 y1
    · have e : bxS k x0 y0 x1 y1 cf R = (.int (-3), cf, R) := by unfold bxS; rw [if_pos g, if_pos g2]
      rw [e]; exact inv_up h (by omega)
    · have e : bxS k x0 y0 x1 y1 cf R = (.int 1, bxC k x0 y0 x1 y1 cf, R) := by unfold bxS; rw [if_pos g, if_neg g2]
      rw [e]
      unfold bxC
      exact inv_cf h (by omega) (c_10 (c_10 (c_10 (c_10 (c_9 h.1 (Or.inr rfl)))))) (fun k => rfl)
  · have e : bxS k x0 y0 x1 y1 cf R = (.int (-2), cf, R) := by unfold bxS; rw [if_neg g]
    rw [e]; exact inv_up h (by omega)
theorem iv_tc {k : Int32} {cf : Nat → Nat → Int32} {R : Nat → Int64} {T : Nat} (h : Inv cf R T) : Inv (tcS k cf R).2.1 (tcS k cf R).2.2 (T + 200) := by
  unfold tcS
  split
  · have q := c_11 (n := pI k) (v := 1) h.1 (Or.inr rfl)
    have q2 := c_12 (n := pI k) (f := fun j => (R j).toInt32) q (fun j hj => by rw [(l_sm ((fr_st hj).mp (h.2.1.1 j))).2]; exact (fr_st hj).mp (h.2.1.1 j))
    rw [show up2 cf 11 (pI k) 1 12 = cf 12 from up2_f (by omega)] at q2
    exact inv_cf h (by omega) q2 (fun k => rfl)
  · exact inv_up h (by omega)
theorem iv_rn {cf : Nat → Nat → Int32} {R : Nat → Int64} {T : Nat} (h : Inv cf R T) : Inv (rnS cf R).2.1 (rnS cf R).2.2 (T + 200) := by
  unfold rnS
  by_cases g : R 28 = 1
  · rw [if_pos g]; exact inv_up h (by omega)
  · rw [if_neg g]
    have hz : ∀ k, FR k 0 := fun k => z_F
    have f1 : FA (up1 R 28 1) := fa_u h.2.1.1 (isN_mk (n := 1) (m := 3) (by omega) (by omega))
    have f2 : FA (setn (up1 R 28 1) 29 runF 22) := fa_n f1 (fun j hj => by
      unfold runF
      split
      · next q =>
        rcases q with q | q | q
        · subst q; exact (Or.inl rfl : (-1 : Int64) = -1 ∨ isN (-1) 59)
        · subst q; exact (Or.inl rfl : (-1 : Int64) = -1 ∨ isN (-1) 7)
        · subst q; exact (Or.inl rfl : (-1 : Int64) = -1 ∨ isN (-1) 7)
      · exact z_F)
    have f3 := fa_n (o := 12) (n := 8) (f := fun _ => 0) f2 (fun j hj => z_F)
    have f4 := fa_n (o := 20) (n := 8) (f := fun _ => 0) f3 (fun j hj => z_F)
    refine inv_R h (by omega) ⟨f4, xr_0 rfl rfl⟩ (fun y h1 h2 => ?_) (isN_mk (n := 0) (by omega) (by omega))
    show runR R y = R y
    unfold runR
    rw [setn_o (by omega), setn_o (by omega), setn_o (by omega), up1_k (by omega)]
theorem iv_sp {cf : Nat → Nat → Int32} {R : Nat → Int64} {T : Nat} (h : Inv cf R T) : Inv (spS cf R).2.1 (spS cf R).2.2 (T + 200) := by
  unfold spS
  split
  · have f : FA (stopR R) := by
      unfold stopR
      exact fa_u (fa_u (fa_u (fa_u h.2.1.1 (isN_mk (n := 3) (m := 3) (by omega) (by omega))) (isN_mk (n := 9) (m := 9) (by omega) (by omega))) z_F) z_F
    refine inv_R h (by omega) ⟨f, xr_0 rfl rfl⟩ (fun y h1 h2 => ?_) (isN_up h.2.2.2.2 (by omega))
    show stopR R y = R y
    unfold stopR
    rw [up1_k (by omega), up1_k (by omega), up1_k (by omega), up1_k (by omega)]
  · exact inv_up h (by omega)
theorem tkN_ok {cf : Nat → Nat → Int32} (hc : CfR cf) : ∀ (n : Nat) (r : Nat → Int64) (T : Nat), T + n < 4000000000 → RR r → isN (r 29) T → (∀ y, 68 ≤ y → tickN cf n r y = r y) ∧ isN (tickN cf n r 29) (T + n)
  | 0, r, T, hT, h, ht => ⟨fun _ _ => rfl, ht⟩
  | n + 1, r, T, hT, h, ht => by
    show (∀ y, 68 ≤ y → (if r 28 = 1 then tickN cf n (ticksR cf r) else r) y = r y) ∧ isN ((if r 28 = 1 then tickN cf n (ticksR cf r) else r) 29) (T + (n + 1))
    by_cases g : r 28 = 1
    · rw [if_pos g]
      have a := hi_68 hc h g
      have b := tkN_ok hc n (ticksR cf r) (T + 1) (by omega) (rr_ticks hc h g) (by rw [a.2]; exact (isN_1 ht (by omega)).1)
      exact ⟨fun y hy => (b.1 y hy).trans (a.1 y hy), isN_up b.2 (by omega)⟩
    · rw [if_neg g]; exact ⟨fun _ _ => rfl, isN_up ht (by omega)⟩
theorem iv_tk {v : Int32} {cf : Nat → Nat → Int32} {R : Nat → Int64} {T : Nat} (h : Inv cf R T) (hT : T < 1000000000) : Inv cf (tickA cf v R).2 (T + 200) := by
  unfold tickA
  by_cases g : 1 ≤ v ∧ v ≤ 200
  · rw [if_pos g]
    obtain ⟨v1, v2⟩ := shx200 g
    have b := tkN_ok h.1 (pI v) R T (by omega) h.2.1 h.2.2.2.2
    exact inv_R h (by omega) (rr_tickN h.1 _ _ h.2.1) (fun y h1 h2 => b.1 y h1) (isN_up b.2 (by omega))
  · rw [if_neg g]; exact inv_up h (by omega)
theorem iv_kp {k : Int32} {cf : Nat → Nat → Int32} {R : Nat → Int64} {T : Nat} (h : Inv cf R T) : Inv (kpS k cf R).2.1 (kpS k cf R).2.2 (T + 200) := by
  unfold kpS
  by_cases g : 0 ≤ k ∧ k ≤ 3
  · rw [if_pos g]
    obtain ⟨hk, hk3⟩ := jx (M := 3) g (by decide)
    have lo : ∀ y, y < 68 → cpR (pI k + 1) 0 R y = R y := fun y hy => cp_hi (by omega)
    refine ⟨c_2 h.1, rr_c h.2.1 lo, fun k2 hk2 => ?_, fun k2 hk2 hn => ?_, by show isN (cpR (pI k + 1) 0 R 29) _; rw [lo 29 (by omega)]; exact isN_up h.2.2.2.2 (by omega)⟩
    · by_cases e : k2 = pI k
      · subst e; exact Or.inr (up2_s _ _ _ _)
      · rw [show (Value.int 1, up2 cf 2 (pI k) 1, cpR (pI k + 1) 0 R).2.1 2 k2 = cf 2 k2 from up2_k e]; exact h.2.2.1 k2 hk2
    · by_cases e : k2 = pI k
      · subst e
        have q : ∀ y, y < 68 → cpR (pI k + 1) 0 R (68 * (pI k + 1) + y) = R y := fun y hy => by rw [cp_lo hy, show 68 * 0 + y = y by omega]
        exact ⟨rr_c h.2.1 q, by show isN (cpR (pI k + 1) 0 R (68 * (pI k + 1) + 29)) _; rw [q 29 (by omega)]; exact isN_up h.2.2.2.2 (by omega)⟩
      · have hn2 : cf 2 k2 ≠ 0 := fun z => hn ((up2_k e).trans z)
        have q := h.2.2.2.1 k2 hk2 hn2
        have w : ∀ y, y < 68 → cpR (pI k + 1) 0 R (68 * (k2 + 1) + y) = R (68 * (k2 + 1) + y) := fun y hy => cp_hi (by omega)
        exact ⟨rr_c q.1 w, by show isN (cpR (pI k + 1) 0 R (68 * (k2 + 1) + 29)) _; rw [w 29 (by omega)]; exact isN_up q.2 (by omega)⟩
  · rw [if_neg g]; exact inv_up h (by omega)
theorem iv_bk {k : Int32} {cf : Nat → Nat → Int32} {R : Nat → Int64} {T : Nat} (h : Inv cf R T) : Inv (bkS k cf R).2.1 (bkS k cf R).2.2 (T + 200) := by
  unfold bkS
  by_cases g : 0 ≤ k ∧ k ≤ 3
  · rw [if_pos g]
    by_cases g2 : agP cf R (pI k)
    · rw [if_pos g2]
      obtain ⟨hk, hk3⟩ := jx (M := 3) g (by decide)
      have q := h.2.2.2.1 (pI k) (by omega) g2.1
      have e : ∀ y, y < 68 → cpR 0 (pI k + 1) R y = R (68 * (pI k + 1) + y) := fun y hy => cp_0 hy
      exact inv_R h (by omega) (rr_c q.1 e) (fun y h1 h2 => cp_hi (by omega)) (by show isN (cpR 0 (pI k + 1) R 29) _; rw [e 29 (by omega)]; exact isN_up q.2 (by omega))
    · rw [if_neg g2]; exact inv_up h (by omega)
  · rw [if_neg g]; exact inv_up h (by omega)
theorem iv_rp {k n : Int32} {cf : Nat → Nat → Int32} {R : Nat → Int64} {T : Nat} (h : Inv cf R T) : Inv (rpS k n cf R).2.1 (rpS k n cf R).2.2 (T + 200) := by
  have e : (rpS k n cf R).2.1 = cf ∧ ((rpS k n cf R).2.2 = R ∨ (rpS k n cf R).2.2 = cpR 5 0 R) := by
    by_cases g : (0 ≤ k ∧ k ≤ 3) ∧ (1 ≤ n ∧ n ≤ 100)
    · by_cases g2 : agP cf R (pI k)
      · have e : rpS k n cf R = (.int (dfI cf (rpP k R) (rpQ cf k n R) (pI n)), cf, cpR 5 0 R) := by unfold rpS; rw [if_pos g, if_pos g2]
        rw [e]; exact ⟨rfl, Or.inr rfl⟩
      · have e : rpS k n cf R = (.int (-3), cf, R) := by unfold rpS; rw [if_pos g, if_neg g2]
        rw [e]; exact ⟨rfl, Or.inl rfl⟩
    · have e : rpS k n cf R = (.int (-2), cf, R) := by unfold rpS; rw [if_neg g]
      rw [e]; exact ⟨rfl, Or.inl rfl⟩
  rw [e.1]
  rcases e.2 with z | z
  · rw [z]; exact inv_up h (by omega)
  · rw [z]
    have lo : ∀ y, y < 340 → cpR 5 0 R y = R y := fun y hy => cp_hi (by omega)
    exact inv_R h (by omega) (rr_c h.2.1 (fun y hy => lo y (by omega))) (fun y h1 h2 => lo y h2) (by rw [lo 29 (by omega)]; exact isN_up h.2.2.2.2 (by omega))
