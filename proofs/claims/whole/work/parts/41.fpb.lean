/-- the double c 2^k -/
def fkd (c : Nat) (k : Int) : UInt64 := UInt64.ofNat (FP.Core.encode FP.Core.b64 (.fin false c k))
def fpC (c : Nat) : Prop := 4503599627370496 ≤ c ∧ c < 9007199254740992
theorem fkd_k {c : Nat} {k : Int} (hc : fpC c) (h1 : -1074 ≤ k) (h2 : k ≤ 900) : fk (fkd c k) = .fin false c k := fk_of ⟨hc.2, h1, by omega, Or.inr hc.1⟩
theorem fk_two : fk 4611686018427387904 = .fin false 4503599627370496 (-51) := by decide +kernel
theorem fk_p52 : fk 4841369599423283200 = .fin false 4503599627370496 0 := by decide +kernel
theorem fk_p53 : fk 4845873199050653696 = .fin false 4503599627370496 1 := by decide +kernel
theorem fkd_mul {c : Nat} {k : Int} (hc : fpC c) (h1 : -1074 ≤ k) (h2 : k ≤ 800) : FP.dmul (fkd c k) 4611686018427387904 = fkd c (k + 1) := by
  rw [fk_dmul, fkd_k hc h1 (by omega), fk_two]
  have e : FP.Core.exactProduct (.fin false c k) (.fin false 4503599627370496 (-51)) = .fin false (c * 4503599627370496) (k + -51) := rfl
  rw [e, fp_exact (c0 := c) (q0 := k + 1) (Nat.mul_pos (by have := hc.1; omega) (by omega)) (by have := hc.1; omega) ⟨hc.2, by omega, by omega, Or.inr hc.1⟩]
  · rfl
  · unfold fpN
    rw [show (4503599627370496 : Nat) = 2 ^ 52 by decide, Nat.mul_assoc, Nat.mul_assoc, ← Nat.pow_add, ← Nat.pow_add]
    congr 2
    omega
theorem fk_dcmp (x y : UInt64) : FP.dcmp x y = FP.Core.order (fk x) (fk y) := rfl
theorem fkd_lt {c : Nat} {k : Int} (hc : fpC c) (h1 : -1074 ≤ k) (h2 : k < 0) : FP.dcmp (fkd c k) 4841369599423283200 = some .lt := by
  rw [fk_dcmp, fkd_k hc h1 (by omega), fk_p52]
  show some (compare (FP.Core.signed false (FP.Core.inUnits c k (min k 0))) (FP.Core.signed false (FP.Core.inUnits 4503599627370496 0 (min k 0)))) = _
  rw [show min k 0 = k by omega]
  unfold FP.Core.inUnits FP.Core.signed
  rw [show (k - k).toNat = 0 by omega, Nat.pow_zero, Nat.mul_one]
  refine congrArg some ?_
  refine Int.compare_eq_lt.mpr ?_
  have : 2 ≤ 2 ^ (0 - k).toNat := by
    rw [show (2 : Nat) = 2 ^ 1 by rfl]
    exact Nat.pow_le_pow_right (by omega) (by omega)
  have h3 := Nat.mul_le_mul_left 4503599627370496 this
  have := hc.2
  show (c : Int) < ((4503599627370496 * 2 ^ (0 - k).toNat : Nat) : Int)
  omega
theorem fkd_ge {c : Nat} (hc : fpC c) : FP.dcmp (fkd c 0) 4841369599423283200 = some .gt ∨ FP.dcmp (fkd c 0) 4841369599423283200 = some .eq := by
  rw [fk_dcmp, fkd_k hc (by omega) (by omega), fk_p52]
  show some (compare (FP.Core.signed false (FP.Core.inUnits c 0 (min 0 0))) (FP.Core.signed false (FP.Core.inUnits 4503599627370496 0 (min 0 0)))) = _ ∨ some (compare (FP.Core.signed false (FP.Core.inUnits c 0 (min 0 0))) (FP.Core.signed false (FP.Core.inUnits 4503599627370496 0 (min 0 0)))) = _
  have e : ∀ n : Nat, FP.Core.signed false (FP.Core.inUnits n 0 (min 0 0)) = (n : Int) := fun n => by
    unfold FP.Core.inUnits FP.Core.signed
    simp
  rw [e, e]
  rcases Nat.lt_or_ge 4503599627370496 c with h | h
  · left
    refine congrArg some ?_
    exact Int.compare_eq_gt.mpr (by omega)
  · right
    have := hc.1
    rw [show c = 4503599627370496 by omega]
    decide
theorem fkd_53 {c : Nat} {k : Int} (hc : fpC c) (h1 : -1074 ≤ k) (h2 : k ≤ 0) : FP.dcmp (fkd c k) 4845873199050653696 = some .lt := by
  rw [fk_dcmp, fkd_k hc h1 (by omega), fk_p53]
  show some (compare (FP.Core.signed false (FP.Core.inUnits c k (min k 1))) (FP.Core.signed false (FP.Core.inUnits 4503599627370496 1 (min k 1)))) = _
  rw [show min k 1 = k by omega]
  unfold FP.Core.inUnits FP.Core.signed
  rw [show (k - k).toNat = 0 by omega, Nat.pow_zero, Nat.mul_one]
  refine congrArg some ?_
  refine Int.compare_eq_lt.mpr ?_
  have : 2 ≤ 2 ^ (1 - k).toNat := by
    rw [show (2 : Nat) = 2 ^ 1 by rfl]
    exact Nat.pow_le_pow_right (by omega) (by omega)
  have h3 := Nat.mul_le_mul_left 4503599627370496 this
  have := hc.2
  show (c : Int) < ((4503599627370496 * 2 ^ (1 - k).toNat : Nat) : Int)
  omega
theorem fkd_d2l {c : Nat} (hc : fpC c) : FP.d2l (fkd c 0) = lN c := by
  have e : FP.d2l (fkd c 0) = FP.Core.toL (fk (fkd c 0)) := rfl
  rw [e, fkd_k hc (by omega) (by omega)]
  have h : FP.Core.toInt (-2 ^ 63) (2 ^ 63 - 1) (.fin false c 0) = (c : Int) := by
    show max (-2 ^ 63) (min (2 ^ 63 - 1) (FP.Core.truncate false c 0)) = _
    have : FP.Core.truncate false c 0 = (c : Int) := by
      unfold FP.Core.truncate FP.Core.signed
      simp
    rw [this]
    have := hc.2
    omega
  unfold FP.Core.toL
  rw [h]
  rfl
/-- 0.0 less a number below zero is its size -/
theorem fkd_neg {v : UInt64} {c : Nat} {q : Int} (h : fk v = .fin true c q) (hc : fpC c) : FP.dsub FP.dconst0 v = fkd c q := by
  have f := fp_dec h
  have q1 := f.2.1
  rw [fk_dsub, h, kf_0]
  have e : FP.Core.exactSum (.fin false 0 (-1074)) (FP.Core.negate (.fin true c q)) = .fin false (c * 2 ^ (q + 1074).toNat) (-1074) := by
    show FP.Core.Datum.fin (FP.Core.sumSign false (!true) (FP.Core.sumUnits false 0 (-1074) (!true) c q (min (-1074) q))) (FP.Core.sumUnits false 0 (-1074) (!true) c q (min (-1074) q)).natAbs (min (-1074) q) = _
    rw [show min (-1074) q = -1074 by omega]
    have w : FP.Core.sumUnits false 0 (-1074) (!true) c q (-1074) = ((c * 2 ^ (q + 1074).toNat : Nat) : Int) := by
      unfold FP.Core.sumUnits FP.Core.inUnits FP.Core.signed
      rw [show (q - -1074).toNat = (q + 1074).toNat by omega]
      simp
    rw [w]
    refine fp_eq ?_ (by omega) rfl
    unfold FP.Core.sumSign
    split
    · rfl
    · exact decide_eq_false (by omega)
  rw [e, fp_exact (c0 := c) (q0 := q) (Nat.mul_pos (by have := hc.1; omega) (Nat.two_pow_pos _)) (by have := hc.1; omega) f]
  · rfl
  · unfold fpN
    rw [show (-1074 + 1074 : Int).toNat = 0 by decide, show (-1074 - -1074 : Int).toNat = 0 by decide]
theorem fk_cmp0 {v : UInt64} {s : Bool} {c : Nat} {q : Int} (h : fk v = .fin s c q) : FP.dcmp v FP.dconst0 = some (if c = 0 then .eq else if s then .lt else .gt) := by
  have f := fp_dec h
  have q1 := f.2.1
  rw [fk_dcmp, h, kf_0]
  show some (compare (FP.Core.signed s (FP.Core.inUnits c q (min q (-1074)))) (FP.Core.signed false (FP.Core.inUnits 0 (-1074) (min q (-1074))))) = _
  have e0 : FP.Core.signed false (FP.Core.inUnits 0 (-1074) (min q (-1074))) = 0 := by
    unfold FP.Core.inUnits FP.Core.signed
    simp
  rw [e0]
  obtain ⟨u, hu⟩ : ∃ u, FP.Core.inUnits c q (min q (-1074)) = u := ⟨_, rfl⟩
  rw [hu]
  unfold FP.Core.inUnits at hu
  by_cases hc : c = 0
  · subst hc
    rw [Nat.zero_mul] at hu
    subst hu
    rw [if_pos rfl]
    cases s <;> rfl
  · rw [if_neg hc]
    have hu0 : 0 < u := by rw [← hu]; exact Nat.mul_pos (by omega) (Nat.two_pow_pos _)
    refine congrArg some ?_
    cases s
    · exact Int.compare_eq_gt.mpr (by show 0 < (u : Int); omega)
    · exact Int.compare_eq_lt.mpr (by show -(u : Int) < 0; omega)
/-- what bitsOf is asked of -/
theorem fg_cases {v : UInt64} (h : FG 52 1120 v) (hz : NZ v) : (v = 0) ∨ ∃ s c q, fk v = .fin s c q ∧ fpC c ∧ -1074 ≤ q ∧ q < 0 := by
  obtain ⟨s, c, q, h1, h2, h3⟩ := h
  have f := fp_dec h1
  obtain ⟨f1, f2, f3, f4⟩ := f
  rcases Nat.eq_zero_or_pos c with g | g
  · left
    subst g
    have hs := hz s 0 q h1 rfl
    subst hs
    rw [fp_of h1]
    rw [fp_e1, if_pos (by omega)]
    rfl
  · right
    have hc : 4503599627370496 ≤ c := by
      rcases f4 with e | e
      · subst e
        rw [show (-1074 + 1074 : Int).toNat = 0 by decide, Nat.pow_zero, Nat.mul_one] at h2
        have := Nat.le_of_dvd g h2
        rw [show (2 : Nat) ^ 52 = 4503599627370496 by decide] at this
        exact this
      · exact e
    refine ⟨s, c, q, h1, ⟨hc, f1⟩, f2, ?_⟩
    have h5 : 2 ^ (52 + (q + 1074).toNat) ≤ 2 ^ 1120 := by
      refine Nat.le_trans ?_ h3
      rw [Nat.pow_add]
      exact Nat.mul_le_mul_right _ (by rw [show (2 : Nat) ^ 52 = 4503599627370496 by decide]; exact hc)
    have := (Nat.pow_le_pow_iff_right (by omega)).mp h5
    omega
/-- the bits of a double, put together -/
theorem fk_bits {v : UInt64} {s : Bool} {c : Nat} {q : Int} (h : fk v = .fin s c q) (hc : fpC c) (h2 : q < 0) : v.toInt64 = lN ((s.toNat * 2048 + (q + 1075).toNat) * 4503599627370496 + (c - 4503599627370496)) := by
  have f := fp_dec h
  have q1 := f.2.1
  rw [fp_of h, fp_e1, if_neg (by have := hc.1; omega), show (q - -1074).toNat + 1 = (q + 1075).toNat by omega]
  rfl
