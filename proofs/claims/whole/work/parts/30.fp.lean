/-! DOUBLES: what is finite, on a grid and bounded stays so -/
abbrev fk (x : UInt64) : FP.Core.Datum := FP.Core.decode FP.Core.b64 x.toNat
theorem fp_tails : FP.Core.b64.tails = 4503599627370496 := by decide
theorem fp_exps : FP.Core.b64.exps = 2048 := by decide
theorem fp_qmin : FP.Core.b64.qmin = -1074 := by decide
theorem fp_qmax : FP.Core.b64.qmax = 971 := by decide
theorem fp_2p : 2 ^ FP.Core.b64.p = 9007199254740992 := by decide
theorem fp_p : FP.Core.b64.p = 53 := rfl
/-- a datum of the format, not infinite -/
def fpF (c : Nat) (q : Int) : Prop := c < 9007199254740992 ∧ -1074 ≤ q ∧ q ≤ 971 ∧ (q = -1074 ∨ 4503599627370496 ≤ c)
theorem fp_e1 (s : Bool) (c : Nat) (q : Int) : FP.Core.encode FP.Core.b64 (.fin s c q) = if c < 4503599627370496 then (s.toNat * 2048 + 0) * 4503599627370496 + c else (s.toNat * 2048 + ((q - -1074).toNat + 1)) * 4503599627370496 + (c - 4503599627370496) := rfl
theorem fp_eq {s t : Bool} {c d : Nat} {q r : Int} (h1 : s = t) (h2 : c = d) (h3 : q = r) : FP.Core.Datum.fin s c q = FP.Core.Datum.fin t d r := by subst h1; subst h2; subst h3; rfl
theorem fp_enc {s : Bool} {c : Nat} {q : Int} (h : fpF c q) : FP.Core.encode FP.Core.b64 (.fin s c q) < 18446744073709551616 ∧ FP.Core.decode FP.Core.b64 (FP.Core.encode FP.Core.b64 (.fin s c q)) = .fin s c q := by
  obtain ⟨h1, h2, h3, h4⟩ := h
  rw [fp_e1]
  by_cases hc : c < 4503599627370496
  · rw [if_pos hc]
    have hq : q = -1074 := by omega
    subst hq
    unfold FP.Core.decode FP.Core.fieldE FP.Core.fieldT FP.Core.fieldS
    rw [fp_tails, fp_exps, fp_qmin]
    cases s
    · refine ⟨by simp; omega, ?_⟩
      simp only [Bool.toNat_false]
      rw [if_neg (by omega), if_pos (by omega)]
      refine fp_eq ?_ ?_ rfl
      · simp; omega
      · omega
    · refine ⟨by simp; omega, ?_⟩
      simp only [Bool.toNat_true]
      rw [if_neg (by omega), if_pos (by omega)]
      refine fp_eq ?_ ?_ rfl
      · simp; omega
      · omega
  · rw [if_neg hc]
    obtain ⟨k, hk⟩ : ∃ k : Nat, (q - -1074).toNat = k := ⟨_, rfl⟩
    rw [hk]
    have hkq : q = -1074 + (k : Int) := by omega
    have hk2 : k ≤ 2045 := by omega
    unfold FP.Core.decode FP.Core.fieldE FP.Core.fieldT FP.Core.fieldS
    rw [fp_tails, fp_exps, fp_qmin]
    cases s
    · refine ⟨by simp; omega, ?_⟩
      simp only [Bool.toNat_false]
      rw [if_neg (by omega), if_neg (by omega)]
      refine fp_eq ?_ ?_ ?_
      · simp; omega
      · omega
      · omega
    · refine ⟨by simp; omega, ?_⟩
      simp only [Bool.toNat_true]
      rw [if_neg (by omega), if_neg (by omega)]
      refine fp_eq ?_ ?_ ?_
      · simp; omega
      · omega
      · omega
theorem fp_dec {x : UInt64} {s : Bool} {c : Nat} {q : Int} (h : fk x = .fin s c q) : fpF c q := by
  unfold fk FP.Core.decode FP.Core.fieldE FP.Core.fieldT FP.Core.fieldS at h
  rw [fp_tails, fp_exps, fp_qmin] at h
  have hx := x.toNat_lt
  unfold fpF
  split at h
  · split at h <;> cases h
  · split at h
    · cases h; omega
    · cases h; omega
/-- the bits again, out of sign, figures and exponent -/
theorem fp_of {x : UInt64} {s : Bool} {c : Nat} {q : Int} (h : fk x = .fin s c q) : x = UInt64.ofNat (FP.Core.encode FP.Core.b64 (.fin s c q)) := by
  have hx : x.toNat < 18446744073709551616 := x.toNat_lt
  have key : FP.Core.encode FP.Core.b64 (.fin s c q) = x.toNat := by
    unfold fk FP.Core.decode FP.Core.fieldE FP.Core.fieldT FP.Core.fieldS at h
    rw [fp_tails, fp_exps, fp_qmin] at h
    rw [fp_e1]
    split at h
    · split at h <;> cases h
    · split at h
      · cases h
        rw [if_pos (by omega)]
        rcases Nat.mod_two_eq_zero_or_one (x.toNat / 4503599627370496 / 2048) with hs | hs
        · rw [hs, show ((0 : Nat) == 1).toNat = 0 from rfl]; omega
        · rw [hs, show ((1 : Nat) == 1).toNat = 1 from rfl]; omega
      · cases h
        rw [if_neg (by omega)]
        rcases Nat.mod_two_eq_zero_or_one (x.toNat / 4503599627370496 / 2048) with hs | hs
        · rw [hs, show ((0 : Nat) == 1).toNat = 0 from rfl]; omega
        · rw [hs, show ((1 : Nat) == 1).toNat = 1 from rfl]; omega
  rw [key]
  simp
/-- the exact value c 2^q is N of the least numbers -/
def fpN (c : Nat) (q : Int) (N : Nat) : Prop := c * 2 ^ (q + 1074).toNat = N * 2 ^ (-1074 - q).toNat
theorem fp_pow {a b : Nat} (h : a ≤ b) : 2 ^ b = 2 ^ a * 2 ^ (b - a) := by
  rw [← Nat.pow_add]
  congr 1
  omega
theorem fp_near1 (n : Nat) : FP.Core.nearest n 1 = n := by
  unfold FP.Core.nearest
  simp [Nat.mod_one]
theorem fp_nearE (M B : Nat) (hB : 0 < B) : FP.Core.nearest (M * B) B = M := by
  unfold FP.Core.nearest
  rw [Nat.mul_mod_left, Nat.mul_div_cancel _ hB]
  simp [hB]
theorem fp_nearLe {A B M : Nat} (hB : 0 < B) (h : A ≤ M * B) : FP.Core.nearest A B ≤ M := by
  unfold FP.Core.nearest
  rcases Nat.lt_or_ge A (M * B) with h1 | h1
  · have h2 : A / B < M := (Nat.div_lt_iff_lt_mul hB).mpr h1
    split
    · omega
    · split
      · omega
      · have : A / B % 2 ≤ 1 := by omega
        omega
  · have h2 : A = M * B := Nat.le_antisymm h h1
    subst h2
    rw [Nat.mul_mod_left, Nat.mul_div_cancel _ hB]
    simp [hB]
theorem fp_nearGe {A B M : Nat} (hB : 0 < B) (h : M * B ≤ A) : M ≤ FP.Core.nearest A B := by
  have h1 : M ≤ A / B := (Nat.le_div_iff_mul_le hB).mpr h
  unfold FP.Core.nearest
  split
  · exact h1
  · split <;> omega
theorem fp_lead {c : Nat} (hc : 0 < c) : FP.Core.leading c 1 = (c.log2 : Int) := by
  unfold FP.Core.leading
  have h1 : Nat.log2 1 = 0 := by decide
  have h2 : 2 ^ c.log2 ≤ c := Nat.log2_self_le (by omega)
  simp only [h1]
  rw [if_pos]
  · simp
  · simp
    exact h2
