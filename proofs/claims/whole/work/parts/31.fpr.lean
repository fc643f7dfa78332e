theorem fp_r1 {s : Bool} {c : Nat} {q Q : Int} (hc : 0 < c) (hQ : Q = max (-1074) ((c.log2 : Int) + q - 52)) : FP.Core.round FP.Core.b64 (.fin s c q) = FP.Core.settle FP.Core.b64 s (FP.Core.nearest (c * 2 ^ (q - Q).toNat) (1 * 2 ^ (Q - q).toNat)) Q := by
  show FP.Core.roundRatio FP.Core.b64 s c 1 q = _
  unfold FP.Core.roundRatio
  rw [if_neg (by omega)]
  have h : FP.Core.quantum FP.Core.b64 c 1 q = Q := by
    unfold FP.Core.quantum
    rw [fp_lead hc, fp_qmin, hQ, fp_p]
    rfl
  rw [h]
  rfl
theorem fp_settle {s : Bool} {n : Nat} {Q : Int} (hn : n ≤ 9007199254740992) (hQ : Q ≤ 970) (h1 : -1074 ≤ Q) (h2 : Q = -1074 ∨ 4503599627370496 ≤ n) : ∃ c' q', FP.Core.settle FP.Core.b64 s n Q = .fin s c' q' ∧ fpF c' q' ∧ c' * 2 ^ (q' + 1074).toNat = n * 2 ^ (Q + 1074).toNat := by
  unfold FP.Core.settle FP.Core.bound
  rw [fp_2p, fp_qmax, fp_tails]
  by_cases h : n < 9007199254740992
  · rw [if_pos h, if_pos (by omega)]
    exact ⟨n, Q, rfl, ⟨h, h1, by omega, h2⟩, rfl⟩
  · rw [if_neg h, if_pos (by omega)]
    have hn2 : n = 9007199254740992 := by omega
    refine ⟨4503599627370496, Q + 1, rfl, ⟨by omega, by omega, by omega, Or.inr (by omega)⟩, ?_⟩
    rw [hn2, show (Q + 1 + 1074).toNat = (Q + 1074).toNat + 1 by omega, Nat.pow_succ]
    omega
theorem fp_round {s : Bool} {c N E : Nat} {q : Int} (hc : 0 < c) (hN : fpN c q N) (hE : N ≤ 2 ^ E) (hE2 : E ≤ 2040) : ∃ c' q', FP.Core.round FP.Core.b64 (.fin s c q) = .fin s c' q' ∧ fpF c' q' ∧ c' * 2 ^ (q' + 1074).toNat ≤ 2 ^ E ∧ 0 < c' ∧ ∀ G, 2 ^ G ∣ N → 2 ^ G ∣ c' * 2 ^ (q' + 1074).toNat := by
  obtain ⟨k, hk⟩ : ∃ k, c.log2 = k := ⟨_, rfl⟩
  have hk1 : 2 ^ k ≤ c := by rw [← hk]; exact Nat.log2_self_le (by omega)
  have hk2 : c < 2 ^ (k + 1) := by rw [← hk]; exact Nat.lt_log2_self
  obtain ⟨Q, hQ⟩ : ∃ Q : Int, Q = max (-1074) ((k : Int) + q - 52) := ⟨_, rfl⟩
  have hr := fp_r1 (s := s) (q := q) (Q := Q) hc (by rw [hk]; exact hQ)
  have hQ1 : -1074 ≤ Q := by omega
  have hQ2 : (k : Int) + q - 52 ≤ Q := by omega
  have hQ3 : Q = -1074 ∨ Q = (k : Int) + q - 52 := by omega
  have hN0 : 0 < N := by
    rcases Nat.eq_zero_or_pos N with h | h
    · subst h
      unfold fpN at hN
      rw [Nat.zero_mul] at hN
      have := Nat.mul_pos hc (Nat.two_pow_pos (q + 1074).toNat)
      omega
    · exact h
  -- the leading digit is within the bound
  have hlead : (k : Int) + q + 1074 ≤ (E : Int) := by
    unfold fpN at hN
    rcases Int.lt_or_le q (-1074) with h | h
    · obtain ⟨j, hj⟩ : ∃ j : Nat, (-1074 - q).toNat = j := ⟨_, rfl⟩
      rw [show (q + 1074).toNat = 0 by omega, hj] at hN
      have h1 : 2 ^ k ≤ 2 ^ (E + j) := by
        rw [Nat.pow_add]
        refine Nat.le_trans hk1 ?_
        rw [show c = N * 2 ^ j by omega]
        exact Nat.mul_le_mul_right _ hE
      have := (Nat.pow_le_pow_iff_right (by omega)).mp h1
      omega
    · obtain ⟨j, hj⟩ : ∃ j : Nat, (q + 1074).toNat = j := ⟨_, rfl⟩
      rw [show (-1074 - q).toNat = 0 by omega, hj] at hN
      have h1 : 2 ^ (k + j) ≤ 2 ^ E := by
        rw [Nat.pow_add]
        refine Nat.le_trans ?_ hE
        rw [show N = c * 2 ^ j by omega]
        exact Nat.mul_le_mul_right _ hk1
      have := (Nat.pow_le_pow_iff_right (by omega)).mp h1
      omega
  obtain ⟨A, hA⟩ : ∃ A : Nat, (Q + 1074).toNat = A := ⟨_, rfl⟩
  have hAE : A ≤ E := by omega
  rcases Int.lt_or_le q Q with h | h
  · -- digits are dropped
    obtain ⟨d, hd⟩ : ∃ d : Nat, (Q - q).toNat = d := ⟨_, rfl⟩
    rw [show (q - Q).toNat = 0 by omega, hd, Nat.pow_zero, Nat.mul_one, Nat.one_mul] at hr
    have hD : 0 < 2 ^ d := Nat.two_pow_pos d
    have hND : c * 2 ^ A = N * 2 ^ d := by
      unfold fpN at hN
      rcases Int.lt_or_le q (-1074) with g | g
      · obtain ⟨j, hj⟩ : ∃ j : Nat, (-1074 - q).toNat = j := ⟨_, rfl⟩
        rw [show (q + 1074).toNat = 0 by omega, hj] at hN
        rw [show d = j + A by omega, Nat.pow_add, show c = N * 2 ^ j by omega, Nat.mul_assoc]
      · obtain ⟨j, hj⟩ : ∃ j : Nat, (q + 1074).toNat = j := ⟨_, rfl⟩
        rw [show (-1074 - q).toNat = 0 by omega, hj] at hN
        rw [show A = j + d by omega, Nat.pow_add, show N = c * 2 ^ j by omega, Nat.mul_assoc]
    obtain ⟨n, hn⟩ : ∃ n, FP.Core.nearest c (2 ^ d) = n := ⟨_, rfl⟩
    rw [hn] at hr
    have hn53 : n ≤ 9007199254740992 := by
      rw [← hn]
      refine fp_nearLe hD ?_
      refine Nat.le_of_lt (Nat.lt_of_lt_of_le hk2 ?_)
      rw [show (9007199254740992 : Nat) = 2 ^ 53 by decide, ← Nat.pow_add]
      exact Nat.pow_le_pow_right (by omega) (by omega)
    have hn52 : Q = -1074 ∨ 4503599627370496 ≤ n := by
      rcases hQ3 with g | g
      · exact Or.inl g
      · right
        rw [← hn]
        refine fp_nearGe hD ?_
        rw [show (4503599627370496 : Nat) = 2 ^ 52 by decide, ← Nat.pow_add]
        refine Nat.le_trans (Nat.pow_le_pow_right (by omega) (by omega)) hk1
    obtain ⟨c', q', e1, e2, e3⟩ := fp_settle (s := s) hn53 (by omega) hQ1 hn52
    rw [hA] at e3
    have hle : n * 2 ^ A ≤ 2 ^ E := by
      have h1 : n ≤ 2 ^ (E - A) := by
        rw [← hn]
        refine fp_nearLe hD ?_
        have h2 : c * 2 ^ A ≤ 2 ^ (E - A) * 2 ^ d * 2 ^ A := by
          rw [hND]
          calc N * 2 ^ d ≤ 2 ^ E * 2 ^ d := Nat.mul_le_mul_right _ hE
            _ = 2 ^ (E - A) * 2 ^ d * 2 ^ A := by rw [fp_pow hAE]; ac_rfl
        exact Nat.le_of_mul_le_mul_right h2 (Nat.two_pow_pos A)
      calc n * 2 ^ A ≤ 2 ^ (E - A) * 2 ^ A := Nat.mul_le_mul_right _ h1
        _ = 2 ^ E := by rw [fp_pow hAE]; ac_rfl
    have hpos : 0 < n := by
      rcases hn52 with g | g
      · have hA0 : A = 0 := by omega
        rw [hA0, Nat.pow_zero, Nat.mul_one] at hND
        rw [← hn, hND, fp_nearE _ _ hD]
        exact hN0
      · omega
    refine ⟨c', q', hr.trans e1, e2, by rw [e3]; exact hle, ?_, fun G hG => ?_⟩
    · rcases Nat.eq_zero_or_pos c' with g | g
      · subst g
        rw [Nat.zero_mul] at e3
        have := Nat.mul_pos hpos (Nat.two_pow_pos A)
        omega
      · exact g
    · rw [e3]
      rcases Nat.lt_or_ge A G with g | g
      · obtain ⟨m, hm⟩ := hG
        have h2 : c = 2 ^ (G - A) * m * 2 ^ d := by
          refine Nat.eq_of_mul_eq_mul_right (Nat.two_pow_pos A) ?_
          rw [hND, hm, fp_pow (Nat.le_of_lt g)]
          ac_rfl
        rw [← hn, h2, fp_nearE _ _ hD]
        exact ⟨m, by rw [fp_pow (Nat.le_of_lt g)]; ac_rfl⟩
      · exact Nat.dvd_trans (Nat.pow_dvd_pow 2 g) (Nat.dvd_mul_left _ _)
  · -- nothing is dropped
    obtain ⟨d, hd⟩ : ∃ d : Nat, (q - Q).toNat = d := ⟨_, rfl⟩
    rw [show (Q - q).toNat = 0 by omega, hd, Nat.pow_zero, Nat.mul_one, fp_near1] at hr
    have hk52 : k + d ≤ 52 := by omega
    have hn53 : c * 2 ^ d ≤ 9007199254740992 := by
      refine Nat.le_of_lt (Nat.lt_of_lt_of_le (Nat.mul_lt_mul_of_pos_right hk2 (Nat.two_pow_pos d)) ?_)
      rw [show (9007199254740992 : Nat) = 2 ^ 53 by decide, ← Nat.pow_add]
      exact Nat.pow_le_pow_right (by omega) (by omega)
    have hn52 : Q = -1074 ∨ 4503599627370496 ≤ c * 2 ^ d := by
      rcases hQ3 with g | g
      · exact Or.inl g
      · right
        refine Nat.le_trans ?_ (Nat.mul_le_mul_right _ hk1)
        rw [show (4503599627370496 : Nat) = 2 ^ 52 by decide, ← Nat.pow_add]
        exact Nat.pow_le_pow_right (by omega) (by omega)
    obtain ⟨c', q', e1, e2, e3⟩ := fp_settle (s := s) hn53 (by omega) hQ1 hn52
    have hNN : c * 2 ^ d * 2 ^ (Q + 1074).toNat = N := by
      unfold fpN at hN
      rw [show (-1074 - q).toNat = 0 by omega, Nat.pow_zero, Nat.mul_one] at hN
      rw [Nat.mul_assoc, ← Nat.pow_add, show d + (Q + 1074).toNat = (q + 1074).toNat by omega]
      exact hN
    rw [hNN] at e3
    refine ⟨c', q', hr.trans e1, e2, by rw [e3]; exact hE, ?_, fun G hG => by rw [e3]; exact hG⟩
    rcases Nat.eq_zero_or_pos c' with g | g
    · subst g
      rw [Nat.zero_mul] at e3
      omega
    · exact g
