theorem fp_powlt {a b : Nat} (h : 2 ^ a < 2 ^ b) : a < b := (Nat.pow_lt_pow_iff_right (by omega)).mp h
theorem fp_exact {s : Bool} {c c0 : Nat} {q q0 : Int} (hc : 0 < c) (h0 : 0 < c0) (hF : fpF c0 q0) (hN : fpN c q (c0 * 2 ^ (q0 + 1074).toNat)) : FP.Core.round FP.Core.b64 (.fin s c q) = .fin s c0 q0 := by
  obtain ⟨f1, f2, f3, f4⟩ := hF
  obtain ⟨k, hk⟩ : ∃ k, c.log2 = k := ⟨_, rfl⟩
  have hk1 : 2 ^ k ≤ c := by rw [← hk]; exact Nat.log2_self_le (by omega)
  have hk2 : c < 2 ^ (k + 1) := by rw [← hk]; exact Nat.lt_log2_self
  obtain ⟨j, hj⟩ : ∃ j, c0.log2 = j := ⟨_, rfl⟩
  have hj1 : 2 ^ j ≤ c0 := by rw [← hj]; exact Nat.log2_self_le (by omega)
  have hj2 : c0 < 2 ^ (j + 1) := by rw [← hj]; exact Nat.lt_log2_self
  obtain ⟨b, hb⟩ : ∃ b : Nat, (q0 + 1074).toNat = b := ⟨_, rfl⟩
  unfold fpN at hN
  rw [hb] at hN
  have hkj : (k : Int) + q = (j : Int) + q0 := by
    rcases Int.lt_or_le q (-1074) with g | g
    · obtain ⟨a, ha⟩ : ∃ a : Nat, (-1074 - q).toNat = a := ⟨_, rfl⟩
      rw [show (q + 1074).toNat = 0 by omega, ha, Nat.pow_zero, Nat.mul_one, Nat.mul_assoc, ← Nat.pow_add] at hN
      have e1 : 2 ^ k < 2 ^ (j + 1 + (b + a)) := by
        rw [Nat.pow_add]
        exact Nat.lt_of_le_of_lt hk1 (by rw [hN]; exact Nat.mul_lt_mul_of_pos_right hj2 (Nat.two_pow_pos _))
      have e2 : 2 ^ (j + (b + a)) < 2 ^ (k + 1) := by
        rw [Nat.pow_add]
        exact Nat.lt_of_le_of_lt (Nat.mul_le_mul_right _ hj1) (by rw [← hN]; exact hk2)
      have := fp_powlt e1
      have := fp_powlt e2
      omega
    · obtain ⟨a, ha⟩ : ∃ a : Nat, (q + 1074).toNat = a := ⟨_, rfl⟩
      rw [show (-1074 - q).toNat = 0 by omega, ha, Nat.pow_zero, Nat.mul_one] at hN
      have e1 : 2 ^ (k + a) < 2 ^ (j + 1 + b) := by
        rw [Nat.pow_add, Nat.pow_add]
        exact Nat.lt_of_le_of_lt (Nat.mul_le_mul_right _ hk1) (by rw [hN]; exact Nat.mul_lt_mul_of_pos_right hj2 (Nat.two_pow_pos _))
      have e2 : 2 ^ (j + b) < 2 ^ (k + 1 + a) := by
        rw [Nat.pow_add, Nat.pow_add]
        exact Nat.lt_of_le_of_lt (Nat.mul_le_mul_right _ hj1) (by rw [← hN]; exact Nat.mul_lt_mul_of_pos_right hk2 (Nat.two_pow_pos _))
      have := fp_powlt e1
      have := fp_powlt e2
      omega
  have hj53 : j < 53 := by
    refine fp_powlt (Nat.lt_of_le_of_lt hj1 ?_)
    rw [show (2 : Nat) ^ 53 = 9007199254740992 by decide]
    exact f1
  have hQ : q0 = max (-1074) ((c.log2 : Int) + q - 52) := by
    rw [hk]
    rcases f4 with g | g
    · omega
    · have : 52 < j + 1 := fp_powlt (Nat.lt_of_le_of_lt (by rw [show (2 : Nat) ^ 52 = 4503599627370496 by decide]; exact g) hj2)
      omega
  rw [fp_r1 hc hQ]
  have hn : FP.Core.nearest (c * 2 ^ (q - q0).toNat) (1 * 2 ^ (q0 - q).toNat) = c0 := by
    rcases Int.lt_or_le q q0 with g | g
    · obtain ⟨d, hd⟩ : ∃ d : Nat, (q0 - q).toNat = d := ⟨_, rfl⟩
      rw [show (q - q0).toNat = 0 by omega, hd, Nat.pow_zero, Nat.mul_one, Nat.one_mul]
      have : c = c0 * 2 ^ d := by
        rcases Int.lt_or_le q (-1074) with g2 | g2
        · rw [show (q + 1074).toNat = 0 by omega, Nat.pow_zero, Nat.mul_one, Nat.mul_assoc, ← Nat.pow_add, show b + (-1074 - q).toNat = d by omega] at hN
          exact hN
        · rw [show (-1074 - q).toNat = 0 by omega, Nat.pow_zero, Nat.mul_one, show b = d + (q + 1074).toNat by omega, Nat.pow_add, ← Nat.mul_assoc] at hN
          exact Nat.eq_of_mul_eq_mul_right (Nat.two_pow_pos _) hN
      rw [this]
      exact fp_nearE _ _ (Nat.two_pow_pos d)
    · obtain ⟨d, hd⟩ : ∃ d : Nat, (q - q0).toNat = d := ⟨_, rfl⟩
      rw [show (q0 - q).toNat = 0 by omega, hd, Nat.pow_zero, Nat.mul_one, fp_near1]
      rw [show (-1074 - q).toNat = 0 by omega, Nat.pow_zero, Nat.mul_one, show (q + 1074).toNat = d + b by omega, Nat.pow_add, ← Nat.mul_assoc] at hN
      exact Nat.eq_of_mul_eq_mul_right (Nat.two_pow_pos _) hN
  rw [hn]
  unfold FP.Core.settle FP.Core.bound
  rw [fp_2p, fp_qmax, if_pos f1, if_pos f3]
/-- finite, a multiple of 2^(G - 1074), at most 2^(E - 1074) -/
def FG (G E : Nat) (x : UInt64) : Prop := ∃ s c q, fk x = .fin s c q ∧ 2 ^ G ∣ c * 2 ^ (q + 1074).toNat ∧ c * 2 ^ (q + 1074).toNat ≤ 2 ^ E
/-- not the zero below zero -/
def NZ (x : UInt64) : Prop := ∀ s c q, fk x = .fin s c q → c = 0 → s = false
theorem fk_of {s : Bool} {c : Nat} {q : Int} (h : fpF c q) : fk (UInt64.ofNat (FP.Core.encode FP.Core.b64 (.fin s c q))) = .fin s c q := by
  obtain ⟨h1, h2⟩ := fp_enc (s := s) h
  unfold fk
  rw [show (UInt64.ofNat (FP.Core.encode FP.Core.b64 (.fin s c q))).toNat = FP.Core.encode FP.Core.b64 (.fin s c q) from Nat.mod_eq_of_lt h1]
  exact h2
theorem fpF0 : fpF 0 (-1074) := ⟨by omega, by omega, by omega, Or.inl rfl⟩
theorem fp_r0 (s : Bool) (q : Int) : FP.Core.round FP.Core.b64 (.fin s 0 q) = .fin s 0 (-1074) := rfl
theorem fk_dadd (x y : UInt64) : FP.dadd x y = UInt64.ofNat (FP.Core.encode FP.Core.b64 (FP.Core.round FP.Core.b64 (FP.Core.exactSum (fk x) (fk y)))) := rfl
theorem fk_dmul (x y : UInt64) : FP.dmul x y = UInt64.ofNat (FP.Core.encode FP.Core.b64 (FP.Core.round FP.Core.b64 (FP.Core.exactProduct (fk x) (fk y)))) := rfl
theorem fk_dsub (x y : UInt64) : FP.dsub x y = UInt64.ofNat (FP.Core.encode FP.Core.b64 (FP.Core.round FP.Core.b64 (FP.Core.exactSum (fk x) (FP.Core.negate (fk y))))) := rfl
/-- a rounded datum as bits -/
theorem fg_round {s : Bool} {c N G E : Nat} {q : Int} (hN : c ≠ 0 → fpN c q N ∧ N ≤ 2 ^ E ∧ 2 ^ G ∣ N) (hE2 : E ≤ 2040) {x : UInt64} (hx : x = UInt64.ofNat (FP.Core.encode FP.Core.b64 (FP.Core.round FP.Core.b64 (.fin s c q)))) : FG G E x ∧ (c ≠ 0 ∨ s = false → NZ x) := by
  rcases Nat.eq_zero_or_pos c with h | h
  · subst h
    rw [fp_r0] at hx
    have h1 := fk_of (s := s) fpF0
    rw [← hx] at h1
    refine ⟨⟨s, 0, -1074, h1, by rw [Nat.zero_mul]; exact Nat.dvd_zero _, by rw [Nat.zero_mul]; exact Nat.zero_le _⟩, fun g t d r ht hd => ?_⟩
    rw [h1] at ht
    cases ht
    rcases g with g | g
    · exact absurd rfl g
    · exact g
  · obtain ⟨g1, g2, g3⟩ := hN (by omega)
    obtain ⟨c', q', e1, e2, e3, e4, e5⟩ := fp_round (s := s) h g1 g2 hE2
    rw [e1] at hx
    have h1 := fk_of (s := s) e2
    rw [← hx] at h1
    refine ⟨⟨s, c', q', h1, e5 G g3, e3⟩, fun _ t d r ht hd => ?_⟩
    rw [h1] at ht
    cases ht
    omega
theorem fg_mul {x y : UInt64} {G1 G2 E1 E2 : Nat} (hx : FG G1 E1 x) (hy : FG G2 E2 y) (hG : 1074 ≤ G1 + G2) (hE1 : 1074 ≤ E1 + E2) (hE : E1 + E2 - 1074 ≤ 2040) : FG (G1 + G2 - 1074) (E1 + E2 - 1074) (FP.dmul x y) := by
  obtain ⟨s, c, q, h1, h2, h3⟩ := hx
  obtain ⟨t, d, r, g1, g2, g3⟩ := hy
  have q1 := (fp_dec h1).2.1
  have r1 := (fp_dec g1).2.1
  obtain ⟨a, ha⟩ : ∃ a : Nat, (q + 1074).toNat = a := ⟨_, rfl⟩
  obtain ⟨b, hb⟩ : ∃ b : Nat, (r + 1074).toNat = b := ⟨_, rfl⟩
  rw [ha] at h2 h3
  rw [hb] at g2 g3
  have hd : 2 ^ (G1 + G2) ∣ c * 2 ^ a * (d * 2 ^ b) := by rw [Nat.pow_add]; exact Nat.mul_dvd_mul h2 g2
  have hd2 : 2 ^ 1074 ∣ c * 2 ^ a * (d * 2 ^ b) := Nat.dvd_trans (Nat.pow_dvd_pow 2 hG) hd
  obtain ⟨N, hN⟩ := hd2
  have hle : c * 2 ^ a * (d * 2 ^ b) ≤ 2 ^ (E1 + E2) := by rw [Nat.pow_add]; exact Nat.mul_le_mul h3 g3
  refine (fg_round (s := s != t) (c := c * d) (q := q + r) (N := N) (fun _ => ⟨?_, ?_, ?_⟩) hE ?_).1
  · unfold fpN
    have e : c * d * 2 ^ (a + b) = N * 2 ^ 1074 := by
      rw [Nat.pow_add, Nat.mul_comm N, ← hN]
      ac_rfl
    rcases Int.lt_or_le (q + r) (-1074) with g | g
    · rw [show (q + r + 1074).toNat = 0 by omega, Nat.pow_zero, Nat.mul_one]
      refine Nat.eq_of_mul_eq_mul_right (Nat.two_pow_pos (a + b)) ?_
      rw [e, Nat.mul_assoc, ← Nat.pow_add, show (-1074 - (q + r)).toNat + (a + b) = 1074 by omega]
    · rw [show (-1074 - (q + r)).toNat = 0 by omega, Nat.pow_zero, Nat.mul_one]
      refine Nat.eq_of_mul_eq_mul_right (Nat.two_pow_pos 1074) ?_
      rw [← e, Nat.mul_assoc, ← Nat.pow_add, show (q + r + 1074).toNat + 1074 = a + b by omega]
  · refine Nat.le_of_mul_le_mul_left (c := 2 ^ 1074) ?_ (Nat.two_pow_pos _)
    rw [← hN, ← Nat.pow_add, show 1074 + (E1 + E2 - 1074) = E1 + E2 by omega]
    exact hle
  · rw [hN, show G1 + G2 = 1074 + (G1 + G2 - 1074) by omega, Nat.pow_add] at hd
    exact Nat.dvd_of_mul_dvd_mul_left (Nat.two_pow_pos _) hd
  · rw [fk_dmul, h1, g1]
    rfl
theorem fp_signed (s : Bool) (n : Nat) : FP.Core.signed s n = if s then -(n : Int) else (n : Int) := rfl
theorem fp_units {c : Nat} {q e : Int} (h1 : -1074 ≤ e) (h2 : e ≤ q) : FP.Core.inUnits c q e * 2 ^ (e + 1074).toNat = c * 2 ^ (q + 1074).toNat := by
  unfold FP.Core.inUnits
  rw [Nat.mul_assoc, ← Nat.pow_add, show (q - e).toNat + (e + 1074).toNat = (q + 1074).toNat by omega]
theorem fg_sum {s t : Bool} {c d G E : Nat} {q r : Int} (f1 : fpF c q) (f2 : fpF d r) (h2 : 2 ^ G ∣ c * 2 ^ (q + 1074).toNat) (h3 : c * 2 ^ (q + 1074).toNat ≤ 2 ^ E) (g2 : 2 ^ G ∣ d * 2 ^ (r + 1074).toNat) (g3 : d * 2 ^ (r + 1074).toNat ≤ 2 ^ E) (hE : E + 1 ≤ 2040) {x : UInt64} (hx : x = UInt64.ofNat (FP.Core.encode FP.Core.b64 (FP.Core.round FP.Core.b64 (FP.Core.exactSum (.fin s c q) (.fin t d r))))) : FG G (E + 1) x ∧ ((c = 0 → s = false) ∨ (d = 0 → t = false) → NZ x) := by
  obtain ⟨e, he⟩ : ∃ e : Int, min q r = e := ⟨_, rfl⟩
  have q1 := f1.2.1
  have r1 := f2.2.1
  obtain ⟨u, hu⟩ : ∃ u, FP.Core.inUnits c q e = u := ⟨_, rfl⟩
  obtain ⟨v, hv⟩ : ∃ v, FP.Core.inUnits d r e = v := ⟨_, rfl⟩
  obtain ⟨a, ha⟩ : ∃ a : Nat, (e + 1074).toNat = a := ⟨_, rfl⟩
  have eu : u * 2 ^ a = c * 2 ^ (q + 1074).toNat := by rw [← hu, ← ha]; exact fp_units (by omega) (by omega)
  have ev : v * 2 ^ a = d * 2 ^ (r + 1074).toNat := by rw [← hv, ← ha]; exact fp_units (by omega) (by omega)
  rw [← eu] at h2 h3
  rw [← ev] at g2 g3
  obtain ⟨w, hw⟩ : ∃ w, FP.Core.sumUnits s c q t d r e = w := ⟨_, rfl⟩
  have hw2 : w = (if s then -(u : Int) else (u : Int)) + (if t then -(v : Int) else (v : Int)) := by
    rw [← hw]
    unfold FP.Core.sumUnits
    rw [hu, hv]
    rfl
  have hcases : w.natAbs = u + v ∨ (u ≤ v ∧ w.natAbs = v - u) ∨ (v ≤ u ∧ w.natAbs = u - v) := by
    rw [hw2]
    cases s <;> cases t <;> simp only [Bool.false_eq_true, if_false, if_true] <;> omega
  have hb : w.natAbs * 2 ^ a ≤ 2 ^ (E + 1) := by
    rw [Nat.pow_succ]
    have hm : w.natAbs ≤ u + v := by omega
    have := Nat.mul_le_mul_right (2 ^ a) hm
    rw [Nat.add_mul] at this
    omega
  have hd : 2 ^ G ∣ w.natAbs * 2 ^ a := by
    rcases hcases with h | ⟨_, h⟩ | ⟨_, h⟩
    · rw [h, Nat.add_mul]; exact Nat.dvd_add h2 g2
    · rw [h, Nat.sub_mul]; exact Nat.dvd_sub g2 h2
    · rw [h, Nat.sub_mul]; exact Nat.dvd_sub h2 g2
  have hx2 : FP.Core.exactSum (.fin s c q) (.fin t d r) = .fin (FP.Core.sumSign s t w) w.natAbs e := by
    show FP.Core.Datum.fin (FP.Core.sumSign s t (FP.Core.sumUnits s c q t d r (min q r))) (FP.Core.sumUnits s c q t d r (min q r)).natAbs (min q r) = _
    rw [he, hw]
  rw [hx2] at hx
  have key := fg_round (N := w.natAbs * 2 ^ a) (G := G) (E := E + 1) (fun _ => ⟨by unfold fpN; rw [show (-1074 - e).toNat = 0 by omega, ha]; omega, hb, hd⟩) hE hx
  refine ⟨key.1, fun hz => key.2 ?_⟩
  rcases Nat.eq_zero_or_pos w.natAbs with h | h
  · right
    have w0 : w = 0 := by omega
    unfold FP.Core.sumSign
    rw [if_pos w0]
    have hu0 : s = true → u = 0 → c = 0 := fun _ g => by
      rw [g, Nat.zero_mul] at eu
      rcases Nat.mul_eq_zero.mp eu.symm with k | k
      · exact k
      · exact absurd k (Nat.ne_of_gt (Nat.two_pow_pos _))
    have hv0 : t = true → v = 0 → d = 0 := fun _ g => by
      rw [g, Nat.zero_mul] at ev
      rcases Nat.mul_eq_zero.mp ev.symm with k | k
      · exact k
      · exact absurd k (Nat.ne_of_gt (Nat.two_pow_pos _))
    cases s <;> cases t <;> simp only [Bool.false_eq_true, if_false, if_true] at hw2 <;> first | rfl | skip
    have : u = 0 ∧ v = 0 := by omega
    rcases hz with z | z
    · exact absurd (z (hu0 rfl this.1)) (by decide)
    · exact absurd (z (hv0 rfl this.2)) (by decide)
  · left
    omega
theorem fg_add {x y : UInt64} {G E : Nat} (hx : FG G E x) (hy : FG G E y) (hE : E + 1 ≤ 2040) : FG G (E + 1) (FP.dadd x y) ∧ (NZ x ∨ NZ y → NZ (FP.dadd x y)) := by
  obtain ⟨s, c, q, h1, h2, h3⟩ := hx
  obtain ⟨t, d, r, g1, g2, g3⟩ := hy
  have key := fg_sum (s := s) (t := t) (fp_dec h1) (fp_dec g1) h2 h3 g2 g3 hE (x := FP.dadd x y) (by rw [fk_dadd, h1, g1])
  exact ⟨key.1, fun hz => key.2 (by
    rcases hz with z | z
    · exact Or.inl (z s c q h1)
    · exact Or.inr (z t d r g1))⟩
theorem fg_sub {x y : UInt64} {G E : Nat} (hx : FG G E x) (hy : FG G E y) (hE : E + 1 ≤ 2040) : FG G (E + 1) (FP.dsub x y) ∧ (NZ x → NZ (FP.dsub x y)) := by
  obtain ⟨s, c, q, h1, h2, h3⟩ := hx
  obtain ⟨t, d, r, g1, g2, g3⟩ := hy
  have key := fg_sum (s := s) (t := !t) (fp_dec h1) (fp_dec g1) h2 h3 g2 g3 hE (x := FP.dsub x y) (by rw [fk_dsub, h1, g1]; rfl)
  exact ⟨key.1, fun hz => key.2 (Or.inl (hz s c q h1))⟩
theorem FG.mono {G G' E E' : Nat} {x : UInt64} (h : FG G E x) (hG : G' ≤ G) (hE : E ≤ E') : FG G' E' x := by
  obtain ⟨s, c, q, h1, h2, h3⟩ := h
  exact ⟨s, c, q, h1, Nat.dvd_trans (Nat.pow_dvd_pow 2 hG) h2, Nat.le_trans h3 (Nat.pow_le_pow_right (by omega) hE)⟩
/-- a finite number is no NaN -/
theorem FG.n64 {G E : Nat} {x : UInt64} (h : FG G E x) : vf_n64 x := by
  obtain ⟨s, c, q, h1, -, -⟩ := h
  have f := fp_dec h1
  unfold vf_n64
  have hx := x.toNat_lt
  rw [UInt64.le_iff_toNat_le, UInt64.toNat_and]
  rw [show (0x7fffffffffffffff : UInt64).toNat = 2 ^ 63 - 1 by decide, Nat.and_two_pow_sub_one_eq_mod]
  rw [show (0x7ff0000000000000 : UInt64).toNat = 9218868437227405312 by decide]
  unfold fk FP.Core.decode FP.Core.fieldE FP.Core.fieldT at h1
  rw [fp_tails, fp_exps] at h1
  split at h1
  · split at h1 <;> cases h1
  · omega
