theorem fk_1000 : fk 4652007308841189376 = .fin false 8796093022208000 (-43) := by decide +kernel
theorem fk_i2dn {x : Int32} (h0 : x.toInt ≠ 0) (h1 : x.toInt.natAbs ≤ 1000000) : ∃ c q, fk (FP.i2d x) = .fin (decide (x.toInt < 0)) c q ∧ fpC c ∧ -52 ≤ q ∧ q ≤ -33 := by
  obtain ⟨n, hn⟩ : ∃ n, x.toInt.natAbs = n := ⟨_, rfl⟩
  obtain ⟨k, hk⟩ : ∃ k, n.log2 = k := ⟨_, rfl⟩
  have hn0 : 0 < n := by omega
  have hk1 : 2 ^ k ≤ n := by rw [← hk]; exact Nat.log2_self_le (by omega)
  have hk2 : n < 2 ^ (k + 1) := by rw [← hk]; exact Nat.lt_log2_self
  have hk3 : k < 20 := by
    refine fp_powlt (Nat.lt_of_le_of_lt hk1 ?_)
    rw [show (2 : Nat) ^ 20 = 1048576 by decide]
    omega
  have hc1 : 4503599627370496 ≤ n * 2 ^ (52 - k) := by
    rw [show (4503599627370496 : Nat) = 2 ^ k * 2 ^ (52 - k) by rw [← Nat.pow_add, show k + (52 - k) = 52 by omega]]
    exact Nat.mul_le_mul_right _ hk1
  have hc2 : n * 2 ^ (52 - k) < 9007199254740992 := by
    rw [show (9007199254740992 : Nat) = 2 ^ (k + 1) * 2 ^ (52 - k) by rw [← Nat.pow_add, show k + 1 + (52 - k) = 53 by omega]]
    exact Nat.mul_lt_mul_of_pos_right hk2 (Nat.two_pow_pos _)
  have hF : fpF (n * 2 ^ (52 - k)) ((k : Int) - 52) := ⟨hc2, by omega, by omega, Or.inr hc1⟩
  refine ⟨n * 2 ^ (52 - k), (k : Int) - 52, ?_, ⟨hc1, hc2⟩, by omega, by omega⟩
  rw [fk_i2d, hn, fp_exact (c0 := n * 2 ^ (52 - k)) (q0 := (k : Int) - 52) hn0 (by omega) hF]
  · exact fk_of hF
  · unfold fpN
    rw [show (0 + 1074 : Int).toNat = 1074 by decide, show (-1074 - 0 : Int).toNat = 0 by decide, Nat.pow_zero, Nat.mul_one, Nat.mul_assoc, ← Nat.pow_add]
    congr 2
    omega
theorem fk_ddiv (x y : UInt64) : FP.ddiv x y = UInt64.ofNat (FP.Core.encode FP.Core.b64 (FP.Core.quotient FP.Core.b64 (fk x) (fk y))) := rfl
/-- a whole number of thousandths -/
theorem fg_div {x : Int32} (h1 : x.toInt.natAbs ≤ 1000000) : FG 1012 1085 (FP.ddiv (FP.i2d x) 4652007308841189376) := by
  by_cases h0 : x.toInt = 0
  · have e : x = 0 := i32x (by rw [h0]; rfl)
    subst e
    have e : FP.ddiv (FP.i2d 0) 4652007308841189376 = FP.dconst0 := by decide +kernel
    rw [e]
    exact kg_0 _ _
  · obtain ⟨A, q, e1, ⟨hA1, hA2⟩, hq1, hq2⟩ := fk_i2dn h0 h1
    have hl : A.log2 = 52 := by
      have a1 : 2 ^ A.log2 ≤ A := Nat.log2_self_le (by omega)
      have a2 : A < 2 ^ (A.log2 + 1) := Nat.lt_log2_self
      have b1 : A.log2 < 53 := fp_powlt (Nat.lt_of_le_of_lt a1 (by rw [show (2 : Nat) ^ 53 = 9007199254740992 by decide]; exact hA2))
      have b2 : 52 < A.log2 + 1 := fp_powlt (Nat.lt_of_le_of_lt (by rw [show (2 : Nat) ^ 52 = 4503599627370496 by decide]; exact hA1) a2)
      omega
    have hlB : Nat.log2 8796093022208000 = 52 := by decide +kernel
    have hlead : FP.Core.leading A 8796093022208000 = if 8796093022208000 ≤ A then 0 else -1 := by
      unfold FP.Core.leading
      rw [hl, hlB]
      show (if 8796093022208000 * 2 ^ ((52 : Nat) - (52 : Nat) : Int).toNat ≤ A * 2 ^ (-((52 : Nat) - (52 : Nat) : Int)).toNat then ((52 : Nat) - (52 : Nat) : Int) else ((52 : Nat) - (52 : Nat) : Int) - 1) = _
      rw [show ((52 : Nat) - (52 : Nat) : Int) = 0 by decide, show (-0 : Int).toNat = 0 by decide, show (0 : Int).toNat = 0 by decide, Nat.pow_zero, Nat.mul_one, Nat.mul_one]
      rfl
    have hquo : FP.Core.quotient FP.Core.b64 (fk (FP.i2d x)) (fk 4652007308841189376) = FP.Core.roundRatio FP.Core.b64 (decide (x.toInt < 0) != false) A 8796093022208000 (q - -43) := by
      rw [e1, fk_1000]
      rfl
    obtain ⟨s, hs⟩ : ∃ s, (decide (x.toInt < 0) != false) = s := ⟨_, rfl⟩
    rw [hs] at hquo
    obtain ⟨Q, hQ⟩ : ∃ Q : Int, Q = if 8796093022208000 ≤ A then q - 9 else q - 10 := ⟨_, rfl⟩
    have hQ2 : Q ≤ -42 ∧ -62 ≤ Q := by rw [hQ]; split <;> omega
    obtain ⟨n, hn⟩ : ∃ n, FP.Core.nearest (A * 2 ^ (q + 43 - Q).toNat) 8796093022208000 = n := ⟨_, rfl⟩
    have hrr : FP.Core.roundRatio FP.Core.b64 s A 8796093022208000 (q - -43) = FP.Core.settle FP.Core.b64 s n Q := by
      unfold FP.Core.roundRatio
      rw [if_neg (by omega)]
      have hqu : FP.Core.quantum FP.Core.b64 A 8796093022208000 (q - -43) = Q := by
        unfold FP.Core.quantum
        rw [hlead, fp_qmin, fp_p, hQ]
        split
        · show max (-1074) (0 + (q - -43) - 52) = _
          omega
        · show max (-1074) (-1 + (q - -43) - 52) = _
          omega
      rw [hqu]
      unfold FP.Core.roundAt FP.Core.unitsNum FP.Core.unitsDen
      rw [show (Q - (q - -43)).toNat = 0 by omega, Nat.pow_zero, Nat.mul_one, show q - -43 - Q = q + 43 - Q by omega, hn]
    have hn53 : n ≤ 9007199254740992 := by
      rw [← hn]
      refine fp_nearLe (by omega) ?_
      by_cases g : 8796093022208000 ≤ A
      · rw [if_pos g] at hQ
        rw [show (q + 43 - Q).toNat = 52 by omega, show (2 : Nat) ^ 52 = 4503599627370496 by decide]
        omega
      · rw [if_neg g] at hQ
        rw [show (q + 43 - Q).toNat = 53 by omega, show (2 : Nat) ^ 53 = 9007199254740992 by decide]
        omega
    have hn52 : 4503599627370496 ≤ n := by
      rw [← hn]
      refine fp_nearGe (by omega) ?_
      by_cases g : 8796093022208000 ≤ A
      · rw [if_pos g] at hQ
        rw [show (q + 43 - Q).toNat = 52 by omega, show (2 : Nat) ^ 52 = 4503599627370496 by decide]
        omega
      · rw [if_neg g] at hQ
        rw [show (q + 43 - Q).toNat = 53 by omega, show (2 : Nat) ^ 53 = 9007199254740992 by decide]
        omega
    obtain ⟨c', q', g1, g2, g3⟩ := fp_settle (s := s) (Q := Q) hn53 (by omega) (by omega) (Or.inr hn52)
    refine ⟨s, c', q', ?_, ?_, ?_⟩
    · rw [fk_ddiv, hquo, hrr, g1]
      exact fk_of g2
    · rw [g3]
      exact Nat.dvd_trans (Nat.pow_dvd_pow 2 (by omega)) (Nat.dvd_mul_left _ _)
    · rw [g3]
      refine Nat.le_trans (Nat.mul_le_mul_right _ hn53) ?_
      rw [show (9007199254740992 : Nat) = 2 ^ 53 by decide, ← Nat.pow_add]
      exact Nat.pow_le_pow_right (by omega) (by omega)
/-- THE TIP, joint by joint: kinds, lengths, states -/
def tpU (kd st : Nat → Int32) : Nat → Int
  | 0 => 0
  | j + 1 => if kd j = 1 then tpU kd st j else tpU kd st j + (st j).toInt
def tpL (kd ln st : Nat → Int32) (j : Nat) : UInt64 := if kd j = 1 then FP.dadd (FP.i2d (ln j)) (FP.ddiv (FP.i2d (st j)) 4652007308841189376) else FP.i2d (ln j)
def tpX (kd ln st : Nat → Int32) : Nat → UInt64
  | 0 => FP.dconst0
  | j + 1 => FP.dadd (tpX kd ln st j) (FP.dmul (tpL kd ln st j) (sV (tpU kd st (j + 1) + 250000)))
def tpY (kd ln st : Nat → Int32) : Nat → UInt64
  | 0 => FP.dconst0
  | j + 1 => FP.dadd (tpY kd ln st j) (FP.dmul (tpL kd ln st j) (sV (tpU kd st (j + 1))))
def okA (kd ln st : Nat → Int32) : Prop := ∀ j, j < 4 → (kd j = 0 ∨ kd j = 1) ∧ (ln j).toInt.natAbs ≤ 1000 ∧ (st j).toInt.natAbs ≤ 1000000
theorem fg_tpL {kd ln st : Nat → Int32} (h : okA kd ln st) {j : Nat} (hj : j < 4) : FG 1012 1086 (tpL kd ln st j) := by
  obtain ⟨-, h2, h3⟩ := h j hj
  have a := (fg_i2d (x := ln j) (k := 10) (by rw [show (2 : Nat) ^ 10 = 1024 by decide]; omega) (by omega)).1
  unfold tpL
  split
  · exact (fg_add (a.mono (G' := 1012) (E' := 1085) (by omega) (by omega)) (fg_div h3) (by omega)).1
  · exact a.mono (by omega) (by omega)
theorem fg_tpM {kd ln st : Nat → Int32} (h : okA kd ln st) {j : Nat} (hj : j < 4) (u : Int) : FG 91 1088 (FP.dmul (tpL kd ln st j) (sV u)) := (fg_mul (fg_tpL h hj) (fg_sV u).1 (by omega) (by omega) (by omega)).mono (by omega) (by omega)
theorem fg_tpX {kd ln st : Nat → Int32} (h : okA kd ln st) : ∀ n, n ≤ 4 → FG 91 (1088 + n) (tpX kd ln st n) ∧ NZ (tpX kd ln st n)
  | 0, _ => ⟨kg_0 _ _, kn_0⟩
  | n + 1, hn => by
    have a := fg_tpX h n (by omega)
    have b := fg_add a.1 ((fg_tpM h (j := n) (by omega) (tpU kd st (n + 1) + 250000)).mono (G' := 91) (E' := 1088 + n) (by omega) (by omega)) (by omega)
    exact ⟨b.1, b.2 (Or.inl a.2)⟩
theorem fg_tpY {kd ln st : Nat → Int32} (h : okA kd ln st) : ∀ n, n ≤ 4 → FG 91 (1088 + n) (tpY kd ln st n) ∧ NZ (tpY kd ln st n)
  | 0, _ => ⟨kg_0 _ _, kn_0⟩
  | n + 1, hn => by
    have a := fg_tpY h n (by omega)
    have b := fg_add a.1 ((fg_tpM h (j := n) (by omega) (tpU kd st (n + 1))).mono (G' := 91) (E' := 1088 + n) (by omega) (by omega)) (by omega)
    exact ⟨b.1, b.2 (Or.inl a.2)⟩
theorem tpU_lim {kd ln st : Nat → Int32} (h : okA kd ln st) : ∀ n, n ≤ 4 → (tpU kd st n).natAbs ≤ 1000000 * n
  | 0, _ => by show (0 : Int).natAbs ≤ _; omega
  | n + 1, hn => by
    have a := tpU_lim h n (by omega)
    have b := (h n (by omega)).2.2
    unfold tpU
    split <;> omega
