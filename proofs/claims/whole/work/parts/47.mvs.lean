theorem ofI32 {z : Int} (h1 : -2147483648 ≤ z) (h2 : z < 2147483648) : (Int32.ofInt z).toInt = z := by rw [Int32.toInt_ofInt, bm32 h1 h2]
theorem ofI64 {z : Int} (h1 : -9223372036854775808 ≤ z) (h2 : z < 9223372036854775808) : (Int64.ofInt z).toInt = z := by rw [Int64.toInt_ofInt, bm64 h1 h2]
/-- where a state stands that goes g of the leader's way wy -/
def mvS (fr dl : Int) (g wy : Nat) : Int := fr + (dl * (g : Int)).tdiv (wy : Int)
theorem mv_lim {dl : Int} {g wy : Nat} (h : g ≤ wy) : ((dl * (g : Int)).tdiv (wy : Int)).natAbs ≤ dl.natAbs := by
  rw [Int.natAbs_tdiv, Int.natAbs_mul]
  show dl.natAbs * g / wy ≤ _
  rcases Nat.eq_zero_or_pos wy with e | e
  · subst e
    rw [Nat.div_zero]
    exact Nat.zero_le _
  · refine Nat.div_le_of_le_mul ?_
    rw [Nat.mul_comm]
    exact Nat.mul_le_mul_right _ h
/-- a state on its way stays between where it was and where it goes -/
theorem mv_btw {fr dl : Int} {g wy : Nat} (h : g ≤ wy) : (0 ≤ dl → fr ≤ mvS fr dl g wy ∧ mvS fr dl g wy ≤ fr + dl) ∧ (dl ≤ 0 → fr + dl ≤ mvS fr dl g wy ∧ mvS fr dl g wy ≤ fr) := by
  have h1 := mv_lim (dl := dl) h
  unfold mvS
  refine ⟨fun hd => ?_, fun hd => ?_⟩
  · have h2 : 0 ≤ (dl * (g : Int)).tdiv (wy : Int) := Int.tdiv_nonneg (Int.mul_nonneg hd (by omega)) (by omega)
    omega
  · have h2 : (dl * (g : Int)).tdiv (wy : Int) ≤ 0 := by
      have e : dl * (g : Int) = -((-dl) * (g : Int)) := by rw [Int.neg_mul, Int.neg_neg]
      rw [e, Int.neg_tdiv]
      have := Int.tdiv_nonneg (Int.mul_nonneg (show 0 ≤ -dl by omega) (show (0 : Int) ≤ (g : Int) by omega)) (show (0 : Int) ≤ (wy : Int) by omega)
      omega
    omega
theorem mv_prod {dl : Int} {g : Nat} (h1 : dl.natAbs ≤ 2000000) (h2 : g ≤ 4000000) : (dl * (g : Int)).natAbs ≤ 8000000000000 := by
  rw [Int.natAbs_mul]
  exact Nat.mul_le_mul h1 h2
theorem mv_l {D : Int64} {g wy : Nat} (h1 : D.toInt.natAbs ≤ 2000000) (h2 : g ≤ wy) (h3 : wy ≤ 4000000) : (D * lN g / lN wy).toInt = (D.toInt * (g : Int)).tdiv (wy : Int) := by
  have hp := mv_prod h1 (show g ≤ 4000000 by omega)
  have hg : (lN g).toInt = (g : Int) := lNT (by omega)
  have hw : (lN wy).toInt = (wy : Int) := lNT (by omega)
  have hm : (D * lN g).toInt = D.toInt * (g : Int) := by rw [l_mul (by rw [hg]; omega) (by rw [hg]; omega), hg]
  have hl := mv_lim (dl := D.toInt) h2
  rw [Int64.toInt_div, hm, hw, bm64 (by omega) (by omega)]
