/-- how far k ticks of a rise go: the sum of the least of a i and v -/
def rsN (a v : Nat) : Nat → Nat
  | 0 => 0
  | k + 1 => rsN a v k + min (a * (k + 1)) v
theorem rs_mono (a v : Nat) {j k : Nat} (h : j ≤ k) : rsN a v j ≤ rsN a v k := by
  induction k with
  | zero => rw [show j = 0 by omega]; exact Nat.le_refl _
  | succ k ih =>
    rcases Nat.lt_or_ge k j with g | g
    · rw [show j = k + 1 by omega]; exact Nat.le_refl _
    · exact Nat.le_trans (ih g) (Nat.le_add_right _ _)
theorem rs_le (a v k : Nat) : rsN a v k ≤ v * k := by
  induction k with
  | zero => exact Nat.le_refl _
  | succ k ih =>
    have h1 : v * (k + 1) = v * k + v := Nat.mul_succ v k
    have h2 : min (a * (k + 1)) v ≤ v := Nat.min_le_right _ _
    show rsN a v k + min (a * (k + 1)) v ≤ v * (k + 1)
    omega
/-- a triangle number, doubled -/
theorem rs_low {a v m : Nat} (hm : ∀ i, i ≤ m → a * i ≤ v) : ∀ k, k ≤ m → 2 * rsN a v k = a * k * (k + 1)
  | 0, _ => by show 2 * 0 = a * 0 * 1; omega
  | k + 1, h => by
    have ih := rs_low hm k (by omega)
    have h2 := hm (k + 1) h
    unfold rsN
    rw [Nat.min_eq_left h2, Nat.mul_add, ih]
    have e1 : a * (k + 1) * (k + 1 + 1) = a * k * (k + 1) + 2 * (a * (k + 1)) := by
      rw [Nat.mul_add (a * (k + 1)) (k + 1) 1, Nat.mul_add (a * (k + 1)) k 1]
      have : a * (k + 1) * k = a * k * (k + 1) := by ac_rfl
      omega
    omega
theorem rs_high {a v m : Nat} (hm : ∀ i, m < i → v ≤ a * i) : ∀ d, rsN a v (m + d) = rsN a v m + v * d
  | 0 => by rw [Nat.mul_zero]; rfl
  | d + 1 => by
    have ih := rs_high hm d
    have h2 := hm (m + d + 1) (by omega)
    show rsN a v (m + d) + min (a * (m + d + 1)) v = _
    rw [Nat.min_eq_right h2, ih, Nat.mul_succ]
    omega
theorem rs_a {a v m k : Nat} (hm : ∀ i, i ≤ m → a * i ≤ v) (h : k ≤ m) : a * k * (k + 1) / 2 = rsN a v k := by
  have := rs_low hm k h
  omega
theorem rs_b {a v m k : Nat} (h1 : ∀ i, i ≤ m → a * i ≤ v) (h2 : ∀ i, m < i → v ≤ a * i) (h : m ≤ k) : a * m * (m + 1) / 2 + v * (k - m) = rsN a v k := by
  have e1 := rs_a h1 (Nat.le_refl m)
  have e2 := rs_high h2 (k - m)
  rw [show m + (k - m) = k by omega] at e2
  omega
theorem rs_f1 {a v : Nat} (ha : 0 < a) : (∀ i, i ≤ v / a → a * i ≤ v) ∧ (∀ i, v / a < i → v ≤ a * i) := by
  refine ⟨fun i h => ?_, fun i h => ?_⟩
  · have := (Nat.le_div_iff_mul_le ha).mp h
    rw [Nat.mul_comm]; exact this
  · have := (Nat.div_lt_iff_lt_mul ha).mp h
    rw [Nat.mul_comm]; omega
theorem rs_f2 {a v : Nat} (ha : 0 < a) (hv : 0 < v) : (∀ i, i ≤ (v - 1) / a → a * i ≤ v) ∧ (∀ i, (v - 1) / a < i → v ≤ a * i) := by
  refine ⟨fun i h => ?_, fun i h => ?_⟩
  · have := (Nat.le_div_iff_mul_le ha).mp h
    rw [Nat.mul_comm]; omega
  · have := (Nat.div_lt_iff_lt_mul ha).mp h
    rw [Nat.mul_comm]; omega
/-- how far t of n ticks go -/
def gnN (a v n t : Nat) : Nat := if t ≤ n - n / 2 then rsN a v t else rsN a v (n / 2) + rsN a v (n - n / 2) - rsN a v (n - t)
/-- whether n ticks go w -/
def gnP (a v w n : Nat) : Bool := decide (w ≤ rsN a v (n / 2) + rsN a v (n - n / 2))
/-- the search for the least n: it halves -/
def srN (P : Nat → Bool) : Nat → Nat → Nat → Nat
  | 0, lo, _ => lo
  | f + 1, lo, hi => if lo < hi then (if P ((lo + hi) / 2) then srN P f lo ((lo + hi) / 2) else srN P f ((lo + hi) / 2 + 1) hi) else lo
theorem sr_done (P : Nat → Bool) {lo hi : Nat} (h : ¬ lo < hi) : ∀ f, srN P f lo hi = lo
  | 0 => rfl
  | f + 1 => by unfold srN; rw [if_neg h]
theorem sr_le (P : Nat → Bool) : ∀ (f lo hi : Nat), lo ≤ hi → srN P f lo hi ≤ hi
  | 0, lo, hi, h => h
  | f + 1, lo, hi, h => by
    unfold srN
    split
    · split
      · exact Nat.le_trans (sr_le P f lo _ (by omega)) (by omega)
      · exact sr_le P f _ hi (by omega)
    · exact h
theorem sr_step (P : Nat → Bool) {lo hi : Nat} (h : lo < hi) (f : Nat) : srN P (f + 1) lo hi = if P ((lo + hi) / 2) then srN P f lo ((lo + hi) / 2) else srN P f ((lo + hi) / 2 + 1) hi := if_pos h
def lsN (a v w : Nat) : Nat := srN (gnP a v w) 32 0 w
theorem ls_le (a v w : Nat) : lsN a v w ≤ w := sr_le _ _ _ _ (by omega)
theorem gn_nn (a v n : Nat) : gnN a v n n = rsN a v (n / 2) + rsN a v (n - n / 2) := by
  unfold gnN
  split
  · have h : n / 2 = 0 := by omega
    rw [h, Nat.sub_zero]
    show _ = 0 + _
    rw [Nat.zero_add]
  · rw [Nat.sub_self]
    show _ - 0 = _
    omega
theorem gn_le (a v n t : Nat) (h : t ≤ n) : gnN a v n t ≤ v * n := by
  have h1 := rs_le a v t
  have h2 := rs_le a v (n / 2)
  have h3 := rs_le a v (n - n / 2)
  have h4 : v * (n / 2) + v * (n - n / 2) = v * n := by rw [← Nat.mul_add, show n / 2 + (n - n / 2) = n by omega]
  have h5 := Nat.mul_le_mul_left v h
  unfold gnN
  split <;> omega
def mB (a v : Nat) : Prop := 0 < a ∧ a ≤ 100000 ∧ 0 < v ∧ v ≤ 100000
theorem tri_lt {a k : Nat} (ha : a ≤ 100000) (hk : k ≤ 100000) : a * k * (k + 1) ≤ 1000010000000000 := by
  have h1 : a * k ≤ 100000 * 100000 := Nat.mul_le_mul ha hk
  have h2 : a * k * (k + 1) ≤ 100000 * 100000 * (100000 + 1) := Nat.mul_le_mul h1 (by omega)
  omega
theorem tri_l {a k : Nat} (ha : a ≤ 100000) (hk : k ≤ 100000) : lN a * lN k * (lN k + 1) / 2 = lN (a * k * (k + 1) / 2) := by
  have h := tri_lt ha hk
  rw [lN_1, lN_mul, lN_mul]
  exact pk_lDiv (b := 2) (by omega) (by omega) (by omega)
theorem cl_a {a v m k : Nat} (hb : mB a v) (h1 : ∀ i, i ≤ m → a * i ≤ v) (hk : k ≤ m) (hm : m ≤ 100000) : lN a * lN k * (lN k + 1) / 2 = lN (rsN a v k) := by
  rw [tri_l hb.2.1 (by omega), rs_a h1 hk]
theorem cl_b {a v m k : Nat} (hb : mB a v) (h1 : ∀ i, i ≤ m → a * i ≤ v) (h2 : ∀ i, m < i → v ≤ a * i) (hk : m ≤ k) (hm : m ≤ 100000) : lN a * lN m * (lN m + 1) / 2 + lN v * (lN k - lN m) = lN (rsN a v k) := by
  rw [tri_l hb.2.1 hm, lN_sub hk, lN_mul, lN_add, rs_b h1 h2 hk]
theorem dv_le {v a : Nat} (hv : v ≤ 100000) : v / a ≤ 100000 := Nat.le_trans (Nat.div_le_self _ _) hv
/-- n and its halves -/
theorem hvN {n : Nat} (h : n < 2147483648) : nI n / 2 = nI (n / 2) ∧ nI n - nI (n / 2) = nI (n - n / 2) ∧ (lN n + 1) / 2 = lN (n - n / 2) := by
  refine ⟨pk_div (d := 2) h (by omega) (by omega), pk_sub (by omega), ?_⟩
  rw [lN_1, show n - n / 2 = (n + 1) / 2 by omega]
  exact pk_lDiv (b := 2) (by omega) (by omega) (by omega)
