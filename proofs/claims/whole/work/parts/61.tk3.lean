theorem rr_end {cf : Nat → Nat → Int32} {r : Nat → Int64} (hc : CfR cf) (h : FA r) (h46 : r 46 = 0) (h47 : r 47 = 0) : RR (up1 (up1 r 30 (cf 0 12).toInt64) 28 2) := by
  have hl := isI_l hc.2.2.2.2.2.2.1 (by omega)
  refine ⟨fa_u (fa_u h (isN_up hl.1 (by omega))) (isN_mk (n := 2) (m := 3) (by omega) (by omega)), xr_0 ?_ ?_⟩
  · rw [up1_k (by omega), up1_k (by omega)]; exact h46
  · rw [up1_k (by omega), up1_k (by omega)]; exact h47
theorem ln_hk {cf : Nat → Nat → Int32} {r : Nat → Int64} (hc : CfR cf) (h : FA r) (hn : ¬ (cf 0 12).toInt64 ≤ r 30) : pN (r 30) < pI (cf 0 12) := by
  have hl := isI_l hc.2.2.2.2.2.2.1 (by omega)
  have f30 : isN (r 30) 61 := h 30
  have l2 := hl.1.2
  have l3 := f30.2
  rw [hl.2] at l2
  have z := i64nl.mp hn
  rw [hl.1.1, hl.2, f30.1] at z
  exact (pk_lLT (by omega) (by omega)).mp z
theorem rr_ln3 {cf : Nat → Nat → Int32} {r : Nat → Int64} (h : RR (ln2 cf r)) : RR (ln3 cf r) := by
  unfold ln3
  exact rr_ite (fun q => rr_gt h q.2.2) (fun _ => h)
theorem rr_go {cf : Nat → Nat → Int32} (hc : CfR cf) : ∀ (n : Nat) (r : Nat → Int64), RR r → r 46 = 0 → r 28 = 1 → RR (goR cf n r)
  | 0, r, h, h46, h28 => by
    unfold goR
    exact rr_ite (fun _ => rr_end hc h.1 h46 (h.2.1 h46)) (fun _ => rr_errs0 (e := 4) h.1 (by omega))
  | n + 1, r, h, h46, h28 => by
    unfold goR
    refine rr_ite (fun _ => rr_end hc h.1 h46 (h.2.1 h46)) (fun q => ?_)
    have h2 := rr_ln2 hc h h46 h28 (ln_hk hc h.1 q)
    refine rr_ite (fun _ => rr_ln3 h2) (fun ho => ?_)
    obtain ⟨i1, i2, i3⟩ := ln3_idle h2 ho
    exact rr_go hc n _ i1 i2 i3
theorem rr_ticks {cf : Nat → Nat → Int32} {r : Nat → Int64} (hc : CfR cf) (h : RR r) (h28 : r 28 = 1) : RR (ticksR cf r) := by
  have h7 : ∀ k, k < pI (cf 0 16) → isI (cf 17 k) 7 := fun k hk => (hc.2.2.2.2.2.2.2.2.2.1 k hk).1
  have hrr := tk1_rr hc h
  have t28 : tk1 cf r 28 = 1 := by unfold tk1; rw [scr_o h7 (by omega), up1_k (by omega)]; exact h28
  unfold ticksR
  refine rr_ite (fun g => rr_go hc 100 _ hrr g t28) (fun g => rr_ite (fun g2 => ?_) (fun _ => rr_gt hrr g))
  refine rr_go hc 100 _ (rr_gt hrr g) ?_ ?_
  · unfold goesTickR; rw [if_pos g2]; rfl
  · unfold goesTickR; rw [if_pos g2]; exact t28
