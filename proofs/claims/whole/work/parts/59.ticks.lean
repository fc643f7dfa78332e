/-- the scripts of a tick -/
def scrR (cf : Nat → Nat → Int32) (r : Nat → Int64) : Nat → Nat → Int64
  | 0 => r
  | k + 1 => if (cf 16 k).toInt64 = r 29 then up1 (scrR cf r k) (4 + pI (cf 17 k)) (if cf 18 k = 0 then 0 else 1) else scrR cf r k
/-- a line with what it does to the error -/
def ln1 (cf : Nat → Nat → Int32) (r : Nat → Int64) : Nat → Int64 := lineR cf (up1 r 31 0)
def ln2 (cf : Nat → Nat → Int32) (r : Nat → Int64) : Nat → Int64 := up1 (ln1 cf r) 31 (if ln1 cf r 31 = 0 then r 31 else ln1 cf r 31)
abbrev lnT (cf : Nat → Nat → Int32) (r : Nat → Int64) : Prop := ln1 cf r 31 = 0 ∧ ln2 cf r 28 = 1 ∧ ln2 cf r 46 ≠ 0
def ln3 (cf : Nat → Nat → Int32) (r : Nat → Int64) : Nat → Int64 := if lnT cf r then goesTickR cf (ln2 cf r) else ln2 cf r
abbrev lnO (cf : Nat → Nat → Int32) (r : Nat → Int64) : Prop := ln1 cf r 31 ≠ 0 ∨ ln2 cf r 28 ≠ 1 ∨ (ln2 cf r 46 ≠ 0 ∧ ¬ gtB (ln2 cf r))
def goR (cf : Nat → Nat → Int32) : Nat → (Nat → Int64) → (Nat → Int64)
  | 0, r => if (cf 0 12).toInt64 ≤ r 30 then up1 (up1 r 30 (cf 0 12).toInt64) 28 2 else errsR (cf 0 12) 4 r
  | n + 1, r => if (cf 0 12).toInt64 ≤ r 30 then up1 (up1 r 30 (cf 0 12).toInt64) 28 2 else if lnO cf r then ln3 cf r else goR cf n (ln3 cf r)
def tk1 (cf : Nat → Nat → Int32) (r : Nat → Int64) : Nat → Int64 := scrR cf (up1 r 29 (r 29 + 1)) (pI (cf 0 16))
def ticksR (cf : Nat → Nat → Int32) (r : Nat → Int64) : Nat → Int64 := if tk1 cf r 46 = 0 then goR cf 100 (tk1 cf r) else if gtB (tk1 cf r) then goR cf 100 (goesTickR cf (tk1 cf r)) else goesTickR cf (tk1 cf r)
theorem scr_o {cf : Nat → Nat → Int32} {r : Nat → Int64} {n : Nat} (hc : ∀ k, k < n → isI (cf 17 k) 7) {y : Nat} (hy : ¬ (4 ≤ y ∧ y < 12)) : scrR cf r n y = r y := by
  induction n with
  | zero => rfl
  | succ n ih =>
    have i7 := (hc n (by omega)).2
    unfold scrR
    split
    · rw [up1_k (by omega)]; exact ih (fun k hk => hc k (by omega))
    · exact ih (fun k hk => hc k (by omega))
theorem scr_fa {cf : Nat → Nat → Int32} {r : Nat → Int64} {n : Nat} (hc : ∀ k, k < n → isI (cf 17 k) 7) (h : FA r) : FA (scrR cf r n) := by
  induction n with
  | zero => exact h
  | succ n ih =>
    have i7 := (hc n (by omega)).2
    unfold scrR
    split
    · refine fa_u (ih (fun k hk => hc k (by omega))) ((fr_io (by omega) (by omega)).mpr ?_)
      split
      · exact isN_mk (n := 0) (by omega) (by omega)
      · exact isN_mk (n := 1) (by omega) (by omega)
    · exact ih (fun k hk => hc k (by omega))
theorem xr_c {r q : Nat → Int64} (h : XR r) (e : ∀ y, y = 28 ∨ y = 30 ∨ y = 46 ∨ y = 47 ∨ (59 ≤ y ∧ y < 64) → q y = r y) : XR q := by
  have e28 := e 28 (by omega)
  have e30 := e 30 (by omega)
  have e46 := e 46 (by omega)
  have e47 := e 47 (by omega)
  have e59 := e 59 (by omega)
  have e60 := e 60 (by omega)
  have e61 := e 61 (by omega)
  have e62 := e 62 (by omega)
  have e63 := e 63 (by omega)
  unfold XR
  rw [e28, e30, e46, e47, e59, e60, e61, e62, e63]
  exact h
theorem tk1_rr {cf : Nat → Nat → Int32} {r : Nat → Int64} (hc : CfR cf) (h : RR r) : RR (tk1 cf r) := by
  have h7 : ∀ k, k < pI (cf 0 16) → isI (cf 17 k) 7 := fun k hk => (hc.2.2.2.2.2.2.2.2.2.1 k hk).1
  refine ⟨scr_fa h7 (fa_u h.1 True.intro), xr_c h.2 (fun y hy => ?_)⟩
  unfold tk1
  rw [scr_o h7 (by omega), up1_k (by omega)]
theorem rr_gt {cf : Nat → Nat → Int32} {r : Nat → Int64} (h : RR r) (hb : r 46 ≠ 0) : RR (goesTickR cf r) := by
  obtain ⟨n1, n2, n3⟩ := h.2.2.1 hb
  have f47 : isN (r 47) 2000000 := h.1 47
  have f46 : isN (r 46) 2 := h.1 46
  have e47 := isN_m f47 n1
  unfold goesTickR
  refine rr_ite (fun _ => rr_over h (by omega)) (fun _ => rr_ite (fun q => rr_goesOn h q) (fun q => ?_))
  have fa := fa_u (k := 47) h.1 e47.1
  refine rr_ite (fun z => ?_) (fun z => ?_)
  · have f30 : isN (r 30) 61 := h.1 30
    refine ⟨fa_u (fa_u (fa_u fa z_F) z_F) ?_, xr_0 rfl rfl⟩
    exact isN_up (isN_1 (x := r 30) (m := 60) ⟨f30.1, by omega⟩ (by omega)).1 (by omega)
  · refine ⟨fa, fun y => absurd ((up1_k (by omega)).symm.trans y) hb, fun _ => ⟨?_, ?_, ?_⟩, fun y => absurd ((up1_k (by omega)).symm.trans y) q⟩
    · rw [up1_s]; exact Nat.pos_of_ne_zero (fun y => z ((isN_0 e47.1).mpr y))
    · rw [up1_k (by omega)]; exact n2
    · rw [up1_k (by omega)]; exact n3
theorem rr_ln2 {cf : Nat → Nat → Int32} {r : Nat → Int64} (hc : CfR cf) (h : RR r) (h46 : r 46 = 0) (h28 : r 28 = 1) (hk : pN (r 30) < pI (cf 0 12)) : RR (ln2 cf r) := by
  have f31 : isN (r 31) 9 := h.1 31
  have h1 : RR (ln1 cf r) := rr_line hc (fa_u h.1 z_F) ((up1_k (by omega)).trans h46) ((up1_k (by omega)).trans (h.2.1 h46)) ((up1_k (by omega)).trans h28) (by rw [up1_k (by omega)]; exact hk)
  have g31 : isN (ln1 cf r 31) 9 := h1.1 31
  refine ⟨fa_u (k := 31) h1.1 (show isN _ 9 from by split <;> assumption), xr_c h1.2 (fun y hy => up1_k (by omega))⟩
theorem ln3_idle {cf : Nat → Nat → Int32} {r : Nat → Int64} (h : RR (ln2 cf r)) (ho : ¬ lnO cf r) : RR (ln3 cf r) ∧ ln3 cf r 46 = 0 ∧ ln3 cf r 28 = 1 := by
  have o1 : ln1 cf r 31 = 0 := Decidable.not_not.mp (fun q => ho (Or.inl q))
  have o2 : ln2 cf r 28 = 1 := Decidable.not_not.mp (fun q => ho (Or.inr (Or.inl q)))
  unfold ln3
  by_cases g : ln2 cf r 46 = 0
  · rw [if_neg (fun q => q.2.2 g)]
    exact ⟨h, g, o2⟩
  · have o3 : gtB (ln2 cf r) := Decidable.not_not.mp (fun q => ho (Or.inr (Or.inr ⟨g, q⟩)))
    rw [if_pos ⟨o1, o2, g⟩]
    refine ⟨rr_gt h g, ?_, ?_⟩
    · unfold goesTickR; rw [if_pos o3]; rfl
    · unfold goesTickR; rw [if_pos o3]; exact o2
