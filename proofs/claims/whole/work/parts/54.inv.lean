theorem isN_mk {n m : Nat} (h : n ≤ m) (h2 : n < 9223372036854775808) : isN (lN n) m := ⟨by rw [pN_l h2], by rw [pN_l h2]; exact h⟩
theorem isN_up {x : Int64} {m m' : Nat} (h : isN x m) (h2 : m ≤ m') : isN x m' := ⟨h.1, Nat.le_trans h.2 h2⟩
theorem pN_lim (x : Int64) : pN x < 9223372036854775808 := by
  have := i64b x
  unfold pN
  omega
theorem isN_1 {x : Int64} {m : Nat} (h : isN x m) (h2 : m < 4000000000) : isN (x + 1) (m + 1) ∧ pN (x + 1) = pN x + 1 := by
  have e : x + 1 = lN (pN x + 1) := by rw [h.1, lN_1, ← h.1]
  have p : pN (x + 1) = pN x + 1 := by rw [e, pN_l (by have := h.2; omega)]
  exact ⟨⟨by rw [p]; exact e, by have := h.2; omega⟩, p⟩
theorem isN_m {x : Int64} {m : Nat} (h : isN x m) (h0 : 0 < pN x) : isN (x - 1) m ∧ pN (x - 1) = pN x - 1 := by
  have e : x - 1 = lN (pN x - 1) := by
    have : x - 1 = lN (pN x) - lN 1 := by rw [← h.1]; rfl
    rw [this, lN_sub h0]
  have p : pN (x - 1) = pN x - 1 := by rw [e, pN_l (by have := pN_lim x; omega)]
  exact ⟨⟨by rw [p]; exact e, by have := h.2; omega⟩, p⟩
theorem isN_0 {x : Int64} {m : Nat} (h : isN x m) : x = 0 ↔ pN x = 0 := by
  constructor
  · intro q; rw [q]; rfl
  · intro q; rw [h.1, q]; rfl
theorem isN_i {x : Int64} {m : Nat} (h : isN x m) (h2 : m < 2147483648) : x.toInt32 = nI (pN x) ∧ x.toInt32.toInt64 = x ∧ x.toInt = (pN x : Int) := by
  have := h.2
  have e := h.1
  have e1 : x.toInt32 = nI (pN x) := by rw [e, lN_32 (by omega), pN_l (pN_lim x)]
  exact ⟨e1, by rw [e1, nI_l (by omega)]; exact e.symm, by rw [e, lNT (by omega), pN_l (pN_lim x)]⟩
/-- what a place of a row may hold -/
def FR (k : Nat) (x : Int64) : Prop :=
  if k < 4 then x.toInt.natAbs ≤ 1000000
  else if k < 20 then isN x 1
  else if k < 28 then x = x.toInt32.toInt64
  else if k = 28 then isN x 3
  else if k = 29 then True
  else if k = 30 then isN x 61
  else if k = 31 then isN x 9
  else if k = 32 then isN x 12
  else if k < 45 then isN x 60
  else if k = 45 then True
  else if k = 46 then isN x 2
  else if k = 47 then isN x 2000000
  else if k = 48 then x = -1 ∨ isN x 59
  else if k < 51 then x = -1 ∨ isN x 7
  else if k < 59 then x.toInt.natAbs ≤ 1000000
  else if k = 59 then isN x 2000000
  else if k < 62 then isN x 100000
  else if k < 64 then isN x 2000000
  else True
theorem fr_st {k : Nat} {x : Int64} (h : k < 4) : FR k x ↔ x.toInt.natAbs ≤ 1000000 := by unfold FR; rw [if_pos h]
theorem fr_io {k : Nat} {x : Int64} (h : 4 ≤ k) (h2 : k < 20) : FR k x ↔ isN x 1 := by unfold FR; rw [if_neg (by omega), if_pos h2]
theorem fr_rg {k : Nat} {x : Int64} (h : 20 ≤ k) (h2 : k < 28) : FR k x ↔ x = x.toInt32.toInt64 := by unfold FR; rw [if_neg (by omega), if_neg (by omega), if_pos h2]
theorem fr_pb {k : Nat} {x : Int64} (h : 33 ≤ k) (h2 : k < 45) : FR k x ↔ isN x 60 := by unfold FR; rw [if_neg (by omega), if_neg (by omega), if_neg (by omega), if_neg (by omega), if_neg (by omega), if_neg (by omega), if_neg (by omega), if_neg (by omega), if_pos h2]
theorem fr_ft {k : Nat} {x : Int64} (h : 51 ≤ k) (h2 : k < 59) : FR k x ↔ x.toInt.natAbs ≤ 1000000 := by unfold FR; rw [if_neg (by omega), if_neg (by omega), if_neg (by omega), if_neg (by omega), if_neg (by omega), if_neg (by omega), if_neg (by omega), if_neg (by omega), if_neg (by omega), if_neg (by omega), if_neg (by omega), if_neg (by omega), if_neg (by omega), if_neg (by omega), if_pos h2]
theorem fr_tr {k : Nat} {x : Int64} (h : 64 ≤ k) : FR k x := by unfold FR; rw [if_neg (by omega), if_neg (by omega), if_neg (by omega), if_neg (by omega), if_neg (by omega), if_neg (by omega), if_neg (by omega), if_neg (by omega), if_neg (by omega), if_neg (by omega), if_neg (by omega), if_neg (by omega), if_neg (by omega), if_neg (by omega), if_neg (by omega), if_neg (by omega), if_neg (by omega), if_neg (by omega)]; trivial
def FA (r : Nat → Int64) : Prop := ∀ k, FR k (r k)
theorem fa_u {r : Nat → Int64} {k : Nat} {v : Int64} (h : FA r) (hv : FR k v) : FA (up1 r k v) := fun y => by
  by_cases e : y = k
  · rw [e, up1_s]; exact hv
  · rw [up1_k e]; exact h y
theorem fa_n {r : Nat → Int64} {o n : Nat} {f : Nat → Int64} (h : FA r) (hf : ∀ j, j < n → FR (o + j) (f j)) : FA (setn r o f n) := fun y => by
  by_cases e : o ≤ y ∧ y < o + n
  · have := hf (y - o) (by omega)
    rw [show o + (y - o) = y by omega] at this
    rw [setn_i (j := y - o) (by omega) (by omega)]; exact this
  · rw [setn_o e]; exact h y
/-- what holds between places -/
def XR (r : Nat → Int64) : Prop := (r 46 = 0 → r 47 = 0) ∧ (r 46 ≠ 0 → 0 < pN (r 47) ∧ pN (r 30) ≤ 59 ∧ r 28 = 1) ∧ (r 46 = 1 → mB (pN (r 60)) (pN (r 61)) ∧ 0 < pN (r 62) ∧ pN (r 63) + pN (r 47) = pN (r 59))
def RR (r : Nat → Int64) : Prop := FA r ∧ XR r
theorem rr_mo {r : Nat → Int64} (h : RR r) (hb : r 46 = 1) : MoR r := by
  obtain ⟨f, x1, x2, x3⟩ := h
  obtain ⟨m1, m2, m3⟩ := x3 hb
  obtain ⟨n1, n2, n3⟩ := x2 (by rw [hb]; decide)
  have f60 : isN (r 60) 100000 := f 60
  have f61 : isN (r 61) 100000 := f 61
  have f63 : isN (r 63) 2000000 := f 63
  have f47 : isN (r 47) 2000000 := f 47
  exact ⟨f 59, f 62, m2, f60.1, f61.1, m1, f63.1, f47.1, m3, n1, fun j hj => ⟨(fr_ft (by omega) (by omega)).mp (f (51 + j)), (fr_ft (by omega) (by omega)).mp (f (55 + j))⟩⟩
/-- idle rows -/
theorem xr_0 {r : Nat → Int64} (h : r 46 = 0) (h2 : r 47 = 0) : XR r := ⟨fun _ => h2, fun q => absurd h q, fun q => absurd (h.symm.trans q) (by decide)⟩
theorem ite_p {c A B : Prop} [Decidable c] (h1 : c → A) (h2 : ¬ c → B) : if c then A else B := by
  by_cases h : c
  · rw [if_pos h]; exact h1 h
  · rw [if_neg h]; exact h2 h
theorem z_F {k : Nat} : FR k 0 := by
  have e : isN 0 0 := isN_mk (n := 0) (m := 0) (by omega) (by omega)
  unfold FR
  have := fun m => isN_up e (Nat.zero_le m)
  repeat' first | exact this _ | exact True.intro | exact Or.inr (this _) | exact (by decide : (0 : Int64).toInt.natAbs ≤ 1000000) | exact (rfl : (0 : Int64) = (0 : Int64).toInt32.toInt64) | refine ite_p (fun _ => ?_) (fun _ => ?_)
theorem rr_over {r : Nat → Int64} (h : RR r) (ha : pN (r 30) ≤ 60) : RR (overR r) := by
  have f30 : isN (r 30) 61 := h.1 30
  refine ⟨fa_u (fa_u (fa_u h.1 z_F) z_F) ?_, xr_0 rfl rfl⟩
  exact isN_up (isN_1 (m := 60) ⟨f30.1, ha⟩ (by omega)).1 (by omega)
theorem rr_errs {r : Nat → Int64} {ln : Int32} {e : Nat} (h : RR r) (he : e ≤ 9) : RR (errsR ln (nI e) r) := by
  have hE : isN (nI e).toInt64 9 := by rw [nI_l (by omega)]; exact isN_mk he (by omega)
  have h3 : isN 3 9 := isN_mk (n := 3) (by omega) (by omega)
  have h33 : isN 3 3 := isN_mk (n := 3) (by omega) (by omega)
  have f48 : r 48 = -1 ∨ isN (r 48) 59 := h.1 48
  unfold errsR
  split
  · exact ⟨fa_u (fa_u (fa_u (fa_u h.1 z_F) z_F) hE) h33, xr_0 rfl rfl⟩
  · next g =>
    split
    · exact ⟨fa_u (fa_u (fa_u (fa_u (fa_u h.1 z_F) z_F) hE) h3) h33, xr_0 rfl rfl⟩
    · have g2 : isN (r 48) 59 := f48.resolve_left (fun q => g (by rw [q]; rfl))
      have g3 : isN (r 48).toInt32.toInt64 61 := by rw [(isN_i g2 (by omega)).2.1]; exact isN_up g2 (by omega)
      exact ⟨fa_u (fa_u (fa_u (fa_u (fa_u (fa_u h.1 z_F) z_F) hE) g3) z_F) (Or.inl rfl), xr_0 rfl rfl⟩
theorem rr_goesOn {cf : Nat → Nat → Int32} {r : Nat → Int64} (h : RR r) (hb : r 46 = 1) : RR (goesOnR cf r) := by
  have hm := rr_mo h hb
  obtain ⟨h59, h62, hw0, h60, h61, hmb, h63, h47, hsum, hl0, hft⟩ := id hm
  have f63 : isN (r 63) 2000000 := h.1 63
  have f47 : isN (r 47) 2000000 := h.1 47
  have e63 := isN_1 f63 (by omega)
  have e47 := isN_m f47 hl0
  have g63 : isN (r 63 + 1) 2000000 := ⟨e63.1.1, by rw [e63.2]; have := h59.2; omega⟩
  obtain ⟨n1, n2, n3⟩ := h.2.2.1 (by rw [hb]; decide)
  have fa1 : FA (up1 r 63 (r 63 + 1)) := fa_u h.1 g63
  have fa3 : FA (up1 (setn (setn (up1 r 63 (r 63 + 1)) 0 (nxR r) 4) 64 (fun j => r (64 + j) + absL (nxR r j - r j)) 4) 47 (r 47 - 1)) := by
    refine fa_u (fa_n (fa_n fa1 (fun j hj => ?_)) (fun j hj => fr_tr (by omega))) e47.1
    rw [Nat.zero_add, fr_st hj, (nx_i hm hj).1]; exact sb_ok hm hj
  unfold goesOnR
  split
  · -- errs wants the busy facts only of its own writing
    have key : ∀ {q : Nat → Int64} {ln : Int32}, FA q → RR (errsR ln 2 q) := by
      intro q ln hq
      have h2 : isN (2 : Int32).toInt64 9 := isN_mk (n := 2) (m := 9) (by omega) (by omega)
      have h3 : isN 3 9 := isN_mk (n := 3) (by omega) (by omega)
      have h33 : isN 3 3 := isN_mk (n := 3) (by omega) (by omega)
      have f48 : q 48 = -1 ∨ isN (q 48) 59 := hq 48
      unfold errsR
      split
      · exact ⟨fa_u (fa_u (fa_u (fa_u hq z_F) z_F) h2) h33, xr_0 rfl rfl⟩
      · next g =>
        split
        · exact ⟨fa_u (fa_u (fa_u (fa_u (fa_u hq z_F) z_F) h2) h3) h33, xr_0 rfl rfl⟩
        · have g2 : isN (q 48) 59 := f48.resolve_left (fun z => g (by rw [z]; rfl))
          have g3 : isN (q 48).toInt32.toInt64 61 := by rw [(isN_i g2 (by omega)).2.1]; exact isN_up g2 (by omega)
          exact ⟨fa_u (fa_u (fa_u (fa_u (fa_u (fa_u hq z_F) z_F) h2) g3) z_F) (Or.inl rfl), xr_0 rfl rfl⟩
    exact key fa1
  · obtain ⟨R, hR⟩ : ∃ R, R = up1 (setn (setn (up1 r 63 (r 63 + 1)) 0 (nxR r) 4) 64 (fun j => r (64 + j) + absL (nxR r j - r j)) 4) 47 (r 47 - 1) := ⟨_, rfl⟩
    rw [← hR] at fa3 ⊢
    have rd : ∀ y, 4 ≤ y → y < 63 → y ≠ 47 → R y = r y := fun y y1 y2 y3 => by rw [hR, up1_k y3, setn_o (by omega), setn_o (by omega), up1_k (by omega)]
    have r47 : R 47 = r 47 - 1 := by rw [hR, up1_s]
    have r63 : R 63 = r 63 + 1 := by rw [hR, up1_k (by omega), setn_o (by omega), setn_o (by omega), up1_s]
    split
    · have f30 : isN (R 30) 61 := fa3 30
      refine ⟨fa_u (fa_u (fa_u fa3 z_F) z_F) ?_, xr_0 rfl rfl⟩
      exact isN_up (isN_1 (m := 60) ⟨f30.1, by rw [rd 30 (by omega) (by omega) (by omega)]; omega⟩ (by omega)).1 (by omega)
    · next g =>
      refine ⟨fa3, fun q => ?_, fun _ => ?_, fun _ => ?_⟩
      · rw [rd 46 (by omega) (by omega) (by omega), hb] at q; exact absurd q (by decide)
      · rw [r47, rd 30 (by omega) (by omega) (by omega), rd 28 (by omega) (by omega) (by omega)]
        exact ⟨Nat.pos_of_ne_zero (fun z => g ((isN_0 e47.1).mpr z)), n2, n3⟩
      · rw [r47, r63, rd 60 (by omega) (by omega) (by omega), rd 61 (by omega) (by omega) (by omega), rd 62 (by omega) (by omega) (by omega), rd 59 (by omega) (by omega) (by omega), e47.2, e63.2]
        exact ⟨hmb, hw0, by omega⟩
