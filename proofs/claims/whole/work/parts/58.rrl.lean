theorem rr_errs0 {r : Nat → Int64} {ln : Int32} {e : Nat} (h : FA r) (he : e ≤ 9) : RR (errsR ln (nI e) r) := by
  have hE : isN (nI e).toInt64 9 := by rw [nI_l (by omega)]; exact isN_mk he (by omega)
  have h3 : isN 3 9 := isN_mk (n := 3) (by omega) (by omega)
  have h33 : isN 3 3 := isN_mk (n := 3) (by omega) (by omega)
  have f48 : r 48 = -1 ∨ isN (r 48) 59 := h 48
  unfold errsR
  split
  · exact ⟨fa_u (fa_u (fa_u (fa_u h z_F) z_F) hE) h33, xr_0 rfl rfl⟩
  · next g =>
    split
    · exact ⟨fa_u (fa_u (fa_u (fa_u (fa_u h z_F) z_F) hE) h3) h33, xr_0 rfl rfl⟩
    · have g2 : isN (r 48) 59 := f48.resolve_left (fun q => g (by rw [q]; rfl))
      have g3 : isN (r 48).toInt32.toInt64 61 := by rw [(isN_i g2 (by omega)).2.1]; exact isN_up g2 (by omega)
      exact ⟨fa_u (fa_u (fa_u (fa_u (fa_u (fa_u h z_F) z_F) hE) g3) z_F) (Or.inl rfl), xr_0 rfl rfl⟩
theorem isI_l {x : Int32} {m : Nat} (h : isI x m) (h2 : m < 2147483648) : isN x.toInt64 m ∧ pN x.toInt64 = pI x := by
  have e : x.toInt64 = lN (pI x) := by
    have := h.2
    rw [h.1, pI_n (by omega), nI_l (by omega)]
  have p : pN x.toInt64 = pI x := by rw [e, pN_l (by have := h.2; omega)]
  exact ⟨⟨by rw [p]; exact e, by rw [p]; exact h.2⟩, p⟩
theorem fr_i {x : Int32} (h : isI x 59) : isN x.toInt64 61 := isN_up (isI_l h (by omega)).1 (by omega)
theorem rr_goesTo {ln x : Int32} {r : Nat → Int64} (h : FA r) (h46 : r 46 = 0) (h47 : r 47 = 0) (hx : isI x 59) : RR (goesToR ln x r) := by
  unfold goesToR
  split
  · exact rr_errs0 (e := 3) h (by omega)
  · exact ⟨fa_u h (fr_i hx), xr_0 ((up1_k (by omega)).trans h46) ((up1_k (by omega)).trans h47)⟩
theorem rr_calls {ln x : Int32} {r : Nat → Int64} (h : FA r) (h46 : r 46 = 0) (h47 : r 47 = 0) (hx : isI x 59) (h30 : pN (r 30) ≤ 59) : RR (callsR ln x r) := by
  have f32 : isN (r 32) 12 := h 32
  have f30 : isN (r 30) 61 := h 30
  unfold callsR
  split
  · exact rr_errs0 (e := 3) h (by omega)
  · split
    · exact rr_errs0 (e := 5) h (by omega)
    · next g =>
      have g12 : pN (r 32) ≠ 12 := fun z => g (by rw [f32.1, z]; rfl)
      have l12 := f32.2
      have a1 := isN_1 (x := r 30) (m := 59) ⟨f30.1, h30⟩ (by omega)
      have a2 := isN_1 (x := r 32) (m := 11) ⟨f32.1, by omega⟩ (by omega)
      refine ⟨fa_u (fa_u (fa_u h ((fr_pb (by omega) (by omega)).mpr a1.1)) a2.1) (fr_i hx), xr_0 ?_ ?_⟩
      · rw [up1_k (by omega), up1_k (by omega), up1_k (by omega)]; exact h46
      · rw [up1_k (by omega), up1_k (by omega), up1_k (by omega)]; exact h47
theorem rr_back {r : Nat → Int64} (h : FA r) (h46 : r 46 = 0) (h47 : r 47 = 0) : RR (backR r) := by
  have f32 : isN (r 32) 12 := h 32
  have h2 : isN 2 3 := isN_mk (n := 2) (by omega) (by omega)
  unfold backR
  split
  · exact ⟨fa_u h h2, xr_0 ((up1_k (by omega)).trans h46) ((up1_k (by omega)).trans h47)⟩
  · next g =>
    have g0 : 0 < pN (r 32) := Nat.pos_of_ne_zero (fun z => g ((isN_0 f32).mpr z))
    have l12 := f32.2
    have a2 := isN_m f32 g0
    have pb := (fr_pb (k := 33 + (pN (r 32) - 1)) (by omega) (by omega)).mp (h _)
    refine ⟨fa_u (fa_u h a2.1) (isN_up pb (by omega)), xr_0 ?_ ?_⟩
    · rw [up1_k (by omega), up1_k (by omega)]; exact h46
    · rw [up1_k (by omega), up1_k (by omega)]; exact h47
theorem fa_b0 {r : Nat → Int64} (h : FA r) : FA (begins0 r) := by
  have f49 : r 49 = -1 ∨ isN (r 49) 7 := h 49
  exact fa_u (fa_u h f49) (Or.inl rfl)
theorem rr_begins {cf : Nat → Nat → Int32} {k sh : Nat} {r : Nat → Int64} (hc : CfR cf) (h : FA r) (h46 : r 46 = 0) (h47 : r 47 = 0) (h28 : r 28 = 1) (h30 : pN (r 30) ≤ 59) (hk : k < 16) (hs : sh ≤ 100) : RR (beginsR cf k sh r) := by
  have hb := fa_b0 h
  have f30 : isN (r 30) 61 := h 30
  have ok := plR_ok hc h hk hs
  unfold beginsR
  split
  · split
    · have a1 := isN_1 (x := r 30) (m := 59) ⟨f30.1, h30⟩ (by omega)
      refine ⟨fa_u hb (isN_up a1.1 (by omega)), xr_0 ?_ ?_⟩
      · unfold begins0; rw [up1_k (by omega), up1_k (by omega), up1_k (by omega)]; exact h46
      · unfold begins0; rw [up1_k (by omega), up1_k (by omega), up1_k (by omega)]; exact h47
    · next g =>
      obtain ⟨q, hq⟩ : ∃ q, q = plR cf k sh r := ⟨_, rfl⟩
      rw [← hq] at ok g ⊢
      obtain ⟨o1, o2, o3, o4⟩ := ok
      have hg : ∀ j, j < 4 → ((cf 12 (4 * k + j)).toInt64).toInt.natAbs ≤ 1000000 := fun j hj => by rw [i_l]; exact hc.2.2.2.1 _ (by omega)
      refine ⟨fa_u (fa_u (fa_u (fa_u (fa_u (fa_u (fa_u (fa_n (fa_n hb (fun j hj => (fr_ft (by omega) (by omega)).mpr ((fr_st hj).mp (h j)))) (fun j hj => (fr_ft (by omega) (by omega)).mpr (hg j hj))) ?_) ?_) ?_) ?_) z_F) ?_) ?_, fun z => ?_, fun _ => ⟨?_, ?_, ?_⟩, fun _ => ?_⟩
      · exact isN_mk o1 (by omega)
      · exact isN_mk o2.2.1 (by have := o2.2.1; omega)
      · exact isN_mk o2.2.2.2 (by have := o2.2.2.2; omega)
      · exact isN_mk o3 (by omega)
      · exact isN_mk o1 (by omega)
      · exact isN_mk (n := 1) (m := 2) (by omega) (by omega)
      · exact absurd (show (1 : Int64) = 0 from z) (by decide)
      · show 0 < pN (lN q.1)
        rw [pN_l (by omega)]; omega
      · show pN (r 30) ≤ 59
        exact h30
      · exact h28
      · have b1 := o2.2.1
        have b2 := o2.2.2.2
        show mB (pN (lN q.2.1)) (pN (lN q.2.2.1)) ∧ 0 < pN (lN q.2.2.2) ∧ pN 0 + pN (lN q.1) = pN (lN q.1)
        rw [pN_l (by omega), pN_l (by omega), pN_l (by omega), pN_l (by omega)]
        exact ⟨o2, o4 (by omega), by rw [show pN 0 = 0 from rfl, Nat.zero_add]⟩
  · exact rr_errs0 (e := 1) hb (by omega)
