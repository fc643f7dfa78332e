theorem rr_errs0 {r : Nat → Int64} {ln : Int32} {e : Nat} (h : FA r) (he : e ≤ 9) : RR (errsR ln (nI e) r) := by
  have hE : isN (nI e).toInt64 9 := by rw [nI_l (by omega)]; exact isN_mk he (by omega)
  have h3 : isN 3 9 := isN_mk (n := 3) (by omega) (by omega)
  have h33 : isN 3 3 := isN_mk (n := 3) (by omega) (by omega)
  have f48 : r 48 = -1 ∨ isN (r 48) 59 := h 48
  unfold errsR
  split
  · exact ⟨fa_u (fa_u (fa_u (fa_u h z_F) z_F) hE) h33, xr_0 rfl rfl⟩
  · next g =>
    split
    · exact ⟨fa_u (fa_u (fa_u (fa_u (fa_u h z_F) z_F) hE) h3) h33, xr_0 rfl rfl⟩
    · have g2 : isN (r 48) 59 := f48.resolve_left (fun q => g (by rw [q]; rfl))
      have g3 : isN (r 48).toInt32.toInt64 61 := by rw [(isN_i g2 (by omega)).2.1]; exact isN_up g2 (by omega)
      exact ⟨fa_u (fa_u (fa_u (fa_u (fa_u (fa_u h z_F) z_F) hE) g3) z_F) (Or.inl rfl), xr_0 rfl rfl⟩
theorem isI_l {x : Int32} {m : Nat} (h : isI x m) (h2 : m < 2147483648) : isN x.toInt64 m ∧ pN x.toInt64 = pI x := by
  have e : x.toInt64 = lN (pI x) := by
    have := h.2
    rw [h.1, pI_n (by omega), nI_l (by omega)]
  have p : pN x.toInt64 = pI x := by rw [e, pN_l (by have := h.2; omega)]
  exact ⟨⟨by rw [p]; exact e, by rw [p]; exact h.2⟩, p⟩
theorem fr_i {x : Int32} (h : isI x 59) : isN x.toInt64 61 := isN_up (isI_l h (by omega)).1 (by omega)
theorem rr_goesTo {ln x : Int32} {r : Nat → Int64} (h : FA r) (h46 : r 46 = 0) (h47 : r 47 = 0) (hx : isI x 59) : RR (goesToR ln x r) := by
  unfold goesToR
  split
  · exact rr_errs0 (e := 3) h (by omega)
  · exact ⟨fa_u h (fr_i hx), xr_0 ((up1_k (by omega)).trans h46) ((up1_k (by omega)).trans h47)⟩
theorem rr_calls {ln x : Int32} {r : Nat → Int64} (h : FA r) (h46 : r 46 = 0) (h47 : r 47 = 0) (hx : isI x 59) (h30 : pN (r 30) ≤ 59) : RR (callsR ln x r) := by
  have f32 : isN (r 32) 12 := h 32
  have f30 : isN (r 30) 61 := h 30
  unfold callsR
  split
  · exact rr_errs0 (e := 3) h (by omega)
  · split
    · exact rr_errs0 (e := 5) h (by omega)
    · next g =>
      have g12 : pN (r 32) ≠ 12 := fun z => g (by rw [f32.1, z]; rfl)
      have l12 := f32.2
      have a1 := isN_1 (x := r 30) (m := 59) ⟨f30.1, h30⟩ (by omega)
      have a2 := isN_1 (x := r 32) (m := 11) ⟨f32.1, by omega⟩ (by omega)
      refine ⟨fa_u (fa_u (fa_u h ((fr_pb (by omega) (by omega)).mpr a1.1)) a2.1) (fr_i hx), xr_0 ?_ ?_⟩
      · rw [up1_k (by omega), up1_k (by omega), up1_k (by omega)]; exact h46
      · rw [up1_k (by omega), up1_k (by omega), up1_k (by omega)]; exact h47
theorem rr_back {r : Nat → Int64} (h : FA r) (h46 : r 46 = 0) (h47 : r 47 = 0) : RR (backR r) := by
  have f32 : isN (r 32) 12 := h 32
  have h2 : isN 2 3 := isN_mk (n := 2) (by omega) (by omega)
  unfold backR
  split
  · exact ⟨fa_u h h2, xr_0 ((up1_k (by omega)).trans h46) ((up1_k (by omega)).trans h47)⟩
  · next g =>
    have g0 : 0 < pN (r 32) := Nat.pos_of_ne_zero (fun z => g ((isN_0 f32).mpr z))
    have l12 := f32.2
    have a2 := isN_m f32 g0
    have pb := (fr_pb (k := 33 + (pN (r 32) - 1)) (by omega) (by omega)).mp (h _)
    refine ⟨fa_u (fa_u h a2.1) (isN_up pb (by omega)), xr_0 ?_ ?_⟩
    · rw [up1_k (by omega), up1_k (by omega)]; exact h46
    · rw [up1_k (by omega), up1_k (by omega)]; exact h47
theorem fa_b0 {r : Nat → Int64} (h : FA r) : FA (begins0 r) := by
  have f49 : r 49 = -1 ∨ isN (r 49) 7 := h 49
  exact fa_u (fa_u h f49) (Or.inl rfl)
theorem rr_begins {cf : Nat → Nat → Int32} {k sh : Nat} {r : Nat → Int64} (hc : CfR cf) (h : FA r) (h46 : r 46 = 0) (h47 : r 47 = 0) (h28 : r 28 = 1) (h30 : pN (r 30) ≤ 59) (hk : k < 16) (hs : sh ≤ 100) : RR (beginsR cf k sh r) := by
  have hb := fa_b0 h
  have f30 : isN (r 30) 61 := h 30
  have ok := plR_ok hc h hk hs
  unfold beginsR
  split
  · split
    · have a1 := isN_1 (x := r 30) (m := 59) ⟨f30.1, h30⟩ (by omega)
      refine ⟨fa_u hb (isN_up a1.1 (by omega)), xr_0 ?_ ?_⟩
      · unfold begins0; rw [up1_k (by omega), up1_k (by omega), up1_k (by omega)]; exact h46
      · unfold begins0; rw [up1_k (by omega), up1_k (by omega), up1_k (by omega)]; exact h47
    · next g =>
      obtain ⟨q, hq⟩ : ∃ q, q = plR cf k sh r := ⟨_, rfl⟩
      rw [← hq] at ok g ⊢
      obtain ⟨o1, o2, o3, o4⟩ := ok
      have hg : ∀ j, j < 4 → ((cf 12 (4 * k + j)).toInt64).toInt.natAbs ≤ 1000000 := fun j hj => by rw [i_l]; exact hc.2.2.2.1 _ (by omega)
      refine ⟨fa_u (fa_u (fa_u (fa_u (fa_u (fa_u (fa_u (fa_n (fa_n hb (fun j hj => (fr_ft (by omega) (by omega)).mpr ((fr_st hj).mp (h j)))) (fun j hj => (fr_ft (by omega) (by omega)).mpr (hg j hj))) ?_) ?_) ?_) ?_) z_F) ?_) ?_, fun z => ?_, fun _ => ⟨?_, ?_, ?_⟩, fun _ => ?_⟩
      · exact isN_mk o1 (by omega)
      · exact isN_mk o2.2.1 (by have := o2.2.1; omega)
      · exact isN_mk o2.2.2.2 (by have := o2.2.2.2; omega)
      · exact isN_mk o3 (by omega)
      · exact isN_mk o1 (by omega)
      · exact isN_mk (n := 1) (m := 2) (by omega) (by omega)
      · exact absurd (show (1 : Int64) = 0 from z) (by decide)
      · show 0 < pN (lN q.1)
        rw [pN_l (by omega)]; omega
      · show pN (r 30) ≤ 59
        exact h30
      · exact h28
      · have b1 := o2.2.1
        have b2 := o2.2.2.2
        show mB (pN (lN q.2.1)) (pN (lN q.2.2.1)) ∧ 0 < pN (lN q.2.2.2) ∧ pN 0 + pN (lN q.1) = pN (lN q.1)
        rw [pN_l (by omega), pN_l (by omega), pN_l (by omega), pN_l (by omega)]
        exact ⟨o2, o4 (by omega), by rw [show pN 0 = 0 from rfl, Nat.zero_add]⟩
  · exact rr_errs0 (e := 1) hb (by omega)
theorem rr_ite {c : Prop} [Decidable c] {x y : Nat → Int64} (h1 : c → RR x) (h2 : ¬ c → RR y) : RR (if c then x else y) := by
  by_cases h : c
  · rw [if_pos h]; exact h1 h
  · rw [if_neg h]; exact h2 h
theorem rr_line {cf : Nat → Nat → Int32} {r : Nat → Int64} (hc : CfR cf) (h : FA r) (h46 : r 46 = 0) (h47 : r 47 = 0) (h28 : r 28 = 1) (hk : pN (r 30) < pI (cf 0 12)) : RR (lineR cf r) := by
  have hk60 : pN (r 30) ≤ 59 := by have := hc.2.2.2.2.2.2.1.2; omega
  obtain ⟨l1, l2, l3, l4, l5, l6⟩ := hc.2.2.2.2.2.2.2.1 _ hk
  unfold lineR
  obtain ⟨op, hop⟩ : ∃ op, op = cf 13 (pN (r 30)) := ⟨_, rfl⟩
  obtain ⟨x, hx⟩ : ∃ x, x = cf 14 (pN (r 30)) := ⟨_, rfl⟩
  obtain ⟨y, hy⟩ : ∃ y, y = cf 15 (pN (r 30)) := ⟨_, rfl⟩
  rw [← hop] at l1 l2 l3 l4 l5 l6 ⊢
  rw [← hx] at l2 l3 l4 l5 l6 ⊢
  rw [← hy] at l2 l4 ⊢
  obtain ⟨R, hR⟩ : ∃ R, R = up1 r 45 (r 45 + 1) := ⟨_, rfl⟩
  have fa : FA R := by rw [hR]; exact fa_u h True.intro
  have rd : ∀ z, z ≠ 45 → R z = r z := fun z hz => by rw [hR, up1_k hz]
  rw [← hR]
  have g46 : R 46 = 0 := (rd 46 (by omega)).trans h46
  have g47 : R 47 = 0 := (rd 47 (by omega)).trans h47
  have g28 : R 28 = 1 := (rd 28 (by omega)).trans h28
  have g30 : R 30 = r 30 := rd 30 (by omega)
  have gk : pN (R 30) ≤ 59 := by rw [g30]; exact hk60
  have f30 : isN (R 30) 61 := fa 30
  have a1 : isN (R 30 + 1) 61 := isN_up (isN_1 (x := R 30) (m := 59) ⟨f30.1, gk⟩ (by omega)).1 (by omega)
  have a1' := (isN_1 (x := R 30) (m := 59) ⟨f30.1, gk⟩ (by omega))
  have a2 : isN (R 30 + 2) 61 := by
    have := (isN_1 (x := R 30 + 1) (m := 60) a1'.1 (by omega)).1
    rw [Int64.add_assoc] at this
    exact this
  have pass : ∀ {q : Nat → Int64}, FA q → q 46 = 0 → q 47 = 0 → ∀ v, isN v 61 → RR (up1 q 30 v) := fun hq q1 q2 v hv => ⟨fa_u hq hv, xr_0 ((up1_k (by omega)).trans q1) ((up1_k (by omega)).trans q2)⟩
  unfold lineO
  refine rr_ite (fun e => ?_) (fun n0 => rr_ite (fun e => ?_) (fun n1 => rr_ite (fun e => ?_) (fun n2 => rr_ite (fun e => ?_) (fun n3 => rr_ite (fun e => ?_) (fun n4 => rr_ite (fun e => ?_) (fun n5 => rr_ite (fun e => ?_) (fun n6 => rr_ite (fun e => ?_) (fun n7 => rr_ite (fun e => ?_) (fun n8 => rr_ite (fun e => ?_) (fun n9 => rr_ite (fun e => ?_) (fun n10 => ?_)))))))))))
  · obtain ⟨⟨z1, z2⟩, ⟨z3, z4⟩, z5⟩ := l2 e
    exact rr_begins hc fa g46 g47 g28 gk (by omega) z4
  · have z := l3 e
    have zl := isI_l z (by omega)
    by_cases g : x ≤ 0
    · rw [if_pos g, if_pos g]
      have x0 : x.toInt64 = 0 := by
        have e1 : pI x = 0 := by
          have g2 := i32le.mp g
          unfold pI
          have : (0 : Int32).toInt = 0 := rfl
          omega
        rw [zl.1.1, zl.2, e1]; rfl
      rw [x0]
      exact pass (fa_u (fa_u fa z_F) z_F) rfl rfl _ a1
    · rw [if_neg g, if_neg g, Int64.add_zero]
      have xp : 0 < pI x := by
        have g2 := i32lt.mp (i32nl.mp g)
        have : (0 : Int32).toInt = 0 := rfl
        unfold pI
        omega
      refine ⟨fa_u (fa_u (fa_u fa (isN_mk (n := 2) (m := 2) (by omega) (by omega))) (isN_up zl.1 (by omega))) f30, fun q => absurd (show (2 : Int64) = 0 from q) (by decide), fun _ => ⟨?_, gk, g28⟩, fun q => absurd (show (2 : Int64) = 1 from q) (by decide)⟩
      show 0 < pN x.toInt64
      rw [zl.2]; exact xp
  · obtain ⟨z, zy⟩ := l4 (Or.inl e)
    have z2 := z.2
    have fy : isN y.toInt64 1 := by
      rcases zy with q | q
      · rw [q]; exact isN_mk (n := 0) (by omega) (by omega)
      · rw [q]; exact isN_mk (n := 1) (by omega) (by omega)
    exact pass (fa_u fa ((fr_io (by omega) (by omega)).mpr fy)) ((up1_k (by omega)).trans g46) ((up1_k (by omega)).trans g47) _ a1
  · exact pass fa g46 g47 _ (by split <;> assumption)
  · exact rr_goesTo fa g46 g47 (l5 (Or.inl e))
  · exact rr_calls fa g46 g47 (l5 (Or.inr (Or.inl e))) gk
  · exact rr_back fa g46 g47
  · have z2 := (l6 (Or.inl e)).2
    refine pass (fa_u fa ((fr_rg (by omega) (by omega)).mpr ?_)) ((up1_k (by omega)).trans g46) ((up1_k (by omega)).trans g47) _ a1
    rw [Int32.toInt32_toInt64]
  · exact pass fa g46 g47 _ (by split <;> assumption)
  · have z := l6 (Or.inr (Or.inr e))
    exact pass (fa_u (k := 49) fa (show FR 49 x.toInt64 from Or.inr (isI_l z (by omega)).1)) ((up1_k (by omega)).trans g46) ((up1_k (by omega)).trans g47) _ a1
  · exact ⟨fa_u fa (isN_mk (n := 2) (m := 3) (by omega) (by omega)), xr_0 ((up1_k (by omega)).trans g46) ((up1_k (by omega)).trans g47)⟩
  · have e : op = 11 := by
      rcases n12 l1.2 with m | m | m | m | m | m | m | m | m | m | m | m
      all_goals (have z := l1.1; rw [m] at z)
      all_goals first | exact z | exact absurd z (by assumption)
    have z := l5 (Or.inr (Or.inr e))
    exact pass (fa_u (k := 48) fa (show FR 48 x.toInt64 from Or.inr (isI_l z (by omega)).1)) ((up1_k (by omega)).trans g46) ((up1_k (by omega)).trans g47) _ a1
