theorem nz0 : narrow .boolean (.int 0) = .int 0 := rfl
theorem nz1 : narrow .boolean (.int 1) = .int 1 := rfl
abbrev n31 (p q : Nat → Int64) : Prop := ∀ y, y ≠ 31 → p y = q y
theorem n31_u {p q : Nat → Int64} {k : Nat} {u : Int64} (h : n31 p q) : n31 (up1 p k u) (up1 q k u) := fun y hy => by
  by_cases e : y = k
  · subst e; rw [up1_s, up1_s]
  · rw [up1_k e, up1_k e]; exact h y hy
theorem n31_n {p q f g : Nat → Int64} {o n : Nat} (h : n31 p q) (hf : ∀ j, j < n → f j = g j) : n31 (setn p o f n) (setn q o g n) := fun y hy => by
  by_cases e : o ≤ y ∧ y < o + n
  · rw [setn_i (j := y - o) (by omega) (by omega), setn_i (j := y - o) (by omega) (by omega)]; exact hf _ (by omega)
  · rw [setn_o e, setn_o e]; exact h y hy
theorem n31_31 {p q : Nat → Int64} {v : Int64} (h : n31 p q) (hv : q 31 = v) : up1 p 31 v = q := by
  funext y
  by_cases e : y = 31
  · subst e; rw [up1_s, hv]
  · rw [up1_k e]; exact h y e
theorem n31_e {p q : Nat → Int64} {v : Int64} (h : n31 p q) : up1 p 31 v = up1 q 31 v := by
  funext y
  by_cases e : y = 31
  · subst e; rw [up1_s, up1_s]
  · rw [up1_k e, up1_k e]; exact h y e
theorem errs_n {p q : Nat → Int64} {ln e : Int32} (h : n31 p q) : errsR ln e p = errsR ln e q := by
  have b := n31_e (v := e.toInt64) (n31_u (k := 47) (u := 0) (n31_u (k := 46) (u := 0) h))
  unfold errsR
  rw [b, h 48 (by omega)]
theorem errs_31 {p : Nat → Int64} {ln e : Int32} (he : e.toInt64 ≠ 0) : errsR ln e p 31 ≠ 0 := by
  unfold errsR
  split
  · exact he
  · split
    · exact (by decide : (3 : Int64) ≠ 0)
    · exact he
/-- whether a line alone, ahead of what it may have begun, spends the tick -/
abbrev lnD (cf : Nat → Nat → Int32) (r : Nat → Int64) : Prop := ln1 cf r 31 ≠ 0 ∨ ln2 cf r 28 ≠ 1
theorem ln_31 {cf : Nat → Nat → Int32} {r Q : Nat → Int64} (h : ln1 cf r = Q) (h2 : Q 31 ≠ 0) : lnD cf r ∧ ln2 cf r = Q := by
  have e : ln1 cf r 31 ≠ 0 := by rw [h]; exact h2
  refine ⟨Or.inl e, ?_⟩
  unfold ln2
  rw [if_neg e, h]
  exact n31_31 (fun _ _ => rfl) rfl
theorem ln_0 {cf : Nat → Nat → Int32} {r L : Nat → Int64} (h : ln1 cf r = L) (h31 : L 31 = 0) : ln2 cf r = up1 L 31 (r 31) := by
  unfold ln2
  rw [h, if_pos h31]
theorem fin_go {W : Wd} {m : Nat} {cf : Nat → Nat → Int32} {r L Q : Nat → Int64} (hV : RepM W m Q) (h : ln1 cf r = L) (hn : n31 L Q) (hq : Q 31 = r 31) (h31 : L 31 = 0) (h28 : L 28 = 1) : bI (lnD cf r) = 0 ∧ RepM W m (ln2 cf r) := by
  have e2 := (ln_0 h h31).trans (n31_31 hn hq)
  have g28 : ln2 cf r 28 = 1 := by rw [e2, ← hn 28 (by omega)]; exact h28
  have e1 : ln1 cf r 31 = 0 := by rw [h]; exact h31
  have hO : ¬ lnD cf r := fun t => by
    rcases t with t | t
    · exact t e1
    · exact t g28
  refine ⟨bI_f hO, ?_⟩
  rw [e2]
  exact hV
theorem fin_ok {W : Wd} {m : Nat} {cf : Nat → Nat → Int32} {r L Q : Nat → Int64} (hV : RepM W m Q) (h : ln1 cf r = L) (hn : n31 L Q) (hq : Q 31 = r 31) (h31 : L 31 = 0) (h28 : L 28 = 1) (_h46 : L 46 = 0) : bI (lnD cf r) = 0 ∧ RepM W m (ln2 cf r) := fin_go hV h hn hq h31 h28
theorem fin_end {W : Wd} {m : Nat} {cf : Nat → Nat → Int32} {r L Q : Nat → Int64} (hV : RepM W m Q) (h : ln1 cf r = L) (hn : n31 L Q) (hq : Q 31 = r 31) (h31 : L 31 = 0) (h28 : L 28 ≠ 1) : bI (lnD cf r) = 1 ∧ RepM W m (ln2 cf r) := by
  have e2 := (ln_0 h h31).trans (n31_31 hn hq)
  have g28 : ln2 cf r 28 ≠ 1 := by rw [e2, ← hn 28 (by omega)]; exact h28
  refine ⟨bI_t (Or.inr g28), ?_⟩
  rw [e2]
  exact hV
theorem fin_err {W : Wd} {m : Nat} {cf : Nat → Nat → Int32} {r Q : Nat → Int64} (hV : RepM W m Q) (h : ln1 cf r = Q) (h31 : Q 31 ≠ 0) : bI (lnD cf r) = 1 ∧ RepM W m (ln2 cf r) := by
  have e := ln_31 h h31
  exact ⟨bI_t e.1, by rw [e.2]; exact hV⟩
theorem n31_pass {B B' : Nat → Int64} (h : n31 B B') (h46 : B 46 = 0) (h47 : B 47 = 0) : n31 (up1 B 30 (B 30 + 1)) (overR B') := fun y hy => by
  unfold overR
  by_cases e : y = 30
  · subst e; rw [up1_s, up1_s, h 30 (by omega)]
  · rw [up1_k e, up1_k e]
    by_cases e2 : y = 47
    · subst e2; rw [up1_s]; exact h47
    · rw [up1_k e2]
      by_cases e3 : y = 46
      · subst e3; rw [up1_s]; exact h46
      · rw [up1_k e3]; exact h y hy
theorem up1_up {α : Type} (f : Nat → α) (k : Nat) (u v : α) : up1 (up1 f k u) k v = up1 f k v := by
  funext y
  by_cases e : y = k
  · subst e; rw [up1_s, up1_s]
  · rw [up1_k e, up1_k e, up1_k e]
/-- ops that pass -/
theorem fin_pass {W : Wd} {m : Nat} {cf : Nat → Nat → Int32} {r B B' : Nat → Int64} (hV : RepM W m B') (h : ln1 cf r = up1 B 30 (B 30 + 1)) (hn : n31 B B') (hq : B' 31 = r 31) (h31 : B 31 = 0) (h28 : B 28 = 1) (h46 : B 46 = 0) (h47 : B 47 = 0) : bI (lnD cf r) = 0 ∧ RepM (passW W m) m (ln2 cf r) := fin_ok (Q := overR B') (rv_pass hV) h (n31_pass hn h46 h47) hq h31 h28 h46
theorem rm_10 {w : Wd} {m : Nat} {r : Nat → Int64} {v : Int32} {u : Int64} (h : RepM w m r) (hv : v = u.toInt32) : RepM (sI w m 10 v) m (up1 r 30 u) := by
  show RepV (cfW (sI w m 10 v) m) (wJ w (m + 2)) _
  rw [cf_0]
  exact ⟨h.1, h.2.1, h.2.2.1, hv, h.2.2.2.2.1, h.2.2.2.2.2.1, h.2.2.2.2.2.2.1, h.2.2.2.2.2.2.2.1, h.2.2.2.2.2.2.2.2.1, h.2.2.2.2.2.2.2.2.2.1, h.2.2.2.2.2.2.2.2.2.2.1, fun j hj => (h.2.2.2.2.2.2.2.2.2.2.2.1 j hj).trans (congrArg Int64.toInt32 (Eq.symm (by first | rfl | ((try unfold overR); (repeat first | rw [up1_k (by omega)] | rw [setn_o (by omega)]))))), fun j hj => (h.2.2.2.2.2.2.2.2.2.2.2.2.1 j hj).trans (Eq.symm (by first | rfl | ((try unfold overR); (repeat first | rw [up1_k (by omega)] | rw [setn_o (by omega)])))), fun j hj => (h.2.2.2.2.2.2.2.2.2.2.2.2.2.1 j hj).trans (congrArg Int64.toInt32 (Eq.symm (by first | rfl | ((try unfold overR); (repeat first | rw [up1_k (by omega)] | rw [setn_o (by omega)]))))), fun j hj => (h.2.2.2.2.2.2.2.2.2.2.2.2.2.2.1 j hj).trans (congrArg Int64.toInt32 (Eq.symm (by first | rfl | ((try unfold overR); (repeat first | rw [up1_k (by omega)] | rw [setn_o (by omega)]))))), fun j hj => (h.2.2.2.2.2.2.2.2.2.2.2.2.2.2.2.1 j hj).trans (congrArg Int64.toInt32 (Eq.symm (by first | rfl | ((try unfold overR); (repeat first | rw [up1_k (by omega)] | rw [setn_o (by omega)]))))), fun j hj hj2 => (h.2.2.2.2.2.2.2.2.2.2.2.2.2.2.2.2.1 j hj hj2).trans (congrArg Int64.toInt32 (Eq.symm (by first | rfl | ((try unfold overR); (repeat first | rw [up1_k (by omega)] | rw [setn_o (by omega)]))))), fun q => mv_c (h.2.2.2.2.2.2.2.2.2.2.2.2.2.2.2.2.2 q) (fun f k hf => (by first | rfl | (repeat first | rw [up2_f2 (by omega)] | rw [ua_a (by omega)]))) (fun y h1 h2 => (by first | rfl | ((try unfold overR); (repeat first | rw [up1_k (by omega)] | rw [setn_o (by omega)]))))⟩
theorem rm_12 {w : Wd} {m : Nat} {r : Nat → Int64} (h : RepM w m r) : RepM (sI w m 12 (wI w m 12 + 1)) m (up1 r 45 (r 45 + 1)) := by
  have e : wI w m 12 + 1 = (r 45 + 1).toInt32 := by rw [show wI w m 12 = (r 45).toInt32 from h.2.2.2.2.2.1]; exact l32_1 _
  show RepV (cfW (sI w m 12 _) m) (wJ w (m + 2)) _
  rw [cf_0]
  exact ⟨h.1, h.2.1, h.2.2.1, h.2.2.2.1, h.2.2.2.2.1, e, h.2.2.2.2.2.2.1, h.2.2.2.2.2.2.2.1, h.2.2.2.2.2.2.2.2.1, h.2.2.2.2.2.2.2.2.2.1, h.2.2.2.2.2.2.2.2.2.2.1, fun j hj => (h.2.2.2.2.2.2.2.2.2.2.2.1 j hj).trans (congrArg Int64.toInt32 (Eq.symm (by first | rfl | ((try unfold overR); (repeat first | rw [up1_k (by omega)] | rw [setn_o (by omega)]))))), fun j hj => (h.2.2.2.2.2.2.2.2.2.2.2.2.1 j hj).trans (Eq.symm (by first | rfl | ((try unfold overR); (repeat first | rw [up1_k (by omega)] | rw [setn_o (by omega)])))), fun j hj => (h.2.2.2.2.2.2.2.2.2.2.2.2.2.1 j hj).trans (congrArg Int64.toInt32 (Eq.symm (by first | rfl | ((try unfold overR); (repeat first | rw [up1_k (by omega)] | rw [setn_o (by omega)]))))), fun j hj => (h.2.2.2.2.2.2.2.2.2.2.2.2.2.2.1 j hj).trans (congrArg Int64.toInt32 (Eq.symm (by first | rfl | ((try unfold overR); (repeat first | rw [up1_k (by omega)] | rw [setn_o (by omega)]))))), fun j hj => (h.2.2.2.2.2.2.2.2.2.2.2.2.2.2.2.1 j hj).trans (congrArg Int64.toInt32 (Eq.symm (by first | rfl | ((try unfold overR); (repeat first | rw [up1_k (by omega)] | rw [setn_o (by omega)]))))), fun j hj hj2 => (h.2.2.2.2.2.2.2.2.2.2.2.2.2.2.2.2.1 j hj hj2).trans (congrArg Int64.toInt32 (Eq.symm (by first | rfl | ((try unfold overR); (repeat first | rw [up1_k (by omega)] | rw [setn_o (by omega)]))))), fun q => mv_c (h.2.2.2.2.2.2.2.2.2.2.2.2.2.2.2.2.2 q) (fun f k hf => (by first | rfl | (repeat first | rw [up2_f2 (by omega)] | rw [ua_a (by omega)]))) (fun y h1 h2 => (by first | rfl | ((try unfold overR); (repeat first | rw [up1_k (by omega)] | rw [setn_o (by omega)]))))⟩
theorem rm_16 {w : Wd} {m : Nat} {r : Nat → Int64} {x : Int32} (h : RepM w m r) : RepM (sI w m 16 x) m (up1 r 49 x.toInt64) := by
  show RepV (cfW (sI w m 16 x) m) (wJ w (m + 2)) _
  rw [cf_0]
  exact ⟨h.1, h.2.1, h.2.2.1, h.2.2.2.1, h.2.2.2.2.1, h.2.2.2.2.2.1, h.2.2.2.2.2.2.1, h.2.2.2.2.2.2.2.1, h.2.2.2.2.2.2.2.2.1, i_i x, h.2.2.2.2.2.2.2.2.2.2.1, fun j hj => (h.2.2.2.2.2.2.2.2.2.2.2.1 j hj).trans (congrArg Int64.toInt32 (Eq.symm (by first | rfl | ((try unfold overR); (repeat first | rw [up1_k (by omega)] | rw [setn_o (by omega)]))))), fun j hj => (h.2.2.2.2.2.2.2.2.2.2.2.2.1 j hj).trans (Eq.symm (by first | rfl | ((try unfold overR); (repeat first | rw [up1_k (by omega)] | rw [setn_o (by omega)])))), fun j hj => (h.2.2.2.2.2.2.2.2.2.2.2.2.2.1 j hj).trans (congrArg Int64.toInt32 (Eq.symm (by first | rfl | ((try unfold overR); (repeat first | rw [up1_k (by omega)] | rw [setn_o (by omega)]))))), fun j hj => (h.2.2.2.2.2.2.2.2.2.2.2.2.2.2.1 j hj).trans (congrArg Int64.toInt32 (Eq.symm (by first | rfl | ((try unfold overR); (repeat first | rw [up1_k (by omega)] | rw [setn_o (by omega)]))))), fun j hj => (h.2.2.2.2.2.2.2.2.2.2.2.2.2.2.2.1 j hj).trans (congrArg Int64.toInt32 (Eq.symm (by first | rfl | ((try unfold overR); (repeat first | rw [up1_k (by omega)] | rw [setn_o (by omega)]))))), fun j hj hj2 => (h.2.2.2.2.2.2.2.2.2.2.2.2.2.2.2.2.1 j hj hj2).trans (congrArg Int64.toInt32 (Eq.symm (by first | rfl | ((try unfold overR); (repeat first | rw [up1_k (by omega)] | rw [setn_o (by omega)]))))), fun q => mv_c (h.2.2.2.2.2.2.2.2.2.2.2.2.2.2.2.2.2 q) (fun f k hf => (by first | rfl | (repeat first | rw [up2_f2 (by omega)] | rw [ua_a (by omega)]))) (fun y h1 h2 => (by first | rfl | ((try unfold overR); (repeat first | rw [up1_k (by omega)] | rw [setn_o (by omega)]))))⟩
theorem rm_15 {w : Wd} {m : Nat} {r : Nat → Int64} {x : Int32} (h : RepM w m r) : RepM (sI w m 15 x) m (up1 r 48 x.toInt64) := by
  show RepV (cfW (sI w m 15 x) m) (wJ w (m + 2)) _
  rw [cf_0]
  exact ⟨h.1, h.2.1, h.2.2.1, h.2.2.2.1, h.2.2.2.2.1, h.2.2.2.2.2.1, h.2.2.2.2.2.2.1, h.2.2.2.2.2.2.2.1, i_i x, h.2.2.2.2.2.2.2.2.2.1, h.2.2.2.2.2.2.2.2.2.2.1, fun j hj => (h.2.2.2.2.2.2.2.2.2.2.2.1 j hj).trans (congrArg Int64.toInt32 (Eq.symm (by first | rfl | ((try unfold overR); (repeat first | rw [up1_k (by omega)] | rw [setn_o (by omega)]))))), fun j hj => (h.2.2.2.2.2.2.2.2.2.2.2.2.1 j hj).trans (Eq.symm (by first | rfl | ((try unfold overR); (repeat first | rw [up1_k (by omega)] | rw [setn_o (by omega)])))), fun j hj => (h.2.2.2.2.2.2.2.2.2.2.2.2.2.1 j hj).trans (congrArg Int64.toInt32 (Eq.symm (by first | rfl | ((try unfold overR); (repeat first | rw [up1_k (by omega)] | rw [setn_o (by omega)]))))), fun j hj => (h.2.2.2.2.2.2.2.2.2.2.2.2.2.2.1 j hj).trans (congrArg Int64.toInt32 (Eq.symm (by first | rfl | ((try unfold overR); (repeat first | rw [up1_k (by omega)] | rw [setn_o (by omega)]))))), fun j hj => (h.2.2.2.2.2.2.2.2.2.2.2.2.2.2.2.1 j hj).trans (congrArg Int64.toInt32 (Eq.symm (by first | rfl | ((try unfold overR); (repeat first | rw [up1_k (by omega)] | rw [setn_o (by omega)]))))), fun j hj hj2 => (h.2.2.2.2.2.2.2.2.2.2.2.2.2.2.2.2.1 j hj hj2).trans (congrArg Int64.toInt32 (Eq.symm (by first | rfl | ((try unfold overR); (repeat first | rw [up1_k (by omega)] | rw [setn_o (by omega)]))))), fun q => mv_c (h.2.2.2.2.2.2.2.2.2.2.2.2.2.2.2.2.2 q) (fun f k hf => (by first | rfl | (repeat first | rw [up2_f2 (by omega)] | rw [ua_a (by omega)]))) (fun y h1 h2 => (by first | rfl | ((try unfold overR); (repeat first | rw [up1_k (by omega)] | rw [setn_o (by omega)]))))⟩
theorem rm_ou {w : Wd} {m k : Nat} {r : Nat → Int64} {v : Int32} {u : Int64} (h : RepM w m r) (hk : k < 8) (hv : v = u.toInt32) : RepM (sI w (m + 4) k v) m (up1 r (12 + k) u) := by
  show RepV (cfW (sI w (m + 4) k v) m) (wJ w (m + 2)) _
  rw [cf_I]
  exact rv_ou h hk hv
theorem rm_rg {w : Wd} {m k : Nat} {r : Nat → Int64} {v : Int32} {u : Int64} (h : RepM w m r) (hk : k < 8) (hv : v = u.toInt32) : RepM (sI w (m + 5) k v) m (up1 r (20 + k) u) := by
  show RepV (cfW (sI w (m + 5) k v) m) (wJ w (m + 2)) _
  rw [cf_I]
  exact rv_rg h hk hv
theorem rm_in {w : Wd} {m k : Nat} {r : Nat → Int64} {v : Int32} {u : Int64} (h : RepM w m r) (hk : k < 8) (hv : v = u.toInt32) : RepM (sI w (m + 3) k v) m (up1 r (4 + k) u) := by
  show RepV (cfW (sI w (m + 3) k v) m) (wJ w (m + 2)) _
  rw [cf_I]
  exact rv_in h hk hv
theorem rm_end {w : Wd} {m : Nat} {r : Nat → Int64} (h : RepM w m r) : RepM (endW w m (wI w m 10)) m (up1 r 28 2) := rv_end h
theorem rm_err {w : Wd} {c m : Nat} {r : Nat → Int64} {e ln : Int32} (h : RepM w m r) (hl : wI w (c + 4) 3 = ln) : RepM (errW w c m e) m (errsR ln e r) := by
  show RepV _ (wJ (errW w c m e) (m + 2)) _
  rw [j_err]; exact rv_err h hl
theorem n01 {u : Int64} (h : isN u 1) : (u.toInt32 = 1 ↔ u = 1) ∧ (u.toInt32 = 0 ↔ u = 0) := by
  have e := i32eta h (by omega)
  have l := h.2
  rw [e, h.1]
  rcases (by omega : pN u = 0 ∨ pN u = 1) with z | z
  · rw [z]; decide
  · rw [z]; decide
theorem plR_n {cf : Nat → Nat → Int32} {k sh : Nat} {p q : Nat → Int64} (h : n31 p q) : plR cf k sh p = plR cf k sh q := by
  unfold plR
  exact pl_c 4 (fun j hj => by unfold wdN; show ((cf 12 (4 * k + j)).toInt - ((p j).toInt32).toInt).natAbs = _; rw [h j (by omega)])
theorem bg_ln {cf : Nat → Nat → Int32} {c m k sh : Nat} {r R R' : Nat → Int64} {w w2 : Wd} {q : Option Value} (h : bgP cf c m k sh R' w q w2) (e1 : ln1 cf r = beginsR cf k sh R) (hn : n31 R R') (hq : R' 31 = r 31) (h31 : R 31 = 0) (h28 : R 28 = 1) (h46 : R 46 = 0) (h47 : R 47 = 0) : q = some (.int (bI (lnD cf r))) ∧ TF c m w w2 ∧ RepM w2 m (ln2 cf r) := by
  obtain ⟨hT, hcase⟩ := h
  have hb : n31 (begins0 R) (begins0 R') := by unfold begins0; rw [hn 49 (by omega)]; exact n31_u (n31_u hn)
  rcases hcase with ⟨hw, rfl, hV⟩ | ⟨hw, hz, rfl, hV⟩ | ⟨hw, hz, rfl, hV⟩
  · have e2 : beginsR cf k sh R = beginsR cf k sh R' := by unfold beginsR; rw [if_neg hw, if_neg hw]; exact errs_n hb
    have e3 : beginsR cf k sh R' 31 ≠ 0 := by unfold beginsR; rw [if_neg hw]; exact errs_31 (by decide)
    have f := fin_err hV (e1.trans e2) e3
    exact ⟨by rw [f.1], hT, f.2⟩
  · have e2 : beginsR cf k sh R = up1 (begins0 R) 30 (R 30 + 1) := by unfold beginsR; rw [if_pos hw, if_pos (by rw [plR_n hn]; exact hz)]
    have e4 : begins0 R 30 = R 30 := by unfold begins0; rfl
    have f := fin_ok hV (e1.trans (e2.trans (by rw [← e4]))) (n31_pass hb h46 h47) hq h31 h28 h46
    exact ⟨by rw [f.1], hT, f.2⟩
  · have e2 : beginsR cf k sh R = begins1 (plR cf k sh R') (fun j => cf 12 (4 * k + j)) R := by unfold beginsR; rw [if_pos hw, if_neg (by rw [plR_n hn]; exact hz), plR_n hn]
    have e3 : beginsR cf k sh R' = begins1 (plR cf k sh R') (fun j => cf 12 (4 * k + j)) R' := by unfold beginsR; rw [if_pos hw, if_neg hz]
    have e5 : n31 (begins1 (plR cf k sh R') (fun j => cf 12 (4 * k + j)) R) (begins1 (plR cf k sh R') (fun j => cf 12 (4 * k + j)) R') := by
      unfold begins1
      exact n31_u (n31_u (n31_u (n31_u (n31_u (n31_u (n31_u (n31_n (n31_n hb (fun j hj => hn j (by omega))) (fun _ _ => rfl))))))))
    obtain ⟨g, hg⟩ : ∃ g, g = plR cf k sh R' := ⟨_, rfl⟩
    rw [← hg] at e2 e3 e5
    have f := fin_go (L := begins1 g (fun j => cf 12 (4 * k + j)) R) (by rw [e3] at hV; exact hV) (e1.trans e2) e5 hq h31 h28
    exact ⟨by rw [f.1], hT, f.2⟩
theorem ji_v {x : Int32} {n N : Nat} (h : isI x n) (hn : n < N) (hN : N ≤ 3000) : vp_in x N := by
  rw [h.1]; exact vp_in_nI (by have := h.2; omega) (by omega)
-- a line is done
set_option maxRecDepth 100000 in
set_option maxHeartbeats 4000000 in
theorem ct_X1_doLine (l : Launch) (E : EE) (w : Wd) (c m : Nat) (cf : Nat → Nat → Int32) (r : Nat → Int64) (hlo : E.2.2 ≤ wN w) (hC : LayC w c) (hM : LayM w m) (hcm : c + 54 ≤ m) (hV : RepM w m r) (hRC : RepC (cfW w c) cf) (hr : RR r) (h46 : r 46 = 0) (h28 : r 28 = 1) (hc : CfR cf) (hk : pN (r 30) < pI (cf 0 12)) : Ct l E yX1_doLine cX1_doLine 5 (some .boolean) ({ frames := 4, cells := 0, slots := 0, locals := 101 } : Room) [.ref c, .ref m, .int (cf 13 (pN (r 30))), .int (cf 14 (pN (r 30))), .int (cf 15 (pN (r 30)))] w 0 0 (fun q w2 => q = some (.int (bI (lnD cf r))) ∧ TF c m w w2 ∧ RepM w2 m (ln2 cf r)) := by
  refine ct_in (il := il_X1_doLine) (by decide) dk_X1_doLine (Nat.le_of_ble_eq_true rfl) hlo ?_
  intro X h hq

  have hk60 : pN (r 30) < 60 := by have := hc.2.2.2.2.2.2.1.2; omega
  have hln := hc.2.2.2.2.2.2.2.1 _ hk
  have h47 : r 47 = 0 := hr.2.1 h46
  obtain ⟨op, hop⟩ : ∃ op, op = cf 13 (pN (r 30)) := ⟨_, rfl⟩
  obtain ⟨x, hx⟩ : ∃ x, x = cf 14 (pN (r 30)) := ⟨_, rfl⟩
  obtain ⟨y, hy⟩ : ∃ y, y = cf 15 (pN (r 30)) := ⟨_, rfl⟩
  obtain ⟨R, hR⟩ : ∃ R, R = up1 (up1 r 31 0) 45 (r 45 + 1) := ⟨_, rfl⟩
  have hL1 : ln1 cf r = lineO cf op x y R := by rw [hop, hx, hy, hR]; rfl
  rw [← hop, ← hx, ← hy] at hln ⊢
  obtain ⟨l1, l2, l3, l4, l5, l6⟩ := hln
  obtain ⟨Q, hQ⟩ : ∃ Q, Q = up1 r 45 (r 45 + 1) := ⟨_, rfl⟩
  have hn : n31 R Q := by rw [hR, hQ]; exact n31_u (fun y hy => up1_k hy)
  have Q31 : Q 31 = r 31 := by rw [hQ]; rfl
  have R31 : R 31 = 0 := by rw [hR]; rfl
  have R28 : R 28 = 1 := by rw [hR]; exact h28
  have R46 : R 46 = 0 := by rw [hR]; exact h46
  have R47 : R 47 = 0 := by rw [hR]; exact h47
  have rd : ∀ z, z ≠ 45 → Q z = r z := fun z hz => by rw [hQ]; exact up1_k hz
  have Q46 : Q 46 = 0 := (rd 46 (by omega)).trans h46
  have Q47 : Q 47 = 0 := (rd 47 (by omega)).trans h47
  have Q28 : Q 28 = 1 := (rd 28 (by omega)).trans h28
  have fQ : FA Q := by rw [hQ]; exact fa_u hr.1 True.intro
  obtain ⟨w1, hw1⟩ : ∃ w1, w1 = sI w m 12 (wI w m 12 + 1) := ⟨_, rfl⟩
  have htf1 : TF c m w w1 := by rw [hw1]; exact tf_I tf_0 (by omega)
  have hV1 : RepM w1 m Q := by rw [hw1, hQ]; exact rm_12 hV
  have hC1 : LayC w1 c := (tf_L htf1).1 c hC
  have hM1 : LayM w1 m := (tf_L htf1).2.1 m hM
  have hlo1 : E.2.2 ≤ wN w1 := by rw [(tf_L htf1).2.2]; exact hlo
  have hRC1 : RepC (cfW w1 c) cf := tf_C htf1 hcm hRC
  have hln1 : wI w1 (c + 4) 3 = cf 0 12 := hRC1.2.2.2.1
  have e10 : wI w1 m 10 = (Q 30).toInt32 := hV1.2.2.2.1
  have e7 : isI (wI w1 m 7) 12 := by
    have q : wI w1 m 7 = (Q 32).toInt32 := hV1.1
    have f : isN (Q 32) 12 := fQ 32
    rw [q, i32eta f (by omega)]
    have := f.2
    exact ⟨by rw [pI_n (by omega)], by rw [pI_n (by omega)]; exact this⟩
  have mk : ∀ {W : Wd} {v : Int32} {b : Int32}, TF c m w1 W → (bI (lnD cf r) = b ∧ RepM W m (ln2 cf r)) → v = b → (some (Value.int v) = some (Value.int (bI (lnD cf r))) ∧ TF c m w W ∧ RepM W m (ln2 cf r)) := fun hT hb hv => ⟨by rw [hv, hb.1], tf_t htf1 hT, hb.2⟩
  refine g_aload_n h (i := 0) rfl rfl ?_
  refine g_dup h (i := 1) rfl rfl ?_
  refine g_getI h (i := 2) rfl fl_X1_172 (fun _ _ _ => rfl) (lk_M hM) ?_
  refine g_iconst h (i := 3) rfl (v := 1) (by rfl) ?_
  refine g_iadd h (i := 4) rfl ?_
  refine g_putI_0 h (i := 5) rfl fl_X1_172 nf_3_12 (fun _ _ _ => rfl) (lk_M hM) (rfl) (by rfl) ?_
  refine g_w w1 (by rw [hw1]) ?_
  have hC := hC1
  have hM := hM1
  have hlo0 := hlo
  have hlo := hlo1
  refine g_iload_n h (i := 6) rfl rfl ?_
  have hsw : op = 0 ∨ op = 1 ∨ op = 2 ∨ op = 3 ∨ op = 4 ∨ op = 5 ∨ op = 6 ∨ op = 7 ∨ op = 8 ∨ op = 9 ∨ op = 10 ∨ op = 11 := by
    rcases n12 l1.2 with n | n | n | n | n | n | n | n | n | n | n | n
    all_goals (have z := l1.1; rw [n] at z; rw [z]; decide)
  rcases hsw with e | e | e | e | e | e | e | e | e | e | e | e
  · skip
    refine g_eqi (0) e ?_
    refine g_tin h (i := 7) 68 rfl (by decide) (by decide) rfl rfl ?_
    obtain ⟨z1, z2, z3⟩ := l2 e
    have hbg := ct_X1_beginGo l E w1 c m (pI x) (pI y) cf Q hlo1 hC1 hM1 hcm hV1 hRC1 fQ Q46 Q47 Q28 (by rw [rd 30 (by omega)]; omega) hc (by have := z1.2; omega) z2.2
    rw [← z2.1] at hbg
    refine g_aload_n h (i := 8) rfl rfl ?_
    refine g_aload_n h (i := 9) rfl rfl ?_
    refine g_aload_n h (i := 10) rfl rfl ?_
    refine g_getR h (i := 11) rfl fl_X1_25 (fun _ _ _ => rfl) (lc_k hC) (lc_poses hC) ?_
    refine g_iload_n h (i := 12) rfl rfl ?_
    refine g_aald h (i := 13) rfl (by decide) (lk_poses hC) (ji_v z1 (by omega) (by omega)) (lc_po (k := pI x) hC1 (by have := z1.2; omega)) ?_
    refine g_iload h (i := 14) rfl rfl ?_
    refine g_callVp (w0 := w) h hq (i := 15) rfl mv_X1_175 cls1 (lc_k hC) (hbg) rfl rfl ⟨rfl, rfl, Nat.le_of_ble_eq_true rfl, Nat.le_of_ble_eq_true rfl⟩ (Nat.le_of_ble_eq_true rfl) ⟨Nat.zero_le _, Nat.zero_le _⟩ (fun r78 w78 hp78 => ?_)
    have h1 : ln1 cf r = beginsR cf (pI x) (pI y) R := (hL1.trans (by unfold lineO; rw [if_pos (show op = 0 from e)]))
    obtain ⟨rfl, hT78, hV78⟩ := bg_ln hp78 h1 hn Q31 R31 R28 R46 R47
    exact g_zret hq h (i := 16) rfl (bI_n _) (⟨rfl, tf_t htf1 hT78, hV78⟩)
  · skip
    refine g_eqi (1) e ?_
    refine g_tin h (i := 7) 82 rfl (by decide) (by decide) rfl rfl ?_
    refine g_aload_n h (i := 17) rfl rfl ?_
    refine g_iload_n h (i := 18) rfl rfl ?_
    refine g_putI_0 h (i := 19) rfl fl_X1_116 nf_3_13 (fun _ _ _ => rfl) (lk_M hM) (rfl) (by rfl) ?_
    refine g_iload_n h (i := 20) rfl rfl ?_
    refine g_if_le h (i := 21) 235 rfl rfl (fun c_88 => ?_) (fun c_88 => ?_)
    · skip
      refine g_aload_n h (i := 106) rfl rfl ?_
      refine g_callVn h hq (i := 107) rfl mv_X1_131 cls3 (lk_M hM) (ct_X3_passLine l E _ m hlo1 hM1) rfl rfl ⟨rfl, rfl, Nat.le_of_ble_eq_true rfl, Nat.le_of_ble_eq_true rfl⟩ (Nat.le_of_ble_eq_true rfl) ⟨Nat.zero_le _, Nat.zero_le _⟩ ?_
      refine g_iconst h (i := 108) rfl (v := 0) (by rfl) ?_
      exact g_zret hq h (i := 109) rfl (rfl) (by
        have z := l3 e
        have x0 : x = 0 := by
          have a := i32le.mp c_88
          have e0 : (0 : Int32).toInt = 0 := rfl
          have p0 : pI x = 0 := by unfold pI; omega
          rw [z.1, p0]; rfl
        have z0 : x.toInt64 = 0 := by rw [x0]; rfl
        have h1 : ln1 cf r = up1 (up1 (up1 R 46 0) 47 0) 30 (R 30 + 1) := (hL1.trans (by unfold lineO; rw [if_neg (show ¬ op = 0 by rw [e]; decide), if_pos (show op = 1 from e), if_pos c_88, if_pos c_88, z0]))
        have hBV : RepM (sI w1 m 13 x) m Q := by
          show RepV (cfW (sI w1 m 13 x) m) (wJ w1 (m + 2)) _
          rw [cf_0]
          exact ⟨hV1.1, hV1.2.1, hV1.2.2.1, hV1.2.2.2.1, hV1.2.2.2.2.1, hV1.2.2.2.2.2.1, (show x = (Q 47).toInt32 by rw [x0, Q47]; rfl), hV1.2.2.2.2.2.2.2.1, hV1.2.2.2.2.2.2.2.2.1, hV1.2.2.2.2.2.2.2.2.2.1, hV1.2.2.2.2.2.2.2.2.2.2.1, fun j hj => (hV1.2.2.2.2.2.2.2.2.2.2.2.1 j hj).trans (congrArg Int64.toInt32 (Eq.symm (by first | rfl | ((try unfold overR); (repeat first | rw [up1_k (by omega)] | rw [setn_o (by omega)]))))), fun j hj => (hV1.2.2.2.2.2.2.2.2.2.2.2.2.1 j hj).trans (Eq.symm (by first | rfl | ((try unfold overR); (repeat first | rw [up1_k (by omega)] | rw [setn_o (by omega)])))), fun j hj => (hV1.2.2.2.2.2.2.2.2.2.2.2.2.2.1 j hj).trans (congrArg Int64.toInt32 (Eq.symm (by first | rfl | ((try unfold overR); (repeat first | rw [up1_k (by omega)] | rw [setn_o (by omega)]))))), fun j hj => (hV1.2.2.2.2.2.2.2.2.2.2.2.2.2.2.1 j hj).trans (congrArg Int64.toInt32 (Eq.symm (by first | rfl | ((try unfold overR); (repeat first | rw [up1_k (by omega)] | rw [setn_o (by omega)]))))), fun j hj => (hV1.2.2.2.2.2.2.2.2.2.2.2.2.2.2.2.1 j hj).trans (congrArg Int64.toInt32 (Eq.symm (by first | rfl | ((try unfold overR); (repeat first | rw [up1_k (by omega)] | rw [setn_o (by omega)]))))), fun j hj hj2 => (hV1.2.2.2.2.2.2.2.2.2.2.2.2.2.2.2.2.1 j hj hj2).trans (congrArg Int64.toInt32 (Eq.symm (by first | rfl | ((try unfold overR); (repeat first | rw [up1_k (by omega)] | rw [setn_o (by omega)]))))), fun q => mv_c (hV1.2.2.2.2.2.2.2.2.2.2.2.2.2.2.2.2.2 q) (fun f k hf => (by first | rfl | (repeat first | rw [up2_f2 (by omega)] | rw [ua_a (by omega)]))) (fun y h1 h2 => (by first | rfl | ((try unfold overR); (repeat first | rw [up1_k (by omega)] | rw [setn_o (by omega)]))))⟩
        have f := fin_ok (cf := cf) (r := r) (L := up1 (up1 (up1 R 46 0) 47 0) 30 (R 30 + 1)) (Q := overR Q) (rv_pass hBV) h1 (fun y hy => (n31_u (n31_u (n31_u hn))) y hy |>.trans (by unfold overR; rw [hn 30 (by omega)])) Q31 R31 R28 rfl
        exact mk (tf_pass (tf_I tf_0 (by omega))) f rfl)
    · skip
      refine g_iconst h (i := 22) rfl (v := 0) (by rfl) ?_
      exact g_zret hq h (i := 23) rfl (rfl) (by
        have e1 : ln1 cf r = up1 (up1 (up1 R 46 2) 47 x.toInt64) 30 (R 30 + 0) := (hL1.trans (by unfold lineO; rw [if_neg (show ¬ op = 0 by rw [e]; decide), if_pos (show op = 1 from e), if_neg c_88, if_neg c_88]))
        rw [Int64.add_zero] at e1
        obtain ⟨B, hB⟩ : ∃ B, B = up1 (up1 Q 46 2) 47 x.toInt64 := ⟨_, rfl⟩
        have g31 : B 31 = r 31 := by rw [hB]; exact Q31
        have hBV : RepM (sI w1 m 13 x) m B := by
          rw [hB]
          show RepV (cfW (sI w1 m 13 x) m) (wJ w1 (m + 2)) _
          rw [cf_0]
          exact ⟨hV1.1, hV1.2.1, hV1.2.2.1, hV1.2.2.2.1, hV1.2.2.2.2.1, hV1.2.2.2.2.2.1, i_i x, (hV1.2.2.2.2.2.2.2.1).trans (by rw [Q46]; rfl), hV1.2.2.2.2.2.2.2.2.1, hV1.2.2.2.2.2.2.2.2.2.1, fun t => absurd (show (2 : Int64) = 1 from t) (by decide), fun j hj => (hV1.2.2.2.2.2.2.2.2.2.2.2.1 j hj).trans (congrArg Int64.toInt32 (Eq.symm (by first | rfl | ((try unfold overR); (repeat first | rw [up1_k (by omega)] | rw [setn_o (by omega)]))))), fun j hj => (hV1.2.2.2.2.2.2.2.2.2.2.2.2.1 j hj).trans (Eq.symm (by first | rfl | ((try unfold overR); (repeat first | rw [up1_k (by omega)] | rw [setn_o (by omega)])))), fun j hj => (hV1.2.2.2.2.2.2.2.2.2.2.2.2.2.1 j hj).trans (congrArg Int64.toInt32 (Eq.symm (by first | rfl | ((try unfold overR); (repeat first | rw [up1_k (by omega)] | rw [setn_o (by omega)]))))), fun j hj => (hV1.2.2.2.2.2.2.2.2.2.2.2.2.2.2.1 j hj).trans (congrArg Int64.toInt32 (Eq.symm (by first | rfl | ((try unfold overR); (repeat first | rw [up1_k (by omega)] | rw [setn_o (by omega)]))))), fun j hj => (hV1.2.2.2.2.2.2.2.2.2.2.2.2.2.2.2.1 j hj).trans (congrArg Int64.toInt32 (Eq.symm (by first | rfl | ((try unfold overR); (repeat first | rw [up1_k (by omega)] | rw [setn_o (by omega)]))))), fun j hj hj2 => (hV1.2.2.2.2.2.2.2.2.2.2.2.2.2.2.2.2.1 j hj hj2).trans (congrArg Int64.toInt32 (Eq.symm (by first | rfl | ((try unfold overR); (repeat first | rw [up1_k (by omega)] | rw [setn_o (by omega)]))))), fun t => absurd (show (2 : Int64) = 1 from t) (by decide)⟩
        have nB : n31 (up1 (up1 (up1 R 46 2) 47 x.toInt64) 30 (R 30)) B := by
          rw [hB]
          intro y hy
          by_cases e30 : y = 30
          · subst e30; rw [up1_s]; exact hn 30 (by omega)
          · rw [up1_k e30]; exact (n31_u (n31_u hn)) y hy
        have f := fin_go (cf := cf) (r := r) hBV e1 nB g31 R31 R28
        exact mk (tf_I tf_0 (by omega)) f rfl)
  · skip
    refine g_eqi (2) e ?_
    refine g_tin h (i := 7) 93 rfl (by decide) (by decide) rfl rfl ?_
    have hx7 := (l4 (Or.inl e)).1
    have hxl := hx7.2
    refine g_aload_n h (i := 24) rfl rfl ?_
    refine g_getR h (i := 25) rfl fl_X1_179 (fun _ _ _ => rfl) (lk_M hM) (lm_outs hM) ?_
    refine g_iload_n h (i := 26) rfl rfl ?_
    refine g_iload h (i := 27) rfl rfl ?_
    refine g_iconst h (i := 28) rfl (v := 1) (by rfl) ?_
    refine g_icmp_ne h (i := 29) 108 rfl rfl (fun c_101 => ?_) (fun c_101 => ?_)
    · skip
      refine g_iconst h (i := 32) rfl (v := 0) (by rfl) ?_
      refine g_zast h (i := 33) rfl (ln_outs hM) (ji_v hx7 (by omega) (by omega)) (rfl) ?_
      refine g_goto h (i := 34) 235 rfl rfl ?_
      refine g_aload_n h (i := 106) rfl rfl ?_
      refine g_callVn h hq (i := 107) rfl mv_X1_131 cls3 (lk_M hM) (ct_X3_passLine l E _ m hlo1 hM1) rfl rfl ⟨rfl, rfl, Nat.le_of_ble_eq_true rfl, Nat.le_of_ble_eq_true rfl⟩ (Nat.le_of_ble_eq_true rfl) ⟨Nat.zero_le _, Nat.zero_le _⟩ ?_
      refine g_iconst h (i := 108) rfl (v := 0) (by rfl) ?_
      exact g_zret hq h (i := 109) rfl (rfl) (by
        have hy1 : y = 0 := (l4 (Or.inl e)).2.resolve_right c_101
        have e1 : ln1 cf r = up1 (up1 R (12 + pI x) y.toInt64) 30 (R 30 + 1) := (hL1.trans (by unfold lineO; rw [if_neg (show ¬ op = 0 by rw [e]; decide), if_neg (show ¬ op = 1 by rw [e]; decide), if_pos (show op = 2 from e)]))
        exact mk (tf_pass (tf_I tf_0 (by omega))) (fin_pass (B := up1 R (12 + pI x) y.toInt64) (rm_ou (k := pI x) hV1 (by omega) (by rw [hy1]; rfl)) (e1.trans (by rw [up1_k (show 30 ≠ 12 + pI x by omega)])) (n31_u hn) ((up1_k (by omega)).trans Q31) ((up1_k (by omega)).trans R31) ((up1_k (by omega)).trans R28) ((up1_k (by omega)).trans R46) ((up1_k (by omega)).trans R47)) rfl)
    · skip
      refine g_iconst h (i := 30) rfl (v := 1) (by rfl) ?_
      refine g_goto h (i := 31) 109 rfl rfl ?_
      refine g_zast h (i := 33) rfl (ln_outs hM) (ji_v hx7 (by omega) (by omega)) (rfl) ?_
      refine g_goto h (i := 34) 235 rfl rfl ?_
      refine g_aload_n h (i := 106) rfl rfl ?_
      refine g_callVn h hq (i := 107) rfl mv_X1_131 cls3 (lk_M hM) (ct_X3_passLine l E _ m hlo1 hM1) rfl rfl ⟨rfl, rfl, Nat.le_of_ble_eq_true rfl, Nat.le_of_ble_eq_true rfl⟩ (Nat.le_of_ble_eq_true rfl) ⟨Nat.zero_le _, Nat.zero_le _⟩ ?_
      refine g_iconst h (i := 108) rfl (v := 0) (by rfl) ?_
      exact g_zret hq h (i := 109) rfl (rfl) (by
        have hy1 : y = 1 := c_101
        have e1 : ln1 cf r = up1 (up1 R (12 + pI x) y.toInt64) 30 (R 30 + 1) := (hL1.trans (by unfold lineO; rw [if_neg (show ¬ op = 0 by rw [e]; decide), if_neg (show ¬ op = 1 by rw [e]; decide), if_pos (show op = 2 from e)]))
        exact mk (tf_pass (tf_I tf_0 (by omega))) (fin_pass (B := up1 R (12 + pI x) y.toInt64) (rm_ou (k := pI x) hV1 (by omega) (by rw [hy1]; rfl)) (e1.trans (by rw [up1_k (show 30 ≠ 12 + pI x by omega)])) (n31_u hn) ((up1_k (by omega)).trans Q31) ((up1_k (by omega)).trans R31) ((up1_k (by omega)).trans R28) ((up1_k (by omega)).trans R46) ((up1_k (by omega)).trans R47)) rfl)
  · skip
    refine g_eqi (3) e ?_
    refine g_tin h (i := 7) 113 rfl (by decide) (by decide) rfl rfl ?_
    have hx7 := (l4 (Or.inr e)).1
    have hxl := hx7.2
    refine g_aload_n h (i := 35) rfl rfl ?_
    refine g_dup h (i := 36) rfl rfl ?_
    refine g_getI h (i := 37) rfl fl_X1_89 (fun _ _ _ => rfl) (lk_M hM) ?_
    refine g_eqi (Q 30).toInt32 e10 ?_
    refine g_aload_n h (i := 38) rfl rfl ?_
    refine g_getR h (i := 39) rfl fl_X1_77 (fun _ _ _ => rfl) (lk_M hM) (lm_inputs hM) ?_
    refine g_iload_n h (i := 40) rfl rfl ?_
    refine g_zald h (i := 41) rfl (ln_inputs hM) (ji_v hx7 (by omega) (by omega)) ?_
    refine g_eqi (r (4 + pI x)).toInt32 ((hV1.2.2.2.2.2.2.2.2.2.2.2.2.2.1 (pI x) (by omega)).trans (by rw [rd _ (by omega)])) ?_
    refine g_iload h (i := 42) rfl rfl ?_
    refine g_iconst h (i := 43) rfl (v := 1) (by rfl) ?_
    refine g_icmp_ne h (i := 44) 134 rfl rfl (fun c_127 => ?_) (fun c_127 => ?_)
    · skip
      refine g_iconst h (i := 47) rfl (v := 0) (by rfl) ?_
      refine g_icmp_ne h (i := 48) 142 rfl rfl (fun c_135 => ?_) (fun c_135 => ?_)
      · skip
        refine g_iconst h (i := 51) rfl (v := 0) (by rfl) ?_
        refine g_iadd h (i := 52) rfl ?_
        refine g_putI_0 h (i := 53) rfl fl_X1_89 nf_3_10 (fun _ _ _ => rfl) (lk_M hM) (rfl) (by rfl) ?_
        refine g_goto h (i := 54) 235 rfl rfl ?_
        refine g_aload_n h (i := 106) rfl rfl ?_
        refine g_callVn h hq (i := 107) rfl mv_X1_131 cls3 (lk_M hM) (ct_X3_passLine l E _ m hlo1 hM1) rfl rfl ⟨rfl, rfl, Nat.le_of_ble_eq_true rfl, Nat.le_of_ble_eq_true rfl⟩ (Nat.le_of_ble_eq_true rfl) ⟨Nat.zero_le _, Nat.zero_le _⟩ ?_
        refine g_iconst h (i := 108) rfl (v := 0) (by rfl) ?_
        exact g_zret hq h (i := 109) rfl (rfl) (by
          have hy1 : y = 0 := (l4 (Or.inr e)).2.resolve_right c_127
          have hce : ¬ R (4 + pI x) = y.toInt64 := by
            rw [hn _ (by omega), rd _ (by omega), hy1]
            have t := n01 ((fr_io (k := 4 + pI x) (by omega) (by omega)).mp (hr.1 (4 + pI x)))
            show ¬ r (4 + pI x) = 0
            exact fun q => c_135 (t.2.mpr q)
          have e1 : ln1 cf r = up1 R 30 (R 30 + 1) := (hL1.trans (by unfold lineO; rw [if_neg (show ¬ op = 0 by rw [e]; decide), if_neg (show ¬ op = 1 by rw [e]; decide), if_neg (show ¬ op = 2 by rw [e]; decide), if_pos (show op = 3 from e), if_neg hce]))
          exact mk (tf_pass (tf_I tf_0 (by omega))) (fin_pass (B := up1 R 30 (R 30 + 0)) (B' := up1 Q 30 (Q 30 + 0)) (rm_10 hV1 (by rw [Int64.toInt32_add]; rfl)) (e1.trans (by rw [up1_up, up1_s, Int64.add_assoc]; rfl)) (by rw [hn 30 (by omega)]; exact n31_u hn) ((up1_k (by omega)).trans Q31) ((up1_k (by omega)).trans R31) ((up1_k (by omega)).trans R28) ((up1_k (by omega)).trans R46) ((up1_k (by omega)).trans R47)) rfl)
      · skip
        refine g_iconst h (i := 49) rfl (v := 1) (by rfl) ?_
        refine g_goto h (i := 50) 143 rfl rfl ?_
        refine g_iadd h (i := 52) rfl ?_
        refine g_putI_0 h (i := 53) rfl fl_X1_89 nf_3_10 (fun _ _ _ => rfl) (lk_M hM) (rfl) (by rfl) ?_
        refine g_goto h (i := 54) 235 rfl rfl ?_
        refine g_aload_n h (i := 106) rfl rfl ?_
        refine g_callVn h hq (i := 107) rfl mv_X1_131 cls3 (lk_M hM) (ct_X3_passLine l E _ m hlo1 hM1) rfl rfl ⟨rfl, rfl, Nat.le_of_ble_eq_true rfl, Nat.le_of_ble_eq_true rfl⟩ (Nat.le_of_ble_eq_true rfl) ⟨Nat.zero_le _, Nat.zero_le _⟩ ?_
        refine g_iconst h (i := 108) rfl (v := 0) (by rfl) ?_
        exact g_zret hq h (i := 109) rfl (rfl) (by
          have hy1 : y = 0 := (l4 (Or.inr e)).2.resolve_right c_127
          have hce : R (4 + pI x) = y.toInt64 := by
            rw [hn _ (by omega), rd _ (by omega), hy1]
            have t := n01 ((fr_io (k := 4 + pI x) (by omega) (by omega)).mp (hr.1 (4 + pI x)))
            show r (4 + pI x) = 0
            exact t.2.mp c_135
          have e1 : ln1 cf r = up1 R 30 (R 30 + 2) := (hL1.trans (by unfold lineO; rw [if_neg (show ¬ op = 0 by rw [e]; decide), if_neg (show ¬ op = 1 by rw [e]; decide), if_neg (show ¬ op = 2 by rw [e]; decide), if_pos (show op = 3 from e), if_pos hce]))
          exact mk (tf_pass (tf_I tf_0 (by omega))) (fin_pass (B := up1 R 30 (R 30 + 1)) (B' := up1 Q 30 (Q 30 + 1)) (rm_10 hV1 (by rw [Int64.toInt32_add]; rfl)) (e1.trans (by rw [up1_up, up1_s, Int64.add_assoc]; rfl)) (by rw [hn 30 (by omega)]; exact n31_u hn) ((up1_k (by omega)).trans Q31) ((up1_k (by omega)).trans R31) ((up1_k (by omega)).trans R28) ((up1_k (by omega)).trans R46) ((up1_k (by omega)).trans R47)) rfl)
    · skip
      refine g_iconst h (i := 45) rfl (v := 1) (by rfl) ?_
      refine g_goto h (i := 46) 135 rfl rfl ?_
      refine g_icmp_ne h (i := 48) 142 rfl rfl (fun c_135 => ?_) (fun c_135 => ?_)
      · skip
        refine g_iconst h (i := 51) rfl (v := 0) (by rfl) ?_
        refine g_iadd h (i := 52) rfl ?_
        refine g_putI_0 h (i := 53) rfl fl_X1_89 nf_3_10 (fun _ _ _ => rfl) (lk_M hM) (rfl) (by rfl) ?_
        refine g_goto h (i := 54) 235 rfl rfl ?_
        refine g_aload_n h (i := 106) rfl rfl ?_
        refine g_callVn h hq (i := 107) rfl mv_X1_131 cls3 (lk_M hM) (ct_X3_passLine l E _ m hlo1 hM1) rfl rfl ⟨rfl, rfl, Nat.le_of_ble_eq_true rfl, Nat.le_of_ble_eq_true rfl⟩ (Nat.le_of_ble_eq_true rfl) ⟨Nat.zero_le _, Nat.zero_le _⟩ ?_
        refine g_iconst h (i := 108) rfl (v := 0) (by rfl) ?_
        exact g_zret hq h (i := 109) rfl (rfl) (by
          have hy1 : y = 1 := c_127
          have hce : ¬ R (4 + pI x) = y.toInt64 := by
            rw [hn _ (by omega), rd _ (by omega), hy1]
            have t := n01 ((fr_io (k := 4 + pI x) (by omega) (by omega)).mp (hr.1 (4 + pI x)))
            show ¬ r (4 + pI x) = 1
            exact fun q => c_135 (t.1.mpr q)
          have e1 : ln1 cf r = up1 R 30 (R 30 + 1) := (hL1.trans (by unfold lineO; rw [if_neg (show ¬ op = 0 by rw [e]; decide), if_neg (show ¬ op = 1 by rw [e]; decide), if_neg (show ¬ op = 2 by rw [e]; decide), if_pos (show op = 3 from e), if_neg hce]))
          exact mk (tf_pass (tf_I tf_0 (by omega))) (fin_pass (B := up1 R 30 (R 30 + 0)) (B' := up1 Q 30 (Q 30 + 0)) (rm_10 hV1 (by rw [Int64.toInt32_add]; rfl)) (e1.trans (by rw [up1_up, up1_s, Int64.add_assoc]; rfl)) (by rw [hn 30 (by omega)]; exact n31_u hn) ((up1_k (by omega)).trans Q31) ((up1_k (by omega)).trans R31) ((up1_k (by omega)).trans R28) ((up1_k (by omega)).trans R46) ((up1_k (by omega)).trans R47)) rfl)
      · skip
        refine g_iconst h (i := 49) rfl (v := 1) (by rfl) ?_
        refine g_goto h (i := 50) 143 rfl rfl ?_
        refine g_iadd h (i := 52) rfl ?_
        refine g_putI_0 h (i := 53) rfl fl_X1_89 nf_3_10 (fun _ _ _ => rfl) (lk_M hM) (rfl) (by rfl) ?_
        refine g_goto h (i := 54) 235 rfl rfl ?_
        refine g_aload_n h (i := 106) rfl rfl ?_
        refine g_callVn h hq (i := 107) rfl mv_X1_131 cls3 (lk_M hM) (ct_X3_passLine l E _ m hlo1 hM1) rfl rfl ⟨rfl, rfl, Nat.le_of_ble_eq_true rfl, Nat.le_of_ble_eq_true rfl⟩ (Nat.le_of_ble_eq_true rfl) ⟨Nat.zero_le _, Nat.zero_le _⟩ ?_
        refine g_iconst h (i := 108) rfl (v := 0) (by rfl) ?_
        exact g_zret hq h (i := 109) rfl (rfl) (by
          have hy1 : y = 1 := c_127
          have hce : R (4 + pI x) = y.toInt64 := by
            rw [hn _ (by omega), rd _ (by omega), hy1]
            have t := n01 ((fr_io (k := 4 + pI x) (by omega) (by omega)).mp (hr.1 (4 + pI x)))
            show r (4 + pI x) = 1
            exact t.1.mp c_135
          have e1 : ln1 cf r = up1 R 30 (R 30 + 2) := (hL1.trans (by unfold lineO; rw [if_neg (show ¬ op = 0 by rw [e]; decide), if_neg (show ¬ op = 1 by rw [e]; decide), if_neg (show ¬ op = 2 by rw [e]; decide), if_pos (show op = 3 from e), if_pos hce]))
          exact mk (tf_pass (tf_I tf_0 (by omega))) (fin_pass (B := up1 R 30 (R 30 + 1)) (B' := up1 Q 30 (Q 30 + 1)) (rm_10 hV1 (by rw [Int64.toInt32_add]; rfl)) (e1.trans (by rw [up1_up, up1_s, Int64.add_assoc]; rfl)) (by rw [hn 30 (by omega)]; exact n31_u hn) ((up1_k (by omega)).trans Q31) ((up1_k (by omega)).trans R31) ((up1_k (by omega)).trans R28) ((up1_k (by omega)).trans R46) ((up1_k (by omega)).trans R47)) rfl)
  · skip
    refine g_eqi (4) e ?_
    refine g_tin h (i := 7) 150 rfl (by decide) (by decide) rfl rfl ?_
    refine g_aload_n h (i := 55) rfl rfl ?_
    refine g_aload_n h (i := 56) rfl rfl ?_
    refine g_iload_n h (i := 57) rfl rfl ?_
    refine g_callVx h hq (i := 58) rfl mv_X1_182 cls1 (lc_k hC) (ct_X1_jump l E w1 c m x hlo1 hC1 hM1 hcm) rfl rfl ⟨rfl, rfl, Nat.le_of_ble_eq_true rfl, Nat.le_of_ble_eq_true rfl⟩ (Nat.le_of_ble_eq_true rfl) ⟨Nat.zero_le _, Nat.zero_le _⟩ ?_
    exact g_zret hq h (i := 59) rfl (by unfold jumpW; split <;> first | exact nz0 | exact nz1) (by
      have h1 : ln1 cf r = goesToR (cf 0 12) x R := (hL1.trans (by unfold lineO; rw [if_neg (show ¬ op = 0 by rw [e]; decide), if_neg (show ¬ op = 1 by rw [e]; decide), if_neg (show ¬ op = 2 by rw [e]; decide), if_neg (show ¬ op = 3 by rw [e]; decide), if_pos (show op = 4 from e)]))
      have j := rv_jump (c := c) (x := x) hV1 hln1
      have jV : RepM (jumpW w1 c m x).2 m (goesToR (cf 0 12) x Q) := by
        show RepV _ (wJ (jumpW w1 c m x).2 (m + 2)) _
        rw [j_jump]; exact j.1
      by_cases g : cf 0 12 ≤ x
      · have e1 : goesToR (cf 0 12) x Q = errsR (cf 0 12) 3 Q := if_pos g
        have e2 : goesToR (cf 0 12) x R = errsR (cf 0 12) 3 R := if_pos g
        exact mk (tf_jump tf_0) (fin_err jV (h1.trans (by rw [e1, e2]; exact errs_n hn)) (by rw [e1]; exact errs_31 (by decide))) (j.2.trans (if_pos g))
      · have e1 : goesToR (cf 0 12) x Q = up1 Q 30 x.toInt64 := if_neg g
        have e2 : goesToR (cf 0 12) x R = up1 R 30 x.toInt64 := if_neg g
        exact mk (tf_jump tf_0) (fin_ok jV h1 (by rw [e1, e2]; exact n31_u hn) (by rw [e1]; exact Q31) (by rw [e2]; exact R31) (by rw [e2]; exact R28) (by rw [e2]; exact R46)) (j.2.trans (if_neg g)))
  · skip
    refine g_eqi (5) e ?_
    refine g_tin h (i := 7) 157 rfl (by decide) (by decide) rfl rfl ?_
    refine g_aload_n h (i := 60) rfl rfl ?_
    refine g_aload_n h (i := 61) rfl rfl ?_
    refine g_iload_n h (i := 62) rfl rfl ?_
    refine g_callVx h hq (i := 63) rfl mv_X1_185 cls1 (lc_k hC) (ct_X1_call l E w1 c m x hlo1 hC1 hM1 hcm e7) rfl rfl ⟨rfl, rfl, Nat.le_of_ble_eq_true rfl, Nat.le_of_ble_eq_true rfl⟩ (Nat.le_of_ble_eq_true rfl) ⟨Nat.zero_le _, Nat.zero_le _⟩ ?_
    exact g_zret hq h (i := 64) rfl (by unfold callW; (repeat' split) <;> first | exact nz0 | exact nz1) (by
      have f32 : isN (Q 32) 12 := fQ 32
      have l32 := f32.2
      have h1 : ln1 cf r = callsR (cf 0 12) x R := (hL1.trans (by unfold lineO; rw [if_neg (show ¬ op = 0 by rw [e]; decide), if_neg (show ¬ op = 1 by rw [e]; decide), if_neg (show ¬ op = 2 by rw [e]; decide), if_neg (show ¬ op = 3 by rw [e]; decide), if_neg (show ¬ op = 4 by rw [e]; decide), if_pos (show op = 5 from e)]))
      have j := rv_call (c := c) (x := x) hV1 hln1 f32
      have jV : RepM (callW w1 c m x).2 m (callsR (cf 0 12) x Q) := by
        show RepV _ (wJ (callW w1 c m x).2 (m + 2)) _
        rw [j_call]; exact j.1
      have R32 : R 32 = Q 32 := hn 32 (by omega)
      by_cases g : cf 0 12 ≤ x
      · have e1 : callsR (cf 0 12) x Q = errsR (cf 0 12) 3 Q := if_pos g
        have e2 : callsR (cf 0 12) x R = errsR (cf 0 12) 3 R := if_pos g
        exact mk (tf_call tf_0) (fin_err jV (h1.trans (by rw [e1, e2]; exact errs_n hn)) (by rw [e1]; exact errs_31 (by decide))) (j.2.trans (if_pos (Or.inl g)))
      · by_cases g2 : Q 32 = 12
        · have e1 : callsR (cf 0 12) x Q = errsR (cf 0 12) 5 Q := by unfold callsR; rw [if_neg g, if_pos g2]
          have e2 : callsR (cf 0 12) x R = errsR (cf 0 12) 5 R := by unfold callsR; rw [if_neg g, if_pos (R32.trans g2)]
          exact mk (tf_call tf_0) (fin_err jV (h1.trans (by rw [e1, e2]; exact errs_n hn)) (by rw [e1]; exact errs_31 (by decide))) (j.2.trans (if_pos (Or.inr g2)))
        · have e1 : callsR (cf 0 12) x Q = up1 (up1 (up1 Q (33 + pN (Q 32)) (Q 30 + 1)) 32 (Q 32 + 1)) 30 x.toInt64 := by unfold callsR; rw [if_neg g, if_neg g2]
          have e2 : callsR (cf 0 12) x R = up1 (up1 (up1 R (33 + pN (Q 32)) (Q 30 + 1)) 32 (Q 32 + 1)) 30 x.toInt64 := by unfold callsR; rw [if_neg g, if_neg (by rw [R32]; exact g2), R32, hn 30 (by omega)]
          have g3 : pN (Q 32) ≠ 12 := fun t => g2 (by rw [f32.1, t]; rfl)
          exact mk (tf_call tf_0) (fin_ok jV h1 (by rw [e1, e2]; exact n31_u (n31_u (n31_u hn))) (by rw [e1, up1_k (by omega), up1_k (by omega), up1_k (by omega)]; exact Q31) (by rw [e2, up1_k (by omega), up1_k (by omega), up1_k (by omega)]; exact R31) (by rw [e2, up1_k (by omega), up1_k (by omega), up1_k (by omega)]; exact R28) (by rw [e2, up1_k (by omega), up1_k (by omega), up1_k (by omega)]; exact R46)) (j.2.trans (if_neg (fun t => t.elim g g2))))
  · skip
    refine g_eqi (6) e ?_
    refine g_tin h (i := 7) 164 rfl (by decide) (by decide) rfl rfl ?_
    refine g_aload_n h (i := 65) rfl rfl ?_
    refine g_aload_n h (i := 66) rfl rfl ?_
    refine g_callVx h hq (i := 67) rfl mv_X1_188 cls1 (lc_k hC) (ct_X1_comeBack l E w1 c m hlo1 hC1 hM1 hcm e7) rfl rfl ⟨rfl, rfl, Nat.le_of_ble_eq_true rfl, Nat.le_of_ble_eq_true rfl⟩ (Nat.le_of_ble_eq_true rfl) ⟨Nat.zero_le _, Nat.zero_le _⟩ ?_
    exact g_zret hq h (i := 68) rfl (by unfold backW; split <;> first | exact nz0 | exact nz1) (by
      have f32 : isN (Q 32) 12 := fQ 32
      have h1 : ln1 cf r = backR R := (hL1.trans (by unfold lineO; rw [if_neg (show ¬ op = 0 by rw [e]; decide), if_neg (show ¬ op = 1 by rw [e]; decide), if_neg (show ¬ op = 2 by rw [e]; decide), if_neg (show ¬ op = 3 by rw [e]; decide), if_neg (show ¬ op = 4 by rw [e]; decide), if_neg (show ¬ op = 5 by rw [e]; decide), if_pos (show op = 6 from e)]))
      have j := rv_back hV1 f32
      have jV : RepM (backW w1 m).2 m (backR Q) := by
        show RepV _ (wJ (backW w1 m).2 (m + 2)) _
        rw [j_back]; exact j.1
      have R32 : R 32 = Q 32 := hn 32 (by omega)
      have l32 := f32.2
      by_cases g : Q 32 = 0
      · have e1 : backR Q = up1 Q 28 2 := if_pos g
        have e2 : backR R = up1 R 28 2 := if_pos (R32.trans g)
        exact mk (tf_back tf_0) (fin_end jV h1 (by rw [e1, e2]; exact n31_u hn) (by rw [e1]; exact Q31) (by rw [e2]; exact R31) (by rw [e2]; exact (by decide : (2 : Int64) ≠ 1))) (j.2.trans (if_pos g))
      · have e1 : backR Q = up1 (up1 Q 32 (Q 32 - 1)) 30 (Q (33 + (pN (Q 32) - 1))) := if_neg g
        have e2 : backR R = up1 (up1 R 32 (Q 32 - 1)) 30 (Q (33 + (pN (Q 32) - 1))) := by unfold backR; rw [R32, if_neg g, hn (33 + (pN (Q 32) - 1)) (by omega)]
        exact mk (tf_back tf_0) (fin_ok jV h1 (by rw [e1, e2]; exact n31_u (n31_u hn)) (by rw [e1]; exact Q31) (by rw [e2]; exact R31) (by rw [e2]; exact R28) (by rw [e2]; exact R46)) (j.2.trans (if_neg g)))
  · skip
    refine g_eqi (7) e ?_
    refine g_tin h (i := 7) 170 rfl (by decide) (by decide) rfl rfl ?_
    have hx7 := l6 (Or.inl e)
    have hxl := hx7.2
    refine g_aload_n h (i := 69) rfl rfl ?_
    refine g_getR h (i := 70) rfl fl_X1_191 (fun _ _ _ => rfl) (lk_M hM) (lm_registers hM) ?_
    refine g_iload_n h (i := 71) rfl rfl ?_
    refine g_dup2 h (i := 72) rfl rfl rfl ?_
    refine g_iald h (i := 73) rfl (ln_registers hM) (ji_v hx7 (by omega) (by omega)) ?_
    refine g_eqi (r (20 + pI x)).toInt32 ((hV1.2.2.2.2.2.2.2.2.2.2.2.2.2.2.2.1 (pI x) (by omega)).trans (by rw [rd _ (by omega)])) ?_
    refine g_iload h (i := 74) rfl rfl ?_
    refine g_iadd h (i := 75) rfl ?_
    refine g_iast h (i := 76) rfl (ln_registers hM) (ji_v hx7 (by omega) (by omega)) ?_
    refine g_goto h (i := 77) 235 rfl rfl ?_
    refine g_aload_n h (i := 106) rfl rfl ?_
    refine g_callVn h hq (i := 107) rfl mv_X1_131 cls3 (lk_M hM) (ct_X3_passLine l E _ m hlo1 hM1) rfl rfl ⟨rfl, rfl, Nat.le_of_ble_eq_true rfl, Nat.le_of_ble_eq_true rfl⟩ (Nat.le_of_ble_eq_true rfl) ⟨Nat.zero_le _, Nat.zero_le _⟩ ?_
    refine g_iconst h (i := 108) rfl (v := 0) (by rfl) ?_
    exact g_zret hq h (i := 109) rfl (rfl) (by
      have e1 : ln1 cf r = up1 (up1 R (20 + pI x) (R (20 + pI x) + y.toInt64).toInt32.toInt64) 30 (R 30 + 1) := (hL1.trans (by unfold lineO; rw [if_neg (show ¬ op = 0 by rw [e]; decide), if_neg (show ¬ op = 1 by rw [e]; decide), if_neg (show ¬ op = 2 by rw [e]; decide), if_neg (show ¬ op = 3 by rw [e]; decide), if_neg (show ¬ op = 4 by rw [e]; decide), if_neg (show ¬ op = 5 by rw [e]; decide), if_neg (show ¬ op = 6 by rw [e]; decide), if_pos (show op = 7 from e)]))
      exact mk (tf_pass (tf_I tf_0 (by omega))) (fin_pass (B := up1 R (20 + pI x) (R (20 + pI x) + y.toInt64).toInt32.toInt64) (rm_rg (k := pI x) hV1 (by omega) (u := (R (20 + pI x) + y.toInt64).toInt32.toInt64) (by rw [Int32.toInt32_toInt64, Int64.toInt32_add, Int32.toInt32_toInt64, hn _ (by omega), rd _ (by omega)])) (e1.trans (by rw [up1_k (show 30 ≠ 20 + pI x by omega)])) (n31_u hn) ((up1_k (by omega)).trans Q31) ((up1_k (by omega)).trans R31) ((up1_k (by omega)).trans R28) ((up1_k (by omega)).trans R46) ((up1_k (by omega)).trans R47)) rfl)
  · skip
    refine g_eqi (8) e ?_
    refine g_tin h (i := 7) 184 rfl (by decide) (by decide) rfl rfl ?_
    have hx7 := l6 (Or.inr (Or.inl e))
    have hxl := hx7.2
    refine g_aload_n h (i := 78) rfl rfl ?_
    refine g_dup h (i := 79) rfl rfl ?_
    refine g_getI h (i := 80) rfl fl_X1_89 (fun _ _ _ => rfl) (lk_M hM) ?_
    refine g_eqi (Q 30).toInt32 e10 ?_
    refine g_aload_n h (i := 81) rfl rfl ?_
    refine g_getR h (i := 82) rfl fl_X1_191 (fun _ _ _ => rfl) (lk_M hM) (lm_registers hM) ?_
    refine g_iload_n h (i := 83) rfl rfl ?_
    refine g_iald h (i := 84) rfl (ln_registers hM) (ji_v hx7 (by omega) (by omega)) ?_
    refine g_eqi (r (20 + pI x)).toInt32 ((hV1.2.2.2.2.2.2.2.2.2.2.2.2.2.2.2.1 (pI x) (by omega)).trans (by rw [rd _ (by omega)])) ?_
    refine g_iload h (i := 85) rfl rfl ?_
    refine g_icmp_ge h (i := 86) 204 rfl rfl (fun c_197 => ?_) (fun c_197 => ?_)
    · skip
      refine g_iconst h (i := 89) rfl (v := 0) (by rfl) ?_
      refine g_iadd h (i := 90) rfl ?_
      refine g_putI_0 h (i := 91) rfl fl_X1_89 nf_3_10 (fun _ _ _ => rfl) (lk_M hM) (rfl) (by rfl) ?_
      refine g_goto h (i := 92) 235 rfl rfl ?_
      refine g_aload_n h (i := 106) rfl rfl ?_
      refine g_callVn h hq (i := 107) rfl mv_X1_131 cls3 (lk_M hM) (ct_X3_passLine l E _ m hlo1 hM1) rfl rfl ⟨rfl, rfl, Nat.le_of_ble_eq_true rfl, Nat.le_of_ble_eq_true rfl⟩ (Nat.le_of_ble_eq_true rfl) ⟨Nat.zero_le _, Nat.zero_le _⟩ ?_
      refine g_iconst h (i := 108) rfl (v := 0) (by rfl) ?_
      exact g_zret hq h (i := 109) rfl (rfl) (by
        have hle : y.toInt64 ≤ R (20 + pI x) ↔ y ≤ (r (20 + pI x)).toInt32 := by
          rw [hn _ (by omega), rd _ (by omega), i64le, i32le, i_l, ← i_l (r (20 + pI x)).toInt32, ← (fr_rg (k := 20 + pI x) (by omega) (by omega)).mp (hr.1 (20 + pI x))]
        have e1 : ln1 cf r = up1 R 30 (R 30 + 1) := (hL1.trans (by unfold lineO; rw [if_neg (show ¬ op = 0 by rw [e]; decide), if_neg (show ¬ op = 1 by rw [e]; decide), if_neg (show ¬ op = 2 by rw [e]; decide), if_neg (show ¬ op = 3 by rw [e]; decide), if_neg (show ¬ op = 4 by rw [e]; decide), if_neg (show ¬ op = 5 by rw [e]; decide), if_neg (show ¬ op = 6 by rw [e]; decide), if_neg (show ¬ op = 7 by rw [e]; decide), if_pos (show op = 8 from e), if_pos (hle.mpr c_197)]))
        exact mk (tf_pass (tf_I tf_0 (by omega))) (fin_pass (B := up1 R 30 (R 30 + 0)) (B' := up1 Q 30 (Q 30 + 0)) (rm_10 hV1 (by rw [Int64.toInt32_add]; rfl)) (e1.trans (by rw [up1_up, up1_s, Int64.add_assoc]; rfl)) (by rw [hn 30 (by omega)]; exact n31_u hn) ((up1_k (by omega)).trans Q31) ((up1_k (by omega)).trans R31) ((up1_k (by omega)).trans R28) ((up1_k (by omega)).trans R46) ((up1_k (by omega)).trans R47)) rfl)
    · skip
      refine g_iconst h (i := 87) rfl (v := 1) (by rfl) ?_
      refine g_goto h (i := 88) 205 rfl rfl ?_
      refine g_iadd h (i := 90) rfl ?_
      refine g_putI_0 h (i := 91) rfl fl_X1_89 nf_3_10 (fun _ _ _ => rfl) (lk_M hM) (rfl) (by rfl) ?_
      refine g_goto h (i := 92) 235 rfl rfl ?_
      refine g_aload_n h (i := 106) rfl rfl ?_
      refine g_callVn h hq (i := 107) rfl mv_X1_131 cls3 (lk_M hM) (ct_X3_passLine l E _ m hlo1 hM1) rfl rfl ⟨rfl, rfl, Nat.le_of_ble_eq_true rfl, Nat.le_of_ble_eq_true rfl⟩ (Nat.le_of_ble_eq_true rfl) ⟨Nat.zero_le _, Nat.zero_le _⟩ ?_
      refine g_iconst h (i := 108) rfl (v := 0) (by rfl) ?_
      exact g_zret hq h (i := 109) rfl (rfl) (by
        have hle : y.toInt64 ≤ R (20 + pI x) ↔ y ≤ (r (20 + pI x)).toInt32 := by
          rw [hn _ (by omega), rd _ (by omega), i64le, i32le, i_l, ← i_l (r (20 + pI x)).toInt32, ← (fr_rg (k := 20 + pI x) (by omega) (by omega)).mp (hr.1 (20 + pI x))]
        have e1 : ln1 cf r = up1 R 30 (R 30 + 2) := (hL1.trans (by unfold lineO; rw [if_neg (show ¬ op = 0 by rw [e]; decide), if_neg (show ¬ op = 1 by rw [e]; decide), if_neg (show ¬ op = 2 by rw [e]; decide), if_neg (show ¬ op = 3 by rw [e]; decide), if_neg (show ¬ op = 4 by rw [e]; decide), if_neg (show ¬ op = 5 by rw [e]; decide), if_neg (show ¬ op = 6 by rw [e]; decide), if_neg (show ¬ op = 7 by rw [e]; decide), if_pos (show op = 8 from e), if_neg (fun q => c_197 (hle.mp q))]))
        exact mk (tf_pass (tf_I tf_0 (by omega))) (fin_pass (B := up1 R 30 (R 30 + 1)) (B' := up1 Q 30 (Q 30 + 1)) (rm_10 hV1 (by rw [Int64.toInt32_add]; rfl)) (e1.trans (by rw [up1_up, up1_s, Int64.add_assoc]; rfl)) (by rw [hn 30 (by omega)]; exact n31_u hn) ((up1_k (by omega)).trans Q31) ((up1_k (by omega)).trans R31) ((up1_k (by omega)).trans R28) ((up1_k (by omega)).trans R46) ((up1_k (by omega)).trans R47)) rfl)
  · skip
    refine g_eqi (9) e ?_
    refine g_tin h (i := 7) 212 rfl (by decide) (by decide) rfl rfl ?_
    refine g_aload_n h (i := 93) rfl rfl ?_
    refine g_iload_n h (i := 94) rfl rfl ?_
    refine g_putI_0 h (i := 95) rfl fl_X1_194 nf_3_16 (fun _ _ _ => rfl) (lk_M hM) (rfl) (by rfl) ?_
    refine g_goto h (i := 96) 235 rfl rfl ?_
    refine g_aload_n h (i := 106) rfl rfl ?_
    refine g_callVn h hq (i := 107) rfl mv_X1_131 cls3 (lk_M hM) (ct_X3_passLine l E _ m hlo1 hM1) rfl rfl ⟨rfl, rfl, Nat.le_of_ble_eq_true rfl, Nat.le_of_ble_eq_true rfl⟩ (Nat.le_of_ble_eq_true rfl) ⟨Nat.zero_le _, Nat.zero_le _⟩ ?_
    refine g_iconst h (i := 108) rfl (v := 0) (by rfl) ?_
    exact g_zret hq h (i := 109) rfl (rfl) (by
      have h1 : ln1 cf r = up1 (up1 R 49 x.toInt64) 30 (R 30 + 1) := (hL1.trans (by unfold lineO; rw [if_neg (show ¬ op = 0 by rw [e]; decide), if_neg (show ¬ op = 1 by rw [e]; decide), if_neg (show ¬ op = 2 by rw [e]; decide), if_neg (show ¬ op = 3 by rw [e]; decide), if_neg (show ¬ op = 4 by rw [e]; decide), if_neg (show ¬ op = 5 by rw [e]; decide), if_neg (show ¬ op = 6 by rw [e]; decide), if_neg (show ¬ op = 7 by rw [e]; decide), if_neg (show ¬ op = 8 by rw [e]; decide), if_pos (show op = 9 from e)]))
      exact mk (tf_pass (tf_I tf_0 (by omega))) (fin_pass (B := up1 R 49 x.toInt64) (rm_16 hV1) h1 (n31_u hn) Q31 R31 R28 R46 R47) rfl)
  · skip
    refine g_eqi (10) e ?_
    refine g_tin h (i := 7) 220 rfl (by decide) (by decide) rfl rfl ?_
    refine g_aload_n h (i := 97) rfl rfl ?_
    refine g_aload_n h (i := 98) rfl rfl ?_
    refine g_getI h (i := 99) rfl fl_X1_89 (fun _ _ _ => rfl) (lk_M hM) ?_
    refine g_callVn h hq (i := 100) rfl mv_X1_95 cls3 (lk_M hM) (ct_X3_end l E w1 m _ hlo1 hM1) rfl rfl ⟨rfl, rfl, Nat.le_of_ble_eq_true rfl, Nat.le_of_ble_eq_true rfl⟩ (Nat.le_of_ble_eq_true rfl) ⟨Nat.zero_le _, Nat.zero_le _⟩ ?_
    refine g_iconst h (i := 101) rfl (v := 1) (by rfl) ?_
    exact g_zret hq h (i := 102) rfl (rfl) (by
      have h1 : ln1 cf r = up1 R 28 2 := (hL1.trans (by unfold lineO; rw [if_neg (show ¬ op = 0 by rw [e]; decide), if_neg (show ¬ op = 1 by rw [e]; decide), if_neg (show ¬ op = 2 by rw [e]; decide), if_neg (show ¬ op = 3 by rw [e]; decide), if_neg (show ¬ op = 4 by rw [e]; decide), if_neg (show ¬ op = 5 by rw [e]; decide), if_neg (show ¬ op = 6 by rw [e]; decide), if_neg (show ¬ op = 7 by rw [e]; decide), if_neg (show ¬ op = 8 by rw [e]; decide), if_neg (show ¬ op = 9 by rw [e]; decide), if_pos (show op = 10 from e)]))
      exact mk (tf_end tf_0) (fin_end (rm_end hV1) h1 (n31_u hn) Q31 R31 (by decide : (2 : Int64) ≠ 1)) rfl)
  · skip
    refine g_eqi (11) e ?_
    refine g_tout h (i := 7) 230 rfl (Or.inr (by decide)) rfl ?_
    refine g_aload_n h (i := 103) rfl rfl ?_
    refine g_iload_n h (i := 104) rfl rfl ?_
    refine g_putI_0 h (i := 105) rfl fl_X1_197 nf_3_15 (fun _ _ _ => rfl) (lk_M hM) (rfl) (by rfl) ?_
    refine g_aload_n h (i := 106) rfl rfl ?_
    refine g_callVn h hq (i := 107) rfl mv_X1_131 cls3 (lk_M hM) (ct_X3_passLine l E _ m hlo1 hM1) rfl rfl ⟨rfl, rfl, Nat.le_of_ble_eq_true rfl, Nat.le_of_ble_eq_true rfl⟩ (Nat.le_of_ble_eq_true rfl) ⟨Nat.zero_le _, Nat.zero_le _⟩ ?_
    refine g_iconst h (i := 108) rfl (v := 0) (by rfl) ?_
    exact g_zret hq h (i := 109) rfl (rfl) (by
      have h1 : ln1 cf r = up1 (up1 R 48 x.toInt64) 30 (R 30 + 1) := (hL1.trans (by unfold lineO; rw [if_neg (show ¬ op = 0 by rw [e]; decide), if_neg (show ¬ op = 1 by rw [e]; decide), if_neg (show ¬ op = 2 by rw [e]; decide), if_neg (show ¬ op = 3 by rw [e]; decide), if_neg (show ¬ op = 4 by rw [e]; decide), if_neg (show ¬ op = 5 by rw [e]; decide), if_neg (show ¬ op = 6 by rw [e]; decide), if_neg (show ¬ op = 7 by rw [e]; decide), if_neg (show ¬ op = 8 by rw [e]; decide), if_neg (show ¬ op = 9 by rw [e]; decide), if_neg (show ¬ op = 10 by rw [e]; decide)]))
      exact mk (tf_pass (tf_I tf_0 (by omega))) (fin_pass (B := up1 R 48 x.toInt64) (rm_15 hV1) h1 (n31_u hn) Q31 R31 R28 R46 R47) rfl)
