theorem up2_f2 {α : Type} {f : Nat → Nat → α} {a k x y : Nat} {v : α} (h : x ≠ a) : up2 f a k v x y = f x y := up2_a h
theorem bI_e {x y : Int64} (h : x = y) : bI (x = 1) = bI (y = 1) := by rw [h]
theorem mv_c {M M' : Nat → Nat → Int32} {r q : Nat → Int64} (h : MotV M r) (hM : ∀ f k, 7 ≤ f → M' f k = M f k) (hq : ∀ y, 51 ≤ y → y < 63 → q y = r y) : MotV M' q := by
  obtain ⟨h1, h2, h3, h4, h5⟩ := h
  refine ⟨?_, ?_, ?_, ?_, fun j hj => ⟨?_, ?_⟩⟩
  · rw [hM _ _ (by omega), hq _ (by omega) (by omega)]; exact h1
  · rw [hM _ _ (by omega), hq _ (by omega) (by omega)]; exact h2
  · rw [hM _ _ (by omega), hq _ (by omega) (by omega)]; exact h3
  · rw [hM _ _ (by omega), hq _ (by omega) (by omega)]; exact h4
  · rw [hM _ _ (by omega), hq _ (by omega) (by omega)]; exact (h5 j hj).1
  · rw [hM _ _ (by omega), hq _ (by omega) (by omega), hq _ (by omega) (by omega)]; exact (h5 j hj).2
theorem l32_1 (x : Int64) : x.toInt32 + 1 = (x + 1).toInt32 := by rw [Int64.toInt32_add]; rfl
theorem l32_m (x : Int64) : x.toInt32 - 1 = (x - 1).toInt32 := by rw [Int64.toInt32_sub]; rfl
theorem i_i (x : Int32) : x = x.toInt64.toInt32 := (Int32.toInt32_toInt64 x).symm
theorem cf_drop (w : Wd) (m : Nat) : cfW (dropW w m) m = up2 (up2 (cfW w m) 0 14 0) 0 13 0 := by unfold dropW; rw [cf_0, cf_0]
theorem cf_pass (w : Wd) (m : Nat) : cfW (passW w m) m = up2 (up2 (up2 (cfW w m) 0 14 0) 0 13 0) 0 10 (wI w m 10 + 1) := by unfold passW; rw [cf_0, cf_drop]
theorem cf_end (w : Wd) (m : Nat) (x : Int32) : cfW (endW w m x) m = up2 (up2 (cfW w m) 0 8 2) 0 10 x := by unfold endW; rw [cf_0, cf_0]
theorem cf_stop (w : Wd) (m : Nat) (e : Int32) : cfW (stopW w m e) m = up2 (up2 (up2 (up2 (cfW w m) 0 8 3) 0 11 e) 0 14 0) 0 13 0 := by unfold stopW; rw [cf_drop, cf_0, cf_0]
theorem i32eta {x : Int64} {m : Nat} (h : isN x m) (hm : m < 2147483648) : x.toInt32 = nI (pN x) := (isN_i h hm).1
theorem rv_pass {w : Wd} {m : Nat} {T r : Nat → Int64} (h : RepV (cfW w m) T r) : RepV (cfW (passW w m) m) T (overR r) := by
  rw [cf_pass]
  have e : wI w m 10 + 1 = (r 30 + 1).toInt32 := by rw [show wI w m 10 = (r 30).toInt32 from h.2.2.2.1]; exact l32_1 _
  exact ⟨h.1, h.2.1, h.2.2.1, e, h.2.2.2.2.1, h.2.2.2.2.2.1, rfl, rfl, h.2.2.2.2.2.2.2.2.1, h.2.2.2.2.2.2.2.2.2.1, fun q => absurd (show (0 : Int64) = 1 from q) (by decide), fun j hj => (h.2.2.2.2.2.2.2.2.2.2.2.1 j hj).trans (congrArg Int64.toInt32 (Eq.symm (by first | rfl | ((try unfold overR); (repeat first | rw [up1_k (by omega)] | rw [setn_o (by omega)]))))), fun j hj => (h.2.2.2.2.2.2.2.2.2.2.2.2.1 j hj).trans (Eq.symm (by first | rfl | ((try unfold overR); (repeat first | rw [up1_k (by omega)] | rw [setn_o (by omega)])))), fun j hj => (h.2.2.2.2.2.2.2.2.2.2.2.2.2.1 j hj).trans (congrArg Int64.toInt32 (Eq.symm (by first | rfl | ((try unfold overR); (repeat first | rw [up1_k (by omega)] | rw [setn_o (by omega)]))))), fun j hj => (h.2.2.2.2.2.2.2.2.2.2.2.2.2.2.1 j hj).trans (congrArg Int64.toInt32 (Eq.symm (by first | rfl | ((try unfold overR); (repeat first | rw [up1_k (by omega)] | rw [setn_o (by omega)]))))), fun j hj => (h.2.2.2.2.2.2.2.2.2.2.2.2.2.2.2.1 j hj).trans (congrArg Int64.toInt32 (Eq.symm (by first | rfl | ((try unfold overR); (repeat first | rw [up1_k (by omega)] | rw [setn_o (by omega)]))))), fun j hj hj2 => (h.2.2.2.2.2.2.2.2.2.2.2.2.2.2.2.2.1 j hj hj2).trans (congrArg Int64.toInt32 (Eq.symm (by first | rfl | ((try unfold overR); (repeat first | rw [up1_k (by omega)] | rw [setn_o (by omega)]))))), fun q => absurd (show (0 : Int64) = 1 from q) (by decide)⟩
theorem rv_spend {w : Wd} {m : Nat} {T r : Nat → Int64} (h : RepV (cfW w m) T r) (hl : isN (r 47) 2000000) (hp : 0 < pN (r 47)) : RepV (cfW (spendW w m) m) T (if r 47 - 1 = 0 then overR (up1 r 47 (r 47 - 1)) else up1 r 47 (r 47 - 1)) := by
  have e : wI w m 13 - 1 = (r 47 - 1).toInt32 := by rw [show wI w m 13 = (r 47).toInt32 from h.2.2.2.2.2.2.1]; exact l32_m _
  have hs := isN_m hl hp
  have hz : wI w m 13 - 1 ≤ 0 ↔ r 47 - 1 = 0 := by
    rw [e, i32eta hs.1 (by omega), i32le, nIT (by have := hs.1.2; omega), isN_0 hs.1]
    have e0 : (0 : Int32).toInt = 0 := rfl
    omega
  have b : RepV (cfW (sI w m 13 (wI w m 13 - 1)) m) T (up1 r 47 (r 47 - 1)) := by
    rw [cf_0]
    exact ⟨h.1, h.2.1, h.2.2.1, h.2.2.2.1, h.2.2.2.2.1, h.2.2.2.2.2.1, e, h.2.2.2.2.2.2.2.1, h.2.2.2.2.2.2.2.2.1, h.2.2.2.2.2.2.2.2.2.1, h.2.2.2.2.2.2.2.2.2.2.1, fun j hj => (h.2.2.2.2.2.2.2.2.2.2.2.1 j hj).trans (congrArg Int64.toInt32 (Eq.symm (by first | rfl | ((try unfold overR); (repeat first | rw [up1_k (by omega)] | rw [setn_o (by omega)]))))), fun j hj => (h.2.2.2.2.2.2.2.2.2.2.2.2.1 j hj).trans (Eq.symm (by first | rfl | ((try unfold overR); (repeat first | rw [up1_k (by omega)] | rw [setn_o (by omega)])))), fun j hj => (h.2.2.2.2.2.2.2.2.2.2.2.2.2.1 j hj).trans (congrArg Int64.toInt32 (Eq.symm (by first | rfl | ((try unfold overR); (repeat first | rw [up1_k (by omega)] | rw [setn_o (by omega)]))))), fun j hj => (h.2.2.2.2.2.2.2.2.2.2.2.2.2.2.1 j hj).trans (congrArg Int64.toInt32 (Eq.symm (by first | rfl | ((try unfold overR); (repeat first | rw [up1_k (by omega)] | rw [setn_o (by omega)]))))), fun j hj => (h.2.2.2.2.2.2.2.2.2.2.2.2.2.2.2.1 j hj).trans (congrArg Int64.toInt32 (Eq.symm (by first | rfl | ((try unfold overR); (repeat first | rw [up1_k (by omega)] | rw [setn_o (by omega)]))))), fun j hj hj2 => (h.2.2.2.2.2.2.2.2.2.2.2.2.2.2.2.2.1 j hj hj2).trans (congrArg Int64.toInt32 (Eq.symm (by first | rfl | ((try unfold overR); (repeat first | rw [up1_k (by omega)] | rw [setn_o (by omega)]))))), fun q => mv_c (h.2.2.2.2.2.2.2.2.2.2.2.2.2.2.2.2.2 q) (fun f k hf => (by first | rfl | (repeat first | rw [up2_f2 (by omega)] | rw [ua_a (by omega)]))) (fun y h1 h2 => (by first | rfl | ((try unfold overR); (repeat first | rw [up1_k (by omega)] | rw [setn_o (by omega)]))))⟩
  unfold spendW
  by_cases g : r 47 - 1 = 0
  · rw [if_pos (hz.mpr g), if_pos g]; exact rv_pass b
  · rw [if_neg (fun q => g (hz.mp q)), if_neg g]; exact b
theorem j_spend (w : Wd) (m : Nat) : wJ (spendW w m) = wJ w := by
  unfold spendW
  split <;> rfl
theorem j_err (w : Wd) (c m : Nat) (e : Int32) : wJ (errW w c m e) = wJ w := by
  unfold errW
  split
  · rfl
  · split <;> rfl
theorem j_jump (w : Wd) (c m : Nat) (x : Int32) : wJ (jumpW w c m x).2 = wJ w := by
  unfold jumpW
  split
  · exact j_err w c m 3
  · rfl
theorem j_call (w : Wd) (c m : Nat) (x : Int32) : wJ (callW w c m x).2 = wJ w := by
  unfold callW
  split
  · exact j_err w c m 3
  · split
    · exact j_err w c m 5
    · rfl
theorem j_back (w : Wd) (m : Nat) : wJ (backW w m).2 = wJ w := by
  unfold backW
  split <;> rfl
theorem rv_stop {w : Wd} {m : Nat} {T r : Nat → Int64} {e : Int32} (h : RepV (cfW w m) T r) : RepV (cfW (stopW w m e) m) T (up1 (up1 (up1 (up1 r 46 0) 47 0) 31 e.toInt64) 28 3) := by
  rw [cf_stop]
  exact ⟨h.1, rfl, h.2.2.1, h.2.2.2.1, i_i e, h.2.2.2.2.2.1, rfl, rfl, h.2.2.2.2.2.2.2.2.1, h.2.2.2.2.2.2.2.2.2.1, fun q => absurd (show (0 : Int64) = 1 from q) (by decide), fun j hj => (h.2.2.2.2.2.2.2.2.2.2.2.1 j hj).trans (congrArg Int64.toInt32 (Eq.symm (by first | rfl | ((try unfold overR); (repeat first | rw [up1_k (by omega)] | rw [setn_o (by omega)]))))), fun j hj => (h.2.2.2.2.2.2.2.2.2.2.2.2.1 j hj).trans (Eq.symm (by first | rfl | ((try unfold overR); (repeat first | rw [up1_k (by omega)] | rw [setn_o (by omega)])))), fun j hj => (h.2.2.2.2.2.2.2.2.2.2.2.2.2.1 j hj).trans (congrArg Int64.toInt32 (Eq.symm (by first | rfl | ((try unfold overR); (repeat first | rw [up1_k (by omega)] | rw [setn_o (by omega)]))))), fun j hj => (h.2.2.2.2.2.2.2.2.2.2.2.2.2.2.1 j hj).trans (congrArg Int64.toInt32 (Eq.symm (by first | rfl | ((try unfold overR); (repeat first | rw [up1_k (by omega)] | rw [setn_o (by omega)]))))), fun j hj => (h.2.2.2.2.2.2.2.2.2.2.2.2.2.2.2.1 j hj).trans (congrArg Int64.toInt32 (Eq.symm (by first | rfl | ((try unfold overR); (repeat first | rw [up1_k (by omega)] | rw [setn_o (by omega)]))))), fun j hj hj2 => (h.2.2.2.2.2.2.2.2.2.2.2.2.2.2.2.2.1 j hj hj2).trans (congrArg Int64.toInt32 (Eq.symm (by first | rfl | ((try unfold overR); (repeat first | rw [up1_k (by omega)] | rw [setn_o (by omega)]))))), fun q => absurd (show (0 : Int64) = 1 from q) (by decide)⟩
theorem rv_err {w : Wd} {c m : Nat} {T r : Nat → Int64} {e ln : Int32} (h : RepV (cfW w m) T r) (hl : wI w (c + 4) 3 = ln) : RepV (cfW (errW w c m e) m) T (errsR ln e r) := by
  have e15 : wI w m 15 = (r 48).toInt32 := h.2.2.2.2.2.2.2.2.1
  unfold errW errsR
  rw [hl, e15]
  by_cases g : (r 48).toInt32 = -1
  · rw [if_pos g, if_pos g]; exact rv_stop h
  · rw [if_neg g, if_neg g]
    by_cases g2 : ln ≤ (r 48).toInt32
    · rw [if_pos g2, if_pos g2, cf_stop]
      exact ⟨h.1, rfl, h.2.2.1, h.2.2.2.1, rfl, h.2.2.2.2.2.1, rfl, rfl, h.2.2.2.2.2.2.2.2.1, h.2.2.2.2.2.2.2.2.2.1, fun q => absurd (show (0 : Int64) = 1 from q) (by decide), fun j hj => (h.2.2.2.2.2.2.2.2.2.2.2.1 j hj).trans (congrArg Int64.toInt32 (Eq.symm (by first | rfl | ((try unfold overR); (repeat first | rw [up1_k (by omega)] | rw [setn_o (by omega)]))))), fun j hj => (h.2.2.2.2.2.2.2.2.2.2.2.2.1 j hj).trans (Eq.symm (by first | rfl | ((try unfold overR); (repeat first | rw [up1_k (by omega)] | rw [setn_o (by omega)])))), fun j hj => (h.2.2.2.2.2.2.2.2.2.2.2.2.2.1 j hj).trans (congrArg Int64.toInt32 (Eq.symm (by first | rfl | ((try unfold overR); (repeat first | rw [up1_k (by omega)] | rw [setn_o (by omega)]))))), fun j hj => (h.2.2.2.2.2.2.2.2.2.2.2.2.2.2.1 j hj).trans (congrArg Int64.toInt32 (Eq.symm (by first | rfl | ((try unfold overR); (repeat first | rw [up1_k (by omega)] | rw [setn_o (by omega)]))))), fun j hj => (h.2.2.2.2.2.2.2.2.2.2.2.2.2.2.2.1 j hj).trans (congrArg Int64.toInt32 (Eq.symm (by first | rfl | ((try unfold overR); (repeat first | rw [up1_k (by omega)] | rw [setn_o (by omega)]))))), fun j hj hj2 => (h.2.2.2.2.2.2.2.2.2.2.2.2.2.2.2.2.1 j hj hj2).trans (congrArg Int64.toInt32 (Eq.symm (by first | rfl | ((try unfold overR); (repeat first | rw [up1_k (by omega)] | rw [setn_o (by omega)]))))), fun q => absurd (show (0 : Int64) = 1 from q) (by decide)⟩
    · rw [if_neg g2, if_neg g2, cf_0, cf_0, cf_0, cf_0, cf_drop]
      exact ⟨rfl, h.2.1, h.2.2.1, i_i _, i_i e, h.2.2.2.2.2.1, rfl, rfl, rfl, h.2.2.2.2.2.2.2.2.2.1, fun q => absurd (show (0 : Int64) = 1 from q) (by decide), fun j hj => (h.2.2.2.2.2.2.2.2.2.2.2.1 j hj).trans (congrArg Int64.toInt32 (Eq.symm (by first | rfl | ((try unfold overR); (repeat first | rw [up1_k (by omega)] | rw [setn_o (by omega)]))))), fun j hj => (h.2.2.2.2.2.2.2.2.2.2.2.2.1 j hj).trans (Eq.symm (by first | rfl | ((try unfold overR); (repeat first | rw [up1_k (by omega)] | rw [setn_o (by omega)])))), fun j hj => (h.2.2.2.2.2.2.2.2.2.2.2.2.2.1 j hj).trans (congrArg Int64.toInt32 (Eq.symm (by first | rfl | ((try unfold overR); (repeat first | rw [up1_k (by omega)] | rw [setn_o (by omega)]))))), fun j hj => (h.2.2.2.2.2.2.2.2.2.2.2.2.2.2.1 j hj).trans (congrArg Int64.toInt32 (Eq.symm (by first | rfl | ((try unfold overR); (repeat first | rw [up1_k (by omega)] | rw [setn_o (by omega)]))))), fun j hj => (h.2.2.2.2.2.2.2.2.2.2.2.2.2.2.2.1 j hj).trans (congrArg Int64.toInt32 (Eq.symm (by first | rfl | ((try unfold overR); (repeat first | rw [up1_k (by omega)] | rw [setn_o (by omega)]))))), fun i _ q => absurd (show i < pN 0 from q) (Nat.not_lt_zero i), fun q => absurd (show (0 : Int64) = 1 from q) (by decide)⟩
theorem rv_end {w : Wd} {m : Nat} {T r : Nat → Int64} (h : RepV (cfW w m) T r) : RepV (cfW (endW w m (wI w m 10)) m) T (up1 r 28 2) := by
  rw [cf_end]
  exact ⟨h.1, rfl, h.2.2.1, h.2.2.2.1, h.2.2.2.2.1, h.2.2.2.2.2.1, h.2.2.2.2.2.2.1, h.2.2.2.2.2.2.2.1, h.2.2.2.2.2.2.2.2.1, h.2.2.2.2.2.2.2.2.2.1, h.2.2.2.2.2.2.2.2.2.2.1, fun j hj => (h.2.2.2.2.2.2.2.2.2.2.2.1 j hj).trans (congrArg Int64.toInt32 (Eq.symm (by first | rfl | ((try unfold overR); (repeat first | rw [up1_k (by omega)] | rw [setn_o (by omega)]))))), fun j hj => (h.2.2.2.2.2.2.2.2.2.2.2.2.1 j hj).trans (Eq.symm (by first | rfl | ((try unfold overR); (repeat first | rw [up1_k (by omega)] | rw [setn_o (by omega)])))), fun j hj => (h.2.2.2.2.2.2.2.2.2.2.2.2.2.1 j hj).trans (congrArg Int64.toInt32 (Eq.symm (by first | rfl | ((try unfold overR); (repeat first | rw [up1_k (by omega)] | rw [setn_o (by omega)]))))), fun j hj => (h.2.2.2.2.2.2.2.2.2.2.2.2.2.2.1 j hj).trans (congrArg Int64.toInt32 (Eq.symm (by first | rfl | ((try unfold overR); (repeat first | rw [up1_k (by omega)] | rw [setn_o (by omega)]))))), fun j hj => (h.2.2.2.2.2.2.2.2.2.2.2.2.2.2.2.1 j hj).trans (congrArg Int64.toInt32 (Eq.symm (by first | rfl | ((try unfold overR); (repeat first | rw [up1_k (by omega)] | rw [setn_o (by omega)]))))), fun j hj hj2 => (h.2.2.2.2.2.2.2.2.2.2.2.2.2.2.2.2.1 j hj hj2).trans (congrArg Int64.toInt32 (Eq.symm (by first | rfl | ((try unfold overR); (repeat first | rw [up1_k (by omega)] | rw [setn_o (by omega)]))))), fun q => mv_c (h.2.2.2.2.2.2.2.2.2.2.2.2.2.2.2.2.2 q) (fun f k hf => (by first | rfl | (repeat first | rw [up2_f2 (by omega)] | rw [ua_a (by omega)]))) (fun y h1 h2 => (by first | rfl | ((try unfold overR); (repeat first | rw [up1_k (by omega)] | rw [setn_o (by omega)]))))⟩
theorem rv_endc {w : Wd} {m : Nat} {T r : Nat → Int64} {x : Int32} (h : RepV (cfW w m) T r) : RepV (cfW (endW w m x) m) T (up1 (up1 r 30 x.toInt64) 28 2) := by
  rw [cf_end]
  exact ⟨h.1, rfl, h.2.2.1, i_i x, h.2.2.2.2.1, h.2.2.2.2.2.1, h.2.2.2.2.2.2.1, h.2.2.2.2.2.2.2.1, h.2.2.2.2.2.2.2.2.1, h.2.2.2.2.2.2.2.2.2.1, h.2.2.2.2.2.2.2.2.2.2.1, fun j hj => (h.2.2.2.2.2.2.2.2.2.2.2.1 j hj).trans (congrArg Int64.toInt32 (Eq.symm (by first | rfl | ((try unfold overR); (repeat first | rw [up1_k (by omega)] | rw [setn_o (by omega)]))))), fun j hj => (h.2.2.2.2.2.2.2.2.2.2.2.2.1 j hj).trans (Eq.symm (by first | rfl | ((try unfold overR); (repeat first | rw [up1_k (by omega)] | rw [setn_o (by omega)])))), fun j hj => (h.2.2.2.2.2.2.2.2.2.2.2.2.2.1 j hj).trans (congrArg Int64.toInt32 (Eq.symm (by first | rfl | ((try unfold overR); (repeat first | rw [up1_k (by omega)] | rw [setn_o (by omega)]))))), fun j hj => (h.2.2.2.2.2.2.2.2.2.2.2.2.2.2.1 j hj).trans (congrArg Int64.toInt32 (Eq.symm (by first | rfl | ((try unfold overR); (repeat first | rw [up1_k (by omega)] | rw [setn_o (by omega)]))))), fun j hj => (h.2.2.2.2.2.2.2.2.2.2.2.2.2.2.2.1 j hj).trans (congrArg Int64.toInt32 (Eq.symm (by first | rfl | ((try unfold overR); (repeat first | rw [up1_k (by omega)] | rw [setn_o (by omega)]))))), fun j hj hj2 => (h.2.2.2.2.2.2.2.2.2.2.2.2.2.2.2.2.1 j hj hj2).trans (congrArg Int64.toInt32 (Eq.symm (by first | rfl | ((try unfold overR); (repeat first | rw [up1_k (by omega)] | rw [setn_o (by omega)]))))), fun q => mv_c (h.2.2.2.2.2.2.2.2.2.2.2.2.2.2.2.2.2 q) (fun f k hf => (by first | rfl | (repeat first | rw [up2_f2 (by omega)] | rw [ua_a (by omega)]))) (fun y h1 h2 => (by first | rfl | ((try unfold overR); (repeat first | rw [up1_k (by omega)] | rw [setn_o (by omega)]))))⟩
theorem rv_line {w : Wd} {m : Nat} {T r : Nat → Int64} {x : Int32} (h : RepV (cfW w m) T r) : RepV (cfW (sI w m 10 x) m) T (up1 r 30 x.toInt64) := by
  rw [cf_0]
  exact ⟨h.1, h.2.1, h.2.2.1, i_i x, h.2.2.2.2.1, h.2.2.2.2.2.1, h.2.2.2.2.2.2.1, h.2.2.2.2.2.2.2.1, h.2.2.2.2.2.2.2.2.1, h.2.2.2.2.2.2.2.2.2.1, h.2.2.2.2.2.2.2.2.2.2.1, fun j hj => (h.2.2.2.2.2.2.2.2.2.2.2.1 j hj).trans (congrArg Int64.toInt32 (Eq.symm (by first | rfl | ((try unfold overR); (repeat first | rw [up1_k (by omega)] | rw [setn_o (by omega)]))))), fun j hj => (h.2.2.2.2.2.2.2.2.2.2.2.2.1 j hj).trans (Eq.symm (by first | rfl | ((try unfold overR); (repeat first | rw [up1_k (by omega)] | rw [setn_o (by omega)])))), fun j hj => (h.2.2.2.2.2.2.2.2.2.2.2.2.2.1 j hj).trans (congrArg Int64.toInt32 (Eq.symm (by first | rfl | ((try unfold overR); (repeat first | rw [up1_k (by omega)] | rw [setn_o (by omega)]))))), fun j hj => (h.2.2.2.2.2.2.2.2.2.2.2.2.2.2.1 j hj).trans (congrArg Int64.toInt32 (Eq.symm (by first | rfl | ((try unfold overR); (repeat first | rw [up1_k (by omega)] | rw [setn_o (by omega)]))))), fun j hj => (h.2.2.2.2.2.2.2.2.2.2.2.2.2.2.2.1 j hj).trans (congrArg Int64.toInt32 (Eq.symm (by first | rfl | ((try unfold overR); (repeat first | rw [up1_k (by omega)] | rw [setn_o (by omega)]))))), fun j hj hj2 => (h.2.2.2.2.2.2.2.2.2.2.2.2.2.2.2.2.1 j hj hj2).trans (congrArg Int64.toInt32 (Eq.symm (by first | rfl | ((try unfold overR); (repeat first | rw [up1_k (by omega)] | rw [setn_o (by omega)]))))), fun q => mv_c (h.2.2.2.2.2.2.2.2.2.2.2.2.2.2.2.2.2 q) (fun f k hf => (by first | rfl | (repeat first | rw [up2_f2 (by omega)] | rw [ua_a (by omega)]))) (fun y h1 h2 => (by first | rfl | ((try unfold overR); (repeat first | rw [up1_k (by omega)] | rw [setn_o (by omega)]))))⟩
theorem rv_jump {w : Wd} {c m : Nat} {T r : Nat → Int64} {x ln : Int32} (h : RepV (cfW w m) T r) (hl : wI w (c + 4) 3 = ln) : RepV (cfW (jumpW w c m x).2 m) T (goesToR ln x r) ∧ (jumpW w c m x).1 = (if ln ≤ x then 1 else 0) := by
  unfold jumpW goesToR
  rw [hl]
  by_cases g : ln ≤ x
  · rw [if_pos g, if_pos g, if_pos g]; exact ⟨rv_err h hl, rfl⟩
  · rw [if_neg g, if_neg g, if_neg g]; exact ⟨rv_line h, rfl⟩
theorem rv_pb {M : Nat → Nat → Int32} {T r : Nat → Int64} {p : Nat} {v : Int32} {u : Int64} (h : RepV M T r) (hp : pN (r 32) = p) (hp2 : p < 12) : RepV (up2 M 6 p v) T (up1 r (33 + p) u) := ⟨(h.1).trans (congrArg Int64.toInt32 (up1_k (by omega)).symm), (h.2.1).trans (congrArg Int64.toInt32 (up1_k (by omega)).symm), (h.2.2.1).trans (congrArg Int64.toInt32 (up1_k (by omega)).symm), (h.2.2.2.1).trans (congrArg Int64.toInt32 (up1_k (by omega)).symm), (h.2.2.2.2.1).trans (congrArg Int64.toInt32 (up1_k (by omega)).symm), (h.2.2.2.2.2.1).trans (congrArg Int64.toInt32 (up1_k (by omega)).symm), (h.2.2.2.2.2.2.1).trans (congrArg Int64.toInt32 (up1_k (by omega)).symm), (h.2.2.2.2.2.2.2.1).trans (bI_e (up1_k (by omega)).symm), (h.2.2.2.2.2.2.2.2.1).trans (congrArg Int64.toInt32 (up1_k (by omega)).symm), (h.2.2.2.2.2.2.2.2.2.1).trans (congrArg Int64.toInt32 (up1_k (by omega)).symm), fun q => (h.2.2.2.2.2.2.2.2.2.2.1 ((up1_k (by omega)).symm.trans q)).trans (congrArg Int64.toInt32 (up1_k (by omega)).symm), fun j hj => (h.2.2.2.2.2.2.2.2.2.2.2.1 j hj).trans (congrArg Int64.toInt32 (up1_k (by omega)).symm), fun j hj => (h.2.2.2.2.2.2.2.2.2.2.2.2.1 j hj).trans (up1_k (by omega)).symm, fun j hj => (h.2.2.2.2.2.2.2.2.2.2.2.2.2.1 j hj).trans (congrArg Int64.toInt32 (up1_k (by omega)).symm), fun j hj => (h.2.2.2.2.2.2.2.2.2.2.2.2.2.2.1 j hj).trans (congrArg Int64.toInt32 (up1_k (by omega)).symm), fun j hj => (h.2.2.2.2.2.2.2.2.2.2.2.2.2.2.2.1 j hj).trans (congrArg Int64.toInt32 (up1_k (by omega)).symm), fun j hj hj2 => by rw [up1_k (by omega)] at hj2; exact (up2_k (by omega)).trans ((h.2.2.2.2.2.2.2.2.2.2.2.2.2.2.2.2.1 j hj hj2).trans (congrArg Int64.toInt32 (up1_k (by omega)).symm)), fun q => mv_c (h.2.2.2.2.2.2.2.2.2.2.2.2.2.2.2.2.2 ((up1_k (by omega)).symm.trans q)) (fun f k hf => up2_f2 (by omega)) (fun y h1 h2 => up1_k (by omega))⟩
theorem rv_call {w : Wd} {c m : Nat} {T r : Nat → Int64} {x ln : Int32} (h : RepV (cfW w m) T r) (hl : wI w (c + 4) 3 = ln) (hf : isN (r 32) 12) : RepV (cfW (callW w c m x).2 m) T (callsR ln x r) ∧ (callW w c m x).1 = (if ln ≤ x ∨ r 32 = 12 then 1 else 0) := by
  have e7 : wI w m 7 = (r 32).toInt32 := h.1
  have e7n : wI w m 7 = nI (pN (r 32)) := e7.trans (i32eta hf (by omega))
  have hf2 := hf.2
  have h12 : 12 ≤ wI w m 7 ↔ r 32 = 12 := by
    rw [e7n, i32le, nIT (by omega)]
    have e0 : (12 : Int32).toInt = 12 := rfl
    constructor
    · intro q
      have : pN (r 32) = 12 := by omega
      rw [hf.1, this]; rfl
    · intro q
      have : pN (r 32) = 12 := by rw [q]; rfl
      omega
  unfold callW callsR
  rw [hl]
  by_cases g : ln ≤ x
  · rw [if_pos g, if_pos g, if_pos (Or.inl g)]; exact ⟨rv_err h hl, rfl⟩
  · rw [if_neg g, if_neg g]
    by_cases g2 : r 32 = 12
    · rw [if_pos (h12.mpr g2), if_pos g2, if_pos (Or.inr g2)]; exact ⟨rv_err h hl, rfl⟩
    · have g3 : pN (r 32) < 12 := by
        have : pN (r 32) ≠ 12 := fun q => g2 (by rw [hf.1, q]; rfl)
        omega
      rw [if_neg (fun q => g2 (h12.mp q)), if_neg g2, if_neg (fun q => q.elim g g2)]
      refine ⟨?_, rfl⟩
      rw [cf_0, cf_0, cf_I, e7n, pI_n (by omega)]
      obtain ⟨p, hp⟩ : ∃ p, p = pN (r 32) := ⟨_, rfl⟩
      have ev : wI w m 10 + 1 = (r 30 + 1).toInt32 := by rw [show wI w m 10 = (r 30).toInt32 from h.2.2.2.1]; exact l32_1 _
      have b := rv_pb (v := wI w m 10 + 1) (u := r 30 + 1) h hp.symm (by omega)
      rw [← hp]
      have e1 : nI p + 1 = (r 32 + 1).toInt32 := by rw [hp, ← i32eta hf (by omega)]; exact l32_1 _
      have r32 : up1 r (33 + p) (r 30 + 1) 32 = r 32 := up1_k (by omega)
      obtain ⟨R, hR⟩ : ∃ R, R = up1 r (33 + p) (r 30 + 1) := ⟨_, rfl⟩
      have Rp : R (33 + p) = r 30 + 1 := by rw [hR, up1_s]
      rw [← hR] at b ⊢
      have pn1 := (isN_1 hf (by omega)).2
      exact ⟨e1, b.2.1, b.2.2.1, i_i x, b.2.2.2.2.1, b.2.2.2.2.2.1, b.2.2.2.2.2.2.1, b.2.2.2.2.2.2.2.1, b.2.2.2.2.2.2.2.2.1, b.2.2.2.2.2.2.2.2.2.1, b.2.2.2.2.2.2.2.2.2.2.1, fun j hj => (b.2.2.2.2.2.2.2.2.2.2.2.1 j hj).trans (congrArg Int64.toInt32 (Eq.symm (by first | rfl | ((try unfold overR); (repeat first | rw [up1_k (by omega)] | rw [setn_o (by omega)]))))), fun j hj => (b.2.2.2.2.2.2.2.2.2.2.2.2.1 j hj).trans (Eq.symm (by first | rfl | ((try unfold overR); (repeat first | rw [up1_k (by omega)] | rw [setn_o (by omega)])))), fun j hj => (b.2.2.2.2.2.2.2.2.2.2.2.2.2.1 j hj).trans (congrArg Int64.toInt32 (Eq.symm (by first | rfl | ((try unfold overR); (repeat first | rw [up1_k (by omega)] | rw [setn_o (by omega)]))))), fun j hj => (b.2.2.2.2.2.2.2.2.2.2.2.2.2.2.1 j hj).trans (congrArg Int64.toInt32 (Eq.symm (by first | rfl | ((try unfold overR); (repeat first | rw [up1_k (by omega)] | rw [setn_o (by omega)]))))), fun j hj => (b.2.2.2.2.2.2.2.2.2.2.2.2.2.2.2.1 j hj).trans (congrArg Int64.toInt32 (Eq.symm (by first | rfl | ((try unfold overR); (repeat first | rw [up1_k (by omega)] | rw [setn_o (by omega)]))))), fun i hi hi2 => (by
        have hi3 : i < p + 1 := by rw [show pN (up1 (up1 R 32 (r 32 + 1)) 30 x.toInt64 32) = pN (r 32 + 1) from rfl, pn1] at hi2; omega
        by_cases ei : i = p
        · subst ei; exact (up2_s (cfW w m) 6 i _).trans (ev.trans (congrArg Int64.toInt32 (Rp.symm.trans (Eq.symm (by first | rfl | ((try unfold overR); (repeat first | rw [up1_k (by omega)] | rw [setn_o (by omega)])))))))
        · exact (b.2.2.2.2.2.2.2.2.2.2.2.2.2.2.2.2.1 i hi (by rw [hR, r32]; omega)).trans (congrArg Int64.toInt32 (Eq.symm (by first | rfl | ((try unfold overR); (repeat first | rw [up1_k (by omega)] | rw [setn_o (by omega)])))))), fun q => mv_c (b.2.2.2.2.2.2.2.2.2.2.2.2.2.2.2.2.2 q) (fun f k hf => (by first | rfl | (repeat first | rw [up2_f2 (by omega)] | rw [ua_a (by omega)]))) (fun y h1 h2 => (by first | rfl | ((try unfold overR); (repeat first | rw [up1_k (by omega)] | rw [setn_o (by omega)]))))⟩
theorem rv_back {w : Wd} {m : Nat} {T r : Nat → Int64} (h : RepV (cfW w m) T r) (hf : isN (r 32) 12) : RepV (cfW (backW w m).2 m) T (backR r) ∧ (backW w m).1 = (if r 32 = 0 then 1 else 0) := by
  have e7 : wI w m 7 = (r 32).toInt32 := h.1
  have e7n : wI w m 7 = nI (pN (r 32)) := e7.trans (i32eta hf (by omega))
  have hf2 := hf.2
  have h0 : wI w m 7 ≤ 0 ↔ r 32 = 0 := by
    rw [e7n, i32le, nIT (by omega), isN_0 hf]
    have e0 : (0 : Int32).toInt = 0 := rfl
    omega
  unfold backW backR
  by_cases g : r 32 = 0
  · rw [if_pos (h0.mpr g), if_pos g, if_pos g]; exact ⟨rv_end h, rfl⟩
  · rw [if_neg (fun q => g (h0.mp q)), if_neg g, if_neg g]
    refine ⟨?_, rfl⟩
    have gp : 0 < pN (r 32) := by
      have : pN (r 32) ≠ 0 := fun q => g ((isN_0 hf).mpr q)
      omega
    have e1 : wI w m 7 - 1 = (r 32 - 1).toInt32 := by rw [e7]; exact l32_m _
    have hm := isN_m hf gp
    have e2 : wI w m 7 - 1 = nI (pN (r 32) - 1) := by rw [e1, i32eta hm.1 (by omega), hm.2]
    rw [cf_0, cf_0]
    have e3 : wI w (m + 6) (pI (wI w m 7 - 1)) = (r (33 + (pN (r 32) - 1))).toInt32 := by
      rw [e2, pI_n (by omega)]
      exact h.2.2.2.2.2.2.2.2.2.2.2.2.2.2.2.2.1 _ (by omega) (by omega)
    exact ⟨e1, h.2.1, h.2.2.1, e3, h.2.2.2.2.1, h.2.2.2.2.2.1, h.2.2.2.2.2.2.1, h.2.2.2.2.2.2.2.1, h.2.2.2.2.2.2.2.2.1, h.2.2.2.2.2.2.2.2.2.1, h.2.2.2.2.2.2.2.2.2.2.1, fun j hj => (h.2.2.2.2.2.2.2.2.2.2.2.1 j hj).trans (congrArg Int64.toInt32 (Eq.symm (by first | rfl | ((try unfold overR); (repeat first | rw [up1_k (by omega)] | rw [setn_o (by omega)]))))), fun j hj => (h.2.2.2.2.2.2.2.2.2.2.2.2.1 j hj).trans (Eq.symm (by first | rfl | ((try unfold overR); (repeat first | rw [up1_k (by omega)] | rw [setn_o (by omega)])))), fun j hj => (h.2.2.2.2.2.2.2.2.2.2.2.2.2.1 j hj).trans (congrArg Int64.toInt32 (Eq.symm (by first | rfl | ((try unfold overR); (repeat first | rw [up1_k (by omega)] | rw [setn_o (by omega)]))))), fun j hj => (h.2.2.2.2.2.2.2.2.2.2.2.2.2.2.1 j hj).trans (congrArg Int64.toInt32 (Eq.symm (by first | rfl | ((try unfold overR); (repeat first | rw [up1_k (by omega)] | rw [setn_o (by omega)]))))), fun j hj => (h.2.2.2.2.2.2.2.2.2.2.2.2.2.2.2.1 j hj).trans (congrArg Int64.toInt32 (Eq.symm (by first | rfl | ((try unfold overR); (repeat first | rw [up1_k (by omega)] | rw [setn_o (by omega)]))))), fun i hi hi2 => (h.2.2.2.2.2.2.2.2.2.2.2.2.2.2.2.2.1 i hi (by rw [show pN (up1 (up1 r 32 (r 32 - 1)) 30 (r (33 + (pN (r 32) - 1))) 32) = pN (r 32 - 1) from rfl, hm.2] at hi2; omega)).trans (congrArg Int64.toInt32 (Eq.symm (by first | rfl | ((try unfold overR); (repeat first | rw [up1_k (by omega)] | rw [setn_o (by omega)]))))), fun q => mv_c (h.2.2.2.2.2.2.2.2.2.2.2.2.2.2.2.2.2 q) (fun f k hf => (by first | rfl | (repeat first | rw [up2_f2 (by omega)] | rw [ua_a (by omega)]))) (fun y h1 h2 => (by first | rfl | ((try unfold overR); (repeat first | rw [up1_k (by omega)] | rw [setn_o (by omega)]))))⟩
theorem rv_lo {M M' : Nat → Nat → Int32} {T r q : Nat → Int64} (h : RepV M T r) (h0 : ∀ f k, (f = 0 ∨ 6 ≤ f) → M' f k = M f k) (hq : ∀ y, 28 ≤ y → q y = r y) (a1 : ∀ j, j < 4 → M' 1 j = (q j).toInt32) (a3 : ∀ j, j < 8 → M' 3 j = (q (4 + j)).toInt32) (a4 : ∀ j, j < 8 → M' 4 j = (q (12 + j)).toInt32) (a5 : ∀ j, j < 8 → M' 5 j = (q (20 + j)).toInt32) : RepV M' T q := ⟨(h0 0 _ (Or.inl rfl)).trans ((h.1).trans (congrArg Int64.toInt32 (hq _ (by omega)).symm)), (h0 0 _ (Or.inl rfl)).trans ((h.2.1).trans (congrArg Int64.toInt32 (hq _ (by omega)).symm)), (h0 0 _ (Or.inl rfl)).trans ((h.2.2.1).trans (congrArg Int64.toInt32 (hq _ (by omega)).symm)), (h0 0 _ (Or.inl rfl)).trans ((h.2.2.2.1).trans (congrArg Int64.toInt32 (hq _ (by omega)).symm)), (h0 0 _ (Or.inl rfl)).trans ((h.2.2.2.2.1).trans (congrArg Int64.toInt32 (hq _ (by omega)).symm)), (h0 0 _ (Or.inl rfl)).trans ((h.2.2.2.2.2.1).trans (congrArg Int64.toInt32 (hq _ (by omega)).symm)), (h0 0 _ (Or.inl rfl)).trans ((h.2.2.2.2.2.2.1).trans (congrArg Int64.toInt32 (hq _ (by omega)).symm)), (h0 0 _ (Or.inl rfl)).trans ((h.2.2.2.2.2.2.2.1).trans (bI_e (hq _ (by omega)).symm)), (h0 0 _ (Or.inl rfl)).trans ((h.2.2.2.2.2.2.2.2.1).trans (congrArg Int64.toInt32 (hq _ (by omega)).symm)), (h0 0 _ (Or.inl rfl)).trans ((h.2.2.2.2.2.2.2.2.2.1).trans (congrArg Int64.toInt32 (hq _ (by omega)).symm)), fun q => (h0 0 _ (Or.inl rfl)).trans ((h.2.2.2.2.2.2.2.2.2.2.1 ((hq _ (by omega)).symm.trans q)).trans (congrArg Int64.toInt32 (hq _ (by omega)).symm)), a1, fun j hj => (h.2.2.2.2.2.2.2.2.2.2.2.2.1 j hj).trans (hq _ (by omega)).symm, a3, a4, a5, fun j hj hj2 => by rw [hq _ (by omega)] at hj2; exact (h0 6 j (Or.inr (by omega))).trans ((h.2.2.2.2.2.2.2.2.2.2.2.2.2.2.2.2.1 j hj hj2).trans (congrArg Int64.toInt32 (hq _ (by omega)).symm)), fun q => mv_c (h.2.2.2.2.2.2.2.2.2.2.2.2.2.2.2.2.2 ((hq _ (by omega)).symm.trans q)) (fun f k hf => h0 f k (Or.inr (by omega))) (fun y h1 h2 => hq y (by omega))⟩
theorem ar_u {M : Nat → Nat → Int32} {r : Nat → Int64} {f o n k : Nat} {v : Int32} {u : Int64} (h : ∀ j, j < n → M f j = (r (o + j)).toInt32) (hv : v = u.toInt32) : ∀ j, j < n → up2 M f k v f j = (up1 r (o + k) u (o + j)).toInt32 := fun j hj => by
  by_cases e : j = k
  · subst e; rw [up2_s, up1_s]; exact hv
  · rw [up2_k e, up1_k (by omega)]; exact h j hj
theorem ar_o {M : Nat → Nat → Int32} {r : Nat → Int64} {f g o n k p : Nat} {v : Int32} {u : Int64} (h : ∀ j, j < n → M f j = (r (o + j)).toInt32) (hf : f ≠ g) (hp : ∀ j, j < n → o + j ≠ p) : ∀ j, j < n → up2 M g k v f j = (up1 r p u (o + j)).toInt32 := fun j hj => by
  rw [up2_a hf, up1_k (hp j hj)]; exact h j hj
theorem rv_in {M : Nat → Nat → Int32} {T r : Nat → Int64} {k : Nat} {v : Int32} {u : Int64} (h : RepV M T r) (hk : k < 8) (hv : v = u.toInt32) : RepV (up2 M 3 k v) T (up1 r (4 + k) u) := rv_lo h (fun f y hf => up2_f2 (by omega)) (fun y hy => up1_k (by omega)) (fun j hj => (up2_a (by omega)).trans ((h.2.2.2.2.2.2.2.2.2.2.2.1 j hj).trans (congrArg Int64.toInt32 (up1_k (by omega)).symm))) (ar_u h.2.2.2.2.2.2.2.2.2.2.2.2.2.1 hv) (ar_o h.2.2.2.2.2.2.2.2.2.2.2.2.2.2.1 (by omega) (fun j hj => by omega)) (ar_o h.2.2.2.2.2.2.2.2.2.2.2.2.2.2.2.1 (by omega) (fun j hj => by omega))
theorem rv_ou {M : Nat → Nat → Int32} {T r : Nat → Int64} {k : Nat} {v : Int32} {u : Int64} (h : RepV M T r) (hk : k < 8) (hv : v = u.toInt32) : RepV (up2 M 4 k v) T (up1 r (12 + k) u) := rv_lo h (fun f y hf => up2_f2 (by omega)) (fun y hy => up1_k (by omega)) (fun j hj => (up2_a (by omega)).trans ((h.2.2.2.2.2.2.2.2.2.2.2.1 j hj).trans (congrArg Int64.toInt32 (up1_k (by omega)).symm))) (ar_o h.2.2.2.2.2.2.2.2.2.2.2.2.2.1 (by omega) (fun j hj => by omega)) (ar_u h.2.2.2.2.2.2.2.2.2.2.2.2.2.2.1 hv) (ar_o h.2.2.2.2.2.2.2.2.2.2.2.2.2.2.2.1 (by omega) (fun j hj => by omega))
theorem rv_rg {M : Nat → Nat → Int32} {T r : Nat → Int64} {k : Nat} {v : Int32} {u : Int64} (h : RepV M T r) (hk : k < 8) (hv : v = u.toInt32) : RepV (up2 M 5 k v) T (up1 r (20 + k) u) := rv_lo h (fun f y hf => up2_f2 (by omega)) (fun y hy => up1_k (by omega)) (fun j hj => (up2_a (by omega)).trans ((h.2.2.2.2.2.2.2.2.2.2.2.1 j hj).trans (congrArg Int64.toInt32 (up1_k (by omega)).symm))) (ar_o h.2.2.2.2.2.2.2.2.2.2.2.2.2.1 (by omega) (fun j hj => by omega)) (ar_o h.2.2.2.2.2.2.2.2.2.2.2.2.2.2.1 (by omega) (fun j hj => by omega)) (ar_u h.2.2.2.2.2.2.2.2.2.2.2.2.2.2.2.1 hv)
