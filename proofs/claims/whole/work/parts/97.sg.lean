def z64 : Nat → Int64 := fun _ => 0
/-- beneath n0 nothing has changed; the next address is n1 -/
def Fz (n0 n1 : Nat) (w w2 : Wd) : Prop := wN w2 = n1 ∧ ∀ p, p < n0 → wK w2 p = wK w p ∧ wR w2 p = wR w p ∧ wI w2 p = wI w p ∧ wJ w2 p = wJ w p ∧ wD w2 p = wD w p
/-- what a constructor has made from m on: kinds, ints, references -/
def Sg (w W : Wd) (m n : Nat) (kv : Nat → Option (Nat ⊕ (Nat × Nat))) (iv : Nat → Nat → Int32) (LR : Nat → Nat → Nat → Prop) : Prop := Fz m n w W ∧ (∀ o, m + o < n → wK W (m + o) = kv o ∧ wI W (m + o) = iv o ∧ wJ W (m + o) = z64) ∧ (∀ o f t, LR o f t → m + o < n ∧ wR W (m + o) f = some (m + t)) ∧ m < n
theorem sg_0 {w : Wd} {m : Nat} {kv : Nat → Option (Nat ⊕ (Nat × Nat))} {iv : Nat → Nat → Int32} (hN : wN w = m + 1) (hK : wK w m = kv 0) (hI : wI w m = iv 0) (hJ : wJ w m = z64) : Sg w w m (m + 1) kv iv (fun _ _ _ => False) := ⟨⟨hN, fun _ _ => ⟨rfl, rfl, rfl, rfl, rfl⟩⟩, fun o ho => by
  have : o = 0 := by omega
  subst this
  exact ⟨hK, hI, hJ⟩, fun _ _ _ h => h.elim, by omega⟩
theorem sg_w {w W : Wd} {m n : Nat} {kv kv' : Nat → Option (Nat ⊕ (Nat × Nat))} {iv iv' : Nat → Nat → Int32} {LR LR' : Nat → Nat → Nat → Prop} (h : Sg w W m n kv iv LR) (hk : ∀ o, m + o < n → kv' o = kv o) (hi : ∀ o, m + o < n → iv' o = iv o) (hL : ∀ o f t, LR' o f t → LR o f t) : Sg w W m n kv' iv' LR' := ⟨h.1, fun o ho => by rw [hk o ho, hi o ho]; exact h.2.1 o ho, fun o f t q => h.2.2.1 o f t (hL o f t q), h.2.2.2⟩
theorem wN_n {w : Wd} {k : Nat ⊕ (Nat × Nat)} : wN (sNew w k) = wN w + 1 := rfl
theorem wK_n {w : Wd} {k : Nat ⊕ (Nat × Nat)} {p : Nat} (h : p ≠ wN w) : wK (sNew w k) p = wK w p := if_neg h
theorem wR_n {w : Wd} {k : Nat ⊕ (Nat × Nat)} {p : Nat} (h : p ≠ wN w) : wR (sNew w k) p = wR w p := funext fun _ => if_neg h
theorem wI_n {w : Wd} {k : Nat ⊕ (Nat × Nat)} {p : Nat} (h : p ≠ wN w) : wI (sNew w k) p = wI w p := funext fun _ => if_neg h
theorem wJ_n {w : Wd} {k : Nat ⊕ (Nat × Nat)} {p : Nat} (h : p ≠ wN w) : wJ (sNew w k) p = wJ w p := funext fun _ => if_neg h
theorem wD_n {w : Wd} {k : Nat ⊕ (Nat × Nat)} {p : Nat} (h : p ≠ wN w) : wD (sNew w k) p = wD w p := funext fun _ => if_neg h
theorem wI_nn {w : Wd} {k : Nat ⊕ (Nat × Nat)} : wI (sNew w k) (wN w) = z32 := funext fun _ => if_pos rfl
theorem wJ_nn {w : Wd} {k : Nat ⊕ (Nat × Nat)} : wJ (sNew w k) (wN w) = z64 := funext fun _ => if_pos rfl
theorem wR_p {w : Wd} {a k p : Nat} {v : Option Nat} (h : p ≠ a) : wR (sR w a k v) p = wR w p := funext fun _ => up2_a h
theorem wR_k {w : Wd} {a k p k2 : Nat} {v : Option Nat} (h : p ≠ a ∨ k2 ≠ k) : wR (sR w a k v) p k2 = wR w p k2 := if_neg (fun q => h.elim (fun z => z q.1) (fun z => z q.2))
theorem wR_s {w : Wd} {a k : Nat} {v : Option Nat} : wR (sR w a k v) a k = v := up2_s _ _ _ _
theorem sg_arr {w W : Wd} {m n : Nat} {kv : Nat → Option (Nat ⊕ (Nat × Nat))} {iv : Nat → Nat → Int32} {LR : Nat → Nat → Nat → Prop} (f : Nat) {k : Nat ⊕ (Nat × Nat)} (h : Sg w W m n kv iv LR) (hk : kv (n - m) = some k) (hi : iv (n - m) = z32) (hf : ∀ o t, LR o f t → o ≠ 0) : Sg w (sR (sNew W k) m f (some n)) m (n + 1) kv iv (fun o f' t => LR o f' t ∨ (o = 0 ∧ f' = f ∧ t = n - m)) := by
  obtain ⟨⟨h1, h2⟩, h3, h4, h5⟩ := h
  subst h1
  refine ⟨⟨rfl, fun p hp => ?_⟩, fun o ho => ?_, fun o f' t q => ?_, by omega⟩
  · obtain ⟨a1, a2, a3, a4, a5⟩ := h2 p hp
    have e : p ≠ wN W := by omega
    exact ⟨(wK_n (k := k) e).trans a1, (wR_p (by omega)).trans ((wR_n (k := k) e).trans a2), (wI_n (k := k) e).trans a3, (wJ_n (k := k) e).trans a4, (wD_n (k := k) e).trans a5⟩
  · by_cases e : m + o = wN W
    · have eo : o = wN W - m := by omega
      rw [e, eo]
      exact ⟨(nk_s (w := W) (k := k)).trans hk.symm, (wI_nn (k := k)).trans hi.symm, wJ_nn (k := k)⟩
    · obtain ⟨a1, a2, a3⟩ := h3 o (by omega)
      exact ⟨(wK_n (k := k) e).trans a1, (wI_n (k := k) e).trans a2, (wJ_n (k := k) e).trans a3⟩
  · rcases q with q | ⟨rfl, rfl, rfl⟩
    · obtain ⟨a1, a2⟩ := h4 o f' t q
      refine ⟨by omega, ?_⟩
      have hne : m + o ≠ m ∨ f' ≠ f := by
        by_cases e : f' = f
        · subst e
          have := hf o t q
          exact Or.inl (by omega)
        · exact Or.inr e
      rw [wR_k hne, congrFun (wR_n (k := k) (show m + o ≠ wN W by omega)) f']
      exact a2
    · refine ⟨by omega, ?_⟩
      rw [Nat.add_zero, wR_s, show m + (wN W - m) = wN W by omega]
/-- an object made and put -/
theorem sg_obj {w W W2 : Wd} {m n n2 o1 : Nat} {kv kv2 : Nat → Option (Nat ⊕ (Nat × Nat))} {iv iv2 : Nat → Nat → Int32} {LR LR2 : Nat → Nat → Nat → Prop} (f : Nat) {k : Nat ⊕ (Nat × Nat)} (h : Sg w W m n kv iv LR) (g : Sg (sNew W k) W2 n n2 kv2 iv2 LR2) (hk : ∀ o, n + o < n2 → kv (n - m + o) = kv2 o) (hi : ∀ o, n + o < n2 → iv (n - m + o) = iv2 o) (ho1 : m + o1 < n) (hf : ∀ o t, LR o f t → o ≠ o1) : Sg w (sR W2 (m + o1) f (some n)) m n2 kv iv (fun o f' t => LR o f' t ∨ (o = o1 ∧ f' = f ∧ t = n - m) ∨ (n - m ≤ o ∧ n - m ≤ t ∧ LR2 (o - (n - m)) f' (t - (n - m)))) := by
  obtain ⟨⟨h1, h2⟩, h3, h4, h5⟩ := h
  obtain ⟨⟨g1, g2⟩, g3, g4, g5⟩ := g
  subst h1
  refine ⟨⟨g1, fun p hp => ?_⟩, fun o ho => ?_, fun o f' t q => ?_, by omega⟩
  · obtain ⟨a1, a2, a3, a4, a5⟩ := h2 p hp
    have e : p ≠ wN W := by omega
    obtain ⟨b1, b2, b3, b4, b5⟩ := g2 p (by omega)
    exact ⟨b1.trans ((wK_n (k := k) e).trans a1), (wR_p (by omega)).trans (b2.trans ((wR_n (k := k) e).trans a2)), b3.trans ((wI_n (k := k) e).trans a3), b4.trans ((wJ_n (k := k) e).trans a4), b5.trans ((wD_n (k := k) e).trans a5)⟩
  · by_cases e : m + o < wN W
    · obtain ⟨a1, a2, a3⟩ := h3 o e
      have e2 : m + o ≠ wN W := by omega
      obtain ⟨b1, b2, b3, b4, b5⟩ := g2 (m + o) e
      exact ⟨b1.trans ((wK_n (k := k) e2).trans a1), b3.trans ((wI_n (k := k) e2).trans a2), b4.trans ((wJ_n (k := k) e2).trans a3)⟩
    · have eo : m + o = wN W + (o - (wN W - m)) := by omega
      obtain ⟨b1, b2, b3⟩ := g3 (o - (wN W - m)) (by omega)
      have e3 : wN W - m + (o - (wN W - m)) = o := by omega
      have k1 := hk (o - (wN W - m)) (by omega)
      have k2 := hi (o - (wN W - m)) (by omega)
      rw [e3] at k1 k2
      rw [eo, k1, k2]
      exact ⟨b1, b2, b3⟩
  · rcases q with q | ⟨rfl, rfl, rfl⟩ | ⟨q1, q2, q3⟩
    · obtain ⟨a1, a2⟩ := h4 o f' t q
      refine ⟨by omega, ?_⟩
      have hne : m + o ≠ m + o1 ∨ f' ≠ f := by
        by_cases e : f' = f
        · subst e
          have := hf o t q
          exact Or.inl (by omega)
        · exact Or.inr e
      obtain ⟨b1, b2, b3, b4, b5⟩ := g2 (m + o) a1
      rw [wR_k hne, b2, congrFun (wR_n (k := k) (show m + o ≠ wN W by omega)) f']
      exact a2
    · refine ⟨by omega, ?_⟩
      rw [wR_s, show m + (wN W - m) = wN W by omega]
    · obtain ⟨a1, a2⟩ := g4 _ _ _ q3
      rw [show wN W + (o - (wN W - m)) = m + o by omega] at a1 a2
      rw [show wN W + (t - (wN W - m)) = m + t by omega] at a2
      refine ⟨a1, ?_⟩
      rw [wR_k (Or.inl (show m + o ≠ m + o1 by omega))]
      exact a2
/-- an int of the object itself -/
theorem sg_I {w W : Wd} {m n : Nat} {kv : Nat → Option (Nat ⊕ (Nat × Nat))} {iv : Nat → Nat → Int32} {LR : Nat → Nat → Nat → Prop} {k : Nat} {v : Int32} (h : Sg w W m n kv iv LR) : Sg w (sI W m k v) m n kv (fun o => if o = 0 then up1 (iv 0) k v else iv o) LR := by
  obtain ⟨⟨h1, h2⟩, h3, h4, h5⟩ := h
  refine ⟨⟨h1, fun p hp => ?_⟩, fun o ho => ?_, h4, h5⟩
  · obtain ⟨a1, a2, a3, a4, a5⟩ := h2 p hp
    exact ⟨a1, a2, (up2_f (by omega)).trans a3, a4, a5⟩
  · obtain ⟨a1, a2, a3⟩ := h3 o ho
    by_cases e : o = 0
    · subst e
      refine ⟨a1, ?_, a3⟩
      show up2 (wI W) m k v (m + 0) = up1 (iv 0) k v
      rw [Nat.add_zero, up2_ua, ua_s]
      exact congrArg (fun g => up1 g k v) a2
    · exact ⟨a1, ((up2_f (by omega)).trans a2).trans (if_neg e).symm, a3⟩
theorem sg_K {w W : Wd} {m n : Nat} {kv : Nat → Option (Nat ⊕ (Nat × Nat))} {iv : Nat → Nat → Int32} {LR : Nat → Nat → Nat → Prop} (h : Sg w W m n kv iv LR) {o : Nat} (ho : m + o < n) : wK W (m + o) = kv o := (h.2.1 o ho).1
theorem sg_N {w W : Wd} {m n : Nat} {kv : Nat → Option (Nat ⊕ (Nat × Nat))} {iv : Nat → Nat → Int32} {LR : Nat → Nat → Nat → Prop} (h : Sg w W m n kv iv LR) : wN W = n := h.1.1
theorem sg_R {w W : Wd} {m n : Nat} {kv : Nat → Option (Nat ⊕ (Nat × Nat))} {iv : Nat → Nat → Int32} {LR : Nat → Nat → Nat → Prop} (h : Sg w W m n kv iv LR) {o f t : Nat} (q : LR o f t) : wR W (m + o) f = some (m + t) := (h.2.2.1 o f t q).2
theorem sg_new {W : Wd} {n : Nat} {k : Nat ⊕ (Nat × Nat)} (h : wN W = n) : wN (sNew W k) = n + 1 ∧ wK (sNew W k) n = some k ∧ wI (sNew W k) n = z32 ∧ wJ (sNew W k) n = z64 := by
  subst h
  exact ⟨rfl, nk_s, wI_nn, wJ_nn⟩
