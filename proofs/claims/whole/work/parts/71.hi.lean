/-- what ticks leave as it was: the blocks behind, and the time -/
def Hi (r q : Nat → Int64) : Prop := ∀ y, 68 ≤ y ∨ y = 29 → q y = r y
theorem hi_0 (r : Nat → Int64) : Hi r r := fun _ _ => rfl
theorem hi_t {r q p : Nat → Int64} (h : Hi r q) (g : Hi q p) : Hi r p := fun y hy => (g y hy).trans (h y hy)
theorem hi_u {r q : Nat → Int64} {k : Nat} {v : Int64} (h : Hi r q) (hk : k < 68 ∧ k ≠ 29) : Hi r (up1 q k v) := fun y hy => (up1_k (by omega)).trans (h y hy)
theorem hi_n {r q f : Nat → Int64} {o n : Nat} (h : Hi r q) (hk : o + n ≤ 68 ∧ ¬ (o ≤ 29 ∧ 29 < o + n)) : Hi r (setn q o f n) := fun y hy => (setn_o (by omega)).trans (h y hy)
theorem hi_ite {c : Prop} [Decidable c] {r x y : Nat → Int64} (h1 : c → Hi r x) (h2 : ¬ c → Hi r y) : Hi r (if c then x else y) := by
  by_cases h : c
  · rw [if_pos h]; exact h1 h
  · rw [if_neg h]; exact h2 h
theorem hi_over {r q : Nat → Int64} (h : Hi r q) : Hi r (overR q) := hi_u (hi_u (hi_u h (by omega)) (by omega)) (by omega)
theorem hi_errs {r q : Nat → Int64} {ln e : Int32} (h : Hi r q) : Hi r (errsR ln e q) := by
  have b : Hi r (up1 (up1 (up1 q 46 0) 47 0) 31 e.toInt64) := hi_u (hi_u (hi_u h (by omega)) (by omega)) (by omega)
  unfold errsR
  exact hi_ite (fun _ => hi_u b (by omega)) (fun _ => hi_ite (fun _ => hi_u (hi_u b (by omega)) (by omega)) (fun _ => hi_u (hi_u (hi_u b (by omega)) (by omega)) (by omega)))
theorem hi_goesOn {cf : Nat → Nat → Int32} {r q : Nat → Int64} (h : Hi r q) : Hi r (goesOnR cf q) := by
  have b : Hi r (up1 q 63 (q 63 + 1)) := hi_u h (by omega)
  unfold goesOnR
  exact hi_ite (fun _ => hi_errs b) (fun _ => hi_ite (fun _ => hi_over (hi_u (hi_n (hi_n b (by omega)) (by omega)) (by omega))) (fun _ => hi_u (hi_n (hi_n b (by omega)) (by omega)) (by omega)))
theorem hi_gt {cf : Nat → Nat → Int32} {r q : Nat → Int64} (h : Hi r q) : Hi r (goesTickR cf q) := by
  unfold goesTickR
  exact hi_ite (fun _ => hi_over h) (fun _ => hi_ite (fun _ => hi_goesOn h) (fun _ => hi_ite (fun _ => hi_over (hi_u h (by omega))) (fun _ => hi_u h (by omega))))
theorem hi_begins {cf : Nat → Nat → Int32} {k sh : Nat} {r q : Nat → Int64} (h : Hi r q) : Hi r (beginsR cf k sh q) := by
  have b : Hi r (begins0 q) := hi_u (hi_u h (by omega)) (by omega)
  unfold beginsR begins1
  exact hi_ite (fun _ => hi_ite (fun _ => hi_u b (by omega)) (fun _ => hi_u (hi_u (hi_u (hi_u (hi_u (hi_u (hi_u (hi_n (hi_n b (by omega)) (by omega)) (by omega)) (by omega)) (by omega)) (by omega)) (by omega)) (by omega)) (by omega))) (fun _ => hi_errs b)
theorem hi_goesTo {r q : Nat → Int64} {ln x : Int32} (h : Hi r q) : Hi r (goesToR ln x q) := by
  unfold goesToR
  exact hi_ite (fun _ => hi_errs h) (fun _ => hi_u h (by omega))
theorem hi_calls {r q : Nat → Int64} {ln x : Int32} (h : Hi r q) (h2 : isN (q 32) 12) : Hi r (callsR ln x q) := by
  unfold callsR
  have := h2.2
  exact hi_ite (fun _ => hi_errs h) (fun _ => hi_ite (fun _ => hi_errs h) (fun _ => hi_u (hi_u (hi_u h (by omega)) (by omega)) (by omega)))
theorem hi_back {r q : Nat → Int64} (h : Hi r q) : Hi r (backR q) := by
  unfold backR
  exact hi_ite (fun _ => hi_u h (by omega)) (fun _ => hi_u (hi_u h (by omega)) (by omega))
theorem hi_line {cf : Nat → Nat → Int32} {r q : Nat → Int64} (hc : CfR cf) (hr : FA q) (hk : pN (q 30) < pI (cf 0 12)) (h : Hi r q) : Hi r (lineR cf q) := by
  obtain ⟨l1, l2, l3, l4, l5, l6⟩ := hc.2.2.2.2.2.2.2.1 _ hk
  unfold lineR
  obtain ⟨op, hop⟩ : ∃ op, op = cf 13 (pN (q 30)) := ⟨_, rfl⟩
  obtain ⟨x, hx⟩ : ∃ x, x = cf 14 (pN (q 30)) := ⟨_, rfl⟩
  obtain ⟨y, hy⟩ : ∃ y, y = cf 15 (pN (q 30)) := ⟨_, rfl⟩
  rw [← hop] at l1 l2 l3 l4 l5 l6 ⊢
  rw [← hx] at l2 l3 l4 l5 l6 ⊢
  rw [← hy] at l2 l4 ⊢
  have b : Hi r (up1 q 45 (q 45 + 1)) := hi_u h (by omega)
  have f32 : isN (up1 q 45 (q 45 + 1) 32) 12 := hr 32
  obtain ⟨R, hR⟩ : ∃ R, R = up1 q 45 (q 45 + 1) := ⟨_, rfl⟩
  rw [← hR] at b f32 ⊢
  unfold lineO
  refine hi_ite (fun e => hi_begins b) (fun n0 => hi_ite (fun e => hi_u (hi_u (hi_u b (by omega)) (by omega)) (by omega)) (fun n1 => hi_ite (fun e => ?_) (fun n2 => hi_ite (fun e => hi_u b (by omega)) (fun n3 => hi_ite (fun e => hi_goesTo b) (fun n4 => hi_ite (fun e => hi_calls b f32) (fun n5 => hi_ite (fun e => hi_back b) (fun n6 => hi_ite (fun e => ?_) (fun n7 => hi_ite (fun e => hi_u b (by omega)) (fun n8 => hi_ite (fun e => hi_u (hi_u b (by omega)) (by omega)) (fun n9 => hi_ite (fun e => hi_u b (by omega)) (fun n10 => hi_u (hi_u b (by omega)) (by omega))))))))))))
  · have := (l4 (Or.inl e)).1.2
    exact hi_u (hi_u b (by omega)) (by omega)
  · have := (l6 (Or.inl e)).2
    exact hi_u (hi_u b (by omega)) (by omega)
theorem hi_scr {cf : Nat → Nat → Int32} {r q : Nat → Int64} (h : Hi r q) : ∀ n, (∀ k, k < n → isI (cf 17 k) 7) → Hi r (scrR cf q n)
  | 0, _ => h
  | n + 1, hn => by
    have ih := hi_scr h n (fun k hk => hn k (by omega))
    have := (hn n (by omega)).2
    show Hi r (if (cf 16 n).toInt64 = q 29 then up1 (scrR cf q n) (4 + pI (cf 17 n)) (if cf 18 n = 0 then 0 else 1) else scrR cf q n)
    exact hi_ite (fun _ => hi_u ih (by omega)) (fun _ => ih)
theorem hi_ln2 {cf : Nat → Nat → Int32} {r q : Nat → Int64} (hc : CfR cf) (hr : FA q) (hk : pN (q 30) < pI (cf 0 12)) (h : Hi r q) : Hi r (ln2 cf q) := by
  unfold ln2 ln1
  exact hi_u (hi_line hc (fa_u hr z_F) hk (hi_u h (by omega))) (by omega)
theorem hi_ln3 {cf : Nat → Nat → Int32} {r q : Nat → Int64} (h : Hi r (ln2 cf q)) : Hi r (ln3 cf q) := by
  unfold ln3
  exact hi_ite (fun _ => hi_gt h) (fun _ => h)
theorem hi_go {cf : Nat → Nat → Int32} (hc : CfR cf) : ∀ (n : Nat) (r q : Nat → Int64), Hi r q → RR q → q 46 = 0 → q 28 = 1 → Hi r (goR cf n q)
  | 0, r, q, b, h, h46, h28 => by
    unfold goR
    exact hi_ite (fun _ => hi_u (hi_u b (by omega)) (by omega)) (fun _ => hi_errs b)
  | n + 1, r, q, b, h, h46, h28 => by
    unfold goR
    refine hi_ite (fun _ => hi_u (hi_u b (by omega)) (by omega)) (fun z => ?_)
    have hk := ln_hk hc h.1 z
    have h2 := rr_ln2 hc h h46 h28 hk
    have b3 := hi_ln3 (hi_ln2 hc h.1 hk b)
    refine hi_ite (fun _ => b3) (fun ho => ?_)
    obtain ⟨i1, i2, i3⟩ := ln3_idle h2 ho
    exact hi_go hc n _ _ b3 i1 i2 i3
theorem hi_ticks {cf : Nat → Nat → Int32} {r : Nat → Int64} (hc : CfR cf) (h : RR r) (h28 : r 28 = 1) : Hi (up1 r 29 (r 29 + 1)) (ticksR cf r) := by
  have h7 : ∀ k, k < pI (cf 0 16) → isI (cf 17 k) 7 := fun k hk => (hc.2.2.2.2.2.2.2.2.2.1 k hk).1
  have hrr := tk1_rr hc h
  have t28 : tk1 cf r 28 = 1 := by unfold tk1; rw [scr_o h7 (by omega), up1_k (by omega)]; exact h28
  have b : Hi (up1 r 29 (r 29 + 1)) (tk1 cf r) := hi_scr (hi_0 _) _ h7
  unfold ticksR
  refine hi_ite (fun g => hi_go hc 100 _ _ b hrr g t28) (fun g => hi_ite (fun g2 => ?_) (fun _ => hi_gt b))
  refine hi_go hc 100 _ _ (hi_gt b) (rr_gt hrr g) ?_ ?_
  · unfold goesTickR; rw [if_pos g2]; rfl
  · unfold goesTickR; rw [if_pos g2]; exact t28
theorem hi_68 {cf : Nat → Nat → Int32} {r : Nat → Int64} (hc : CfR cf) (h : RR r) (h28 : r 28 = 1) : (∀ y, 68 ≤ y → ticksR cf r y = r y) ∧ ticksR cf r 29 = r 29 + 1 := by
  have b := hi_ticks hc h h28
  exact ⟨fun y hy => (b y (Or.inl hy)).trans (up1_k (by omega)), (b 29 (Or.inr rfl)).trans (up1_s _ _ _)⟩
/-- a row's right places are the first 64 alone -/
theorem rr_c {p q : Nat → Int64} (h : RR p) (e : ∀ y, y < 68 → q y = p y) : RR q := by
  refine ⟨fun k => ?_, ?_⟩
  · by_cases hk : k < 64
    · rw [e k (by omega)]; exact h.1 k
    · exact fr_tr (by omega)
  · have x := h.2
    unfold XR at x ⊢
    rw [e 46 (by omega), e 47 (by omega), e 30 (by omega), e 28 (by omega), e 60 (by omega), e 61 (by omega), e 62 (by omega), e 63 (by omega), e 59 (by omega)]
    exact x
/-- a tick, if it goes; n of them -/
def tkG (cf : Nat → Nat → Int32) (r : Nat → Int64) : Nat → Int64 := if r 28 = 1 then ticksR cf r else r
def tkI (cf : Nat → Nat → Int32) : Nat → (Nat → Int64) → (Nat → Int64)
  | 0, r => r
  | n + 1, r => tkG cf (tkI cf n r)
theorem tkG_ok {cf : Nat → Nat → Int32} {r : Nat → Int64} (hc : CfR cf) (h : RR r) : RR (tkG cf r) ∧ ∀ y, 68 ≤ y → tkG cf r y = r y := by
  unfold tkG
  by_cases g : r 28 = 1
  · rw [if_pos g]; exact ⟨rr_ticks hc h g, (hi_68 hc h g).1⟩
  · rw [if_neg g]; exact ⟨h, fun _ _ => rfl⟩
theorem tkI_ok {cf : Nat → Nat → Int32} {r : Nat → Int64} (hc : CfR cf) (h : RR r) : ∀ n, RR (tkI cf n r) ∧ ∀ y, 68 ≤ y → tkI cf n r y = r y
  | 0 => ⟨h, fun _ _ => rfl⟩
  | n + 1 => by
    have ih := tkI_ok hc h n
    have s := tkG_ok hc ih.1
    exact ⟨s.1, fun y hy => (s.2 y hy).trans (ih.2 y hy)⟩
/-- what is compared -/
def v20 (r : Nat → Int64) (i : Nat) : Int64 := if i < 4 then r i else r (8 + i)
def eqB (f g : Nat → Int64) : Nat → Bool
  | 0 => true
  | n + 1 => eqB f g n && decide (f n = g n)
def dfI (cf : Nat → Nat → Int32) (p q : Nat → Int64) : Nat → Int32
  | 0 => if eqB (v20 p) (v20 q) 20 = true then -1 else 0
  | t + 1 => if dfI cf p q t = -1 then (if eqB (v20 (tkI cf (t + 1) p)) (v20 (tkI cf (t + 1) q)) 20 = true then -1 else nI (t + 1)) else dfI cf p q t
abbrev rpP (k : Int32) (r : Nat → Int64) : Nat → Int64 := cpR 0 (pI k + 1) (cpR 5 0 r)
abbrev rpQ (cf : Nat → Nat → Int32) (k n : Int32) (r : Nat → Int64) : Nat → Int64 := cpR 0 5 (tkI cf (pI n) (rpP k r))
def rpS (k n : Int32) (cf : Nat → Nat → Int32) (r : Nat → Int64) : St := if (0 ≤ k ∧ k ≤ 3) ∧ (1 ≤ n ∧ n ≤ 100) then (if agP cf r (pI k) then (.int (dfI cf (rpP k r) (rpQ cf k n r) (pI n)), cf, cpR 5 0 r) else (.int (-3), cf, r)) else (.int (-2), cf, r)
