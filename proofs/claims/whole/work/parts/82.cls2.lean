/-- the cell's window holds a config -/
def RepC (C cf : Nat → Nat → Int32) : Prop := (∀ j, j < 4 → C (14 + j) 0 = cf 3 j ∧ C (14 + j) 1 = cf 4 j ∧ C (14 + j) 2 = cf 5 j ∧ C (14 + j) 3 = cf 6 j ∧ C (14 + j) 4 = cf 7 j ∧ C (14 + j) 5 = cf 8 j) ∧ (∀ k, k < 4 → C (18 + k) 0 = cf 9 k ∧ C (18 + k) 1 = cf 10 (4 * k) ∧ C (18 + k) 2 = cf 10 (4 * k + 1) ∧ C (18 + k) 3 = cf 10 (4 * k + 2) ∧ C (18 + k) 4 = cf 10 (4 * k + 3)) ∧ (∀ k, k < 16 → C (22 + 2 * k) 0 = cf 11 k ∧ ∀ j, j < 4 → C (23 + 2 * k) j = cf 12 (4 * k + j)) ∧ C 4 3 = cf 0 12 ∧ (∀ k, k < 60 → C 5 k = cf 13 k ∧ C 6 k = cf 14 k ∧ C 7 k = cf 15 k) ∧ C 8 3 = cf 0 16 ∧ (∀ k, k < 40 → C 9 k = cf 16 k ∧ C 10 k = cf 17 k ∧ C 11 k = cf 18 k)
theorem rc_c {C C' cf : Nat → Nat → Int32} (h : RepC C cf) (e : ∀ f, f < 54 → f ≠ 13 → C' f = C f) : RepC C' cf := by
  obtain ⟨h1, h2, h3, h4, h5, h6, h7⟩ := h
  refine ⟨fun j hj => ?_, fun k hk => ?_, fun k hk => ?_, ?_, fun k hk => ?_, ?_, fun k hk => ?_⟩
  · rw [e _ (by omega) (by omega)]; exact h1 j hj
  · rw [e _ (by omega) (by omega)]; exact h2 k hk
  · rw [e _ (by omega) (by omega), e _ (by omega) (by omega)]; exact h3 k hk
  · rw [e _ (by omega) (by omega)]; exact h4
  · rw [e _ (by omega) (by omega), e _ (by omega) (by omega), e _ (by omega) (by omega)]; exact h5 k hk
  · rw [e _ (by omega) (by omega)]; exact h6
  · rw [e _ (by omega) (by omega), e _ (by omega) (by omega), e _ (by omega) (by omega)]; exact h7 k hk
/-- what a tick of moment m over cell c may change -/
def TF (c m : Nat) (w w2 : Wd) : Prop := ∃ I J D, w2 = dW w I J D ∧ (∀ p, ¬ (m ≤ p ∧ p < m + 10) → p ≠ c + 13 → I p = wI w p) ∧ (∀ p, p ≠ m + 2 → J p = wJ w p) ∧ (∀ p, p ≠ c + 12 → D p = wD w p)
theorem tf_0 {c m : Nat} {w : Wd} : TF c m w w := ⟨_, _, _, rfl, fun _ _ _ => rfl, fun _ _ => rfl, fun _ _ => rfl⟩
theorem tf_t {c m : Nat} {w w2 w3 : Wd} (h : TF c m w w2) (g : TF c m w2 w3) : TF c m w w3 := by
  obtain ⟨I, J, D, rfl, h1, h2, h3⟩ := h
  obtain ⟨I', J', D', rfl, g1, g2, g3⟩ := g
  exact ⟨I', J', D', rfl, fun p a b => (g1 p a b).trans (h1 p a b), fun p a => (g2 p a).trans (h2 p a), fun p a => (g3 p a).trans (h3 p a)⟩
theorem tf_I {c m : Nat} {w w2 : Wd} {p k : Nat} {v : Int32} (h : TF c m w w2) (hp : (m ≤ p ∧ p < m + 10) ∨ p = c + 13) : TF c m w (sI w2 p k v) := by
  obtain ⟨I, J, D, rfl, h1, h2, h3⟩ := h
  exact ⟨_, J, D, rfl, fun q a b => (up2_f (by rcases hp with z | z <;> (intro e; subst e; omega))).trans (h1 q a b), h2, h3⟩
theorem tf_d {c m : Nat} {w w2 : Wd} {I : Nat → Nat → Int32} {J : Nat → Nat → Int64} {D : Nat → Nat → UInt64} (h : TF c m w w2) (h1 : ∀ p, ¬ (m ≤ p ∧ p < m + 10) → p ≠ c + 13 → I p = wI w2 p) (h2 : ∀ p, p ≠ m + 2 → J p = wJ w2 p) (h3 : ∀ p, p ≠ c + 12 → D p = wD w2 p) : TF c m w (dW w2 I J D) := tf_t h ⟨I, J, D, rfl, h1, h2, h3⟩
theorem tf_tip {c m : Nat} {w w2 : Wd} {x y : UInt64} (h : TF c m w w2) : TF c m w (tipW w2 (c + 12) 0 x y) := by
  obtain ⟨I, J, D, rfl, h1, h2, h3⟩ := h
  exact ⟨I, J, _, rfl, h1, h2, fun q a => (up2_f a).trans ((up2_f a).trans (h3 q a))⟩
theorem tf_L {c m : Nat} {w w2 : Wd} (h : TF c m w w2) : (∀ a, LayC w a → LayC w2 a) ∧ (∀ a, LayM w a → LayM w2 a) ∧ wN w2 = wN w := by
  obtain ⟨I, J, D, rfl, h1, h2, h3⟩ := h
  exact ⟨fun _ x => x, fun _ x => x, rfl⟩
theorem tf_C {c m : Nat} {w w2 : Wd} {cf : Nat → Nat → Int32} (h : TF c m w w2) (hcm : c + 54 ≤ m) (hC : RepC (cfW w c) cf) : RepC (cfW w2 c) cf := by
  obtain ⟨I, J, D, rfl, h1, h2, h3⟩ := h
  exact rc_c hC (fun f hf hf2 => h1 _ (by omega) (by omega))
theorem tf_drop {c m : Nat} {w w2 : Wd} (h : TF c m w w2) : TF c m w (dropW w2 m) := tf_I (tf_I h (by omega)) (by omega)
theorem tf_pass {c m : Nat} {w w2 : Wd} (h : TF c m w w2) : TF c m w (passW w2 m) := tf_I (tf_drop h) (by omega)
theorem tf_end {c m : Nat} {w w2 : Wd} {x : Int32} (h : TF c m w w2) : TF c m w (endW w2 m x) := tf_I (tf_I h (by omega)) (by omega)
theorem tf_stop {c m : Nat} {w w2 : Wd} {e : Int32} (h : TF c m w w2) : TF c m w (stopW w2 m e) := tf_drop (tf_I (tf_I h (by omega)) (by omega))
theorem tf_ite {c m : Nat} {w x y : Wd} {p : Prop} [Decidable p] (h : TF c m w x) (g : TF c m w y) : TF c m w (if p then x else y) := by
  by_cases q : p
  · rw [if_pos q]; exact h
  · rw [if_neg q]; exact g
theorem tf_spend {c m : Nat} {w w2 : Wd} (h : TF c m w w2) : TF c m w (spendW w2 m) := tf_ite (tf_pass (tf_I h (by omega))) (tf_I h (by omega))
theorem tf_err {c m d : Nat} {w w2 : Wd} {e : Int32} (h : TF c m w w2) : TF c m w (errW w2 d m e) := tf_ite (tf_stop h) (tf_ite (tf_stop h) (tf_I (tf_I (tf_I (tf_I (tf_drop h) (by omega)) (by omega)) (by omega)) (by omega)))
theorem tf_jump {c m : Nat} {w w2 : Wd} {x : Int32} (h : TF c m w w2) : TF c m w (jumpW w2 c m x).2 := by
  unfold jumpW
  split
  · exact tf_err h
  · exact tf_I h (by omega)
theorem tf_call {c m : Nat} {w w2 : Wd} {x : Int32} (h : TF c m w w2) : TF c m w (callW w2 c m x).2 := by
  unfold callW
  split
  · exact tf_err h
  · split
    · exact tf_err h
    · exact tf_I (tf_I (tf_I h (by omega)) (by omega)) (by omega)
theorem tf_back {c m : Nat} {w w2 : Wd} (h : TF c m w w2) : TF c m w (backW w2 m).2 := by
  unfold backW
  split
  · exact tf_end h
  · exact tf_I (tf_I h (by omega)) (by omega)
/-- longs of the moment in worlds where ints alone differ -/
abbrev RepM (w : Wd) (m : Nat) (r : Nat → Int64) : Prop := RepV (cfW w m) (wJ w (m + 2)) r
-- states within the limits
set_option maxRecDepth 100000 in
set_option maxHeartbeats 4000000 in
theorem ct_X1_allows (l : Launch) (E : EE) (w : Wd) (c s : Nat) (cf : Nat → Nat → Int32) (st : Nat → Int32) (hlo : E.2.2 ≤ wN w) (hC : LayC w c) (hRC : RepC (cfW w c) cf) (hS : wK w s = some (.inr (0, 4))) (hs : ∀ j, j < 4 → wI w s j = st j) : Ct l E yX1_allows cX1_allows 3 (some .boolean) ({ frames := 1, cells := 0, slots := 0, locals := 21 } : Room) [.ref c, .ref s] w 0 0 (Px (some (.int (bI (inL cf st 4 = true)))) w) := by
  refine ct_in (il := il_X1_allows) (by decide) dk_X1_allows (Nat.le_of_ble_eq_true rfl) hlo ?_
  intro X h hq

  have hno : ∀ i, i < 4 → ¬ (cf 5 i ≤ st i ∧ st i ≤ cf 6 i) → ¬ inL cf st 4 = true := fun i hi hn hq => by
    have key : ∀ n, inL cf st n = true → ∀ j, j < n → (cf 5 j ≤ st j ∧ st j ≤ cf 6 j) := by
      intro n
      induction n with
      | zero => intro _ j hj; omega
      | succ n ih =>
        intro q j hj
        have q2 : (inL cf st n && decide (cf 5 n ≤ st n ∧ st n ≤ cf 6 n)) = true := q
        rw [Bool.and_eq_true, decide_eq_true_iff] at q2
        by_cases e : j = n
        · subst e; exact q2.2
        · exact ih q2.1 j (by omega)
    exact hn (key 4 hq i hi)
  have key : ∀ (d i : Nat), i + d = 4 → inL cf st i = true → G X 0 0 2 (lf [(0, .ref c), (1, .ref s), (2, .int (nI i))]) [] w := by
    intro d
    induction d with
    | zero =>
      intro i hi hq0
      have hi4 : i = 4 := by omega
      subst hi4
      refine g_iload_n h (i := 2) rfl rfl ?_
      refine g_iconst h (i := 3) rfl (v := 4) (by rfl) ?_
      refine g_icmp_ge h (i := 4) 30 rfl rfl (fun c_4 => ?_) (fun c_4 => absurd (by decide : (4 : Int32) ≤ nI 4) c_4)
      refine g_iconst h (i := 18) rfl (v := 1) (by rfl) ?_
      exact g_zret hq h (i := 19) rfl (rfl) (⟨rT hq0, rfl⟩)
    | succ d ih =>
      intro i hid hq0
      have hi : i < 4 := by omega
      have hnge : ¬ (4 : Int32) ≤ nI i := nI_ge (b := 4) hi (by omega)
      have hcl : (nI i).toNatClampNeg = i := nI_clamp (by omega)
      have hS1 : inL cf st (i + 1) = (inL cf st i && decide (cf 5 i ≤ st i ∧ st i ≤ cf 6 i)) := rfl
      have hj := hRC.1 i hi
      have hal := ct_X2_allows l E w (c + 14 + i) (st i) hlo (lk_jo hC hi)
      rw [show wI w (c + 14 + i) 2 = cf 5 i by rw [Nat.add_assoc]; exact hj.2.2.1, show wI w (c + 14 + i) 3 = cf 6 i by rw [Nat.add_assoc]; exact hj.2.2.2.1] at hal
      refine g_iload_n h (i := 2) rfl rfl ?_
      refine g_iconst h (i := 3) rfl (v := 4) (by rfl) ?_
      refine g_icmp_ge h (i := 4) 30 rfl rfl (fun c_4 => absurd c_4 hnge) (fun c_4 => ?_)
      refine g_aload_n h (i := 5) rfl rfl ?_
      refine g_getR h (i := 6) rfl fl_X1_11 (fun _ _ _ => rfl) (lc_k hC) (lc_joints hC) ?_
      refine g_iload_n h (i := 7) rfl rfl ?_
      refine g_aald h (i := 8) rfl (by decide) (lk_joints hC) (vp_in_nI (by omega) (by omega)) (by rw [hcl]; exact lc_jo hC hi) ?_
      refine g_aload_n h (i := 9) rfl rfl ?_
      refine g_iload_n h (i := 10) rfl rfl ?_
      refine g_iald h (i := 11) rfl hS (vp_in_nI (by omega) (by omega)) ?_
      refine g_eqi (st i) (by rw [hcl]; exact hs i hi) ?_
      refine g_callVx h hq (i := 12) rfl mv_X1_64 cls2 (lk_jo hC hi) (hal) rfl rfl ⟨rfl, rfl, Nat.le_of_ble_eq_true rfl, Nat.le_of_ble_eq_true rfl⟩ (Nat.le_of_ble_eq_true rfl) ⟨Nat.zero_le _, Nat.zero_le _⟩ ?_
      refine g_if_ne h (i := 13) 24 rfl rfl (fun c_19 => ?_) (fun c_19 => ?_)
      · skip
        refine g_iinc h (i := 16) rfl rfl (dv := 1) (by rfl) ?_
        refine g_goto h (i := 17) 2 rfl rfl ?_
        exact g_lv [(0, .ref c), (1, .ref s), (2, .int (nI (i + 1)))] ⟨rfl, rfl, congrArg (fun z => some (Value.int z)) (nI_1 i), trivial⟩ (ih (i + 1) (by omega) (by rw [hS1, hq0, Bool.true_and]; exact decide_eq_true (bI_1.mp c_19)))
      · skip
        refine g_iconst h (i := 14) rfl (v := 0) (by rfl) ?_
        exact g_zret hq h (i := 15) rfl (rfl) (⟨rF (hno i hi (bI_0.mp c_19)), rfl⟩)
  refine g_iconst h (i := 0) rfl (v := 0) (by rfl) ?_
  refine g_istore_n h (i := 1) rfl hq rfl ?_
  exact g_lv [(0, .ref c), (1, .ref s), (2, .int (nI 0))] ⟨rfl, rfl, rfl, trivial⟩ (key 4 0 (by omega) rfl)
def siW (cf : Nat → Nat → Int32) (t : Int32) (f : Nat → Int32) : Nat → Nat → Int32
  | 0 => f
  | k + 1 => if cf 16 k = t then up1 (siW cf t f k) (pI (cf 17 k)) (cf 18 k) else siW cf t f k
def inpW (w : Wd) (a : Nat) (f : Nat → Int32) : Wd := dW w (ua (wI w) a f) (wJ w) (wD w)
theorem inp_0 (w : Wd) (a : Nat) : inpW w a (wI w a) = w := by unfold inpW; rw [ua_self]; rfl
theorem inp_1 (w : Wd) (a k : Nat) (f : Nat → Int32) (v : Int32) : sI (inpW w a f) a k v = inpW w a (up1 f k v) := by
  have e : up2 (ua (wI w) a f) a k v = ua (wI w) a (up1 f k v) := by rw [up2_ua, ua_ua, ua_s]
  exact congrArg (fun I => dW w I (wJ w) (wD w)) e
-- inputs set
set_option maxRecDepth 100000 in
set_option maxHeartbeats 4000000 in
theorem ct_X7_setInputs (l : Launch) (E : EE) (w : Wd) (s a : Nat) (cf : Nat → Nat → Int32) (t : Int32) (hlo : E.2.2 ≤ wN w) (hS : wK w s = some (.inl 7)) (hl : LayA w s tabS) (hA : wK w a = some (.inr (1, 8))) (hn : wI w s 3 = cf 0 16) (hn2 : isI (cf 0 16) 40) (ht : ∀ k, k < 40 → wI w (s + 1) k = cf 16 k ∧ wI w (s + 2) k = cf 17 k ∧ wI w (s + 3) k = cf 18 k) (hc : ∀ k, k < pI (cf 0 16) → isI (cf 17 k) 7 ∧ (cf 18 k = 0 ∨ cf 18 k = 1)) (hd : a ≠ s ∧ a ≠ s + 1 ∧ a ≠ s + 2 ∧ a ≠ s + 3) : Ct l E yX7_setInputs cX7_setInputs 4 none ({ frames := 0, cells := 0, slots := 0, locals := 0 } : Room) [.ref s, .int t, .ref a] w 0 0 (Px none (inpW w a (siW cf t (wI w a) (pI (cf 0 16))))) := by
  refine ct_in (il := il_X7_setInputs) (by decide) dk_X7_setInputs (Nat.le_of_ble_eq_true rfl) hlo ?_
  intro X h hq

  obtain ⟨N, hN⟩ : ∃ N, N = pI (cf 0 16) := ⟨_, rfl⟩
  have hn3 : cf 0 16 = nI N := by rw [hN]; exact hn2.1
  have hn4 : N ≤ 40 := by rw [hN]; exact hn2.2
  rw [← hN] at hq hc
  have key : ∀ (d i : Nat), i + d = N → G X 0 0 2 (lf [(0, .ref s), (1, .int t), (2, .ref a), (3, .int (nI i))]) [] (inpW w a (siW cf t (wI w a) i)) := by
    intro d
    induction d with
    | zero =>
      intro i hi
      have hi4 : i = N := by omega
      have h3 : ∀ f, wI (inpW w a f) s 3 = nI N := fun f => (congrFun (ua_a (Ne.symm hd.1)) 3).trans (hn.trans hn3)
      refine g_iload_n h (i := 2) rfl rfl ?_
      refine g_aload_n h (i := 3) rfl rfl ?_
      refine g_getI h (i := 4) rfl fl_X7_22 (fun _ _ _ => rfl) hS ?_
      refine g_eqi (nI N) (h3 _) ?_
      refine g_icmp_ge h (i := 5) 40 rfl rfl (fun c_7 => ?_) (fun c_7 => absurd (by rw [hi4]; exact Int32.le_refl _ : nI N ≤ nI i) c_7)
      exact g_vret hq h (i := 24) rfl (⟨rfl, by rw [hi4]⟩)
    | succ d ih =>
      intro i hid
      have hi : i < N := by omega
      have h3 : ∀ f, wI (inpW w a f) s 3 = nI N := fun f => (congrFun (ua_a (Ne.symm hd.1)) 3).trans (hn.trans hn3)
      have hnge : ¬ nI N ≤ nI i := nI_ge hi (by omega)
      have hcl : (nI i).toNatClampNeg = i := nI_clamp (by omega)
      have hvp : vp_in (nI i) 40 := vp_in_nI (by omega) (by omega)
      obtain ⟨t1, t2, t3⟩ := ht i (by omega)
      obtain ⟨⟨c1, c2⟩, c3⟩ := hc i hi
      refine g_iload_n h (i := 2) rfl rfl ?_
      refine g_aload_n h (i := 3) rfl rfl ?_
      refine g_getI h (i := 4) rfl fl_X7_22 (fun _ _ _ => rfl) hS ?_
      refine g_eqi (nI N) (h3 _) ?_
      refine g_icmp_ge h (i := 5) 40 rfl rfl (fun c_7 => absurd c_7 hnge) (fun c_7 => ?_)
      refine g_aload_n h (i := 6) rfl rfl ?_
      refine g_getR h (i := 7) rfl fl_X7_9 (fun _ _ _ => rfl) hS (lp_r hl (f := 0) (a := 1) (t := 0) (n := 40) (by decide)) ?_
      refine g_iload_n h (i := 8) rfl rfl ?_
      refine g_iald h (i := 9) rfl (lp_k hl (f := 0) (a := 1) (t := 0) (n := 40) (by decide)) (hvp) ?_
      refine g_eqi (cf 16 i) (by rw [hcl]; exact (congrFun (ua_a (Ne.symm hd.2.1)) i).trans t1) ?_
      refine g_iload_n h (i := 10) rfl rfl ?_
      refine g_icmp_ne h (i := 11) 34 rfl rfl (fun c_17 => ?_) (fun c_17 => ?_)
      · skip
        refine g_iinc h (i := 22) rfl rfl (dv := 1) (by rfl) ?_
        refine g_goto h (i := 23) 2 rfl rfl ?_
        exact g_lv [(0, .ref s), (1, .int t), (2, .ref a), (3, .int (nI (i + 1)))] ⟨rfl, rfl, rfl, congrArg (fun z => some (Value.int z)) (nI_1 i), trivial⟩ (by have := ih (i + 1) (by omega); rw [show siW cf t (wI w a) (i + 1) = siW cf t (wI w a) i from if_neg c_17] at this; exact this)
      · skip
        refine g_aload_n h (i := 12) rfl rfl ?_
        refine g_aload_n h (i := 13) rfl rfl ?_
        refine g_getR h (i := 14) rfl fl_X7_15 (fun _ _ _ => rfl) hS (lp_r hl (f := 1) (a := 2) (t := 0) (n := 40) (by decide)) ?_
        refine g_iload_n h (i := 15) rfl rfl ?_
        refine g_iald h (i := 16) rfl (lp_k hl (f := 1) (a := 2) (t := 0) (n := 40) (by decide)) (hvp) ?_
        refine g_eqi (nI (pI (cf 17 i))) (by rw [hcl, ← c1]; exact (congrFun (ua_a (Ne.symm hd.2.2.1)) i).trans t2) ?_
        refine g_aload_n h (i := 17) rfl rfl ?_
        refine g_getR h (i := 18) rfl fl_X7_18 (fun _ _ _ => rfl) hS (lp_r hl (f := 2) (a := 3) (t := 1) (n := 40) (by decide)) ?_
        refine g_iload_n h (i := 19) rfl rfl ?_
        refine g_zald h (i := 20) rfl (lp_k hl (f := 2) (a := 3) (t := 1) (n := 40) (by decide)) (hvp) ?_
        refine g_eqi (cf 18 i) (by rw [hcl]; exact (congrFun (ua_a (Ne.symm hd.2.2.2)) i).trans t3) ?_
        refine g_zast h (i := 21) rfl hA (vp_in_nI (by omega) (by omega)) (by rcases c3 with q | q <;> (rw [q]; rfl)) ?_
        refine g_w (inpW w a (up1 (siW cf t (wI w a) i) (pI (cf 17 i)) (cf 18 i))) (by rw [nI_clamp (by omega)]; exact inp_1 _ _ _ _ _) ?_
        refine g_iinc h (i := 22) rfl rfl (dv := 1) (by rfl) ?_
        refine g_goto h (i := 23) 2 rfl rfl ?_
        exact g_lv [(0, .ref s), (1, .int t), (2, .ref a), (3, .int (nI (i + 1)))] ⟨rfl, rfl, rfl, congrArg (fun z => some (Value.int z)) (nI_1 i), trivial⟩ (by have := ih (i + 1) (by omega); rw [show siW cf t (wI w a) (i + 1) = up1 (siW cf t (wI w a) i) (pI (cf 17 i)) (cf 18 i) from if_pos c_17] at this; exact this)
  refine g_iconst h (i := 0) rfl (v := 0) (by rfl) ?_
  refine g_istore_n h (i := 1) rfl hq rfl ?_
  exact g_lv [(0, .ref s), (1, .int t), (2, .ref a), (3, .int (nI 0))] ⟨rfl, rfl, rfl, rfl, trivial⟩ (by have := key N 0 (by omega); rw [show siW cf t (wI w a) 0 = wI w a from rfl, inp_0] at this; exact this)
