/-- kinds and references from m on -/
def KR (W : Wd) (m n : Nat) (kv : Nat → Option (Nat ⊕ (Nat × Nat))) (LR : Nat → Nat → Nat → Prop) : Prop := (∀ o, o < n → wK W (m + o) = kv o) ∧ ∀ o f t, LR o f t → wR W (m + o) f = some (m + t)
theorem kr_sg {w W : Wd} {m n : Nat} {kv : Nat → Option (Nat ⊕ (Nat × Nat))} {iv : Nat → Nat → Int32} {LR : Nat → Nat → Nat → Prop} (h : Sg w W m (m + n) kv iv LR) : KR W m n kv LR := ⟨fun o ho => (h.2.1 o (by omega)).1, fun o f t q => (h.2.2.1 o f t q).2⟩
theorem kr_s {W : Wd} {m n b n' : Nat} {kv kv' : Nat → Option (Nat ⊕ (Nat × Nat))} {LR LR' : Nat → Nat → Nat → Prop} (h : KR W m n kv LR) (hn : b + n' ≤ n) (hk : ∀ o, o < n' → kv (b + o) = kv' o) (hL : ∀ o f t, LR' o f t → LR (b + o) f (b + t)) : KR W (m + b) n' kv' LR' := ⟨fun o ho => by rw [show m + b + o = m + (b + o) by omega, h.1 _ (by omega), hk o ho], fun o f t q => by rw [show m + b + o = m + (b + o) by omega, show m + b + t = m + (b + t) by omega]; exact h.2 _ _ _ (hL o f t q)⟩
theorem kr_A {W : Wd} {m n : Nat} {kv : Nat → Option (Nat ⊕ (Nat × Nat))} {LR : Nat → Nat → Nat → Prop} (h : KR W m n kv LR) (l : List (Nat × Nat × Nat × Nat)) (hl : ∀ q ∈ l, LR 0 q.1 q.2.1 ∧ kv q.2.1 = some (.inr (q.2.2.1, q.2.2.2)) ∧ q.2.1 < n) : LayA W m l := fun q hq => by
  obtain ⟨a, b, c⟩ := hl q hq
  exact ⟨h.2 0 _ _ a, (h.1 _ c).trans b⟩
theorem kr_T {W : Wd} {m : Nat} (h : KR W m 3 kvT LRT) : LayT W m := ⟨h.1 0 (by decide), kr_A h tabT (by unfold LRT; decide)⟩
theorem kr_M {W : Wd} {m : Nat} (h : KR W m 10 kvM LRM) : LayM W m := ⟨h.1 0 (by decide), kr_A h tabM (by unfold LRM; decide), h.2 0 6 7 (by unfold LRM; decide), kr_T (kr_s (b := 7) (n' := 3) h (by decide) (by decide) (fun o f t q => Or.inr (by unfold LRT at q; omega)))⟩
theorem kr_R {W : Wd} {m : Nat} (h : KR W m 23 kvR LRR) : LayR W m := ⟨h.1 0 (by decide), kr_A h tabR (by unfold LRR; decide)⟩
theorem kr_P {W : Wd} {m : Nat} (h : KR W m 4 kvP6 LR3) : wK W m = some (.inl 6) ∧ LayA W m tabP := ⟨h.1 0 (by decide), kr_A h tabP (by unfold LR3; decide)⟩
theorem kr_Q {W : Wd} {m : Nat} (h : KR W m 4 kvP7 LR3) : wK W m = some (.inl 7) ∧ LayA W m tabS := ⟨h.1 0 (by decide), kr_A h tabS (by unfold LR3; decide)⟩
theorem kr_w {W : Wd} {m n : Nat} {kv : Nat → Option (Nat ⊕ (Nat × Nat))} {LR LR' : Nat → Nat → Nat → Prop} (h : KR W m n kv LR) (hL : ∀ o f t, LR' o f t → LR o f t) : KR W m n kv LR' := ⟨h.1, fun o f t q => h.2 o f t (hL o f t q)⟩
theorem kr_C {W : Wd} {m : Nat} (h : KR W m 54 kvC (LRc3 16)) : LayC W m := by
  have h0 : KR W m 54 kvC LRc0 := kr_w h (fun o f t q => Or.inl (Or.inl (Or.inl q)))
  obtain ⟨p1, p2⟩ := kr_P (kr_s (b := 4) (n' := 4) h0 (by decide) (by decide) (fun o f t q => Or.inr (Or.inl (by unfold LR3 at q; omega))))
  obtain ⟨q1, q2⟩ := kr_Q (kr_s (b := 8) (n' := 4) h0 (by decide) (by decide) (fun o f t q => Or.inr (Or.inr (by unfold LR3 at q; omega))))
  refine ⟨h.1 0 (by decide), kr_A h0 tabC (by unfold LRc0; decide), h0.2 0 3 4 (by unfold LRc0; decide), p1, p2, h0.2 0 4 8 (by unfold LRc0; decide), q1, q2, h0.2 0 5 12 (by unfold LRc0; decide), h.1 12 (by decide), fun j hj => ?_, fun k hk => ?_, fun k hk => ?_⟩
  · rw [show m + 14 + j = m + (14 + j) by omega]
    exact ⟨h.2 1 j (14 + j) (Or.inl (Or.inl (Or.inr ⟨rfl, hj, rfl⟩))), (h.1 (14 + j) (by omega)).trans (kvC_j (by omega) (by omega))⟩
  · rw [show m + 18 + k = m + (18 + k) by omega]
    exact ⟨h.2 2 k (18 + k) (Or.inl (Or.inr ⟨rfl, hk, rfl⟩)), (h.1 (18 + k) (by omega)).trans (kvC_b (by omega) (by omega))⟩
  · rw [show m + 22 + 2 * k = m + (22 + 2 * k) by omega, show m + 23 + 2 * k = m + (23 + 2 * k) by omega]
    exact ⟨h.2 3 k (22 + 2 * k) (Or.inr (Or.inl ⟨rfl, hk, rfl⟩)), (h.1 (22 + 2 * k) (by omega)).trans ((kvC_p (by omega)).trans (by rw [show (22 + 2 * k - 22) % 2 = 0 by omega]; rfl)), h.2 (22 + 2 * k) 1 (23 + 2 * k) (Or.inr (Or.inr ⟨k, hk, rfl, rfl, rfl⟩)), (h.1 (23 + 2 * k) (by omega)).trans ((kvC_p (by omega)).trans (by rw [show (23 + 2 * k - 22) % 2 = 1 by omega]; rfl))⟩
theorem kr_B {W : Wd} {m : Nat} (h : KR W m 131 kvB (LRb 4)) : LayB W m := by
  have r0 : ∀ f t, ((f = 0 ∧ t = 1) ∨ (f = 1 ∧ t = 55) ∨ (f = 2 ∧ t = 65) ∨ (f = 3 ∧ t = 66) ∨ (f = 4 ∧ t = 67) ∨ (f = 5 ∧ t = 77) ∨ (f = 6 ∧ t = 87) ∨ (f = 7 ∧ t = 90)) → wR W m f = some (m + t) := fun f t q => h.2 0 f t (Or.inl (Or.inl ⟨rfl, q⟩))
  have hC := kr_C (kr_s (b := 1) (n' := 54) (kv' := kvC) (LR' := LRc3 16) h (by decide) (fun o ho => kvB_1 rfl ho) (fun o f t q => Or.inl (Or.inr (Or.inl ⟨by omega, by omega, by rw [show 1 + o - 1 = o by omega, show 1 + t - 1 = t by omega]; exact q⟩))))
  have hM : KR W (m + 55) 10 kvM LRM := kr_s (b := 55) h (by decide) (fun o ho => kvB_55 rfl ho) (fun o f t q => Or.inl (Or.inr (Or.inr (Or.inl ⟨by omega, by omega, by rw [show 55 + o - 55 = o by omega, show 55 + t - 55 = t by omega]; exact q⟩))))
  have hM2 : KR W (m + 67) 10 kvM LRM := kr_s (b := 67) h (by decide) (fun o ho => kvB_67 rfl ho) (fun o f t q => Or.inl (Or.inr (Or.inr (Or.inr (Or.inl ⟨by omega, by omega, by rw [show 67 + o - 67 = o by omega, show 67 + t - 67 = t by omega]; exact q⟩)))))
  have hM3 : KR W (m + 77) 10 kvM LRM := kr_s (b := 77) h (by decide) (fun o ho => kvB_77 rfl ho) (fun o f t q => Or.inl (Or.inr (Or.inr (Or.inr (Or.inr (Or.inl ⟨by omega, by omega, by rw [show 77 + o - 77 = o by omega, show 77 + t - 77 = t by omega]; exact q⟩))))))
  have hT : KR W (m + 87) 3 kvT LRT := kr_s (b := 87) h (by decide) (fun o ho => kvB_87 rfl ho) (fun o f t q => Or.inl (Or.inr (Or.inr (Or.inr (Or.inr (Or.inr ⟨by omega, by omega, by rw [show 87 + o - 87 = o by omega, show 87 + t - 87 = t by omega]; exact q⟩))))))
  have hA : LayA W m [(2, 65, 5, 4), (3, 66, 1, 4)] := fun q hq => by
    rcases List.mem_cons.mp hq with rfl | hq
    · exact ⟨r0 2 65 (by decide), h.1 65 (by decide)⟩
    · rcases List.mem_cons.mp hq with rfl | hq
      · exact ⟨r0 3 66 (by decide), h.1 66 (by decide)⟩
      · exact absurd hq List.not_mem_nil
  refine ⟨h.1 0 (by decide), r0 0 1 (by decide), hC, r0 1 55 (by decide), kr_M hM, hA, r0 4 67 (by decide), kr_M hM2, r0 5 77 (by decide), kr_M hM3, r0 6 87 (by decide), kr_T hT, r0 7 90 (by decide), h.1 90 (by decide), fun k hk => ?_⟩
  have hK : KR W (m + (91 + 10 * k)) 10 kvM LRM := kr_s (b := 91 + 10 * k) h (by omega) (fun o ho => kvB_91 (k := k) rfl ho) (fun o f t q => Or.inr (Or.inr ⟨k, hk, by omega, by omega, by rw [show 91 + 10 * k + o - (91 + 10 * k) = o by omega, show 91 + 10 * k + t - (91 + 10 * k) = t by omega]; exact q⟩))
  rw [show m + 91 + 10 * k = m + (91 + 10 * k) by omega]
  exact ⟨h.2 65 k (91 + 10 * k) (Or.inr (Or.inl ⟨rfl, hk, rfl⟩)), kr_M hK⟩
/-- the first row -/
def R0 : Nat → Int64 := up1 (up1 (up1 z64 48 (-1)) 49 (-1)) 50 (-1)
theorem ite_q {c P Q : Prop} [Decidable c] (h : P) (g : Q) : if c then P else Q := by by_cases e : c; exact (if_pos e).mpr h; exact (if_neg e).mpr g
set_option maxRecDepth 10000 in
theorem fr_zero {k : Nat} : FR k 0 := by
  unfold FR isN
  refine ite_q (by first | trivial | decide) ?_
  refine ite_q (by first | trivial | decide) ?_
  refine ite_q (by first | trivial | decide) ?_
  refine ite_q (by first | trivial | decide) ?_
  refine ite_q (by first | trivial | decide) ?_
  refine ite_q (by first | trivial | decide) ?_
  refine ite_q (by first | trivial | decide) ?_
  refine ite_q (by first | trivial | decide) ?_
  refine ite_q (by first | trivial | decide) ?_
  refine ite_q (by first | trivial | decide) ?_
  refine ite_q (by first | trivial | decide) ?_
  refine ite_q (by first | trivial | decide) ?_
  refine ite_q (by first | trivial | decide) ?_
  refine ite_q (by first | trivial | decide) ?_
  refine ite_q (by first | trivial | decide) ?_
  refine ite_q (by first | trivial | decide) ?_
  refine ite_q (by first | trivial | decide) ?_
  refine ite_q (by first | trivial | decide) ?_
  trivial
theorem fa_0 : FA R0 := fun k => by
  by_cases e : k = 48
  · subst e; unfold FR isN; decide
  · by_cases e2 : k = 49
    · subst e2; unfold FR isN; decide
    · by_cases e3 : k = 50
      · subst e3; unfold FR isN; decide
      · have : R0 k = 0 := by
          unfold R0
          rw [up1_k e3, up1_k e2, up1_k e]; rfl
        rw [this]; exact fr_zero
theorem rr_0 : RR R0 := ⟨fa_0, by decide, fun h => absurd (by decide) h, fun h => absurd h (by decide)⟩
/-- the first config -/
def Cf0 (cf : Nat → Nat → Int32) : Prop := ∀ f, f < 23 → cf f = ivR f
theorem cfr_0 {cf : Nat → Nat → Int32} (e : Cf0 cf) : CfR cf := by
  unfold CfR CfA isI
  rw [e 3 (by decide), e 4 (by decide), e 5 (by decide), e 6 (by decide), e 7 (by decide), e 8 (by decide), e 12 (by decide), e 11 (by decide), e 9 (by decide), e 0 (by decide)]
  exact ⟨by decide +kernel, by decide +kernel, by decide +kernel, by decide +kernel, by decide +kernel, by decide +kernel, by decide +kernel, fun k hk => absurd hk (by rw [show pI (ivR 0 12) = 0 from by decide +kernel]; omega), by decide +kernel, fun k hk => absurd hk (by rw [show pI (ivR 0 16) = 0 from by decide +kernel]; omega), by decide +kernel⟩
theorem inv_0 {cf : Nat → Nat → Int32} (e : Cf0 cf) : Inv cf R0 0 := ⟨cfr_0 e, rr_0, fun k hk => by rw [e 2 (by decide)]; exact Or.inl rfl, fun k hk hn => by rw [e 2 (by decide)] at hn; exact absurd rfl hn, by unfold isN; decide +kernel⟩
theorem repc_0 {C cf : Nat → Nat → Int32} (e : Cf0 cf) (eC : ∀ f, f < 54 → C f = ivC f) : RepC C cf := by
  refine ⟨fun j hj => ?_, fun k hk => ?_, fun k hk => ⟨?_, fun j hj => ?_⟩, ?_, fun k hk => ?_, ?_, fun k hk => ?_⟩
  · rw [eC (14 + j) (by omega), ivC_j (by omega) (by omega), e 3 (by decide), e 4 (by decide), e 5 (by decide), e 6 (by decide), e 7 (by decide), e 8 (by decide)]
    exact (by decide : ∀ j, j < 4 → jv 0 = ivR 3 j ∧ jv 1 = ivR 4 j ∧ jv 2 = ivR 5 j ∧ jv 3 = ivR 6 j ∧ jv 4 = ivR 7 j ∧ jv 5 = ivR 8 j) j hj
  · rw [eC (18 + k) (by omega), ivC_z (by omega), e 9 (by decide), e 10 (by decide)]
    exact ⟨rfl, rfl, rfl, rfl, rfl⟩
  · rw [eC (22 + 2 * k) (by omega), ivC_z (by omega), e 11 (by decide)]; rfl
  · rw [eC (23 + 2 * k) (by omega), ivC_z (by omega), e 12 (by decide)]; rfl
  · rw [eC 4 (by decide), e 0 (by decide)]; rfl
  · rw [eC 5 (by decide), eC 6 (by decide), eC 7 (by decide), e 13 (by decide), e 14 (by decide), e 15 (by decide)]; exact ⟨rfl, rfl, rfl⟩
  · rw [eC 8 (by decide), e 0 (by decide)]; rfl
  · rw [eC 9 (by decide), eC 10 (by decide), eC 11 (by decide), e 16 (by decide), e 17 (by decide), e 18 (by decide)]; exact ⟨rfl, rfl, rfl⟩
theorem repv_0 {M : Nat → Nat → Int32} (eM : ∀ f, f < 10 → M f = ivM f) : RepV M z64 R0 := by
  unfold RepV
  rw [eM 0 (by decide), eM 1 (by decide), eM 3 (by decide), eM 4 (by decide), eM 5 (by decide), eM 6 (by decide)]
  have n46 : ¬ R0 46 = 1 := by decide
  exact ⟨by decide, by decide, by decide, by decide, by decide, by decide, by decide, by decide, by decide, by decide, fun h => absurd h n46, by decide, by decide, by decide, by decide, by decide, fun i h1 h2 => absurd h2 (by rw [show pN (R0 32) = 0 from by decide]; omega), fun h => absurd h n46⟩
/-- the class as it was made -/
theorem repb_0 {w W : Wd} {b : Nat} {cf : Nat → Nat → Int32} (e : Cf0 cf) (h : Sg w W b (b + 131) kvB ivB (LRb 4)) : RepB W b cf R0 := by
  have hI : ∀ o, o < 131 → wI W (b + o) = ivB o := fun o ho => (h.2.1 o (by omega)).2.1
  refine ⟨repc_0 e (fun f hf => ?_), ?_, fun k hk => ?_⟩
  · show wI W (b + 1 + f) = ivC f
    rw [show b + 1 + f = b + (1 + f) by omega, hI _ (by omega), ivB_1 rfl (by omega)]
  · show RepV (cfW W (b + 55)) (wJ W (b + 55 + 2)) R0
    rw [show b + 55 + 2 = b + 57 by omega, (h.2.1 57 (by omega)).2.2]
    refine repv_0 (fun f hf => ?_)
    show wI W (b + 55 + f) = ivM f
    rw [show b + 55 + f = b + (55 + f) by omega, hI _ (by omega), ivB_55 rfl (by omega)]
  · rw [e 2 (by decide), hI 66 (by decide), ivB_z (by omega)]
    exact ⟨rfl, fun q => absurd rfl q⟩
