/-- of n joints: ticks, rise, pace, way of the leader -/
def plS (rs pv wd : Nat → Nat) (w0 : Nat) : Nat → Nat × Nat × Nat × Nat
  | 0 => (0, 1, 1, w0)
  | j + 1 => if (plS rs pv wd w0 j).1 < lsN (rs j) (pv j) (wd j) then (lsN (rs j) (pv j) (wd j), rs j, pv j, wd j) else plS rs pv wd w0 j
theorem pl_t {rs pv wd : Nat → Nat} {w0 j : Nat} (h : (plS rs pv wd w0 j).1 < lsN (rs j) (pv j) (wd j)) : plS rs pv wd w0 (j + 1) = (lsN (rs j) (pv j) (wd j), rs j, pv j, wd j) := if_pos h
theorem pl_f {rs pv wd : Nat → Nat} {w0 j : Nat} (h : ¬ (plS rs pv wd w0 j).1 < lsN (rs j) (pv j) (wd j)) : plS rs pv wd w0 (j + 1) = plS rs pv wd w0 j := if_neg h
theorem pl_1 (rs pv wd : Nat → Nat) (w0 w1 : Nat) : ∀ n, (plS rs pv wd w0 n).1 = (plS rs pv wd w1 n).1 ∧ (0 < (plS rs pv wd w0 n).1 → plS rs pv wd w0 n = plS rs pv wd w1 n)
  | 0 => ⟨rfl, fun h => absurd h (by show ¬ 0 < 0; omega)⟩
  | j + 1 => by
    have ih := pl_1 rs pv wd w0 w1 j
    by_cases g : (plS rs pv wd w0 j).1 < lsN (rs j) (pv j) (wd j)
    · rw [pl_t g, pl_t (ih.1 ▸ g)]; exact ⟨rfl, fun _ => rfl⟩
    · rw [pl_f g, pl_f (ih.1 ▸ g)]; exact ih
theorem pl_ok {rs pv wd : Nat → Nat} {w0 n : Nat} (h0 : w0 ≤ 2000000) (h : ∀ j, j < n → mB (rs j) (pv j) ∧ wd j ≤ 2000000) : (plS rs pv wd w0 n).1 ≤ 2000000 ∧ mB (plS rs pv wd w0 n).2.1 (plS rs pv wd w0 n).2.2.1 ∧ (plS rs pv wd w0 n).2.2.2 ≤ 2000000 ∧ (0 < (plS rs pv wd w0 n).1 → 0 < (plS rs pv wd w0 n).2.2.2) := by
  induction n with
  | zero => exact ⟨by show 0 ≤ 2000000; omega, (show mB 1 1 from ⟨by decide, by decide, by decide, by decide⟩), h0, fun q => absurd q (by show ¬ 0 < 0; omega)⟩
  | succ j ih =>
    have ih := ih (fun i hi => h i (by omega))
    have hj := h j (by omega)
    have hl := ls_le (rs j) (pv j) (wd j)
    by_cases g : (plS rs pv wd w0 j).1 < lsN (rs j) (pv j) (wd j)
    · rw [pl_t g]
      exact ⟨Nat.le_trans hl hj.2, hj.1, hj.2, fun q => by show 0 < wd j; omega⟩
    · rw [pl_f g]; exact ih
/-- a share of a pace; a way -/
def pvN (p : Nat → Nat) (sh j : Nat) : Nat := max 1 (p j * sh / 100)
def wdN (st go : Nat → Int32) (j : Nat) : Nat := ((go j).toInt - (st j).toInt).natAbs
theorem pv_ok {p : Nat → Nat} {sh j : Nat} (h : p j ≤ 100000) (h2 : sh ≤ 100) : 0 < pvN p sh j ∧ pvN p sh j ≤ 100000 := by
  have h3 : p j * sh ≤ 100000 * 100 := Nat.mul_le_mul h h2
  unfold pvN
  omega
theorem pv_mul {p sh : Nat} (h : p ≤ 100000) (h2 : sh ≤ 100) : p * sh ≤ 10000000 := Nat.le_trans (Nat.mul_le_mul h h2) (by omega)
theorem pv_i {p sh : Nat} (h : p ≤ 100000) (h2 : sh ≤ 100) : nI p * nI sh / 100 = nI (p * sh / 100) := by
  have h3 := pv_mul h h2
  rw [pk_mul p sh]
  exact pk_div (d := 100) (by omega) (by omega) (by omega)
theorem pv_l {p sh : Nat} (h : p ≤ 100000) (h2 : sh ≤ 100) : lN p * lN sh / 100 = lN (p * sh / 100) := by
  have h3 := pv_mul h h2
  rw [lN_mul]
  exact pk_lDiv (b := 100) (by omega) (by omega) (by omega)
theorem i_max1 {n : Nat} (h : n < 2147483648) : (if (1 : Int32) < nI n then nI n else 1) = nI (max 1 n) := by
  rw [show (1 : Int32) = nI 1 from rfl]
  rcases Nat.lt_or_ge 1 n with g | g
  · rw [if_pos (nI_lt (a := 1) g (by omega)), Nat.max_eq_right (by omega)]
  · rw [if_neg (fun q => absurd ((nI_ltI (a := 1) (by omega) (by omega)).mp q) (by omega)), Nat.max_eq_left (by omega)]
theorem i_abs {x : Int32} (h : x.toInt.natAbs < 2147483648) : (if 0 ≤ x then x else 0 - x) = nI x.toInt.natAbs := by
  have e0 : (0 : Int32).toInt = 0 := rfl
  refine i32x ?_
  rw [nIT h]
  split
  · next g => rw [i32le, e0] at g; omega
  · next g =>
    rw [i32le, e0] at g
    rw [i_sub (by rw [e0]; omega) (by rw [e0]; omega), e0]; omega
theorem up2_f {α : Type} {f : Nat → Nat → α} {a k p : Nat} {v : α} (h : p ≠ a) : up2 f a k v p = f p := funext fun _ => up2_a h
/-- the class's motion t while it is aimed -/
def AimI (w : Wd) (t : Nat) (st go : Nat → Int32) (q : Nat × Nat × Nat × Nat) (i : Nat) (I : Nat → Nat → Int32) : Prop := (∀ p, p ≠ t → p ≠ t + 1 → p ≠ t + 2 → I p = wI w p) ∧ (∀ j, j < i → I (t + 1) j = st j ∧ I (t + 2) j = go j - st j) ∧ I t 2 = nI q.1 ∧ I t 3 = nI q.2.2.2 ∧ I t 4 = nI q.2.2.1 ∧ I t 5 = nI q.2.1
theorem aim_1 {w : Wd} {t : Nat} {st go : Nat → Int32} {q : Nat × Nat × Nat × Nat} {i : Nat} {I : Nat → Nat → Int32} (h : AimI w t st go q i I) : AimI w t st go q (i + 1) (up2 (up2 I (t + 1) i (st i)) (t + 2) i (go i - st i)) := by
  obtain ⟨h1, h2, h3, h4, h5, h6⟩ := h
  refine ⟨fun p p1 p2 p3 => by rw [up2_f p3, up2_f p2]; exact h1 p p1 p2 p3, fun j hj => ?_, ?_, ?_, ?_, ?_⟩
  · by_cases e : j = i
    · subst e
      exact ⟨by rw [up2_a (by omega), up2_s], by rw [up2_s]⟩
    · rw [up2_a (show t + 1 ≠ t + 2 by omega), up2_k e, up2_k e, up2_a (show t + 2 ≠ t + 1 by omega)]
      exact h2 j (by omega)
  all_goals rw [up2_a (by omega), up2_a (by omega)]; assumption
theorem aim_2 {w : Wd} {t : Nat} {st go : Nat → Int32} {q : Nat × Nat × Nat × Nat} {i : Nat} {I : Nat → Nat → Int32} (n r v wy : Nat) (h : AimI w t st go q i I) : AimI w t st go (n, r, v, wy) i (up2 (up2 (up2 (up2 I t 2 (nI n)) t 3 (nI wy)) t 4 (nI v)) t 5 (nI r)) := by
  obtain ⟨h1, h2, h3, h4, h5, h6⟩ := h
  refine ⟨fun p p1 p2 p3 => by rw [up2_f p1, up2_f p1, up2_f p1, up2_f p1]; exact h1 p p1 p2 p3, fun j hj => ?_, ?_, ?_, ?_, ?_⟩
  · rw [up2_a (by omega), up2_a (by omega), up2_a (by omega), up2_a (by omega), up2_a (by omega), up2_a (by omega), up2_a (by omega), up2_a (by omega)]
    exact h2 j hj
  · rw [up2_k (by omega), up2_k (by omega), up2_k (by omega), up2_s]
  · rw [up2_k (by omega), up2_k (by omega), up2_s]
  · rw [up2_k (by omega), up2_s]
  · rw [up2_s]
theorem aim_0 {w : Wd} {t : Nat} {st go : Nat → Int32} : AimI w t st go (0, 1, 1, 0) 0 (up2 (up2 (up2 (up2 (wI w) t 2 0) t 3 0) t 4 1) t 5 1) := by
  refine ⟨fun p p1 p2 p3 => by rw [up2_f p1, up2_f p1, up2_f p1, up2_f p1], fun j hj => absurd hj (by omega), ?_, ?_, ?_, ?_⟩
  · rw [up2_k (by omega), up2_k (by omega), up2_k (by omega), up2_s]; rfl
  · rw [up2_k (by omega), up2_k (by omega), up2_s]; rfl
  · rw [up2_k (by omega), up2_s]; rfl
  · rw [up2_s]; rfl
-- the way to a pose
set_option maxRecDepth 100000 in
set_option maxHeartbeats 4000000 in
theorem ct_X4_aim (l : Launch) (E : EE) (w : Wd) (t ja sa ga sh : Nat) (jo : Nat → Nat) (P R : Nat → Nat) (st go : Nat → Int32) (hlo : E.2.2 ≤ wN w) (hT : LayT w t) (hJ : wK w ja = some (.inr (4, 4))) (hS : wK w sa = some (.inr (0, 4))) (hG : wK w ga = some (.inr (0, 4))) (nsa : sa ≠ t ∧ sa ≠ t + 1 ∧ sa ≠ t + 2) (nga : ga ≠ t ∧ ga ≠ t + 1 ∧ ga ≠ t + 2) (hjr : ∀ j, j < 4 → wR w ja j = some (jo j) ∧ wK w (jo j) = some (.inl 2) ∧ jo j ≠ t ∧ jo j ≠ t + 1 ∧ jo j ≠ t + 2) (hP : ∀ j, j < 4 → wI w (jo j) 4 = nI (P j) ∧ 0 < P j ∧ P j ≤ 100000) (hR : ∀ j, j < 4 → wI w (jo j) 5 = nI (R j) ∧ 0 < R j ∧ R j ≤ 100000) (hst : ∀ j, j < 4 → wI w sa j = st j ∧ (st j).toInt.natAbs ≤ 1000000) (hgo : ∀ j, j < 4 → wI w ga j = go j ∧ (go j).toInt.natAbs ≤ 1000000) (hsh : sh ≤ 100) : Ct l E yX4_aim cX4_aim 9 none ({ frames := 2, cells := 0, slots := 0, locals := 50 } : Room) [.ref t, .ref ja, .ref sa, .ref ga, .int (nI sh)] w 0 0 (fun r w2 => r = none ∧ ∃ I, w2 = dW w I (wJ w) (wD w) ∧ AimI w t st go (plS R (pvN P sh) (wdN st go) 0 4) 4 I) := by
  refine ct_in (il := il_X4_aim) (by decide) dk_X4_aim (Nat.le_of_ble_eq_true rfl) hlo ?_
  intro X h hq

  have key : ∀ (d i : Nat) (I : Nat → Nat → Int32), i + d = 4 → AimI w t st go (plS R (pvN P sh) (wdN st go) 0 i) i I → G X 0 0 23 (lf [(0, .ref t), (1, .ref ja), (2, .ref sa), (3, .ref ga), (4, .int (nI sh)), (5, .int (nI i))]) [] (dW w I (wJ w) (wD w)) := by
    intro d
    induction d with
    | zero =>
      intro i I hi hI
      have hi4 : i = 4 := by omega
      subst hi4
      refine g_iload h (i := 14) rfl rfl ?_
      refine g_iconst h (i := 15) rfl (v := 4) (by rfl) ?_
      refine g_icmp_ge h (i := 16) 147 rfl rfl (fun c_26 => ?_) (fun c_26 => absurd (by decide : (4 : Int32) ≤ nI 4) c_26)
      exact g_vret hq h (i := 81) rfl (⟨rfl, I, rfl, hI⟩)
    | succ d ih =>
      intro i I hid hI
      have hi : i < 4 := by omega
      have hcl : (nI i).toNatClampNeg = i := nI_clamp (by omega)
      have hvp : vp_in (nI i) 4 := vp_in_nI hi (by omega)
      have hnge : ¬ (4 : Int32) ≤ nI i := nI_ge (b := 4) hi (by omega)
      obtain ⟨j1, j2, j3, j4, j5⟩ := hjr i hi
      obtain ⟨p1, p2, p3⟩ := hP i hi
      obtain ⟨r1, r2, r3⟩ := hR i hi
      obtain ⟨s1, s2⟩ := hst i hi
      obtain ⟨g1, g2⟩ := hgo i hi
      have fr := hI.1
      have esub : (go i - st i).toInt = (go i).toInt - (st i).toInt := i_sub (by omega) (by omega)
      have eabs : (if 0 ≤ go i - st i then go i - st i else 0 - (go i - st i)) = nI (wdN st go i) := by
        rw [i_abs (by rw [esub]; omega), esub]; rfl
      have hw2 : wdN st go i ≤ 2000000 := by unfold wdN; omega
      have hpv := pv_ok (p := P) (j := i) p3 hsh
      have epv : nI (P i) * nI sh / 100 = nI (P i * sh / 100) := pv_i p3 hsh
      have hpm := pv_mul p3 hsh
      have emx : (if (1 : Int32) < nI (P i * sh / 100) then nI (P i * sh / 100) else 1) = nI (pvN P sh i) := i_max1 (by omega)
      have hb : mB (R i) (pvN P sh i) := ⟨r2, r3, hpv.1, hpv.2⟩
      have hls := ls_le (R i) (pvN P sh i) (wdN st go i)
      have hpl := (pl_ok (rs := R) (pv := pvN P sh) (wd := wdN st go) (w0 := 0) (n := i) (by omega) (fun j hj => ⟨⟨(hR j (by omega)).2.1, (hR j (by omega)).2.2, pv_ok (hP j (by omega)).2.2 hsh⟩, by have := (hst j (by omega)).2; have := (hgo j (by omega)).2; unfold wdN; omega⟩)).1
      have hI1 := aim_1 hI
      obtain ⟨I1, hI1e⟩ : ∃ I1, I1 = up2 (up2 I (t + 1) i (st i)) (t + 2) i (go i - st i) := ⟨_, rfl⟩
      rw [← hI1e] at hI1
      have fr1 := hI1.1
      obtain ⟨m1, m2, m3, m4, m5⟩ := hI1.2
      have ih2 := ih (i + 1)
      refine g_iload h (i := 14) rfl rfl ?_
      refine g_iconst h (i := 15) rfl (v := 4) (by rfl) ?_
      refine g_icmp_ge h (i := 16) 147 rfl rfl (fun c_26 => absurd c_26 hnge) (fun c_26 => ?_)
      refine g_aload_n h (i := 17) rfl rfl ?_
      refine g_getR h (i := 18) rfl fl_X4_9 (fun _ _ _ => rfl) hT.1 (lt_from hT) ?_
      refine g_iload h (i := 19) rfl rfl ?_
      refine g_aload_n h (i := 20) rfl rfl ?_
      refine g_iload h (i := 21) rfl rfl ?_
      refine g_iald h (i := 22) rfl hS (hvp) ?_
      refine g_eqi (st i) (by rw [hcl]; exact (congrFun (fr sa nsa.1 nsa.2.1 nsa.2.2) i).trans s1) ?_
      refine g_iast h (i := 23) rfl (lu_from hT) (hvp) ?_
      refine g_w (dW w (up2 I (t + 1) i (st i)) (wJ w) (wD w)) (by rw [hcl]; rfl) ?_
      refine g_aload_n h (i := 24) rfl rfl ?_
      refine g_getR h (i := 25) rfl fl_X4_15 (fun _ _ _ => rfl) hT.1 (lt_by hT) ?_
      refine g_iload h (i := 26) rfl rfl ?_
      refine g_aload_n h (i := 27) rfl rfl ?_
      refine g_iload h (i := 28) rfl rfl ?_
      refine g_iald h (i := 29) rfl hG (hvp) ?_
      refine g_eqi (go i) (by rw [hcl]; exact (up2_a nga.2.1).trans ((congrFun (fr ga nga.1 nga.2.1 nga.2.2) i).trans g1)) ?_
      refine g_aload_n h (i := 30) rfl rfl ?_
      refine g_iload h (i := 31) rfl rfl ?_
      refine g_iald h (i := 32) rfl hS (hvp) ?_
      refine g_eqi (st i) (by rw [hcl]; exact (up2_a nsa.2.1).trans ((congrFun (fr sa nsa.1 nsa.2.1 nsa.2.2) i).trans s1)) ?_
      refine g_isub h (i := 33) rfl ?_
      refine g_iast h (i := 34) rfl (lu_by hT) (hvp) ?_
      refine g_w (dW w I1 (wJ w) (wD w)) (by rw [hI1e, hcl]; rfl) ?_
      refine g_aload_n h (i := 35) rfl rfl ?_
      refine g_getR h (i := 36) rfl fl_X4_15 (fun _ _ _ => rfl) hT.1 (lt_by hT) ?_
      refine g_iload h (i := 37) rfl rfl ?_
      refine g_iald h (i := 38) rfl (lu_by hT) (hvp) ?_
      refine g_eqi (go i - st i) (by rw [hcl]; exact (m1 i (by omega)).2) ?_
      refine g_mabs (w0 := w) h hq (i := 39) rfl ml_X4_31 ⟨rfl, Nat.le_of_ble_eq_true rfl, Nat.zero_le _, Nat.zero_le _⟩ ?_
      refine g_eqi (nI (wdN st go i)) eabs ?_
      refine g_istore h (i := 40) rfl hq rfl ?_
      refine g_iconst h (i := 41) rfl (v := 1) (by rfl) ?_
      refine g_aload_n h (i := 42) rfl rfl ?_
      refine g_iload h (i := 43) rfl rfl ?_
      refine g_aald h (i := 44) rfl (by decide) hJ (hvp) (by rw [hcl]; exact j1) ?_
      refine g_getI h (i := 45) rfl fl_X4_37 (fun _ _ _ => rfl) (hjr i hi).2.1 ?_
      refine g_eqi (nI (P i)) ((congrFun (fr1 (jo i) j3 j4 j5) 4).trans p1) ?_
      refine g_iload h (i := 46) rfl rfl ?_
      refine g_imul h (i := 47) rfl ?_
      refine g_bipush h (i := 48) rfl (v := 100) (by rfl) ?_
      refine g_idiv h (i := 49) rfl (by decide) ?_
      refine g_eqi (nI (P i * sh / 100)) epv ?_
      refine g_mmax (w0 := w) h hq (i := 50) rfl ml_X4_40 ⟨rfl, Nat.le_of_ble_eq_true rfl, Nat.zero_le _, Nat.zero_le _⟩ ?_
      refine g_eqi (nI (pvN P sh i)) emx ?_
      refine g_istore h (i := 51) rfl hq rfl ?_
      refine g_iload h (i := 52) rfl rfl ?_
      refine g_iload h (i := 53) rfl rfl ?_
      refine g_aload_n h (i := 54) rfl rfl ?_
      refine g_iload h (i := 55) rfl rfl ?_
      refine g_aald h (i := 56) rfl (by decide) hJ (hvp) (by rw [hcl]; exact j1) ?_
      refine g_getI h (i := 57) rfl fl_X4_44 (fun _ _ _ => rfl) (hjr i hi).2.1 ?_
      refine g_eqi (nI (R i)) ((congrFun (fr1 (jo i) j3 j4 j5) 5).trans r1) ?_
      refine g_callSx h hq (i := 58) rfl ms_X4_45 (ct_X4_leastTicks l E _ (wdN st go i) (pvN P sh i) (R i) hlo hb (by omega)) rfl rfl ⟨rfl, rfl, Nat.le_of_ble_eq_true rfl, Nat.le_of_ble_eq_true rfl⟩ (Nat.le_of_ble_eq_true rfl) ⟨Nat.zero_le _, Nat.zero_le _⟩ ?_
      refine g_istore h (i := 59) rfl hq rfl ?_
      refine g_iload h (i := 60) rfl rfl ?_
      refine g_aload_n h (i := 61) rfl rfl ?_
      refine g_getI h (i := 62) rfl fl_X4_18 (fun _ _ _ => rfl) hT.1 ?_
      refine g_eqi (nI (plS R (pvN P sh) (wdN st go) 0 i).1) m2 ?_
      refine g_icmp_le h (i := 63) 141 rfl rfl (fun c_109 => ?_) (fun c_109 => ?_)
      · skip
        refine g_iinc h (i := 79) rfl rfl (dv := 1) (by rfl) ?_
        refine g_goto h (i := 80) 23 rfl rfl ?_
        exact g_lv [(0, .ref t), (1, .ref ja), (2, .ref sa), (3, .ref ga), (4, .int (nI sh)), (5, .int (nI (i + 1)))] ⟨rfl, rfl, rfl, rfl, rfl, congrArg (fun z => some (Value.int z)) (nI_1 i), trivial⟩ (ih2 _ (by omega) (by rw [pl_f (by intro q; exact absurd ((nI_ltI (by omega) (by omega)).mpr q) (i32nlt.mpr c_109))]; exact hI1))
      · skip
        refine g_aload_n h (i := 64) rfl rfl ?_
        refine g_iload h (i := 65) rfl rfl ?_
        refine g_putI_0 h (i := 66) rfl fl_X4_18 nf_4_2 (fun _ _ _ => rfl) hT.1 (rfl) (by rfl) ?_
        refine g_aload_n h (i := 67) rfl rfl ?_
        refine g_iload h (i := 68) rfl rfl ?_
        refine g_putI_0 h (i := 69) rfl fl_X4_22 nf_4_3 (fun _ _ _ => rfl) hT.1 (rfl) (by rfl) ?_
        refine g_aload_n h (i := 70) rfl rfl ?_
        refine g_iload h (i := 71) rfl rfl ?_
        refine g_putI_0 h (i := 72) rfl fl_X4_25 nf_4_4 (fun _ _ _ => rfl) hT.1 (rfl) (by rfl) ?_
        refine g_aload_n h (i := 73) rfl rfl ?_
        refine g_aload_n h (i := 74) rfl rfl ?_
        refine g_iload h (i := 75) rfl rfl ?_
        refine g_aald h (i := 76) rfl (by decide) hJ (hvp) (by rw [hcl]; exact j1) ?_
        refine g_getI h (i := 77) rfl fl_X4_44 (fun _ _ _ => rfl) (hjr i hi).2.1 ?_
        refine g_eqi (nI (R i)) (show up2 (up2 (up2 I1 t 2 _) t 3 _) t 4 _ (jo i) 5 = nI (R i) by rw [up2_a j3, up2_a j3, up2_a j3]; exact (congrFun (fr1 (jo i) j3 j4 j5) 5).trans r1) ?_
        refine g_putI_0 h (i := 78) rfl fl_X4_28 nf_4_5 (fun _ _ _ => rfl) hT.1 (rfl) (by rfl) ?_
        refine g_iinc h (i := 79) rfl rfl (dv := 1) (by rfl) ?_
        refine g_goto h (i := 80) 23 rfl rfl ?_
        exact g_lv [(0, .ref t), (1, .ref ja), (2, .ref sa), (3, .ref ga), (4, .int (nI sh)), (5, .int (nI (i + 1)))] ⟨rfl, rfl, rfl, rfl, rfl, congrArg (fun z => some (Value.int z)) (nI_1 i), trivial⟩ (ih2 _ (by omega) (by rw [pl_t ((nI_ltI (by omega) (by omega)).mp (i32nl.mp c_109))]; exact aim_2 _ _ _ _ hI1))
  refine g_aload_n h (i := 0) rfl rfl ?_
  refine g_iconst h (i := 1) rfl (v := 0) (by rfl) ?_
  refine g_putI_0 h (i := 2) rfl fl_X4_18 nf_4_2 (fun _ _ _ => rfl) hT.1 (rfl) (by rfl) ?_
  refine g_aload_n h (i := 3) rfl rfl ?_
  refine g_iconst h (i := 4) rfl (v := 0) (by rfl) ?_
  refine g_putI_0 h (i := 5) rfl fl_X4_22 nf_4_3 (fun _ _ _ => rfl) hT.1 (rfl) (by rfl) ?_
  refine g_aload_n h (i := 6) rfl rfl ?_
  refine g_iconst h (i := 7) rfl (v := 1) (by rfl) ?_
  refine g_putI_0 h (i := 8) rfl fl_X4_25 nf_4_4 (fun _ _ _ => rfl) hT.1 (rfl) (by rfl) ?_
  refine g_aload_n h (i := 9) rfl rfl ?_
  refine g_iconst h (i := 10) rfl (v := 1) (by rfl) ?_
  refine g_putI_0 h (i := 11) rfl fl_X4_28 nf_4_5 (fun _ _ _ => rfl) hT.1 (rfl) (by rfl) ?_
  refine g_iconst h (i := 12) rfl (v := 0) (by rfl) ?_
  refine g_istore h (i := 13) rfl hq rfl ?_
  exact g_lv [(0, .ref t), (1, .ref ja), (2, .ref sa), (3, .ref ga), (4, .int (nI sh)), (5, .int (nI 0))] ⟨rfl, rfl, rfl, rfl, rfl, rfl, trivial⟩ (key 4 0 _ (by omega) aim_0)
theorem i64nl {x y : Int64} : ¬ x ≤ y ↔ y < x := by rw [i64le, i64lt]; omega
theorem i64nlt {x y : Int64} : ¬ x < y ↔ y ≤ x := by rw [i64le, i64lt]; omega
theorem sRow_cj {w : Wd} {a x k : Nat} {r : Nat → Int64} {v : Int64} (h : x ≠ a + 1) : sJ (sRow w a r) x k v = sRow (sJ w x k v) a r := by
  have e : up2 (ua (wJ w) (a + 1) r) x k v = ua (up2 (wJ w) x k v) (a + 1) r := by
    funext p q
    by_cases h1 : p = a + 1
    · subst h1; rw [up2_a (fun z => h z.symm), ua_s, ua_s]
    · rw [ua_a h1]
      by_cases h2 : p = x ∧ q = k
      · rw [h2.1, h2.2, up2_s, up2_s]
      · rw [show up2 (ua (wJ w) (a + 1) r) x k v p q = ua (wJ w) (a + 1) r p q from if_neg h2, ua_a h1, show up2 (wJ w) x k v p q = wJ w p q from if_neg h2]
  show dW w (wI w) (up2 (ua (wJ w) (a + 1) r) x k v) (wD w) = dW w (wI w) (ua (up2 (wJ w) x k v) (a + 1) r) (wD w)
  rw [e]
theorem sRow_o {w : Wd} {a x k : Nat} {r : Nat → Int64} (h : x ≠ a + 1) : wJ (sRow w a r) x k = wJ w x k := congrFun (ua_a h) k
/-- the reference's plan while it is made -/
def PlI (w : Wd) (a : Nat) (r : Nat → Int64) (go : Nat → Int32) (q : Nat × Nat × Nat × Nat) (i : Nat) (J : Nat → Nat → Int64) : Prop := (∀ p, p ≠ a → p ≠ a + 19 → p ≠ a + 20 → J p = wJ w p) ∧ (∀ j, j < i → J (a + 19) j = r j ∧ J (a + 20) j = (go j).toInt64) ∧ J a 24 = lN q.1 ∧ J a 27 = lN q.2.2.2 ∧ J a 26 = lN q.2.2.1 ∧ J a 25 = lN q.2.1
theorem pli_1 {w : Wd} {a : Nat} {r : Nat → Int64} {go : Nat → Int32} {q : Nat × Nat × Nat × Nat} {i : Nat} {J : Nat → Nat → Int64} (h : PlI w a r go q i J) : PlI w a r go q (i + 1) (up2 (up2 J (a + 19) i (r i)) (a + 20) i (go i).toInt64) := by
  obtain ⟨h1, h2, h3, h4, h5, h6⟩ := h
  refine ⟨fun p p1 p2 p3 => by rw [up2_f p3, up2_f p2]; exact h1 p p1 p2 p3, fun j hj => ?_, ?_, ?_, ?_, ?_⟩
  · by_cases e : j = i
    · subst e
      exact ⟨by rw [up2_a (by omega), up2_s], by rw [up2_s]⟩
    · rw [up2_a (show a + 19 ≠ a + 20 by omega), up2_k e, up2_k e, up2_a (show a + 20 ≠ a + 19 by omega)]
      exact h2 j (by omega)
  all_goals rw [up2_a (by omega), up2_a (by omega)]; assumption
theorem pli_2 {w : Wd} {a : Nat} {r : Nat → Int64} {go : Nat → Int32} {q : Nat × Nat × Nat × Nat} {i : Nat} {J : Nat → Nat → Int64} (n rr v wy : Nat) (h : PlI w a r go q i J) : PlI w a r go (n, rr, v, wy) i (up2 (up2 (up2 (up2 J a 24 (lN n)) a 25 (lN rr)) a 26 (lN v)) a 27 (lN wy)) := by
  obtain ⟨h1, h2, h3, h4, h5, h6⟩ := h
  refine ⟨fun p p1 p2 p3 => by rw [up2_f p1, up2_f p1, up2_f p1, up2_f p1]; exact h1 p p1 p2 p3, fun j hj => ?_, ?_, ?_, ?_, ?_⟩
  · rw [up2_a (by omega), up2_a (by omega), up2_a (by omega), up2_a (by omega), up2_a (by omega), up2_a (by omega), up2_a (by omega), up2_a (by omega)]
    exact h2 j hj
  · rw [up2_k (by omega), up2_k (by omega), up2_k (by omega), up2_s]
  · rw [up2_s]
  · rw [up2_k (by omega), up2_s]
  · rw [up2_k (by omega), up2_k (by omega), up2_s]
theorem pli_0 {w : Wd} {a : Nat} {r : Nat → Int64} {go : Nat → Int32} : PlI w a r go (0, 1, 1, 1) 0 (up2 (up2 (up2 (up2 (wJ w) a 24 0) a 25 1) a 26 1) a 27 1) := by
  refine ⟨fun p p1 p2 p3 => by rw [up2_f p1, up2_f p1, up2_f p1, up2_f p1], fun j hj => absurd hj (by omega), ?_, ?_, ?_, ?_⟩
  · rw [up2_k (by omega), up2_k (by omega), up2_k (by omega), up2_s]; rfl
  · rw [up2_s]; rfl
  · rw [up2_k (by omega), up2_s]; rfl
  · rw [up2_k (by omega), up2_k (by omega), up2_s]; rfl
theorem l_abs {x : Int64} (h : x.toInt.natAbs < 2147483648) : (if x < 0 then -x else x) = lN x.toInt.natAbs := by
  have e0 : (0 : Int64).toInt = 0 := rfl
  refine i64x ?_
  rw [lNT (by omega)]
  split
  · next g =>
    rw [i64lt, e0] at g
    rw [l_neg (by omega)]; omega
  · next g => rw [i64lt, e0] at g; omega
-- the way to a pose
set_option maxRecDepth 100000 in
set_option maxHeartbeats 4000000 in
theorem ct_X10_plans (l : Launch) (E : EE) (w : Wd) (a k sh : Nat) (r : Nat → Int64) (P R : Nat → Nat) (st go : Nat → Int32) (hlo : E.2.2 ≤ wN (sRow w a r)) (hL : LayR w a) (hk : k < 16) (hP : ∀ j, j < 4 → wI w (a + 7) j = nI (P j) ∧ 0 < P j ∧ P j ≤ 100000) (hR : ∀ j, j < 4 → wI w (a + 8) j = nI (R j) ∧ 0 < R j ∧ R j ≤ 100000) (hst : ∀ j, j < 4 → r j = (st j).toInt64 ∧ (st j).toInt.natAbs ≤ 1000000) (hgo : ∀ j, j < 4 → wI w (a + 12) (4 * k + j) = go j ∧ (go j).toInt.natAbs ≤ 1000000) (hsh : sh ≤ 100) : Ct l E yX10_plans cX10_plans 10 none ({ frames := 3, cells := 0, slots := 0, locals := 87 } : Room) [.ref a, .int (nI k), .int (nI sh)] (sRow w a r) 0 0 (fun q w2 => q = none ∧ ∃ J, w2 = sRow (dW w (wI w) J (wD w)) a r ∧ PlI w a r go (plS R (pvN P sh) (wdN st go) 1 4) 4 J) := by
  refine ct_in (il := il_X10_plans) (by decide) dk_X10_plans (Nat.le_of_ble_eq_true rfl) hlo ?_
  intro X h hq

  have key : ∀ (d i : Nat) (J : Nat → Nat → Int64), i + d = 4 → PlI w a r go (plS R (pvN P sh) (wdN st go) 1 i) i J → G X 0 0 22 (lf [(0, .ref a), (1, .int (nI k)), (2, .int (nI sh)), (3, .int (nI i))]) [] (sRow (dW w (wI w) J (wD w)) a r) := by
    intro d
    induction d with
    | zero =>
      intro i J hi hJ
      have hi4 : i = 4 := by omega
      subst hi4
      refine g_iload_n h (i := 14) rfl rfl ?_
      refine g_iconst h (i := 15) rfl (v := 4) (by rfl) ?_
      refine g_icmp_ge h (i := 16) 182 rfl rfl (fun c_24 => ?_) (fun c_24 => absurd (by decide : (4 : Int32) ≤ nI 4) c_24)
      exact g_vret hq h (i := 110) rfl (⟨rfl, J, rfl, hJ⟩)
    | succ d ih =>
      intro i J hid hJ
      have hi : i < 4 := by omega
      have hcl : (nI i).toNatClampNeg = i := nI_clamp (by omega)
      have hvp : vp_in (nI i) 4 := vp_in_nI hi (by omega)
      have hnge : ¬ (4 : Int32) ≤ nI i := nI_ge (b := 4) hi (by omega)
      obtain ⟨p1, p2, p3⟩ := hP i hi
      obtain ⟨r1, r2, r3⟩ := hR i hi
      obtain ⟨s1, s2⟩ := hst i hi
      obtain ⟨g1, g2⟩ := hgo i hi
      have esub : ((go i).toInt64 - r i).toInt = (go i).toInt - (st i).toInt := by rw [s1, l_sub (by rw [i_l, i_l]; omega) (by rw [i_l, i_l]; omega), i_l, i_l]
      have eabs : (if (go i).toInt64 - r i < 0 then -((go i).toInt64 - r i) else (go i).toInt64 - r i) = lN (wdN st go i) := by
        rw [l_abs (by rw [esub]; omega), esub]; rfl
      have hw2 : wdN st go i ≤ 2000000 := by unfold wdN; omega
      have hpv := pv_ok (p := P) (j := i) p3 hsh
      have hpm := pv_mul p3 hsh
      have epv : lN (P i) * lN sh / 100 = lN (P i * sh / 100) := pv_l p3 hsh
      have e3 : (nI (R i)).toInt64 = lN (R i) := nI_l (by omega)
      have e4 : (nI (P i)).toInt64 = lN (P i) := nI_l (by omega)
      have e5 : (nI sh).toInt64 = lN sh := nI_l (by omega)
      have hb : mB (R i) (pvN P sh i) := ⟨r2, r3, hpv.1, hpv.2⟩
      have hls := ls_le (R i) (pvN P sh i) (wdN st go i)
      have hpl := (pl_ok (rs := R) (pv := pvN P sh) (wd := wdN st go) (w0 := 1) (n := i) (by omega) (fun j hj => ⟨⟨(hR j (by omega)).2.1, (hR j (by omega)).2.2, pv_ok (hP j (by omega)).2.2 hsh⟩, by have := (hst j (by omega)).2; have := (hgo j (by omega)).2; unfold wdN; omega⟩)).1
      have hJ1 := pli_1 hJ
      obtain ⟨J1, hJ1e⟩ : ∃ J1, J1 = up2 (up2 J (a + 19) i (r i)) (a + 20) i (go i).toInt64 := ⟨_, rfl⟩
      rw [← hJ1e] at hJ1
      obtain ⟨m1, m2, m3, m4, m5⟩ := hJ1.2
      have ih2 := ih (i + 1)
      have hxk : (4 : Int32) * nI k + nI i = nI (4 * k + i) := by rw [nI_mul4]; exact nI_add (4 * k) i
      have k88 : G X 0 0 88 (lf [(0, .ref a), (1, .int (nI k)), (2, .int (nI sh)), (3, .int (nI i))]) [.long (lN (wdN st go i))] (sRow (dW w (wI w) J1 (wD w)) a r) := by
        have k119 : G X 0 0 119 (lf [(0, .ref a), (1, .int (nI k)), (2, .int (nI sh)), (3, .int (nI i)), (4, .long (lN (wdN st go i)))]) [.long (lN (pvN P sh i))] (sRow (dW w (wI w) J1 (wD w)) a r) := by
          refine g_lstore h (i := 77) rfl hq rfl ?_
          refine g_aload_n h (i := 78) rfl rfl ?_
          refine g_getR h (i := 79) rfl fl_X10_35 (fun _ _ _ => rfl) (lk_R hL) (lr_rise hL) ?_
          refine g_iload_n h (i := 80) rfl rfl ?_
          refine g_iald h (i := 81) rfl (lq_rise hL) (hvp) ?_
          refine g_eqi (wI w (a + 8) _) rfl ?_
          refine g_eqi (nI (R i)) (by rw [hcl]; exact r1) ?_
          refine g_i2l h (i := 82) rfl ?_
          refine g_eql (lN (R i)) e3 ?_
          refine g_lload h (i := 83) rfl rfl ?_
          refine g_lload h (i := 84) rfl rfl ?_
          refine g_callSx h hq (i := 85) rfl ms_X10_193 (ct_X10_ticksFor l E _ (R i) (pvN P sh i) (wdN st go i) hlo hb (by omega)) rfl rfl ⟨rfl, rfl, Nat.le_of_ble_eq_true rfl, Nat.le_of_ble_eq_true rfl⟩ (Nat.le_of_ble_eq_true rfl) ⟨Nat.zero_le _, Nat.zero_le _⟩ ?_
          refine g_lstore h (i := 86) rfl hq rfl ?_
          refine g_lload h (i := 87) rfl rfl ?_
          refine g_aload_n h (i := 88) rfl rfl ?_
          refine g_getJ h (i := 89) rfl fl_X10_178 (fun _ _ _ => rfl) (lk_R hL) ?_
          refine g_eql (lN (plS R (pvN P sh) (wdN st go) 1 i).1) ((sRow_o (by omega)).trans m2) ?_
          refine g_lcmp h (i := 90) rfl ?_
          refine g_if_le h (i := 91) 176 rfl rfl (fun c_144 => ?_) (fun c_144 => ?_)
          · skip
            refine g_iinc h (i := 108) rfl rfl (dv := 1) (by rfl) ?_
            refine g_goto h (i := 109) 22 rfl rfl ?_
            exact g_lv [(0, .ref a), (1, .int (nI k)), (2, .int (nI sh)), (3, .int (nI (i + 1)))] ⟨rfl, rfl, rfl, congrArg (fun z => some (Value.int z)) (nI_1 i), trivial⟩ (ih2 _ (by omega) (by rw [pl_f (by intro q; exact absurd ((pk_lLE (by omega) (by omega)).mp ((lg_cmp_le _ _).mp c_144)) (by omega))]; exact hJ1))
          · skip
            refine g_aload_n h (i := 92) rfl rfl ?_
            refine g_lload h (i := 93) rfl rfl ?_
            refine g_putJ_0 h (i := 94) rfl fl_X10_178 nf_10_24 (fun _ _ _ => rfl) (lk_R hL) (rfl) (by rfl) ?_
            refine g_w _ (sRow_cj (by omega)) ?_
            refine g_aload_n h (i := 95) rfl rfl ?_
            refine g_aload_n h (i := 96) rfl rfl ?_
            refine g_getR h (i := 97) rfl fl_X10_35 (fun _ _ _ => rfl) (lk_R hL) (lr_rise hL) ?_
            refine g_iload_n h (i := 98) rfl rfl ?_
            refine g_iald h (i := 99) rfl (lq_rise hL) (hvp) ?_
            refine g_eqi (wI w (a + 8) _) rfl ?_
            refine g_eqi (nI (R i)) (by rw [hcl]; exact r1) ?_
            refine g_i2l h (i := 100) rfl ?_
            refine g_eql (lN (R i)) e3 ?_
            refine g_putJ_0 h (i := 101) rfl fl_X10_182 nf_10_25 (fun _ _ _ => rfl) (lk_R hL) (rfl) (by rfl) ?_
            refine g_w _ (sRow_cj (by omega)) ?_
            refine g_aload_n h (i := 102) rfl rfl ?_
            refine g_lload h (i := 103) rfl rfl ?_
            refine g_putJ_0 h (i := 104) rfl fl_X10_185 nf_10_26 (fun _ _ _ => rfl) (lk_R hL) (rfl) (by rfl) ?_
            refine g_w _ (sRow_cj (by omega)) ?_
            refine g_aload_n h (i := 105) rfl rfl ?_
            refine g_lload h (i := 106) rfl rfl ?_
            refine g_putJ_0 h (i := 107) rfl fl_X10_188 nf_10_27 (fun _ _ _ => rfl) (lk_R hL) (rfl) (by rfl) ?_
            refine g_w _ (sRow_cj (by omega)) ?_
            refine g_iinc h (i := 108) rfl rfl (dv := 1) (by rfl) ?_
            refine g_goto h (i := 109) 22 rfl rfl ?_
            exact g_lv [(0, .ref a), (1, .int (nI k)), (2, .int (nI sh)), (3, .int (nI (i + 1)))] ⟨rfl, rfl, rfl, congrArg (fun z => some (Value.int z)) (nI_1 i), trivial⟩ (ih2 _ (by omega) (by rw [pl_t (Nat.lt_of_not_le (fun q => c_144 ((lg_cmp_le _ _).mpr ((pk_lLE (by omega) (by omega)).mpr q))))]; exact pli_2 _ _ _ _ hJ1))
        refine g_lstore h (i := 58) rfl hq rfl ?_
        refine g_aload_n h (i := 59) rfl rfl ?_
        refine g_getR h (i := 60) rfl fl_X10_32 (fun _ _ _ => rfl) (lk_R hL) (lr_pace hL) ?_
        refine g_iload_n h (i := 61) rfl rfl ?_
        refine g_iald h (i := 62) rfl (lq_pace hL) (hvp) ?_
        refine g_eqi (wI w (a + 7) _) rfl ?_
        refine g_eqi (nI (P i)) (by rw [hcl]; exact p1) ?_
        refine g_i2l h (i := 63) rfl ?_
        refine g_eql (lN (P i)) e4 ?_
        refine g_iload_n h (i := 64) rfl rfl ?_
        refine g_i2l h (i := 65) rfl ?_
        refine g_eql (lN sh) e5 ?_
        refine g_lmul h (i := 66) rfl ?_
        refine g_ldc2 h (i := 67) rfl k_X10_191 ?_
        refine g_ldiv h (i := 68) rfl (by decide) ?_
        refine g_eql (lN (P i * sh / 100)) epv ?_
        refine g_lstore h (i := 69) rfl hq rfl ?_
        refine g_lload h (i := 70) rfl rfl ?_
        refine g_lconst h (i := 71) rfl (v := 1) (by rfl) ?_
        refine g_lcmp h (i := 72) rfl ?_
        refine g_if_ge h (i := 73) 117 rfl rfl (fun c_110 => ?_) (fun c_110 => ?_)
        · skip
          refine g_lload h (i := 76) rfl rfl ?_
          refine g_eql (lN (pvN P sh i)) (congrArg lN (Nat.max_eq_right ((pk_lLE (a := 1) (by omega) (by omega)).mp ((lg_cmp_ge _ _).mp c_110))).symm) ?_
          exact g_lv [(0, .ref a), (1, .int (nI k)), (2, .int (nI sh)), (3, .int (nI i)), (4, .long (lN (wdN st go i)))] ⟨rfl, rfl, rfl, rfl, rfl, trivial⟩ k119
        · skip
          refine g_lconst h (i := 74) rfl (v := 1) (by rfl) ?_
          refine g_goto h (i := 75) 119 rfl rfl ?_
          refine g_eql (lN (pvN P sh i)) (congrArg lN (Nat.max_eq_left (Nat.le_of_not_le (fun q => c_110 ((lg_cmp_ge _ _).mpr ((pk_lLE (a := 1) (by omega) (by omega)).mpr q))))).symm) ?_
          exact g_lv [(0, .ref a), (1, .int (nI k)), (2, .int (nI sh)), (3, .int (nI i)), (4, .long (lN (wdN st go i)))] ⟨rfl, rfl, rfl, rfl, rfl, trivial⟩ k119
      refine g_iload_n h (i := 14) rfl rfl ?_
      refine g_iconst h (i := 15) rfl (v := 4) (by rfl) ?_
      refine g_icmp_ge h (i := 16) 182 rfl rfl (fun c_24 => absurd c_24 hnge) (fun c_24 => ?_)
      refine g_aload_n h (i := 17) rfl rfl ?_
      refine g_getR h (i := 18) rfl fl_X10_68 (fun _ _ _ => rfl) (lk_R hL) (lr_planFrom hL) ?_
      refine g_iload_n h (i := 19) rfl rfl ?_
      refine g_aload_n h (i := 20) rfl rfl ?_
      refine g_getR h (i := 21) rfl fl_X10_7 (fun _ _ _ => rfl) (lk_R hL) (lr_row hL) ?_
      refine g_iconst h (i := 22) rfl (v := 0) (by rfl) ?_
      refine g_iload_n h (i := 23) rfl rfl ?_
      refine g_iadd h (i := 24) rfl ?_
      refine g_eqi (nI i) (Int32.zero_add _) ?_
      refine g_lald h (i := 25) rfl (lq_row hL) (vp_in_nI (by omega) (by omega)) ?_
      refine g_eql _ (sRow_jx _ _ _ (n := i) (hcl)) ?_
      refine g_last h (i := 26) rfl (lq_planFrom hL) (hvp) ?_
      refine g_w (sRow (dW w (wI w) (up2 J (a + 19) i (r i)) (wD w)) a r) (by rw [hcl]; exact sRow_cj (by omega)) ?_
      refine g_aload_n h (i := 27) rfl rfl ?_
      refine g_getR h (i := 28) rfl fl_X10_71 (fun _ _ _ => rfl) (lk_R hL) (lr_planTo hL) ?_
      refine g_iload_n h (i := 29) rfl rfl ?_
      refine g_aload_n h (i := 30) rfl rfl ?_
      refine g_getR h (i := 31) rfl fl_X10_47 (fun _ _ _ => rfl) (lk_R hL) (lr_pose hL) ?_
      refine g_iconst h (i := 32) rfl (v := 4) (by rfl) ?_
      refine g_iload_n h (i := 33) rfl rfl ?_
      refine g_imul h (i := 34) rfl ?_
      refine g_iload_n h (i := 35) rfl rfl ?_
      refine g_iadd h (i := 36) rfl ?_
      refine g_eqi (nI (4 * k + i)) hxk ?_
      refine g_iald h (i := 37) rfl (lq_pose hL) (vp_in_nI (by omega) (by omega)) ?_
      refine g_eqi (wI w (a + 12) _) rfl ?_
      refine g_eqi (go i) (by rw [nI_clamp (by omega)]; exact g1) ?_
      refine g_i2l h (i := 38) rfl ?_
      refine g_last h (i := 39) rfl (lq_planTo hL) (hvp) ?_
      refine g_w (sRow (dW w (wI w) J1 (wD w)) a r) (by rw [hJ1e, hcl]; exact sRow_cj (by omega)) ?_
      refine g_aload_n h (i := 40) rfl rfl ?_
      refine g_getR h (i := 41) rfl fl_X10_71 (fun _ _ _ => rfl) (lk_R hL) (lr_planTo hL) ?_
      refine g_iload_n h (i := 42) rfl rfl ?_
      refine g_lald h (i := 43) rfl (lq_planTo hL) (hvp) ?_
      refine g_eql (go i).toInt64 (by rw [hcl]; exact (sRow_o (by omega)).trans (m1 i (by omega)).2) ?_
      refine g_aload_n h (i := 44) rfl rfl ?_
      refine g_getR h (i := 45) rfl fl_X10_68 (fun _ _ _ => rfl) (lk_R hL) (lr_planFrom hL) ?_
      refine g_iload_n h (i := 46) rfl rfl ?_
      refine g_lald h (i := 47) rfl (lq_planFrom hL) (hvp) ?_
      refine g_eql (r i) (by rw [hcl]; exact (sRow_o (by omega)).trans (m1 i (by omega)).1) ?_
      refine g_lsub h (i := 48) rfl ?_
      refine g_lstore h (i := 49) rfl hq rfl ?_
      refine g_lload h (i := 50) rfl rfl ?_
      refine g_lconst h (i := 51) rfl (v := 0) (by rfl) ?_
      refine g_lcmp h (i := 52) rfl ?_
      refine g_if_ge h (i := 53) 86 rfl rfl (fun c_77 => ?_) (fun c_77 => ?_)
      · skip
        refine g_lload h (i := 57) rfl rfl ?_
        refine g_eql (lN (wdN st go i)) (by rw [← eabs, if_neg (i64nlt.mpr ((lg_cmp_ge _ _).mp c_77))]) ?_
        exact g_lv [(0, .ref a), (1, .int (nI k)), (2, .int (nI sh)), (3, .int (nI i))] ⟨rfl, rfl, rfl, rfl, trivial⟩ k88
      · skip
        refine g_lload h (i := 54) rfl rfl ?_
        refine g_lneg h (i := 55) rfl ?_
        refine g_goto h (i := 56) 88 rfl rfl ?_
        refine g_eql (lN (wdN st go i)) (by rw [← eabs, if_pos (i64nl.mp (fun q => c_77 ((lg_cmp_ge _ _).mpr q)))]) ?_
        exact g_lv [(0, .ref a), (1, .int (nI k)), (2, .int (nI sh)), (3, .int (nI i))] ⟨rfl, rfl, rfl, rfl, trivial⟩ k88
  refine g_aload_n h (i := 0) rfl rfl ?_
  refine g_lconst h (i := 1) rfl (v := 0) (by rfl) ?_
  refine g_putJ_0 h (i := 2) rfl fl_X10_178 nf_10_24 (fun _ _ _ => rfl) (lk_R hL) (rfl) (by rfl) ?_
  refine g_w _ (sRow_cj (by omega)) ?_
  refine g_aload_n h (i := 3) rfl rfl ?_
  refine g_lconst h (i := 4) rfl (v := 1) (by rfl) ?_
  refine g_putJ_0 h (i := 5) rfl fl_X10_182 nf_10_25 (fun _ _ _ => rfl) (lk_R hL) (rfl) (by rfl) ?_
  refine g_w _ (sRow_cj (by omega)) ?_
  refine g_aload_n h (i := 6) rfl rfl ?_
  refine g_lconst h (i := 7) rfl (v := 1) (by rfl) ?_
  refine g_putJ_0 h (i := 8) rfl fl_X10_185 nf_10_26 (fun _ _ _ => rfl) (lk_R hL) (rfl) (by rfl) ?_
  refine g_w _ (sRow_cj (by omega)) ?_
  refine g_aload_n h (i := 9) rfl rfl ?_
  refine g_lconst h (i := 10) rfl (v := 1) (by rfl) ?_
  refine g_putJ_0 h (i := 11) rfl fl_X10_188 nf_10_27 (fun _ _ _ => rfl) (lk_R hL) (rfl) (by rfl) ?_
  refine g_w _ (sRow_cj (by omega)) ?_
  refine g_iconst h (i := 12) rfl (v := 0) (by rfl) ?_
  refine g_istore_n h (i := 13) rfl hq rfl ?_
  exact g_lv [(0, .ref a), (1, .int (nI k)), (2, .int (nI sh)), (3, .int (nI 0))] ⟨rfl, rfl, rfl, rfl, trivial⟩ (key 4 0 _ (by omega) pli_0)
