-- one tick
set_option maxRecDepth 100000 in
set_option maxHeartbeats 4000000 in
theorem ct_X10_ticks (l : Launch) (E : EE) (w : Wd) (a : Nat) (r : Nat → Int64) (hlo : E.2.2 ≤ wN (sRow w a r)) (hL : LayR w a) (hr : RR r) (hc : CfR (cfW w a)) (h28 : r 28 = 1) : Ct l E yX10_ticks cX10_ticks 6 none ({ frames := 6, cells := 0, slots := 0, locals := 162 } : Room) [.ref a] (sRow w a r) 0 0 (fun q w2 => q = none ∧ ∃ w3, RS a w w3 ∧ w2 = sRow w3 a (ticksR (cfW w a) r)) := by
  refine ct_in (il := il_X10_ticks) (by decide) dk_X10_ticks (Nat.le_of_ble_eq_true rfl) hlo ?_
  intro X h hq

  obtain ⟨cf, hcf⟩ : ∃ cf, cf = cfW w a := ⟨_, rfl⟩
  rw [← hcf] at hq hc
  obtain ⟨n0, hn0⟩ : ∃ n0, n0 = pI (cf 0 16) := ⟨_, rfl⟩
  have hsc : cf 0 16 = nI n0 ∧ n0 ≤ 40 := by rw [hn0]; exact hc.2.2.2.2.2.2.2.2.1
  have hln : isI (cf 0 12) 60 := hc.2.2.2.2.2.2.1
  have hlnl := isI_l hln (by omega)
  have h7 : ∀ k, k < n0 → isI (cf 17 k) 7 ∧ (cf 18 k = 0 ∨ cf 18 k = 1) := by rw [hn0]; exact hc.2.2.2.2.2.2.2.2.2.1
  obtain ⟨r1, hr1⟩ : ∃ r1, r1 = up1 r 29 (r 29 + 1) := ⟨_, rfl⟩
  have htk : tk1 cf r = scrR cf r1 n0 := by rw [hr1, hn0]; rfl
  have hrr := tk1_rr hc hr
  rw [htk] at hrr
  have ht28 : scrR cf r1 n0 28 = 1 := by rw [scr_o (fun k hk => (h7 k hk).1) (by omega), hr1, up1_k (by omega)]; exact h28
  -- the end
  have kend : ∀ w3, RS a w w3 → G X 0 0 99 (lf [(0, .ref a), (1, .int 1)]) [] (sRow w3 a (ticksR cf r)) := by
    intro w3 hRS
    refine g_iload_n h (i := 60) rfl rfl ?_
    refine g_if_ne h (i := 61) 272 rfl rfl (fun c_100 => ?_) (fun c_100 => absurd c_100 (by decide))
    exact g_vret hq h (i := 155) rfl (⟨rfl, w3, hRS, rfl⟩)
  -- the lines
  have loop : ∀ (n : Nat) (w3 : Wd) (q : Nat → Int64), n ≤ 100 → RS a w w3 → RR q → q 46 = 0 → q 28 = 1 → goR cf n q = ticksR cf r → G X 0 0 99 (lf [(0, .ref a), (1, .int 0), (2, .int (nI (100 - n)))]) [] (sRow w3 a q) := by
    intro n
    induction n with
    | zero =>
      intro w3 q hn hRS hq0 q46 q28 hg
      have hL3 := (RS_L hRS).1 a hL
      have hL0 := hL
      have hL := hL3
      have hI : cfW w3 a = cf := by rw [RS_cf hRS, hcf]
      have hlo3 : E.2.2 ≤ wN w3 := by rw [(RS_L hRS).2.1]; exact hlo
      refine g_iload_n h (i := 60) rfl rfl ?_
      refine g_if_ne h (i := 61) 272 rfl rfl (fun c_100 => absurd rfl c_100) (fun c_100 => ?_)
      refine g_aload_n h (i := 62) rfl rfl ?_
      refine g_getR h (i := 63) rfl fl_X10_7 (fun _ _ _ => rfl) (lk_R hL) (lr_row hL) ?_
      refine g_bipush h (i := 64) rfl (v := 30) (by rfl) ?_
      refine g_lald h (i := 65) rfl (lq_row hL) (vpD (by decide)) ?_
      refine g_eql _ (sRow_jx _ _ _ (n := 30) (by rfl)) ?_
      refine g_aload_n h (i := 66) rfl rfl ?_
      refine g_getI h (i := 67) rfl fl_X10_207 (fun _ _ _ => rfl) (lk_R hL) ?_
      refine g_eqi (wI w3 a 12) rfl ?_
      refine g_eqi (cf 0 12) (by rw [← hI]; rfl) ?_
      refine g_i2l h (i := 68) rfl ?_
      refine g_lcmp h (i := 69) rfl ?_
      refine g_if_lt h (i := 70) 146 rfl rfl (fun c_116 => ?_) (fun c_116 => ?_)
      · skip
        refine g_iload_n h (i := 86) rfl rfl ?_
        refine g_bipush h (i := 87) rfl (v := 100) (by rfl) ?_
        refine g_icmp_ne h (i := 88) 162 rfl rfl (fun c_149 => absurd rfl c_149) (fun c_149 => ?_)
        refine g_aload_n h (i := 89) rfl rfl ?_
        refine g_iconst h (i := 90) rfl (v := 4) (by rfl) ?_
        refine g_callVn h hq (i := 91) rfl mv_X10_219 cls10 (lk_R hL) (ct_X10_errs l E w3 a q 4 hlo3 hL) rfl rfl ⟨rfl, rfl, Nat.le_of_ble_eq_true rfl, Nat.le_of_ble_eq_true rfl⟩ (Nat.le_of_ble_eq_true rfl) ⟨Nat.zero_le _, Nat.zero_le _⟩ ?_
        refine g_iconst h (i := 92) rfl (v := 1) (by rfl) ?_
        refine g_istore_n h (i := 93) rfl hq rfl ?_
        refine g_goto h (i := 94) 99 rfl rfl ?_
        exact g_lv [(0, .ref a), (1, .int 1)] ⟨rfl, rfl, trivial⟩ (by
          have := kend w3 hRS
          rw [← hg] at this
          unfold goR at this
          rw [if_neg (i64nl.mpr ((lg_cmp_lt _ _).mp c_116)), ← hI] at this
          exact this)
      · skip
        refine g_aload_n h (i := 71) rfl rfl ?_
        refine g_getR h (i := 72) rfl fl_X10_7 (fun _ _ _ => rfl) (lk_R hL) (lr_row hL) ?_
        refine g_bipush h (i := 73) rfl (v := 30) (by rfl) ?_
        refine g_aload_n h (i := 74) rfl rfl ?_
        refine g_getI h (i := 75) rfl fl_X10_207 (fun _ _ _ => rfl) (lk_R hL) ?_
        refine g_eqi (wI w3 a 12) rfl ?_
        refine g_eqi (cf 0 12) (by rw [← hI]; rfl) ?_
        refine g_i2l h (i := 76) rfl ?_
        refine g_last h (i := 77) rfl (lq_row hL) (vpD (by decide)) ?_
        refine g_w _ (sRow_ux _ _ _ _ (n := 30) (by rfl)) ?_
        refine g_aload_n h (i := 78) rfl rfl ?_
        refine g_getR h (i := 79) rfl fl_X10_7 (fun _ _ _ => rfl) (lk_R hL) (lr_row hL) ?_
        refine g_bipush h (i := 80) rfl (v := 28) (by rfl) ?_
        refine g_ldc2 h (i := 81) rfl k_X10_168 ?_
        refine g_last h (i := 82) rfl (lq_row hL) (vpD (by decide)) ?_
        refine g_w _ (sRow_ux _ _ _ _ (n := 28) (by rfl)) ?_
        refine g_iconst h (i := 83) rfl (v := 1) (by rfl) ?_
        refine g_istore_n h (i := 84) rfl hq rfl ?_
        refine g_goto h (i := 85) 99 rfl rfl ?_
        exact g_lv [(0, .ref a), (1, .int 1)] ⟨rfl, rfl, trivial⟩ (by
          have := kend w3 hRS
          rw [← hg] at this
          unfold goR at this
          rw [if_pos (i64nlt.mp (fun z => c_116 ((lg_cmp_lt _ _).mpr z)))] at this
          exact this)
    | succ n ih =>
      intro w3 q hn hRS hq0 q46 q28 hg
      have hL3 := (RS_L hRS).1 a hL
      have hL0 := hL
      have hL := hL3
      have hI : cfW w3 a = cf := by rw [RS_cf hRS, hcf]
      have hlo3 : E.2.2 ≤ wN w3 := by rw [(RS_L hRS).2.1]; exact hlo
      have hne : ¬ nI (100 - (n + 1)) = 100 := fun z => absurd ((nI_eq (b := 100) (by omega) (by omega)).mp z) (by omega)
      have f30 : isN (q 30) 61 := hq0.1 30
      have nxt : nI (100 - (n + 1)) + 1 = nI (100 - n) := by rw [nI_1, show 100 - (n + 1) + 1 = 100 - n by omega]
      -- behind the line
      have k185 : pN (q 30) < pI (cf 0 12) → ∀ w4, RS a w w4 → G X 0 0 185 (lf [(0, .ref a), (2, .int (nI (100 - n))), (3, .long (q 31))]) [] (sRow w4 a (ln1 cf q)) := by
        intro hlt w4 hRS4
        have hL4 := (RS_L hRS4).1 a hL0
        have hL := hL4
        have hI4 : cfW w4 a = cf := by rw [RS_cf hRS4, hcf]
        have hlo4 : E.2.2 ≤ wN w4 := by rw [(RS_L hRS4).2.1]; exact hlo
        have hr2 := rr_ln2 hc hq0 q46 q28 hlt
        have hgo : goR cf (n + 1) q = if lnO cf q then ln3 cf q else goR cf n (ln3 cf q) := by
          show (if (cf 0 12).toInt64 ≤ q 30 then _ else _) = _
          rw [if_neg (fun z => ?_)]
          rw [hlnl.1.1, hlnl.2, f30.1] at z
          have := (pk_lLE (by have := hln.2; omega) (by have := f30.2; omega)).mp z
          omega
        have kO : ∀ w5, RS a w w5 → lnO cf q → G X 0 0 268 (lf [(0, .ref a)]) [.int 1] (sRow w5 a (ln3 cf q)) := by
          intro w5 hRS5 ho
          refine g_istore_n h (i := 153) rfl hq rfl ?_
          refine g_goto h (i := 154) 99 rfl rfl ?_
          exact g_lv [(0, .ref a), (1, .int 1)] ⟨rfl, rfl, trivial⟩ (by have := kend w5 hRS5; rw [← hg, hgo, if_pos ho] at this; exact this)
        have kN : ∀ w5, RS a w w5 → ¬ lnO cf q → G X 0 0 268 (lf [(0, .ref a), (2, .int (nI (100 - n)))]) [.int 0] (sRow w5 a (ln3 cf q)) := by
          intro w5 hRS5 ho
          obtain ⟨i1, i2, i3⟩ := ln3_idle hr2 ho
          refine g_istore_n h (i := 153) rfl hq rfl ?_
          refine g_goto h (i := 154) 99 rfl rfl ?_
          exact g_lv [(0, .ref a), (1, .int 0), (2, .int (nI (100 - n)))] ⟨rfl, rfl, rfl, trivial⟩ (ih w5 (ln3 cf q) (by omega) hRS5 i1 i2 i3 (by rw [← hg, hgo, if_neg ho]))
        have kM : ∀ v : Int32, v = bI (ln1 cf q 31 ≠ 0) → G X 0 0 227 (lf [(0, .ref a), (2, .int (nI (100 - n))), (5, .int v)]) [] (sRow w4 a (ln2 cf q)) := by
          intro v hv
          refine g_iload h (i := 131) rfl rfl ?_
          refine g_if_ne h (i := 132) 263 rfl rfl (fun c_229 => ?_) (fun c_229 => ?_)
          · skip
            refine g_iconst h (i := 150) rfl (v := 1) (by rfl) ?_
            refine g_goto h (i := 151) 268 rfl rfl ?_
            exact g_lv [(0, .ref a)] ⟨rfl, trivial⟩ (by
              have e1 : ln1 cf q 31 ≠ 0 := bI_1.mp (by rw [← hv]; exact c_229)
              have := kO w4 hRS4 (Or.inl e1)
              rw [show ln3 cf q = ln2 cf q from if_neg (fun z => e1 z.1)] at this
              exact this)
          · skip
            refine g_aload_n h (i := 133) rfl rfl ?_
            refine g_getR h (i := 134) rfl fl_X10_7 (fun _ _ _ => rfl) (lk_R hL) (lr_row hL) ?_
            refine g_bipush h (i := 135) rfl (v := 28) (by rfl) ?_
            refine g_lald h (i := 136) rfl (lq_row hL) (vpD (by decide)) ?_
            refine g_eql _ (sRow_jx _ _ _ (n := 28) (by rfl)) ?_
            refine g_lconst h (i := 137) rfl (v := 1) (by rfl) ?_
            refine g_lcmp h (i := 138) rfl ?_
            refine g_if_ne h (i := 139) 263 rfl rfl (fun c_241 => ?_) (fun c_241 => ?_)
            · skip
              refine g_iconst h (i := 150) rfl (v := 1) (by rfl) ?_
              refine g_goto h (i := 151) 268 rfl rfl ?_
              exact g_lv [(0, .ref a)] ⟨rfl, trivial⟩ (by
                have e2 : ln2 cf q 28 ≠ 1 := fun z => c_241 ((lg_cmp_eq _ _).mpr z)
                have := kO w4 hRS4 (Or.inr (Or.inl e2))
                rw [show ln3 cf q = ln2 cf q from if_neg (fun z => e2 z.2.1)] at this
                exact this)
            · skip
              refine g_aload_n h (i := 140) rfl rfl ?_
              refine g_getR h (i := 141) rfl fl_X10_7 (fun _ _ _ => rfl) (lk_R hL) (lr_row hL) ?_
              refine g_bipush h (i := 142) rfl (v := 46) (by rfl) ?_
              refine g_lald h (i := 143) rfl (lq_row hL) (vpD (by decide)) ?_
              refine g_eql _ (sRow_jx _ _ _ (n := 46) (by rfl)) ?_
              refine g_lconst h (i := 144) rfl (v := 0) (by rfl) ?_
              refine g_lcmp h (i := 145) rfl ?_
              refine g_if_eq h (i := 146) 267 rfl rfl (fun c_253 => ?_) (fun c_253 => ?_)
              · skip
                refine g_iconst h (i := 152) rfl (v := 0) (by rfl) ?_
                exact g_lv [(0, .ref a), (2, .int (nI (100 - n)))] ⟨rfl, rfl, trivial⟩ (by
                  have e1 : ln1 cf q 31 = 0 := Decidable.not_not.mp (bI_0.mp (by rw [← hv]; exact c_229))
                  have e2 : ln2 cf q 28 = 1 := (lg_cmp_eq _ _).mp c_241
                  have e3 : ln2 cf q 46 = 0 := (lg_cmp_eq _ _).mp c_253
                  have := kN w4 hRS4 (fun z => z.elim (fun y => y e1) (fun z => z.elim (fun y => y e2) (fun y => y.1 e3)))
                  rw [show ln3 cf q = ln2 cf q from if_neg (fun z => z.2.2 e3)] at this
                  exact this)
              · skip
                refine g_aload_n h (i := 147) rfl rfl ?_
                refine g_callVp (w0 := w) h hq (i := 148) rfl mv_X10_249 cls10 (lk_R hL) (ct_X10_goesTick l E w4 a (ln2 cf q) hlo4 hL hr2 (by rw [hI4]; exact hc.1)) rfl rfl ⟨rfl, rfl, Nat.le_of_ble_eq_true rfl, Nat.le_of_ble_eq_true rfl⟩ (Nat.le_of_ble_eq_true rfl) ⟨Nat.zero_le _, Nat.zero_le _⟩ (fun r257 w257 hp257 => ?_)
                obtain ⟨rfl, w5, hRS5, rfl⟩ := hp257
                refine g_if_eq h (i := 149) 267 rfl rfl (fun c_260 => ?_) (fun c_260 => ?_)
                · skip
                  refine g_iconst h (i := 152) rfl (v := 0) (by rfl) ?_
                  exact g_lv [(0, .ref a), (2, .int (nI (100 - n)))] ⟨rfl, rfl, trivial⟩ (by
                    have e1 : ln1 cf q 31 = 0 := Decidable.not_not.mp (bI_0.mp (by rw [← hv]; exact c_229))
                    have e2 : ln2 cf q 28 = 1 := (lg_cmp_eq _ _).mp c_241
                    have e3 : ln2 cf q 46 ≠ 0 := fun z => c_253 ((lg_cmp_eq _ _).mpr z)
                    have e4 : ln3 cf q = goesTickR cf (ln2 cf q) := if_pos ⟨e1, e2, e3⟩
                    have := kN w5 (RS_t hRS4 hRS5) (fun z => z.elim (fun y => y e1) (fun z => z.elim (fun y => y e2) (fun y => (bI_0.mp c_260) y.2)))
                    rw [e4] at this
                    rw [hI4]
                    exact this)
                · skip
                  refine g_iconst h (i := 150) rfl (v := 1) (by rfl) ?_
                  refine g_goto h (i := 151) 268 rfl rfl ?_
                  exact g_lv [(0, .ref a)] ⟨rfl, trivial⟩ (by
                    have e1 : ln1 cf q 31 = 0 := Decidable.not_not.mp (bI_0.mp (by rw [← hv]; exact c_229))
                    have e2 : ln2 cf q 28 = 1 := (lg_cmp_eq _ _).mp c_241
                    have e3 : ln2 cf q 46 ≠ 0 := fun z => c_253 ((lg_cmp_eq _ _).mpr z)
                    have e4 : ln3 cf q = goesTickR cf (ln2 cf q) := if_pos ⟨e1, e2, e3⟩
                    have := kO w5 (RS_t hRS4 hRS5) (Or.inr (Or.inr ⟨e3, bI_1.mp c_260⟩))
                    rw [e4] at this
                    rw [hI4]
                    exact this)
        refine g_aload_n h (i := 108) rfl rfl ?_
        refine g_getR h (i := 109) rfl fl_X10_7 (fun _ _ _ => rfl) (lk_R hL) (lr_row hL) ?_
        refine g_bipush h (i := 110) rfl (v := 31) (by rfl) ?_
        refine g_lald h (i := 111) rfl (lq_row hL) (vpD (by decide)) ?_
        refine g_eql _ (sRow_jx _ _ _ (n := 31) (by rfl)) ?_
        refine g_lconst h (i := 112) rfl (v := 0) (by rfl) ?_
        refine g_lcmp h (i := 113) rfl ?_
        refine g_if_eq h (i := 114) 201 rfl rfl (fun c_194 => ?_) (fun c_194 => ?_)
        · skip
          refine g_iconst h (i := 117) rfl (v := 0) (by rfl) ?_
          refine g_istore h (i := 118) rfl hq rfl ?_
          refine g_aload_n h (i := 119) rfl rfl ?_
          refine g_getR h (i := 120) rfl fl_X10_7 (fun _ _ _ => rfl) (lk_R hL) (lr_row hL) ?_
          refine g_bipush h (i := 121) rfl (v := 31) (by rfl) ?_
          refine g_iload h (i := 122) rfl rfl ?_
          refine g_if_eq h (i := 123) 225 rfl rfl (fun c_212 => ?_) (fun c_212 => absurd rfl c_212)
          refine g_lload_n h (i := 129) rfl rfl ?_
          refine g_last h (i := 130) rfl (lq_row hL) (vpD (by decide)) ?_
          refine g_w _ (sRow_ux _ _ _ _ (n := 31) (by rfl)) ?_
          refine g_w (sRow w4 a (ln2 cf q)) (congrArg (fun z => sRow w4 a (up1 (ln1 cf q) 31 z)) (if_pos ((lg_cmp_eq _ _).mp c_194)).symm) ?_
          exact g_lv [(0, .ref a), (2, .int (nI (100 - n))), (5, .int 0)] ⟨rfl, rfl, rfl, trivial⟩ (kM 0 (bI_f (fun z => z ((lg_cmp_eq _ _).mp c_194))).symm)
        · skip
          refine g_iconst h (i := 115) rfl (v := 1) (by rfl) ?_
          refine g_goto h (i := 116) 202 rfl rfl ?_
          refine g_istore h (i := 118) rfl hq rfl ?_
          refine g_aload_n h (i := 119) rfl rfl ?_
          refine g_getR h (i := 120) rfl fl_X10_7 (fun _ _ _ => rfl) (lk_R hL) (lr_row hL) ?_
          refine g_bipush h (i := 121) rfl (v := 31) (by rfl) ?_
          refine g_iload h (i := 122) rfl rfl ?_
          refine g_if_eq h (i := 123) 225 rfl rfl (fun c_212 => absurd c_212 (by decide)) (fun c_212 => ?_)
          refine g_aload_n h (i := 124) rfl rfl ?_
          refine g_getR h (i := 125) rfl fl_X10_7 (fun _ _ _ => rfl) (lk_R hL) (lr_row hL) ?_
          refine g_bipush h (i := 126) rfl (v := 31) (by rfl) ?_
          refine g_lald h (i := 127) rfl (lq_row hL) (vpD (by decide)) ?_
          refine g_eql _ (sRow_jx _ _ _ (n := 31) (by rfl)) ?_
          refine g_goto h (i := 128) 226 rfl rfl ?_
          refine g_last h (i := 130) rfl (lq_row hL) (vpD (by decide)) ?_
          refine g_w _ (sRow_ux _ _ _ _ (n := 31) (by rfl)) ?_
          refine g_w (sRow w4 a (ln2 cf q)) (congrArg (fun z => sRow w4 a (up1 (ln1 cf q) 31 z)) (if_neg (fun z => c_194 ((lg_cmp_eq _ _).mpr z))).symm) ?_
          exact g_lv [(0, .ref a), (2, .int (nI (100 - n))), (5, .int 1)] ⟨rfl, rfl, rfl, trivial⟩ (kM 1 (bI_t (show ln1 cf q 31 ≠ 0 from fun z => c_194 ((lg_cmp_eq _ _).mpr z))).symm)
      have hle : lg_cmp (q 30) (cf 0 12).toInt64 < 0 → pN (q 30) < pI (cf 0 12) := fun z => by
        have z := (lg_cmp_lt _ _).mp z
        rw [hlnl.1.1, hlnl.2, f30.1] at z
        exact (pk_lLT (by have := f30.2; omega) (by have := hln.2; omega)).mp z
      refine g_iload_n h (i := 60) rfl rfl ?_
      refine g_if_ne h (i := 61) 272 rfl rfl (fun c_100 => absurd rfl c_100) (fun c_100 => ?_)
      refine g_aload_n h (i := 62) rfl rfl ?_
      refine g_getR h (i := 63) rfl fl_X10_7 (fun _ _ _ => rfl) (lk_R hL) (lr_row hL) ?_
      refine g_bipush h (i := 64) rfl (v := 30) (by rfl) ?_
      refine g_lald h (i := 65) rfl (lq_row hL) (vpD (by decide)) ?_
      refine g_eql _ (sRow_jx _ _ _ (n := 30) (by rfl)) ?_
      refine g_aload_n h (i := 66) rfl rfl ?_
      refine g_getI h (i := 67) rfl fl_X10_207 (fun _ _ _ => rfl) (lk_R hL) ?_
      refine g_eqi (wI w3 a 12) rfl ?_
      refine g_eqi (cf 0 12) (by rw [← hI]; rfl) ?_
      refine g_i2l h (i := 68) rfl ?_
      refine g_lcmp h (i := 69) rfl ?_
      refine g_if_lt h (i := 70) 146 rfl rfl (fun c_116 => ?_) (fun c_116 => ?_)
      · skip
        refine g_iload_n h (i := 86) rfl rfl ?_
        refine g_bipush h (i := 87) rfl (v := 100) (by rfl) ?_
        refine g_icmp_ne h (i := 88) 162 rfl rfl (fun c_149 => ?_) (fun c_149 => absurd c_149 hne)
        refine g_aload_n h (i := 95) rfl rfl ?_
        refine g_getR h (i := 96) rfl fl_X10_7 (fun _ _ _ => rfl) (lk_R hL) (lr_row hL) ?_
        refine g_bipush h (i := 97) rfl (v := 31) (by rfl) ?_
        refine g_lald h (i := 98) rfl (lq_row hL) (vpD (by decide)) ?_
        refine g_eql _ (sRow_jx _ _ _ (n := 31) (by rfl)) ?_
        refine g_lstore_n h (i := 99) rfl hq rfl ?_
        refine g_aload_n h (i := 100) rfl rfl ?_
        refine g_getR h (i := 101) rfl fl_X10_7 (fun _ _ _ => rfl) (lk_R hL) (lr_row hL) ?_
        refine g_bipush h (i := 102) rfl (v := 31) (by rfl) ?_
        refine g_lconst h (i := 103) rfl (v := 0) (by rfl) ?_
        refine g_last h (i := 104) rfl (lq_row hL) (vpD (by decide)) ?_
        refine g_w _ (sRow_ux _ _ _ _ (n := 31) (by rfl)) ?_
        refine g_aload_n h (i := 105) rfl rfl ?_
        refine g_callVp (w0 := w) h hq (i := 106) rfl mv_X10_252 cls10 (lk_R hL) (ct_X10_doesLine l E w3 a (up1 q 31 0) hlo3 hL (fa_u hq0.1 z_F) (by rw [hI]; exact hc) (by rw [hI, up1_k (by omega)]; exact hle c_116)) rfl rfl ⟨rfl, rfl, Nat.le_of_ble_eq_true rfl, Nat.le_of_ble_eq_true rfl⟩ (Nat.le_of_ble_eq_true rfl) ⟨Nat.zero_le _, Nat.zero_le _⟩ (fun r179 w179 hp179 => ?_)
        obtain ⟨rfl, w4, hRS4, rfl⟩ := hp179
        rw [hI]
        refine g_iinc h (i := 107) rfl rfl (dv := 1) (by rfl) ?_
        exact g_lv [(0, .ref a), (2, .int (nI (100 - n))), (3, .long (q 31))] ⟨rfl, congrArg (fun z => some (Value.int z)) nxt, rfl, trivial⟩ (k185 (hle c_116) w4 (RS_t hRS hRS4))
      · skip
        refine g_aload_n h (i := 71) rfl rfl ?_
        refine g_getR h (i := 72) rfl fl_X10_7 (fun _ _ _ => rfl) (lk_R hL) (lr_row hL) ?_
        refine g_bipush h (i := 73) rfl (v := 30) (by rfl) ?_
        refine g_aload_n h (i := 74) rfl rfl ?_
        refine g_getI h (i := 75) rfl fl_X10_207 (fun _ _ _ => rfl) (lk_R hL) ?_
        refine g_eqi (wI w3 a 12) rfl ?_
        refine g_eqi (cf 0 12) (by rw [← hI]; rfl) ?_
        refine g_i2l h (i := 76) rfl ?_
        refine g_last h (i := 77) rfl (lq_row hL) (vpD (by decide)) ?_
        refine g_w _ (sRow_ux _ _ _ _ (n := 30) (by rfl)) ?_
        refine g_aload_n h (i := 78) rfl rfl ?_
        refine g_getR h (i := 79) rfl fl_X10_7 (fun _ _ _ => rfl) (lk_R hL) (lr_row hL) ?_
        refine g_bipush h (i := 80) rfl (v := 28) (by rfl) ?_
        refine g_ldc2 h (i := 81) rfl k_X10_168 ?_
        refine g_last h (i := 82) rfl (lq_row hL) (vpD (by decide)) ?_
        refine g_w _ (sRow_ux _ _ _ _ (n := 28) (by rfl)) ?_
        refine g_iconst h (i := 83) rfl (v := 1) (by rfl) ?_
        refine g_istore_n h (i := 84) rfl hq rfl ?_
        refine g_goto h (i := 85) 99 rfl rfl ?_
        exact g_lv [(0, .ref a), (1, .int 1)] ⟨rfl, rfl, trivial⟩ (by
          have := kend w3 hRS
          rw [← hg] at this
          unfold goR at this
          rw [if_pos (i64nlt.mp (fun z => c_116 ((lg_cmp_lt _ _).mpr z)))] at this
          exact this)
  -- what is under way
  have k72 : G X 0 0 72 (lf [(0, .ref a)]) [] (sRow w a (scrR cf r1 n0)) := by
    have k96 : ∀ (v : Int32) (w3 : Wd) (q : Nat → Int64), RS a w w3 → (v = 1 → q = ticksR cf r) → (¬ v = 1 → v = 0 ∧ RR q ∧ q 46 = 0 ∧ q 28 = 1 ∧ goR cf 100 q = ticksR cf r) → G X 0 0 96 (lf [(0, .ref a)]) [.int v] (sRow w3 a q) := by
      intro v w3 q hRS hv1 hv0
      refine g_istore_n h (i := 57) rfl hq rfl ?_
      refine g_iconst h (i := 58) rfl (v := 0) (by rfl) ?_
      refine g_istore_n h (i := 59) rfl hq rfl ?_
      by_cases hv : v = 1
      · rw [hv1 hv]
        exact g_lv [(0, .ref a), (1, .int 1)] ⟨rfl, congrArg (fun z => some (Value.int z)) hv, trivial⟩ (kend w3 hRS)
      · obtain ⟨v0, q1, q2, q3, q4⟩ := hv0 hv
        exact g_lv [(0, .ref a), (1, .int 0), (2, .int (nI (100 - 100)))] ⟨rfl, congrArg (fun z => some (Value.int z)) v0, rfl, trivial⟩ (loop 100 w3 q (by omega) hRS q1 q2 q3 q4)
    refine g_aload_n h (i := 44) rfl rfl ?_
    refine g_getR h (i := 45) rfl fl_X10_7 (fun _ _ _ => rfl) (lk_R hL) (lr_row hL) ?_
    refine g_bipush h (i := 46) rfl (v := 46) (by rfl) ?_
    refine g_lald h (i := 47) rfl (lq_row hL) (vpD (by decide)) ?_
    refine g_eql _ (sRow_jx _ _ _ (n := 46) (by rfl)) ?_
    refine g_lconst h (i := 48) rfl (v := 0) (by rfl) ?_
    refine g_lcmp h (i := 49) rfl ?_
    refine g_if_eq h (i := 50) 95 rfl rfl (fun c_81 => ?_) (fun c_81 => ?_)
    · skip
      refine g_iconst h (i := 56) rfl (v := 0) (by rfl) ?_
      exact g_lv [(0, .ref a)] ⟨rfl, trivial⟩ (k96 0 w _ (RS_r a w) (fun z => absurd z (by decide)) (fun _ => ⟨rfl, hrr, (lg_cmp_eq _ _).mp c_81, ht28, by unfold ticksR; rw [htk, if_pos ((lg_cmp_eq _ _).mp c_81)]⟩))
    · skip
      refine g_aload_n h (i := 51) rfl rfl ?_
      refine g_callVp (w0 := w) h hq (i := 52) rfl mv_X10_249 cls10 (lk_R hL) (ct_X10_goesTick l E w a (scrR cf r1 n0) hlo hL hrr (by rw [← hcf]; exact hc.1)) rfl rfl ⟨rfl, rfl, Nat.le_of_ble_eq_true rfl, Nat.le_of_ble_eq_true rfl⟩ (Nat.le_of_ble_eq_true rfl) ⟨Nat.zero_le _, Nat.zero_le _⟩ (fun r85 w85 hp85 => ?_)
      obtain ⟨rfl, w3, hRS, rfl⟩ := hp85
      refine g_if_eq h (i := 53) 95 rfl rfl (fun c_88 => ?_) (fun c_88 => ?_)
      · skip
        refine g_iconst h (i := 56) rfl (v := 0) (by rfl) ?_
        exact g_lv [(0, .ref a)] ⟨rfl, trivial⟩ (k96 0 w3 _ hRS (fun z => absurd z (by decide)) (fun _ => by
          have g : gtB (scrR cf r1 n0) := Decidable.not_not.mp (bI_0.mp c_88)
          rw [← hcf]
          exact ⟨rfl, rr_gt hrr (fun z => c_81 ((lg_cmp_eq _ _).mpr z)), by unfold goesTickR; rw [if_pos g]; rfl, by unfold goesTickR; rw [if_pos g]; exact ht28, by unfold ticksR; rw [htk, if_neg (fun z => c_81 ((lg_cmp_eq _ _).mpr z)), if_pos g]⟩))
      · skip
        refine g_iconst h (i := 54) rfl (v := 1) (by rfl) ?_
        refine g_goto h (i := 55) 96 rfl rfl ?_
        exact g_lv [(0, .ref a)] ⟨rfl, trivial⟩ (k96 1 w3 _ hRS (fun _ => by
          rw [← hcf]
          unfold ticksR
          rw [htk, if_neg (fun z => c_81 ((lg_cmp_eq _ _).mpr z)), if_neg (bI_1.mp c_88)]) (fun z => absurd rfl z))
  -- the scripts
  have key : ∀ (d i : Nat), i + d = n0 → G X 0 0 13 (lf [(0, .ref a), (1, .int (nI i))]) [] (sRow w a (scrR cf r1 i)) := by
    intro d
    induction d with
    | zero =>
      intro i hi
      have hi4 : i = n0 := by omega
      subst hi4
      refine g_iload_n h (i := 10) rfl rfl ?_
      refine g_aload_n h (i := 11) rfl rfl ?_
      refine g_getI h (i := 12) rfl fl_X10_211 (fun _ _ _ => rfl) (lk_R hL) ?_
      refine g_eqi (wI w a 16) rfl ?_
      refine g_eqi (nI i) (by rw [← hsc.1, hcf]; rfl) ?_
      refine g_icmp_ge h (i := 13) 72 rfl rfl (fun c_18 => ?_) (fun c_18 => absurd (Int32.le_refl _) c_18)
      exact g_lv [(0, .ref a)] ⟨rfl, trivial⟩ k72
    | succ d ih =>
      intro i hid
      have hi : i < n0 := by omega
      have hcl : (nI i).toNatClampNeg = i := nI_clamp (by omega)
      have hvp : vp_in (nI i) 40 := vp_in_nI (by omega) (by omega)
      have hnge : ¬ nI n0 ≤ nI i := nI_ge hi (by omega)
      obtain ⟨⟨s1, s2⟩, s3⟩ := h7 i hi
      have e29 : scrR cf r1 i 29 = r1 29 := scr_o (fun k hk => (h7 k (by omega)).1) (by omega)
      have hx : (4 : Int32) + cf 17 i = nI (4 + pI (cf 17 i)) := (congrArg (fun z => (4 : Int32) + z) s1).trans (nI_add 4 (pI (cf 17 i)))
      have hpx : pI (nI (pI (cf 17 i))) = pI (cf 17 i) := by rw [← s1]
      refine g_iload_n h (i := 10) rfl rfl ?_
      refine g_aload_n h (i := 11) rfl rfl ?_
      refine g_getI h (i := 12) rfl fl_X10_211 (fun _ _ _ => rfl) (lk_R hL) ?_
      refine g_eqi (wI w a 16) rfl ?_
      refine g_eqi (nI n0) (by rw [← hsc.1, hcf]; rfl) ?_
      refine g_icmp_ge h (i := 13) 72 rfl rfl (fun c_18 => absurd c_18 hnge) (fun c_18 => ?_)
      refine g_aload_n h (i := 14) rfl rfl ?_
      refine g_getR h (i := 15) rfl fl_X10_59 (fun _ _ _ => rfl) (lk_R hL) (lr_scriptTick hL) ?_
      refine g_iload_n h (i := 16) rfl rfl ?_
      refine g_iald h (i := 17) rfl (lq_scriptTick hL) (hvp) ?_
      refine g_eqi (wI w (a + 16) _) rfl ?_
      refine g_eqi (cf 16 i) (by rw [hcl, hcf]; rfl) ?_
      refine g_i2l h (i := 18) rfl ?_
      refine g_aload_n h (i := 19) rfl rfl ?_
      refine g_getR h (i := 20) rfl fl_X10_7 (fun _ _ _ => rfl) (lk_R hL) (lr_row hL) ?_
      refine g_bipush h (i := 21) rfl (v := 29) (by rfl) ?_
      refine g_lald h (i := 22) rfl (lq_row hL) (vpD (by decide)) ?_
      refine g_eql _ (sRow_jx _ _ _ (n := 29) (by rfl)) ?_
      refine g_eql (r1 29) e29 ?_
      refine g_lcmp h (i := 23) rfl ?_
      refine g_if_ne h (i := 24) 66 rfl rfl (fun c_36 => ?_) (fun c_36 => ?_)
      · skip
        refine g_iinc h (i := 42) rfl rfl (dv := 1) (by rfl) ?_
        refine g_goto h (i := 43) 13 rfl rfl ?_
        exact g_lv [(0, .ref a), (1, .int (nI (i + 1)))] ⟨rfl, congrArg (fun z => some (Value.int z)) (nI_1 i), trivial⟩ (by have := ih (i + 1) (by omega); unfold scrR at this; rw [if_neg (fun z => c_36 ((lg_cmp_eq _ _).mpr z))] at this; exact this)
      · skip
        refine g_aload_n h (i := 25) rfl rfl ?_
        refine g_getR h (i := 26) rfl fl_X10_7 (fun _ _ _ => rfl) (lk_R hL) (lr_row hL) ?_
        refine g_iconst h (i := 27) rfl (v := 4) (by rfl) ?_
        refine g_aload_n h (i := 28) rfl rfl ?_
        refine g_getR h (i := 29) rfl fl_X10_62 (fun _ _ _ => rfl) (lk_R hL) (lr_scriptInput hL) ?_
        refine g_iload_n h (i := 30) rfl rfl ?_
        refine g_iald h (i := 31) rfl (lq_scriptInput hL) (hvp) ?_
        refine g_eqi (wI w (a + 17) _) rfl ?_
        refine g_eqi (cf 17 i) (by rw [hcl, hcf]; rfl) ?_
        refine g_iadd h (i := 32) rfl ?_
        refine g_eqi (nI (4 + pI (cf 17 i))) hx ?_
        refine g_aload_n h (i := 33) rfl rfl ?_
        refine g_getR h (i := 34) rfl fl_X10_65 (fun _ _ _ => rfl) (lk_R hL) (lr_scriptOn hL) ?_
        refine g_iload_n h (i := 35) rfl rfl ?_
        refine g_zald h (i := 36) rfl (lq_scriptOn hL) (hvp) ?_
        refine g_eqi (wI w (a + 18) _) rfl ?_
        refine g_eqi (cf 18 i) (by rw [hcl, hcf]; rfl) ?_
        refine g_if_eq h (i := 37) 64 rfl rfl (fun c_57 => ?_) (fun c_57 => ?_)
        · skip
          refine g_lconst h (i := 40) rfl (v := 0) (by rfl) ?_
          refine g_last h (i := 41) rfl (lq_row hL) (vp_in_nI (by omega) (by omega)) ?_
          refine g_w _ (sRow_ux _ _ _ _ (n := 4 + pI (cf 17 i)) (nI_clamp (by omega))) ?_
          refine g_iinc h (i := 42) rfl rfl (dv := 1) (by rfl) ?_
          refine g_goto h (i := 43) 13 rfl rfl ?_
          exact g_lv [(0, .ref a), (1, .int (nI (i + 1)))] ⟨rfl, congrArg (fun z => some (Value.int z)) (nI_1 i), trivial⟩ (by have := ih (i + 1) (by omega); unfold scrR at this; rw [if_pos ((lg_cmp_eq _ _).mp c_36), if_pos c_57] at this; exact this)
        · skip
          refine g_lconst h (i := 38) rfl (v := 1) (by rfl) ?_
          refine g_goto h (i := 39) 65 rfl rfl ?_
          refine g_last h (i := 41) rfl (lq_row hL) (vp_in_nI (by omega) (by omega)) ?_
          refine g_w _ (sRow_ux _ _ _ _ (n := 4 + pI (cf 17 i)) (nI_clamp (by omega))) ?_
          refine g_iinc h (i := 42) rfl rfl (dv := 1) (by rfl) ?_
          refine g_goto h (i := 43) 13 rfl rfl ?_
          exact g_lv [(0, .ref a), (1, .int (nI (i + 1)))] ⟨rfl, congrArg (fun z => some (Value.int z)) (nI_1 i), trivial⟩ (by have := ih (i + 1) (by omega); unfold scrR at this; rw [if_pos ((lg_cmp_eq _ _).mp c_36), if_neg c_57] at this; exact this)
  refine g_aload_n h (i := 0) rfl rfl ?_
  refine g_getR h (i := 1) rfl fl_X10_7 (fun _ _ _ => rfl) (lk_R hL) (lr_row hL) ?_
  refine g_bipush h (i := 2) rfl (v := 29) (by rfl) ?_
  refine g_dup2 h (i := 3) rfl rfl rfl ?_
  refine g_lald h (i := 4) rfl (lq_row hL) (vpD (by decide)) ?_
  refine g_eql _ (sRow_jx _ _ _ (n := 29) (by rfl)) ?_
  refine g_lconst h (i := 5) rfl (v := 1) (by rfl) ?_
  refine g_ladd h (i := 6) rfl ?_
  refine g_last h (i := 7) rfl (lq_row hL) (vpD (by decide)) ?_
  refine g_w _ (sRow_ux _ _ _ _ (n := 29) (by rfl)) ?_
  refine g_iconst h (i := 8) rfl (v := 0) (by rfl) ?_
  refine g_istore_n h (i := 9) rfl hq rfl ?_
  exact g_lv [(0, .ref a), (1, .int (nI 0))] ⟨rfl, rfl, trivial⟩ (by have := key n0 0 (by omega); rw [hr1] at this; exact this)
