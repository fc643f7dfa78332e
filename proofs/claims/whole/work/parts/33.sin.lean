theorem kf_C : fk 4529031901805048957 = .fin false 7417875925070973 (-70) := by decide +kernel
theorem kg_C : FG 1004 1057 4529031901805048957 := ⟨_, _, _, kf_C, by decide +kernel, by decide +kernel⟩
theorem kf_s0 : fk 13818544856648471893 = .fin true 6004799503160661 (-55) := by decide +kernel
theorem kg_s0 : FG 1019 1072 13818544856648471893 := ⟨_, _, _, kf_s0, by decide +kernel, by decide +kernel⟩
theorem kf_s1 : fk 4575957461383581969 = .fin false 4803839602528529 (-59) := by decide +kernel
theorem kg_s1 : FG 1015 1068 4575957461383581969 := ⟨_, _, _, kf_s1, by decide +kernel, by decide +kernel⟩
theorem kf_s2 : fk 13774824197408792602 = .fin true 7320136537186330 (-65) := by decide +kernel
theorem kg_s2 : FG 1009 1062 13774824197408792602 := ⟨_, _, _, kf_s2, by decide +kernel, by decide +kernel⟩
theorem kf_s3 : fk 4523617214285662004 = .fin false 6506788033054516 (-71) := by decide +kernel
theorem kg_s3 : FG 1003 1056 4523617214285662004 := ⟨_, _, _, kf_s3, by decide +kernel, by decide +kernel⟩
theorem kf_s4 : fk 13716528800881525988 = .fin true 7571535165736164 (-78) := by decide +kernel
theorem kg_s4 : FG 996 1049 13716528800881525988 := ⟨_, _, _, kf_s4, by decide +kernel, by decide +kernel⟩
theorem kf_c0 : fk 13826050856027422720 = .fin true 4503599627370496 (-53) := by decide +kernel
theorem kg_c0 : FG 1021 1073 13826050856027422720 := ⟨_, _, _, kf_c0, by decide +kernel, by decide +kernel⟩
theorem kf_c1 : fk 4586165620538955093 = .fin false 6004799503160661 (-57) := by decide +kernel
theorem kg_c1 : FG 1017 1070 4586165620538955093 := ⟨_, _, _, kf_c1, by decide +kernel, by decide +kernel⟩
theorem kf_c2 : fk 13787419979223755799 = .fin true 6405119470038039 (-62) := by decide +kernel
theorem kg_c2 : FG 1012 1065 13787419979223755799 := ⟨_, _, _, kf_c2, by decide +kernel, by decide +kernel⟩
theorem kf_c3 : fk 4537941361671905306 = .fin false 7320136537186330 (-68) := by decide +kernel
theorem kg_c3 : FG 1006 1059 4537941361671905306 := ⟨_, _, _, kf_c3, by decide +kernel, by decide +kernel⟩
theorem kf_c4 : fk 13732177094651715420 = .fin true 5205430426443612 (-74) := by decide +kernel
theorem kg_c4 : FG 1000 1053 13732177094651715420 := ⟨_, _, _, kf_c4, by decide +kernel, by decide +kernel⟩
theorem kf_c5 : fk 4477122120089393304 = .fin false 5047690110490776 (-81) := by decide +kernel
theorem kg_c5 : FG 993 1046 4477122120089393304 := ⟨_, _, _, kf_c5, by decide +kernel, by decide +kernel⟩
theorem kf_1 : fk FP.dconst1 = .fin false 4503599627370496 (-52) := by decide +kernel
theorem kg_1 : FG 1022 1074 FP.dconst1 := ⟨_, _, _, kf_1, by decide +kernel, by decide +kernel⟩
theorem kf_0 : fk FP.dconst0 = .fin false 0 (-1074) := by decide +kernel
theorem kg_0 (G E : Nat) : FG G E FP.dconst0 := ⟨_, _, _, kf_0, by rw [Nat.zero_mul]; exact Nat.dvd_zero _, by rw [Nat.zero_mul]; exact Nat.zero_le _⟩
/-- no sign -/
def SP (x : UInt64) : Prop := ∃ c q, fk x = .fin false c q
theorem SP.nz {x : UInt64} (h : SP x) : NZ x := by
  obtain ⟨c, q, h⟩ := h
  intro s d r h2 _
  rw [h] at h2
  cases h2
  rfl
theorem kn_0 : NZ FP.dconst0 := SP.nz ⟨_, _, kf_0⟩
theorem fp_rsign {s : Bool} {c N E : Nat} {q : Int} (hN : c ≠ 0 → fpN c q N ∧ N ≤ 2 ^ E) (hE2 : E ≤ 2040) {x : UInt64} (hx : x = UInt64.ofNat (FP.Core.encode FP.Core.b64 (FP.Core.round FP.Core.b64 (.fin s c q)))) : ∃ c' q', fk x = .fin s c' q' := by
  rcases Nat.eq_zero_or_pos c with h | h
  · subst h
    rw [fp_r0] at hx
    exact ⟨_, _, by rw [hx]; exact fk_of fpF0⟩
  · obtain ⟨g1, g2⟩ := hN (by omega)
    obtain ⟨c', q', e1, e2, -⟩ := fp_round (s := s) h g1 g2 hE2
    rw [e1] at hx
    exact ⟨c', q', by rw [hx]; exact fk_of e2⟩
theorem sp_mul {x y : UInt64} {G1 G2 E1 E2 : Nat} (hx : FG G1 E1 x) (hy : FG G2 E2 y) (hG : 1074 ≤ G1 + G2) (hE1 : 1074 ≤ E1 + E2) (hE : E1 + E2 - 1074 ≤ 2040) (sx : SP x) (sy : SP y) : SP (FP.dmul x y) := by
  obtain ⟨s, c, q, h1, h2, h3⟩ := fg_mul hx hy hG hE1 hE
  obtain ⟨c1, q1, e1⟩ := sx
  obtain ⟨c2, q2, e2⟩ := sy
  have hp : FP.Core.exactProduct (fk x) (fk y) = .fin false (c1 * c2) (q1 + q2) := by rw [e1, e2]; rfl
  rw [fk_dmul, hp] at h1
  have hs : FP.Core.round FP.Core.b64 (.fin false (c1 * c2) (q1 + q2)) = FP.Core.round FP.Core.b64 (.fin false (c1 * c2) (q1 + q2)) := rfl
  refine ⟨c, q, ?_⟩
  have key : ∃ c' q', fk (FP.dmul x y) = .fin false c' q' := by
    rcases Nat.eq_zero_or_pos (c1 * c2) with h | h
    · rw [fk_dmul, hp, h, fp_r0]
      exact ⟨_, _, fk_of fpF0⟩
    · obtain ⟨s1, d1, r1, g1, g2, g3⟩ := hx
      obtain ⟨s2, d2, r2, k1, k2, k3⟩ := hy
      rw [e1] at g1
      rw [e2] at k1
      cases g1
      cases k1
      have q1b := (fp_dec e1).2.1
      have q2b := (fp_dec e2).2.1
      obtain ⟨a, ha⟩ : ∃ a : Nat, (q1 + 1074).toNat = a := ⟨_, rfl⟩
      obtain ⟨b, hb⟩ : ∃ b : Nat, (q2 + 1074).toNat = b := ⟨_, rfl⟩
      rw [ha] at g2 g3
      rw [hb] at k2 k3
      have hd : 2 ^ (G1 + G2) ∣ c1 * 2 ^ a * (c2 * 2 ^ b) := by rw [Nat.pow_add]; exact Nat.mul_dvd_mul g2 k2
      obtain ⟨N, hN⟩ := Nat.dvd_trans (Nat.pow_dvd_pow 2 hG) hd
      have hle : c1 * 2 ^ a * (c2 * 2 ^ b) ≤ 2 ^ (E1 + E2) := by rw [Nat.pow_add]; exact Nat.mul_le_mul g3 k3
      refine fp_rsign (N := N) (E := E1 + E2 - 1074) (fun _ => ⟨?_, ?_⟩) hE (by rw [fk_dmul, hp])
      · unfold fpN
        have e : c1 * c2 * 2 ^ (a + b) = N * 2 ^ 1074 := by
          rw [Nat.pow_add, Nat.mul_comm N, ← hN]
          ac_rfl
        rcases Int.lt_or_le (q1 + q2) (-1074) with g | g
        · rw [show (q1 + q2 + 1074).toNat = 0 by omega, Nat.pow_zero, Nat.mul_one]
          refine Nat.eq_of_mul_eq_mul_right (Nat.two_pow_pos (a + b)) ?_
          rw [e, Nat.mul_assoc, ← Nat.pow_add, show (-1074 - (q1 + q2)).toNat + (a + b) = 1074 by omega]
        · rw [show (-1074 - (q1 + q2)).toNat = 0 by omega, Nat.pow_zero, Nat.mul_one]
          refine Nat.eq_of_mul_eq_mul_right (Nat.two_pow_pos 1074) ?_
          rw [← e, Nat.mul_assoc, ← Nat.pow_add, show (q1 + q2 + 1074).toNat + 1074 = a + b by omega]
      · refine Nat.le_of_mul_le_mul_left (c := 2 ^ 1074) ?_ (Nat.two_pow_pos _)
        rw [← hN, ← Nat.pow_add, show 1074 + (E1 + E2 - 1074) = E1 + E2 by omega]
        exact hle
  obtain ⟨c', q', g⟩ := key
  rw [fk_dmul, hp, h1] at g
  cases g
  rw [fk_dmul, hp]
  exact h1
/-- 1.0 and what is at most a half in size -/
theorem sp_one {y : UInt64} {G : Nat} (hG : G ≤ 1022) (hy : FG G 1073 y) : SP (FP.dadd FP.dconst1 y) := by
  obtain ⟨t, d, r, g1, g2, g3⟩ := hy
  have r1 := (fp_dec g1).2.1
  obtain ⟨e, he⟩ : ∃ e : Int, min (-52) r = e := ⟨_, rfl⟩
  obtain ⟨u, hu⟩ : ∃ u, FP.Core.inUnits 4503599627370496 (-52) e = u := ⟨_, rfl⟩
  obtain ⟨v, hv⟩ : ∃ v, FP.Core.inUnits d r e = v := ⟨_, rfl⟩
  obtain ⟨a, ha⟩ : ∃ a : Nat, (e + 1074).toNat = a := ⟨_, rfl⟩
  have eu0 : u * 2 ^ a = 4503599627370496 * 2 ^ ((-52 : Int) + 1074).toNat := by rw [← hu, ← ha]; exact fp_units (by omega) (by omega)
  have eu : u * 2 ^ a = 4503599627370496 * 2 ^ 1022 := eu0.trans (congrArg (fun n => 4503599627370496 * 2 ^ n) (show ((-52 : Int) + 1074).toNat = 1022 from by decide))
  have ev : v * 2 ^ a = d * 2 ^ (r + 1074).toNat := by rw [← hv, ← ha]; exact fp_units (by omega) (by omega)
  rw [← ev] at g3
  have e52 : 4503599627370496 * 2 ^ 1022 = 2 * 2 ^ 1073 := by decide +kernel
  have hlt : v < u := by
    refine Nat.lt_of_mul_lt_mul_right (a := 2 ^ a) ?_
    rw [eu, e52]
    have := Nat.two_pow_pos 1073
    omega
  obtain ⟨w, hw⟩ : ∃ w, FP.Core.sumUnits false 4503599627370496 (-52) t d r e = w := ⟨_, rfl⟩
  have hw2 : w = (u : Int) + (if t then -(v : Int) else (v : Int)) := by
    rw [← hw]
    unfold FP.Core.sumUnits
    rw [hu, hv]
    rfl
  have hw3 : 0 < w := by rw [hw2]; cases t <;> simp <;> omega
  have hx2 : FP.Core.exactSum (fk FP.dconst1) (fk y) = .fin false w.natAbs e := by
    rw [kf_1, g1]
    show FP.Core.Datum.fin (FP.Core.sumSign false t (FP.Core.sumUnits false 4503599627370496 (-52) t d r (min (-52) r))) (FP.Core.sumUnits false 4503599627370496 (-52) t d r (min (-52) r)).natAbs (min (-52) r) = _
    rw [he, hw]
    refine fp_eq ?_ rfl rfl
    unfold FP.Core.sumSign
    rw [if_neg (by omega)]
    exact decide_eq_false (by omega)
  refine fp_rsign (c := w.natAbs) (N := w.natAbs * 2 ^ a) (E := 1075) (fun _ => ⟨by unfold fpN; rw [show (-1074 - e).toNat = 0 by omega, ha, Nat.pow_zero, Nat.mul_one], ?_⟩) (by omega) (by rw [fk_dadd, hx2])
  have hm : w.natAbs ≤ u + v := by rw [hw2]; cases t <;> simp <;> omega
  have h9 := Nat.mul_le_mul_right (2 ^ a) hm
  rw [Nat.add_mul, eu, e52] at h9
  have e75 : 2 ^ 1075 = 4 * 2 ^ 1073 := by decide +kernel
  omega

theorem fp_ofInt (i : Int) : FP.Core.ofInt i = .fin (decide (i < 0)) i.natAbs 0 := rfl
theorem fk_i2d (x : Int32) : FP.i2d x = UInt64.ofNat (FP.Core.encode FP.Core.b64 (FP.Core.round FP.Core.b64 (.fin (decide (x.toInt < 0)) x.toInt.natAbs 0))) := rfl
theorem fk_l2d (x : Int64) : FP.l2d x = UInt64.ofNat (FP.Core.encode FP.Core.b64 (FP.Core.round FP.Core.b64 (.fin (decide (x.toInt < 0)) x.toInt.natAbs 0))) := rfl
theorem l2d_i2d {x : Int32} {y : Int64} (h : y.toInt = x.toInt) : FP.l2d y = FP.i2d x := by rw [fk_i2d, fk_l2d, h]
theorem fg_i2d {x : Int32} {k : Nat} (h : x.toInt.natAbs ≤ 2 ^ k) (hk : k ≤ 900) : FG 1074 (1074 + k) (FP.i2d x) ∧ NZ (FP.i2d x) := by
  have key := fg_round (s := decide (x.toInt < 0)) (c := x.toInt.natAbs) (q := 0) (N := x.toInt.natAbs * 2 ^ 1074) (G := 1074) (E := 1074 + k) (fun _ => ⟨by unfold fpN; rw [show (-1074 - 0 : Int).toNat = 0 by decide, show (0 + 1074 : Int).toNat = 1074 by decide, Nat.pow_zero, Nat.mul_one], by rw [Nat.pow_add, Nat.mul_comm]; exact Nat.mul_le_mul_left _ h, Nat.dvd_mul_left _ _⟩) (by omega) (fk_i2d x)
  refine ⟨key.1, key.2 ?_⟩
  rcases Nat.eq_zero_or_pos x.toInt.natAbs with g | g
  · right
    exact decide_eq_false (by omega)
  · left
    omega
theorem sp_i2d {x : Int32} (h0 : 0 ≤ x.toInt) (h : x.toInt.natAbs ≤ 2 ^ 31) : SP (FP.i2d x) := by
  have e : decide (x.toInt < 0) = false := decide_eq_false (by omega)
  have hx := fk_i2d x
  rw [e] at hx
  exact fp_rsign (N := x.toInt.natAbs * 2 ^ 1074) (E := 1105) (fun _ => ⟨by unfold fpN; rw [show (-1074 - 0 : Int).toNat = 0 by decide, show (0 + 1074 : Int).toNat = 1074 by decide, Nat.pow_zero, Nat.mul_one], by rw [show 1105 = 31 + 1074 by decide, Nat.pow_add]; exact Nat.mul_le_mul_right _ h⟩) (by omega) hx

def sA (p : Int32) : UInt64 := FP.dmul (FP.i2d p) 4529031901805048957
theorem fg_sA {p : Int32} (h0 : 0 ≤ p.toInt) (h : p.toInt ≤ 125000) : FG 1004 1074 (sA p) ∧ SP (sA p) := by
  have h1 := (fg_i2d (x := p) (k := 17) (by omega) (by omega)).1
  exact ⟨(fg_mul h1 kg_C (by omega) (by omega) (by omega)).mono (by omega) (by omega), sp_mul h1 kg_C (by omega) (by omega) (by omega) (sp_i2d h0 (by omega)) ⟨_, _, kf_C⟩⟩
theorem fg_sB {p : Int32} (h0 : 0 ≤ p.toInt) (h : p.toInt ≤ 125000) : FG 934 1074 (FP.dmul (sA p) (sA p)) := by
  have h1 := (fg_sA h0 h).1
  exact (fg_mul h1 h1 (by omega) (by omega) (by omega)).mono (by omega) (by omega)
def pS (a b : UInt64) : UInt64 := FP.dmul a (FP.dadd FP.dconst1 (FP.dmul b (FP.dadd 13818544856648471893 (FP.dmul b (FP.dadd 4575957461383581969 (FP.dmul b (FP.dadd 13774824197408792602 (FP.dmul b (FP.dadd 4523617214285662004 (FP.dmul b 13716528800881525988))))))))))
theorem fg_pS {a b : UInt64} (ha : FG 1004 1074 a) (sa : SP a) (hb : FG 934 1074 b) : (vf_n64 (FP.dmul b 13716528800881525988) ∧ vf_n64 (FP.dadd 4523617214285662004 (FP.dmul b 13716528800881525988)) ∧ vf_n64 (FP.dmul b (FP.dadd 4523617214285662004 (FP.dmul b 13716528800881525988))) ∧ vf_n64 (FP.dadd 13774824197408792602 (FP.dmul b (FP.dadd 4523617214285662004 (FP.dmul b 13716528800881525988)))) ∧ vf_n64 (FP.dmul b (FP.dadd 13774824197408792602 (FP.dmul b (FP.dadd 4523617214285662004 (FP.dmul b 13716528800881525988))))) ∧ vf_n64 (FP.dadd 4575957461383581969 (FP.dmul b (FP.dadd 13774824197408792602 (FP.dmul b (FP.dadd 4523617214285662004 (FP.dmul b 13716528800881525988)))))) ∧ vf_n64 (FP.dmul b (FP.dadd 4575957461383581969 (FP.dmul b (FP.dadd 13774824197408792602 (FP.dmul b (FP.dadd 4523617214285662004 (FP.dmul b 13716528800881525988))))))) ∧ vf_n64 (FP.dadd 13818544856648471893 (FP.dmul b (FP.dadd 4575957461383581969 (FP.dmul b (FP.dadd 13774824197408792602 (FP.dmul b (FP.dadd 4523617214285662004 (FP.dmul b 13716528800881525988)))))))) ∧ vf_n64 (FP.dmul b (FP.dadd 13818544856648471893 (FP.dmul b (FP.dadd 4575957461383581969 (FP.dmul b (FP.dadd 13774824197408792602 (FP.dmul b (FP.dadd 4523617214285662004 (FP.dmul b 13716528800881525988))))))))) ∧ vf_n64 (FP.dadd FP.dconst1 (FP.dmul b (FP.dadd 13818544856648471893 (FP.dmul b (FP.dadd 4575957461383581969 (FP.dmul b (FP.dadd 13774824197408792602 (FP.dmul b (FP.dadd 4523617214285662004 (FP.dmul b 13716528800881525988)))))))))) ∧ vf_n64 (pS a b)) ∧ FG 226 1075 (pS a b) ∧ SP (pS a b) := by
  have m5 : FG 856 1049 (FP.dmul b 13716528800881525988) := (fg_mul hb kg_s4 (by omega) (by omega) (by omega)).mono (by omega) (by omega)
  have a4 : FG 856 1057 (FP.dadd 4523617214285662004 (FP.dmul b 13716528800881525988)) := (fg_add (kg_s3.mono (G' := 856) (E' := 1056) (by omega) (by omega)) (m5.mono (by omega) (by omega)) (by omega)).1
  have m4 : FG 716 1057 (FP.dmul b (FP.dadd 4523617214285662004 (FP.dmul b 13716528800881525988))) := (fg_mul hb a4 (by omega) (by omega) (by omega)).mono (by omega) (by omega)
  have a3 : FG 716 1063 (FP.dadd 13774824197408792602 (FP.dmul b (FP.dadd 4523617214285662004 (FP.dmul b 13716528800881525988)))) := (fg_add (kg_s2.mono (G' := 716) (E' := 1062) (by omega) (by omega)) (m4.mono (by omega) (by omega)) (by omega)).1
  have m3 : FG 576 1063 (FP.dmul b (FP.dadd 13774824197408792602 (FP.dmul b (FP.dadd 4523617214285662004 (FP.dmul b 13716528800881525988))))) := (fg_mul hb a3 (by omega) (by omega) (by omega)).mono (by omega) (by omega)
  have a2 : FG 576 1069 (FP.dadd 4575957461383581969 (FP.dmul b (FP.dadd 13774824197408792602 (FP.dmul b (FP.dadd 4523617214285662004 (FP.dmul b 13716528800881525988)))))) := (fg_add (kg_s1.mono (G' := 576) (E' := 1068) (by omega) (by omega)) (m3.mono (by omega) (by omega)) (by omega)).1
  have m2 : FG 436 1069 (FP.dmul b (FP.dadd 4575957461383581969 (FP.dmul b (FP.dadd 13774824197408792602 (FP.dmul b (FP.dadd 4523617214285662004 (FP.dmul b 13716528800881525988))))))) := (fg_mul hb a2 (by omega) (by omega) (by omega)).mono (by omega) (by omega)
  have a1 : FG 436 1073 (FP.dadd 13818544856648471893 (FP.dmul b (FP.dadd 4575957461383581969 (FP.dmul b (FP.dadd 13774824197408792602 (FP.dmul b (FP.dadd 4523617214285662004 (FP.dmul b 13716528800881525988)))))))) := (fg_add (kg_s0.mono (G' := 436) (E' := 1072) (by omega) (by omega)) (m2.mono (by omega) (by omega)) (by omega)).1
  have m1 : FG 296 1073 (FP.dmul b (FP.dadd 13818544856648471893 (FP.dmul b (FP.dadd 4575957461383581969 (FP.dmul b (FP.dadd 13774824197408792602 (FP.dmul b (FP.dadd 4523617214285662004 (FP.dmul b 13716528800881525988))))))))) := (fg_mul hb a1 (by omega) (by omega) (by omega)).mono (by omega) (by omega)
  have a0 : FG 296 1075 (FP.dadd FP.dconst1 (FP.dmul b (FP.dadd 13818544856648471893 (FP.dmul b (FP.dadd 4575957461383581969 (FP.dmul b (FP.dadd 13774824197408792602 (FP.dmul b (FP.dadd 4523617214285662004 (FP.dmul b 13716528800881525988)))))))))) := (fg_add (kg_1.mono (G' := 296) (E' := 1074) (by omega) (by omega)) (m1.mono (by omega) (by omega)) (by omega)).1
  have h1 := sp_one (by omega) (m1.mono (G' := 296) (E' := 1073) (by omega) (by omega))
  have f : FG 226 1075 (pS a b) := (fg_mul ha a0 (by omega) (by omega) (by omega)).mono (by omega) (by omega)
  exact ⟨⟨m5.n64, a4.n64, m4.n64, a3.n64, m3.n64, a2.n64, m2.n64, a1.n64, m1.n64, a0.n64, f.n64⟩, f, sp_mul ha a0 (by omega) (by omega) (by omega) sa h1⟩
def pC (b : UInt64) : UInt64 := FP.dadd FP.dconst1 (FP.dmul b (FP.dadd 13826050856027422720 (FP.dmul b (FP.dadd 4586165620538955093 (FP.dmul b (FP.dadd 13787419979223755799 (FP.dmul b (FP.dadd 4537941361671905306 (FP.dmul b (FP.dadd 13732177094651715420 (FP.dmul b 4477122120089393304)))))))))))
theorem fg_pC {b : UInt64} (hb : FG 934 1074 b) : (vf_n64 (FP.dmul b 4477122120089393304) ∧ vf_n64 (FP.dadd 13732177094651715420 (FP.dmul b 4477122120089393304)) ∧ vf_n64 (FP.dmul b (FP.dadd 13732177094651715420 (FP.dmul b 4477122120089393304))) ∧ vf_n64 (FP.dadd 4537941361671905306 (FP.dmul b (FP.dadd 13732177094651715420 (FP.dmul b 4477122120089393304)))) ∧ vf_n64 (FP.dmul b (FP.dadd 4537941361671905306 (FP.dmul b (FP.dadd 13732177094651715420 (FP.dmul b 4477122120089393304))))) ∧ vf_n64 (FP.dadd 13787419979223755799 (FP.dmul b (FP.dadd 4537941361671905306 (FP.dmul b (FP.dadd 13732177094651715420 (FP.dmul b 4477122120089393304)))))) ∧ vf_n64 (FP.dmul b (FP.dadd 13787419979223755799 (FP.dmul b (FP.dadd 4537941361671905306 (FP.dmul b (FP.dadd 13732177094651715420 (FP.dmul b 4477122120089393304))))))) ∧ vf_n64 (FP.dadd 4586165620538955093 (FP.dmul b (FP.dadd 13787419979223755799 (FP.dmul b (FP.dadd 4537941361671905306 (FP.dmul b (FP.dadd 13732177094651715420 (FP.dmul b 4477122120089393304)))))))) ∧ vf_n64 (FP.dmul b (FP.dadd 4586165620538955093 (FP.dmul b (FP.dadd 13787419979223755799 (FP.dmul b (FP.dadd 4537941361671905306 (FP.dmul b (FP.dadd 13732177094651715420 (FP.dmul b 4477122120089393304))))))))) ∧ vf_n64 (FP.dadd 13826050856027422720 (FP.dmul b (FP.dadd 4586165620538955093 (FP.dmul b (FP.dadd 13787419979223755799 (FP.dmul b (FP.dadd 4537941361671905306 (FP.dmul b (FP.dadd 13732177094651715420 (FP.dmul b 4477122120089393304)))))))))) ∧ vf_n64 (FP.dmul b (FP.dadd 13826050856027422720 (FP.dmul b (FP.dadd 4586165620538955093 (FP.dmul b (FP.dadd 13787419979223755799 (FP.dmul b (FP.dadd 4537941361671905306 (FP.dmul b (FP.dadd 13732177094651715420 (FP.dmul b 4477122120089393304))))))))))) ∧ vf_n64 (FP.dadd FP.dconst1 (FP.dmul b (FP.dadd 13826050856027422720 (FP.dmul b (FP.dadd 4586165620538955093 (FP.dmul b (FP.dadd 13787419979223755799 (FP.dmul b (FP.dadd 4537941361671905306 (FP.dmul b (FP.dadd 13732177094651715420 (FP.dmul b 4477122120089393304))))))))))))) ∧ FG 153 1075 (pC b) ∧ NZ (pC b) := by
  have m6 : FG 853 1046 (FP.dmul b 4477122120089393304) := (fg_mul hb kg_c5 (by omega) (by omega) (by omega)).mono (by omega) (by omega)
  have a5 : FG 853 1054 (FP.dadd 13732177094651715420 (FP.dmul b 4477122120089393304)) := (fg_add (kg_c4.mono (G' := 853) (E' := 1053) (by omega) (by omega)) (m6.mono (by omega) (by omega)) (by omega)).1
  have m5 : FG 713 1054 (FP.dmul b (FP.dadd 13732177094651715420 (FP.dmul b 4477122120089393304))) := (fg_mul hb a5 (by omega) (by omega) (by omega)).mono (by omega) (by omega)
  have a4 : FG 713 1060 (FP.dadd 4537941361671905306 (FP.dmul b (FP.dadd 13732177094651715420 (FP.dmul b 4477122120089393304)))) := (fg_add (kg_c3.mono (G' := 713) (E' := 1059) (by omega) (by omega)) (m5.mono (by omega) (by omega)) (by omega)).1
  have m4 : FG 573 1060 (FP.dmul b (FP.dadd 4537941361671905306 (FP.dmul b (FP.dadd 13732177094651715420 (FP.dmul b 4477122120089393304))))) := (fg_mul hb a4 (by omega) (by omega) (by omega)).mono (by omega) (by omega)
  have a3 : FG 573 1066 (FP.dadd 13787419979223755799 (FP.dmul b (FP.dadd 4537941361671905306 (FP.dmul b (FP.dadd 13732177094651715420 (FP.dmul b 4477122120089393304)))))) := (fg_add (kg_c2.mono (G' := 573) (E' := 1065) (by omega) (by omega)) (m4.mono (by omega) (by omega)) (by omega)).1
  have m3 : FG 433 1066 (FP.dmul b (FP.dadd 13787419979223755799 (FP.dmul b (FP.dadd 4537941361671905306 (FP.dmul b (FP.dadd 13732177094651715420 (FP.dmul b 4477122120089393304))))))) := (fg_mul hb a3 (by omega) (by omega) (by omega)).mono (by omega) (by omega)
  have a2 : FG 433 1071 (FP.dadd 4586165620538955093 (FP.dmul b (FP.dadd 13787419979223755799 (FP.dmul b (FP.dadd 4537941361671905306 (FP.dmul b (FP.dadd 13732177094651715420 (FP.dmul b 4477122120089393304)))))))) := (fg_add (kg_c1.mono (G' := 433) (E' := 1070) (by omega) (by omega)) (m3.mono (by omega) (by omega)) (by omega)).1
  have m2 : FG 293 1071 (FP.dmul b (FP.dadd 4586165620538955093 (FP.dmul b (FP.dadd 13787419979223755799 (FP.dmul b (FP.dadd 4537941361671905306 (FP.dmul b (FP.dadd 13732177094651715420 (FP.dmul b 4477122120089393304))))))))) := (fg_mul hb a2 (by omega) (by omega) (by omega)).mono (by omega) (by omega)
  have a1 : FG 293 1074 (FP.dadd 13826050856027422720 (FP.dmul b (FP.dadd 4586165620538955093 (FP.dmul b (FP.dadd 13787419979223755799 (FP.dmul b (FP.dadd 4537941361671905306 (FP.dmul b (FP.dadd 13732177094651715420 (FP.dmul b 4477122120089393304)))))))))) := (fg_add (kg_c0.mono (G' := 293) (E' := 1073) (by omega) (by omega)) (m2.mono (by omega) (by omega)) (by omega)).1
  have m1 : FG 153 1074 (FP.dmul b (FP.dadd 13826050856027422720 (FP.dmul b (FP.dadd 4586165620538955093 (FP.dmul b (FP.dadd 13787419979223755799 (FP.dmul b (FP.dadd 4537941361671905306 (FP.dmul b (FP.dadd 13732177094651715420 (FP.dmul b 4477122120089393304))))))))))) := (fg_mul hb a1 (by omega) (by omega) (by omega)).mono (by omega) (by omega)
  have a0 : FG 153 1075 (FP.dadd FP.dconst1 (FP.dmul b (FP.dadd 13826050856027422720 (FP.dmul b (FP.dadd 4586165620538955093 (FP.dmul b (FP.dadd 13787419979223755799 (FP.dmul b (FP.dadd 4537941361671905306 (FP.dmul b (FP.dadd 13732177094651715420 (FP.dmul b 4477122120089393304)))))))))))) := (fg_add (kg_1.mono (G' := 153) (E' := 1074) (by omega) (by omega)) (m1.mono (by omega) (by omega)) (by omega)).1
  have nz : NZ (pC b) := (fg_add (kg_1.mono (G' := 153) (E' := 1080) (by omega) (by omega)) (m1.mono (by omega) (by omega)) (by omega)).2 (Or.inl (SP.nz ⟨_, _, kf_1⟩))
  exact ⟨⟨m6.n64, a5.n64, m5.n64, a4.n64, m4.n64, a3.n64, m3.n64, a2.n64, m2.n64, a1.n64, m1.n64, a0.n64⟩, a0, nz⟩
/-- the sine at p of 0 .. 250000, as the document writes it -/
def sP (p : Int32) : UInt64 := if 125000 < p then pC (FP.dmul (sA (250000 - p)) (sA (250000 - p))) else pS (sA p) (FP.dmul (sA p) (sA p))
