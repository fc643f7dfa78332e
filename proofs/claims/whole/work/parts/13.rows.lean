theorem clsT0 : ∀ C T, Cls 0 C T → T = TX0 := fun C T q => (congrArg (fun x => x.2.1) (Option.some.inj ((show some (RX0, TX0, cN 0) = some (C, T, cN 0) from q.1)))).symm
theorem clsT1 : ∀ C T, Cls 1 C T → T = TX1 := fun C T q => (congrArg (fun x => x.2.1) (Option.some.inj ((show some (RX1, TX1, cN 1) = some (C, T, cN 1) from q.1)))).symm
theorem clsT2 : ∀ C T, Cls 2 C T → T = TX2 := fun C T q => (congrArg (fun x => x.2.1) (Option.some.inj ((show some (RX2, TX2, cN 2) = some (C, T, cN 2) from q.1)))).symm
theorem clsT3 : ∀ C T, Cls 3 C T → T = TX3 := fun C T q => (congrArg (fun x => x.2.1) (Option.some.inj ((show some (RX3, TX3, cN 3) = some (C, T, cN 3) from q.1)))).symm
theorem clsT4 : ∀ C T, Cls 4 C T → T = TX4 := fun C T q => (congrArg (fun x => x.2.1) (Option.some.inj ((show some (RX4, TX4, cN 4) = some (C, T, cN 4) from q.1)))).symm
theorem clsT5 : ∀ C T, Cls 5 C T → T = TX5 := fun C T q => (congrArg (fun x => x.2.1) (Option.some.inj ((show some (RX5, TX5, cN 5) = some (C, T, cN 5) from q.1)))).symm
theorem clsT6 : ∀ C T, Cls 6 C T → T = TX6 := fun C T q => (congrArg (fun x => x.2.1) (Option.some.inj ((show some (RX6, TX6, cN 6) = some (C, T, cN 6) from q.1)))).symm
theorem clsT7 : ∀ C T, Cls 7 C T → T = TX7 := fun C T q => (congrArg (fun x => x.2.1) (Option.some.inj ((show some (RX7, TX7, cN 7) = some (C, T, cN 7) from q.1)))).symm
theorem clsT8 : ∀ C T, Cls 8 C T → T = TX8 := fun C T q => (congrArg (fun x => x.2.1) (Option.some.inj ((show some (RX8, TX8, cN 8) = some (C, T, cN 8) from q.1)))).symm
theorem clsT9 : ∀ C T, Cls 9 C T → T = TX9 := fun C T q => (congrArg (fun x => x.2.1) (Option.some.inj ((show some (RX9, TX9, cN 9) = some (C, T, cN 9) from q.1)))).symm
theorem clsT10 : ∀ C T, Cls 10 C T → T = TX10 := fun C T q => (congrArg (fun x => x.2.1) (Option.some.inj ((show some (RX10, TX10, cN 10) = some (C, T, cN 10) from q.1)))).symm
theorem nf_0_0 : ∀ C T, Cls 0 C T → (T 0).2.2.2 = false := fun C T q => by rw [clsT0 C T q]; rfl
theorem nf_0_1 : ∀ C T, Cls 0 C T → (T 1).2.2.2 = false := fun C T q => by rw [clsT0 C T q]; rfl
theorem nf_0_2 : ∀ C T, Cls 0 C T → (T 2).2.2.2 = false := fun C T q => by rw [clsT0 C T q]; rfl
theorem nf_0_3 : ∀ C T, Cls 0 C T → (T 3).2.2.2 = false := fun C T q => by rw [clsT0 C T q]; rfl
theorem nf_0_4 : ∀ C T, Cls 0 C T → (T 4).2.2.2 = false := fun C T q => by rw [clsT0 C T q]; rfl
theorem ff_1_0 : ∀ C T, Cls 1 C T → (T 0).2.2.2 = true ∧ (T 0).1 = RX1 := fun C T q => by rw [clsT1 C T q]; exact ⟨rfl, rfl⟩
theorem ff_1_1 : ∀ C T, Cls 1 C T → (T 1).2.2.2 = true ∧ (T 1).1 = RX1 := fun C T q => by rw [clsT1 C T q]; exact ⟨rfl, rfl⟩
theorem ff_1_2 : ∀ C T, Cls 1 C T → (T 2).2.2.2 = true ∧ (T 2).1 = RX1 := fun C T q => by rw [clsT1 C T q]; exact ⟨rfl, rfl⟩
theorem ff_1_3 : ∀ C T, Cls 1 C T → (T 3).2.2.2 = true ∧ (T 3).1 = RX1 := fun C T q => by rw [clsT1 C T q]; exact ⟨rfl, rfl⟩
theorem ff_1_4 : ∀ C T, Cls 1 C T → (T 4).2.2.2 = true ∧ (T 4).1 = RX1 := fun C T q => by rw [clsT1 C T q]; exact ⟨rfl, rfl⟩
theorem ff_1_5 : ∀ C T, Cls 1 C T → (T 5).2.2.2 = true ∧ (T 5).1 = RX1 := fun C T q => by rw [clsT1 C T q]; exact ⟨rfl, rfl⟩
theorem ff_1_6 : ∀ C T, Cls 1 C T → (T 6).2.2.2 = true ∧ (T 6).1 = RX1 := fun C T q => by rw [clsT1 C T q]; exact ⟨rfl, rfl⟩
theorem nf_2_0 : ∀ C T, Cls 2 C T → (T 0).2.2.2 = false := fun C T q => by rw [clsT2 C T q]; rfl
theorem nf_2_1 : ∀ C T, Cls 2 C T → (T 1).2.2.2 = false := fun C T q => by rw [clsT2 C T q]; rfl
theorem nf_2_2 : ∀ C T, Cls 2 C T → (T 2).2.2.2 = false := fun C T q => by rw [clsT2 C T q]; rfl
theorem nf_2_3 : ∀ C T, Cls 2 C T → (T 3).2.2.2 = false := fun C T q => by rw [clsT2 C T q]; rfl
theorem nf_2_4 : ∀ C T, Cls 2 C T → (T 4).2.2.2 = false := fun C T q => by rw [clsT2 C T q]; rfl
theorem nf_2_5 : ∀ C T, Cls 2 C T → (T 5).2.2.2 = false := fun C T q => by rw [clsT2 C T q]; rfl
theorem ff_3_0 : ∀ C T, Cls 3 C T → (T 0).2.2.2 = true ∧ (T 0).1 = RX3 := fun C T q => by rw [clsT3 C T q]; exact ⟨rfl, rfl⟩
theorem ff_3_1 : ∀ C T, Cls 3 C T → (T 1).2.2.2 = true ∧ (T 1).1 = RX3 := fun C T q => by rw [clsT3 C T q]; exact ⟨rfl, rfl⟩
theorem ff_3_2 : ∀ C T, Cls 3 C T → (T 2).2.2.2 = true ∧ (T 2).1 = RX3 := fun C T q => by rw [clsT3 C T q]; exact ⟨rfl, rfl⟩
theorem ff_3_3 : ∀ C T, Cls 3 C T → (T 3).2.2.2 = true ∧ (T 3).1 = RX3 := fun C T q => by rw [clsT3 C T q]; exact ⟨rfl, rfl⟩
theorem ff_3_4 : ∀ C T, Cls 3 C T → (T 4).2.2.2 = true ∧ (T 4).1 = RX3 := fun C T q => by rw [clsT3 C T q]; exact ⟨rfl, rfl⟩
theorem ff_3_5 : ∀ C T, Cls 3 C T → (T 5).2.2.2 = true ∧ (T 5).1 = RX3 := fun C T q => by rw [clsT3 C T q]; exact ⟨rfl, rfl⟩
theorem ff_3_6 : ∀ C T, Cls 3 C T → (T 6).2.2.2 = true ∧ (T 6).1 = RX3 := fun C T q => by rw [clsT3 C T q]; exact ⟨rfl, rfl⟩
theorem nf_3_7 : ∀ C T, Cls 3 C T → (T 7).2.2.2 = false := fun C T q => by rw [clsT3 C T q]; rfl
theorem nf_3_8 : ∀ C T, Cls 3 C T → (T 8).2.2.2 = false := fun C T q => by rw [clsT3 C T q]; rfl
theorem nf_3_9 : ∀ C T, Cls 3 C T → (T 9).2.2.2 = false := fun C T q => by rw [clsT3 C T q]; rfl
theorem nf_3_10 : ∀ C T, Cls 3 C T → (T 10).2.2.2 = false := fun C T q => by rw [clsT3 C T q]; rfl
theorem nf_3_11 : ∀ C T, Cls 3 C T → (T 11).2.2.2 = false := fun C T q => by rw [clsT3 C T q]; rfl
theorem nf_3_12 : ∀ C T, Cls 3 C T → (T 12).2.2.2 = false := fun C T q => by rw [clsT3 C T q]; rfl
theorem nf_3_13 : ∀ C T, Cls 3 C T → (T 13).2.2.2 = false := fun C T q => by rw [clsT3 C T q]; rfl
theorem nf_3_14 : ∀ C T, Cls 3 C T → (T 14).2.2.2 = false := fun C T q => by rw [clsT3 C T q]; rfl
theorem nf_3_15 : ∀ C T, Cls 3 C T → (T 15).2.2.2 = false := fun C T q => by rw [clsT3 C T q]; rfl
theorem nf_3_16 : ∀ C T, Cls 3 C T → (T 16).2.2.2 = false := fun C T q => by rw [clsT3 C T q]; rfl
theorem nf_3_17 : ∀ C T, Cls 3 C T → (T 17).2.2.2 = false := fun C T q => by rw [clsT3 C T q]; rfl
theorem ff_4_0 : ∀ C T, Cls 4 C T → (T 0).2.2.2 = true ∧ (T 0).1 = RX4 := fun C T q => by rw [clsT4 C T q]; exact ⟨rfl, rfl⟩
theorem ff_4_1 : ∀ C T, Cls 4 C T → (T 1).2.2.2 = true ∧ (T 1).1 = RX4 := fun C T q => by rw [clsT4 C T q]; exact ⟨rfl, rfl⟩
theorem nf_4_2 : ∀ C T, Cls 4 C T → (T 2).2.2.2 = false := fun C T q => by rw [clsT4 C T q]; rfl
theorem nf_4_3 : ∀ C T, Cls 4 C T → (T 3).2.2.2 = false := fun C T q => by rw [clsT4 C T q]; rfl
theorem nf_4_4 : ∀ C T, Cls 4 C T → (T 4).2.2.2 = false := fun C T q => by rw [clsT4 C T q]; rfl
theorem nf_4_5 : ∀ C T, Cls 4 C T → (T 5).2.2.2 = false := fun C T q => by rw [clsT4 C T q]; rfl
theorem nf_5_0 : ∀ C T, Cls 5 C T → (T 0).2.2.2 = false := fun C T q => by rw [clsT5 C T q]; rfl
theorem ff_5_1 : ∀ C T, Cls 5 C T → (T 1).2.2.2 = true ∧ (T 1).1 = RX5 := fun C T q => by rw [clsT5 C T q]; exact ⟨rfl, rfl⟩
theorem ff_6_0 : ∀ C T, Cls 6 C T → (T 0).2.2.2 = true ∧ (T 0).1 = RX6 := fun C T q => by rw [clsT6 C T q]; exact ⟨rfl, rfl⟩
theorem ff_6_1 : ∀ C T, Cls 6 C T → (T 1).2.2.2 = true ∧ (T 1).1 = RX6 := fun C T q => by rw [clsT6 C T q]; exact ⟨rfl, rfl⟩
theorem ff_6_2 : ∀ C T, Cls 6 C T → (T 2).2.2.2 = true ∧ (T 2).1 = RX6 := fun C T q => by rw [clsT6 C T q]; exact ⟨rfl, rfl⟩
theorem nf_6_3 : ∀ C T, Cls 6 C T → (T 3).2.2.2 = false := fun C T q => by rw [clsT6 C T q]; rfl
theorem ff_7_0 : ∀ C T, Cls 7 C T → (T 0).2.2.2 = true ∧ (T 0).1 = RX7 := fun C T q => by rw [clsT7 C T q]; exact ⟨rfl, rfl⟩
theorem ff_7_1 : ∀ C T, Cls 7 C T → (T 1).2.2.2 = true ∧ (T 1).1 = RX7 := fun C T q => by rw [clsT7 C T q]; exact ⟨rfl, rfl⟩
theorem ff_7_2 : ∀ C T, Cls 7 C T → (T 2).2.2.2 = true ∧ (T 2).1 = RX7 := fun C T q => by rw [clsT7 C T q]; exact ⟨rfl, rfl⟩
theorem nf_7_3 : ∀ C T, Cls 7 C T → (T 3).2.2.2 = false := fun C T q => by rw [clsT7 C T q]; rfl
theorem nf_8_0 : ∀ C T, Cls 8 C T → (T 0).2.2.2 = false := fun C T q => by rw [clsT8 C T q]; rfl
theorem nf_8_1 : ∀ C T, Cls 8 C T → (T 1).2.2.2 = false := fun C T q => by rw [clsT8 C T q]; rfl
theorem ff_9_0 : ∀ C T, Cls 9 C T → (T 0).2.2.2 = true ∧ (T 0).1 = RX9 := fun C T q => by rw [clsT9 C T q]; exact ⟨rfl, rfl⟩
theorem ff_9_1 : ∀ C T, Cls 9 C T → (T 1).2.2.2 = true ∧ (T 1).1 = RX9 := fun C T q => by rw [clsT9 C T q]; exact ⟨rfl, rfl⟩
theorem ff_9_2 : ∀ C T, Cls 9 C T → (T 2).2.2.2 = true ∧ (T 2).1 = RX9 := fun C T q => by rw [clsT9 C T q]; exact ⟨rfl, rfl⟩
theorem ff_9_3 : ∀ C T, Cls 9 C T → (T 3).2.2.2 = true ∧ (T 3).1 = RX9 := fun C T q => by rw [clsT9 C T q]; exact ⟨rfl, rfl⟩
theorem ff_9_4 : ∀ C T, Cls 9 C T → (T 4).2.2.2 = true ∧ (T 4).1 = RX9 := fun C T q => by rw [clsT9 C T q]; exact ⟨rfl, rfl⟩
theorem ff_9_5 : ∀ C T, Cls 9 C T → (T 5).2.2.2 = true ∧ (T 5).1 = RX9 := fun C T q => by rw [clsT9 C T q]; exact ⟨rfl, rfl⟩
theorem ff_9_6 : ∀ C T, Cls 9 C T → (T 6).2.2.2 = true ∧ (T 6).1 = RX9 := fun C T q => by rw [clsT9 C T q]; exact ⟨rfl, rfl⟩
theorem ff_9_7 : ∀ C T, Cls 9 C T → (T 7).2.2.2 = true ∧ (T 7).1 = RX9 := fun C T q => by rw [clsT9 C T q]; exact ⟨rfl, rfl⟩
theorem ff_10_0 : ∀ C T, Cls 10 C T → (T 0).2.2.2 = true ∧ (T 0).1 = RX10 := fun C T q => by rw [clsT10 C T q]; exact ⟨rfl, rfl⟩
theorem ff_10_1 : ∀ C T, Cls 10 C T → (T 1).2.2.2 = true ∧ (T 1).1 = RX10 := fun C T q => by rw [clsT10 C T q]; exact ⟨rfl, rfl⟩
theorem ff_10_2 : ∀ C T, Cls 10 C T → (T 2).2.2.2 = true ∧ (T 2).1 = RX10 := fun C T q => by rw [clsT10 C T q]; exact ⟨rfl, rfl⟩
theorem ff_10_3 : ∀ C T, Cls 10 C T → (T 3).2.2.2 = true ∧ (T 3).1 = RX10 := fun C T q => by rw [clsT10 C T q]; exact ⟨rfl, rfl⟩
theorem ff_10_4 : ∀ C T, Cls 10 C T → (T 4).2.2.2 = true ∧ (T 4).1 = RX10 := fun C T q => by rw [clsT10 C T q]; exact ⟨rfl, rfl⟩
theorem ff_10_5 : ∀ C T, Cls 10 C T → (T 5).2.2.2 = true ∧ (T 5).1 = RX10 := fun C T q => by rw [clsT10 C T q]; exact ⟨rfl, rfl⟩
theorem ff_10_6 : ∀ C T, Cls 10 C T → (T 6).2.2.2 = true ∧ (T 6).1 = RX10 := fun C T q => by rw [clsT10 C T q]; exact ⟨rfl, rfl⟩
theorem ff_10_7 : ∀ C T, Cls 10 C T → (T 7).2.2.2 = true ∧ (T 7).1 = RX10 := fun C T q => by rw [clsT10 C T q]; exact ⟨rfl, rfl⟩
theorem ff_10_8 : ∀ C T, Cls 10 C T → (T 8).2.2.2 = true ∧ (T 8).1 = RX10 := fun C T q => by rw [clsT10 C T q]; exact ⟨rfl, rfl⟩
theorem ff_10_9 : ∀ C T, Cls 10 C T → (T 9).2.2.2 = true ∧ (T 9).1 = RX10 := fun C T q => by rw [clsT10 C T q]; exact ⟨rfl, rfl⟩
theorem ff_10_10 : ∀ C T, Cls 10 C T → (T 10).2.2.2 = true ∧ (T 10).1 = RX10 := fun C T q => by rw [clsT10 C T q]; exact ⟨rfl, rfl⟩
theorem ff_10_11 : ∀ C T, Cls 10 C T → (T 11).2.2.2 = true ∧ (T 11).1 = RX10 := fun C T q => by rw [clsT10 C T q]; exact ⟨rfl, rfl⟩
theorem nf_10_12 : ∀ C T, Cls 10 C T → (T 12).2.2.2 = false := fun C T q => by rw [clsT10 C T q]; rfl
theorem ff_10_13 : ∀ C T, Cls 10 C T → (T 13).2.2.2 = true ∧ (T 13).1 = RX10 := fun C T q => by rw [clsT10 C T q]; exact ⟨rfl, rfl⟩
theorem ff_10_14 : ∀ C T, Cls 10 C T → (T 14).2.2.2 = true ∧ (T 14).1 = RX10 := fun C T q => by rw [clsT10 C T q]; exact ⟨rfl, rfl⟩
theorem ff_10_15 : ∀ C T, Cls 10 C T → (T 15).2.2.2 = true ∧ (T 15).1 = RX10 := fun C T q => by rw [clsT10 C T q]; exact ⟨rfl, rfl⟩
theorem nf_10_16 : ∀ C T, Cls 10 C T → (T 16).2.2.2 = false := fun C T q => by rw [clsT10 C T q]; rfl
theorem ff_10_17 : ∀ C T, Cls 10 C T → (T 17).2.2.2 = true ∧ (T 17).1 = RX10 := fun C T q => by rw [clsT10 C T q]; exact ⟨rfl, rfl⟩
theorem ff_10_18 : ∀ C T, Cls 10 C T → (T 18).2.2.2 = true ∧ (T 18).1 = RX10 := fun C T q => by rw [clsT10 C T q]; exact ⟨rfl, rfl⟩
theorem ff_10_19 : ∀ C T, Cls 10 C T → (T 19).2.2.2 = true ∧ (T 19).1 = RX10 := fun C T q => by rw [clsT10 C T q]; exact ⟨rfl, rfl⟩
theorem nf_10_20 : ∀ C T, Cls 10 C T → (T 20).2.2.2 = false := fun C T q => by rw [clsT10 C T q]; rfl
theorem nf_10_21 : ∀ C T, Cls 10 C T → (T 21).2.2.2 = false := fun C T q => by rw [clsT10 C T q]; rfl
theorem ff_10_22 : ∀ C T, Cls 10 C T → (T 22).2.2.2 = true ∧ (T 22).1 = RX10 := fun C T q => by rw [clsT10 C T q]; exact ⟨rfl, rfl⟩
theorem ff_10_23 : ∀ C T, Cls 10 C T → (T 23).2.2.2 = true ∧ (T 23).1 = RX10 := fun C T q => by rw [clsT10 C T q]; exact ⟨rfl, rfl⟩
theorem nf_10_24 : ∀ C T, Cls 10 C T → (T 24).2.2.2 = false := fun C T q => by rw [clsT10 C T q]; rfl
theorem nf_10_25 : ∀ C T, Cls 10 C T → (T 25).2.2.2 = false := fun C T q => by rw [clsT10 C T q]; rfl
theorem nf_10_26 : ∀ C T, Cls 10 C T → (T 26).2.2.2 = false := fun C T q => by rw [clsT10 C T q]; rfl
theorem nf_10_27 : ∀ C T, Cls 10 C T → (T 27).2.2.2 = false := fun C T q => by rw [clsT10 C T q]; rfl
theorem ff_10_28 : ∀ C T, Cls 10 C T → (T 28).2.2.2 = true ∧ (T 28).1 = RX10 := fun C T q => by rw [clsT10 C T q]; exact ⟨rfl, rfl⟩
theorem ff_10_29 : ∀ C T, Cls 10 C T → (T 29).2.2.2 = true ∧ (T 29).1 = RX10 := fun C T q => by rw [clsT10 C T q]; exact ⟨rfl, rfl⟩
theorem g_callVx {X : Cx} {cc : ByteArray} {own mname : String} {ret : Option FieldType} {il : List (Nat × Instr × Nat)} {ce sl pc : Nat} {lv : Nat → Option Value} {rest : List Value} {w w0 : Wd} (h : Ok X cc own mname ret il) {R0 : Room} {l0 : Launch} {E0 : EE} {P0 : Option Value → Wd → Prop} {mc0 ms0 nL0 : Nat} (hq : Is X R0 l0 E0 P0 mc0 ms0 nL0) (i : Nat) {index b ci n maxL : Nat} {C : String} {T : u_T} {y : MethodName} {bytes : ByteArray} {ret2 : Option FieldType} {rm : Room} {v : Value} {As st : List Value} (hi : il[i]? = some (pc, .invokevirtual index, 3)) (hm : MV own index C y bytes maxL ret2 n) (hC : Cls ci C T) (hk : wK w b = some (.inl ci)) (hc : Ct l0 E0 y bytes maxL ret2 rm (.ref b :: As) w 0 0 (Px (some v) w0)) (hst : st = As.reverse ++ .ref b :: rest) (hn : As.length = n) (hrm : Fits rm maxL R0 0 0) (hrest : (rest.map fun v => v.category).sum ≤ 8) (hcs : ce ≤ R0.cells ∧ sl ≤ R0.slots) (k : G X ce sl (pc + 3) lv (v :: rest) w0) : G X ce sl pc lv st w :=
  g_callV h i hq As hi hm hC hk hc hn hrm hrest hcs hst (fun r w' hp => by obtain ⟨rfl, rfl⟩ := hp; exact k)
theorem g_callSx {X : Cx} {cc : ByteArray} {own mname : String} {ret : Option FieldType} {il : List (Nat × Instr × Nat)} {ce sl pc : Nat} {lv : Nat → Option Value} {rest : List Value} {w w0 : Wd} (h : Ok X cc own mname ret il) {R0 : Room} {l0 : Launch} {E0 : EE} {P0 : Option Value → Wd → Prop} {mc0 ms0 nL0 : Nat} (hq : Is X R0 l0 E0 P0 mc0 ms0 nL0) (i : Nat) {index n maxL : Nat} {y : MethodName} {bytes : ByteArray} {ret2 : Option FieldType} {rm : Room} {v : Value} {As st : List Value} (hi : il[i]? = some (pc, .invokestatic index, 3)) (hm : MS own index y bytes maxL ret2 n) (hc : Ct l0 E0 y bytes maxL ret2 rm As w 0 0 (Px (some v) w0)) (hst : st = As.reverse ++ rest) (hn : As.length = n) (hrm : Fits rm maxL R0 0 0) (hrest : (rest.map fun v => v.category).sum ≤ 8) (hcs : ce ≤ R0.cells ∧ sl ≤ R0.slots) (k : G X ce sl (pc + 3) lv (v :: rest) w0) : G X ce sl pc lv st w :=
  g_callS h i hq As hi hm hc hn hrm hrest hcs hst (fun r w' hp => by obtain ⟨rfl, rfl⟩ := hp; exact k)
theorem g_callVn {X : Cx} {cc : ByteArray} {own mname : String} {ret : Option FieldType} {il : List (Nat × Instr × Nat)} {ce sl pc : Nat} {lv : Nat → Option Value} {rest : List Value} {w w0 : Wd} (h : Ok X cc own mname ret il) {R0 : Room} {l0 : Launch} {E0 : EE} {P0 : Option Value → Wd → Prop} {mc0 ms0 nL0 : Nat} (hq : Is X R0 l0 E0 P0 mc0 ms0 nL0) (i : Nat) {index b ci n maxL : Nat} {C : String} {T : u_T} {y : MethodName} {bytes : ByteArray} {ret2 : Option FieldType} {rm : Room} {As st : List Value} (hi : il[i]? = some (pc, .invokevirtual index, 3)) (hm : MV own index C y bytes maxL ret2 n) (hC : Cls ci C T) (hk : wK w b = some (.inl ci)) (hc : Ct l0 E0 y bytes maxL ret2 rm (.ref b :: As) w 0 0 (Px none w0)) (hst : st = As.reverse ++ .ref b :: rest) (hn : As.length = n) (hrm : Fits rm maxL R0 0 0) (hrest : (rest.map fun v => v.category).sum ≤ 8) (hcs : ce ≤ R0.cells ∧ sl ≤ R0.slots) (k : G X ce sl (pc + 3) lv (rest) w0) : G X ce sl pc lv st w :=
  g_callV h i hq As hi hm hC hk hc hn hrm hrest hcs hst (fun r w' hp => by obtain ⟨rfl, rfl⟩ := hp; exact k)
theorem g_callSn {X : Cx} {cc : ByteArray} {own mname : String} {ret : Option FieldType} {il : List (Nat × Instr × Nat)} {ce sl pc : Nat} {lv : Nat → Option Value} {rest : List Value} {w w0 : Wd} (h : Ok X cc own mname ret il) {R0 : Room} {l0 : Launch} {E0 : EE} {P0 : Option Value → Wd → Prop} {mc0 ms0 nL0 : Nat} (hq : Is X R0 l0 E0 P0 mc0 ms0 nL0) (i : Nat) {index n maxL : Nat} {y : MethodName} {bytes : ByteArray} {ret2 : Option FieldType} {rm : Room} {As st : List Value} (hi : il[i]? = some (pc, .invokestatic index, 3)) (hm : MS own index y bytes maxL ret2 n) (hc : Ct l0 E0 y bytes maxL ret2 rm As w 0 0 (Px none w0)) (hst : st = As.reverse ++ rest) (hn : As.length = n) (hrm : Fits rm maxL R0 0 0) (hrest : (rest.map fun v => v.category).sum ≤ 8) (hcs : ce ≤ R0.cells ∧ sl ≤ R0.slots) (k : G X ce sl (pc + 3) lv (rest) w0) : G X ce sl pc lv st w :=
  g_callS h i hq As hi hm hc hn hrm hrest hcs hst (fun r w' hp => by obtain ⟨rfl, rfl⟩ := hp; exact k)
theorem g_callVp {X : Cx} {cc : ByteArray} {own mname : String} {ret : Option FieldType} {il : List (Nat × Instr × Nat)} {ce sl pc : Nat} {lv : Nat → Option Value} {rest : List Value} {w w0 : Wd} (h : Ok X cc own mname ret il) {R0 : Room} {l0 : Launch} {E0 : EE} {P0 : Option Value → Wd → Prop} {mc0 ms0 nL0 : Nat} (hq : Is X R0 l0 E0 P0 mc0 ms0 nL0) (i : Nat) {index b ci n maxL : Nat} {C : String} {T : u_T} {y : MethodName} {bytes : ByteArray} {ret2 : Option FieldType} {rm : Room} {P2 : Option Value → Wd → Prop} {As st : List Value} (hi : il[i]? = some (pc, .invokevirtual index, 3)) (hm : MV own index C y bytes maxL ret2 n) (hC : Cls ci C T) (hk : wK w b = some (.inl ci)) (hc : Ct l0 E0 y bytes maxL ret2 rm (.ref b :: As) w 0 0 P2) (hst : st = As.reverse ++ .ref b :: rest) (hn : As.length = n) (hrm : Fits rm maxL R0 0 0) (hrest : (rest.map fun v => v.category).sum ≤ 8) (hcs : ce ≤ R0.cells ∧ sl ≤ R0.slots) (k : ∀ r w', P2 r w' → G X ce sl (pc + 3) lv (r.toList ++ rest) w') : G X ce sl pc lv st w :=
  g_callV h i hq As hi hm hC hk hc hn hrm hrest hcs hst k
theorem wj_abs_s : Cond.static Lib.Math.abs.name ∈ lw_ok := lw_in (List.mem_of_getElem? (i := 499) (by decide +kernel)) rfl
theorem wj_abs_c : Cond.code Lib.Math.abs.name Lib.Math.abs.code 1 (some .int) ∈ lw_ok := lw_in (List.mem_of_getElem? (i := 500) (by decide +kernel)) rfl
theorem wj_max_s : Cond.static Lib.Math.max.name ∈ lw_ok := lw_in (List.mem_of_getElem? (i := 502) (by decide +kernel)) rfl
theorem wj_max_c : Cond.code Lib.Math.max.name Lib.Math.max.code 2 (some .int) ∈ lw_ok := lw_in (List.mem_of_getElem? (i := 503) (by decide +kernel)) rfl
theorem wj_math : Cond.initialized "java/lang/Math" ∈ lw_ok := lw_in (List.mem_of_getElem? (i := 48) (by decide +kernel)) rfl
theorem wj_sys : Cond.initialized "java/lang/System" ∈ lw_ok := lw_in (List.mem_of_getElem? (i := 47) (by decide +kernel)) rfl
theorem wj_cp_s : Cond.static arraycopyName ∈ lw_ok := lw_in (List.mem_of_getElem? (i := 481) (by decide +kernel)) rfl
theorem wj_cp_n : Cond.native arraycopyName ∈ lw_ok := lw_in (List.mem_of_getElem? (i := 482) (by decide +kernel)) rfl
theorem ml_X9_1 : Cond.methodLink RX9 1 objectInit ∈ lw_ok := lw_in (List.mem_of_getElem? (i := 54) (by decide +kernel)) rfl
theorem ml_X1_3 : Cond.methodLink RX1 3 objectInit ∈ lw_ok := lw_in (List.mem_of_getElem? (i := 62) (by decide +kernel)) rfl
theorem ml_X6_3 : Cond.methodLink RX6 3 objectInit ∈ lw_ok := lw_in (List.mem_of_getElem? (i := 74) (by decide +kernel)) rfl
theorem ml_X7_3 : Cond.methodLink RX7 3 objectInit ∈ lw_ok := lw_in (List.mem_of_getElem? (i := 99) (by decide +kernel)) rfl
theorem ml_X8_3 : Cond.methodLink RX8 3 objectInit ∈ lw_ok := lw_in (List.mem_of_getElem? (i := 120) (by decide +kernel)) rfl
theorem ml_X2_1 : Cond.methodLink RX2 1 objectInit ∈ lw_ok := lw_in (List.mem_of_getElem? (i := 134) (by decide +kernel)) rfl
theorem ml_X0_1 : Cond.methodLink RX0 1 objectInit ∈ lw_ok := lw_in (List.mem_of_getElem? (i := 170) (by decide +kernel)) rfl
theorem ml_X5_3 : Cond.methodLink RX5 3 objectInit ∈ lw_ok := lw_in (List.mem_of_getElem? (i := 193) (by decide +kernel)) rfl
theorem ml_X3_3 : Cond.methodLink RX3 3 objectInit ∈ lw_ok := lw_in (List.mem_of_getElem? (i := 236) (by decide +kernel)) rfl
theorem ml_X4_3 : Cond.methodLink RX4 3 objectInit ∈ lw_ok := lw_in (List.mem_of_getElem? (i := 242) (by decide +kernel)) rfl
theorem ml_X9_151 : Cond.methodLink RX9 151 arraycopyName ∈ lw_ok := lw_in (List.mem_of_getElem? (i := 480) (by decide +kernel)) rfl
theorem ml_X4_31 : Cond.methodLink RX4 31 Lib.Math.abs.name ∈ lw_ok := lw_in (List.mem_of_getElem? (i := 498) (by decide +kernel)) rfl
theorem ml_X4_40 : Cond.methodLink RX4 40 Lib.Math.max.name ∈ lw_ok := lw_in (List.mem_of_getElem? (i := 501) (by decide +kernel)) rfl
theorem ml_X1_166 : Cond.methodLink RX1 166 Lib.Math.abs.name ∈ lw_ok := lw_in (List.mem_of_getElem? (i := 606) (by decide +kernel)) rfl
theorem ml_X3_80 : Cond.methodLink RX3 80 arraycopyName ∈ lw_ok := lw_in (List.mem_of_getElem? (i := 670) (by decide +kernel)) rfl
theorem ml_X4_53 : Cond.methodLink RX4 53 arraycopyName ∈ lw_ok := lw_in (List.mem_of_getElem? (i := 675) (by decide +kernel)) rfl
theorem ml_X10_1 : Cond.methodLink RX10 1 objectInit ∈ lw_ok := lw_in (List.mem_of_getElem? (i := 720) (by decide +kernel)) rfl
theorem g_mabs {X : Cx} {cc : ByteArray} {own mname : String} {ret : Option FieldType} {il : List (Nat × Instr × Nat)} {ce sl pc : Nat} {lv : Nat → Option Value} {rest : List Value} {w w0 : Wd} (h : Ok X cc own mname ret il) {R0 : Room} {l0 : Launch} {E0 : EE} {P0 : Option Value → Wd → Prop} {mc0 ms0 nL0 : Nat} (hq : Is X R0 l0 E0 P0 mc0 ms0 nL0) (i : Nat) {index : Nat} {x : Int32} (hi : il[i]? = some (pc, .invokestatic index, 3)) (hm : Cond.methodLink own index Lib.Math.abs.name ∈ lw_ok) (hR : Nat.ble 1 R0.frames = true ∧ (rest.map fun v => v.category).sum + 13 ≤ R0.locals ∧ ce ≤ R0.cells ∧ sl ≤ R0.slots) (k : G X ce sl (pc + 3) lv (.int (if 0 ≤ x then x else 0 - x) :: rest) w) : G X ce sl pc lv (.int x :: rest) w := by
  obtain ⟨p, l, e, R, s, m, args, below, meth, c, E, P, mc, ms, nL⟩ := X
  obtain ⟨hx, hb, hml, hown, hts, hlk, hrt, hK, hd, hlo, hmn⟩ := h
  obtain ⟨q1, q2, q3, -⟩ := hq
  subst q1; subst q2; subst q3
  intro H locs ls hl hP hS
  exact va_mabs hx hb (hml.trans hl.1.symm) hown (hts _ hm) (hts _ wj_abs_s) (hts _ wj_math) (hts _ wj_abs_c) (Nat.le_of_ble_eq_true hR.1) hR.2.1 hR.2.2.1 hR.2.2.2 (dkm hd hi) (k H locs ls hl hP hS)
theorem g_mmax {X : Cx} {cc : ByteArray} {own mname : String} {ret : Option FieldType} {il : List (Nat × Instr × Nat)} {ce sl pc : Nat} {lv : Nat → Option Value} {rest : List Value} {w w0 : Wd} (h : Ok X cc own mname ret il) {R0 : Room} {l0 : Launch} {E0 : EE} {P0 : Option Value → Wd → Prop} {mc0 ms0 nL0 : Nat} (hq : Is X R0 l0 E0 P0 mc0 ms0 nL0) (i : Nat) {index : Nat} {x y : Int32} (hi : il[i]? = some (pc, .invokestatic index, 3)) (hm : Cond.methodLink own index Lib.Math.max.name ∈ lw_ok) (hR : Nat.ble 1 R0.frames = true ∧ (rest.map fun v => v.category).sum + 13 ≤ R0.locals ∧ ce ≤ R0.cells ∧ sl ≤ R0.slots) (k : G X ce sl (pc + 3) lv (.int (if x < y then y else x) :: rest) w) : G X ce sl pc lv (.int y :: .int x :: rest) w := by
  obtain ⟨p, l, e, R, s, m, args, below, meth, c, E, P, mc, ms, nL⟩ := X
  obtain ⟨hx, hb, hml, hown, hts, hlk, hrt, hK, hd, hlo, hmn⟩ := h
  obtain ⟨q1, q2, q3, -⟩ := hq
  subst q1; subst q2; subst q3
  intro H locs ls hl hP hS
  exact va_mmax hx hb (hml.trans hl.1.symm) hown (hts _ hm) (hts _ wj_max_s) (hts _ wj_math) (hts _ wj_max_c) (Nat.le_of_ble_eq_true hR.1) hR.2.1 hR.2.2.1 hR.2.2.2 (dkm hd hi) (k H locs ls hl hP hS)
def cpI (w : Wd) (a b n : Nat) : Wd := (w.1, w.2.1, w.2.2.1, (fun x y => if x = b ∧ y < n then w.2.2.2.1 a y else w.2.2.2.1 x y), w.2.2.2.2.1, w.2.2.2.2.2)
def cpJ (w : Wd) (a b n : Nat) : Wd := (w.1, w.2.1, w.2.2.1, w.2.2.2.1, (fun x y => if x = b ∧ y < n then w.2.2.2.2.1 a y else w.2.2.2.2.1 x y), w.2.2.2.2.2)
theorem g_copyI {X : Cx} {cc : ByteArray} {own mname : String} {ret : Option FieldType} {il : List (Nat × Instr × Nat)} {ce sl pc : Nat} {lv : Nat → Option Value} {rest : List Value} {w w0 : Wd} (h : Ok X cc own mname ret il) {R0 : Room} {l0 : Launch} {E0 : EE} {P0 : Option Value → Wd → Prop} {mc0 ms0 nL0 : Nat} (hq : Is X R0 l0 E0 P0 mc0 ms0 nL0) (i : Nat) {index a b n n0 n1 : Nat} {n32 : Int32} (hi : il[i]? = some (pc, .invokestatic index, 3)) (hm : Cond.methodLink own index arraycopyName ∈ lw_ok) (ha : wK w a = some (.inr (0, n0))) (hbk : wK w b = some (.inr (0, n1))) (hn : n32 = nI n) (hn2 : n < 2 ^ 31) (h0 : n ≤ n0) (h1 : n ≤ n1) (hR : Nat.ble 1 R0.frames = true ∧ (rest.map fun v => v.category).sum + (nativeFrameWords "java/lang/System" "arraycopy" 5 + 11) ≤ R0.locals) (k : G X ce sl (pc + 3) lv rest (cpI w a b n)) : G X ce sl pc lv (.int n32 :: .int 0 :: .ref b :: .int 0 :: .ref a :: rest) w := by
  obtain ⟨p, l, e, R, s, m, args, below, meth, c, E, P, mc, ms, nL⟩ := X
  obtain ⟨hx, hb, hml, hown, hts, hlk, hrt, hK, hd, hlo, hmn⟩ := h
  obtain ⟨q1, q2, q3, -⟩ := hq
  subst q1; subst q2; subst q3
  intro H locs ls hl hP hS
  subst hn
  have hc0 := (PM_at hP (ent_arr ha)).2
  obtain ⟨hle, hc1⟩ := PM_at hP (ent_arr hbk)
  have hcl : (nI n).toNatClampNeg = n := nI_clamp hn2
  have hz : (0 : Int32).toNatClampNeg = 0 := by decide
  obtain ⟨-, k0, hk0, cm0, hkk0⟩ := (hK.2 0 _ (tys_at (by decide))).1 n0 (fun j => .int (wI w a j))
  obtain ⟨-, k1, hk1, cm1, hkk1⟩ := (hK.2 0 _ (tys_at (by decide))).1 n1 (fun j => .int (wI w b j))
  intro T hT X
  obtain ⟨vm', X', step⟩ := X.arraycopy hx hown (hts _ hm) (hts _ wj_cp_n) (hts _ wj_cp_s) (hts _ wj_sys) (src := a) (dst := b) (cs := arrV (E.2.1 0) n0 (fun j => .int (wI w a j))) (cd := arrV (E.2.1 0) n1 (fun j => .int (wI w b j))) (srcPos := 0) (destPos := 0) (n := nI n) (by rw [hT]; exact hc0) (by rw [hT]; exact hc1)
    (fun _ h => by cases h) (fun _ h => by cases h) (fun h => by cases h) (fun h => by cases h) hk0 hk1 hkk0 hkk1 (by simp [tA, refKind]) (by decide) (by decide) (nI_pos hn2)
    (by rw [nI_toInt hn2, arrV_size]; show ¬ ((0 : Int) + _ > _); omega)
    (by rw [nI_toInt hn2, arrV_size]; show ¬ ((0 : Int) + _ > _); omega)
    (fun vm₁ _ i hi => by
      rw [hcl] at hi
      have e : (arrV (E.2.1 0) n0 (fun j => .int (wI w a j))).slots.getD ((0 : Int32).toNatClampNeg + i) .null = .int (wI w a i) := by
        rw [Array.getD_eq_getD_getElem?, hz, Nat.zero_add, arrV_read _ _ (by omega)]
        rfl
      refine ⟨?_, ?_⟩
      · rw [e]
        rfl
      · rw [e]
        exact trivial)
    (g := F0 m pc ls (.int (nI n) :: .int 0 :: .ref b :: .int 0 :: .ref a :: rest)) rfl (by show ls.size = _; rw [hml]; exact hl.1) (rest := rest) rfl (by rw [hb]; exact dkm hd hi) (Nat.le_of_ble_eq_true hR.1) (by have h9 := hR.2; change _ ≤ R.locals at h9; show 2 * 0 + _ + _ ≤ R.locals; omega)
  have e1 : copied (arrV (E.2.1 0) n0 (fun j => .int (wI w a j))) (arrV (E.2.1 0) n1 (fun j => .int (wI w b j))) 0 0 (nI n) = arrV (E.2.1 0) n1 (fun j => .int (va_cpy (wI w a) (wI w b) 0 0 n j)) := by
    have h9 : (arrV (E.2.1 0) n1 (fun j => .int (wI w b j))).storeRun ((0 : Int32).toNatClampNeg) ((arrV (E.2.1 0) n0 (fun j => .int (wI w a j))).stretch ((0 : Int32).toNatClampNeg) ((nI n).toNatClampNeg)) = _ := va_copied (fun z => .int z) (E.2.1 0) (E.2.1 0) (n0 := n0) (n1 := n1) (wI w a) (wI w b) (show (0 : Int32).toNatClampNeg + (nI n).toNatClampNeg ≤ n0 by rw [hz, hcl]; omega)
    refine (show copied _ _ 0 0 (nI n) = _ from h9).trans ?_
    rw [hz, hcl]
  rw [e1] at X' step
  have hl2 : b < H.size := (Array.getElem?_eq_some_iff.mp hc1).1
  have oq : ∀ (q : Nat) (z : Cell), q ≠ b → (H.setIfInBounds b z)[q]? = H[q]? := fun q z hq => by simp [Array.getElem?_setIfInBounds, Ne.symm hq]
  have hheap : ∀ z : Cell, ((T.setVm vm').setCell b z).heap = H.setIfInBounds b z := fun z => by rw [← hT]; rfl
  have hPM : PM E (cpI w a b n) (H.setIfInBounds b (arrV (E.2.1 0) n1 (fun j => .int (va_cpy (wI w a) (wI w b) 0 0 n j)))) := by
    refine PM_put (a := b) hP (by simp) (fun q hq => oq q _ hq) rfl (fun q hq => ent_c rfl (fun k2 => ?_) (fun k2 => ?_) (fun k2 => ?_) (fun k2 => ?_)) (fun y hy => ?_)
    · rfl
    · exact if_neg (fun z => hq z.1)
    · rfl
    · rfl
    · have hk' : wK (cpI w a b n) b = some (.inr (0, n1)) := hbk
      rw [ent_arr hk'] at hy
      obtain rfl := Option.some.inj hy
      refine ⟨hle, ?_⟩
      show (H.setIfInBounds b _)[b]? = some (vp_cell _ _)
      rw [Array.getElem?_setIfInBounds, if_pos rfl, if_pos hl2]
      show some (arrV (E.2.1 0) n1 (fun j => .int (va_cpy (wI w a) (wI w b) 0 0 n j))) = some (arrV (E.2.1 0) n1 (fun j => .int (wI (cpI w a b n) b j)))
      congr 2
      funext q
      show Value.int (if 0 ≤ q ∧ q < 0 + n then wI w a (0 + (q - 0)) else wI w b q) = Value.int (if b = b ∧ q < n then wI w a q else wI w b q)
      simp
  obtain ⟨t, a1, b1⟩ := k _ _ ls hl hPM ⟨by simp; exact hS.1, fun q g1 g2 => by
      rw [oq q _ (fun e => g2 (by rw [e]; exact hle))]
      exact hS.2.1 q g1 g2, fun q hq => by
      rcases List.mem_append.mp hq with h | h
      · exact hS.2.2 q h
      · obtain ⟨z, -, hz⟩ := List.mem_map.mp h
        rw [← hz]
        exact hle⟩ _ (hheap _) X'
  exact ⟨t, step t a1, b1⟩
theorem g_copyJ {X : Cx} {cc : ByteArray} {own mname : String} {ret : Option FieldType} {il : List (Nat × Instr × Nat)} {ce sl pc : Nat} {lv : Nat → Option Value} {rest : List Value} {w w0 : Wd} (h : Ok X cc own mname ret il) {R0 : Room} {l0 : Launch} {E0 : EE} {P0 : Option Value → Wd → Prop} {mc0 ms0 nL0 : Nat} (hq : Is X R0 l0 E0 P0 mc0 ms0 nL0) (i : Nat) {index a b n n0 n1 : Nat} {n32 : Int32} (hi : il[i]? = some (pc, .invokestatic index, 3)) (hm : Cond.methodLink own index arraycopyName ∈ lw_ok) (ha : wK w a = some (.inr (2, n0))) (hbk : wK w b = some (.inr (2, n1))) (hn : n32 = nI n) (hn2 : n < 2 ^ 31) (h0 : n ≤ n0) (h1 : n ≤ n1) (hR : Nat.ble 1 R0.frames = true ∧ (rest.map fun v => v.category).sum + (nativeFrameWords "java/lang/System" "arraycopy" 5 + 11) ≤ R0.locals) (k : G X ce sl (pc + 3) lv rest (cpJ w a b n)) : G X ce sl pc lv (.int n32 :: .int 0 :: .ref b :: .int 0 :: .ref a :: rest) w := by
  obtain ⟨p, l, e, R, s, m, args, below, meth, c, E, P, mc, ms, nL⟩ := X
  obtain ⟨hx, hb, hml, hown, hts, hlk, hrt, hK, hd, hlo, hmn⟩ := h
  obtain ⟨q1, q2, q3, -⟩ := hq
  subst q1; subst q2; subst q3
  intro H locs ls hl hP hS
  subst hn
  have hc0 := (PM_at hP (ent_arr ha)).2
  obtain ⟨hle, hc1⟩ := PM_at hP (ent_arr hbk)
  have hcl : (nI n).toNatClampNeg = n := nI_clamp hn2
  have hz : (0 : Int32).toNatClampNeg = 0 := by decide
  obtain ⟨-, k0, hk0, cm0, hkk0⟩ := (hK.2 2 _ (tys_at (by decide))).1 n0 (fun j => .long (wJ w a j))
  obtain ⟨-, k1, hk1, cm1, hkk1⟩ := (hK.2 2 _ (tys_at (by decide))).1 n1 (fun j => .long (wJ w b j))
  intro T hT X
  obtain ⟨vm', X', step⟩ := X.arraycopy hx hown (hts _ hm) (hts _ wj_cp_n) (hts _ wj_cp_s) (hts _ wj_sys) (src := a) (dst := b) (cs := arrV (E.2.1 2) n0 (fun j => .long (wJ w a j))) (cd := arrV (E.2.1 2) n1 (fun j => .long (wJ w b j))) (srcPos := 0) (destPos := 0) (n := nI n) (by rw [hT]; exact hc0) (by rw [hT]; exact hc1)
    (fun _ h => by cases h) (fun _ h => by cases h) (fun h => by cases h) (fun h => by cases h) hk0 hk1 hkk0 hkk1 (by simp [tA, refKind]) (by decide) (by decide) (nI_pos hn2)
    (by rw [nI_toInt hn2, arrV_size]; show ¬ ((0 : Int) + _ > _); omega)
    (by rw [nI_toInt hn2, arrV_size]; show ¬ ((0 : Int) + _ > _); omega)
    (fun vm₁ _ i hi => by
      rw [hcl] at hi
      have e : (arrV (E.2.1 2) n0 (fun j => .long (wJ w a j))).slots.getD ((0 : Int32).toNatClampNeg + i) .null = .long (wJ w a i) := by
        rw [Array.getD_eq_getD_getElem?, hz, Nat.zero_add, arrV_read _ _ (by omega)]
        rfl
      refine ⟨?_, ?_⟩
      · rw [e]
        rfl
      · rw [e]
        exact trivial)
    (g := F0 m pc ls (.int (nI n) :: .int 0 :: .ref b :: .int 0 :: .ref a :: rest)) rfl (by show ls.size = _; rw [hml]; exact hl.1) (rest := rest) rfl (by rw [hb]; exact dkm hd hi) (Nat.le_of_ble_eq_true hR.1) (by have h9 := hR.2; change _ ≤ R.locals at h9; show 2 * 0 + _ + _ ≤ R.locals; omega)
  have e1 : copied (arrV (E.2.1 2) n0 (fun j => .long (wJ w a j))) (arrV (E.2.1 2) n1 (fun j => .long (wJ w b j))) 0 0 (nI n) = arrV (E.2.1 2) n1 (fun j => .long (va_cpy (wJ w a) (wJ w b) 0 0 n j)) := by
    have h9 : (arrV (E.2.1 2) n1 (fun j => .long (wJ w b j))).storeRun ((0 : Int32).toNatClampNeg) ((arrV (E.2.1 2) n0 (fun j => .long (wJ w a j))).stretch ((0 : Int32).toNatClampNeg) ((nI n).toNatClampNeg)) = _ := va_copied (fun z => .long z) (E.2.1 2) (E.2.1 2) (n0 := n0) (n1 := n1) (wJ w a) (wJ w b) (show (0 : Int32).toNatClampNeg + (nI n).toNatClampNeg ≤ n0 by rw [hz, hcl]; omega)
    refine (show copied _ _ 0 0 (nI n) = _ from h9).trans ?_
    rw [hz, hcl]
  rw [e1] at X' step
  have hl2 : b < H.size := (Array.getElem?_eq_some_iff.mp hc1).1
  have oq : ∀ (q : Nat) (z : Cell), q ≠ b → (H.setIfInBounds b z)[q]? = H[q]? := fun q z hq => by simp [Array.getElem?_setIfInBounds, Ne.symm hq]
  have hheap : ∀ z : Cell, ((T.setVm vm').setCell b z).heap = H.setIfInBounds b z := fun z => by rw [← hT]; rfl
  have hPM : PM E (cpJ w a b n) (H.setIfInBounds b (arrV (E.2.1 2) n1 (fun j => .long (va_cpy (wJ w a) (wJ w b) 0 0 n j)))) := by
    refine PM_put (a := b) hP (by simp) (fun q hq => oq q _ hq) rfl (fun q hq => ent_c rfl (fun k2 => ?_) (fun k2 => ?_) (fun k2 => ?_) (fun k2 => ?_)) (fun y hy => ?_)
    · rfl
    · rfl
    · exact if_neg (fun z => hq z.1)
    · rfl
    · have hk' : wK (cpJ w a b n) b = some (.inr (2, n1)) := hbk
      rw [ent_arr hk'] at hy
      obtain rfl := Option.some.inj hy
      refine ⟨hle, ?_⟩
      show (H.setIfInBounds b _)[b]? = some (vp_cell _ _)
      rw [Array.getElem?_setIfInBounds, if_pos rfl, if_pos hl2]
      show some (arrV (E.2.1 2) n1 (fun j => .long (va_cpy (wJ w a) (wJ w b) 0 0 n j))) = some (arrV (E.2.1 2) n1 (fun j => .long (wJ (cpJ w a b n) b j)))
      congr 2
      funext q
      show Value.long (if 0 ≤ q ∧ q < 0 + n then wJ w a (0 + (q - 0)) else wJ w b q) = Value.long (if b = b ∧ q < n then wJ w a q else wJ w b q)
      simp
  obtain ⟨t, a1, b1⟩ := k _ _ ls hl hPM ⟨by simp; exact hS.1, fun q g1 g2 => by
      rw [oq q _ (fun e => g2 (by rw [e]; exact hle))]
      exact hS.2.1 q g1 g2, fun q hq => by
      rcases List.mem_append.mp hq with h | h
      · exact hS.2.2 q h
      · obtain ⟨z, -, hz⟩ := List.mem_map.mp h
        rw [← hz]
        exact hle⟩ _ (hheap _) X'
  exact ⟨t, step t a1, b1⟩
