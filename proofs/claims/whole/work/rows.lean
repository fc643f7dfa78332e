section
-- ===== PART A: goes FIRST, ahead of the names: the tables' words, and 'selects' of the private methods out of them =====
/-- a private method of a class that the tables say can be made, by its rows of tables_1 -/
def lw_okq (q : MethodName × Nat) : Prop := (q.1.cls ≠ "java/lang/invoke/MethodHandle" ∧ q.1.cls ≠ "java/lang/invoke/VarHandle") ∧ Cond.instantiable q.1.cls q.2 ∈ tables_1 ∧ Cond.privateMethod q.1 ∈ tables_1 ∧ Cond.instanceMethod q.1 ∈ tables_1
theorem lw_p0 : lw_okq (⟨"ArmPendant", "isGoing", "()Z"⟩, 8) := ⟨⟨by decide +kernel, by decide +kernel⟩, List.mem_of_getElem? (i := 15) (by decide +kernel), List.mem_of_getElem? (i := 358) (by decide +kernel), List.mem_of_getElem? (i := 359) (by decide +kernel)⟩
theorem lw_p1 : lw_okq (⟨"ArmPendant$Cell", "carryOn", "(LArmPendant$Moment;)Z"⟩, 7) := ⟨⟨by decide +kernel, by decide +kernel⟩, List.mem_of_getElem? (i := 23) (by decide +kernel), List.mem_of_getElem? (i := 538) (by decide +kernel), List.mem_of_getElem? (i := 539) (by decide +kernel)⟩
theorem lw_p2 : lw_okq (⟨"ArmPendant$Cell", "carryOnGo", "(LArmPendant$Moment;)Z"⟩, 7) := ⟨⟨by decide +kernel, by decide +kernel⟩, List.mem_of_getElem? (i := 23) (by decide +kernel), List.mem_of_getElem? (i := 542) (by decide +kernel), List.mem_of_getElem? (i := 543) (by decide +kernel)⟩
theorem lw_p3 : lw_okq (⟨"ArmPendant$Cell", "err", "(LArmPendant$Moment;I)Z"⟩, 7) := ⟨⟨by decide +kernel, by decide +kernel⟩, List.mem_of_getElem? (i := 23) (by decide +kernel), List.mem_of_getElem? (i := 562) (by decide +kernel), List.mem_of_getElem? (i := 563) (by decide +kernel)⟩
theorem lw_p4 : lw_okq (⟨"ArmPendant$Cell", "carryOnWait", "(LArmPendant$Moment;)Z"⟩, 7) := ⟨⟨by decide +kernel, by decide +kernel⟩, List.mem_of_getElem? (i := 23) (by decide +kernel), List.mem_of_getElem? (i := 577) (by decide +kernel), List.mem_of_getElem? (i := 578) (by decide +kernel)⟩
theorem lw_p5 : lw_okq (⟨"ArmPendant$Cell", "doLine", "(LArmPendant$Moment;III)Z"⟩, 7) := ⟨⟨by decide +kernel, by decide +kernel⟩, List.mem_of_getElem? (i := 23) (by decide +kernel), List.mem_of_getElem? (i := 585) (by decide +kernel), List.mem_of_getElem? (i := 586) (by decide +kernel)⟩
theorem lw_p6 : lw_okq (⟨"ArmPendant$Cell", "beginGo", "(LArmPendant$Moment;LArmPendant$Pose;I)Z"⟩, 7) := ⟨⟨by decide +kernel, by decide +kernel⟩, List.mem_of_getElem? (i := 23) (by decide +kernel), List.mem_of_getElem? (i := 589) (by decide +kernel), List.mem_of_getElem? (i := 590) (by decide +kernel)⟩
theorem lw_p7 : lw_okq (⟨"ArmPendant$Cell", "beginWait", "(LArmPendant$Moment;I)Z"⟩, 7) := ⟨⟨by decide +kernel, by decide +kernel⟩, List.mem_of_getElem? (i := 23) (by decide +kernel), List.mem_of_getElem? (i := 599) (by decide +kernel), List.mem_of_getElem? (i := 600) (by decide +kernel)⟩
theorem lw_p8 : lw_okq (⟨"ArmPendant$Cell", "jump", "(LArmPendant$Moment;I)Z"⟩, 7) := ⟨⟨by decide +kernel, by decide +kernel⟩, List.mem_of_getElem? (i := 23) (by decide +kernel), List.mem_of_getElem? (i := 603) (by decide +kernel), List.mem_of_getElem? (i := 604) (by decide +kernel)⟩
theorem lw_p9 : lw_okq (⟨"ArmPendant$Cell", "call", "(LArmPendant$Moment;I)Z"⟩, 7) := ⟨⟨by decide +kernel, by decide +kernel⟩, List.mem_of_getElem? (i := 23) (by decide +kernel), List.mem_of_getElem? (i := 607) (by decide +kernel), List.mem_of_getElem? (i := 608) (by decide +kernel)⟩
theorem lw_p10 : lw_okq (⟨"ArmPendant$Cell", "comeBack", "(LArmPendant$Moment;)Z"⟩, 7) := ⟨⟨by decide +kernel, by decide +kernel⟩, List.mem_of_getElem? (i := 23) (by decide +kernel), List.mem_of_getElem? (i := 611) (by decide +kernel), List.mem_of_getElem? (i := 612) (by decide +kernel)⟩
theorem lw_p11 : lw_okq (⟨"ArmPendant", "canGoBackTo", "(I)Z"⟩, 8) := ⟨⟨by decide +kernel, by decide +kernel⟩, List.mem_of_getElem? (i := 15) (by decide +kernel), List.mem_of_getElem? (i := 653) (by decide +kernel), List.mem_of_getElem? (i := 654) (by decide +kernel)⟩
theorem lw_p12 : lw_okq (⟨"ArmPendant", "tickIfGoing", "(LArmPendant$Moment;)V"⟩, 8) := ⟨⟨by decide +kernel, by decide +kernel⟩, List.mem_of_getElem? (i := 15) (by decide +kernel), List.mem_of_getElem? (i := 662) (by decide +kernel), List.mem_of_getElem? (i := 663) (by decide +kernel)⟩
theorem lw_p13 : lw_okq (⟨"ArmPendantModel", "isJoint", "(I)Z"⟩, 30) := ⟨⟨by decide +kernel, by decide +kernel⟩, List.mem_of_getElem? (i := 692) (by decide +kernel), List.mem_of_getElem? (i := 796) (by decide +kernel), List.mem_of_getElem? (i := 797) (by decide +kernel)⟩
theorem lw_p14 : lw_okq (⟨"ArmPendantModel", "isGoing", "()Z"⟩, 30) := ⟨⟨by decide +kernel, by decide +kernel⟩, List.mem_of_getElem? (i := 692) (by decide +kernel), List.mem_of_getElem? (i := 804) (by decide +kernel), List.mem_of_getElem? (i := 805) (by decide +kernel)⟩
theorem lw_p15 : lw_okq (⟨"ArmPendantModel", "rowAt", "(I)I"⟩, 30) := ⟨⟨by decide +kernel, by decide +kernel⟩, List.mem_of_getElem? (i := 692) (by decide +kernel), List.mem_of_getElem? (i := 814) (by decide +kernel), List.mem_of_getElem? (i := 815) (by decide +kernel)⟩
def lw_privs_1 : List (MethodName × Nat) := [(⟨"ArmPendant", "isGoing", "()Z"⟩, 8), (⟨"ArmPendant$Cell", "carryOn", "(LArmPendant$Moment;)Z"⟩, 7), (⟨"ArmPendant$Cell", "carryOnGo", "(LArmPendant$Moment;)Z"⟩, 7), (⟨"ArmPendant$Cell", "err", "(LArmPendant$Moment;I)Z"⟩, 7), (⟨"ArmPendant$Cell", "carryOnWait", "(LArmPendant$Moment;)Z"⟩, 7), (⟨"ArmPendant$Cell", "doLine", "(LArmPendant$Moment;III)Z"⟩, 7), (⟨"ArmPendant$Cell", "beginGo", "(LArmPendant$Moment;LArmPendant$Pose;I)Z"⟩, 7), (⟨"ArmPendant$Cell", "beginWait", "(LArmPendant$Moment;I)Z"⟩, 7), (⟨"ArmPendant$Cell", "jump", "(LArmPendant$Moment;I)Z"⟩, 7), (⟨"ArmPendant$Cell", "call", "(LArmPendant$Moment;I)Z"⟩, 7), (⟨"ArmPendant$Cell", "comeBack", "(LArmPendant$Moment;)Z"⟩, 7), (⟨"ArmPendant", "canGoBackTo", "(I)Z"⟩, 8), (⟨"ArmPendant", "tickIfGoing", "(LArmPendant$Moment;)V"⟩, 8), (⟨"ArmPendantModel", "isJoint", "(I)Z"⟩, 30), (⟨"ArmPendantModel", "isGoing", "()Z"⟩, 30), (⟨"ArmPendantModel", "rowAt", "(I)I"⟩, 30)]
theorem lw_r1 : ∀ q ∈ lw_privs_1, lw_okq q := List.forall_mem_cons.mpr ⟨lw_p0, List.forall_mem_cons.mpr ⟨lw_p1, List.forall_mem_cons.mpr ⟨lw_p2, List.forall_mem_cons.mpr ⟨lw_p3, List.forall_mem_cons.mpr ⟨lw_p4, List.forall_mem_cons.mpr ⟨lw_p5, List.forall_mem_cons.mpr ⟨lw_p6, List.forall_mem_cons.mpr ⟨lw_p7, List.forall_mem_cons.mpr ⟨lw_p8, List.forall_mem_cons.mpr ⟨lw_p9, List.forall_mem_cons.mpr ⟨lw_p10, List.forall_mem_cons.mpr ⟨lw_p11, List.forall_mem_cons.mpr ⟨lw_p12, List.forall_mem_cons.mpr ⟨lw_p13, List.forall_mem_cons.mpr ⟨lw_p14, List.forall_mem_cons.mpr ⟨lw_p15, fun _ h => absurd h List.not_mem_nil⟩⟩⟩⟩⟩⟩⟩⟩⟩⟩⟩⟩⟩⟩⟩⟩
theorem lw_p16 : lw_okq (⟨"ArmPendantModel", "findTip", "()V"⟩, 30) := ⟨⟨by decide +kernel, by decide +kernel⟩, List.mem_of_getElem? (i := 692) (by decide +kernel), List.mem_of_getElem? (i := 831) (by decide +kernel), List.mem_of_getElem? (i := 832) (by decide +kernel)⟩
theorem lw_p17 : lw_okq (⟨"ArmPendantModel", "plans", "(II)V"⟩, 30) := ⟨⟨by decide +kernel, by decide +kernel⟩, List.mem_of_getElem? (i := 692) (by decide +kernel), List.mem_of_getElem? (i := 890) (by decide +kernel), List.mem_of_getElem? (i := 891) (by decide +kernel)⟩
theorem lw_p18 : lw_okq (⟨"ArmPendantModel", "ticks", "()V"⟩, 30) := ⟨⟨by decide +kernel, by decide +kernel⟩, List.mem_of_getElem? (i := 692) (by decide +kernel), List.mem_of_getElem? (i := 939) (by decide +kernel), List.mem_of_getElem? (i := 940) (by decide +kernel)⟩
theorem lw_p19 : lw_okq (⟨"ArmPendantModel", "goesTick", "()Z"⟩, 30) := ⟨⟨by decide +kernel, by decide +kernel⟩, List.mem_of_getElem? (i := 692) (by decide +kernel), List.mem_of_getElem? (i := 943) (by decide +kernel), List.mem_of_getElem? (i := 944) (by decide +kernel)⟩
theorem lw_p20 : lw_okq (⟨"ArmPendantModel", "isOn", "(I)Z"⟩, 30) := ⟨⟨by decide +kernel, by decide +kernel⟩, List.mem_of_getElem? (i := 692) (by decide +kernel), List.mem_of_getElem? (i := 947) (by decide +kernel), List.mem_of_getElem? (i := 948) (by decide +kernel)⟩
theorem lw_p21 : lw_okq (⟨"ArmPendantModel", "over", "()V"⟩, 30) := ⟨⟨by decide +kernel, by decide +kernel⟩, List.mem_of_getElem? (i := 692) (by decide +kernel), List.mem_of_getElem? (i := 951) (by decide +kernel), List.mem_of_getElem? (i := 952) (by decide +kernel)⟩
theorem lw_p22 : lw_okq (⟨"ArmPendantModel", "goesOn", "()V"⟩, 30) := ⟨⟨by decide +kernel, by decide +kernel⟩, List.mem_of_getElem? (i := 692) (by decide +kernel), List.mem_of_getElem? (i := 955) (by decide +kernel), List.mem_of_getElem? (i := 956) (by decide +kernel)⟩
theorem lw_p23 : lw_okq (⟨"ArmPendantModel", "isBarred", "()Z"⟩, 30) := ⟨⟨by decide +kernel, by decide +kernel⟩, List.mem_of_getElem? (i := 692) (by decide +kernel), List.mem_of_getElem? (i := 959) (by decide +kernel), List.mem_of_getElem? (i := 960) (by decide +kernel)⟩
theorem lw_p24 : lw_okq (⟨"ArmPendantModel", "isIn", "(I)Z"⟩, 30) := ⟨⟨by decide +kernel, by decide +kernel⟩, List.mem_of_getElem? (i := 692) (by decide +kernel), List.mem_of_getElem? (i := 963) (by decide +kernel), List.mem_of_getElem? (i := 964) (by decide +kernel)⟩
theorem lw_p25 : lw_okq (⟨"ArmPendantModel", "errs", "(I)V"⟩, 30) := ⟨⟨by decide +kernel, by decide +kernel⟩, List.mem_of_getElem? (i := 692) (by decide +kernel), List.mem_of_getElem? (i := 967) (by decide +kernel), List.mem_of_getElem? (i := 968) (by decide +kernel)⟩
theorem lw_p26 : lw_okq (⟨"ArmPendantModel", "doesLine", "()V"⟩, 30) := ⟨⟨by decide +kernel, by decide +kernel⟩, List.mem_of_getElem? (i := 692) (by decide +kernel), List.mem_of_getElem? (i := 972) (by decide +kernel), List.mem_of_getElem? (i := 973) (by decide +kernel)⟩
theorem lw_p27 : lw_okq (⟨"ArmPendantModel", "begins", "(II)V"⟩, 30) := ⟨⟨by decide +kernel, by decide +kernel⟩, List.mem_of_getElem? (i := 692) (by decide +kernel), List.mem_of_getElem? (i := 976) (by decide +kernel), List.mem_of_getElem? (i := 977) (by decide +kernel)⟩
theorem lw_p28 : lw_okq (⟨"ArmPendantModel", "isWithin", "(I)Z"⟩, 30) := ⟨⟨by decide +kernel, by decide +kernel⟩, List.mem_of_getElem? (i := 692) (by decide +kernel), List.mem_of_getElem? (i := 980) (by decide +kernel), List.mem_of_getElem? (i := 981) (by decide +kernel)⟩
theorem lw_p29 : lw_okq (⟨"ArmPendantModel", "goesTo", "(I)V"⟩, 30) := ⟨⟨by decide +kernel, by decide +kernel⟩, List.mem_of_getElem? (i := 692) (by decide +kernel), List.mem_of_getElem? (i := 984) (by decide +kernel), List.mem_of_getElem? (i := 985) (by decide +kernel)⟩
theorem lw_p30 : lw_okq (⟨"ArmPendantModel", "calls", "(I)V"⟩, 30) := ⟨⟨by decide +kernel, by decide +kernel⟩, List.mem_of_getElem? (i := 692) (by decide +kernel), List.mem_of_getElem? (i := 988) (by decide +kernel), List.mem_of_getElem? (i := 989) (by decide +kernel)⟩
theorem lw_p31 : lw_okq (⟨"ArmPendantModel", "comesBack", "()V"⟩, 30) := ⟨⟨by decide +kernel, by decide +kernel⟩, List.mem_of_getElem? (i := 692) (by decide +kernel), List.mem_of_getElem? (i := 993) (by decide +kernel), List.mem_of_getElem? (i := 994) (by decide +kernel)⟩
def lw_privs_2 : List (MethodName × Nat) := [(⟨"ArmPendantModel", "findTip", "()V"⟩, 30), (⟨"ArmPendantModel", "plans", "(II)V"⟩, 30), (⟨"ArmPendantModel", "ticks", "()V"⟩, 30), (⟨"ArmPendantModel", "goesTick", "()Z"⟩, 30), (⟨"ArmPendantModel", "isOn", "(I)Z"⟩, 30), (⟨"ArmPendantModel", "over", "()V"⟩, 30), (⟨"ArmPendantModel", "goesOn", "()V"⟩, 30), (⟨"ArmPendantModel", "isBarred", "()Z"⟩, 30), (⟨"ArmPendantModel", "isIn", "(I)Z"⟩, 30), (⟨"ArmPendantModel", "errs", "(I)V"⟩, 30), (⟨"ArmPendantModel", "doesLine", "()V"⟩, 30), (⟨"ArmPendantModel", "begins", "(II)V"⟩, 30), (⟨"ArmPendantModel", "isWithin", "(I)Z"⟩, 30), (⟨"ArmPendantModel", "goesTo", "(I)V"⟩, 30), (⟨"ArmPendantModel", "calls", "(I)V"⟩, 30), (⟨"ArmPendantModel", "comesBack", "()V"⟩, 30)]
theorem lw_r2 : ∀ q ∈ lw_privs_2, lw_okq q := List.forall_mem_cons.mpr ⟨lw_p16, List.forall_mem_cons.mpr ⟨lw_p17, List.forall_mem_cons.mpr ⟨lw_p18, List.forall_mem_cons.mpr ⟨lw_p19, List.forall_mem_cons.mpr ⟨lw_p20, List.forall_mem_cons.mpr ⟨lw_p21, List.forall_mem_cons.mpr ⟨lw_p22, List.forall_mem_cons.mpr ⟨lw_p23, List.forall_mem_cons.mpr ⟨lw_p24, List.forall_mem_cons.mpr ⟨lw_p25, List.forall_mem_cons.mpr ⟨lw_p26, List.forall_mem_cons.mpr ⟨lw_p27, List.forall_mem_cons.mpr ⟨lw_p28, List.forall_mem_cons.mpr ⟨lw_p29, List.forall_mem_cons.mpr ⟨lw_p30, List.forall_mem_cons.mpr ⟨lw_p31, fun _ h => absurd h List.not_mem_nil⟩⟩⟩⟩⟩⟩⟩⟩⟩⟩⟩⟩⟩⟩⟩⟩
theorem lw_p32 : lw_okq (⟨"ArmPendantModel", "aboutOf", "(I)I"⟩, 30) := ⟨⟨by decide +kernel, by decide +kernel⟩, List.mem_of_getElem? (i := 692) (by decide +kernel), List.mem_of_getElem? (i := 1006) (by decide +kernel), List.mem_of_getElem? (i := 1007) (by decide +kernel)⟩
theorem lw_p33 : lw_okq (⟨"ArmPendantModel", "copy", "(II)V"⟩, 30) := ⟨⟨by decide +kernel, by decide +kernel⟩, List.mem_of_getElem? (i := 692) (by decide +kernel), List.mem_of_getElem? (i := 1022) (by decide +kernel), List.mem_of_getElem? (i := 1023) (by decide +kernel)⟩
theorem lw_p34 : lw_okq (⟨"ArmPendantModel", "against", "(I)I"⟩, 30) := ⟨⟨by decide +kernel, by decide +kernel⟩, List.mem_of_getElem? (i := 692) (by decide +kernel), List.mem_of_getElem? (i := 1030) (by decide +kernel), List.mem_of_getElem? (i := 1031) (by decide +kernel)⟩
theorem lw_p35 : lw_okq (⟨"ArmPendantModel", "sees", "(I)V"⟩, 30) := ⟨⟨by decide +kernel, by decide +kernel⟩, List.mem_of_getElem? (i := 692) (by decide +kernel), List.mem_of_getElem? (i := 1038) (by decide +kernel), List.mem_of_getElem? (i := 1039) (by decide +kernel)⟩
theorem lw_p36 : lw_okq (⟨"ArmPendantModel", "goesIfGoing", "()V"⟩, 30) := ⟨⟨by decide +kernel, by decide +kernel⟩, List.mem_of_getElem? (i := 692) (by decide +kernel), List.mem_of_getElem? (i := 1042) (by decide +kernel), List.mem_of_getElem? (i := 1043) (by decide +kernel)⟩
theorem lw_p37 : lw_okq (⟨"ArmPendantModel", "isAsSeen", "(I)Z"⟩, 30) := ⟨⟨by decide +kernel, by decide +kernel⟩, List.mem_of_getElem? (i := 692) (by decide +kernel), List.mem_of_getElem? (i := 1046) (by decide +kernel), List.mem_of_getElem? (i := 1047) (by decide +kernel)⟩
def lw_privs_3 : List (MethodName × Nat) := [(⟨"ArmPendantModel", "aboutOf", "(I)I"⟩, 30), (⟨"ArmPendantModel", "copy", "(II)V"⟩, 30), (⟨"ArmPendantModel", "against", "(I)I"⟩, 30), (⟨"ArmPendantModel", "sees", "(I)V"⟩, 30), (⟨"ArmPendantModel", "goesIfGoing", "()V"⟩, 30), (⟨"ArmPendantModel", "isAsSeen", "(I)Z"⟩, 30)]
theorem lw_r3 : ∀ q ∈ lw_privs_3, lw_okq q := List.forall_mem_cons.mpr ⟨lw_p32, List.forall_mem_cons.mpr ⟨lw_p33, List.forall_mem_cons.mpr ⟨lw_p34, List.forall_mem_cons.mpr ⟨lw_p35, List.forall_mem_cons.mpr ⟨lw_p36, List.forall_mem_cons.mpr ⟨lw_p37, fun _ h => absurd h List.not_mem_nil⟩⟩⟩⟩⟩⟩
def lw_privs : List (MethodName × Nat) := lw_privs_1 ++ (lw_privs_2 ++ (lw_privs_3))
def lw_tbl : List Cond := k2_sels lw_privs ++ tables_1
theorem lw_privs_ok : ∀ q ∈ lw_privs, lw_okq q := by
  show ∀ q ∈ lw_privs_1 ++ (lw_privs_2 ++ (lw_privs_3)), lw_okq q
  exact List.forall_mem_append.mpr ⟨lw_r1, List.forall_mem_append.mpr ⟨lw_r2, lw_r3⟩⟩
/-- the streams that the claim lets the run draw from -/
abbrev lw_cs : List Choice := [Jvm.Choice.named "NaN.bits"]
theorem lw_bits : nanBits ∈ lw_cs := by first | decide | exact List.mem_cons_self | simp [lw_cs, nanBits]
-- ===== end of PART A; then your names; then what follows =====
end
section
def RX0 : String := "ArmPendant$Box"
def TX0 : u_T := fun k => match k with
  | 0 => ("ArmPendant$Box", "told", "Z", false)
  | 1 => ("ArmPendant$Box", "x0", "I", false)
  | 2 => ("ArmPendant$Box", "y0", "I", false)
  | 3 => ("ArmPendant$Box", "x1", "I", false)
  | _ => ("ArmPendant$Box", "y1", "I", false)
def tyX0 : Nat → FieldType := fun k => match k with
  | 0 => .boolean
  | 1 => .int
  | 2 => .int
  | 3 => .int
  | _ => .int
theorem nmX0 : ∀ a, a < 5 → ∀ b, b < 5 → a ≠ b → (TX0 a).2.1 ≠ (TX0 b).2.1 := by decide +kernel
theorem tyX0_ok : ∀ k, k < 5 → parseFieldDescriptor (TX0 k).2.2.1 = some (tyX0 k) := by decide +kernel
abbrev cX0_init : ByteArray := prog_2_method_1_code
def yX0_init : MethodName := ⟨RX0, "<init>", "()V"⟩
abbrev cX0_tell : ByteArray := prog_2_method_2_code
def yX0_tell : MethodName := ⟨RX0, "tell", "(IIII)V"⟩
abbrev cX0_holds : ByteArray := prog_2_method_3_code
def yX0_holds : MethodName := ⟨RX0, "holds", "(LArmPendant$Tip;)Z"⟩
def RX1 : String := "ArmPendant$Cell"
def TX1 : u_T := fun k => match k with
  | 0 => ("ArmPendant$Cell", "joints", "[LArmPendant$Joint;", true)
  | 1 => ("ArmPendant$Cell", "boxes", "[LArmPendant$Box;", true)
  | 2 => ("ArmPendant$Cell", "poses", "[LArmPendant$Pose;", true)
  | 3 => ("ArmPendant$Cell", "program", "LArmPendant$Program;", true)
  | 4 => ("ArmPendant$Cell", "scripts", "LArmPendant$Scripts;", true)
  | 5 => ("ArmPendant$Cell", "tried", "LArmPendant$Tip;", true)
  | _ => ("ArmPendant$Cell", "triedStates", "[I", true)
def tyX1 : Nat → FieldType := fun k => match k with
  | 0 => .array (.object "ArmPendant$Joint")
  | 1 => .array (.object "ArmPendant$Box")
  | 2 => .array (.object "ArmPendant$Pose")
  | 3 => .object "ArmPendant$Program"
  | 4 => .object "ArmPendant$Scripts"
  | 5 => .object "ArmPendant$Tip"
  | _ => .array .int
theorem nmX1 : ∀ a, a < 7 → ∀ b, b < 7 → a ≠ b → (TX1 a).2.1 ≠ (TX1 b).2.1 := by decide +kernel
theorem tyX1_ok : ∀ k, k < 7 → parseFieldDescriptor (TX1 k).2.2.1 = some (tyX1 k) := by decide +kernel
abbrev cX1_init : ByteArray := prog_3_method_1_code
def yX1_init : MethodName := ⟨RX1, "<init>", "()V"⟩
abbrev cX1_boxesTold : ByteArray := prog_3_method_2_code
def yX1_boxesTold : MethodName := ⟨RX1, "boxesTold", "()I"⟩
abbrev cX1_posesTaught : ByteArray := prog_3_method_3_code
def yX1_posesTaught : MethodName := ⟨RX1, "posesTaught", "()I"⟩
abbrev cX1_allows : ByteArray := prog_3_method_4_code
def yX1_allows : MethodName := ⟨RX1, "allows", "([I)Z"⟩
abbrev cX1_oneTick : ByteArray := prog_3_method_5_code
def yX1_oneTick : MethodName := ⟨RX1, "oneTick", "(LArmPendant$Moment;)V"⟩
abbrev cX1_carryOn : ByteArray := prog_3_method_6_code
def yX1_carryOn : MethodName := ⟨RX1, "carryOn", "(LArmPendant$Moment;)Z"⟩
abbrev cX1_carryOnWait : ByteArray := prog_3_method_7_code
def yX1_carryOnWait : MethodName := ⟨RX1, "carryOnWait", "(LArmPendant$Moment;)Z"⟩
abbrev cX1_carryOnGo : ByteArray := prog_3_method_8_code
def yX1_carryOnGo : MethodName := ⟨RX1, "carryOnGo", "(LArmPendant$Moment;)Z"⟩
abbrev cX1_doLine : ByteArray := prog_3_method_9_code
def yX1_doLine : MethodName := ⟨RX1, "doLine", "(LArmPendant$Moment;III)Z"⟩
abbrev cX1_beginGo : ByteArray := prog_3_method_10_code
def yX1_beginGo : MethodName := ⟨RX1, "beginGo", "(LArmPendant$Moment;LArmPendant$Pose;I)Z"⟩
abbrev cX1_beginWait : ByteArray := prog_3_method_11_code
def yX1_beginWait : MethodName := ⟨RX1, "beginWait", "(LArmPendant$Moment;I)Z"⟩
abbrev cX1_jump : ByteArray := prog_3_method_12_code
def yX1_jump : MethodName := ⟨RX1, "jump", "(LArmPendant$Moment;I)Z"⟩
abbrev cX1_call : ByteArray := prog_3_method_13_code
def yX1_call : MethodName := ⟨RX1, "call", "(LArmPendant$Moment;I)Z"⟩
abbrev cX1_comeBack : ByteArray := prog_3_method_14_code
def yX1_comeBack : MethodName := ⟨RX1, "comeBack", "(LArmPendant$Moment;)Z"⟩
abbrev cX1_err : ByteArray := prog_3_method_15_code
def yX1_err : MethodName := ⟨RX1, "err", "(LArmPendant$Moment;I)Z"⟩
def RX2 : String := "ArmPendant$Joint"
def TX2 : u_T := fun k => match k with
  | 0 => ("ArmPendant$Joint", "kind", "I", false)
  | 1 => ("ArmPendant$Joint", "length", "I", false)
  | 2 => ("ArmPendant$Joint", "low", "I", false)
  | 3 => ("ArmPendant$Joint", "high", "I", false)
  | 4 => ("ArmPendant$Joint", "pace", "I", false)
  | _ => ("ArmPendant$Joint", "rise", "I", false)
def tyX2 : Nat → FieldType := fun k => match k with
  | 0 => .int
  | 1 => .int
  | 2 => .int
  | 3 => .int
  | 4 => .int
  | _ => .int
theorem nmX2 : ∀ a, a < 6 → ∀ b, b < 6 → a ≠ b → (TX2 a).2.1 ≠ (TX2 b).2.1 := by decide +kernel
theorem tyX2_ok : ∀ k, k < 6 → parseFieldDescriptor (TX2 k).2.2.1 = some (tyX2 k) := by decide +kernel
abbrev cX2_init : ByteArray := prog_4_method_1_code
def yX2_init : MethodName := ⟨RX2, "<init>", "()V"⟩
abbrev cX2_allows : ByteArray := prog_4_method_2_code
def yX2_allows : MethodName := ⟨RX2, "allows", "(I)Z"⟩
def RX3 : String := "ArmPendant$Moment"
def TX3 : u_T := fun k => match k with
  | 0 => ("ArmPendant$Moment", "states", "[I", true)
  | 1 => ("ArmPendant$Moment", "travelled", "[J", true)
  | 2 => ("ArmPendant$Moment", "inputs", "[Z", true)
  | 3 => ("ArmPendant$Moment", "outs", "[Z", true)
  | 4 => ("ArmPendant$Moment", "registers", "[I", true)
  | 5 => ("ArmPendant$Moment", "putBy", "[I", true)
  | 6 => ("ArmPendant$Moment", "motion", "LArmPendant$Motion;", true)
  | 7 => ("ArmPendant$Moment", "putByCount", "I", false)
  | 8 => ("ArmPendant$Moment", "stands", "I", false)
  | 9 => ("ArmPendant$Moment", "time", "I", false)
  | 10 => ("ArmPendant$Moment", "line", "I", false)
  | 11 => ("ArmPendant$Moment", "error", "I", false)
  | 12 => ("ArmPendant$Moment", "linesDone", "I", false)
  | 13 => ("ArmPendant$Moment", "left", "I", false)
  | 14 => ("ArmPendant$Moment", "goes", "Z", false)
  | 15 => ("ArmPendant$Moment", "errorLine", "I", false)
  | 16 => ("ArmPendant$Moment", "searchOfNextGo", "I", false)
  | _ => ("ArmPendant$Moment", "searchOfThisGo", "I", false)
def tyX3 : Nat → FieldType := fun k => match k with
  | 0 => .array .int
  | 1 => .array .long
  | 2 => .array .boolean
  | 3 => .array .boolean
  | 4 => .array .int
  | 5 => .array .int
  | 6 => .object "ArmPendant$Motion"
  | 7 => .int
  | 8 => .int
  | 9 => .int
  | 10 => .int
  | 11 => .int
  | 12 => .int
  | 13 => .int
  | 14 => .boolean
  | 15 => .int
  | 16 => .int
  | _ => .int
theorem nmX3 : ∀ a, a < 18 → ∀ b, b < 18 → a ≠ b → (TX3 a).2.1 ≠ (TX3 b).2.1 := by decide +kernel
theorem tyX3_ok : ∀ k, k < 18 → parseFieldDescriptor (TX3 k).2.2.1 = some (tyX3 k) := by decide +kernel
abbrev cX3_init : ByteArray := prog_5_method_1_code
def yX3_init : MethodName := ⟨RX3, "<init>", "()V"⟩
abbrev cX3_begin : ByteArray := prog_5_method_2_code
def yX3_begin : MethodName := ⟨RX3, "begin", "()V"⟩
abbrev cX3_dropWhatIsUnderWay : ByteArray := prog_5_method_3_code
def yX3_dropWhatIsUnderWay : MethodName := ⟨RX3, "dropWhatIsUnderWay", "()V"⟩
abbrev cX3_end : ByteArray := prog_5_method_4_code
def yX3_end : MethodName := ⟨RX3, "end", "(I)V"⟩
abbrev cX3_stopBy : ByteArray := prog_5_method_5_code
def yX3_stopBy : MethodName := ⟨RX3, "stopBy", "(I)V"⟩
abbrev cX3_spendTick : ByteArray := prog_5_method_6_code
def yX3_spendTick : MethodName := ⟨RX3, "spendTick", "()V"⟩
abbrev cX3_passLine : ByteArray := prog_5_method_7_code
def yX3_passLine : MethodName := ⟨RX3, "passLine", "()V"⟩
abbrev cX3_become : ByteArray := prog_5_method_8_code
def yX3_become : MethodName := ⟨RX3, "become", "(LArmPendant$Moment;)V"⟩
abbrev cX3_differsFrom : ByteArray := prog_5_method_9_code
def yX3_differsFrom : MethodName := ⟨RX3, "differsFrom", "(LArmPendant$Moment;)Z"⟩
def RX4 : String := "ArmPendant$Motion"
def TX4 : u_T := fun k => match k with
  | 0 => ("ArmPendant$Motion", "from", "[I", true)
  | 1 => ("ArmPendant$Motion", "by", "[I", true)
  | 2 => ("ArmPendant$Motion", "ticks", "I", false)
  | 3 => ("ArmPendant$Motion", "way", "I", false)
  | 4 => ("ArmPendant$Motion", "pace", "I", false)
  | _ => ("ArmPendant$Motion", "rise", "I", false)
def tyX4 : Nat → FieldType := fun k => match k with
  | 0 => .array .int
  | 1 => .array .int
  | 2 => .int
  | 3 => .int
  | 4 => .int
  | _ => .int
theorem nmX4 : ∀ a, a < 6 → ∀ b, b < 6 → a ≠ b → (TX4 a).2.1 ≠ (TX4 b).2.1 := by decide +kernel
theorem tyX4_ok : ∀ k, k < 6 → parseFieldDescriptor (TX4 k).2.2.1 = some (tyX4 k) := by decide +kernel
abbrev cX4_init : ByteArray := prog_6_method_1_code
def yX4_init : MethodName := ⟨RX4, "<init>", "()V"⟩
abbrev cX4_aim : ByteArray := prog_6_method_2_code
def yX4_aim : MethodName := ⟨RX4, "aim", "([LArmPendant$Joint;[I[II)V"⟩
abbrev cX4_stateAt : ByteArray := prog_6_method_3_code
def yX4_stateAt : MethodName := ⟨RX4, "stateAt", "(IJ)I"⟩
abbrev cX4_goneBehind : ByteArray := prog_6_method_4_code
def yX4_goneBehind : MethodName := ⟨RX4, "goneBehind", "(I)J"⟩
abbrev cX4_become : ByteArray := prog_6_method_5_code
def yX4_become : MethodName := ⟨RX4, "become", "(LArmPendant$Motion;)V"⟩
abbrev cX4_leastTicks : ByteArray := prog_6_method_6_code
def yX4_leastTicks : MethodName := ⟨RX4, "leastTicks", "(III)I"⟩
abbrev cX4_climb : ByteArray := prog_6_method_7_code
def yX4_climb : MethodName := ⟨RX4, "climb", "(III)J"⟩
def RX5 : String := "ArmPendant$Pose"
def TX5 : u_T := fun k => match k with
  | 0 => ("ArmPendant$Pose", "taught", "Z", false)
  | _ => ("ArmPendant$Pose", "states", "[I", true)
def tyX5 : Nat → FieldType := fun k => match k with
  | 0 => .boolean
  | _ => .array .int
theorem nmX5 : ∀ a, a < 2 → ∀ b, b < 2 → a ≠ b → (TX5 a).2.1 ≠ (TX5 b).2.1 := by decide +kernel
theorem tyX5_ok : ∀ k, k < 2 → parseFieldDescriptor (TX5 k).2.2.1 = some (tyX5 k) := by decide +kernel
abbrev cX5_init : ByteArray := prog_7_method_1_code
def yX5_init : MethodName := ⟨RX5, "<init>", "()V"⟩
def RX6 : String := "ArmPendant$Program"
def TX6 : u_T := fun k => match k with
  | 0 => ("ArmPendant$Program", "ops", "[I", true)
  | 1 => ("ArmPendant$Program", "as", "[I", true)
  | 2 => ("ArmPendant$Program", "bs", "[I", true)
  | _ => ("ArmPendant$Program", "count", "I", false)
def tyX6 : Nat → FieldType := fun k => match k with
  | 0 => .array .int
  | 1 => .array .int
  | 2 => .array .int
  | _ => .int
theorem nmX6 : ∀ a, a < 4 → ∀ b, b < 4 → a ≠ b → (TX6 a).2.1 ≠ (TX6 b).2.1 := by decide +kernel
theorem tyX6_ok : ∀ k, k < 4 → parseFieldDescriptor (TX6 k).2.2.1 = some (tyX6 k) := by decide +kernel
abbrev cX6_init : ByteArray := prog_8_method_1_code
def yX6_init : MethodName := ⟨RX6, "<init>", "()V"⟩
abbrev cX6_add : ByteArray := prog_8_method_2_code
def yX6_add : MethodName := ⟨RX6, "add", "(III)I"⟩
def RX7 : String := "ArmPendant$Scripts"
def TX7 : u_T := fun k => match k with
  | 0 => ("ArmPendant$Scripts", "times", "[I", true)
  | 1 => ("ArmPendant$Scripts", "signals", "[I", true)
  | 2 => ("ArmPendant$Scripts", "ons", "[Z", true)
  | _ => ("ArmPendant$Scripts", "count", "I", false)
def tyX7 : Nat → FieldType := fun k => match k with
  | 0 => .array .int
  | 1 => .array .int
  | 2 => .array .boolean
  | _ => .int
theorem nmX7 : ∀ a, a < 4 → ∀ b, b < 4 → a ≠ b → (TX7 a).2.1 ≠ (TX7 b).2.1 := by decide +kernel
theorem tyX7_ok : ∀ k, k < 4 → parseFieldDescriptor (TX7 k).2.2.1 = some (tyX7 k) := by decide +kernel
abbrev cX7_init : ByteArray := prog_9_method_1_code
def yX7_init : MethodName := ⟨RX7, "<init>", "()V"⟩
abbrev cX7_add : ByteArray := prog_9_method_2_code
def yX7_add : MethodName := ⟨RX7, "add", "(IIZ)I"⟩
abbrev cX7_setInputs : ByteArray := prog_9_method_3_code
def yX7_setInputs : MethodName := ⟨RX7, "setInputs", "(I[Z)V"⟩
def RX8 : String := "ArmPendant$Tip"
def TX8 : u_T := fun k => match k with
  | 0 => ("ArmPendant$Tip", "x", "D", false)
  | _ => ("ArmPendant$Tip", "y", "D", false)
def tyX8 : Nat → FieldType := fun k => match k with
  | 0 => .double
  | _ => .double
theorem nmX8 : ∀ a, a < 2 → ∀ b, b < 2 → a ≠ b → (TX8 a).2.1 ≠ (TX8 b).2.1 := by decide +kernel
theorem tyX8_ok : ∀ k, k < 2 → parseFieldDescriptor (TX8 k).2.2.1 = some (tyX8 k) := by decide +kernel
abbrev cX8_init : ByteArray := prog_10_method_1_code
def yX8_init : MethodName := ⟨RX8, "<init>", "()V"⟩
abbrev cX8_follow : ByteArray := prog_10_method_2_code
def yX8_follow : MethodName := ⟨RX8, "follow", "([LArmPendant$Joint;[I)V"⟩
abbrev cX8_isIn : ByteArray := prog_10_method_3_code
def yX8_isIn : MethodName := ⟨RX8, "isIn", "(IIII)Z"⟩
abbrev cX8_sineOf : ByteArray := prog_10_method_4_code
def yX8_sineOf : MethodName := ⟨RX8, "sineOf", "(I)D"⟩
def RX9 : String := "ArmPendant"
def TX9 : u_T := fun k => match k with
  | 0 => ("ArmPendant", "cell", "LArmPendant$Cell;", true)
  | 1 => ("ArmPendant", "now", "LArmPendant$Moment;", true)
  | 2 => ("ArmPendant", "kept", "[LArmPendant$Moment;", true)
  | 3 => ("ArmPendant", "isKept", "[Z", true)
  | 4 => ("ArmPendant", "replayOfKept", "LArmPendant$Moment;", true)
  | 5 => ("ArmPendant", "replayOfNow", "LArmPendant$Moment;", true)
  | 6 => ("ArmPendant", "planned", "LArmPendant$Motion;", true)
  | _ => ("ArmPendant", "tip", "LArmPendant$Tip;", true)
def tyX9 : Nat → FieldType := fun k => match k with
  | 0 => .object "ArmPendant$Cell"
  | 1 => .object "ArmPendant$Moment"
  | 2 => .array (.object "ArmPendant$Moment")
  | 3 => .array .boolean
  | 4 => .object "ArmPendant$Moment"
  | 5 => .object "ArmPendant$Moment"
  | 6 => .object "ArmPendant$Motion"
  | _ => .object "ArmPendant$Tip"
theorem nmX9 : ∀ a, a < 8 → ∀ b, b < 8 → a ≠ b → (TX9 a).2.1 ≠ (TX9 b).2.1 := by decide +kernel
theorem tyX9_ok : ∀ k, k < 8 → parseFieldDescriptor (TX9 k).2.2.1 = some (tyX9 k) := by decide +kernel
abbrev cX9_init : ByteArray := prog_1_method_1_code
def yX9_init : MethodName := ⟨RX9, "<init>", "()V"⟩
abbrev cX9_joint : ByteArray := prog_1_method_2_code
def yX9_joint : MethodName := ⟨RX9, "joint", "(IIIII)I"⟩
abbrev cX9_limits : ByteArray := prog_1_method_3_code
def yX9_limits : MethodName := ⟨RX9, "limits", "(III)I"⟩
abbrev cX9_jog : ByteArray := prog_1_method_4_code
def yX9_jog : MethodName := ⟨RX9, "jog", "(II)I"⟩
abbrev cX9_state : ByteArray := prog_1_method_5_code
def yX9_state : MethodName := ⟨RX9, "state", "(I)I"⟩
abbrev cX9_tip : ByteArray := prog_1_method_6_code
def yX9_tip : MethodName := ⟨RX9, "tip", "(I)J"⟩
abbrev cX9_sine : ByteArray := prog_1_method_7_code
def yX9_sine : MethodName := ⟨RX9, "sine", "(I)J"⟩
abbrev cX9_box : ByteArray := prog_1_method_8_code
def yX9_box : MethodName := ⟨RX9, "box", "(IIIII)I"⟩
abbrev cX9_unbox : ByteArray := prog_1_method_9_code
def yX9_unbox : MethodName := ⟨RX9, "unbox", "(I)I"⟩
abbrev cX9_teach : ByteArray := prog_1_method_10_code
def yX9_teach : MethodName := ⟨RX9, "teach", "(I)I"⟩
abbrev cX9_pose : ByteArray := prog_1_method_11_code
def yX9_pose : MethodName := ⟨RX9, "pose", "(II)I"⟩
abbrev cX9_plan : ByteArray := prog_1_method_12_code
def yX9_plan : MethodName := ⟨RX9, "plan", "(II)I"⟩
abbrev cX9_along : ByteArray := prog_1_method_13_code
def yX9_along : MethodName := ⟨RX9, "along", "(IIII)I"⟩
abbrev cX9_line : ByteArray := prog_1_method_14_code
def yX9_line : MethodName := ⟨RX9, "line", "(III)I"⟩
abbrev cX9_clear : ByteArray := prog_1_method_15_code
def yX9_clear : MethodName := ⟨RX9, "clear", "()I"⟩
abbrev cX9_script : ByteArray := prog_1_method_16_code
def yX9_script : MethodName := ⟨RX9, "script", "(IIZ)I"⟩
abbrev cX9_input : ByteArray := prog_1_method_17_code
def yX9_input : MethodName := ⟨RX9, "input", "(IZ)I"⟩
abbrev cX9_run : ByteArray := prog_1_method_18_code
def yX9_run : MethodName := ⟨RX9, "run", "()I"⟩
abbrev cX9_tick : ByteArray := prog_1_method_19_code
def yX9_tick : MethodName := ⟨RX9, "tick", "(I)I"⟩
abbrev cX9_stop : ByteArray := prog_1_method_20_code
def yX9_stop : MethodName := ⟨RX9, "stop", "()I"⟩
abbrev cX9_about : ByteArray := prog_1_method_21_code
def yX9_about : MethodName := ⟨RX9, "about", "(I)I"⟩
abbrev cX9_at : ByteArray := prog_1_method_22_code
def yX9_at : MethodName := ⟨RX9, "at", "(II)I"⟩
abbrev cX9_travel : ByteArray := prog_1_method_23_code
def yX9_travel : MethodName := ⟨RX9, "travel", "(I)J"⟩
abbrev cX9_keep : ByteArray := prog_1_method_24_code
def yX9_keep : MethodName := ⟨RX9, "keep", "(I)I"⟩
abbrev cX9_back : ByteArray := prog_1_method_25_code
def yX9_back : MethodName := ⟨RX9, "back", "(I)I"⟩
abbrev cX9_replay : ByteArray := prog_1_method_26_code
def yX9_replay : MethodName := ⟨RX9, "replay", "(II)I"⟩
abbrev cX9_count : ByteArray := prog_1_method_27_code
def yX9_count : MethodName := ⟨RX9, "count", "(I)I"⟩
abbrev cX9_digest : ByteArray := prog_1_method_28_code
def yX9_digest : MethodName := ⟨RX9, "digest", "()J"⟩
abbrev cX9_isWithin : ByteArray := prog_1_method_29_code
def yX9_isWithin : MethodName := ⟨RX9, "isWithin", "(III)Z"⟩
abbrev cX9_isJoint : ByteArray := prog_1_method_30_code
def yX9_isJoint : MethodName := ⟨RX9, "isJoint", "(I)Z"⟩
abbrev cX9_isPose : ByteArray := prog_1_method_31_code
def yX9_isPose : MethodName := ⟨RX9, "isPose", "(I)Z"⟩
abbrev cX9_isShare : ByteArray := prog_1_method_32_code
def yX9_isShare : MethodName := ⟨RX9, "isShare", "(I)Z"⟩
abbrev cX9_isSignal : ByteArray := prog_1_method_33_code
def yX9_isSignal : MethodName := ⟨RX9, "isSignal", "(I)Z"⟩
abbrev cX9_isPlace : ByteArray := prog_1_method_34_code
def yX9_isPlace : MethodName := ⟨RX9, "isPlace", "(I)Z"⟩
abbrev cX9_isLine : ByteArray := prog_1_method_35_code
def yX9_isLine : MethodName := ⟨RX9, "isLine", "(III)Z"⟩
abbrev cX9_isGoing : ByteArray := prog_1_method_36_code
def yX9_isGoing : MethodName := ⟨RX9, "isGoing", "()Z"⟩
abbrev cX9_canGoBackTo : ByteArray := prog_1_method_37_code
def yX9_canGoBackTo : MethodName := ⟨RX9, "canGoBackTo", "(I)Z"⟩
abbrev cX9_tickIfGoing : ByteArray := prog_1_method_38_code
def yX9_tickIfGoing : MethodName := ⟨RX9, "tickIfGoing", "(LArmPendant$Moment;)V"⟩
abbrev cX9_bitsOf : ByteArray := prog_1_method_39_code
def yX9_bitsOf : MethodName := ⟨RX9, "bitsOf", "(D)J"⟩
def RX10 : String := "ArmPendantModel"
def TX10 : u_T := fun k => match k with
  | 0 => ("ArmPendantModel", "row", "[J", true)
  | 1 => ("ArmPendantModel", "isKept", "[Z", true)
  | 2 => ("ArmPendantModel", "slides", "[Z", true)
  | 3 => ("ArmPendantModel", "length", "[I", true)
  | 4 => ("ArmPendantModel", "low", "[I", true)
  | 5 => ("ArmPendantModel", "high", "[I", true)
  | 6 => ("ArmPendantModel", "pace", "[I", true)
  | 7 => ("ArmPendantModel", "rise", "[I", true)
  | 8 => ("ArmPendantModel", "isBox", "[Z", true)
  | 9 => ("ArmPendantModel", "box", "[I", true)
  | 10 => ("ArmPendantModel", "isTaught", "[Z", true)
  | 11 => ("ArmPendantModel", "pose", "[I", true)
  | 12 => ("ArmPendantModel", "lines", "I", false)
  | 13 => ("ArmPendantModel", "op", "[I", true)
  | 14 => ("ArmPendantModel", "first", "[I", true)
  | 15 => ("ArmPendantModel", "second", "[I", true)
  | 16 => ("ArmPendantModel", "scripts", "I", false)
  | 17 => ("ArmPendantModel", "scriptTick", "[I", true)
  | 18 => ("ArmPendantModel", "scriptInput", "[I", true)
  | 19 => ("ArmPendantModel", "scriptOn", "[Z", true)
  | 20 => ("ArmPendantModel", "tipX", "D", false)
  | 21 => ("ArmPendantModel", "tipY", "D", false)
  | 22 => ("ArmPendantModel", "planFrom", "[J", true)
  | 23 => ("ArmPendantModel", "planTo", "[J", true)
  | 24 => ("ArmPendantModel", "planTicks", "J", false)
  | 25 => ("ArmPendantModel", "planRise", "J", false)
  | 26 => ("ArmPendantModel", "planPace", "J", false)
  | 27 => ("ArmPendantModel", "planWay", "J", false)
  | 28 => ("ArmPendantModel", "was", "[J", true)
  | _ => ("ArmPendantModel", "seen", "[J", true)
def tyX10 : Nat → FieldType := fun k => match k with
  | 0 => .array .long
  | 1 => .array .boolean
  | 2 => .array .boolean
  | 3 => .array .int
  | 4 => .array .int
  | 5 => .array .int
  | 6 => .array .int
  | 7 => .array .int
  | 8 => .array .boolean
  | 9 => .array .int
  | 10 => .array .boolean
  | 11 => .array .int
  | 12 => .int
  | 13 => .array .int
  | 14 => .array .int
  | 15 => .array .int
  | 16 => .int
  | 17 => .array .int
  | 18 => .array .int
  | 19 => .array .boolean
  | 20 => .double
  | 21 => .double
  | 22 => .array .long
  | 23 => .array .long
  | 24 => .long
  | 25 => .long
  | 26 => .long
  | 27 => .long
  | 28 => .array .long
  | _ => .array .long
theorem nmX10 : ∀ a, a < 30 → ∀ b, b < 30 → a ≠ b → (TX10 a).2.1 ≠ (TX10 b).2.1 := by decide +kernel
theorem tyX10_ok : ∀ k, k < 30 → parseFieldDescriptor (TX10 k).2.2.1 = some (tyX10 k) := by decide +kernel
abbrev cX10_in : ByteArray := prog_12_method_2_code
def yX10_in : MethodName := ⟨RX10, "in", "(III)Z"⟩
abbrev cX10_init : ByteArray := prog_12_method_3_code
def yX10_init : MethodName := ⟨RX10, "<init>", "()V"⟩
abbrev cX10_rowAt : ByteArray := prog_12_method_4_code
def yX10_rowAt : MethodName := ⟨RX10, "rowAt", "(I)I"⟩
abbrev cX10_isJoint : ByteArray := prog_12_method_5_code
def yX10_isJoint : MethodName := ⟨RX10, "isJoint", "(I)Z"⟩
abbrev cX10_isGoing : ByteArray := prog_12_method_6_code
def yX10_isGoing : MethodName := ⟨RX10, "isGoing", "()Z"⟩
abbrev cX10_joint : ByteArray := prog_12_method_7_code
def yX10_joint : MethodName := ⟨RX10, "joint", "(IIIII)I"⟩
abbrev cX10_limits : ByteArray := prog_12_method_8_code
def yX10_limits : MethodName := ⟨RX10, "limits", "(III)I"⟩
abbrev cX10_jog : ByteArray := prog_12_method_9_code
def yX10_jog : MethodName := ⟨RX10, "jog", "(II)I"⟩
abbrev cX10_state : ByteArray := prog_12_method_10_code
def yX10_state : MethodName := ⟨RX10, "state", "(I)I"⟩
abbrev cX10_sineOf : ByteArray := prog_12_method_11_code
def yX10_sineOf : MethodName := ⟨RX10, "sineOf", "(J)D"⟩
abbrev cX10_findTip : ByteArray := prog_12_method_12_code
def yX10_findTip : MethodName := ⟨RX10, "findTip", "()V"⟩
abbrev cX10_bitsOf : ByteArray := prog_12_method_13_code
def yX10_bitsOf : MethodName := ⟨RX10, "bitsOf", "(D)J"⟩
abbrev cX10_tip : ByteArray := prog_12_method_14_code
def yX10_tip : MethodName := ⟨RX10, "tip", "(I)J"⟩
abbrev cX10_sine : ByteArray := prog_12_method_15_code
def yX10_sine : MethodName := ⟨RX10, "sine", "(I)J"⟩
abbrev cX10_isIn : ByteArray := prog_12_method_16_code
def yX10_isIn : MethodName := ⟨RX10, "isIn", "(I)Z"⟩
abbrev cX10_isBarred : ByteArray := prog_12_method_17_code
def yX10_isBarred : MethodName := ⟨RX10, "isBarred", "()Z"⟩
abbrev cX10_box : ByteArray := prog_12_method_18_code
def yX10_box : MethodName := ⟨RX10, "box", "(IIIII)I"⟩
abbrev cX10_unbox : ByteArray := prog_12_method_19_code
def yX10_unbox : MethodName := ⟨RX10, "unbox", "(I)I"⟩
abbrev cX10_isPose : ByteArray := prog_12_method_20_code
def yX10_isPose : MethodName := ⟨RX10, "isPose", "(I)Z"⟩
abbrev cX10_teach : ByteArray := prog_12_method_21_code
def yX10_teach : MethodName := ⟨RX10, "teach", "(I)I"⟩
abbrev cX10_pose : ByteArray := prog_12_method_22_code
def yX10_pose : MethodName := ⟨RX10, "pose", "(II)I"⟩
abbrev cX10_risen : ByteArray := prog_12_method_23_code
def yX10_risen : MethodName := ⟨RX10, "risen", "(JJJ)J"⟩
abbrev cX10_gone : ByteArray := prog_12_method_24_code
def yX10_gone : MethodName := ⟨RX10, "gone", "(JJJJ)J"⟩
abbrev cX10_ticksFor : ByteArray := prog_12_method_25_code
def yX10_ticksFor : MethodName := ⟨RX10, "ticksFor", "(JJJ)J"⟩
abbrev cX10_plans : ByteArray := prog_12_method_26_code
def yX10_plans : MethodName := ⟨RX10, "plans", "(II)V"⟩
abbrev cX10_stateBehind : ByteArray := prog_12_method_27_code
def yX10_stateBehind : MethodName := ⟨RX10, "stateBehind", "(JJJJJJJ)J"⟩
abbrev cX10_plan : ByteArray := prog_12_method_28_code
def yX10_plan : MethodName := ⟨RX10, "plan", "(II)I"⟩
abbrev cX10_along : ByteArray := prog_12_method_29_code
def yX10_along : MethodName := ⟨RX10, "along", "(IIII)I"⟩
abbrev cX10_isLineRight : ByteArray := prog_12_method_30_code
def yX10_isLineRight : MethodName := ⟨RX10, "isLineRight", "(III)Z"⟩
abbrev cX10_line : ByteArray := prog_12_method_31_code
def yX10_line : MethodName := ⟨RX10, "line", "(III)I"⟩
abbrev cX10_clear : ByteArray := prog_12_method_32_code
def yX10_clear : MethodName := ⟨RX10, "clear", "()I"⟩
abbrev cX10_script : ByteArray := prog_12_method_33_code
def yX10_script : MethodName := ⟨RX10, "script", "(IIZ)I"⟩
abbrev cX10_input : ByteArray := prog_12_method_34_code
def yX10_input : MethodName := ⟨RX10, "input", "(IZ)I"⟩
abbrev cX10_run : ByteArray := prog_12_method_35_code
def yX10_run : MethodName := ⟨RX10, "run", "()I"⟩
abbrev cX10_errs : ByteArray := prog_12_method_36_code
def yX10_errs : MethodName := ⟨RX10, "errs", "(I)V"⟩
abbrev cX10_isOn : ByteArray := prog_12_method_37_code
def yX10_isOn : MethodName := ⟨RX10, "isOn", "(I)Z"⟩
abbrev cX10_over : ByteArray := prog_12_method_38_code
def yX10_over : MethodName := ⟨RX10, "over", "()V"⟩
abbrev cX10_goesOn : ByteArray := prog_12_method_39_code
def yX10_goesOn : MethodName := ⟨RX10, "goesOn", "()V"⟩
abbrev cX10_goesTick : ByteArray := prog_12_method_40_code
def yX10_goesTick : MethodName := ⟨RX10, "goesTick", "()Z"⟩
abbrev cX10_isWithin : ByteArray := prog_12_method_41_code
def yX10_isWithin : MethodName := ⟨RX10, "isWithin", "(I)Z"⟩
abbrev cX10_begins : ByteArray := prog_12_method_42_code
def yX10_begins : MethodName := ⟨RX10, "begins", "(II)V"⟩
abbrev cX10_goesTo : ByteArray := prog_12_method_43_code
def yX10_goesTo : MethodName := ⟨RX10, "goesTo", "(I)V"⟩
abbrev cX10_calls : ByteArray := prog_12_method_44_code
def yX10_calls : MethodName := ⟨RX10, "calls", "(I)V"⟩
abbrev cX10_comesBack : ByteArray := prog_12_method_45_code
def yX10_comesBack : MethodName := ⟨RX10, "comesBack", "()V"⟩
abbrev cX10_doesLine : ByteArray := prog_12_method_46_code
def yX10_doesLine : MethodName := ⟨RX10, "doesLine", "()V"⟩
abbrev cX10_ticks : ByteArray := prog_12_method_47_code
def yX10_ticks : MethodName := ⟨RX10, "ticks", "()V"⟩
abbrev cX10_tick : ByteArray := prog_12_method_48_code
def yX10_tick : MethodName := ⟨RX10, "tick", "(I)I"⟩
abbrev cX10_stop : ByteArray := prog_12_method_49_code
def yX10_stop : MethodName := ⟨RX10, "stop", "()I"⟩
abbrev cX10_aboutOf : ByteArray := prog_12_method_50_code
def yX10_aboutOf : MethodName := ⟨RX10, "aboutOf", "(I)I"⟩
abbrev cX10_about : ByteArray := prog_12_method_51_code
def yX10_about : MethodName := ⟨RX10, "about", "(I)I"⟩
abbrev cX10_at : ByteArray := prog_12_method_52_code
def yX10_at : MethodName := ⟨RX10, "at", "(II)I"⟩
abbrev cX10_travel : ByteArray := prog_12_method_53_code
def yX10_travel : MethodName := ⟨RX10, "travel", "(I)J"⟩
abbrev cX10_copy : ByteArray := prog_12_method_54_code
def yX10_copy : MethodName := ⟨RX10, "copy", "(II)V"⟩
abbrev cX10_keep : ByteArray := prog_12_method_55_code
def yX10_keep : MethodName := ⟨RX10, "keep", "(I)I"⟩
abbrev cX10_against : ByteArray := prog_12_method_56_code
def yX10_against : MethodName := ⟨RX10, "against", "(I)I"⟩
abbrev cX10_back : ByteArray := prog_12_method_57_code
def yX10_back : MethodName := ⟨RX10, "back", "(I)I"⟩
abbrev cX10_isAsSeen : ByteArray := prog_12_method_58_code
def yX10_isAsSeen : MethodName := ⟨RX10, "isAsSeen", "(I)Z"⟩
abbrev cX10_sees : ByteArray := prog_12_method_59_code
def yX10_sees : MethodName := ⟨RX10, "sees", "(I)V"⟩
abbrev cX10_goesIfGoing : ByteArray := prog_12_method_60_code
def yX10_goesIfGoing : MethodName := ⟨RX10, "goesIfGoing", "()V"⟩
abbrev cX10_replay : ByteArray := prog_12_method_61_code
def yX10_replay : MethodName := ⟨RX10, "replay", "(II)I"⟩
abbrev cX10_count : ByteArray := prog_12_method_62_code
def yX10_count : MethodName := ⟨RX10, "count", "(I)I"⟩
abbrev cX10_digest : ByteArray := prog_12_method_63_code
def yX10_digest : MethodName := ⟨RX10, "digest", "()J"⟩
def RJ9 : String := "java/lang/Math"
def TJ9 : u_T := fun k => match k with
  | _ => ("", "", "", false)
def tyJ9 : Nat → FieldType := fun k => match k with
  | _ => .int
theorem nmJ9 : ∀ a, a < 0 → ∀ b, b < 0 → a ≠ b → (TJ9 a).2.1 ≠ (TJ9 b).2.1 := by decide +kernel
theorem tyJ9_ok : ∀ k, k < 0 → parseFieldDescriptor (TJ9 k).2.2.1 = some (tyJ9 k) := by decide +kernel
abbrev cJ9_abs_0f7a4 : ByteArray := prog_13_method_59_code
def yJ9_abs_0f7a4 : MethodName := ⟨RJ9, "abs", "(I)I"⟩
abbrev cJ9_max_7cf53 : ByteArray := prog_13_method_65_code
def yJ9_max_7cf53 : MethodName := ⟨RJ9, "max", "(II)I"⟩
def RJ10 : String := "java/lang/System"
def TJ10 : u_T := fun k => match k with
  | _ => ("", "", "", false)
def tyJ10 : Nat → FieldType := fun k => match k with
  | _ => .int
theorem nmJ10 : ∀ a, a < 0 → ∀ b, b < 0 → a ≠ b → (TJ10 a).2.1 ≠ (TJ10 b).2.1 := by decide +kernel
theorem tyJ10_ok : ∀ k, k < 0 → parseFieldDescriptor (TJ10 k).2.2.1 = some (tyJ10 k) := by decide +kernel
def RL : String := "ArmPendantLaw"
abbrev cL_law : ByteArray := code
def yL_law : MethodName := ⟨RL, "law", "([I)Z"⟩
abbrev vwCl : List vw_C := [(RX0, TX0, 5), (RX1, TX1, 7), (RX2, TX2, 6), (RX3, TX3, 18), (RX4, TX4, 6), (RX5, TX5, 2), (RX6, TX6, 4), (RX7, TX7, 4), (RX8, TX8, 2), (RX9, TX9, 8), (RX10, TX10, 30)]
end
section
def il_X0_init : List (Nat × Instr × Nat) := [(0, .aload_n 0, 1), (1, .invokespecial 1, 3), (4, .return_, 1)]
theorem dk_X0_init : ∀ q ∈ il_X0_init, decode cX0_init q.1 = .ok (q.2.1, q.2.2) := by decide +kernel
def il_X0_tell : List (Nat × Instr × Nat) := [(0, .aload_n 0, 1), (1, .iconst 1, 1), (2, .putfield 7, 3), (5, .aload_n 0, 1), (6, .iload_n 1, 1), (7, .putfield 13, 3), (10, .aload_n 0, 1), (11, .iload_n 2, 1), (12, .putfield 17, 3), (15, .aload_n 0, 1), (16, .iload_n 3, 1), (17, .putfield 20, 3), (20, .aload_n 0, 1), (21, .iload 4, 2), (23, .putfield 23, 3), (26, .return_, 1)]
theorem dk_X0_tell : ∀ q ∈ il_X0_tell, decode cX0_tell q.1 = .ok (q.2.1, q.2.2) := by decide +kernel
def il_X0_holds : List (Nat × Instr × Nat) := [(0, .aload_n 0, 1), (1, .getfield 7, 3), (4, .ifCond .eq 30, 3), (7, .aload_n 1, 1), (8, .aload_n 0, 1), (9, .getfield 13, 3), (12, .aload_n 0, 1), (13, .getfield 17, 3), (16, .aload_n 0, 1), (17, .getfield 20, 3), (20, .aload_n 0, 1), (21, .getfield 23, 3), (24, .invokevirtual 26, 3), (27, .ifCond .eq 7, 3), (30, .iconst 1, 1), (31, .goto 4, 3), (34, .iconst 0, 1), (35, .ireturn, 1)]
theorem dk_X0_holds : ∀ q ∈ il_X0_holds, decode cX0_holds q.1 = .ok (q.2.1, q.2.2) := by decide +kernel
def il_X1_init : List (Nat × Instr × Nat) := [(0, .aload_n 0, 1), (1, .invokespecial 3, 3), (4, .aload_n 0, 1), (5, .iconst 4, 1), (6, .anewarray 9, 3), (9, .putfield 11, 3), (12, .aload_n 0, 1), (13, .iconst 4, 1), (14, .anewarray 17, 3), (17, .putfield 19, 3), (20, .aload_n 0, 1), (21, .bipush 16, 2), (23, .anewarray 23, 3), (26, .putfield 25, 3), (29, .aload_n 0, 1), (30, .new 29, 3), (33, .dup, 1), (34, .invokespecial 31, 3), (37, .putfield 32, 3), (40, .aload_n 0, 1), (41, .new 36, 3), (44, .dup, 1), (45, .invokespecial 38, 3), (48, .putfield 39, 3), (51, .aload_n 0, 1), (52, .new 43, 3), (55, .dup, 1), (56, .invokespecial 45, 3), (59, .putfield 46, 3), (62, .aload_n 0, 1), (63, .iconst 4, 1), (64, .newarray .int, 2), (66, .putfield 50, 3), (69, .iconst 0, 1), (70, .istore_n 1, 1), (71, .iload_n 1, 1), (72, .iconst 4, 1), (73, .if_icmp .ge 22, 3), (76, .aload_n 0, 1), (77, .getfield 11, 3), (80, .iload_n 1, 1), (81, .new 9, 3), (84, .dup, 1), (85, .invokespecial 54, 3), (88, .aastore, 1), (89, .iinc 1 1, 3), (92, .goto (-21), 3), (95, .iconst 0, 1), (96, .istore_n 1, 1), (97, .iload_n 1, 1), (98, .iconst 4, 1), (99, .if_icmp .ge 22, 3), (102, .aload_n 0, 1), (103, .getfield 19, 3), (106, .iload_n 1, 1), (107, .new 17, 3), (110, .dup, 1), (111, .invokespecial 55, 3), (114, .aastore, 1), (115, .iinc 1 1, 3), (118, .goto (-21), 3), (121, .iconst 0, 1), (122, .istore_n 1, 1), (123, .iload_n 1, 1), (124, .bipush 16, 2), (126, .if_icmp .ge 22, 3), (129, .aload_n 0, 1), (130, .getfield 25, 3), (133, .iload_n 1, 1), (134, .new 23, 3), (137, .dup, 1), (138, .invokespecial 56, 3), (141, .aastore, 1), (142, .iinc 1 1, 3), (145, .goto (-22), 3), (148, .return_, 1)]
theorem dk_X1_init : ∀ q ∈ il_X1_init, decode cX1_init q.1 = .ok (q.2.1, q.2.2) := by decide +kernel
def il_X1_boxesTold : List (Nat × Instr × Nat) := [(0, .iconst 0, 1), (1, .istore_n 1, 1), (2, .iconst 0, 1), (3, .istore_n 2, 1), (4, .iload_n 2, 1), (5, .iconst 4, 1), (6, .if_icmp .ge 29, 3), (9, .iload_n 1, 1), (10, .aload_n 0, 1), (11, .getfield 19, 3), (14, .iload_n 2, 1), (15, .aaload, 1), (16, .getfield 57, 3), (19, .ifCond .eq 7, 3), (22, .iconst 1, 1), (23, .goto 4, 3), (26, .iconst 0, 1), (27, .iadd, 1), (28, .istore_n 1, 1), (29, .iinc 2 1, 3), (32, .goto (-28), 3), (35, .iload_n 1, 1), (36, .ireturn, 1)]
theorem dk_X1_boxesTold : ∀ q ∈ il_X1_boxesTold, decode cX1_boxesTold q.1 = .ok (q.2.1, q.2.2) := by decide +kernel
def il_X1_posesTaught : List (Nat × Instr × Nat) := [(0, .iconst 0, 1), (1, .istore_n 1, 1), (2, .iconst 0, 1), (3, .istore_n 2, 1), (4, .iload_n 2, 1), (5, .bipush 16, 2), (7, .if_icmp .ge 29, 3), (10, .iload_n 1, 1), (11, .aload_n 0, 1), (12, .getfield 25, 3), (15, .iload_n 2, 1), (16, .aaload, 1), (17, .getfield 61, 3), (20, .ifCond .eq 7, 3), (23, .iconst 1, 1), (24, .goto 4, 3), (27, .iconst 0, 1), (28, .iadd, 1), (29, .istore_n 1, 1), (30, .iinc 2 1, 3), (33, .goto (-29), 3), (36, .iload_n 1, 1), (37, .ireturn, 1)]
theorem dk_X1_posesTaught : ∀ q ∈ il_X1_posesTaught, decode cX1_posesTaught q.1 = .ok (q.2.1, q.2.2) := by decide +kernel
def il_X1_allows : List (Nat × Instr × Nat) := [(0, .iconst 0, 1), (1, .istore_n 2, 1), (2, .iload_n 2, 1), (3, .iconst 4, 1), (4, .if_icmp .ge 26, 3), (7, .aload_n 0, 1), (8, .getfield 11, 3), (11, .iload_n 2, 1), (12, .aaload, 1), (13, .aload_n 1, 1), (14, .iload_n 2, 1), (15, .iaload, 1), (16, .invokevirtual 64, 3), (19, .ifCond .ne 5, 3), (22, .iconst 0, 1), (23, .ireturn, 1), (24, .iinc 2 1, 3), (27, .goto (-25), 3), (30, .iconst 1, 1), (31, .ireturn, 1)]
theorem dk_X1_allows : ∀ q ∈ il_X1_allows, decode cX1_allows q.1 = .ok (q.2.1, q.2.2) := by decide +kernel
def il_X1_oneTick : List (Nat × Instr × Nat) := [(0, .aload_n 1, 1), (1, .dup, 1), (2, .getfield 68, 3), (5, .iconst 1, 1), (6, .iadd, 1), (7, .putfield 68, 3), (10, .aload_n 0, 1), (11, .getfield 39, 3), (14, .aload_n 1, 1), (15, .getfield 68, 3), (18, .aload_n 1, 1), (19, .getfield 74, 3), (22, .invokevirtual 78, 3), (25, .aload_n 1, 1), (26, .getfield 82, 3), (29, .ifCond .le 15, 3), (32, .aload_n 0, 1), (33, .aload_n 1, 1), (34, .invokevirtual 85, 3), (37, .ifCond .eq 7, 3), (40, .iconst 1, 1), (41, .goto 4, 3), (44, .iconst 0, 1), (45, .istore_n 2, 1), (46, .iconst 0, 1), (47, .istore_n 3, 1), (48, .iload_n 3, 1), (49, .bipush 100, 2), (51, .if_icmp .gt 108, 3), (54, .iload_n 2, 1), (55, .ifCond .ne 104, 3), (58, .aload_n 1, 1), (59, .getfield 89, 3), (62, .ifCond .lt 17, 3), (65, .aload_n 1, 1), (66, .getfield 89, 3), (69, .aload_n 0, 1), (70, .getfield 32, 3), (73, .getfield 92, 3), (76, .if_icmp .lt 19, 3), (79, .aload_n 1, 1), (80, .aload_n 0, 1), (81, .getfield 32, 3), (84, .getfield 92, 3), (87, .invokevirtual 95, 3), (90, .iconst 1, 1), (91, .istore_n 2, 1), (92, .goto 61, 3), (95, .iload_n 3, 1), (96, .bipush 100, 2), (98, .if_icmp .ne 13, 3), (101, .aload_n 0, 1), (102, .aload_n 1, 1), (103, .iconst 4, 1), (104, .invokevirtual 99, 3), (107, .istore_n 2, 1), (108, .goto 45, 3), (111, .aload_n 0, 1), (112, .aload_n 1, 1), (113, .aload_n 0, 1), (114, .getfield 32, 3), (117, .getfield 103, 3), (120, .aload_n 1, 1), (121, .getfield 89, 3), (124, .iaload, 1), (125, .aload_n 0, 1), (126, .getfield 32, 3), (129, .getfield 106, 3), (132, .aload_n 1, 1), (133, .getfield 89, 3), (136, .iaload, 1), (137, .aload_n 0, 1), (138, .getfield 32, 3), (141, .getfield 109, 3), (144, .aload_n 1, 1), (145, .getfield 89, 3), (148, .iaload, 1), (149, .invokevirtual 112, 3), (152, .istore_n 2, 1), (153, .iinc 3 1, 3), (156, .goto (-108), 3), (159, .return_, 1)]
theorem dk_X1_oneTick : ∀ q ∈ il_X1_oneTick, decode cX1_oneTick q.1 = .ok (q.2.1, q.2.2) := by decide +kernel
def il_X1_carryOn : List (Nat × Instr × Nat) := [(0, .aload_n 1, 1), (1, .getfield 116, 3), (4, .ifCond .eq 11, 3), (7, .aload_n 0, 1), (8, .aload_n 1, 1), (9, .invokevirtual 119, 3), (12, .goto 8, 3), (15, .aload_n 0, 1), (16, .aload_n 1, 1), (17, .invokevirtual 122, 3), (20, .ireturn, 1)]
theorem dk_X1_carryOn : ∀ q ∈ il_X1_carryOn, decode cX1_carryOn q.1 = .ok (q.2.1, q.2.2) := by decide +kernel
def il_X1_carryOnWait : List (Nat × Instr × Nat) := [(0, .aload_n 1, 1), (1, .invokevirtual 125, 3), (4, .iconst 1, 1), (5, .ireturn, 1)]
theorem dk_X1_carryOnWait : ∀ q ∈ il_X1_carryOnWait, decode cX1_carryOnWait q.1 = .ok (q.2.1, q.2.2) := by decide +kernel
def il_X1_carryOnGo : List (Nat × Instr × Nat) := [(0, .aload_n 1, 1), (1, .getfield 128, 3), (4, .iconst (-1), 1), (5, .if_icmp .eq 21, 3), (8, .aload_n 1, 1), (9, .getfield 74, 3), (12, .aload_n 1, 1), (13, .getfield 128, 3), (16, .baload, 1), (17, .ifCond .eq 9, 3), (20, .aload_n 1, 1), (21, .invokevirtual 131, 3), (24, .iconst 0, 1), (25, .ireturn, 1), (26, .aload_n 1, 1), (27, .getfield 134, 3), (30, .aload_n 1, 1), (31, .getfield 134, 3), (34, .getfield 138, 3), (37, .aload_n 1, 1), (38, .getfield 82, 3), (41, .isub, 1), (42, .iconst 1, 1), (43, .iadd, 1), (44, .invokevirtual 143, 3), (47, .lstore_n 2, 1), (48, .iconst 0, 1), (49, .istore 4, 2), (51, .iload 4, 2), (53, .iconst 4, 1), (54, .if_icmp .ge 26, 3), (57, .aload_n 0, 1), (58, .getfield 50, 3), (61, .iload 4, 2), (63, .aload_n 1, 1), (64, .getfield 134, 3), (67, .iload 4, 2), (69, .lload_n 2, 1), (70, .invokevirtual 147, 3), (73, .iastore, 1), (74, .iinc 4 1, 3), (77, .goto (-26), 3), (80, .aload_n 0, 1), (81, .getfield 46, 3), (84, .aload_n 0, 1), (85, .getfield 11, 3), (88, .aload_n 0, 1), (89, .getfield 50, 3), (92, .invokevirtual 151, 3), (95, .iconst 0, 1), (96, .istore 4, 2), (98, .iload 4, 2), (100, .iconst 4, 1), (101, .if_icmp .ge 33, 3), (104, .aload_n 0, 1), (105, .getfield 19, 3), (108, .iload 4, 2), (110, .aaload, 1), (111, .aload_n 0, 1), (112, .getfield 46, 3), (115, .invokevirtual 155, 3), (118, .ifCond .eq 10, 3), (121, .aload_n 0, 1), (122, .aload_n 1, 1), (123, .iconst 2, 1), (124, .invokevirtual 99, 3), (127, .ireturn, 1), (128, .iinc 4 1, 3), (131, .goto (-33), 3), (134, .iconst 0, 1), (135, .istore 4, 2), (137, .iload 4, 2), (139, .iconst 4, 1), (140, .if_icmp .ge 52, 3), (143, .aload_n 1, 1), (144, .getfield 159, 3), (147, .iload 4, 2), (149, .dup2, 1), (150, .laload, 1), (151, .aload_n 0, 1), (152, .getfield 50, 3), (155, .iload 4, 2), (157, .iaload, 1), (158, .aload_n 1, 1), (159, .getfield 163, 3), (162, .iload 4, 2), (164, .iaload, 1), (165, .isub, 1), (166, .invokestatic 166, 3), (169, .i2l, 1), (170, .ladd, 1), (171, .lastore, 1), (172, .aload_n 1, 1), (173, .getfield 163, 3), (176, .iload 4, 2), (178, .aload_n 0, 1), (179, .getfield 50, 3), (182, .iload 4, 2), (184, .iaload, 1), (185, .iastore, 1), (186, .iinc 4 1, 3), (189, .goto (-52), 3), (192, .aload_n 1, 1), (193, .invokevirtual 125, 3), (196, .iconst 1, 1), (197, .ireturn, 1)]
theorem dk_X1_carryOnGo : ∀ q ∈ il_X1_carryOnGo, decode cX1_carryOnGo q.1 = .ok (q.2.1, q.2.2) := by decide +kernel
def il_X1_doLine : List (Nat × Instr × Nat) := [(0, .aload_n 1, 1), (1, .dup, 1), (2, .getfield 172, 3), (5, .iconst 1, 1), (6, .iadd, 1), (7, .putfield 172, 3), (10, .iload_n 2, 1), (11, .tableswitch 215 0 10 #[57, 71, 78, 98, 135, 142, 149, 155, 169, 197, 205], 57), (68, .aload_n 0, 1), (69, .aload_n 1, 1), (70, .aload_n 0, 1), (71, .getfield 25, 3), (74, .iload_n 3, 1), (75, .aaload, 1), (76, .iload 4, 2), (78, .invokevirtual 175, 3), (81, .ireturn, 1), (82, .aload_n 0, 1), (83, .aload_n 1, 1), (84, .iload_n 3, 1), (85, .invokevirtual 179, 3), (88, .ireturn, 1), (89, .aload_n 1, 1), (90, .getfield 182, 3), (93, .iload_n 3, 1), (94, .iload 4, 2), (96, .iconst 1, 1), (97, .if_icmp .ne 7, 3), (100, .iconst 1, 1), (101, .goto 4, 3), (104, .iconst 0, 1), (105, .bastore, 1), (106, .goto 125, 3), (109, .aload_n 1, 1), (110, .dup, 1), (111, .getfield 89, 3), (114, .aload_n 1, 1), (115, .getfield 74, 3), (118, .iload_n 3, 1), (119, .baload, 1), (120, .iload 4, 2), (122, .iconst 1, 1), (123, .if_icmp .ne 7, 3), (126, .iconst 1, 1), (127, .goto 4, 3), (130, .iconst 0, 1), (131, .if_icmp .ne 7, 3), (134, .iconst 1, 1), (135, .goto 4, 3), (138, .iconst 0, 1), (139, .iadd, 1), (140, .putfield 89, 3), (143, .goto 88, 3), (146, .aload_n 0, 1), (147, .aload_n 1, 1), (148, .iload_n 3, 1), (149, .invokevirtual 185, 3), (152, .ireturn, 1), (153, .aload_n 0, 1), (154, .aload_n 1, 1), (155, .iload_n 3, 1), (156, .invokevirtual 188, 3), (159, .ireturn, 1), (160, .aload_n 0, 1), (161, .aload_n 1, 1), (162, .invokevirtual 191, 3), (165, .ireturn, 1), (166, .aload_n 1, 1), (167, .getfield 194, 3), (170, .iload_n 3, 1), (171, .dup2, 1), (172, .iaload, 1), (173, .iload 4, 2), (175, .iadd, 1), (176, .iastore, 1), (177, .goto 54, 3), (180, .aload_n 1, 1), (181, .dup, 1), (182, .getfield 89, 3), (185, .aload_n 1, 1), (186, .getfield 194, 3), (189, .iload_n 3, 1), (190, .iaload, 1), (191, .iload 4, 2), (193, .if_icmp .ge 7, 3), (196, .iconst 1, 1), (197, .goto 4, 3), (200, .iconst 0, 1), (201, .iadd, 1), (202, .putfield 89, 3), (205, .goto 26, 3), (208, .aload_n 1, 1), (209, .iload_n 3, 1), (210, .putfield 197, 3), (213, .goto 18, 3), (216, .aload_n 1, 1), (217, .aload_n 1, 1), (218, .getfield 89, 3), (221, .invokevirtual 95, 3), (224, .iconst 1, 1), (225, .ireturn, 1), (226, .aload_n 1, 1), (227, .iload_n 3, 1), (228, .putfield 200, 3), (231, .aload_n 1, 1), (232, .invokevirtual 131, 3), (235, .iconst 0, 1), (236, .ireturn, 1)]
theorem dk_X1_doLine : ∀ q ∈ il_X1_doLine, decode cX1_doLine q.1 = .ok (q.2.1, q.2.2) := by decide +kernel
def il_X1_beginGo : List (Nat × Instr × Nat) := [(0, .aload_n 1, 1), (1, .aload_n 1, 1), (2, .getfield 197, 3), (5, .putfield 128, 3), (8, .aload_n 1, 1), (9, .iconst (-1), 1), (10, .putfield 197, 3), (13, .aload_n 2, 1), (14, .getfield 61, 3), (17, .ifCond .eq 14, 3), (20, .aload_n 0, 1), (21, .aload_n 2, 1), (22, .getfield 203, 3), (25, .invokevirtual 204, 3), (28, .ifCond .ne 10, 3), (31, .aload_n 0, 1), (32, .aload_n 1, 1), (33, .iconst 1, 1), (34, .invokevirtual 99, 3), (37, .ireturn, 1), (38, .aload_n 1, 1), (39, .getfield 134, 3), (42, .aload_n 0, 1), (43, .getfield 11, 3), (46, .aload_n 1, 1), (47, .getfield 163, 3), (50, .aload_n 2, 1), (51, .getfield 203, 3), (54, .iload_n 3, 1), (55, .invokevirtual 207, 3), (58, .aload_n 1, 1), (59, .getfield 134, 3), (62, .getfield 138, 3), (65, .ifCond .ne 9, 3), (68, .aload_n 1, 1), (69, .invokevirtual 131, 3), (72, .iconst 0, 1), (73, .ireturn, 1), (74, .aload_n 1, 1), (75, .iconst 1, 1), (76, .putfield 116, 3), (79, .aload_n 1, 1), (80, .aload_n 1, 1), (81, .getfield 134, 3), (84, .getfield 138, 3), (87, .putfield 82, 3), (90, .aload_n 0, 1), (91, .aload_n 1, 1), (92, .invokevirtual 119, 3), (95, .ireturn, 1)]
theorem dk_X1_beginGo : ∀ q ∈ il_X1_beginGo, decode cX1_beginGo q.1 = .ok (q.2.1, q.2.2) := by decide +kernel
def il_X1_beginWait : List (Nat × Instr × Nat) := [(0, .iload_n 2, 1), (1, .ifCond .ne 9, 3), (4, .aload_n 1, 1), (5, .invokevirtual 131, 3), (8, .iconst 0, 1), (9, .ireturn, 1), (10, .aload_n 1, 1), (11, .iload_n 2, 1), (12, .putfield 82, 3), (15, .aload_n 0, 1), (16, .aload_n 1, 1), (17, .invokevirtual 122, 3), (20, .ireturn, 1)]
theorem dk_X1_beginWait : ∀ q ∈ il_X1_beginWait, decode cX1_beginWait q.1 = .ok (q.2.1, q.2.2) := by decide +kernel
def il_X1_jump : List (Nat × Instr × Nat) := [(0, .iload_n 2, 1), (1, .aload_n 0, 1), (2, .getfield 32, 3), (5, .getfield 92, 3), (8, .if_icmp .lt 10, 3), (11, .aload_n 0, 1), (12, .aload_n 1, 1), (13, .iconst 3, 1), (14, .invokevirtual 99, 3), (17, .ireturn, 1), (18, .aload_n 1, 1), (19, .iload_n 2, 1), (20, .putfield 89, 3), (23, .iconst 0, 1), (24, .ireturn, 1)]
theorem dk_X1_jump : ∀ q ∈ il_X1_jump, decode cX1_jump q.1 = .ok (q.2.1, q.2.2) := by decide +kernel
def il_X1_call : List (Nat × Instr × Nat) := [(0, .iload_n 2, 1), (1, .aload_n 0, 1), (2, .getfield 32, 3), (5, .getfield 92, 3), (8, .if_icmp .lt 10, 3), (11, .aload_n 0, 1), (12, .aload_n 1, 1), (13, .iconst 3, 1), (14, .invokevirtual 99, 3), (17, .ireturn, 1), (18, .aload_n 1, 1), (19, .getfield 211, 3), (22, .bipush 12, 2), (24, .if_icmp .lt 10, 3), (27, .aload_n 0, 1), (28, .aload_n 1, 1), (29, .iconst 5, 1), (30, .invokevirtual 99, 3), (33, .ireturn, 1), (34, .aload_n 1, 1), (35, .getfield 214, 3), (38, .aload_n 1, 1), (39, .getfield 211, 3), (42, .aload_n 1, 1), (43, .getfield 89, 3), (46, .iconst 1, 1), (47, .iadd, 1), (48, .iastore, 1), (49, .aload_n 1, 1), (50, .dup, 1), (51, .getfield 211, 3), (54, .iconst 1, 1), (55, .iadd, 1), (56, .putfield 211, 3), (59, .aload_n 1, 1), (60, .iload_n 2, 1), (61, .putfield 89, 3), (64, .iconst 0, 1), (65, .ireturn, 1)]
theorem dk_X1_call : ∀ q ∈ il_X1_call, decode cX1_call q.1 = .ok (q.2.1, q.2.2) := by decide +kernel
def il_X1_comeBack : List (Nat × Instr × Nat) := [(0, .aload_n 1, 1), (1, .getfield 211, 3), (4, .ifCond .gt 13, 3), (7, .aload_n 1, 1), (8, .aload_n 1, 1), (9, .getfield 89, 3), (12, .invokevirtual 95, 3), (15, .iconst 1, 1), (16, .ireturn, 1), (17, .aload_n 1, 1), (18, .dup, 1), (19, .getfield 211, 3), (22, .iconst 1, 1), (23, .isub, 1), (24, .putfield 211, 3), (27, .aload_n 1, 1), (28, .aload_n 1, 1), (29, .getfield 214, 3), (32, .aload_n 1, 1), (33, .getfield 211, 3), (36, .iaload, 1), (37, .putfield 89, 3), (40, .iconst 0, 1), (41, .ireturn, 1)]
theorem dk_X1_comeBack : ∀ q ∈ il_X1_comeBack, decode cX1_comeBack q.1 = .ok (q.2.1, q.2.2) := by decide +kernel
def il_X1_err : List (Nat × Instr × Nat) := [(0, .aload_n 1, 1), (1, .getfield 200, 3), (4, .iconst (-1), 1), (5, .if_icmp .ne 11, 3), (8, .aload_n 1, 1), (9, .iload_n 2, 1), (10, .invokevirtual 217, 3), (13, .goto 52, 3), (16, .aload_n 1, 1), (17, .getfield 200, 3), (20, .aload_n 0, 1), (21, .getfield 32, 3), (24, .getfield 92, 3), (27, .if_icmp .lt 11, 3), (30, .aload_n 1, 1), (31, .iconst 3, 1), (32, .invokevirtual 217, 3), (35, .goto 30, 3), (38, .aload_n 1, 1), (39, .invokevirtual 220, 3), (42, .aload_n 1, 1), (43, .iload_n 2, 1), (44, .putfield 223, 3), (47, .aload_n 1, 1), (48, .aload_n 1, 1), (49, .getfield 200, 3), (52, .putfield 89, 3), (55, .aload_n 1, 1), (56, .iconst (-1), 1), (57, .putfield 200, 3), (60, .aload_n 1, 1), (61, .iconst 0, 1), (62, .putfield 211, 3), (65, .iconst 1, 1), (66, .ireturn, 1)]
theorem dk_X1_err : ∀ q ∈ il_X1_err, decode cX1_err q.1 = .ok (q.2.1, q.2.2) := by decide +kernel
def il_X2_init : List (Nat × Instr × Nat) := [(0, .aload_n 0, 1), (1, .invokespecial 1, 3), (4, .aload_n 0, 1), (5, .iconst 0, 1), (6, .putfield 7, 3), (9, .aload_n 0, 1), (10, .bipush 100, 2), (12, .putfield 13, 3), (15, .aload_n 0, 1), (16, .ldc 16, 2), (18, .putfield 17, 3), (21, .aload_n 0, 1), (22, .ldc 20, 2), (24, .putfield 21, 3), (27, .aload_n 0, 1), (28, .sipush 10000, 3), (31, .putfield 24, 3), (34, .aload_n 0, 1), (35, .sipush 1000, 3), (38, .putfield 27, 3), (41, .return_, 1)]
theorem dk_X2_init : ∀ q ∈ il_X2_init, decode cX2_init q.1 = .ok (q.2.1, q.2.2) := by decide +kernel
def il_X2_allows : List (Nat × Instr × Nat) := [(0, .aload_n 0, 1), (1, .getfield 17, 3), (4, .iload_n 1, 1), (5, .if_icmp .gt 15, 3), (8, .iload_n 1, 1), (9, .aload_n 0, 1), (10, .getfield 21, 3), (13, .if_icmp .gt 7, 3), (16, .iconst 1, 1), (17, .goto 4, 3), (20, .iconst 0, 1), (21, .ireturn, 1)]
theorem dk_X2_allows : ∀ q ∈ il_X2_allows, decode cX2_allows q.1 = .ok (q.2.1, q.2.2) := by decide +kernel
def il_X3_init : List (Nat × Instr × Nat) := [(0, .aload_n 0, 1), (1, .invokespecial 3, 3), (4, .aload_n 0, 1), (5, .iconst 4, 1), (6, .newarray .int, 2), (8, .putfield 9, 3), (11, .aload_n 0, 1), (12, .iconst 4, 1), (13, .newarray .long, 2), (15, .putfield 15, 3), (18, .aload_n 0, 1), (19, .bipush 8, 2), (21, .newarray .boolean, 2), (23, .putfield 19, 3), (26, .aload_n 0, 1), (27, .bipush 8, 2), (29, .newarray .boolean, 2), (31, .putfield 23, 3), (34, .aload_n 0, 1), (35, .bipush 8, 2), (37, .newarray .int, 2), (39, .putfield 26, 3), (42, .aload_n 0, 1), (43, .bipush 12, 2), (45, .newarray .int, 2), (47, .putfield 29, 3), (50, .aload_n 0, 1), (51, .new 32, 3), (54, .dup, 1), (55, .invokespecial 34, 3), (58, .putfield 35, 3), (61, .aload_n 0, 1), (62, .iconst 0, 1), (63, .putfield 39, 3), (66, .aload_n 0, 1), (67, .iconst (-1), 1), (68, .putfield 43, 3), (71, .aload_n 0, 1), (72, .iconst (-1), 1), (73, .putfield 46, 3), (76, .aload_n 0, 1), (77, .iconst (-1), 1), (78, .putfield 49, 3), (81, .return_, 1)]
theorem dk_X3_init : ∀ q ∈ il_X3_init, decode cX3_init q.1 = .ok (q.2.1, q.2.2) := by decide +kernel
def il_X3_begin : List (Nat × Instr × Nat) := [(0, .iconst 0, 1), (1, .istore_n 1, 1), (2, .iload_n 1, 1), (3, .bipush 8, 2), (5, .if_icmp .ge 23, 3), (8, .aload_n 0, 1), (9, .getfield 23, 3), (12, .iload_n 1, 1), (13, .iconst 0, 1), (14, .bastore, 1), (15, .aload_n 0, 1), (16, .getfield 26, 3), (19, .iload_n 1, 1), (20, .iconst 0, 1), (21, .iastore, 1), (22, .iinc 1 1, 3), (25, .goto (-23), 3), (28, .aload_n 0, 1), (29, .iconst 1, 1), (30, .putfield 39, 3), (33, .aload_n 0, 1), (34, .iconst 0, 1), (35, .putfield 52, 3), (38, .aload_n 0, 1), (39, .iconst 0, 1), (40, .putfield 55, 3), (43, .aload_n 0, 1), (44, .iconst 0, 1), (45, .putfield 58, 3), (48, .aload_n 0, 1), (49, .iconst 0, 1), (50, .putfield 61, 3), (53, .aload_n 0, 1), (54, .iconst 0, 1), (55, .putfield 64, 3), (58, .aload_n 0, 1), (59, .iconst (-1), 1), (60, .putfield 43, 3), (63, .aload_n 0, 1), (64, .iconst (-1), 1), (65, .putfield 46, 3), (68, .return_, 1)]
theorem dk_X3_begin : ∀ q ∈ il_X3_begin, decode cX3_begin q.1 = .ok (q.2.1, q.2.2) := by decide +kernel
def il_X3_dropWhatIsUnderWay : List (Nat × Instr × Nat) := [(0, .aload_n 0, 1), (1, .iconst 0, 1), (2, .putfield 67, 3), (5, .aload_n 0, 1), (6, .iconst 0, 1), (7, .putfield 71, 3), (10, .return_, 1)]
theorem dk_X3_dropWhatIsUnderWay : ∀ q ∈ il_X3_dropWhatIsUnderWay, decode cX3_dropWhatIsUnderWay q.1 = .ok (q.2.1, q.2.2) := by decide +kernel
def il_X3_end : List (Nat × Instr × Nat) := [(0, .aload_n 0, 1), (1, .iconst 2, 1), (2, .putfield 39, 3), (5, .aload_n 0, 1), (6, .iload_n 1, 1), (7, .putfield 55, 3), (10, .return_, 1)]
theorem dk_X3_end : ∀ q ∈ il_X3_end, decode cX3_end q.1 = .ok (q.2.1, q.2.2) := by decide +kernel
def il_X3_stopBy : List (Nat × Instr × Nat) := [(0, .aload_n 0, 1), (1, .iconst 3, 1), (2, .putfield 39, 3), (5, .aload_n 0, 1), (6, .iload_n 1, 1), (7, .putfield 58, 3), (10, .aload_n 0, 1), (11, .invokevirtual 74, 3), (14, .return_, 1)]
theorem dk_X3_stopBy : ∀ q ∈ il_X3_stopBy, decode cX3_stopBy q.1 = .ok (q.2.1, q.2.2) := by decide +kernel
def il_X3_spendTick : List (Nat × Instr × Nat) := [(0, .aload_n 0, 1), (1, .dup, 1), (2, .getfield 71, 3), (5, .iconst 1, 1), (6, .isub, 1), (7, .putfield 71, 3), (10, .aload_n 0, 1), (11, .getfield 71, 3), (14, .ifCond .gt 7, 3), (17, .aload_n 0, 1), (18, .invokevirtual 77, 3), (21, .return_, 1)]
theorem dk_X3_spendTick : ∀ q ∈ il_X3_spendTick, decode cX3_spendTick q.1 = .ok (q.2.1, q.2.2) := by decide +kernel
def il_X3_passLine : List (Nat × Instr × Nat) := [(0, .aload_n 0, 1), (1, .invokevirtual 74, 3), (4, .aload_n 0, 1), (5, .dup, 1), (6, .getfield 55, 3), (9, .iconst 1, 1), (10, .iadd, 1), (11, .putfield 55, 3), (14, .return_, 1)]
theorem dk_X3_passLine : ∀ q ∈ il_X3_passLine, decode cX3_passLine q.1 = .ok (q.2.1, q.2.2) := by decide +kernel
def il_X3_become : List (Nat × Instr × Nat) := [(0, .aload_n 1, 1), (1, .getfield 9, 3), (4, .iconst 0, 1), (5, .aload_n 0, 1), (6, .getfield 9, 3), (9, .iconst 0, 1), (10, .iconst 4, 1), (11, .invokestatic 80, 3), (14, .aload_n 1, 1), (15, .getfield 15, 3), (18, .iconst 0, 1), (19, .aload_n 0, 1), (20, .getfield 15, 3), (23, .iconst 0, 1), (24, .iconst 4, 1), (25, .invokestatic 80, 3), (28, .aload_n 1, 1), (29, .getfield 26, 3), (32, .iconst 0, 1), (33, .aload_n 0, 1), (34, .getfield 26, 3), (37, .iconst 0, 1), (38, .bipush 8, 2), (40, .invokestatic 80, 3), (43, .aload_n 1, 1), (44, .getfield 29, 3), (47, .iconst 0, 1), (48, .aload_n 0, 1), (49, .getfield 29, 3), (52, .iconst 0, 1), (53, .bipush 12, 2), (55, .invokestatic 80, 3), (58, .iconst 0, 1), (59, .istore_n 2, 1), (60, .iload_n 2, 1), (61, .bipush 8, 2), (63, .if_icmp .ge 33, 3), (66, .aload_n 0, 1), (67, .getfield 19, 3), (70, .iload_n 2, 1), (71, .aload_n 1, 1), (72, .getfield 19, 3), (75, .iload_n 2, 1), (76, .baload, 1), (77, .bastore, 1), (78, .aload_n 0, 1), (79, .getfield 23, 3), (82, .iload_n 2, 1), (83, .aload_n 1, 1), (84, .getfield 23, 3), (87, .iload_n 2, 1), (88, .baload, 1), (89, .bastore, 1), (90, .iinc 2 1, 3), (93, .goto (-33), 3), (96, .aload_n 0, 1), (97, .getfield 35, 3), (100, .aload_n 1, 1), (101, .getfield 35, 3), (104, .invokevirtual 86, 3), (107, .aload_n 0, 1), (108, .aload_n 1, 1), (109, .getfield 61, 3), (112, .putfield 61, 3), (115, .aload_n 0, 1), (116, .aload_n 1, 1), (117, .getfield 39, 3), (120, .putfield 39, 3), (123, .aload_n 0, 1), (124, .aload_n 1, 1), (125, .getfield 52, 3), (128, .putfield 52, 3), (131, .aload_n 0, 1), (132, .aload_n 1, 1), (133, .getfield 55, 3), (136, .putfield 55, 3), (139, .aload_n 0, 1), (140, .aload_n 1, 1), (141, .getfield 58, 3), (144, .putfield 58, 3), (147, .aload_n 0, 1), (148, .aload_n 1, 1), (149, .getfield 64, 3), (152, .putfield 64, 3), (155, .aload_n 0, 1), (156, .aload_n 1, 1), (157, .getfield 71, 3), (160, .putfield 71, 3), (163, .aload_n 0, 1), (164, .aload_n 1, 1), (165, .getfield 67, 3), (168, .putfield 67, 3), (171, .aload_n 0, 1), (172, .aload_n 1, 1), (173, .getfield 43, 3), (176, .putfield 43, 3), (179, .aload_n 0, 1), (180, .aload_n 1, 1), (181, .getfield 46, 3), (184, .putfield 46, 3), (187, .aload_n 0, 1), (188, .aload_n 1, 1), (189, .getfield 49, 3), (192, .putfield 49, 3), (195, .return_, 1)]
theorem dk_X3_become : ∀ q ∈ il_X3_become, decode cX3_become q.1 = .ok (q.2.1, q.2.2) := by decide +kernel
def il_X3_differsFrom : List (Nat × Instr × Nat) := [(0, .iconst 0, 1), (1, .istore_n 2, 1), (2, .iload_n 2, 1), (3, .iconst 4, 1), (4, .if_icmp .ge 26, 3), (7, .aload_n 0, 1), (8, .getfield 9, 3), (11, .iload_n 2, 1), (12, .iaload, 1), (13, .aload_n 1, 1), (14, .getfield 9, 3), (17, .iload_n 2, 1), (18, .iaload, 1), (19, .if_icmp .eq 5, 3), (22, .iconst 1, 1), (23, .ireturn, 1), (24, .iinc 2 1, 3), (27, .goto (-25), 3), (30, .iconst 0, 1), (31, .istore_n 2, 1), (32, .iload_n 2, 1), (33, .bipush 8, 2), (35, .if_icmp .ge 41, 3), (38, .aload_n 0, 1), (39, .getfield 23, 3), (42, .iload_n 2, 1), (43, .baload, 1), (44, .aload_n 1, 1), (45, .getfield 23, 3), (48, .iload_n 2, 1), (49, .baload, 1), (50, .if_icmp .ne 18, 3), (53, .aload_n 0, 1), (54, .getfield 26, 3), (57, .iload_n 2, 1), (58, .iaload, 1), (59, .aload_n 1, 1), (60, .getfield 26, 3), (63, .iload_n 2, 1), (64, .iaload, 1), (65, .if_icmp .eq 5, 3), (68, .iconst 1, 1), (69, .ireturn, 1), (70, .iinc 2 1, 3), (73, .goto (-41), 3), (76, .iconst 0, 1), (77, .ireturn, 1)]
theorem dk_X3_differsFrom : ∀ q ∈ il_X3_differsFrom, decode cX3_differsFrom q.1 = .ok (q.2.1, q.2.2) := by decide +kernel
def il_X4_init : List (Nat × Instr × Nat) := [(0, .aload_n 0, 1), (1, .invokespecial 3, 3), (4, .aload_n 0, 1), (5, .iconst 4, 1), (6, .newarray .int, 2), (8, .putfield 9, 3), (11, .aload_n 0, 1), (12, .iconst 4, 1), (13, .newarray .int, 2), (15, .putfield 15, 3), (18, .return_, 1)]
theorem dk_X4_init : ∀ q ∈ il_X4_init, decode cX4_init q.1 = .ok (q.2.1, q.2.2) := by decide +kernel
def il_X4_aim : List (Nat × Instr × Nat) := [(0, .aload_n 0, 1), (1, .iconst 0, 1), (2, .putfield 18, 3), (5, .aload_n 0, 1), (6, .iconst 0, 1), (7, .putfield 22, 3), (10, .aload_n 0, 1), (11, .iconst 1, 1), (12, .putfield 25, 3), (15, .aload_n 0, 1), (16, .iconst 1, 1), (17, .putfield 28, 3), (20, .iconst 0, 1), (21, .istore 5, 2), (23, .iload 5, 2), (25, .iconst 4, 1), (26, .if_icmp .ge 121, 3), (29, .aload_n 0, 1), (30, .getfield 9, 3), (33, .iload 5, 2), (35, .aload_n 2, 1), (36, .iload 5, 2), (38, .iaload, 1), (39, .iastore, 1), (40, .aload_n 0, 1), (41, .getfield 15, 3), (44, .iload 5, 2), (46, .aload_n 3, 1), (47, .iload 5, 2), (49, .iaload, 1), (50, .aload_n 2, 1), (51, .iload 5, 2), (53, .iaload, 1), (54, .isub, 1), (55, .iastore, 1), (56, .aload_n 0, 1), (57, .getfield 15, 3), (60, .iload 5, 2), (62, .iaload, 1), (63, .invokestatic 31, 3), (66, .istore 6, 2), (68, .iconst 1, 1), (69, .aload_n 1, 1), (70, .iload 5, 2), (72, .aaload, 1), (73, .getfield 37, 3), (76, .iload 4, 2), (78, .imul, 1), (79, .bipush 100, 2), (81, .idiv, 1), (82, .invokestatic 40, 3), (85, .istore 7, 2), (87, .iload 6, 2), (89, .iload 7, 2), (91, .aload_n 1, 1), (92, .iload 5, 2), (94, .aaload, 1), (95, .getfield 44, 3), (98, .invokestatic 45, 3), (101, .istore 8, 2), (103, .iload 8, 2), (105, .aload_n 0, 1), (106, .getfield 18, 3), (109, .if_icmp .le 32, 3), (112, .aload_n 0, 1), (113, .iload 8, 2), (115, .putfield 18, 3), (118, .aload_n 0, 1), (119, .iload 6, 2), (121, .putfield 22, 3), (124, .aload_n 0, 1), (125, .iload 7, 2), (127, .putfield 25, 3), (130, .aload_n 0, 1), (131, .aload_n 1, 1), (132, .iload 5, 2), (134, .aaload, 1), (135, .getfield 44, 3), (138, .putfield 28, 3), (141, .iinc 5 1, 3), (144, .goto (-121), 3), (147, .return_, 1)]
theorem dk_X4_aim : ∀ q ∈ il_X4_aim, decode cX4_aim q.1 = .ok (q.2.1, q.2.2) := by decide +kernel
def il_X4_stateAt : List (Nat × Instr × Nat) := [(0, .aload_n 0, 1), (1, .getfield 22, 3), (4, .ifCond .ne 12, 3), (7, .aload_n 0, 1), (8, .getfield 9, 3), (11, .iload_n 1, 1), (12, .iaload, 1), (13, .goto 26, 3), (16, .aload_n 0, 1), (17, .getfield 9, 3), (20, .iload_n 1, 1), (21, .iaload, 1), (22, .aload_n 0, 1), (23, .getfield 15, 3), (26, .iload_n 1, 1), (27, .iaload, 1), (28, .i2l, 1), (29, .lload_n 2, 1), (30, .lmul, 1), (31, .aload_n 0, 1), (32, .getfield 22, 3), (35, .i2l, 1), (36, .ldiv, 1), (37, .l2i, 1), (38, .iadd, 1), (39, .ireturn, 1)]
theorem dk_X4_stateAt : ∀ q ∈ il_X4_stateAt, decode cX4_stateAt q.1 = .ok (q.2.1, q.2.2) := by decide +kernel
def il_X4_goneBehind : List (Nat × Instr × Nat) := [(0, .aload_n 0, 1), (1, .getfield 18, 3), (4, .aload_n 0, 1), (5, .getfield 18, 3), (8, .iconst 2, 1), (9, .idiv, 1), (10, .isub, 1), (11, .istore_n 2, 1), (12, .iload_n 1, 1), (13, .iload_n 2, 1), (14, .if_icmp .gt 18, 3), (17, .iload_n 1, 1), (18, .aload_n 0, 1), (19, .getfield 25, 3), (22, .aload_n 0, 1), (23, .getfield 28, 3), (26, .invokestatic 49, 3), (29, .goto 51, 3), (32, .aload_n 0, 1), (33, .getfield 18, 3), (36, .iconst 2, 1), (37, .idiv, 1), (38, .aload_n 0, 1), (39, .getfield 25, 3), (42, .aload_n 0, 1), (43, .getfield 28, 3), (46, .invokestatic 49, 3), (49, .iload_n 2, 1), (50, .aload_n 0, 1), (51, .getfield 25, 3), (54, .aload_n 0, 1), (55, .getfield 28, 3), (58, .invokestatic 49, 3), (61, .ladd, 1), (62, .aload_n 0, 1), (63, .getfield 18, 3), (66, .iload_n 1, 1), (67, .isub, 1), (68, .aload_n 0, 1), (69, .getfield 25, 3), (72, .aload_n 0, 1), (73, .getfield 28, 3), (76, .invokestatic 49, 3), (79, .lsub, 1), (80, .lstore_n 3, 1), (81, .lload_n 3, 1), (82, .aload_n 0, 1), (83, .getfield 22, 3), (86, .i2l, 1), (87, .lcmp, 1), (88, .ifCond .ge 7, 3), (91, .lload_n 3, 1), (92, .goto 8, 3), (95, .aload_n 0, 1), (96, .getfield 22, 3), (99, .i2l, 1), (100, .lreturn, 1)]
theorem dk_X4_goneBehind : ∀ q ∈ il_X4_goneBehind, decode cX4_goneBehind q.1 = .ok (q.2.1, q.2.2) := by decide +kernel
def il_X4_become : List (Nat × Instr × Nat) := [(0, .aload_n 1, 1), (1, .getfield 9, 3), (4, .iconst 0, 1), (5, .aload_n 0, 1), (6, .getfield 9, 3), (9, .iconst 0, 1), (10, .iconst 4, 1), (11, .invokestatic 53, 3), (14, .aload_n 1, 1), (15, .getfield 15, 3), (18, .iconst 0, 1), (19, .aload_n 0, 1), (20, .getfield 15, 3), (23, .iconst 0, 1), (24, .iconst 4, 1), (25, .invokestatic 53, 3), (28, .aload_n 0, 1), (29, .aload_n 1, 1), (30, .getfield 18, 3), (33, .putfield 18, 3), (36, .aload_n 0, 1), (37, .aload_n 1, 1), (38, .getfield 22, 3), (41, .putfield 22, 3), (44, .aload_n 0, 1), (45, .aload_n 1, 1), (46, .getfield 25, 3), (49, .putfield 25, 3), (52, .aload_n 0, 1), (53, .aload_n 1, 1), (54, .getfield 28, 3), (57, .putfield 28, 3), (60, .return_, 1)]
theorem dk_X4_become : ∀ q ∈ il_X4_become, decode cX4_become q.1 = .ok (q.2.1, q.2.2) := by decide +kernel
def il_X4_leastTicks : List (Nat × Instr × Nat) := [(0, .iconst 0, 1), (1, .istore_n 3, 1), (2, .iload_n 0, 1), (3, .istore 4, 2), (5, .iconst 0, 1), (6, .istore 5, 2), (8, .iload 5, 2), (10, .bipush 32, 2), (12, .if_icmp .ge 67, 3), (15, .iload_n 3, 1), (16, .iload 4, 2), (18, .if_icmp .ge 61, 3), (21, .iload_n 3, 1), (22, .iload 4, 2), (24, .iload_n 3, 1), (25, .isub, 1), (26, .iconst 2, 1), (27, .idiv, 1), (28, .iadd, 1), (29, .istore 6, 2), (31, .iload 6, 2), (33, .iconst 2, 1), (34, .idiv, 1), (35, .istore 7, 2), (37, .iload 7, 2), (39, .iload_n 1, 1), (40, .iload_n 2, 1), (41, .invokestatic 49, 3), (44, .iload 6, 2), (46, .iload 7, 2), (48, .isub, 1), (49, .iload_n 1, 1), (50, .iload_n 2, 1), (51, .invokestatic 49, 3), (54, .ladd, 1), (55, .iload_n 0, 1), (56, .i2l, 1), (57, .lcmp, 1), (58, .ifCond .lt 10, 3), (61, .iload 6, 2), (63, .istore 4, 2), (65, .goto 8, 3), (68, .iload 6, 2), (70, .iconst 1, 1), (71, .iadd, 1), (72, .istore_n 3, 1), (73, .iinc 5 1, 3), (76, .goto (-68), 3), (79, .iload_n 3, 1), (80, .ireturn, 1)]
theorem dk_X4_leastTicks : ∀ q ∈ il_X4_leastTicks, decode cX4_leastTicks q.1 = .ok (q.2.1, q.2.2) := by decide +kernel
def il_X4_climb : List (Nat × Instr × Nat) := [(0, .iload_n 2, 1), (1, .ifCond .le 9, 3), (4, .iload_n 1, 1), (5, .iload_n 2, 1), (6, .idiv, 1), (7, .goto 4, 3), (10, .iconst 0, 1), (11, .istore_n 3, 1), (12, .iload_n 0, 1), (13, .iload_n 3, 1), (14, .if_icmp .gt 18, 3), (17, .iload_n 2, 1), (18, .i2l, 1), (19, .iload_n 0, 1), (20, .i2l, 1), (21, .lmul, 1), (22, .iload_n 0, 1), (23, .iconst 1, 1), (24, .iadd, 1), (25, .i2l, 1), (26, .lmul, 1), (27, .ldc2_w 59, 3), (30, .ldiv, 1), (31, .lreturn, 1), (32, .iload_n 2, 1), (33, .i2l, 1), (34, .iload_n 3, 1), (35, .i2l, 1), (36, .lmul, 1), (37, .iload_n 3, 1), (38, .iconst 1, 1), (39, .iadd, 1), (40, .i2l, 1), (41, .lmul, 1), (42, .ldc2_w 59, 3), (45, .ldiv, 1), (46, .iload_n 1, 1), (47, .i2l, 1), (48, .iload_n 0, 1), (49, .iload_n 3, 1), (50, .isub, 1), (51, .i2l, 1), (52, .lmul, 1), (53, .ladd, 1), (54, .lreturn, 1)]
theorem dk_X4_climb : ∀ q ∈ il_X4_climb, decode cX4_climb q.1 = .ok (q.2.1, q.2.2) := by decide +kernel
def il_X5_init : List (Nat × Instr × Nat) := [(0, .aload_n 0, 1), (1, .invokespecial 3, 3), (4, .aload_n 0, 1), (5, .iconst 4, 1), (6, .newarray .int, 2), (8, .putfield 9, 3), (11, .return_, 1)]
theorem dk_X5_init : ∀ q ∈ il_X5_init, decode cX5_init q.1 = .ok (q.2.1, q.2.2) := by decide +kernel
def il_X6_init : List (Nat × Instr × Nat) := [(0, .aload_n 0, 1), (1, .invokespecial 3, 3), (4, .aload_n 0, 1), (5, .bipush 60, 2), (7, .newarray .int, 2), (9, .putfield 9, 3), (12, .aload_n 0, 1), (13, .bipush 60, 2), (15, .newarray .int, 2), (17, .putfield 15, 3), (20, .aload_n 0, 1), (21, .bipush 60, 2), (23, .newarray .int, 2), (25, .putfield 18, 3), (28, .return_, 1)]
theorem dk_X6_init : ∀ q ∈ il_X6_init, decode cX6_init q.1 = .ok (q.2.1, q.2.2) := by decide +kernel
def il_X6_add : List (Nat × Instr × Nat) := [(0, .aload_n 0, 1), (1, .getfield 9, 3), (4, .aload_n 0, 1), (5, .getfield 21, 3), (8, .iload_n 1, 1), (9, .iastore, 1), (10, .aload_n 0, 1), (11, .getfield 15, 3), (14, .aload_n 0, 1), (15, .getfield 21, 3), (18, .iload_n 2, 1), (19, .iastore, 1), (20, .aload_n 0, 1), (21, .getfield 18, 3), (24, .aload_n 0, 1), (25, .getfield 21, 3), (28, .iload_n 3, 1), (29, .iastore, 1), (30, .aload_n 0, 1), (31, .dup, 1), (32, .getfield 21, 3), (35, .dup_x1, 1), (36, .iconst 1, 1), (37, .iadd, 1), (38, .putfield 21, 3), (41, .ireturn, 1)]
theorem dk_X6_add : ∀ q ∈ il_X6_add, decode cX6_add q.1 = .ok (q.2.1, q.2.2) := by decide +kernel
def il_X7_init : List (Nat × Instr × Nat) := [(0, .aload_n 0, 1), (1, .invokespecial 3, 3), (4, .aload_n 0, 1), (5, .bipush 40, 2), (7, .newarray .int, 2), (9, .putfield 9, 3), (12, .aload_n 0, 1), (13, .bipush 40, 2), (15, .newarray .int, 2), (17, .putfield 15, 3), (20, .aload_n 0, 1), (21, .bipush 40, 2), (23, .newarray .boolean, 2), (25, .putfield 18, 3), (28, .return_, 1)]
theorem dk_X7_init : ∀ q ∈ il_X7_init, decode cX7_init q.1 = .ok (q.2.1, q.2.2) := by decide +kernel
def il_X7_add : List (Nat × Instr × Nat) := [(0, .aload_n 0, 1), (1, .getfield 9, 3), (4, .aload_n 0, 1), (5, .getfield 22, 3), (8, .iload_n 1, 1), (9, .iastore, 1), (10, .aload_n 0, 1), (11, .getfield 15, 3), (14, .aload_n 0, 1), (15, .getfield 22, 3), (18, .iload_n 2, 1), (19, .iastore, 1), (20, .aload_n 0, 1), (21, .getfield 18, 3), (24, .aload_n 0, 1), (25, .getfield 22, 3), (28, .iload_n 3, 1), (29, .bastore, 1), (30, .aload_n 0, 1), (31, .dup, 1), (32, .getfield 22, 3), (35, .iconst 1, 1), (36, .iadd, 1), (37, .putfield 22, 3), (40, .aload_n 0, 1), (41, .getfield 22, 3), (44, .ireturn, 1)]
theorem dk_X7_add : ∀ q ∈ il_X7_add, decode cX7_add q.1 = .ok (q.2.1, q.2.2) := by decide +kernel
def il_X7_setInputs : List (Nat × Instr × Nat) := [(0, .iconst 0, 1), (1, .istore_n 3, 1), (2, .iload_n 3, 1), (3, .aload_n 0, 1), (4, .getfield 22, 3), (7, .if_icmp .ge 33, 3), (10, .aload_n 0, 1), (11, .getfield 9, 3), (14, .iload_n 3, 1), (15, .iaload, 1), (16, .iload_n 1, 1), (17, .if_icmp .ne 17, 3), (20, .aload_n 2, 1), (21, .aload_n 0, 1), (22, .getfield 15, 3), (25, .iload_n 3, 1), (26, .iaload, 1), (27, .aload_n 0, 1), (28, .getfield 18, 3), (31, .iload_n 3, 1), (32, .baload, 1), (33, .bastore, 1), (34, .iinc 3 1, 3), (37, .goto (-35), 3), (40, .return_, 1)]
theorem dk_X7_setInputs : ∀ q ∈ il_X7_setInputs, decode cX7_setInputs q.1 = .ok (q.2.1, q.2.2) := by decide +kernel
def il_X8_init : List (Nat × Instr × Nat) := [(0, .aload_n 0, 1), (1, .invokespecial 3, 3), (4, .return_, 1)]
theorem dk_X8_init : ∀ q ∈ il_X8_init, decode cX8_init q.1 = .ok (q.2.1, q.2.2) := by decide +kernel
def il_X8_follow : List (Nat × Instr × Nat) := [(0, .aload_n 0, 1), (1, .dconst 0, 1), (2, .putfield 9, 3), (5, .aload_n 0, 1), (6, .dconst 0, 1), (7, .putfield 15, 3), (10, .iconst 0, 1), (11, .istore_n 3, 1), (12, .iconst 0, 1), (13, .istore 4, 2), (15, .iload 4, 2), (17, .iconst 4, 1), (18, .if_icmp .ge 89, 3), (21, .aload_n 1, 1), (22, .iload 4, 2), (24, .aaload, 1), (25, .getfield 18, 3), (28, .i2d, 1), (29, .dstore 5, 2), (31, .aload_n 1, 1), (32, .iload 4, 2), (34, .aaload, 1), (35, .getfield 24, 3), (38, .iconst 1, 1), (39, .if_icmp .ne 20, 3), (42, .dload 5, 2), (44, .aload_n 2, 1), (45, .iload 4, 2), (47, .iaload, 1), (48, .i2d, 1), (49, .ldc2_w 27, 3), (52, .ddiv, 1), (53, .dadd, 1), (54, .dstore 5, 2), (56, .goto 10, 3), (59, .iload_n 3, 1), (60, .aload_n 2, 1), (61, .iload 4, 2), (63, .iaload, 1), (64, .iadd, 1), (65, .istore_n 3, 1), (66, .aload_n 0, 1), (67, .aload_n 0, 1), (68, .getfield 9, 3), (71, .dload 5, 2), (73, .iload_n 3, 1), (74, .ldc 29, 2), (76, .iadd, 1), (77, .invokestatic 30, 3), (80, .dmul, 1), (81, .dadd, 1), (82, .putfield 9, 3), (85, .aload_n 0, 1), (86, .aload_n 0, 1), (87, .getfield 15, 3), (90, .dload 5, 2), (92, .iload_n 3, 1), (93, .invokestatic 30, 3), (96, .dmul, 1), (97, .dadd, 1), (98, .putfield 15, 3), (101, .iinc 4 1, 3), (104, .goto (-89), 3), (107, .return_, 1)]
theorem dk_X8_follow : ∀ q ∈ il_X8_follow, decode cX8_follow q.1 = .ok (q.2.1, q.2.2) := by decide +kernel
def il_X8_isIn : List (Nat × Instr × Nat) := [(0, .iload_n 1, 1), (1, .i2d, 1), (2, .aload_n 0, 1), (3, .getfield 9, 3), (6, .dcmp .g, 1), (7, .ifCond .gt 38, 3), (10, .aload_n 0, 1), (11, .getfield 9, 3), (14, .iload_n 3, 1), (15, .i2d, 1), (16, .dcmp .g, 1), (17, .ifCond .gt 28, 3), (20, .iload_n 2, 1), (21, .i2d, 1), (22, .aload_n 0, 1), (23, .getfield 15, 3), (26, .dcmp .g, 1), (27, .ifCond .gt 18, 3), (30, .aload_n 0, 1), (31, .getfield 15, 3), (34, .iload 4, 2), (36, .i2d, 1), (37, .dcmp .g, 1), (38, .ifCond .gt 7, 3), (41, .iconst 1, 1), (42, .goto 4, 3), (45, .iconst 0, 1), (46, .ireturn, 1)]
theorem dk_X8_isIn : ∀ q ∈ il_X8_isIn, decode cX8_isIn q.1 = .ok (q.2.1, q.2.2) := by decide +kernel
def il_X8_sineOf : List (Nat × Instr × Nat) := [(0, .iload_n 0, 1), (1, .ldc 34, 2), (3, .irem, 1), (4, .istore_n 1, 1), (5, .iload_n 1, 1), (6, .ifCond .ge 8, 3), (9, .iload_n 1, 1), (10, .ldc 34, 2), (12, .iadd, 1), (13, .istore_n 1, 1), (14, .iload_n 1, 1), (15, .ldc 29, 2), (17, .idiv, 1), (18, .istore_n 2, 1), (19, .iload_n 1, 1), (20, .ldc 29, 2), (22, .irem, 1), (23, .istore_n 3, 1), (24, .iload_n 2, 1), (25, .iconst 2, 1), (26, .irem, 1), (27, .iconst 1, 1), (28, .if_icmp .ne 8, 3), (31, .ldc 29, 2), (33, .iload_n 3, 1), (34, .isub, 1), (35, .istore_n 3, 1), (36, .iload_n 3, 1), (37, .ldc 35, 2), (39, .if_icmp .gt 62, 3), (42, .iload_n 3, 1), (43, .i2d, 1), (44, .ldc2_w 36, 3), (47, .dmul, 1), (48, .dstore 6, 2), (50, .dload 6, 2), (52, .dload 6, 2), (54, .dmul, 1), (55, .dstore 8, 2), (57, .dload 6, 2), (59, .dconst 1, 1), (60, .dload 8, 2), (62, .ldc2_w 38, 3), (65, .dload 8, 2), (67, .ldc2_w 40, 3), (70, .dload 8, 2), (72, .ldc2_w 42, 3), (75, .dload 8, 2), (77, .ldc2_w 44, 3), (80, .dload 8, 2), (82, .ldc2_w 46, 3), (85, .dmul, 1), (86, .dadd, 1), (87, .dmul, 1), (88, .dadd, 1), (89, .dmul, 1), (90, .dadd, 1), (91, .dmul, 1), (92, .dadd, 1), (93, .dmul, 1), (94, .dadd, 1), (95, .dmul, 1), (96, .dstore 4, 2), (98, .goto 66, 3), (101, .ldc 29, 2), (103, .iload_n 3, 1), (104, .isub, 1), (105, .i2d, 1), (106, .ldc2_w 36, 3), (109, .dmul, 1), (110, .dstore 6, 2), (112, .dload 6, 2), (114, .dload 6, 2), (116, .dmul, 1), (117, .dstore 8, 2), (119, .dconst 1, 1), (120, .dload 8, 2), (122, .ldc2_w 48, 3), (125, .dload 8, 2), (127, .ldc2_w 50, 3), (130, .dload 8, 2), (132, .ldc2_w 52, 3), (135, .dload 8, 2), (137, .ldc2_w 54, 3), (140, .dload 8, 2), (142, .ldc2_w 56, 3), (145, .dload 8, 2), (147, .ldc2_w 58, 3), (150, .dmul, 1), (151, .dadd, 1), (152, .dmul, 1), (153, .dadd, 1), (154, .dmul, 1), (155, .dadd, 1), (156, .dmul, 1), (157, .dadd, 1), (158, .dmul, 1), (159, .dadd, 1), (160, .dmul, 1), (161, .dadd, 1), (162, .dstore 4, 2), (164, .iload_n 2, 1), (165, .iconst 1, 1), (166, .if_icmp .le 10, 3), (169, .dconst 0, 1), (170, .dload 4, 2), (172, .dsub, 1), (173, .goto 5, 3), (176, .dload 4, 2), (178, .dreturn, 1)]
theorem dk_X8_sineOf : ∀ q ∈ il_X8_sineOf, decode cX8_sineOf q.1 = .ok (q.2.1, q.2.2) := by decide +kernel
def il_X9_init : List (Nat × Instr × Nat) := [(0, .aload_n 0, 1), (1, .invokespecial 1, 3), (4, .aload_n 0, 1), (5, .new 7, 3), (8, .dup, 1), (9, .invokespecial 9, 3), (12, .putfield 10, 3), (15, .aload_n 0, 1), (16, .new 16, 3), (19, .dup, 1), (20, .invokespecial 18, 3), (23, .putfield 19, 3), (26, .aload_n 0, 1), (27, .iconst 4, 1), (28, .anewarray 16, 3), (31, .putfield 23, 3), (34, .aload_n 0, 1), (35, .iconst 4, 1), (36, .newarray .boolean, 2), (38, .putfield 27, 3), (41, .aload_n 0, 1), (42, .new 16, 3), (45, .dup, 1), (46, .invokespecial 18, 3), (49, .putfield 31, 3), (52, .aload_n 0, 1), (53, .new 16, 3), (56, .dup, 1), (57, .invokespecial 18, 3), (60, .putfield 34, 3), (63, .aload_n 0, 1), (64, .new 37, 3), (67, .dup, 1), (68, .invokespecial 39, 3), (71, .putfield 40, 3), (74, .aload_n 0, 1), (75, .new 44, 3), (78, .dup, 1), (79, .invokespecial 46, 3), (82, .putfield 47, 3), (85, .iconst 0, 1), (86, .istore_n 1, 1), (87, .iload_n 1, 1), (88, .iconst 4, 1), (89, .if_icmp .ge 22, 3), (92, .aload_n 0, 1), (93, .getfield 23, 3), (96, .iload_n 1, 1), (97, .new 16, 3), (100, .dup, 1), (101, .invokespecial 18, 3), (104, .aastore, 1), (105, .iinc 1 1, 3), (108, .goto (-21), 3), (111, .return_, 1)]
theorem dk_X9_init : ∀ q ∈ il_X9_init, decode cX9_init q.1 = .ok (q.2.1, q.2.2) := by decide +kernel
def il_X9_joint : List (Nat × Instr × Nat) := [(0, .iload_n 1, 1), (1, .invokestatic 51, 3), (4, .ifCond .eq 45, 3), (7, .iload_n 2, 1), (8, .iconst 0, 1), (9, .iconst 1, 1), (10, .invokestatic 55, 3), (13, .ifCond .eq 36, 3), (16, .iload_n 3, 1), (17, .iconst 0, 1), (18, .sipush 1000, 3), (21, .invokestatic 55, 3), (24, .ifCond .eq 25, 3), (27, .iload 4, 2), (29, .iconst 1, 1), (30, .ldc 59, 2), (32, .invokestatic 55, 3), (35, .ifCond .eq 14, 3), (38, .iload 5, 2), (40, .iconst 1, 1), (41, .ldc 59, 2), (43, .invokestatic 55, 3), (46, .ifCond .ne 6, 3), (49, .bipush (-2), 2), (51, .ireturn, 1), (52, .aload_n 0, 1), (53, .invokevirtual 60, 3), (56, .ifCond .eq 6, 3), (59, .bipush (-3), 2), (61, .ireturn, 1), (62, .aload_n 0, 1), (63, .getfield 10, 3), (66, .getfield 64, 3), (69, .iload_n 1, 1), (70, .aaload, 1), (71, .astore 6, 2), (73, .aload 6, 2), (75, .iload_n 2, 1), (76, .putfield 68, 3), (79, .aload 6, 2), (81, .iload_n 3, 1), (82, .putfield 74, 3), (85, .aload 6, 2), (87, .iload 4, 2), (89, .putfield 77, 3), (92, .aload 6, 2), (94, .iload 5, 2), (96, .putfield 80, 3), (99, .iconst 1, 1), (100, .ireturn, 1)]
theorem dk_X9_joint : ∀ q ∈ il_X9_joint, decode cX9_joint q.1 = .ok (q.2.1, q.2.2) := by decide +kernel
def il_X9_limits : List (Nat × Instr × Nat) := [(0, .iload_n 1, 1), (1, .invokestatic 51, 3), (4, .ifCond .eq 30, 3), (7, .iload_n 2, 1), (8, .ldc 83, 2), (10, .ldc 84, 2), (12, .invokestatic 55, 3), (15, .ifCond .eq 19, 3), (18, .iload_n 3, 1), (19, .ldc 83, 2), (21, .ldc 84, 2), (23, .invokestatic 55, 3), (26, .ifCond .eq 8, 3), (29, .iload_n 2, 1), (30, .iload_n 3, 1), (31, .if_icmp .le 6, 3), (34, .bipush (-2), 2), (36, .ireturn, 1), (37, .aload_n 0, 1), (38, .invokevirtual 60, 3), (41, .ifCond .ne 20, 3), (44, .aload_n 0, 1), (45, .getfield 19, 3), (48, .getfield 85, 3), (51, .iload_n 1, 1), (52, .iaload, 1), (53, .iload_n 2, 1), (54, .iload_n 3, 1), (55, .invokestatic 55, 3), (58, .ifCond .ne 6, 3), (61, .bipush (-3), 2), (63, .ireturn, 1), (64, .aload_n 0, 1), (65, .getfield 10, 3), (68, .getfield 64, 3), (71, .iload_n 1, 1), (72, .aaload, 1), (73, .iload_n 2, 1), (74, .putfield 89, 3), (77, .aload_n 0, 1), (78, .getfield 10, 3), (81, .getfield 64, 3), (84, .iload_n 1, 1), (85, .aaload, 1), (86, .iload_n 3, 1), (87, .putfield 92, 3), (90, .iconst 1, 1), (91, .ireturn, 1)]
theorem dk_X9_limits : ∀ q ∈ il_X9_limits, decode cX9_limits q.1 = .ok (q.2.1, q.2.2) := by decide +kernel
def il_X9_jog : List (Nat × Instr × Nat) := [(0, .iload_n 1, 1), (1, .invokestatic 51, 3), (4, .ifCond .eq 19, 3), (7, .aload_n 0, 1), (8, .getfield 10, 3), (11, .getfield 64, 3), (14, .iload_n 1, 1), (15, .aaload, 1), (16, .iload_n 2, 1), (17, .invokevirtual 95, 3), (20, .ifCond .ne 6, 3), (23, .ldc 98, 2), (25, .ireturn, 1), (26, .aload_n 0, 1), (27, .invokevirtual 60, 3), (30, .ifCond .eq 6, 3), (33, .ldc 83, 2), (35, .ireturn, 1), (36, .aload_n 0, 1), (37, .getfield 19, 3), (40, .getfield 85, 3), (43, .iload_n 1, 1), (44, .iaload, 1), (45, .istore_n 3, 1), (46, .aload_n 0, 1), (47, .getfield 19, 3), (50, .getfield 85, 3), (53, .iload_n 1, 1), (54, .iload_n 2, 1), (55, .iastore, 1), (56, .iload_n 3, 1), (57, .ireturn, 1)]
theorem dk_X9_jog : ∀ q ∈ il_X9_jog, decode cX9_jog q.1 = .ok (q.2.1, q.2.2) := by decide +kernel
def il_X9_state : List (Nat × Instr × Nat) := [(0, .iload_n 1, 1), (1, .invokestatic 51, 3), (4, .ifCond .eq 15, 3), (7, .aload_n 0, 1), (8, .getfield 19, 3), (11, .getfield 85, 3), (14, .iload_n 1, 1), (15, .iaload, 1), (16, .goto 5, 3), (19, .ldc 98, 2), (21, .ireturn, 1)]
theorem dk_X9_state : ∀ q ∈ il_X9_state, decode cX9_state q.1 = .ok (q.2.1, q.2.2) := by decide +kernel
def il_X9_tip : List (Nat × Instr × Nat) := [(0, .iload_n 1, 1), (1, .iconst 0, 1), (2, .iconst 1, 1), (3, .invokestatic 55, 3), (6, .ifCond .ne 7, 3), (9, .ldc2_w 99, 3), (12, .lreturn, 1), (13, .aload_n 0, 1), (14, .getfield 47, 3), (17, .aload_n 0, 1), (18, .getfield 10, 3), (21, .getfield 64, 3), (24, .aload_n 0, 1), (25, .getfield 19, 3), (28, .getfield 85, 3), (31, .invokevirtual 101, 3), (34, .iload_n 1, 1), (35, .ifCond .ne 13, 3), (38, .aload_n 0, 1), (39, .getfield 47, 3), (42, .getfield 105, 3), (45, .goto 10, 3), (48, .aload_n 0, 1), (49, .getfield 47, 3), (52, .getfield 109, 3), (55, .invokestatic 112, 3), (58, .lreturn, 1)]
theorem dk_X9_tip : ∀ q ∈ il_X9_tip, decode cX9_tip q.1 = .ok (q.2.1, q.2.2) := by decide +kernel
def il_X9_sine : List (Nat × Instr × Nat) := [(0, .iload_n 1, 1), (1, .invokestatic 116, 3), (4, .invokestatic 112, 3), (7, .lreturn, 1)]
theorem dk_X9_sine : ∀ q ∈ il_X9_sine, decode cX9_sine q.1 = .ok (q.2.1, q.2.2) := by decide +kernel
def il_X9_box : List (Nat × Instr × Nat) := [(0, .iload_n 1, 1), (1, .iconst 0, 1), (2, .iconst 3, 1), (3, .invokestatic 55, 3), (6, .ifCond .eq 69, 3), (9, .iload_n 2, 1), (10, .sipush (-10000), 3), (13, .sipush 10000, 3), (16, .invokestatic 55, 3), (19, .ifCond .eq 56, 3), (22, .iload_n 3, 1), (23, .sipush (-10000), 3), (26, .sipush 10000, 3), (29, .invokestatic 55, 3), (32, .ifCond .eq 43, 3), (35, .iload 4, 2), (37, .sipush (-10000), 3), (40, .sipush 10000, 3), (43, .invokestatic 55, 3), (46, .ifCond .eq 29, 3), (49, .iload 5, 2), (51, .sipush (-10000), 3), (54, .sipush 10000, 3), (57, .invokestatic 55, 3), (60, .ifCond .eq 15, 3), (63, .iload_n 2, 1), (64, .iload 4, 2), (66, .if_icmp .ge 9, 3), (69, .iload_n 3, 1), (70, .iload 5, 2), (72, .if_icmp .lt 6, 3), (75, .bipush (-2), 2), (77, .ireturn, 1), (78, .aload_n 0, 1), (79, .getfield 47, 3), (82, .aload_n 0, 1), (83, .getfield 10, 3), (86, .getfield 64, 3), (89, .aload_n 0, 1), (90, .getfield 19, 3), (93, .getfield 85, 3), (96, .invokevirtual 101, 3), (99, .aload_n 0, 1), (100, .invokevirtual 60, 3), (103, .ifCond .ne 19, 3), (106, .aload_n 0, 1), (107, .getfield 47, 3), (110, .iload_n 2, 1), (111, .iload_n 3, 1), (112, .iload 4, 2), (114, .iload 5, 2), (116, .invokevirtual 120, 3), (119, .ifCond .eq 6, 3), (122, .bipush (-3), 2), (124, .ireturn, 1), (125, .aload_n 0, 1), (126, .getfield 10, 3), (129, .getfield 124, 3), (132, .iload_n 1, 1), (133, .aaload, 1), (134, .iload_n 2, 1), (135, .iload_n 3, 1), (136, .iload 4, 2), (138, .iload 5, 2), (140, .invokevirtual 128, 3), (143, .iconst 1, 1), (144, .ireturn, 1)]
theorem dk_X9_box : ∀ q ∈ il_X9_box, decode cX9_box q.1 = .ok (q.2.1, q.2.2) := by decide +kernel
def il_X9_unbox : List (Nat × Instr × Nat) := [(0, .iload_n 1, 1), (1, .iconst 0, 1), (2, .iconst 3, 1), (3, .invokestatic 55, 3), (6, .ifCond .ne 6, 3), (9, .bipush (-2), 2), (11, .ireturn, 1), (12, .aload_n 0, 1), (13, .invokevirtual 60, 3), (16, .ifCond .ne 18, 3), (19, .aload_n 0, 1), (20, .getfield 10, 3), (23, .getfield 124, 3), (26, .iload_n 1, 1), (27, .aaload, 1), (28, .getfield 134, 3), (31, .ifCond .ne 6, 3), (34, .bipush (-3), 2), (36, .ireturn, 1), (37, .aload_n 0, 1), (38, .getfield 10, 3), (41, .getfield 124, 3), (44, .iload_n 1, 1), (45, .aaload, 1), (46, .iconst 0, 1), (47, .putfield 134, 3), (50, .iconst 1, 1), (51, .ireturn, 1)]
theorem dk_X9_unbox : ∀ q ∈ il_X9_unbox, decode cX9_unbox q.1 = .ok (q.2.1, q.2.2) := by decide +kernel
def il_X9_teach : List (Nat × Instr × Nat) := [(0, .iload_n 1, 1), (1, .invokestatic 138, 3), (4, .ifCond .ne 6, 3), (7, .bipush (-2), 2), (9, .ireturn, 1), (10, .aload_n 0, 1), (11, .getfield 10, 3), (14, .getfield 141, 3), (17, .iload_n 1, 1), (18, .aaload, 1), (19, .astore_n 2, 1), (20, .aload_n 2, 1), (21, .iconst 1, 1), (22, .putfield 145, 3), (25, .aload_n 0, 1), (26, .getfield 19, 3), (29, .getfield 85, 3), (32, .iconst 0, 1), (33, .aload_n 2, 1), (34, .getfield 150, 3), (37, .iconst 0, 1), (38, .iconst 4, 1), (39, .invokestatic 151, 3), (42, .iconst 1, 1), (43, .ireturn, 1)]
theorem dk_X9_teach : ∀ q ∈ il_X9_teach, decode cX9_teach q.1 = .ok (q.2.1, q.2.2) := by decide +kernel
def il_X9_pose : List (Nat × Instr × Nat) := [(0, .iload_n 1, 1), (1, .invokestatic 138, 3), (4, .ifCond .eq 25, 3), (7, .iload_n 2, 1), (8, .invokestatic 51, 3), (11, .ifCond .eq 18, 3), (14, .aload_n 0, 1), (15, .getfield 10, 3), (18, .getfield 141, 3), (21, .iload_n 1, 1), (22, .aaload, 1), (23, .getfield 145, 3), (26, .ifCond .ne 6, 3), (29, .ldc 98, 2), (31, .ireturn, 1), (32, .aload_n 0, 1), (33, .getfield 10, 3), (36, .getfield 141, 3), (39, .iload_n 1, 1), (40, .aaload, 1), (41, .getfield 150, 3), (44, .iload_n 2, 1), (45, .iaload, 1), (46, .ireturn, 1)]
theorem dk_X9_pose : ∀ q ∈ il_X9_pose, decode cX9_pose q.1 = .ok (q.2.1, q.2.2) := by decide +kernel
def il_X9_plan : List (Nat × Instr × Nat) := [(0, .iload_n 1, 1), (1, .invokestatic 138, 3), (4, .ifCond .eq 10, 3), (7, .iload_n 2, 1), (8, .invokestatic 157, 3), (11, .ifCond .ne 6, 3), (14, .bipush (-2), 2), (16, .ireturn, 1), (17, .aload_n 0, 1), (18, .getfield 10, 3), (21, .getfield 141, 3), (24, .iload_n 1, 1), (25, .aaload, 1), (26, .getfield 145, 3), (29, .ifCond .ne 6, 3), (32, .bipush (-3), 2), (34, .ireturn, 1), (35, .aload_n 0, 1), (36, .getfield 40, 3), (39, .aload_n 0, 1), (40, .getfield 10, 3), (43, .getfield 64, 3), (46, .aload_n 0, 1), (47, .getfield 19, 3), (50, .getfield 85, 3), (53, .aload_n 0, 1), (54, .getfield 10, 3), (57, .getfield 141, 3), (60, .iload_n 1, 1), (61, .aaload, 1), (62, .getfield 150, 3), (65, .iload_n 2, 1), (66, .invokevirtual 160, 3), (69, .aload_n 0, 1), (70, .getfield 40, 3), (73, .getfield 164, 3), (76, .ireturn, 1)]
theorem dk_X9_plan : ∀ q ∈ il_X9_plan, decode cX9_plan q.1 = .ok (q.2.1, q.2.2) := by decide +kernel
def il_X9_along : List (Nat × Instr × Nat) := [(0, .iload_n 1, 1), (1, .invokestatic 138, 3), (4, .ifCond .eq 37, 3), (7, .iload_n 2, 1), (8, .invokestatic 157, 3), (11, .ifCond .eq 30, 3), (14, .iload_n 3, 1), (15, .ifCond .lt 26, 3), (18, .iload 4, 2), (20, .invokestatic 51, 3), (23, .ifCond .eq 18, 3), (26, .aload_n 0, 1), (27, .getfield 10, 3), (30, .getfield 141, 3), (33, .iload_n 1, 1), (34, .aaload, 1), (35, .getfield 145, 3), (38, .ifCond .ne 6, 3), (41, .ldc 98, 2), (43, .ireturn, 1), (44, .aload_n 0, 1), (45, .getfield 40, 3), (48, .aload_n 0, 1), (49, .getfield 10, 3), (52, .getfield 64, 3), (55, .aload_n 0, 1), (56, .getfield 19, 3), (59, .getfield 85, 3), (62, .aload_n 0, 1), (63, .getfield 10, 3), (66, .getfield 141, 3), (69, .iload_n 1, 1), (70, .aaload, 1), (71, .getfield 150, 3), (74, .iload_n 2, 1), (75, .invokevirtual 160, 3), (78, .iload_n 3, 1), (79, .aload_n 0, 1), (80, .getfield 40, 3), (83, .getfield 164, 3), (86, .if_icmp .le 6, 3), (89, .ldc 98, 2), (91, .ireturn, 1), (92, .aload_n 0, 1), (93, .getfield 40, 3), (96, .iload 4, 2), (98, .aload_n 0, 1), (99, .getfield 40, 3), (102, .iload_n 3, 1), (103, .invokevirtual 167, 3), (106, .invokevirtual 171, 3), (109, .ireturn, 1)]
theorem dk_X9_along : ∀ q ∈ il_X9_along, decode cX9_along q.1 = .ok (q.2.1, q.2.2) := by decide +kernel
def il_X9_line : List (Nat × Instr × Nat) := [(0, .iload_n 1, 1), (1, .iload_n 2, 1), (2, .iload_n 3, 1), (3, .invokestatic 175, 3), (6, .ifCond .ne 6, 3), (9, .bipush (-2), 2), (11, .ireturn, 1), (12, .aload_n 0, 1), (13, .invokevirtual 60, 3), (16, .ifCond .eq 6, 3), (19, .bipush (-3), 2), (21, .ireturn, 1), (22, .aload_n 0, 1), (23, .getfield 10, 3), (26, .getfield 178, 3), (29, .getfield 182, 3), (32, .bipush 60, 2), (34, .if_icmp .lt 6, 3), (37, .bipush (-4), 2), (39, .ireturn, 1), (40, .aload_n 0, 1), (41, .getfield 10, 3), (44, .getfield 178, 3), (47, .iload_n 1, 1), (48, .iload_n 2, 1), (49, .iload_n 3, 1), (50, .invokevirtual 187, 3), (53, .ireturn, 1)]
theorem dk_X9_line : ∀ q ∈ il_X9_line, decode cX9_line q.1 = .ok (q.2.1, q.2.2) := by decide +kernel
end
section
def il_X9_clear : List (Nat × Instr × Nat) := [(0, .aload_n 0, 1), (1, .invokevirtual 60, 3), (4, .ifCond .eq 6, 3), (7, .bipush (-3), 2), (9, .ireturn, 1), (10, .aload_n 0, 1), (11, .getfield 10, 3), (14, .getfield 178, 3), (17, .getfield 182, 3), (20, .istore_n 1, 1), (21, .aload_n 0, 1), (22, .getfield 10, 3), (25, .getfield 178, 3), (28, .iconst 0, 1), (29, .putfield 182, 3), (32, .iload_n 1, 1), (33, .ireturn, 1)]
theorem dk_X9_clear : ∀ q ∈ il_X9_clear, decode cX9_clear q.1 = .ok (q.2.1, q.2.2) := by decide +kernel
def il_X9_script : List (Nat × Instr × Nat) := [(0, .iload_n 1, 1), (1, .iconst 1, 1), (2, .ldc 59, 2), (4, .invokestatic 55, 3), (7, .ifCond .eq 10, 3), (10, .iload_n 2, 1), (11, .invokestatic 191, 3), (14, .ifCond .ne 6, 3), (17, .bipush (-2), 2), (19, .ireturn, 1), (20, .aload_n 0, 1), (21, .getfield 10, 3), (24, .getfield 194, 3), (27, .getfield 198, 3), (30, .bipush 40, 2), (32, .if_icmp .lt 6, 3), (35, .bipush (-4), 2), (37, .ireturn, 1), (38, .aload_n 0, 1), (39, .getfield 10, 3), (42, .getfield 194, 3), (45, .iload_n 1, 1), (46, .iload_n 2, 1), (47, .iload_n 3, 1), (48, .invokevirtual 201, 3), (51, .ireturn, 1)]
theorem dk_X9_script : ∀ q ∈ il_X9_script, decode cX9_script q.1 = .ok (q.2.1, q.2.2) := by decide +kernel
def il_X9_input : List (Nat × Instr × Nat) := [(0, .iload_n 1, 1), (1, .invokestatic 191, 3), (4, .ifCond .ne 6, 3), (7, .bipush (-2), 2), (9, .ireturn, 1), (10, .aload_n 0, 1), (11, .getfield 19, 3), (14, .getfield 204, 3), (17, .iload_n 1, 1), (18, .iload_n 2, 1), (19, .bastore, 1), (20, .iconst 1, 1), (21, .ireturn, 1)]
theorem dk_X9_input : ∀ q ∈ il_X9_input, decode cX9_input q.1 = .ok (q.2.1, q.2.2) := by decide +kernel
def il_X9_run : List (Nat × Instr × Nat) := [(0, .aload_n 0, 1), (1, .invokevirtual 60, 3), (4, .ifCond .eq 6, 3), (7, .bipush (-3), 2), (9, .ireturn, 1), (10, .aload_n 0, 1), (11, .getfield 19, 3), (14, .invokevirtual 207, 3), (17, .iconst 1, 1), (18, .ireturn, 1)]
theorem dk_X9_run : ∀ q ∈ il_X9_run, decode cX9_run q.1 = .ok (q.2.1, q.2.2) := by decide +kernel
def il_X9_tick : List (Nat × Instr × Nat) := [(0, .iload_n 1, 1), (1, .iconst 1, 1), (2, .sipush 200, 3), (5, .invokestatic 55, 3), (8, .ifCond .ne 6, 3), (11, .bipush (-2), 2), (13, .ireturn, 1), (14, .iconst 0, 1), (15, .istore_n 2, 1), (16, .iload_n 2, 1), (17, .iload_n 1, 1), (18, .if_icmp .ge 27, 3), (21, .aload_n 0, 1), (22, .invokevirtual 60, 3), (25, .ifCond .eq 20, 3), (28, .aload_n 0, 1), (29, .getfield 10, 3), (32, .aload_n 0, 1), (33, .getfield 19, 3), (36, .invokevirtual 210, 3), (39, .iinc 2 1, 3), (42, .goto (-26), 3), (45, .aload_n 0, 1), (46, .getfield 19, 3), (49, .getfield 214, 3), (52, .ireturn, 1)]
theorem dk_X9_tick : ∀ q ∈ il_X9_tick, decode cX9_tick q.1 = .ok (q.2.1, q.2.2) := by decide +kernel
def il_X9_stop : List (Nat × Instr × Nat) := [(0, .aload_n 0, 1), (1, .invokevirtual 60, 3), (4, .ifCond .ne 6, 3), (7, .bipush (-3), 2), (9, .ireturn, 1), (10, .aload_n 0, 1), (11, .getfield 19, 3), (14, .bipush 9, 2), (16, .invokevirtual 217, 3), (19, .iconst 1, 1), (20, .ireturn, 1)]
theorem dk_X9_stop : ∀ q ∈ il_X9_stop, decode cX9_stop q.1 = .ok (q.2.1, q.2.2) := by decide +kernel
def il_X9_about : List (Nat × Instr × Nat) := [(0, .iload_n 1, 1), (1, .tableswitch 131 0 8 #[51, 59, 67, 75, 83, 91, 99, 107, 123], 51), (52, .aload_n 0, 1), (53, .getfield 19, 3), (56, .getfield 214, 3), (59, .ireturn, 1), (60, .aload_n 0, 1), (61, .getfield 19, 3), (64, .getfield 221, 3), (67, .ireturn, 1), (68, .aload_n 0, 1), (69, .getfield 19, 3), (72, .getfield 224, 3), (75, .ireturn, 1), (76, .aload_n 0, 1), (77, .getfield 19, 3), (80, .getfield 227, 3), (83, .ireturn, 1), (84, .aload_n 0, 1), (85, .getfield 19, 3), (88, .getfield 230, 3), (91, .ireturn, 1), (92, .aload_n 0, 1), (93, .getfield 19, 3), (96, .getfield 233, 3), (99, .ireturn, 1), (100, .aload_n 0, 1), (101, .getfield 19, 3), (104, .getfield 236, 3), (107, .ireturn, 1), (108, .aload_n 0, 1), (109, .getfield 19, 3), (112, .getfield 239, 3), (115, .ifCond .eq 7, 3), (118, .iconst 1, 1), (119, .goto 4, 3), (122, .iconst 0, 1), (123, .ireturn, 1), (124, .aload_n 0, 1), (125, .getfield 19, 3), (128, .getfield 242, 3), (131, .ireturn, 1), (132, .bipush (-2), 2), (134, .ireturn, 1)]
theorem dk_X9_about : ∀ q ∈ il_X9_about, decode cX9_about q.1 = .ok (q.2.1, q.2.2) := by decide +kernel
def il_X9_at : List (Nat × Instr × Nat) := [(0, .iload_n 2, 1), (1, .invokestatic 191, 3), (4, .ifCond .ne 6, 3), (7, .ldc 98, 2), (9, .ireturn, 1), (10, .iload_n 1, 1), (11, .tableswitch 71 0 2 #[25, 43, 53], 25), (36, .aload_n 0, 1), (37, .getfield 19, 3), (40, .getfield 245, 3), (43, .iload_n 2, 1), (44, .baload, 1), (45, .ifCond .eq 7, 3), (48, .iconst 1, 1), (49, .goto 4, 3), (52, .iconst 0, 1), (53, .ireturn, 1), (54, .aload_n 0, 1), (55, .getfield 19, 3), (58, .getfield 248, 3), (61, .iload_n 2, 1), (62, .iaload, 1), (63, .ireturn, 1), (64, .aload_n 0, 1), (65, .getfield 19, 3), (68, .getfield 204, 3), (71, .iload_n 2, 1), (72, .baload, 1), (73, .ifCond .eq 7, 3), (76, .iconst 1, 1), (77, .goto 4, 3), (80, .iconst 0, 1), (81, .ireturn, 1), (82, .ldc 98, 2), (84, .ireturn, 1)]
theorem dk_X9_at : ∀ q ∈ il_X9_at, decode cX9_at q.1 = .ok (q.2.1, q.2.2) := by decide +kernel
def il_X9_travel : List (Nat × Instr × Nat) := [(0, .iload_n 1, 1), (1, .invokestatic 51, 3), (4, .ifCond .eq 15, 3), (7, .aload_n 0, 1), (8, .getfield 19, 3), (11, .getfield 251, 3), (14, .iload_n 1, 1), (15, .laload, 1), (16, .goto 6, 3), (19, .ldc2_w 99, 3), (22, .lreturn, 1)]
theorem dk_X9_travel : ∀ q ∈ il_X9_travel, decode cX9_travel q.1 = .ok (q.2.1, q.2.2) := by decide +kernel
def il_X9_keep : List (Nat × Instr × Nat) := [(0, .iload_n 1, 1), (1, .invokestatic 255, 3), (4, .ifCond .ne 6, 3), (7, .bipush (-2), 2), (9, .ireturn, 1), (10, .aload_n 0, 1), (11, .getfield 23, 3), (14, .iload_n 1, 1), (15, .aaload, 1), (16, .aload_n 0, 1), (17, .getfield 19, 3), (20, .invokevirtual 258, 3), (23, .aload_n 0, 1), (24, .getfield 27, 3), (27, .iload_n 1, 1), (28, .iconst 1, 1), (29, .bastore, 1), (30, .iconst 1, 1), (31, .ireturn, 1)]
theorem dk_X9_keep : ∀ q ∈ il_X9_keep, decode cX9_keep q.1 = .ok (q.2.1, q.2.2) := by decide +kernel
def il_X9_back : List (Nat × Instr × Nat) := [(0, .iload_n 1, 1), (1, .invokestatic 255, 3), (4, .ifCond .ne 6, 3), (7, .bipush (-2), 2), (9, .ireturn, 1), (10, .aload_n 0, 1), (11, .iload_n 1, 1), (12, .invokevirtual 261, 3), (15, .ifCond .ne 6, 3), (18, .bipush (-3), 2), (20, .ireturn, 1), (21, .aload_n 0, 1), (22, .getfield 19, 3), (25, .aload_n 0, 1), (26, .getfield 23, 3), (29, .iload_n 1, 1), (30, .aaload, 1), (31, .invokevirtual 258, 3), (34, .iconst 1, 1), (35, .ireturn, 1)]
theorem dk_X9_back : ∀ q ∈ il_X9_back, decode cX9_back q.1 = .ok (q.2.1, q.2.2) := by decide +kernel
def il_X9_replay : List (Nat × Instr × Nat) := [(0, .iload_n 1, 1), (1, .invokestatic 255, 3), (4, .ifCond .eq 13, 3), (7, .iload_n 2, 1), (8, .iconst 1, 1), (9, .bipush 100, 2), (11, .invokestatic 55, 3), (14, .ifCond .ne 6, 3), (17, .bipush (-2), 2), (19, .ireturn, 1), (20, .aload_n 0, 1), (21, .iload_n 1, 1), (22, .invokevirtual 261, 3), (25, .ifCond .ne 6, 3), (28, .bipush (-3), 2), (30, .ireturn, 1), (31, .aload_n 0, 1), (32, .getfield 31, 3), (35, .aload_n 0, 1), (36, .getfield 23, 3), (39, .iload_n 1, 1), (40, .aaload, 1), (41, .invokevirtual 258, 3), (44, .aload_n 0, 1), (45, .getfield 34, 3), (48, .aload_n 0, 1), (49, .getfield 19, 3), (52, .invokevirtual 258, 3), (55, .iconst 0, 1), (56, .istore_n 3, 1), (57, .iload_n 3, 1), (58, .iload_n 2, 1), (59, .if_icmp .gt 45, 3), (62, .iload_n 3, 1), (63, .ifCond .le 19, 3), (66, .aload_n 0, 1), (67, .aload_n 0, 1), (68, .getfield 31, 3), (71, .invokevirtual 264, 3), (74, .aload_n 0, 1), (75, .aload_n 0, 1), (76, .getfield 34, 3), (79, .invokevirtual 264, 3), (82, .aload_n 0, 1), (83, .getfield 31, 3), (86, .aload_n 0, 1), (87, .getfield 34, 3), (90, .invokevirtual 267, 3), (93, .ifCond .eq 5, 3), (96, .iload_n 3, 1), (97, .ireturn, 1), (98, .iinc 3 1, 3), (101, .goto (-44), 3), (104, .iconst (-1), 1), (105, .ireturn, 1)]
theorem dk_X9_replay : ∀ q ∈ il_X9_replay, decode cX9_replay q.1 = .ok (q.2.1, q.2.2) := by decide +kernel
def il_X9_count : List (Nat × Instr × Nat) := [(0, .iload_n 1, 1), (1, .tableswitch 69 0 3 #[31, 42, 53, 61], 31), (32, .aload_n 0, 1), (33, .getfield 10, 3), (36, .getfield 178, 3), (39, .getfield 182, 3), (42, .ireturn, 1), (43, .aload_n 0, 1), (44, .getfield 10, 3), (47, .getfield 194, 3), (50, .getfield 198, 3), (53, .ireturn, 1), (54, .aload_n 0, 1), (55, .getfield 10, 3), (58, .invokevirtual 271, 3), (61, .ireturn, 1), (62, .aload_n 0, 1), (63, .getfield 10, 3), (66, .invokevirtual 275, 3), (69, .ireturn, 1), (70, .bipush (-2), 2), (72, .ireturn, 1)]
theorem dk_X9_count : ∀ q ∈ il_X9_count, decode cX9_count q.1 = .ok (q.2.1, q.2.2) := by decide +kernel
def il_X9_digest : List (Nat × Instr × Nat) := [(0, .ldc2_w 278, 3), (3, .lstore_n 1, 1), (4, .iconst 0, 1), (5, .istore_n 3, 1), (6, .iload_n 3, 1), (7, .iconst 3, 1), (8, .if_icmp .gt 22, 3), (11, .ldc2_w 280, 3), (14, .lload_n 1, 1), (15, .lmul, 1), (16, .aload_n 0, 1), (17, .iload_n 3, 1), (18, .invokevirtual 282, 3), (21, .i2l, 1), (22, .ladd, 1), (23, .lstore_n 1, 1), (24, .iinc 3 1, 3), (27, .goto (-21), 3), (30, .iconst 0, 1), (31, .istore_n 3, 1), (32, .iload_n 3, 1), (33, .iconst 4, 1), (34, .if_icmp .ge 26, 3), (37, .ldc2_w 280, 3), (40, .lload_n 1, 1), (41, .lmul, 1), (42, .aload_n 0, 1), (43, .getfield 19, 3), (46, .getfield 85, 3), (49, .iload_n 3, 1), (50, .iaload, 1), (51, .i2l, 1), (52, .ladd, 1), (53, .lstore_n 1, 1), (54, .iinc 3 1, 3), (57, .goto (-25), 3), (60, .ldc2_w 280, 3), (63, .lload_n 1, 1), (64, .lmul, 1), (65, .aload_n 0, 1), (66, .iconst 0, 1), (67, .invokevirtual 285, 3), (70, .ladd, 1), (71, .lstore_n 1, 1), (72, .ldc2_w 280, 3), (75, .lload_n 1, 1), (76, .lmul, 1), (77, .aload_n 0, 1), (78, .iconst 1, 1), (79, .invokevirtual 285, 3), (82, .ladd, 1), (83, .lstore_n 1, 1), (84, .iconst 0, 1), (85, .istore_n 3, 1), (86, .iload_n 3, 1), (87, .bipush 8, 2), (89, .if_icmp .gt 22, 3), (92, .ldc2_w 280, 3), (95, .lload_n 1, 1), (96, .lmul, 1), (97, .aload_n 0, 1), (98, .iload_n 3, 1), (99, .invokevirtual 287, 3), (102, .i2l, 1), (103, .ladd, 1), (104, .lstore_n 1, 1), (105, .iinc 3 1, 3), (108, .goto (-22), 3), (111, .iconst 0, 1), (112, .istore_n 3, 1), (113, .iload_n 3, 1), (114, .iconst 2, 1), (115, .if_icmp .gt 40, 3), (118, .iconst 0, 1), (119, .istore 4, 2), (121, .iload 4, 2), (123, .bipush 8, 2), (125, .if_icmp .ge 24, 3), (128, .ldc2_w 280, 3), (131, .lload_n 1, 1), (132, .lmul, 1), (133, .aload_n 0, 1), (134, .iload_n 3, 1), (135, .iload 4, 2), (137, .invokevirtual 290, 3), (140, .i2l, 1), (141, .ladd, 1), (142, .lstore_n 1, 1), (143, .iinc 4 1, 3), (146, .goto (-25), 3), (149, .iinc 3 1, 3), (152, .goto (-39), 3), (155, .iconst 0, 1), (156, .istore_n 3, 1), (157, .iload_n 3, 1), (158, .iconst 4, 1), (159, .if_icmp .ge 25, 3), (162, .ldc2_w 280, 3), (165, .lload_n 1, 1), (166, .lmul, 1), (167, .aload_n 0, 1), (168, .getfield 19, 3), (171, .getfield 251, 3), (174, .iload_n 3, 1), (175, .laload, 1), (176, .ladd, 1), (177, .lstore_n 1, 1), (178, .iinc 3 1, 3), (181, .goto (-24), 3), (184, .lload_n 1, 1), (185, .lreturn, 1)]
theorem dk_X9_digest : ∀ q ∈ il_X9_digest, decode cX9_digest q.1 = .ok (q.2.1, q.2.2) := by decide +kernel
def il_X9_isWithin : List (Nat × Instr × Nat) := [(0, .iload_n 1, 1), (1, .iload_n 0, 1), (2, .if_icmp .gt 12, 3), (5, .iload_n 0, 1), (6, .iload_n 2, 1), (7, .if_icmp .gt 7, 3), (10, .iconst 1, 1), (11, .goto 4, 3), (14, .iconst 0, 1), (15, .ireturn, 1)]
theorem dk_X9_isWithin : ∀ q ∈ il_X9_isWithin, decode cX9_isWithin q.1 = .ok (q.2.1, q.2.2) := by decide +kernel
def il_X9_isJoint : List (Nat × Instr × Nat) := [(0, .iload_n 0, 1), (1, .iconst 0, 1), (2, .iconst 3, 1), (3, .invokestatic 55, 3), (6, .ireturn, 1)]
theorem dk_X9_isJoint : ∀ q ∈ il_X9_isJoint, decode cX9_isJoint q.1 = .ok (q.2.1, q.2.2) := by decide +kernel
def il_X9_isPose : List (Nat × Instr × Nat) := [(0, .iload_n 0, 1), (1, .iconst 0, 1), (2, .bipush 15, 2), (4, .invokestatic 55, 3), (7, .ireturn, 1)]
theorem dk_X9_isPose : ∀ q ∈ il_X9_isPose, decode cX9_isPose q.1 = .ok (q.2.1, q.2.2) := by decide +kernel
def il_X9_isShare : List (Nat × Instr × Nat) := [(0, .iload_n 0, 1), (1, .iconst 1, 1), (2, .bipush 100, 2), (4, .invokestatic 55, 3), (7, .ireturn, 1)]
theorem dk_X9_isShare : ∀ q ∈ il_X9_isShare, decode cX9_isShare q.1 = .ok (q.2.1, q.2.2) := by decide +kernel
def il_X9_isSignal : List (Nat × Instr × Nat) := [(0, .iload_n 0, 1), (1, .iconst 0, 1), (2, .bipush 7, 2), (4, .invokestatic 55, 3), (7, .ireturn, 1)]
theorem dk_X9_isSignal : ∀ q ∈ il_X9_isSignal, decode cX9_isSignal q.1 = .ok (q.2.1, q.2.2) := by decide +kernel
def il_X9_isPlace : List (Nat × Instr × Nat) := [(0, .iload_n 0, 1), (1, .iconst 0, 1), (2, .iconst 3, 1), (3, .invokestatic 55, 3), (6, .ireturn, 1)]
theorem dk_X9_isPlace : ∀ q ∈ il_X9_isPlace, decode cX9_isPlace q.1 = .ok (q.2.1, q.2.2) := by decide +kernel
def il_X9_isLine : List (Nat × Instr × Nat) := [(0, .iload_n 0, 1), (1, .tableswitch 129 0 11 #[63, 83, 92, 92, 114, 114, 127, 122, 122, 122, 127, 114], 63), (64, .iload_n 1, 1), (65, .invokestatic 138, 3), (68, .ifCond .eq 14, 3), (71, .iload_n 2, 1), (72, .invokestatic 157, 3), (75, .ifCond .eq 7, 3), (78, .iconst 1, 1), (79, .goto 4, 3), (82, .iconst 0, 1), (83, .ireturn, 1), (84, .iload_n 1, 1), (85, .iconst 0, 1), (86, .sipush 1000, 3), (89, .invokestatic 55, 3), (92, .ireturn, 1), (93, .iload_n 1, 1), (94, .invokestatic 191, 3), (97, .ifCond .eq 16, 3), (100, .iload_n 2, 1), (101, .iconst 0, 1), (102, .iconst 1, 1), (103, .invokestatic 55, 3), (106, .ifCond .eq 7, 3), (109, .iconst 1, 1), (110, .goto 4, 3), (113, .iconst 0, 1), (114, .ireturn, 1), (115, .iload_n 1, 1), (116, .iconst 0, 1), (117, .bipush 59, 2), (119, .invokestatic 55, 3), (122, .ireturn, 1), (123, .iload_n 1, 1), (124, .invokestatic 191, 3), (127, .ireturn, 1), (128, .iconst 1, 1), (129, .ireturn, 1), (130, .iconst 0, 1), (131, .ireturn, 1)]
theorem dk_X9_isLine : ∀ q ∈ il_X9_isLine, decode cX9_isLine q.1 = .ok (q.2.1, q.2.2) := by decide +kernel
def il_X9_isGoing : List (Nat × Instr × Nat) := [(0, .aload_n 0, 1), (1, .getfield 19, 3), (4, .getfield 214, 3), (7, .iconst 1, 1), (8, .if_icmp .ne 7, 3), (11, .iconst 1, 1), (12, .goto 4, 3), (15, .iconst 0, 1), (16, .ireturn, 1)]
theorem dk_X9_isGoing : ∀ q ∈ il_X9_isGoing, decode cX9_isGoing q.1 = .ok (q.2.1, q.2.2) := by decide +kernel
def il_X9_canGoBackTo : List (Nat × Instr × Nat) := [(0, .aload_n 0, 1), (1, .getfield 27, 3), (4, .iload_n 1, 1), (5, .baload, 1), (6, .ifCond .eq 26, 3), (9, .aload_n 0, 1), (10, .getfield 10, 3), (13, .aload_n 0, 1), (14, .getfield 23, 3), (17, .iload_n 1, 1), (18, .aaload, 1), (19, .getfield 85, 3), (22, .invokevirtual 294, 3), (25, .ifCond .eq 7, 3), (28, .iconst 1, 1), (29, .goto 4, 3), (32, .iconst 0, 1), (33, .ireturn, 1)]
theorem dk_X9_canGoBackTo : ∀ q ∈ il_X9_canGoBackTo, decode cX9_canGoBackTo q.1 = .ok (q.2.1, q.2.2) := by decide +kernel
def il_X9_tickIfGoing : List (Nat × Instr × Nat) := [(0, .aload_n 1, 1), (1, .getfield 214, 3), (4, .iconst 1, 1), (5, .if_icmp .ne 11, 3), (8, .aload_n 0, 1), (9, .getfield 10, 3), (12, .aload_n 1, 1), (13, .invokevirtual 210, 3), (16, .return_, 1)]
theorem dk_X9_tickIfGoing : ∀ q ∈ il_X9_tickIfGoing, decode cX9_tickIfGoing q.1 = .ok (q.2.1, q.2.2) := by decide +kernel
def il_X9_bitsOf : List (Nat × Instr × Nat) := [(0, .dload_n 0, 1), (1, .dconst 0, 1), (2, .dcmp .l, 1), (3, .ifCond .ne 5, 3), (6, .lconst 0, 1), (7, .lreturn, 1), (8, .dload_n 0, 1), (9, .dconst 0, 1), (10, .dcmp .g, 1), (11, .ifCond .ge 9, 3), (14, .dconst 0, 1), (15, .dload_n 0, 1), (16, .dsub, 1), (17, .goto 4, 3), (20, .dload_n 0, 1), (21, .dstore_n 2, 1), (22, .ldc2_w 297, 3), (25, .lstore 4, 2), (27, .iconst 0, 1), (28, .istore 6, 2), (30, .iload 6, 2), (32, .sipush 1100, 3), (35, .if_icmp .ge 29, 3), (38, .dload_n 2, 1), (39, .ldc2_w 299, 3), (42, .dcmp .g, 1), (43, .ifCond .ge 21, 3), (46, .dload_n 2, 1), (47, .ldc2_w 301, 3), (50, .dmul, 1), (51, .dstore_n 2, 1), (52, .lload 4, 2), (54, .lconst 1, 1), (55, .lsub, 1), (56, .lstore 4, 2), (58, .iinc 6 1, 3), (61, .goto (-31), 3), (64, .lload 4, 2), (66, .bipush 52, 2), (68, .lshl, 1), (69, .dload_n 2, 1), (70, .d2l, 1), (71, .ldc2_w 303, 3), (74, .land, 1), (75, .lor, 1), (76, .lstore 6, 2), (78, .dload_n 0, 1), (79, .dconst 0, 1), (80, .dcmp .g, 1), (81, .ifCond .ge 12, 3), (84, .lload 6, 2), (86, .ldc2_w 307, 3), (89, .lor, 1), (90, .goto 5, 3), (93, .lload 6, 2), (95, .lreturn, 1)]
theorem dk_X9_bitsOf : ∀ q ∈ il_X9_bitsOf, decode cX9_bitsOf q.1 = .ok (q.2.1, q.2.2) := by decide +kernel
def il_X10_in : List (Nat × Instr × Nat) := [(0, .iload_n 0, 1), (1, .iload_n 1, 1), (2, .if_icmp .lt 12, 3), (5, .iload_n 0, 1), (6, .iload_n 2, 1), (7, .if_icmp .gt 7, 3), (10, .iconst 1, 1), (11, .goto 4, 3), (14, .iconst 0, 1), (15, .ireturn, 1)]
theorem dk_X10_in : ∀ q ∈ il_X10_in, decode cX10_in q.1 = .ok (q.2.1, q.2.2) := by decide +kernel
def il_X10_init : List (Nat × Instr × Nat) := [(0, .aload_n 0, 1), (1, .invokespecial 1, 3), (4, .aload_n 0, 1), (5, .sipush 408, 3), (8, .newarray .long, 2), (10, .putfield 7, 3), (13, .aload_n 0, 1), (14, .iconst 4, 1), (15, .newarray .boolean, 2), (17, .putfield 13, 3), (20, .aload_n 0, 1), (21, .iconst 4, 1), (22, .newarray .boolean, 2), (24, .putfield 17, 3), (27, .aload_n 0, 1), (28, .iconst 4, 1), (29, .newarray .int, 2), (31, .dup, 1), (32, .iconst 0, 1), (33, .bipush 100, 2), (35, .iastore, 1), (36, .dup, 1), (37, .iconst 1, 1), (38, .bipush 100, 2), (40, .iastore, 1), (41, .dup, 1), (42, .iconst 2, 1), (43, .bipush 100, 2), (45, .iastore, 1), (46, .dup, 1), (47, .iconst 3, 1), (48, .bipush 100, 2), (50, .iastore, 1), (51, .putfield 20, 3), (54, .aload_n 0, 1), (55, .iconst 4, 1), (56, .newarray .int, 2), (58, .dup, 1), (59, .iconst 0, 1), (60, .ldc 24, 2), (62, .iastore, 1), (63, .dup, 1), (64, .iconst 1, 1), (65, .ldc 24, 2), (67, .iastore, 1), (68, .dup, 1), (69, .iconst 2, 1), (70, .ldc 24, 2), (72, .iastore, 1), (73, .dup, 1), (74, .iconst 3, 1), (75, .ldc 24, 2), (77, .iastore, 1), (78, .putfield 25, 3), (81, .aload_n 0, 1), (82, .iconst 4, 1), (83, .newarray .int, 2), (85, .dup, 1), (86, .iconst 0, 1), (87, .ldc 28, 2), (89, .iastore, 1), (90, .dup, 1), (91, .iconst 1, 1), (92, .ldc 28, 2), (94, .iastore, 1), (95, .dup, 1), (96, .iconst 2, 1), (97, .ldc 28, 2), (99, .iastore, 1), (100, .dup, 1), (101, .iconst 3, 1), (102, .ldc 28, 2), (104, .iastore, 1), (105, .putfield 29, 3), (108, .aload_n 0, 1), (109, .iconst 4, 1), (110, .newarray .int, 2), (112, .dup, 1), (113, .iconst 0, 1), (114, .sipush 10000, 3), (117, .iastore, 1), (118, .dup, 1), (119, .iconst 1, 1), (120, .sipush 10000, 3), (123, .iastore, 1), (124, .dup, 1), (125, .iconst 2, 1), (126, .sipush 10000, 3), (129, .iastore, 1), (130, .dup, 1), (131, .iconst 3, 1), (132, .sipush 10000, 3), (135, .iastore, 1), (136, .putfield 32, 3), (139, .aload_n 0, 1), (140, .iconst 4, 1), (141, .newarray .int, 2), (143, .dup, 1), (144, .iconst 0, 1), (145, .sipush 1000, 3), (148, .iastore, 1), (149, .dup, 1), (150, .iconst 1, 1), (151, .sipush 1000, 3), (154, .iastore, 1), (155, .dup, 1), (156, .iconst 2, 1), (157, .sipush 1000, 3), (160, .iastore, 1), (161, .dup, 1), (162, .iconst 3, 1), (163, .sipush 1000, 3), (166, .iastore, 1), (167, .putfield 35, 3), (170, .aload_n 0, 1), (171, .iconst 4, 1), (172, .newarray .boolean, 2), (174, .putfield 38, 3), (177, .aload_n 0, 1), (178, .bipush 16, 2), (180, .newarray .int, 2), (182, .putfield 41, 3), (185, .aload_n 0, 1), (186, .bipush 16, 2), (188, .newarray .boolean, 2), (190, .putfield 44, 3), (193, .aload_n 0, 1), (194, .bipush 64, 2), (196, .newarray .int, 2), (198, .putfield 47, 3), (201, .aload_n 0, 1), (202, .bipush 60, 2), (204, .newarray .int, 2), (206, .putfield 50, 3), (209, .aload_n 0, 1), (210, .bipush 60, 2), (212, .newarray .int, 2), (214, .putfield 53, 3), (217, .aload_n 0, 1), (218, .bipush 60, 2), (220, .newarray .int, 2), (222, .putfield 56, 3), (225, .aload_n 0, 1), (226, .bipush 40, 2), (228, .newarray .int, 2), (230, .putfield 59, 3), (233, .aload_n 0, 1), (234, .bipush 40, 2), (236, .newarray .int, 2), (238, .putfield 62, 3), (241, .aload_n 0, 1), (242, .bipush 40, 2), (244, .newarray .boolean, 2), (246, .putfield 65, 3), (249, .aload_n 0, 1), (250, .iconst 4, 1), (251, .newarray .long, 2), (253, .putfield 68, 3), (256, .aload_n 0, 1), (257, .iconst 4, 1), (258, .newarray .long, 2), (260, .putfield 71, 3), (263, .aload_n 0, 1), (264, .iconst 4, 1), (265, .newarray .long, 2), (267, .putfield 74, 3), (270, .aload_n 0, 1), (271, .sipush 2020, 3), (274, .newarray .long, 2), (276, .putfield 77, 3), (279, .aload_n 0, 1), (280, .getfield 7, 3), (283, .bipush 48, 2), (285, .ldc2_w 80, 3), (288, .lastore, 1), (289, .aload_n 0, 1), (290, .getfield 7, 3), (293, .bipush 49, 2), (295, .ldc2_w 80, 3), (298, .lastore, 1), (299, .aload_n 0, 1), (300, .getfield 7, 3), (303, .bipush 50, 2), (305, .ldc2_w 80, 3), (308, .lastore, 1), (309, .return_, 1)]
theorem dk_X10_init : ∀ q ∈ il_X10_init, decode cX10_init q.1 = .ok (q.2.1, q.2.2) := by decide +kernel
def il_X10_rowAt : List (Nat × Instr × Nat) := [(0, .aload_n 0, 1), (1, .getfield 7, 3), (4, .iload_n 1, 1), (5, .laload, 1), (6, .l2i, 1), (7, .ireturn, 1)]
theorem dk_X10_rowAt : ∀ q ∈ il_X10_rowAt, decode cX10_rowAt q.1 = .ok (q.2.1, q.2.2) := by decide +kernel
def il_X10_isJoint : List (Nat × Instr × Nat) := [(0, .iload_n 1, 1), (1, .iconst 0, 1), (2, .iconst 3, 1), (3, .invokestatic 82, 3), (6, .ireturn, 1)]
theorem dk_X10_isJoint : ∀ q ∈ il_X10_isJoint, decode cX10_isJoint q.1 = .ok (q.2.1, q.2.2) := by decide +kernel
def il_X10_isGoing : List (Nat × Instr × Nat) := [(0, .aload_n 0, 1), (1, .getfield 7, 3), (4, .bipush 28, 2), (6, .laload, 1), (7, .lconst 1, 1), (8, .lcmp, 1), (9, .ifCond .ne 7, 3), (12, .iconst 1, 1), (13, .goto 4, 3), (16, .iconst 0, 1), (17, .ireturn, 1)]
theorem dk_X10_isGoing : ∀ q ∈ il_X10_isGoing, decode cX10_isGoing q.1 = .ok (q.2.1, q.2.2) := by decide +kernel
def il_X10_joint : List (Nat × Instr × Nat) := [(0, .aload_n 0, 1), (1, .iload_n 1, 1), (2, .invokevirtual 86, 3), (5, .ifCond .eq 45, 3), (8, .iload_n 2, 1), (9, .iconst 0, 1), (10, .iconst 1, 1), (11, .invokestatic 82, 3), (14, .ifCond .eq 36, 3), (17, .iload_n 3, 1), (18, .iconst 0, 1), (19, .sipush 1000, 3), (22, .invokestatic 82, 3), (25, .ifCond .eq 25, 3), (28, .iload 4, 2), (30, .iconst 1, 1), (31, .ldc 90, 2), (33, .invokestatic 82, 3), (36, .ifCond .eq 14, 3), (39, .iload 5, 2), (41, .iconst 1, 1), (42, .ldc 90, 2), (44, .invokestatic 82, 3), (47, .ifCond .ne 6, 3), (50, .bipush (-2), 2), (52, .ireturn, 1), (53, .aload_n 0, 1), (54, .invokevirtual 91, 3), (57, .ifCond .eq 6, 3), (60, .bipush (-3), 2), (62, .ireturn, 1), (63, .aload_n 0, 1), (64, .getfield 17, 3), (67, .iload_n 1, 1), (68, .iload_n 2, 1), (69, .iconst 1, 1), (70, .if_icmp .ne 7, 3), (73, .iconst 1, 1), (74, .goto 4, 3), (77, .iconst 0, 1), (78, .bastore, 1), (79, .aload_n 0, 1), (80, .getfield 20, 3), (83, .iload_n 1, 1), (84, .iload_n 3, 1), (85, .iastore, 1), (86, .aload_n 0, 1), (87, .getfield 32, 3), (90, .iload_n 1, 1), (91, .iload 4, 2), (93, .iastore, 1), (94, .aload_n 0, 1), (95, .getfield 35, 3), (98, .iload_n 1, 1), (99, .iload 5, 2), (101, .iastore, 1), (102, .iconst 1, 1), (103, .ireturn, 1)]
theorem dk_X10_joint : ∀ q ∈ il_X10_joint, decode cX10_joint q.1 = .ok (q.2.1, q.2.2) := by decide +kernel
def il_X10_limits : List (Nat × Instr × Nat) := [(0, .aload_n 0, 1), (1, .iload_n 1, 1), (2, .invokevirtual 86, 3), (5, .ifCond .eq 24, 3), (8, .iload_n 2, 1), (9, .ldc 95, 2), (11, .ldc 96, 2), (13, .invokestatic 82, 3), (16, .ifCond .eq 13, 3), (19, .iload_n 3, 1), (20, .iload_n 2, 1), (21, .ldc 96, 2), (23, .invokestatic 82, 3), (26, .ifCond .ne 6, 3), (29, .bipush (-2), 2), (31, .ireturn, 1), (32, .aload_n 0, 1), (33, .invokevirtual 91, 3), (36, .ifCond .ne 18, 3), (39, .aload_n 0, 1), (40, .iconst 0, 1), (41, .iload_n 1, 1), (42, .iadd, 1), (43, .invokevirtual 97, 3), (46, .iload_n 2, 1), (47, .iload_n 3, 1), (48, .invokestatic 82, 3), (51, .ifCond .ne 6, 3), (54, .bipush (-3), 2), (56, .ireturn, 1), (57, .aload_n 0, 1), (58, .getfield 25, 3), (61, .iload_n 1, 1), (62, .iload_n 2, 1), (63, .iastore, 1), (64, .aload_n 0, 1), (65, .getfield 29, 3), (68, .iload_n 1, 1), (69, .iload_n 3, 1), (70, .iastore, 1), (71, .iconst 1, 1), (72, .ireturn, 1)]
theorem dk_X10_limits : ∀ q ∈ il_X10_limits, decode cX10_limits q.1 = .ok (q.2.1, q.2.2) := by decide +kernel
def il_X10_jog : List (Nat × Instr × Nat) := [(0, .aload_n 0, 1), (1, .iload_n 1, 1), (2, .invokevirtual 86, 3), (5, .ifCond .eq 22, 3), (8, .iload_n 2, 1), (9, .aload_n 0, 1), (10, .getfield 25, 3), (13, .iload_n 1, 1), (14, .iaload, 1), (15, .aload_n 0, 1), (16, .getfield 29, 3), (19, .iload_n 1, 1), (20, .iaload, 1), (21, .invokestatic 82, 3), (24, .ifCond .ne 6, 3), (27, .ldc 101, 2), (29, .ireturn, 1), (30, .aload_n 0, 1), (31, .invokevirtual 91, 3), (34, .ifCond .eq 6, 3), (37, .ldc 95, 2), (39, .ireturn, 1), (40, .aload_n 0, 1), (41, .iconst 0, 1), (42, .iload_n 1, 1), (43, .iadd, 1), (44, .invokevirtual 97, 3), (47, .istore_n 3, 1), (48, .aload_n 0, 1), (49, .getfield 7, 3), (52, .iconst 0, 1), (53, .iload_n 1, 1), (54, .iadd, 1), (55, .iload_n 2, 1), (56, .i2l, 1), (57, .lastore, 1), (58, .iload_n 3, 1), (59, .ireturn, 1)]
theorem dk_X10_jog : ∀ q ∈ il_X10_jog, decode cX10_jog q.1 = .ok (q.2.1, q.2.2) := by decide +kernel
def il_X10_state : List (Nat × Instr × Nat) := [(0, .aload_n 0, 1), (1, .iload_n 1, 1), (2, .invokevirtual 86, 3), (5, .ifCond .eq 13, 3), (8, .aload_n 0, 1), (9, .iconst 0, 1), (10, .iload_n 1, 1), (11, .iadd, 1), (12, .invokevirtual 97, 3), (15, .goto 5, 3), (18, .ldc 101, 2), (20, .ireturn, 1)]
theorem dk_X10_state : ∀ q ∈ il_X10_state, decode cX10_state q.1 = .ok (q.2.1, q.2.2) := by decide +kernel
def il_X10_sineOf : List (Nat × Instr × Nat) := [(0, .lload_n 0, 1), (1, .ldc2_w 102, 3), (4, .lrem, 1), (5, .lstore_n 2, 1), (6, .lload_n 2, 1), (7, .lconst 0, 1), (8, .lcmp, 1), (9, .ifCond .ge 11, 3), (12, .lload_n 2, 1), (13, .ldc2_w 102, 3), (16, .ladd, 1), (17, .goto 4, 3), (20, .lload_n 2, 1), (21, .lstore_n 2, 1), (22, .lload_n 2, 1), (23, .ldc2_w 104, 3), (26, .ldiv, 1), (27, .l2i, 1), (28, .istore 4, 2), (30, .lload_n 2, 1), (31, .ldc2_w 104, 3), (34, .lrem, 1), (35, .l2i, 1), (36, .istore 5, 2), (38, .iload 4, 2), (40, .iconst 2, 1), (41, .irem, 1), (42, .iconst 1, 1), (43, .if_icmp .ne 11, 3), (46, .ldc 106, 2), (48, .iload 5, 2), (50, .isub, 1), (51, .goto 5, 3), (54, .iload 5, 2), (56, .istore 5, 2), (58, .iload 5, 2), (60, .ldc 107, 2), (62, .if_icmp .gt 63, 3), (65, .iload 5, 2), (67, .i2d, 1), (68, .ldc2_w 108, 3), (71, .dmul, 1), (72, .dstore 8, 2), (74, .dload 8, 2), (76, .dload 8, 2), (78, .dmul, 1), (79, .dstore 10, 2), (81, .dload 8, 2), (83, .dconst 1, 1), (84, .dload 10, 2), (86, .ldc2_w 110, 3), (89, .dload 10, 2), (91, .ldc2_w 112, 3), (94, .dload 10, 2), (96, .ldc2_w 114, 3), (99, .dload 10, 2), (101, .ldc2_w 116, 3), (104, .dload 10, 2), (106, .ldc2_w 118, 3), (109, .dmul, 1), (110, .dadd, 1), (111, .dmul, 1), (112, .dadd, 1), (113, .dmul, 1), (114, .dadd, 1), (115, .dmul, 1), (116, .dadd, 1), (117, .dmul, 1), (118, .dadd, 1), (119, .dmul, 1), (120, .dstore 6, 2), (122, .goto 67, 3), (125, .ldc 106, 2), (127, .iload 5, 2), (129, .isub, 1), (130, .i2d, 1), (131, .ldc2_w 108, 3), (134, .dmul, 1), (135, .dstore 8, 2), (137, .dload 8, 2), (139, .dload 8, 2), (141, .dmul, 1), (142, .dstore 10, 2), (144, .dconst 1, 1), (145, .dload 10, 2), (147, .ldc2_w 120, 3), (150, .dload 10, 2), (152, .ldc2_w 122, 3), (155, .dload 10, 2), (157, .ldc2_w 124, 3), (160, .dload 10, 2), (162, .ldc2_w 126, 3), (165, .dload 10, 2), (167, .ldc2_w 128, 3), (170, .dload 10, 2), (172, .ldc2_w 130, 3), (175, .dmul, 1), (176, .dadd, 1), (177, .dmul, 1), (178, .dadd, 1), (179, .dmul, 1), (180, .dadd, 1), (181, .dmul, 1), (182, .dadd, 1), (183, .dmul, 1), (184, .dadd, 1), (185, .dmul, 1), (186, .dadd, 1), (187, .dstore 6, 2), (189, .iload 4, 2), (191, .iconst 1, 1), (192, .if_icmp .le 10, 3), (195, .dconst 0, 1), (196, .dload 6, 2), (198, .dsub, 1), (199, .goto 5, 3), (202, .dload 6, 2), (204, .dreturn, 1)]
theorem dk_X10_sineOf : ∀ q ∈ il_X10_sineOf, decode cX10_sineOf q.1 = .ok (q.2.1, q.2.2) := by decide +kernel
def il_X10_findTip : List (Nat × Instr × Nat) := [(0, .aload_n 0, 1), (1, .dconst 0, 1), (2, .putfield 132, 3), (5, .aload_n 0, 1), (6, .dconst 0, 1), (7, .putfield 136, 3), (10, .lconst 0, 1), (11, .lstore_n 1, 1), (12, .iconst 0, 1), (13, .istore_n 3, 1), (14, .iload_n 3, 1), (15, .iconst 4, 1), (16, .if_icmp .ge 95, 3), (19, .aload_n 0, 1), (20, .getfield 20, 3), (23, .iload_n 3, 1), (24, .iaload, 1), (25, .i2d, 1), (26, .dstore 4, 2), (28, .aload_n 0, 1), (29, .getfield 17, 3), (32, .iload_n 3, 1), (33, .baload, 1), (34, .ifCond .eq 24, 3), (37, .dload 4, 2), (39, .aload_n 0, 1), (40, .getfield 7, 3), (43, .iconst 0, 1), (44, .iload_n 3, 1), (45, .iadd, 1), (46, .laload, 1), (47, .l2d, 1), (48, .ldc2_w 139, 3), (51, .ddiv, 1), (52, .dadd, 1), (53, .dstore 4, 2), (55, .goto 14, 3), (58, .lload_n 1, 1), (59, .aload_n 0, 1), (60, .getfield 7, 3), (63, .iconst 0, 1), (64, .iload_n 3, 1), (65, .iadd, 1), (66, .laload, 1), (67, .ladd, 1), (68, .lstore_n 1, 1), (69, .aload_n 0, 1), (70, .aload_n 0, 1), (71, .getfield 132, 3), (74, .dload 4, 2), (76, .lload_n 1, 1), (77, .ldc2_w 104, 3), (80, .ladd, 1), (81, .invokestatic 141, 3), (84, .dmul, 1), (85, .dadd, 1), (86, .putfield 132, 3), (89, .aload_n 0, 1), (90, .aload_n 0, 1), (91, .getfield 136, 3), (94, .dload 4, 2), (96, .lload_n 1, 1), (97, .invokestatic 141, 3), (100, .dmul, 1), (101, .dadd, 1), (102, .putfield 136, 3), (105, .iinc 3 1, 3), (108, .goto (-94), 3), (111, .return_, 1)]
theorem dk_X10_findTip : ∀ q ∈ il_X10_findTip, decode cX10_findTip q.1 = .ok (q.2.1, q.2.2) := by decide +kernel
def il_X10_bitsOf : List (Nat × Instr × Nat) := [(0, .dload_n 0, 1), (1, .dconst 0, 1), (2, .dcmp .g, 1), (3, .ifCond .lt 17, 3), (6, .dload_n 0, 1), (7, .dconst 0, 1), (8, .dcmp .l, 1), (9, .ifCond .ne 15, 3), (12, .dconst 1, 1), (13, .dload_n 0, 1), (14, .ddiv, 1), (15, .dconst 0, 1), (16, .dcmp .g, 1), (17, .ifCond .ge 7, 3), (20, .iconst 1, 1), (21, .goto 4, 3), (24, .iconst 0, 1), (25, .istore_n 2, 1), (26, .iload_n 2, 1), (27, .ifCond .eq 9, 3), (30, .dconst 0, 1), (31, .dload_n 0, 1), (32, .dsub, 1), (33, .goto 4, 3), (36, .dload_n 0, 1), (37, .dstore_n 3, 1), (38, .sipush 1075, 3), (41, .istore 5, 2), (43, .dload_n 3, 1), (44, .ldc2_w 145, 3), (47, .dcmp .l, 1), (48, .ifCond .lt 15, 3), (51, .dload_n 3, 1), (52, .ldc2_w 147, 3), (55, .ddiv, 1), (56, .dstore_n 3, 1), (57, .iinc 5 1, 3), (60, .goto (-17), 3), (63, .dload_n 3, 1), (64, .ldc2_w 149, 3), (67, .dcmp .g, 1), (68, .ifCond .ge 21, 3), (71, .iload 5, 2), (73, .iconst 1, 1), (74, .if_icmp .le 15, 3), (77, .dload_n 3, 1), (78, .ldc2_w 147, 3), (81, .dmul, 1), (82, .dstore_n 3, 1), (83, .iinc 5 (-1), 3), (86, .goto (-23), 3), (89, .dload_n 3, 1), (90, .d2l, 1), (91, .lstore 6, 2), (93, .lload 6, 2), (95, .ldc2_w 151, 3), (98, .lcmp, 1), (99, .ifCond .ge 8, 3), (102, .lload 6, 2), (104, .goto 16, 3), (107, .lload 6, 2), (109, .ldc2_w 151, 3), (112, .lsub, 1), (113, .iload 5, 2), (115, .i2l, 1), (116, .bipush 52, 2), (118, .lshl, 1), (119, .ladd, 1), (120, .lstore 8, 2), (122, .iload_n 2, 1), (123, .ifCond .eq 12, 3), (126, .lload 8, 2), (128, .ldc2_w 153, 3), (131, .lor, 1), (132, .goto 5, 3), (135, .lload 8, 2), (137, .lreturn, 1)]
theorem dk_X10_bitsOf : ∀ q ∈ il_X10_bitsOf, decode cX10_bitsOf q.1 = .ok (q.2.1, q.2.2) := by decide +kernel
def il_X10_tip : List (Nat × Instr × Nat) := [(0, .iload_n 1, 1), (1, .iconst 0, 1), (2, .iconst 1, 1), (3, .invokestatic 82, 3), (6, .ifCond .ne 7, 3), (9, .ldc2_w 80, 3), (12, .lreturn, 1), (13, .aload_n 0, 1), (14, .invokevirtual 155, 3), (17, .iload_n 1, 1), (18, .ifCond .ne 10, 3), (21, .aload_n 0, 1), (22, .getfield 132, 3), (25, .goto 7, 3), (28, .aload_n 0, 1), (29, .getfield 136, 3), (32, .invokestatic 158, 3), (35, .lreturn, 1)]
theorem dk_X10_tip : ∀ q ∈ il_X10_tip, decode cX10_tip q.1 = .ok (q.2.1, q.2.2) := by decide +kernel
def il_X10_sine : List (Nat × Instr × Nat) := [(0, .iload_n 1, 1), (1, .i2l, 1), (2, .invokestatic 141, 3), (5, .invokestatic 158, 3), (8, .lreturn, 1)]
theorem dk_X10_sine : ∀ q ∈ il_X10_sine, decode cX10_sine q.1 = .ok (q.2.1, q.2.2) := by decide +kernel
def il_X10_isIn : List (Nat × Instr × Nat) := [(0, .aload_n 0, 1), (1, .getfield 132, 3), (4, .aload_n 0, 1), (5, .getfield 41, 3), (8, .iconst 4, 1), (9, .iload_n 1, 1), (10, .imul, 1), (11, .iaload, 1), (12, .i2d, 1), (13, .dcmp .l, 1), (14, .ifCond .lt 64, 3), (17, .aload_n 0, 1), (18, .getfield 132, 3), (21, .aload_n 0, 1), (22, .getfield 41, 3), (25, .iconst 4, 1), (26, .iload_n 1, 1), (27, .imul, 1), (28, .iconst 2, 1), (29, .iadd, 1), (30, .iaload, 1), (31, .i2d, 1), (32, .dcmp .g, 1), (33, .ifCond .gt 45, 3), (36, .aload_n 0, 1), (37, .getfield 136, 3), (40, .aload_n 0, 1), (41, .getfield 41, 3), (44, .iconst 4, 1), (45, .iload_n 1, 1), (46, .imul, 1), (47, .iconst 1, 1), (48, .iadd, 1), (49, .iaload, 1), (50, .i2d, 1), (51, .dcmp .l, 1), (52, .ifCond .lt 26, 3), (55, .aload_n 0, 1), (56, .getfield 136, 3), (59, .aload_n 0, 1), (60, .getfield 41, 3), (63, .iconst 4, 1), (64, .iload_n 1, 1), (65, .imul, 1), (66, .iconst 3, 1), (67, .iadd, 1), (68, .iaload, 1), (69, .i2d, 1), (70, .dcmp .g, 1), (71, .ifCond .gt 7, 3), (74, .iconst 1, 1), (75, .goto 4, 3), (78, .iconst 0, 1), (79, .ireturn, 1)]
theorem dk_X10_isIn : ∀ q ∈ il_X10_isIn, decode cX10_isIn q.1 = .ok (q.2.1, q.2.2) := by decide +kernel
def il_X10_isBarred : List (Nat × Instr × Nat) := [(0, .aload_n 0, 1), (1, .invokevirtual 155, 3), (4, .iconst 0, 1), (5, .istore_n 1, 1), (6, .iconst 0, 1), (7, .istore_n 2, 1), (8, .iload_n 2, 1), (9, .iconst 4, 1), (10, .if_icmp .ge 36, 3), (13, .iload_n 1, 1), (14, .ifCond .ne 20, 3), (17, .aload_n 0, 1), (18, .getfield 38, 3), (21, .iload_n 2, 1), (22, .baload, 1), (23, .ifCond .eq 15, 3), (26, .aload_n 0, 1), (27, .iload_n 2, 1), (28, .invokevirtual 162, 3), (31, .ifCond .eq 7, 3), (34, .iconst 1, 1), (35, .goto 4, 3), (38, .iconst 0, 1), (39, .istore_n 1, 1), (40, .iinc 2 1, 3), (43, .goto (-35), 3), (46, .iload_n 1, 1), (47, .ireturn, 1)]
theorem dk_X10_isBarred : ∀ q ∈ il_X10_isBarred, decode cX10_isBarred q.1 = .ok (q.2.1, q.2.2) := by decide +kernel
def il_X10_box : List (Nat × Instr × Nat) := [(0, .iload_n 1, 1), (1, .iconst 0, 1), (2, .iconst 3, 1), (3, .invokestatic 82, 3), (6, .ifCond .eq 69, 3), (9, .iload_n 2, 1), (10, .sipush (-10000), 3), (13, .sipush 10000, 3), (16, .invokestatic 82, 3), (19, .ifCond .eq 56, 3), (22, .iload_n 3, 1), (23, .sipush (-10000), 3), (26, .sipush 10000, 3), (29, .invokestatic 82, 3), (32, .ifCond .eq 43, 3), (35, .iload 4, 2), (37, .sipush (-10000), 3), (40, .sipush 10000, 3), (43, .invokestatic 82, 3), (46, .ifCond .eq 29, 3), (49, .iload 5, 2), (51, .sipush (-10000), 3), (54, .sipush 10000, 3), (57, .invokestatic 82, 3), (60, .ifCond .eq 15, 3), (63, .iload_n 2, 1), (64, .iload 4, 2), (66, .if_icmp .ge 9, 3), (69, .iload_n 3, 1), (70, .iload 5, 2), (72, .if_icmp .lt 6, 3), (75, .bipush (-2), 2), (77, .ireturn, 1), (78, .aload_n 0, 1), (79, .invokevirtual 155, 3), (82, .aload_n 0, 1), (83, .invokevirtual 91, 3), (86, .ifCond .ne 45, 3), (89, .aload_n 0, 1), (90, .getfield 132, 3), (93, .iload_n 2, 1), (94, .i2d, 1), (95, .dcmp .l, 1), (96, .ifCond .lt 38, 3), (99, .aload_n 0, 1), (100, .getfield 132, 3), (103, .iload 4, 2), (105, .i2d, 1), (106, .dcmp .g, 1), (107, .ifCond .gt 27, 3), (110, .aload_n 0, 1), (111, .getfield 136, 3), (114, .iload_n 3, 1), (115, .i2d, 1), (116, .dcmp .l, 1), (117, .ifCond .lt 17, 3), (120, .aload_n 0, 1), (121, .getfield 136, 3), (124, .iload 5, 2), (126, .i2d, 1), (127, .dcmp .g, 1), (128, .ifCond .gt 6, 3), (131, .bipush (-3), 2), (133, .ireturn, 1), (134, .aload_n 0, 1), (135, .getfield 38, 3), (138, .iload_n 1, 1), (139, .iconst 1, 1), (140, .bastore, 1), (141, .aload_n 0, 1), (142, .getfield 41, 3), (145, .iconst 4, 1), (146, .iload_n 1, 1), (147, .imul, 1), (148, .iload_n 2, 1), (149, .iastore, 1), (150, .aload_n 0, 1), (151, .getfield 41, 3), (154, .iconst 4, 1), (155, .iload_n 1, 1), (156, .imul, 1), (157, .iconst 1, 1), (158, .iadd, 1), (159, .iload_n 3, 1), (160, .iastore, 1), (161, .aload_n 0, 1), (162, .getfield 41, 3), (165, .iconst 4, 1), (166, .iload_n 1, 1), (167, .imul, 1), (168, .iconst 2, 1), (169, .iadd, 1), (170, .iload 4, 2), (172, .iastore, 1), (173, .aload_n 0, 1), (174, .getfield 41, 3), (177, .iconst 4, 1), (178, .iload_n 1, 1), (179, .imul, 1), (180, .iconst 3, 1), (181, .iadd, 1), (182, .iload 5, 2), (184, .iastore, 1), (185, .iconst 1, 1), (186, .ireturn, 1)]
theorem dk_X10_box : ∀ q ∈ il_X10_box, decode cX10_box q.1 = .ok (q.2.1, q.2.2) := by decide +kernel
def il_X10_unbox : List (Nat × Instr × Nat) := [(0, .iload_n 1, 1), (1, .iconst 0, 1), (2, .iconst 3, 1), (3, .invokestatic 82, 3), (6, .ifCond .ne 6, 3), (9, .bipush (-2), 2), (11, .ireturn, 1), (12, .aload_n 0, 1), (13, .getfield 38, 3), (16, .iload_n 1, 1), (17, .baload, 1), (18, .ifCond .eq 10, 3), (21, .aload_n 0, 1), (22, .invokevirtual 91, 3), (25, .ifCond .eq 6, 3), (28, .bipush (-3), 2), (30, .ireturn, 1), (31, .aload_n 0, 1), (32, .getfield 38, 3), (35, .iload_n 1, 1), (36, .iconst 0, 1), (37, .bastore, 1), (38, .iconst 1, 1), (39, .ireturn, 1)]
theorem dk_X10_unbox : ∀ q ∈ il_X10_unbox, decode cX10_unbox q.1 = .ok (q.2.1, q.2.2) := by decide +kernel
def il_X10_isPose : List (Nat × Instr × Nat) := [(0, .iload_n 0, 1), (1, .iconst 0, 1), (2, .bipush 15, 2), (4, .invokestatic 82, 3), (7, .ireturn, 1)]
theorem dk_X10_isPose : ∀ q ∈ il_X10_isPose, decode cX10_isPose q.1 = .ok (q.2.1, q.2.2) := by decide +kernel
def il_X10_teach : List (Nat × Instr × Nat) := [(0, .iload_n 1, 1), (1, .invokestatic 165, 3), (4, .ifCond .ne 6, 3), (7, .bipush (-2), 2), (9, .ireturn, 1), (10, .aload_n 0, 1), (11, .getfield 44, 3), (14, .iload_n 1, 1), (15, .iconst 1, 1), (16, .bastore, 1), (17, .iconst 0, 1), (18, .istore_n 2, 1), (19, .iload_n 2, 1), (20, .iconst 4, 1), (21, .if_icmp .ge 26, 3), (24, .aload_n 0, 1), (25, .getfield 47, 3), (28, .iconst 4, 1), (29, .iload_n 1, 1), (30, .imul, 1), (31, .iload_n 2, 1), (32, .iadd, 1), (33, .aload_n 0, 1), (34, .iconst 0, 1), (35, .iload_n 2, 1), (36, .iadd, 1), (37, .invokevirtual 97, 3), (40, .iastore, 1), (41, .iinc 2 1, 3), (44, .goto (-25), 3), (47, .iconst 1, 1), (48, .ireturn, 1)]
theorem dk_X10_teach : ∀ q ∈ il_X10_teach, decode cX10_teach q.1 = .ok (q.2.1, q.2.2) := by decide +kernel
def il_X10_pose : List (Nat × Instr × Nat) := [(0, .iload_n 1, 1), (1, .invokestatic 165, 3), (4, .ifCond .eq 33, 3), (7, .aload_n 0, 1), (8, .iload_n 2, 1), (9, .invokevirtual 86, 3), (12, .ifCond .eq 25, 3), (15, .aload_n 0, 1), (16, .getfield 44, 3), (19, .iload_n 1, 1), (20, .baload, 1), (21, .ifCond .eq 16, 3), (24, .aload_n 0, 1), (25, .getfield 47, 3), (28, .iconst 4, 1), (29, .iload_n 1, 1), (30, .imul, 1), (31, .iload_n 2, 1), (32, .iadd, 1), (33, .iaload, 1), (34, .goto 5, 3), (37, .ldc 101, 2), (39, .ireturn, 1)]
theorem dk_X10_pose : ∀ q ∈ il_X10_pose, decode cX10_pose q.1 = .ok (q.2.1, q.2.2) := by decide +kernel
def il_X10_risen : List (Nat × Instr × Nat) := [(0, .lload_n 2, 1), (1, .lconst 1, 1), (2, .lsub, 1), (3, .lload_n 0, 1), (4, .ldiv, 1), (5, .lstore 6, 2), (7, .lload 4, 2), (9, .lload 6, 2), (11, .lcmp, 1), (12, .ifCond .gt 19, 3), (15, .lload_n 0, 1), (16, .lload 4, 2), (18, .lmul, 1), (19, .lload 4, 2), (21, .lconst 1, 1), (22, .ladd, 1), (23, .lmul, 1), (24, .ldc2_w 168, 3), (27, .ldiv, 1), (28, .goto 24, 3), (31, .lload_n 0, 1), (32, .lload 6, 2), (34, .lmul, 1), (35, .lload 6, 2), (37, .lconst 1, 1), (38, .ladd, 1), (39, .lmul, 1), (40, .ldc2_w 168, 3), (43, .ldiv, 1), (44, .lload_n 2, 1), (45, .lload 4, 2), (47, .lload 6, 2), (49, .lsub, 1), (50, .lmul, 1), (51, .ladd, 1), (52, .lreturn, 1)]
theorem dk_X10_risen : ∀ q ∈ il_X10_risen, decode cX10_risen q.1 = .ok (q.2.1, q.2.2) := by decide +kernel
def il_X10_gone : List (Nat × Instr × Nat) := [(0, .lload 4, 2), (2, .lconst 1, 1), (3, .ladd, 1), (4, .ldc2_w 168, 3), (7, .ldiv, 1), (8, .lstore 8, 2), (10, .lload 6, 2), (12, .lload 8, 2), (14, .lcmp, 1), (15, .ifCond .gt 13, 3), (18, .lload_n 0, 1), (19, .lload_n 2, 1), (20, .lload 6, 2), (22, .invokestatic 170, 3), (25, .goto 32, 3), (28, .lload_n 0, 1), (29, .lload_n 2, 1), (30, .lload 8, 2), (32, .invokestatic 170, 3), (35, .lload_n 0, 1), (36, .lload_n 2, 1), (37, .lload 4, 2), (39, .lload 8, 2), (41, .lsub, 1), (42, .invokestatic 170, 3), (45, .ladd, 1), (46, .lload_n 0, 1), (47, .lload_n 2, 1), (48, .lload 4, 2), (50, .lload 6, 2), (52, .lsub, 1), (53, .invokestatic 170, 3), (56, .lsub, 1), (57, .lreturn, 1)]
theorem dk_X10_gone : ∀ q ∈ il_X10_gone, decode cX10_gone q.1 = .ok (q.2.1, q.2.2) := by decide +kernel
def il_X10_ticksFor : List (Nat × Instr × Nat) := [(0, .lconst 0, 1), (1, .lstore 6, 2), (3, .lload 4, 2), (5, .lstore 8, 2), (7, .lload 6, 2), (9, .lload 8, 2), (11, .lcmp, 1), (12, .ifCond .ge 45, 3), (15, .lload 6, 2), (17, .lload 8, 2), (19, .ladd, 1), (20, .ldc2_w 168, 3), (23, .ldiv, 1), (24, .lstore 10, 2), (26, .lload_n 0, 1), (27, .lload_n 2, 1), (28, .lload 10, 2), (30, .lload 10, 2), (32, .invokestatic 174, 3), (35, .lload 4, 2), (37, .lcmp, 1), (38, .ifCond .lt 10, 3), (41, .lload 10, 2), (43, .lstore 8, 2), (45, .goto 9, 3), (48, .lload 10, 2), (50, .lconst 1, 1), (51, .ladd, 1), (52, .lstore 6, 2), (54, .goto (-47), 3), (57, .lload 6, 2), (59, .lreturn, 1)]
theorem dk_X10_ticksFor : ∀ q ∈ il_X10_ticksFor, decode cX10_ticksFor q.1 = .ok (q.2.1, q.2.2) := by decide +kernel
def il_X10_plans : List (Nat × Instr × Nat) := [(0, .aload_n 0, 1), (1, .lconst 0, 1), (2, .putfield 178, 3), (5, .aload_n 0, 1), (6, .lconst 1, 1), (7, .putfield 182, 3), (10, .aload_n 0, 1), (11, .lconst 1, 1), (12, .putfield 185, 3), (15, .aload_n 0, 1), (16, .lconst 1, 1), (17, .putfield 188, 3), (20, .iconst 0, 1), (21, .istore_n 3, 1), (22, .iload_n 3, 1), (23, .iconst 4, 1), (24, .if_icmp .ge 158, 3), (27, .aload_n 0, 1), (28, .getfield 68, 3), (31, .iload_n 3, 1), (32, .aload_n 0, 1), (33, .getfield 7, 3), (36, .iconst 0, 1), (37, .iload_n 3, 1), (38, .iadd, 1), (39, .laload, 1), (40, .lastore, 1), (41, .aload_n 0, 1), (42, .getfield 71, 3), (45, .iload_n 3, 1), (46, .aload_n 0, 1), (47, .getfield 47, 3), (50, .iconst 4, 1), (51, .iload_n 1, 1), (52, .imul, 1), (53, .iload_n 3, 1), (54, .iadd, 1), (55, .iaload, 1), (56, .i2l, 1), (57, .lastore, 1), (58, .aload_n 0, 1), (59, .getfield 71, 3), (62, .iload_n 3, 1), (63, .laload, 1), (64, .aload_n 0, 1), (65, .getfield 68, 3), (68, .iload_n 3, 1), (69, .laload, 1), (70, .lsub, 1), (71, .lstore 4, 2), (73, .lload 4, 2), (75, .lconst 0, 1), (76, .lcmp, 1), (77, .ifCond .ge 9, 3), (80, .lload 4, 2), (82, .lneg, 1), (83, .goto 5, 3), (86, .lload 4, 2), (88, .lstore 4, 2), (90, .aload_n 0, 1), (91, .getfield 32, 3), (94, .iload_n 3, 1), (95, .iaload, 1), (96, .i2l, 1), (97, .iload_n 2, 1), (98, .i2l, 1), (99, .lmul, 1), (100, .ldc2_w 191, 3), (103, .ldiv, 1), (104, .lstore 6, 2), (106, .lload 6, 2), (108, .lconst 1, 1), (109, .lcmp, 1), (110, .ifCond .ge 7, 3), (113, .lconst 1, 1), (114, .goto 5, 3), (117, .lload 6, 2), (119, .lstore 6, 2), (121, .aload_n 0, 1), (122, .getfield 35, 3), (125, .iload_n 3, 1), (126, .iaload, 1), (127, .i2l, 1), (128, .lload 6, 2), (130, .lload 4, 2), (132, .invokestatic 193, 3), (135, .lstore 8, 2), (137, .lload 8, 2), (139, .aload_n 0, 1), (140, .getfield 178, 3), (143, .lcmp, 1), (144, .ifCond .le 32, 3), (147, .aload_n 0, 1), (148, .lload 8, 2), (150, .putfield 178, 3), (153, .aload_n 0, 1), (154, .aload_n 0, 1), (155, .getfield 35, 3), (158, .iload_n 3, 1), (159, .iaload, 1), (160, .i2l, 1), (161, .putfield 182, 3), (164, .aload_n 0, 1), (165, .lload 6, 2), (167, .putfield 185, 3), (170, .aload_n 0, 1), (171, .lload 4, 2), (173, .putfield 188, 3), (176, .iinc 3 1, 3), (179, .goto (-157), 3), (182, .return_, 1)]
theorem dk_X10_plans : ∀ q ∈ il_X10_plans, decode cX10_plans q.1 = .ok (q.2.1, q.2.2) := by decide +kernel
def il_X10_stateBehind : List (Nat × Instr × Nat) := [(0, .lload 4, 2), (2, .lload 6, 2), (4, .lload 8, 2), (6, .lload 12, 2), (8, .invokestatic 174, 3), (11, .lstore 14, 2), (13, .lload 14, 2), (15, .lload 10, 2), (17, .lcmp, 1), (18, .ifCond .le 8, 3), (21, .lload 10, 2), (23, .goto 5, 3), (26, .lload 14, 2), (28, .lstore 14, 2), (30, .lload_n 0, 1), (31, .lload_n 2, 1), (32, .lload_n 0, 1), (33, .lsub, 1), (34, .lload 14, 2), (36, .lmul, 1), (37, .lload 10, 2), (39, .ldiv, 1), (40, .ladd, 1), (41, .lreturn, 1)]
theorem dk_X10_stateBehind : ∀ q ∈ il_X10_stateBehind, decode cX10_stateBehind q.1 = .ok (q.2.1, q.2.2) := by decide +kernel
def il_X10_plan : List (Nat × Instr × Nat) := [(0, .iload_n 1, 1), (1, .invokestatic 165, 3), (4, .ifCond .eq 13, 3), (7, .iload_n 2, 1), (8, .iconst 1, 1), (9, .bipush 100, 2), (11, .invokestatic 82, 3), (14, .ifCond .ne 6, 3), (17, .bipush (-2), 2), (19, .ireturn, 1), (20, .aload_n 0, 1), (21, .getfield 44, 3), (24, .iload_n 1, 1), (25, .baload, 1), (26, .ifCond .ne 6, 3), (29, .bipush (-3), 2), (31, .ireturn, 1), (32, .aload_n 0, 1), (33, .iload_n 1, 1), (34, .iload_n 2, 1), (35, .invokevirtual 196, 3), (38, .aload_n 0, 1), (39, .getfield 178, 3), (42, .l2i, 1), (43, .ireturn, 1)]
theorem dk_X10_plan : ∀ q ∈ il_X10_plan, decode cX10_plan q.1 = .ok (q.2.1, q.2.2) := by decide +kernel
def il_X10_along : List (Nat × Instr × Nat) := [(0, .iload_n 1, 1), (1, .invokestatic 165, 3), (4, .ifCond .eq 35, 3), (7, .iload_n 2, 1), (8, .iconst 1, 1), (9, .bipush 100, 2), (11, .invokestatic 82, 3), (14, .ifCond .eq 25, 3), (17, .aload_n 0, 1), (18, .getfield 44, 3), (21, .iload_n 1, 1), (22, .baload, 1), (23, .ifCond .eq 16, 3), (26, .aload_n 0, 1), (27, .iload 4, 2), (29, .invokevirtual 86, 3), (32, .ifCond .eq 7, 3), (35, .iload_n 3, 1), (36, .ifCond .ge 6, 3), (39, .ldc 101, 2), (41, .ireturn, 1), (42, .aload_n 0, 1), (43, .iload_n 1, 1), (44, .iload_n 2, 1), (45, .invokevirtual 196, 3), (48, .iload_n 3, 1), (49, .i2l, 1), (50, .aload_n 0, 1), (51, .getfield 178, 3), (54, .lcmp, 1), (55, .ifCond .le 8, 3), (58, .ldc 101, 2), (60, .goto 39, 3), (63, .aload_n 0, 1), (64, .getfield 68, 3), (67, .iload 4, 2), (69, .laload, 1), (70, .aload_n 0, 1), (71, .getfield 71, 3), (74, .iload 4, 2), (76, .laload, 1), (77, .aload_n 0, 1), (78, .getfield 182, 3), (81, .aload_n 0, 1), (82, .getfield 185, 3), (85, .aload_n 0, 1), (86, .getfield 178, 3), (89, .aload_n 0, 1), (90, .getfield 188, 3), (93, .iload_n 3, 1), (94, .i2l, 1), (95, .invokestatic 200, 3), (98, .l2i, 1), (99, .ireturn, 1)]
theorem dk_X10_along : ∀ q ∈ il_X10_along, decode cX10_along q.1 = .ok (q.2.1, q.2.2) := by decide +kernel
def il_X10_isLineRight : List (Nat × Instr × Nat) := [(0, .iload_n 0, 1), (1, .tableswitch 136 0 11 #[63, 86, 95, 95, 120, 120, 136, 128, 128, 128, 136, 120], 63), (64, .iload_n 1, 1), (65, .invokestatic 165, 3), (68, .ifCond .eq 17, 3), (71, .iload_n 2, 1), (72, .iconst 1, 1), (73, .bipush 100, 2), (75, .invokestatic 82, 3), (78, .ifCond .eq 7, 3), (81, .iconst 1, 1), (82, .goto 4, 3), (85, .iconst 0, 1), (86, .ireturn, 1), (87, .iload_n 1, 1), (88, .iconst 0, 1), (89, .sipush 1000, 3), (92, .invokestatic 82, 3), (95, .ireturn, 1), (96, .iload_n 1, 1), (97, .iconst 0, 1), (98, .bipush 7, 2), (100, .invokestatic 82, 3), (103, .ifCond .eq 16, 3), (106, .iload_n 2, 1), (107, .iconst 0, 1), (108, .iconst 1, 1), (109, .invokestatic 82, 3), (112, .ifCond .eq 7, 3), (115, .iconst 1, 1), (116, .goto 4, 3), (119, .iconst 0, 1), (120, .ireturn, 1), (121, .iload_n 1, 1), (122, .iconst 0, 1), (123, .bipush 59, 2), (125, .invokestatic 82, 3), (128, .ireturn, 1), (129, .iload_n 1, 1), (130, .iconst 0, 1), (131, .bipush 7, 2), (133, .invokestatic 82, 3), (136, .ireturn, 1), (137, .iload_n 0, 1), (138, .bipush 6, 2), (140, .if_icmp .eq 9, 3), (143, .iload_n 0, 1), (144, .bipush 10, 2), (146, .if_icmp .ne 7, 3), (149, .iconst 1, 1), (150, .goto 4, 3), (153, .iconst 0, 1), (154, .ireturn, 1)]
theorem dk_X10_isLineRight : ∀ q ∈ il_X10_isLineRight, decode cX10_isLineRight q.1 = .ok (q.2.1, q.2.2) := by decide +kernel
def il_X10_line : List (Nat × Instr × Nat) := [(0, .iload_n 1, 1), (1, .iload_n 2, 1), (2, .iload_n 3, 1), (3, .invokestatic 204, 3), (6, .ifCond .ne 6, 3), (9, .bipush (-2), 2), (11, .ireturn, 1), (12, .aload_n 0, 1), (13, .invokevirtual 91, 3), (16, .ifCond .eq 6, 3), (19, .bipush (-3), 2), (21, .ireturn, 1), (22, .aload_n 0, 1), (23, .getfield 207, 3), (26, .bipush 60, 2), (28, .if_icmp .ne 6, 3), (31, .bipush (-4), 2), (33, .ireturn, 1), (34, .aload_n 0, 1), (35, .getfield 50, 3), (38, .aload_n 0, 1), (39, .getfield 207, 3), (42, .iload_n 1, 1), (43, .iastore, 1), (44, .aload_n 0, 1), (45, .getfield 53, 3), (48, .aload_n 0, 1), (49, .getfield 207, 3), (52, .iload_n 2, 1), (53, .iastore, 1), (54, .aload_n 0, 1), (55, .getfield 56, 3), (58, .aload_n 0, 1), (59, .getfield 207, 3), (62, .iload_n 3, 1), (63, .iastore, 1), (64, .aload_n 0, 1), (65, .dup, 1), (66, .getfield 207, 3), (69, .iconst 1, 1), (70, .iadd, 1), (71, .putfield 207, 3), (74, .aload_n 0, 1), (75, .getfield 207, 3), (78, .iconst 1, 1), (79, .isub, 1), (80, .ireturn, 1)]
theorem dk_X10_line : ∀ q ∈ il_X10_line, decode cX10_line q.1 = .ok (q.2.1, q.2.2) := by decide +kernel
def il_X10_clear : List (Nat × Instr × Nat) := [(0, .aload_n 0, 1), (1, .invokevirtual 91, 3), (4, .ifCond .eq 6, 3), (7, .bipush (-3), 2), (9, .ireturn, 1), (10, .aload_n 0, 1), (11, .getfield 207, 3), (14, .istore_n 1, 1), (15, .aload_n 0, 1), (16, .iconst 0, 1), (17, .putfield 207, 3), (20, .iload_n 1, 1), (21, .ireturn, 1)]
theorem dk_X10_clear : ∀ q ∈ il_X10_clear, decode cX10_clear q.1 = .ok (q.2.1, q.2.2) := by decide +kernel
def il_X10_script : List (Nat × Instr × Nat) := [(0, .iload_n 1, 1), (1, .iconst 1, 1), (2, .ldc 90, 2), (4, .invokestatic 82, 3), (7, .ifCond .eq 13, 3), (10, .iload_n 2, 1), (11, .iconst 0, 1), (12, .bipush 7, 2), (14, .invokestatic 82, 3), (17, .ifCond .ne 6, 3), (20, .bipush (-2), 2), (22, .ireturn, 1), (23, .aload_n 0, 1), (24, .getfield 211, 3), (27, .bipush 40, 2), (29, .if_icmp .ne 6, 3), (32, .bipush (-4), 2), (34, .ireturn, 1), (35, .aload_n 0, 1), (36, .getfield 59, 3), (39, .aload_n 0, 1), (40, .getfield 211, 3), (43, .iload_n 1, 1), (44, .iastore, 1), (45, .aload_n 0, 1), (46, .getfield 62, 3), (49, .aload_n 0, 1), (50, .getfield 211, 3), (53, .iload_n 2, 1), (54, .iastore, 1), (55, .aload_n 0, 1), (56, .getfield 65, 3), (59, .aload_n 0, 1), (60, .getfield 211, 3), (63, .iload_n 3, 1), (64, .bastore, 1), (65, .aload_n 0, 1), (66, .dup, 1), (67, .getfield 211, 3), (70, .iconst 1, 1), (71, .iadd, 1), (72, .putfield 211, 3), (75, .aload_n 0, 1), (76, .getfield 211, 3), (79, .ireturn, 1)]
theorem dk_X10_script : ∀ q ∈ il_X10_script, decode cX10_script q.1 = .ok (q.2.1, q.2.2) := by decide +kernel
def il_X10_input : List (Nat × Instr × Nat) := [(0, .iload_n 1, 1), (1, .iconst 0, 1), (2, .bipush 7, 2), (4, .invokestatic 82, 3), (7, .ifCond .ne 6, 3), (10, .bipush (-2), 2), (12, .ireturn, 1), (13, .aload_n 0, 1), (14, .getfield 7, 3), (17, .iconst 4, 1), (18, .iload_n 1, 1), (19, .iadd, 1), (20, .iload_n 2, 1), (21, .ifCond .eq 7, 3), (24, .lconst 1, 1), (25, .goto 4, 3), (28, .lconst 0, 1), (29, .lastore, 1), (30, .iconst 1, 1), (31, .ireturn, 1)]
theorem dk_X10_input : ∀ q ∈ il_X10_input, decode cX10_input q.1 = .ok (q.2.1, q.2.2) := by decide +kernel
def il_X10_run : List (Nat × Instr × Nat) := [(0, .aload_n 0, 1), (1, .invokevirtual 91, 3), (4, .ifCond .eq 6, 3), (7, .bipush (-3), 2), (9, .ireturn, 1), (10, .aload_n 0, 1), (11, .getfield 7, 3), (14, .bipush 28, 2), (16, .lconst 1, 1), (17, .lastore, 1), (18, .bipush 29, 2), (20, .istore_n 1, 1), (21, .iload_n 1, 1), (22, .bipush 51, 2), (24, .if_icmp .ge 40, 3), (27, .aload_n 0, 1), (28, .getfield 7, 3), (31, .iload_n 1, 1), (32, .iload_n 1, 1), (33, .bipush 48, 2), (35, .if_icmp .eq 15, 3), (38, .iload_n 1, 1), (39, .bipush 49, 2), (41, .if_icmp .eq 9, 3), (44, .iload_n 1, 1), (45, .bipush 50, 2), (47, .if_icmp .ne 9, 3), (50, .ldc2_w 80, 3), (53, .goto 4, 3), (56, .lconst 0, 1), (57, .lastore, 1), (58, .iinc 1 1, 3), (61, .goto (-40), 3), (64, .iconst 0, 1), (65, .istore_n 1, 1), (66, .iload_n 1, 1), (67, .bipush 8, 2), (69, .if_icmp .ge 29, 3), (72, .aload_n 0, 1), (73, .getfield 7, 3), (76, .bipush 12, 2), (78, .iload_n 1, 1), (79, .iadd, 1), (80, .lconst 0, 1), (81, .lastore, 1), (82, .aload_n 0, 1), (83, .getfield 7, 3), (86, .bipush 20, 2), (88, .iload_n 1, 1), (89, .iadd, 1), (90, .lconst 0, 1), (91, .lastore, 1), (92, .iinc 1 1, 3), (95, .goto (-29), 3), (98, .iconst 1, 1), (99, .ireturn, 1)]
theorem dk_X10_run : ∀ q ∈ il_X10_run, decode cX10_run q.1 = .ok (q.2.1, q.2.2) := by decide +kernel
def il_X10_errs : List (Nat × Instr × Nat) := [(0, .aload_n 0, 1), (1, .getfield 7, 3), (4, .bipush 46, 2), (6, .lconst 0, 1), (7, .lastore, 1), (8, .aload_n 0, 1), (9, .getfield 7, 3), (12, .bipush 47, 2), (14, .lconst 0, 1), (15, .lastore, 1), (16, .aload_n 0, 1), (17, .getfield 7, 3), (20, .bipush 31, 2), (22, .iload_n 1, 1), (23, .i2l, 1), (24, .lastore, 1), (25, .aload_n 0, 1), (26, .bipush 48, 2), (28, .invokevirtual 97, 3), (31, .istore_n 2, 1), (32, .iload_n 2, 1), (33, .iconst (-1), 1), (34, .if_icmp .ne 16, 3), (37, .aload_n 0, 1), (38, .getfield 7, 3), (41, .bipush 28, 2), (43, .ldc2_w 214, 3), (46, .lastore, 1), (47, .goto 61, 3), (50, .iload_n 2, 1), (51, .aload_n 0, 1), (52, .getfield 207, 3), (55, .if_icmp .lt 26, 3), (58, .aload_n 0, 1), (59, .getfield 7, 3), (62, .bipush 31, 2), (64, .ldc2_w 214, 3), (67, .lastore, 1), (68, .aload_n 0, 1), (69, .getfield 7, 3), (72, .bipush 28, 2), (74, .ldc2_w 214, 3), (77, .lastore, 1), (78, .goto 30, 3), (81, .aload_n 0, 1), (82, .getfield 7, 3), (85, .bipush 30, 2), (87, .iload_n 2, 1), (88, .i2l, 1), (89, .lastore, 1), (90, .aload_n 0, 1), (91, .getfield 7, 3), (94, .bipush 32, 2), (96, .lconst 0, 1), (97, .lastore, 1), (98, .aload_n 0, 1), (99, .getfield 7, 3), (102, .bipush 48, 2), (104, .ldc2_w 80, 3), (107, .lastore, 1), (108, .return_, 1)]
theorem dk_X10_errs : ∀ q ∈ il_X10_errs, decode cX10_errs q.1 = .ok (q.2.1, q.2.2) := by decide +kernel
def il_X10_isOn : List (Nat × Instr × Nat) := [(0, .iload_n 1, 1), (1, .iconst (-1), 1), (2, .if_icmp .eq 20, 3), (5, .aload_n 0, 1), (6, .getfield 7, 3), (9, .iconst 4, 1), (10, .iload_n 1, 1), (11, .iadd, 1), (12, .laload, 1), (13, .lconst 1, 1), (14, .lcmp, 1), (15, .ifCond .ne 7, 3), (18, .iconst 1, 1), (19, .goto 4, 3), (22, .iconst 0, 1), (23, .ireturn, 1)]
theorem dk_X10_isOn : ∀ q ∈ il_X10_isOn, decode cX10_isOn q.1 = .ok (q.2.1, q.2.2) := by decide +kernel
def il_X10_over : List (Nat × Instr × Nat) := [(0, .aload_n 0, 1), (1, .getfield 7, 3), (4, .bipush 46, 2), (6, .lconst 0, 1), (7, .lastore, 1), (8, .aload_n 0, 1), (9, .getfield 7, 3), (12, .bipush 47, 2), (14, .lconst 0, 1), (15, .lastore, 1), (16, .aload_n 0, 1), (17, .getfield 7, 3), (20, .bipush 30, 2), (22, .dup2, 1), (23, .laload, 1), (24, .lconst 1, 1), (25, .ladd, 1), (26, .lastore, 1), (27, .return_, 1)]
theorem dk_X10_over : ∀ q ∈ il_X10_over, decode cX10_over q.1 = .ok (q.2.1, q.2.2) := by decide +kernel
def il_X10_goesOn : List (Nat × Instr × Nat) := [(0, .aload_n 0, 1), (1, .getfield 7, 3), (4, .bipush 63, 2), (6, .dup2, 1), (7, .laload, 1), (8, .lconst 1, 1), (9, .ladd, 1), (10, .lastore, 1), (11, .iconst 0, 1), (12, .istore_n 1, 1), (13, .iload_n 1, 1), (14, .iconst 4, 1), (15, .if_icmp .ge 87, 3), (18, .aload_n 0, 1), (19, .getfield 74, 3), (22, .iload_n 1, 1), (23, .aload_n 0, 1), (24, .getfield 7, 3), (27, .iconst 0, 1), (28, .iload_n 1, 1), (29, .iadd, 1), (30, .laload, 1), (31, .lastore, 1), (32, .aload_n 0, 1), (33, .getfield 7, 3), (36, .iconst 0, 1), (37, .iload_n 1, 1), (38, .iadd, 1), (39, .aload_n 0, 1), (40, .getfield 7, 3), (43, .bipush 51, 2), (45, .iload_n 1, 1), (46, .iadd, 1), (47, .laload, 1), (48, .aload_n 0, 1), (49, .getfield 7, 3), (52, .bipush 55, 2), (54, .iload_n 1, 1), (55, .iadd, 1), (56, .laload, 1), (57, .aload_n 0, 1), (58, .getfield 7, 3), (61, .bipush 60, 2), (63, .laload, 1), (64, .aload_n 0, 1), (65, .getfield 7, 3), (68, .bipush 61, 2), (70, .laload, 1), (71, .aload_n 0, 1), (72, .getfield 7, 3), (75, .bipush 59, 2), (77, .laload, 1), (78, .aload_n 0, 1), (79, .getfield 7, 3), (82, .bipush 62, 2), (84, .laload, 1), (85, .aload_n 0, 1), (86, .getfield 7, 3), (89, .bipush 63, 2), (91, .laload, 1), (92, .invokestatic 200, 3), (95, .lastore, 1), (96, .iinc 1 1, 3), (99, .goto (-86), 3), (102, .aload_n 0, 1), (103, .invokevirtual 216, 3), (106, .ifCond .eq 36, 3), (109, .iconst 0, 1), (110, .istore_n 1, 1), (111, .iload_n 1, 1), (112, .iconst 4, 1), (113, .if_icmp .ge 23, 3), (116, .aload_n 0, 1), (117, .getfield 7, 3), (120, .iconst 0, 1), (121, .iload_n 1, 1), (122, .iadd, 1), (123, .aload_n 0, 1), (124, .getfield 74, 3), (127, .iload_n 1, 1), (128, .laload, 1), (129, .lastore, 1), (130, .iinc 1 1, 3), (133, .goto (-22), 3), (136, .aload_n 0, 1), (137, .iconst 2, 1), (138, .invokevirtual 219, 3), (141, .return_, 1), (142, .iconst 0, 1), (143, .istore_n 1, 1), (144, .iload_n 1, 1), (145, .iconst 4, 1), (146, .if_icmp .ge 49, 3), (149, .aload_n 0, 1), (150, .getfield 7, 3), (153, .iconst 0, 1), (154, .iload_n 1, 1), (155, .iadd, 1), (156, .laload, 1), (157, .aload_n 0, 1), (158, .getfield 74, 3), (161, .iload_n 1, 1), (162, .laload, 1), (163, .lsub, 1), (164, .lstore_n 2, 1), (165, .aload_n 0, 1), (166, .getfield 7, 3), (169, .bipush 64, 2), (171, .iload_n 1, 1), (172, .iadd, 1), (173, .dup2, 1), (174, .laload, 1), (175, .lload_n 2, 1), (176, .lconst 0, 1), (177, .lcmp, 1), (178, .ifCond .ge 8, 3), (181, .lload_n 2, 1), (182, .lneg, 1), (183, .goto 4, 3), (186, .lload_n 2, 1), (187, .ladd, 1), (188, .lastore, 1), (189, .iinc 1 1, 3), (192, .goto (-48), 3), (195, .aload_n 0, 1), (196, .getfield 7, 3), (199, .bipush 47, 2), (201, .dup2, 1), (202, .laload, 1), (203, .lconst 1, 1), (204, .lsub, 1), (205, .lastore, 1), (206, .aload_n 0, 1), (207, .getfield 7, 3), (210, .bipush 47, 2), (212, .laload, 1), (213, .lconst 0, 1), (214, .lcmp, 1), (215, .ifCond .ne 7, 3), (218, .aload_n 0, 1), (219, .invokevirtual 223, 3), (222, .return_, 1)]
theorem dk_X10_goesOn : ∀ q ∈ il_X10_goesOn, decode cX10_goesOn q.1 = .ok (q.2.1, q.2.2) := by decide +kernel
def il_X10_goesTick : List (Nat × Instr × Nat) := [(0, .aload_n 0, 1), (1, .getfield 7, 3), (4, .bipush 46, 2), (6, .laload, 1), (7, .lconst 1, 1), (8, .lcmp, 1), (9, .ifCond .ne 22, 3), (12, .aload_n 0, 1), (13, .aload_n 0, 1), (14, .bipush 50, 2), (16, .invokevirtual 97, 3), (19, .invokevirtual 226, 3), (22, .ifCond .eq 9, 3), (25, .aload_n 0, 1), (26, .invokevirtual 223, 3), (29, .iconst 0, 1), (30, .ireturn, 1), (31, .aload_n 0, 1), (32, .getfield 7, 3), (35, .bipush 46, 2), (37, .laload, 1), (38, .lconst 1, 1), (39, .lcmp, 1), (40, .ifCond .ne 10, 3), (43, .aload_n 0, 1), (44, .invokevirtual 229, 3), (47, .goto 30, 3), (50, .aload_n 0, 1), (51, .getfield 7, 3), (54, .bipush 47, 2), (56, .dup2, 1), (57, .laload, 1), (58, .lconst 1, 1), (59, .lsub, 1), (60, .lastore, 1), (61, .aload_n 0, 1), (62, .getfield 7, 3), (65, .bipush 47, 2), (67, .laload, 1), (68, .lconst 0, 1), (69, .lcmp, 1), (70, .ifCond .ne 7, 3), (73, .aload_n 0, 1), (74, .invokevirtual 223, 3), (77, .iconst 1, 1), (78, .ireturn, 1)]
theorem dk_X10_goesTick : ∀ q ∈ il_X10_goesTick, decode cX10_goesTick q.1 = .ok (q.2.1, q.2.2) := by decide +kernel
def il_X10_isWithin : List (Nat × Instr × Nat) := [(0, .aload_n 0, 1), (1, .getfield 44, 3), (4, .iload_n 1, 1), (5, .baload, 1), (6, .istore_n 2, 1), (7, .iconst 0, 1), (8, .istore_n 3, 1), (9, .iload_n 3, 1), (10, .iconst 4, 1), (11, .if_icmp .ge 47, 3), (14, .iload_n 2, 1), (15, .ifCond .eq 35, 3), (18, .aload_n 0, 1), (19, .getfield 47, 3), (22, .iconst 4, 1), (23, .iload_n 1, 1), (24, .imul, 1), (25, .iload_n 3, 1), (26, .iadd, 1), (27, .iaload, 1), (28, .aload_n 0, 1), (29, .getfield 25, 3), (32, .iload_n 3, 1), (33, .iaload, 1), (34, .aload_n 0, 1), (35, .getfield 29, 3), (38, .iload_n 3, 1), (39, .iaload, 1), (40, .invokestatic 82, 3), (43, .ifCond .eq 7, 3), (46, .iconst 1, 1), (47, .goto 4, 3), (50, .iconst 0, 1), (51, .istore_n 2, 1), (52, .iinc 3 1, 3), (55, .goto (-46), 3), (58, .iload_n 2, 1), (59, .ireturn, 1)]
theorem dk_X10_isWithin : ∀ q ∈ il_X10_isWithin, decode cX10_isWithin q.1 = .ok (q.2.1, q.2.2) := by decide +kernel
def il_X10_begins : List (Nat × Instr × Nat) := [(0, .aload_n 0, 1), (1, .getfield 7, 3), (4, .bipush 50, 2), (6, .aload_n 0, 1), (7, .getfield 7, 3), (10, .bipush 49, 2), (12, .laload, 1), (13, .lastore, 1), (14, .aload_n 0, 1), (15, .getfield 7, 3), (18, .bipush 49, 2), (20, .ldc2_w 80, 3), (23, .lastore, 1), (24, .aload_n 0, 1), (25, .iload_n 1, 1), (26, .invokevirtual 232, 3), (29, .ifCond .ne 9, 3), (32, .aload_n 0, 1), (33, .iconst 1, 1), (34, .invokevirtual 219, 3), (37, .return_, 1), (38, .aload_n 0, 1), (39, .iload_n 1, 1), (40, .iload_n 2, 1), (41, .invokevirtual 196, 3), (44, .aload_n 0, 1), (45, .getfield 178, 3), (48, .lconst 0, 1), (49, .lcmp, 1), (50, .ifCond .ne 15, 3), (53, .aload_n 0, 1), (54, .getfield 7, 3), (57, .bipush 30, 2), (59, .dup2, 1), (60, .laload, 1), (61, .lconst 1, 1), (62, .ladd, 1), (63, .lastore, 1), (64, .return_, 1), (65, .iconst 0, 1), (66, .istore_n 3, 1), (67, .iload_n 3, 1), (68, .iconst 4, 1), (69, .if_icmp .ge 39, 3), (72, .aload_n 0, 1), (73, .getfield 7, 3), (76, .bipush 51, 2), (78, .iload_n 3, 1), (79, .iadd, 1), (80, .aload_n 0, 1), (81, .getfield 68, 3), (84, .iload_n 3, 1), (85, .laload, 1), (86, .lastore, 1), (87, .aload_n 0, 1), (88, .getfield 7, 3), (91, .bipush 55, 2), (93, .iload_n 3, 1), (94, .iadd, 1), (95, .aload_n 0, 1), (96, .getfield 71, 3), (99, .iload_n 3, 1), (100, .laload, 1), (101, .lastore, 1), (102, .iinc 3 1, 3), (105, .goto (-38), 3), (108, .aload_n 0, 1), (109, .getfield 7, 3), (112, .bipush 59, 2), (114, .aload_n 0, 1), (115, .getfield 178, 3), (118, .lastore, 1), (119, .aload_n 0, 1), (120, .getfield 7, 3), (123, .bipush 60, 2), (125, .aload_n 0, 1), (126, .getfield 182, 3), (129, .lastore, 1), (130, .aload_n 0, 1), (131, .getfield 7, 3), (134, .bipush 61, 2), (136, .aload_n 0, 1), (137, .getfield 185, 3), (140, .lastore, 1), (141, .aload_n 0, 1), (142, .getfield 7, 3), (145, .bipush 62, 2), (147, .aload_n 0, 1), (148, .getfield 188, 3), (151, .lastore, 1), (152, .aload_n 0, 1), (153, .getfield 7, 3), (156, .bipush 63, 2), (158, .lconst 0, 1), (159, .lastore, 1), (160, .aload_n 0, 1), (161, .getfield 7, 3), (164, .bipush 47, 2), (166, .aload_n 0, 1), (167, .getfield 178, 3), (170, .lastore, 1), (171, .aload_n 0, 1), (172, .getfield 7, 3), (175, .bipush 46, 2), (177, .lconst 1, 1), (178, .lastore, 1), (179, .return_, 1)]
theorem dk_X10_begins : ∀ q ∈ il_X10_begins, decode cX10_begins q.1 = .ok (q.2.1, q.2.2) := by decide +kernel
def il_X10_goesTo : List (Nat × Instr × Nat) := [(0, .iload_n 1, 1), (1, .aload_n 0, 1), (2, .getfield 207, 3), (5, .if_icmp .lt 11, 3), (8, .aload_n 0, 1), (9, .iconst 3, 1), (10, .invokevirtual 219, 3), (13, .goto 12, 3), (16, .aload_n 0, 1), (17, .getfield 7, 3), (20, .bipush 30, 2), (22, .iload_n 1, 1), (23, .i2l, 1), (24, .lastore, 1), (25, .return_, 1)]
theorem dk_X10_goesTo : ∀ q ∈ il_X10_goesTo, decode cX10_goesTo q.1 = .ok (q.2.1, q.2.2) := by decide +kernel
def il_X10_calls : List (Nat × Instr × Nat) := [(0, .iload_n 1, 1), (1, .aload_n 0, 1), (2, .getfield 207, 3), (5, .if_icmp .lt 11, 3), (8, .aload_n 0, 1), (9, .iconst 3, 1), (10, .invokevirtual 219, 3), (13, .goto 68, 3), (16, .aload_n 0, 1), (17, .getfield 7, 3), (20, .bipush 32, 2), (22, .laload, 1), (23, .ldc2_w 235, 3), (26, .lcmp, 1), (27, .ifCond .ne 11, 3), (30, .aload_n 0, 1), (31, .iconst 5, 1), (32, .invokevirtual 219, 3), (35, .goto 46, 3), (38, .aload_n 0, 1), (39, .getfield 7, 3), (42, .bipush 33, 2), (44, .aload_n 0, 1), (45, .bipush 32, 2), (47, .invokevirtual 97, 3), (50, .iadd, 1), (51, .aload_n 0, 1), (52, .getfield 7, 3), (55, .bipush 30, 2), (57, .laload, 1), (58, .lconst 1, 1), (59, .ladd, 1), (60, .lastore, 1), (61, .aload_n 0, 1), (62, .getfield 7, 3), (65, .bipush 32, 2), (67, .dup2, 1), (68, .laload, 1), (69, .lconst 1, 1), (70, .ladd, 1), (71, .lastore, 1), (72, .aload_n 0, 1), (73, .getfield 7, 3), (76, .bipush 30, 2), (78, .iload_n 1, 1), (79, .i2l, 1), (80, .lastore, 1), (81, .return_, 1)]
theorem dk_X10_calls : ∀ q ∈ il_X10_calls, decode cX10_calls q.1 = .ok (q.2.1, q.2.2) := by decide +kernel
def il_X10_comesBack : List (Nat × Instr × Nat) := [(0, .aload_n 0, 1), (1, .getfield 7, 3), (4, .bipush 32, 2), (6, .laload, 1), (7, .lconst 0, 1), (8, .lcmp, 1), (9, .ifCond .ne 16, 3), (12, .aload_n 0, 1), (13, .getfield 7, 3), (16, .bipush 28, 2), (18, .ldc2_w 168, 3), (21, .lastore, 1), (22, .goto 35, 3), (25, .aload_n 0, 1), (26, .getfield 7, 3), (29, .bipush 32, 2), (31, .dup2, 1), (32, .laload, 1), (33, .lconst 1, 1), (34, .lsub, 1), (35, .lastore, 1), (36, .aload_n 0, 1), (37, .getfield 7, 3), (40, .bipush 30, 2), (42, .aload_n 0, 1), (43, .getfield 7, 3), (46, .bipush 33, 2), (48, .aload_n 0, 1), (49, .bipush 32, 2), (51, .invokevirtual 97, 3), (54, .iadd, 1), (55, .laload, 1), (56, .lastore, 1), (57, .return_, 1)]
theorem dk_X10_comesBack : ∀ q ∈ il_X10_comesBack, decode cX10_comesBack q.1 = .ok (q.2.1, q.2.2) := by decide +kernel
def il_X10_doesLine : List (Nat × Instr × Nat) := [(0, .aload_n 0, 1), (1, .bipush 30, 2), (3, .invokevirtual 97, 3), (6, .istore_n 1, 1), (7, .aload_n 0, 1), (8, .getfield 53, 3), (11, .iload_n 1, 1), (12, .iaload, 1), (13, .istore_n 2, 1), (14, .aload_n 0, 1), (15, .getfield 56, 3), (18, .iload_n 1, 1), (19, .iaload, 1), (20, .istore_n 3, 1), (21, .aload_n 0, 1), (22, .getfield 7, 3), (25, .bipush 45, 2), (27, .dup2, 1), (28, .laload, 1), (29, .lconst 1, 1), (30, .ladd, 1), (31, .lastore, 1), (32, .aload_n 0, 1), (33, .getfield 50, 3), (36, .iload_n 1, 1), (37, .iaload, 1), (38, .tableswitch 306 0 10 #[58, 67, 116, 141, 175, 183, 191, 198, 235, 270, 293], 58), (96, .aload_n 0, 1), (97, .iload_n 2, 1), (98, .iload_n 3, 1), (99, .invokevirtual 237, 3), (102, .goto 262, 3), (105, .aload_n 0, 1), (106, .getfield 7, 3), (109, .bipush 46, 2), (111, .iload_n 2, 1), (112, .ifCond .le 9, 3), (115, .ldc2_w 168, 3), (118, .goto 4, 3), (121, .lconst 0, 1), (122, .lastore, 1), (123, .aload_n 0, 1), (124, .getfield 7, 3), (127, .bipush 47, 2), (129, .iload_n 2, 1), (130, .i2l, 1), (131, .lastore, 1), (132, .aload_n 0, 1), (133, .getfield 7, 3), (136, .bipush 30, 2), (138, .dup2, 1), (139, .laload, 1), (140, .iload_n 2, 1), (141, .ifCond .le 7, 3), (144, .lconst 0, 1), (145, .goto 4, 3), (148, .lconst 1, 1), (149, .ladd, 1), (150, .lastore, 1), (151, .goto 213, 3), (154, .aload_n 0, 1), (155, .getfield 7, 3), (158, .bipush 12, 2), (160, .iload_n 2, 1), (161, .iadd, 1), (162, .iload_n 3, 1), (163, .i2l, 1), (164, .lastore, 1), (165, .aload_n 0, 1), (166, .getfield 7, 3), (169, .bipush 30, 2), (171, .dup2, 1), (172, .laload, 1), (173, .lconst 1, 1), (174, .ladd, 1), (175, .lastore, 1), (176, .goto 188, 3), (179, .aload_n 0, 1), (180, .getfield 7, 3), (183, .bipush 30, 2), (185, .dup2, 1), (186, .laload, 1), (187, .aload_n 0, 1), (188, .getfield 7, 3), (191, .iconst 4, 1), (192, .iload_n 2, 1), (193, .iadd, 1), (194, .laload, 1), (195, .iload_n 3, 1), (196, .i2l, 1), (197, .lcmp, 1), (198, .ifCond .ne 9, 3), (201, .ldc2_w 168, 3), (204, .goto 4, 3), (207, .lconst 1, 1), (208, .ladd, 1), (209, .lastore, 1), (210, .goto 154, 3), (213, .aload_n 0, 1), (214, .iload_n 2, 1), (215, .invokevirtual 240, 3), (218, .goto 146, 3), (221, .aload_n 0, 1), (222, .iload_n 2, 1), (223, .invokevirtual 243, 3), (226, .goto 138, 3), (229, .aload_n 0, 1), (230, .invokevirtual 246, 3), (233, .goto 131, 3), (236, .aload_n 0, 1), (237, .getfield 7, 3), (240, .bipush 20, 2), (242, .iload_n 2, 1), (243, .iadd, 1), (244, .aload_n 0, 1), (245, .getfield 7, 3), (248, .bipush 20, 2), (250, .iload_n 2, 1), (251, .iadd, 1), (252, .laload, 1), (253, .iload_n 3, 1), (254, .i2l, 1), (255, .ladd, 1), (256, .l2i, 1), (257, .i2l, 1), (258, .lastore, 1), (259, .aload_n 0, 1), (260, .getfield 7, 3), (263, .bipush 30, 2), (265, .dup2, 1), (266, .laload, 1), (267, .lconst 1, 1), (268, .ladd, 1), (269, .lastore, 1), (270, .goto 94, 3), (273, .aload_n 0, 1), (274, .getfield 7, 3), (277, .bipush 30, 2), (279, .dup2, 1), (280, .laload, 1), (281, .aload_n 0, 1), (282, .getfield 7, 3), (285, .bipush 20, 2), (287, .iload_n 2, 1), (288, .iadd, 1), (289, .laload, 1), (290, .iload_n 3, 1), (291, .i2l, 1), (292, .lcmp, 1), (293, .ifCond .ge 9, 3), (296, .ldc2_w 168, 3), (299, .goto 4, 3), (302, .lconst 1, 1), (303, .ladd, 1), (304, .lastore, 1), (305, .goto 59, 3), (308, .aload_n 0, 1), (309, .getfield 7, 3), (312, .bipush 49, 2), (314, .iload_n 2, 1), (315, .i2l, 1), (316, .lastore, 1), (317, .aload_n 0, 1), (318, .getfield 7, 3), (321, .bipush 30, 2), (323, .dup2, 1), (324, .laload, 1), (325, .lconst 1, 1), (326, .ladd, 1), (327, .lastore, 1), (328, .goto 36, 3), (331, .aload_n 0, 1), (332, .getfield 7, 3), (335, .bipush 28, 2), (337, .ldc2_w 168, 3), (340, .lastore, 1), (341, .goto 23, 3), (344, .aload_n 0, 1), (345, .getfield 7, 3), (348, .bipush 48, 2), (350, .iload_n 2, 1), (351, .i2l, 1), (352, .lastore, 1), (353, .aload_n 0, 1), (354, .getfield 7, 3), (357, .bipush 30, 2), (359, .dup2, 1), (360, .laload, 1), (361, .lconst 1, 1), (362, .ladd, 1), (363, .lastore, 1), (364, .return_, 1)]
theorem dk_X10_doesLine : ∀ q ∈ il_X10_doesLine, decode cX10_doesLine q.1 = .ok (q.2.1, q.2.2) := by decide +kernel
def il_X10_ticks : List (Nat × Instr × Nat) := [(0, .aload_n 0, 1), (1, .getfield 7, 3), (4, .bipush 29, 2), (6, .dup2, 1), (7, .laload, 1), (8, .lconst 1, 1), (9, .ladd, 1), (10, .lastore, 1), (11, .iconst 0, 1), (12, .istore_n 1, 1), (13, .iload_n 1, 1), (14, .aload_n 0, 1), (15, .getfield 211, 3), (18, .if_icmp .ge 54, 3), (21, .aload_n 0, 1), (22, .getfield 59, 3), (25, .iload_n 1, 1), (26, .iaload, 1), (27, .i2l, 1), (28, .aload_n 0, 1), (29, .getfield 7, 3), (32, .bipush 29, 2), (34, .laload, 1), (35, .lcmp, 1), (36, .ifCond .ne 30, 3), (39, .aload_n 0, 1), (40, .getfield 7, 3), (43, .iconst 4, 1), (44, .aload_n 0, 1), (45, .getfield 62, 3), (48, .iload_n 1, 1), (49, .iaload, 1), (50, .iadd, 1), (51, .aload_n 0, 1), (52, .getfield 65, 3), (55, .iload_n 1, 1), (56, .baload, 1), (57, .ifCond .eq 7, 3), (60, .lconst 1, 1), (61, .goto 4, 3), (64, .lconst 0, 1), (65, .lastore, 1), (66, .iinc 1 1, 3), (69, .goto (-56), 3), (72, .aload_n 0, 1), (73, .getfield 7, 3), (76, .bipush 46, 2), (78, .laload, 1), (79, .lconst 0, 1), (80, .lcmp, 1), (81, .ifCond .eq 14, 3), (84, .aload_n 0, 1), (85, .invokevirtual 249, 3), (88, .ifCond .eq 7, 3), (91, .iconst 1, 1), (92, .goto 4, 3), (95, .iconst 0, 1), (96, .istore_n 1, 1), (97, .iconst 0, 1), (98, .istore_n 2, 1), (99, .iload_n 1, 1), (100, .ifCond .ne 172, 3), (103, .aload_n 0, 1), (104, .getfield 7, 3), (107, .bipush 30, 2), (109, .laload, 1), (110, .aload_n 0, 1), (111, .getfield 207, 3), (114, .i2l, 1), (115, .lcmp, 1), (116, .ifCond .lt 30, 3), (119, .aload_n 0, 1), (120, .getfield 7, 3), (123, .bipush 30, 2), (125, .aload_n 0, 1), (126, .getfield 207, 3), (129, .i2l, 1), (130, .lastore, 1), (131, .aload_n 0, 1), (132, .getfield 7, 3), (135, .bipush 28, 2), (137, .ldc2_w 168, 3), (140, .lastore, 1), (141, .iconst 1, 1), (142, .istore_n 1, 1), (143, .goto (-44), 3), (146, .iload_n 2, 1), (147, .bipush 100, 2), (149, .if_icmp .ne 13, 3), (152, .aload_n 0, 1), (153, .iconst 4, 1), (154, .invokevirtual 219, 3), (157, .iconst 1, 1), (158, .istore_n 1, 1), (159, .goto (-60), 3), (162, .aload_n 0, 1), (163, .getfield 7, 3), (166, .bipush 31, 2), (168, .laload, 1), (169, .lstore_n 3, 1), (170, .aload_n 0, 1), (171, .getfield 7, 3), (174, .bipush 31, 2), (176, .lconst 0, 1), (177, .lastore, 1), (178, .aload_n 0, 1), (179, .invokevirtual 252, 3), (182, .iinc 2 1, 3), (185, .aload_n 0, 1), (186, .getfield 7, 3), (189, .bipush 31, 2), (191, .laload, 1), (192, .lconst 0, 1), (193, .lcmp, 1), (194, .ifCond .eq 7, 3), (197, .iconst 1, 1), (198, .goto 4, 3), (201, .iconst 0, 1), (202, .istore 5, 2), (204, .aload_n 0, 1), (205, .getfield 7, 3), (208, .bipush 31, 2), (210, .iload 5, 2), (212, .ifCond .eq 13, 3), (215, .aload_n 0, 1), (216, .getfield 7, 3), (219, .bipush 31, 2), (221, .laload, 1), (222, .goto 4, 3), (225, .lload_n 3, 1), (226, .lastore, 1), (227, .iload 5, 2), (229, .ifCond .ne 34, 3), (232, .aload_n 0, 1), (233, .getfield 7, 3), (236, .bipush 28, 2), (238, .laload, 1), (239, .lconst 1, 1), (240, .lcmp, 1), (241, .ifCond .ne 22, 3), (244, .aload_n 0, 1), (245, .getfield 7, 3), (248, .bipush 46, 2), (250, .laload, 1), (251, .lconst 0, 1), (252, .lcmp, 1), (253, .ifCond .eq 14, 3), (256, .aload_n 0, 1), (257, .invokevirtual 249, 3), (260, .ifCond .eq 7, 3), (263, .iconst 1, 1), (264, .goto 4, 3), (267, .iconst 0, 1), (268, .istore_n 1, 1), (269, .goto (-170), 3), (272, .return_, 1)]
theorem dk_X10_ticks : ∀ q ∈ il_X10_ticks, decode cX10_ticks q.1 = .ok (q.2.1, q.2.2) := by decide +kernel
def il_X10_tick : List (Nat × Instr × Nat) := [(0, .iload_n 1, 1), (1, .iconst 1, 1), (2, .sipush 200, 3), (5, .invokestatic 82, 3), (8, .ifCond .ne 6, 3), (11, .bipush (-2), 2), (13, .ireturn, 1), (14, .iconst 0, 1), (15, .istore_n 2, 1), (16, .iload_n 2, 1), (17, .iload_n 1, 1), (18, .if_icmp .ge 20, 3), (21, .aload_n 0, 1), (22, .invokevirtual 91, 3), (25, .ifCond .eq 13, 3), (28, .aload_n 0, 1), (29, .invokevirtual 255, 3), (32, .iinc 2 1, 3), (35, .goto (-19), 3), (38, .aload_n 0, 1), (39, .bipush 28, 2), (41, .invokevirtual 97, 3), (44, .ireturn, 1)]
theorem dk_X10_tick : ∀ q ∈ il_X10_tick, decode cX10_tick q.1 = .ok (q.2.1, q.2.2) := by decide +kernel
def il_X10_stop : List (Nat × Instr × Nat) := [(0, .aload_n 0, 1), (1, .invokevirtual 91, 3), (4, .ifCond .ne 6, 3), (7, .bipush (-3), 2), (9, .ireturn, 1), (10, .aload_n 0, 1), (11, .getfield 7, 3), (14, .bipush 28, 2), (16, .ldc2_w 214, 3), (19, .lastore, 1), (20, .aload_n 0, 1), (21, .getfield 7, 3), (24, .bipush 31, 2), (26, .ldc2_w 258, 3), (29, .lastore, 1), (30, .aload_n 0, 1), (31, .getfield 7, 3), (34, .bipush 46, 2), (36, .lconst 0, 1), (37, .lastore, 1), (38, .aload_n 0, 1), (39, .getfield 7, 3), (42, .bipush 47, 2), (44, .lconst 0, 1), (45, .lastore, 1), (46, .iconst 1, 1), (47, .ireturn, 1)]
theorem dk_X10_stop : ∀ q ∈ il_X10_stop, decode cX10_stop q.1 = .ok (q.2.1, q.2.2) := by decide +kernel
def il_X10_aboutOf : List (Nat × Instr × Nat) := [(0, .iload_n 1, 1), (1, .tableswitch 114 0 7 #[47, 54, 61, 68, 75, 82, 89, 96], 47), (48, .aload_n 0, 1), (49, .bipush 28, 2), (51, .invokevirtual 97, 3), (54, .ireturn, 1), (55, .aload_n 0, 1), (56, .bipush 29, 2), (58, .invokevirtual 97, 3), (61, .ireturn, 1), (62, .aload_n 0, 1), (63, .bipush 30, 2), (65, .invokevirtual 97, 3), (68, .ireturn, 1), (69, .aload_n 0, 1), (70, .bipush 31, 2), (72, .invokevirtual 97, 3), (75, .ireturn, 1), (76, .aload_n 0, 1), (77, .bipush 32, 2), (79, .invokevirtual 97, 3), (82, .ireturn, 1), (83, .aload_n 0, 1), (84, .bipush 45, 2), (86, .invokevirtual 97, 3), (89, .ireturn, 1), (90, .aload_n 0, 1), (91, .bipush 47, 2), (93, .invokevirtual 97, 3), (96, .ireturn, 1), (97, .aload_n 0, 1), (98, .getfield 7, 3), (101, .bipush 46, 2), (103, .laload, 1), (104, .lconst 1, 1), (105, .lcmp, 1), (106, .ifCond .ne 7, 3), (109, .iconst 1, 1), (110, .goto 4, 3), (113, .iconst 0, 1), (114, .ireturn, 1), (115, .aload_n 0, 1), (116, .bipush 48, 2), (118, .invokevirtual 97, 3), (121, .ireturn, 1)]
theorem dk_X10_aboutOf : ∀ q ∈ il_X10_aboutOf, decode cX10_aboutOf q.1 = .ok (q.2.1, q.2.2) := by decide +kernel
def il_X10_about : List (Nat × Instr × Nat) := [(0, .iload_n 1, 1), (1, .iconst 0, 1), (2, .bipush 8, 2), (4, .invokestatic 82, 3), (7, .ifCond .eq 11, 3), (10, .aload_n 0, 1), (11, .iload_n 1, 1), (12, .invokevirtual 260, 3), (15, .goto 5, 3), (18, .bipush (-2), 2), (20, .ireturn, 1)]
theorem dk_X10_about : ∀ q ∈ il_X10_about, decode cX10_about q.1 = .ok (q.2.1, q.2.2) := by decide +kernel
def il_X10_at : List (Nat × Instr × Nat) := [(0, .iload_n 1, 1), (1, .iconst 0, 1), (2, .iconst 2, 1), (3, .invokestatic 82, 3), (6, .ifCond .eq 13, 3), (9, .iload_n 2, 1), (10, .iconst 0, 1), (11, .bipush 7, 2), (13, .invokestatic 82, 3), (16, .ifCond .ne 8, 3), (19, .ldc 101, 2), (21, .goto 33, 3), (24, .aload_n 0, 1), (25, .iload_n 1, 1), (26, .ifCond .ne 10, 3), (29, .bipush 12, 2), (31, .iload_n 2, 1), (32, .iadd, 1), (33, .goto 18, 3), (36, .iload_n 1, 1), (37, .iconst 1, 1), (38, .if_icmp .ne 10, 3), (41, .bipush 20, 2), (43, .iload_n 2, 1), (44, .iadd, 1), (45, .goto 6, 3), (48, .iconst 4, 1), (49, .iload_n 2, 1), (50, .iadd, 1), (51, .invokevirtual 97, 3), (54, .ireturn, 1)]
theorem dk_X10_at : ∀ q ∈ il_X10_at, decode cX10_at q.1 = .ok (q.2.1, q.2.2) := by decide +kernel
def il_X10_travel : List (Nat × Instr × Nat) := [(0, .aload_n 0, 1), (1, .iload_n 1, 1), (2, .invokevirtual 86, 3), (5, .ifCond .eq 15, 3), (8, .aload_n 0, 1), (9, .getfield 7, 3), (12, .bipush 64, 2), (14, .iload_n 1, 1), (15, .iadd, 1), (16, .laload, 1), (17, .goto 6, 3), (20, .ldc2_w 80, 3), (23, .lreturn, 1)]
theorem dk_X10_travel : ∀ q ∈ il_X10_travel, decode cX10_travel q.1 = .ok (q.2.1, q.2.2) := by decide +kernel
def il_X10_copy : List (Nat × Instr × Nat) := [(0, .iconst 0, 1), (1, .istore_n 3, 1), (2, .iload_n 3, 1), (3, .bipush 68, 2), (5, .if_icmp .ge 31, 3), (8, .aload_n 0, 1), (9, .getfield 7, 3), (12, .bipush 68, 2), (14, .iload_n 1, 1), (15, .imul, 1), (16, .iload_n 3, 1), (17, .iadd, 1), (18, .aload_n 0, 1), (19, .getfield 7, 3), (22, .bipush 68, 2), (24, .iload_n 2, 1), (25, .imul, 1), (26, .iload_n 3, 1), (27, .iadd, 1), (28, .laload, 1), (29, .lastore, 1), (30, .iinc 3 1, 3), (33, .goto (-31), 3), (36, .return_, 1)]
theorem dk_X10_copy : ∀ q ∈ il_X10_copy, decode cX10_copy q.1 = .ok (q.2.1, q.2.2) := by decide +kernel
def il_X10_keep : List (Nat × Instr × Nat) := [(0, .iload_n 1, 1), (1, .iconst 0, 1), (2, .iconst 3, 1), (3, .invokestatic 82, 3), (6, .ifCond .ne 6, 3), (9, .bipush (-2), 2), (11, .ireturn, 1), (12, .aload_n 0, 1), (13, .iload_n 1, 1), (14, .iconst 1, 1), (15, .iadd, 1), (16, .iconst 0, 1), (17, .invokevirtual 263, 3), (20, .aload_n 0, 1), (21, .getfield 13, 3), (24, .iload_n 1, 1), (25, .iconst 1, 1), (26, .bastore, 1), (27, .iconst 1, 1), (28, .ireturn, 1)]
theorem dk_X10_keep : ∀ q ∈ il_X10_keep, decode cX10_keep q.1 = .ok (q.2.1, q.2.2) := by decide +kernel
def il_X10_against : List (Nat × Instr × Nat) := [(0, .aload_n 0, 1), (1, .getfield 13, 3), (4, .iload_n 1, 1), (5, .baload, 1), (6, .istore_n 2, 1), (7, .iconst 0, 1), (8, .istore_n 3, 1), (9, .iload_n 3, 1), (10, .iconst 4, 1), (11, .if_icmp .ge 53, 3), (14, .iload_n 2, 1), (15, .ifCond .eq 41, 3), (18, .aload_n 0, 1), (19, .getfield 7, 3), (22, .bipush 68, 2), (24, .iload_n 1, 1), (25, .iconst 1, 1), (26, .iadd, 1), (27, .imul, 1), (28, .iconst 0, 1), (29, .iadd, 1), (30, .iload_n 3, 1), (31, .iadd, 1), (32, .laload, 1), (33, .l2i, 1), (34, .aload_n 0, 1), (35, .getfield 25, 3), (38, .iload_n 3, 1), (39, .iaload, 1), (40, .aload_n 0, 1), (41, .getfield 29, 3), (44, .iload_n 3, 1), (45, .iaload, 1), (46, .invokestatic 82, 3), (49, .ifCond .eq 7, 3), (52, .iconst 1, 1), (53, .goto 4, 3), (56, .iconst 0, 1), (57, .istore_n 2, 1), (58, .iinc 3 1, 3), (61, .goto (-52), 3), (64, .iload_n 2, 1), (65, .ifCond .eq 7, 3), (68, .iconst 0, 1), (69, .goto 5, 3), (72, .bipush (-3), 2), (74, .ireturn, 1)]
theorem dk_X10_against : ∀ q ∈ il_X10_against, decode cX10_against q.1 = .ok (q.2.1, q.2.2) := by decide +kernel
def il_X10_back : List (Nat × Instr × Nat) := [(0, .iload_n 1, 1), (1, .iconst 0, 1), (2, .iconst 3, 1), (3, .invokestatic 82, 3), (6, .ifCond .ne 6, 3), (9, .bipush (-2), 2), (11, .ireturn, 1), (12, .aload_n 0, 1), (13, .iload_n 1, 1), (14, .invokevirtual 266, 3), (17, .ifCond .eq 6, 3), (20, .bipush (-3), 2), (22, .ireturn, 1), (23, .aload_n 0, 1), (24, .iconst 0, 1), (25, .iload_n 1, 1), (26, .iconst 1, 1), (27, .iadd, 1), (28, .invokevirtual 263, 3), (31, .iconst 1, 1), (32, .ireturn, 1)]
theorem dk_X10_back : ∀ q ∈ il_X10_back, decode cX10_back q.1 = .ok (q.2.1, q.2.2) := by decide +kernel
def il_X10_isAsSeen : List (Nat × Instr × Nat) := [(0, .iconst 1, 1), (1, .istore_n 2, 1), (2, .iconst 0, 1), (3, .istore_n 3, 1), (4, .iload_n 3, 1), (5, .bipush 20, 2), (7, .if_icmp .ge 56, 3), (10, .iload_n 2, 1), (11, .ifCond .eq 44, 3), (14, .aload_n 0, 1), (15, .getfield 77, 3), (18, .bipush 20, 2), (20, .iload_n 1, 1), (21, .imul, 1), (22, .iload_n 3, 1), (23, .iadd, 1), (24, .laload, 1), (25, .aload_n 0, 1), (26, .getfield 7, 3), (29, .iload_n 3, 1), (30, .iconst 4, 1), (31, .if_icmp .ge 9, 3), (34, .iconst 0, 1), (35, .iload_n 3, 1), (36, .iadd, 1), (37, .goto 9, 3), (40, .bipush 12, 2), (42, .iload_n 3, 1), (43, .iadd, 1), (44, .iconst 4, 1), (45, .isub, 1), (46, .laload, 1), (47, .lcmp, 1), (48, .ifCond .ne 7, 3), (51, .iconst 1, 1), (52, .goto 4, 3), (55, .iconst 0, 1), (56, .istore_n 2, 1), (57, .iinc 3 1, 3), (60, .goto (-56), 3), (63, .iload_n 2, 1), (64, .ireturn, 1)]
theorem dk_X10_isAsSeen : ∀ q ∈ il_X10_isAsSeen, decode cX10_isAsSeen q.1 = .ok (q.2.1, q.2.2) := by decide +kernel
def il_X10_sees : List (Nat × Instr × Nat) := [(0, .iconst 0, 1), (1, .istore_n 2, 1), (2, .iload_n 2, 1), (3, .bipush 20, 2), (5, .if_icmp .ge 42, 3), (8, .aload_n 0, 1), (9, .getfield 77, 3), (12, .bipush 20, 2), (14, .iload_n 1, 1), (15, .imul, 1), (16, .iload_n 2, 1), (17, .iadd, 1), (18, .aload_n 0, 1), (19, .getfield 7, 3), (22, .iload_n 2, 1), (23, .iconst 4, 1), (24, .if_icmp .ge 9, 3), (27, .iconst 0, 1), (28, .iload_n 2, 1), (29, .iadd, 1), (30, .goto 9, 3), (33, .bipush 12, 2), (35, .iload_n 2, 1), (36, .iadd, 1), (37, .iconst 4, 1), (38, .isub, 1), (39, .laload, 1), (40, .lastore, 1), (41, .iinc 2 1, 3), (44, .goto (-42), 3), (47, .return_, 1)]
theorem dk_X10_sees : ∀ q ∈ il_X10_sees, decode cX10_sees q.1 = .ok (q.2.1, q.2.2) := by decide +kernel
def il_X10_goesIfGoing : List (Nat × Instr × Nat) := [(0, .aload_n 0, 1), (1, .invokevirtual 91, 3), (4, .ifCond .eq 7, 3), (7, .aload_n 0, 1), (8, .invokevirtual 255, 3), (11, .return_, 1)]
theorem dk_X10_goesIfGoing : ∀ q ∈ il_X10_goesIfGoing, decode cX10_goesIfGoing q.1 = .ok (q.2.1, q.2.2) := by decide +kernel
def il_X10_replay : List (Nat × Instr × Nat) := [(0, .iload_n 1, 1), (1, .iconst 0, 1), (2, .iconst 3, 1), (3, .invokestatic 82, 3), (6, .ifCond .eq 13, 3), (9, .iload_n 2, 1), (10, .iconst 1, 1), (11, .bipush 100, 2), (13, .invokestatic 82, 3), (16, .ifCond .ne 6, 3), (19, .bipush (-2), 2), (21, .ireturn, 1), (22, .aload_n 0, 1), (23, .iload_n 1, 1), (24, .invokevirtual 266, 3), (27, .ifCond .eq 6, 3), (30, .bipush (-3), 2), (32, .ireturn, 1), (33, .aload_n 0, 1), (34, .iconst 5, 1), (35, .iconst 0, 1), (36, .invokevirtual 263, 3), (39, .aload_n 0, 1), (40, .iconst 0, 1), (41, .iload_n 1, 1), (42, .iconst 1, 1), (43, .iadd, 1), (44, .invokevirtual 263, 3), (47, .aload_n 0, 1), (48, .iconst 0, 1), (49, .invokevirtual 269, 3), (52, .iconst 1, 1), (53, .istore_n 3, 1), (54, .iload_n 3, 1), (55, .iload_n 2, 1), (56, .if_icmp .gt 18, 3), (59, .aload_n 0, 1), (60, .invokevirtual 272, 3), (63, .aload_n 0, 1), (64, .iload_n 3, 1), (65, .invokevirtual 269, 3), (68, .iinc 3 1, 3), (71, .goto (-17), 3), (74, .aload_n 0, 1), (75, .iconst 0, 1), (76, .iconst 5, 1), (77, .invokevirtual 263, 3), (80, .aload_n 0, 1), (81, .iconst 0, 1), (82, .invokevirtual 275, 3), (85, .ifCond .eq 7, 3), (88, .iconst (-1), 1), (89, .goto 4, 3), (92, .iconst 0, 1), (93, .istore_n 3, 1), (94, .iconst 1, 1), (95, .istore 4, 2), (97, .iload 4, 2), (99, .iload_n 2, 1), (100, .if_icmp .gt 34, 3), (103, .iload_n 3, 1), (104, .iconst (-1), 1), (105, .if_icmp .ne 29, 3), (108, .aload_n 0, 1), (109, .invokevirtual 272, 3), (112, .aload_n 0, 1), (113, .iload 4, 2), (115, .invokevirtual 275, 3), (118, .ifCond .eq 7, 3), (121, .iconst (-1), 1), (122, .goto 5, 3), (125, .iload 4, 2), (127, .istore_n 3, 1), (128, .iinc 4 1, 3), (131, .goto (-34), 3), (134, .aload_n 0, 1), (135, .iconst 0, 1), (136, .iconst 5, 1), (137, .invokevirtual 263, 3), (140, .iload_n 3, 1), (141, .ireturn, 1)]
theorem dk_X10_replay : ∀ q ∈ il_X10_replay, decode cX10_replay q.1 = .ok (q.2.1, q.2.2) := by decide +kernel
def il_X10_count : List (Nat × Instr × Nat) := [(0, .iconst 0, 1), (1, .istore_n 2, 1), (2, .iload_n 1, 1), (3, .tableswitch 104 0 3 #[29, 34, 39, 71], 29), (32, .aload_n 0, 1), (33, .getfield 207, 3), (36, .ireturn, 1), (37, .aload_n 0, 1), (38, .getfield 211, 3), (41, .ireturn, 1), (42, .iconst 0, 1), (43, .istore_n 3, 1), (44, .iload_n 3, 1), (45, .iconst 4, 1), (46, .if_icmp .ge 26, 3), (49, .iload_n 2, 1), (50, .aload_n 0, 1), (51, .getfield 38, 3), (54, .iload_n 3, 1), (55, .baload, 1), (56, .ifCond .eq 7, 3), (59, .iconst 1, 1), (60, .goto 4, 3), (63, .iconst 0, 1), (64, .iadd, 1), (65, .istore_n 2, 1), (66, .iinc 3 1, 3), (69, .goto (-25), 3), (72, .iload_n 2, 1), (73, .ireturn, 1), (74, .iconst 0, 1), (75, .istore_n 3, 1), (76, .iload_n 3, 1), (77, .bipush 16, 2), (79, .if_icmp .ge 26, 3), (82, .iload_n 2, 1), (83, .aload_n 0, 1), (84, .getfield 44, 3), (87, .iload_n 3, 1), (88, .baload, 1), (89, .ifCond .eq 7, 3), (92, .iconst 1, 1), (93, .goto 4, 3), (96, .iconst 0, 1), (97, .iadd, 1), (98, .istore_n 2, 1), (99, .iinc 3 1, 3), (102, .goto (-26), 3), (105, .iload_n 2, 1), (106, .ireturn, 1), (107, .bipush (-2), 2), (109, .ireturn, 1)]
theorem dk_X10_count : ∀ q ∈ il_X10_count, decode cX10_count q.1 = .ok (q.2.1, q.2.2) := by decide +kernel
def il_X10_digest : List (Nat × Instr × Nat) := [(0, .ldc2_w 278, 3), (3, .lstore_n 1, 1), (4, .iconst 0, 1), (5, .istore_n 3, 1), (6, .iload_n 3, 1), (7, .iconst 4, 1), (8, .if_icmp .ge 22, 3), (11, .ldc2_w 280, 3), (14, .lload_n 1, 1), (15, .lmul, 1), (16, .aload_n 0, 1), (17, .iload_n 3, 1), (18, .invokevirtual 282, 3), (21, .i2l, 1), (22, .ladd, 1), (23, .lstore_n 1, 1), (24, .iinc 3 1, 3), (27, .goto (-21), 3), (30, .iconst 0, 1), (31, .istore_n 3, 1), (32, .iload_n 3, 1), (33, .iconst 4, 1), (34, .if_icmp .ge 24, 3), (37, .ldc2_w 280, 3), (40, .lload_n 1, 1), (41, .lmul, 1), (42, .aload_n 0, 1), (43, .getfield 7, 3), (46, .iconst 0, 1), (47, .iload_n 3, 1), (48, .iadd, 1), (49, .laload, 1), (50, .ladd, 1), (51, .lstore_n 1, 1), (52, .iinc 3 1, 3), (55, .goto (-23), 3), (58, .ldc2_w 280, 3), (61, .ldc2_w 280, 3), (64, .lload_n 1, 1), (65, .lmul, 1), (66, .aload_n 0, 1), (67, .iconst 0, 1), (68, .invokevirtual 285, 3), (71, .ladd, 1), (72, .lmul, 1), (73, .aload_n 0, 1), (74, .iconst 1, 1), (75, .invokevirtual 285, 3), (78, .ladd, 1), (79, .lstore_n 1, 1), (80, .iconst 0, 1), (81, .istore_n 3, 1), (82, .iload_n 3, 1), (83, .bipush 9, 2), (85, .if_icmp .ge 22, 3), (88, .ldc2_w 280, 3), (91, .lload_n 1, 1), (92, .lmul, 1), (93, .aload_n 0, 1), (94, .iload_n 3, 1), (95, .invokevirtual 260, 3), (98, .i2l, 1), (99, .ladd, 1), (100, .lstore_n 1, 1), (101, .iinc 3 1, 3), (104, .goto (-22), 3), (107, .iconst 0, 1), (108, .istore_n 3, 1), (109, .iload_n 3, 1), (110, .iconst 3, 1), (111, .if_icmp .ge 40, 3), (114, .iconst 0, 1), (115, .istore 4, 2), (117, .iload 4, 2), (119, .bipush 8, 2), (121, .if_icmp .ge 24, 3), (124, .ldc2_w 280, 3), (127, .lload_n 1, 1), (128, .lmul, 1), (129, .aload_n 0, 1), (130, .iload_n 3, 1), (131, .iload 4, 2), (133, .invokevirtual 289, 3), (136, .i2l, 1), (137, .ladd, 1), (138, .lstore_n 1, 1), (139, .iinc 4 1, 3), (142, .goto (-25), 3), (145, .iinc 3 1, 3), (148, .goto (-39), 3), (151, .iconst 0, 1), (152, .istore_n 3, 1), (153, .iload_n 3, 1), (154, .iconst 4, 1), (155, .if_icmp .ge 25, 3), (158, .ldc2_w 280, 3), (161, .lload_n 1, 1), (162, .lmul, 1), (163, .aload_n 0, 1), (164, .getfield 7, 3), (167, .bipush 64, 2), (169, .iload_n 3, 1), (170, .iadd, 1), (171, .laload, 1), (172, .ladd, 1), (173, .lstore_n 1, 1), (174, .iinc 3 1, 3), (177, .goto (-24), 3), (180, .lload_n 1, 1), (181, .lreturn, 1)]
theorem dk_X10_digest : ∀ q ∈ il_X10_digest, decode cX10_digest q.1 = .ok (q.2.1, q.2.2) := by decide +kernel
end
section
/-! the words of the tables that keep, the classes, what a field, a call needs of them -/
def lw_ok : List Cond := lw_tbl.filter goodWord
theorem lw_in {w : Cond} (h : w ∈ lw_tbl) (g : goodWord w = true) : w ∈ lw_ok := List.mem_filter.mpr ⟨h, g⟩
def cN : Nat → Nat := fun ci => match ci with | 0 => 5 | 1 => 7 | 2 => 6 | 3 => 18 | 4 => 6 | 5 => 2 | 6 => 4 | 7 => 4 | 8 => 2 | 9 => 8 | _ => 30
def cT : Nat → Nat → FieldType := fun ci => match ci with | 0 => tyX0 | 1 => tyX1 | 2 => tyX2 | 3 => tyX3 | 4 => tyX4 | 5 => tyX5 | 6 => tyX6 | 7 => tyX7 | 8 => tyX8 | 9 => tyX9 | _ => tyX10
def Cls (ci : Nat) (C : String) (T : u_T) : Prop := vwCl[ci]? = some (C, T, cN ci) ∧ (∀ w ∈ u_ws C T (cN ci), w ∈ lw_ok) ∧ (∀ k, k < cN ci → parseFieldDescriptor (T k).2.2.1 = some (cT ci k)) ∧ (∀ a, a < cN ci → ∀ b, b < cN ci → a ≠ b → (T a).2.1 ≠ (T b).2.1)
theorem cls0 : Cls 0 RX0 TX0 := ⟨rfl, fun w h => lw_in ((show ∀ w ∈ u_ws RX0 TX0 (cN 0), w ∈ lw_tbl by decide +kernel) w h) ((show ∀ w ∈ u_ws RX0 TX0 (cN 0), goodWord w = true by decide +kernel) w h), tyX0_ok, nmX0⟩
theorem cls1 : Cls 1 RX1 TX1 := ⟨rfl, fun w h => lw_in ((show ∀ w ∈ u_ws RX1 TX1 (cN 1), w ∈ lw_tbl by decide +kernel) w h) ((show ∀ w ∈ u_ws RX1 TX1 (cN 1), goodWord w = true by decide +kernel) w h), tyX1_ok, nmX1⟩
theorem cls2 : Cls 2 RX2 TX2 := ⟨rfl, fun w h => lw_in ((show ∀ w ∈ u_ws RX2 TX2 (cN 2), w ∈ lw_tbl by decide +kernel) w h) ((show ∀ w ∈ u_ws RX2 TX2 (cN 2), goodWord w = true by decide +kernel) w h), tyX2_ok, nmX2⟩
theorem cls3 : Cls 3 RX3 TX3 := ⟨rfl, fun w h => lw_in ((show ∀ w ∈ u_ws RX3 TX3 (cN 3), w ∈ lw_tbl by decide +kernel) w h) ((show ∀ w ∈ u_ws RX3 TX3 (cN 3), goodWord w = true by decide +kernel) w h), tyX3_ok, nmX3⟩
theorem cls4 : Cls 4 RX4 TX4 := ⟨rfl, fun w h => lw_in ((show ∀ w ∈ u_ws RX4 TX4 (cN 4), w ∈ lw_tbl by decide +kernel) w h) ((show ∀ w ∈ u_ws RX4 TX4 (cN 4), goodWord w = true by decide +kernel) w h), tyX4_ok, nmX4⟩
theorem cls5 : Cls 5 RX5 TX5 := ⟨rfl, fun w h => lw_in ((show ∀ w ∈ u_ws RX5 TX5 (cN 5), w ∈ lw_tbl by decide +kernel) w h) ((show ∀ w ∈ u_ws RX5 TX5 (cN 5), goodWord w = true by decide +kernel) w h), tyX5_ok, nmX5⟩
theorem cls6 : Cls 6 RX6 TX6 := ⟨rfl, fun w h => lw_in ((show ∀ w ∈ u_ws RX6 TX6 (cN 6), w ∈ lw_tbl by decide +kernel) w h) ((show ∀ w ∈ u_ws RX6 TX6 (cN 6), goodWord w = true by decide +kernel) w h), tyX6_ok, nmX6⟩
theorem cls7 : Cls 7 RX7 TX7 := ⟨rfl, fun w h => lw_in ((show ∀ w ∈ u_ws RX7 TX7 (cN 7), w ∈ lw_tbl by decide +kernel) w h) ((show ∀ w ∈ u_ws RX7 TX7 (cN 7), goodWord w = true by decide +kernel) w h), tyX7_ok, nmX7⟩
theorem cls8 : Cls 8 RX8 TX8 := ⟨rfl, fun w h => lw_in ((show ∀ w ∈ u_ws RX8 TX8 (cN 8), w ∈ lw_tbl by decide +kernel) w h) ((show ∀ w ∈ u_ws RX8 TX8 (cN 8), goodWord w = true by decide +kernel) w h), tyX8_ok, nmX8⟩
theorem cls9 : Cls 9 RX9 TX9 := ⟨rfl, fun w h => lw_in ((show ∀ w ∈ u_ws RX9 TX9 (cN 9), w ∈ lw_tbl by decide +kernel) w h) ((show ∀ w ∈ u_ws RX9 TX9 (cN 9), goodWord w = true by decide +kernel) w h), tyX9_ok, nmX9⟩
theorem cls10 : Cls 10 RX10 TX10 := ⟨rfl, fun w h => lw_in ((show ∀ w ∈ u_ws RX10 TX10 (cN 10), w ∈ lw_tbl by decide +kernel) w h) ((show ∀ w ∈ u_ws RX10 TX10 (cN 10), goodWord w = true by decide +kernel) w h), tyX10_ok, nmX10⟩
def FL (own : String) (index ci k : Nat) : Prop := ∃ (C : String) (T : u_T), Cls ci C T ∧ k < cN ci ∧ Cond.fieldLink own index (T k).1 (T k).2.1 (T k).2.2.1 ∈ lw_ok
def MV (own : String) (index : Nat) (C : String) (y : MethodName) (cc : ByteArray) (maxL : Nat) (ret : Option FieldType) (n : Nat) : Prop := Cond.code y cc maxL ret ∈ lw_ok ∧ Cond.methodLink own index y ∈ lw_ok ∧ Cond.instanceMethod y ∈ lw_ok ∧ Cond.selects C y y ∈ lw_ok ∧ Cond.initialized C ∈ lw_ok ∧ y.cls = C ∧ y.cls ≠ "java/lang/invoke/MethodHandle" ∧ y.cls ≠ "java/lang/invoke/VarHandle" ∧ (parseMethodDescriptor y.desc).map (fun d => d.parameters.length) = some n
def MS (own : String) (index : Nat) (y : MethodName) (cc : ByteArray) (maxL : Nat) (ret : Option FieldType) (n : Nat) : Prop := Cond.code y cc maxL ret ∈ lw_ok ∧ Cond.methodLink own index y ∈ lw_ok ∧ Cond.static y ∈ lw_ok ∧ Cond.initialized y.cls ∈ lw_ok ∧ y.cls ≠ "java/lang/invoke/MethodHandle" ∧ y.cls ≠ "java/lang/invoke/VarHandle" ∧ (parseMethodDescriptor y.desc).map (fun d => d.parameters.length) = some n
def MI (own : String) (index : Nat) (y : MethodName) (cc : ByteArray) (maxL : Nat) (n : Nat) : Prop := Cond.code y cc maxL none ∈ lw_ok ∧ Cond.methodLink own index y ∈ lw_ok ∧ Cond.instanceMethod y ∈ lw_ok ∧ Cond.initialized y.cls ∈ lw_ok ∧ y.name = "<init>" ∧ y.cls ≠ "java/lang/invoke/MethodHandle" ∧ y.cls ≠ "java/lang/invoke/VarHandle" ∧ (parseMethodDescriptor y.desc).map (fun d => d.parameters.length) = some n
end
section
theorem fl_X6_9 : FL RX6 9 6 0 := ⟨_, _, cls6, by decide, lw_in (List.mem_of_getElem? (i := 78) (by decide +kernel)) rfl⟩
theorem fl_X1_103 : FL RX1 103 6 0 := ⟨_, _, cls6, by decide, lw_in (List.mem_of_getElem? (i := 79) (by decide +kernel)) rfl⟩
theorem fl_X6_15 : FL RX6 15 6 1 := ⟨_, _, cls6, by decide, lw_in (List.mem_of_getElem? (i := 80) (by decide +kernel)) rfl⟩
theorem fl_X1_106 : FL RX1 106 6 1 := ⟨_, _, cls6, by decide, lw_in (List.mem_of_getElem? (i := 81) (by decide +kernel)) rfl⟩
theorem fl_X6_18 : FL RX6 18 6 2 := ⟨_, _, cls6, by decide, lw_in (List.mem_of_getElem? (i := 82) (by decide +kernel)) rfl⟩
theorem fl_X1_109 : FL RX1 109 6 2 := ⟨_, _, cls6, by decide, lw_in (List.mem_of_getElem? (i := 83) (by decide +kernel)) rfl⟩
theorem fl_X6_21 : FL RX6 21 6 3 := ⟨_, _, cls6, by decide, lw_in (List.mem_of_getElem? (i := 84) (by decide +kernel)) rfl⟩
theorem fl_X1_92 : FL RX1 92 6 3 := ⟨_, _, cls6, by decide, lw_in (List.mem_of_getElem? (i := 85) (by decide +kernel)) rfl⟩
theorem fl_X9_182 : FL RX9 182 6 3 := ⟨_, _, cls6, by decide, lw_in (List.mem_of_getElem? (i := 86) (by decide +kernel)) rfl⟩
theorem fl_X7_9 : FL RX7 9 7 0 := ⟨_, _, cls7, by decide, lw_in (List.mem_of_getElem? (i := 103) (by decide +kernel)) rfl⟩
theorem fl_X7_15 : FL RX7 15 7 1 := ⟨_, _, cls7, by decide, lw_in (List.mem_of_getElem? (i := 104) (by decide +kernel)) rfl⟩
theorem fl_X7_18 : FL RX7 18 7 2 := ⟨_, _, cls7, by decide, lw_in (List.mem_of_getElem? (i := 105) (by decide +kernel)) rfl⟩
theorem fl_X7_22 : FL RX7 22 7 3 := ⟨_, _, cls7, by decide, lw_in (List.mem_of_getElem? (i := 106) (by decide +kernel)) rfl⟩
theorem fl_X9_198 : FL RX9 198 7 3 := ⟨_, _, cls7, by decide, lw_in (List.mem_of_getElem? (i := 107) (by decide +kernel)) rfl⟩
theorem fl_X8_9 : FL RX8 9 8 0 := ⟨_, _, cls8, by decide, lw_in (List.mem_of_getElem? (i := 124) (by decide +kernel)) rfl⟩
theorem fl_X9_105 : FL RX9 105 8 0 := ⟨_, _, cls8, by decide, lw_in (List.mem_of_getElem? (i := 125) (by decide +kernel)) rfl⟩
theorem fl_X8_15 : FL RX8 15 8 1 := ⟨_, _, cls8, by decide, lw_in (List.mem_of_getElem? (i := 126) (by decide +kernel)) rfl⟩
theorem fl_X9_109 : FL RX9 109 8 1 := ⟨_, _, cls8, by decide, lw_in (List.mem_of_getElem? (i := 127) (by decide +kernel)) rfl⟩
theorem k_X2_16 : Cond.constant RX2 16 (-500000 : Int32) ∈ lw_ok := lw_in (List.mem_of_getElem? (i := 138) (by decide +kernel)) rfl
theorem k_X2_20 : Cond.constant RX2 20 (500000 : Int32) ∈ lw_ok := lw_in (List.mem_of_getElem? (i := 139) (by decide +kernel)) rfl
theorem fl_X2_7 : FL RX2 7 2 0 := ⟨_, _, cls2, by decide, lw_in (List.mem_of_getElem? (i := 140) (by decide +kernel)) rfl⟩
theorem fl_X8_24 : FL RX8 24 2 0 := ⟨_, _, cls2, by decide, lw_in (List.mem_of_getElem? (i := 141) (by decide +kernel)) rfl⟩
theorem fl_X9_68 : FL RX9 68 2 0 := ⟨_, _, cls2, by decide, lw_in (List.mem_of_getElem? (i := 142) (by decide +kernel)) rfl⟩
theorem fl_X2_13 : FL RX2 13 2 1 := ⟨_, _, cls2, by decide, lw_in (List.mem_of_getElem? (i := 143) (by decide +kernel)) rfl⟩
theorem fl_X8_18 : FL RX8 18 2 1 := ⟨_, _, cls2, by decide, lw_in (List.mem_of_getElem? (i := 144) (by decide +kernel)) rfl⟩
theorem fl_X9_74 : FL RX9 74 2 1 := ⟨_, _, cls2, by decide, lw_in (List.mem_of_getElem? (i := 145) (by decide +kernel)) rfl⟩
theorem fl_X2_17 : FL RX2 17 2 2 := ⟨_, _, cls2, by decide, lw_in (List.mem_of_getElem? (i := 146) (by decide +kernel)) rfl⟩
theorem fl_X9_89 : FL RX9 89 2 2 := ⟨_, _, cls2, by decide, lw_in (List.mem_of_getElem? (i := 147) (by decide +kernel)) rfl⟩
theorem fl_X2_21 : FL RX2 21 2 3 := ⟨_, _, cls2, by decide, lw_in (List.mem_of_getElem? (i := 148) (by decide +kernel)) rfl⟩
theorem fl_X9_92 : FL RX9 92 2 3 := ⟨_, _, cls2, by decide, lw_in (List.mem_of_getElem? (i := 149) (by decide +kernel)) rfl⟩
theorem fl_X2_24 : FL RX2 24 2 4 := ⟨_, _, cls2, by decide, lw_in (List.mem_of_getElem? (i := 150) (by decide +kernel)) rfl⟩
theorem fl_X4_37 : FL RX4 37 2 4 := ⟨_, _, cls2, by decide, lw_in (List.mem_of_getElem? (i := 151) (by decide +kernel)) rfl⟩
theorem fl_X9_77 : FL RX9 77 2 4 := ⟨_, _, cls2, by decide, lw_in (List.mem_of_getElem? (i := 152) (by decide +kernel)) rfl⟩
theorem fl_X2_27 : FL RX2 27 2 5 := ⟨_, _, cls2, by decide, lw_in (List.mem_of_getElem? (i := 153) (by decide +kernel)) rfl⟩
theorem fl_X4_44 : FL RX4 44 2 5 := ⟨_, _, cls2, by decide, lw_in (List.mem_of_getElem? (i := 154) (by decide +kernel)) rfl⟩
theorem fl_X9_80 : FL RX9 80 2 5 := ⟨_, _, cls2, by decide, lw_in (List.mem_of_getElem? (i := 155) (by decide +kernel)) rfl⟩
theorem fl_X0_7 : FL RX0 7 0 0 := ⟨_, _, cls0, by decide, lw_in (List.mem_of_getElem? (i := 174) (by decide +kernel)) rfl⟩
theorem fl_X1_57 : FL RX1 57 0 0 := ⟨_, _, cls0, by decide, lw_in (List.mem_of_getElem? (i := 175) (by decide +kernel)) rfl⟩
theorem fl_X9_134 : FL RX9 134 0 0 := ⟨_, _, cls0, by decide, lw_in (List.mem_of_getElem? (i := 176) (by decide +kernel)) rfl⟩
theorem fl_X0_13 : FL RX0 13 0 1 := ⟨_, _, cls0, by decide, lw_in (List.mem_of_getElem? (i := 177) (by decide +kernel)) rfl⟩
theorem fl_X0_17 : FL RX0 17 0 2 := ⟨_, _, cls0, by decide, lw_in (List.mem_of_getElem? (i := 178) (by decide +kernel)) rfl⟩
theorem fl_X0_20 : FL RX0 20 0 3 := ⟨_, _, cls0, by decide, lw_in (List.mem_of_getElem? (i := 179) (by decide +kernel)) rfl⟩
theorem fl_X0_23 : FL RX0 23 0 4 := ⟨_, _, cls0, by decide, lw_in (List.mem_of_getElem? (i := 180) (by decide +kernel)) rfl⟩
theorem fl_X1_61 : FL RX1 61 5 0 := ⟨_, _, cls5, by decide, lw_in (List.mem_of_getElem? (i := 197) (by decide +kernel)) rfl⟩
theorem fl_X9_145 : FL RX9 145 5 0 := ⟨_, _, cls5, by decide, lw_in (List.mem_of_getElem? (i := 198) (by decide +kernel)) rfl⟩
theorem fl_X5_9 : FL RX5 9 5 1 := ⟨_, _, cls5, by decide, lw_in (List.mem_of_getElem? (i := 199) (by decide +kernel)) rfl⟩
theorem fl_X1_203 : FL RX1 203 5 1 := ⟨_, _, cls5, by decide, lw_in (List.mem_of_getElem? (i := 200) (by decide +kernel)) rfl⟩
theorem fl_X9_150 : FL RX9 150 5 1 := ⟨_, _, cls5, by decide, lw_in (List.mem_of_getElem? (i := 201) (by decide +kernel)) rfl⟩
theorem fl_X1_11 : FL RX1 11 1 0 := ⟨_, _, cls1, by decide, lw_in (List.mem_of_getElem? (i := 207) (by decide +kernel)) rfl⟩
theorem fl_X9_64 : FL RX9 64 1 0 := ⟨_, _, cls1, by decide, lw_in (List.mem_of_getElem? (i := 208) (by decide +kernel)) rfl⟩
theorem fl_X1_19 : FL RX1 19 1 1 := ⟨_, _, cls1, by decide, lw_in (List.mem_of_getElem? (i := 209) (by decide +kernel)) rfl⟩
theorem fl_X9_124 : FL RX9 124 1 1 := ⟨_, _, cls1, by decide, lw_in (List.mem_of_getElem? (i := 210) (by decide +kernel)) rfl⟩
theorem fl_X1_25 : FL RX1 25 1 2 := ⟨_, _, cls1, by decide, lw_in (List.mem_of_getElem? (i := 211) (by decide +kernel)) rfl⟩
theorem fl_X9_141 : FL RX9 141 1 2 := ⟨_, _, cls1, by decide, lw_in (List.mem_of_getElem? (i := 212) (by decide +kernel)) rfl⟩
theorem fl_X1_32 : FL RX1 32 1 3 := ⟨_, _, cls1, by decide, lw_in (List.mem_of_getElem? (i := 213) (by decide +kernel)) rfl⟩
theorem fl_X9_178 : FL RX9 178 1 3 := ⟨_, _, cls1, by decide, lw_in (List.mem_of_getElem? (i := 214) (by decide +kernel)) rfl⟩
theorem fl_X1_39 : FL RX1 39 1 4 := ⟨_, _, cls1, by decide, lw_in (List.mem_of_getElem? (i := 215) (by decide +kernel)) rfl⟩
theorem fl_X9_194 : FL RX9 194 1 4 := ⟨_, _, cls1, by decide, lw_in (List.mem_of_getElem? (i := 216) (by decide +kernel)) rfl⟩
theorem fl_X1_46 : FL RX1 46 1 5 := ⟨_, _, cls1, by decide, lw_in (List.mem_of_getElem? (i := 217) (by decide +kernel)) rfl⟩
theorem fl_X1_50 : FL RX1 50 1 6 := ⟨_, _, cls1, by decide, lw_in (List.mem_of_getElem? (i := 218) (by decide +kernel)) rfl⟩
theorem fl_X4_9 : FL RX4 9 4 0 := ⟨_, _, cls4, by decide, lw_in (List.mem_of_getElem? (i := 246) (by decide +kernel)) rfl⟩
theorem fl_X4_15 : FL RX4 15 4 1 := ⟨_, _, cls4, by decide, lw_in (List.mem_of_getElem? (i := 247) (by decide +kernel)) rfl⟩
theorem fl_X4_18 : FL RX4 18 4 2 := ⟨_, _, cls4, by decide, lw_in (List.mem_of_getElem? (i := 248) (by decide +kernel)) rfl⟩
theorem fl_X1_138 : FL RX1 138 4 2 := ⟨_, _, cls4, by decide, lw_in (List.mem_of_getElem? (i := 249) (by decide +kernel)) rfl⟩
theorem fl_X9_164 : FL RX9 164 4 2 := ⟨_, _, cls4, by decide, lw_in (List.mem_of_getElem? (i := 250) (by decide +kernel)) rfl⟩
theorem fl_X4_22 : FL RX4 22 4 3 := ⟨_, _, cls4, by decide, lw_in (List.mem_of_getElem? (i := 251) (by decide +kernel)) rfl⟩
theorem fl_X4_25 : FL RX4 25 4 4 := ⟨_, _, cls4, by decide, lw_in (List.mem_of_getElem? (i := 252) (by decide +kernel)) rfl⟩
theorem fl_X4_28 : FL RX4 28 4 5 := ⟨_, _, cls4, by decide, lw_in (List.mem_of_getElem? (i := 253) (by decide +kernel)) rfl⟩
theorem fl_X3_9 : FL RX3 9 3 0 := ⟨_, _, cls3, by decide, lw_in (List.mem_of_getElem? (i := 268) (by decide +kernel)) rfl⟩
theorem fl_X9_85 : FL RX9 85 3 0 := ⟨_, _, cls3, by decide, lw_in (List.mem_of_getElem? (i := 269) (by decide +kernel)) rfl⟩
theorem fl_X1_163 : FL RX1 163 3 0 := ⟨_, _, cls3, by decide, lw_in (List.mem_of_getElem? (i := 270) (by decide +kernel)) rfl⟩
theorem fl_X3_15 : FL RX3 15 3 1 := ⟨_, _, cls3, by decide, lw_in (List.mem_of_getElem? (i := 271) (by decide +kernel)) rfl⟩
theorem fl_X1_159 : FL RX1 159 3 1 := ⟨_, _, cls3, by decide, lw_in (List.mem_of_getElem? (i := 272) (by decide +kernel)) rfl⟩
theorem fl_X9_251 : FL RX9 251 3 1 := ⟨_, _, cls3, by decide, lw_in (List.mem_of_getElem? (i := 273) (by decide +kernel)) rfl⟩
theorem fl_X3_19 : FL RX3 19 3 2 := ⟨_, _, cls3, by decide, lw_in (List.mem_of_getElem? (i := 274) (by decide +kernel)) rfl⟩
theorem fl_X1_74 : FL RX1 74 3 2 := ⟨_, _, cls3, by decide, lw_in (List.mem_of_getElem? (i := 275) (by decide +kernel)) rfl⟩
theorem fl_X9_204 : FL RX9 204 3 2 := ⟨_, _, cls3, by decide, lw_in (List.mem_of_getElem? (i := 276) (by decide +kernel)) rfl⟩
theorem fl_X3_23 : FL RX3 23 3 3 := ⟨_, _, cls3, by decide, lw_in (List.mem_of_getElem? (i := 277) (by decide +kernel)) rfl⟩
theorem fl_X1_182 : FL RX1 182 3 3 := ⟨_, _, cls3, by decide, lw_in (List.mem_of_getElem? (i := 278) (by decide +kernel)) rfl⟩
theorem fl_X9_245 : FL RX9 245 3 3 := ⟨_, _, cls3, by decide, lw_in (List.mem_of_getElem? (i := 279) (by decide +kernel)) rfl⟩
theorem fl_X3_26 : FL RX3 26 3 4 := ⟨_, _, cls3, by decide, lw_in (List.mem_of_getElem? (i := 280) (by decide +kernel)) rfl⟩
theorem fl_X1_194 : FL RX1 194 3 4 := ⟨_, _, cls3, by decide, lw_in (List.mem_of_getElem? (i := 281) (by decide +kernel)) rfl⟩
theorem fl_X9_248 : FL RX9 248 3 4 := ⟨_, _, cls3, by decide, lw_in (List.mem_of_getElem? (i := 282) (by decide +kernel)) rfl⟩
theorem fl_X3_29 : FL RX3 29 3 5 := ⟨_, _, cls3, by decide, lw_in (List.mem_of_getElem? (i := 283) (by decide +kernel)) rfl⟩
theorem fl_X1_214 : FL RX1 214 3 5 := ⟨_, _, cls3, by decide, lw_in (List.mem_of_getElem? (i := 284) (by decide +kernel)) rfl⟩
theorem fl_X3_35 : FL RX3 35 3 6 := ⟨_, _, cls3, by decide, lw_in (List.mem_of_getElem? (i := 285) (by decide +kernel)) rfl⟩
theorem fl_X1_134 : FL RX1 134 3 6 := ⟨_, _, cls3, by decide, lw_in (List.mem_of_getElem? (i := 286) (by decide +kernel)) rfl⟩
theorem fl_X3_61 : FL RX3 61 3 7 := ⟨_, _, cls3, by decide, lw_in (List.mem_of_getElem? (i := 287) (by decide +kernel)) rfl⟩
theorem fl_X1_211 : FL RX1 211 3 7 := ⟨_, _, cls3, by decide, lw_in (List.mem_of_getElem? (i := 288) (by decide +kernel)) rfl⟩
theorem fl_X9_230 : FL RX9 230 3 7 := ⟨_, _, cls3, by decide, lw_in (List.mem_of_getElem? (i := 289) (by decide +kernel)) rfl⟩
theorem fl_X3_39 : FL RX3 39 3 8 := ⟨_, _, cls3, by decide, lw_in (List.mem_of_getElem? (i := 290) (by decide +kernel)) rfl⟩
theorem fl_X9_214 : FL RX9 214 3 8 := ⟨_, _, cls3, by decide, lw_in (List.mem_of_getElem? (i := 291) (by decide +kernel)) rfl⟩
theorem fl_X3_52 : FL RX3 52 3 9 := ⟨_, _, cls3, by decide, lw_in (List.mem_of_getElem? (i := 292) (by decide +kernel)) rfl⟩
theorem fl_X1_68 : FL RX1 68 3 9 := ⟨_, _, cls3, by decide, lw_in (List.mem_of_getElem? (i := 293) (by decide +kernel)) rfl⟩
theorem fl_X9_221 : FL RX9 221 3 9 := ⟨_, _, cls3, by decide, lw_in (List.mem_of_getElem? (i := 294) (by decide +kernel)) rfl⟩
theorem fl_X3_55 : FL RX3 55 3 10 := ⟨_, _, cls3, by decide, lw_in (List.mem_of_getElem? (i := 295) (by decide +kernel)) rfl⟩
theorem fl_X1_89 : FL RX1 89 3 10 := ⟨_, _, cls3, by decide, lw_in (List.mem_of_getElem? (i := 296) (by decide +kernel)) rfl⟩
theorem fl_X9_224 : FL RX9 224 3 10 := ⟨_, _, cls3, by decide, lw_in (List.mem_of_getElem? (i := 297) (by decide +kernel)) rfl⟩
theorem fl_X3_58 : FL RX3 58 3 11 := ⟨_, _, cls3, by decide, lw_in (List.mem_of_getElem? (i := 298) (by decide +kernel)) rfl⟩
theorem fl_X1_223 : FL RX1 223 3 11 := ⟨_, _, cls3, by decide, lw_in (List.mem_of_getElem? (i := 299) (by decide +kernel)) rfl⟩
theorem fl_X9_227 : FL RX9 227 3 11 := ⟨_, _, cls3, by decide, lw_in (List.mem_of_getElem? (i := 300) (by decide +kernel)) rfl⟩
theorem fl_X3_64 : FL RX3 64 3 12 := ⟨_, _, cls3, by decide, lw_in (List.mem_of_getElem? (i := 301) (by decide +kernel)) rfl⟩
theorem fl_X1_172 : FL RX1 172 3 12 := ⟨_, _, cls3, by decide, lw_in (List.mem_of_getElem? (i := 302) (by decide +kernel)) rfl⟩
theorem fl_X9_233 : FL RX9 233 3 12 := ⟨_, _, cls3, by decide, lw_in (List.mem_of_getElem? (i := 303) (by decide +kernel)) rfl⟩
theorem fl_X3_71 : FL RX3 71 3 13 := ⟨_, _, cls3, by decide, lw_in (List.mem_of_getElem? (i := 304) (by decide +kernel)) rfl⟩
theorem fl_X1_82 : FL RX1 82 3 13 := ⟨_, _, cls3, by decide, lw_in (List.mem_of_getElem? (i := 305) (by decide +kernel)) rfl⟩
theorem fl_X9_236 : FL RX9 236 3 13 := ⟨_, _, cls3, by decide, lw_in (List.mem_of_getElem? (i := 306) (by decide +kernel)) rfl⟩
theorem fl_X3_67 : FL RX3 67 3 14 := ⟨_, _, cls3, by decide, lw_in (List.mem_of_getElem? (i := 307) (by decide +kernel)) rfl⟩
theorem fl_X1_116 : FL RX1 116 3 14 := ⟨_, _, cls3, by decide, lw_in (List.mem_of_getElem? (i := 308) (by decide +kernel)) rfl⟩
theorem fl_X9_239 : FL RX9 239 3 14 := ⟨_, _, cls3, by decide, lw_in (List.mem_of_getElem? (i := 309) (by decide +kernel)) rfl⟩
theorem fl_X3_43 : FL RX3 43 3 15 := ⟨_, _, cls3, by decide, lw_in (List.mem_of_getElem? (i := 310) (by decide +kernel)) rfl⟩
theorem fl_X1_200 : FL RX1 200 3 15 := ⟨_, _, cls3, by decide, lw_in (List.mem_of_getElem? (i := 311) (by decide +kernel)) rfl⟩
theorem fl_X9_242 : FL RX9 242 3 15 := ⟨_, _, cls3, by decide, lw_in (List.mem_of_getElem? (i := 312) (by decide +kernel)) rfl⟩
theorem fl_X3_46 : FL RX3 46 3 16 := ⟨_, _, cls3, by decide, lw_in (List.mem_of_getElem? (i := 313) (by decide +kernel)) rfl⟩
theorem fl_X1_197 : FL RX1 197 3 16 := ⟨_, _, cls3, by decide, lw_in (List.mem_of_getElem? (i := 314) (by decide +kernel)) rfl⟩
theorem fl_X3_49 : FL RX3 49 3 17 := ⟨_, _, cls3, by decide, lw_in (List.mem_of_getElem? (i := 315) (by decide +kernel)) rfl⟩
theorem fl_X1_128 : FL RX1 128 3 17 := ⟨_, _, cls3, by decide, lw_in (List.mem_of_getElem? (i := 316) (by decide +kernel)) rfl⟩
theorem fl_X9_10 : FL RX9 10 9 0 := ⟨_, _, cls9, by decide, lw_in (List.mem_of_getElem? (i := 359) (by decide +kernel)) rfl⟩
theorem fl_X9_19 : FL RX9 19 9 1 := ⟨_, _, cls9, by decide, lw_in (List.mem_of_getElem? (i := 360) (by decide +kernel)) rfl⟩
theorem fl_X9_23 : FL RX9 23 9 2 := ⟨_, _, cls9, by decide, lw_in (List.mem_of_getElem? (i := 361) (by decide +kernel)) rfl⟩
theorem fl_X9_27 : FL RX9 27 9 3 := ⟨_, _, cls9, by decide, lw_in (List.mem_of_getElem? (i := 362) (by decide +kernel)) rfl⟩
theorem fl_X9_31 : FL RX9 31 9 4 := ⟨_, _, cls9, by decide, lw_in (List.mem_of_getElem? (i := 363) (by decide +kernel)) rfl⟩
theorem fl_X9_34 : FL RX9 34 9 5 := ⟨_, _, cls9, by decide, lw_in (List.mem_of_getElem? (i := 364) (by decide +kernel)) rfl⟩
theorem fl_X9_40 : FL RX9 40 9 6 := ⟨_, _, cls9, by decide, lw_in (List.mem_of_getElem? (i := 365) (by decide +kernel)) rfl⟩
theorem fl_X9_47 : FL RX9 47 9 7 := ⟨_, _, cls9, by decide, lw_in (List.mem_of_getElem? (i := 366) (by decide +kernel)) rfl⟩
theorem k_X9_59 : Cond.constant RX9 59 (100000 : Int32) ∈ lw_ok := lw_in (List.mem_of_getElem? (i := 394) (by decide +kernel)) rfl
theorem k_X9_83 : Cond.constant RX9 83 (-1000000 : Int32) ∈ lw_ok := lw_in (List.mem_of_getElem? (i := 403) (by decide +kernel)) rfl
theorem k_X9_84 : Cond.constant RX9 84 (1000000 : Int32) ∈ lw_ok := lw_in (List.mem_of_getElem? (i := 404) (by decide +kernel)) rfl
theorem k_X9_98 : Cond.constant RX9 98 (-2000000 : Int32) ∈ lw_ok := lw_in (List.mem_of_getElem? (i := 413) (by decide +kernel)) rfl
theorem k_X9_99 : Cond.constantLong RX9 99 (-1 : Int64) ∈ lw_ok := lw_in (List.mem_of_getElem? (i := 422) (by decide +kernel)) rfl
theorem k_X8_27 : Cond.constantDouble RX8 27 (4652007308841189376 : UInt64) ∈ lw_ok := lw_in (List.mem_of_getElem? (i := 427) (by decide +kernel)) rfl
theorem k_X8_29 : Cond.constant RX8 29 (250000 : Int32) ∈ lw_ok := lw_in (List.mem_of_getElem? (i := 428) (by decide +kernel)) rfl
theorem k_X8_34 : Cond.constant RX8 34 (1000000 : Int32) ∈ lw_ok := lw_in (List.mem_of_getElem? (i := 432) (by decide +kernel)) rfl
theorem k_X8_35 : Cond.constant RX8 35 (125000 : Int32) ∈ lw_ok := lw_in (List.mem_of_getElem? (i := 433) (by decide +kernel)) rfl
theorem k_X8_36 : Cond.constantDouble RX8 36 (4529031901805048957 : UInt64) ∈ lw_ok := lw_in (List.mem_of_getElem? (i := 434) (by decide +kernel)) rfl
theorem k_X8_38 : Cond.constantDouble RX8 38 (13818544856648471893 : UInt64) ∈ lw_ok := lw_in (List.mem_of_getElem? (i := 435) (by decide +kernel)) rfl
theorem k_X8_40 : Cond.constantDouble RX8 40 (4575957461383581969 : UInt64) ∈ lw_ok := lw_in (List.mem_of_getElem? (i := 436) (by decide +kernel)) rfl
theorem k_X8_42 : Cond.constantDouble RX8 42 (13774824197408792602 : UInt64) ∈ lw_ok := lw_in (List.mem_of_getElem? (i := 437) (by decide +kernel)) rfl
theorem k_X8_44 : Cond.constantDouble RX8 44 (4523617214285662004 : UInt64) ∈ lw_ok := lw_in (List.mem_of_getElem? (i := 438) (by decide +kernel)) rfl
theorem k_X8_46 : Cond.constantDouble RX8 46 (13716528800881525988 : UInt64) ∈ lw_ok := lw_in (List.mem_of_getElem? (i := 439) (by decide +kernel)) rfl
theorem k_X8_48 : Cond.constantDouble RX8 48 (13826050856027422720 : UInt64) ∈ lw_ok := lw_in (List.mem_of_getElem? (i := 440) (by decide +kernel)) rfl
theorem k_X8_50 : Cond.constantDouble RX8 50 (4586165620538955093 : UInt64) ∈ lw_ok := lw_in (List.mem_of_getElem? (i := 441) (by decide +kernel)) rfl
theorem k_X8_52 : Cond.constantDouble RX8 52 (13787419979223755799 : UInt64) ∈ lw_ok := lw_in (List.mem_of_getElem? (i := 442) (by decide +kernel)) rfl
theorem k_X8_54 : Cond.constantDouble RX8 54 (4537941361671905306 : UInt64) ∈ lw_ok := lw_in (List.mem_of_getElem? (i := 443) (by decide +kernel)) rfl
theorem k_X8_56 : Cond.constantDouble RX8 56 (13732177094651715420 : UInt64) ∈ lw_ok := lw_in (List.mem_of_getElem? (i := 444) (by decide +kernel)) rfl
theorem k_X8_58 : Cond.constantDouble RX8 58 (4477122120089393304 : UInt64) ∈ lw_ok := lw_in (List.mem_of_getElem? (i := 445) (by decide +kernel)) rfl
theorem k_X9_297 : Cond.constantLong RX9 297 (1075 : Int64) ∈ lw_ok := lw_in (List.mem_of_getElem? (i := 449) (by decide +kernel)) rfl
theorem k_X9_299 : Cond.constantDouble RX9 299 (4841369599423283200 : UInt64) ∈ lw_ok := lw_in (List.mem_of_getElem? (i := 450) (by decide +kernel)) rfl
theorem k_X9_301 : Cond.constantDouble RX9 301 (4611686018427387904 : UInt64) ∈ lw_ok := lw_in (List.mem_of_getElem? (i := 451) (by decide +kernel)) rfl
theorem k_X9_303 : Cond.constantLong RX9 303 (4503599627370495 : Int64) ∈ lw_ok := lw_in (List.mem_of_getElem? (i := 452) (by decide +kernel)) rfl
theorem k_X9_307 : Cond.constantLong RX9 307 (-9223372036854775808 : Int64) ∈ lw_ok := lw_in (List.mem_of_getElem? (i := 453) (by decide +kernel)) rfl
theorem k_X4_59 : Cond.constantLong RX4 59 (2 : Int64) ∈ lw_ok := lw_in (List.mem_of_getElem? (i := 512) (by decide +kernel)) rfl
theorem k_X9_278 : Cond.constantLong RX9 278 (113 : Int64) ∈ lw_ok := lw_in (List.mem_of_getElem? (i := 723) (by decide +kernel)) rfl
theorem k_X9_280 : Cond.constantLong RX9 280 (31 : Int64) ∈ lw_ok := lw_in (List.mem_of_getElem? (i := 724) (by decide +kernel)) rfl
theorem k_X10_24 : Cond.constant RX10 24 (-500000 : Int32) ∈ lw_ok := lw_in (List.mem_of_getElem? (i := 735) (by decide +kernel)) rfl
theorem k_X10_28 : Cond.constant RX10 28 (500000 : Int32) ∈ lw_ok := lw_in (List.mem_of_getElem? (i := 736) (by decide +kernel)) rfl
theorem k_X10_80 : Cond.constantLong RX10 80 (-1 : Int64) ∈ lw_ok := lw_in (List.mem_of_getElem? (i := 737) (by decide +kernel)) rfl
theorem fl_X10_7 : FL RX10 7 10 0 := ⟨_, _, cls10, by decide, lw_in (List.mem_of_getElem? (i := 738) (by decide +kernel)) rfl⟩
theorem fl_X10_13 : FL RX10 13 10 1 := ⟨_, _, cls10, by decide, lw_in (List.mem_of_getElem? (i := 739) (by decide +kernel)) rfl⟩
theorem fl_X10_17 : FL RX10 17 10 2 := ⟨_, _, cls10, by decide, lw_in (List.mem_of_getElem? (i := 740) (by decide +kernel)) rfl⟩
theorem fl_X10_20 : FL RX10 20 10 3 := ⟨_, _, cls10, by decide, lw_in (List.mem_of_getElem? (i := 741) (by decide +kernel)) rfl⟩
theorem fl_X10_25 : FL RX10 25 10 4 := ⟨_, _, cls10, by decide, lw_in (List.mem_of_getElem? (i := 742) (by decide +kernel)) rfl⟩
theorem fl_X10_29 : FL RX10 29 10 5 := ⟨_, _, cls10, by decide, lw_in (List.mem_of_getElem? (i := 743) (by decide +kernel)) rfl⟩
theorem fl_X10_32 : FL RX10 32 10 6 := ⟨_, _, cls10, by decide, lw_in (List.mem_of_getElem? (i := 744) (by decide +kernel)) rfl⟩
theorem fl_X10_35 : FL RX10 35 10 7 := ⟨_, _, cls10, by decide, lw_in (List.mem_of_getElem? (i := 745) (by decide +kernel)) rfl⟩
theorem fl_X10_38 : FL RX10 38 10 8 := ⟨_, _, cls10, by decide, lw_in (List.mem_of_getElem? (i := 746) (by decide +kernel)) rfl⟩
theorem fl_X10_41 : FL RX10 41 10 9 := ⟨_, _, cls10, by decide, lw_in (List.mem_of_getElem? (i := 747) (by decide +kernel)) rfl⟩
theorem fl_X10_44 : FL RX10 44 10 10 := ⟨_, _, cls10, by decide, lw_in (List.mem_of_getElem? (i := 748) (by decide +kernel)) rfl⟩
theorem fl_X10_47 : FL RX10 47 10 11 := ⟨_, _, cls10, by decide, lw_in (List.mem_of_getElem? (i := 749) (by decide +kernel)) rfl⟩
theorem fl_X10_207 : FL RX10 207 10 12 := ⟨_, _, cls10, by decide, lw_in (List.mem_of_getElem? (i := 750) (by decide +kernel)) rfl⟩
theorem fl_X10_50 : FL RX10 50 10 13 := ⟨_, _, cls10, by decide, lw_in (List.mem_of_getElem? (i := 751) (by decide +kernel)) rfl⟩
theorem fl_X10_53 : FL RX10 53 10 14 := ⟨_, _, cls10, by decide, lw_in (List.mem_of_getElem? (i := 752) (by decide +kernel)) rfl⟩
theorem fl_X10_56 : FL RX10 56 10 15 := ⟨_, _, cls10, by decide, lw_in (List.mem_of_getElem? (i := 753) (by decide +kernel)) rfl⟩
theorem fl_X10_211 : FL RX10 211 10 16 := ⟨_, _, cls10, by decide, lw_in (List.mem_of_getElem? (i := 754) (by decide +kernel)) rfl⟩
theorem fl_X10_59 : FL RX10 59 10 17 := ⟨_, _, cls10, by decide, lw_in (List.mem_of_getElem? (i := 755) (by decide +kernel)) rfl⟩
theorem fl_X10_62 : FL RX10 62 10 18 := ⟨_, _, cls10, by decide, lw_in (List.mem_of_getElem? (i := 756) (by decide +kernel)) rfl⟩
theorem fl_X10_65 : FL RX10 65 10 19 := ⟨_, _, cls10, by decide, lw_in (List.mem_of_getElem? (i := 757) (by decide +kernel)) rfl⟩
theorem fl_X10_132 : FL RX10 132 10 20 := ⟨_, _, cls10, by decide, lw_in (List.mem_of_getElem? (i := 758) (by decide +kernel)) rfl⟩
theorem fl_X10_136 : FL RX10 136 10 21 := ⟨_, _, cls10, by decide, lw_in (List.mem_of_getElem? (i := 759) (by decide +kernel)) rfl⟩
theorem fl_X10_68 : FL RX10 68 10 22 := ⟨_, _, cls10, by decide, lw_in (List.mem_of_getElem? (i := 760) (by decide +kernel)) rfl⟩
theorem fl_X10_71 : FL RX10 71 10 23 := ⟨_, _, cls10, by decide, lw_in (List.mem_of_getElem? (i := 761) (by decide +kernel)) rfl⟩
theorem fl_X10_178 : FL RX10 178 10 24 := ⟨_, _, cls10, by decide, lw_in (List.mem_of_getElem? (i := 762) (by decide +kernel)) rfl⟩
theorem fl_X10_182 : FL RX10 182 10 25 := ⟨_, _, cls10, by decide, lw_in (List.mem_of_getElem? (i := 763) (by decide +kernel)) rfl⟩
theorem fl_X10_185 : FL RX10 185 10 26 := ⟨_, _, cls10, by decide, lw_in (List.mem_of_getElem? (i := 764) (by decide +kernel)) rfl⟩
theorem fl_X10_188 : FL RX10 188 10 27 := ⟨_, _, cls10, by decide, lw_in (List.mem_of_getElem? (i := 765) (by decide +kernel)) rfl⟩
theorem fl_X10_74 : FL RX10 74 10 28 := ⟨_, _, cls10, by decide, lw_in (List.mem_of_getElem? (i := 766) (by decide +kernel)) rfl⟩
theorem fl_X10_77 : FL RX10 77 10 29 := ⟨_, _, cls10, by decide, lw_in (List.mem_of_getElem? (i := 767) (by decide +kernel)) rfl⟩
theorem k_X10_90 : Cond.constant RX10 90 (100000 : Int32) ∈ lw_ok := lw_in (List.mem_of_getElem? (i := 840) (by decide +kernel)) rfl
theorem k_X10_95 : Cond.constant RX10 95 (-1000000 : Int32) ∈ lw_ok := lw_in (List.mem_of_getElem? (i := 849) (by decide +kernel)) rfl
theorem k_X10_96 : Cond.constant RX10 96 (1000000 : Int32) ∈ lw_ok := lw_in (List.mem_of_getElem? (i := 850) (by decide +kernel)) rfl
theorem k_X10_101 : Cond.constant RX10 101 (-2000000 : Int32) ∈ lw_ok := lw_in (List.mem_of_getElem? (i := 859) (by decide +kernel)) rfl
theorem k_X10_139 : Cond.constantDouble RX10 139 (4652007308841189376 : UInt64) ∈ lw_ok := lw_in (List.mem_of_getElem? (i := 872) (by decide +kernel)) rfl
theorem k_X10_104 : Cond.constantLong RX10 104 (250000 : Int64) ∈ lw_ok := lw_in (List.mem_of_getElem? (i := 873) (by decide +kernel)) rfl
theorem k_X10_102 : Cond.constantLong RX10 102 (1000000 : Int64) ∈ lw_ok := lw_in (List.mem_of_getElem? (i := 877) (by decide +kernel)) rfl
theorem k_X10_106 : Cond.constant RX10 106 (250000 : Int32) ∈ lw_ok := lw_in (List.mem_of_getElem? (i := 878) (by decide +kernel)) rfl
theorem k_X10_107 : Cond.constant RX10 107 (125000 : Int32) ∈ lw_ok := lw_in (List.mem_of_getElem? (i := 879) (by decide +kernel)) rfl
theorem k_X10_108 : Cond.constantDouble RX10 108 (4529031901805048957 : UInt64) ∈ lw_ok := lw_in (List.mem_of_getElem? (i := 880) (by decide +kernel)) rfl
theorem k_X10_110 : Cond.constantDouble RX10 110 (13818544856648471893 : UInt64) ∈ lw_ok := lw_in (List.mem_of_getElem? (i := 881) (by decide +kernel)) rfl
theorem k_X10_112 : Cond.constantDouble RX10 112 (4575957461383581969 : UInt64) ∈ lw_ok := lw_in (List.mem_of_getElem? (i := 882) (by decide +kernel)) rfl
theorem k_X10_114 : Cond.constantDouble RX10 114 (13774824197408792602 : UInt64) ∈ lw_ok := lw_in (List.mem_of_getElem? (i := 883) (by decide +kernel)) rfl
theorem k_X10_116 : Cond.constantDouble RX10 116 (4523617214285662004 : UInt64) ∈ lw_ok := lw_in (List.mem_of_getElem? (i := 884) (by decide +kernel)) rfl
theorem k_X10_118 : Cond.constantDouble RX10 118 (13716528800881525988 : UInt64) ∈ lw_ok := lw_in (List.mem_of_getElem? (i := 885) (by decide +kernel)) rfl
theorem k_X10_120 : Cond.constantDouble RX10 120 (13826050856027422720 : UInt64) ∈ lw_ok := lw_in (List.mem_of_getElem? (i := 886) (by decide +kernel)) rfl
theorem k_X10_122 : Cond.constantDouble RX10 122 (4586165620538955093 : UInt64) ∈ lw_ok := lw_in (List.mem_of_getElem? (i := 887) (by decide +kernel)) rfl
theorem k_X10_124 : Cond.constantDouble RX10 124 (13787419979223755799 : UInt64) ∈ lw_ok := lw_in (List.mem_of_getElem? (i := 888) (by decide +kernel)) rfl
theorem k_X10_126 : Cond.constantDouble RX10 126 (4537941361671905306 : UInt64) ∈ lw_ok := lw_in (List.mem_of_getElem? (i := 889) (by decide +kernel)) rfl
theorem k_X10_128 : Cond.constantDouble RX10 128 (13732177094651715420 : UInt64) ∈ lw_ok := lw_in (List.mem_of_getElem? (i := 890) (by decide +kernel)) rfl
theorem k_X10_130 : Cond.constantDouble RX10 130 (4477122120089393304 : UInt64) ∈ lw_ok := lw_in (List.mem_of_getElem? (i := 891) (by decide +kernel)) rfl
theorem k_X10_145 : Cond.constantDouble RX10 145 (4845873199050653696 : UInt64) ∈ lw_ok := lw_in (List.mem_of_getElem? (i := 895) (by decide +kernel)) rfl
theorem k_X10_147 : Cond.constantDouble RX10 147 (4611686018427387904 : UInt64) ∈ lw_ok := lw_in (List.mem_of_getElem? (i := 896) (by decide +kernel)) rfl
theorem k_X10_149 : Cond.constantDouble RX10 149 (4841369599423283200 : UInt64) ∈ lw_ok := lw_in (List.mem_of_getElem? (i := 897) (by decide +kernel)) rfl
theorem k_X10_151 : Cond.constantLong RX10 151 (4503599627370496 : Int64) ∈ lw_ok := lw_in (List.mem_of_getElem? (i := 898) (by decide +kernel)) rfl
theorem k_X10_153 : Cond.constantLong RX10 153 (-9223372036854775808 : Int64) ∈ lw_ok := lw_in (List.mem_of_getElem? (i := 899) (by decide +kernel)) rfl
theorem k_X10_191 : Cond.constantLong RX10 191 (100 : Int64) ∈ lw_ok := lw_in (List.mem_of_getElem? (i := 931) (by decide +kernel)) rfl
theorem k_X10_168 : Cond.constantLong RX10 168 (2 : Int64) ∈ lw_ok := lw_in (List.mem_of_getElem? (i := 935) (by decide +kernel)) rfl
theorem k_X10_214 : Cond.constantLong RX10 214 (3 : Int64) ∈ lw_ok := lw_in (List.mem_of_getElem? (i := 1008) (by decide +kernel)) rfl
theorem k_X10_235 : Cond.constantLong RX10 235 (12 : Int64) ∈ lw_ok := lw_in (List.mem_of_getElem? (i := 1029) (by decide +kernel)) rfl
theorem k_X10_258 : Cond.constantLong RX10 258 (9 : Int64) ∈ lw_ok := lw_in (List.mem_of_getElem? (i := 1038) (by decide +kernel)) rfl
theorem k_X10_278 : Cond.constantLong RX10 278 (113 : Int64) ∈ lw_ok := lw_in (List.mem_of_getElem? (i := 1095) (by decide +kernel)) rfl
theorem k_X10_280 : Cond.constantLong RX10 280 (31 : Int64) ∈ lw_ok := lw_in (List.mem_of_getElem? (i := 1096) (by decide +kernel)) rfl
theorem mi_L_9 : MI RL 9 yX9_init cX9_init 2 0 := ⟨lw_in (List.mem_of_getElem? (i := 56) (by decide +kernel)) rfl, lw_in (List.mem_of_getElem? (i := 54) (by decide +kernel)) rfl, lw_in (List.mem_of_getElem? (i := 55) (by decide +kernel)) rfl, lw_in (List.mem_of_getElem? (i := 39) (by decide +kernel)) rfl, rfl, by decide, by decide, by decide +kernel⟩
theorem mi_X9_9 : MI RX9 9 yX1_init cX1_init 2 0 := ⟨lw_in (List.mem_of_getElem? (i := 64) (by decide +kernel)) rfl, lw_in (List.mem_of_getElem? (i := 62) (by decide +kernel)) rfl, lw_in (List.mem_of_getElem? (i := 63) (by decide +kernel)) rfl, lw_in (List.mem_of_getElem? (i := 40) (by decide +kernel)) rfl, rfl, by decide, by decide, by decide +kernel⟩
theorem mv_L_13 : MV RL 13 RX9 yX9_joint cX9_joint 7 (some .int) 5 := ⟨lw_in (List.mem_of_getElem? (i := 387) (by decide +kernel)) rfl, lw_in (List.mem_of_getElem? (i := 384) (by decide +kernel)) rfl, lw_in (List.mem_of_getElem? (i := 385) (by decide +kernel)) rfl, lw_in (List.mem_of_getElem? (i := 386) (by decide +kernel)) rfl, lw_in (List.mem_of_getElem? (i := 39) (by decide +kernel)) rfl, rfl, by decide, by decide, by decide +kernel⟩
theorem ms_X9_51 : MS RX9 51 yX9_isJoint cX9_isJoint 1 (some .boolean) 1 := ⟨lw_in (List.mem_of_getElem? (i := 390) (by decide +kernel)) rfl, lw_in (List.mem_of_getElem? (i := 388) (by decide +kernel)) rfl, lw_in (List.mem_of_getElem? (i := 389) (by decide +kernel)) rfl, lw_in (List.mem_of_getElem? (i := 39) (by decide +kernel)) rfl, by decide, by decide, by decide +kernel⟩
theorem ms_X9_55 : MS RX9 55 yX9_isWithin cX9_isWithin 3 (some .boolean) 3 := ⟨lw_in (List.mem_of_getElem? (i := 393) (by decide +kernel)) rfl, lw_in (List.mem_of_getElem? (i := 391) (by decide +kernel)) rfl, lw_in (List.mem_of_getElem? (i := 392) (by decide +kernel)) rfl, lw_in (List.mem_of_getElem? (i := 39) (by decide +kernel)) rfl, by decide, by decide, by decide +kernel⟩
theorem mv_X9_60 : MV RX9 60 RX9 yX9_isGoing cX9_isGoing 1 (some .boolean) 0 := ⟨lw_in (List.mem_of_getElem? (i := 398) (by decide +kernel)) rfl, lw_in (List.mem_of_getElem? (i := 395) (by decide +kernel)) rfl, lw_in (List.mem_of_getElem? (i := 397) (by decide +kernel)) rfl, lw_in (List.mem_of_getElem? (i := 0) (by decide +kernel)) rfl, lw_in (List.mem_of_getElem? (i := 39) (by decide +kernel)) rfl, rfl, by decide, by decide, by decide +kernel⟩
theorem mv_L_18 : MV RL 18 RX9 yX9_limits cX9_limits 4 (some .int) 3 := ⟨lw_in (List.mem_of_getElem? (i := 402) (by decide +kernel)) rfl, lw_in (List.mem_of_getElem? (i := 399) (by decide +kernel)) rfl, lw_in (List.mem_of_getElem? (i := 400) (by decide +kernel)) rfl, lw_in (List.mem_of_getElem? (i := 401) (by decide +kernel)) rfl, lw_in (List.mem_of_getElem? (i := 39) (by decide +kernel)) rfl, rfl, by decide, by decide, by decide +kernel⟩
theorem mv_L_23 : MV RL 23 RX9 yX9_jog cX9_jog 4 (some .int) 2 := ⟨lw_in (List.mem_of_getElem? (i := 408) (by decide +kernel)) rfl, lw_in (List.mem_of_getElem? (i := 405) (by decide +kernel)) rfl, lw_in (List.mem_of_getElem? (i := 406) (by decide +kernel)) rfl, lw_in (List.mem_of_getElem? (i := 407) (by decide +kernel)) rfl, lw_in (List.mem_of_getElem? (i := 39) (by decide +kernel)) rfl, rfl, by decide, by decide, by decide +kernel⟩
theorem mv_X9_95 : MV RX9 95 RX2 yX2_allows cX2_allows 2 (some .boolean) 1 := ⟨lw_in (List.mem_of_getElem? (i := 412) (by decide +kernel)) rfl, lw_in (List.mem_of_getElem? (i := 409) (by decide +kernel)) rfl, lw_in (List.mem_of_getElem? (i := 410) (by decide +kernel)) rfl, lw_in (List.mem_of_getElem? (i := 411) (by decide +kernel)) rfl, lw_in (List.mem_of_getElem? (i := 44) (by decide +kernel)) rfl, rfl, by decide, by decide, by decide +kernel⟩
theorem mv_L_28 : MV RL 28 RX9 yX9_state cX9_state 2 (some .int) 1 := ⟨lw_in (List.mem_of_getElem? (i := 417) (by decide +kernel)) rfl, lw_in (List.mem_of_getElem? (i := 414) (by decide +kernel)) rfl, lw_in (List.mem_of_getElem? (i := 415) (by decide +kernel)) rfl, lw_in (List.mem_of_getElem? (i := 416) (by decide +kernel)) rfl, lw_in (List.mem_of_getElem? (i := 39) (by decide +kernel)) rfl, rfl, by decide, by decide, by decide +kernel⟩
theorem mv_L_33 : MV RL 33 RX9 yX9_tip cX9_tip 2 (some .long) 1 := ⟨lw_in (List.mem_of_getElem? (i := 421) (by decide +kernel)) rfl, lw_in (List.mem_of_getElem? (i := 418) (by decide +kernel)) rfl, lw_in (List.mem_of_getElem? (i := 419) (by decide +kernel)) rfl, lw_in (List.mem_of_getElem? (i := 420) (by decide +kernel)) rfl, lw_in (List.mem_of_getElem? (i := 39) (by decide +kernel)) rfl, rfl, by decide, by decide, by decide +kernel⟩
theorem mv_X9_101 : MV RX9 101 RX8 yX8_follow cX8_follow 7 none 2 := ⟨lw_in (List.mem_of_getElem? (i := 426) (by decide +kernel)) rfl, lw_in (List.mem_of_getElem? (i := 423) (by decide +kernel)) rfl, lw_in (List.mem_of_getElem? (i := 424) (by decide +kernel)) rfl, lw_in (List.mem_of_getElem? (i := 425) (by decide +kernel)) rfl, lw_in (List.mem_of_getElem? (i := 43) (by decide +kernel)) rfl, rfl, by decide, by decide, by decide +kernel⟩
theorem ms_X8_30 : MS RX8 30 yX8_sineOf cX8_sineOf 10 (some .double) 1 := ⟨lw_in (List.mem_of_getElem? (i := 431) (by decide +kernel)) rfl, lw_in (List.mem_of_getElem? (i := 429) (by decide +kernel)) rfl, lw_in (List.mem_of_getElem? (i := 430) (by decide +kernel)) rfl, lw_in (List.mem_of_getElem? (i := 43) (by decide +kernel)) rfl, by decide, by decide, by decide +kernel⟩
theorem ms_X9_112 : MS RX9 112 yX9_bitsOf cX9_bitsOf 8 (some .long) 1 := ⟨lw_in (List.mem_of_getElem? (i := 448) (by decide +kernel)) rfl, lw_in (List.mem_of_getElem? (i := 446) (by decide +kernel)) rfl, lw_in (List.mem_of_getElem? (i := 447) (by decide +kernel)) rfl, lw_in (List.mem_of_getElem? (i := 39) (by decide +kernel)) rfl, by decide, by decide, by decide +kernel⟩
theorem mv_L_38 : MV RL 38 RX9 yX9_sine cX9_sine 2 (some .long) 1 := ⟨lw_in (List.mem_of_getElem? (i := 457) (by decide +kernel)) rfl, lw_in (List.mem_of_getElem? (i := 454) (by decide +kernel)) rfl, lw_in (List.mem_of_getElem? (i := 455) (by decide +kernel)) rfl, lw_in (List.mem_of_getElem? (i := 456) (by decide +kernel)) rfl, lw_in (List.mem_of_getElem? (i := 39) (by decide +kernel)) rfl, rfl, by decide, by decide, by decide +kernel⟩
theorem ms_X9_116 : MS RX9 116 yX8_sineOf cX8_sineOf 10 (some .double) 1 := ⟨lw_in (List.mem_of_getElem? (i := 431) (by decide +kernel)) rfl, lw_in (List.mem_of_getElem? (i := 458) (by decide +kernel)) rfl, lw_in (List.mem_of_getElem? (i := 430) (by decide +kernel)) rfl, lw_in (List.mem_of_getElem? (i := 43) (by decide +kernel)) rfl, by decide, by decide, by decide +kernel⟩
theorem mv_L_42 : MV RL 42 RX9 yX9_box cX9_box 6 (some .int) 5 := ⟨lw_in (List.mem_of_getElem? (i := 462) (by decide +kernel)) rfl, lw_in (List.mem_of_getElem? (i := 459) (by decide +kernel)) rfl, lw_in (List.mem_of_getElem? (i := 460) (by decide +kernel)) rfl, lw_in (List.mem_of_getElem? (i := 461) (by decide +kernel)) rfl, lw_in (List.mem_of_getElem? (i := 39) (by decide +kernel)) rfl, rfl, by decide, by decide, by decide +kernel⟩
theorem mv_X9_120 : MV RX9 120 RX8 yX8_isIn cX8_isIn 5 (some .boolean) 4 := ⟨lw_in (List.mem_of_getElem? (i := 466) (by decide +kernel)) rfl, lw_in (List.mem_of_getElem? (i := 463) (by decide +kernel)) rfl, lw_in (List.mem_of_getElem? (i := 464) (by decide +kernel)) rfl, lw_in (List.mem_of_getElem? (i := 465) (by decide +kernel)) rfl, lw_in (List.mem_of_getElem? (i := 43) (by decide +kernel)) rfl, rfl, by decide, by decide, by decide +kernel⟩
theorem mv_X9_128 : MV RX9 128 RX0 yX0_tell cX0_tell 5 none 4 := ⟨lw_in (List.mem_of_getElem? (i := 470) (by decide +kernel)) rfl, lw_in (List.mem_of_getElem? (i := 467) (by decide +kernel)) rfl, lw_in (List.mem_of_getElem? (i := 468) (by decide +kernel)) rfl, lw_in (List.mem_of_getElem? (i := 469) (by decide +kernel)) rfl, lw_in (List.mem_of_getElem? (i := 45) (by decide +kernel)) rfl, rfl, by decide, by decide, by decide +kernel⟩
theorem mv_L_46 : MV RL 46 RX9 yX9_unbox cX9_unbox 2 (some .int) 1 := ⟨lw_in (List.mem_of_getElem? (i := 474) (by decide +kernel)) rfl, lw_in (List.mem_of_getElem? (i := 471) (by decide +kernel)) rfl, lw_in (List.mem_of_getElem? (i := 472) (by decide +kernel)) rfl, lw_in (List.mem_of_getElem? (i := 473) (by decide +kernel)) rfl, lw_in (List.mem_of_getElem? (i := 39) (by decide +kernel)) rfl, rfl, by decide, by decide, by decide +kernel⟩
theorem mv_L_50 : MV RL 50 RX9 yX9_teach cX9_teach 3 (some .int) 1 := ⟨lw_in (List.mem_of_getElem? (i := 478) (by decide +kernel)) rfl, lw_in (List.mem_of_getElem? (i := 475) (by decide +kernel)) rfl, lw_in (List.mem_of_getElem? (i := 476) (by decide +kernel)) rfl, lw_in (List.mem_of_getElem? (i := 477) (by decide +kernel)) rfl, lw_in (List.mem_of_getElem? (i := 39) (by decide +kernel)) rfl, rfl, by decide, by decide, by decide +kernel⟩
theorem ms_X9_138 : MS RX9 138 yX9_isPose cX9_isPose 1 (some .boolean) 1 := ⟨lw_in (List.mem_of_getElem? (i := 481) (by decide +kernel)) rfl, lw_in (List.mem_of_getElem? (i := 479) (by decide +kernel)) rfl, lw_in (List.mem_of_getElem? (i := 480) (by decide +kernel)) rfl, lw_in (List.mem_of_getElem? (i := 39) (by decide +kernel)) rfl, by decide, by decide, by decide +kernel⟩
theorem mv_L_54 : MV RL 54 RX9 yX9_pose cX9_pose 3 (some .int) 2 := ⟨lw_in (List.mem_of_getElem? (i := 488) (by decide +kernel)) rfl, lw_in (List.mem_of_getElem? (i := 485) (by decide +kernel)) rfl, lw_in (List.mem_of_getElem? (i := 486) (by decide +kernel)) rfl, lw_in (List.mem_of_getElem? (i := 487) (by decide +kernel)) rfl, lw_in (List.mem_of_getElem? (i := 39) (by decide +kernel)) rfl, rfl, by decide, by decide, by decide +kernel⟩
theorem mv_L_58 : MV RL 58 RX9 yX9_plan cX9_plan 3 (some .int) 2 := ⟨lw_in (List.mem_of_getElem? (i := 492) (by decide +kernel)) rfl, lw_in (List.mem_of_getElem? (i := 489) (by decide +kernel)) rfl, lw_in (List.mem_of_getElem? (i := 490) (by decide +kernel)) rfl, lw_in (List.mem_of_getElem? (i := 491) (by decide +kernel)) rfl, lw_in (List.mem_of_getElem? (i := 39) (by decide +kernel)) rfl, rfl, by decide, by decide, by decide +kernel⟩
theorem ms_X9_157 : MS RX9 157 yX9_isShare cX9_isShare 1 (some .boolean) 1 := ⟨lw_in (List.mem_of_getElem? (i := 495) (by decide +kernel)) rfl, lw_in (List.mem_of_getElem? (i := 493) (by decide +kernel)) rfl, lw_in (List.mem_of_getElem? (i := 494) (by decide +kernel)) rfl, lw_in (List.mem_of_getElem? (i := 39) (by decide +kernel)) rfl, by decide, by decide, by decide +kernel⟩
theorem mv_X9_160 : MV RX9 160 RX4 yX4_aim cX4_aim 9 none 4 := ⟨lw_in (List.mem_of_getElem? (i := 499) (by decide +kernel)) rfl, lw_in (List.mem_of_getElem? (i := 496) (by decide +kernel)) rfl, lw_in (List.mem_of_getElem? (i := 497) (by decide +kernel)) rfl, lw_in (List.mem_of_getElem? (i := 498) (by decide +kernel)) rfl, lw_in (List.mem_of_getElem? (i := 48) (by decide +kernel)) rfl, rfl, by decide, by decide, by decide +kernel⟩
theorem ms_X4_45 : MS RX4 45 yX4_leastTicks cX4_leastTicks 8 (some .int) 3 := ⟨lw_in (List.mem_of_getElem? (i := 508) (by decide +kernel)) rfl, lw_in (List.mem_of_getElem? (i := 506) (by decide +kernel)) rfl, lw_in (List.mem_of_getElem? (i := 507) (by decide +kernel)) rfl, lw_in (List.mem_of_getElem? (i := 48) (by decide +kernel)) rfl, by decide, by decide, by decide +kernel⟩
theorem ms_X4_49 : MS RX4 49 yX4_climb cX4_climb 4 (some .long) 3 := ⟨lw_in (List.mem_of_getElem? (i := 511) (by decide +kernel)) rfl, lw_in (List.mem_of_getElem? (i := 509) (by decide +kernel)) rfl, lw_in (List.mem_of_getElem? (i := 510) (by decide +kernel)) rfl, lw_in (List.mem_of_getElem? (i := 48) (by decide +kernel)) rfl, by decide, by decide, by decide +kernel⟩
theorem mv_L_62 : MV RL 62 RX9 yX9_along cX9_along 5 (some .int) 4 := ⟨lw_in (List.mem_of_getElem? (i := 516) (by decide +kernel)) rfl, lw_in (List.mem_of_getElem? (i := 513) (by decide +kernel)) rfl, lw_in (List.mem_of_getElem? (i := 514) (by decide +kernel)) rfl, lw_in (List.mem_of_getElem? (i := 515) (by decide +kernel)) rfl, lw_in (List.mem_of_getElem? (i := 39) (by decide +kernel)) rfl, rfl, by decide, by decide, by decide +kernel⟩
theorem mv_X9_167 : MV RX9 167 RX4 yX4_goneBehind cX4_goneBehind 5 (some .long) 1 := ⟨lw_in (List.mem_of_getElem? (i := 520) (by decide +kernel)) rfl, lw_in (List.mem_of_getElem? (i := 517) (by decide +kernel)) rfl, lw_in (List.mem_of_getElem? (i := 518) (by decide +kernel)) rfl, lw_in (List.mem_of_getElem? (i := 519) (by decide +kernel)) rfl, lw_in (List.mem_of_getElem? (i := 48) (by decide +kernel)) rfl, rfl, by decide, by decide, by decide +kernel⟩
theorem mv_X9_171 : MV RX9 171 RX4 yX4_stateAt cX4_stateAt 4 (some .int) 2 := ⟨lw_in (List.mem_of_getElem? (i := 524) (by decide +kernel)) rfl, lw_in (List.mem_of_getElem? (i := 521) (by decide +kernel)) rfl, lw_in (List.mem_of_getElem? (i := 522) (by decide +kernel)) rfl, lw_in (List.mem_of_getElem? (i := 523) (by decide +kernel)) rfl, lw_in (List.mem_of_getElem? (i := 48) (by decide +kernel)) rfl, rfl, by decide, by decide, by decide +kernel⟩
theorem mv_L_67 : MV RL 67 RX9 yX9_line cX9_line 4 (some .int) 3 := ⟨lw_in (List.mem_of_getElem? (i := 528) (by decide +kernel)) rfl, lw_in (List.mem_of_getElem? (i := 525) (by decide +kernel)) rfl, lw_in (List.mem_of_getElem? (i := 526) (by decide +kernel)) rfl, lw_in (List.mem_of_getElem? (i := 527) (by decide +kernel)) rfl, lw_in (List.mem_of_getElem? (i := 39) (by decide +kernel)) rfl, rfl, by decide, by decide, by decide +kernel⟩
theorem ms_X9_175 : MS RX9 175 yX9_isLine cX9_isLine 3 (some .boolean) 3 := ⟨lw_in (List.mem_of_getElem? (i := 531) (by decide +kernel)) rfl, lw_in (List.mem_of_getElem? (i := 529) (by decide +kernel)) rfl, lw_in (List.mem_of_getElem? (i := 530) (by decide +kernel)) rfl, lw_in (List.mem_of_getElem? (i := 39) (by decide +kernel)) rfl, by decide, by decide, by decide +kernel⟩
theorem ms_X9_191 : MS RX9 191 yX9_isSignal cX9_isSignal 1 (some .boolean) 1 := ⟨lw_in (List.mem_of_getElem? (i := 534) (by decide +kernel)) rfl, lw_in (List.mem_of_getElem? (i := 532) (by decide +kernel)) rfl, lw_in (List.mem_of_getElem? (i := 533) (by decide +kernel)) rfl, lw_in (List.mem_of_getElem? (i := 39) (by decide +kernel)) rfl, by decide, by decide, by decide +kernel⟩
theorem mv_X9_187 : MV RX9 187 RX6 yX6_add cX6_add 4 (some .int) 3 := ⟨lw_in (List.mem_of_getElem? (i := 538) (by decide +kernel)) rfl, lw_in (List.mem_of_getElem? (i := 535) (by decide +kernel)) rfl, lw_in (List.mem_of_getElem? (i := 536) (by decide +kernel)) rfl, lw_in (List.mem_of_getElem? (i := 537) (by decide +kernel)) rfl, lw_in (List.mem_of_getElem? (i := 41) (by decide +kernel)) rfl, rfl, by decide, by decide, by decide +kernel⟩
theorem mv_L_71 : MV RL 71 RX9 yX9_clear cX9_clear 2 (some .int) 0 := ⟨lw_in (List.mem_of_getElem? (i := 542) (by decide +kernel)) rfl, lw_in (List.mem_of_getElem? (i := 539) (by decide +kernel)) rfl, lw_in (List.mem_of_getElem? (i := 540) (by decide +kernel)) rfl, lw_in (List.mem_of_getElem? (i := 541) (by decide +kernel)) rfl, lw_in (List.mem_of_getElem? (i := 39) (by decide +kernel)) rfl, rfl, by decide, by decide, by decide +kernel⟩
theorem mv_L_76 : MV RL 76 RX9 yX9_script cX9_script 4 (some .int) 3 := ⟨lw_in (List.mem_of_getElem? (i := 546) (by decide +kernel)) rfl, lw_in (List.mem_of_getElem? (i := 543) (by decide +kernel)) rfl, lw_in (List.mem_of_getElem? (i := 544) (by decide +kernel)) rfl, lw_in (List.mem_of_getElem? (i := 545) (by decide +kernel)) rfl, lw_in (List.mem_of_getElem? (i := 39) (by decide +kernel)) rfl, rfl, by decide, by decide, by decide +kernel⟩
theorem mv_X9_201 : MV RX9 201 RX7 yX7_add cX7_add 4 (some .int) 3 := ⟨lw_in (List.mem_of_getElem? (i := 550) (by decide +kernel)) rfl, lw_in (List.mem_of_getElem? (i := 547) (by decide +kernel)) rfl, lw_in (List.mem_of_getElem? (i := 548) (by decide +kernel)) rfl, lw_in (List.mem_of_getElem? (i := 549) (by decide +kernel)) rfl, lw_in (List.mem_of_getElem? (i := 42) (by decide +kernel)) rfl, rfl, by decide, by decide, by decide +kernel⟩
theorem mv_L_81 : MV RL 81 RX9 yX9_input cX9_input 3 (some .int) 2 := ⟨lw_in (List.mem_of_getElem? (i := 554) (by decide +kernel)) rfl, lw_in (List.mem_of_getElem? (i := 551) (by decide +kernel)) rfl, lw_in (List.mem_of_getElem? (i := 552) (by decide +kernel)) rfl, lw_in (List.mem_of_getElem? (i := 553) (by decide +kernel)) rfl, lw_in (List.mem_of_getElem? (i := 39) (by decide +kernel)) rfl, rfl, by decide, by decide, by decide +kernel⟩
theorem mv_L_86 : MV RL 86 RX9 yX9_run cX9_run 1 (some .int) 0 := ⟨lw_in (List.mem_of_getElem? (i := 558) (by decide +kernel)) rfl, lw_in (List.mem_of_getElem? (i := 555) (by decide +kernel)) rfl, lw_in (List.mem_of_getElem? (i := 556) (by decide +kernel)) rfl, lw_in (List.mem_of_getElem? (i := 557) (by decide +kernel)) rfl, lw_in (List.mem_of_getElem? (i := 39) (by decide +kernel)) rfl, rfl, by decide, by decide, by decide +kernel⟩
theorem mv_X9_207 : MV RX9 207 RX3 yX3_begin cX3_begin 2 none 0 := ⟨lw_in (List.mem_of_getElem? (i := 562) (by decide +kernel)) rfl, lw_in (List.mem_of_getElem? (i := 559) (by decide +kernel)) rfl, lw_in (List.mem_of_getElem? (i := 560) (by decide +kernel)) rfl, lw_in (List.mem_of_getElem? (i := 561) (by decide +kernel)) rfl, lw_in (List.mem_of_getElem? (i := 47) (by decide +kernel)) rfl, rfl, by decide, by decide, by decide +kernel⟩
theorem mv_L_90 : MV RL 90 RX9 yX9_tick cX9_tick 3 (some .int) 1 := ⟨lw_in (List.mem_of_getElem? (i := 566) (by decide +kernel)) rfl, lw_in (List.mem_of_getElem? (i := 563) (by decide +kernel)) rfl, lw_in (List.mem_of_getElem? (i := 564) (by decide +kernel)) rfl, lw_in (List.mem_of_getElem? (i := 565) (by decide +kernel)) rfl, lw_in (List.mem_of_getElem? (i := 39) (by decide +kernel)) rfl, rfl, by decide, by decide, by decide +kernel⟩
theorem mv_X9_210 : MV RX9 210 RX1 yX1_oneTick cX1_oneTick 4 none 1 := ⟨lw_in (List.mem_of_getElem? (i := 570) (by decide +kernel)) rfl, lw_in (List.mem_of_getElem? (i := 567) (by decide +kernel)) rfl, lw_in (List.mem_of_getElem? (i := 568) (by decide +kernel)) rfl, lw_in (List.mem_of_getElem? (i := 569) (by decide +kernel)) rfl, lw_in (List.mem_of_getElem? (i := 40) (by decide +kernel)) rfl, rfl, by decide, by decide, by decide +kernel⟩
theorem mv_X1_78 : MV RX1 78 RX7 yX7_setInputs cX7_setInputs 4 none 2 := ⟨lw_in (List.mem_of_getElem? (i := 574) (by decide +kernel)) rfl, lw_in (List.mem_of_getElem? (i := 571) (by decide +kernel)) rfl, lw_in (List.mem_of_getElem? (i := 572) (by decide +kernel)) rfl, lw_in (List.mem_of_getElem? (i := 573) (by decide +kernel)) rfl, lw_in (List.mem_of_getElem? (i := 42) (by decide +kernel)) rfl, rfl, by decide, by decide, by decide +kernel⟩
theorem mv_X1_85 : MV RX1 85 RX1 yX1_carryOn cX1_carryOn 2 (some .boolean) 1 := ⟨lw_in (List.mem_of_getElem? (i := 578) (by decide +kernel)) rfl, lw_in (List.mem_of_getElem? (i := 575) (by decide +kernel)) rfl, lw_in (List.mem_of_getElem? (i := 577) (by decide +kernel)) rfl, lw_in (List.mem_of_getElem? (i := 1) (by decide +kernel)) rfl, lw_in (List.mem_of_getElem? (i := 40) (by decide +kernel)) rfl, rfl, by decide, by decide, by decide +kernel⟩
theorem mv_X1_119 : MV RX1 119 RX1 yX1_carryOnGo cX1_carryOnGo 5 (some .boolean) 1 := ⟨lw_in (List.mem_of_getElem? (i := 582) (by decide +kernel)) rfl, lw_in (List.mem_of_getElem? (i := 579) (by decide +kernel)) rfl, lw_in (List.mem_of_getElem? (i := 581) (by decide +kernel)) rfl, lw_in (List.mem_of_getElem? (i := 2) (by decide +kernel)) rfl, lw_in (List.mem_of_getElem? (i := 40) (by decide +kernel)) rfl, rfl, by decide, by decide, by decide +kernel⟩
theorem mv_X1_131 : MV RX1 131 RX3 yX3_passLine cX3_passLine 1 none 0 := ⟨lw_in (List.mem_of_getElem? (i := 586) (by decide +kernel)) rfl, lw_in (List.mem_of_getElem? (i := 583) (by decide +kernel)) rfl, lw_in (List.mem_of_getElem? (i := 584) (by decide +kernel)) rfl, lw_in (List.mem_of_getElem? (i := 585) (by decide +kernel)) rfl, lw_in (List.mem_of_getElem? (i := 47) (by decide +kernel)) rfl, rfl, by decide, by decide, by decide +kernel⟩
theorem mv_X3_74 : MV RX3 74 RX3 yX3_dropWhatIsUnderWay cX3_dropWhatIsUnderWay 1 none 0 := ⟨lw_in (List.mem_of_getElem? (i := 590) (by decide +kernel)) rfl, lw_in (List.mem_of_getElem? (i := 587) (by decide +kernel)) rfl, lw_in (List.mem_of_getElem? (i := 588) (by decide +kernel)) rfl, lw_in (List.mem_of_getElem? (i := 589) (by decide +kernel)) rfl, lw_in (List.mem_of_getElem? (i := 47) (by decide +kernel)) rfl, rfl, by decide, by decide, by decide +kernel⟩
theorem mv_X1_143 : MV RX1 143 RX4 yX4_goneBehind cX4_goneBehind 5 (some .long) 1 := ⟨lw_in (List.mem_of_getElem? (i := 520) (by decide +kernel)) rfl, lw_in (List.mem_of_getElem? (i := 591) (by decide +kernel)) rfl, lw_in (List.mem_of_getElem? (i := 518) (by decide +kernel)) rfl, lw_in (List.mem_of_getElem? (i := 519) (by decide +kernel)) rfl, lw_in (List.mem_of_getElem? (i := 48) (by decide +kernel)) rfl, rfl, by decide, by decide, by decide +kernel⟩
theorem mv_X1_147 : MV RX1 147 RX4 yX4_stateAt cX4_stateAt 4 (some .int) 2 := ⟨lw_in (List.mem_of_getElem? (i := 524) (by decide +kernel)) rfl, lw_in (List.mem_of_getElem? (i := 592) (by decide +kernel)) rfl, lw_in (List.mem_of_getElem? (i := 522) (by decide +kernel)) rfl, lw_in (List.mem_of_getElem? (i := 523) (by decide +kernel)) rfl, lw_in (List.mem_of_getElem? (i := 48) (by decide +kernel)) rfl, rfl, by decide, by decide, by decide +kernel⟩
theorem mv_X1_151 : MV RX1 151 RX8 yX8_follow cX8_follow 7 none 2 := ⟨lw_in (List.mem_of_getElem? (i := 426) (by decide +kernel)) rfl, lw_in (List.mem_of_getElem? (i := 593) (by decide +kernel)) rfl, lw_in (List.mem_of_getElem? (i := 424) (by decide +kernel)) rfl, lw_in (List.mem_of_getElem? (i := 425) (by decide +kernel)) rfl, lw_in (List.mem_of_getElem? (i := 43) (by decide +kernel)) rfl, rfl, by decide, by decide, by decide +kernel⟩
theorem mv_X1_155 : MV RX1 155 RX0 yX0_holds cX0_holds 2 (some .boolean) 1 := ⟨lw_in (List.mem_of_getElem? (i := 597) (by decide +kernel)) rfl, lw_in (List.mem_of_getElem? (i := 594) (by decide +kernel)) rfl, lw_in (List.mem_of_getElem? (i := 595) (by decide +kernel)) rfl, lw_in (List.mem_of_getElem? (i := 596) (by decide +kernel)) rfl, lw_in (List.mem_of_getElem? (i := 45) (by decide +kernel)) rfl, rfl, by decide, by decide, by decide +kernel⟩
theorem mv_X0_26 : MV RX0 26 RX8 yX8_isIn cX8_isIn 5 (some .boolean) 4 := ⟨lw_in (List.mem_of_getElem? (i := 466) (by decide +kernel)) rfl, lw_in (List.mem_of_getElem? (i := 598) (by decide +kernel)) rfl, lw_in (List.mem_of_getElem? (i := 464) (by decide +kernel)) rfl, lw_in (List.mem_of_getElem? (i := 465) (by decide +kernel)) rfl, lw_in (List.mem_of_getElem? (i := 43) (by decide +kernel)) rfl, rfl, by decide, by decide, by decide +kernel⟩
theorem mv_X1_99 : MV RX1 99 RX1 yX1_err cX1_err 3 (some .boolean) 2 := ⟨lw_in (List.mem_of_getElem? (i := 602) (by decide +kernel)) rfl, lw_in (List.mem_of_getElem? (i := 599) (by decide +kernel)) rfl, lw_in (List.mem_of_getElem? (i := 601) (by decide +kernel)) rfl, lw_in (List.mem_of_getElem? (i := 3) (by decide +kernel)) rfl, lw_in (List.mem_of_getElem? (i := 40) (by decide +kernel)) rfl, rfl, by decide, by decide, by decide +kernel⟩
theorem mv_X1_217 : MV RX1 217 RX3 yX3_stopBy cX3_stopBy 2 none 1 := ⟨lw_in (List.mem_of_getElem? (i := 606) (by decide +kernel)) rfl, lw_in (List.mem_of_getElem? (i := 603) (by decide +kernel)) rfl, lw_in (List.mem_of_getElem? (i := 604) (by decide +kernel)) rfl, lw_in (List.mem_of_getElem? (i := 605) (by decide +kernel)) rfl, lw_in (List.mem_of_getElem? (i := 47) (by decide +kernel)) rfl, rfl, by decide, by decide, by decide +kernel⟩
theorem mv_X1_220 : MV RX1 220 RX3 yX3_dropWhatIsUnderWay cX3_dropWhatIsUnderWay 1 none 0 := ⟨lw_in (List.mem_of_getElem? (i := 590) (by decide +kernel)) rfl, lw_in (List.mem_of_getElem? (i := 607) (by decide +kernel)) rfl, lw_in (List.mem_of_getElem? (i := 588) (by decide +kernel)) rfl, lw_in (List.mem_of_getElem? (i := 589) (by decide +kernel)) rfl, lw_in (List.mem_of_getElem? (i := 47) (by decide +kernel)) rfl, rfl, by decide, by decide, by decide +kernel⟩
theorem mv_X1_125 : MV RX1 125 RX3 yX3_spendTick cX3_spendTick 1 none 0 := ⟨lw_in (List.mem_of_getElem? (i := 612) (by decide +kernel)) rfl, lw_in (List.mem_of_getElem? (i := 609) (by decide +kernel)) rfl, lw_in (List.mem_of_getElem? (i := 610) (by decide +kernel)) rfl, lw_in (List.mem_of_getElem? (i := 611) (by decide +kernel)) rfl, lw_in (List.mem_of_getElem? (i := 47) (by decide +kernel)) rfl, rfl, by decide, by decide, by decide +kernel⟩
theorem mv_X3_77 : MV RX3 77 RX3 yX3_passLine cX3_passLine 1 none 0 := ⟨lw_in (List.mem_of_getElem? (i := 586) (by decide +kernel)) rfl, lw_in (List.mem_of_getElem? (i := 613) (by decide +kernel)) rfl, lw_in (List.mem_of_getElem? (i := 584) (by decide +kernel)) rfl, lw_in (List.mem_of_getElem? (i := 585) (by decide +kernel)) rfl, lw_in (List.mem_of_getElem? (i := 47) (by decide +kernel)) rfl, rfl, by decide, by decide, by decide +kernel⟩
theorem mv_X1_122 : MV RX1 122 RX1 yX1_carryOnWait cX1_carryOnWait 2 (some .boolean) 1 := ⟨lw_in (List.mem_of_getElem? (i := 617) (by decide +kernel)) rfl, lw_in (List.mem_of_getElem? (i := 614) (by decide +kernel)) rfl, lw_in (List.mem_of_getElem? (i := 616) (by decide +kernel)) rfl, lw_in (List.mem_of_getElem? (i := 4) (by decide +kernel)) rfl, lw_in (List.mem_of_getElem? (i := 40) (by decide +kernel)) rfl, rfl, by decide, by decide, by decide +kernel⟩
theorem mv_X1_95 : MV RX1 95 RX3 yX3_end cX3_end 2 none 1 := ⟨lw_in (List.mem_of_getElem? (i := 621) (by decide +kernel)) rfl, lw_in (List.mem_of_getElem? (i := 618) (by decide +kernel)) rfl, lw_in (List.mem_of_getElem? (i := 619) (by decide +kernel)) rfl, lw_in (List.mem_of_getElem? (i := 620) (by decide +kernel)) rfl, lw_in (List.mem_of_getElem? (i := 47) (by decide +kernel)) rfl, rfl, by decide, by decide, by decide +kernel⟩
theorem mv_X1_112 : MV RX1 112 RX1 yX1_doLine cX1_doLine 5 (some .boolean) 4 := ⟨lw_in (List.mem_of_getElem? (i := 625) (by decide +kernel)) rfl, lw_in (List.mem_of_getElem? (i := 622) (by decide +kernel)) rfl, lw_in (List.mem_of_getElem? (i := 624) (by decide +kernel)) rfl, lw_in (List.mem_of_getElem? (i := 5) (by decide +kernel)) rfl, lw_in (List.mem_of_getElem? (i := 40) (by decide +kernel)) rfl, rfl, by decide, by decide, by decide +kernel⟩
theorem mv_X1_175 : MV RX1 175 RX1 yX1_beginGo cX1_beginGo 4 (some .boolean) 3 := ⟨lw_in (List.mem_of_getElem? (i := 629) (by decide +kernel)) rfl, lw_in (List.mem_of_getElem? (i := 626) (by decide +kernel)) rfl, lw_in (List.mem_of_getElem? (i := 628) (by decide +kernel)) rfl, lw_in (List.mem_of_getElem? (i := 6) (by decide +kernel)) rfl, lw_in (List.mem_of_getElem? (i := 40) (by decide +kernel)) rfl, rfl, by decide, by decide, by decide +kernel⟩
theorem mv_X1_204 : MV RX1 204 RX1 yX1_allows cX1_allows 3 (some .boolean) 1 := ⟨lw_in (List.mem_of_getElem? (i := 633) (by decide +kernel)) rfl, lw_in (List.mem_of_getElem? (i := 630) (by decide +kernel)) rfl, lw_in (List.mem_of_getElem? (i := 631) (by decide +kernel)) rfl, lw_in (List.mem_of_getElem? (i := 632) (by decide +kernel)) rfl, lw_in (List.mem_of_getElem? (i := 40) (by decide +kernel)) rfl, rfl, by decide, by decide, by decide +kernel⟩
theorem mv_X1_64 : MV RX1 64 RX2 yX2_allows cX2_allows 2 (some .boolean) 1 := ⟨lw_in (List.mem_of_getElem? (i := 412) (by decide +kernel)) rfl, lw_in (List.mem_of_getElem? (i := 634) (by decide +kernel)) rfl, lw_in (List.mem_of_getElem? (i := 410) (by decide +kernel)) rfl, lw_in (List.mem_of_getElem? (i := 411) (by decide +kernel)) rfl, lw_in (List.mem_of_getElem? (i := 44) (by decide +kernel)) rfl, rfl, by decide, by decide, by decide +kernel⟩
theorem mv_X1_207 : MV RX1 207 RX4 yX4_aim cX4_aim 9 none 4 := ⟨lw_in (List.mem_of_getElem? (i := 499) (by decide +kernel)) rfl, lw_in (List.mem_of_getElem? (i := 635) (by decide +kernel)) rfl, lw_in (List.mem_of_getElem? (i := 497) (by decide +kernel)) rfl, lw_in (List.mem_of_getElem? (i := 498) (by decide +kernel)) rfl, lw_in (List.mem_of_getElem? (i := 48) (by decide +kernel)) rfl, rfl, by decide, by decide, by decide +kernel⟩
theorem mv_X1_179 : MV RX1 179 RX1 yX1_beginWait cX1_beginWait 3 (some .boolean) 2 := ⟨lw_in (List.mem_of_getElem? (i := 639) (by decide +kernel)) rfl, lw_in (List.mem_of_getElem? (i := 636) (by decide +kernel)) rfl, lw_in (List.mem_of_getElem? (i := 638) (by decide +kernel)) rfl, lw_in (List.mem_of_getElem? (i := 7) (by decide +kernel)) rfl, lw_in (List.mem_of_getElem? (i := 40) (by decide +kernel)) rfl, rfl, by decide, by decide, by decide +kernel⟩
theorem mv_X1_185 : MV RX1 185 RX1 yX1_jump cX1_jump 3 (some .boolean) 2 := ⟨lw_in (List.mem_of_getElem? (i := 643) (by decide +kernel)) rfl, lw_in (List.mem_of_getElem? (i := 640) (by decide +kernel)) rfl, lw_in (List.mem_of_getElem? (i := 642) (by decide +kernel)) rfl, lw_in (List.mem_of_getElem? (i := 8) (by decide +kernel)) rfl, lw_in (List.mem_of_getElem? (i := 40) (by decide +kernel)) rfl, rfl, by decide, by decide, by decide +kernel⟩
theorem mv_X1_188 : MV RX1 188 RX1 yX1_call cX1_call 3 (some .boolean) 2 := ⟨lw_in (List.mem_of_getElem? (i := 647) (by decide +kernel)) rfl, lw_in (List.mem_of_getElem? (i := 644) (by decide +kernel)) rfl, lw_in (List.mem_of_getElem? (i := 646) (by decide +kernel)) rfl, lw_in (List.mem_of_getElem? (i := 9) (by decide +kernel)) rfl, lw_in (List.mem_of_getElem? (i := 40) (by decide +kernel)) rfl, rfl, by decide, by decide, by decide +kernel⟩
theorem mv_X1_191 : MV RX1 191 RX1 yX1_comeBack cX1_comeBack 2 (some .boolean) 1 := ⟨lw_in (List.mem_of_getElem? (i := 651) (by decide +kernel)) rfl, lw_in (List.mem_of_getElem? (i := 648) (by decide +kernel)) rfl, lw_in (List.mem_of_getElem? (i := 650) (by decide +kernel)) rfl, lw_in (List.mem_of_getElem? (i := 10) (by decide +kernel)) rfl, lw_in (List.mem_of_getElem? (i := 40) (by decide +kernel)) rfl, rfl, by decide, by decide, by decide +kernel⟩
theorem mv_L_94 : MV RL 94 RX9 yX9_stop cX9_stop 1 (some .int) 0 := ⟨lw_in (List.mem_of_getElem? (i := 655) (by decide +kernel)) rfl, lw_in (List.mem_of_getElem? (i := 652) (by decide +kernel)) rfl, lw_in (List.mem_of_getElem? (i := 653) (by decide +kernel)) rfl, lw_in (List.mem_of_getElem? (i := 654) (by decide +kernel)) rfl, lw_in (List.mem_of_getElem? (i := 39) (by decide +kernel)) rfl, rfl, by decide, by decide, by decide +kernel⟩
theorem mv_X9_217 : MV RX9 217 RX3 yX3_stopBy cX3_stopBy 2 none 1 := ⟨lw_in (List.mem_of_getElem? (i := 606) (by decide +kernel)) rfl, lw_in (List.mem_of_getElem? (i := 656) (by decide +kernel)) rfl, lw_in (List.mem_of_getElem? (i := 604) (by decide +kernel)) rfl, lw_in (List.mem_of_getElem? (i := 605) (by decide +kernel)) rfl, lw_in (List.mem_of_getElem? (i := 47) (by decide +kernel)) rfl, rfl, by decide, by decide, by decide +kernel⟩
theorem mv_L_98 : MV RL 98 RX9 yX9_about cX9_about 2 (some .int) 1 := ⟨lw_in (List.mem_of_getElem? (i := 660) (by decide +kernel)) rfl, lw_in (List.mem_of_getElem? (i := 657) (by decide +kernel)) rfl, lw_in (List.mem_of_getElem? (i := 658) (by decide +kernel)) rfl, lw_in (List.mem_of_getElem? (i := 659) (by decide +kernel)) rfl, lw_in (List.mem_of_getElem? (i := 39) (by decide +kernel)) rfl, rfl, by decide, by decide, by decide +kernel⟩
theorem mv_L_102 : MV RL 102 RX9 yX9_at cX9_at 3 (some .int) 2 := ⟨lw_in (List.mem_of_getElem? (i := 664) (by decide +kernel)) rfl, lw_in (List.mem_of_getElem? (i := 661) (by decide +kernel)) rfl, lw_in (List.mem_of_getElem? (i := 662) (by decide +kernel)) rfl, lw_in (List.mem_of_getElem? (i := 663) (by decide +kernel)) rfl, lw_in (List.mem_of_getElem? (i := 39) (by decide +kernel)) rfl, rfl, by decide, by decide, by decide +kernel⟩
theorem mv_L_106 : MV RL 106 RX9 yX9_travel cX9_travel 2 (some .long) 1 := ⟨lw_in (List.mem_of_getElem? (i := 668) (by decide +kernel)) rfl, lw_in (List.mem_of_getElem? (i := 665) (by decide +kernel)) rfl, lw_in (List.mem_of_getElem? (i := 666) (by decide +kernel)) rfl, lw_in (List.mem_of_getElem? (i := 667) (by decide +kernel)) rfl, lw_in (List.mem_of_getElem? (i := 39) (by decide +kernel)) rfl, rfl, by decide, by decide, by decide +kernel⟩
theorem mv_L_110 : MV RL 110 RX9 yX9_keep cX9_keep 2 (some .int) 1 := ⟨lw_in (List.mem_of_getElem? (i := 672) (by decide +kernel)) rfl, lw_in (List.mem_of_getElem? (i := 669) (by decide +kernel)) rfl, lw_in (List.mem_of_getElem? (i := 670) (by decide +kernel)) rfl, lw_in (List.mem_of_getElem? (i := 671) (by decide +kernel)) rfl, lw_in (List.mem_of_getElem? (i := 39) (by decide +kernel)) rfl, rfl, by decide, by decide, by decide +kernel⟩
theorem ms_X9_255 : MS RX9 255 yX9_isPlace cX9_isPlace 1 (some .boolean) 1 := ⟨lw_in (List.mem_of_getElem? (i := 675) (by decide +kernel)) rfl, lw_in (List.mem_of_getElem? (i := 673) (by decide +kernel)) rfl, lw_in (List.mem_of_getElem? (i := 674) (by decide +kernel)) rfl, lw_in (List.mem_of_getElem? (i := 39) (by decide +kernel)) rfl, by decide, by decide, by decide +kernel⟩
theorem mv_X9_258 : MV RX9 258 RX3 yX3_become cX3_become 3 none 1 := ⟨lw_in (List.mem_of_getElem? (i := 679) (by decide +kernel)) rfl, lw_in (List.mem_of_getElem? (i := 676) (by decide +kernel)) rfl, lw_in (List.mem_of_getElem? (i := 677) (by decide +kernel)) rfl, lw_in (List.mem_of_getElem? (i := 678) (by decide +kernel)) rfl, lw_in (List.mem_of_getElem? (i := 47) (by decide +kernel)) rfl, rfl, by decide, by decide, by decide +kernel⟩
theorem mv_X3_86 : MV RX3 86 RX4 yX4_become cX4_become 2 none 1 := ⟨lw_in (List.mem_of_getElem? (i := 684) (by decide +kernel)) rfl, lw_in (List.mem_of_getElem? (i := 681) (by decide +kernel)) rfl, lw_in (List.mem_of_getElem? (i := 682) (by decide +kernel)) rfl, lw_in (List.mem_of_getElem? (i := 683) (by decide +kernel)) rfl, lw_in (List.mem_of_getElem? (i := 48) (by decide +kernel)) rfl, rfl, by decide, by decide, by decide +kernel⟩
theorem mv_L_114 : MV RL 114 RX9 yX9_back cX9_back 2 (some .int) 1 := ⟨lw_in (List.mem_of_getElem? (i := 689) (by decide +kernel)) rfl, lw_in (List.mem_of_getElem? (i := 686) (by decide +kernel)) rfl, lw_in (List.mem_of_getElem? (i := 687) (by decide +kernel)) rfl, lw_in (List.mem_of_getElem? (i := 688) (by decide +kernel)) rfl, lw_in (List.mem_of_getElem? (i := 39) (by decide +kernel)) rfl, rfl, by decide, by decide, by decide +kernel⟩
theorem mv_X9_261 : MV RX9 261 RX9 yX9_canGoBackTo cX9_canGoBackTo 2 (some .boolean) 1 := ⟨lw_in (List.mem_of_getElem? (i := 693) (by decide +kernel)) rfl, lw_in (List.mem_of_getElem? (i := 690) (by decide +kernel)) rfl, lw_in (List.mem_of_getElem? (i := 692) (by decide +kernel)) rfl, lw_in (List.mem_of_getElem? (i := 11) (by decide +kernel)) rfl, lw_in (List.mem_of_getElem? (i := 39) (by decide +kernel)) rfl, rfl, by decide, by decide, by decide +kernel⟩
theorem mv_X9_294 : MV RX9 294 RX1 yX1_allows cX1_allows 3 (some .boolean) 1 := ⟨lw_in (List.mem_of_getElem? (i := 633) (by decide +kernel)) rfl, lw_in (List.mem_of_getElem? (i := 694) (by decide +kernel)) rfl, lw_in (List.mem_of_getElem? (i := 631) (by decide +kernel)) rfl, lw_in (List.mem_of_getElem? (i := 632) (by decide +kernel)) rfl, lw_in (List.mem_of_getElem? (i := 40) (by decide +kernel)) rfl, rfl, by decide, by decide, by decide +kernel⟩
theorem mv_L_118 : MV RL 118 RX9 yX9_replay cX9_replay 4 (some .int) 2 := ⟨lw_in (List.mem_of_getElem? (i := 698) (by decide +kernel)) rfl, lw_in (List.mem_of_getElem? (i := 695) (by decide +kernel)) rfl, lw_in (List.mem_of_getElem? (i := 696) (by decide +kernel)) rfl, lw_in (List.mem_of_getElem? (i := 697) (by decide +kernel)) rfl, lw_in (List.mem_of_getElem? (i := 39) (by decide +kernel)) rfl, rfl, by decide, by decide, by decide +kernel⟩
theorem mv_X9_264 : MV RX9 264 RX9 yX9_tickIfGoing cX9_tickIfGoing 2 none 1 := ⟨lw_in (List.mem_of_getElem? (i := 702) (by decide +kernel)) rfl, lw_in (List.mem_of_getElem? (i := 699) (by decide +kernel)) rfl, lw_in (List.mem_of_getElem? (i := 701) (by decide +kernel)) rfl, lw_in (List.mem_of_getElem? (i := 12) (by decide +kernel)) rfl, lw_in (List.mem_of_getElem? (i := 39) (by decide +kernel)) rfl, rfl, by decide, by decide, by decide +kernel⟩
theorem mv_X9_267 : MV RX9 267 RX3 yX3_differsFrom cX3_differsFrom 3 (some .boolean) 1 := ⟨lw_in (List.mem_of_getElem? (i := 706) (by decide +kernel)) rfl, lw_in (List.mem_of_getElem? (i := 703) (by decide +kernel)) rfl, lw_in (List.mem_of_getElem? (i := 704) (by decide +kernel)) rfl, lw_in (List.mem_of_getElem? (i := 705) (by decide +kernel)) rfl, lw_in (List.mem_of_getElem? (i := 47) (by decide +kernel)) rfl, rfl, by decide, by decide, by decide +kernel⟩
theorem mv_L_122 : MV RL 122 RX9 yX9_count cX9_count 2 (some .int) 1 := ⟨lw_in (List.mem_of_getElem? (i := 710) (by decide +kernel)) rfl, lw_in (List.mem_of_getElem? (i := 707) (by decide +kernel)) rfl, lw_in (List.mem_of_getElem? (i := 708) (by decide +kernel)) rfl, lw_in (List.mem_of_getElem? (i := 709) (by decide +kernel)) rfl, lw_in (List.mem_of_getElem? (i := 39) (by decide +kernel)) rfl, rfl, by decide, by decide, by decide +kernel⟩
theorem mv_X9_271 : MV RX9 271 RX1 yX1_boxesTold cX1_boxesTold 3 (some .int) 0 := ⟨lw_in (List.mem_of_getElem? (i := 714) (by decide +kernel)) rfl, lw_in (List.mem_of_getElem? (i := 711) (by decide +kernel)) rfl, lw_in (List.mem_of_getElem? (i := 712) (by decide +kernel)) rfl, lw_in (List.mem_of_getElem? (i := 713) (by decide +kernel)) rfl, lw_in (List.mem_of_getElem? (i := 40) (by decide +kernel)) rfl, rfl, by decide, by decide, by decide +kernel⟩
theorem mv_X9_275 : MV RX9 275 RX1 yX1_posesTaught cX1_posesTaught 3 (some .int) 0 := ⟨lw_in (List.mem_of_getElem? (i := 718) (by decide +kernel)) rfl, lw_in (List.mem_of_getElem? (i := 715) (by decide +kernel)) rfl, lw_in (List.mem_of_getElem? (i := 716) (by decide +kernel)) rfl, lw_in (List.mem_of_getElem? (i := 717) (by decide +kernel)) rfl, lw_in (List.mem_of_getElem? (i := 40) (by decide +kernel)) rfl, rfl, by decide, by decide, by decide +kernel⟩
theorem mv_L_126 : MV RL 126 RX9 yX9_digest cX9_digest 5 (some .long) 0 := ⟨lw_in (List.mem_of_getElem? (i := 722) (by decide +kernel)) rfl, lw_in (List.mem_of_getElem? (i := 719) (by decide +kernel)) rfl, lw_in (List.mem_of_getElem? (i := 720) (by decide +kernel)) rfl, lw_in (List.mem_of_getElem? (i := 721) (by decide +kernel)) rfl, lw_in (List.mem_of_getElem? (i := 39) (by decide +kernel)) rfl, rfl, by decide, by decide, by decide +kernel⟩
theorem mv_X9_282 : MV RX9 282 RX9 yX9_count cX9_count 2 (some .int) 1 := ⟨lw_in (List.mem_of_getElem? (i := 710) (by decide +kernel)) rfl, lw_in (List.mem_of_getElem? (i := 725) (by decide +kernel)) rfl, lw_in (List.mem_of_getElem? (i := 708) (by decide +kernel)) rfl, lw_in (List.mem_of_getElem? (i := 709) (by decide +kernel)) rfl, lw_in (List.mem_of_getElem? (i := 39) (by decide +kernel)) rfl, rfl, by decide, by decide, by decide +kernel⟩
theorem mv_X9_285 : MV RX9 285 RX9 yX9_tip cX9_tip 2 (some .long) 1 := ⟨lw_in (List.mem_of_getElem? (i := 421) (by decide +kernel)) rfl, lw_in (List.mem_of_getElem? (i := 726) (by decide +kernel)) rfl, lw_in (List.mem_of_getElem? (i := 419) (by decide +kernel)) rfl, lw_in (List.mem_of_getElem? (i := 420) (by decide +kernel)) rfl, lw_in (List.mem_of_getElem? (i := 39) (by decide +kernel)) rfl, rfl, by decide, by decide, by decide +kernel⟩
theorem mv_X9_287 : MV RX9 287 RX9 yX9_about cX9_about 2 (some .int) 1 := ⟨lw_in (List.mem_of_getElem? (i := 660) (by decide +kernel)) rfl, lw_in (List.mem_of_getElem? (i := 727) (by decide +kernel)) rfl, lw_in (List.mem_of_getElem? (i := 658) (by decide +kernel)) rfl, lw_in (List.mem_of_getElem? (i := 659) (by decide +kernel)) rfl, lw_in (List.mem_of_getElem? (i := 39) (by decide +kernel)) rfl, rfl, by decide, by decide, by decide +kernel⟩
theorem mv_X9_290 : MV RX9 290 RX9 yX9_at cX9_at 3 (some .int) 2 := ⟨lw_in (List.mem_of_getElem? (i := 664) (by decide +kernel)) rfl, lw_in (List.mem_of_getElem? (i := 728) (by decide +kernel)) rfl, lw_in (List.mem_of_getElem? (i := 662) (by decide +kernel)) rfl, lw_in (List.mem_of_getElem? (i := 663) (by decide +kernel)) rfl, lw_in (List.mem_of_getElem? (i := 39) (by decide +kernel)) rfl, rfl, by decide, by decide, by decide +kernel⟩
theorem mi_L_12 : MI RL 12 yX10_init cX10_init 1 0 := ⟨lw_in (List.mem_of_getElem? (i := 733) (by decide +kernel)) rfl, lw_in (List.mem_of_getElem? (i := 731) (by decide +kernel)) rfl, lw_in (List.mem_of_getElem? (i := 732) (by decide +kernel)) rfl, lw_in (List.mem_of_getElem? (i := 49) (by decide +kernel)) rfl, rfl, by decide, by decide, by decide +kernel⟩
theorem mv_L_17 : MV RL 17 RX10 yX10_joint cX10_joint 6 (some .int) 5 := ⟨lw_in (List.mem_of_getElem? (i := 832) (by decide +kernel)) rfl, lw_in (List.mem_of_getElem? (i := 829) (by decide +kernel)) rfl, lw_in (List.mem_of_getElem? (i := 830) (by decide +kernel)) rfl, lw_in (List.mem_of_getElem? (i := 831) (by decide +kernel)) rfl, lw_in (List.mem_of_getElem? (i := 49) (by decide +kernel)) rfl, rfl, by decide, by decide, by decide +kernel⟩
theorem mv_X10_86 : MV RX10 86 RX10 yX10_isJoint cX10_isJoint 2 (some .boolean) 1 := ⟨lw_in (List.mem_of_getElem? (i := 836) (by decide +kernel)) rfl, lw_in (List.mem_of_getElem? (i := 833) (by decide +kernel)) rfl, lw_in (List.mem_of_getElem? (i := 835) (by decide +kernel)) rfl, lw_in (List.mem_of_getElem? (i := 13) (by decide +kernel)) rfl, lw_in (List.mem_of_getElem? (i := 49) (by decide +kernel)) rfl, rfl, by decide, by decide, by decide +kernel⟩
theorem ms_X10_82 : MS RX10 82 yX10_in cX10_in 3 (some .boolean) 3 := ⟨lw_in (List.mem_of_getElem? (i := 839) (by decide +kernel)) rfl, lw_in (List.mem_of_getElem? (i := 837) (by decide +kernel)) rfl, lw_in (List.mem_of_getElem? (i := 838) (by decide +kernel)) rfl, lw_in (List.mem_of_getElem? (i := 49) (by decide +kernel)) rfl, by decide, by decide, by decide +kernel⟩
theorem mv_X10_91 : MV RX10 91 RX10 yX10_isGoing cX10_isGoing 1 (some .boolean) 0 := ⟨lw_in (List.mem_of_getElem? (i := 844) (by decide +kernel)) rfl, lw_in (List.mem_of_getElem? (i := 841) (by decide +kernel)) rfl, lw_in (List.mem_of_getElem? (i := 843) (by decide +kernel)) rfl, lw_in (List.mem_of_getElem? (i := 14) (by decide +kernel)) rfl, lw_in (List.mem_of_getElem? (i := 49) (by decide +kernel)) rfl, rfl, by decide, by decide, by decide +kernel⟩
theorem mv_L_22 : MV RL 22 RX10 yX10_limits cX10_limits 4 (some .int) 3 := ⟨lw_in (List.mem_of_getElem? (i := 848) (by decide +kernel)) rfl, lw_in (List.mem_of_getElem? (i := 845) (by decide +kernel)) rfl, lw_in (List.mem_of_getElem? (i := 846) (by decide +kernel)) rfl, lw_in (List.mem_of_getElem? (i := 847) (by decide +kernel)) rfl, lw_in (List.mem_of_getElem? (i := 49) (by decide +kernel)) rfl, rfl, by decide, by decide, by decide +kernel⟩
theorem mv_X10_97 : MV RX10 97 RX10 yX10_rowAt cX10_rowAt 2 (some .int) 1 := ⟨lw_in (List.mem_of_getElem? (i := 854) (by decide +kernel)) rfl, lw_in (List.mem_of_getElem? (i := 851) (by decide +kernel)) rfl, lw_in (List.mem_of_getElem? (i := 853) (by decide +kernel)) rfl, lw_in (List.mem_of_getElem? (i := 15) (by decide +kernel)) rfl, lw_in (List.mem_of_getElem? (i := 49) (by decide +kernel)) rfl, rfl, by decide, by decide, by decide +kernel⟩
theorem mv_L_27 : MV RL 27 RX10 yX10_jog cX10_jog 4 (some .int) 2 := ⟨lw_in (List.mem_of_getElem? (i := 858) (by decide +kernel)) rfl, lw_in (List.mem_of_getElem? (i := 855) (by decide +kernel)) rfl, lw_in (List.mem_of_getElem? (i := 856) (by decide +kernel)) rfl, lw_in (List.mem_of_getElem? (i := 857) (by decide +kernel)) rfl, lw_in (List.mem_of_getElem? (i := 49) (by decide +kernel)) rfl, rfl, by decide, by decide, by decide +kernel⟩
theorem mv_L_32 : MV RL 32 RX10 yX10_state cX10_state 2 (some .int) 1 := ⟨lw_in (List.mem_of_getElem? (i := 863) (by decide +kernel)) rfl, lw_in (List.mem_of_getElem? (i := 860) (by decide +kernel)) rfl, lw_in (List.mem_of_getElem? (i := 861) (by decide +kernel)) rfl, lw_in (List.mem_of_getElem? (i := 862) (by decide +kernel)) rfl, lw_in (List.mem_of_getElem? (i := 49) (by decide +kernel)) rfl, rfl, by decide, by decide, by decide +kernel⟩
theorem mv_L_37 : MV RL 37 RX10 yX10_tip cX10_tip 2 (some .long) 1 := ⟨lw_in (List.mem_of_getElem? (i := 867) (by decide +kernel)) rfl, lw_in (List.mem_of_getElem? (i := 864) (by decide +kernel)) rfl, lw_in (List.mem_of_getElem? (i := 865) (by decide +kernel)) rfl, lw_in (List.mem_of_getElem? (i := 866) (by decide +kernel)) rfl, lw_in (List.mem_of_getElem? (i := 49) (by decide +kernel)) rfl, rfl, by decide, by decide, by decide +kernel⟩
theorem mv_X10_155 : MV RX10 155 RX10 yX10_findTip cX10_findTip 6 none 0 := ⟨lw_in (List.mem_of_getElem? (i := 871) (by decide +kernel)) rfl, lw_in (List.mem_of_getElem? (i := 868) (by decide +kernel)) rfl, lw_in (List.mem_of_getElem? (i := 870) (by decide +kernel)) rfl, lw_in (List.mem_of_getElem? (i := 16) (by decide +kernel)) rfl, lw_in (List.mem_of_getElem? (i := 49) (by decide +kernel)) rfl, rfl, by decide, by decide, by decide +kernel⟩
theorem ms_X10_141 : MS RX10 141 yX10_sineOf cX10_sineOf 12 (some .double) 1 := ⟨lw_in (List.mem_of_getElem? (i := 876) (by decide +kernel)) rfl, lw_in (List.mem_of_getElem? (i := 874) (by decide +kernel)) rfl, lw_in (List.mem_of_getElem? (i := 875) (by decide +kernel)) rfl, lw_in (List.mem_of_getElem? (i := 49) (by decide +kernel)) rfl, by decide, by decide, by decide +kernel⟩
theorem ms_X10_158 : MS RX10 158 yX10_bitsOf cX10_bitsOf 10 (some .long) 1 := ⟨lw_in (List.mem_of_getElem? (i := 894) (by decide +kernel)) rfl, lw_in (List.mem_of_getElem? (i := 892) (by decide +kernel)) rfl, lw_in (List.mem_of_getElem? (i := 893) (by decide +kernel)) rfl, lw_in (List.mem_of_getElem? (i := 49) (by decide +kernel)) rfl, by decide, by decide, by decide +kernel⟩
theorem mv_L_41 : MV RL 41 RX10 yX10_sine cX10_sine 2 (some .long) 1 := ⟨lw_in (List.mem_of_getElem? (i := 903) (by decide +kernel)) rfl, lw_in (List.mem_of_getElem? (i := 900) (by decide +kernel)) rfl, lw_in (List.mem_of_getElem? (i := 901) (by decide +kernel)) rfl, lw_in (List.mem_of_getElem? (i := 902) (by decide +kernel)) rfl, lw_in (List.mem_of_getElem? (i := 49) (by decide +kernel)) rfl, rfl, by decide, by decide, by decide +kernel⟩
theorem mv_L_45 : MV RL 45 RX10 yX10_box cX10_box 6 (some .int) 5 := ⟨lw_in (List.mem_of_getElem? (i := 907) (by decide +kernel)) rfl, lw_in (List.mem_of_getElem? (i := 904) (by decide +kernel)) rfl, lw_in (List.mem_of_getElem? (i := 905) (by decide +kernel)) rfl, lw_in (List.mem_of_getElem? (i := 906) (by decide +kernel)) rfl, lw_in (List.mem_of_getElem? (i := 49) (by decide +kernel)) rfl, rfl, by decide, by decide, by decide +kernel⟩
theorem mv_L_49 : MV RL 49 RX10 yX10_unbox cX10_unbox 2 (some .int) 1 := ⟨lw_in (List.mem_of_getElem? (i := 911) (by decide +kernel)) rfl, lw_in (List.mem_of_getElem? (i := 908) (by decide +kernel)) rfl, lw_in (List.mem_of_getElem? (i := 909) (by decide +kernel)) rfl, lw_in (List.mem_of_getElem? (i := 910) (by decide +kernel)) rfl, lw_in (List.mem_of_getElem? (i := 49) (by decide +kernel)) rfl, rfl, by decide, by decide, by decide +kernel⟩
theorem mv_L_53 : MV RL 53 RX10 yX10_teach cX10_teach 3 (some .int) 1 := ⟨lw_in (List.mem_of_getElem? (i := 915) (by decide +kernel)) rfl, lw_in (List.mem_of_getElem? (i := 912) (by decide +kernel)) rfl, lw_in (List.mem_of_getElem? (i := 913) (by decide +kernel)) rfl, lw_in (List.mem_of_getElem? (i := 914) (by decide +kernel)) rfl, lw_in (List.mem_of_getElem? (i := 49) (by decide +kernel)) rfl, rfl, by decide, by decide, by decide +kernel⟩
theorem ms_X10_165 : MS RX10 165 yX10_isPose cX10_isPose 1 (some .boolean) 1 := ⟨lw_in (List.mem_of_getElem? (i := 918) (by decide +kernel)) rfl, lw_in (List.mem_of_getElem? (i := 916) (by decide +kernel)) rfl, lw_in (List.mem_of_getElem? (i := 917) (by decide +kernel)) rfl, lw_in (List.mem_of_getElem? (i := 49) (by decide +kernel)) rfl, by decide, by decide, by decide +kernel⟩
theorem mv_L_57 : MV RL 57 RX10 yX10_pose cX10_pose 3 (some .int) 2 := ⟨lw_in (List.mem_of_getElem? (i := 922) (by decide +kernel)) rfl, lw_in (List.mem_of_getElem? (i := 919) (by decide +kernel)) rfl, lw_in (List.mem_of_getElem? (i := 920) (by decide +kernel)) rfl, lw_in (List.mem_of_getElem? (i := 921) (by decide +kernel)) rfl, lw_in (List.mem_of_getElem? (i := 49) (by decide +kernel)) rfl, rfl, by decide, by decide, by decide +kernel⟩
theorem mv_L_61 : MV RL 61 RX10 yX10_plan cX10_plan 3 (some .int) 2 := ⟨lw_in (List.mem_of_getElem? (i := 926) (by decide +kernel)) rfl, lw_in (List.mem_of_getElem? (i := 923) (by decide +kernel)) rfl, lw_in (List.mem_of_getElem? (i := 924) (by decide +kernel)) rfl, lw_in (List.mem_of_getElem? (i := 925) (by decide +kernel)) rfl, lw_in (List.mem_of_getElem? (i := 49) (by decide +kernel)) rfl, rfl, by decide, by decide, by decide +kernel⟩
theorem mv_X10_196 : MV RX10 196 RX10 yX10_plans cX10_plans 10 none 2 := ⟨lw_in (List.mem_of_getElem? (i := 930) (by decide +kernel)) rfl, lw_in (List.mem_of_getElem? (i := 927) (by decide +kernel)) rfl, lw_in (List.mem_of_getElem? (i := 929) (by decide +kernel)) rfl, lw_in (List.mem_of_getElem? (i := 17) (by decide +kernel)) rfl, lw_in (List.mem_of_getElem? (i := 49) (by decide +kernel)) rfl, rfl, by decide, by decide, by decide +kernel⟩
theorem ms_X10_193 : MS RX10 193 yX10_ticksFor cX10_ticksFor 12 (some .long) 3 := ⟨lw_in (List.mem_of_getElem? (i := 934) (by decide +kernel)) rfl, lw_in (List.mem_of_getElem? (i := 932) (by decide +kernel)) rfl, lw_in (List.mem_of_getElem? (i := 933) (by decide +kernel)) rfl, lw_in (List.mem_of_getElem? (i := 49) (by decide +kernel)) rfl, by decide, by decide, by decide +kernel⟩
theorem ms_X10_174 : MS RX10 174 yX10_gone cX10_gone 10 (some .long) 4 := ⟨lw_in (List.mem_of_getElem? (i := 938) (by decide +kernel)) rfl, lw_in (List.mem_of_getElem? (i := 936) (by decide +kernel)) rfl, lw_in (List.mem_of_getElem? (i := 937) (by decide +kernel)) rfl, lw_in (List.mem_of_getElem? (i := 49) (by decide +kernel)) rfl, by decide, by decide, by decide +kernel⟩
theorem ms_X10_170 : MS RX10 170 yX10_risen cX10_risen 8 (some .long) 3 := ⟨lw_in (List.mem_of_getElem? (i := 941) (by decide +kernel)) rfl, lw_in (List.mem_of_getElem? (i := 939) (by decide +kernel)) rfl, lw_in (List.mem_of_getElem? (i := 940) (by decide +kernel)) rfl, lw_in (List.mem_of_getElem? (i := 49) (by decide +kernel)) rfl, by decide, by decide, by decide +kernel⟩
theorem mv_L_66 : MV RL 66 RX10 yX10_along cX10_along 5 (some .int) 4 := ⟨lw_in (List.mem_of_getElem? (i := 945) (by decide +kernel)) rfl, lw_in (List.mem_of_getElem? (i := 942) (by decide +kernel)) rfl, lw_in (List.mem_of_getElem? (i := 943) (by decide +kernel)) rfl, lw_in (List.mem_of_getElem? (i := 944) (by decide +kernel)) rfl, lw_in (List.mem_of_getElem? (i := 49) (by decide +kernel)) rfl, rfl, by decide, by decide, by decide +kernel⟩
theorem ms_X10_200 : MS RX10 200 yX10_stateBehind cX10_stateBehind 16 (some .long) 7 := ⟨lw_in (List.mem_of_getElem? (i := 948) (by decide +kernel)) rfl, lw_in (List.mem_of_getElem? (i := 946) (by decide +kernel)) rfl, lw_in (List.mem_of_getElem? (i := 947) (by decide +kernel)) rfl, lw_in (List.mem_of_getElem? (i := 49) (by decide +kernel)) rfl, by decide, by decide, by decide +kernel⟩
theorem mv_L_70 : MV RL 70 RX10 yX10_line cX10_line 4 (some .int) 3 := ⟨lw_in (List.mem_of_getElem? (i := 952) (by decide +kernel)) rfl, lw_in (List.mem_of_getElem? (i := 949) (by decide +kernel)) rfl, lw_in (List.mem_of_getElem? (i := 950) (by decide +kernel)) rfl, lw_in (List.mem_of_getElem? (i := 951) (by decide +kernel)) rfl, lw_in (List.mem_of_getElem? (i := 49) (by decide +kernel)) rfl, rfl, by decide, by decide, by decide +kernel⟩
theorem ms_X10_204 : MS RX10 204 yX10_isLineRight cX10_isLineRight 3 (some .boolean) 3 := ⟨lw_in (List.mem_of_getElem? (i := 955) (by decide +kernel)) rfl, lw_in (List.mem_of_getElem? (i := 953) (by decide +kernel)) rfl, lw_in (List.mem_of_getElem? (i := 954) (by decide +kernel)) rfl, lw_in (List.mem_of_getElem? (i := 49) (by decide +kernel)) rfl, by decide, by decide, by decide +kernel⟩
theorem mv_L_75 : MV RL 75 RX10 yX10_clear cX10_clear 2 (some .int) 0 := ⟨lw_in (List.mem_of_getElem? (i := 959) (by decide +kernel)) rfl, lw_in (List.mem_of_getElem? (i := 956) (by decide +kernel)) rfl, lw_in (List.mem_of_getElem? (i := 957) (by decide +kernel)) rfl, lw_in (List.mem_of_getElem? (i := 958) (by decide +kernel)) rfl, lw_in (List.mem_of_getElem? (i := 49) (by decide +kernel)) rfl, rfl, by decide, by decide, by decide +kernel⟩
theorem mv_L_80 : MV RL 80 RX10 yX10_script cX10_script 4 (some .int) 3 := ⟨lw_in (List.mem_of_getElem? (i := 963) (by decide +kernel)) rfl, lw_in (List.mem_of_getElem? (i := 960) (by decide +kernel)) rfl, lw_in (List.mem_of_getElem? (i := 961) (by decide +kernel)) rfl, lw_in (List.mem_of_getElem? (i := 962) (by decide +kernel)) rfl, lw_in (List.mem_of_getElem? (i := 49) (by decide +kernel)) rfl, rfl, by decide, by decide, by decide +kernel⟩
theorem mv_L_85 : MV RL 85 RX10 yX10_input cX10_input 3 (some .int) 2 := ⟨lw_in (List.mem_of_getElem? (i := 967) (by decide +kernel)) rfl, lw_in (List.mem_of_getElem? (i := 964) (by decide +kernel)) rfl, lw_in (List.mem_of_getElem? (i := 965) (by decide +kernel)) rfl, lw_in (List.mem_of_getElem? (i := 966) (by decide +kernel)) rfl, lw_in (List.mem_of_getElem? (i := 49) (by decide +kernel)) rfl, rfl, by decide, by decide, by decide +kernel⟩
theorem mv_L_89 : MV RL 89 RX10 yX10_run cX10_run 2 (some .int) 0 := ⟨lw_in (List.mem_of_getElem? (i := 971) (by decide +kernel)) rfl, lw_in (List.mem_of_getElem? (i := 968) (by decide +kernel)) rfl, lw_in (List.mem_of_getElem? (i := 969) (by decide +kernel)) rfl, lw_in (List.mem_of_getElem? (i := 970) (by decide +kernel)) rfl, lw_in (List.mem_of_getElem? (i := 49) (by decide +kernel)) rfl, rfl, by decide, by decide, by decide +kernel⟩
theorem mv_L_93 : MV RL 93 RX10 yX10_tick cX10_tick 3 (some .int) 1 := ⟨lw_in (List.mem_of_getElem? (i := 975) (by decide +kernel)) rfl, lw_in (List.mem_of_getElem? (i := 972) (by decide +kernel)) rfl, lw_in (List.mem_of_getElem? (i := 973) (by decide +kernel)) rfl, lw_in (List.mem_of_getElem? (i := 974) (by decide +kernel)) rfl, lw_in (List.mem_of_getElem? (i := 49) (by decide +kernel)) rfl, rfl, by decide, by decide, by decide +kernel⟩
theorem mv_X10_255 : MV RX10 255 RX10 yX10_ticks cX10_ticks 6 none 0 := ⟨lw_in (List.mem_of_getElem? (i := 979) (by decide +kernel)) rfl, lw_in (List.mem_of_getElem? (i := 976) (by decide +kernel)) rfl, lw_in (List.mem_of_getElem? (i := 978) (by decide +kernel)) rfl, lw_in (List.mem_of_getElem? (i := 18) (by decide +kernel)) rfl, lw_in (List.mem_of_getElem? (i := 49) (by decide +kernel)) rfl, rfl, by decide, by decide, by decide +kernel⟩
theorem mv_X10_249 : MV RX10 249 RX10 yX10_goesTick cX10_goesTick 1 (some .boolean) 0 := ⟨lw_in (List.mem_of_getElem? (i := 983) (by decide +kernel)) rfl, lw_in (List.mem_of_getElem? (i := 980) (by decide +kernel)) rfl, lw_in (List.mem_of_getElem? (i := 982) (by decide +kernel)) rfl, lw_in (List.mem_of_getElem? (i := 19) (by decide +kernel)) rfl, lw_in (List.mem_of_getElem? (i := 49) (by decide +kernel)) rfl, rfl, by decide, by decide, by decide +kernel⟩
theorem mv_X10_226 : MV RX10 226 RX10 yX10_isOn cX10_isOn 2 (some .boolean) 1 := ⟨lw_in (List.mem_of_getElem? (i := 987) (by decide +kernel)) rfl, lw_in (List.mem_of_getElem? (i := 984) (by decide +kernel)) rfl, lw_in (List.mem_of_getElem? (i := 986) (by decide +kernel)) rfl, lw_in (List.mem_of_getElem? (i := 20) (by decide +kernel)) rfl, lw_in (List.mem_of_getElem? (i := 49) (by decide +kernel)) rfl, rfl, by decide, by decide, by decide +kernel⟩
theorem mv_X10_223 : MV RX10 223 RX10 yX10_over cX10_over 1 none 0 := ⟨lw_in (List.mem_of_getElem? (i := 991) (by decide +kernel)) rfl, lw_in (List.mem_of_getElem? (i := 988) (by decide +kernel)) rfl, lw_in (List.mem_of_getElem? (i := 990) (by decide +kernel)) rfl, lw_in (List.mem_of_getElem? (i := 21) (by decide +kernel)) rfl, lw_in (List.mem_of_getElem? (i := 49) (by decide +kernel)) rfl, rfl, by decide, by decide, by decide +kernel⟩
theorem mv_X10_229 : MV RX10 229 RX10 yX10_goesOn cX10_goesOn 4 none 0 := ⟨lw_in (List.mem_of_getElem? (i := 995) (by decide +kernel)) rfl, lw_in (List.mem_of_getElem? (i := 992) (by decide +kernel)) rfl, lw_in (List.mem_of_getElem? (i := 994) (by decide +kernel)) rfl, lw_in (List.mem_of_getElem? (i := 22) (by decide +kernel)) rfl, lw_in (List.mem_of_getElem? (i := 49) (by decide +kernel)) rfl, rfl, by decide, by decide, by decide +kernel⟩
theorem mv_X10_216 : MV RX10 216 RX10 yX10_isBarred cX10_isBarred 3 (some .boolean) 0 := ⟨lw_in (List.mem_of_getElem? (i := 999) (by decide +kernel)) rfl, lw_in (List.mem_of_getElem? (i := 996) (by decide +kernel)) rfl, lw_in (List.mem_of_getElem? (i := 998) (by decide +kernel)) rfl, lw_in (List.mem_of_getElem? (i := 23) (by decide +kernel)) rfl, lw_in (List.mem_of_getElem? (i := 49) (by decide +kernel)) rfl, rfl, by decide, by decide, by decide +kernel⟩
theorem mv_X10_162 : MV RX10 162 RX10 yX10_isIn cX10_isIn 2 (some .boolean) 1 := ⟨lw_in (List.mem_of_getElem? (i := 1003) (by decide +kernel)) rfl, lw_in (List.mem_of_getElem? (i := 1000) (by decide +kernel)) rfl, lw_in (List.mem_of_getElem? (i := 1002) (by decide +kernel)) rfl, lw_in (List.mem_of_getElem? (i := 24) (by decide +kernel)) rfl, lw_in (List.mem_of_getElem? (i := 49) (by decide +kernel)) rfl, rfl, by decide, by decide, by decide +kernel⟩
theorem mv_X10_219 : MV RX10 219 RX10 yX10_errs cX10_errs 3 none 1 := ⟨lw_in (List.mem_of_getElem? (i := 1007) (by decide +kernel)) rfl, lw_in (List.mem_of_getElem? (i := 1004) (by decide +kernel)) rfl, lw_in (List.mem_of_getElem? (i := 1006) (by decide +kernel)) rfl, lw_in (List.mem_of_getElem? (i := 25) (by decide +kernel)) rfl, lw_in (List.mem_of_getElem? (i := 49) (by decide +kernel)) rfl, rfl, by decide, by decide, by decide +kernel⟩
theorem mv_X10_252 : MV RX10 252 RX10 yX10_doesLine cX10_doesLine 4 none 0 := ⟨lw_in (List.mem_of_getElem? (i := 1012) (by decide +kernel)) rfl, lw_in (List.mem_of_getElem? (i := 1009) (by decide +kernel)) rfl, lw_in (List.mem_of_getElem? (i := 1011) (by decide +kernel)) rfl, lw_in (List.mem_of_getElem? (i := 26) (by decide +kernel)) rfl, lw_in (List.mem_of_getElem? (i := 49) (by decide +kernel)) rfl, rfl, by decide, by decide, by decide +kernel⟩
theorem mv_X10_237 : MV RX10 237 RX10 yX10_begins cX10_begins 4 none 2 := ⟨lw_in (List.mem_of_getElem? (i := 1016) (by decide +kernel)) rfl, lw_in (List.mem_of_getElem? (i := 1013) (by decide +kernel)) rfl, lw_in (List.mem_of_getElem? (i := 1015) (by decide +kernel)) rfl, lw_in (List.mem_of_getElem? (i := 27) (by decide +kernel)) rfl, lw_in (List.mem_of_getElem? (i := 49) (by decide +kernel)) rfl, rfl, by decide, by decide, by decide +kernel⟩
theorem mv_X10_232 : MV RX10 232 RX10 yX10_isWithin cX10_isWithin 4 (some .boolean) 1 := ⟨lw_in (List.mem_of_getElem? (i := 1020) (by decide +kernel)) rfl, lw_in (List.mem_of_getElem? (i := 1017) (by decide +kernel)) rfl, lw_in (List.mem_of_getElem? (i := 1019) (by decide +kernel)) rfl, lw_in (List.mem_of_getElem? (i := 28) (by decide +kernel)) rfl, lw_in (List.mem_of_getElem? (i := 49) (by decide +kernel)) rfl, rfl, by decide, by decide, by decide +kernel⟩
theorem mv_X10_240 : MV RX10 240 RX10 yX10_goesTo cX10_goesTo 2 none 1 := ⟨lw_in (List.mem_of_getElem? (i := 1024) (by decide +kernel)) rfl, lw_in (List.mem_of_getElem? (i := 1021) (by decide +kernel)) rfl, lw_in (List.mem_of_getElem? (i := 1023) (by decide +kernel)) rfl, lw_in (List.mem_of_getElem? (i := 29) (by decide +kernel)) rfl, lw_in (List.mem_of_getElem? (i := 49) (by decide +kernel)) rfl, rfl, by decide, by decide, by decide +kernel⟩
theorem mv_X10_243 : MV RX10 243 RX10 yX10_calls cX10_calls 2 none 1 := ⟨lw_in (List.mem_of_getElem? (i := 1028) (by decide +kernel)) rfl, lw_in (List.mem_of_getElem? (i := 1025) (by decide +kernel)) rfl, lw_in (List.mem_of_getElem? (i := 1027) (by decide +kernel)) rfl, lw_in (List.mem_of_getElem? (i := 30) (by decide +kernel)) rfl, lw_in (List.mem_of_getElem? (i := 49) (by decide +kernel)) rfl, rfl, by decide, by decide, by decide +kernel⟩
theorem mv_X10_246 : MV RX10 246 RX10 yX10_comesBack cX10_comesBack 1 none 0 := ⟨lw_in (List.mem_of_getElem? (i := 1033) (by decide +kernel)) rfl, lw_in (List.mem_of_getElem? (i := 1030) (by decide +kernel)) rfl, lw_in (List.mem_of_getElem? (i := 1032) (by decide +kernel)) rfl, lw_in (List.mem_of_getElem? (i := 31) (by decide +kernel)) rfl, lw_in (List.mem_of_getElem? (i := 49) (by decide +kernel)) rfl, rfl, by decide, by decide, by decide +kernel⟩
theorem mv_L_97 : MV RL 97 RX10 yX10_stop cX10_stop 1 (some .int) 0 := ⟨lw_in (List.mem_of_getElem? (i := 1037) (by decide +kernel)) rfl, lw_in (List.mem_of_getElem? (i := 1034) (by decide +kernel)) rfl, lw_in (List.mem_of_getElem? (i := 1035) (by decide +kernel)) rfl, lw_in (List.mem_of_getElem? (i := 1036) (by decide +kernel)) rfl, lw_in (List.mem_of_getElem? (i := 49) (by decide +kernel)) rfl, rfl, by decide, by decide, by decide +kernel⟩
theorem mv_L_101 : MV RL 101 RX10 yX10_about cX10_about 2 (some .int) 1 := ⟨lw_in (List.mem_of_getElem? (i := 1042) (by decide +kernel)) rfl, lw_in (List.mem_of_getElem? (i := 1039) (by decide +kernel)) rfl, lw_in (List.mem_of_getElem? (i := 1040) (by decide +kernel)) rfl, lw_in (List.mem_of_getElem? (i := 1041) (by decide +kernel)) rfl, lw_in (List.mem_of_getElem? (i := 49) (by decide +kernel)) rfl, rfl, by decide, by decide, by decide +kernel⟩
theorem mv_X10_260 : MV RX10 260 RX10 yX10_aboutOf cX10_aboutOf 2 (some .int) 1 := ⟨lw_in (List.mem_of_getElem? (i := 1046) (by decide +kernel)) rfl, lw_in (List.mem_of_getElem? (i := 1043) (by decide +kernel)) rfl, lw_in (List.mem_of_getElem? (i := 1045) (by decide +kernel)) rfl, lw_in (List.mem_of_getElem? (i := 32) (by decide +kernel)) rfl, lw_in (List.mem_of_getElem? (i := 49) (by decide +kernel)) rfl, rfl, by decide, by decide, by decide +kernel⟩
theorem mv_L_105 : MV RL 105 RX10 yX10_at cX10_at 3 (some .int) 2 := ⟨lw_in (List.mem_of_getElem? (i := 1050) (by decide +kernel)) rfl, lw_in (List.mem_of_getElem? (i := 1047) (by decide +kernel)) rfl, lw_in (List.mem_of_getElem? (i := 1048) (by decide +kernel)) rfl, lw_in (List.mem_of_getElem? (i := 1049) (by decide +kernel)) rfl, lw_in (List.mem_of_getElem? (i := 49) (by decide +kernel)) rfl, rfl, by decide, by decide, by decide +kernel⟩
theorem mv_L_109 : MV RL 109 RX10 yX10_travel cX10_travel 2 (some .long) 1 := ⟨lw_in (List.mem_of_getElem? (i := 1054) (by decide +kernel)) rfl, lw_in (List.mem_of_getElem? (i := 1051) (by decide +kernel)) rfl, lw_in (List.mem_of_getElem? (i := 1052) (by decide +kernel)) rfl, lw_in (List.mem_of_getElem? (i := 1053) (by decide +kernel)) rfl, lw_in (List.mem_of_getElem? (i := 49) (by decide +kernel)) rfl, rfl, by decide, by decide, by decide +kernel⟩
theorem mv_L_113 : MV RL 113 RX10 yX10_keep cX10_keep 2 (some .int) 1 := ⟨lw_in (List.mem_of_getElem? (i := 1058) (by decide +kernel)) rfl, lw_in (List.mem_of_getElem? (i := 1055) (by decide +kernel)) rfl, lw_in (List.mem_of_getElem? (i := 1056) (by decide +kernel)) rfl, lw_in (List.mem_of_getElem? (i := 1057) (by decide +kernel)) rfl, lw_in (List.mem_of_getElem? (i := 49) (by decide +kernel)) rfl, rfl, by decide, by decide, by decide +kernel⟩
theorem mv_X10_263 : MV RX10 263 RX10 yX10_copy cX10_copy 4 none 2 := ⟨lw_in (List.mem_of_getElem? (i := 1062) (by decide +kernel)) rfl, lw_in (List.mem_of_getElem? (i := 1059) (by decide +kernel)) rfl, lw_in (List.mem_of_getElem? (i := 1061) (by decide +kernel)) rfl, lw_in (List.mem_of_getElem? (i := 33) (by decide +kernel)) rfl, lw_in (List.mem_of_getElem? (i := 49) (by decide +kernel)) rfl, rfl, by decide, by decide, by decide +kernel⟩
theorem mv_L_117 : MV RL 117 RX10 yX10_back cX10_back 2 (some .int) 1 := ⟨lw_in (List.mem_of_getElem? (i := 1066) (by decide +kernel)) rfl, lw_in (List.mem_of_getElem? (i := 1063) (by decide +kernel)) rfl, lw_in (List.mem_of_getElem? (i := 1064) (by decide +kernel)) rfl, lw_in (List.mem_of_getElem? (i := 1065) (by decide +kernel)) rfl, lw_in (List.mem_of_getElem? (i := 49) (by decide +kernel)) rfl, rfl, by decide, by decide, by decide +kernel⟩
theorem mv_X10_266 : MV RX10 266 RX10 yX10_against cX10_against 4 (some .int) 1 := ⟨lw_in (List.mem_of_getElem? (i := 1070) (by decide +kernel)) rfl, lw_in (List.mem_of_getElem? (i := 1067) (by decide +kernel)) rfl, lw_in (List.mem_of_getElem? (i := 1069) (by decide +kernel)) rfl, lw_in (List.mem_of_getElem? (i := 34) (by decide +kernel)) rfl, lw_in (List.mem_of_getElem? (i := 49) (by decide +kernel)) rfl, rfl, by decide, by decide, by decide +kernel⟩
theorem mv_L_121 : MV RL 121 RX10 yX10_replay cX10_replay 5 (some .int) 2 := ⟨lw_in (List.mem_of_getElem? (i := 1074) (by decide +kernel)) rfl, lw_in (List.mem_of_getElem? (i := 1071) (by decide +kernel)) rfl, lw_in (List.mem_of_getElem? (i := 1072) (by decide +kernel)) rfl, lw_in (List.mem_of_getElem? (i := 1073) (by decide +kernel)) rfl, lw_in (List.mem_of_getElem? (i := 49) (by decide +kernel)) rfl, rfl, by decide, by decide, by decide +kernel⟩
theorem mv_X10_269 : MV RX10 269 RX10 yX10_sees cX10_sees 3 none 1 := ⟨lw_in (List.mem_of_getElem? (i := 1078) (by decide +kernel)) rfl, lw_in (List.mem_of_getElem? (i := 1075) (by decide +kernel)) rfl, lw_in (List.mem_of_getElem? (i := 1077) (by decide +kernel)) rfl, lw_in (List.mem_of_getElem? (i := 35) (by decide +kernel)) rfl, lw_in (List.mem_of_getElem? (i := 49) (by decide +kernel)) rfl, rfl, by decide, by decide, by decide +kernel⟩
theorem mv_X10_272 : MV RX10 272 RX10 yX10_goesIfGoing cX10_goesIfGoing 1 none 0 := ⟨lw_in (List.mem_of_getElem? (i := 1082) (by decide +kernel)) rfl, lw_in (List.mem_of_getElem? (i := 1079) (by decide +kernel)) rfl, lw_in (List.mem_of_getElem? (i := 1081) (by decide +kernel)) rfl, lw_in (List.mem_of_getElem? (i := 36) (by decide +kernel)) rfl, lw_in (List.mem_of_getElem? (i := 49) (by decide +kernel)) rfl, rfl, by decide, by decide, by decide +kernel⟩
theorem mv_X10_275 : MV RX10 275 RX10 yX10_isAsSeen cX10_isAsSeen 4 (some .boolean) 1 := ⟨lw_in (List.mem_of_getElem? (i := 1086) (by decide +kernel)) rfl, lw_in (List.mem_of_getElem? (i := 1083) (by decide +kernel)) rfl, lw_in (List.mem_of_getElem? (i := 1085) (by decide +kernel)) rfl, lw_in (List.mem_of_getElem? (i := 37) (by decide +kernel)) rfl, lw_in (List.mem_of_getElem? (i := 49) (by decide +kernel)) rfl, rfl, by decide, by decide, by decide +kernel⟩
theorem mv_L_125 : MV RL 125 RX10 yX10_count cX10_count 4 (some .int) 1 := ⟨lw_in (List.mem_of_getElem? (i := 1090) (by decide +kernel)) rfl, lw_in (List.mem_of_getElem? (i := 1087) (by decide +kernel)) rfl, lw_in (List.mem_of_getElem? (i := 1088) (by decide +kernel)) rfl, lw_in (List.mem_of_getElem? (i := 1089) (by decide +kernel)) rfl, lw_in (List.mem_of_getElem? (i := 49) (by decide +kernel)) rfl, rfl, by decide, by decide, by decide +kernel⟩
theorem mv_L_130 : MV RL 130 RX10 yX10_digest cX10_digest 5 (some .long) 0 := ⟨lw_in (List.mem_of_getElem? (i := 1094) (by decide +kernel)) rfl, lw_in (List.mem_of_getElem? (i := 1091) (by decide +kernel)) rfl, lw_in (List.mem_of_getElem? (i := 1092) (by decide +kernel)) rfl, lw_in (List.mem_of_getElem? (i := 1093) (by decide +kernel)) rfl, lw_in (List.mem_of_getElem? (i := 49) (by decide +kernel)) rfl, rfl, by decide, by decide, by decide +kernel⟩
theorem mv_X10_282 : MV RX10 282 RX10 yX10_count cX10_count 4 (some .int) 1 := ⟨lw_in (List.mem_of_getElem? (i := 1090) (by decide +kernel)) rfl, lw_in (List.mem_of_getElem? (i := 1097) (by decide +kernel)) rfl, lw_in (List.mem_of_getElem? (i := 1088) (by decide +kernel)) rfl, lw_in (List.mem_of_getElem? (i := 1089) (by decide +kernel)) rfl, lw_in (List.mem_of_getElem? (i := 49) (by decide +kernel)) rfl, rfl, by decide, by decide, by decide +kernel⟩
theorem mv_X10_285 : MV RX10 285 RX10 yX10_tip cX10_tip 2 (some .long) 1 := ⟨lw_in (List.mem_of_getElem? (i := 867) (by decide +kernel)) rfl, lw_in (List.mem_of_getElem? (i := 1098) (by decide +kernel)) rfl, lw_in (List.mem_of_getElem? (i := 865) (by decide +kernel)) rfl, lw_in (List.mem_of_getElem? (i := 866) (by decide +kernel)) rfl, lw_in (List.mem_of_getElem? (i := 49) (by decide +kernel)) rfl, rfl, by decide, by decide, by decide +kernel⟩
theorem mv_X10_289 : MV RX10 289 RX10 yX10_at cX10_at 3 (some .int) 2 := ⟨lw_in (List.mem_of_getElem? (i := 1050) (by decide +kernel)) rfl, lw_in (List.mem_of_getElem? (i := 1099) (by decide +kernel)) rfl, lw_in (List.mem_of_getElem? (i := 1048) (by decide +kernel)) rfl, lw_in (List.mem_of_getElem? (i := 1049) (by decide +kernel)) rfl, lw_in (List.mem_of_getElem? (i := 49) (by decide +kernel)) rfl, rfl, by decide, by decide, by decide +kernel⟩
end
section
/-! WORLDS AS MEMORY: kinds by address, references, ints, longs, doubles by address and place -/
abbrev Wd : Type := Nat × (Nat → Option (Nat ⊕ (Nat × Nat))) × (Nat → Nat → Option Nat) × (Nat → Nat → Int32) × (Nat → Nat → Int64) × (Nat → Nat → UInt64)
def wN (w : Wd) : Nat := w.1
def wK (w : Wd) : Nat → Option (Nat ⊕ (Nat × Nat)) := w.2.1
def wR (w : Wd) : Nat → Nat → Option Nat := w.2.2.1
def wI (w : Wd) : Nat → Nat → Int32 := w.2.2.2.1
def wJ (w : Wd) : Nat → Nat → Int64 := w.2.2.2.2.1
def wD (w : Wd) : Nat → Nat → UInt64 := w.2.2.2.2.2
def up2 {α : Type} (f : Nat → Nat → α) (a k : Nat) (v : α) : Nat → Nat → α := fun x y => if x = a ∧ y = k then v else f x y
theorem up2_s {α : Type} (f : Nat → Nat → α) (a k : Nat) (v : α) : up2 f a k v a k = v := if_pos ⟨rfl, rfl⟩
theorem up2_a {α : Type} {f : Nat → Nat → α} {a k x y : Nat} {v : α} (h : x ≠ a) : up2 f a k v x y = f x y := if_neg (fun q => h q.1)
theorem up2_k {α : Type} {f : Nat → Nat → α} {a k x y : Nat} {v : α} (h : y ≠ k) : up2 f a k v x y = f x y := if_neg (fun q => h q.2)
def sI (w : Wd) (a k : Nat) (v : Int32) : Wd := (w.1, w.2.1, w.2.2.1, up2 w.2.2.2.1 a k v, w.2.2.2.2.1, w.2.2.2.2.2)
def sJ (w : Wd) (a k : Nat) (v : Int64) : Wd := (w.1, w.2.1, w.2.2.1, w.2.2.2.1, up2 w.2.2.2.2.1 a k v, w.2.2.2.2.2)
def sD (w : Wd) (a k : Nat) (v : UInt64) : Wd := (w.1, w.2.1, w.2.2.1, w.2.2.2.1, w.2.2.2.2.1, up2 w.2.2.2.2.2 a k v)
def sR (w : Wd) (a k : Nat) (v : Option Nat) : Wd := (w.1, w.2.1, up2 w.2.2.1 a k v, w.2.2.2.1, w.2.2.2.2.1, w.2.2.2.2.2)
/-- a new cell at the next address: all zero -/
def z1 {α : Type} (f : Nat → Nat → α) (a : Nat) (v : α) : Nat → Nat → α := fun x y => if x = a then v else f x y
def sNew (w : Wd) (k : Nat ⊕ (Nat × Nat)) : Wd := (w.1 + 1, (fun x => if x = w.1 then some k else w.2.1 x), z1 w.2.2.1 w.1 none, z1 w.2.2.2.1 w.1 0, z1 w.2.2.2.2.1 w.1 0, z1 w.2.2.2.2.2 w.1 0)
def fv (ty : FieldType) (w : Wd) (a k : Nat) : Value := match ty with
  | .long => .long (wJ w a k)
  | .double => .double (wD w a k)
  | .object _ => va_rf (wR w a k)
  | .array _ => va_rf (wR w a k)
  | _ => .int (wI w a k)
def fvs (ci : Nat) (w : Wd) (a : Nat) : List Value := (List.range (cN ci)).map (fun k => fv (cT ci k) w a k)
def tA : Nat → FieldType := fun t => match t with | 0 => .int | 1 => .boolean | 2 => .long | 3 => .object RX0 | 4 => .object RX2 | 5 => .object RX3 | _ => .object RX5
abbrev EE : Type := va_G × (Nat → ClassId) × Nat
def tys (E : EE) : List (ClassId × FieldType) := (List.range 7).map (fun t => (E.2.1 t, tA t))
def arrC (t : Nat) (w : Wd) (a : Nat) : (Nat → Int32) ⊕ (Nat → Int64) ⊕ (Nat → UInt32) ⊕ (Nat → UInt64) ⊕ (Nat → Option Nat) := match t with
  | 0 => .inl (wI w a)
  | 1 => .inl (wI w a)
  | 2 => .inr (.inl (wJ w a))
  | _ => .inr (.inr (.inr (.inr (wR w a))))
def ent (E : EE) (w : Wd) (a : Nat) : Option va_E := match wK w a with
  | none => none
  | some (.inl ci) => some (.inr (ci, fvs ci w a))
  | some (.inr (t, n)) => some (.inl (E.2.1 t, n, arrC t w a))
def PM (E : EE) (w : Wd) (H : Heap) : Prop := H.size = wN w ∧ ∀ a x, ent E w a = some x → E.2.2 ≤ a ∧ va_at E.1 vwCl (a, x) H
def aE (E : EE) : Nat → Prop := fun q => E.2.2 ≤ q
def HU (E : EE) (w : Wd) (U : State) : Prop := PM E w U.heap ∧ va_K E.1 vwCl (tys E) U
def QC (E : EE) (P : Option Value → Wd → Prop) : Array Value → State → Outcome → State → Prop := fun _ st oc t => (∃ r w', oc = .returned r ∧ P r w' ∧ HU E w' t) ∧ va_F (aE E) st t
/-- a method's contract: from the world w it returns, and P holds of the answer and the world behind it -/
def Ct (l : Launch) (E : EE) (y : MethodName) (cc : ByteArray) (maxL : Nat) (ret : Option FieldType) (rm : Room) (args : List Value) (w : Wd) (mc ms : Nat) (P : Option Value → Wd → Prop) : Prop := Met l y (.code y cc maxL ret :: lw_ok) rm (va_Pc args (HU E w)) (QC E P) mc ms (aE E)
/-- the locals -/
def lvf (ls : Array Slot) (nL : Nat) (lv : Nat → Option Value) : Prop := ls.size = nL ∧ lv_wf ls ∧ ∀ i v, lv i = some v → ls[i]? = some (.val v)
def lf : List (Nat × Value) → Nat → Option Value
  | [], _ => none
  | q :: l, i => if i = q.1 then some q.2 else lf l i
def lset1 (lv : Nat → Option Value) (i : Nat) (v : Value) : Nat → Option Value := fun j => if j = i then some v else if j + 1 = i then (match lv j with | some u => if u.category = 2 then none else some u | none => none) else lv j
def lset2 (lv : Nat → Option Value) (i : Nat) (v : Value) : Nat → Option Value := fun j => if j = i then some v else if j = i + 1 then none else if j + 1 = i then (match lv j with | some u => if u.category = 2 then none else some u | none => none) else lv j
def lall : List (Nat × Value) → (Nat → Option Value) → Prop
  | [], _ => True
  | q :: l, lv => lv q.1 = some q.2 ∧ lall l lv
theorem lall_lf {lv : Nat → Option Value} : ∀ {l : List (Nat × Value)}, lall l lv → ∀ i v, lf l i = some v → lv i = some v
  | [], _, _, _, h => by cases h
  | q :: l, h, i, v, hv => by
    unfold lf at hv
    by_cases e : i = q.1
    · rw [if_pos e] at hv
      cases hv
      rw [e]
      exact h.1
    · rw [if_neg e] at hv
      exact lall_lf h.2 i v hv
theorem lf_has {ls : Array Slot} {nL : Nat} {l : List (Nat × Value)} (h : lv_has ls nL l) : lvf ls nL (lf l) := by
  refine ⟨h.1, h.2.1, fun i v hv => ?_⟩
  have key : ∀ (l : List (Nat × Value)), lf l i = some v → (i, v) ∈ l := by
    intro l
    induction l with
    | nil => intro h; cases h
    | cons q l ih =>
      intro h
      unfold lf at h
      by_cases e : i = q.1
      · rw [if_pos e] at h
        cases h
        rw [e]
        exact List.mem_cons_self
      · rw [if_neg e] at h
        exact List.mem_cons_of_mem _ (ih h)
  exact h.2.2 (i, v) (key l hv)
def lL (lv : Nat → Option Value) (n : Nat) : List (Nat × Value) := (List.range n).filterMap (fun i => (lv i).map (fun v => (i, v)))
theorem lL_mem {lv : Nat → Option Value} {n i : Nat} {v : Value} : (i, v) ∈ lL lv n ↔ i < n ∧ lv i = some v := by
  unfold lL
  simp only [List.mem_filterMap, List.mem_range, Option.map_eq_some_iff, Prod.mk.injEq]
  constructor
  · rintro ⟨j, hj, u, hu, rfl, rfl⟩
    exact ⟨hj, hu⟩
  · rintro ⟨hi, hv⟩
    exact ⟨i, hi, v, hv, rfl, rfl⟩
theorem lvf_has {ls : Array Slot} {nL : Nat} {lv : Nat → Option Value} (h : lvf ls nL lv) : lv_has ls nL (lL lv nL) := ⟨h.1, h.2.1, fun q hq => h.2.2 q.1 q.2 (lL_mem.mp hq).2⟩
theorem lvf_lt {ls : Array Slot} {nL : Nat} {lv : Nat → Option Value} (h : lvf ls nL lv) {i : Nat} {v : Value} (hv : lv i = some v) : i < nL := by
  have := (Array.getElem?_eq_some_iff.mp (h.2.2 i v hv)).1
  rw [h.1] at this
  exact this
theorem lprev {lv : Nat → Option Value} {j : Nat} {u : Value} (h : (match lv j with | some u => if u.category = 2 then none else some u | none => none) = some u) : lv j = some u ∧ ¬ u.category = 2 := by
  cases hj : lv j with
  | none => rw [hj] at h; cases h
  | some z =>
    rw [hj] at h
    by_cases e : z.category = 2
    · simp [e] at h
    · simp [e] at h
      subst h
      exact ⟨rfl, e⟩
theorem lst1 {ls : Array Slot} {nL : Nat} {lv : Nat → Option Value} {i : Nat} {v : Value} (h : lvf ls nL lv) (hi : i < nL) (hc : v.category = 1) : ∃ ls', storeLocals ls i v = some ls' ∧ lvf ls' nL (lset1 lv i v) := by
  obtain ⟨ls', e, h'⟩ := lv_store1 (lvf_has h) hi hc
  refine ⟨ls', e, h'.1, h'.2.1, fun j u hu => ?_⟩
  unfold lset1 at hu
  by_cases a : j = i
  · rw [if_pos a] at hu
    cases hu
    rw [a]
    exact h'.2.2 (i, v) List.mem_cons_self
  · rw [if_neg a] at hu
    have mem : ∀ (hv : lv j = some u) (hn : ¬ (j + 1 = i ∧ u.category = 2)), ls'[j]? = some (.val u) := by
      intro hv hn
      refine h'.2.2 (j, u) (List.mem_cons_of_mem _ (List.mem_filter.mpr ⟨lL_mem.mpr ⟨lvf_lt h hv, hv⟩, ?_⟩))
      simp only [Bool.and_eq_true, Bool.not_eq_true', beq_eq_false_iff_ne, ne_eq, Bool.and_eq_false_iff]
      refine ⟨a, ?_⟩
      by_cases b : j + 1 = i
      · exact Or.inr (fun q => hn ⟨b, q⟩)
      · exact Or.inl b
    by_cases b : j + 1 = i
    · rw [if_pos b] at hu
      obtain ⟨h1, h2⟩ := lprev hu
      exact mem h1 (fun q => h2 q.2)
    · rw [if_neg b] at hu
      exact mem hu (fun q => b q.1)
theorem lst2 {ls : Array Slot} {nL : Nat} {lv : Nat → Option Value} {i : Nat} {v : Value} (h : lvf ls nL lv) (hi : i + 1 < nL) (hc : v.category = 2) : ∃ ls', storeLocals ls i v = some ls' ∧ lvf ls' nL (lset2 lv i v) := by
  obtain ⟨ls', e, h'⟩ := lv_store2 (lvf_has h) hi hc
  refine ⟨ls', e, h'.1, h'.2.1, fun j u hu => ?_⟩
  unfold lset2 at hu
  by_cases a : j = i
  · rw [if_pos a] at hu
    cases hu
    rw [a]
    exact h'.2.2 (i, v) List.mem_cons_self
  · rw [if_neg a] at hu
    by_cases a2 : j = i + 1
    · rw [if_pos a2] at hu
      cases hu
    · rw [if_neg a2] at hu
      have mem : ∀ (hv : lv j = some u) (hn : ¬ (j + 1 = i ∧ u.category = 2)), ls'[j]? = some (.val u) := by
        intro hv hn
        refine h'.2.2 (j, u) (List.mem_cons_of_mem _ (List.mem_filter.mpr ⟨lL_mem.mpr ⟨lvf_lt h hv, hv⟩, ?_⟩))
        simp only [Bool.and_eq_true, Bool.not_eq_true', beq_eq_false_iff_ne, ne_eq, Bool.and_eq_false_iff]
        refine ⟨a, a2, ?_⟩
        by_cases b : j + 1 = i
        · exact Or.inr (fun q => hn ⟨b, q⟩)
        · exact Or.inl b
      by_cases b : j + 1 = i
      · rw [if_pos b] at hu
        obtain ⟨h1, h2⟩ := lprev hu
        exact mem h1 (fun q => h2 q.2)
      · rw [if_neg b] at hu
        exact mem hu (fun q => b q.1)
/-- what stands fast while a method runs: machine, launch, environment, room, start, method, arguments, below, its class file's method and code, the tables, what is to hold at its end, its cells and slots, its locals -/
abbrev Cx : Type := Program × Launch × Env × Room × State × MethodId × Array Value × List Frame × Method × Code × EE × (Option Value → Wd → Prop) × Nat × Nat × Nat
def G (X : Cx) (ce sl pc : Nat) (lv : Nat → Option Value) (st : List Value) (w : Wd) : Prop := match X with
  | (p, l, e, R, s, m, args, below, meth, c, E, P, mc, ms, nL) => ∀ (H : Heap) (locs : List Loc) (ls : Array Slot), lvf ls nL lv → PM E w H → va_S (aE E) s.heap H locs → W p l e R s m args below meth c H locs ce sl (MQ below (QC E P) args s mc ms (aE E)) (F0 m pc ls st)
/-- the launch, the tables and the room of a walk -/
def cxL (X : Cx) : Launch := X.2.1
def cxE (X : Cx) : EE := X.2.2.2.2.2.2.2.2.2.2.1
def cxR (X : Cx) : Room := X.2.2.2.1
def cxP (X : Cx) : Option Value → Wd → Prop := X.2.2.2.2.2.2.2.2.2.2.2.1
def cxmc (X : Cx) : Nat := X.2.2.2.2.2.2.2.2.2.2.2.2.1
def cxms (X : Cx) : Nat := X.2.2.2.2.2.2.2.2.2.2.2.2.2.1
def cxnL (X : Cx) : Nat := X.2.2.2.2.2.2.2.2.2.2.2.2.2.2
def Ok (X : Cx) (cc : ByteArray) (own mname : String) (ret : Option FieldType) (il : List (Nat × Instr × Nat)) : Prop := match X with
  | (p, l, e, R, s, m, args, below, meth, c, E, P, mc, ms, nL) => p.tables.exec = Jvm.exec ∧ c.code = cc ∧ c.maxLocals = nL ∧ s.vm.findClass own = some m.cls ∧ (∀ w ∈ lw_ok, w.before args s = true) ∧ meth.locks = false ∧ meth.sig.returnType = ret ∧ va_K E.1 vwCl (tys E) s ∧ (∀ q ∈ il, decode cc q.1 = .ok (q.2.1, q.2.2)) ∧ E.2.2 ≤ s.heap.size ∧ meth.name = mname
def Is (X : Cx) (R0 : Room) (l0 : Launch) (E0 : EE) (P0 : Option Value → Wd → Prop) (mc0 ms0 nL0 : Nat) : Prop := cxR X = R0 ∧ cxL X = l0 ∧ cxE X = E0 ∧ cxP X = P0 ∧ cxmc X = mc0 ∧ cxms X = ms0 ∧ cxnL X = nL0
/-- the answer and the world behind it, exactly -/
def Px (r0 : Option Value) (w0 : Wd) : Option Value → Wd → Prop := fun r w => r = r0 ∧ w = w0
theorem dkm {cc : ByteArray} {il : List (Nat × Instr × Nat)} {pc n i : Nat} {ins : Instr} (h : ∀ q ∈ il, decode cc q.1 = .ok (q.2.1, q.2.2)) (hi : il[i]? = some (pc, ins, n)) : decode cc pc = .ok (ins, n) := h (pc, ins, n) (List.mem_of_getElem? hi)

theorem g_iconst {X : Cx} {cc : ByteArray} {own mname : String} {ret : Option FieldType} {il : List (Nat × Instr × Nat)} {ce sl pc : Nat} {lv : Nat → Option Value} {st : List Value} {w : Wd} (h : Ok X cc own mname ret il) (i : Nat) {n : Int} {v : Int32} (hi : il[i]? = some (pc, .iconst n, 1)) (hv : Int32.ofInt n = v) (k : G X ce sl (pc + 1) lv (.int v :: st) w) : G X ce sl pc lv (st) w := by
  obtain ⟨p, l, e, R, s, m, args, below, meth, c, E, P, mc, ms, nL⟩ := X
  obtain ⟨hx, hb, hml, hown, hts, hlk, hrt, hK, hd, hlo, hmn⟩ := h
  intro H locs ls hl hP hS
  exact lv_iconst hx hb (dkm hd hi) hv (k H locs ls hl hP hS)
theorem g_bipush {X : Cx} {cc : ByteArray} {own mname : String} {ret : Option FieldType} {il : List (Nat × Instr × Nat)} {ce sl pc : Nat} {lv : Nat → Option Value} {st : List Value} {w : Wd} (h : Ok X cc own mname ret il) (i : Nat) {n : Int} {v : Int32} (hi : il[i]? = some (pc, .bipush n, 2)) (hv : (Int8.ofInt n).toInt32 = v) (k : G X ce sl (pc + 2) lv (.int v :: st) w) : G X ce sl pc lv (st) w := by
  obtain ⟨p, l, e, R, s, m, args, below, meth, c, E, P, mc, ms, nL⟩ := X
  obtain ⟨hx, hb, hml, hown, hts, hlk, hrt, hK, hd, hlo, hmn⟩ := h
  intro H locs ls hl hP hS
  exact lv_bipush hx hb (dkm hd hi) hv (k H locs ls hl hP hS)
theorem g_sipush {X : Cx} {cc : ByteArray} {own mname : String} {ret : Option FieldType} {il : List (Nat × Instr × Nat)} {ce sl pc : Nat} {lv : Nat → Option Value} {st : List Value} {w : Wd} (h : Ok X cc own mname ret il) (i : Nat) {n : Int} {v : Int32} (hi : il[i]? = some (pc, .sipush n, 3)) (hv : (Int16.ofInt n).toInt32 = v) (k : G X ce sl (pc + 3) lv (.int v :: st) w) : G X ce sl pc lv (st) w := by
  obtain ⟨p, l, e, R, s, m, args, below, meth, c, E, P, mc, ms, nL⟩ := X
  obtain ⟨hx, hb, hml, hown, hts, hlk, hrt, hK, hd, hlo, hmn⟩ := h
  intro H locs ls hl hP hS
  exact lv_sipush hx hb (dkm hd hi) hv (k H locs ls hl hP hS)
theorem g_lconst {X : Cx} {cc : ByteArray} {own mname : String} {ret : Option FieldType} {il : List (Nat × Instr × Nat)} {ce sl pc : Nat} {lv : Nat → Option Value} {st : List Value} {w : Wd} (h : Ok X cc own mname ret il) (i : Nat) {n : Fin 2} {v : Int64} (hi : il[i]? = some (pc, .lconst n, 1)) (hv : Int64.ofNat (n : Nat) = v) (k : G X ce sl (pc + 1) lv (.long v :: st) w) : G X ce sl pc lv (st) w := by
  obtain ⟨p, l, e, R, s, m, args, below, meth, c, E, P, mc, ms, nL⟩ := X
  obtain ⟨hx, hb, hml, hown, hts, hlk, hrt, hK, hd, hlo, hmn⟩ := h
  intro H locs ls hl hP hS
  exact lv_lconst hx hb (dkm hd hi) hv (k H locs ls hl hP hS)
theorem g_dconst0 {X : Cx} {cc : ByteArray} {own mname : String} {ret : Option FieldType} {il : List (Nat × Instr × Nat)} {ce sl pc : Nat} {lv : Nat → Option Value} {st : List Value} {w : Wd} (h : Ok X cc own mname ret il) (i : Nat) (hi : il[i]? = some (pc, .dconst 0, 1)) (k : G X ce sl (pc + 1) lv (.double FP.dconst0 :: st) w) : G X ce sl pc lv (st) w := by
  obtain ⟨p, l, e, R, s, m, args, below, meth, c, E, P, mc, ms, nL⟩ := X
  obtain ⟨hx, hb, hml, hown, hts, hlk, hrt, hK, hd, hlo, hmn⟩ := h
  intro H locs ls hl hP hS
  exact lv_dconst0 hx hb (dkm hd hi) (k H locs ls hl hP hS)
theorem g_dconst1 {X : Cx} {cc : ByteArray} {own mname : String} {ret : Option FieldType} {il : List (Nat × Instr × Nat)} {ce sl pc : Nat} {lv : Nat → Option Value} {st : List Value} {w : Wd} (h : Ok X cc own mname ret il) (i : Nat) (hi : il[i]? = some (pc, .dconst 1, 1)) (k : G X ce sl (pc + 1) lv (.double FP.dconst1 :: st) w) : G X ce sl pc lv (st) w := by
  obtain ⟨p, l, e, R, s, m, args, below, meth, c, E, P, mc, ms, nL⟩ := X
  obtain ⟨hx, hb, hml, hown, hts, hlk, hrt, hK, hd, hlo, hmn⟩ := h
  intro H locs ls hl hP hS
  exact lv_dconst1 hx hb (dkm hd hi) (k H locs ls hl hP hS)
theorem g_ldc {X : Cx} {cc : ByteArray} {own mname : String} {ret : Option FieldType} {il : List (Nat × Instr × Nat)} {ce sl pc : Nat} {lv : Nat → Option Value} {st : List Value} {w : Wd} (h : Ok X cc own mname ret il) (i : Nat) {index : Nat} {v : Int32} (hi : il[i]? = some (pc, .ldc index, 2)) (hw : Cond.constant own index v ∈ lw_ok) (k : G X ce sl (pc + 2) lv (.int v :: st) w) : G X ce sl pc lv st w := by
  obtain ⟨p, l, e, R, s, m, args, below, meth, c, E, P, mc, ms, nL⟩ := X
  obtain ⟨hx, hb, hml, hown, hts, hlk, hrt, hK, hd, hlo, hmn⟩ := h
  intro H locs ls hl hP hS
  exact lv_ldc hx hb hown (hts _ hw) (dkm hd hi) (k H locs ls hl hP hS)
theorem g_ldcw {X : Cx} {cc : ByteArray} {own mname : String} {ret : Option FieldType} {il : List (Nat × Instr × Nat)} {ce sl pc : Nat} {lv : Nat → Option Value} {st : List Value} {w : Wd} (h : Ok X cc own mname ret il) (i : Nat) {index : Nat} {v : Int32} (hi : il[i]? = some (pc, .ldc_w index, 3)) (hw : Cond.constant own index v ∈ lw_ok) (k : G X ce sl (pc + 3) lv (.int v :: st) w) : G X ce sl pc lv st w := by
  obtain ⟨p, l, e, R, s, m, args, below, meth, c, E, P, mc, ms, nL⟩ := X
  obtain ⟨hx, hb, hml, hown, hts, hlk, hrt, hK, hd, hlo, hmn⟩ := h
  intro H locs ls hl hP hS
  exact lv_ldcw hx hb hown (hts _ hw) (dkm hd hi) (k H locs ls hl hP hS)
theorem g_ldc2 {X : Cx} {cc : ByteArray} {own mname : String} {ret : Option FieldType} {il : List (Nat × Instr × Nat)} {ce sl pc : Nat} {lv : Nat → Option Value} {st : List Value} {w : Wd} (h : Ok X cc own mname ret il) (i : Nat) {index : Nat} {v : Int64} (hi : il[i]? = some (pc, .ldc2_w index, 3)) (hw : Cond.constantLong own index v ∈ lw_ok) (k : G X ce sl (pc + 3) lv (.long v :: st) w) : G X ce sl pc lv st w := by
  obtain ⟨p, l, e, R, s, m, args, below, meth, c, E, P, mc, ms, nL⟩ := X
  obtain ⟨hx, hb, hml, hown, hts, hlk, hrt, hK, hd, hlo, hmn⟩ := h
  intro H locs ls hl hP hS
  exact lv_ldc2 hx hb hown (hts _ hw) (dkm hd hi) (k H locs ls hl hP hS)
theorem g_ldc2d {X : Cx} {cc : ByteArray} {own mname : String} {ret : Option FieldType} {il : List (Nat × Instr × Nat)} {ce sl pc : Nat} {lv : Nat → Option Value} {st : List Value} {w : Wd} (h : Ok X cc own mname ret il) (i : Nat) {index : Nat} {v : UInt64} (hi : il[i]? = some (pc, .ldc2_w index, 3)) (hw : Cond.constantDouble own index v ∈ lw_ok) (k : G X ce sl (pc + 3) lv (.double v :: st) w) : G X ce sl pc lv st w := by
  obtain ⟨p, l, e, R, s, m, args, below, meth, c, E, P, mc, ms, nL⟩ := X
  obtain ⟨hx, hb, hml, hown, hts, hlk, hrt, hK, hd, hlo, hmn⟩ := h
  intro H locs ls hl hP hS
  exact lv_ldc2d hx hb hown (hts _ hw) (dkm hd hi) (k H locs ls hl hP hS)
theorem g_iload_n {X : Cx} {cc : ByteArray} {own mname : String} {ret : Option FieldType} {il : List (Nat × Instr × Nat)} {ce sl pc : Nat} {lv : Nat → Option Value} {st : List Value} {w : Wd} (h : Ok X cc own mname ret il) (i : Nat) {n : Fin 4} {x : Int32} (hi : il[i]? = some (pc, .iload_n n, 1)) (hv : lv (n : Nat) = some (.int x)) (k : G X ce sl (pc + 1) lv (.int x :: st) w) : G X ce sl pc lv st w := by
  obtain ⟨p, l, e, R, s, m, args, below, meth, c, E, P, mc, ms, nL⟩ := X
  obtain ⟨hx, hb, hml, hown, hts, hlk, hrt, hK, hd, hlo, hmn⟩ := h
  intro H locs ls hl hP hS
  exact lv_iload_n hx hb (dkm hd hi) rfl (hl.2.2 _ _ hv) (k H locs ls hl hP hS)
theorem g_iload {X : Cx} {cc : ByteArray} {own mname : String} {ret : Option FieldType} {il : List (Nat × Instr × Nat)} {ce sl pc : Nat} {lv : Nat → Option Value} {st : List Value} {w : Wd} (h : Ok X cc own mname ret il) (i : Nat) {n : Nat} {x : Int32} (hi : il[i]? = some (pc, .iload n, 2)) (hv : lv n = some (.int x)) (k : G X ce sl (pc + 2) lv (.int x :: st) w) : G X ce sl pc lv st w := by
  obtain ⟨p, l, e, R, s, m, args, below, meth, c, E, P, mc, ms, nL⟩ := X
  obtain ⟨hx, hb, hml, hown, hts, hlk, hrt, hK, hd, hlo, hmn⟩ := h
  intro H locs ls hl hP hS
  exact lv_iload hx hb (dkm hd hi) (hl.2.2 _ _ hv) (k H locs ls hl hP hS)
theorem g_istore_n {X : Cx} {cc : ByteArray} {own mname : String} {ret : Option FieldType} {il : List (Nat × Instr × Nat)} {ce sl pc : Nat} {lv : Nat → Option Value} {st : List Value} {w : Wd} (h : Ok X cc own mname ret il) (i : Nat) {n : Fin 4} {x : Int32} (hi : il[i]? = some (pc, .istore_n n, 1)) {R0 : Room} {l0 : Launch} {E0 : EE} {P0 : Option Value → Wd → Prop} {mc0 ms0 nL0 : Nat} (hq : Is X R0 l0 E0 P0 mc0 ms0 nL0) (hn0 : Nat.ble ((n : Nat) + 1) nL0 = true) (k : G X ce sl (pc + 1) (lset1 lv (n : Nat) (.int x)) st w) : G X ce sl pc lv (.int x :: st) w := by
  obtain ⟨p, l, e, R, s, m, args, below, meth, c, E, P, mc, ms, nL⟩ := X
  obtain ⟨hx, hb, hml, hown, hts, hlk, hrt, hK, hd, hlo, hmn⟩ := h
  intro H locs ls hl hP hS
  have hn := Nat.le_of_ble_eq_true hn0
  rw [← hq.2.2.2.2.2.2] at hn
  obtain ⟨ls', e', h'⟩ := lst1 (v := .int x) hl hn rfl
  intro T hT X
  obtain ⟨t, a, b⟩ := k H locs ls' h' hP hS T hT X
  refine ⟨t, ?_, b⟩
  have hdg := dkm hd hi
  jvm_step X.here [X.here.top, ↓top_set X.here.top, hx, hb, hdg, e']
  exact a
theorem g_istore {X : Cx} {cc : ByteArray} {own mname : String} {ret : Option FieldType} {il : List (Nat × Instr × Nat)} {ce sl pc : Nat} {lv : Nat → Option Value} {st : List Value} {w : Wd} (h : Ok X cc own mname ret il) (i : Nat) {n : Nat} {x : Int32} (hi : il[i]? = some (pc, .istore n, 2)) {R0 : Room} {l0 : Launch} {E0 : EE} {P0 : Option Value → Wd → Prop} {mc0 ms0 nL0 : Nat} (hq : Is X R0 l0 E0 P0 mc0 ms0 nL0) (hn0 : Nat.ble (n + 1) nL0 = true) (k : G X ce sl (pc + 2) (lset1 lv n (.int x)) st w) : G X ce sl pc lv (.int x :: st) w := by
  obtain ⟨p, l, e, R, s, m, args, below, meth, c, E, P, mc, ms, nL⟩ := X
  obtain ⟨hx, hb, hml, hown, hts, hlk, hrt, hK, hd, hlo, hmn⟩ := h
  intro H locs ls hl hP hS
  have hn := Nat.le_of_ble_eq_true hn0
  rw [← hq.2.2.2.2.2.2] at hn
  obtain ⟨ls', e', h'⟩ := lst1 (v := .int x) hl hn rfl
  intro T hT X
  obtain ⟨t, a, b⟩ := k H locs ls' h' hP hS T hT X
  refine ⟨t, ?_, b⟩
  have hdg := dkm hd hi
  jvm_step X.here [X.here.top, ↓top_set X.here.top, hx, hb, hdg, e']
  exact a
theorem g_lload_n {X : Cx} {cc : ByteArray} {own mname : String} {ret : Option FieldType} {il : List (Nat × Instr × Nat)} {ce sl pc : Nat} {lv : Nat → Option Value} {st : List Value} {w : Wd} (h : Ok X cc own mname ret il) (i : Nat) {n : Fin 4} {x : Int64} (hi : il[i]? = some (pc, .lload_n n, 1)) (hv : lv (n : Nat) = some (.long x)) (k : G X ce sl (pc + 1) lv (.long x :: st) w) : G X ce sl pc lv st w := by
  obtain ⟨p, l, e, R, s, m, args, below, meth, c, E, P, mc, ms, nL⟩ := X
  obtain ⟨hx, hb, hml, hown, hts, hlk, hrt, hK, hd, hlo, hmn⟩ := h
  intro H locs ls hl hP hS
  exact lv_lload_n hx hb (dkm hd hi) rfl (hl.2.2 _ _ hv) (k H locs ls hl hP hS)
theorem g_lload {X : Cx} {cc : ByteArray} {own mname : String} {ret : Option FieldType} {il : List (Nat × Instr × Nat)} {ce sl pc : Nat} {lv : Nat → Option Value} {st : List Value} {w : Wd} (h : Ok X cc own mname ret il) (i : Nat) {n : Nat} {x : Int64} (hi : il[i]? = some (pc, .lload n, 2)) (hv : lv n = some (.long x)) (k : G X ce sl (pc + 2) lv (.long x :: st) w) : G X ce sl pc lv st w := by
  obtain ⟨p, l, e, R, s, m, args, below, meth, c, E, P, mc, ms, nL⟩ := X
  obtain ⟨hx, hb, hml, hown, hts, hlk, hrt, hK, hd, hlo, hmn⟩ := h
  intro H locs ls hl hP hS
  exact lv_lload hx hb (dkm hd hi) (hl.2.2 _ _ hv) (k H locs ls hl hP hS)
theorem g_lstore_n {X : Cx} {cc : ByteArray} {own mname : String} {ret : Option FieldType} {il : List (Nat × Instr × Nat)} {ce sl pc : Nat} {lv : Nat → Option Value} {st : List Value} {w : Wd} (h : Ok X cc own mname ret il) (i : Nat) {n : Fin 4} {x : Int64} (hi : il[i]? = some (pc, .lstore_n n, 1)) {R0 : Room} {l0 : Launch} {E0 : EE} {P0 : Option Value → Wd → Prop} {mc0 ms0 nL0 : Nat} (hq : Is X R0 l0 E0 P0 mc0 ms0 nL0) (hn0 : Nat.ble ((n : Nat) + 2) nL0 = true) (k : G X ce sl (pc + 1) (lset2 lv (n : Nat) (.long x)) st w) : G X ce sl pc lv (.long x :: st) w := by
  obtain ⟨p, l, e, R, s, m, args, below, meth, c, E, P, mc, ms, nL⟩ := X
  obtain ⟨hx, hb, hml, hown, hts, hlk, hrt, hK, hd, hlo, hmn⟩ := h
  intro H locs ls hl hP hS
  have hn := Nat.le_of_ble_eq_true hn0
  rw [← hq.2.2.2.2.2.2] at hn
  obtain ⟨ls', e', h'⟩ := lst2 (v := .long x) hl hn rfl
  intro T hT X
  obtain ⟨t, a, b⟩ := k H locs ls' h' hP hS T hT X
  refine ⟨t, ?_, b⟩
  have hdg := dkm hd hi
  jvm_step X.here [X.here.top, ↓top_set X.here.top, hx, hb, hdg, e']
  exact a
theorem g_lstore {X : Cx} {cc : ByteArray} {own mname : String} {ret : Option FieldType} {il : List (Nat × Instr × Nat)} {ce sl pc : Nat} {lv : Nat → Option Value} {st : List Value} {w : Wd} (h : Ok X cc own mname ret il) (i : Nat) {n : Nat} {x : Int64} (hi : il[i]? = some (pc, .lstore n, 2)) {R0 : Room} {l0 : Launch} {E0 : EE} {P0 : Option Value → Wd → Prop} {mc0 ms0 nL0 : Nat} (hq : Is X R0 l0 E0 P0 mc0 ms0 nL0) (hn0 : Nat.ble (n + 2) nL0 = true) (k : G X ce sl (pc + 2) (lset2 lv n (.long x)) st w) : G X ce sl pc lv (.long x :: st) w := by
  obtain ⟨p, l, e, R, s, m, args, below, meth, c, E, P, mc, ms, nL⟩ := X
  obtain ⟨hx, hb, hml, hown, hts, hlk, hrt, hK, hd, hlo, hmn⟩ := h
  intro H locs ls hl hP hS
  have hn := Nat.le_of_ble_eq_true hn0
  rw [← hq.2.2.2.2.2.2] at hn
  obtain ⟨ls', e', h'⟩ := lst2 (v := .long x) hl hn rfl
  intro T hT X
  obtain ⟨t, a, b⟩ := k H locs ls' h' hP hS T hT X
  refine ⟨t, ?_, b⟩
  have hdg := dkm hd hi
  jvm_step X.here [X.here.top, ↓top_set X.here.top, hx, hb, hdg, e']
  exact a
theorem g_dload_n {X : Cx} {cc : ByteArray} {own mname : String} {ret : Option FieldType} {il : List (Nat × Instr × Nat)} {ce sl pc : Nat} {lv : Nat → Option Value} {st : List Value} {w : Wd} (h : Ok X cc own mname ret il) (i : Nat) {n : Fin 4} {x : UInt64} (hi : il[i]? = some (pc, .dload_n n, 1)) (hv : lv (n : Nat) = some (.double x)) (k : G X ce sl (pc + 1) lv (.double x :: st) w) : G X ce sl pc lv st w := by
  obtain ⟨p, l, e, R, s, m, args, below, meth, c, E, P, mc, ms, nL⟩ := X
  obtain ⟨hx, hb, hml, hown, hts, hlk, hrt, hK, hd, hlo, hmn⟩ := h
  intro H locs ls hl hP hS
  exact lv_dload_n hx hb (dkm hd hi) rfl (hl.2.2 _ _ hv) (k H locs ls hl hP hS)
theorem g_dload {X : Cx} {cc : ByteArray} {own mname : String} {ret : Option FieldType} {il : List (Nat × Instr × Nat)} {ce sl pc : Nat} {lv : Nat → Option Value} {st : List Value} {w : Wd} (h : Ok X cc own mname ret il) (i : Nat) {n : Nat} {x : UInt64} (hi : il[i]? = some (pc, .dload n, 2)) (hv : lv n = some (.double x)) (k : G X ce sl (pc + 2) lv (.double x :: st) w) : G X ce sl pc lv st w := by
  obtain ⟨p, l, e, R, s, m, args, below, meth, c, E, P, mc, ms, nL⟩ := X
  obtain ⟨hx, hb, hml, hown, hts, hlk, hrt, hK, hd, hlo, hmn⟩ := h
  intro H locs ls hl hP hS
  exact lv_dload hx hb (dkm hd hi) (hl.2.2 _ _ hv) (k H locs ls hl hP hS)
theorem g_dstore_n {X : Cx} {cc : ByteArray} {own mname : String} {ret : Option FieldType} {il : List (Nat × Instr × Nat)} {ce sl pc : Nat} {lv : Nat → Option Value} {st : List Value} {w : Wd} (h : Ok X cc own mname ret il) (i : Nat) {n : Fin 4} {x : UInt64} (hi : il[i]? = some (pc, .dstore_n n, 1)) {R0 : Room} {l0 : Launch} {E0 : EE} {P0 : Option Value → Wd → Prop} {mc0 ms0 nL0 : Nat} (hq : Is X R0 l0 E0 P0 mc0 ms0 nL0) (hn0 : Nat.ble ((n : Nat) + 2) nL0 = true) (k : G X ce sl (pc + 1) (lset2 lv (n : Nat) (.double x)) st w) : G X ce sl pc lv (.double x :: st) w := by
  obtain ⟨p, l, e, R, s, m, args, below, meth, c, E, P, mc, ms, nL⟩ := X
  obtain ⟨hx, hb, hml, hown, hts, hlk, hrt, hK, hd, hlo, hmn⟩ := h
  intro H locs ls hl hP hS
  have hn := Nat.le_of_ble_eq_true hn0
  rw [← hq.2.2.2.2.2.2] at hn
  obtain ⟨ls', e', h'⟩ := lst2 (v := .double x) hl hn rfl
  intro T hT X
  obtain ⟨t, a, b⟩ := k H locs ls' h' hP hS T hT X
  refine ⟨t, ?_, b⟩
  have hdg := dkm hd hi
  jvm_step X.here [X.here.top, ↓top_set X.here.top, hx, hb, hdg, e']
  exact a
theorem g_dstore {X : Cx} {cc : ByteArray} {own mname : String} {ret : Option FieldType} {il : List (Nat × Instr × Nat)} {ce sl pc : Nat} {lv : Nat → Option Value} {st : List Value} {w : Wd} (h : Ok X cc own mname ret il) (i : Nat) {n : Nat} {x : UInt64} (hi : il[i]? = some (pc, .dstore n, 2)) {R0 : Room} {l0 : Launch} {E0 : EE} {P0 : Option Value → Wd → Prop} {mc0 ms0 nL0 : Nat} (hq : Is X R0 l0 E0 P0 mc0 ms0 nL0) (hn0 : Nat.ble (n + 2) nL0 = true) (k : G X ce sl (pc + 2) (lset2 lv n (.double x)) st w) : G X ce sl pc lv (.double x :: st) w := by
  obtain ⟨p, l, e, R, s, m, args, below, meth, c, E, P, mc, ms, nL⟩ := X
  obtain ⟨hx, hb, hml, hown, hts, hlk, hrt, hK, hd, hlo, hmn⟩ := h
  intro H locs ls hl hP hS
  have hn := Nat.le_of_ble_eq_true hn0
  rw [← hq.2.2.2.2.2.2] at hn
  obtain ⟨ls', e', h'⟩ := lst2 (v := .double x) hl hn rfl
  intro T hT X
  obtain ⟨t, a, b⟩ := k H locs ls' h' hP hS T hT X
  refine ⟨t, ?_, b⟩
  have hdg := dkm hd hi
  jvm_step X.here [X.here.top, ↓top_set X.here.top, hx, hb, hdg, e']
  exact a
theorem g_aload_n {X : Cx} {cc : ByteArray} {own mname : String} {ret : Option FieldType} {il : List (Nat × Instr × Nat)} {ce sl pc : Nat} {lv : Nat → Option Value} {st : List Value} {w : Wd} (h : Ok X cc own mname ret il) (i : Nat) {n : Fin 4} {x : Nat} (hi : il[i]? = some (pc, .aload_n n, 1)) (hv : lv (n : Nat) = some (.ref x)) (k : G X ce sl (pc + 1) lv (.ref x :: st) w) : G X ce sl pc lv st w := by
  obtain ⟨p, l, e, R, s, m, args, below, meth, c, E, P, mc, ms, nL⟩ := X
  obtain ⟨hx, hb, hml, hown, hts, hlk, hrt, hK, hd, hlo, hmn⟩ := h
  intro H locs ls hl hP hS
  exact lv_aload_n hx hb (dkm hd hi) rfl (hl.2.2 _ _ hv) (k H locs ls hl hP hS)
theorem g_aload {X : Cx} {cc : ByteArray} {own mname : String} {ret : Option FieldType} {il : List (Nat × Instr × Nat)} {ce sl pc : Nat} {lv : Nat → Option Value} {st : List Value} {w : Wd} (h : Ok X cc own mname ret il) (i : Nat) {n : Nat} {x : Nat} (hi : il[i]? = some (pc, .aload n, 2)) (hv : lv n = some (.ref x)) (k : G X ce sl (pc + 2) lv (.ref x :: st) w) : G X ce sl pc lv st w := by
  obtain ⟨p, l, e, R, s, m, args, below, meth, c, E, P, mc, ms, nL⟩ := X
  obtain ⟨hx, hb, hml, hown, hts, hlk, hrt, hK, hd, hlo, hmn⟩ := h
  intro H locs ls hl hP hS
  exact lv_aload hx hb (dkm hd hi) (hl.2.2 _ _ hv) (k H locs ls hl hP hS)
theorem g_astore_n {X : Cx} {cc : ByteArray} {own mname : String} {ret : Option FieldType} {il : List (Nat × Instr × Nat)} {ce sl pc : Nat} {lv : Nat → Option Value} {st : List Value} {w : Wd} (h : Ok X cc own mname ret il) (i : Nat) {n : Fin 4} {x : Nat} (hi : il[i]? = some (pc, .astore_n n, 1)) {R0 : Room} {l0 : Launch} {E0 : EE} {P0 : Option Value → Wd → Prop} {mc0 ms0 nL0 : Nat} (hq : Is X R0 l0 E0 P0 mc0 ms0 nL0) (hn0 : Nat.ble ((n : Nat) + 1) nL0 = true) (k : G X ce sl (pc + 1) (lset1 lv (n : Nat) (.ref x)) st w) : G X ce sl pc lv (.ref x :: st) w := by
  obtain ⟨p, l, e, R, s, m, args, below, meth, c, E, P, mc, ms, nL⟩ := X
  obtain ⟨hx, hb, hml, hown, hts, hlk, hrt, hK, hd, hlo, hmn⟩ := h
  intro H locs ls hl hP hS
  have hn := Nat.le_of_ble_eq_true hn0
  rw [← hq.2.2.2.2.2.2] at hn
  obtain ⟨ls', e', h'⟩ := lst1 (v := .ref x) hl hn rfl
  intro T hT X
  obtain ⟨t, a, b⟩ := k H locs ls' h' hP hS T hT X
  refine ⟨t, ?_, b⟩
  have hdg := dkm hd hi
  jvm_step X.here [X.here.top, ↓top_set X.here.top, hx, hb, hdg, e']
  exact ⟨rfl, a⟩
theorem g_astore {X : Cx} {cc : ByteArray} {own mname : String} {ret : Option FieldType} {il : List (Nat × Instr × Nat)} {ce sl pc : Nat} {lv : Nat → Option Value} {st : List Value} {w : Wd} (h : Ok X cc own mname ret il) (i : Nat) {n : Nat} {x : Nat} (hi : il[i]? = some (pc, .astore n, 2)) {R0 : Room} {l0 : Launch} {E0 : EE} {P0 : Option Value → Wd → Prop} {mc0 ms0 nL0 : Nat} (hq : Is X R0 l0 E0 P0 mc0 ms0 nL0) (hn0 : Nat.ble (n + 1) nL0 = true) (k : G X ce sl (pc + 2) (lset1 lv n (.ref x)) st w) : G X ce sl pc lv (.ref x :: st) w := by
  obtain ⟨p, l, e, R, s, m, args, below, meth, c, E, P, mc, ms, nL⟩ := X
  obtain ⟨hx, hb, hml, hown, hts, hlk, hrt, hK, hd, hlo, hmn⟩ := h
  intro H locs ls hl hP hS
  have hn := Nat.le_of_ble_eq_true hn0
  rw [← hq.2.2.2.2.2.2] at hn
  obtain ⟨ls', e', h'⟩ := lst1 (v := .ref x) hl hn rfl
  intro T hT X
  obtain ⟨t, a, b⟩ := k H locs ls' h' hP hS T hT X
  refine ⟨t, ?_, b⟩
  have hdg := dkm hd hi
  jvm_step X.here [X.here.top, ↓top_set X.here.top, hx, hb, hdg, e']
  exact ⟨rfl, a⟩
theorem g_iinc {X : Cx} {cc : ByteArray} {own mname : String} {ret : Option FieldType} {il : List (Nat × Instr × Nat)} {ce sl pc : Nat} {lv : Nat → Option Value} {st : List Value} {w : Wd} (h : Ok X cc own mname ret il) (i : Nat) {n : Nat} {d : Int} {x dv : Int32} (hi : il[i]? = some (pc, .iinc n d, 3)) (hx0 : lv n = some (.int x)) (hdv : Int32.ofInt d = dv) (k : G X ce sl (pc + 3) (lset1 lv n (.int (x + dv))) st w) : G X ce sl pc lv st w := by
  obtain ⟨p, l, e, R, s, m, args, below, meth, c, E, P, mc, ms, nL⟩ := X
  obtain ⟨hx, hb, hml, hown, hts, hlk, hrt, hK, hd, hlo, hmn⟩ := h
  intro H locs ls hl hP hS
  have hn := lvf_lt hl hx0
  subst hdv
  have hlx : ls[n]? = some (.val (.int x)) := hl.2.2 _ _ hx0
  obtain ⟨ls', e', h'⟩ := lst1 (v := .int (x + Int32.ofInt d)) hl hn rfl
  have k2 := k H locs ls' h' hP hS
  intro T hT X
  obtain ⟨t, a, b⟩ := k2 T hT X
  refine ⟨t, ?_, b⟩
  have hdg := dkm hd hi
  jvm_step X.here [X.here.top, ↓top_set X.here.top, hx, hb, hdg, hlx, e']
  exact a
theorem g_iadd {X : Cx} {cc : ByteArray} {own mname : String} {ret : Option FieldType} {il : List (Nat × Instr × Nat)} {ce sl pc : Nat} {lv : Nat → Option Value} {st : List Value} {w : Wd} (h : Ok X cc own mname ret il) (i : Nat) {x y : Int32} (hi : il[i]? = some (pc, .iadd, 1)) (k : G X ce sl (pc + 1) lv (.int (x + y) :: st) w) : G X ce sl pc lv (.int y :: .int x :: st) w := by
  obtain ⟨p, l, e, R, s, m, args, below, meth, c, E, P, mc, ms, nL⟩ := X
  obtain ⟨hx, hb, hml, hown, hts, hlk, hrt, hK, hd, hlo, hmn⟩ := h
  intro H locs ls hl hP hS
  exact lv_iadd hx hb (dkm hd hi) (k H locs ls hl hP hS)
theorem g_isub {X : Cx} {cc : ByteArray} {own mname : String} {ret : Option FieldType} {il : List (Nat × Instr × Nat)} {ce sl pc : Nat} {lv : Nat → Option Value} {st : List Value} {w : Wd} (h : Ok X cc own mname ret il) (i : Nat) {x y : Int32} (hi : il[i]? = some (pc, .isub, 1)) (k : G X ce sl (pc + 1) lv (.int (x - y) :: st) w) : G X ce sl pc lv (.int y :: .int x :: st) w := by
  obtain ⟨p, l, e, R, s, m, args, below, meth, c, E, P, mc, ms, nL⟩ := X
  obtain ⟨hx, hb, hml, hown, hts, hlk, hrt, hK, hd, hlo, hmn⟩ := h
  intro H locs ls hl hP hS
  exact lv_isub hx hb (dkm hd hi) (k H locs ls hl hP hS)
theorem g_imul {X : Cx} {cc : ByteArray} {own mname : String} {ret : Option FieldType} {il : List (Nat × Instr × Nat)} {ce sl pc : Nat} {lv : Nat → Option Value} {st : List Value} {w : Wd} (h : Ok X cc own mname ret il) (i : Nat) {x y : Int32} (hi : il[i]? = some (pc, .imul, 1)) (k : G X ce sl (pc + 1) lv (.int (x * y) :: st) w) : G X ce sl pc lv (.int y :: .int x :: st) w := by
  obtain ⟨p, l, e, R, s, m, args, below, meth, c, E, P, mc, ms, nL⟩ := X
  obtain ⟨hx, hb, hml, hown, hts, hlk, hrt, hK, hd, hlo, hmn⟩ := h
  intro H locs ls hl hP hS
  exact lv_imul hx hb (dkm hd hi) (k H locs ls hl hP hS)
theorem g_iand {X : Cx} {cc : ByteArray} {own mname : String} {ret : Option FieldType} {il : List (Nat × Instr × Nat)} {ce sl pc : Nat} {lv : Nat → Option Value} {st : List Value} {w : Wd} (h : Ok X cc own mname ret il) (i : Nat) {x y : Int32} (hi : il[i]? = some (pc, .iand, 1)) (k : G X ce sl (pc + 1) lv (.int (x &&& y) :: st) w) : G X ce sl pc lv (.int y :: .int x :: st) w := by
  obtain ⟨p, l, e, R, s, m, args, below, meth, c, E, P, mc, ms, nL⟩ := X
  obtain ⟨hx, hb, hml, hown, hts, hlk, hrt, hK, hd, hlo, hmn⟩ := h
  intro H locs ls hl hP hS
  exact lv_iand hx hb (dkm hd hi) (k H locs ls hl hP hS)
theorem g_idiv {X : Cx} {cc : ByteArray} {own mname : String} {ret : Option FieldType} {il : List (Nat × Instr × Nat)} {ce sl pc : Nat} {lv : Nat → Option Value} {st : List Value} {w : Wd} (h : Ok X cc own mname ret il) (i : Nat) {x y : Int32} (hi : il[i]? = some (pc, .idiv, 1)) (hne : ¬ y = 0) (k : G X ce sl (pc + 1) lv (.int (x / y) :: st) w) : G X ce sl pc lv (.int y :: .int x :: st) w := by
  obtain ⟨p, l, e, R, s, m, args, below, meth, c, E, P, mc, ms, nL⟩ := X
  obtain ⟨hx, hb, hml, hown, hts, hlk, hrt, hK, hd, hlo, hmn⟩ := h
  intro H locs ls hl hP hS
  exact lv_idiv hx hb (dkm hd hi) hne (k H locs ls hl hP hS)
theorem g_irem {X : Cx} {cc : ByteArray} {own mname : String} {ret : Option FieldType} {il : List (Nat × Instr × Nat)} {ce sl pc : Nat} {lv : Nat → Option Value} {st : List Value} {w : Wd} (h : Ok X cc own mname ret il) (i : Nat) {x y : Int32} (hi : il[i]? = some (pc, .irem, 1)) (hne : ¬ y = 0) (k : G X ce sl (pc + 1) lv (.int (x - x / y * y) :: st) w) : G X ce sl pc lv (.int y :: .int x :: st) w := by
  obtain ⟨p, l, e, R, s, m, args, below, meth, c, E, P, mc, ms, nL⟩ := X
  obtain ⟨hx, hb, hml, hown, hts, hlk, hrt, hK, hd, hlo, hmn⟩ := h
  intro H locs ls hl hP hS
  exact lv_irem hx hb (dkm hd hi) hne (k H locs ls hl hP hS)
theorem g_ladd {X : Cx} {cc : ByteArray} {own mname : String} {ret : Option FieldType} {il : List (Nat × Instr × Nat)} {ce sl pc : Nat} {lv : Nat → Option Value} {st : List Value} {w : Wd} (h : Ok X cc own mname ret il) (i : Nat) {x y : Int64} (hi : il[i]? = some (pc, .ladd, 1)) (k : G X ce sl (pc + 1) lv (.long (x + y) :: st) w) : G X ce sl pc lv (.long y :: .long x :: st) w := by
  obtain ⟨p, l, e, R, s, m, args, below, meth, c, E, P, mc, ms, nL⟩ := X
  obtain ⟨hx, hb, hml, hown, hts, hlk, hrt, hK, hd, hlo, hmn⟩ := h
  intro H locs ls hl hP hS
  exact lv_ladd hx hb (dkm hd hi) (k H locs ls hl hP hS)
theorem g_lsub {X : Cx} {cc : ByteArray} {own mname : String} {ret : Option FieldType} {il : List (Nat × Instr × Nat)} {ce sl pc : Nat} {lv : Nat → Option Value} {st : List Value} {w : Wd} (h : Ok X cc own mname ret il) (i : Nat) {x y : Int64} (hi : il[i]? = some (pc, .lsub, 1)) (k : G X ce sl (pc + 1) lv (.long (x - y) :: st) w) : G X ce sl pc lv (.long y :: .long x :: st) w := by
  obtain ⟨p, l, e, R, s, m, args, below, meth, c, E, P, mc, ms, nL⟩ := X
  obtain ⟨hx, hb, hml, hown, hts, hlk, hrt, hK, hd, hlo, hmn⟩ := h
  intro H locs ls hl hP hS
  exact lv_lsub hx hb (dkm hd hi) (k H locs ls hl hP hS)
theorem g_lmul {X : Cx} {cc : ByteArray} {own mname : String} {ret : Option FieldType} {il : List (Nat × Instr × Nat)} {ce sl pc : Nat} {lv : Nat → Option Value} {st : List Value} {w : Wd} (h : Ok X cc own mname ret il) (i : Nat) {x y : Int64} (hi : il[i]? = some (pc, .lmul, 1)) (k : G X ce sl (pc + 1) lv (.long (x * y) :: st) w) : G X ce sl pc lv (.long y :: .long x :: st) w := by
  obtain ⟨p, l, e, R, s, m, args, below, meth, c, E, P, mc, ms, nL⟩ := X
  obtain ⟨hx, hb, hml, hown, hts, hlk, hrt, hK, hd, hlo, hmn⟩ := h
  intro H locs ls hl hP hS
  exact lv_lmul hx hb (dkm hd hi) (k H locs ls hl hP hS)
theorem g_land {X : Cx} {cc : ByteArray} {own mname : String} {ret : Option FieldType} {il : List (Nat × Instr × Nat)} {ce sl pc : Nat} {lv : Nat → Option Value} {st : List Value} {w : Wd} (h : Ok X cc own mname ret il) (i : Nat) {x y : Int64} (hi : il[i]? = some (pc, .land, 1)) (k : G X ce sl (pc + 1) lv (.long (x &&& y) :: st) w) : G X ce sl pc lv (.long y :: .long x :: st) w := by
  obtain ⟨p, l, e, R, s, m, args, below, meth, c, E, P, mc, ms, nL⟩ := X
  obtain ⟨hx, hb, hml, hown, hts, hlk, hrt, hK, hd, hlo, hmn⟩ := h
  intro H locs ls hl hP hS
  exact lv_land hx hb (dkm hd hi) (k H locs ls hl hP hS)
theorem g_lor {X : Cx} {cc : ByteArray} {own mname : String} {ret : Option FieldType} {il : List (Nat × Instr × Nat)} {ce sl pc : Nat} {lv : Nat → Option Value} {st : List Value} {w : Wd} (h : Ok X cc own mname ret il) (i : Nat) {x y : Int64} (hi : il[i]? = some (pc, .lor, 1)) (k : G X ce sl (pc + 1) lv (.long (x ||| y) :: st) w) : G X ce sl pc lv (.long y :: .long x :: st) w := by
  obtain ⟨p, l, e, R, s, m, args, below, meth, c, E, P, mc, ms, nL⟩ := X
  obtain ⟨hx, hb, hml, hown, hts, hlk, hrt, hK, hd, hlo, hmn⟩ := h
  intro H locs ls hl hP hS
  exact lv_lor hx hb (dkm hd hi) (k H locs ls hl hP hS)
theorem g_ldiv {X : Cx} {cc : ByteArray} {own mname : String} {ret : Option FieldType} {il : List (Nat × Instr × Nat)} {ce sl pc : Nat} {lv : Nat → Option Value} {st : List Value} {w : Wd} (h : Ok X cc own mname ret il) (i : Nat) {x y : Int64} (hi : il[i]? = some (pc, .ldiv, 1)) (hne : ¬ y = 0) (k : G X ce sl (pc + 1) lv (.long (x / y) :: st) w) : G X ce sl pc lv (.long y :: .long x :: st) w := by
  obtain ⟨p, l, e, R, s, m, args, below, meth, c, E, P, mc, ms, nL⟩ := X
  obtain ⟨hx, hb, hml, hown, hts, hlk, hrt, hK, hd, hlo, hmn⟩ := h
  intro H locs ls hl hP hS
  exact lv_ldiv hx hb (dkm hd hi) hne (k H locs ls hl hP hS)
theorem g_lrem {X : Cx} {cc : ByteArray} {own mname : String} {ret : Option FieldType} {il : List (Nat × Instr × Nat)} {ce sl pc : Nat} {lv : Nat → Option Value} {st : List Value} {w : Wd} (h : Ok X cc own mname ret il) (i : Nat) {x y : Int64} (hi : il[i]? = some (pc, .lrem, 1)) (hne : ¬ y = 0) (k : G X ce sl (pc + 1) lv (.long (x - x / y * y) :: st) w) : G X ce sl pc lv (.long y :: .long x :: st) w := by
  obtain ⟨p, l, e, R, s, m, args, below, meth, c, E, P, mc, ms, nL⟩ := X
  obtain ⟨hx, hb, hml, hown, hts, hlk, hrt, hK, hd, hlo, hmn⟩ := h
  intro H locs ls hl hP hS
  exact lv_lrem hx hb (dkm hd hi) hne (k H locs ls hl hP hS)
theorem g_lneg {X : Cx} {cc : ByteArray} {own mname : String} {ret : Option FieldType} {il : List (Nat × Instr × Nat)} {ce sl pc : Nat} {lv : Nat → Option Value} {st : List Value} {w : Wd} (h : Ok X cc own mname ret il) (i : Nat) {x : Int64} (hi : il[i]? = some (pc, .lneg, 1)) (k : G X ce sl (pc + 1) lv (.long (-x) :: st) w) : G X ce sl pc lv (.long x :: st) w := by
  obtain ⟨p, l, e, R, s, m, args, below, meth, c, E, P, mc, ms, nL⟩ := X
  obtain ⟨hx, hb, hml, hown, hts, hlk, hrt, hK, hd, hlo, hmn⟩ := h
  intro H locs ls hl hP hS
  exact lv_lneg hx hb (dkm hd hi) (k H locs ls hl hP hS)
theorem g_i2l {X : Cx} {cc : ByteArray} {own mname : String} {ret : Option FieldType} {il : List (Nat × Instr × Nat)} {ce sl pc : Nat} {lv : Nat → Option Value} {st : List Value} {w : Wd} (h : Ok X cc own mname ret il) (i : Nat) {x : Int32} (hi : il[i]? = some (pc, .i2l, 1)) (k : G X ce sl (pc + 1) lv (.long x.toInt64 :: st) w) : G X ce sl pc lv (.int x :: st) w := by
  obtain ⟨p, l, e, R, s, m, args, below, meth, c, E, P, mc, ms, nL⟩ := X
  obtain ⟨hx, hb, hml, hown, hts, hlk, hrt, hK, hd, hlo, hmn⟩ := h
  intro H locs ls hl hP hS
  exact lv_i2l hx hb (dkm hd hi) rfl (k H locs ls hl hP hS)
theorem g_l2i {X : Cx} {cc : ByteArray} {own mname : String} {ret : Option FieldType} {il : List (Nat × Instr × Nat)} {ce sl pc : Nat} {lv : Nat → Option Value} {st : List Value} {w : Wd} (h : Ok X cc own mname ret il) (i : Nat) {x : Int64} (hi : il[i]? = some (pc, .l2i, 1)) (k : G X ce sl (pc + 1) lv (.int x.toInt32 :: st) w) : G X ce sl pc lv (.long x :: st) w := by
  obtain ⟨p, l, e, R, s, m, args, below, meth, c, E, P, mc, ms, nL⟩ := X
  obtain ⟨hx, hb, hml, hown, hts, hlk, hrt, hK, hd, hlo, hmn⟩ := h
  intro H locs ls hl hP hS
  exact lv_l2i hx hb (dkm hd hi) rfl (k H locs ls hl hP hS)
theorem g_i2d {X : Cx} {cc : ByteArray} {own mname : String} {ret : Option FieldType} {il : List (Nat × Instr × Nat)} {ce sl pc : Nat} {lv : Nat → Option Value} {st : List Value} {w : Wd} (h : Ok X cc own mname ret il) (i : Nat) {x : Int32} (hi : il[i]? = some (pc, .i2d, 1)) (k : G X ce sl (pc + 1) lv (.double (FP.i2d x) :: st) w) : G X ce sl pc lv (.int x :: st) w := by
  obtain ⟨p, l, e, R, s, m, args, below, meth, c, E, P, mc, ms, nL⟩ := X
  obtain ⟨hx, hb, hml, hown, hts, hlk, hrt, hK, hd, hlo, hmn⟩ := h
  intro H locs ls hl hP hS
  exact lv_i2d hx hb (dkm hd hi) (k H locs ls hl hP hS)
theorem g_l2d {X : Cx} {cc : ByteArray} {own mname : String} {ret : Option FieldType} {il : List (Nat × Instr × Nat)} {ce sl pc : Nat} {lv : Nat → Option Value} {st : List Value} {w : Wd} (h : Ok X cc own mname ret il) (i : Nat) {x : Int64} (hi : il[i]? = some (pc, .l2d, 1)) (k : G X ce sl (pc + 1) lv (.double (FP.l2d x) :: st) w) : G X ce sl pc lv (.long x :: st) w := by
  obtain ⟨p, l, e, R, s, m, args, below, meth, c, E, P, mc, ms, nL⟩ := X
  obtain ⟨hx, hb, hml, hown, hts, hlk, hrt, hK, hd, hlo, hmn⟩ := h
  intro H locs ls hl hP hS
  exact lv_l2d hx hb (dkm hd hi) (k H locs ls hl hP hS)
theorem g_d2l {X : Cx} {cc : ByteArray} {own mname : String} {ret : Option FieldType} {il : List (Nat × Instr × Nat)} {ce sl pc : Nat} {lv : Nat → Option Value} {st : List Value} {w : Wd} (h : Ok X cc own mname ret il) (i : Nat) {x : UInt64} (hi : il[i]? = some (pc, .d2l, 1)) (k : G X ce sl (pc + 1) lv (.long (FP.d2l x) :: st) w) : G X ce sl pc lv (.double x :: st) w := by
  obtain ⟨p, l, e, R, s, m, args, below, meth, c, E, P, mc, ms, nL⟩ := X
  obtain ⟨hx, hb, hml, hown, hts, hlk, hrt, hK, hd, hlo, hmn⟩ := h
  intro H locs ls hl hP hS
  exact lv_d2l hx hb (dkm hd hi) (k H locs ls hl hP hS)
theorem g_lshl {X : Cx} {cc : ByteArray} {own mname : String} {ret : Option FieldType} {il : List (Nat × Instr × Nat)} {ce sl pc : Nat} {lv : Nat → Option Value} {st : List Value} {w : Wd} (h : Ok X cc own mname ret il) (i : Nat) {x : Int64} {y : Int32} (hi : il[i]? = some (pc, .lshl, 1)) (k : G X ce sl (pc + 1) lv (.long (x <<< (y.toInt64 &&& 63)) :: st) w) : G X ce sl pc lv (.int y :: .long x :: st) w := by
  obtain ⟨p, l, e, R, s, m, args, below, meth, c, E, P, mc, ms, nL⟩ := X
  obtain ⟨hx, hb, hml, hown, hts, hlk, hrt, hK, hd, hlo, hmn⟩ := h
  intro H locs ls hl hP hS
  exact lv_lshl hx hb (dkm hd hi) rfl (k H locs ls hl hP hS)
theorem g_dadd {X : Cx} {cc : ByteArray} {own mname : String} {ret : Option FieldType} {il : List (Nat × Instr × Nat)} {ce sl pc : Nat} {lv : Nat → Option Value} {st : List Value} {w : Wd} (h : Ok X cc own mname ret il) (i : Nat) {x y : UInt64} (hi : il[i]? = some (pc, .dadd, 1)) (hne : vf_n64 (FP.dadd x y)) (k : G X ce sl (pc + 1) lv (.double (FP.dadd x y) :: st) w) : G X ce sl pc lv (.double y :: .double x :: st) w := by
  obtain ⟨p, l, e, R, s, m, args, below, meth, c, E, P, mc, ms, nL⟩ := X
  obtain ⟨hx, hb, hml, hown, hts, hlk, hrt, hK, hd, hlo, hmn⟩ := h
  intro H locs ls hl hP hS
  exact lv_dadd hx hb (dkm hd hi) hne (k H locs ls hl hP hS)
theorem g_dsub {X : Cx} {cc : ByteArray} {own mname : String} {ret : Option FieldType} {il : List (Nat × Instr × Nat)} {ce sl pc : Nat} {lv : Nat → Option Value} {st : List Value} {w : Wd} (h : Ok X cc own mname ret il) (i : Nat) {x y : UInt64} (hi : il[i]? = some (pc, .dsub, 1)) (hne : vf_n64 (FP.dsub x y)) (k : G X ce sl (pc + 1) lv (.double (FP.dsub x y) :: st) w) : G X ce sl pc lv (.double y :: .double x :: st) w := by
  obtain ⟨p, l, e, R, s, m, args, below, meth, c, E, P, mc, ms, nL⟩ := X
  obtain ⟨hx, hb, hml, hown, hts, hlk, hrt, hK, hd, hlo, hmn⟩ := h
  intro H locs ls hl hP hS
  exact lv_dsub hx hb (dkm hd hi) hne (k H locs ls hl hP hS)
theorem g_dmul {X : Cx} {cc : ByteArray} {own mname : String} {ret : Option FieldType} {il : List (Nat × Instr × Nat)} {ce sl pc : Nat} {lv : Nat → Option Value} {st : List Value} {w : Wd} (h : Ok X cc own mname ret il) (i : Nat) {x y : UInt64} (hi : il[i]? = some (pc, .dmul, 1)) (hne : vf_n64 (FP.dmul x y)) (k : G X ce sl (pc + 1) lv (.double (FP.dmul x y) :: st) w) : G X ce sl pc lv (.double y :: .double x :: st) w := by
  obtain ⟨p, l, e, R, s, m, args, below, meth, c, E, P, mc, ms, nL⟩ := X
  obtain ⟨hx, hb, hml, hown, hts, hlk, hrt, hK, hd, hlo, hmn⟩ := h
  intro H locs ls hl hP hS
  exact lv_dmul hx hb (dkm hd hi) hne (k H locs ls hl hP hS)
theorem g_ddiv {X : Cx} {cc : ByteArray} {own mname : String} {ret : Option FieldType} {il : List (Nat × Instr × Nat)} {ce sl pc : Nat} {lv : Nat → Option Value} {st : List Value} {w : Wd} (h : Ok X cc own mname ret il) (i : Nat) {x y : UInt64} (hi : il[i]? = some (pc, .ddiv, 1)) (hne : vf_n64 (FP.ddiv x y)) (k : G X ce sl (pc + 1) lv (.double (FP.ddiv x y) :: st) w) : G X ce sl pc lv (.double y :: .double x :: st) w := by
  obtain ⟨p, l, e, R, s, m, args, below, meth, c, E, P, mc, ms, nL⟩ := X
  obtain ⟨hx, hb, hml, hown, hts, hlk, hrt, hK, hd, hlo, hmn⟩ := h
  intro H locs ls hl hP hS
  exact lv_ddiv hx hb (dkm hd hi) hne (k H locs ls hl hP hS)
theorem g_dcmp {X : Cx} {cc : ByteArray} {own mname : String} {ret : Option FieldType} {il : List (Nat × Instr × Nat)} {ce sl pc : Nat} {lv : Nat → Option Value} {st : List Value} {w : Wd} (h : Ok X cc own mname ret il) (i : Nat) {x y : UInt64} {op : CmpOp} (hi : il[i]? = some (pc, .dcmp op, 1)) (k : G X ce sl (pc + 1) lv (.int (Op.cmpValue (FP.dcmp x y) op) :: st) w) : G X ce sl pc lv (.double y :: .double x :: st) w := by
  obtain ⟨p, l, e, R, s, m, args, below, meth, c, E, P, mc, ms, nL⟩ := X
  obtain ⟨hx, hb, hml, hown, hts, hlk, hrt, hK, hd, hlo, hmn⟩ := h
  intro H locs ls hl hP hS
  exact lv_dcmp hx hb (dkm hd hi) (k H locs ls hl hP hS)
theorem g_lcmp {X : Cx} {cc : ByteArray} {own mname : String} {ret : Option FieldType} {il : List (Nat × Instr × Nat)} {ce sl pc : Nat} {lv : Nat → Option Value} {st : List Value} {w : Wd} (h : Ok X cc own mname ret il) (i : Nat) {x y : Int64} (hi : il[i]? = some (pc, .lcmp, 1)) (k : G X ce sl (pc + 1) lv (.int (lg_cmp x y) :: st) w) : G X ce sl pc lv (.long y :: .long x :: st) w := by
  obtain ⟨p, l, e, R, s, m, args, below, meth, c, E, P, mc, ms, nL⟩ := X
  obtain ⟨hx, hb, hml, hown, hts, hlk, hrt, hK, hd, hlo, hmn⟩ := h
  intro H locs ls hl hP hS
  exact W.lcmp hx hb (dkm hd hi) (k H locs ls hl hP hS)
theorem g_dup {X : Cx} {cc : ByteArray} {own mname : String} {ret : Option FieldType} {il : List (Nat × Instr × Nat)} {ce sl pc : Nat} {lv : Nat → Option Value} {st : List Value} {w : Wd} (h : Ok X cc own mname ret il) (i : Nat) {v : Value} (hi : il[i]? = some (pc, .dup, 1)) (hv : v.category = 1) (k : G X ce sl (pc + 1) lv (v :: v :: st) w) : G X ce sl pc lv (v :: st) w := by
  obtain ⟨p, l, e, R, s, m, args, below, meth, c, E, P, mc, ms, nL⟩ := X
  obtain ⟨hx, hb, hml, hown, hts, hlk, hrt, hK, hd, hlo, hmn⟩ := h
  intro H locs ls hl hP hS
  exact lv_dup hx hb (dkm hd hi) hv (k H locs ls hl hP hS)
theorem g_pop {X : Cx} {cc : ByteArray} {own mname : String} {ret : Option FieldType} {il : List (Nat × Instr × Nat)} {ce sl pc : Nat} {lv : Nat → Option Value} {st : List Value} {w : Wd} (h : Ok X cc own mname ret il) (i : Nat) {v : Value} (hi : il[i]? = some (pc, .pop, 1)) (hv : v.category = 1) (k : G X ce sl (pc + 1) lv (st) w) : G X ce sl pc lv (v :: st) w := by
  obtain ⟨p, l, e, R, s, m, args, below, meth, c, E, P, mc, ms, nL⟩ := X
  obtain ⟨hx, hb, hml, hown, hts, hlk, hrt, hK, hd, hlo, hmn⟩ := h
  intro H locs ls hl hP hS
  exact lv_pop hx hb (dkm hd hi) hv (k H locs ls hl hP hS)
theorem g_dup_x1 {X : Cx} {cc : ByteArray} {own mname : String} {ret : Option FieldType} {il : List (Nat × Instr × Nat)} {ce sl pc : Nat} {lv : Nat → Option Value} {st : List Value} {w : Wd} (h : Ok X cc own mname ret il) (i : Nat) {v u : Value} (hi : il[i]? = some (pc, .dup_x1, 1)) (hv : v.category = 1) (hu : u.category = 1) (k : G X ce sl (pc + 1) lv (v :: u :: v :: st) w) : G X ce sl pc lv (v :: u :: st) w := by
  obtain ⟨p, l, e, R, s, m, args, below, meth, c, E, P, mc, ms, nL⟩ := X
  obtain ⟨hx, hb, hml, hown, hts, hlk, hrt, hK, hd, hlo, hmn⟩ := h
  intro H locs ls hl hP hS
  exact lv_dup_x1 hx hb (dkm hd hi) hv hu (k H locs ls hl hP hS)
theorem g_dup2 {X : Cx} {cc : ByteArray} {own mname : String} {ret : Option FieldType} {il : List (Nat × Instr × Nat)} {ce sl pc : Nat} {lv : Nat → Option Value} {st : List Value} {w : Wd} (h : Ok X cc own mname ret il) (i : Nat) {v u : Value} (hi : il[i]? = some (pc, .dup2, 1)) (hv : v.category = 1) (hu : u.category = 1) (k : G X ce sl (pc + 1) lv (v :: u :: v :: u :: st) w) : G X ce sl pc lv (v :: u :: st) w := by
  obtain ⟨p, l, e, R, s, m, args, below, meth, c, E, P, mc, ms, nL⟩ := X
  obtain ⟨hx, hb, hml, hown, hts, hlk, hrt, hK, hd, hlo, hmn⟩ := h
  intro H locs ls hl hP hS
  exact lv_dup2_11 hx hb (dkm hd hi) hv hu (k H locs ls hl hP hS)
theorem g_if_eq {X : Cx} {cc : ByteArray} {own mname : String} {ret : Option FieldType} {il : List (Nat × Instr × Nat)} {ce sl pc : Nat} {lv : Nat → Option Value} {st : List Value} {w : Wd} (h : Ok X cc own mname ret il) (i : Nat) {x : Int32} {off : Int} (tgt : Nat) (hi : il[i]? = some (pc, .ifCond .eq off, 3)) (ht : (pc : Int) + off = (tgt : Int)) (kt : x = 0 → G X ce sl tgt lv st w) (kf : ¬ x = 0 → G X ce sl (pc + 3) lv st w) : G X ce sl pc lv (.int x :: st) w := by
  obtain ⟨p, l, e, R, s, m, args, below, meth, c, E, P, mc, ms, nL⟩ := X
  obtain ⟨hx, hb, hml, hown, hts, hlk, hrt, hK, hd, hlo, hmn⟩ := h
  intro H locs ls hl hP hS
  exact lv_if_eq hx hb (dkm hd hi) ht (fun q => kt q H locs ls hl hP hS) (fun q => kf q H locs ls hl hP hS)
theorem g_if_ne {X : Cx} {cc : ByteArray} {own mname : String} {ret : Option FieldType} {il : List (Nat × Instr × Nat)} {ce sl pc : Nat} {lv : Nat → Option Value} {st : List Value} {w : Wd} (h : Ok X cc own mname ret il) (i : Nat) {x : Int32} {off : Int} (tgt : Nat) (hi : il[i]? = some (pc, .ifCond .ne off, 3)) (ht : (pc : Int) + off = (tgt : Int)) (kt : ¬ x = 0 → G X ce sl tgt lv st w) (kf : x = 0 → G X ce sl (pc + 3) lv st w) : G X ce sl pc lv (.int x :: st) w := by
  obtain ⟨p, l, e, R, s, m, args, below, meth, c, E, P, mc, ms, nL⟩ := X
  obtain ⟨hx, hb, hml, hown, hts, hlk, hrt, hK, hd, hlo, hmn⟩ := h
  intro H locs ls hl hP hS
  exact lv_if_ne hx hb (dkm hd hi) ht (fun q => kt q H locs ls hl hP hS) (fun q => kf q H locs ls hl hP hS)
theorem g_if_lt {X : Cx} {cc : ByteArray} {own mname : String} {ret : Option FieldType} {il : List (Nat × Instr × Nat)} {ce sl pc : Nat} {lv : Nat → Option Value} {st : List Value} {w : Wd} (h : Ok X cc own mname ret il) (i : Nat) {x : Int32} {off : Int} (tgt : Nat) (hi : il[i]? = some (pc, .ifCond .lt off, 3)) (ht : (pc : Int) + off = (tgt : Int)) (kt : x < 0 → G X ce sl tgt lv st w) (kf : ¬ x < 0 → G X ce sl (pc + 3) lv st w) : G X ce sl pc lv (.int x :: st) w := by
  obtain ⟨p, l, e, R, s, m, args, below, meth, c, E, P, mc, ms, nL⟩ := X
  obtain ⟨hx, hb, hml, hown, hts, hlk, hrt, hK, hd, hlo, hmn⟩ := h
  intro H locs ls hl hP hS
  exact lv_if_lt hx hb (dkm hd hi) ht (fun q => kt q H locs ls hl hP hS) (fun q => kf q H locs ls hl hP hS)
theorem g_if_ge {X : Cx} {cc : ByteArray} {own mname : String} {ret : Option FieldType} {il : List (Nat × Instr × Nat)} {ce sl pc : Nat} {lv : Nat → Option Value} {st : List Value} {w : Wd} (h : Ok X cc own mname ret il) (i : Nat) {x : Int32} {off : Int} (tgt : Nat) (hi : il[i]? = some (pc, .ifCond .ge off, 3)) (ht : (pc : Int) + off = (tgt : Int)) (kt : 0 ≤ x → G X ce sl tgt lv st w) (kf : ¬ 0 ≤ x → G X ce sl (pc + 3) lv st w) : G X ce sl pc lv (.int x :: st) w := by
  obtain ⟨p, l, e, R, s, m, args, below, meth, c, E, P, mc, ms, nL⟩ := X
  obtain ⟨hx, hb, hml, hown, hts, hlk, hrt, hK, hd, hlo, hmn⟩ := h
  intro H locs ls hl hP hS
  exact lv_if_ge hx hb (dkm hd hi) ht (fun q => kt q H locs ls hl hP hS) (fun q => kf q H locs ls hl hP hS)
theorem g_if_gt {X : Cx} {cc : ByteArray} {own mname : String} {ret : Option FieldType} {il : List (Nat × Instr × Nat)} {ce sl pc : Nat} {lv : Nat → Option Value} {st : List Value} {w : Wd} (h : Ok X cc own mname ret il) (i : Nat) {x : Int32} {off : Int} (tgt : Nat) (hi : il[i]? = some (pc, .ifCond .gt off, 3)) (ht : (pc : Int) + off = (tgt : Int)) (kt : 0 < x → G X ce sl tgt lv st w) (kf : ¬ 0 < x → G X ce sl (pc + 3) lv st w) : G X ce sl pc lv (.int x :: st) w := by
  obtain ⟨p, l, e, R, s, m, args, below, meth, c, E, P, mc, ms, nL⟩ := X
  obtain ⟨hx, hb, hml, hown, hts, hlk, hrt, hK, hd, hlo, hmn⟩ := h
  intro H locs ls hl hP hS
  exact lv_if_gt hx hb (dkm hd hi) ht (fun q => kt q H locs ls hl hP hS) (fun q => kf q H locs ls hl hP hS)
theorem g_if_le {X : Cx} {cc : ByteArray} {own mname : String} {ret : Option FieldType} {il : List (Nat × Instr × Nat)} {ce sl pc : Nat} {lv : Nat → Option Value} {st : List Value} {w : Wd} (h : Ok X cc own mname ret il) (i : Nat) {x : Int32} {off : Int} (tgt : Nat) (hi : il[i]? = some (pc, .ifCond .le off, 3)) (ht : (pc : Int) + off = (tgt : Int)) (kt : x ≤ 0 → G X ce sl tgt lv st w) (kf : ¬ x ≤ 0 → G X ce sl (pc + 3) lv st w) : G X ce sl pc lv (.int x :: st) w := by
  obtain ⟨p, l, e, R, s, m, args, below, meth, c, E, P, mc, ms, nL⟩ := X
  obtain ⟨hx, hb, hml, hown, hts, hlk, hrt, hK, hd, hlo, hmn⟩ := h
  intro H locs ls hl hP hS
  exact lv_if_le hx hb (dkm hd hi) ht (fun q => kt q H locs ls hl hP hS) (fun q => kf q H locs ls hl hP hS)
theorem g_icmp_eq {X : Cx} {cc : ByteArray} {own mname : String} {ret : Option FieldType} {il : List (Nat × Instr × Nat)} {ce sl pc : Nat} {lv : Nat → Option Value} {st : List Value} {w : Wd} (h : Ok X cc own mname ret il) (i : Nat) {x y : Int32} {off : Int} (tgt : Nat) (hi : il[i]? = some (pc, .if_icmp .eq off, 3)) (ht : (pc : Int) + off = (tgt : Int)) (kt : x = y → G X ce sl tgt lv st w) (kf : ¬ x = y → G X ce sl (pc + 3) lv st w) : G X ce sl pc lv (.int y :: .int x :: st) w := by
  obtain ⟨p, l, e, R, s, m, args, below, meth, c, E, P, mc, ms, nL⟩ := X
  obtain ⟨hx, hb, hml, hown, hts, hlk, hrt, hK, hd, hlo, hmn⟩ := h
  intro H locs ls hl hP hS
  exact lv_icmp_eq hx hb (dkm hd hi) ht (fun q => kt q H locs ls hl hP hS) (fun q => kf q H locs ls hl hP hS)
theorem g_icmp_ne {X : Cx} {cc : ByteArray} {own mname : String} {ret : Option FieldType} {il : List (Nat × Instr × Nat)} {ce sl pc : Nat} {lv : Nat → Option Value} {st : List Value} {w : Wd} (h : Ok X cc own mname ret il) (i : Nat) {x y : Int32} {off : Int} (tgt : Nat) (hi : il[i]? = some (pc, .if_icmp .ne off, 3)) (ht : (pc : Int) + off = (tgt : Int)) (kt : ¬ x = y → G X ce sl tgt lv st w) (kf : x = y → G X ce sl (pc + 3) lv st w) : G X ce sl pc lv (.int y :: .int x :: st) w := by
  obtain ⟨p, l, e, R, s, m, args, below, meth, c, E, P, mc, ms, nL⟩ := X
  obtain ⟨hx, hb, hml, hown, hts, hlk, hrt, hK, hd, hlo, hmn⟩ := h
  intro H locs ls hl hP hS
  exact lv_icmp_ne hx hb (dkm hd hi) ht (fun q => kt q H locs ls hl hP hS) (fun q => kf q H locs ls hl hP hS)
theorem g_icmp_lt {X : Cx} {cc : ByteArray} {own mname : String} {ret : Option FieldType} {il : List (Nat × Instr × Nat)} {ce sl pc : Nat} {lv : Nat → Option Value} {st : List Value} {w : Wd} (h : Ok X cc own mname ret il) (i : Nat) {x y : Int32} {off : Int} (tgt : Nat) (hi : il[i]? = some (pc, .if_icmp .lt off, 3)) (ht : (pc : Int) + off = (tgt : Int)) (kt : x < y → G X ce sl tgt lv st w) (kf : ¬ x < y → G X ce sl (pc + 3) lv st w) : G X ce sl pc lv (.int y :: .int x :: st) w := by
  obtain ⟨p, l, e, R, s, m, args, below, meth, c, E, P, mc, ms, nL⟩ := X
  obtain ⟨hx, hb, hml, hown, hts, hlk, hrt, hK, hd, hlo, hmn⟩ := h
  intro H locs ls hl hP hS
  exact lv_icmp_lt hx hb (dkm hd hi) ht (fun q => kt q H locs ls hl hP hS) (fun q => kf q H locs ls hl hP hS)
theorem g_icmp_ge {X : Cx} {cc : ByteArray} {own mname : String} {ret : Option FieldType} {il : List (Nat × Instr × Nat)} {ce sl pc : Nat} {lv : Nat → Option Value} {st : List Value} {w : Wd} (h : Ok X cc own mname ret il) (i : Nat) {x y : Int32} {off : Int} (tgt : Nat) (hi : il[i]? = some (pc, .if_icmp .ge off, 3)) (ht : (pc : Int) + off = (tgt : Int)) (kt : y ≤ x → G X ce sl tgt lv st w) (kf : ¬ y ≤ x → G X ce sl (pc + 3) lv st w) : G X ce sl pc lv (.int y :: .int x :: st) w := by
  obtain ⟨p, l, e, R, s, m, args, below, meth, c, E, P, mc, ms, nL⟩ := X
  obtain ⟨hx, hb, hml, hown, hts, hlk, hrt, hK, hd, hlo, hmn⟩ := h
  intro H locs ls hl hP hS
  exact lv_icmp_ge hx hb (dkm hd hi) ht (fun q => kt q H locs ls hl hP hS) (fun q => kf q H locs ls hl hP hS)
theorem g_icmp_gt {X : Cx} {cc : ByteArray} {own mname : String} {ret : Option FieldType} {il : List (Nat × Instr × Nat)} {ce sl pc : Nat} {lv : Nat → Option Value} {st : List Value} {w : Wd} (h : Ok X cc own mname ret il) (i : Nat) {x y : Int32} {off : Int} (tgt : Nat) (hi : il[i]? = some (pc, .if_icmp .gt off, 3)) (ht : (pc : Int) + off = (tgt : Int)) (kt : y < x → G X ce sl tgt lv st w) (kf : ¬ y < x → G X ce sl (pc + 3) lv st w) : G X ce sl pc lv (.int y :: .int x :: st) w := by
  obtain ⟨p, l, e, R, s, m, args, below, meth, c, E, P, mc, ms, nL⟩ := X
  obtain ⟨hx, hb, hml, hown, hts, hlk, hrt, hK, hd, hlo, hmn⟩ := h
  intro H locs ls hl hP hS
  exact lv_icmp_gt hx hb (dkm hd hi) ht (fun q => kt q H locs ls hl hP hS) (fun q => kf q H locs ls hl hP hS)
theorem g_icmp_le {X : Cx} {cc : ByteArray} {own mname : String} {ret : Option FieldType} {il : List (Nat × Instr × Nat)} {ce sl pc : Nat} {lv : Nat → Option Value} {st : List Value} {w : Wd} (h : Ok X cc own mname ret il) (i : Nat) {x y : Int32} {off : Int} (tgt : Nat) (hi : il[i]? = some (pc, .if_icmp .le off, 3)) (ht : (pc : Int) + off = (tgt : Int)) (kt : x ≤ y → G X ce sl tgt lv st w) (kf : ¬ x ≤ y → G X ce sl (pc + 3) lv st w) : G X ce sl pc lv (.int y :: .int x :: st) w := by
  obtain ⟨p, l, e, R, s, m, args, below, meth, c, E, P, mc, ms, nL⟩ := X
  obtain ⟨hx, hb, hml, hown, hts, hlk, hrt, hK, hd, hlo, hmn⟩ := h
  intro H locs ls hl hP hS
  exact lv_icmp_le hx hb (dkm hd hi) ht (fun q => kt q H locs ls hl hP hS) (fun q => kf q H locs ls hl hP hS)
theorem g_goto {X : Cx} {cc : ByteArray} {own mname : String} {ret : Option FieldType} {il : List (Nat × Instr × Nat)} {ce sl pc : Nat} {lv : Nat → Option Value} {st : List Value} {w : Wd} (h : Ok X cc own mname ret il) (i : Nat) {off : Int} (tgt : Nat) (hi : il[i]? = some (pc, .goto off, 3)) (ht : (pc : Int) + off = (tgt : Int)) (k : G X ce sl tgt lv st w) : G X ce sl pc lv st w := by
  obtain ⟨p, l, e, R, s, m, args, below, meth, c, E, P, mc, ms, nL⟩ := X
  obtain ⟨hx, hb, hml, hown, hts, hlk, hrt, hK, hd, hlo, hmn⟩ := h
  intro H locs ls hl hP hS
  exact lv_goto hx hb (dkm hd hi) ht (k H locs ls hl hP hS)
theorem g_tout {X : Cx} {cc : ByteArray} {own mname : String} {ret : Option FieldType} {il : List (Nat × Instr × Nat)} {ce sl pc : Nat} {lv : Nat → Option Value} {st : List Value} {w : Wd} (h : Ok X cc own mname ret il) (i : Nat) {dflt blo bhi : Int} {offs : Array Int} {len : Nat} {x : Int32} (tgt : Nat) (hi : il[i]? = some (pc, .tableswitch dflt blo bhi offs, len)) (hr : x.toInt < blo ∨ bhi < x.toInt) (ht : (pc : Int) + dflt = (tgt : Int)) (k : G X ce sl tgt lv st w) : G X ce sl pc lv (.int x :: st) w := by
  obtain ⟨p, l, e, R, s, m, args, below, meth, c, E, P, mc, ms, nL⟩ := X
  obtain ⟨hx, hb, hml, hown, hts, hlk, hrt, hK, hd, hlo, hmn⟩ := h
  intro H locs ls hl hP hS
  exact lv_tableOut hx hb (dkm hd hi) hr ht (k H locs ls hl hP hS)
theorem g_tin {X : Cx} {cc : ByteArray} {own mname : String} {ret : Option FieldType} {il : List (Nat × Instr × Nat)} {ce sl pc : Nat} {lv : Nat → Option Value} {st : List Value} {w : Wd} (h : Ok X cc own mname ret il) (i : Nat) {dflt blo bhi off : Int} {offs : Array Int} {len : Nat} {x : Int32} (tgt : Nat) (hi : il[i]? = some (pc, .tableswitch dflt blo bhi offs, len)) (h1 : ¬ x.toInt < blo) (h2 : ¬ bhi < x.toInt) (ho : offs[(x.toInt - blo).toNat]? = some off) (ht : (pc : Int) + off = (tgt : Int)) (k : G X ce sl tgt lv st w) : G X ce sl pc lv (.int x :: st) w := by
  obtain ⟨p, l, e, R, s, m, args, below, meth, c, E, P, mc, ms, nL⟩ := X
  obtain ⟨hx, hb, hml, hown, hts, hlk, hrt, hK, hd, hlo, hmn⟩ := h
  intro H locs ls hl hP hS
  exact lv_tableIn hx hb (dkm hd hi) h1 h2 ho ht (k H locs ls hl hP hS)
theorem g_lv {X : Cx} {ce sl pc : Nat} {lv : Nat → Option Value} {st : List Value} {w : Wd} (l : List (Nat × Value)) (h : lall l lv) (k : G X ce sl pc (lf l) st w) : G X ce sl pc lv st w := by
  obtain ⟨p, l, e, R, s, m, args, below, meth, c, E, P, mc, ms, nL⟩ := X
  intro H locs ls hl hP hS
  exact k H locs ls ⟨hl.1, hl.2.1, fun i v hv => hl.2.2 i v (lall_lf h i v hv)⟩ hP hS
theorem ent_none {E : EE} {w : Wd} {a : Nat} (h : wK w a = none) : ent E w a = none := by unfold ent; rw [h]
theorem ent_obj {E : EE} {w : Wd} {a ci : Nat} (h : wK w a = some (.inl ci)) : ent E w a = some (.inr (ci, fvs ci w a)) := by unfold ent; rw [h]
theorem ent_arr {E : EE} {w : Wd} {a t n : Nat} (h : wK w a = some (.inr (t, n))) : ent E w a = some (.inl (E.2.1 t, n, arrC t w a)) := by unfold ent; rw [h]
theorem fvs_at {ci : Nat} {w : Wd} {a k : Nat} (hk : k < cN ci) : (fvs ci w a)[k]? = some (fv (cT ci k) w a k) := by
  unfold fvs
  rw [List.getElem?_map, List.getElem?_range hk]
  rfl
theorem fvs_len {ci : Nat} {w : Wd} {a : Nat} : (fvs ci w a).length = cN ci := by simp [fvs]
theorem fvs_V {ci : Nat} {w : Wd} {a k : Nat} (hk : k < cN ci) : vp_V (fvs ci w a) k = fv (cT ci k) w a k := by
  unfold vp_V
  rw [List.getD_eq_getElem?_getD, fvs_at hk]
  rfl
theorem ent_c {E : EE} {w w' : Wd} {b : Nat} (hk : wK w' b = wK w b) (hR : ∀ k, wR w' b k = wR w b k) (hI : ∀ k, wI w' b k = wI w b k) (hJ : ∀ k, wJ w' b k = wJ w b k) (hD : ∀ k, wD w' b k = wD w b k) : ent E w' b = ent E w b := by
  unfold ent
  rw [hk]
  have f1 : ∀ ci, fvs ci w' b = fvs ci w b := by
    intro ci
    unfold fvs
    refine List.map_congr_left fun k _ => ?_
    unfold fv
    cases cT ci k <;> simp [hR, hI, hJ, hD]
  have f2 : ∀ t, arrC t w' b = arrC t w b := by
    intro t
    have e1 : wI w' b = wI w b := funext hI
    have e2 : wJ w' b = wJ w b := funext hJ
    have e3 : wR w' b = wR w b := funext hR
    unfold arrC
    match t with
    | 0 => simp [e1]
    | 1 => simp [e1]
    | 2 => simp [e2]
    | t + 3 => simp [e3]
  simp only [f1, f2]
/-- one cell is written: the world behind it -/
theorem PM_put {E : EE} {w w' : Wd} {H H1 : Heap} {a : Nat} (hP : PM E w H) (hz : H1.size = H.size) (oq : ∀ q : Nat, q ≠ a → H1[q]? = H[q]?) (hn : wN w' = wN w) (he : ∀ q, q ≠ a → ent E w' q = ent E w q) (ha : ∀ x, ent E w' a = some x → E.2.2 ≤ a ∧ va_at E.1 vwCl (a, x) H1) : PM E w' H1 := by
  refine ⟨by rw [hz, hn]; exact hP.1, fun q x hq => ?_⟩
  by_cases e : q = a
  · subst e
    exact ha x hq
  · rw [he q e] at hq
    obtain ⟨h1, h2⟩ := hP.2 q x hq
    exact ⟨h1, h2.kept (oq q e)⟩
theorem PM_at {E : EE} {w : Wd} {H : Heap} {a : Nat} {x : va_E} (hP : PM E w H) (h : ent E w a = some x) : E.2.2 ≤ a ∧ va_at E.1 vwCl (a, x) H := hP.2 a x h
theorem PM_1 {E : EE} {w : Wd} {H : Heap} {a : Nat} {x : va_E} (hP : PM E w H) (h : ent E w a = some x) : va_P E.1 vwCl [(a, x)] H := by
  intro k q hq
  match k, hq with
  | 0, hq => cases hq; exact (hP.2 a x h).2
theorem tys_at {E : EE} {t : Nat} (h : t < 7) : (tys E)[t]? = some (E.2.1 t, tA t) := by
  unfold tys
  rw [List.getElem?_map, List.getElem?_range h]
  rfl
theorem g_getI {X : Cx} {cc : ByteArray} {own mname : String} {ret : Option FieldType} {il : List (Nat × Instr × Nat)} {ce sl pc : Nat} {lv : Nat → Option Value} {st : List Value} {w : Wd} (h : Ok X cc own mname ret il) (i : Nat) {index ci k a : Nat} (hi : il[i]? = some (pc, .getfield index, 3)) (hf : FL own index ci k) (hy : ∀ w a k2, fv (cT ci k) w a k2 = .int (wI w a k2)) (hk : wK w a = some (.inl ci)) (kk : G X ce sl (pc + 3) lv (.int (wI w a k) :: st) w) : G X ce sl pc lv (.ref a :: st) w := by
  obtain ⟨p, l, e, R, s, m, args, below, meth, c, E, P, mc, ms, nL⟩ := X
  obtain ⟨hx, hb, hml, hown, hts, hlk, hrt, hK, hd, hlo, hmn⟩ := h
  intro H locs ls hl hP hS
  obtain ⟨C, T, hC, hkn, hw⟩ := hf
  exact va_get hx hb hts hC.2.1 hown hK (PM_1 hP (ent_obj hk)) 0 rfl hC.1 k hkn (hts _ hw) (fun _ q => q) (v := .int (wI w a k)) (by rw [fvs_at hkn, hy]) (dkm hd hi) (kk H locs ls hl hP hS)
theorem g_getJ {X : Cx} {cc : ByteArray} {own mname : String} {ret : Option FieldType} {il : List (Nat × Instr × Nat)} {ce sl pc : Nat} {lv : Nat → Option Value} {st : List Value} {w : Wd} (h : Ok X cc own mname ret il) (i : Nat) {index ci k a : Nat} (hi : il[i]? = some (pc, .getfield index, 3)) (hf : FL own index ci k) (hy : ∀ w a k2, fv (cT ci k) w a k2 = .long (wJ w a k2)) (hk : wK w a = some (.inl ci)) (kk : G X ce sl (pc + 3) lv (.long (wJ w a k) :: st) w) : G X ce sl pc lv (.ref a :: st) w := by
  obtain ⟨p, l, e, R, s, m, args, below, meth, c, E, P, mc, ms, nL⟩ := X
  obtain ⟨hx, hb, hml, hown, hts, hlk, hrt, hK, hd, hlo, hmn⟩ := h
  intro H locs ls hl hP hS
  obtain ⟨C, T, hC, hkn, hw⟩ := hf
  exact va_get hx hb hts hC.2.1 hown hK (PM_1 hP (ent_obj hk)) 0 rfl hC.1 k hkn (hts _ hw) (fun _ q => q) (v := .long (wJ w a k)) (by rw [fvs_at hkn, hy]) (dkm hd hi) (kk H locs ls hl hP hS)
theorem g_getD {X : Cx} {cc : ByteArray} {own mname : String} {ret : Option FieldType} {il : List (Nat × Instr × Nat)} {ce sl pc : Nat} {lv : Nat → Option Value} {st : List Value} {w : Wd} (h : Ok X cc own mname ret il) (i : Nat) {index ci k a : Nat} (hi : il[i]? = some (pc, .getfield index, 3)) (hf : FL own index ci k) (hy : ∀ w a k2, fv (cT ci k) w a k2 = .double (wD w a k2)) (hk : wK w a = some (.inl ci)) (kk : G X ce sl (pc + 3) lv (.double (wD w a k) :: st) w) : G X ce sl pc lv (.ref a :: st) w := by
  obtain ⟨p, l, e, R, s, m, args, below, meth, c, E, P, mc, ms, nL⟩ := X
  obtain ⟨hx, hb, hml, hown, hts, hlk, hrt, hK, hd, hlo, hmn⟩ := h
  intro H locs ls hl hP hS
  obtain ⟨C, T, hC, hkn, hw⟩ := hf
  exact va_get hx hb hts hC.2.1 hown hK (PM_1 hP (ent_obj hk)) 0 rfl hC.1 k hkn (hts _ hw) (fun _ q => q) (v := .double (wD w a k)) (by rw [fvs_at hkn, hy]) (dkm hd hi) (kk H locs ls hl hP hS)
theorem g_getR {X : Cx} {cc : ByteArray} {own mname : String} {ret : Option FieldType} {il : List (Nat × Instr × Nat)} {ce sl pc : Nat} {lv : Nat → Option Value} {st : List Value} {w : Wd} (h : Ok X cc own mname ret il) (i : Nat) {index ci k a r : Nat} (hi : il[i]? = some (pc, .getfield index, 3)) (hf : FL own index ci k) (hy : ∀ w a k2, fv (cT ci k) w a k2 = va_rf (wR w a k2)) (hk : wK w a = some (.inl ci)) (hr : wR w a k = some r) (kk : G X ce sl (pc + 3) lv (.ref r :: st) w) : G X ce sl pc lv (.ref a :: st) w := by
  obtain ⟨p, l, e, R, s, m, args, below, meth, c, E, P, mc, ms, nL⟩ := X
  obtain ⟨hx, hb, hml, hown, hts, hlk, hrt, hK, hd, hlo, hmn⟩ := h
  intro H locs ls hl hP hS
  obtain ⟨C, T, hC, hkn, hw⟩ := hf
  exact va_get hx hb hts hC.2.1 hown hK (PM_1 hP (ent_obj hk)) 0 rfl hC.1 k hkn (hts _ hw) (fun _ q => q) (v := .ref r) (by rw [fvs_at hkn, hy, hr]; rfl) (dkm hd hi) (kk H locs ls hl hP hS)
theorem fvs_updI {ci k a : Nat} {w : Wd} {v : Int32} (hap : ∀ j, j < cN ci → fv (cT ci j) (sI w a k v) a j = if j = k then .int v else fv (cT ci j) w a j) : ∀ j, j < cN ci → updV (vp_V (fvs ci w a)) k (.int v) j = vp_V (fvs ci (sI w a k v) a) j := by
  intro j hj
  rw [fvs_V hj, hap j hj]
  unfold updV
  by_cases e : j = k
  · rw [if_pos e, if_pos e]
  · rw [if_neg e, if_neg e, fvs_V hj]

theorem g_putI_0 {X : Cx} {cc : ByteArray} {own mname : String} {ret : Option FieldType} {il : List (Nat × Instr × Nat)} {ce sl pc : Nat} {lv : Nat → Option Value} {st : List Value} {w : Wd} (h : Ok X cc own mname ret il) (i : Nat) {index ci k a : Nat} {v : Int32} (hi : il[i]? = some (pc, .putfield index, 3)) (hF : FL own index ci k) (hfin : ∀ C T, Cls ci C T → (T k).2.2.2 = false) (hy : ∀ w a k2, fv (cT ci k) w a k2 = .int (wI w a k2)) (hk : wK w a = some (.inl ci)) (hnr : narrow (cT ci k) (.int v) = .int v) (hfit : fits (cT ci k) (.int v) = true) (kk : G X ce sl (pc + 3) lv st (sI w a k (v))) : G X ce sl pc lv (.int v :: .ref a :: st) w := by
  obtain ⟨p, l, e, R, s, m, args, below, meth, c, E, P, mc, ms, nL⟩ := X
  obtain ⟨hx, hb, hml, hown, hts, hlk, hrt, hK, hd, hlo, hmn⟩ := h
  intro H locs ls hl hP hS
  obtain ⟨C, T, hC, hkn, hw⟩ := hF
  have hfin := hfin C T hC
  obtain ⟨hc, hin, hty, hnm⟩ := hC
  have hap := va_apart (own := own) hts hin (cT ci) hty hnm hK hc
  obtain ⟨hle, r, h1, cell, q1, q2, q3, q4⟩ := PM_at hP (ent_obj hk)
  have hr : r = (C, T, cN ci) := Option.some.inj (h1.symm.trans hc)
  subst hr
  obtain ⟨hSl, hfc, kC, hkC, hkind⟩ := hK.1 ci _ hc
  obtain ⟨cf, kf, fi, f, hi0, hsl⟩ := hSl k hkn
  have hlay := hts _ (hin _ (u_in_lay hkn))
  unfold u_lay at hlay
  skip
  rw [if_neg (by rw [hfin]; decide)] at hlay
  have hst := (u_facts hfc hkC (u_lays hts hin hkn) hi0).1
  have hde := hty k hkn
  have h6 := u_store hfc hkC hkind hlay hi0 hde hnr hfit
  refine W.putK hx hb (f := f) ⟨hown, (hts _ hw), ⟨_, _, _, hi0⟩, hst⟩ (by rw [q2]; exact h6) q1 q3 (by rw [hsl]; exact k2_hasslot (q4 k hkn)) rfl rfl (dkm hd hi) fun H1 e1 e2 e3 => ?_
  rw [hsl] at e1 ⊢
  refine kk H1 _ ls hl (PM_put hP e2 e3 rfl (fun q hq => ent_c rfl (fun k2 => ?_) (fun k2 => ?_) (fun k2 => ?_) (fun k2 => ?_)) (fun x hx => ?_)) (hS.put e2 e3 hle)
  · rfl
  · exact up2_a hq
  · rfl
  · rfl
  · have hk' : wK (sI w a k (v)) a = some (.inl ci) := hk
    rw [ent_obj hk'] at hx
    obtain rfl := Option.some.inj hx
    refine ⟨hle, _, hc, t_OB.to (V := updV (vp_V (fvs ci w a)) k (.int v)) ⟨_, e1, q2, q3, t_set q4 hap hkn (.int v)⟩ (fun j hj => ?_)⟩
    rw [fvs_V hj]
    unfold updV
    by_cases e : j = k
    · subst e
      rw [if_pos rfl, hy]
      skip
      exact (congrArg _ (up2_s _ _ _ _)).symm
    · rw [if_neg e, fvs_V hj]
      unfold fv
      have e0 : ∀ (α : Type) (f0 : Nat → Nat → α) (v0 : α), up2 f0 a k v0 a j = f0 a j := fun α f0 v0 => up2_k e
      cases cT ci j <;> simp [wI, wJ, wD, wR, sI, e0]
theorem g_putIF_0 {X : Cx} {cc : ByteArray} {own mname : String} {ret : Option FieldType} {il : List (Nat × Instr × Nat)} {ce sl pc : Nat} {lv : Nat → Option Value} {st : List Value} {w : Wd} (h : Ok X cc own mname ret il) (i : Nat) {index ci k a : Nat} {v : Int32} (hi : il[i]? = some (pc, .putfield index, 3)) (hmn2 : mname = "<init>") (hF : FL own index ci k) (hfin : ∀ C T, Cls ci C T → (T k).2.2.2 = true ∧ (T k).1 = own) (hy : ∀ w a k2, fv (cT ci k) w a k2 = .int (wI w a k2)) (hk : wK w a = some (.inl ci)) (hnr : narrow (cT ci k) (.int v) = .int v) (hfit : fits (cT ci k) (.int v) = true) (kk : G X ce sl (pc + 3) lv st (sI w a k (v))) : G X ce sl pc lv (.int v :: .ref a :: st) w := by
  obtain ⟨p, l, e, R, s, m, args, below, meth, c, E, P, mc, ms, nL⟩ := X
  obtain ⟨hx, hb, hml, hown, hts, hlk, hrt, hK, hd, hlo, hmn⟩ := h
  intro H locs ls hl hP hS
  obtain ⟨C, T, hC, hkn, hw⟩ := hF
  have hfin := hfin C T hC
  obtain ⟨hc, hin, hty, hnm⟩ := hC
  have hap := va_apart (own := own) hts hin (cT ci) hty hnm hK hc
  obtain ⟨hle, r, h1, cell, q1, q2, q3, q4⟩ := PM_at hP (ent_obj hk)
  have hr : r = (C, T, cN ci) := Option.some.inj (h1.symm.trans hc)
  subst hr
  obtain ⟨hSl, hfc, kC, hkC, hkind⟩ := hK.1 ci _ hc
  obtain ⟨cf, kf, fi, f, hi0, hsl⟩ := hSl k hkn
  have hlay := hts _ (hin _ (u_in_lay hkn))
  unfold u_lay at hlay
  obtain ⟨hfin, hdecl⟩ := hfin
  rw [if_pos hfin] at hlay
  have hst := (u_facts hfc hkC (u_lays hts hin hkn) hi0).1
  have hde := hty k hkn
  have hcf : m.cls = cf := by
    obtain ⟨_, _, c', _, _, _, -, -, hf', -, -, -, hown2, -⟩ := Cond.laysFinal_spec hlay
    have e1 : c' = cf := by have := hi0.symm.trans hf'; simp at this; exact this.1.symm
    rw [hdecl] at hown2
    rw [← e1]; exact Option.some.inj (hown.symm.trans hown2)
  have h6 := u_fits hfc hkC hkind (Or.inr hlay) hi0 hde hnr hfit
  refine W.putFinK hx hb hown (hts _ hw) hi0 hst hcf (by rw [hmn, hmn2]) (by rw [q2]; exact h6) q1 q3 (by rw [hsl]; exact k2_hasslot (q4 k hkn)) rfl rfl (dkm hd hi) fun H1 e1 e2 e3 => ?_
  rw [hsl] at e1 ⊢
  refine kk H1 _ ls hl (PM_put hP e2 e3 rfl (fun q hq => ent_c rfl (fun k2 => ?_) (fun k2 => ?_) (fun k2 => ?_) (fun k2 => ?_)) (fun x hx => ?_)) (hS.put e2 e3 hle)
  · rfl
  · exact up2_a hq
  · rfl
  · rfl
  · have hk' : wK (sI w a k (v)) a = some (.inl ci) := hk
    rw [ent_obj hk'] at hx
    obtain rfl := Option.some.inj hx
    refine ⟨hle, _, hc, t_OB.to (V := updV (vp_V (fvs ci w a)) k (.int v)) ⟨_, e1, q2, q3, t_set q4 hap hkn (.int v)⟩ (fun j hj => ?_)⟩
    rw [fvs_V hj]
    unfold updV
    by_cases e : j = k
    · subst e
      rw [if_pos rfl, hy]
      skip
      exact (congrArg _ (up2_s _ _ _ _)).symm
    · rw [if_neg e, fvs_V hj]
      unfold fv
      have e0 : ∀ (α : Type) (f0 : Nat → Nat → α) (v0 : α), up2 f0 a k v0 a j = f0 a j := fun α f0 v0 => up2_k e
      cases cT ci j <;> simp [wI, wJ, wD, wR, sI, e0]
theorem g_putJ_0 {X : Cx} {cc : ByteArray} {own mname : String} {ret : Option FieldType} {il : List (Nat × Instr × Nat)} {ce sl pc : Nat} {lv : Nat → Option Value} {st : List Value} {w : Wd} (h : Ok X cc own mname ret il) (i : Nat) {index ci k a : Nat} {v : Int64} (hi : il[i]? = some (pc, .putfield index, 3)) (hF : FL own index ci k) (hfin : ∀ C T, Cls ci C T → (T k).2.2.2 = false) (hy : ∀ w a k2, fv (cT ci k) w a k2 = .long (wJ w a k2)) (hk : wK w a = some (.inl ci)) (hnr : narrow (cT ci k) (.long v) = .long v) (hfit : fits (cT ci k) (.long v) = true) (kk : G X ce sl (pc + 3) lv st (sJ w a k (v))) : G X ce sl pc lv (.long v :: .ref a :: st) w := by
  obtain ⟨p, l, e, R, s, m, args, below, meth, c, E, P, mc, ms, nL⟩ := X
  obtain ⟨hx, hb, hml, hown, hts, hlk, hrt, hK, hd, hlo, hmn⟩ := h
  intro H locs ls hl hP hS
  obtain ⟨C, T, hC, hkn, hw⟩ := hF
  have hfin := hfin C T hC
  obtain ⟨hc, hin, hty, hnm⟩ := hC
  have hap := va_apart (own := own) hts hin (cT ci) hty hnm hK hc
  obtain ⟨hle, r, h1, cell, q1, q2, q3, q4⟩ := PM_at hP (ent_obj hk)
  have hr : r = (C, T, cN ci) := Option.some.inj (h1.symm.trans hc)
  subst hr
  obtain ⟨hSl, hfc, kC, hkC, hkind⟩ := hK.1 ci _ hc
  obtain ⟨cf, kf, fi, f, hi0, hsl⟩ := hSl k hkn
  have hlay := hts _ (hin _ (u_in_lay hkn))
  unfold u_lay at hlay
  skip
  rw [if_neg (by rw [hfin]; decide)] at hlay
  have hst := (u_facts hfc hkC (u_lays hts hin hkn) hi0).1
  have hde := hty k hkn
  have h6 := u_store hfc hkC hkind hlay hi0 hde hnr hfit
  refine W.putK hx hb (f := f) ⟨hown, (hts _ hw), ⟨_, _, _, hi0⟩, hst⟩ (by rw [q2]; exact h6) q1 q3 (by rw [hsl]; exact k2_hasslot (q4 k hkn)) rfl rfl (dkm hd hi) fun H1 e1 e2 e3 => ?_
  rw [hsl] at e1 ⊢
  refine kk H1 _ ls hl (PM_put hP e2 e3 rfl (fun q hq => ent_c rfl (fun k2 => ?_) (fun k2 => ?_) (fun k2 => ?_) (fun k2 => ?_)) (fun x hx => ?_)) (hS.put e2 e3 hle)
  · rfl
  · rfl
  · exact up2_a hq
  · rfl
  · have hk' : wK (sJ w a k (v)) a = some (.inl ci) := hk
    rw [ent_obj hk'] at hx
    obtain rfl := Option.some.inj hx
    refine ⟨hle, _, hc, t_OB.to (V := updV (vp_V (fvs ci w a)) k (.long v)) ⟨_, e1, q2, q3, t_set q4 hap hkn (.long v)⟩ (fun j hj => ?_)⟩
    rw [fvs_V hj]
    unfold updV
    by_cases e : j = k
    · subst e
      rw [if_pos rfl, hy]
      skip
      exact (congrArg _ (up2_s _ _ _ _)).symm
    · rw [if_neg e, fvs_V hj]
      unfold fv
      have e0 : ∀ (α : Type) (f0 : Nat → Nat → α) (v0 : α), up2 f0 a k v0 a j = f0 a j := fun α f0 v0 => up2_k e
      cases cT ci j <;> simp [wI, wJ, wD, wR, sJ, e0]
theorem g_putJF_0 {X : Cx} {cc : ByteArray} {own mname : String} {ret : Option FieldType} {il : List (Nat × Instr × Nat)} {ce sl pc : Nat} {lv : Nat → Option Value} {st : List Value} {w : Wd} (h : Ok X cc own mname ret il) (i : Nat) {index ci k a : Nat} {v : Int64} (hi : il[i]? = some (pc, .putfield index, 3)) (hmn2 : mname = "<init>") (hF : FL own index ci k) (hfin : ∀ C T, Cls ci C T → (T k).2.2.2 = true ∧ (T k).1 = own) (hy : ∀ w a k2, fv (cT ci k) w a k2 = .long (wJ w a k2)) (hk : wK w a = some (.inl ci)) (hnr : narrow (cT ci k) (.long v) = .long v) (hfit : fits (cT ci k) (.long v) = true) (kk : G X ce sl (pc + 3) lv st (sJ w a k (v))) : G X ce sl pc lv (.long v :: .ref a :: st) w := by
  obtain ⟨p, l, e, R, s, m, args, below, meth, c, E, P, mc, ms, nL⟩ := X
  obtain ⟨hx, hb, hml, hown, hts, hlk, hrt, hK, hd, hlo, hmn⟩ := h
  intro H locs ls hl hP hS
  obtain ⟨C, T, hC, hkn, hw⟩ := hF
  have hfin := hfin C T hC
  obtain ⟨hc, hin, hty, hnm⟩ := hC
  have hap := va_apart (own := own) hts hin (cT ci) hty hnm hK hc
  obtain ⟨hle, r, h1, cell, q1, q2, q3, q4⟩ := PM_at hP (ent_obj hk)
  have hr : r = (C, T, cN ci) := Option.some.inj (h1.symm.trans hc)
  subst hr
  obtain ⟨hSl, hfc, kC, hkC, hkind⟩ := hK.1 ci _ hc
  obtain ⟨cf, kf, fi, f, hi0, hsl⟩ := hSl k hkn
  have hlay := hts _ (hin _ (u_in_lay hkn))
  unfold u_lay at hlay
  obtain ⟨hfin, hdecl⟩ := hfin
  rw [if_pos hfin] at hlay
  have hst := (u_facts hfc hkC (u_lays hts hin hkn) hi0).1
  have hde := hty k hkn
  have hcf : m.cls = cf := by
    obtain ⟨_, _, c', _, _, _, -, -, hf', -, -, -, hown2, -⟩ := Cond.laysFinal_spec hlay
    have e1 : c' = cf := by have := hi0.symm.trans hf'; simp at this; exact this.1.symm
    rw [hdecl] at hown2
    rw [← e1]; exact Option.some.inj (hown.symm.trans hown2)
  have h6 := u_fits hfc hkC hkind (Or.inr hlay) hi0 hde hnr hfit
  refine W.putFinK hx hb hown (hts _ hw) hi0 hst hcf (by rw [hmn, hmn2]) (by rw [q2]; exact h6) q1 q3 (by rw [hsl]; exact k2_hasslot (q4 k hkn)) rfl rfl (dkm hd hi) fun H1 e1 e2 e3 => ?_
  rw [hsl] at e1 ⊢
  refine kk H1 _ ls hl (PM_put hP e2 e3 rfl (fun q hq => ent_c rfl (fun k2 => ?_) (fun k2 => ?_) (fun k2 => ?_) (fun k2 => ?_)) (fun x hx => ?_)) (hS.put e2 e3 hle)
  · rfl
  · rfl
  · exact up2_a hq
  · rfl
  · have hk' : wK (sJ w a k (v)) a = some (.inl ci) := hk
    rw [ent_obj hk'] at hx
    obtain rfl := Option.some.inj hx
    refine ⟨hle, _, hc, t_OB.to (V := updV (vp_V (fvs ci w a)) k (.long v)) ⟨_, e1, q2, q3, t_set q4 hap hkn (.long v)⟩ (fun j hj => ?_)⟩
    rw [fvs_V hj]
    unfold updV
    by_cases e : j = k
    · subst e
      rw [if_pos rfl, hy]
      skip
      exact (congrArg _ (up2_s _ _ _ _)).symm
    · rw [if_neg e, fvs_V hj]
      unfold fv
      have e0 : ∀ (α : Type) (f0 : Nat → Nat → α) (v0 : α), up2 f0 a k v0 a j = f0 a j := fun α f0 v0 => up2_k e
      cases cT ci j <;> simp [wI, wJ, wD, wR, sJ, e0]
theorem g_putD_0 {X : Cx} {cc : ByteArray} {own mname : String} {ret : Option FieldType} {il : List (Nat × Instr × Nat)} {ce sl pc : Nat} {lv : Nat → Option Value} {st : List Value} {w : Wd} (h : Ok X cc own mname ret il) (i : Nat) {index ci k a : Nat} {v : UInt64} (hi : il[i]? = some (pc, .putfield index, 3)) (hF : FL own index ci k) (hfin : ∀ C T, Cls ci C T → (T k).2.2.2 = false) (hy : ∀ w a k2, fv (cT ci k) w a k2 = .double (wD w a k2)) (hk : wK w a = some (.inl ci)) (hnr : narrow (cT ci k) (.double v) = .double v) (hfit : fits (cT ci k) (.double v) = true) (kk : G X ce sl (pc + 3) lv st (sD w a k (v))) : G X ce sl pc lv (.double v :: .ref a :: st) w := by
  obtain ⟨p, l, e, R, s, m, args, below, meth, c, E, P, mc, ms, nL⟩ := X
  obtain ⟨hx, hb, hml, hown, hts, hlk, hrt, hK, hd, hlo, hmn⟩ := h
  intro H locs ls hl hP hS
  obtain ⟨C, T, hC, hkn, hw⟩ := hF
  have hfin := hfin C T hC
  obtain ⟨hc, hin, hty, hnm⟩ := hC
  have hap := va_apart (own := own) hts hin (cT ci) hty hnm hK hc
  obtain ⟨hle, r, h1, cell, q1, q2, q3, q4⟩ := PM_at hP (ent_obj hk)
  have hr : r = (C, T, cN ci) := Option.some.inj (h1.symm.trans hc)
  subst hr
  obtain ⟨hSl, hfc, kC, hkC, hkind⟩ := hK.1 ci _ hc
  obtain ⟨cf, kf, fi, f, hi0, hsl⟩ := hSl k hkn
  have hlay := hts _ (hin _ (u_in_lay hkn))
  unfold u_lay at hlay
  skip
  rw [if_neg (by rw [hfin]; decide)] at hlay
  have hst := (u_facts hfc hkC (u_lays hts hin hkn) hi0).1
  have hde := hty k hkn
  have h6 := u_store hfc hkC hkind hlay hi0 hde hnr hfit
  refine W.putK hx hb (f := f) ⟨hown, (hts _ hw), ⟨_, _, _, hi0⟩, hst⟩ (by rw [q2]; exact h6) q1 q3 (by rw [hsl]; exact k2_hasslot (q4 k hkn)) rfl rfl (dkm hd hi) fun H1 e1 e2 e3 => ?_
  rw [hsl] at e1 ⊢
  refine kk H1 _ ls hl (PM_put hP e2 e3 rfl (fun q hq => ent_c rfl (fun k2 => ?_) (fun k2 => ?_) (fun k2 => ?_) (fun k2 => ?_)) (fun x hx => ?_)) (hS.put e2 e3 hle)
  · rfl
  · rfl
  · rfl
  · exact up2_a hq
  · have hk' : wK (sD w a k (v)) a = some (.inl ci) := hk
    rw [ent_obj hk'] at hx
    obtain rfl := Option.some.inj hx
    refine ⟨hle, _, hc, t_OB.to (V := updV (vp_V (fvs ci w a)) k (.double v)) ⟨_, e1, q2, q3, t_set q4 hap hkn (.double v)⟩ (fun j hj => ?_)⟩
    rw [fvs_V hj]
    unfold updV
    by_cases e : j = k
    · subst e
      rw [if_pos rfl, hy]
      skip
      exact (congrArg _ (up2_s _ _ _ _)).symm
    · rw [if_neg e, fvs_V hj]
      unfold fv
      have e0 : ∀ (α : Type) (f0 : Nat → Nat → α) (v0 : α), up2 f0 a k v0 a j = f0 a j := fun α f0 v0 => up2_k e
      cases cT ci j <;> simp [wI, wJ, wD, wR, sD, e0]
theorem g_putDF_0 {X : Cx} {cc : ByteArray} {own mname : String} {ret : Option FieldType} {il : List (Nat × Instr × Nat)} {ce sl pc : Nat} {lv : Nat → Option Value} {st : List Value} {w : Wd} (h : Ok X cc own mname ret il) (i : Nat) {index ci k a : Nat} {v : UInt64} (hi : il[i]? = some (pc, .putfield index, 3)) (hmn2 : mname = "<init>") (hF : FL own index ci k) (hfin : ∀ C T, Cls ci C T → (T k).2.2.2 = true ∧ (T k).1 = own) (hy : ∀ w a k2, fv (cT ci k) w a k2 = .double (wD w a k2)) (hk : wK w a = some (.inl ci)) (hnr : narrow (cT ci k) (.double v) = .double v) (hfit : fits (cT ci k) (.double v) = true) (kk : G X ce sl (pc + 3) lv st (sD w a k (v))) : G X ce sl pc lv (.double v :: .ref a :: st) w := by
  obtain ⟨p, l, e, R, s, m, args, below, meth, c, E, P, mc, ms, nL⟩ := X
  obtain ⟨hx, hb, hml, hown, hts, hlk, hrt, hK, hd, hlo, hmn⟩ := h
  intro H locs ls hl hP hS
  obtain ⟨C, T, hC, hkn, hw⟩ := hF
  have hfin := hfin C T hC
  obtain ⟨hc, hin, hty, hnm⟩ := hC
  have hap := va_apart (own := own) hts hin (cT ci) hty hnm hK hc
  obtain ⟨hle, r, h1, cell, q1, q2, q3, q4⟩ := PM_at hP (ent_obj hk)
  have hr : r = (C, T, cN ci) := Option.some.inj (h1.symm.trans hc)
  subst hr
  obtain ⟨hSl, hfc, kC, hkC, hkind⟩ := hK.1 ci _ hc
  obtain ⟨cf, kf, fi, f, hi0, hsl⟩ := hSl k hkn
  have hlay := hts _ (hin _ (u_in_lay hkn))
  unfold u_lay at hlay
  obtain ⟨hfin, hdecl⟩ := hfin
  rw [if_pos hfin] at hlay
  have hst := (u_facts hfc hkC (u_lays hts hin hkn) hi0).1
  have hde := hty k hkn
  have hcf : m.cls = cf := by
    obtain ⟨_, _, c', _, _, _, -, -, hf', -, -, -, hown2, -⟩ := Cond.laysFinal_spec hlay
    have e1 : c' = cf := by have := hi0.symm.trans hf'; simp at this; exact this.1.symm
    rw [hdecl] at hown2
    rw [← e1]; exact Option.some.inj (hown.symm.trans hown2)
  have h6 := u_fits hfc hkC hkind (Or.inr hlay) hi0 hde hnr hfit
  refine W.putFinK hx hb hown (hts _ hw) hi0 hst hcf (by rw [hmn, hmn2]) (by rw [q2]; exact h6) q1 q3 (by rw [hsl]; exact k2_hasslot (q4 k hkn)) rfl rfl (dkm hd hi) fun H1 e1 e2 e3 => ?_
  rw [hsl] at e1 ⊢
  refine kk H1 _ ls hl (PM_put hP e2 e3 rfl (fun q hq => ent_c rfl (fun k2 => ?_) (fun k2 => ?_) (fun k2 => ?_) (fun k2 => ?_)) (fun x hx => ?_)) (hS.put e2 e3 hle)
  · rfl
  · rfl
  · rfl
  · exact up2_a hq
  · have hk' : wK (sD w a k (v)) a = some (.inl ci) := hk
    rw [ent_obj hk'] at hx
    obtain rfl := Option.some.inj hx
    refine ⟨hle, _, hc, t_OB.to (V := updV (vp_V (fvs ci w a)) k (.double v)) ⟨_, e1, q2, q3, t_set q4 hap hkn (.double v)⟩ (fun j hj => ?_)⟩
    rw [fvs_V hj]
    unfold updV
    by_cases e : j = k
    · subst e
      rw [if_pos rfl, hy]
      skip
      exact (congrArg _ (up2_s _ _ _ _)).symm
    · rw [if_neg e, fvs_V hj]
      unfold fv
      have e0 : ∀ (α : Type) (f0 : Nat → Nat → α) (v0 : α), up2 f0 a k v0 a j = f0 a j := fun α f0 v0 => up2_k e
      cases cT ci j <;> simp [wI, wJ, wD, wR, sD, e0]
theorem g_putR_0 {X : Cx} {cc : ByteArray} {own mname : String} {ret : Option FieldType} {il : List (Nat × Instr × Nat)} {ce sl pc : Nat} {lv : Nat → Option Value} {st : List Value} {w : Wd} (h : Ok X cc own mname ret il) (i : Nat) {index ci k a : Nat} {v : Nat} (hi : il[i]? = some (pc, .putfield index, 3)) (hF : FL own index ci k) (hfin : ∀ C T, Cls ci C T → (T k).2.2.2 = false) (hy : ∀ w a k2, fv (cT ci k) w a k2 = va_rf (wR w a k2)) (hk : wK w a = some (.inl ci)) (hnr : narrow (cT ci k) (.ref v) = .ref v) (hfit : fits (cT ci k) (.ref v) = true) (kk : G X ce sl (pc + 3) lv st (sR w a k (some v))) : G X ce sl pc lv (.ref v :: .ref a :: st) w := by
  obtain ⟨p, l, e, R, s, m, args, below, meth, c, E, P, mc, ms, nL⟩ := X
  obtain ⟨hx, hb, hml, hown, hts, hlk, hrt, hK, hd, hlo, hmn⟩ := h
  intro H locs ls hl hP hS
  obtain ⟨C, T, hC, hkn, hw⟩ := hF
  have hfin := hfin C T hC
  obtain ⟨hc, hin, hty, hnm⟩ := hC
  have hap := va_apart (own := own) hts hin (cT ci) hty hnm hK hc
  obtain ⟨hle, r, h1, cell, q1, q2, q3, q4⟩ := PM_at hP (ent_obj hk)
  have hr : r = (C, T, cN ci) := Option.some.inj (h1.symm.trans hc)
  subst hr
  obtain ⟨hSl, hfc, kC, hkC, hkind⟩ := hK.1 ci _ hc
  obtain ⟨cf, kf, fi, f, hi0, hsl⟩ := hSl k hkn
  have hlay := hts _ (hin _ (u_in_lay hkn))
  unfold u_lay at hlay
  skip
  rw [if_neg (by rw [hfin]; decide)] at hlay
  have hst := (u_facts hfc hkC (u_lays hts hin hkn) hi0).1
  have hde := hty k hkn
  have h6 := u_store hfc hkC hkind hlay hi0 hde hnr hfit
  refine W.putK hx hb (f := f) ⟨hown, (hts _ hw), ⟨_, _, _, hi0⟩, hst⟩ (by rw [q2]; exact h6) q1 q3 (by rw [hsl]; exact k2_hasslot (q4 k hkn)) rfl rfl (dkm hd hi) fun H1 e1 e2 e3 => ?_
  rw [hsl] at e1 ⊢
  refine kk H1 _ ls hl (PM_put hP e2 e3 rfl (fun q hq => ent_c rfl (fun k2 => ?_) (fun k2 => ?_) (fun k2 => ?_) (fun k2 => ?_)) (fun x hx => ?_)) (hS.put e2 e3 hle)
  · exact up2_a hq
  · rfl
  · rfl
  · rfl
  · have hk' : wK (sR w a k (some v)) a = some (.inl ci) := hk
    rw [ent_obj hk'] at hx
    obtain rfl := Option.some.inj hx
    refine ⟨hle, _, hc, t_OB.to (V := updV (vp_V (fvs ci w a)) k (.ref v)) ⟨_, e1, q2, q3, t_set q4 hap hkn (.ref v)⟩ (fun j hj => ?_)⟩
    rw [fvs_V hj]
    unfold updV
    by_cases e : j = k
    · subst e
      rw [if_pos rfl, hy]
      show va_rf (some v) = va_rf (up2 w.2.2.1 a j (some v) a j)
      exact (congrArg va_rf (up2_s w.2.2.1 a j (some v))).symm
    · rw [if_neg e, fvs_V hj]
      unfold fv
      have e0 : ∀ (α : Type) (f0 : Nat → Nat → α) (v0 : α), up2 f0 a k v0 a j = f0 a j := fun α f0 v0 => up2_k e
      cases cT ci j <;> simp [wI, wJ, wD, wR, sR, e0]
theorem g_putRF_0 {X : Cx} {cc : ByteArray} {own mname : String} {ret : Option FieldType} {il : List (Nat × Instr × Nat)} {ce sl pc : Nat} {lv : Nat → Option Value} {st : List Value} {w : Wd} (h : Ok X cc own mname ret il) (i : Nat) {index ci k a : Nat} {v : Nat} (hi : il[i]? = some (pc, .putfield index, 3)) (hmn2 : mname = "<init>") (hF : FL own index ci k) (hfin : ∀ C T, Cls ci C T → (T k).2.2.2 = true ∧ (T k).1 = own) (hy : ∀ w a k2, fv (cT ci k) w a k2 = va_rf (wR w a k2)) (hk : wK w a = some (.inl ci)) (hnr : narrow (cT ci k) (.ref v) = .ref v) (hfit : fits (cT ci k) (.ref v) = true) (kk : G X ce sl (pc + 3) lv st (sR w a k (some v))) : G X ce sl pc lv (.ref v :: .ref a :: st) w := by
  obtain ⟨p, l, e, R, s, m, args, below, meth, c, E, P, mc, ms, nL⟩ := X
  obtain ⟨hx, hb, hml, hown, hts, hlk, hrt, hK, hd, hlo, hmn⟩ := h
  intro H locs ls hl hP hS
  obtain ⟨C, T, hC, hkn, hw⟩ := hF
  have hfin := hfin C T hC
  obtain ⟨hc, hin, hty, hnm⟩ := hC
  have hap := va_apart (own := own) hts hin (cT ci) hty hnm hK hc
  obtain ⟨hle, r, h1, cell, q1, q2, q3, q4⟩ := PM_at hP (ent_obj hk)
  have hr : r = (C, T, cN ci) := Option.some.inj (h1.symm.trans hc)
  subst hr
  obtain ⟨hSl, hfc, kC, hkC, hkind⟩ := hK.1 ci _ hc
  obtain ⟨cf, kf, fi, f, hi0, hsl⟩ := hSl k hkn
  have hlay := hts _ (hin _ (u_in_lay hkn))
  unfold u_lay at hlay
  obtain ⟨hfin, hdecl⟩ := hfin
  rw [if_pos hfin] at hlay
  have hst := (u_facts hfc hkC (u_lays hts hin hkn) hi0).1
  have hde := hty k hkn
  have hcf : m.cls = cf := by
    obtain ⟨_, _, c', _, _, _, -, -, hf', -, -, -, hown2, -⟩ := Cond.laysFinal_spec hlay
    have e1 : c' = cf := by have := hi0.symm.trans hf'; simp at this; exact this.1.symm
    rw [hdecl] at hown2
    rw [← e1]; exact Option.some.inj (hown.symm.trans hown2)
  have h6 := u_fits hfc hkC hkind (Or.inr hlay) hi0 hde hnr hfit
  refine W.putFinK hx hb hown (hts _ hw) hi0 hst hcf (by rw [hmn, hmn2]) (by rw [q2]; exact h6) q1 q3 (by rw [hsl]; exact k2_hasslot (q4 k hkn)) rfl rfl (dkm hd hi) fun H1 e1 e2 e3 => ?_
  rw [hsl] at e1 ⊢
  refine kk H1 _ ls hl (PM_put hP e2 e3 rfl (fun q hq => ent_c rfl (fun k2 => ?_) (fun k2 => ?_) (fun k2 => ?_) (fun k2 => ?_)) (fun x hx => ?_)) (hS.put e2 e3 hle)
  · exact up2_a hq
  · rfl
  · rfl
  · rfl
  · have hk' : wK (sR w a k (some v)) a = some (.inl ci) := hk
    rw [ent_obj hk'] at hx
    obtain rfl := Option.some.inj hx
    refine ⟨hle, _, hc, t_OB.to (V := updV (vp_V (fvs ci w a)) k (.ref v)) ⟨_, e1, q2, q3, t_set q4 hap hkn (.ref v)⟩ (fun j hj => ?_)⟩
    rw [fvs_V hj]
    unfold updV
    by_cases e : j = k
    · subst e
      rw [if_pos rfl, hy]
      show va_rf (some v) = va_rf (up2 w.2.2.1 a j (some v) a j)
      exact (congrArg va_rf (up2_s w.2.2.1 a j (some v))).symm
    · rw [if_neg e, fvs_V hj]
      unfold fv
      have e0 : ∀ (α : Type) (f0 : Nat → Nat → α) (v0 : α), up2 f0 a k v0 a j = f0 a j := fun α f0 v0 => up2_k e
      cases cT ci j <;> simp [wI, wJ, wD, wR, sR, e0]
theorem g_iald {X : Cx} {cc : ByteArray} {own mname : String} {ret : Option FieldType} {il : List (Nat × Instr × Nat)} {ce sl pc : Nat} {lv : Nat → Option Value} {st : List Value} {w : Wd} (h : Ok X cc own mname ret il) (i : Nat) {a n : Nat} {x : Int32} (hi : il[i]? = some (pc, .iaload, 1)) (hk : wK w a = some (.inr (0, n))) (hv : vp_in x n) (kk : G X ce sl (pc + 1) lv (.int (wI w a x.toNatClampNeg) :: st) w) : G X ce sl pc lv (.int x :: .ref a :: st) w := by
  obtain ⟨p, l, e, R, s, m, args, below, meth, c, E, P, mc, ms, nL⟩ := X
  obtain ⟨hx, hb, hml, hown, hts, hlk, hrt, hK, hd, hlo, hmn⟩ := h
  intro H locs ls hl hP hS
  exact va_iald hx hb hK (PM_1 hP (ent_arr hk)) 0 0 (f := wI w a) rfl rfl hv (dkm hd hi) (kk H locs ls hl hP hS)
theorem g_zald {X : Cx} {cc : ByteArray} {own mname : String} {ret : Option FieldType} {il : List (Nat × Instr × Nat)} {ce sl pc : Nat} {lv : Nat → Option Value} {st : List Value} {w : Wd} (h : Ok X cc own mname ret il) (i : Nat) {a n : Nat} {x : Int32} (hi : il[i]? = some (pc, .baload, 1)) (hk : wK w a = some (.inr (1, n))) (hv : vp_in x n) (kk : G X ce sl (pc + 1) lv (.int (wI w a x.toNatClampNeg) :: st) w) : G X ce sl pc lv (.int x :: .ref a :: st) w := by
  obtain ⟨p, l, e, R, s, m, args, below, meth, c, E, P, mc, ms, nL⟩ := X
  obtain ⟨hx, hb, hml, hown, hts, hlk, hrt, hK, hd, hlo, hmn⟩ := h
  intro H locs ls hl hP hS
  exact va_zald hx hb hK (PM_1 hP (ent_arr hk)) 0 1 (f := wI w a) rfl rfl hv (dkm hd hi) (kk H locs ls hl hP hS)
theorem g_lald {X : Cx} {cc : ByteArray} {own mname : String} {ret : Option FieldType} {il : List (Nat × Instr × Nat)} {ce sl pc : Nat} {lv : Nat → Option Value} {st : List Value} {w : Wd} (h : Ok X cc own mname ret il) (i : Nat) {a n : Nat} {x : Int32} (hi : il[i]? = some (pc, .laload, 1)) (hk : wK w a = some (.inr (2, n))) (hv : vp_in x n) (kk : G X ce sl (pc + 1) lv (.long (wJ w a x.toNatClampNeg) :: st) w) : G X ce sl pc lv (.int x :: .ref a :: st) w := by
  obtain ⟨p, l, e, R, s, m, args, below, meth, c, E, P, mc, ms, nL⟩ := X
  obtain ⟨hx, hb, hml, hown, hts, hlk, hrt, hK, hd, hlo, hmn⟩ := h
  intro H locs ls hl hP hS
  exact va_lald hx hb hK (PM_1 hP (ent_arr hk)) 0 2 (f := wJ w a) rfl rfl hv (dkm hd hi) (kk H locs ls hl hP hS)
theorem g_aald {X : Cx} {cc : ByteArray} {own mname : String} {ret : Option FieldType} {il : List (Nat × Instr × Nat)} {ce sl pc : Nat} {lv : Nat → Option Value} {st : List Value} {w : Wd} (h : Ok X cc own mname ret il) (i : Nat) {t a n r : Nat} {x : Int32} (hi : il[i]? = some (pc, .aaload, 1)) (ht3 : t < 4) (hk : wK w a = some (.inr (t + 3, n))) (hv : vp_in x n) (hr : wR w a x.toNatClampNeg = some r) (kk : G X ce sl (pc + 1) lv (.ref r :: st) w) : G X ce sl pc lv (.int x :: .ref a :: st) w := by
  obtain ⟨p, l, e, R, s, m, args, below, meth, c, E, P, mc, ms, nL⟩ := X
  obtain ⟨hx, hb, hml, hown, hts, hlk, hrt, hK, hd, hlo, hmn⟩ := h
  intro H locs ls hl hP hS
  have hh : ∃ C, (tys E)[t + 3]? = some (E.2.1 (t + 3), .object C) := by
    rw [tys_at (by omega)]
    match t, ht3 with
    | 0, _ => exact ⟨_, rfl⟩
    | 1, _ => exact ⟨_, rfl⟩
    | 2, _ => exact ⟨_, rfl⟩
    | 3, _ => exact ⟨_, rfl⟩
  obtain ⟨C, hh⟩ := hh
  refine va_aldq hx hb hK (PM_1 hP (ent_arr hk)) 0 (t + 3) (f := wR w a) rfl hh hv (dkm hd hi) ?_
  rw [hr]
  exact kk H locs ls hl hP hS
theorem g_iast {X : Cx} {cc : ByteArray} {own mname : String} {ret : Option FieldType} {il : List (Nat × Instr × Nat)} {ce sl pc : Nat} {lv : Nat → Option Value} {st : List Value} {w : Wd} (h : Ok X cc own mname ret il) (i : Nat) {a n : Nat} {x : Int32} {v : Int32} (hi : il[i]? = some (pc, .iastore, 1)) (hk : wK w a = some (.inr (0, n))) (hv : vp_in x n) (kk : G X ce sl (pc + 1) lv st (sI w a x.toNatClampNeg v)) : G X ce sl pc lv (.int v :: .int x :: .ref a :: st) w := by
  obtain ⟨p, l, e, R, s, m, args, below, meth, c, E, P, mc, ms, nL⟩ := X
  obtain ⟨hx, hb, hml, hown, hts, hlk, hrt, hK, hd, hlo, hmn⟩ := h
  intro H locs ls hl hP hS
  obtain ⟨hle, hat⟩ := PM_at hP (ent_arr hk)
  have hlt : x.toNatClampNeg < n := Nat.not_le.mp fun q => hv (Or.inr q)
  refine W.iast hx hb hat ((hK.2 0 _ (tys_at (by decide))).1 n (fun j => .int (wI w a j))) (fun q => by cases q) (by show ¬ (x < 0 ∨ (arrV _ _ _).slots.size ≤ _); rw [arrV_size]; exact hv) rfl rfl (dkm hd hi) fun H1 e z oq => ?_
  refine kk H1 _ ls hl (PM_put hP z oq rfl (fun q hq => ent_c rfl (fun k2 => ?_) (fun k2 => ?_) (fun k2 => ?_) (fun k2 => ?_)) (fun y hy => ?_)) (hS.put z oq hle)
  · rfl
  · exact up2_a hq
  · rfl
  · rfl
  · have hk' : wK (sI w a x.toNatClampNeg v) a = some (.inr (0, n)) := hk
    rw [ent_arr hk'] at hy
    obtain rfl := Option.some.inj hy
    refine ⟨hle, ?_⟩
    show H1[a]? = some (vp_cell _ _)
    rw [e]
    show some ((vp_cell (E.2.1 0) (n, arrC 0 w a)).setSlot _ _) = some (vp_cell (E.2.1 0) (n, arrC 0 (sI w a x.toNatClampNeg v) a))
    skip
    show some ((arrV (E.2.1 0) n (fun j => .int (wI w a j))).setSlot _ _) = some (arrV (E.2.1 0) n (fun j => .int (wI (sI w a x.toNatClampNeg v) a j)))
    rw [arrV_store]
    congr 2
    funext q
    by_cases hq : q = x.toNatClampNeg
    · subst hq
      show (if x.toNatClampNeg = x.toNatClampNeg then _ else _) = _
      rw [if_pos rfl]
      exact (congrArg _ (up2_s _ _ _ _)).symm
    · show (if q = x.toNatClampNeg then _ else _) = _
      rw [if_neg hq]
      exact (congrArg _ (up2_k hq)).symm
theorem g_zast {X : Cx} {cc : ByteArray} {own mname : String} {ret : Option FieldType} {il : List (Nat × Instr × Nat)} {ce sl pc : Nat} {lv : Nat → Option Value} {st : List Value} {w : Wd} (h : Ok X cc own mname ret il) (i : Nat) {a n : Nat} {x : Int32} {v : Int32} (hi : il[i]? = some (pc, .bastore, 1)) (hk : wK w a = some (.inr (1, n))) (hv : vp_in x n) (hz : narrow .boolean (.int v) = .int v) (kk : G X ce sl (pc + 1) lv st (sI w a x.toNatClampNeg v)) : G X ce sl pc lv (.int v :: .int x :: .ref a :: st) w := by
  obtain ⟨p, l, e, R, s, m, args, below, meth, c, E, P, mc, ms, nL⟩ := X
  obtain ⟨hx, hb, hml, hown, hts, hlk, hrt, hK, hd, hlo, hmn⟩ := h
  intro H locs ls hl hP hS
  obtain ⟨hle, hat⟩ := PM_at hP (ent_arr hk)
  have hlt : x.toNatClampNeg < n := Nat.not_le.mp fun q => hv (Or.inr q)
  refine W.zast hx hb hat ((hK.2 1 _ (tys_at (by decide))).1 n (fun j => .int (wI w a j))) (fun q => by cases q) (by show ¬ (x < 0 ∨ (arrV _ _ _).slots.size ≤ _); rw [arrV_size]; exact hv) rfl rfl (dkm hd hi) fun H1 e z oq => ?_
  refine kk H1 _ ls hl (PM_put hP z oq rfl (fun q hq => ent_c rfl (fun k2 => ?_) (fun k2 => ?_) (fun k2 => ?_) (fun k2 => ?_)) (fun y hy => ?_)) (hS.put z oq hle)
  · rfl
  · exact up2_a hq
  · rfl
  · rfl
  · have hk' : wK (sI w a x.toNatClampNeg v) a = some (.inr (1, n)) := hk
    rw [ent_arr hk'] at hy
    obtain rfl := Option.some.inj hy
    refine ⟨hle, ?_⟩
    show H1[a]? = some (vp_cell _ _)
    rw [e]
    show some ((vp_cell (E.2.1 1) (n, arrC 1 w a)).setSlot _ _) = some (vp_cell (E.2.1 1) (n, arrC 1 (sI w a x.toNatClampNeg v) a))
    rw [hz]
    show some ((arrV (E.2.1 1) n (fun j => .int (wI w a j))).setSlot _ _) = some (arrV (E.2.1 1) n (fun j => .int (wI (sI w a x.toNatClampNeg v) a j)))
    rw [arrV_store]
    congr 2
    funext q
    by_cases hq : q = x.toNatClampNeg
    · subst hq
      show (if x.toNatClampNeg = x.toNatClampNeg then _ else _) = _
      rw [if_pos rfl]
      exact (congrArg _ (up2_s _ _ _ _)).symm
    · show (if q = x.toNatClampNeg then _ else _) = _
      rw [if_neg hq]
      exact (congrArg _ (up2_k hq)).symm
theorem g_last {X : Cx} {cc : ByteArray} {own mname : String} {ret : Option FieldType} {il : List (Nat × Instr × Nat)} {ce sl pc : Nat} {lv : Nat → Option Value} {st : List Value} {w : Wd} (h : Ok X cc own mname ret il) (i : Nat) {a n : Nat} {x : Int32} {v : Int64} (hi : il[i]? = some (pc, .lastore, 1)) (hk : wK w a = some (.inr (2, n))) (hv : vp_in x n) (kk : G X ce sl (pc + 1) lv st (sJ w a x.toNatClampNeg v)) : G X ce sl pc lv (.long v :: .int x :: .ref a :: st) w := by
  obtain ⟨p, l, e, R, s, m, args, below, meth, c, E, P, mc, ms, nL⟩ := X
  obtain ⟨hx, hb, hml, hown, hts, hlk, hrt, hK, hd, hlo, hmn⟩ := h
  intro H locs ls hl hP hS
  obtain ⟨hle, hat⟩ := PM_at hP (ent_arr hk)
  have hlt : x.toNatClampNeg < n := Nat.not_le.mp fun q => hv (Or.inr q)
  refine W.last hx hb hat ((hK.2 2 _ (tys_at (by decide))).1 n (fun j => .long (wJ w a j))) (fun q => by cases q) (by show ¬ (x < 0 ∨ (arrV _ _ _).slots.size ≤ _); rw [arrV_size]; exact hv) rfl rfl (dkm hd hi) fun H1 e z oq => ?_
  refine kk H1 _ ls hl (PM_put hP z oq rfl (fun q hq => ent_c rfl (fun k2 => ?_) (fun k2 => ?_) (fun k2 => ?_) (fun k2 => ?_)) (fun y hy => ?_)) (hS.put z oq hle)
  · rfl
  · rfl
  · exact up2_a hq
  · rfl
  · have hk' : wK (sJ w a x.toNatClampNeg v) a = some (.inr (2, n)) := hk
    rw [ent_arr hk'] at hy
    obtain rfl := Option.some.inj hy
    refine ⟨hle, ?_⟩
    show H1[a]? = some (vp_cell _ _)
    rw [e]
    show some ((vp_cell (E.2.1 2) (n, arrC 2 w a)).setSlot _ _) = some (vp_cell (E.2.1 2) (n, arrC 2 (sJ w a x.toNatClampNeg v) a))
    skip
    show some ((arrV (E.2.1 2) n (fun j => .long (wJ w a j))).setSlot _ _) = some (arrV (E.2.1 2) n (fun j => .long (wJ (sJ w a x.toNatClampNeg v) a j)))
    rw [arrV_store]
    congr 2
    funext q
    by_cases hq : q = x.toNatClampNeg
    · subst hq
      show (if x.toNatClampNeg = x.toNatClampNeg then _ else _) = _
      rw [if_pos rfl]
      exact (congrArg _ (up2_s _ _ _ _)).symm
    · show (if q = x.toNatClampNeg then _ else _) = _
      rw [if_neg hq]
      exact (congrArg _ (up2_k hq)).symm
theorem g_iret {X : Cx} {cc : ByteArray} {own mname : String} {il : List (Nat × Instr × Nat)} {pc : Nat} {lv : Nat → Option Value} {w : Wd} {ce sl : Nat} {R0 : Room} {l0 : Launch} {E0 : EE} {P0 : Option Value → Wd → Prop} {nL0 : Nat} (hq : Is X R0 l0 E0 P0 ce sl nL0) (h : Ok X cc own mname (some .int) il) (i : Nat) {v : Int32} (hi : il[i]? = some (pc, .ireturn, 1)) (k : P0 (some (.int v)) w) : G X ce sl pc lv [.int v] w := by
  obtain ⟨p, l, e, R, s, m, args, below, meth, c, E, P, mc, ms, nL⟩ := X
  obtain ⟨hx, hb, hml, hown, hts, hlk, hrt, hK, hd, hlo, hmn⟩ := h
  intro H locs ls hl hP hS
  obtain ⟨-, -, -, q1, q2, q3, -⟩ := hq
  subst q1; subst q2; subst q3
  exact W.iret hx hb hrt (fun t ht hW => ⟨⟨_, w, rfl, k, by rw [ht]; exact hP, va_K.moved hW.alike hK⟩, hS.F ht⟩) hS.2.2 (dkm hd hi) hlk
theorem g_lret {X : Cx} {cc : ByteArray} {own mname : String} {il : List (Nat × Instr × Nat)} {pc : Nat} {lv : Nat → Option Value} {w : Wd} {ce sl : Nat} {R0 : Room} {l0 : Launch} {E0 : EE} {P0 : Option Value → Wd → Prop} {nL0 : Nat} (hq : Is X R0 l0 E0 P0 ce sl nL0) (h : Ok X cc own mname (some .long) il) (i : Nat) {v : Int64} (hi : il[i]? = some (pc, .lreturn, 1)) (k : P0 (some (.long v)) w) : G X ce sl pc lv [.long v] w := by
  obtain ⟨p, l, e, R, s, m, args, below, meth, c, E, P, mc, ms, nL⟩ := X
  obtain ⟨hx, hb, hml, hown, hts, hlk, hrt, hK, hd, hlo, hmn⟩ := h
  intro H locs ls hl hP hS
  obtain ⟨-, -, -, q1, q2, q3, -⟩ := hq
  subst q1; subst q2; subst q3
  exact W.lret hx hb hrt (fun t ht hW => ⟨⟨_, w, rfl, k, by rw [ht]; exact hP, va_K.moved hW.alike hK⟩, hS.F ht⟩) hS.2.2 (dkm hd hi) hlk
theorem g_dret {X : Cx} {cc : ByteArray} {own mname : String} {il : List (Nat × Instr × Nat)} {pc : Nat} {lv : Nat → Option Value} {w : Wd} {ce sl : Nat} {R0 : Room} {l0 : Launch} {E0 : EE} {P0 : Option Value → Wd → Prop} {nL0 : Nat} (hq : Is X R0 l0 E0 P0 ce sl nL0) (h : Ok X cc own mname (some .double) il) (i : Nat) {v : UInt64} (hi : il[i]? = some (pc, .dreturn, 1)) (k : P0 (some (.double v)) w) : G X ce sl pc lv [.double v] w := by
  obtain ⟨p, l, e, R, s, m, args, below, meth, c, E, P, mc, ms, nL⟩ := X
  obtain ⟨hx, hb, hml, hown, hts, hlk, hrt, hK, hd, hlo, hmn⟩ := h
  intro H locs ls hl hP hS
  obtain ⟨-, -, -, q1, q2, q3, -⟩ := hq
  subst q1; subst q2; subst q3
  exact W.dret hx hb hrt (fun t ht hW => ⟨⟨_, w, rfl, k, by rw [ht]; exact hP, va_K.moved hW.alike hK⟩, hS.F ht⟩) hS.2.2 (dkm hd hi) hlk
theorem g_zret {X : Cx} {cc : ByteArray} {own mname : String} {il : List (Nat × Instr × Nat)} {pc : Nat} {lv : Nat → Option Value} {w : Wd} {ce sl : Nat} {R0 : Room} {l0 : Launch} {E0 : EE} {P0 : Option Value → Wd → Prop} {nL0 : Nat} (hq : Is X R0 l0 E0 P0 ce sl nL0) (h : Ok X cc own mname (some .boolean) il) (i : Nat) {v : Int32} (hi : il[i]? = some (pc, .ireturn, 1)) (hn : narrow .boolean (.int v) = .int v) (k : P0 (some (.int v)) w) : G X ce sl pc lv [.int v] w := by
  obtain ⟨p, l, e, R, s, m, args, below, meth, c, E, P, mc, ms, nL⟩ := X
  obtain ⟨hx, hb, hml, hown, hts, hlk, hrt, hK, hd, hlo, hmn⟩ := h
  intro H locs ls hl hP hS
  obtain ⟨-, -, -, q1, q2, q3, -⟩ := hq
  subst q1; subst q2; subst q3
  exact W.zret hx hb hrt hn (fun t ht hW => ⟨⟨_, w, rfl, k, by rw [ht]; exact hP, va_K.moved hW.alike hK⟩, hS.F ht⟩) hS.2.2 (dkm hd hi) hlk
theorem g_vret {X : Cx} {cc : ByteArray} {own mname : String} {il : List (Nat × Instr × Nat)} {pc : Nat} {lv : Nat → Option Value} {w : Wd} {ce sl : Nat} {R0 : Room} {l0 : Launch} {E0 : EE} {P0 : Option Value → Wd → Prop} {nL0 : Nat} (hq : Is X R0 l0 E0 P0 ce sl nL0) (h : Ok X cc own mname none il) (i : Nat) (hi : il[i]? = some (pc, .return_, 1)) (k : P0 none w) : G X ce sl pc lv [] w := by
  obtain ⟨p, l, e, R, s, m, args, below, meth, c, E, P, mc, ms, nL⟩ := X
  obtain ⟨hx, hb, hml, hown, hts, hlk, hrt, hK, hd, hlo, hmn⟩ := h
  intro H locs ls hl hP hS
  obtain ⟨-, -, -, q1, q2, q3, -⟩ := hq
  subst q1; subst q2; subst q3
  exact W.vret hx hb hrt (fun t ht hW => ⟨⟨_, w, rfl, k, by rw [ht]; exact hP, va_K.moved hW.alike hK⟩, hS.F ht⟩) hS.2.2 (dkm hd hi) hlk
theorem ct_in {l : Launch} {E : EE} {y : MethodName} {cc : ByteArray} {maxL : Nat} {ret : Option FieldType} {rm : Room} {args : List Value} {w : Wd} {mc ms : Nat} {P : Option Value → Wd → Prop} {il : List (Nat × Instr × Nat)} (hy : plainName y.cls = true) (hd : ∀ q ∈ il, decode cc q.1 = .ok (q.2.1, q.2.2)) (hfit : (lg_sl args).length ≤ maxL) (hlo : E.2.2 ≤ wN w)
    (body : ∀ X : Cx, Ok X cc y.cls y.name ret il → Is X rm l E P mc ms maxL → G X 0 0 0 (lf (lv_args 0 args)) [] w) : Ct l E y cc maxL ret rm args w mc ms P := by
  refine Met.ofW (cc := cc) (maxL := maxL) (ret := ret) hy rfl ?_
  intro p e s m args0 below meth c s₁ B hml hv
  obtain ⟨rfl, hP, hK⟩ := hv
  have hts := atoms_spec (ws := (.code y cc maxL ret :: lw_ok)) B.pre
  have hl := lv_entry args (n := maxL) hfit
  have hlo2 : E.2.2 ≤ s.heap.size := by rw [hP.1]; exact hlo
  have hok : Ok (p, l, e, rm, s, m, args.toArray, below, meth, c, E, P, mc, ms, maxL) cc y.cls y.name ret il := ⟨B.exec, B.bytes, hml, findClass_of_methodNamed B.named, fun w hw => hts w (List.mem_cons_of_mem _ hw), B.notSynchronized, B.returns, hK, hd, hlo2, (name_of_methodNamed B.named B.method).1⟩
  have k := body (p, l, e, rm, s, m, args.toArray, below, meth, c, E, P, mc, ms, maxL) hok ⟨rfl, rfl, rfl, rfl, rfl, rfl, rfl⟩
  rw [lg_entry_eq]
  exact k s.heap [] _ (lf_has hl) hP va_S.rf
end
section
/-! CALLS -/
theorem lw_good : lw_ok.all goodWord = true := List.all_eq_true.mpr fun _ h => (List.mem_filter.mp h).2
theorem lw_goodIn {y : MethodName} {cc : ByteArray} {maxL : Nat} {ret : Option FieldType} (hw : Cond.code y cc maxL ret ∈ lw_ok) : GoodIn lw_ok (.code y cc maxL ret :: lw_ok) := by
  intro w h
  rcases List.mem_cons.mp h with rfl | h
  · exact ⟨hw, good_of_word (List.all_eq_true.mp lw_good _ hw)⟩
  · exact ⟨h, good_of_word (List.all_eq_true.mp lw_good _ h)⟩
theorem HU_blind {E : EE} {w : Wd} (a : Array Value) (U : State) (g : JFrame) (mk : MethodId) (q : HU E w U) : HU E w (U.calling g mk a) := ⟨q.1, va_K.moved (u := U) (U := U.calling g mk a) (Vm.Alike.refl U.vm) q.2⟩
/-- behind a call, whatever it returns -/
theorem g_ran {p : Program} {l : Launch} {e : Env} {R : Room} {s : State} {m : MethodId} {args : Array Value} {below : List Frame} {meth : Method} {c : Code} {E : EE} {P P2 : Option Value → Wd → Prop} {mc ms nL mc2 ms2 ce sl pc : Nat} {lv : Nat → Option Value} {st rest : List Value} {H : Heap} {locs : List Loc} {ls : Array Slot} {a : Array Value} (hlo : E.2.2 ≤ s.heap.size) (hl : lvf ls nL lv) (hS : va_S (aE E) s.heap H locs)
    (hr : va_Run p l e R s m args below meth c H locs ce sl mc2 ms2 (F0 m pc ls st) rest (QC E P2 a) (aE E))
    (k : ∀ r w', P2 r w' → G (p, l, e, R, s, m, args, below, meth, c, E, P, mc, ms, nL) (ce + mc2) (sl + ms2) (pc + 3) lv (r.toList ++ rest) w') : W p l e R s m args below meth c H locs ce sl (MQ below (QC E P) args s mc ms (aE E)) (F0 m pc ls st) := by
  intro T hT X
  obtain ⟨v, st₀, t, T', L, h0, X', hL, e1, e2, ⟨⟨r, w', hv, hp, hu⟩, hz, hk⟩, hgo⟩ := hr T hT X
  cases hv
  rw [h0] at hz hk
  obtain ⟨t2, a1, b1⟩ := k v w' hp T'.heap (locs ++ L) ls hl (by rw [e1]; exact hu.1) ⟨Nat.le_trans hS.1 (by rw [e1]; exact hz), fun q h1 h2 => by rw [e1, hk q (Nat.lt_of_lt_of_le h1 hS.1) h2]; exact hS.2.1 q h1 h2, fun q hq => by
    rcases List.mem_append.mp hq with h | h
    · exact hS.2.2 q h
    · exact hL q h⟩ T' rfl X'
  exact ⟨t2, hgo t2 a1, b1⟩
def Fits (rm : Room) (maxL : Nat) (R : Room) (mc ms : Nat) : Prop := rm.cells = mc ∧ rm.slots = ms ∧ rm.frames + 1 ≤ R.frames ∧ 8 + (maxL + 11) + rm.locals ≤ R.locals
theorem g_callV {X : Cx} {cc : ByteArray} {own mname : String} {ret : Option FieldType} {il : List (Nat × Instr × Nat)} {ce sl pc : Nat} {lv : Nat → Option Value} {rest : List Value} {w : Wd} (h : Ok X cc own mname ret il) (i : Nat) {index b ci n maxL mc2 ms2 : Nat} {C : String} {T : u_T} {y : MethodName} {bytes : ByteArray} {ret2 : Option FieldType} {rm : Room} {P2 : Option Value → Wd → Prop} {R0 : Room} {l0 : Launch} {E0 : EE} {P0 : Option Value → Wd → Prop} {mc0 ms0 nL0 : Nat} (hq : Is X R0 l0 E0 P0 mc0 ms0 nL0) (As : List Value) (hi : il[i]? = some (pc, .invokevirtual index, 3)) (hm : MV own index C y bytes maxL ret2 n) (hC : Cls ci C T) (hk : wK w b = some (.inl ci)) (hc : Ct l0 E0 y bytes maxL ret2 rm (.ref b :: As) w mc2 ms2 P2) (hn : As.length = n) (hrm : Fits rm maxL R0 mc2 ms2) (hrest : (rest.map fun v => v.category).sum ≤ 8) (hcs : ce + mc2 ≤ R0.cells ∧ sl + ms2 ≤ R0.slots) {st : List Value} (hst : st = As.reverse ++ .ref b :: rest)
    (k : ∀ r w', P2 r w' → G X (ce + mc2) (sl + ms2) (pc + 3) lv (r.toList ++ rest) w') : G X ce sl pc lv st w := by
  obtain ⟨p, l, e, R, s, m, args, below, meth, c, E, P, mc, ms, nL⟩ := X
  obtain ⟨hx, hb, hml, hown, hts, hlk, hrt, hK, hd, hlo, hmn⟩ := h
  intro H locs ls hl hP hS
  subst hst
  obtain ⟨q1, q2, q3, -⟩ := hq
  subst q1; subst q2; subst q3
  obtain ⟨m1, m2, m3, m4, m5, m6, m7, m8, m9⟩ := hm
  have hgi : GoodIn lw_ok (wsV own index C y (.code y bytes maxL ret2 :: lw_ok)) := by
    intro x hx0
    rcases List.mem_append.mp hx0 with h1 | h1
    · have : x ∈ lw_ok := by
        simp only [List.mem_cons, List.not_mem_nil, or_false] at h1
        rcases h1 with rfl | rfl | rfl | rfl <;> assumption
      exact ⟨this, good_of_word (List.all_eq_true.mp lw_good _ this)⟩
    · exact lw_goodIn m1 x h1
  exact g_ran hlo hl hS (va_runV (As := As) (rest := rest) ⟨hx, hb, hml, hown, hts⟩ hc (cwV n hts hgi rfl hrm.1 hrm.2.1 ⟨m6, m7, m8, m9⟩ ⟨hrm.2.2.1, hrm.2.2.2⟩) ⟨fun a U g mk q => ⟨q.1, HU_blind a U g mk q.2⟩, va_recv hK (PM_1 hP (ent_obj hk)) (q0 := 0) hC.1 rfl, fun U hU hW => ⟨rfl, by rw [hU]; exact hP, va_K.moved hW.alike hK⟩⟩ rfl hn hl.1 rfl (by show 2 * 0 + _ ≤ 8; omega) (dkm hd hi) hcs) k
theorem g_callS {X : Cx} {cc : ByteArray} {own mname : String} {ret : Option FieldType} {il : List (Nat × Instr × Nat)} {ce sl pc : Nat} {lv : Nat → Option Value} {rest : List Value} {w : Wd} (h : Ok X cc own mname ret il) (i : Nat) {index n maxL mc2 ms2 : Nat} {y : MethodName} {bytes : ByteArray} {ret2 : Option FieldType} {rm : Room} {P2 : Option Value → Wd → Prop} {R0 : Room} {l0 : Launch} {E0 : EE} {P0 : Option Value → Wd → Prop} {mc0 ms0 nL0 : Nat} (hq : Is X R0 l0 E0 P0 mc0 ms0 nL0) (As : List Value) (hi : il[i]? = some (pc, .invokestatic index, 3)) (hm : MS own index y bytes maxL ret2 n) (hc : Ct l0 E0 y bytes maxL ret2 rm As w mc2 ms2 P2) (hn : As.length = n) (hrm : Fits rm maxL R0 mc2 ms2) (hrest : (rest.map fun v => v.category).sum ≤ 8) (hcs : ce + mc2 ≤ R0.cells ∧ sl + ms2 ≤ R0.slots) {st : List Value} (hst : st = As.reverse ++ rest)
    (k : ∀ r w', P2 r w' → G X (ce + mc2) (sl + ms2) (pc + 3) lv (r.toList ++ rest) w') : G X ce sl pc lv st w := by
  obtain ⟨p, l, e, R, s, m, args, below, meth, c, E, P, mc, ms, nL⟩ := X
  obtain ⟨hx, hb, hml, hown, hts, hlk, hrt, hK, hd, hlo, hmn⟩ := h
  intro H locs ls hl hP hS
  subst hst
  obtain ⟨q1, q2, q3, -⟩ := hq
  subst q1; subst q2; subst q3
  obtain ⟨m1, m2, m3, m4, m7, m8, m9⟩ := hm
  have hgi : GoodIn lw_ok (va_wsS own index y (.code y bytes maxL ret2 :: lw_ok)) := by
    intro x hx0
    rcases List.mem_append.mp hx0 with h1 | h1
    · have : x ∈ lw_ok := by
        simp only [List.mem_cons, List.not_mem_nil, or_false] at h1
        rcases h1 with rfl | rfl | rfl <;> assumption
      exact ⟨this, good_of_word (List.all_eq_true.mp lw_good _ this)⟩
    · exact lw_goodIn m1 x h1
  exact g_ran hlo hl hS (va_runS (As := As) (rest := rest) ⟨hx, hb, hml, hown, hts⟩ hc (va_cwS n hts hgi rfl hrm.1 hrm.2.1 ⟨m7, m8, m9⟩ ⟨hrm.2.2.1, hrm.2.2.2⟩) ⟨fun a U g mk q => ⟨q.1, HU_blind a U g mk q.2⟩, fun U hU hW => ⟨rfl, by rw [hU]; exact hP, va_K.moved hW.alike hK⟩⟩ rfl hn hl.1 rfl (by show 2 * 0 + _ ≤ 8; omega) (dkm hd hi) hcs) k
theorem g_callI {X : Cx} {cc : ByteArray} {own mname : String} {ret : Option FieldType} {il : List (Nat × Instr × Nat)} {ce sl pc : Nat} {lv : Nat → Option Value} {rest : List Value} {w : Wd} (h : Ok X cc own mname ret il) (i : Nat) {index b n maxL mc2 ms2 : Nat} {y : MethodName} {bytes : ByteArray} {rm : Room} {P2 : Option Value → Wd → Prop} {R0 : Room} {l0 : Launch} {E0 : EE} {P0 : Option Value → Wd → Prop} {mc0 ms0 nL0 : Nat} (hq : Is X R0 l0 E0 P0 mc0 ms0 nL0) (As : List Value) (hi : il[i]? = some (pc, .invokespecial index, 3)) (hm : MI own index y bytes maxL n) (hc : Ct l0 E0 y bytes maxL none rm (.ref b :: As) w mc2 ms2 P2) (hn : As.length = n) (hrm : Fits rm maxL R0 mc2 ms2) (hrest : (rest.map fun v => v.category).sum ≤ 8) (hcs : ce + mc2 ≤ R0.cells ∧ sl + ms2 ≤ R0.slots) {st : List Value} (hst : st = As.reverse ++ .ref b :: rest)
    (k : ∀ r w', P2 r w' → G X (ce + mc2) (sl + ms2) (pc + 3) lv (r.toList ++ rest) w') : G X ce sl pc lv st w := by
  obtain ⟨p, l, e, R, s, m, args, below, meth, c, E, P, mc, ms, nL⟩ := X
  obtain ⟨hx, hb, hml, hown, hts, hlk, hrt, hK, hd, hlo, hmn⟩ := h
  intro H locs ls hl hP hS
  subst hst
  obtain ⟨q1, q2, q3, -⟩ := hq
  subst q1; subst q2; subst q3
  obtain ⟨m1, m2, m3, m4, m5, m7, m8, m9⟩ := hm
  exact g_ran hlo hl hS (va_runI (As := As) (rest := rest) ⟨hx, hb, hml, hown, hts⟩ hc (cwI n hts (lw_goodIn m1) rfl hrm.1 hrm.2.1 (hts _ m4) (hts _ m2) (hts _ m3) m5 ⟨m7, m8, m9⟩ ⟨hrm.2.2.1, hrm.2.2.2⟩) ⟨fun a U g mk q => ⟨q.1, HU_blind a U g mk q.2⟩, fun U hU hW => ⟨rfl, by rw [hU]; exact hP, va_K.moved hW.alike hK⟩⟩ rfl hn hl.1 rfl (by show 2 * 0 + _ ≤ 8; omega) (dkm hd hi) hcs) k
end
section
theorem clsT0 : ∀ C T, Cls 0 C T → T = TX0 := fun C T q => (congrArg (fun x => x.2.1) (Option.some.inj ((show some (RX0, TX0, cN 0) = some (C, T, cN 0) from q.1)))).symm
theorem clsT1 : ∀ C T, Cls 1 C T → T = TX1 := fun C T q => (congrArg (fun x => x.2.1) (Option.some.inj ((show some (RX1, TX1, cN 1) = some (C, T, cN 1) from q.1)))).symm
theorem clsT2 : ∀ C T, Cls 2 C T → T = TX2 := fun C T q => (congrArg (fun x => x.2.1) (Option.some.inj ((show some (RX2, TX2, cN 2) = some (C, T, cN 2) from q.1)))).symm
theorem clsT3 : ∀ C T, Cls 3 C T → T = TX3 := fun C T q => (congrArg (fun x => x.2.1) (Option.some.inj ((show some (RX3, TX3, cN 3) = some (C, T, cN 3) from q.1)))).symm
theorem clsT4 : ∀ C T, Cls 4 C T → T = TX4 := fun C T q => (congrArg (fun x => x.2.1) (Option.some.inj ((show some (RX4, TX4, cN 4) = some (C, T, cN 4) from q.1)))).symm
theorem clsT5 : ∀ C T, Cls 5 C T → T = TX5 := fun C T q => (congrArg (fun x => x.2.1) (Option.some.inj ((show some (RX5, TX5, cN 5) = some (C, T, cN 5) from q.1)))).symm
theorem clsT6 : ∀ C T, Cls 6 C T → T = TX6 := fun C T q => (congrArg (fun x => x.2.1) (Option.some.inj ((show some (RX6, TX6, cN 6) = some (C, T, cN 6) from q.1)))).symm
theorem clsT7 : ∀ C T, Cls 7 C T → T = TX7 := fun C T q => (congrArg (fun x => x.2.1) (Option.some.inj ((show some (RX7, TX7, cN 7) = some (C, T, cN 7) from q.1)))).symm
theorem clsT8 : ∀ C T, Cls 8 C T → T = TX8 := fun C T q => (congrArg (fun x => x.2.1) (Option.some.inj ((show some (RX8, TX8, cN 8) = some (C, T, cN 8) from q.1)))).symm
theorem clsT9 : ∀ C T, Cls 9 C T → T = TX9 := fun C T q => (congrArg (fun x => x.2.1) (Option.some.inj ((show some (RX9, TX9, cN 9) = some (C, T, cN 9) from q.1)))).symm
theorem clsT10 : ∀ C T, Cls 10 C T → T = TX10 := fun C T q => (congrArg (fun x => x.2.1) (Option.some.inj ((show some (RX10, TX10, cN 10) = some (C, T, cN 10) from q.1)))).symm
theorem nf_0_0 : ∀ C T, Cls 0 C T → (T 0).2.2.2 = false := fun C T q => by rw [clsT0 C T q]; rfl
theorem nf_0_1 : ∀ C T, Cls 0 C T → (T 1).2.2.2 = false := fun C T q => by rw [clsT0 C T q]; rfl
theorem nf_0_2 : ∀ C T, Cls 0 C T → (T 2).2.2.2 = false := fun C T q => by rw [clsT0 C T q]; rfl
theorem nf_0_3 : ∀ C T, Cls 0 C T → (T 3).2.2.2 = false := fun C T q => by rw [clsT0 C T q]; rfl
theorem nf_0_4 : ∀ C T, Cls 0 C T → (T 4).2.2.2 = false := fun C T q => by rw [clsT0 C T q]; rfl
theorem ff_1_0 : ∀ C T, Cls 1 C T → (T 0).2.2.2 = true ∧ (T 0).1 = RX1 := fun C T q => by rw [clsT1 C T q]; exact ⟨rfl, rfl⟩
theorem ff_1_1 : ∀ C T, Cls 1 C T → (T 1).2.2.2 = true ∧ (T 1).1 = RX1 := fun C T q => by rw [clsT1 C T q]; exact ⟨rfl, rfl⟩
theorem ff_1_2 : ∀ C T, Cls 1 C T → (T 2).2.2.2 = true ∧ (T 2).1 = RX1 := fun C T q => by rw [clsT1 C T q]; exact ⟨rfl, rfl⟩
theorem ff_1_3 : ∀ C T, Cls 1 C T → (T 3).2.2.2 = true ∧ (T 3).1 = RX1 := fun C T q => by rw [clsT1 C T q]; exact ⟨rfl, rfl⟩
theorem ff_1_4 : ∀ C T, Cls 1 C T → (T 4).2.2.2 = true ∧ (T 4).1 = RX1 := fun C T q => by rw [clsT1 C T q]; exact ⟨rfl, rfl⟩
theorem ff_1_5 : ∀ C T, Cls 1 C T → (T 5).2.2.2 = true ∧ (T 5).1 = RX1 := fun C T q => by rw [clsT1 C T q]; exact ⟨rfl, rfl⟩
theorem ff_1_6 : ∀ C T, Cls 1 C T → (T 6).2.2.2 = true ∧ (T 6).1 = RX1 := fun C T q => by rw [clsT1 C T q]; exact ⟨rfl, rfl⟩
theorem nf_2_0 : ∀ C T, Cls 2 C T → (T 0).2.2.2 = false := fun C T q => by rw [clsT2 C T q]; rfl
theorem nf_2_1 : ∀ C T, Cls 2 C T → (T 1).2.2.2 = false := fun C T q => by rw [clsT2 C T q]; rfl
theorem nf_2_2 : ∀ C T, Cls 2 C T → (T 2).2.2.2 = false := fun C T q => by rw [clsT2 C T q]; rfl
theorem nf_2_3 : ∀ C T, Cls 2 C T → (T 3).2.2.2 = false := fun C T q => by rw [clsT2 C T q]; rfl
theorem nf_2_4 : ∀ C T, Cls 2 C T → (T 4).2.2.2 = false := fun C T q => by rw [clsT2 C T q]; rfl
theorem nf_2_5 : ∀ C T, Cls 2 C T → (T 5).2.2.2 = false := fun C T q => by rw [clsT2 C T q]; rfl
theorem ff_3_0 : ∀ C T, Cls 3 C T → (T 0).2.2.2 = true ∧ (T 0).1 = RX3 := fun C T q => by rw [clsT3 C T q]; exact ⟨rfl, rfl⟩
theorem ff_3_1 : ∀ C T, Cls 3 C T → (T 1).2.2.2 = true ∧ (T 1).1 = RX3 := fun C T q => by rw [clsT3 C T q]; exact ⟨rfl, rfl⟩
theorem ff_3_2 : ∀ C T, Cls 3 C T → (T 2).2.2.2 = true ∧ (T 2).1 = RX3 := fun C T q => by rw [clsT3 C T q]; exact ⟨rfl, rfl⟩
theorem ff_3_3 : ∀ C T, Cls 3 C T → (T 3).2.2.2 = true ∧ (T 3).1 = RX3 := fun C T q => by rw [clsT3 C T q]; exact ⟨rfl, rfl⟩
theorem ff_3_4 : ∀ C T, Cls 3 C T → (T 4).2.2.2 = true ∧ (T 4).1 = RX3 := fun C T q => by rw [clsT3 C T q]; exact ⟨rfl, rfl⟩
theorem ff_3_5 : ∀ C T, Cls 3 C T → (T 5).2.2.2 = true ∧ (T 5).1 = RX3 := fun C T q => by rw [clsT3 C T q]; exact ⟨rfl, rfl⟩
theorem ff_3_6 : ∀ C T, Cls 3 C T → (T 6).2.2.2 = true ∧ (T 6).1 = RX3 := fun C T q => by rw [clsT3 C T q]; exact ⟨rfl, rfl⟩
theorem nf_3_7 : ∀ C T, Cls 3 C T → (T 7).2.2.2 = false := fun C T q => by rw [clsT3 C T q]; rfl
theorem nf_3_8 : ∀ C T, Cls 3 C T → (T 8).2.2.2 = false := fun C T q => by rw [clsT3 C T q]; rfl
theorem nf_3_9 : ∀ C T, Cls 3 C T → (T 9).2.2.2 = false := fun C T q => by rw [clsT3 C T q]; rfl
theorem nf_3_10 : ∀ C T, Cls 3 C T → (T 10).2.2.2 = false := fun C T q => by rw [clsT3 C T q]; rfl
theorem nf_3_11 : ∀ C T, Cls 3 C T → (T 11).2.2.2 = false := fun C T q => by rw [clsT3 C T q]; rfl
theorem nf_3_12 : ∀ C T, Cls 3 C T → (T 12).2.2.2 = false := fun C T q => by rw [clsT3 C T q]; rfl
theorem nf_3_13 : ∀ C T, Cls 3 C T → (T 13).2.2.2 = false := fun C T q => by rw [clsT3 C T q]; rfl
theorem nf_3_14 : ∀ C T, Cls 3 C T → (T 14).2.2.2 = false := fun C T q => by rw [clsT3 C T q]; rfl
theorem nf_3_15 : ∀ C T, Cls 3 C T → (T 15).2.2.2 = false := fun C T q => by rw [clsT3 C T q]; rfl
theorem nf_3_16 : ∀ C T, Cls 3 C T → (T 16).2.2.2 = false := fun C T q => by rw [clsT3 C T q]; rfl
theorem nf_3_17 : ∀ C T, Cls 3 C T → (T 17).2.2.2 = false := fun C T q => by rw [clsT3 C T q]; rfl
theorem ff_4_0 : ∀ C T, Cls 4 C T → (T 0).2.2.2 = true ∧ (T 0).1 = RX4 := fun C T q => by rw [clsT4 C T q]; exact ⟨rfl, rfl⟩
theorem ff_4_1 : ∀ C T, Cls 4 C T → (T 1).2.2.2 = true ∧ (T 1).1 = RX4 := fun C T q => by rw [clsT4 C T q]; exact ⟨rfl, rfl⟩
theorem nf_4_2 : ∀ C T, Cls 4 C T → (T 2).2.2.2 = false := fun C T q => by rw [clsT4 C T q]; rfl
theorem nf_4_3 : ∀ C T, Cls 4 C T → (T 3).2.2.2 = false := fun C T q => by rw [clsT4 C T q]; rfl
theorem nf_4_4 : ∀ C T, Cls 4 C T → (T 4).2.2.2 = false := fun C T q => by rw [clsT4 C T q]; rfl
theorem nf_4_5 : ∀ C T, Cls 4 C T → (T 5).2.2.2 = false := fun C T q => by rw [clsT4 C T q]; rfl
theorem nf_5_0 : ∀ C T, Cls 5 C T → (T 0).2.2.2 = false := fun C T q => by rw [clsT5 C T q]; rfl
theorem ff_5_1 : ∀ C T, Cls 5 C T → (T 1).2.2.2 = true ∧ (T 1).1 = RX5 := fun C T q => by rw [clsT5 C T q]; exact ⟨rfl, rfl⟩
theorem ff_6_0 : ∀ C T, Cls 6 C T → (T 0).2.2.2 = true ∧ (T 0).1 = RX6 := fun C T q => by rw [clsT6 C T q]; exact ⟨rfl, rfl⟩
theorem ff_6_1 : ∀ C T, Cls 6 C T → (T 1).2.2.2 = true ∧ (T 1).1 = RX6 := fun C T q => by rw [clsT6 C T q]; exact ⟨rfl, rfl⟩
theorem ff_6_2 : ∀ C T, Cls 6 C T → (T 2).2.2.2 = true ∧ (T 2).1 = RX6 := fun C T q => by rw [clsT6 C T q]; exact ⟨rfl, rfl⟩
theorem nf_6_3 : ∀ C T, Cls 6 C T → (T 3).2.2.2 = false := fun C T q => by rw [clsT6 C T q]; rfl
theorem ff_7_0 : ∀ C T, Cls 7 C T → (T 0).2.2.2 = true ∧ (T 0).1 = RX7 := fun C T q => by rw [clsT7 C T q]; exact ⟨rfl, rfl⟩
theorem ff_7_1 : ∀ C T, Cls 7 C T → (T 1).2.2.2 = true ∧ (T 1).1 = RX7 := fun C T q => by rw [clsT7 C T q]; exact ⟨rfl, rfl⟩
theorem ff_7_2 : ∀ C T, Cls 7 C T → (T 2).2.2.2 = true ∧ (T 2).1 = RX7 := fun C T q => by rw [clsT7 C T q]; exact ⟨rfl, rfl⟩
theorem nf_7_3 : ∀ C T, Cls 7 C T → (T 3).2.2.2 = false := fun C T q => by rw [clsT7 C T q]; rfl
theorem nf_8_0 : ∀ C T, Cls 8 C T → (T 0).2.2.2 = false := fun C T q => by rw [clsT8 C T q]; rfl
theorem nf_8_1 : ∀ C T, Cls 8 C T → (T 1).2.2.2 = false := fun C T q => by rw [clsT8 C T q]; rfl
theorem ff_9_0 : ∀ C T, Cls 9 C T → (T 0).2.2.2 = true ∧ (T 0).1 = RX9 := fun C T q => by rw [clsT9 C T q]; exact ⟨rfl, rfl⟩
theorem ff_9_1 : ∀ C T, Cls 9 C T → (T 1).2.2.2 = true ∧ (T 1).1 = RX9 := fun C T q => by rw [clsT9 C T q]; exact ⟨rfl, rfl⟩
theorem ff_9_2 : ∀ C T, Cls 9 C T → (T 2).2.2.2 = true ∧ (T 2).1 = RX9 := fun C T q => by rw [clsT9 C T q]; exact ⟨rfl, rfl⟩
theorem ff_9_3 : ∀ C T, Cls 9 C T → (T 3).2.2.2 = true ∧ (T 3).1 = RX9 := fun C T q => by rw [clsT9 C T q]; exact ⟨rfl, rfl⟩
theorem ff_9_4 : ∀ C T, Cls 9 C T → (T 4).2.2.2 = true ∧ (T 4).1 = RX9 := fun C T q => by rw [clsT9 C T q]; exact ⟨rfl, rfl⟩
theorem ff_9_5 : ∀ C T, Cls 9 C T → (T 5).2.2.2 = true ∧ (T 5).1 = RX9 := fun C T q => by rw [clsT9 C T q]; exact ⟨rfl, rfl⟩
theorem ff_9_6 : ∀ C T, Cls 9 C T → (T 6).2.2.2 = true ∧ (T 6).1 = RX9 := fun C T q => by rw [clsT9 C T q]; exact ⟨rfl, rfl⟩
theorem ff_9_7 : ∀ C T, Cls 9 C T → (T 7).2.2.2 = true ∧ (T 7).1 = RX9 := fun C T q => by rw [clsT9 C T q]; exact ⟨rfl, rfl⟩
theorem ff_10_0 : ∀ C T, Cls 10 C T → (T 0).2.2.2 = true ∧ (T 0).1 = RX10 := fun C T q => by rw [clsT10 C T q]; exact ⟨rfl, rfl⟩
theorem ff_10_1 : ∀ C T, Cls 10 C T → (T 1).2.2.2 = true ∧ (T 1).1 = RX10 := fun C T q => by rw [clsT10 C T q]; exact ⟨rfl, rfl⟩
theorem ff_10_2 : ∀ C T, Cls 10 C T → (T 2).2.2.2 = true ∧ (T 2).1 = RX10 := fun C T q => by rw [clsT10 C T q]; exact ⟨rfl, rfl⟩
theorem ff_10_3 : ∀ C T, Cls 10 C T → (T 3).2.2.2 = true ∧ (T 3).1 = RX10 := fun C T q => by rw [clsT10 C T q]; exact ⟨rfl, rfl⟩
theorem ff_10_4 : ∀ C T, Cls 10 C T → (T 4).2.2.2 = true ∧ (T 4).1 = RX10 := fun C T q => by rw [clsT10 C T q]; exact ⟨rfl, rfl⟩
theorem ff_10_5 : ∀ C T, Cls 10 C T → (T 5).2.2.2 = true ∧ (T 5).1 = RX10 := fun C T q => by rw [clsT10 C T q]; exact ⟨rfl, rfl⟩
theorem ff_10_6 : ∀ C T, Cls 10 C T → (T 6).2.2.2 = true ∧ (T 6).1 = RX10 := fun C T q => by rw [clsT10 C T q]; exact ⟨rfl, rfl⟩
theorem ff_10_7 : ∀ C T, Cls 10 C T → (T 7).2.2.2 = true ∧ (T 7).1 = RX10 := fun C T q => by rw [clsT10 C T q]; exact ⟨rfl, rfl⟩
theorem ff_10_8 : ∀ C T, Cls 10 C T → (T 8).2.2.2 = true ∧ (T 8).1 = RX10 := fun C T q => by rw [clsT10 C T q]; exact ⟨rfl, rfl⟩
theorem ff_10_9 : ∀ C T, Cls 10 C T → (T 9).2.2.2 = true ∧ (T 9).1 = RX10 := fun C T q => by rw [clsT10 C T q]; exact ⟨rfl, rfl⟩
theorem ff_10_10 : ∀ C T, Cls 10 C T → (T 10).2.2.2 = true ∧ (T 10).1 = RX10 := fun C T q => by rw [clsT10 C T q]; exact ⟨rfl, rfl⟩
theorem ff_10_11 : ∀ C T, Cls 10 C T → (T 11).2.2.2 = true ∧ (T 11).1 = RX10 := fun C T q => by rw [clsT10 C T q]; exact ⟨rfl, rfl⟩
theorem nf_10_12 : ∀ C T, Cls 10 C T → (T 12).2.2.2 = false := fun C T q => by rw [clsT10 C T q]; rfl
theorem ff_10_13 : ∀ C T, Cls 10 C T → (T 13).2.2.2 = true ∧ (T 13).1 = RX10 := fun C T q => by rw [clsT10 C T q]; exact ⟨rfl, rfl⟩
theorem ff_10_14 : ∀ C T, Cls 10 C T → (T 14).2.2.2 = true ∧ (T 14).1 = RX10 := fun C T q => by rw [clsT10 C T q]; exact ⟨rfl, rfl⟩
theorem ff_10_15 : ∀ C T, Cls 10 C T → (T 15).2.2.2 = true ∧ (T 15).1 = RX10 := fun C T q => by rw [clsT10 C T q]; exact ⟨rfl, rfl⟩
theorem nf_10_16 : ∀ C T, Cls 10 C T → (T 16).2.2.2 = false := fun C T q => by rw [clsT10 C T q]; rfl
theorem ff_10_17 : ∀ C T, Cls 10 C T → (T 17).2.2.2 = true ∧ (T 17).1 = RX10 := fun C T q => by rw [clsT10 C T q]; exact ⟨rfl, rfl⟩
theorem ff_10_18 : ∀ C T, Cls 10 C T → (T 18).2.2.2 = true ∧ (T 18).1 = RX10 := fun C T q => by rw [clsT10 C T q]; exact ⟨rfl, rfl⟩
theorem ff_10_19 : ∀ C T, Cls 10 C T → (T 19).2.2.2 = true ∧ (T 19).1 = RX10 := fun C T q => by rw [clsT10 C T q]; exact ⟨rfl, rfl⟩
theorem nf_10_20 : ∀ C T, Cls 10 C T → (T 20).2.2.2 = false := fun C T q => by rw [clsT10 C T q]; rfl
theorem nf_10_21 : ∀ C T, Cls 10 C T → (T 21).2.2.2 = false := fun C T q => by rw [clsT10 C T q]; rfl
theorem ff_10_22 : ∀ C T, Cls 10 C T → (T 22).2.2.2 = true ∧ (T 22).1 = RX10 := fun C T q => by rw [clsT10 C T q]; exact ⟨rfl, rfl⟩
theorem ff_10_23 : ∀ C T, Cls 10 C T → (T 23).2.2.2 = true ∧ (T 23).1 = RX10 := fun C T q => by rw [clsT10 C T q]; exact ⟨rfl, rfl⟩
theorem nf_10_24 : ∀ C T, Cls 10 C T → (T 24).2.2.2 = false := fun C T q => by rw [clsT10 C T q]; rfl
theorem nf_10_25 : ∀ C T, Cls 10 C T → (T 25).2.2.2 = false := fun C T q => by rw [clsT10 C T q]; rfl
theorem nf_10_26 : ∀ C T, Cls 10 C T → (T 26).2.2.2 = false := fun C T q => by rw [clsT10 C T q]; rfl
theorem nf_10_27 : ∀ C T, Cls 10 C T → (T 27).2.2.2 = false := fun C T q => by rw [clsT10 C T q]; rfl
theorem ff_10_28 : ∀ C T, Cls 10 C T → (T 28).2.2.2 = true ∧ (T 28).1 = RX10 := fun C T q => by rw [clsT10 C T q]; exact ⟨rfl, rfl⟩
theorem ff_10_29 : ∀ C T, Cls 10 C T → (T 29).2.2.2 = true ∧ (T 29).1 = RX10 := fun C T q => by rw [clsT10 C T q]; exact ⟨rfl, rfl⟩
theorem g_callVx {X : Cx} {cc : ByteArray} {own mname : String} {ret : Option FieldType} {il : List (Nat × Instr × Nat)} {ce sl pc : Nat} {lv : Nat → Option Value} {rest : List Value} {w w0 : Wd} (h : Ok X cc own mname ret il) {R0 : Room} {l0 : Launch} {E0 : EE} {P0 : Option Value → Wd → Prop} {mc0 ms0 nL0 : Nat} (hq : Is X R0 l0 E0 P0 mc0 ms0 nL0) (i : Nat) {index b ci n maxL : Nat} {C : String} {T : u_T} {y : MethodName} {bytes : ByteArray} {ret2 : Option FieldType} {rm : Room} {v : Value} {As st : List Value} (hi : il[i]? = some (pc, .invokevirtual index, 3)) (hm : MV own index C y bytes maxL ret2 n) (hC : Cls ci C T) (hk : wK w b = some (.inl ci)) (hc : Ct l0 E0 y bytes maxL ret2 rm (.ref b :: As) w 0 0 (Px (some v) w0)) (hst : st = As.reverse ++ .ref b :: rest) (hn : As.length = n) (hrm : Fits rm maxL R0 0 0) (hrest : (rest.map fun v => v.category).sum ≤ 8) (hcs : ce ≤ R0.cells ∧ sl ≤ R0.slots) (k : G X ce sl (pc + 3) lv (v :: rest) w0) : G X ce sl pc lv st w :=
  g_callV h i hq As hi hm hC hk hc hn hrm hrest hcs hst (fun r w' hp => by obtain ⟨rfl, rfl⟩ := hp; exact k)
theorem g_callSx {X : Cx} {cc : ByteArray} {own mname : String} {ret : Option FieldType} {il : List (Nat × Instr × Nat)} {ce sl pc : Nat} {lv : Nat → Option Value} {rest : List Value} {w w0 : Wd} (h : Ok X cc own mname ret il) {R0 : Room} {l0 : Launch} {E0 : EE} {P0 : Option Value → Wd → Prop} {mc0 ms0 nL0 : Nat} (hq : Is X R0 l0 E0 P0 mc0 ms0 nL0) (i : Nat) {index n maxL : Nat} {y : MethodName} {bytes : ByteArray} {ret2 : Option FieldType} {rm : Room} {v : Value} {As st : List Value} (hi : il[i]? = some (pc, .invokestatic index, 3)) (hm : MS own index y bytes maxL ret2 n) (hc : Ct l0 E0 y bytes maxL ret2 rm As w 0 0 (Px (some v) w0)) (hst : st = As.reverse ++ rest) (hn : As.length = n) (hrm : Fits rm maxL R0 0 0) (hrest : (rest.map fun v => v.category).sum ≤ 8) (hcs : ce ≤ R0.cells ∧ sl ≤ R0.slots) (k : G X ce sl (pc + 3) lv (v :: rest) w0) : G X ce sl pc lv st w :=
  g_callS h i hq As hi hm hc hn hrm hrest hcs hst (fun r w' hp => by obtain ⟨rfl, rfl⟩ := hp; exact k)
theorem g_callVn {X : Cx} {cc : ByteArray} {own mname : String} {ret : Option FieldType} {il : List (Nat × Instr × Nat)} {ce sl pc : Nat} {lv : Nat → Option Value} {rest : List Value} {w w0 : Wd} (h : Ok X cc own mname ret il) {R0 : Room} {l0 : Launch} {E0 : EE} {P0 : Option Value → Wd → Prop} {mc0 ms0 nL0 : Nat} (hq : Is X R0 l0 E0 P0 mc0 ms0 nL0) (i : Nat) {index b ci n maxL : Nat} {C : String} {T : u_T} {y : MethodName} {bytes : ByteArray} {ret2 : Option FieldType} {rm : Room} {As st : List Value} (hi : il[i]? = some (pc, .invokevirtual index, 3)) (hm : MV own index C y bytes maxL ret2 n) (hC : Cls ci C T) (hk : wK w b = some (.inl ci)) (hc : Ct l0 E0 y bytes maxL ret2 rm (.ref b :: As) w 0 0 (Px none w0)) (hst : st = As.reverse ++ .ref b :: rest) (hn : As.length = n) (hrm : Fits rm maxL R0 0 0) (hrest : (rest.map fun v => v.category).sum ≤ 8) (hcs : ce ≤ R0.cells ∧ sl ≤ R0.slots) (k : G X ce sl (pc + 3) lv (rest) w0) : G X ce sl pc lv st w :=
  g_callV h i hq As hi hm hC hk hc hn hrm hrest hcs hst (fun r w' hp => by obtain ⟨rfl, rfl⟩ := hp; exact k)
theorem g_callSn {X : Cx} {cc : ByteArray} {own mname : String} {ret : Option FieldType} {il : List (Nat × Instr × Nat)} {ce sl pc : Nat} {lv : Nat → Option Value} {rest : List Value} {w w0 : Wd} (h : Ok X cc own mname ret il) {R0 : Room} {l0 : Launch} {E0 : EE} {P0 : Option Value → Wd → Prop} {mc0 ms0 nL0 : Nat} (hq : Is X R0 l0 E0 P0 mc0 ms0 nL0) (i : Nat) {index n maxL : Nat} {y : MethodName} {bytes : ByteArray} {ret2 : Option FieldType} {rm : Room} {As st : List Value} (hi : il[i]? = some (pc, .invokestatic index, 3)) (hm : MS own index y bytes maxL ret2 n) (hc : Ct l0 E0 y bytes maxL ret2 rm As w 0 0 (Px none w0)) (hst : st = As.reverse ++ rest) (hn : As.length = n) (hrm : Fits rm maxL R0 0 0) (hrest : (rest.map fun v => v.category).sum ≤ 8) (hcs : ce ≤ R0.cells ∧ sl ≤ R0.slots) (k : G X ce sl (pc + 3) lv (rest) w0) : G X ce sl pc lv st w :=
  g_callS h i hq As hi hm hc hn hrm hrest hcs hst (fun r w' hp => by obtain ⟨rfl, rfl⟩ := hp; exact k)
theorem g_callVp {X : Cx} {cc : ByteArray} {own mname : String} {ret : Option FieldType} {il : List (Nat × Instr × Nat)} {ce sl pc : Nat} {lv : Nat → Option Value} {rest : List Value} {w w0 : Wd} (h : Ok X cc own mname ret il) {R0 : Room} {l0 : Launch} {E0 : EE} {P0 : Option Value → Wd → Prop} {mc0 ms0 nL0 : Nat} (hq : Is X R0 l0 E0 P0 mc0 ms0 nL0) (i : Nat) {index b ci n maxL : Nat} {C : String} {T : u_T} {y : MethodName} {bytes : ByteArray} {ret2 : Option FieldType} {rm : Room} {P2 : Option Value → Wd → Prop} {As st : List Value} (hi : il[i]? = some (pc, .invokevirtual index, 3)) (hm : MV own index C y bytes maxL ret2 n) (hC : Cls ci C T) (hk : wK w b = some (.inl ci)) (hc : Ct l0 E0 y bytes maxL ret2 rm (.ref b :: As) w 0 0 P2) (hst : st = As.reverse ++ .ref b :: rest) (hn : As.length = n) (hrm : Fits rm maxL R0 0 0) (hrest : (rest.map fun v => v.category).sum ≤ 8) (hcs : ce ≤ R0.cells ∧ sl ≤ R0.slots) (k : ∀ r w', P2 r w' → G X ce sl (pc + 3) lv (r.toList ++ rest) w') : G X ce sl pc lv st w :=
  g_callV h i hq As hi hm hC hk hc hn hrm hrest hcs hst k
theorem wj_abs_s : Cond.static Lib.Math.abs.name ∈ lw_ok := lw_in (List.mem_of_getElem? (i := 501) (by decide +kernel)) rfl
theorem wj_abs_c : Cond.code Lib.Math.abs.name Lib.Math.abs.code 1 (some .int) ∈ lw_ok := lw_in (List.mem_of_getElem? (i := 502) (by decide +kernel)) rfl
theorem wj_max_s : Cond.static Lib.Math.max.name ∈ lw_ok := lw_in (List.mem_of_getElem? (i := 504) (by decide +kernel)) rfl
theorem wj_max_c : Cond.code Lib.Math.max.name Lib.Math.max.code 2 (some .int) ∈ lw_ok := lw_in (List.mem_of_getElem? (i := 505) (by decide +kernel)) rfl
theorem wj_math : Cond.initialized "java/lang/Math" ∈ lw_ok := lw_in (List.mem_of_getElem? (i := 51) (by decide +kernel)) rfl
theorem wj_sys : Cond.initialized "java/lang/System" ∈ lw_ok := lw_in (List.mem_of_getElem? (i := 50) (by decide +kernel)) rfl
theorem wj_cp_s : Cond.static arraycopyName ∈ lw_ok := lw_in (List.mem_of_getElem? (i := 483) (by decide +kernel)) rfl
theorem wj_cp_n : Cond.native arraycopyName ∈ lw_ok := lw_in (List.mem_of_getElem? (i := 484) (by decide +kernel)) rfl
theorem ml_X9_1 : Cond.methodLink RX9 1 objectInit ∈ lw_ok := lw_in (List.mem_of_getElem? (i := 57) (by decide +kernel)) rfl
theorem ml_X1_3 : Cond.methodLink RX1 3 objectInit ∈ lw_ok := lw_in (List.mem_of_getElem? (i := 65) (by decide +kernel)) rfl
theorem ml_X6_3 : Cond.methodLink RX6 3 objectInit ∈ lw_ok := lw_in (List.mem_of_getElem? (i := 77) (by decide +kernel)) rfl
theorem ml_X7_3 : Cond.methodLink RX7 3 objectInit ∈ lw_ok := lw_in (List.mem_of_getElem? (i := 102) (by decide +kernel)) rfl
theorem ml_X8_3 : Cond.methodLink RX8 3 objectInit ∈ lw_ok := lw_in (List.mem_of_getElem? (i := 123) (by decide +kernel)) rfl
theorem ml_X2_1 : Cond.methodLink RX2 1 objectInit ∈ lw_ok := lw_in (List.mem_of_getElem? (i := 137) (by decide +kernel)) rfl
theorem ml_X0_1 : Cond.methodLink RX0 1 objectInit ∈ lw_ok := lw_in (List.mem_of_getElem? (i := 173) (by decide +kernel)) rfl
theorem ml_X5_3 : Cond.methodLink RX5 3 objectInit ∈ lw_ok := lw_in (List.mem_of_getElem? (i := 196) (by decide +kernel)) rfl
theorem ml_X3_3 : Cond.methodLink RX3 3 objectInit ∈ lw_ok := lw_in (List.mem_of_getElem? (i := 239) (by decide +kernel)) rfl
theorem ml_X4_3 : Cond.methodLink RX4 3 objectInit ∈ lw_ok := lw_in (List.mem_of_getElem? (i := 245) (by decide +kernel)) rfl
theorem ml_X9_151 : Cond.methodLink RX9 151 arraycopyName ∈ lw_ok := lw_in (List.mem_of_getElem? (i := 482) (by decide +kernel)) rfl
theorem ml_X4_31 : Cond.methodLink RX4 31 Lib.Math.abs.name ∈ lw_ok := lw_in (List.mem_of_getElem? (i := 500) (by decide +kernel)) rfl
theorem ml_X4_40 : Cond.methodLink RX4 40 Lib.Math.max.name ∈ lw_ok := lw_in (List.mem_of_getElem? (i := 503) (by decide +kernel)) rfl
theorem ml_X1_166 : Cond.methodLink RX1 166 Lib.Math.abs.name ∈ lw_ok := lw_in (List.mem_of_getElem? (i := 608) (by decide +kernel)) rfl
theorem ml_X3_80 : Cond.methodLink RX3 80 arraycopyName ∈ lw_ok := lw_in (List.mem_of_getElem? (i := 680) (by decide +kernel)) rfl
theorem ml_X4_53 : Cond.methodLink RX4 53 arraycopyName ∈ lw_ok := lw_in (List.mem_of_getElem? (i := 685) (by decide +kernel)) rfl
theorem ml_X10_1 : Cond.methodLink RX10 1 objectInit ∈ lw_ok := lw_in (List.mem_of_getElem? (i := 734) (by decide +kernel)) rfl
theorem g_mabs {X : Cx} {cc : ByteArray} {own mname : String} {ret : Option FieldType} {il : List (Nat × Instr × Nat)} {ce sl pc : Nat} {lv : Nat → Option Value} {rest : List Value} {w w0 : Wd} (h : Ok X cc own mname ret il) {R0 : Room} {l0 : Launch} {E0 : EE} {P0 : Option Value → Wd → Prop} {mc0 ms0 nL0 : Nat} (hq : Is X R0 l0 E0 P0 mc0 ms0 nL0) (i : Nat) {index : Nat} {x : Int32} (hi : il[i]? = some (pc, .invokestatic index, 3)) (hm : Cond.methodLink own index Lib.Math.abs.name ∈ lw_ok) (hR : Nat.ble 1 R0.frames = true ∧ (rest.map fun v => v.category).sum + 13 ≤ R0.locals ∧ ce ≤ R0.cells ∧ sl ≤ R0.slots) (k : G X ce sl (pc + 3) lv (.int (if 0 ≤ x then x else 0 - x) :: rest) w) : G X ce sl pc lv (.int x :: rest) w := by
  obtain ⟨p, l, e, R, s, m, args, below, meth, c, E, P, mc, ms, nL⟩ := X
  obtain ⟨hx, hb, hml, hown, hts, hlk, hrt, hK, hd, hlo, hmn⟩ := h
  obtain ⟨q1, q2, q3, -⟩ := hq
  subst q1; subst q2; subst q3
  intro H locs ls hl hP hS
  exact va_mabs hx hb (hml.trans hl.1.symm) hown (hts _ hm) (hts _ wj_abs_s) (hts _ wj_math) (hts _ wj_abs_c) (Nat.le_of_ble_eq_true hR.1) hR.2.1 hR.2.2.1 hR.2.2.2 (dkm hd hi) (k H locs ls hl hP hS)
theorem g_mmax {X : Cx} {cc : ByteArray} {own mname : String} {ret : Option FieldType} {il : List (Nat × Instr × Nat)} {ce sl pc : Nat} {lv : Nat → Option Value} {rest : List Value} {w w0 : Wd} (h : Ok X cc own mname ret il) {R0 : Room} {l0 : Launch} {E0 : EE} {P0 : Option Value → Wd → Prop} {mc0 ms0 nL0 : Nat} (hq : Is X R0 l0 E0 P0 mc0 ms0 nL0) (i : Nat) {index : Nat} {x y : Int32} (hi : il[i]? = some (pc, .invokestatic index, 3)) (hm : Cond.methodLink own index Lib.Math.max.name ∈ lw_ok) (hR : Nat.ble 1 R0.frames = true ∧ (rest.map fun v => v.category).sum + 13 ≤ R0.locals ∧ ce ≤ R0.cells ∧ sl ≤ R0.slots) (k : G X ce sl (pc + 3) lv (.int (if x < y then y else x) :: rest) w) : G X ce sl pc lv (.int y :: .int x :: rest) w := by
  obtain ⟨p, l, e, R, s, m, args, below, meth, c, E, P, mc, ms, nL⟩ := X
  obtain ⟨hx, hb, hml, hown, hts, hlk, hrt, hK, hd, hlo, hmn⟩ := h
  obtain ⟨q1, q2, q3, -⟩ := hq
  subst q1; subst q2; subst q3
  intro H locs ls hl hP hS
  exact va_mmax hx hb (hml.trans hl.1.symm) hown (hts _ hm) (hts _ wj_max_s) (hts _ wj_math) (hts _ wj_max_c) (Nat.le_of_ble_eq_true hR.1) hR.2.1 hR.2.2.1 hR.2.2.2 (dkm hd hi) (k H locs ls hl hP hS)
def cpI (w : Wd) (a b n : Nat) : Wd := (w.1, w.2.1, w.2.2.1, (fun x y => if x = b ∧ y < n then w.2.2.2.1 a y else w.2.2.2.1 x y), w.2.2.2.2.1, w.2.2.2.2.2)
def cpJ (w : Wd) (a b n : Nat) : Wd := (w.1, w.2.1, w.2.2.1, w.2.2.2.1, (fun x y => if x = b ∧ y < n then w.2.2.2.2.1 a y else w.2.2.2.2.1 x y), w.2.2.2.2.2)
theorem g_copyI {X : Cx} {cc : ByteArray} {own mname : String} {ret : Option FieldType} {il : List (Nat × Instr × Nat)} {ce sl pc : Nat} {lv : Nat → Option Value} {rest : List Value} {w w0 : Wd} (h : Ok X cc own mname ret il) {R0 : Room} {l0 : Launch} {E0 : EE} {P0 : Option Value → Wd → Prop} {mc0 ms0 nL0 : Nat} (hq : Is X R0 l0 E0 P0 mc0 ms0 nL0) (i : Nat) {index a b n n0 n1 : Nat} {n32 : Int32} (hi : il[i]? = some (pc, .invokestatic index, 3)) (hm : Cond.methodLink own index arraycopyName ∈ lw_ok) (ha : wK w a = some (.inr (0, n0))) (hbk : wK w b = some (.inr (0, n1))) (hn : n32 = nI n) (hn2 : n < 2 ^ 31) (h0 : n ≤ n0) (h1 : n ≤ n1) (hR : Nat.ble 1 R0.frames = true ∧ (rest.map fun v => v.category).sum + (nativeFrameWords "java/lang/System" "arraycopy" 5 + 11) ≤ R0.locals) (k : G X ce sl (pc + 3) lv rest (cpI w a b n)) : G X ce sl pc lv (.int n32 :: .int 0 :: .ref b :: .int 0 :: .ref a :: rest) w := by
  obtain ⟨p, l, e, R, s, m, args, below, meth, c, E, P, mc, ms, nL⟩ := X
  obtain ⟨hx, hb, hml, hown, hts, hlk, hrt, hK, hd, hlo, hmn⟩ := h
  obtain ⟨q1, q2, q3, -⟩ := hq
  subst q1; subst q2; subst q3
  intro H locs ls hl hP hS
  subst hn
  have hc0 := (PM_at hP (ent_arr ha)).2
  obtain ⟨hle, hc1⟩ := PM_at hP (ent_arr hbk)
  have hcl : (nI n).toNatClampNeg = n := nI_clamp hn2
  have hz : (0 : Int32).toNatClampNeg = 0 := by decide
  obtain ⟨-, k0, hk0, cm0, hkk0⟩ := (hK.2 0 _ (tys_at (by decide))).1 n0 (fun j => .int (wI w a j))
  obtain ⟨-, k1, hk1, cm1, hkk1⟩ := (hK.2 0 _ (tys_at (by decide))).1 n1 (fun j => .int (wI w b j))
  intro T hT X
  obtain ⟨vm', X', step⟩ := X.arraycopy hx hown (hts _ hm) (hts _ wj_cp_n) (hts _ wj_cp_s) (hts _ wj_sys) (src := a) (dst := b) (cs := arrV (E.2.1 0) n0 (fun j => .int (wI w a j))) (cd := arrV (E.2.1 0) n1 (fun j => .int (wI w b j))) (srcPos := 0) (destPos := 0) (n := nI n) (by rw [hT]; exact hc0) (by rw [hT]; exact hc1)
    (fun _ h => by cases h) (fun _ h => by cases h) (fun h => by cases h) (fun h => by cases h) hk0 hk1 hkk0 hkk1 (by simp [tA, refKind]) (by decide) (by decide) (nI_pos hn2)
    (by rw [nI_toInt hn2, arrV_size]; show ¬ ((0 : Int) + _ > _); omega)
    (by rw [nI_toInt hn2, arrV_size]; show ¬ ((0 : Int) + _ > _); omega)
    (fun vm₁ _ i hi => by
      rw [hcl] at hi
      have e : (arrV (E.2.1 0) n0 (fun j => .int (wI w a j))).slots.getD ((0 : Int32).toNatClampNeg + i) .null = .int (wI w a i) := by
        rw [Array.getD_eq_getD_getElem?, hz, Nat.zero_add, arrV_read _ _ (by omega)]
        rfl
      refine ⟨?_, ?_⟩
      · rw [e]
        rfl
      · rw [e]
        exact trivial)
    (g := F0 m pc ls (.int (nI n) :: .int 0 :: .ref b :: .int 0 :: .ref a :: rest)) rfl (by show ls.size = _; rw [hml]; exact hl.1) (rest := rest) rfl (by rw [hb]; exact dkm hd hi) (Nat.le_of_ble_eq_true hR.1) (by have h9 := hR.2; change _ ≤ R.locals at h9; show 2 * 0 + _ + _ ≤ R.locals; omega)
  have e1 : copied (arrV (E.2.1 0) n0 (fun j => .int (wI w a j))) (arrV (E.2.1 0) n1 (fun j => .int (wI w b j))) 0 0 (nI n) = arrV (E.2.1 0) n1 (fun j => .int (va_cpy (wI w a) (wI w b) 0 0 n j)) := by
    have h9 : (arrV (E.2.1 0) n1 (fun j => .int (wI w b j))).storeRun ((0 : Int32).toNatClampNeg) ((arrV (E.2.1 0) n0 (fun j => .int (wI w a j))).stretch ((0 : Int32).toNatClampNeg) ((nI n).toNatClampNeg)) = _ := va_copied (fun z => .int z) (E.2.1 0) (E.2.1 0) (n0 := n0) (n1 := n1) (wI w a) (wI w b) (show (0 : Int32).toNatClampNeg + (nI n).toNatClampNeg ≤ n0 by rw [hz, hcl]; omega)
    refine (show copied _ _ 0 0 (nI n) = _ from h9).trans ?_
    rw [hz, hcl]
  rw [e1] at X' step
  have hl2 : b < H.size := (Array.getElem?_eq_some_iff.mp hc1).1
  have oq : ∀ (q : Nat) (z : Cell), q ≠ b → (H.setIfInBounds b z)[q]? = H[q]? := fun q z hq => by simp [Array.getElem?_setIfInBounds, Ne.symm hq]
  have hheap : ∀ z : Cell, ((T.setVm vm').setCell b z).heap = H.setIfInBounds b z := fun z => by rw [← hT]; rfl
  have hPM : PM E (cpI w a b n) (H.setIfInBounds b (arrV (E.2.1 0) n1 (fun j => .int (va_cpy (wI w a) (wI w b) 0 0 n j)))) := by
    refine PM_put (a := b) hP (by simp) (fun q hq => oq q _ hq) rfl (fun q hq => ent_c rfl (fun k2 => ?_) (fun k2 => ?_) (fun k2 => ?_) (fun k2 => ?_)) (fun y hy => ?_)
    · rfl
    · exact if_neg (fun z => hq z.1)
    · rfl
    · rfl
    · have hk' : wK (cpI w a b n) b = some (.inr (0, n1)) := hbk
      rw [ent_arr hk'] at hy
      obtain rfl := Option.some.inj hy
      refine ⟨hle, ?_⟩
      show (H.setIfInBounds b _)[b]? = some (vp_cell _ _)
      rw [Array.getElem?_setIfInBounds, if_pos rfl, if_pos hl2]
      show some (arrV (E.2.1 0) n1 (fun j => .int (va_cpy (wI w a) (wI w b) 0 0 n j))) = some (arrV (E.2.1 0) n1 (fun j => .int (wI (cpI w a b n) b j)))
      congr 2
      funext q
      show Value.int (if 0 ≤ q ∧ q < 0 + n then wI w a (0 + (q - 0)) else wI w b q) = Value.int (if b = b ∧ q < n then wI w a q else wI w b q)
      simp
  obtain ⟨t, a1, b1⟩ := k _ _ ls hl hPM ⟨by simp; exact hS.1, fun q g1 g2 => by
      rw [oq q _ (fun e => g2 (by rw [e]; exact hle))]
      exact hS.2.1 q g1 g2, fun q hq => by
      rcases List.mem_append.mp hq with h | h
      · exact hS.2.2 q h
      · obtain ⟨z, -, hz⟩ := List.mem_map.mp h
        rw [← hz]
        exact hle⟩ _ (hheap _) X'
  exact ⟨t, step t a1, b1⟩
theorem g_copyJ {X : Cx} {cc : ByteArray} {own mname : String} {ret : Option FieldType} {il : List (Nat × Instr × Nat)} {ce sl pc : Nat} {lv : Nat → Option Value} {rest : List Value} {w w0 : Wd} (h : Ok X cc own mname ret il) {R0 : Room} {l0 : Launch} {E0 : EE} {P0 : Option Value → Wd → Prop} {mc0 ms0 nL0 : Nat} (hq : Is X R0 l0 E0 P0 mc0 ms0 nL0) (i : Nat) {index a b n n0 n1 : Nat} {n32 : Int32} (hi : il[i]? = some (pc, .invokestatic index, 3)) (hm : Cond.methodLink own index arraycopyName ∈ lw_ok) (ha : wK w a = some (.inr (2, n0))) (hbk : wK w b = some (.inr (2, n1))) (hn : n32 = nI n) (hn2 : n < 2 ^ 31) (h0 : n ≤ n0) (h1 : n ≤ n1) (hR : Nat.ble 1 R0.frames = true ∧ (rest.map fun v => v.category).sum + (nativeFrameWords "java/lang/System" "arraycopy" 5 + 11) ≤ R0.locals) (k : G X ce sl (pc + 3) lv rest (cpJ w a b n)) : G X ce sl pc lv (.int n32 :: .int 0 :: .ref b :: .int 0 :: .ref a :: rest) w := by
  obtain ⟨p, l, e, R, s, m, args, below, meth, c, E, P, mc, ms, nL⟩ := X
  obtain ⟨hx, hb, hml, hown, hts, hlk, hrt, hK, hd, hlo, hmn⟩ := h
  obtain ⟨q1, q2, q3, -⟩ := hq
  subst q1; subst q2; subst q3
  intro H locs ls hl hP hS
  subst hn
  have hc0 := (PM_at hP (ent_arr ha)).2
  obtain ⟨hle, hc1⟩ := PM_at hP (ent_arr hbk)
  have hcl : (nI n).toNatClampNeg = n := nI_clamp hn2
  have hz : (0 : Int32).toNatClampNeg = 0 := by decide
  obtain ⟨-, k0, hk0, cm0, hkk0⟩ := (hK.2 2 _ (tys_at (by decide))).1 n0 (fun j => .long (wJ w a j))
  obtain ⟨-, k1, hk1, cm1, hkk1⟩ := (hK.2 2 _ (tys_at (by decide))).1 n1 (fun j => .long (wJ w b j))
  intro T hT X
  obtain ⟨vm', X', step⟩ := X.arraycopy hx hown (hts _ hm) (hts _ wj_cp_n) (hts _ wj_cp_s) (hts _ wj_sys) (src := a) (dst := b) (cs := arrV (E.2.1 2) n0 (fun j => .long (wJ w a j))) (cd := arrV (E.2.1 2) n1 (fun j => .long (wJ w b j))) (srcPos := 0) (destPos := 0) (n := nI n) (by rw [hT]; exact hc0) (by rw [hT]; exact hc1)
    (fun _ h => by cases h) (fun _ h => by cases h) (fun h => by cases h) (fun h => by cases h) hk0 hk1 hkk0 hkk1 (by simp [tA, refKind]) (by decide) (by decide) (nI_pos hn2)
    (by rw [nI_toInt hn2, arrV_size]; show ¬ ((0 : Int) + _ > _); omega)
    (by rw [nI_toInt hn2, arrV_size]; show ¬ ((0 : Int) + _ > _); omega)
    (fun vm₁ _ i hi => by
      rw [hcl] at hi
      have e : (arrV (E.2.1 2) n0 (fun j => .long (wJ w a j))).slots.getD ((0 : Int32).toNatClampNeg + i) .null = .long (wJ w a i) := by
        rw [Array.getD_eq_getD_getElem?, hz, Nat.zero_add, arrV_read _ _ (by omega)]
        rfl
      refine ⟨?_, ?_⟩
      · rw [e]
        rfl
      · rw [e]
        exact trivial)
    (g := F0 m pc ls (.int (nI n) :: .int 0 :: .ref b :: .int 0 :: .ref a :: rest)) rfl (by show ls.size = _; rw [hml]; exact hl.1) (rest := rest) rfl (by rw [hb]; exact dkm hd hi) (Nat.le_of_ble_eq_true hR.1) (by have h9 := hR.2; change _ ≤ R.locals at h9; show 2 * 0 + _ + _ ≤ R.locals; omega)
  have e1 : copied (arrV (E.2.1 2) n0 (fun j => .long (wJ w a j))) (arrV (E.2.1 2) n1 (fun j => .long (wJ w b j))) 0 0 (nI n) = arrV (E.2.1 2) n1 (fun j => .long (va_cpy (wJ w a) (wJ w b) 0 0 n j)) := by
    have h9 : (arrV (E.2.1 2) n1 (fun j => .long (wJ w b j))).storeRun ((0 : Int32).toNatClampNeg) ((arrV (E.2.1 2) n0 (fun j => .long (wJ w a j))).stretch ((0 : Int32).toNatClampNeg) ((nI n).toNatClampNeg)) = _ := va_copied (fun z => .long z) (E.2.1 2) (E.2.1 2) (n0 := n0) (n1 := n1) (wJ w a) (wJ w b) (show (0 : Int32).toNatClampNeg + (nI n).toNatClampNeg ≤ n0 by rw [hz, hcl]; omega)
    refine (show copied _ _ 0 0 (nI n) = _ from h9).trans ?_
    rw [hz, hcl]
  rw [e1] at X' step
  have hl2 : b < H.size := (Array.getElem?_eq_some_iff.mp hc1).1
  have oq : ∀ (q : Nat) (z : Cell), q ≠ b → (H.setIfInBounds b z)[q]? = H[q]? := fun q z hq => by simp [Array.getElem?_setIfInBounds, Ne.symm hq]
  have hheap : ∀ z : Cell, ((T.setVm vm').setCell b z).heap = H.setIfInBounds b z := fun z => by rw [← hT]; rfl
  have hPM : PM E (cpJ w a b n) (H.setIfInBounds b (arrV (E.2.1 2) n1 (fun j => .long (va_cpy (wJ w a) (wJ w b) 0 0 n j)))) := by
    refine PM_put (a := b) hP (by simp) (fun q hq => oq q _ hq) rfl (fun q hq => ent_c rfl (fun k2 => ?_) (fun k2 => ?_) (fun k2 => ?_) (fun k2 => ?_)) (fun y hy => ?_)
    · rfl
    · rfl
    · exact if_neg (fun z => hq z.1)
    · rfl
    · have hk' : wK (cpJ w a b n) b = some (.inr (2, n1)) := hbk
      rw [ent_arr hk'] at hy
      obtain rfl := Option.some.inj hy
      refine ⟨hle, ?_⟩
      show (H.setIfInBounds b _)[b]? = some (vp_cell _ _)
      rw [Array.getElem?_setIfInBounds, if_pos rfl, if_pos hl2]
      show some (arrV (E.2.1 2) n1 (fun j => .long (va_cpy (wJ w a) (wJ w b) 0 0 n j))) = some (arrV (E.2.1 2) n1 (fun j => .long (wJ (cpJ w a b n) b j)))
      congr 2
      funext q
      show Value.long (if 0 ≤ q ∧ q < 0 + n then wJ w a (0 + (q - 0)) else wJ w b q) = Value.long (if b = b ∧ q < n then wJ w a q else wJ w b q)
      simp
  obtain ⟨t, a1, b1⟩ := k _ _ ls hl hPM ⟨by simp; exact hS.1, fun q g1 g2 => by
      rw [oq q _ (fun e => g2 (by rw [e]; exact hle))]
      exact hS.2.1 q g1 g2, fun q hq => by
      rcases List.mem_append.mp hq with h | h
      · exact hS.2.2 q h
      · obtain ⟨z, -, hz⟩ := List.mem_map.mp h
        rw [← hz]
        exact hle⟩ _ (hheap _) X'
  exact ⟨t, step t a1, b1⟩
end
section
/-! DOUBLES: what is finite, on a grid and bounded stays so -/
abbrev fk (x : UInt64) : FP.Core.Datum := FP.Core.decode FP.Core.b64 x.toNat
theorem fp_tails : FP.Core.b64.tails = 4503599627370496 := by decide
theorem fp_exps : FP.Core.b64.exps = 2048 := by decide
theorem fp_qmin : FP.Core.b64.qmin = -1074 := by decide
theorem fp_qmax : FP.Core.b64.qmax = 971 := by decide
theorem fp_2p : 2 ^ FP.Core.b64.p = 9007199254740992 := by decide
theorem fp_p : FP.Core.b64.p = 53 := rfl
/-- a datum of the format, not infinite -/
def fpF (c : Nat) (q : Int) : Prop := c < 9007199254740992 ∧ -1074 ≤ q ∧ q ≤ 971 ∧ (q = -1074 ∨ 4503599627370496 ≤ c)
theorem fp_e1 (s : Bool) (c : Nat) (q : Int) : FP.Core.encode FP.Core.b64 (.fin s c q) = if c < 4503599627370496 then (s.toNat * 2048 + 0) * 4503599627370496 + c else (s.toNat * 2048 + ((q - -1074).toNat + 1)) * 4503599627370496 + (c - 4503599627370496) := rfl
theorem fp_eq {s t : Bool} {c d : Nat} {q r : Int} (h1 : s = t) (h2 : c = d) (h3 : q = r) : FP.Core.Datum.fin s c q = FP.Core.Datum.fin t d r := by subst h1; subst h2; subst h3; rfl
theorem fp_enc {s : Bool} {c : Nat} {q : Int} (h : fpF c q) : FP.Core.encode FP.Core.b64 (.fin s c q) < 18446744073709551616 ∧ FP.Core.decode FP.Core.b64 (FP.Core.encode FP.Core.b64 (.fin s c q)) = .fin s c q := by
  obtain ⟨h1, h2, h3, h4⟩ := h
  rw [fp_e1]
  by_cases hc : c < 4503599627370496
  · rw [if_pos hc]
    have hq : q = -1074 := by omega
    subst hq
    unfold FP.Core.decode FP.Core.fieldE FP.Core.fieldT FP.Core.fieldS
    rw [fp_tails, fp_exps, fp_qmin]
    cases s
    · refine ⟨by simp; omega, ?_⟩
      simp only [Bool.toNat_false]
      rw [if_neg (by omega), if_pos (by omega)]
      refine fp_eq ?_ ?_ rfl
      · simp; omega
      · omega
    · refine ⟨by simp; omega, ?_⟩
      simp only [Bool.toNat_true]
      rw [if_neg (by omega), if_pos (by omega)]
      refine fp_eq ?_ ?_ rfl
      · simp; omega
      · omega
  · rw [if_neg hc]
    obtain ⟨k, hk⟩ : ∃ k : Nat, (q - -1074).toNat = k := ⟨_, rfl⟩
    rw [hk]
    have hkq : q = -1074 + (k : Int) := by omega
    have hk2 : k ≤ 2045 := by omega
    unfold FP.Core.decode FP.Core.fieldE FP.Core.fieldT FP.Core.fieldS
    rw [fp_tails, fp_exps, fp_qmin]
    cases s
    · refine ⟨by simp; omega, ?_⟩
      simp only [Bool.toNat_false]
      rw [if_neg (by omega), if_neg (by omega)]
      refine fp_eq ?_ ?_ ?_
      · simp; omega
      · omega
      · omega
    · refine ⟨by simp; omega, ?_⟩
      simp only [Bool.toNat_true]
      rw [if_neg (by omega), if_neg (by omega)]
      refine fp_eq ?_ ?_ ?_
      · simp; omega
      · omega
      · omega
theorem fp_dec {x : UInt64} {s : Bool} {c : Nat} {q : Int} (h : fk x = .fin s c q) : fpF c q := by
  unfold fk FP.Core.decode FP.Core.fieldE FP.Core.fieldT FP.Core.fieldS at h
  rw [fp_tails, fp_exps, fp_qmin] at h
  have hx := x.toNat_lt
  unfold fpF
  split at h
  · split at h <;> cases h
  · split at h
    · cases h; omega
    · cases h; omega
/-- the bits again, out of sign, figures and exponent -/
theorem fp_of {x : UInt64} {s : Bool} {c : Nat} {q : Int} (h : fk x = .fin s c q) : x = UInt64.ofNat (FP.Core.encode FP.Core.b64 (.fin s c q)) := by
  have hx : x.toNat < 18446744073709551616 := x.toNat_lt
  have key : FP.Core.encode FP.Core.b64 (.fin s c q) = x.toNat := by
    unfold fk FP.Core.decode FP.Core.fieldE FP.Core.fieldT FP.Core.fieldS at h
    rw [fp_tails, fp_exps, fp_qmin] at h
    rw [fp_e1]
    split at h
    · split at h <;> cases h
    · split at h
      · cases h
        rw [if_pos (by omega)]
        rcases Nat.mod_two_eq_zero_or_one (x.toNat / 4503599627370496 / 2048) with hs | hs
        · rw [hs, show ((0 : Nat) == 1).toNat = 0 from rfl]; omega
        · rw [hs, show ((1 : Nat) == 1).toNat = 1 from rfl]; omega
      · cases h
        rw [if_neg (by omega)]
        rcases Nat.mod_two_eq_zero_or_one (x.toNat / 4503599627370496 / 2048) with hs | hs
        · rw [hs, show ((0 : Nat) == 1).toNat = 0 from rfl]; omega
        · rw [hs, show ((1 : Nat) == 1).toNat = 1 from rfl]; omega
  rw [key]
  simp
/-- the exact value c 2^q is N of the least numbers -/
def fpN (c : Nat) (q : Int) (N : Nat) : Prop := c * 2 ^ (q + 1074).toNat = N * 2 ^ (-1074 - q).toNat
theorem fp_pow {a b : Nat} (h : a ≤ b) : 2 ^ b = 2 ^ a * 2 ^ (b - a) := by
  rw [← Nat.pow_add]
  congr 1
  omega
theorem fp_near1 (n : Nat) : FP.Core.nearest n 1 = n := by
  unfold FP.Core.nearest
  simp [Nat.mod_one]
theorem fp_nearE (M B : Nat) (hB : 0 < B) : FP.Core.nearest (M * B) B = M := by
  unfold FP.Core.nearest
  rw [Nat.mul_mod_left, Nat.mul_div_cancel _ hB]
  simp [hB]
theorem fp_nearLe {A B M : Nat} (hB : 0 < B) (h : A ≤ M * B) : FP.Core.nearest A B ≤ M := by
  unfold FP.Core.nearest
  rcases Nat.lt_or_ge A (M * B) with h1 | h1
  · have h2 : A / B < M := (Nat.div_lt_iff_lt_mul hB).mpr h1
    split
    · omega
    · split
      · omega
      · have : A / B % 2 ≤ 1 := by omega
        omega
  · have h2 : A = M * B := Nat.le_antisymm h h1
    subst h2
    rw [Nat.mul_mod_left, Nat.mul_div_cancel _ hB]
    simp [hB]
theorem fp_nearGe {A B M : Nat} (hB : 0 < B) (h : M * B ≤ A) : M ≤ FP.Core.nearest A B := by
  have h1 : M ≤ A / B := (Nat.le_div_iff_mul_le hB).mpr h
  unfold FP.Core.nearest
  split
  · exact h1
  · split <;> omega
theorem fp_lead {c : Nat} (hc : 0 < c) : FP.Core.leading c 1 = (c.log2 : Int) := by
  unfold FP.Core.leading
  have h1 : Nat.log2 1 = 0 := by decide
  have h2 : 2 ^ c.log2 ≤ c := Nat.log2_self_le (by omega)
  simp only [h1]
  rw [if_pos]
  · simp
  · simp
    exact h2
end
section
theorem fp_r1 {s : Bool} {c : Nat} {q Q : Int} (hc : 0 < c) (hQ : Q = max (-1074) ((c.log2 : Int) + q - 52)) : FP.Core.round FP.Core.b64 (.fin s c q) = FP.Core.settle FP.Core.b64 s (FP.Core.nearest (c * 2 ^ (q - Q).toNat) (1 * 2 ^ (Q - q).toNat)) Q := by
  show FP.Core.roundRatio FP.Core.b64 s c 1 q = _
  unfold FP.Core.roundRatio
  rw [if_neg (by omega)]
  have h : FP.Core.quantum FP.Core.b64 c 1 q = Q := by
    unfold FP.Core.quantum
    rw [fp_lead hc, fp_qmin, hQ, fp_p]
    rfl
  rw [h]
  rfl
theorem fp_settle {s : Bool} {n : Nat} {Q : Int} (hn : n ≤ 9007199254740992) (hQ : Q ≤ 970) (h1 : -1074 ≤ Q) (h2 : Q = -1074 ∨ 4503599627370496 ≤ n) : ∃ c' q', FP.Core.settle FP.Core.b64 s n Q = .fin s c' q' ∧ fpF c' q' ∧ c' * 2 ^ (q' + 1074).toNat = n * 2 ^ (Q + 1074).toNat := by
  unfold FP.Core.settle FP.Core.bound
  rw [fp_2p, fp_qmax, fp_tails]
  by_cases h : n < 9007199254740992
  · rw [if_pos h, if_pos (by omega)]
    exact ⟨n, Q, rfl, ⟨h, h1, by omega, h2⟩, rfl⟩
  · rw [if_neg h, if_pos (by omega)]
    have hn2 : n = 9007199254740992 := by omega
    refine ⟨4503599627370496, Q + 1, rfl, ⟨by omega, by omega, by omega, Or.inr (by omega)⟩, ?_⟩
    rw [hn2, show (Q + 1 + 1074).toNat = (Q + 1074).toNat + 1 by omega, Nat.pow_succ]
    omega
theorem fp_round {s : Bool} {c N E : Nat} {q : Int} (hc : 0 < c) (hN : fpN c q N) (hE : N ≤ 2 ^ E) (hE2 : E ≤ 2040) : ∃ c' q', FP.Core.round FP.Core.b64 (.fin s c q) = .fin s c' q' ∧ fpF c' q' ∧ c' * 2 ^ (q' + 1074).toNat ≤ 2 ^ E ∧ 0 < c' ∧ ∀ G, 2 ^ G ∣ N → 2 ^ G ∣ c' * 2 ^ (q' + 1074).toNat := by
  obtain ⟨k, hk⟩ : ∃ k, c.log2 = k := ⟨_, rfl⟩
  have hk1 : 2 ^ k ≤ c := by rw [← hk]; exact Nat.log2_self_le (by omega)
  have hk2 : c < 2 ^ (k + 1) := by rw [← hk]; exact Nat.lt_log2_self
  obtain ⟨Q, hQ⟩ : ∃ Q : Int, Q = max (-1074) ((k : Int) + q - 52) := ⟨_, rfl⟩
  have hr := fp_r1 (s := s) (q := q) (Q := Q) hc (by rw [hk]; exact hQ)
  have hQ1 : -1074 ≤ Q := by omega
  have hQ2 : (k : Int) + q - 52 ≤ Q := by omega
  have hQ3 : Q = -1074 ∨ Q = (k : Int) + q - 52 := by omega
  have hN0 : 0 < N := by
    rcases Nat.eq_zero_or_pos N with h | h
    · subst h
      unfold fpN at hN
      rw [Nat.zero_mul] at hN
      have := Nat.mul_pos hc (Nat.two_pow_pos (q + 1074).toNat)
      omega
    · exact h
  -- the leading digit is within the bound
  have hlead : (k : Int) + q + 1074 ≤ (E : Int) := by
    unfold fpN at hN
    rcases Int.lt_or_le q (-1074) with h | h
    · obtain ⟨j, hj⟩ : ∃ j : Nat, (-1074 - q).toNat = j := ⟨_, rfl⟩
      rw [show (q + 1074).toNat = 0 by omega, hj] at hN
      have h1 : 2 ^ k ≤ 2 ^ (E + j) := by
        rw [Nat.pow_add]
        refine Nat.le_trans hk1 ?_
        rw [show c = N * 2 ^ j by omega]
        exact Nat.mul_le_mul_right _ hE
      have := (Nat.pow_le_pow_iff_right (by omega)).mp h1
      omega
    · obtain ⟨j, hj⟩ : ∃ j : Nat, (q + 1074).toNat = j := ⟨_, rfl⟩
      rw [show (-1074 - q).toNat = 0 by omega, hj] at hN
      have h1 : 2 ^ (k + j) ≤ 2 ^ E := by
        rw [Nat.pow_add]
        refine Nat.le_trans ?_ hE
        rw [show N = c * 2 ^ j by omega]
        exact Nat.mul_le_mul_right _ hk1
      have := (Nat.pow_le_pow_iff_right (by omega)).mp h1
      omega
  obtain ⟨A, hA⟩ : ∃ A : Nat, (Q + 1074).toNat = A := ⟨_, rfl⟩
  have hAE : A ≤ E := by omega
  rcases Int.lt_or_le q Q with h | h
  · -- digits are dropped
    obtain ⟨d, hd⟩ : ∃ d : Nat, (Q - q).toNat = d := ⟨_, rfl⟩
    rw [show (q - Q).toNat = 0 by omega, hd, Nat.pow_zero, Nat.mul_one, Nat.one_mul] at hr
    have hD : 0 < 2 ^ d := Nat.two_pow_pos d
    have hND : c * 2 ^ A = N * 2 ^ d := by
      unfold fpN at hN
      rcases Int.lt_or_le q (-1074) with g | g
      · obtain ⟨j, hj⟩ : ∃ j : Nat, (-1074 - q).toNat = j := ⟨_, rfl⟩
        rw [show (q + 1074).toNat = 0 by omega, hj] at hN
        rw [show d = j + A by omega, Nat.pow_add, show c = N * 2 ^ j by omega, Nat.mul_assoc]
      · obtain ⟨j, hj⟩ : ∃ j : Nat, (q + 1074).toNat = j := ⟨_, rfl⟩
        rw [show (-1074 - q).toNat = 0 by omega, hj] at hN
        rw [show A = j + d by omega, Nat.pow_add, show N = c * 2 ^ j by omega, Nat.mul_assoc]
    obtain ⟨n, hn⟩ : ∃ n, FP.Core.nearest c (2 ^ d) = n := ⟨_, rfl⟩
    rw [hn] at hr
    have hn53 : n ≤ 9007199254740992 := by
      rw [← hn]
      refine fp_nearLe hD ?_
      refine Nat.le_of_lt (Nat.lt_of_lt_of_le hk2 ?_)
      rw [show (9007199254740992 : Nat) = 2 ^ 53 by decide, ← Nat.pow_add]
      exact Nat.pow_le_pow_right (by omega) (by omega)
    have hn52 : Q = -1074 ∨ 4503599627370496 ≤ n := by
      rcases hQ3 with g | g
      · exact Or.inl g
      · right
        rw [← hn]
        refine fp_nearGe hD ?_
        rw [show (4503599627370496 : Nat) = 2 ^ 52 by decide, ← Nat.pow_add]
        refine Nat.le_trans (Nat.pow_le_pow_right (by omega) (by omega)) hk1
    obtain ⟨c', q', e1, e2, e3⟩ := fp_settle (s := s) hn53 (by omega) hQ1 hn52
    rw [hA] at e3
    have hle : n * 2 ^ A ≤ 2 ^ E := by
      have h1 : n ≤ 2 ^ (E - A) := by
        rw [← hn]
        refine fp_nearLe hD ?_
        have h2 : c * 2 ^ A ≤ 2 ^ (E - A) * 2 ^ d * 2 ^ A := by
          rw [hND]
          calc N * 2 ^ d ≤ 2 ^ E * 2 ^ d := Nat.mul_le_mul_right _ hE
            _ = 2 ^ (E - A) * 2 ^ d * 2 ^ A := by rw [fp_pow hAE]; ac_rfl
        exact Nat.le_of_mul_le_mul_right h2 (Nat.two_pow_pos A)
      calc n * 2 ^ A ≤ 2 ^ (E - A) * 2 ^ A := Nat.mul_le_mul_right _ h1
        _ = 2 ^ E := by rw [fp_pow hAE]; ac_rfl
    have hpos : 0 < n := by
      rcases hn52 with g | g
      · have hA0 : A = 0 := by omega
        rw [hA0, Nat.pow_zero, Nat.mul_one] at hND
        rw [← hn, hND, fp_nearE _ _ hD]
        exact hN0
      · omega
    refine ⟨c', q', hr.trans e1, e2, by rw [e3]; exact hle, ?_, fun G hG => ?_⟩
    · rcases Nat.eq_zero_or_pos c' with g | g
      · subst g
        rw [Nat.zero_mul] at e3
        have := Nat.mul_pos hpos (Nat.two_pow_pos A)
        omega
      · exact g
    · rw [e3]
      rcases Nat.lt_or_ge A G with g | g
      · obtain ⟨m, hm⟩ := hG
        have h2 : c = 2 ^ (G - A) * m * 2 ^ d := by
          refine Nat.eq_of_mul_eq_mul_right (Nat.two_pow_pos A) ?_
          rw [hND, hm, fp_pow (Nat.le_of_lt g)]
          ac_rfl
        rw [← hn, h2, fp_nearE _ _ hD]
        exact ⟨m, by rw [fp_pow (Nat.le_of_lt g)]; ac_rfl⟩
      · exact Nat.dvd_trans (Nat.pow_dvd_pow 2 g) (Nat.dvd_mul_left _ _)
  · -- nothing is dropped
    obtain ⟨d, hd⟩ : ∃ d : Nat, (q - Q).toNat = d := ⟨_, rfl⟩
    rw [show (Q - q).toNat = 0 by omega, hd, Nat.pow_zero, Nat.mul_one, fp_near1] at hr
    have hk52 : k + d ≤ 52 := by omega
    have hn53 : c * 2 ^ d ≤ 9007199254740992 := by
      refine Nat.le_of_lt (Nat.lt_of_lt_of_le (Nat.mul_lt_mul_of_pos_right hk2 (Nat.two_pow_pos d)) ?_)
      rw [show (9007199254740992 : Nat) = 2 ^ 53 by decide, ← Nat.pow_add]
      exact Nat.pow_le_pow_right (by omega) (by omega)
    have hn52 : Q = -1074 ∨ 4503599627370496 ≤ c * 2 ^ d := by
      rcases hQ3 with g | g
      · exact Or.inl g
      · right
        refine Nat.le_trans ?_ (Nat.mul_le_mul_right _ hk1)
        rw [show (4503599627370496 : Nat) = 2 ^ 52 by decide, ← Nat.pow_add]
        exact Nat.pow_le_pow_right (by omega) (by omega)
    obtain ⟨c', q', e1, e2, e3⟩ := fp_settle (s := s) hn53 (by omega) hQ1 hn52
    have hNN : c * 2 ^ d * 2 ^ (Q + 1074).toNat = N := by
      unfold fpN at hN
      rw [show (-1074 - q).toNat = 0 by omega, Nat.pow_zero, Nat.mul_one] at hN
      rw [Nat.mul_assoc, ← Nat.pow_add, show d + (Q + 1074).toNat = (q + 1074).toNat by omega]
      exact hN
    rw [hNN] at e3
    refine ⟨c', q', hr.trans e1, e2, by rw [e3]; exact hE, ?_, fun G hG => by rw [e3]; exact hG⟩
    rcases Nat.eq_zero_or_pos c' with g | g
    · subst g
      rw [Nat.zero_mul] at e3
      omega
    · exact g
end
section
theorem fp_powlt {a b : Nat} (h : 2 ^ a < 2 ^ b) : a < b := (Nat.pow_lt_pow_iff_right (by omega)).mp h
theorem fp_exact {s : Bool} {c c0 : Nat} {q q0 : Int} (hc : 0 < c) (h0 : 0 < c0) (hF : fpF c0 q0) (hN : fpN c q (c0 * 2 ^ (q0 + 1074).toNat)) : FP.Core.round FP.Core.b64 (.fin s c q) = .fin s c0 q0 := by
  obtain ⟨f1, f2, f3, f4⟩ := hF
  obtain ⟨k, hk⟩ : ∃ k, c.log2 = k := ⟨_, rfl⟩
  have hk1 : 2 ^ k ≤ c := by rw [← hk]; exact Nat.log2_self_le (by omega)
  have hk2 : c < 2 ^ (k + 1) := by rw [← hk]; exact Nat.lt_log2_self
  obtain ⟨j, hj⟩ : ∃ j, c0.log2 = j := ⟨_, rfl⟩
  have hj1 : 2 ^ j ≤ c0 := by rw [← hj]; exact Nat.log2_self_le (by omega)
  have hj2 : c0 < 2 ^ (j + 1) := by rw [← hj]; exact Nat.lt_log2_self
  obtain ⟨b, hb⟩ : ∃ b : Nat, (q0 + 1074).toNat = b := ⟨_, rfl⟩
  unfold fpN at hN
  rw [hb] at hN
  have hkj : (k : Int) + q = (j : Int) + q0 := by
    rcases Int.lt_or_le q (-1074) with g | g
    · obtain ⟨a, ha⟩ : ∃ a : Nat, (-1074 - q).toNat = a := ⟨_, rfl⟩
      rw [show (q + 1074).toNat = 0 by omega, ha, Nat.pow_zero, Nat.mul_one, Nat.mul_assoc, ← Nat.pow_add] at hN
      have e1 : 2 ^ k < 2 ^ (j + 1 + (b + a)) := by
        rw [Nat.pow_add]
        exact Nat.lt_of_le_of_lt hk1 (by rw [hN]; exact Nat.mul_lt_mul_of_pos_right hj2 (Nat.two_pow_pos _))
      have e2 : 2 ^ (j + (b + a)) < 2 ^ (k + 1) := by
        rw [Nat.pow_add]
        exact Nat.lt_of_le_of_lt (Nat.mul_le_mul_right _ hj1) (by rw [← hN]; exact hk2)
      have := fp_powlt e1
      have := fp_powlt e2
      omega
    · obtain ⟨a, ha⟩ : ∃ a : Nat, (q + 1074).toNat = a := ⟨_, rfl⟩
      rw [show (-1074 - q).toNat = 0 by omega, ha, Nat.pow_zero, Nat.mul_one] at hN
      have e1 : 2 ^ (k + a) < 2 ^ (j + 1 + b) := by
        rw [Nat.pow_add, Nat.pow_add]
        exact Nat.lt_of_le_of_lt (Nat.mul_le_mul_right _ hk1) (by rw [hN]; exact Nat.mul_lt_mul_of_pos_right hj2 (Nat.two_pow_pos _))
      have e2 : 2 ^ (j + b) < 2 ^ (k + 1 + a) := by
        rw [Nat.pow_add, Nat.pow_add]
        exact Nat.lt_of_le_of_lt (Nat.mul_le_mul_right _ hj1) (by rw [← hN]; exact Nat.mul_lt_mul_of_pos_right hk2 (Nat.two_pow_pos _))
      have := fp_powlt e1
      have := fp_powlt e2
      omega
  have hj53 : j < 53 := by
    refine fp_powlt (Nat.lt_of_le_of_lt hj1 ?_)
    rw [show (2 : Nat) ^ 53 = 9007199254740992 by decide]
    exact f1
  have hQ : q0 = max (-1074) ((c.log2 : Int) + q - 52) := by
    rw [hk]
    rcases f4 with g | g
    · omega
    · have : 52 < j + 1 := fp_powlt (Nat.lt_of_le_of_lt (by rw [show (2 : Nat) ^ 52 = 4503599627370496 by decide]; exact g) hj2)
      omega
  rw [fp_r1 hc hQ]
  have hn : FP.Core.nearest (c * 2 ^ (q - q0).toNat) (1 * 2 ^ (q0 - q).toNat) = c0 := by
    rcases Int.lt_or_le q q0 with g | g
    · obtain ⟨d, hd⟩ : ∃ d : Nat, (q0 - q).toNat = d := ⟨_, rfl⟩
      rw [show (q - q0).toNat = 0 by omega, hd, Nat.pow_zero, Nat.mul_one, Nat.one_mul]
      have : c = c0 * 2 ^ d := by
        rcases Int.lt_or_le q (-1074) with g2 | g2
        · rw [show (q + 1074).toNat = 0 by omega, Nat.pow_zero, Nat.mul_one, Nat.mul_assoc, ← Nat.pow_add, show b + (-1074 - q).toNat = d by omega] at hN
          exact hN
        · rw [show (-1074 - q).toNat = 0 by omega, Nat.pow_zero, Nat.mul_one, show b = d + (q + 1074).toNat by omega, Nat.pow_add, ← Nat.mul_assoc] at hN
          exact Nat.eq_of_mul_eq_mul_right (Nat.two_pow_pos _) hN
      rw [this]
      exact fp_nearE _ _ (Nat.two_pow_pos d)
    · obtain ⟨d, hd⟩ : ∃ d : Nat, (q - q0).toNat = d := ⟨_, rfl⟩
      rw [show (q0 - q).toNat = 0 by omega, hd, Nat.pow_zero, Nat.mul_one, fp_near1]
      rw [show (-1074 - q).toNat = 0 by omega, Nat.pow_zero, Nat.mul_one, show (q + 1074).toNat = d + b by omega, Nat.pow_add, ← Nat.mul_assoc] at hN
      exact Nat.eq_of_mul_eq_mul_right (Nat.two_pow_pos _) hN
  rw [hn]
  unfold FP.Core.settle FP.Core.bound
  rw [fp_2p, fp_qmax, if_pos f1, if_pos f3]
/-- finite, a multiple of 2^(G - 1074), at most 2^(E - 1074) -/
def FG (G E : Nat) (x : UInt64) : Prop := ∃ s c q, fk x = .fin s c q ∧ 2 ^ G ∣ c * 2 ^ (q + 1074).toNat ∧ c * 2 ^ (q + 1074).toNat ≤ 2 ^ E
/-- not the zero below zero -/
def NZ (x : UInt64) : Prop := ∀ s c q, fk x = .fin s c q → c = 0 → s = false
theorem fk_of {s : Bool} {c : Nat} {q : Int} (h : fpF c q) : fk (UInt64.ofNat (FP.Core.encode FP.Core.b64 (.fin s c q))) = .fin s c q := by
  obtain ⟨h1, h2⟩ := fp_enc (s := s) h
  unfold fk
  rw [show (UInt64.ofNat (FP.Core.encode FP.Core.b64 (.fin s c q))).toNat = FP.Core.encode FP.Core.b64 (.fin s c q) from Nat.mod_eq_of_lt h1]
  exact h2
theorem fpF0 : fpF 0 (-1074) := ⟨by omega, by omega, by omega, Or.inl rfl⟩
theorem fp_r0 (s : Bool) (q : Int) : FP.Core.round FP.Core.b64 (.fin s 0 q) = .fin s 0 (-1074) := rfl
theorem fk_dadd (x y : UInt64) : FP.dadd x y = UInt64.ofNat (FP.Core.encode FP.Core.b64 (FP.Core.round FP.Core.b64 (FP.Core.exactSum (fk x) (fk y)))) := rfl
theorem fk_dmul (x y : UInt64) : FP.dmul x y = UInt64.ofNat (FP.Core.encode FP.Core.b64 (FP.Core.round FP.Core.b64 (FP.Core.exactProduct (fk x) (fk y)))) := rfl
theorem fk_dsub (x y : UInt64) : FP.dsub x y = UInt64.ofNat (FP.Core.encode FP.Core.b64 (FP.Core.round FP.Core.b64 (FP.Core.exactSum (fk x) (FP.Core.negate (fk y))))) := rfl
/-- a rounded datum as bits -/
theorem fg_round {s : Bool} {c N G E : Nat} {q : Int} (hN : c ≠ 0 → fpN c q N ∧ N ≤ 2 ^ E ∧ 2 ^ G ∣ N) (hE2 : E ≤ 2040) {x : UInt64} (hx : x = UInt64.ofNat (FP.Core.encode FP.Core.b64 (FP.Core.round FP.Core.b64 (.fin s c q)))) : FG G E x ∧ (c ≠ 0 ∨ s = false → NZ x) := by
  rcases Nat.eq_zero_or_pos c with h | h
  · subst h
    rw [fp_r0] at hx
    have h1 := fk_of (s := s) fpF0
    rw [← hx] at h1
    refine ⟨⟨s, 0, -1074, h1, by rw [Nat.zero_mul]; exact Nat.dvd_zero _, by rw [Nat.zero_mul]; exact Nat.zero_le _⟩, fun g t d r ht hd => ?_⟩
    rw [h1] at ht
    cases ht
    rcases g with g | g
    · exact absurd rfl g
    · exact g
  · obtain ⟨g1, g2, g3⟩ := hN (by omega)
    obtain ⟨c', q', e1, e2, e3, e4, e5⟩ := fp_round (s := s) h g1 g2 hE2
    rw [e1] at hx
    have h1 := fk_of (s := s) e2
    rw [← hx] at h1
    refine ⟨⟨s, c', q', h1, e5 G g3, e3⟩, fun _ t d r ht hd => ?_⟩
    rw [h1] at ht
    cases ht
    omega
theorem fg_mul {x y : UInt64} {G1 G2 E1 E2 : Nat} (hx : FG G1 E1 x) (hy : FG G2 E2 y) (hG : 1074 ≤ G1 + G2) (hE1 : 1074 ≤ E1 + E2) (hE : E1 + E2 - 1074 ≤ 2040) : FG (G1 + G2 - 1074) (E1 + E2 - 1074) (FP.dmul x y) := by
  obtain ⟨s, c, q, h1, h2, h3⟩ := hx
  obtain ⟨t, d, r, g1, g2, g3⟩ := hy
  have q1 := (fp_dec h1).2.1
  have r1 := (fp_dec g1).2.1
  obtain ⟨a, ha⟩ : ∃ a : Nat, (q + 1074).toNat = a := ⟨_, rfl⟩
  obtain ⟨b, hb⟩ : ∃ b : Nat, (r + 1074).toNat = b := ⟨_, rfl⟩
  rw [ha] at h2 h3
  rw [hb] at g2 g3
  have hd : 2 ^ (G1 + G2) ∣ c * 2 ^ a * (d * 2 ^ b) := by rw [Nat.pow_add]; exact Nat.mul_dvd_mul h2 g2
  have hd2 : 2 ^ 1074 ∣ c * 2 ^ a * (d * 2 ^ b) := Nat.dvd_trans (Nat.pow_dvd_pow 2 hG) hd
  obtain ⟨N, hN⟩ := hd2
  have hle : c * 2 ^ a * (d * 2 ^ b) ≤ 2 ^ (E1 + E2) := by rw [Nat.pow_add]; exact Nat.mul_le_mul h3 g3
  refine (fg_round (s := s != t) (c := c * d) (q := q + r) (N := N) (fun _ => ⟨?_, ?_, ?_⟩) hE ?_).1
  · unfold fpN
    have e : c * d * 2 ^ (a + b) = N * 2 ^ 1074 := by
      rw [Nat.pow_add, Nat.mul_comm N, ← hN]
      ac_rfl
    rcases Int.lt_or_le (q + r) (-1074) with g | g
    · rw [show (q + r + 1074).toNat = 0 by omega, Nat.pow_zero, Nat.mul_one]
      refine Nat.eq_of_mul_eq_mul_right (Nat.two_pow_pos (a + b)) ?_
      rw [e, Nat.mul_assoc, ← Nat.pow_add, show (-1074 - (q + r)).toNat + (a + b) = 1074 by omega]
    · rw [show (-1074 - (q + r)).toNat = 0 by omega, Nat.pow_zero, Nat.mul_one]
      refine Nat.eq_of_mul_eq_mul_right (Nat.two_pow_pos 1074) ?_
      rw [← e, Nat.mul_assoc, ← Nat.pow_add, show (q + r + 1074).toNat + 1074 = a + b by omega]
  · refine Nat.le_of_mul_le_mul_left (c := 2 ^ 1074) ?_ (Nat.two_pow_pos _)
    rw [← hN, ← Nat.pow_add, show 1074 + (E1 + E2 - 1074) = E1 + E2 by omega]
    exact hle
  · rw [hN, show G1 + G2 = 1074 + (G1 + G2 - 1074) by omega, Nat.pow_add] at hd
    exact Nat.dvd_of_mul_dvd_mul_left (Nat.two_pow_pos _) hd
  · rw [fk_dmul, h1, g1]
    rfl
theorem fp_signed (s : Bool) (n : Nat) : FP.Core.signed s n = if s then -(n : Int) else (n : Int) := rfl
theorem fp_units {c : Nat} {q e : Int} (h1 : -1074 ≤ e) (h2 : e ≤ q) : FP.Core.inUnits c q e * 2 ^ (e + 1074).toNat = c * 2 ^ (q + 1074).toNat := by
  unfold FP.Core.inUnits
  rw [Nat.mul_assoc, ← Nat.pow_add, show (q - e).toNat + (e + 1074).toNat = (q + 1074).toNat by omega]
theorem fg_sum {s t : Bool} {c d G E : Nat} {q r : Int} (f1 : fpF c q) (f2 : fpF d r) (h2 : 2 ^ G ∣ c * 2 ^ (q + 1074).toNat) (h3 : c * 2 ^ (q + 1074).toNat ≤ 2 ^ E) (g2 : 2 ^ G ∣ d * 2 ^ (r + 1074).toNat) (g3 : d * 2 ^ (r + 1074).toNat ≤ 2 ^ E) (hE : E + 1 ≤ 2040) {x : UInt64} (hx : x = UInt64.ofNat (FP.Core.encode FP.Core.b64 (FP.Core.round FP.Core.b64 (FP.Core.exactSum (.fin s c q) (.fin t d r))))) : FG G (E + 1) x ∧ ((c = 0 → s = false) ∨ (d = 0 → t = false) → NZ x) := by
  obtain ⟨e, he⟩ : ∃ e : Int, min q r = e := ⟨_, rfl⟩
  have q1 := f1.2.1
  have r1 := f2.2.1
  obtain ⟨u, hu⟩ : ∃ u, FP.Core.inUnits c q e = u := ⟨_, rfl⟩
  obtain ⟨v, hv⟩ : ∃ v, FP.Core.inUnits d r e = v := ⟨_, rfl⟩
  obtain ⟨a, ha⟩ : ∃ a : Nat, (e + 1074).toNat = a := ⟨_, rfl⟩
  have eu : u * 2 ^ a = c * 2 ^ (q + 1074).toNat := by rw [← hu, ← ha]; exact fp_units (by omega) (by omega)
  have ev : v * 2 ^ a = d * 2 ^ (r + 1074).toNat := by rw [← hv, ← ha]; exact fp_units (by omega) (by omega)
  rw [← eu] at h2 h3
  rw [← ev] at g2 g3
  obtain ⟨w, hw⟩ : ∃ w, FP.Core.sumUnits s c q t d r e = w := ⟨_, rfl⟩
  have hw2 : w = (if s then -(u : Int) else (u : Int)) + (if t then -(v : Int) else (v : Int)) := by
    rw [← hw]
    unfold FP.Core.sumUnits
    rw [hu, hv]
    rfl
  have hcases : w.natAbs = u + v ∨ (u ≤ v ∧ w.natAbs = v - u) ∨ (v ≤ u ∧ w.natAbs = u - v) := by
    rw [hw2]
    cases s <;> cases t <;> simp only [Bool.false_eq_true, if_false, if_true] <;> omega
  have hb : w.natAbs * 2 ^ a ≤ 2 ^ (E + 1) := by
    rw [Nat.pow_succ]
    have hm : w.natAbs ≤ u + v := by omega
    have := Nat.mul_le_mul_right (2 ^ a) hm
    rw [Nat.add_mul] at this
    omega
  have hd : 2 ^ G ∣ w.natAbs * 2 ^ a := by
    rcases hcases with h | ⟨_, h⟩ | ⟨_, h⟩
    · rw [h, Nat.add_mul]; exact Nat.dvd_add h2 g2
    · rw [h, Nat.sub_mul]; exact Nat.dvd_sub g2 h2
    · rw [h, Nat.sub_mul]; exact Nat.dvd_sub h2 g2
  have hx2 : FP.Core.exactSum (.fin s c q) (.fin t d r) = .fin (FP.Core.sumSign s t w) w.natAbs e := by
    show FP.Core.Datum.fin (FP.Core.sumSign s t (FP.Core.sumUnits s c q t d r (min q r))) (FP.Core.sumUnits s c q t d r (min q r)).natAbs (min q r) = _
    rw [he, hw]
  rw [hx2] at hx
  have key := fg_round (N := w.natAbs * 2 ^ a) (G := G) (E := E + 1) (fun _ => ⟨by unfold fpN; rw [show (-1074 - e).toNat = 0 by omega, ha]; omega, hb, hd⟩) hE hx
  refine ⟨key.1, fun hz => key.2 ?_⟩
  rcases Nat.eq_zero_or_pos w.natAbs with h | h
  · right
    have w0 : w = 0 := by omega
    unfold FP.Core.sumSign
    rw [if_pos w0]
    have hu0 : s = true → u = 0 → c = 0 := fun _ g => by
      rw [g, Nat.zero_mul] at eu
      rcases Nat.mul_eq_zero.mp eu.symm with k | k
      · exact k
      · exact absurd k (Nat.ne_of_gt (Nat.two_pow_pos _))
    have hv0 : t = true → v = 0 → d = 0 := fun _ g => by
      rw [g, Nat.zero_mul] at ev
      rcases Nat.mul_eq_zero.mp ev.symm with k | k
      · exact k
      · exact absurd k (Nat.ne_of_gt (Nat.two_pow_pos _))
    cases s <;> cases t <;> simp only [Bool.false_eq_true, if_false, if_true] at hw2 <;> first | rfl | skip
    have : u = 0 ∧ v = 0 := by omega
    rcases hz with z | z
    · exact absurd (z (hu0 rfl this.1)) (by decide)
    · exact absurd (z (hv0 rfl this.2)) (by decide)
  · left
    omega
theorem fg_add {x y : UInt64} {G E : Nat} (hx : FG G E x) (hy : FG G E y) (hE : E + 1 ≤ 2040) : FG G (E + 1) (FP.dadd x y) ∧ (NZ x ∨ NZ y → NZ (FP.dadd x y)) := by
  obtain ⟨s, c, q, h1, h2, h3⟩ := hx
  obtain ⟨t, d, r, g1, g2, g3⟩ := hy
  have key := fg_sum (s := s) (t := t) (fp_dec h1) (fp_dec g1) h2 h3 g2 g3 hE (x := FP.dadd x y) (by rw [fk_dadd, h1, g1])
  exact ⟨key.1, fun hz => key.2 (by
    rcases hz with z | z
    · exact Or.inl (z s c q h1)
    · exact Or.inr (z t d r g1))⟩
theorem fg_sub {x y : UInt64} {G E : Nat} (hx : FG G E x) (hy : FG G E y) (hE : E + 1 ≤ 2040) : FG G (E + 1) (FP.dsub x y) ∧ (NZ x → NZ (FP.dsub x y)) := by
  obtain ⟨s, c, q, h1, h2, h3⟩ := hx
  obtain ⟨t, d, r, g1, g2, g3⟩ := hy
  have key := fg_sum (s := s) (t := !t) (fp_dec h1) (fp_dec g1) h2 h3 g2 g3 hE (x := FP.dsub x y) (by rw [fk_dsub, h1, g1]; rfl)
  exact ⟨key.1, fun hz => key.2 (Or.inl (hz s c q h1))⟩
theorem FG.mono {G G' E E' : Nat} {x : UInt64} (h : FG G E x) (hG : G' ≤ G) (hE : E ≤ E') : FG G' E' x := by
  obtain ⟨s, c, q, h1, h2, h3⟩ := h
  exact ⟨s, c, q, h1, Nat.dvd_trans (Nat.pow_dvd_pow 2 hG) h2, Nat.le_trans h3 (Nat.pow_le_pow_right (by omega) hE)⟩
/-- a finite number is no NaN -/
theorem FG.n64 {G E : Nat} {x : UInt64} (h : FG G E x) : vf_n64 x := by
  obtain ⟨s, c, q, h1, -, -⟩ := h
  have f := fp_dec h1
  unfold vf_n64
  have hx := x.toNat_lt
  rw [UInt64.le_iff_toNat_le, UInt64.toNat_and]
  rw [show (0x7fffffffffffffff : UInt64).toNat = 2 ^ 63 - 1 by decide, Nat.and_two_pow_sub_one_eq_mod]
  rw [show (0x7ff0000000000000 : UInt64).toNat = 9218868437227405312 by decide]
  unfold fk FP.Core.decode FP.Core.fieldE FP.Core.fieldT at h1
  rw [fp_tails, fp_exps] at h1
  split at h1
  · split at h1 <;> cases h1
  · omega
end
section
theorem kf_C : fk 4529031901805048957 = .fin false 7417875925070973 (-70) := by decide +kernel
theorem kg_C : FG 1004 1057 4529031901805048957 := ⟨_, _, _, kf_C, by decide +kernel, by decide +kernel⟩
theorem kf_s0 : fk 13818544856648471893 = .fin true 6004799503160661 (-55) := by decide +kernel
theorem kg_s0 : FG 1019 1072 13818544856648471893 := ⟨_, _, _, kf_s0, by decide +kernel, by decide +kernel⟩
theorem kf_s1 : fk 4575957461383581969 = .fin false 4803839602528529 (-59) := by decide +kernel
theorem kg_s1 : FG 1015 1068 4575957461383581969 := ⟨_, _, _, kf_s1, by decide +kernel, by decide +kernel⟩
theorem kf_s2 : fk 13774824197408792602 = .fin true 7320136537186330 (-65) := by decide +kernel
theorem kg_s2 : FG 1009 1062 13774824197408792602 := ⟨_, _, _, kf_s2, by decide +kernel, by decide +kernel⟩
theorem kf_s3 : fk 4523617214285662004 = .fin false 6506788033054516 (-71) := by decide +kernel
theorem kg_s3 : FG 1003 1056 4523617214285662004 := ⟨_, _, _, kf_s3, by decide +kernel, by decide +kernel⟩
theorem kf_s4 : fk 13716528800881525988 = .fin true 7571535165736164 (-78) := by decide +kernel
theorem kg_s4 : FG 996 1049 13716528800881525988 := ⟨_, _, _, kf_s4, by decide +kernel, by decide +kernel⟩
theorem kf_c0 : fk 13826050856027422720 = .fin true 4503599627370496 (-53) := by decide +kernel
theorem kg_c0 : FG 1021 1073 13826050856027422720 := ⟨_, _, _, kf_c0, by decide +kernel, by decide +kernel⟩
theorem kf_c1 : fk 4586165620538955093 = .fin false 6004799503160661 (-57) := by decide +kernel
theorem kg_c1 : FG 1017 1070 4586165620538955093 := ⟨_, _, _, kf_c1, by decide +kernel, by decide +kernel⟩
theorem kf_c2 : fk 13787419979223755799 = .fin true 6405119470038039 (-62) := by decide +kernel
theorem kg_c2 : FG 1012 1065 13787419979223755799 := ⟨_, _, _, kf_c2, by decide +kernel, by decide +kernel⟩
theorem kf_c3 : fk 4537941361671905306 = .fin false 7320136537186330 (-68) := by decide +kernel
theorem kg_c3 : FG 1006 1059 4537941361671905306 := ⟨_, _, _, kf_c3, by decide +kernel, by decide +kernel⟩
theorem kf_c4 : fk 13732177094651715420 = .fin true 5205430426443612 (-74) := by decide +kernel
theorem kg_c4 : FG 1000 1053 13732177094651715420 := ⟨_, _, _, kf_c4, by decide +kernel, by decide +kernel⟩
theorem kf_c5 : fk 4477122120089393304 = .fin false 5047690110490776 (-81) := by decide +kernel
theorem kg_c5 : FG 993 1046 4477122120089393304 := ⟨_, _, _, kf_c5, by decide +kernel, by decide +kernel⟩
theorem kf_1 : fk FP.dconst1 = .fin false 4503599627370496 (-52) := by decide +kernel
theorem kg_1 : FG 1022 1074 FP.dconst1 := ⟨_, _, _, kf_1, by decide +kernel, by decide +kernel⟩
theorem kf_0 : fk FP.dconst0 = .fin false 0 (-1074) := by decide +kernel
theorem kg_0 (G E : Nat) : FG G E FP.dconst0 := ⟨_, _, _, kf_0, by rw [Nat.zero_mul]; exact Nat.dvd_zero _, by rw [Nat.zero_mul]; exact Nat.zero_le _⟩
/-- no sign -/
def SP (x : UInt64) : Prop := ∃ c q, fk x = .fin false c q
theorem SP.nz {x : UInt64} (h : SP x) : NZ x := by
  obtain ⟨c, q, h⟩ := h
  intro s d r h2 _
  rw [h] at h2
  cases h2
  rfl
theorem kn_0 : NZ FP.dconst0 := SP.nz ⟨_, _, kf_0⟩
theorem fp_rsign {s : Bool} {c N E : Nat} {q : Int} (hN : c ≠ 0 → fpN c q N ∧ N ≤ 2 ^ E) (hE2 : E ≤ 2040) {x : UInt64} (hx : x = UInt64.ofNat (FP.Core.encode FP.Core.b64 (FP.Core.round FP.Core.b64 (.fin s c q)))) : ∃ c' q', fk x = .fin s c' q' := by
  rcases Nat.eq_zero_or_pos c with h | h
  · subst h
    rw [fp_r0] at hx
    exact ⟨_, _, by rw [hx]; exact fk_of fpF0⟩
  · obtain ⟨g1, g2⟩ := hN (by omega)
    obtain ⟨c', q', e1, e2, -⟩ := fp_round (s := s) h g1 g2 hE2
    rw [e1] at hx
    exact ⟨c', q', by rw [hx]; exact fk_of e2⟩
theorem sp_mul {x y : UInt64} {G1 G2 E1 E2 : Nat} (hx : FG G1 E1 x) (hy : FG G2 E2 y) (hG : 1074 ≤ G1 + G2) (hE1 : 1074 ≤ E1 + E2) (hE : E1 + E2 - 1074 ≤ 2040) (sx : SP x) (sy : SP y) : SP (FP.dmul x y) := by
  obtain ⟨s, c, q, h1, h2, h3⟩ := fg_mul hx hy hG hE1 hE
  obtain ⟨c1, q1, e1⟩ := sx
  obtain ⟨c2, q2, e2⟩ := sy
  have hp : FP.Core.exactProduct (fk x) (fk y) = .fin false (c1 * c2) (q1 + q2) := by rw [e1, e2]; rfl
  rw [fk_dmul, hp] at h1
  have hs : FP.Core.round FP.Core.b64 (.fin false (c1 * c2) (q1 + q2)) = FP.Core.round FP.Core.b64 (.fin false (c1 * c2) (q1 + q2)) := rfl
  refine ⟨c, q, ?_⟩
  have key : ∃ c' q', fk (FP.dmul x y) = .fin false c' q' := by
    rcases Nat.eq_zero_or_pos (c1 * c2) with h | h
    · rw [fk_dmul, hp, h, fp_r0]
      exact ⟨_, _, fk_of fpF0⟩
    · obtain ⟨s1, d1, r1, g1, g2, g3⟩ := hx
      obtain ⟨s2, d2, r2, k1, k2, k3⟩ := hy
      rw [e1] at g1
      rw [e2] at k1
      cases g1
      cases k1
      have q1b := (fp_dec e1).2.1
      have q2b := (fp_dec e2).2.1
      obtain ⟨a, ha⟩ : ∃ a : Nat, (q1 + 1074).toNat = a := ⟨_, rfl⟩
      obtain ⟨b, hb⟩ : ∃ b : Nat, (q2 + 1074).toNat = b := ⟨_, rfl⟩
      rw [ha] at g2 g3
      rw [hb] at k2 k3
      have hd : 2 ^ (G1 + G2) ∣ c1 * 2 ^ a * (c2 * 2 ^ b) := by rw [Nat.pow_add]; exact Nat.mul_dvd_mul g2 k2
      obtain ⟨N, hN⟩ := Nat.dvd_trans (Nat.pow_dvd_pow 2 hG) hd
      have hle : c1 * 2 ^ a * (c2 * 2 ^ b) ≤ 2 ^ (E1 + E2) := by rw [Nat.pow_add]; exact Nat.mul_le_mul g3 k3
      refine fp_rsign (N := N) (E := E1 + E2 - 1074) (fun _ => ⟨?_, ?_⟩) hE (by rw [fk_dmul, hp])
      · unfold fpN
        have e : c1 * c2 * 2 ^ (a + b) = N * 2 ^ 1074 := by
          rw [Nat.pow_add, Nat.mul_comm N, ← hN]
          ac_rfl
        rcases Int.lt_or_le (q1 + q2) (-1074) with g | g
        · rw [show (q1 + q2 + 1074).toNat = 0 by omega, Nat.pow_zero, Nat.mul_one]
          refine Nat.eq_of_mul_eq_mul_right (Nat.two_pow_pos (a + b)) ?_
          rw [e, Nat.mul_assoc, ← Nat.pow_add, show (-1074 - (q1 + q2)).toNat + (a + b) = 1074 by omega]
        · rw [show (-1074 - (q1 + q2)).toNat = 0 by omega, Nat.pow_zero, Nat.mul_one]
          refine Nat.eq_of_mul_eq_mul_right (Nat.two_pow_pos 1074) ?_
          rw [← e, Nat.mul_assoc, ← Nat.pow_add, show (q1 + q2 + 1074).toNat + 1074 = a + b by omega]
      · refine Nat.le_of_mul_le_mul_left (c := 2 ^ 1074) ?_ (Nat.two_pow_pos _)
        rw [← hN, ← Nat.pow_add, show 1074 + (E1 + E2 - 1074) = E1 + E2 by omega]
        exact hle
  obtain ⟨c', q', g⟩ := key
  rw [fk_dmul, hp, h1] at g
  cases g
  rw [fk_dmul, hp]
  exact h1
/-- 1.0 and what is at most a half in size -/
theorem sp_one {y : UInt64} {G : Nat} (hG : G ≤ 1022) (hy : FG G 1073 y) : SP (FP.dadd FP.dconst1 y) := by
  obtain ⟨t, d, r, g1, g2, g3⟩ := hy
  have r1 := (fp_dec g1).2.1
  obtain ⟨e, he⟩ : ∃ e : Int, min (-52) r = e := ⟨_, rfl⟩
  obtain ⟨u, hu⟩ : ∃ u, FP.Core.inUnits 4503599627370496 (-52) e = u := ⟨_, rfl⟩
  obtain ⟨v, hv⟩ : ∃ v, FP.Core.inUnits d r e = v := ⟨_, rfl⟩
  obtain ⟨a, ha⟩ : ∃ a : Nat, (e + 1074).toNat = a := ⟨_, rfl⟩
  have eu0 : u * 2 ^ a = 4503599627370496 * 2 ^ ((-52 : Int) + 1074).toNat := by rw [← hu, ← ha]; exact fp_units (by omega) (by omega)
  have eu : u * 2 ^ a = 4503599627370496 * 2 ^ 1022 := eu0.trans (congrArg (fun n => 4503599627370496 * 2 ^ n) (show ((-52 : Int) + 1074).toNat = 1022 from by decide))
  have ev : v * 2 ^ a = d * 2 ^ (r + 1074).toNat := by rw [← hv, ← ha]; exact fp_units (by omega) (by omega)
  rw [← ev] at g3
  have e52 : 4503599627370496 * 2 ^ 1022 = 2 * 2 ^ 1073 := by decide +kernel
  have hlt : v < u := by
    refine Nat.lt_of_mul_lt_mul_right (a := 2 ^ a) ?_
    rw [eu, e52]
    have := Nat.two_pow_pos 1073
    omega
  obtain ⟨w, hw⟩ : ∃ w, FP.Core.sumUnits false 4503599627370496 (-52) t d r e = w := ⟨_, rfl⟩
  have hw2 : w = (u : Int) + (if t then -(v : Int) else (v : Int)) := by
    rw [← hw]
    unfold FP.Core.sumUnits
    rw [hu, hv]
    rfl
  have hw3 : 0 < w := by rw [hw2]; cases t <;> simp <;> omega
  have hx2 : FP.Core.exactSum (fk FP.dconst1) (fk y) = .fin false w.natAbs e := by
    rw [kf_1, g1]
    show FP.Core.Datum.fin (FP.Core.sumSign false t (FP.Core.sumUnits false 4503599627370496 (-52) t d r (min (-52) r))) (FP.Core.sumUnits false 4503599627370496 (-52) t d r (min (-52) r)).natAbs (min (-52) r) = _
    rw [he, hw]
    refine fp_eq ?_ rfl rfl
    unfold FP.Core.sumSign
    rw [if_neg (by omega)]
    exact decide_eq_false (by omega)
  refine fp_rsign (c := w.natAbs) (N := w.natAbs * 2 ^ a) (E := 1075) (fun _ => ⟨by unfold fpN; rw [show (-1074 - e).toNat = 0 by omega, ha, Nat.pow_zero, Nat.mul_one], ?_⟩) (by omega) (by rw [fk_dadd, hx2])
  have hm : w.natAbs ≤ u + v := by rw [hw2]; cases t <;> simp <;> omega
  have h9 := Nat.mul_le_mul_right (2 ^ a) hm
  rw [Nat.add_mul, eu, e52] at h9
  have e75 : 2 ^ 1075 = 4 * 2 ^ 1073 := by decide +kernel
  omega

theorem fp_ofInt (i : Int) : FP.Core.ofInt i = .fin (decide (i < 0)) i.natAbs 0 := rfl
theorem fk_i2d (x : Int32) : FP.i2d x = UInt64.ofNat (FP.Core.encode FP.Core.b64 (FP.Core.round FP.Core.b64 (.fin (decide (x.toInt < 0)) x.toInt.natAbs 0))) := rfl
theorem fk_l2d (x : Int64) : FP.l2d x = UInt64.ofNat (FP.Core.encode FP.Core.b64 (FP.Core.round FP.Core.b64 (.fin (decide (x.toInt < 0)) x.toInt.natAbs 0))) := rfl
theorem l2d_i2d {x : Int32} {y : Int64} (h : y.toInt = x.toInt) : FP.l2d y = FP.i2d x := by rw [fk_i2d, fk_l2d, h]
theorem fg_i2d {x : Int32} {k : Nat} (h : x.toInt.natAbs ≤ 2 ^ k) (hk : k ≤ 900) : FG 1074 (1074 + k) (FP.i2d x) ∧ NZ (FP.i2d x) := by
  have key := fg_round (s := decide (x.toInt < 0)) (c := x.toInt.natAbs) (q := 0) (N := x.toInt.natAbs * 2 ^ 1074) (G := 1074) (E := 1074 + k) (fun _ => ⟨by unfold fpN; rw [show (-1074 - 0 : Int).toNat = 0 by decide, show (0 + 1074 : Int).toNat = 1074 by decide, Nat.pow_zero, Nat.mul_one], by rw [Nat.pow_add, Nat.mul_comm]; exact Nat.mul_le_mul_left _ h, Nat.dvd_mul_left _ _⟩) (by omega) (fk_i2d x)
  refine ⟨key.1, key.2 ?_⟩
  rcases Nat.eq_zero_or_pos x.toInt.natAbs with g | g
  · right
    exact decide_eq_false (by omega)
  · left
    omega
theorem sp_i2d {x : Int32} (h0 : 0 ≤ x.toInt) (h : x.toInt.natAbs ≤ 2 ^ 31) : SP (FP.i2d x) := by
  have e : decide (x.toInt < 0) = false := decide_eq_false (by omega)
  have hx := fk_i2d x
  rw [e] at hx
  exact fp_rsign (N := x.toInt.natAbs * 2 ^ 1074) (E := 1105) (fun _ => ⟨by unfold fpN; rw [show (-1074 - 0 : Int).toNat = 0 by decide, show (0 + 1074 : Int).toNat = 1074 by decide, Nat.pow_zero, Nat.mul_one], by rw [show 1105 = 31 + 1074 by decide, Nat.pow_add]; exact Nat.mul_le_mul_right _ h⟩) (by omega) hx

def sA (p : Int32) : UInt64 := FP.dmul (FP.i2d p) 4529031901805048957
theorem fg_sA {p : Int32} (h0 : 0 ≤ p.toInt) (h : p.toInt ≤ 125000) : FG 1004 1074 (sA p) ∧ SP (sA p) := by
  have h1 := (fg_i2d (x := p) (k := 17) (by omega) (by omega)).1
  exact ⟨(fg_mul h1 kg_C (by omega) (by omega) (by omega)).mono (by omega) (by omega), sp_mul h1 kg_C (by omega) (by omega) (by omega) (sp_i2d h0 (by omega)) ⟨_, _, kf_C⟩⟩
theorem fg_sB {p : Int32} (h0 : 0 ≤ p.toInt) (h : p.toInt ≤ 125000) : FG 934 1074 (FP.dmul (sA p) (sA p)) := by
  have h1 := (fg_sA h0 h).1
  exact (fg_mul h1 h1 (by omega) (by omega) (by omega)).mono (by omega) (by omega)
def pS (a b : UInt64) : UInt64 := FP.dmul a (FP.dadd FP.dconst1 (FP.dmul b (FP.dadd 13818544856648471893 (FP.dmul b (FP.dadd 4575957461383581969 (FP.dmul b (FP.dadd 13774824197408792602 (FP.dmul b (FP.dadd 4523617214285662004 (FP.dmul b 13716528800881525988))))))))))
theorem fg_pS {a b : UInt64} (ha : FG 1004 1074 a) (sa : SP a) (hb : FG 934 1074 b) : (vf_n64 (FP.dmul b 13716528800881525988) ∧ vf_n64 (FP.dadd 4523617214285662004 (FP.dmul b 13716528800881525988)) ∧ vf_n64 (FP.dmul b (FP.dadd 4523617214285662004 (FP.dmul b 13716528800881525988))) ∧ vf_n64 (FP.dadd 13774824197408792602 (FP.dmul b (FP.dadd 4523617214285662004 (FP.dmul b 13716528800881525988)))) ∧ vf_n64 (FP.dmul b (FP.dadd 13774824197408792602 (FP.dmul b (FP.dadd 4523617214285662004 (FP.dmul b 13716528800881525988))))) ∧ vf_n64 (FP.dadd 4575957461383581969 (FP.dmul b (FP.dadd 13774824197408792602 (FP.dmul b (FP.dadd 4523617214285662004 (FP.dmul b 13716528800881525988)))))) ∧ vf_n64 (FP.dmul b (FP.dadd 4575957461383581969 (FP.dmul b (FP.dadd 13774824197408792602 (FP.dmul b (FP.dadd 4523617214285662004 (FP.dmul b 13716528800881525988))))))) ∧ vf_n64 (FP.dadd 13818544856648471893 (FP.dmul b (FP.dadd 4575957461383581969 (FP.dmul b (FP.dadd 13774824197408792602 (FP.dmul b (FP.dadd 4523617214285662004 (FP.dmul b 13716528800881525988)))))))) ∧ vf_n64 (FP.dmul b (FP.dadd 13818544856648471893 (FP.dmul b (FP.dadd 4575957461383581969 (FP.dmul b (FP.dadd 13774824197408792602 (FP.dmul b (FP.dadd 4523617214285662004 (FP.dmul b 13716528800881525988))))))))) ∧ vf_n64 (FP.dadd FP.dconst1 (FP.dmul b (FP.dadd 13818544856648471893 (FP.dmul b (FP.dadd 4575957461383581969 (FP.dmul b (FP.dadd 13774824197408792602 (FP.dmul b (FP.dadd 4523617214285662004 (FP.dmul b 13716528800881525988)))))))))) ∧ vf_n64 (pS a b)) ∧ FG 226 1075 (pS a b) ∧ SP (pS a b) := by
  have m5 : FG 856 1049 (FP.dmul b 13716528800881525988) := (fg_mul hb kg_s4 (by omega) (by omega) (by omega)).mono (by omega) (by omega)
  have a4 : FG 856 1057 (FP.dadd 4523617214285662004 (FP.dmul b 13716528800881525988)) := (fg_add (kg_s3.mono (G' := 856) (E' := 1056) (by omega) (by omega)) (m5.mono (by omega) (by omega)) (by omega)).1
  have m4 : FG 716 1057 (FP.dmul b (FP.dadd 4523617214285662004 (FP.dmul b 13716528800881525988))) := (fg_mul hb a4 (by omega) (by omega) (by omega)).mono (by omega) (by omega)
  have a3 : FG 716 1063 (FP.dadd 13774824197408792602 (FP.dmul b (FP.dadd 4523617214285662004 (FP.dmul b 13716528800881525988)))) := (fg_add (kg_s2.mono (G' := 716) (E' := 1062) (by omega) (by omega)) (m4.mono (by omega) (by omega)) (by omega)).1
  have m3 : FG 576 1063 (FP.dmul b (FP.dadd 13774824197408792602 (FP.dmul b (FP.dadd 4523617214285662004 (FP.dmul b 13716528800881525988))))) := (fg_mul hb a3 (by omega) (by omega) (by omega)).mono (by omega) (by omega)
  have a2 : FG 576 1069 (FP.dadd 4575957461383581969 (FP.dmul b (FP.dadd 13774824197408792602 (FP.dmul b (FP.dadd 4523617214285662004 (FP.dmul b 13716528800881525988)))))) := (fg_add (kg_s1.mono (G' := 576) (E' := 1068) (by omega) (by omega)) (m3.mono (by omega) (by omega)) (by omega)).1
  have m2 : FG 436 1069 (FP.dmul b (FP.dadd 4575957461383581969 (FP.dmul b (FP.dadd 13774824197408792602 (FP.dmul b (FP.dadd 4523617214285662004 (FP.dmul b 13716528800881525988))))))) := (fg_mul hb a2 (by omega) (by omega) (by omega)).mono (by omega) (by omega)
  have a1 : FG 436 1073 (FP.dadd 13818544856648471893 (FP.dmul b (FP.dadd 4575957461383581969 (FP.dmul b (FP.dadd 13774824197408792602 (FP.dmul b (FP.dadd 4523617214285662004 (FP.dmul b 13716528800881525988)))))))) := (fg_add (kg_s0.mono (G' := 436) (E' := 1072) (by omega) (by omega)) (m2.mono (by omega) (by omega)) (by omega)).1
  have m1 : FG 296 1073 (FP.dmul b (FP.dadd 13818544856648471893 (FP.dmul b (FP.dadd 4575957461383581969 (FP.dmul b (FP.dadd 13774824197408792602 (FP.dmul b (FP.dadd 4523617214285662004 (FP.dmul b 13716528800881525988))))))))) := (fg_mul hb a1 (by omega) (by omega) (by omega)).mono (by omega) (by omega)
  have a0 : FG 296 1075 (FP.dadd FP.dconst1 (FP.dmul b (FP.dadd 13818544856648471893 (FP.dmul b (FP.dadd 4575957461383581969 (FP.dmul b (FP.dadd 13774824197408792602 (FP.dmul b (FP.dadd 4523617214285662004 (FP.dmul b 13716528800881525988)))))))))) := (fg_add (kg_1.mono (G' := 296) (E' := 1074) (by omega) (by omega)) (m1.mono (by omega) (by omega)) (by omega)).1
  have h1 := sp_one (by omega) (m1.mono (G' := 296) (E' := 1073) (by omega) (by omega))
  have f : FG 226 1075 (pS a b) := (fg_mul ha a0 (by omega) (by omega) (by omega)).mono (by omega) (by omega)
  exact ⟨⟨m5.n64, a4.n64, m4.n64, a3.n64, m3.n64, a2.n64, m2.n64, a1.n64, m1.n64, a0.n64, f.n64⟩, f, sp_mul ha a0 (by omega) (by omega) (by omega) sa h1⟩
def pC (b : UInt64) : UInt64 := FP.dadd FP.dconst1 (FP.dmul b (FP.dadd 13826050856027422720 (FP.dmul b (FP.dadd 4586165620538955093 (FP.dmul b (FP.dadd 13787419979223755799 (FP.dmul b (FP.dadd 4537941361671905306 (FP.dmul b (FP.dadd 13732177094651715420 (FP.dmul b 4477122120089393304)))))))))))
theorem fg_pC {b : UInt64} (hb : FG 934 1074 b) : (vf_n64 (FP.dmul b 4477122120089393304) ∧ vf_n64 (FP.dadd 13732177094651715420 (FP.dmul b 4477122120089393304)) ∧ vf_n64 (FP.dmul b (FP.dadd 13732177094651715420 (FP.dmul b 4477122120089393304))) ∧ vf_n64 (FP.dadd 4537941361671905306 (FP.dmul b (FP.dadd 13732177094651715420 (FP.dmul b 4477122120089393304)))) ∧ vf_n64 (FP.dmul b (FP.dadd 4537941361671905306 (FP.dmul b (FP.dadd 13732177094651715420 (FP.dmul b 4477122120089393304))))) ∧ vf_n64 (FP.dadd 13787419979223755799 (FP.dmul b (FP.dadd 4537941361671905306 (FP.dmul b (FP.dadd 13732177094651715420 (FP.dmul b 4477122120089393304)))))) ∧ vf_n64 (FP.dmul b (FP.dadd 13787419979223755799 (FP.dmul b (FP.dadd 4537941361671905306 (FP.dmul b (FP.dadd 13732177094651715420 (FP.dmul b 4477122120089393304))))))) ∧ vf_n64 (FP.dadd 4586165620538955093 (FP.dmul b (FP.dadd 13787419979223755799 (FP.dmul b (FP.dadd 4537941361671905306 (FP.dmul b (FP.dadd 13732177094651715420 (FP.dmul b 4477122120089393304)))))))) ∧ vf_n64 (FP.dmul b (FP.dadd 4586165620538955093 (FP.dmul b (FP.dadd 13787419979223755799 (FP.dmul b (FP.dadd 4537941361671905306 (FP.dmul b (FP.dadd 13732177094651715420 (FP.dmul b 4477122120089393304))))))))) ∧ vf_n64 (FP.dadd 13826050856027422720 (FP.dmul b (FP.dadd 4586165620538955093 (FP.dmul b (FP.dadd 13787419979223755799 (FP.dmul b (FP.dadd 4537941361671905306 (FP.dmul b (FP.dadd 13732177094651715420 (FP.dmul b 4477122120089393304)))))))))) ∧ vf_n64 (FP.dmul b (FP.dadd 13826050856027422720 (FP.dmul b (FP.dadd 4586165620538955093 (FP.dmul b (FP.dadd 13787419979223755799 (FP.dmul b (FP.dadd 4537941361671905306 (FP.dmul b (FP.dadd 13732177094651715420 (FP.dmul b 4477122120089393304))))))))))) ∧ vf_n64 (FP.dadd FP.dconst1 (FP.dmul b (FP.dadd 13826050856027422720 (FP.dmul b (FP.dadd 4586165620538955093 (FP.dmul b (FP.dadd 13787419979223755799 (FP.dmul b (FP.dadd 4537941361671905306 (FP.dmul b (FP.dadd 13732177094651715420 (FP.dmul b 4477122120089393304))))))))))))) ∧ FG 153 1075 (pC b) ∧ NZ (pC b) := by
  have m6 : FG 853 1046 (FP.dmul b 4477122120089393304) := (fg_mul hb kg_c5 (by omega) (by omega) (by omega)).mono (by omega) (by omega)
  have a5 : FG 853 1054 (FP.dadd 13732177094651715420 (FP.dmul b 4477122120089393304)) := (fg_add (kg_c4.mono (G' := 853) (E' := 1053) (by omega) (by omega)) (m6.mono (by omega) (by omega)) (by omega)).1
  have m5 : FG 713 1054 (FP.dmul b (FP.dadd 13732177094651715420 (FP.dmul b 4477122120089393304))) := (fg_mul hb a5 (by omega) (by omega) (by omega)).mono (by omega) (by omega)
  have a4 : FG 713 1060 (FP.dadd 4537941361671905306 (FP.dmul b (FP.dadd 13732177094651715420 (FP.dmul b 4477122120089393304)))) := (fg_add (kg_c3.mono (G' := 713) (E' := 1059) (by omega) (by omega)) (m5.mono (by omega) (by omega)) (by omega)).1
  have m4 : FG 573 1060 (FP.dmul b (FP.dadd 4537941361671905306 (FP.dmul b (FP.dadd 13732177094651715420 (FP.dmul b 4477122120089393304))))) := (fg_mul hb a4 (by omega) (by omega) (by omega)).mono (by omega) (by omega)
  have a3 : FG 573 1066 (FP.dadd 13787419979223755799 (FP.dmul b (FP.dadd 4537941361671905306 (FP.dmul b (FP.dadd 13732177094651715420 (FP.dmul b 4477122120089393304)))))) := (fg_add (kg_c2.mono (G' := 573) (E' := 1065) (by omega) (by omega)) (m4.mono (by omega) (by omega)) (by omega)).1
  have m3 : FG 433 1066 (FP.dmul b (FP.dadd 13787419979223755799 (FP.dmul b (FP.dadd 4537941361671905306 (FP.dmul b (FP.dadd 13732177094651715420 (FP.dmul b 4477122120089393304))))))) := (fg_mul hb a3 (by omega) (by omega) (by omega)).mono (by omega) (by omega)
  have a2 : FG 433 1071 (FP.dadd 4586165620538955093 (FP.dmul b (FP.dadd 13787419979223755799 (FP.dmul b (FP.dadd 4537941361671905306 (FP.dmul b (FP.dadd 13732177094651715420 (FP.dmul b 4477122120089393304)))))))) := (fg_add (kg_c1.mono (G' := 433) (E' := 1070) (by omega) (by omega)) (m3.mono (by omega) (by omega)) (by omega)).1
  have m2 : FG 293 1071 (FP.dmul b (FP.dadd 4586165620538955093 (FP.dmul b (FP.dadd 13787419979223755799 (FP.dmul b (FP.dadd 4537941361671905306 (FP.dmul b (FP.dadd 13732177094651715420 (FP.dmul b 4477122120089393304))))))))) := (fg_mul hb a2 (by omega) (by omega) (by omega)).mono (by omega) (by omega)
  have a1 : FG 293 1074 (FP.dadd 13826050856027422720 (FP.dmul b (FP.dadd 4586165620538955093 (FP.dmul b (FP.dadd 13787419979223755799 (FP.dmul b (FP.dadd 4537941361671905306 (FP.dmul b (FP.dadd 13732177094651715420 (FP.dmul b 4477122120089393304)))))))))) := (fg_add (kg_c0.mono (G' := 293) (E' := 1073) (by omega) (by omega)) (m2.mono (by omega) (by omega)) (by omega)).1
  have m1 : FG 153 1074 (FP.dmul b (FP.dadd 13826050856027422720 (FP.dmul b (FP.dadd 4586165620538955093 (FP.dmul b (FP.dadd 13787419979223755799 (FP.dmul b (FP.dadd 4537941361671905306 (FP.dmul b (FP.dadd 13732177094651715420 (FP.dmul b 4477122120089393304))))))))))) := (fg_mul hb a1 (by omega) (by omega) (by omega)).mono (by omega) (by omega)
  have a0 : FG 153 1075 (FP.dadd FP.dconst1 (FP.dmul b (FP.dadd 13826050856027422720 (FP.dmul b (FP.dadd 4586165620538955093 (FP.dmul b (FP.dadd 13787419979223755799 (FP.dmul b (FP.dadd 4537941361671905306 (FP.dmul b (FP.dadd 13732177094651715420 (FP.dmul b 4477122120089393304)))))))))))) := (fg_add (kg_1.mono (G' := 153) (E' := 1074) (by omega) (by omega)) (m1.mono (by omega) (by omega)) (by omega)).1
  have nz : NZ (pC b) := (fg_add (kg_1.mono (G' := 153) (E' := 1080) (by omega) (by omega)) (m1.mono (by omega) (by omega)) (by omega)).2 (Or.inl (SP.nz ⟨_, _, kf_1⟩))
  exact ⟨⟨m6.n64, a5.n64, m5.n64, a4.n64, m4.n64, a3.n64, m3.n64, a2.n64, m2.n64, a1.n64, m1.n64, a0.n64⟩, a0, nz⟩
/-- the sine at p of 0 .. 250000, as the document writes it -/
def sP (p : Int32) : UInt64 := if 125000 < p then pC (FP.dmul (sA (250000 - p)) (sA (250000 - p))) else pS (sA p) (FP.dmul (sA p) (sA p))
end
section
theorem g_eqi {X : Cx} {ce sl pc : Nat} {lv : Nat → Option Value} {st : List Value} {w : Wd} {x : Int32} (y : Int32) (e : x = y) (k : G X ce sl pc lv (.int y :: st) w) : G X ce sl pc lv (.int x :: st) w := by rw [e]; exact k
theorem g_eql {X : Cx} {ce sl pc : Nat} {lv : Nat → Option Value} {st : List Value} {w : Wd} {x : Int64} (y : Int64) (e : x = y) (k : G X ce sl pc lv (.long y :: st) w) : G X ce sl pc lv (.long x :: st) w := by rw [e]; exact k
theorem g_eqd {X : Cx} {ce sl pc : Nat} {lv : Nat → Option Value} {st : List Value} {w : Wd} {x : UInt64} (y : UInt64) (e : x = y) (k : G X ce sl pc lv (.double y :: st) w) : G X ce sl pc lv (.double x :: st) w := by rw [e]; exact k
theorem i32x {x y : Int32} (h : x.toInt = y.toInt) : x = y := Int32.toInt.inj h
theorem i64x {x y : Int64} (h : x.toInt = y.toInt) : x = y := Int64.toInt.inj h
theorem i32le {x y : Int32} : x ≤ y ↔ x.toInt ≤ y.toInt := Int32.le_iff_toInt_le
theorem i32lt {x y : Int32} : x < y ↔ x.toInt < y.toInt := Int32.lt_iff_toInt_lt
theorem i64le {x y : Int64} : x ≤ y ↔ x.toInt ≤ y.toInt := Int64.le_iff_toInt_le
theorem i64lt {x y : Int64} : x < y ↔ x.toInt < y.toInt := Int64.lt_iff_toInt_lt
theorem i32b (x : Int32) : -2147483648 ≤ x.toInt ∧ x.toInt ≤ 2147483647 := by
  have h1 := Int32.le_toInt x
  have h2 := Int32.toInt_lt x
  omega
theorem i64b (x : Int64) : -9223372036854775808 ≤ x.toInt ∧ x.toInt ≤ 9223372036854775807 := by
  have h1 := Int64.le_toInt x
  have h2 := Int64.toInt_lt x
  omega
theorem nIT {n : Nat} (h : n < 2147483648) : (nI n).toInt = (n : Int) := nI_toInt (by omega)
theorem lNT {n : Nat} (h : n < 9223372036854775808) : (lN n).toInt = (n : Int) := pk_lT (by omega)
theorem bm64 {n : Int} (h1 : -9223372036854775808 ≤ n) (h2 : n < 9223372036854775808) : n.bmod (2 ^ 64) = n := by rw [Int.bmod_eq_of_le] <;> omega
theorem bm32 {n : Int} (h1 : -2147483648 ≤ n) (h2 : n < 2147483648) : n.bmod (2 ^ 32) = n := by rw [Int.bmod_eq_of_le] <;> omega
theorem l_add {x y : Int64} (h1 : -9223372036854775808 ≤ x.toInt + y.toInt) (h2 : x.toInt + y.toInt < 9223372036854775808) : (x + y).toInt = x.toInt + y.toInt := by rw [Int64.toInt_add, bm64 h1 h2]
theorem l_sub {x y : Int64} (h1 : -9223372036854775808 ≤ x.toInt - y.toInt) (h2 : x.toInt - y.toInt < 9223372036854775808) : (x - y).toInt = x.toInt - y.toInt := by rw [Int64.toInt_sub, bm64 h1 h2]
theorem l_mul {x y : Int64} (h1 : -9223372036854775808 ≤ x.toInt * y.toInt) (h2 : x.toInt * y.toInt < 9223372036854775808) : (x * y).toInt = x.toInt * y.toInt := by rw [Int64.toInt_mul, bm64 h1 h2]
theorem l_neg {x : Int64} (h1 : -9223372036854775808 < x.toInt) : (-x).toInt = -x.toInt := by
  have := i64b x
  rw [Int64.toInt_neg, bm64 (by omega) (by omega)]
theorem i_add {x y : Int32} (h1 : -2147483648 ≤ x.toInt + y.toInt) (h2 : x.toInt + y.toInt < 2147483648) : (x + y).toInt = x.toInt + y.toInt := by rw [Int32.toInt_add, bm32 h1 h2]
theorem i_sub {x y : Int32} (h1 : -2147483648 ≤ x.toInt - y.toInt) (h2 : x.toInt - y.toInt < 2147483648) : (x - y).toInt = x.toInt - y.toInt := by rw [Int32.toInt_sub, bm32 h1 h2]
theorem i_mul {x y : Int32} (h1 : -2147483648 ≤ x.toInt * y.toInt) (h2 : x.toInt * y.toInt < 2147483648) : (x * y).toInt = x.toInt * y.toInt := by rw [Int32.toInt_mul, bm32 h1 h2]
theorem l_i {x : Int64} (h1 : -2147483648 ≤ x.toInt) (h2 : x.toInt < 2147483648) : x.toInt32.toInt = x.toInt := by rw [Int64.toInt_toInt32, bm32 h1 h2]
theorem i_l (x : Int32) : x.toInt64.toInt = x.toInt := Int32.toInt_toInt64 x
theorem l_rem (x y : Int64) : (x - x / y * y).toInt = x.toInt.tmod y.toInt := by
  have a := i64b (x % y)
  rw [Int64.toInt_mod] at a
  rw [Int64.toInt_sub, Int64.toInt_mul, Int64.toInt_div, Int.bmod_mul_bmod, Int.sub_bmod_bmod, Int.mul_comm, ← Int.tmod_def]
  exact bm64 (by omega) (by omega)
theorem i_rem (x y : Int32) : (x - x / y * y).toInt = x.toInt.tmod y.toInt := rem_toInt x y
end
section
-- begun from kit/laws/BITS.to-paste (families wb_, g_)
theorem wb_tb (n : Nat) : (lN n).toBitVec = BitVec.ofNat 64 n := rfl
theorem wb_inj {a b : Int64} (h : a.toBitVec = b.toBitVec) : a = b := Int64.toBitVec_inj.mp h
theorem wb_tn {n : Nat} (h : n < 2 ^ 64) : (lN n).toBitVec.toNat = n := by rw [wb_tb, BitVec.toNat_ofNat, Nat.mod_eq_of_lt h]
theorem wb_c : ∀ k, k < 64 → ((nI k).toInt64 &&& 63) = lN k := by decide +kernel
theorem wb_sm : ∀ k, k < 64 → (BitVec.ofNat 64 k).smod 64 = BitVec.ofNat 64 k := by decide +kernel
theorem wb_pw {a b : Nat} (h : a ≤ b) : 2 ^ b = 2 ^ a * 2 ^ (b - a) := by rw [← Nat.pow_add]; congr 1; omega
theorem wb_lt2 {a b : Nat} (h : a < b) : 2 ^ a < 2 ^ b := Nat.pow_lt_pow_right (by decide) h
theorem wb_shl (n : Nat) {k : Nat} (hk : k < 64) : lN n <<< ((nI k).toInt64 &&& 63) = lN (n * 2 ^ k) := by
  rw [wb_c k hk]
  apply wb_inj
  rw [Int64.toBitVec_shiftLeft, wb_tb, wb_tb, wb_tb, wb_sm k hk]
  apply BitVec.eq_of_toNat_eq
  rw [BitVec.shiftLeft_eq', BitVec.toNat_shiftLeft, BitVec.toNat_ofNat, BitVec.toNat_ofNat, BitVec.toNat_ofNat, Nat.mod_eq_of_lt (show k < 2 ^ 64 by omega), Nat.shiftLeft_eq, Nat.mul_mod, Nat.mod_mod, ← Nat.mul_mod]
theorem wb_and {a b : Nat} (ha : a < 2 ^ 64) (hb : b < 2 ^ 64) : lN a &&& lN b = lN (a &&& b) := by
  apply wb_inj
  rw [Int64.toBitVec_and, wb_tb, wb_tb, wb_tb]
  apply BitVec.eq_of_toNat_eq
  rw [BitVec.toNat_and, BitVec.toNat_ofNat, BitVec.toNat_ofNat, BitVec.toNat_ofNat, Nat.mod_eq_of_lt ha, Nat.mod_eq_of_lt hb, Nat.mod_eq_of_lt (Nat.and_lt_two_pow _ hb)]
theorem wb_or {a b : Nat} (ha : a < 2 ^ 64) (hb : b < 2 ^ 64) : lN a ||| lN b = lN (a ||| b) := by
  apply wb_inj
  rw [Int64.toBitVec_or, wb_tb, wb_tb, wb_tb]
  apply BitVec.eq_of_toNat_eq
  rw [BitVec.toNat_or, BitVec.toNat_ofNat, BitVec.toNat_ofNat, BitVec.toNat_ofNat, Nat.mod_eq_of_lt ha, Nat.mod_eq_of_lt hb, Nat.mod_eq_of_lt (Nat.or_lt_two_pow ha hb)]
theorem wb_mask {n k : Nat} (hn : n < 2 ^ 64) (hk : k < 64) : lN n &&& lN (2 ^ k - 1) = lN (n % 2 ^ k) := by
  rw [wb_and hn (by have := wb_lt2 hk; omega), Nat.and_two_pow_sub_one_eq_mod]
theorem wb_a1 {n : Nat} (hn : n < 2 ^ 64) : lN n &&& 1 = lN (n % 2) := wb_mask (k := 1) hn (by decide)
theorem u_tn {n : Nat} (h : n < 2 ^ 64) : (UInt64.ofNat n).toNat = n := Nat.mod_eq_of_lt h
theorem g_and {a b c : Nat} (ha : a < 2 ^ 64) (hb : b < 2 ^ 64) (hc : a &&& b = c) : lN a &&& lN b = lN c := by
  subst hc
  have h : UInt64.ofNat a &&& UInt64.ofNat b = UInt64.ofNat (a &&& b) := UInt64.toNat_inj.mp (by rw [UInt64.toNat_and, u_tn ha, u_tn hb, u_tn (Nat.and_lt_two_pow a hb)])
  have h2 := congrArg UInt64.toInt64 h
  exact h2
theorem g_or {k p a b : Nat} (hp : 2 ^ k = p) (ha : a < p) (h : b * p + a < 2 ^ 64) : lN (b * p) ||| lN a = lN (b * p + a) := by
  subst hp
  have h1 : b * 2 ^ k ||| a = b * 2 ^ k + a := by rw [← Nat.shiftLeft_eq, Nat.shiftLeft_add_eq_or_of_lt ha]
  have h3 : UInt64.ofNat (b * 2 ^ k) ||| UInt64.ofNat a = UInt64.ofNat (b * 2 ^ k + a) := UInt64.toNat_inj.mp (by rw [UInt64.toNat_or, u_tn (by omega), u_tn (by omega), u_tn h, h1])
  have h2 := congrArg UInt64.toInt64 h3
  exact h2
end
section
def sN (r : Nat) : UInt64 := if 1 < r / 250000 then FP.dsub FP.dconst0 (sP (nI (if r / 250000 % 2 = 1 then 250000 - r % 250000 else r % 250000))) else sP (nI (if r / 250000 % 2 = 1 then 250000 - r % 250000 else r % 250000))
/-- the document's SINE of u -/
def sV (u : Int) : UInt64 := sN (u % 1000000).toNat
theorem fg_sP {p : Nat} (h : p ≤ 250000) : FG 153 1075 (sP (nI p)) ∧ NZ (sP (nI p)) := by
  have hp : (nI p).toInt = (p : Int) := nIT (by omega)
  unfold sP
  by_cases hc : 125000 < nI p
  · rw [if_pos hc]
    rw [i32lt, hp] at hc
    have e : (250000 - nI p).toInt = 250000 - (p : Int) := by rw [i_sub (by rw [hp, show (250000 : Int32).toInt = 250000 by decide]; omega) (by rw [hp, show (250000 : Int32).toInt = 250000 by decide]; omega), hp]; rfl
    have hc2 : (125000 : Int) < p := by rw [show (125000 : Int32).toInt = 125000 by decide] at hc; exact hc
    have f := fg_pC (fg_sB (p := 250000 - nI p) (by rw [e]; omega) (by rw [e]; omega))
    exact f.2
  · rw [if_neg hc]
    rw [i32lt, hp] at hc
    have hc2 : (p : Int) ≤ 125000 := by rw [show (125000 : Int32).toInt = 125000 by decide] at hc; omega
    have a := fg_sA (p := nI p) (by rw [hp]; omega) (by rw [hp]; omega)
    have f := fg_pS a.1 a.2 (fg_sB (p := nI p) (by rw [hp]; omega) (by rw [hp]; omega))
    exact ⟨f.2.1.mono (by omega) (by omega), f.2.2.nz⟩
theorem arm1 {p : Nat} (h : p ≤ 250000) (c : ¬ 125000 < nI p) : vf_n64 (FP.dmul (FP.i2d (nI p)) 4529031901805048957) ∧ (FG 1004 1074 (sA (nI p)) ∧ SP (sA (nI p))) ∧ FG 934 1074 (FP.dmul (sA (nI p)) (sA (nI p))) := by
  have hp : (nI p).toInt = (p : Int) := nIT (by omega)
  rw [i32lt, hp, show (125000 : Int32).toInt = 125000 by decide] at c
  have h0 : 0 ≤ (nI p).toInt := by omega
  have h1 : (nI p).toInt ≤ 125000 := by omega
  exact ⟨(fg_mul (fg_i2d (x := nI p) (k := 17) (by omega) (by omega)).1 kg_C (by omega) (by omega) (by omega)).n64, fg_sA h0 h1, fg_sB h0 h1⟩
theorem arm2 {p : Nat} (h : p ≤ 250000) (c : 125000 < nI p) : vf_n64 (FP.dmul (FP.i2d (250000 - nI p)) 4529031901805048957) ∧ (FG 1004 1074 (sA (250000 - nI p)) ∧ SP (sA (250000 - nI p))) ∧ FG 934 1074 (FP.dmul (sA (250000 - nI p)) (sA (250000 - nI p))) := by
  have hp : (nI p).toInt = (p : Int) := nIT (by omega)
  rw [i32lt, hp, show (125000 : Int32).toInt = 125000 by decide] at c
  have e : (250000 - nI p).toInt = 250000 - (p : Int) := by rw [i_sub (by rw [hp, show (250000 : Int32).toInt = 250000 by decide]; omega) (by rw [hp, show (250000 : Int32).toInt = 250000 by decide]; omega), hp]; rfl
  have h0 : 0 ≤ (250000 - nI p).toInt := by omega
  have h1 : (250000 - nI p).toInt ≤ 125000 := by omega
  exact ⟨(fg_mul (fg_i2d (x := 250000 - nI p) (k := 17) (by omega) (by omega)).1 kg_C (by omega) (by omega) (by omega)).n64, fg_sA h0 h1, fg_sB h0 h1⟩
theorem sPlim (r : Nat) : (if r / 250000 % 2 = 1 then 250000 - r % 250000 else r % 250000) ≤ 250000 := by split <;> omega
theorem fg_sN (r : Nat) : FG 153 1076 (sN r) ∧ NZ (sN r) := by
  have f := fg_sP (sPlim r)
  unfold sN
  split
  · have g := fg_sub (kg_0 153 1075) f.1 (by omega)
    exact ⟨g.1, g.2 kn_0⟩
  · exact ⟨f.1.mono (by omega) (by omega), f.2⟩
theorem fg_sV (u : Int) : FG 153 1076 (sV u) ∧ NZ (sV u) := fg_sN _
theorem rrF {rr : Nat} (h : rr < 1000000) : nI rr / 250000 = nI (rr / 250000) ∧ nI rr - nI rr / 250000 * 250000 = nI (rr % 250000) ∧ nI (rr / 250000) - nI (rr / 250000) / 2 * 2 = nI (rr / 250000 % 2) ∧ lN rr / 250000 = lN (rr / 250000) ∧ lN rr - lN rr / 250000 * 250000 = lN (rr % 250000) ∧ (nI (rr / 250000 % 2) = 1 ↔ rr / 250000 % 2 = 1) ∧ 250000 - nI (rr % 250000) = nI (250000 - rr % 250000) :=
  ⟨pk_div (d := 250000) (by omega) (by omega) (by omega), pk_rem (d := 250000) (by omega) (by omega) (by omega), pk_rem (d := 2) (by omega) (by omega) (by omega), pk_lDiv (b := 250000) (by omega) (by omega) (by omega), pk_lRem (b := 250000) (by omega) (by omega) (by omega), nI_eq (b := 1) (by omega) (by omega), pk_sub (a := 250000) (by omega)⟩
theorem tm_mod (a : Int) : (a.tmod 1000000 < 0 → a.tmod 1000000 + 1000000 = a % 1000000) ∧ (0 ≤ a.tmod 1000000 → a.tmod 1000000 = a % 1000000) := by
  have h := Int.tmod_eq_emod (a := a) (b := 1000000)
  have h1 := Int.emod_nonneg a (b := 1000000) (by decide)
  have h2 := Int.emod_lt_of_pos a (b := 1000000) (by decide)
  rw [h]
  split <;> simp <;> omega
-- SINE(u)
set_option maxRecDepth 100000 in
set_option maxHeartbeats 4000000 in
theorem ct_X8_sineOf (l : Launch) (E : EE) (w : Wd) (u : Int32) (hlo : E.2.2 ≤ wN w) : Ct l E yX8_sineOf cX8_sineOf 10 (some .double) ({ frames := 0, cells := 0, slots := 0, locals := 0 } : Room) [.int u] w 0 0 (Px (some (.double (sV u.toInt))) w) := by
  refine ct_in (il := il_X8_sineOf) (by decide) dk_X8_sineOf (Nat.le_of_ble_eq_true rfl) hlo ?_
  intro X h hq

  obtain ⟨rr, hrr⟩ : ∃ rr : Nat, rr = (u.toInt % 1000000).toNat := ⟨_, rfl⟩
  have hr6 : rr < 1000000 := by omega
  obtain ⟨r1, r2, r3, r4, r5, r6, r7⟩ := rrF hr6
  obtain ⟨p2, hp2⟩ : ∃ p2 : Nat, p2 = (if rr / 250000 % 2 = 1 then 250000 - rr % 250000 else rr % 250000) := ⟨_, rfl⟩
  have hp2l : p2 ≤ 250000 := by rw [hp2]; exact sPlim rr
  have hpi : (nI p2).toInt = (p2 : Int) := nIT (by omega)
  have f := fg_sP hp2l
  have hsv : sV u.toInt = if 1 < rr / 250000 then FP.dsub FP.dconst0 (sP (nI p2)) else sP (nI p2) := by unfold sV sN; rw [← hrr, ← hp2]
  have hq1 : (nI (rr / 250000)).toInt = ((rr / 250000 : Nat) : Int) := nIT (by omega)
  have h11 : (1 : Int32).toInt = 1 := by decide
  have hs1 : nI (rr / 250000) ≤ 1 → sV u.toInt = sP (nI p2) := fun g => by rw [hsv, if_neg]; rw [i32le, hq1, h11] at g; omega
  have hs2 : ¬ nI (rr / 250000) ≤ 1 → sV u.toInt = FP.dsub FP.dconst0 (sP (nI p2)) := fun g => by rw [hsv, if_pos]; rw [i32le, hq1, h11] at g; omega
  have k3 : ∀ s : UInt64, s = sP (nI p2) → G X 0 0 164 (lf [(2, .int (nI (rr / 250000))), (4, .double s)]) [] w := by
    intro s hs
    subst hs
    refine g_iload_n h (i := 101) rfl rfl ?_
    refine g_iconst h (i := 102) rfl (v := 1) (by rfl) ?_
    refine g_icmp_le h (i := 103) 176 rfl rfl (fun c_166 => ?_) (fun c_166 => ?_)
    · skip
      refine g_dload h (i := 108) rfl rfl ?_
      exact g_dret hq h (i := 109) rfl (⟨congrArg (fun z => some (Value.double z)) (hs1 c_166).symm, rfl⟩)
    · skip
      refine g_dconst0 h (i := 104) rfl ?_
      refine g_dload h (i := 105) rfl rfl ?_
      refine g_dsub h (i := 106) rfl ((fg_sub (kg_0 153 1075) f.1 (by omega)).1.n64) ?_
      refine g_goto h (i := 107) 178 rfl rfl ?_
      exact g_dret hq h (i := 109) rfl (⟨congrArg (fun z => some (Value.double z)) (hs2 c_166).symm, rfl⟩)
  have k2 : G X 0 0 36 (lf [(2, .int (nI (rr / 250000))), (3, .int (nI p2))]) [] w := by
    refine g_iload_n h (i := 27) rfl rfl ?_
    refine g_ldc h (i := 28) rfl k_X8_35 ?_
    refine g_icmp_gt h (i := 29) 101 rfl rfl (fun c_39 => ?_) (fun c_39 => ?_)
    · skip
      obtain ⟨na2, fa2, fb2⟩ := arm2 hp2l c_39
      obtain ⟨a2, ha2⟩ : ∃ z, z = sA (250000 - nI p2) := ⟨_, rfl⟩
      obtain ⟨b2, hb2⟩ : ∃ z, z = FP.dmul a2 a2 := ⟨_, rfl⟩
      rw [← ha2] at fa2 fb2
      rw [← hb2] at fb2
      have C := fg_pC fb2
      refine g_ldc h (i := 64) rfl k_X8_29 ?_
      refine g_iload_n h (i := 65) rfl rfl ?_
      refine g_isub h (i := 66) rfl ?_
      refine g_i2d h (i := 67) rfl ?_
      refine g_ldc2d h (i := 68) rfl k_X8_36 ?_
      refine g_dmul h (i := 69) rfl (na2) ?_
      refine g_eqd a2 ha2.symm ?_
      refine g_dstore h (i := 70) rfl hq rfl ?_
      refine g_dload h (i := 71) rfl rfl ?_
      refine g_dload h (i := 72) rfl rfl ?_
      refine g_dmul h (i := 73) rfl (by rw [← hb2]; exact fb2.n64) ?_
      refine g_eqd b2 hb2.symm ?_
      refine g_dstore h (i := 74) rfl hq rfl ?_
      refine g_dconst1 h (i := 75) rfl ?_
      refine g_dload h (i := 76) rfl rfl ?_
      refine g_ldc2d h (i := 77) rfl k_X8_48 ?_
      refine g_dload h (i := 78) rfl rfl ?_
      refine g_ldc2d h (i := 79) rfl k_X8_50 ?_
      refine g_dload h (i := 80) rfl rfl ?_
      refine g_ldc2d h (i := 81) rfl k_X8_52 ?_
      refine g_dload h (i := 82) rfl rfl ?_
      refine g_ldc2d h (i := 83) rfl k_X8_54 ?_
      refine g_dload h (i := 84) rfl rfl ?_
      refine g_ldc2d h (i := 85) rfl k_X8_56 ?_
      refine g_dload h (i := 86) rfl rfl ?_
      refine g_ldc2d h (i := 87) rfl k_X8_58 ?_
      refine g_dmul h (i := 88) rfl (C.1.1) ?_
      refine g_dadd h (i := 89) rfl (C.1.2.1) ?_
      refine g_dmul h (i := 90) rfl (C.1.2.2.1) ?_
      refine g_dadd h (i := 91) rfl (C.1.2.2.2.1) ?_
      refine g_dmul h (i := 92) rfl (C.1.2.2.2.2.1) ?_
      refine g_dadd h (i := 93) rfl (C.1.2.2.2.2.2.1) ?_
      refine g_dmul h (i := 94) rfl (C.1.2.2.2.2.2.2.1) ?_
      refine g_dadd h (i := 95) rfl (C.1.2.2.2.2.2.2.2.1) ?_
      refine g_dmul h (i := 96) rfl (C.1.2.2.2.2.2.2.2.2.1) ?_
      refine g_dadd h (i := 97) rfl (C.1.2.2.2.2.2.2.2.2.2.1) ?_
      refine g_dmul h (i := 98) rfl (C.1.2.2.2.2.2.2.2.2.2.2.1) ?_
      refine g_dadd h (i := 99) rfl (C.1.2.2.2.2.2.2.2.2.2.2.2) ?_
      refine g_dstore h (i := 100) rfl hq rfl ?_
      refine g_lv [(2, .int (nI (rr / 250000))), (4, .double _)] ⟨rfl, rfl, trivial⟩ (k3 _ ?_)
      unfold sP
      rw [if_pos c_39, ← ha2, ← hb2]
      unfold pC
      exact Eq.refl _
    · skip
      obtain ⟨na1, fa1, fb1⟩ := arm1 hp2l c_39
      obtain ⟨a1, ha1⟩ : ∃ z, z = sA (nI p2) := ⟨_, rfl⟩
      obtain ⟨b1, hb1⟩ : ∃ z, z = FP.dmul a1 a1 := ⟨_, rfl⟩
      rw [← ha1] at fa1 fb1
      rw [← hb1] at fb1
      have F := fg_pS fa1.1 fa1.2 fb1
      refine g_iload_n h (i := 30) rfl rfl ?_
      refine g_i2d h (i := 31) rfl ?_
      refine g_ldc2d h (i := 32) rfl k_X8_36 ?_
      refine g_dmul h (i := 33) rfl (na1) ?_
      refine g_eqd a1 ha1.symm ?_
      refine g_dstore h (i := 34) rfl hq rfl ?_
      refine g_dload h (i := 35) rfl rfl ?_
      refine g_dload h (i := 36) rfl rfl ?_
      refine g_dmul h (i := 37) rfl (by rw [← hb1]; exact fb1.n64) ?_
      refine g_eqd b1 hb1.symm ?_
      refine g_dstore h (i := 38) rfl hq rfl ?_
      refine g_dload h (i := 39) rfl rfl ?_
      refine g_dconst1 h (i := 40) rfl ?_
      refine g_dload h (i := 41) rfl rfl ?_
      refine g_ldc2d h (i := 42) rfl k_X8_38 ?_
      refine g_dload h (i := 43) rfl rfl ?_
      refine g_ldc2d h (i := 44) rfl k_X8_40 ?_
      refine g_dload h (i := 45) rfl rfl ?_
      refine g_ldc2d h (i := 46) rfl k_X8_42 ?_
      refine g_dload h (i := 47) rfl rfl ?_
      refine g_ldc2d h (i := 48) rfl k_X8_44 ?_
      refine g_dload h (i := 49) rfl rfl ?_
      refine g_ldc2d h (i := 50) rfl k_X8_46 ?_
      refine g_dmul h (i := 51) rfl (F.1.1) ?_
      refine g_dadd h (i := 52) rfl (F.1.2.1) ?_
      refine g_dmul h (i := 53) rfl (F.1.2.2.1) ?_
      refine g_dadd h (i := 54) rfl (F.1.2.2.2.1) ?_
      refine g_dmul h (i := 55) rfl (F.1.2.2.2.2.1) ?_
      refine g_dadd h (i := 56) rfl (F.1.2.2.2.2.2.1) ?_
      refine g_dmul h (i := 57) rfl (F.1.2.2.2.2.2.2.1) ?_
      refine g_dadd h (i := 58) rfl (F.1.2.2.2.2.2.2.2.1) ?_
      refine g_dmul h (i := 59) rfl (F.1.2.2.2.2.2.2.2.2.1) ?_
      refine g_dadd h (i := 60) rfl (F.1.2.2.2.2.2.2.2.2.2.1) ?_
      refine g_dmul h (i := 61) rfl (F.1.2.2.2.2.2.2.2.2.2.2) ?_
      refine g_dstore h (i := 62) rfl hq rfl ?_
      refine g_goto h (i := 63) 164 rfl rfl ?_
      refine g_lv [(2, .int (nI (rr / 250000))), (4, .double _)] ⟨rfl, rfl, trivial⟩ (k3 _ ?_)
      unfold sP
      rw [if_neg c_39, ← ha1, ← hb1]
      unfold pS
      exact Eq.refl _
  have k1 : G X 0 0 14 (lf [(1, .int (nI rr))]) [] w := by
    refine g_iload_n h (i := 10) rfl rfl ?_
    refine g_ldc h (i := 11) rfl k_X8_29 ?_
    refine g_idiv h (i := 12) rfl (by decide) ?_
    refine g_eqi (nI (rr / 250000)) r1 ?_
    refine g_istore_n h (i := 13) rfl hq rfl ?_
    refine g_iload_n h (i := 14) rfl rfl ?_
    refine g_ldc h (i := 15) rfl k_X8_29 ?_
    refine g_irem h (i := 16) rfl (by decide) ?_
    refine g_eqi (nI (rr % 250000)) r2 ?_
    refine g_istore_n h (i := 17) rfl hq rfl ?_
    refine g_iload_n h (i := 18) rfl rfl ?_
    refine g_iconst h (i := 19) rfl (v := 2) (by rfl) ?_
    refine g_irem h (i := 20) rfl (by decide) ?_
    refine g_eqi (nI (rr / 250000 % 2)) r3 ?_
    refine g_iconst h (i := 21) rfl (v := 1) (by rfl) ?_
    refine g_icmp_ne h (i := 22) 36 rfl rfl (fun c_28 => ?_) (fun c_28 => ?_)
    · skip
      refine g_lv [(2, .int (nI (rr / 250000))), (3, .int (nI p2))] ⟨rfl, ?_, trivial⟩ k2
      refine congrArg (fun z => some (Value.int z)) ?_
      rw [hp2]
      rw [if_neg (fun h9 => c_28 (r6.mpr h9))]
    · skip
      refine g_ldc h (i := 23) rfl k_X8_29 ?_
      refine g_iload_n h (i := 24) rfl rfl ?_
      refine g_isub h (i := 25) rfl ?_
      refine g_istore_n h (i := 26) rfl hq rfl ?_
      refine g_lv [(2, .int (nI (rr / 250000))), (3, .int (nI p2))] ⟨rfl, ?_, trivial⟩ k2
      refine congrArg (fun z => some (Value.int z)) ?_
      rw [hp2]
      rw [if_pos (r6.mp c_28)]
      exact r7
  have hu : (u - u / 1000000 * 1000000).toInt = u.toInt.tmod 1000000 := rem_toInt u 1000000
  have tm := tm_mod u.toInt
  have hrn : (nI rr).toInt = (rr : Int) := nIT (by omega)
  refine g_iload_n h (i := 0) rfl rfl ?_
  refine g_ldc h (i := 1) rfl k_X8_34 ?_
  refine g_irem h (i := 2) rfl (by decide) ?_
  refine g_istore_n h (i := 3) rfl hq rfl ?_
  refine g_iload_n h (i := 4) rfl rfl ?_
  refine g_if_ge h (i := 5) 14 rfl rfl (fun c_6 => ?_) (fun c_6 => ?_)
  · skip
    refine g_lv [(1, .int (nI rr))] ⟨?_, trivial⟩ k1
    refine congrArg (fun z => some (Value.int z)) (i32x ?_)
    rw [hrn]
    first
      | (have h9 := c_6; rw [i32le, hu, show (0 : Int32).toInt = 0 by decide] at h9; rw [hu, tm.2 h9, hrr]; omega)
      | (have h9 := c_6; rw [i32le, hu, show (0 : Int32).toInt = 0 by decide] at h9; have h8 := tm.1 (by omega); rw [i_add (by rw [hu, show (1000000 : Int32).toInt = 1000000 by decide]; omega) (by rw [hu, show (1000000 : Int32).toInt = 1000000 by decide]; omega), hu, show (1000000 : Int32).toInt = 1000000 by decide, h8, hrr]; omega)
  · skip
    refine g_iload_n h (i := 6) rfl rfl ?_
    refine g_ldc h (i := 7) rfl k_X8_34 ?_
    refine g_iadd h (i := 8) rfl ?_
    refine g_istore_n h (i := 9) rfl hq rfl ?_
    refine g_lv [(1, .int (nI rr))] ⟨?_, trivial⟩ k1
    refine congrArg (fun z => some (Value.int z)) (i32x ?_)
    rw [hrn]
    first
      | (have h9 := c_6; rw [i32le, hu, show (0 : Int32).toInt = 0 by decide] at h9; rw [hu, tm.2 h9, hrr]; omega)
      | (have h9 := c_6; rw [i32le, hu, show (0 : Int32).toInt = 0 by decide] at h9; have h8 := tm.1 (by omega); rw [i_add (by rw [hu, show (1000000 : Int32).toInt = 1000000 by decide]; omega) (by rw [hu, show (1000000 : Int32).toInt = 1000000 by decide]; omega), hu, show (1000000 : Int32).toInt = 1000000 by decide, h8, hrr]; omega)
-- SINE(u)
set_option maxRecDepth 100000 in
set_option maxHeartbeats 4000000 in
theorem ct_X10_sineOf (l : Launch) (E : EE) (w : Wd) (u : Int64) (hlo : E.2.2 ≤ wN w) : Ct l E yX10_sineOf cX10_sineOf 12 (some .double) ({ frames := 0, cells := 0, slots := 0, locals := 0 } : Room) [.long u] w 0 0 (Px (some (.double (sV u.toInt))) w) := by
  refine ct_in (il := il_X10_sineOf) (by decide) dk_X10_sineOf (Nat.le_of_ble_eq_true rfl) hlo ?_
  intro X h hq

  obtain ⟨rr, hrr⟩ : ∃ rr : Nat, rr = (u.toInt % 1000000).toNat := ⟨_, rfl⟩
  have hr6 : rr < 1000000 := by omega
  obtain ⟨r1, r2, r3, r4, r5, r6, r7⟩ := rrF hr6
  obtain ⟨p2, hp2⟩ : ∃ p2 : Nat, p2 = (if rr / 250000 % 2 = 1 then 250000 - rr % 250000 else rr % 250000) := ⟨_, rfl⟩
  have hp2l : p2 ≤ 250000 := by rw [hp2]; exact sPlim rr
  have hpi : (nI p2).toInt = (p2 : Int) := nIT (by omega)
  have f := fg_sP hp2l
  have hsv : sV u.toInt = if 1 < rr / 250000 then FP.dsub FP.dconst0 (sP (nI p2)) else sP (nI p2) := by unfold sV sN; rw [← hrr, ← hp2]
  have hq1 : (nI (rr / 250000)).toInt = ((rr / 250000 : Nat) : Int) := nIT (by omega)
  have h11 : (1 : Int32).toInt = 1 := by decide
  have hs1 : nI (rr / 250000) ≤ 1 → sV u.toInt = sP (nI p2) := fun g => by rw [hsv, if_neg]; rw [i32le, hq1, h11] at g; omega
  have hs2 : ¬ nI (rr / 250000) ≤ 1 → sV u.toInt = FP.dsub FP.dconst0 (sP (nI p2)) := fun g => by rw [hsv, if_pos]; rw [i32le, hq1, h11] at g; omega
  have k3 : ∀ s : UInt64, s = sP (nI p2) → G X 0 0 189 (lf [(4, .int (nI (rr / 250000))), (6, .double s)]) [] w := by
    intro s hs
    subst hs
    refine g_iload h (i := 109) rfl rfl ?_
    refine g_iconst h (i := 110) rfl (v := 1) (by rfl) ?_
    refine g_icmp_le h (i := 111) 202 rfl rfl (fun c_192 => ?_) (fun c_192 => ?_)
    · skip
      refine g_dload h (i := 116) rfl rfl ?_
      exact g_dret hq h (i := 117) rfl (⟨congrArg (fun z => some (Value.double z)) (hs1 c_192).symm, rfl⟩)
    · skip
      refine g_dconst0 h (i := 112) rfl ?_
      refine g_dload h (i := 113) rfl rfl ?_
      refine g_dsub h (i := 114) rfl ((fg_sub (kg_0 153 1075) f.1 (by omega)).1.n64) ?_
      refine g_goto h (i := 115) 204 rfl rfl ?_
      exact g_dret hq h (i := 117) rfl (⟨congrArg (fun z => some (Value.double z)) (hs2 c_192).symm, rfl⟩)
  have k2 : G X 0 0 58 (lf [(4, .int (nI (rr / 250000))), (5, .int (nI p2))]) [] w := by
    refine g_iload h (i := 35) rfl rfl ?_
    refine g_ldc h (i := 36) rfl k_X10_107 ?_
    refine g_icmp_gt h (i := 37) 125 rfl rfl (fun c_62 => ?_) (fun c_62 => ?_)
    · skip
      obtain ⟨na2, fa2, fb2⟩ := arm2 hp2l c_62
      obtain ⟨a2, ha2⟩ : ∃ z, z = sA (250000 - nI p2) := ⟨_, rfl⟩
      obtain ⟨b2, hb2⟩ : ∃ z, z = FP.dmul a2 a2 := ⟨_, rfl⟩
      rw [← ha2] at fa2 fb2
      rw [← hb2] at fb2
      have C := fg_pC fb2
      refine g_ldc h (i := 72) rfl k_X10_106 ?_
      refine g_iload h (i := 73) rfl rfl ?_
      refine g_isub h (i := 74) rfl ?_
      refine g_i2d h (i := 75) rfl ?_
      refine g_ldc2d h (i := 76) rfl k_X10_108 ?_
      refine g_dmul h (i := 77) rfl (na2) ?_
      refine g_eqd a2 ha2.symm ?_
      refine g_dstore h (i := 78) rfl hq rfl ?_
      refine g_dload h (i := 79) rfl rfl ?_
      refine g_dload h (i := 80) rfl rfl ?_
      refine g_dmul h (i := 81) rfl (by rw [← hb2]; exact fb2.n64) ?_
      refine g_eqd b2 hb2.symm ?_
      refine g_dstore h (i := 82) rfl hq rfl ?_
      refine g_dconst1 h (i := 83) rfl ?_
      refine g_dload h (i := 84) rfl rfl ?_
      refine g_ldc2d h (i := 85) rfl k_X10_120 ?_
      refine g_dload h (i := 86) rfl rfl ?_
      refine g_ldc2d h (i := 87) rfl k_X10_122 ?_
      refine g_dload h (i := 88) rfl rfl ?_
      refine g_ldc2d h (i := 89) rfl k_X10_124 ?_
      refine g_dload h (i := 90) rfl rfl ?_
      refine g_ldc2d h (i := 91) rfl k_X10_126 ?_
      refine g_dload h (i := 92) rfl rfl ?_
      refine g_ldc2d h (i := 93) rfl k_X10_128 ?_
      refine g_dload h (i := 94) rfl rfl ?_
      refine g_ldc2d h (i := 95) rfl k_X10_130 ?_
      refine g_dmul h (i := 96) rfl (C.1.1) ?_
      refine g_dadd h (i := 97) rfl (C.1.2.1) ?_
      refine g_dmul h (i := 98) rfl (C.1.2.2.1) ?_
      refine g_dadd h (i := 99) rfl (C.1.2.2.2.1) ?_
      refine g_dmul h (i := 100) rfl (C.1.2.2.2.2.1) ?_
      refine g_dadd h (i := 101) rfl (C.1.2.2.2.2.2.1) ?_
      refine g_dmul h (i := 102) rfl (C.1.2.2.2.2.2.2.1) ?_
      refine g_dadd h (i := 103) rfl (C.1.2.2.2.2.2.2.2.1) ?_
      refine g_dmul h (i := 104) rfl (C.1.2.2.2.2.2.2.2.2.1) ?_
      refine g_dadd h (i := 105) rfl (C.1.2.2.2.2.2.2.2.2.2.1) ?_
      refine g_dmul h (i := 106) rfl (C.1.2.2.2.2.2.2.2.2.2.2.1) ?_
      refine g_dadd h (i := 107) rfl (C.1.2.2.2.2.2.2.2.2.2.2.2) ?_
      refine g_dstore h (i := 108) rfl hq rfl ?_
      refine g_lv [(4, .int (nI (rr / 250000))), (6, .double _)] ⟨rfl, rfl, trivial⟩ (k3 _ ?_)
      unfold sP
      rw [if_pos c_62, ← ha2, ← hb2]
      unfold pC
      exact Eq.refl _
    · skip
      obtain ⟨na1, fa1, fb1⟩ := arm1 hp2l c_62
      obtain ⟨a1, ha1⟩ : ∃ z, z = sA (nI p2) := ⟨_, rfl⟩
      obtain ⟨b1, hb1⟩ : ∃ z, z = FP.dmul a1 a1 := ⟨_, rfl⟩
      rw [← ha1] at fa1 fb1
      rw [← hb1] at fb1
      have F := fg_pS fa1.1 fa1.2 fb1
      refine g_iload h (i := 38) rfl rfl ?_
      refine g_i2d h (i := 39) rfl ?_
      refine g_ldc2d h (i := 40) rfl k_X10_108 ?_
      refine g_dmul h (i := 41) rfl (na1) ?_
      refine g_eqd a1 ha1.symm ?_
      refine g_dstore h (i := 42) rfl hq rfl ?_
      refine g_dload h (i := 43) rfl rfl ?_
      refine g_dload h (i := 44) rfl rfl ?_
      refine g_dmul h (i := 45) rfl (by rw [← hb1]; exact fb1.n64) ?_
      refine g_eqd b1 hb1.symm ?_
      refine g_dstore h (i := 46) rfl hq rfl ?_
      refine g_dload h (i := 47) rfl rfl ?_
      refine g_dconst1 h (i := 48) rfl ?_
      refine g_dload h (i := 49) rfl rfl ?_
      refine g_ldc2d h (i := 50) rfl k_X10_110 ?_
      refine g_dload h (i := 51) rfl rfl ?_
      refine g_ldc2d h (i := 52) rfl k_X10_112 ?_
      refine g_dload h (i := 53) rfl rfl ?_
      refine g_ldc2d h (i := 54) rfl k_X10_114 ?_
      refine g_dload h (i := 55) rfl rfl ?_
      refine g_ldc2d h (i := 56) rfl k_X10_116 ?_
      refine g_dload h (i := 57) rfl rfl ?_
      refine g_ldc2d h (i := 58) rfl k_X10_118 ?_
      refine g_dmul h (i := 59) rfl (F.1.1) ?_
      refine g_dadd h (i := 60) rfl (F.1.2.1) ?_
      refine g_dmul h (i := 61) rfl (F.1.2.2.1) ?_
      refine g_dadd h (i := 62) rfl (F.1.2.2.2.1) ?_
      refine g_dmul h (i := 63) rfl (F.1.2.2.2.2.1) ?_
      refine g_dadd h (i := 64) rfl (F.1.2.2.2.2.2.1) ?_
      refine g_dmul h (i := 65) rfl (F.1.2.2.2.2.2.2.1) ?_
      refine g_dadd h (i := 66) rfl (F.1.2.2.2.2.2.2.2.1) ?_
      refine g_dmul h (i := 67) rfl (F.1.2.2.2.2.2.2.2.2.1) ?_
      refine g_dadd h (i := 68) rfl (F.1.2.2.2.2.2.2.2.2.2.1) ?_
      refine g_dmul h (i := 69) rfl (F.1.2.2.2.2.2.2.2.2.2.2) ?_
      refine g_dstore h (i := 70) rfl hq rfl ?_
      refine g_goto h (i := 71) 189 rfl rfl ?_
      refine g_lv [(4, .int (nI (rr / 250000))), (6, .double _)] ⟨rfl, rfl, trivial⟩ (k3 _ ?_)
      unfold sP
      rw [if_neg c_62, ← ha1, ← hb1]
      unfold pS
      exact Eq.refl _
  have k1 : G X 0 0 22 (lf [(2, .long (lN rr))]) [] w := by
    refine g_lload_n h (i := 14) rfl rfl ?_
    refine g_ldc2 h (i := 15) rfl k_X10_104 ?_
    refine g_ldiv h (i := 16) rfl (by decide) ?_
    refine g_eql (lN (rr / 250000)) r4 ?_
    refine g_l2i h (i := 17) rfl ?_
    refine g_eqi (nI (rr / 250000)) (lN_i _) ?_
    refine g_istore h (i := 18) rfl hq rfl ?_
    refine g_lload_n h (i := 19) rfl rfl ?_
    refine g_ldc2 h (i := 20) rfl k_X10_104 ?_
    refine g_lrem h (i := 21) rfl (by decide) ?_
    refine g_eql (lN (rr % 250000)) r5 ?_
    refine g_l2i h (i := 22) rfl ?_
    refine g_eqi (nI (rr % 250000)) (lN_i _) ?_
    refine g_istore h (i := 23) rfl hq rfl ?_
    refine g_iload h (i := 24) rfl rfl ?_
    refine g_iconst h (i := 25) rfl (v := 2) (by rfl) ?_
    refine g_irem h (i := 26) rfl (by decide) ?_
    refine g_eqi (nI (rr / 250000 % 2)) r3 ?_
    refine g_iconst h (i := 27) rfl (v := 1) (by rfl) ?_
    refine g_icmp_ne h (i := 28) 54 rfl rfl (fun c_43 => ?_) (fun c_43 => ?_)
    · skip
      refine g_iload h (i := 33) rfl rfl ?_
      refine g_istore h (i := 34) rfl hq rfl ?_
      refine g_lv [(4, .int (nI (rr / 250000))), (5, .int (nI p2))] ⟨rfl, ?_, trivial⟩ k2
      refine congrArg (fun z => some (Value.int z)) ?_
      rw [hp2]
      rw [if_neg (fun h9 => c_43 (r6.mpr h9))]
    · skip
      refine g_ldc h (i := 29) rfl k_X10_106 ?_
      refine g_iload h (i := 30) rfl rfl ?_
      refine g_isub h (i := 31) rfl ?_
      refine g_goto h (i := 32) 56 rfl rfl ?_
      refine g_istore h (i := 34) rfl hq rfl ?_
      refine g_lv [(4, .int (nI (rr / 250000))), (5, .int (nI p2))] ⟨rfl, ?_, trivial⟩ k2
      refine congrArg (fun z => some (Value.int z)) ?_
      rw [hp2]
      rw [if_pos (r6.mp c_43)]
      exact r7
  have hu : (u - u / 1000000 * 1000000).toInt = u.toInt.tmod 1000000 := l_rem u 1000000
  have tm := tm_mod u.toInt
  have hrn : (lN rr).toInt = (rr : Int) := lNT (by omega)
  refine g_lload_n h (i := 0) rfl rfl ?_
  refine g_ldc2 h (i := 1) rfl k_X10_102 ?_
  refine g_lrem h (i := 2) rfl (by decide) ?_
  refine g_lstore_n h (i := 3) rfl hq rfl ?_
  refine g_lload_n h (i := 4) rfl rfl ?_
  refine g_lconst h (i := 5) rfl (v := 0) (by rfl) ?_
  refine g_lcmp h (i := 6) rfl ?_
  refine g_if_ge h (i := 7) 20 rfl rfl (fun c_9 => ?_) (fun c_9 => ?_)
  · skip
    refine g_lload_n h (i := 12) rfl rfl ?_
    refine g_lstore_n h (i := 13) rfl hq rfl ?_
    refine g_lv [(2, .long (lN rr))] ⟨?_, trivial⟩ k1
    refine congrArg (fun z => some (Value.long z)) (i64x ?_)
    rw [hrn]
    first
      | (have h9 := (lg_cmp_ge _ _).mp c_9; rw [i64le, hu, show (0 : Int64).toInt = 0 by decide] at h9; rw [hu, tm.2 h9, hrr]; omega)
      | (have h9 := mt (lg_cmp_ge _ _).mpr c_9; rw [i64le, hu, show (0 : Int64).toInt = 0 by decide] at h9; have h8 := tm.1 (by omega); rw [l_add (by rw [hu, show (1000000 : Int64).toInt = 1000000 by decide]; omega) (by rw [hu, show (1000000 : Int64).toInt = 1000000 by decide]; omega), hu, show (1000000 : Int64).toInt = 1000000 by decide, h8, hrr]; omega)
  · skip
    refine g_lload_n h (i := 8) rfl rfl ?_
    refine g_ldc2 h (i := 9) rfl k_X10_102 ?_
    refine g_ladd h (i := 10) rfl ?_
    refine g_goto h (i := 11) 21 rfl rfl ?_
    refine g_lstore_n h (i := 13) rfl hq rfl ?_
    refine g_lv [(2, .long (lN rr))] ⟨?_, trivial⟩ k1
    refine congrArg (fun z => some (Value.long z)) (i64x ?_)
    rw [hrn]
    first
      | (have h9 := (lg_cmp_ge _ _).mp c_9; rw [i64le, hu, show (0 : Int64).toInt = 0 by decide] at h9; rw [hu, tm.2 h9, hrr]; omega)
      | (have h9 := mt (lg_cmp_ge _ _).mpr c_9; rw [i64le, hu, show (0 : Int64).toInt = 0 by decide] at h9; have h8 := tm.1 (by omega); rw [l_add (by rw [hu, show (1000000 : Int64).toInt = 1000000 by decide]; omega) (by rw [hu, show (1000000 : Int64).toInt = 1000000 by decide]; omega), hu, show (1000000 : Int64).toInt = 1000000 by decide, h8, hrr]; omega)
end
section
/-- the double c 2^k -/
def fkd (c : Nat) (k : Int) : UInt64 := UInt64.ofNat (FP.Core.encode FP.Core.b64 (.fin false c k))
def fpC (c : Nat) : Prop := 4503599627370496 ≤ c ∧ c < 9007199254740992
theorem fkd_k {c : Nat} {k : Int} (hc : fpC c) (h1 : -1074 ≤ k) (h2 : k ≤ 900) : fk (fkd c k) = .fin false c k := fk_of ⟨hc.2, h1, by omega, Or.inr hc.1⟩
theorem fk_two : fk 4611686018427387904 = .fin false 4503599627370496 (-51) := by decide +kernel
theorem fk_p52 : fk 4841369599423283200 = .fin false 4503599627370496 0 := by decide +kernel
theorem fk_p53 : fk 4845873199050653696 = .fin false 4503599627370496 1 := by decide +kernel
theorem fkd_mul {c : Nat} {k : Int} (hc : fpC c) (h1 : -1074 ≤ k) (h2 : k ≤ 800) : FP.dmul (fkd c k) 4611686018427387904 = fkd c (k + 1) := by
  rw [fk_dmul, fkd_k hc h1 (by omega), fk_two]
  have e : FP.Core.exactProduct (.fin false c k) (.fin false 4503599627370496 (-51)) = .fin false (c * 4503599627370496) (k + -51) := rfl
  rw [e, fp_exact (c0 := c) (q0 := k + 1) (Nat.mul_pos (by have := hc.1; omega) (by omega)) (by have := hc.1; omega) ⟨hc.2, by omega, by omega, Or.inr hc.1⟩]
  · rfl
  · unfold fpN
    rw [show (4503599627370496 : Nat) = 2 ^ 52 by decide, Nat.mul_assoc, Nat.mul_assoc, ← Nat.pow_add, ← Nat.pow_add]
    congr 2
    omega
theorem fk_dcmp (x y : UInt64) : FP.dcmp x y = FP.Core.order (fk x) (fk y) := rfl
theorem fkd_lt {c : Nat} {k : Int} (hc : fpC c) (h1 : -1074 ≤ k) (h2 : k < 0) : FP.dcmp (fkd c k) 4841369599423283200 = some .lt := by
  rw [fk_dcmp, fkd_k hc h1 (by omega), fk_p52]
  show some (compare (FP.Core.signed false (FP.Core.inUnits c k (min k 0))) (FP.Core.signed false (FP.Core.inUnits 4503599627370496 0 (min k 0)))) = _
  rw [show min k 0 = k by omega]
  unfold FP.Core.inUnits FP.Core.signed
  rw [show (k - k).toNat = 0 by omega, Nat.pow_zero, Nat.mul_one]
  refine congrArg some ?_
  refine Int.compare_eq_lt.mpr ?_
  have : 2 ≤ 2 ^ (0 - k).toNat := by
    rw [show (2 : Nat) = 2 ^ 1 by rfl]
    exact Nat.pow_le_pow_right (by omega) (by omega)
  have h3 := Nat.mul_le_mul_left 4503599627370496 this
  have := hc.2
  show (c : Int) < ((4503599627370496 * 2 ^ (0 - k).toNat : Nat) : Int)
  omega
theorem fkd_ge {c : Nat} (hc : fpC c) : FP.dcmp (fkd c 0) 4841369599423283200 = some .gt ∨ FP.dcmp (fkd c 0) 4841369599423283200 = some .eq := by
  rw [fk_dcmp, fkd_k hc (by omega) (by omega), fk_p52]
  show some (compare (FP.Core.signed false (FP.Core.inUnits c 0 (min 0 0))) (FP.Core.signed false (FP.Core.inUnits 4503599627370496 0 (min 0 0)))) = _ ∨ some (compare (FP.Core.signed false (FP.Core.inUnits c 0 (min 0 0))) (FP.Core.signed false (FP.Core.inUnits 4503599627370496 0 (min 0 0)))) = _
  have e : ∀ n : Nat, FP.Core.signed false (FP.Core.inUnits n 0 (min 0 0)) = (n : Int) := fun n => by
    unfold FP.Core.inUnits FP.Core.signed
    simp
  rw [e, e]
  rcases Nat.lt_or_ge 4503599627370496 c with h | h
  · left
    refine congrArg some ?_
    exact Int.compare_eq_gt.mpr (by omega)
  · right
    have := hc.1
    rw [show c = 4503599627370496 by omega]
    decide
theorem fkd_53 {c : Nat} {k : Int} (hc : fpC c) (h1 : -1074 ≤ k) (h2 : k ≤ 0) : FP.dcmp (fkd c k) 4845873199050653696 = some .lt := by
  rw [fk_dcmp, fkd_k hc h1 (by omega), fk_p53]
  show some (compare (FP.Core.signed false (FP.Core.inUnits c k (min k 1))) (FP.Core.signed false (FP.Core.inUnits 4503599627370496 1 (min k 1)))) = _
  rw [show min k 1 = k by omega]
  unfold FP.Core.inUnits FP.Core.signed
  rw [show (k - k).toNat = 0 by omega, Nat.pow_zero, Nat.mul_one]
  refine congrArg some ?_
  refine Int.compare_eq_lt.mpr ?_
  have : 2 ≤ 2 ^ (1 - k).toNat := by
    rw [show (2 : Nat) = 2 ^ 1 by rfl]
    exact Nat.pow_le_pow_right (by omega) (by omega)
  have h3 := Nat.mul_le_mul_left 4503599627370496 this
  have := hc.2
  show (c : Int) < ((4503599627370496 * 2 ^ (1 - k).toNat : Nat) : Int)
  omega
theorem fkd_d2l {c : Nat} (hc : fpC c) : FP.d2l (fkd c 0) = lN c := by
  have e : FP.d2l (fkd c 0) = FP.Core.toL (fk (fkd c 0)) := rfl
  rw [e, fkd_k hc (by omega) (by omega)]
  have h : FP.Core.toInt (-2 ^ 63) (2 ^ 63 - 1) (.fin false c 0) = (c : Int) := by
    show max (-2 ^ 63) (min (2 ^ 63 - 1) (FP.Core.truncate false c 0)) = _
    have : FP.Core.truncate false c 0 = (c : Int) := by
      unfold FP.Core.truncate FP.Core.signed
      simp
    rw [this]
    have := hc.2
    omega
  unfold FP.Core.toL
  rw [h]
  rfl
/-- 0.0 less a number below zero is its size -/
theorem fkd_neg {v : UInt64} {c : Nat} {q : Int} (h : fk v = .fin true c q) (hc : fpC c) : FP.dsub FP.dconst0 v = fkd c q := by
  have f := fp_dec h
  have q1 := f.2.1
  rw [fk_dsub, h, kf_0]
  have e : FP.Core.exactSum (.fin false 0 (-1074)) (FP.Core.negate (.fin true c q)) = .fin false (c * 2 ^ (q + 1074).toNat) (-1074) := by
    show FP.Core.Datum.fin (FP.Core.sumSign false (!true) (FP.Core.sumUnits false 0 (-1074) (!true) c q (min (-1074) q))) (FP.Core.sumUnits false 0 (-1074) (!true) c q (min (-1074) q)).natAbs (min (-1074) q) = _
    rw [show min (-1074) q = -1074 by omega]
    have w : FP.Core.sumUnits false 0 (-1074) (!true) c q (-1074) = ((c * 2 ^ (q + 1074).toNat : Nat) : Int) := by
      unfold FP.Core.sumUnits FP.Core.inUnits FP.Core.signed
      rw [show (q - -1074).toNat = (q + 1074).toNat by omega]
      simp
    rw [w]
    refine fp_eq ?_ (by omega) rfl
    unfold FP.Core.sumSign
    split
    · rfl
    · exact decide_eq_false (by omega)
  rw [e, fp_exact (c0 := c) (q0 := q) (Nat.mul_pos (by have := hc.1; omega) (Nat.two_pow_pos _)) (by have := hc.1; omega) f]
  · rfl
  · unfold fpN
    rw [show (-1074 + 1074 : Int).toNat = 0 by decide, show (-1074 - -1074 : Int).toNat = 0 by decide]
theorem fk_cmp0 {v : UInt64} {s : Bool} {c : Nat} {q : Int} (h : fk v = .fin s c q) : FP.dcmp v FP.dconst0 = some (if c = 0 then .eq else if s then .lt else .gt) := by
  have f := fp_dec h
  have q1 := f.2.1
  rw [fk_dcmp, h, kf_0]
  show some (compare (FP.Core.signed s (FP.Core.inUnits c q (min q (-1074)))) (FP.Core.signed false (FP.Core.inUnits 0 (-1074) (min q (-1074))))) = _
  have e0 : FP.Core.signed false (FP.Core.inUnits 0 (-1074) (min q (-1074))) = 0 := by
    unfold FP.Core.inUnits FP.Core.signed
    simp
  rw [e0]
  obtain ⟨u, hu⟩ : ∃ u, FP.Core.inUnits c q (min q (-1074)) = u := ⟨_, rfl⟩
  rw [hu]
  unfold FP.Core.inUnits at hu
  by_cases hc : c = 0
  · subst hc
    rw [Nat.zero_mul] at hu
    subst hu
    rw [if_pos rfl]
    cases s <;> rfl
  · rw [if_neg hc]
    have hu0 : 0 < u := by rw [← hu]; exact Nat.mul_pos (by omega) (Nat.two_pow_pos _)
    refine congrArg some ?_
    cases s
    · exact Int.compare_eq_gt.mpr (by show 0 < (u : Int); omega)
    · exact Int.compare_eq_lt.mpr (by show -(u : Int) < 0; omega)
/-- what bitsOf is asked of -/
theorem fg_cases {v : UInt64} (h : FG 52 1120 v) (hz : NZ v) : (v = 0) ∨ ∃ s c q, fk v = .fin s c q ∧ fpC c ∧ -1074 ≤ q ∧ q < 0 := by
  obtain ⟨s, c, q, h1, h2, h3⟩ := h
  have f := fp_dec h1
  obtain ⟨f1, f2, f3, f4⟩ := f
  rcases Nat.eq_zero_or_pos c with g | g
  · left
    subst g
    have hs := hz s 0 q h1 rfl
    subst hs
    rw [fp_of h1]
    rw [fp_e1, if_pos (by omega)]
    rfl
  · right
    have hc : 4503599627370496 ≤ c := by
      rcases f4 with e | e
      · subst e
        rw [show (-1074 + 1074 : Int).toNat = 0 by decide, Nat.pow_zero, Nat.mul_one] at h2
        have := Nat.le_of_dvd g h2
        rw [show (2 : Nat) ^ 52 = 4503599627370496 by decide] at this
        exact this
      · exact e
    refine ⟨s, c, q, h1, ⟨hc, f1⟩, f2, ?_⟩
    have h5 : 2 ^ (52 + (q + 1074).toNat) ≤ 2 ^ 1120 := by
      refine Nat.le_trans ?_ h3
      rw [Nat.pow_add]
      exact Nat.mul_le_mul_right _ (by rw [show (2 : Nat) ^ 52 = 4503599627370496 by decide]; exact hc)
    have := (Nat.pow_le_pow_iff_right (by omega)).mp h5
    omega
/-- the bits of a double, put together -/
theorem fk_bits {v : UInt64} {s : Bool} {c : Nat} {q : Int} (h : fk v = .fin s c q) (hc : fpC c) (h2 : q < 0) : v.toInt64 = lN ((s.toNat * 2048 + (q + 1075).toNat) * 4503599627370496 + (c - 4503599627370496)) := by
  have f := fp_dec h
  have q1 := f.2.1
  rw [fp_of h, fp_e1, if_neg (by have := hc.1; omega), show (q - -1074).toNat + 1 = (q + 1075).toNat by omega]
  rfl
end
section
theorem cv_lt_g : Op.cmpValue (some .lt) .g = -1 := by decide
theorem cv_gt_g : Op.cmpValue (some .gt) .g = 1 := by decide
theorem cv_eq_g : Op.cmpValue (some .eq) .g = 0 := by decide
theorem cv_lt_l : Op.cmpValue (some .lt) .l = -1 := by decide
theorem cv_gt_l : Op.cmpValue (some .gt) .l = 1 := by decide
theorem cv_eq_l : Op.cmpValue (some .eq) .l = 0 := by decide
theorem fkd_fg {c : Nat} {k : Int} (hc : fpC c) (h1 : -1074 ≤ k) (h2 : k ≤ 800) : vf_n64 (fkd c k) := by
  have := hc.2
  refine FG.n64 (G := 0) (E := 2000) ⟨_, _, _, fkd_k hc h1 (by omega), by rw [Nat.pow_zero]; exact Nat.one_dvd _, ?_⟩
  refine Nat.le_trans (Nat.mul_le_mul_right _ (Nat.le_of_lt hc.2)) ?_
  rw [show (9007199254740992 : Nat) = 2 ^ 53 by decide, ← Nat.pow_add]
  exact Nat.pow_le_pow_right (by omega) (by omega)
/-- exponent and figures, put together -/
theorem bt_put {e c : Nat} (he : e < 2048) (hc : fpC c) : (lN e <<< ((52 : Int32).toInt64 &&& 63)) ||| (lN c &&& 4503599627370495) = lN (e * 4503599627370496 + (c - 4503599627370496)) := by
  have h1 := hc.1
  have h2 := hc.2
  rw [show ((52 : Int32).toInt64 &&& 63) = ((nI 52).toInt64 &&& 63) from rfl, wb_shl e (k := 52) (by omega)]
  rw [show (4503599627370495 : Int64) = lN (2 ^ 52 - 1) from rfl, wb_mask (n := c) (k := 52) (by omega) (by omega)]
  rw [show (2 : Nat) ^ 52 = 4503599627370496 by decide]
  rw [g_or (k := 52) (p := 4503599627370496) (by decide) (by omega) (by omega), show c % 4503599627370496 = c - 4503599627370496 by omega]
theorem bt_sign {n : Nat} (h : n < 9223372036854775808) : lN n ||| (-9223372036854775808) = lN (2048 * 4503599627370496 + n) := by
  rw [show (-9223372036854775808 : Int64) = lN (1 * 9223372036854775808) from rfl, wb_or (by omega) (by omega), Nat.or_comm, ← wb_or (by omega) (by omega), g_or (k := 63) (by decide) h (by omega)]
theorem bt_shl {e : Nat} (he : e < 2048) : (nI e).toInt64 <<< ((52 : Int32).toInt64 &&& 63) = lN (e * 4503599627370496) := by
  rw [nI_l (by omega), show ((52 : Int32).toInt64 &&& 63) = ((nI 52).toInt64 &&& 63) from rfl, wb_shl e (k := 52) (by omega)]
theorem fk_0 : fk 0 = .fin false 0 (-1074) := kf_0
theorem d0eq : (0 : UInt64) = FP.dconst0 := rfl
-- the bits of a double
set_option maxRecDepth 100000 in
set_option maxHeartbeats 4000000 in
theorem ct_X9_bitsOf (l : Launch) (E : EE) (w : Wd) (v : UInt64) (hlo : E.2.2 ≤ wN w) (hv : FG 52 1120 v) (hz : NZ v) : Ct l E yX9_bitsOf cX9_bitsOf 8 (some .long) ({ frames := 0, cells := 0, slots := 0, locals := 0 } : Room) [.double v] w 0 0 (Px (some (.long v.toInt64)) w) := by
  refine ct_in (il := il_X9_bitsOf) (by decide) dk_X9_bitsOf (Nat.le_of_ble_eq_true rfl) hlo ?_
  intro X h hq

  rcases fg_cases hv hz with rfl | ⟨s, c, q, h1, hc, hq1, hq2⟩
  · have e0 : FP.dcmp 0 FP.dconst0 = some .eq := by rw [fk_cmp0 fk_0]; rfl
    refine g_dload_n h (i := 0) rfl rfl ?_
    refine g_dconst0 h (i := 1) rfl ?_
    refine g_dcmp h (i := 2) rfl ?_
    refine g_eqi 0 (by rw [e0]; rfl) ?_
    refine g_if_ne h (i := 3) 8 rfl rfl (fun c_3 => absurd rfl c_3) (fun c_3 => ?_)
    refine g_lconst h (i := 4) rfl (v := 0) (by rfl) ?_
    exact g_lret hq h (i := 5) rfl (⟨rfl, rfl⟩)
  · have hc0 : ¬ c = 0 := by have := hc.1; omega
    have hcmp := fk_cmp0 h1
    rw [if_neg hc0] at hcmp
    have hbits := fk_bits h1 hc hq2
    obtain ⟨n, hn⟩ : ∃ n : Nat, n = (-q).toNat := ⟨_, rfl⟩
    have hqn : q = -(n : Int) := by omega
    have hn1 : n ≤ 1074 := by omega
    have hqe : (q + 1075).toNat = 1075 - n := by omega
    rw [hqe] at hbits
    have hE : 1075 - n < 2048 := by omega
    -- behind the loop
    have k2 : G X 0 0 64 (lf [(0, .double v), (2, .double (fkd c 0)), (4, .long (lN (1075 - n)))]) [] w := by
      have hm : (1075 - n) * 4503599627370496 + (c - 4503599627370496) < 9223372036854775808 := by have := hc.2; omega
      cases s
      · skip
        refine g_lload h (i := 37) rfl rfl ?_
        refine g_bipush h (i := 38) rfl (v := 52) (by rfl) ?_
        refine g_lshl h (i := 39) rfl ?_
        refine g_dload_n h (i := 40) rfl rfl ?_
        refine g_d2l h (i := 41) rfl ?_
        refine g_eql (lN c) (fkd_d2l hc) ?_
        refine g_ldc2 h (i := 42) rfl k_X9_303 ?_
        refine g_land h (i := 43) rfl ?_
        refine g_lor h (i := 44) rfl ?_
        refine g_eql (lN ((1075 - n) * 4503599627370496 + (c - 4503599627370496))) (bt_put hE hc) ?_
        refine g_lstore h (i := 45) rfl hq rfl ?_
        refine g_dload_n h (i := 46) rfl rfl ?_
        refine g_dconst0 h (i := 47) rfl ?_
        refine g_dcmp h (i := 48) rfl ?_
        refine g_eqi (1) (by rw [hcmp]; rfl) ?_
        refine g_if_ge h (i := 49) 93 rfl rfl (fun c_81 => ?_) (fun c_81 => absurd (by decide : (0 : Int32) ≤ 1) c_81)
        refine g_lload h (i := 54) rfl rfl ?_
        exact g_lret hq h (i := 55) rfl (⟨congrArg (fun z => some (Value.long z)) (by rw [hbits, show false.toNat = 0 from rfl, Nat.zero_mul, Nat.zero_add]), rfl⟩)
      · skip
        refine g_lload h (i := 37) rfl rfl ?_
        refine g_bipush h (i := 38) rfl (v := 52) (by rfl) ?_
        refine g_lshl h (i := 39) rfl ?_
        refine g_dload_n h (i := 40) rfl rfl ?_
        refine g_d2l h (i := 41) rfl ?_
        refine g_eql (lN c) (fkd_d2l hc) ?_
        refine g_ldc2 h (i := 42) rfl k_X9_303 ?_
        refine g_land h (i := 43) rfl ?_
        refine g_lor h (i := 44) rfl ?_
        refine g_eql (lN ((1075 - n) * 4503599627370496 + (c - 4503599627370496))) (bt_put hE hc) ?_
        refine g_lstore h (i := 45) rfl hq rfl ?_
        refine g_dload_n h (i := 46) rfl rfl ?_
        refine g_dconst0 h (i := 47) rfl ?_
        refine g_dcmp h (i := 48) rfl ?_
        refine g_eqi (-1) (by rw [hcmp]; rfl) ?_
        refine g_if_ge h (i := 49) 93 rfl rfl (fun c_81 => absurd c_81 (by decide)) (fun c_81 => ?_)
        refine g_lload h (i := 50) rfl rfl ?_
        refine g_ldc2 h (i := 51) rfl k_X9_307 ?_
        refine g_lor h (i := 52) rfl ?_
        refine g_goto h (i := 53) 95 rfl rfl ?_
        exact g_lret hq h (i := 55) rfl (⟨congrArg (fun z => some (Value.long z)) (by rw [hbits, bt_sign hm, show true.toNat = 1 from rfl, Nat.one_mul, Nat.add_mul, Nat.add_assoc]), rfl⟩)
    have k1 : ∀ (d i : Nat) (k : Int), k = -(d : Int) → i + d = n → G X 0 0 30 (lf [(0, .double v), (2, .double (fkd c k)), (4, .long (lN (1075 - i))), (6, .int (nI i))]) [] w := by
      intro d
      induction d with
      | zero =>
        intro i k hk hi
        have hk0 : k = 0 := by omega
        have hi0 : i = n := by omega
        subst hk0
        subst hi0
        have h1100 : ¬ (1100 : Int32) ≤ nI i := nI_ge (b := 1100) (by omega) (by omega)
        have hge : 0 ≤ Op.cmpValue (FP.dcmp (fkd c 0) 4841369599423283200) .g := by
          rcases fkd_ge hc with e | e
          · rw [e, cv_gt_g]; decide
          · rw [e, cv_eq_g]; decide
        refine g_iload h (i := 20) rfl rfl ?_
        refine g_sipush h (i := 21) rfl (v := 1100) (by rfl) ?_
        refine g_icmp_ge h (i := 22) 64 rfl rfl (fun c_35 => absurd c_35 h1100) (fun c_35 => ?_)
        refine g_dload_n h (i := 23) rfl rfl ?_
        refine g_ldc2d h (i := 24) rfl k_X9_299 ?_
        refine g_dcmp h (i := 25) rfl ?_
        refine g_if_ge h (i := 26) 64 rfl rfl (fun c_43 => ?_) (fun c_43 => absurd hge c_43)
        exact g_lv [(0, .double v), (2, .double (fkd c 0)), (4, .long (lN (1075 - i)))] ⟨rfl, rfl, rfl, trivial⟩ k2
      | succ d ih =>
        intro i k hk hi
        have h1100 : ¬ (1100 : Int32) ≤ nI i := nI_ge (b := 1100) (by omega) (by omega)
        have hm := fkd_mul hc (k := k) (by omega) (by omega)
        have hnm : vf_n64 (FP.dmul (fkd c k) 4611686018427387904) := by rw [hm]; exact fkd_fg hc (by omega) (by omega)
        have hlt : Op.cmpValue (FP.dcmp (fkd c k) 4841369599423283200) .g = -1 := by rw [fkd_lt hc (by omega) (by omega)]; rfl
        have hsub : lN (1075 - i) - 1 = lN (1075 - (i + 1)) := lN_sub (a := 1075 - i) (b := 1) (by omega)
        refine g_iload h (i := 20) rfl rfl ?_
        refine g_sipush h (i := 21) rfl (v := 1100) (by rfl) ?_
        refine g_icmp_ge h (i := 22) 64 rfl rfl (fun c_35 => absurd c_35 h1100) (fun c_35 => ?_)
        refine g_dload_n h (i := 23) rfl rfl ?_
        refine g_ldc2d h (i := 24) rfl k_X9_299 ?_
        refine g_dcmp h (i := 25) rfl ?_
        refine g_eqi (-1) hlt ?_
        refine g_if_ge h (i := 26) 64 rfl rfl (fun c_43 => absurd c_43 (by decide)) (fun c_43 => ?_)
        refine g_dload_n h (i := 27) rfl rfl ?_
        refine g_ldc2d h (i := 28) rfl k_X9_301 ?_
        refine g_dmul h (i := 29) rfl (hnm) ?_
        refine g_eqd (fkd c (k + 1)) hm ?_
        refine g_dstore_n h (i := 30) rfl hq rfl ?_
        refine g_lload h (i := 31) rfl rfl ?_
        refine g_lconst h (i := 32) rfl (v := 1) (by rfl) ?_
        refine g_lsub h (i := 33) rfl ?_
        refine g_eql (lN (1075 - (i + 1))) hsub ?_
        refine g_lstore h (i := 34) rfl hq rfl ?_
        refine g_iinc h (i := 35) rfl rfl (dv := 1) (by rfl) ?_
        refine g_goto h (i := 36) 30 rfl rfl ?_
        exact g_lv [(0, .double v), (2, .double (fkd c (k + 1))), (4, .long (lN (1075 - (i + 1)))), (6, .int (nI (i + 1)))] ⟨rfl, rfl, rfl, congrArg (fun z => some (Value.int z)) (nI_1 i), trivial⟩ (ih (i + 1) (k + 1) (by omega) (by omega))
    have k0 : G X 0 0 21 (lf [(0, .double v)]) [.double (fkd c q)] w := by
      refine g_dstore_n h (i := 15) rfl hq rfl ?_
      refine g_ldc2 h (i := 16) rfl k_X9_297 ?_
      refine g_lstore h (i := 17) rfl hq rfl ?_
      refine g_iconst h (i := 18) rfl (v := 0) (by rfl) ?_
      refine g_istore h (i := 19) rfl hq rfl ?_
      exact g_lv [(0, .double v), (2, .double (fkd c q)), (4, .long (lN (1075 - 0))), (6, .int (nI 0))] ⟨rfl, rfl, rfl, rfl, trivial⟩ (k1 n 0 q hqn (by omega))
    cases s
    · skip
      refine g_dload_n h (i := 0) rfl rfl ?_
      refine g_dconst0 h (i := 1) rfl ?_
      refine g_dcmp h (i := 2) rfl ?_
      refine g_eqi (1) (by rw [hcmp]; rfl) ?_
      refine g_if_ne h (i := 3) 8 rfl rfl (fun c_3 => ?_) (fun c_3 => absurd c_3 (by decide))
      refine g_dload_n h (i := 6) rfl rfl ?_
      refine g_dconst0 h (i := 7) rfl ?_
      refine g_dcmp h (i := 8) rfl ?_
      refine g_eqi 1 (by rw [hcmp]; rfl) ?_
      refine g_if_ge h (i := 9) 20 rfl rfl (fun c_11 => ?_) (fun c_11 => absurd (by decide : (0 : Int32) ≤ 1) c_11)
      refine g_dload_n h (i := 14) rfl rfl ?_
      refine g_eqd (fkd c q) (fp_of h1) ?_
      exact g_lv [(0, .double v)] ⟨rfl, trivial⟩ k0
    · skip
      refine g_dload_n h (i := 0) rfl rfl ?_
      refine g_dconst0 h (i := 1) rfl ?_
      refine g_dcmp h (i := 2) rfl ?_
      refine g_eqi (-1) (by rw [hcmp]; rfl) ?_
      refine g_if_ne h (i := 3) 8 rfl rfl (fun c_3 => ?_) (fun c_3 => absurd c_3 (by decide))
      refine g_dload_n h (i := 6) rfl rfl ?_
      refine g_dconst0 h (i := 7) rfl ?_
      refine g_dcmp h (i := 8) rfl ?_
      refine g_eqi (-1) (by rw [hcmp]; rfl) ?_
      refine g_if_ge h (i := 9) 20 rfl rfl (fun c_11 => absurd c_11 (by decide)) (fun c_11 => ?_)
      refine g_dconst0 h (i := 10) rfl ?_
      refine g_dload_n h (i := 11) rfl rfl ?_
      refine g_dsub h (i := 12) rfl (by rw [fkd_neg h1 hc]; exact fkd_fg hc hq1 (by omega)) ?_
      refine g_goto h (i := 13) 21 rfl rfl ?_
      refine g_eqd (fkd c q) (fkd_neg h1 hc) ?_
      exact g_lv [(0, .double v)] ⟨rfl, trivial⟩ k0
theorem z_mul : FP.dmul 0 4611686018427387904 = 0 := by decide +kernel
theorem z_lt : Op.cmpValue (FP.dcmp 0 4841369599423283200) .g = -1 := by decide +kernel
theorem z_53 : Op.cmpValue (FP.dcmp 0 4845873199050653696) .l = -1 := by decide +kernel
theorem z_inf : FP.ddiv FP.dconst1 0 = 9218868437227405312 := by decide +kernel
theorem z_n1 : vf_n64 9218868437227405312 := by unfold vf_n64; decide
theorem z_n0 : vf_n64 0 := by unfold vf_n64; decide
theorem z_c : Op.cmpValue (FP.dcmp 9218868437227405312 FP.dconst0) .g = 1 := by decide +kernel
theorem z_l : FP.d2l 0 = lN 0 := by decide +kernel
-- the bits of a double
set_option maxRecDepth 100000 in
set_option maxHeartbeats 4000000 in
theorem ct_X10_bitsOf (l : Launch) (E : EE) (w : Wd) (v : UInt64) (hlo : E.2.2 ≤ wN w) (hv : FG 52 1120 v) (hz : NZ v) : Ct l E yX10_bitsOf cX10_bitsOf 10 (some .long) ({ frames := 0, cells := 0, slots := 0, locals := 0 } : Room) [.double v] w 0 0 (Px (some (.long v.toInt64)) w) := by
  refine ct_in (il := il_X10_bitsOf) (by decide) dk_X10_bitsOf (Nat.le_of_ble_eq_true rfl) hlo ?_
  intro X h hq

  rcases fg_cases hv hz with rfl | ⟨s, c, q, h1, hc, hq1, hq2⟩
  · have e0 : FP.dcmp 0 FP.dconst0 = some .eq := by rw [fk_cmp0 fk_0]; rfl
    have k2 : G X 0 0 89 (lf [(2, .int 0), (3, .double 0), (5, .int 1)]) [] w := by
      refine g_dload_n h (i := 51) rfl rfl ?_
      refine g_d2l h (i := 52) rfl ?_
      refine g_eql (lN 0) z_l ?_
      refine g_lstore h (i := 53) rfl hq rfl ?_
      refine g_lload h (i := 54) rfl rfl ?_
      refine g_ldc2 h (i := 55) rfl k_X10_151 ?_
      refine g_lcmp h (i := 56) rfl ?_
      refine g_if_ge h (i := 57) 107 rfl rfl (fun c_99 => absurd ((lg_cmp_ge _ _).mp c_99) (by decide)) (fun c_99 => ?_)
      refine g_lload h (i := 58) rfl rfl ?_
      refine g_goto h (i := 59) 120 rfl rfl ?_
      refine g_lstore h (i := 68) rfl hq rfl ?_
      refine g_iload_n h (i := 69) rfl rfl ?_
      refine g_if_eq h (i := 70) 135 rfl rfl (fun c_123 => ?_) (fun c_123 => absurd rfl c_123)
      refine g_lload h (i := 75) rfl rfl ?_
      exact g_lret hq h (i := 76) rfl (⟨rfl, rfl⟩)
    have k1 : ∀ d : Nat, d ≤ 1074 → G X 0 0 63 (lf [(2, .int 0), (3, .double 0), (5, .int (nI (d + 1)))]) [] w := by
      intro d
      induction d with
      | zero =>
        intro hd
        refine g_dload_n h (i := 38) rfl rfl ?_
        refine g_ldc2d h (i := 39) rfl k_X10_149 ?_
        refine g_dcmp h (i := 40) rfl ?_
        refine g_eqi (-1) z_lt ?_
        refine g_if_ge h (i := 41) 89 rfl rfl (fun c_68 => absurd c_68 (by decide)) (fun c_68 => ?_)
        refine g_iload h (i := 42) rfl rfl ?_
        refine g_iconst h (i := 43) rfl (v := 1) (by rfl) ?_
        refine g_icmp_le h (i := 44) 89 rfl rfl (fun c_74 => ?_) (fun c_74 => absurd (by decide : nI (0 + 1) ≤ 1) c_74)
        exact g_lv [(2, .int 0), (3, .double 0), (5, .int 1)] ⟨rfl, rfl, rfl, trivial⟩ k2
      | succ d ih =>
        intro hd
        have hgt : ¬ nI (d + 1 + 1) ≤ 1 := nI_ge (a := 1) (by omega) (by omega)
        refine g_dload_n h (i := 38) rfl rfl ?_
        refine g_ldc2d h (i := 39) rfl k_X10_149 ?_
        refine g_dcmp h (i := 40) rfl ?_
        refine g_eqi (-1) z_lt ?_
        refine g_if_ge h (i := 41) 89 rfl rfl (fun c_68 => absurd c_68 (by decide)) (fun c_68 => ?_)
        refine g_iload h (i := 42) rfl rfl ?_
        refine g_iconst h (i := 43) rfl (v := 1) (by rfl) ?_
        refine g_icmp_le h (i := 44) 89 rfl rfl (fun c_74 => absurd c_74 hgt) (fun c_74 => ?_)
        refine g_dload_n h (i := 45) rfl rfl ?_
        refine g_ldc2d h (i := 46) rfl k_X10_147 ?_
        refine g_dmul h (i := 47) rfl (by rw [z_mul]; exact z_n0) ?_
        refine g_eqd 0 z_mul ?_
        refine g_dstore_n h (i := 48) rfl hq rfl ?_
        refine g_iinc h (i := 49) rfl rfl (dv := -1) (by rfl) ?_
        refine g_goto h (i := 50) 63 rfl rfl ?_
        exact g_lv [(2, .int 0), (3, .double 0), (5, .int (nI (d + 1)))] ⟨rfl, rfl, congrArg (fun z => some (Value.int z)) (pk_m1 (d + 1)), trivial⟩ (ih (by omega))
    refine g_dload_n h (i := 0) rfl rfl ?_
    refine g_dconst0 h (i := 1) rfl ?_
    refine g_dcmp h (i := 2) rfl ?_
    refine g_eqi 0 (by rw [e0]; rfl) ?_
    refine g_if_lt h (i := 3) 20 rfl rfl (fun c_3 => absurd c_3 (by decide)) (fun c_3 => ?_)
    refine g_dload_n h (i := 4) rfl rfl ?_
    refine g_dconst0 h (i := 5) rfl ?_
    refine g_dcmp h (i := 6) rfl ?_
    refine g_eqi 0 (by rw [e0]; rfl) ?_
    refine g_if_ne h (i := 7) 24 rfl rfl (fun c_9 => absurd rfl c_9) (fun c_9 => ?_)
    refine g_dconst1 h (i := 8) rfl ?_
    refine g_dload_n h (i := 9) rfl rfl ?_
    refine g_ddiv h (i := 10) rfl (by rw [z_inf]; exact z_n1) ?_
    refine g_eqd 9218868437227405312 z_inf ?_
    refine g_dconst0 h (i := 11) rfl ?_
    refine g_dcmp h (i := 12) rfl ?_
    refine g_eqi 1 z_c ?_
    refine g_if_ge h (i := 13) 24 rfl rfl (fun c_17 => ?_) (fun c_17 => absurd (by decide : (0 : Int32) ≤ 1) c_17)
    refine g_iconst h (i := 16) rfl (v := 0) (by rfl) ?_
    refine g_istore_n h (i := 17) rfl hq rfl ?_
    refine g_iload_n h (i := 18) rfl rfl ?_
    refine g_if_eq h (i := 19) 36 rfl rfl (fun c_27 => ?_) (fun c_27 => absurd rfl c_27)
    refine g_dload_n h (i := 24) rfl rfl ?_
    refine g_dstore_n h (i := 25) rfl hq rfl ?_
    refine g_sipush h (i := 26) rfl (v := 1075) (by rfl) ?_
    refine g_istore h (i := 27) rfl hq rfl ?_
    refine g_dload_n h (i := 28) rfl rfl ?_
    refine g_ldc2d h (i := 29) rfl k_X10_145 ?_
    refine g_dcmp h (i := 30) rfl ?_
    refine g_eqi (-1) z_53 ?_
    refine g_if_lt h (i := 31) 63 rfl rfl (fun c_48 => ?_) (fun c_48 => absurd (by decide : (-1 : Int32) < 0) c_48)
    exact g_lv [(2, .int 0), (3, .double 0), (5, .int (nI (1074 + 1)))] ⟨rfl, rfl, rfl, trivial⟩ (k1 1074 (by omega))
  · have hc0 : ¬ c = 0 := by have := hc.1; omega
    have hcmp := fk_cmp0 h1
    rw [if_neg hc0] at hcmp
    have hbits := fk_bits h1 hc hq2
    obtain ⟨n, hn⟩ : ∃ n : Nat, n = (-q).toNat := ⟨_, rfl⟩
    have hqn : q = -(n : Int) := by omega
    have hn1 : n ≤ 1074 := by omega
    have hqe : (q + 1075).toNat = 1075 - n := by omega
    rw [hqe] at hbits
    have hE : 1075 - n < 2048 := by omega
    have hcl : (4503599627370496 : Int64) ≤ lN c := by rw [show (4503599627370496 : Int64) = lN 4503599627370496 from rfl, pk_lLE (by omega) (by have := hc.2; omega)]; exact hc.1
    have hcs : lN c - 4503599627370496 = lN (c - 4503599627370496) := lN_sub (b := 4503599627370496) hc.1
    cases s
    · skip
      have k2 : G X 0 0 89 (lf [(2, .int 0), (3, .double (fkd c 0)), (5, .int (nI (1075 - n)))]) [] w := by
        have hm : (1075 - n) * 4503599627370496 + (c - 4503599627370496) < 9223372036854775808 := by have := hc.2; omega
        have hadd : lN (c - 4503599627370496) + lN ((1075 - n) * 4503599627370496) = lN ((1075 - n) * 4503599627370496 + (c - 4503599627370496)) := by rw [lN_add, Nat.add_comm]
        refine g_dload_n h (i := 51) rfl rfl ?_
        refine g_d2l h (i := 52) rfl ?_
        refine g_eql (lN c) (fkd_d2l hc) ?_
        refine g_lstore h (i := 53) rfl hq rfl ?_
        refine g_lload h (i := 54) rfl rfl ?_
        refine g_ldc2 h (i := 55) rfl k_X10_151 ?_
        refine g_lcmp h (i := 56) rfl ?_
        refine g_if_ge h (i := 57) 107 rfl rfl (fun c_99 => ?_) (fun c_99 => absurd ((lg_cmp_ge _ _).mpr hcl) c_99)
        refine g_lload h (i := 60) rfl rfl ?_
        refine g_ldc2 h (i := 61) rfl k_X10_151 ?_
        refine g_lsub h (i := 62) rfl ?_
        refine g_eql (lN (c - 4503599627370496)) hcs ?_
        refine g_iload h (i := 63) rfl rfl ?_
        refine g_i2l h (i := 64) rfl ?_
        refine g_bipush h (i := 65) rfl (v := 52) (by rfl) ?_
        refine g_lshl h (i := 66) rfl ?_
        refine g_eql (lN ((1075 - n) * 4503599627370496)) (bt_shl hE) ?_
        refine g_ladd h (i := 67) rfl ?_
        refine g_eql (lN ((1075 - n) * 4503599627370496 + (c - 4503599627370496))) hadd ?_
        refine g_lstore h (i := 68) rfl hq rfl ?_
        refine g_iload_n h (i := 69) rfl rfl ?_
        refine g_if_eq h (i := 70) 135 rfl rfl (fun c_123 => ?_) (fun c_123 => absurd rfl c_123)
        refine g_lload h (i := 75) rfl rfl ?_
        exact g_lret hq h (i := 76) rfl (⟨congrArg (fun z => some (Value.long z)) (by rw [hbits, show false.toNat = 0 from rfl, Nat.zero_mul, Nat.zero_add]), rfl⟩)
      have k1 : ∀ (d i : Nat) (k : Int), k = -(d : Int) → i + d = n → G X 0 0 63 (lf [(2, .int 0), (3, .double (fkd c k)), (5, .int (nI (1075 - i)))]) [] w := by
        intro d
        induction d with
        | zero =>
          intro i k hk hi
          have hk0 : k = 0 := by omega
          have hi0 : i = n := by omega
          subst hk0
          subst hi0
          have hge : 0 ≤ Op.cmpValue (FP.dcmp (fkd c 0) 4841369599423283200) .g := by
            rcases fkd_ge hc with e | e
            · rw [e, cv_gt_g]; decide
            · rw [e, cv_eq_g]; decide
          refine g_dload_n h (i := 38) rfl rfl ?_
          refine g_ldc2d h (i := 39) rfl k_X10_149 ?_
          refine g_dcmp h (i := 40) rfl ?_
          refine g_if_ge h (i := 41) 89 rfl rfl (fun c_68 => ?_) (fun c_68 => absurd hge c_68)
          exact g_lv [(2, .int 0), (3, .double (fkd c 0)), (5, .int (nI (1075 - i)))] ⟨rfl, rfl, rfl, trivial⟩ k2
        | succ d ih =>
          intro i k hk hi
          have hgt : ¬ nI (1075 - i) ≤ 1 := nI_ge (a := 1) (by omega) (by omega)
          have hm := fkd_mul hc (k := k) (by omega) (by omega)
          have hnm : vf_n64 (FP.dmul (fkd c k) 4611686018427387904) := by rw [hm]; exact fkd_fg hc (by omega) (by omega)
          have hlt : Op.cmpValue (FP.dcmp (fkd c k) 4841369599423283200) .g = -1 := by rw [fkd_lt hc (by omega) (by omega)]; rfl
          have hsub : nI (1075 - i) + (-1) = nI (1075 - (i + 1)) := by rw [show 1075 - i = 1075 - (i + 1) + 1 by omega, pk_m1]
          refine g_dload_n h (i := 38) rfl rfl ?_
          refine g_ldc2d h (i := 39) rfl k_X10_149 ?_
          refine g_dcmp h (i := 40) rfl ?_
          refine g_eqi (-1) hlt ?_
          refine g_if_ge h (i := 41) 89 rfl rfl (fun c_68 => absurd c_68 (by decide)) (fun c_68 => ?_)
          refine g_iload h (i := 42) rfl rfl ?_
          refine g_iconst h (i := 43) rfl (v := 1) (by rfl) ?_
          refine g_icmp_le h (i := 44) 89 rfl rfl (fun c_74 => absurd c_74 hgt) (fun c_74 => ?_)
          refine g_dload_n h (i := 45) rfl rfl ?_
          refine g_ldc2d h (i := 46) rfl k_X10_147 ?_
          refine g_dmul h (i := 47) rfl (hnm) ?_
          refine g_eqd (fkd c (k + 1)) hm ?_
          refine g_dstore_n h (i := 48) rfl hq rfl ?_
          refine g_iinc h (i := 49) rfl rfl (dv := -1) (by rfl) ?_
          refine g_goto h (i := 50) 63 rfl rfl ?_
          exact g_lv [(2, .int 0), (3, .double (fkd c (k + 1))), (5, .int (nI (1075 - (i + 1))))] ⟨rfl, rfl, congrArg (fun z => some (Value.int z)) hsub, trivial⟩ (ih (i + 1) (k + 1) (by omega) (by omega))
      refine g_dload_n h (i := 0) rfl rfl ?_
      refine g_dconst0 h (i := 1) rfl ?_
      refine g_dcmp h (i := 2) rfl ?_
      refine g_eqi 1 (by rw [hcmp]; rfl) ?_
      refine g_if_lt h (i := 3) 20 rfl rfl (fun c_3 => absurd c_3 (by decide)) (fun c_3 => ?_)
      refine g_dload_n h (i := 4) rfl rfl ?_
      refine g_dconst0 h (i := 5) rfl ?_
      refine g_dcmp h (i := 6) rfl ?_
      refine g_eqi 1 (by rw [hcmp]; rfl) ?_
      refine g_if_ne h (i := 7) 24 rfl rfl (fun c_9 => ?_) (fun c_9 => absurd c_9 (by decide))
      refine g_iconst h (i := 16) rfl (v := 0) (by rfl) ?_
      refine g_istore_n h (i := 17) rfl hq rfl ?_
      refine g_iload_n h (i := 18) rfl rfl ?_
      refine g_if_eq h (i := 19) 36 rfl rfl (fun c_27 => ?_) (fun c_27 => absurd rfl c_27)
      refine g_dload_n h (i := 24) rfl rfl ?_
      refine g_eqd (fkd c q) (fp_of h1) ?_
      refine g_dstore_n h (i := 25) rfl hq rfl ?_
      refine g_sipush h (i := 26) rfl (v := 1075) (by rfl) ?_
      refine g_istore h (i := 27) rfl hq rfl ?_
      refine g_dload_n h (i := 28) rfl rfl ?_
      refine g_ldc2d h (i := 29) rfl k_X10_145 ?_
      refine g_dcmp h (i := 30) rfl ?_
      refine g_eqi (-1) (by rw [fkd_53 hc hq1 (by omega)]; rfl) ?_
      refine g_if_lt h (i := 31) 63 rfl rfl (fun c_48 => ?_) (fun c_48 => absurd (by decide : (-1 : Int32) < 0) c_48)
      exact g_lv [(2, .int 0), (3, .double (fkd c q)), (5, .int (nI (1075 - 0)))] ⟨rfl, rfl, rfl, trivial⟩ (k1 n 0 q hqn (by omega))
    · skip
      have k2 : G X 0 0 89 (lf [(2, .int 1), (3, .double (fkd c 0)), (5, .int (nI (1075 - n)))]) [] w := by
        have hm : (1075 - n) * 4503599627370496 + (c - 4503599627370496) < 9223372036854775808 := by have := hc.2; omega
        have hadd : lN (c - 4503599627370496) + lN ((1075 - n) * 4503599627370496) = lN ((1075 - n) * 4503599627370496 + (c - 4503599627370496)) := by rw [lN_add, Nat.add_comm]
        refine g_dload_n h (i := 51) rfl rfl ?_
        refine g_d2l h (i := 52) rfl ?_
        refine g_eql (lN c) (fkd_d2l hc) ?_
        refine g_lstore h (i := 53) rfl hq rfl ?_
        refine g_lload h (i := 54) rfl rfl ?_
        refine g_ldc2 h (i := 55) rfl k_X10_151 ?_
        refine g_lcmp h (i := 56) rfl ?_
        refine g_if_ge h (i := 57) 107 rfl rfl (fun c_99 => ?_) (fun c_99 => absurd ((lg_cmp_ge _ _).mpr hcl) c_99)
        refine g_lload h (i := 60) rfl rfl ?_
        refine g_ldc2 h (i := 61) rfl k_X10_151 ?_
        refine g_lsub h (i := 62) rfl ?_
        refine g_eql (lN (c - 4503599627370496)) hcs ?_
        refine g_iload h (i := 63) rfl rfl ?_
        refine g_i2l h (i := 64) rfl ?_
        refine g_bipush h (i := 65) rfl (v := 52) (by rfl) ?_
        refine g_lshl h (i := 66) rfl ?_
        refine g_eql (lN ((1075 - n) * 4503599627370496)) (bt_shl hE) ?_
        refine g_ladd h (i := 67) rfl ?_
        refine g_eql (lN ((1075 - n) * 4503599627370496 + (c - 4503599627370496))) hadd ?_
        refine g_lstore h (i := 68) rfl hq rfl ?_
        refine g_iload_n h (i := 69) rfl rfl ?_
        refine g_if_eq h (i := 70) 135 rfl rfl (fun c_123 => absurd c_123 (by decide)) (fun c_123 => ?_)
        refine g_lload h (i := 71) rfl rfl ?_
        refine g_ldc2 h (i := 72) rfl k_X10_153 ?_
        refine g_lor h (i := 73) rfl ?_
        refine g_goto h (i := 74) 137 rfl rfl ?_
        exact g_lret hq h (i := 76) rfl (⟨congrArg (fun z => some (Value.long z)) (by rw [hbits, bt_sign hm, show true.toNat = 1 from rfl, Nat.one_mul, Nat.add_mul, Nat.add_assoc]), rfl⟩)
      have k1 : ∀ (d i : Nat) (k : Int), k = -(d : Int) → i + d = n → G X 0 0 63 (lf [(2, .int 1), (3, .double (fkd c k)), (5, .int (nI (1075 - i)))]) [] w := by
        intro d
        induction d with
        | zero =>
          intro i k hk hi
          have hk0 : k = 0 := by omega
          have hi0 : i = n := by omega
          subst hk0
          subst hi0
          have hge : 0 ≤ Op.cmpValue (FP.dcmp (fkd c 0) 4841369599423283200) .g := by
            rcases fkd_ge hc with e | e
            · rw [e, cv_gt_g]; decide
            · rw [e, cv_eq_g]; decide
          refine g_dload_n h (i := 38) rfl rfl ?_
          refine g_ldc2d h (i := 39) rfl k_X10_149 ?_
          refine g_dcmp h (i := 40) rfl ?_
          refine g_if_ge h (i := 41) 89 rfl rfl (fun c_68 => ?_) (fun c_68 => absurd hge c_68)
          exact g_lv [(2, .int 1), (3, .double (fkd c 0)), (5, .int (nI (1075 - i)))] ⟨rfl, rfl, rfl, trivial⟩ k2
        | succ d ih =>
          intro i k hk hi
          have hgt : ¬ nI (1075 - i) ≤ 1 := nI_ge (a := 1) (by omega) (by omega)
          have hm := fkd_mul hc (k := k) (by omega) (by omega)
          have hnm : vf_n64 (FP.dmul (fkd c k) 4611686018427387904) := by rw [hm]; exact fkd_fg hc (by omega) (by omega)
          have hlt : Op.cmpValue (FP.dcmp (fkd c k) 4841369599423283200) .g = -1 := by rw [fkd_lt hc (by omega) (by omega)]; rfl
          have hsub : nI (1075 - i) + (-1) = nI (1075 - (i + 1)) := by rw [show 1075 - i = 1075 - (i + 1) + 1 by omega, pk_m1]
          refine g_dload_n h (i := 38) rfl rfl ?_
          refine g_ldc2d h (i := 39) rfl k_X10_149 ?_
          refine g_dcmp h (i := 40) rfl ?_
          refine g_eqi (-1) hlt ?_
          refine g_if_ge h (i := 41) 89 rfl rfl (fun c_68 => absurd c_68 (by decide)) (fun c_68 => ?_)
          refine g_iload h (i := 42) rfl rfl ?_
          refine g_iconst h (i := 43) rfl (v := 1) (by rfl) ?_
          refine g_icmp_le h (i := 44) 89 rfl rfl (fun c_74 => absurd c_74 hgt) (fun c_74 => ?_)
          refine g_dload_n h (i := 45) rfl rfl ?_
          refine g_ldc2d h (i := 46) rfl k_X10_147 ?_
          refine g_dmul h (i := 47) rfl (hnm) ?_
          refine g_eqd (fkd c (k + 1)) hm ?_
          refine g_dstore_n h (i := 48) rfl hq rfl ?_
          refine g_iinc h (i := 49) rfl rfl (dv := -1) (by rfl) ?_
          refine g_goto h (i := 50) 63 rfl rfl ?_
          exact g_lv [(2, .int 1), (3, .double (fkd c (k + 1))), (5, .int (nI (1075 - (i + 1))))] ⟨rfl, rfl, congrArg (fun z => some (Value.int z)) hsub, trivial⟩ (ih (i + 1) (k + 1) (by omega) (by omega))
      refine g_dload_n h (i := 0) rfl rfl ?_
      refine g_dconst0 h (i := 1) rfl ?_
      refine g_dcmp h (i := 2) rfl ?_
      refine g_eqi (-1) (by rw [hcmp]; rfl) ?_
      refine g_if_lt h (i := 3) 20 rfl rfl (fun c_3 => ?_) (fun c_3 => absurd (by decide : (-1 : Int32) < 0) c_3)
      refine g_iconst h (i := 14) rfl (v := 1) (by rfl) ?_
      refine g_goto h (i := 15) 25 rfl rfl ?_
      refine g_istore_n h (i := 17) rfl hq rfl ?_
      refine g_iload_n h (i := 18) rfl rfl ?_
      refine g_if_eq h (i := 19) 36 rfl rfl (fun c_27 => absurd c_27 (by decide)) (fun c_27 => ?_)
      refine g_dconst0 h (i := 20) rfl ?_
      refine g_dload_n h (i := 21) rfl rfl ?_
      refine g_dsub h (i := 22) rfl (by rw [fkd_neg h1 hc]; exact fkd_fg hc hq1 (by omega)) ?_
      refine g_goto h (i := 23) 37 rfl rfl ?_
      refine g_eqd (fkd c q) (fkd_neg h1 hc) ?_
      refine g_dstore_n h (i := 25) rfl hq rfl ?_
      refine g_sipush h (i := 26) rfl (v := 1075) (by rfl) ?_
      refine g_istore h (i := 27) rfl hq rfl ?_
      refine g_dload_n h (i := 28) rfl rfl ?_
      refine g_ldc2d h (i := 29) rfl k_X10_145 ?_
      refine g_dcmp h (i := 30) rfl ?_
      refine g_eqi (-1) (by rw [fkd_53 hc hq1 (by omega)]; rfl) ?_
      refine g_if_lt h (i := 31) 63 rfl rfl (fun c_48 => ?_) (fun c_48 => absurd (by decide : (-1 : Int32) < 0) c_48)
      exact g_lv [(2, .int 1), (3, .double (fkd c q)), (5, .int (nI (1075 - 0)))] ⟨rfl, rfl, rfl, trivial⟩ (k1 n 0 q hqn (by omega))
end
section
theorem fk_1000 : fk 4652007308841189376 = .fin false 8796093022208000 (-43) := by decide +kernel
theorem fk_i2dn {x : Int32} (h0 : x.toInt ≠ 0) (h1 : x.toInt.natAbs ≤ 1000000) : ∃ c q, fk (FP.i2d x) = .fin (decide (x.toInt < 0)) c q ∧ fpC c ∧ -52 ≤ q ∧ q ≤ -33 := by
  obtain ⟨n, hn⟩ : ∃ n, x.toInt.natAbs = n := ⟨_, rfl⟩
  obtain ⟨k, hk⟩ : ∃ k, n.log2 = k := ⟨_, rfl⟩
  have hn0 : 0 < n := by omega
  have hk1 : 2 ^ k ≤ n := by rw [← hk]; exact Nat.log2_self_le (by omega)
  have hk2 : n < 2 ^ (k + 1) := by rw [← hk]; exact Nat.lt_log2_self
  have hk3 : k < 20 := by
    refine fp_powlt (Nat.lt_of_le_of_lt hk1 ?_)
    rw [show (2 : Nat) ^ 20 = 1048576 by decide]
    omega
  have hc1 : 4503599627370496 ≤ n * 2 ^ (52 - k) := by
    rw [show (4503599627370496 : Nat) = 2 ^ k * 2 ^ (52 - k) by rw [← Nat.pow_add, show k + (52 - k) = 52 by omega]]
    exact Nat.mul_le_mul_right _ hk1
  have hc2 : n * 2 ^ (52 - k) < 9007199254740992 := by
    rw [show (9007199254740992 : Nat) = 2 ^ (k + 1) * 2 ^ (52 - k) by rw [← Nat.pow_add, show k + 1 + (52 - k) = 53 by omega]]
    exact Nat.mul_lt_mul_of_pos_right hk2 (Nat.two_pow_pos _)
  have hF : fpF (n * 2 ^ (52 - k)) ((k : Int) - 52) := ⟨hc2, by omega, by omega, Or.inr hc1⟩
  refine ⟨n * 2 ^ (52 - k), (k : Int) - 52, ?_, ⟨hc1, hc2⟩, by omega, by omega⟩
  rw [fk_i2d, hn, fp_exact (c0 := n * 2 ^ (52 - k)) (q0 := (k : Int) - 52) hn0 (by omega) hF]
  · exact fk_of hF
  · unfold fpN
    rw [show (0 + 1074 : Int).toNat = 1074 by decide, show (-1074 - 0 : Int).toNat = 0 by decide, Nat.pow_zero, Nat.mul_one, Nat.mul_assoc, ← Nat.pow_add]
    congr 2
    omega
theorem fk_ddiv (x y : UInt64) : FP.ddiv x y = UInt64.ofNat (FP.Core.encode FP.Core.b64 (FP.Core.quotient FP.Core.b64 (fk x) (fk y))) := rfl
/-- a whole number of thousandths -/
theorem fg_div {x : Int32} (h1 : x.toInt.natAbs ≤ 1000000) : FG 1012 1085 (FP.ddiv (FP.i2d x) 4652007308841189376) := by
  by_cases h0 : x.toInt = 0
  · have e : x = 0 := i32x (by rw [h0]; rfl)
    subst e
    have e : FP.ddiv (FP.i2d 0) 4652007308841189376 = FP.dconst0 := by decide +kernel
    rw [e]
    exact kg_0 _ _
  · obtain ⟨A, q, e1, ⟨hA1, hA2⟩, hq1, hq2⟩ := fk_i2dn h0 h1
    have hl : A.log2 = 52 := by
      have a1 : 2 ^ A.log2 ≤ A := Nat.log2_self_le (by omega)
      have a2 : A < 2 ^ (A.log2 + 1) := Nat.lt_log2_self
      have b1 : A.log2 < 53 := fp_powlt (Nat.lt_of_le_of_lt a1 (by rw [show (2 : Nat) ^ 53 = 9007199254740992 by decide]; exact hA2))
      have b2 : 52 < A.log2 + 1 := fp_powlt (Nat.lt_of_le_of_lt (by rw [show (2 : Nat) ^ 52 = 4503599627370496 by decide]; exact hA1) a2)
      omega
    have hlB : Nat.log2 8796093022208000 = 52 := by decide +kernel
    have hlead : FP.Core.leading A 8796093022208000 = if 8796093022208000 ≤ A then 0 else -1 := by
      unfold FP.Core.leading
      rw [hl, hlB]
      show (if 8796093022208000 * 2 ^ ((52 : Nat) - (52 : Nat) : Int).toNat ≤ A * 2 ^ (-((52 : Nat) - (52 : Nat) : Int)).toNat then ((52 : Nat) - (52 : Nat) : Int) else ((52 : Nat) - (52 : Nat) : Int) - 1) = _
      rw [show ((52 : Nat) - (52 : Nat) : Int) = 0 by decide, show (-0 : Int).toNat = 0 by decide, show (0 : Int).toNat = 0 by decide, Nat.pow_zero, Nat.mul_one, Nat.mul_one]
      rfl
    have hquo : FP.Core.quotient FP.Core.b64 (fk (FP.i2d x)) (fk 4652007308841189376) = FP.Core.roundRatio FP.Core.b64 (decide (x.toInt < 0) != false) A 8796093022208000 (q - -43) := by
      rw [e1, fk_1000]
      rfl
    obtain ⟨s, hs⟩ : ∃ s, (decide (x.toInt < 0) != false) = s := ⟨_, rfl⟩
    rw [hs] at hquo
    obtain ⟨Q, hQ⟩ : ∃ Q : Int, Q = if 8796093022208000 ≤ A then q - 9 else q - 10 := ⟨_, rfl⟩
    have hQ2 : Q ≤ -42 ∧ -62 ≤ Q := by rw [hQ]; split <;> omega
    obtain ⟨n, hn⟩ : ∃ n, FP.Core.nearest (A * 2 ^ (q + 43 - Q).toNat) 8796093022208000 = n := ⟨_, rfl⟩
    have hrr : FP.Core.roundRatio FP.Core.b64 s A 8796093022208000 (q - -43) = FP.Core.settle FP.Core.b64 s n Q := by
      unfold FP.Core.roundRatio
      rw [if_neg (by omega)]
      have hqu : FP.Core.quantum FP.Core.b64 A 8796093022208000 (q - -43) = Q := by
        unfold FP.Core.quantum
        rw [hlead, fp_qmin, fp_p, hQ]
        split
        · show max (-1074) (0 + (q - -43) - 52) = _
          omega
        · show max (-1074) (-1 + (q - -43) - 52) = _
          omega
      rw [hqu]
      unfold FP.Core.roundAt FP.Core.unitsNum FP.Core.unitsDen
      rw [show (Q - (q - -43)).toNat = 0 by omega, Nat.pow_zero, Nat.mul_one, show q - -43 - Q = q + 43 - Q by omega, hn]
    have hn53 : n ≤ 9007199254740992 := by
      rw [← hn]
      refine fp_nearLe (by omega) ?_
      by_cases g : 8796093022208000 ≤ A
      · rw [if_pos g] at hQ
        rw [show (q + 43 - Q).toNat = 52 by omega, show (2 : Nat) ^ 52 = 4503599627370496 by decide]
        omega
      · rw [if_neg g] at hQ
        rw [show (q + 43 - Q).toNat = 53 by omega, show (2 : Nat) ^ 53 = 9007199254740992 by decide]
        omega
    have hn52 : 4503599627370496 ≤ n := by
      rw [← hn]
      refine fp_nearGe (by omega) ?_
      by_cases g : 8796093022208000 ≤ A
      · rw [if_pos g] at hQ
        rw [show (q + 43 - Q).toNat = 52 by omega, show (2 : Nat) ^ 52 = 4503599627370496 by decide]
        omega
      · rw [if_neg g] at hQ
        rw [show (q + 43 - Q).toNat = 53 by omega, show (2 : Nat) ^ 53 = 9007199254740992 by decide]
        omega
    obtain ⟨c', q', g1, g2, g3⟩ := fp_settle (s := s) (Q := Q) hn53 (by omega) (by omega) (Or.inr hn52)
    refine ⟨s, c', q', ?_, ?_, ?_⟩
    · rw [fk_ddiv, hquo, hrr, g1]
      exact fk_of g2
    · rw [g3]
      exact Nat.dvd_trans (Nat.pow_dvd_pow 2 (by omega)) (Nat.dvd_mul_left _ _)
    · rw [g3]
      refine Nat.le_trans (Nat.mul_le_mul_right _ hn53) ?_
      rw [show (9007199254740992 : Nat) = 2 ^ 53 by decide, ← Nat.pow_add]
      exact Nat.pow_le_pow_right (by omega) (by omega)
/-- THE TIP, joint by joint: kinds, lengths, states -/
def tpU (kd st : Nat → Int32) : Nat → Int
  | 0 => 0
  | j + 1 => if kd j = 1 then tpU kd st j else tpU kd st j + (st j).toInt
def tpL (kd ln st : Nat → Int32) (j : Nat) : UInt64 := if kd j = 1 then FP.dadd (FP.i2d (ln j)) (FP.ddiv (FP.i2d (st j)) 4652007308841189376) else FP.i2d (ln j)
def tpX (kd ln st : Nat → Int32) : Nat → UInt64
  | 0 => FP.dconst0
  | j + 1 => FP.dadd (tpX kd ln st j) (FP.dmul (tpL kd ln st j) (sV (tpU kd st (j + 1) + 250000)))
def tpY (kd ln st : Nat → Int32) : Nat → UInt64
  | 0 => FP.dconst0
  | j + 1 => FP.dadd (tpY kd ln st j) (FP.dmul (tpL kd ln st j) (sV (tpU kd st (j + 1))))
def okA (kd ln st : Nat → Int32) : Prop := ∀ j, j < 4 → (kd j = 0 ∨ kd j = 1) ∧ (ln j).toInt.natAbs ≤ 1000 ∧ (st j).toInt.natAbs ≤ 1000000
theorem fg_tpL {kd ln st : Nat → Int32} (h : okA kd ln st) {j : Nat} (hj : j < 4) : FG 1012 1086 (tpL kd ln st j) := by
  obtain ⟨-, h2, h3⟩ := h j hj
  have a := (fg_i2d (x := ln j) (k := 10) (by rw [show (2 : Nat) ^ 10 = 1024 by decide]; omega) (by omega)).1
  unfold tpL
  split
  · exact (fg_add (a.mono (G' := 1012) (E' := 1085) (by omega) (by omega)) (fg_div h3) (by omega)).1
  · exact a.mono (by omega) (by omega)
theorem fg_tpM {kd ln st : Nat → Int32} (h : okA kd ln st) {j : Nat} (hj : j < 4) (u : Int) : FG 91 1088 (FP.dmul (tpL kd ln st j) (sV u)) := (fg_mul (fg_tpL h hj) (fg_sV u).1 (by omega) (by omega) (by omega)).mono (by omega) (by omega)
theorem fg_tpX {kd ln st : Nat → Int32} (h : okA kd ln st) : ∀ n, n ≤ 4 → FG 91 (1088 + n) (tpX kd ln st n) ∧ NZ (tpX kd ln st n)
  | 0, _ => ⟨kg_0 _ _, kn_0⟩
  | n + 1, hn => by
    have a := fg_tpX h n (by omega)
    have b := fg_add a.1 ((fg_tpM h (j := n) (by omega) (tpU kd st (n + 1) + 250000)).mono (G' := 91) (E' := 1088 + n) (by omega) (by omega)) (by omega)
    exact ⟨b.1, b.2 (Or.inl a.2)⟩
theorem fg_tpY {kd ln st : Nat → Int32} (h : okA kd ln st) : ∀ n, n ≤ 4 → FG 91 (1088 + n) (tpY kd ln st n) ∧ NZ (tpY kd ln st n)
  | 0, _ => ⟨kg_0 _ _, kn_0⟩
  | n + 1, hn => by
    have a := fg_tpY h n (by omega)
    have b := fg_add a.1 ((fg_tpM h (j := n) (by omega) (tpU kd st (n + 1))).mono (G' := 91) (E' := 1088 + n) (by omega) (by omega)) (by omega)
    exact ⟨b.1, b.2 (Or.inl a.2)⟩
theorem tpU_lim {kd ln st : Nat → Int32} (h : okA kd ln st) : ∀ n, n ≤ 4 → (tpU kd st n).natAbs ≤ 1000000 * n
  | 0, _ => by show (0 : Int).natAbs ≤ _; omega
  | n + 1, hn => by
    have a := tpU_lim h n (by omega)
    have b := (h n (by omega)).2.2
    unfold tpU
    split <;> omega
end
section
theorem wD_sD (w : Wd) (t k : Nat) (v : UInt64) (a j : Nat) : wD (sD w t k v) a j = if a = t ∧ j = k then v else wD w a j := rfl
/-- a tip's two numbers -/
def tipW (w : Wd) (t k : Nat) (x y : UInt64) : Wd := sD (sD w t k x) t (k + 1) y
theorem tip_x (w : Wd) (t k : Nat) (x y : UInt64) : wD (tipW w t k x y) t k = x := by
  unfold tipW
  rw [wD_sD, if_neg (by omega), wD_sD, if_pos ⟨rfl, rfl⟩]
theorem tip_y (w : Wd) (t k : Nat) (x y : UInt64) : wD (tipW w t k x y) t (k + 1) = y := by
  unfold tipW
  rw [wD_sD, if_pos ⟨rfl, rfl⟩]
theorem tip_y2 (w : Wd) (t k : Nat) (x y x2 : UInt64) : wD (sD (tipW w t k x y) t k x2) t (k + 1) = y := by
  rw [wD_sD, if_neg (by omega), tip_y]
theorem tip_s (w : Wd) (t k : Nat) (x y x2 y2 : UInt64) : sD (sD (tipW w t k x y) t k x2) t (k + 1) y2 = tipW w t k x2 y2 := by
  have e : up2 (up2 (up2 (up2 w.2.2.2.2.2 t k x) t (k + 1) y) t k x2) t (k + 1) y2 = up2 (up2 w.2.2.2.2.2 t k x2) t (k + 1) y2 := by
    funext a j
    unfold up2
    by_cases h : a = t ∧ j = k + 1
    · simp only [if_pos h]
    · simp only [if_neg h]
      by_cases h2 : a = t ∧ j = k
      · simp only [if_pos h2]
      · simp only [if_neg h2]
  exact congrArg (fun f => (w.1, w.2.1, w.2.2.1, w.2.2.2.1, w.2.2.2.2.1, f)) e
theorem tpU_s {kd st : Nat → Int32} {j : Nat} (h : kd j = 1) : tpU kd st (j + 1) = tpU kd st j := if_pos h
theorem tpU_t {kd st : Nat → Int32} {j : Nat} (h : ¬ kd j = 1) : tpU kd st (j + 1) = tpU kd st j + (st j).toInt := if_neg h
theorem tpL_s {kd ln st : Nat → Int32} {j : Nat} (h : kd j = 1) : tpL kd ln st j = FP.dadd (FP.i2d (ln j)) (FP.ddiv (FP.i2d (st j)) 4652007308841189376) := if_pos h
theorem tpL_t {kd ln st : Nat → Int32} {j : Nat} (h : ¬ kd j = 1) : tpL kd ln st j = FP.i2d (ln j) := if_neg h
theorem g_w {X : Cx} {ce sl pc : Nat} {lv : Nat → Option Value} {st : List Value} {w : Wd} (w' : Wd) (e : w = w') (k : G X ce sl pc lv st w') : G X ce sl pc lv st w := by rw [e]; exact k
-- the tip by the joints and the states
set_option maxRecDepth 100000 in
set_option maxHeartbeats 4000000 in
theorem ct_X8_follow (l : Launch) (E : EE) (w : Wd) (t ja sa : Nat) (jo : Nat → Nat) (kd ln st : Nat → Int32) (hlo : E.2.2 ≤ wN w) (hT : wK w t = some (.inl 8)) (hJ : wK w ja = some (.inr (4, 4))) (hS : wK w sa = some (.inr (0, 4))) (hjr : ∀ j, j < 4 → wR w ja j = some (jo j)) (hjk : ∀ j, j < 4 → wK w (jo j) = some (.inl 2)) (hkd : ∀ j, j < 4 → wI w (jo j) 0 = kd j) (hln : ∀ j, j < 4 → wI w (jo j) 1 = ln j) (hst : ∀ j, j < 4 → wI w sa j = st j) (hA : okA kd ln st) : Ct l E yX8_follow cX8_follow 7 none ({ frames := 1, cells := 0, slots := 0, locals := 29 } : Room) [.ref t, .ref ja, .ref sa] w 0 0 (Px none (tipW w t 0 (tpX kd ln st 4) (tpY kd ln st 4))) := by
  refine ct_in (il := il_X8_follow) (by decide) dk_X8_follow (Nat.le_of_ble_eq_true rfl) hlo ?_
  intro X h hq

  have key : ∀ (d i : Nat) (u : Int32), i + d = 4 → u.toInt = tpU kd st i → G X 0 0 15 (lf [(0, .ref t), (1, .ref ja), (2, .ref sa), (3, .int u), (4, .int (nI i))]) [] (tipW w t 0 (tpX kd ln st i) (tpY kd ln st i)) := by
    intro d
    induction d with
    | zero =>
      intro i u hi hu
      have hi4 : i = 4 := by omega
      subst hi4
      refine g_iload h (i := 10) rfl rfl ?_
      refine g_iconst h (i := 11) rfl (v := 4) (by rfl) ?_
      refine g_icmp_ge h (i := 12) 107 rfl rfl (fun c_18 => ?_) (fun c_18 => absurd (by decide : (4 : Int32) ≤ nI 4) c_18)
      exact g_vret hq h (i := 63) rfl (⟨rfl, rfl⟩)
    | succ d ih =>
      intro i u hid hu
      have hi : i < 4 := by omega
      have hcl : (nI i).toNatClampNeg = i := nI_clamp (by omega)
      have hvp : vp_in (nI i) 4 := vp_in_nI hi (by omega)
      have hnge : ¬ (4 : Int32) ≤ nI i := nI_ge (b := 4) hi (by omega)
      have fl := fg_tpL hA hi
      have ul := tpU_lim hA i (by omega)
      have ul2 := tpU_lim hA (i + 1) (by omega)
      have sl := (hA i hi).2.2
      have k66 : ∀ u2 : Int32, u2.toInt = tpU kd st (i + 1) → G X 0 0 66 (lf [(0, .ref t), (1, .ref ja), (2, .ref sa), (3, .int u2), (4, .int (nI i)), (5, .double (tpL kd ln st i))]) [] (tipW w t 0 (tpX kd ln st i) (tpY kd ln st i)) := by
        intro u2 hu2
        have e2 : (u2 + 250000).toInt = tpU kd st (i + 1) + 250000 := by rw [i_add (by rw [show (250000 : Int32).toInt = 250000 by decide]; omega) (by rw [show (250000 : Int32).toInt = 250000 by decide]; omega), hu2]; rfl
        have mx := (fg_tpM hA hi (tpU kd st (i + 1) + 250000)).n64
        have my := (fg_tpM hA hi (tpU kd st (i + 1))).n64
        have ax := (fg_tpX hA (i + 1) (by omega)).1.n64
        have ay := (fg_tpY hA (i + 1) (by omega)).1.n64
        refine g_aload_n h (i := 41) rfl rfl ?_
        refine g_aload_n h (i := 42) rfl rfl ?_
        refine g_getD h (i := 43) rfl fl_X8_9 (fun _ _ _ => rfl) hT ?_
        refine g_eqd (tpX kd ln st i) (tip_x _ _ _ _ _) ?_
        refine g_dload h (i := 44) rfl rfl ?_
        refine g_iload_n h (i := 45) rfl rfl ?_
        refine g_ldc h (i := 46) rfl k_X8_29 ?_
        refine g_iadd h (i := 47) rfl ?_
        refine g_callSx h hq (i := 48) rfl ms_X8_30 (ct_X8_sineOf l E _ _ hlo) rfl rfl ⟨rfl, rfl, Nat.le_of_ble_eq_true rfl, Nat.le_of_ble_eq_true rfl⟩ (Nat.le_of_ble_eq_true rfl) ⟨Nat.zero_le _, Nat.zero_le _⟩ ?_
        refine g_eqd (sV (tpU kd st (i + 1) + 250000)) (by rw [e2]) ?_
        refine g_dmul h (i := 49) rfl (mx) ?_
        refine g_dadd h (i := 50) rfl (ax) ?_
        refine g_eqd (tpX kd ln st (i + 1)) rfl ?_
        refine g_putD_0 h (i := 51) rfl fl_X8_9 nf_8_0 (fun _ _ _ => rfl) hT (rfl) (by rfl) ?_
        refine g_aload_n h (i := 52) rfl rfl ?_
        refine g_aload_n h (i := 53) rfl rfl ?_
        refine g_getD h (i := 54) rfl fl_X8_15 (fun _ _ _ => rfl) hT ?_
        refine g_eqd (tpY kd ln st i) (tip_y2 _ _ _ _ _ _) ?_
        refine g_dload h (i := 55) rfl rfl ?_
        refine g_iload_n h (i := 56) rfl rfl ?_
        refine g_callSx h hq (i := 57) rfl ms_X8_30 (ct_X8_sineOf l E _ _ hlo) rfl rfl ⟨rfl, rfl, Nat.le_of_ble_eq_true rfl, Nat.le_of_ble_eq_true rfl⟩ (Nat.le_of_ble_eq_true rfl) ⟨Nat.zero_le _, Nat.zero_le _⟩ ?_
        refine g_eqd (sV (tpU kd st (i + 1))) (by rw [hu2]) ?_
        refine g_dmul h (i := 58) rfl (my) ?_
        refine g_dadd h (i := 59) rfl (ay) ?_
        refine g_eqd (tpY kd ln st (i + 1)) rfl ?_
        refine g_putD_0 h (i := 60) rfl fl_X8_15 nf_8_1 (fun _ _ _ => rfl) hT (rfl) (by rfl) ?_
        refine g_w _ (tip_s _ _ 0 _ _ _ _) ?_
        refine g_iinc h (i := 61) rfl rfl (dv := 1) (by rfl) ?_
        refine g_goto h (i := 62) 15 rfl rfl ?_
        exact g_lv [(0, .ref t), (1, .ref ja), (2, .ref sa), (3, .int u2), (4, .int (nI (i + 1)))] ⟨rfl, rfl, rfl, rfl, congrArg (fun z => some (Value.int z)) (nI_1 i), trivial⟩ (ih (i + 1) u2 (by omega) hu2)
      refine g_iload h (i := 10) rfl rfl ?_
      refine g_iconst h (i := 11) rfl (v := 4) (by rfl) ?_
      refine g_icmp_ge h (i := 12) 107 rfl rfl (fun c_18 => absurd c_18 hnge) (fun c_18 => ?_)
      refine g_aload_n h (i := 13) rfl rfl ?_
      refine g_iload h (i := 14) rfl rfl ?_
      refine g_aald h (i := 15) rfl (by decide) hJ (hvp) (by rw [hcl]; exact hjr i hi) ?_
      refine g_getI h (i := 16) rfl fl_X8_18 (fun _ _ _ => rfl) (hjk i hi) ?_
      refine g_eqi (ln i) (hln i hi) ?_
      refine g_i2d h (i := 17) rfl ?_
      refine g_dstore h (i := 18) rfl hq rfl ?_
      refine g_aload_n h (i := 19) rfl rfl ?_
      refine g_iload h (i := 20) rfl rfl ?_
      refine g_aald h (i := 21) rfl (by decide) hJ (hvp) (by rw [hcl]; exact hjr i hi) ?_
      refine g_getI h (i := 22) rfl fl_X8_24 (fun _ _ _ => rfl) (hjk i hi) ?_
      refine g_eqi (kd i) (hkd i hi) ?_
      refine g_iconst h (i := 23) rfl (v := 1) (by rfl) ?_
      refine g_icmp_ne h (i := 24) 59 rfl rfl (fun c_39 => ?_) (fun c_39 => ?_)
      · skip
        refine g_iload_n h (i := 35) rfl rfl ?_
        refine g_aload_n h (i := 36) rfl rfl ?_
        refine g_iload h (i := 37) rfl rfl ?_
        refine g_iald h (i := 38) rfl hS (hvp) ?_
        refine g_eqi (st i) (by rw [hcl]; exact hst i hi) ?_
        refine g_iadd h (i := 39) rfl ?_
        refine g_istore_n h (i := 40) rfl hq rfl ?_
        refine g_lv [(0, .ref t), (1, .ref ja), (2, .ref sa), (3, .int _), (4, .int (nI i)), (5, .double (tpL kd ln st i))] ⟨rfl, rfl, rfl, rfl, rfl, ?_, trivial⟩ (k66 _ ?_)
        · exact congrArg (fun z => some (Value.double z)) (tpL_t c_39).symm
        · rw [tpU_t c_39, ← hu, i_add (by rw [hu]; omega) (by rw [hu]; omega)]
      · skip
        refine g_dload h (i := 25) rfl rfl ?_
        refine g_aload_n h (i := 26) rfl rfl ?_
        refine g_iload h (i := 27) rfl rfl ?_
        refine g_iald h (i := 28) rfl hS (hvp) ?_
        refine g_eqi (st i) (by rw [hcl]; exact hst i hi) ?_
        refine g_i2d h (i := 29) rfl ?_
        refine g_ldc2d h (i := 30) rfl k_X8_27 ?_
        refine g_ddiv h (i := 31) rfl ((fg_div sl).n64) ?_
        refine g_dadd h (i := 32) rfl (by have h9 := fl; rw [tpL_s c_39] at h9; exact h9.n64) ?_
        refine g_dstore h (i := 33) rfl hq rfl ?_
        refine g_goto h (i := 34) 66 rfl rfl ?_
        refine g_lv [(0, .ref t), (1, .ref ja), (2, .ref sa), (3, .int _), (4, .int (nI i)), (5, .double (tpL kd ln st i))] ⟨rfl, rfl, rfl, rfl, rfl, ?_, trivial⟩ (k66 u ?_)
        · exact congrArg (fun z => some (Value.double z)) (tpL_s c_39).symm
        · rw [tpU_s c_39, hu]
  refine g_aload_n h (i := 0) rfl rfl ?_
  refine g_dconst0 h (i := 1) rfl ?_
  refine g_putD_0 h (i := 2) rfl fl_X8_9 nf_8_0 (fun _ _ _ => rfl) hT (rfl) (by rfl) ?_
  refine g_aload_n h (i := 3) rfl rfl ?_
  refine g_dconst0 h (i := 4) rfl ?_
  refine g_putD_0 h (i := 5) rfl fl_X8_15 nf_8_1 (fun _ _ _ => rfl) hT (rfl) (by rfl) ?_
  refine g_iconst h (i := 6) rfl (v := 0) (by rfl) ?_
  refine g_istore_n h (i := 7) rfl hq rfl ?_
  refine g_iconst h (i := 8) rfl (v := 0) (by rfl) ?_
  refine g_istore h (i := 9) rfl hq rfl ?_
  exact g_lv [(0, .ref t), (1, .ref ja), (2, .ref sa), (3, .int 0), (4, .int (nI 0))] ⟨rfl, rfl, rfl, rfl, rfl, trivial⟩ (key 4 0 0 (by omega) (by rfl))
-- the tip by the joints and the states
set_option maxRecDepth 100000 in
set_option maxHeartbeats 4000000 in
theorem ct_X10_findTip (l : Launch) (E : EE) (w : Wd) (b ra la sa : Nat) (kd ln st : Nat → Int32) (hlo : E.2.2 ≤ wN w) (hT : wK w b = some (.inl 10)) (r0 : wR w b 0 = some ra) (r2 : wR w b 2 = some sa) (r3 : wR w b 3 = some la) (kr : wK w ra = some (.inr (2, 408))) (ks : wK w sa = some (.inr (1, 4))) (kl : wK w la = some (.inr (0, 4))) (hkd : ∀ j, j < 4 → wI w sa j = kd j) (hln : ∀ j, j < 4 → wI w la j = ln j) (hst : ∀ j, j < 4 → wJ w ra j = (st j).toInt64) (hA : okA kd ln st) : Ct l E yX10_findTip cX10_findTip 6 none ({ frames := 1, cells := 0, slots := 0, locals := 31 } : Room) [.ref b] w 0 0 (Px none (tipW w b 20 (tpX kd ln st 4) (tpY kd ln st 4))) := by
  refine ct_in (il := il_X10_findTip) (by decide) dk_X10_findTip (Nat.le_of_ble_eq_true rfl) hlo ?_
  intro X h hq

  have key : ∀ (d i : Nat) (u : Int64), i + d = 4 → u.toInt = tpU kd st i → G X 0 0 14 (lf [(0, .ref b), (1, .long u), (3, .int (nI i))]) [] (tipW w b 20 (tpX kd ln st i) (tpY kd ln st i)) := by
    intro d
    induction d with
    | zero =>
      intro i u hi hu
      have hi4 : i = 4 := by omega
      subst hi4
      refine g_iload_n h (i := 10) rfl rfl ?_
      refine g_iconst h (i := 11) rfl (v := 4) (by rfl) ?_
      refine g_icmp_ge h (i := 12) 111 rfl rfl (fun c_16 => ?_) (fun c_16 => absurd (by decide : (4 : Int32) ≤ nI 4) c_16)
      exact g_vret hq h (i := 68) rfl (⟨rfl, rfl⟩)
    | succ d ih =>
      intro i u hid hu
      have hi : i < 4 := by omega
      have hcl : (nI i).toNatClampNeg = i := nI_clamp (by omega)
      have hvp : vp_in (nI i) 4 := vp_in_nI hi (by omega)
      have hnge : ¬ (4 : Int32) ≤ nI i := nI_ge (b := 4) hi (by omega)
      have h0i : (0 : Int32) + nI i = nI i := by rw [Int32.zero_add]
      have hv4 : vp_in (nI i) 408 := vp_in_nI (by omega) (by omega)
      have hrow : wJ w ra (nI i).toNatClampNeg = (st i).toInt64 := by rw [hcl]; exact hst i hi
      have hl2d : FP.l2d (st i).toInt64 = FP.i2d (st i) := l2d_i2d (i_l _)
      have fl := fg_tpL hA hi
      have ul := tpU_lim hA i (by omega)
      have ul2 := tpU_lim hA (i + 1) (by omega)
      have sl := (hA i hi).2.2
      have k69 : ∀ u2 : Int64, u2.toInt = tpU kd st (i + 1) → G X 0 0 69 (lf [(0, .ref b), (1, .long u2), (3, .int (nI i)), (4, .double (tpL kd ln st i))]) [] (tipW w b 20 (tpX kd ln st i) (tpY kd ln st i)) := by
        intro u2 hu2
        have e2 : (u2 + 250000).toInt = tpU kd st (i + 1) + 250000 := by rw [l_add (by rw [show (250000 : Int64).toInt = 250000 by decide]; omega) (by rw [show (250000 : Int64).toInt = 250000 by decide]; omega), hu2]; rfl
        have mx := (fg_tpM hA hi (tpU kd st (i + 1) + 250000)).n64
        have my := (fg_tpM hA hi (tpU kd st (i + 1))).n64
        have ax := (fg_tpX hA (i + 1) (by omega)).1.n64
        have ay := (fg_tpY hA (i + 1) (by omega)).1.n64
        refine g_aload_n h (i := 46) rfl rfl ?_
        refine g_aload_n h (i := 47) rfl rfl ?_
        refine g_getD h (i := 48) rfl fl_X10_132 (fun _ _ _ => rfl) hT ?_
        refine g_eqd (tpX kd ln st i) (tip_x _ _ _ _ _) ?_
        refine g_dload h (i := 49) rfl rfl ?_
        refine g_lload_n h (i := 50) rfl rfl ?_
        refine g_ldc2 h (i := 51) rfl k_X10_104 ?_
        refine g_ladd h (i := 52) rfl ?_
        refine g_callSx h hq (i := 53) rfl ms_X10_141 (ct_X10_sineOf l E _ _ hlo) rfl rfl ⟨rfl, rfl, Nat.le_of_ble_eq_true rfl, Nat.le_of_ble_eq_true rfl⟩ (Nat.le_of_ble_eq_true rfl) ⟨Nat.zero_le _, Nat.zero_le _⟩ ?_
        refine g_eqd (sV (tpU kd st (i + 1) + 250000)) (by rw [e2]) ?_
        refine g_dmul h (i := 54) rfl (mx) ?_
        refine g_dadd h (i := 55) rfl (ax) ?_
        refine g_eqd (tpX kd ln st (i + 1)) rfl ?_
        refine g_putD_0 h (i := 56) rfl fl_X10_132 nf_10_20 (fun _ _ _ => rfl) hT (rfl) (by rfl) ?_
        refine g_aload_n h (i := 57) rfl rfl ?_
        refine g_aload_n h (i := 58) rfl rfl ?_
        refine g_getD h (i := 59) rfl fl_X10_136 (fun _ _ _ => rfl) hT ?_
        refine g_eqd (tpY kd ln st i) (tip_y2 _ _ _ _ _ _) ?_
        refine g_dload h (i := 60) rfl rfl ?_
        refine g_lload_n h (i := 61) rfl rfl ?_
        refine g_callSx h hq (i := 62) rfl ms_X10_141 (ct_X10_sineOf l E _ _ hlo) rfl rfl ⟨rfl, rfl, Nat.le_of_ble_eq_true rfl, Nat.le_of_ble_eq_true rfl⟩ (Nat.le_of_ble_eq_true rfl) ⟨Nat.zero_le _, Nat.zero_le _⟩ ?_
        refine g_eqd (sV (tpU kd st (i + 1))) (by rw [hu2]) ?_
        refine g_dmul h (i := 63) rfl (my) ?_
        refine g_dadd h (i := 64) rfl (ay) ?_
        refine g_eqd (tpY kd ln st (i + 1)) rfl ?_
        refine g_putD_0 h (i := 65) rfl fl_X10_136 nf_10_21 (fun _ _ _ => rfl) hT (rfl) (by rfl) ?_
        refine g_w _ (tip_s _ _ 20 _ _ _ _) ?_
        refine g_iinc h (i := 66) rfl rfl (dv := 1) (by rfl) ?_
        refine g_goto h (i := 67) 14 rfl rfl ?_
        exact g_lv [(0, .ref b), (1, .long u2), (3, .int (nI (i + 1)))] ⟨rfl, rfl, congrArg (fun z => some (Value.int z)) (nI_1 i), trivial⟩ (ih (i + 1) u2 (by omega) hu2)
      refine g_iload_n h (i := 10) rfl rfl ?_
      refine g_iconst h (i := 11) rfl (v := 4) (by rfl) ?_
      refine g_icmp_ge h (i := 12) 111 rfl rfl (fun c_16 => absurd c_16 hnge) (fun c_16 => ?_)
      refine g_aload_n h (i := 13) rfl rfl ?_
      refine g_getR h (i := 14) rfl fl_X10_20 (fun _ _ _ => rfl) hT r3 ?_
      refine g_iload_n h (i := 15) rfl rfl ?_
      refine g_iald h (i := 16) rfl kl (hvp) ?_
      refine g_eqi (ln i) (by rw [hcl]; exact hln i hi) ?_
      refine g_i2d h (i := 17) rfl ?_
      refine g_dstore h (i := 18) rfl hq rfl ?_
      refine g_aload_n h (i := 19) rfl rfl ?_
      refine g_getR h (i := 20) rfl fl_X10_17 (fun _ _ _ => rfl) hT r2 ?_
      refine g_iload_n h (i := 21) rfl rfl ?_
      refine g_zald h (i := 22) rfl ks (hvp) ?_
      refine g_eqi (kd i) (by rw [hcl]; exact hkd i hi) ?_
      refine g_if_eq h (i := 23) 58 rfl rfl (fun c_34 => ?_) (fun c_34 => ?_)
      · skip
        refine g_lload_n h (i := 37) rfl rfl ?_
        refine g_aload_n h (i := 38) rfl rfl ?_
        refine g_getR h (i := 39) rfl fl_X10_7 (fun _ _ _ => rfl) hT r0 ?_
        refine g_iconst h (i := 40) rfl (v := 0) (by rfl) ?_
        refine g_iload_n h (i := 41) rfl rfl ?_
        refine g_iadd h (i := 42) rfl ?_
        refine g_eqi (nI i) h0i ?_
        refine g_lald h (i := 43) rfl kr (hv4) ?_
        refine g_eql (st i).toInt64 hrow ?_
        refine g_ladd h (i := 44) rfl ?_
        refine g_lstore_n h (i := 45) rfl hq rfl ?_
        have c9 : ¬ kd i = 1 := by rw [c_34]; decide
        refine g_lv [(0, .ref b), (1, .long _), (3, .int (nI i)), (4, .double (tpL kd ln st i))] ⟨rfl, rfl, rfl, ?_, trivial⟩ (k69 _ ?_)
        · exact congrArg (fun z => some (Value.double z)) (tpL_t c9).symm
        · rw [tpU_t c9, ← hu, l_add (by rw [hu, i_l]; omega) (by rw [hu, i_l]; omega), i_l]
      · skip
        have c8 : kd i = 1 := ((hA i hi).1.resolve_left c_34)
        refine g_dload h (i := 24) rfl rfl ?_
        refine g_aload_n h (i := 25) rfl rfl ?_
        refine g_getR h (i := 26) rfl fl_X10_7 (fun _ _ _ => rfl) hT r0 ?_
        refine g_iconst h (i := 27) rfl (v := 0) (by rfl) ?_
        refine g_iload_n h (i := 28) rfl rfl ?_
        refine g_iadd h (i := 29) rfl ?_
        refine g_eqi (nI i) h0i ?_
        refine g_lald h (i := 30) rfl kr (hv4) ?_
        refine g_eql (st i).toInt64 hrow ?_
        refine g_l2d h (i := 31) rfl ?_
        refine g_eqd (FP.i2d (st i)) hl2d ?_
        refine g_ldc2d h (i := 32) rfl k_X10_139 ?_
        refine g_ddiv h (i := 33) rfl ((fg_div sl).n64) ?_
        refine g_dadd h (i := 34) rfl (by have h9 := fl; rw [tpL_s c8] at h9; exact h9.n64) ?_
        refine g_dstore h (i := 35) rfl hq rfl ?_
        refine g_goto h (i := 36) 69 rfl rfl ?_
        refine g_lv [(0, .ref b), (1, .long _), (3, .int (nI i)), (4, .double (tpL kd ln st i))] ⟨rfl, rfl, rfl, ?_, trivial⟩ (k69 u ?_)
        · exact congrArg (fun z => some (Value.double z)) (tpL_s c8).symm
        · rw [tpU_s c8, hu]
  refine g_aload_n h (i := 0) rfl rfl ?_
  refine g_dconst0 h (i := 1) rfl ?_
  refine g_putD_0 h (i := 2) rfl fl_X10_132 nf_10_20 (fun _ _ _ => rfl) hT (rfl) (by rfl) ?_
  refine g_aload_n h (i := 3) rfl rfl ?_
  refine g_dconst0 h (i := 4) rfl ?_
  refine g_putD_0 h (i := 5) rfl fl_X10_136 nf_10_21 (fun _ _ _ => rfl) hT (rfl) (by rfl) ?_
  refine g_lconst h (i := 6) rfl (v := 0) (by rfl) ?_
  refine g_lstore_n h (i := 7) rfl hq rfl ?_
  refine g_iconst h (i := 8) rfl (v := 0) (by rfl) ?_
  refine g_istore_n h (i := 9) rfl hq rfl ?_
  exact g_lv [(0, .ref b), (1, .long 0), (3, .int (nI 0))] ⟨rfl, rfl, rfl, trivial⟩ (key 4 0 0 (by omega) (by rfl))
end
section
/-- how far k ticks of a rise go: the sum of the least of a i and v -/
def rsN (a v : Nat) : Nat → Nat
  | 0 => 0
  | k + 1 => rsN a v k + min (a * (k + 1)) v
theorem rs_mono (a v : Nat) {j k : Nat} (h : j ≤ k) : rsN a v j ≤ rsN a v k := by
  induction k with
  | zero => rw [show j = 0 by omega]; exact Nat.le_refl _
  | succ k ih =>
    rcases Nat.lt_or_ge k j with g | g
    · rw [show j = k + 1 by omega]; exact Nat.le_refl _
    · exact Nat.le_trans (ih g) (Nat.le_add_right _ _)
theorem rs_le (a v k : Nat) : rsN a v k ≤ v * k := by
  induction k with
  | zero => exact Nat.le_refl _
  | succ k ih =>
    have h1 : v * (k + 1) = v * k + v := Nat.mul_succ v k
    have h2 : min (a * (k + 1)) v ≤ v := Nat.min_le_right _ _
    show rsN a v k + min (a * (k + 1)) v ≤ v * (k + 1)
    omega
/-- a triangle number, doubled -/
theorem rs_low {a v m : Nat} (hm : ∀ i, i ≤ m → a * i ≤ v) : ∀ k, k ≤ m → 2 * rsN a v k = a * k * (k + 1)
  | 0, _ => by show 2 * 0 = a * 0 * 1; omega
  | k + 1, h => by
    have ih := rs_low hm k (by omega)
    have h2 := hm (k + 1) h
    unfold rsN
    rw [Nat.min_eq_left h2, Nat.mul_add, ih]
    have e1 : a * (k + 1) * (k + 1 + 1) = a * k * (k + 1) + 2 * (a * (k + 1)) := by
      rw [Nat.mul_add (a * (k + 1)) (k + 1) 1, Nat.mul_add (a * (k + 1)) k 1]
      have : a * (k + 1) * k = a * k * (k + 1) := by ac_rfl
      omega
    omega
theorem rs_high {a v m : Nat} (hm : ∀ i, m < i → v ≤ a * i) : ∀ d, rsN a v (m + d) = rsN a v m + v * d
  | 0 => by rw [Nat.mul_zero]; rfl
  | d + 1 => by
    have ih := rs_high hm d
    have h2 := hm (m + d + 1) (by omega)
    show rsN a v (m + d) + min (a * (m + d + 1)) v = _
    rw [Nat.min_eq_right h2, ih, Nat.mul_succ]
    omega
theorem rs_a {a v m k : Nat} (hm : ∀ i, i ≤ m → a * i ≤ v) (h : k ≤ m) : a * k * (k + 1) / 2 = rsN a v k := by
  have := rs_low hm k h
  omega
theorem rs_b {a v m k : Nat} (h1 : ∀ i, i ≤ m → a * i ≤ v) (h2 : ∀ i, m < i → v ≤ a * i) (h : m ≤ k) : a * m * (m + 1) / 2 + v * (k - m) = rsN a v k := by
  have e1 := rs_a h1 (Nat.le_refl m)
  have e2 := rs_high h2 (k - m)
  rw [show m + (k - m) = k by omega] at e2
  omega
theorem rs_f1 {a v : Nat} (ha : 0 < a) : (∀ i, i ≤ v / a → a * i ≤ v) ∧ (∀ i, v / a < i → v ≤ a * i) := by
  refine ⟨fun i h => ?_, fun i h => ?_⟩
  · have := (Nat.le_div_iff_mul_le ha).mp h
    rw [Nat.mul_comm]; exact this
  · have := (Nat.div_lt_iff_lt_mul ha).mp h
    rw [Nat.mul_comm]; omega
theorem rs_f2 {a v : Nat} (ha : 0 < a) (hv : 0 < v) : (∀ i, i ≤ (v - 1) / a → a * i ≤ v) ∧ (∀ i, (v - 1) / a < i → v ≤ a * i) := by
  refine ⟨fun i h => ?_, fun i h => ?_⟩
  · have := (Nat.le_div_iff_mul_le ha).mp h
    rw [Nat.mul_comm]; omega
  · have := (Nat.div_lt_iff_lt_mul ha).mp h
    rw [Nat.mul_comm]; omega
/-- how far t of n ticks go -/
def gnN (a v n t : Nat) : Nat := if t ≤ n - n / 2 then rsN a v t else rsN a v (n / 2) + rsN a v (n - n / 2) - rsN a v (n - t)
/-- whether n ticks go w -/
def gnP (a v w n : Nat) : Bool := decide (w ≤ rsN a v (n / 2) + rsN a v (n - n / 2))
/-- the search for the least n: it halves -/
def srN (P : Nat → Bool) : Nat → Nat → Nat → Nat
  | 0, lo, _ => lo
  | f + 1, lo, hi => if lo < hi then (if P ((lo + hi) / 2) then srN P f lo ((lo + hi) / 2) else srN P f ((lo + hi) / 2 + 1) hi) else lo
theorem sr_done (P : Nat → Bool) {lo hi : Nat} (h : ¬ lo < hi) : ∀ f, srN P f lo hi = lo
  | 0 => rfl
  | f + 1 => by unfold srN; rw [if_neg h]
theorem sr_le (P : Nat → Bool) : ∀ (f lo hi : Nat), lo ≤ hi → srN P f lo hi ≤ hi
  | 0, lo, hi, h => h
  | f + 1, lo, hi, h => by
    unfold srN
    split
    · split
      · exact Nat.le_trans (sr_le P f lo _ (by omega)) (by omega)
      · exact sr_le P f _ hi (by omega)
    · exact h
theorem sr_step (P : Nat → Bool) {lo hi : Nat} (h : lo < hi) (f : Nat) : srN P (f + 1) lo hi = if P ((lo + hi) / 2) then srN P f lo ((lo + hi) / 2) else srN P f ((lo + hi) / 2 + 1) hi := if_pos h
def lsN (a v w : Nat) : Nat := srN (gnP a v w) 32 0 w
theorem ls_le (a v w : Nat) : lsN a v w ≤ w := sr_le _ _ _ _ (by omega)
theorem gn_nn (a v n : Nat) : gnN a v n n = rsN a v (n / 2) + rsN a v (n - n / 2) := by
  unfold gnN
  split
  · have h : n / 2 = 0 := by omega
    rw [h, Nat.sub_zero]
    show _ = 0 + _
    rw [Nat.zero_add]
  · rw [Nat.sub_self]
    show _ - 0 = _
    omega
theorem gn_le (a v n t : Nat) (h : t ≤ n) : gnN a v n t ≤ v * n := by
  have h1 := rs_le a v t
  have h2 := rs_le a v (n / 2)
  have h3 := rs_le a v (n - n / 2)
  have h4 : v * (n / 2) + v * (n - n / 2) = v * n := by rw [← Nat.mul_add, show n / 2 + (n - n / 2) = n by omega]
  have h5 := Nat.mul_le_mul_left v h
  unfold gnN
  split <;> omega
def mB (a v : Nat) : Prop := 0 < a ∧ a ≤ 100000 ∧ 0 < v ∧ v ≤ 100000
theorem tri_lt {a k : Nat} (ha : a ≤ 100000) (hk : k ≤ 100000) : a * k * (k + 1) ≤ 1000010000000000 := by
  have h1 : a * k ≤ 100000 * 100000 := Nat.mul_le_mul ha hk
  have h2 : a * k * (k + 1) ≤ 100000 * 100000 * (100000 + 1) := Nat.mul_le_mul h1 (by omega)
  omega
theorem tri_l {a k : Nat} (ha : a ≤ 100000) (hk : k ≤ 100000) : lN a * lN k * (lN k + 1) / 2 = lN (a * k * (k + 1) / 2) := by
  have h := tri_lt ha hk
  rw [lN_1, lN_mul, lN_mul]
  exact pk_lDiv (b := 2) (by omega) (by omega) (by omega)
theorem cl_a {a v m k : Nat} (hb : mB a v) (h1 : ∀ i, i ≤ m → a * i ≤ v) (hk : k ≤ m) (hm : m ≤ 100000) : lN a * lN k * (lN k + 1) / 2 = lN (rsN a v k) := by
  rw [tri_l hb.2.1 (by omega), rs_a h1 hk]
theorem cl_b {a v m k : Nat} (hb : mB a v) (h1 : ∀ i, i ≤ m → a * i ≤ v) (h2 : ∀ i, m < i → v ≤ a * i) (hk : m ≤ k) (hm : m ≤ 100000) : lN a * lN m * (lN m + 1) / 2 + lN v * (lN k - lN m) = lN (rsN a v k) := by
  rw [tri_l hb.2.1 hm, lN_sub hk, lN_mul, lN_add, rs_b h1 h2 hk]
theorem dv_le {v a : Nat} (hv : v ≤ 100000) : v / a ≤ 100000 := Nat.le_trans (Nat.div_le_self _ _) hv
/-- n and its halves -/
theorem hvN {n : Nat} (h : n < 2147483648) : nI n / 2 = nI (n / 2) ∧ nI n - nI (n / 2) = nI (n - n / 2) ∧ (lN n + 1) / 2 = lN (n - n / 2) := by
  refine ⟨pk_div (d := 2) h (by omega) (by omega), pk_sub (by omega), ?_⟩
  rw [lN_1, show n - n / 2 = (n + 1) / 2 by omega]
  exact pk_lDiv (b := 2) (by omega) (by omega) (by omega)
end
section
-- how far k ticks of a rise go
set_option maxRecDepth 100000 in
set_option maxHeartbeats 4000000 in
theorem ct_X4_climb (l : Launch) (E : EE) (w : Wd) (k v a : Nat) (hlo : E.2.2 ≤ wN w) (hb : mB a v) (hk : k ≤ 4000000) : Ct l E yX4_climb cX4_climb 4 (some .long) ({ frames := 0, cells := 0, slots := 0, locals := 0 } : Room) [.int (nI k), .int (nI v), .int (nI a)] w 0 0 (Px (some (.long (lN (rsN a v k)))) w) := by
  refine ct_in (il := il_X4_climb) (by decide) dk_X4_climb (Nat.le_of_ble_eq_true rfl) hlo ?_
  intro X h hq

  obtain ⟨m, hm⟩ : ∃ m, m = v / a := ⟨_, rfl⟩
  have hm5 : m ≤ 100000 := by rw [hm]; exact dv_le hb.2.2.2
  obtain ⟨f1, f2⟩ := rs_f1 (v := v) hb.1
  rw [← hm] at f1 f2
  have ba := hb.2.1
  have bv := hb.2.2.2
  have hdiv : nI v / nI a = nI m := by rw [hm]; exact pk_div (by omega) hb.1 (by omega)
  have hpos : ¬ nI a ≤ 0 := nI_nle hb.1 (by omega)
  have hne : ¬ nI a = 0 := nI_ne0 hb.1 (by omega)
  have la : (nI a).toInt64 = lN a := nI_l (by omega)
  have lv : (nI v).toInt64 = lN v := nI_l (by omega)
  have lk : (nI k).toInt64 = lN k := nI_l (by omega)
  have lm : (nI m).toInt64 = lN m := nI_l (by omega)
  have lk1 : (nI k + 1).toInt64 = lN k + 1 := by rw [nI_1, lN_1]; exact nI_l (by omega)
  have lm1 : (nI m + 1).toInt64 = lN m + 1 := by rw [nI_1, lN_1]; exact nI_l (by omega)
  refine g_iload_n h (i := 0) rfl rfl ?_
  refine g_if_le h (i := 1) 10 rfl rfl (fun c_1 => absurd c_1 hpos) (fun c_1 => ?_)
  refine g_iload_n h (i := 2) rfl rfl ?_
  refine g_iload_n h (i := 3) rfl rfl ?_
  refine g_idiv h (i := 4) rfl (hne) ?_
  refine g_eqi (nI m) hdiv ?_
  refine g_goto h (i := 5) 11 rfl rfl ?_
  refine g_istore_n h (i := 7) rfl hq rfl ?_
  refine g_iload_n h (i := 8) rfl rfl ?_
  refine g_iload_n h (i := 9) rfl rfl ?_
  refine g_icmp_gt h (i := 10) 32 rfl rfl (fun c_14 => ?_) (fun c_14 => ?_)
  · skip
    have hkm : m < k := (nI_ltI (by omega) (by omega)).mp c_14
    refine g_iload_n h (i := 24) rfl rfl ?_
    refine g_i2l h (i := 25) rfl ?_
    refine g_iload_n h (i := 26) rfl rfl ?_
    refine g_i2l h (i := 27) rfl ?_
    refine g_lmul h (i := 28) rfl ?_
    refine g_iload_n h (i := 29) rfl rfl ?_
    refine g_iconst h (i := 30) rfl (v := 1) (by rfl) ?_
    refine g_iadd h (i := 31) rfl ?_
    refine g_i2l h (i := 32) rfl ?_
    refine g_lmul h (i := 33) rfl ?_
    refine g_ldc2 h (i := 34) rfl k_X4_59 ?_
    refine g_ldiv h (i := 35) rfl (by decide) ?_
    refine g_iload_n h (i := 36) rfl rfl ?_
    refine g_i2l h (i := 37) rfl ?_
    refine g_iload_n h (i := 38) rfl rfl ?_
    refine g_iload_n h (i := 39) rfl rfl ?_
    refine g_isub h (i := 40) rfl ?_
    refine g_i2l h (i := 41) rfl ?_
    refine g_lmul h (i := 42) rfl ?_
    refine g_ladd h (i := 43) rfl ?_
    refine g_eql (lN (rsN a v k)) (by rw [la, lm, lm1, lv, pk_sub (Nat.le_of_lt hkm), nI_l (by omega), ← lN_sub (Nat.le_of_lt hkm)]; exact cl_b hb f1 f2 (Nat.le_of_lt hkm) hm5) ?_
    exact g_lret hq h (i := 44) rfl (⟨rfl, rfl⟩)
  · skip
    have hkm : k ≤ m := Nat.le_of_not_lt (fun g => c_14 (nI_lt g (by omega)))
    refine g_iload_n h (i := 11) rfl rfl ?_
    refine g_i2l h (i := 12) rfl ?_
    refine g_iload_n h (i := 13) rfl rfl ?_
    refine g_i2l h (i := 14) rfl ?_
    refine g_lmul h (i := 15) rfl ?_
    refine g_iload_n h (i := 16) rfl rfl ?_
    refine g_iconst h (i := 17) rfl (v := 1) (by rfl) ?_
    refine g_iadd h (i := 18) rfl ?_
    refine g_i2l h (i := 19) rfl ?_
    refine g_lmul h (i := 20) rfl ?_
    refine g_ldc2 h (i := 21) rfl k_X4_59 ?_
    refine g_ldiv h (i := 22) rfl (by decide) ?_
    refine g_eql (lN (rsN a v k)) (by rw [la, lk, lk1]; exact cl_a hb f1 hkm hm5) ?_
    exact g_lret hq h (i := 23) rfl (⟨rfl, rfl⟩)
-- how far k ticks of a rise go
set_option maxRecDepth 100000 in
set_option maxHeartbeats 4000000 in
theorem ct_X10_risen (l : Launch) (E : EE) (w : Wd) (a v k : Nat) (hlo : E.2.2 ≤ wN w) (hb : mB a v) (hk : k ≤ 4000000) : Ct l E yX10_risen cX10_risen 8 (some .long) ({ frames := 0, cells := 0, slots := 0, locals := 0 } : Room) [.long (lN a), .long (lN v), .long (lN k)] w 0 0 (Px (some (.long (lN (rsN a v k)))) w) := by
  refine ct_in (il := il_X10_risen) (by decide) dk_X10_risen (Nat.le_of_ble_eq_true rfl) hlo ?_
  intro X h hq

  obtain ⟨m, hm⟩ : ∃ m, m = (v - 1) / a := ⟨_, rfl⟩
  have hm5 : m ≤ 100000 := by rw [hm]; exact dv_le (by have := hb.2.2.2; omega)
  obtain ⟨f1, f2⟩ := rs_f2 (v := v) hb.1 hb.2.2.1
  rw [← hm] at f1 f2
  have ba := hb.2.1
  have bv := hb.2.2.2
  have bv1 := hb.2.2.1
  have hsub : lN v - 1 = lN (v - 1) := lN_sub (b := 1) (by omega)
  have hdiv : lN (v - 1) / lN a = lN m := by rw [hm]; exact pk_lDiv (by omega) hb.1 (by omega)
  have hne : ¬ lN a = 0 := fun q => absurd ((pk_lEQ (b := 0) (by omega) (by omega)).mp q) (by have := hb.1; omega)
  refine g_lload_n h (i := 0) rfl rfl ?_
  refine g_lconst h (i := 1) rfl (v := 1) (by rfl) ?_
  refine g_lsub h (i := 2) rfl ?_
  refine g_eql (lN (v - 1)) hsub ?_
  refine g_lload_n h (i := 3) rfl rfl ?_
  refine g_ldiv h (i := 4) rfl (hne) ?_
  refine g_eql (lN m) hdiv ?_
  refine g_lstore h (i := 5) rfl hq rfl ?_
  refine g_lload h (i := 6) rfl rfl ?_
  refine g_lload h (i := 7) rfl rfl ?_
  refine g_lcmp h (i := 8) rfl ?_
  refine g_if_gt h (i := 9) 31 rfl rfl (fun c_12 => ?_) (fun c_12 => ?_)
  · skip
    have hkm : m < k := (lN_lt (by omega) (by omega)).mp ((lg_cmp_gt _ _).mp c_12)
    refine g_lload_n h (i := 20) rfl rfl ?_
    refine g_lload h (i := 21) rfl rfl ?_
    refine g_lmul h (i := 22) rfl ?_
    refine g_lload h (i := 23) rfl rfl ?_
    refine g_lconst h (i := 24) rfl (v := 1) (by rfl) ?_
    refine g_ladd h (i := 25) rfl ?_
    refine g_lmul h (i := 26) rfl ?_
    refine g_ldc2 h (i := 27) rfl k_X10_168 ?_
    refine g_ldiv h (i := 28) rfl (by decide) ?_
    refine g_lload_n h (i := 29) rfl rfl ?_
    refine g_lload h (i := 30) rfl rfl ?_
    refine g_lload h (i := 31) rfl rfl ?_
    refine g_lsub h (i := 32) rfl ?_
    refine g_lmul h (i := 33) rfl ?_
    refine g_ladd h (i := 34) rfl ?_
    exact g_lret hq h (i := 35) rfl (⟨congrArg (fun z => some (Value.long z)) (cl_b hb f1 f2 (Nat.le_of_lt hkm) hm5), rfl⟩)
  · skip
    have hkm : k ≤ m := Nat.le_of_not_lt (fun g => c_12 ((lg_cmp_gt _ _).mpr ((lN_lt (by omega) (by omega)).mpr g)))
    refine g_lload_n h (i := 10) rfl rfl ?_
    refine g_lload h (i := 11) rfl rfl ?_
    refine g_lmul h (i := 12) rfl ?_
    refine g_lload h (i := 13) rfl rfl ?_
    refine g_lconst h (i := 14) rfl (v := 1) (by rfl) ?_
    refine g_ladd h (i := 15) rfl ?_
    refine g_lmul h (i := 16) rfl ?_
    refine g_ldc2 h (i := 17) rfl k_X10_168 ?_
    refine g_ldiv h (i := 18) rfl (by decide) ?_
    refine g_eql (lN (rsN a v k)) (cl_a hb f1 hkm hm5) ?_
    refine g_goto h (i := 19) 52 rfl rfl ?_
    exact g_lret hq h (i := 35) rfl (⟨rfl, rfl⟩)
-- how far t of n ticks go
set_option maxRecDepth 100000 in
set_option maxHeartbeats 4000000 in
theorem ct_X10_gone (l : Launch) (E : EE) (w : Wd) (a v n t : Nat) (hlo : E.2.2 ≤ wN w) (hb : mB a v) (hn : n ≤ 4000000) (ht : t ≤ n) : Ct l E yX10_gone cX10_gone 10 (some .long) ({ frames := 1, cells := 0, slots := 0, locals := 27 } : Room) [.long (lN a), .long (lN v), .long (lN n), .long (lN t)] w 0 0 (Px (some (.long (lN (gnN a v n t)))) w) := by
  refine ct_in (il := il_X10_gone) (by decide) dk_X10_gone (Nat.le_of_ble_eq_true rfl) hlo ?_
  intro X h hq

  obtain ⟨hv1, hv2, hv3⟩ := hvN (n := n) (by omega)
  have hs1 : lN n - lN (n - n / 2) = lN (n / 2) := by rw [lN_sub (by omega), show n - (n - n / 2) = n / 2 by omega]
  have hs2 : lN n - lN t = lN (n - t) := lN_sub ht
  have hA : t ≤ n - n / 2 → gnN a v n t = rsN a v t := fun g => if_pos g
  have hB : n - n / 2 < t → lN (rsN a v (n - n / 2)) + lN (rsN a v (n / 2)) - lN (rsN a v (n - t)) = lN (gnN a v n t) := fun g => by
    have hmn := rs_mono a v (show n - t ≤ n / 2 by omega)
    rw [lN_add, lN_sub (by omega)]
    unfold gnN
    rw [if_neg (by omega), Nat.add_comm]
  refine g_lload h (i := 0) rfl rfl ?_
  refine g_lconst h (i := 1) rfl (v := 1) (by rfl) ?_
  refine g_ladd h (i := 2) rfl ?_
  refine g_ldc2 h (i := 3) rfl k_X10_168 ?_
  refine g_ldiv h (i := 4) rfl (by decide) ?_
  refine g_eql (lN (n - n / 2)) hv3 ?_
  refine g_lstore h (i := 5) rfl hq rfl ?_
  refine g_lload h (i := 6) rfl rfl ?_
  refine g_lload h (i := 7) rfl rfl ?_
  refine g_lcmp h (i := 8) rfl ?_
  refine g_if_gt h (i := 9) 28 rfl rfl (fun c_15 => ?_) (fun c_15 => ?_)
  · skip
    have g : n - n / 2 < t := (lN_lt (by omega) (by omega)).mp ((lg_cmp_gt _ _).mp c_15)
    refine g_lload_n h (i := 15) rfl rfl ?_
    refine g_lload_n h (i := 16) rfl rfl ?_
    refine g_lload h (i := 17) rfl rfl ?_
    refine g_callSx h hq (i := 18) rfl ms_X10_170 (ct_X10_risen l E _ a v (n - n / 2) hlo hb (by omega)) rfl rfl ⟨rfl, rfl, Nat.le_of_ble_eq_true rfl, Nat.le_of_ble_eq_true rfl⟩ (Nat.le_of_ble_eq_true rfl) ⟨Nat.zero_le _, Nat.zero_le _⟩ ?_
    refine g_lload_n h (i := 19) rfl rfl ?_
    refine g_lload_n h (i := 20) rfl rfl ?_
    refine g_lload h (i := 21) rfl rfl ?_
    refine g_lload h (i := 22) rfl rfl ?_
    refine g_lsub h (i := 23) rfl ?_
    refine g_eql (lN (n / 2)) hs1 ?_
    refine g_callSx h hq (i := 24) rfl ms_X10_170 (ct_X10_risen l E _ a v (n / 2) hlo hb (by omega)) rfl rfl ⟨rfl, rfl, Nat.le_of_ble_eq_true rfl, Nat.le_of_ble_eq_true rfl⟩ (Nat.le_of_ble_eq_true rfl) ⟨Nat.zero_le _, Nat.zero_le _⟩ ?_
    refine g_ladd h (i := 25) rfl ?_
    refine g_lload_n h (i := 26) rfl rfl ?_
    refine g_lload_n h (i := 27) rfl rfl ?_
    refine g_lload h (i := 28) rfl rfl ?_
    refine g_lload h (i := 29) rfl rfl ?_
    refine g_lsub h (i := 30) rfl ?_
    refine g_eql (lN (n - t)) hs2 ?_
    refine g_callSx h hq (i := 31) rfl ms_X10_170 (ct_X10_risen l E _ a v (n - t) hlo hb (by omega)) rfl rfl ⟨rfl, rfl, Nat.le_of_ble_eq_true rfl, Nat.le_of_ble_eq_true rfl⟩ (Nat.le_of_ble_eq_true rfl) ⟨Nat.zero_le _, Nat.zero_le _⟩ ?_
    refine g_lsub h (i := 32) rfl ?_
    exact g_lret hq h (i := 33) rfl (⟨congrArg (fun z => some (Value.long z)) (hB g), rfl⟩)
  · skip
    have g : t ≤ n - n / 2 := Nat.le_of_not_lt (fun g => c_15 ((lg_cmp_gt _ _).mpr ((lN_lt (by omega) (by omega)).mpr g)))
    refine g_lload_n h (i := 10) rfl rfl ?_
    refine g_lload_n h (i := 11) rfl rfl ?_
    refine g_lload h (i := 12) rfl rfl ?_
    refine g_callSx h hq (i := 13) rfl ms_X10_170 (ct_X10_risen l E _ a v t hlo hb (by omega)) rfl rfl ⟨rfl, rfl, Nat.le_of_ble_eq_true rfl, Nat.le_of_ble_eq_true rfl⟩ (Nat.le_of_ble_eq_true rfl) ⟨Nat.zero_le _, Nat.zero_le _⟩ ?_
    refine g_goto h (i := 14) 57 rfl rfl ?_
    exact g_lret hq h (i := 33) rfl (⟨congrArg (fun z => some (Value.long (lN z))) (hA g).symm, rfl⟩)
-- the least ticks that go the way
set_option maxRecDepth 100000 in
set_option maxHeartbeats 4000000 in
theorem ct_X10_ticksFor (l : Launch) (E : EE) (w : Wd) (a v wy : Nat) (hlo : E.2.2 ≤ wN w) (hb : mB a v) (hw : wy ≤ 4000000) : Ct l E yX10_ticksFor cX10_ticksFor 12 (some .long) ({ frames := 2, cells := 0, slots := 0, locals := 56 } : Room) [.long (lN a), .long (lN v), .long (lN wy)] w 0 0 (Px (some (.long (lN (lsN a v wy)))) w) := by
  refine ct_in (il := il_X10_ticksFor) (by decide) dk_X10_ticksFor (Nat.le_of_ble_eq_true rfl) hlo ?_
  intro X h hq

  have key : ∀ (f lo hi : Nat), lo ≤ hi → hi ≤ 4000000 → hi - lo < 2 ^ f → srN (gnP a v wy) f lo hi = lsN a v wy → G X 0 0 7 (lf [(0, .long (lN a)), (2, .long (lN v)), (4, .long (lN wy)), (6, .long (lN lo)), (8, .long (lN hi))]) [] w := by
    intro f
    induction f with
    | zero =>
      intro lo hi h1 h2 h3 h4
      have hge : ¬ lo < hi := by omega
      have hc : 0 ≤ lg_cmp (lN lo) (lN hi) := (lg_cmp_ge _ _).mpr ((lN_le (by omega) (by omega)).mpr (by omega))
      have h5 : lo = lsN a v wy := h4
      refine g_lload h (i := 4) rfl rfl ?_
      refine g_lload h (i := 5) rfl rfl ?_
      refine g_lcmp h (i := 6) rfl ?_
      refine g_if_ge h (i := 7) 57 rfl rfl (fun c_12 => ?_) (fun c_12 => absurd hc c_12)
      refine g_lload h (i := 30) rfl rfl ?_
      exact g_lret hq h (i := 31) rfl (⟨by rw [h5], rfl⟩)
    | succ f ih =>
      intro lo hi h1 h2 h3 h4
      rw [Nat.pow_succ] at h3
      by_cases hlt : lo < hi
      · rw [sr_step _ hlt] at h4
        have hc : ¬ 0 ≤ lg_cmp (lN lo) (lN hi) := fun q => absurd ((lN_le (by omega) (by omega)).mp ((lg_cmp_ge _ _).mp q)) (by omega)
        obtain ⟨n, hn⟩ : ∃ n, n = (lo + hi) / 2 := ⟨_, rfl⟩
        rw [← hn] at h4
        have hmid : (lN lo + lN hi) / 2 = lN n := by rw [lN_add, hn]; exact pk_lDiv (b := 2) (by omega) (by omega) (by omega)
        have hgn := gn_nn a v n
        have hgl := gn_le a v n n (Nat.le_refl _)
        have bv := hb.2.2.2
        have hgm : v * n ≤ 100000 * 4000000 := Nat.mul_le_mul bv (by omega)
        by_cases hP : wy ≤ gnN a v n n
        · have hc2 : ¬ lg_cmp (lN (gnN a v n n)) (lN wy) < 0 := fun q => absurd ((pk_lLE (by omega) (by omega)).mpr hP) (Int64.not_le.mpr ((lg_cmp_lt _ _).mp q))
          rw [if_pos (by unfold gnP; rw [← hgn]; exact decide_eq_true hP)] at h4
          refine g_lload h (i := 4) rfl rfl ?_
          refine g_lload h (i := 5) rfl rfl ?_
          refine g_lcmp h (i := 6) rfl ?_
          refine g_if_ge h (i := 7) 57 rfl rfl (fun c_12 => absurd c_12 hc) (fun c_12 => ?_)
          refine g_lload h (i := 8) rfl rfl ?_
          refine g_lload h (i := 9) rfl rfl ?_
          refine g_ladd h (i := 10) rfl ?_
          refine g_ldc2 h (i := 11) rfl k_X10_168 ?_
          refine g_ldiv h (i := 12) rfl (by decide) ?_
          refine g_eql (lN n) hmid ?_
          refine g_lstore h (i := 13) rfl hq rfl ?_
          refine g_lload_n h (i := 14) rfl rfl ?_
          refine g_lload_n h (i := 15) rfl rfl ?_
          refine g_lload h (i := 16) rfl rfl ?_
          refine g_lload h (i := 17) rfl rfl ?_
          refine g_callSx h hq (i := 18) rfl ms_X10_174 (ct_X10_gone l E _ a v n n hlo hb (by omega) (Nat.le_refl _)) rfl rfl ⟨rfl, rfl, Nat.le_of_ble_eq_true rfl, Nat.le_of_ble_eq_true rfl⟩ (Nat.le_of_ble_eq_true rfl) ⟨Nat.zero_le _, Nat.zero_le _⟩ ?_
          refine g_lload h (i := 19) rfl rfl ?_
          refine g_lcmp h (i := 20) rfl ?_
          refine g_if_lt h (i := 21) 48 rfl rfl (fun c_38 => absurd c_38 hc2) (fun c_38 => ?_)
          refine g_lload h (i := 22) rfl rfl ?_
          refine g_lstore h (i := 23) rfl hq rfl ?_
          refine g_goto h (i := 24) 54 rfl rfl ?_
          refine g_goto h (i := 29) 7 rfl rfl ?_
          exact g_lv [(0, .long (lN a)), (2, .long (lN v)), (4, .long (lN wy)), (6, .long (lN (lo))), (8, .long (lN (n)))] ⟨rfl, rfl, rfl, rfl, rfl, trivial⟩ (ih (lo) (n) (by omega) (by omega) (by omega) h4)
        · have hc2 : lg_cmp (lN (gnN a v n n)) (lN wy) < 0 := (lg_cmp_lt _ _).mpr (Int64.not_le.mp (fun q => hP ((pk_lLE (by omega) (by omega)).mp q)))
          rw [if_neg (by unfold gnP; rw [← hgn]; simp only [decide_eq_true_eq]; exact hP)] at h4
          refine g_lload h (i := 4) rfl rfl ?_
          refine g_lload h (i := 5) rfl rfl ?_
          refine g_lcmp h (i := 6) rfl ?_
          refine g_if_ge h (i := 7) 57 rfl rfl (fun c_12 => absurd c_12 hc) (fun c_12 => ?_)
          refine g_lload h (i := 8) rfl rfl ?_
          refine g_lload h (i := 9) rfl rfl ?_
          refine g_ladd h (i := 10) rfl ?_
          refine g_ldc2 h (i := 11) rfl k_X10_168 ?_
          refine g_ldiv h (i := 12) rfl (by decide) ?_
          refine g_eql (lN n) hmid ?_
          refine g_lstore h (i := 13) rfl hq rfl ?_
          refine g_lload_n h (i := 14) rfl rfl ?_
          refine g_lload_n h (i := 15) rfl rfl ?_
          refine g_lload h (i := 16) rfl rfl ?_
          refine g_lload h (i := 17) rfl rfl ?_
          refine g_callSx h hq (i := 18) rfl ms_X10_174 (ct_X10_gone l E _ a v n n hlo hb (by omega) (Nat.le_refl _)) rfl rfl ⟨rfl, rfl, Nat.le_of_ble_eq_true rfl, Nat.le_of_ble_eq_true rfl⟩ (Nat.le_of_ble_eq_true rfl) ⟨Nat.zero_le _, Nat.zero_le _⟩ ?_
          refine g_lload h (i := 19) rfl rfl ?_
          refine g_lcmp h (i := 20) rfl ?_
          refine g_if_lt h (i := 21) 48 rfl rfl (fun c_38 => ?_) (fun c_38 => absurd hc2 c_38)
          refine g_lload h (i := 25) rfl rfl ?_
          refine g_lconst h (i := 26) rfl (v := 1) (by rfl) ?_
          refine g_ladd h (i := 27) rfl ?_
          refine g_lstore h (i := 28) rfl hq rfl ?_
          refine g_goto h (i := 29) 7 rfl rfl ?_
          exact g_lv [(0, .long (lN a)), (2, .long (lN v)), (4, .long (lN wy)), (6, .long (lN (n + 1))), (8, .long (lN (hi)))] ⟨rfl, rfl, rfl, congrArg (fun z => some (Value.long z)) (lN_1 n), rfl, trivial⟩ (ih (n + 1) (hi) (by omega) (by omega) (by omega) h4)
      · rw [sr_done _ hlt] at h4
        have hc : 0 ≤ lg_cmp (lN lo) (lN hi) := (lg_cmp_ge _ _).mpr ((lN_le (by omega) (by omega)).mpr (by omega))
        refine g_lload h (i := 4) rfl rfl ?_
        refine g_lload h (i := 5) rfl rfl ?_
        refine g_lcmp h (i := 6) rfl ?_
        refine g_if_ge h (i := 7) 57 rfl rfl (fun c_12 => ?_) (fun c_12 => absurd hc c_12)
        refine g_lload h (i := 30) rfl rfl ?_
        exact g_lret hq h (i := 31) rfl (⟨by rw [h4], rfl⟩)
  refine g_lconst h (i := 0) rfl (v := 0) (by rfl) ?_
  refine g_lstore h (i := 1) rfl hq rfl ?_
  refine g_lload h (i := 2) rfl rfl ?_
  refine g_lstore h (i := 3) rfl hq rfl ?_
  exact g_lv [(0, .long (lN a)), (2, .long (lN v)), (4, .long (lN wy)), (6, .long (lN 0)), (8, .long (lN wy))] ⟨rfl, rfl, rfl, rfl, rfl, trivial⟩ (key 32 0 wy (by omega) hw (by omega) rfl)
-- the least ticks that go the way
set_option maxRecDepth 100000 in
set_option maxHeartbeats 4000000 in
theorem ct_X4_leastTicks (l : Launch) (E : EE) (w : Wd) (wy v a : Nat) (hlo : E.2.2 ≤ wN w) (hb : mB a v) (hw : wy ≤ 4000000) : Ct l E yX4_leastTicks cX4_leastTicks 8 (some .int) ({ frames := 1, cells := 0, slots := 0, locals := 23 } : Room) [.int (nI wy), .int (nI v), .int (nI a)] w 0 0 (Px (some (.int (nI (lsN a v wy)))) w) := by
  refine ct_in (il := il_X4_leastTicks) (by decide) dk_X4_leastTicks (Nat.le_of_ble_eq_true rfl) hlo ?_
  intro X h hq

  have key : ∀ (f c lo hi : Nat), c + f = 32 → lo ≤ hi → hi ≤ 4000000 → srN (gnP a v wy) f lo hi = lsN a v wy → G X 0 0 8 (lf [(0, .int (nI wy)), (1, .int (nI v)), (2, .int (nI a)), (3, .int (nI lo)), (4, .int (nI hi)), (5, .int (nI c))]) [] w := by
    intro f
    induction f with
    | zero =>
      intro c lo hi hc h1 h2 h4
      have hc32 : c = 32 := by omega
      subst hc32
      have h5 : lo = lsN a v wy := h4
      refine g_iload h (i := 6) rfl rfl ?_
      refine g_bipush h (i := 7) rfl (v := 32) (by rfl) ?_
      refine g_icmp_ge h (i := 8) 79 rfl rfl (fun c_12 => ?_) (fun c_12 => absurd (by decide : (32 : Int32) ≤ nI 32) c_12)
      refine g_iload_n h (i := 48) rfl rfl ?_
      exact g_iret hq h (i := 49) rfl (⟨by rw [h5], rfl⟩)
    | succ f ih =>
      intro c lo hi hc h1 h2 h4
      have hc32 : ¬ (32 : Int32) ≤ nI c := nI_ge (b := 32) (by omega) (by omega)
      by_cases hlt : lo < hi
      · rw [sr_step _ hlt] at h4
        have hc3 : ¬ nI hi ≤ nI lo := nI_ge hlt (by omega)
        obtain ⟨n, hn⟩ : ∃ n, n = (lo + hi) / 2 := ⟨_, rfl⟩
        rw [← hn] at h4
        have hmid : nI lo + (nI hi - nI lo) / 2 = nI n := by
          rw [pk_sub h1, show (nI (hi - lo) / 2 : Int32) = nI ((hi - lo) / 2) from pk_div (d := 2) (by omega) (by omega) (by omega), nI_add, hn, show lo + (hi - lo) / 2 = (lo + hi) / 2 by omega]
        obtain ⟨hv1, hv2, hv3⟩ := hvN (n := n) (by omega)
        have hgn := gn_nn a v n
        have hgl := gn_le a v n n (Nat.le_refl _)
        have bv := hb.2.2.2
        have hgm : v * n ≤ 100000 * 4000000 := Nat.mul_le_mul bv (by omega)
        have hsum : lN (rsN a v (n / 2)) + lN (rsN a v (n - n / 2)) = lN (gnN a v n n) := by rw [lN_add, hgn]
        have lw : (nI wy).toInt64 = lN wy := nI_l (by omega)
        by_cases hP : wy ≤ gnN a v n n
        · have hc2 : ¬ lg_cmp (lN (gnN a v n n)) (lN wy) < 0 := fun q => absurd ((pk_lLE (by omega) (by omega)).mpr hP) (Int64.not_le.mpr ((lg_cmp_lt _ _).mp q))
          rw [if_pos (by unfold gnP; rw [← hgn]; exact decide_eq_true hP)] at h4
          refine g_iload h (i := 6) rfl rfl ?_
          refine g_bipush h (i := 7) rfl (v := 32) (by rfl) ?_
          refine g_icmp_ge h (i := 8) 79 rfl rfl (fun c_12 => absurd c_12 hc32) (fun c_12 => ?_)
          refine g_iload_n h (i := 9) rfl rfl ?_
          refine g_iload h (i := 10) rfl rfl ?_
          refine g_icmp_ge h (i := 11) 79 rfl rfl (fun c_18 => absurd c_18 hc3) (fun c_18 => ?_)
          refine g_iload_n h (i := 12) rfl rfl ?_
          refine g_iload h (i := 13) rfl rfl ?_
          refine g_iload_n h (i := 14) rfl rfl ?_
          refine g_isub h (i := 15) rfl ?_
          refine g_iconst h (i := 16) rfl (v := 2) (by rfl) ?_
          refine g_idiv h (i := 17) rfl (by decide) ?_
          refine g_iadd h (i := 18) rfl ?_
          refine g_eqi (nI n) hmid ?_
          refine g_istore h (i := 19) rfl hq rfl ?_
          refine g_iload h (i := 20) rfl rfl ?_
          refine g_iconst h (i := 21) rfl (v := 2) (by rfl) ?_
          refine g_idiv h (i := 22) rfl (by decide) ?_
          refine g_eqi (nI (n / 2)) hv1 ?_
          refine g_istore h (i := 23) rfl hq rfl ?_
          refine g_iload h (i := 24) rfl rfl ?_
          refine g_iload_n h (i := 25) rfl rfl ?_
          refine g_iload_n h (i := 26) rfl rfl ?_
          refine g_callSx h hq (i := 27) rfl ms_X4_49 (ct_X4_climb l E _ (n / 2) v a hlo hb (by omega)) rfl rfl ⟨rfl, rfl, Nat.le_of_ble_eq_true rfl, Nat.le_of_ble_eq_true rfl⟩ (Nat.le_of_ble_eq_true rfl) ⟨Nat.zero_le _, Nat.zero_le _⟩ ?_
          refine g_iload h (i := 28) rfl rfl ?_
          refine g_iload h (i := 29) rfl rfl ?_
          refine g_isub h (i := 30) rfl ?_
          refine g_eqi (nI (n - n / 2)) hv2 ?_
          refine g_iload_n h (i := 31) rfl rfl ?_
          refine g_iload_n h (i := 32) rfl rfl ?_
          refine g_callSx h hq (i := 33) rfl ms_X4_49 (ct_X4_climb l E _ (n - n / 2) v a hlo hb (by omega)) rfl rfl ⟨rfl, rfl, Nat.le_of_ble_eq_true rfl, Nat.le_of_ble_eq_true rfl⟩ (Nat.le_of_ble_eq_true rfl) ⟨Nat.zero_le _, Nat.zero_le _⟩ ?_
          refine g_ladd h (i := 34) rfl ?_
          refine g_eql (lN (gnN a v n n)) hsum ?_
          refine g_iload_n h (i := 35) rfl rfl ?_
          refine g_i2l h (i := 36) rfl ?_
          refine g_eql (lN wy) lw ?_
          refine g_lcmp h (i := 37) rfl ?_
          refine g_if_lt h (i := 38) 68 rfl rfl (fun c_58 => absurd c_58 hc2) (fun c_58 => ?_)
          refine g_iload h (i := 39) rfl rfl ?_
          refine g_istore h (i := 40) rfl hq rfl ?_
          refine g_goto h (i := 41) 73 rfl rfl ?_
          refine g_iinc h (i := 46) rfl rfl (dv := 1) (by rfl) ?_
          refine g_goto h (i := 47) 8 rfl rfl ?_
          exact g_lv [(0, .int (nI wy)), (1, .int (nI v)), (2, .int (nI a)), (3, .int (nI (lo))), (4, .int (nI (n))), (5, .int (nI (c + 1)))] ⟨rfl, rfl, rfl, rfl, rfl, congrArg (fun z => some (Value.int z)) (nI_1 c), trivial⟩ (ih (c + 1) (lo) (n) (by omega) (by omega) (by omega) h4)
        · have hc2 : lg_cmp (lN (gnN a v n n)) (lN wy) < 0 := (lg_cmp_lt _ _).mpr (Int64.not_le.mp (fun q => hP ((pk_lLE (by omega) (by omega)).mp q)))
          rw [if_neg (by unfold gnP; rw [← hgn]; simp only [decide_eq_true_eq]; exact hP)] at h4
          refine g_iload h (i := 6) rfl rfl ?_
          refine g_bipush h (i := 7) rfl (v := 32) (by rfl) ?_
          refine g_icmp_ge h (i := 8) 79 rfl rfl (fun c_12 => absurd c_12 hc32) (fun c_12 => ?_)
          refine g_iload_n h (i := 9) rfl rfl ?_
          refine g_iload h (i := 10) rfl rfl ?_
          refine g_icmp_ge h (i := 11) 79 rfl rfl (fun c_18 => absurd c_18 hc3) (fun c_18 => ?_)
          refine g_iload_n h (i := 12) rfl rfl ?_
          refine g_iload h (i := 13) rfl rfl ?_
          refine g_iload_n h (i := 14) rfl rfl ?_
          refine g_isub h (i := 15) rfl ?_
          refine g_iconst h (i := 16) rfl (v := 2) (by rfl) ?_
          refine g_idiv h (i := 17) rfl (by decide) ?_
          refine g_iadd h (i := 18) rfl ?_
          refine g_eqi (nI n) hmid ?_
          refine g_istore h (i := 19) rfl hq rfl ?_
          refine g_iload h (i := 20) rfl rfl ?_
          refine g_iconst h (i := 21) rfl (v := 2) (by rfl) ?_
          refine g_idiv h (i := 22) rfl (by decide) ?_
          refine g_eqi (nI (n / 2)) hv1 ?_
          refine g_istore h (i := 23) rfl hq rfl ?_
          refine g_iload h (i := 24) rfl rfl ?_
          refine g_iload_n h (i := 25) rfl rfl ?_
          refine g_iload_n h (i := 26) rfl rfl ?_
          refine g_callSx h hq (i := 27) rfl ms_X4_49 (ct_X4_climb l E _ (n / 2) v a hlo hb (by omega)) rfl rfl ⟨rfl, rfl, Nat.le_of_ble_eq_true rfl, Nat.le_of_ble_eq_true rfl⟩ (Nat.le_of_ble_eq_true rfl) ⟨Nat.zero_le _, Nat.zero_le _⟩ ?_
          refine g_iload h (i := 28) rfl rfl ?_
          refine g_iload h (i := 29) rfl rfl ?_
          refine g_isub h (i := 30) rfl ?_
          refine g_eqi (nI (n - n / 2)) hv2 ?_
          refine g_iload_n h (i := 31) rfl rfl ?_
          refine g_iload_n h (i := 32) rfl rfl ?_
          refine g_callSx h hq (i := 33) rfl ms_X4_49 (ct_X4_climb l E _ (n - n / 2) v a hlo hb (by omega)) rfl rfl ⟨rfl, rfl, Nat.le_of_ble_eq_true rfl, Nat.le_of_ble_eq_true rfl⟩ (Nat.le_of_ble_eq_true rfl) ⟨Nat.zero_le _, Nat.zero_le _⟩ ?_
          refine g_ladd h (i := 34) rfl ?_
          refine g_eql (lN (gnN a v n n)) hsum ?_
          refine g_iload_n h (i := 35) rfl rfl ?_
          refine g_i2l h (i := 36) rfl ?_
          refine g_eql (lN wy) lw ?_
          refine g_lcmp h (i := 37) rfl ?_
          refine g_if_lt h (i := 38) 68 rfl rfl (fun c_58 => ?_) (fun c_58 => absurd hc2 c_58)
          refine g_iload h (i := 42) rfl rfl ?_
          refine g_iconst h (i := 43) rfl (v := 1) (by rfl) ?_
          refine g_iadd h (i := 44) rfl ?_
          refine g_istore_n h (i := 45) rfl hq rfl ?_
          refine g_iinc h (i := 46) rfl rfl (dv := 1) (by rfl) ?_
          refine g_goto h (i := 47) 8 rfl rfl ?_
          exact g_lv [(0, .int (nI wy)), (1, .int (nI v)), (2, .int (nI a)), (3, .int (nI (n + 1))), (4, .int (nI (hi))), (5, .int (nI (c + 1)))] ⟨rfl, rfl, rfl, congrArg (fun z => some (Value.int z)) (nI_1 n), rfl, congrArg (fun z => some (Value.int z)) (nI_1 c), trivial⟩ (ih (c + 1) (n + 1) (hi) (by omega) (by omega) (by omega) h4)
      · rw [sr_done _ hlt] at h4
        have hc3 : nI hi ≤ nI lo := nI_le (by omega) (by omega)
        refine g_iload h (i := 6) rfl rfl ?_
        refine g_bipush h (i := 7) rfl (v := 32) (by rfl) ?_
        refine g_icmp_ge h (i := 8) 79 rfl rfl (fun c_12 => absurd c_12 hc32) (fun c_12 => ?_)
        refine g_iload_n h (i := 9) rfl rfl ?_
        refine g_iload h (i := 10) rfl rfl ?_
        refine g_icmp_ge h (i := 11) 79 rfl rfl (fun c_18 => ?_) (fun c_18 => absurd hc3 c_18)
        refine g_iload_n h (i := 48) rfl rfl ?_
        exact g_iret hq h (i := 49) rfl (⟨by rw [h4], rfl⟩)
  refine g_iconst h (i := 0) rfl (v := 0) (by rfl) ?_
  refine g_istore_n h (i := 1) rfl hq rfl ?_
  refine g_iload_n h (i := 2) rfl rfl ?_
  refine g_istore h (i := 3) rfl hq rfl ?_
  refine g_iconst h (i := 4) rfl (v := 0) (by rfl) ?_
  refine g_istore h (i := 5) rfl hq rfl ?_
  exact g_lv [(0, .int (nI wy)), (1, .int (nI v)), (2, .int (nI a)), (3, .int (nI 0)), (4, .int (nI wy)), (5, .int (nI 0))] ⟨rfl, rfl, rfl, rfl, rfl, rfl, trivial⟩ (key 32 0 0 wy (by omega) (by omega) hw rfl)
end
section
theorem ofI32 {z : Int} (h1 : -2147483648 ≤ z) (h2 : z < 2147483648) : (Int32.ofInt z).toInt = z := by rw [Int32.toInt_ofInt, bm32 h1 h2]
theorem ofI64 {z : Int} (h1 : -9223372036854775808 ≤ z) (h2 : z < 9223372036854775808) : (Int64.ofInt z).toInt = z := by rw [Int64.toInt_ofInt, bm64 h1 h2]
/-- where a state stands that goes g of the leader's way wy -/
def mvS (fr dl : Int) (g wy : Nat) : Int := fr + (dl * (g : Int)).tdiv (wy : Int)
theorem mv_lim {dl : Int} {g wy : Nat} (h : g ≤ wy) : ((dl * (g : Int)).tdiv (wy : Int)).natAbs ≤ dl.natAbs := by
  rw [Int.natAbs_tdiv, Int.natAbs_mul]
  show dl.natAbs * g / wy ≤ _
  rcases Nat.eq_zero_or_pos wy with e | e
  · subst e
    rw [Nat.div_zero]
    exact Nat.zero_le _
  · refine Nat.div_le_of_le_mul ?_
    rw [Nat.mul_comm]
    exact Nat.mul_le_mul_right _ h
/-- a state on its way stays between where it was and where it goes -/
theorem mv_btw {fr dl : Int} {g wy : Nat} (h : g ≤ wy) : (0 ≤ dl → fr ≤ mvS fr dl g wy ∧ mvS fr dl g wy ≤ fr + dl) ∧ (dl ≤ 0 → fr + dl ≤ mvS fr dl g wy ∧ mvS fr dl g wy ≤ fr) := by
  have h1 := mv_lim (dl := dl) h
  unfold mvS
  refine ⟨fun hd => ?_, fun hd => ?_⟩
  · have h2 : 0 ≤ (dl * (g : Int)).tdiv (wy : Int) := Int.tdiv_nonneg (Int.mul_nonneg hd (by omega)) (by omega)
    omega
  · have h2 : (dl * (g : Int)).tdiv (wy : Int) ≤ 0 := by
      have e : dl * (g : Int) = -((-dl) * (g : Int)) := by rw [Int.neg_mul, Int.neg_neg]
      rw [e, Int.neg_tdiv]
      have := Int.tdiv_nonneg (Int.mul_nonneg (show 0 ≤ -dl by omega) (show (0 : Int) ≤ (g : Int) by omega)) (show (0 : Int) ≤ (wy : Int) by omega)
      omega
    omega
theorem mv_prod {dl : Int} {g : Nat} (h1 : dl.natAbs ≤ 2000000) (h2 : g ≤ 4000000) : (dl * (g : Int)).natAbs ≤ 8000000000000 := by
  rw [Int.natAbs_mul]
  exact Nat.mul_le_mul h1 h2
theorem mv_l {D : Int64} {g wy : Nat} (h1 : D.toInt.natAbs ≤ 2000000) (h2 : g ≤ wy) (h3 : wy ≤ 4000000) : (D * lN g / lN wy).toInt = (D.toInt * (g : Int)).tdiv (wy : Int) := by
  have hp := mv_prod h1 (show g ≤ 4000000 by omega)
  have hg : (lN g).toInt = (g : Int) := lNT (by omega)
  have hw : (lN wy).toInt = (wy : Int) := lNT (by omega)
  have hm : (D * lN g).toInt = D.toInt * (g : Int) := by rw [l_mul (by rw [hg]; omega) (by rw [hg]; omega), hg]
  have hl := mv_lim (dl := D.toInt) h2
  rw [Int64.toInt_div, hm, hw, bm64 (by omega) (by omega)]
end
section
-- how far the leader is behind k ticks
set_option maxRecDepth 100000 in
set_option maxHeartbeats 4000000 in
theorem ct_X4_goneBehind (l : Launch) (E : EE) (w : Wd) (t a v n wy k : Nat) (hlo : E.2.2 ≤ wN w) (hT : wK w t = some (.inl 4)) (i2 : wI w t 2 = nI n) (i3 : wI w t 3 = nI wy) (i4 : wI w t 4 = nI v) (i5 : wI w t 5 = nI a) (hb : mB a v) (hn : n ≤ 4000000) (hk : k ≤ n) (hw : wy ≤ 4000000) : Ct l E yX4_goneBehind cX4_goneBehind 5 (some .long) ({ frames := 1, cells := 0, slots := 0, locals := 23 } : Room) [.ref t, .int (nI k)] w 0 0 (Px (some (.long (lN (min (gnN a v n k) wy)))) w) := by
  refine ct_in (il := il_X4_goneBehind) (by decide) dk_X4_goneBehind (Nat.le_of_ble_eq_true rfl) hlo ?_
  intro X h hq

  obtain ⟨hv1, hv2, hv3⟩ := hvN (n := n) (by omega)
  have hs2 : nI n - nI k = nI (n - k) := pk_sub hk
  have lw : (nI wy).toInt64 = lN wy := nI_l (by omega)
  have bv := hb.2.2.2
  have hgl := gn_le a v n k hk
  have hgm : v * n ≤ 100000 * 4000000 := Nat.mul_le_mul bv hn
  have hA : k ≤ n - n / 2 → gnN a v n k = rsN a v k := fun g => if_pos g
  have hB : n - n / 2 < k → lN (rsN a v (n / 2)) + lN (rsN a v (n - n / 2)) - lN (rsN a v (n - k)) = lN (gnN a v n k) := fun g => by
    have hmn := rs_mono a v (show n - k ≤ n / 2 by omega)
    rw [lN_add, lN_sub (by omega)]
    unfold gnN
    rw [if_neg (by omega)]
  have k80 : G X 0 0 80 (lf [(0, .ref t)]) [.long (lN (gnN a v n k))] w := by
    refine g_lstore_n h (i := 44) rfl hq rfl ?_
    refine g_lload_n h (i := 45) rfl rfl ?_
    refine g_aload_n h (i := 46) rfl rfl ?_
    refine g_getI h (i := 47) rfl fl_X4_22 (fun _ _ _ => rfl) hT ?_
    refine g_eqi (nI wy) i3 ?_
    refine g_i2l h (i := 48) rfl ?_
    refine g_eql (lN wy) lw ?_
    refine g_lcmp h (i := 49) rfl ?_
    refine g_if_ge h (i := 50) 95 rfl rfl (fun c_88 => ?_) (fun c_88 => ?_)
    · skip
      refine g_aload_n h (i := 53) rfl rfl ?_
      refine g_getI h (i := 54) rfl fl_X4_22 (fun _ _ _ => rfl) hT ?_
      refine g_eqi (nI wy) i3 ?_
      refine g_i2l h (i := 55) rfl ?_
      exact g_lret hq h (i := 56) rfl (⟨by show some (Value.long (nI wy).toInt64) = _; rw [lw, Nat.min_eq_right ((pk_lLE (by omega) (by omega)).mp ((lg_cmp_ge _ _).mp c_88))], rfl⟩)
    · skip
      refine g_lload_n h (i := 51) rfl rfl ?_
      refine g_goto h (i := 52) 100 rfl rfl ?_
      exact g_lret hq h (i := 56) rfl (⟨by rw [Nat.min_eq_left (Nat.le_of_not_le (fun q => c_88 ((lg_cmp_ge _ _).mpr ((pk_lLE (by omega) (by omega)).mpr q))))], rfl⟩)
  refine g_aload_n h (i := 0) rfl rfl ?_
  refine g_getI h (i := 1) rfl fl_X4_18 (fun _ _ _ => rfl) hT ?_
  refine g_eqi (nI n) i2 ?_
  refine g_aload_n h (i := 2) rfl rfl ?_
  refine g_getI h (i := 3) rfl fl_X4_18 (fun _ _ _ => rfl) hT ?_
  refine g_eqi (nI n) i2 ?_
  refine g_iconst h (i := 4) rfl (v := 2) (by rfl) ?_
  refine g_idiv h (i := 5) rfl (by decide) ?_
  refine g_eqi (nI (n / 2)) hv1 ?_
  refine g_isub h (i := 6) rfl ?_
  refine g_eqi (nI (n - n / 2)) hv2 ?_
  refine g_istore_n h (i := 7) rfl hq rfl ?_
  refine g_iload_n h (i := 8) rfl rfl ?_
  refine g_iload_n h (i := 9) rfl rfl ?_
  refine g_icmp_gt h (i := 10) 32 rfl rfl (fun c_14 => ?_) (fun c_14 => ?_)
  · skip
    have g : n - n / 2 < k := (nI_ltI (by omega) (by omega)).mp c_14
    refine g_aload_n h (i := 18) rfl rfl ?_
    refine g_getI h (i := 19) rfl fl_X4_18 (fun _ _ _ => rfl) hT ?_
    refine g_eqi (nI n) i2 ?_
    refine g_iconst h (i := 20) rfl (v := 2) (by rfl) ?_
    refine g_idiv h (i := 21) rfl (by decide) ?_
    refine g_eqi (nI (n / 2)) hv1 ?_
    refine g_aload_n h (i := 22) rfl rfl ?_
    refine g_getI h (i := 23) rfl fl_X4_25 (fun _ _ _ => rfl) hT ?_
    refine g_eqi (nI v) i4 ?_
    refine g_aload_n h (i := 24) rfl rfl ?_
    refine g_getI h (i := 25) rfl fl_X4_28 (fun _ _ _ => rfl) hT ?_
    refine g_eqi (nI a) i5 ?_
    refine g_callSx h hq (i := 26) rfl ms_X4_49 (ct_X4_climb l E _ (n / 2) v a hlo hb (by omega)) rfl rfl ⟨rfl, rfl, Nat.le_of_ble_eq_true rfl, Nat.le_of_ble_eq_true rfl⟩ (Nat.le_of_ble_eq_true rfl) ⟨Nat.zero_le _, Nat.zero_le _⟩ ?_
    refine g_iload_n h (i := 27) rfl rfl ?_
    refine g_aload_n h (i := 28) rfl rfl ?_
    refine g_getI h (i := 29) rfl fl_X4_25 (fun _ _ _ => rfl) hT ?_
    refine g_eqi (nI v) i4 ?_
    refine g_aload_n h (i := 30) rfl rfl ?_
    refine g_getI h (i := 31) rfl fl_X4_28 (fun _ _ _ => rfl) hT ?_
    refine g_eqi (nI a) i5 ?_
    refine g_callSx h hq (i := 32) rfl ms_X4_49 (ct_X4_climb l E _ (n - n / 2) v a hlo hb (by omega)) rfl rfl ⟨rfl, rfl, Nat.le_of_ble_eq_true rfl, Nat.le_of_ble_eq_true rfl⟩ (Nat.le_of_ble_eq_true rfl) ⟨Nat.zero_le _, Nat.zero_le _⟩ ?_
    refine g_ladd h (i := 33) rfl ?_
    refine g_aload_n h (i := 34) rfl rfl ?_
    refine g_getI h (i := 35) rfl fl_X4_18 (fun _ _ _ => rfl) hT ?_
    refine g_eqi (nI n) i2 ?_
    refine g_iload_n h (i := 36) rfl rfl ?_
    refine g_isub h (i := 37) rfl ?_
    refine g_eqi (nI (n - k)) hs2 ?_
    refine g_aload_n h (i := 38) rfl rfl ?_
    refine g_getI h (i := 39) rfl fl_X4_25 (fun _ _ _ => rfl) hT ?_
    refine g_eqi (nI v) i4 ?_
    refine g_aload_n h (i := 40) rfl rfl ?_
    refine g_getI h (i := 41) rfl fl_X4_28 (fun _ _ _ => rfl) hT ?_
    refine g_eqi (nI a) i5 ?_
    refine g_callSx h hq (i := 42) rfl ms_X4_49 (ct_X4_climb l E _ (n - k) v a hlo hb (by omega)) rfl rfl ⟨rfl, rfl, Nat.le_of_ble_eq_true rfl, Nat.le_of_ble_eq_true rfl⟩ (Nat.le_of_ble_eq_true rfl) ⟨Nat.zero_le _, Nat.zero_le _⟩ ?_
    refine g_lsub h (i := 43) rfl ?_
    refine g_eql (lN (gnN a v n k)) (hB g) ?_
    exact g_lv [(0, .ref t)] ⟨rfl, trivial⟩ k80
  · skip
    have g : k ≤ n - n / 2 := Nat.le_of_not_lt (fun g => c_14 (nI_lt g (by omega)))
    refine g_iload_n h (i := 11) rfl rfl ?_
    refine g_aload_n h (i := 12) rfl rfl ?_
    refine g_getI h (i := 13) rfl fl_X4_25 (fun _ _ _ => rfl) hT ?_
    refine g_eqi (nI v) i4 ?_
    refine g_aload_n h (i := 14) rfl rfl ?_
    refine g_getI h (i := 15) rfl fl_X4_28 (fun _ _ _ => rfl) hT ?_
    refine g_eqi (nI a) i5 ?_
    refine g_callSx h hq (i := 16) rfl ms_X4_49 (ct_X4_climb l E _ k v a hlo hb (by omega)) rfl rfl ⟨rfl, rfl, Nat.le_of_ble_eq_true rfl, Nat.le_of_ble_eq_true rfl⟩ (Nat.le_of_ble_eq_true rfl) ⟨Nat.zero_le _, Nat.zero_le _⟩ ?_
    refine g_eql (lN (gnN a v n k)) (by rw [hA g]) ?_
    refine g_goto h (i := 17) 80 rfl rfl ?_
    exact g_lv [(0, .ref t)] ⟨rfl, trivial⟩ k80
-- a joint behind that way of the leader
set_option maxRecDepth 100000 in
set_option maxHeartbeats 4000000 in
theorem ct_X4_stateAt (l : Launch) (E : EE) (w : Wd) (t fa ba j g wy : Nat) (fr dl : Int32) (hlo : E.2.2 ≤ wN w) (hT : wK w t = some (.inl 4)) (r0 : wR w t 0 = some fa) (r1 : wR w t 1 = some ba) (kf : wK w fa = some (.inr (0, 4))) (kb : wK w ba = some (.inr (0, 4))) (i3 : wI w t 3 = nI wy) (hj : j < 4) (hf : wI w fa j = fr) (hd : wI w ba j = dl) (b1 : fr.toInt.natAbs ≤ 1000000) (b2 : dl.toInt.natAbs ≤ 2000000) (hg : g ≤ wy) (hw : wy ≤ 4000000) : Ct l E yX4_stateAt cX4_stateAt 4 (some .int) ({ frames := 0, cells := 0, slots := 0, locals := 0 } : Room) [.ref t, .int (nI j), .long (lN g)] w 0 0 (Px (some (.int (Int32.ofInt (mvS fr.toInt dl.toInt g wy)))) w) := by
  refine ct_in (il := il_X4_stateAt) (by decide) dk_X4_stateAt (Nat.le_of_ble_eq_true rfl) hlo ?_
  intro X h hq

  have hcl : (nI j).toNatClampNeg = j := nI_clamp (by omega)
  have hvp : vp_in (nI j) 4 := vp_in_nI hj (by omega)
  have lw : (nI wy).toInt64 = lN wy := nI_l (by omega)
  have ml := mv_lim (dl := dl.toInt) hg
  have hz : wy = 0 → fr = Int32.ofInt (mvS fr.toInt dl.toInt g wy) := fun e => by
    refine i32x ?_
    unfold mvS
    rw [e, show ((0 : Nat) : Int) = 0 from rfl, Int.tdiv_zero, ofI32 (by omega) (by omega)]
    omega
  have hq1 : fr + (dl.toInt64 * lN g / lN wy).toInt32 = Int32.ofInt (mvS fr.toInt dl.toInt g wy) := by
    have e1 := mv_l (D := dl.toInt64) (by rw [i_l]; exact b2) hg hw
    rw [i_l] at e1
    have e2 : (dl.toInt64 * lN g / lN wy).toInt32.toInt = (dl.toInt * (g : Int)).tdiv (wy : Int) := by rw [l_i (by rw [e1]; omega) (by rw [e1]; omega), e1]
    refine i32x ?_
    rw [i_add (by rw [e2]; omega) (by rw [e2]; omega), e2, ofI32 (by unfold mvS; omega) (by unfold mvS; omega)]
    rfl
  refine g_aload_n h (i := 0) rfl rfl ?_
  refine g_getI h (i := 1) rfl fl_X4_22 (fun _ _ _ => rfl) hT ?_
  refine g_eqi (nI wy) i3 ?_
  refine g_if_ne h (i := 2) 16 rfl rfl (fun c_4 => ?_) (fun c_4 => ?_)
  · skip
    have hne : ¬ lN wy = 0 := fun q => c_4 (by rw [(pk_lEQ (b := 0) (by omega) (by omega)).mp q]; rfl)
    refine g_aload_n h (i := 8) rfl rfl ?_
    refine g_getR h (i := 9) rfl fl_X4_9 (fun _ _ _ => rfl) hT r0 ?_
    refine g_iload_n h (i := 10) rfl rfl ?_
    refine g_iald h (i := 11) rfl kf (hvp) ?_
    refine g_eqi fr (by rw [hcl]; exact hf) ?_
    refine g_aload_n h (i := 12) rfl rfl ?_
    refine g_getR h (i := 13) rfl fl_X4_15 (fun _ _ _ => rfl) hT r1 ?_
    refine g_iload_n h (i := 14) rfl rfl ?_
    refine g_iald h (i := 15) rfl kb (hvp) ?_
    refine g_eqi dl (by rw [hcl]; exact hd) ?_
    refine g_i2l h (i := 16) rfl ?_
    refine g_lload_n h (i := 17) rfl rfl ?_
    refine g_lmul h (i := 18) rfl ?_
    refine g_aload_n h (i := 19) rfl rfl ?_
    refine g_getI h (i := 20) rfl fl_X4_22 (fun _ _ _ => rfl) hT ?_
    refine g_eqi (nI wy) i3 ?_
    refine g_i2l h (i := 21) rfl ?_
    refine g_eql (lN wy) lw ?_
    refine g_ldiv h (i := 22) rfl (hne) ?_
    refine g_l2i h (i := 23) rfl ?_
    refine g_iadd h (i := 24) rfl ?_
    exact g_iret hq h (i := 25) rfl (⟨congrArg (fun z => some (Value.int z)) hq1, rfl⟩)
  · skip
    have hw0 : wy = 0 := (nI_eq (by omega) (by decide)).mp c_4
    refine g_aload_n h (i := 3) rfl rfl ?_
    refine g_getR h (i := 4) rfl fl_X4_9 (fun _ _ _ => rfl) hT r0 ?_
    refine g_iload_n h (i := 5) rfl rfl ?_
    refine g_iald h (i := 6) rfl kf (hvp) ?_
    refine g_eqi fr (by rw [hcl]; exact hf) ?_
    refine g_goto h (i := 7) 39 rfl rfl ?_
    exact g_iret hq h (i := 25) rfl (⟨congrArg (fun z => some (Value.int z)) (hz hw0), rfl⟩)
-- a state behind k ticks
set_option maxRecDepth 100000 in
set_option maxHeartbeats 4000000 in
theorem ct_X10_stateBehind (l : Launch) (E : EE) (w : Wd) (F T : Int64) (a v n wy k : Nat) (hlo : E.2.2 ≤ wN w) (hb : mB a v) (hn : n ≤ 4000000) (hk : k ≤ n) (hw0 : 0 < wy) (hw : wy ≤ 4000000) (b1 : F.toInt.natAbs ≤ 1000000) (b2 : T.toInt.natAbs ≤ 1000000) : Ct l E yX10_stateBehind cX10_stateBehind 16 (some .long) ({ frames := 2, cells := 0, slots := 0, locals := 56 } : Room) [.long F, .long T, .long (lN a), .long (lN v), .long (lN n), .long (lN wy), .long (lN k)] w 0 0 (Px (some (.long (Int64.ofInt (mvS F.toInt (T.toInt - F.toInt) (min (gnN a v n k) wy) wy)))) w) := by
  refine ct_in (il := il_X10_stateBehind) (by decide) dk_X10_stateBehind (Nat.le_of_ble_eq_true rfl) hlo ?_
  intro X h hq

  have hne : ¬ lN wy = 0 := fun q => absurd ((pk_lEQ (b := 0) (by omega) (by omega)).mp q) (by omega)
  have bv := hb.2.2.2
  have hgl := gn_le a v n k hk
  have hgm : v * n ≤ 100000 * 4000000 := Nat.mul_le_mul bv hn
  have hsub : (T - F).toInt = T.toInt - F.toInt := l_sub (by omega) (by omega)
  obtain ⟨g, hg⟩ : ∃ g, g = min (gnN a v n k) wy := ⟨_, rfl⟩
  have hgw : g ≤ wy := by omega
  have ml := mv_lim (dl := T.toInt - F.toInt) hgw
  have e1 := mv_l (D := T - F) (by rw [hsub]; omega) hgw hw
  rw [hsub] at e1
  have hfin : F + (T - F) * lN g / lN wy = Int64.ofInt (mvS F.toInt (T.toInt - F.toInt) g wy) := by
    refine i64x ?_
    rw [l_add (by rw [e1]; omega) (by rw [e1]; omega), e1, ofI64 (by unfold mvS; omega) (by unfold mvS; omega)]
    rfl
  have k28 : G X 0 0 28 (lf [(0, .long F), (2, .long T), (10, .long (lN wy))]) [.long (lN g)] w := by
    refine g_lstore h (i := 13) rfl hq rfl ?_
    refine g_lload_n h (i := 14) rfl rfl ?_
    refine g_lload_n h (i := 15) rfl rfl ?_
    refine g_lload_n h (i := 16) rfl rfl ?_
    refine g_lsub h (i := 17) rfl ?_
    refine g_lload h (i := 18) rfl rfl ?_
    refine g_lmul h (i := 19) rfl ?_
    refine g_lload h (i := 20) rfl rfl ?_
    refine g_ldiv h (i := 21) rfl (hne) ?_
    refine g_ladd h (i := 22) rfl ?_
    exact g_lret hq h (i := 23) rfl (⟨by rw [hfin, hg], rfl⟩)
  refine g_lload h (i := 0) rfl rfl ?_
  refine g_lload h (i := 1) rfl rfl ?_
  refine g_lload h (i := 2) rfl rfl ?_
  refine g_lload h (i := 3) rfl rfl ?_
  refine g_callSx h hq (i := 4) rfl ms_X10_174 (ct_X10_gone l E _ a v n k hlo hb hn hk) rfl rfl ⟨rfl, rfl, Nat.le_of_ble_eq_true rfl, Nat.le_of_ble_eq_true rfl⟩ (Nat.le_of_ble_eq_true rfl) ⟨Nat.zero_le _, Nat.zero_le _⟩ ?_
  refine g_lstore h (i := 5) rfl hq rfl ?_
  refine g_lload h (i := 6) rfl rfl ?_
  refine g_lload h (i := 7) rfl rfl ?_
  refine g_lcmp h (i := 8) rfl ?_
  refine g_if_le h (i := 9) 26 rfl rfl (fun c_18 => ?_) (fun c_18 => ?_)
  · skip
    refine g_lload h (i := 12) rfl rfl ?_
    refine g_eql (lN g) (by rw [hg, Nat.min_eq_left ((pk_lLE (by omega) (by omega)).mp ((lg_cmp_le _ _).mp c_18))]) ?_
    exact g_lv [(0, .long F), (2, .long T), (10, .long (lN wy))] ⟨rfl, rfl, rfl, trivial⟩ k28
  · skip
    refine g_lload h (i := 10) rfl rfl ?_
    refine g_goto h (i := 11) 28 rfl rfl ?_
    refine g_eql (lN g) (by rw [hg, Nat.min_eq_right (Nat.le_of_not_le (fun q => c_18 ((lg_cmp_le _ _).mpr ((pk_lLE (by omega) (by omega)).mpr q))))]) ?_
    exact g_lv [(0, .long F), (2, .long T), (10, .long (lN wy))] ⟨rfl, rfl, rfl, trivial⟩ k28
end
section
/-- arrays of an object that lie at fixed offsets behind it: field, offset, sort, length -/
def LayA (w : Wd) (a : Nat) (l : List (Nat × Nat × Nat × Nat)) : Prop := ∀ q ∈ l, wR w a q.1 = some (a + q.2.1) ∧ wK w (a + q.2.1) = some (.inr (q.2.2.1, q.2.2.2))
def tabR : List (Nat × Nat × Nat × Nat) := [(0, 1, 2, 408), (1, 2, 1, 4), (2, 3, 1, 4), (3, 4, 0, 4), (4, 5, 0, 4), (5, 6, 0, 4), (6, 7, 0, 4), (7, 8, 0, 4), (8, 9, 1, 4), (9, 10, 0, 16), (10, 11, 1, 16), (11, 12, 0, 64), (13, 13, 0, 60), (14, 14, 0, 60), (15, 15, 0, 60), (17, 16, 0, 40), (18, 17, 0, 40), (19, 18, 1, 40), (22, 19, 2, 4), (23, 20, 2, 4), (28, 21, 2, 4), (29, 22, 2, 2020)]
def tabM : List (Nat × Nat × Nat × Nat) := [(0, 1, 0, 4), (1, 2, 2, 4), (2, 3, 1, 8), (3, 4, 1, 8), (4, 5, 0, 8), (5, 6, 0, 12)]
def tabT : List (Nat × Nat × Nat × Nat) := [(0, 1, 0, 4), (1, 2, 0, 4)]
/-- the reference's object -/
def LayR (w : Wd) (a : Nat) : Prop := wK w a = some (.inl 10) ∧ LayA w a tabR
/-- a motion -/
def LayT (w : Wd) (p : Nat) : Prop := wK w p = some (.inl 4) ∧ LayA w p tabT
/-- a moment -/
def LayM (w : Wd) (m : Nat) : Prop := wK w m = some (.inl 3) ∧ LayA w m tabM ∧ wR w m 6 = some (m + 7) ∧ LayT w (m + 7)
theorem lk_R {w : Wd} {a : Nat} (h : LayR w a) : wK w a = some (.inl 10) := h.1
theorem lk_T {w : Wd} {a : Nat} (h : LayT w a) : wK w a = some (.inl 4) := h.1
theorem lk_M {w : Wd} {a : Nat} (h : LayM w a) : wK w a = some (.inl 3) := h.1
theorem lm_6 {w : Wd} {a : Nat} (h : LayM w a) : wR w a 6 = some (a + 7) := h.2.2.1
theorem lm_T {w : Wd} {a : Nat} (h : LayM w a) : LayT w (a + 7) := h.2.2.2
theorem lr_row {w : Wd} {a : Nat} (h : LayR w a) : wR w a 0 = some (a + 1) := (h.2 (0, 1, 2, 408) (by decide)).1
theorem lq_row {w : Wd} {a : Nat} (h : LayR w a) : wK w (a + 1) = some (.inr (2, 408)) := (h.2 (0, 1, 2, 408) (by decide)).2
theorem lr_isKept {w : Wd} {a : Nat} (h : LayR w a) : wR w a 1 = some (a + 2) := (h.2 (1, 2, 1, 4) (by decide)).1
theorem lq_isKept {w : Wd} {a : Nat} (h : LayR w a) : wK w (a + 2) = some (.inr (1, 4)) := (h.2 (1, 2, 1, 4) (by decide)).2
theorem lr_slides {w : Wd} {a : Nat} (h : LayR w a) : wR w a 2 = some (a + 3) := (h.2 (2, 3, 1, 4) (by decide)).1
theorem lq_slides {w : Wd} {a : Nat} (h : LayR w a) : wK w (a + 3) = some (.inr (1, 4)) := (h.2 (2, 3, 1, 4) (by decide)).2
theorem lr_length {w : Wd} {a : Nat} (h : LayR w a) : wR w a 3 = some (a + 4) := (h.2 (3, 4, 0, 4) (by decide)).1
theorem lq_length {w : Wd} {a : Nat} (h : LayR w a) : wK w (a + 4) = some (.inr (0, 4)) := (h.2 (3, 4, 0, 4) (by decide)).2
theorem lr_low {w : Wd} {a : Nat} (h : LayR w a) : wR w a 4 = some (a + 5) := (h.2 (4, 5, 0, 4) (by decide)).1
theorem lq_low {w : Wd} {a : Nat} (h : LayR w a) : wK w (a + 5) = some (.inr (0, 4)) := (h.2 (4, 5, 0, 4) (by decide)).2
theorem lr_high {w : Wd} {a : Nat} (h : LayR w a) : wR w a 5 = some (a + 6) := (h.2 (5, 6, 0, 4) (by decide)).1
theorem lq_high {w : Wd} {a : Nat} (h : LayR w a) : wK w (a + 6) = some (.inr (0, 4)) := (h.2 (5, 6, 0, 4) (by decide)).2
theorem lr_pace {w : Wd} {a : Nat} (h : LayR w a) : wR w a 6 = some (a + 7) := (h.2 (6, 7, 0, 4) (by decide)).1
theorem lq_pace {w : Wd} {a : Nat} (h : LayR w a) : wK w (a + 7) = some (.inr (0, 4)) := (h.2 (6, 7, 0, 4) (by decide)).2
theorem lr_rise {w : Wd} {a : Nat} (h : LayR w a) : wR w a 7 = some (a + 8) := (h.2 (7, 8, 0, 4) (by decide)).1
theorem lq_rise {w : Wd} {a : Nat} (h : LayR w a) : wK w (a + 8) = some (.inr (0, 4)) := (h.2 (7, 8, 0, 4) (by decide)).2
theorem lr_isBox {w : Wd} {a : Nat} (h : LayR w a) : wR w a 8 = some (a + 9) := (h.2 (8, 9, 1, 4) (by decide)).1
theorem lq_isBox {w : Wd} {a : Nat} (h : LayR w a) : wK w (a + 9) = some (.inr (1, 4)) := (h.2 (8, 9, 1, 4) (by decide)).2
theorem lr_box {w : Wd} {a : Nat} (h : LayR w a) : wR w a 9 = some (a + 10) := (h.2 (9, 10, 0, 16) (by decide)).1
theorem lq_box {w : Wd} {a : Nat} (h : LayR w a) : wK w (a + 10) = some (.inr (0, 16)) := (h.2 (9, 10, 0, 16) (by decide)).2
theorem lr_isTaught {w : Wd} {a : Nat} (h : LayR w a) : wR w a 10 = some (a + 11) := (h.2 (10, 11, 1, 16) (by decide)).1
theorem lq_isTaught {w : Wd} {a : Nat} (h : LayR w a) : wK w (a + 11) = some (.inr (1, 16)) := (h.2 (10, 11, 1, 16) (by decide)).2
theorem lr_pose {w : Wd} {a : Nat} (h : LayR w a) : wR w a 11 = some (a + 12) := (h.2 (11, 12, 0, 64) (by decide)).1
theorem lq_pose {w : Wd} {a : Nat} (h : LayR w a) : wK w (a + 12) = some (.inr (0, 64)) := (h.2 (11, 12, 0, 64) (by decide)).2
theorem lr_op {w : Wd} {a : Nat} (h : LayR w a) : wR w a 13 = some (a + 13) := (h.2 (13, 13, 0, 60) (by decide)).1
theorem lq_op {w : Wd} {a : Nat} (h : LayR w a) : wK w (a + 13) = some (.inr (0, 60)) := (h.2 (13, 13, 0, 60) (by decide)).2
theorem lr_first {w : Wd} {a : Nat} (h : LayR w a) : wR w a 14 = some (a + 14) := (h.2 (14, 14, 0, 60) (by decide)).1
theorem lq_first {w : Wd} {a : Nat} (h : LayR w a) : wK w (a + 14) = some (.inr (0, 60)) := (h.2 (14, 14, 0, 60) (by decide)).2
theorem lr_second {w : Wd} {a : Nat} (h : LayR w a) : wR w a 15 = some (a + 15) := (h.2 (15, 15, 0, 60) (by decide)).1
theorem lq_second {w : Wd} {a : Nat} (h : LayR w a) : wK w (a + 15) = some (.inr (0, 60)) := (h.2 (15, 15, 0, 60) (by decide)).2
theorem lr_scriptTick {w : Wd} {a : Nat} (h : LayR w a) : wR w a 17 = some (a + 16) := (h.2 (17, 16, 0, 40) (by decide)).1
theorem lq_scriptTick {w : Wd} {a : Nat} (h : LayR w a) : wK w (a + 16) = some (.inr (0, 40)) := (h.2 (17, 16, 0, 40) (by decide)).2
theorem lr_scriptInput {w : Wd} {a : Nat} (h : LayR w a) : wR w a 18 = some (a + 17) := (h.2 (18, 17, 0, 40) (by decide)).1
theorem lq_scriptInput {w : Wd} {a : Nat} (h : LayR w a) : wK w (a + 17) = some (.inr (0, 40)) := (h.2 (18, 17, 0, 40) (by decide)).2
theorem lr_scriptOn {w : Wd} {a : Nat} (h : LayR w a) : wR w a 19 = some (a + 18) := (h.2 (19, 18, 1, 40) (by decide)).1
theorem lq_scriptOn {w : Wd} {a : Nat} (h : LayR w a) : wK w (a + 18) = some (.inr (1, 40)) := (h.2 (19, 18, 1, 40) (by decide)).2
theorem lr_planFrom {w : Wd} {a : Nat} (h : LayR w a) : wR w a 22 = some (a + 19) := (h.2 (22, 19, 2, 4) (by decide)).1
theorem lq_planFrom {w : Wd} {a : Nat} (h : LayR w a) : wK w (a + 19) = some (.inr (2, 4)) := (h.2 (22, 19, 2, 4) (by decide)).2
theorem lr_planTo {w : Wd} {a : Nat} (h : LayR w a) : wR w a 23 = some (a + 20) := (h.2 (23, 20, 2, 4) (by decide)).1
theorem lq_planTo {w : Wd} {a : Nat} (h : LayR w a) : wK w (a + 20) = some (.inr (2, 4)) := (h.2 (23, 20, 2, 4) (by decide)).2
theorem lr_was {w : Wd} {a : Nat} (h : LayR w a) : wR w a 28 = some (a + 21) := (h.2 (28, 21, 2, 4) (by decide)).1
theorem lq_was {w : Wd} {a : Nat} (h : LayR w a) : wK w (a + 21) = some (.inr (2, 4)) := (h.2 (28, 21, 2, 4) (by decide)).2
theorem lr_seen {w : Wd} {a : Nat} (h : LayR w a) : wR w a 29 = some (a + 22) := (h.2 (29, 22, 2, 2020) (by decide)).1
theorem lq_seen {w : Wd} {a : Nat} (h : LayR w a) : wK w (a + 22) = some (.inr (2, 2020)) := (h.2 (29, 22, 2, 2020) (by decide)).2
theorem lm_states {w : Wd} {a : Nat} (h : LayM w a) : wR w a 0 = some (a + 1) := (h.2.1 (0, 1, 0, 4) (by decide)).1
theorem ln_states {w : Wd} {a : Nat} (h : LayM w a) : wK w (a + 1) = some (.inr (0, 4)) := (h.2.1 (0, 1, 0, 4) (by decide)).2
theorem lm_travelled {w : Wd} {a : Nat} (h : LayM w a) : wR w a 1 = some (a + 2) := (h.2.1 (1, 2, 2, 4) (by decide)).1
theorem ln_travelled {w : Wd} {a : Nat} (h : LayM w a) : wK w (a + 2) = some (.inr (2, 4)) := (h.2.1 (1, 2, 2, 4) (by decide)).2
theorem lm_inputs {w : Wd} {a : Nat} (h : LayM w a) : wR w a 2 = some (a + 3) := (h.2.1 (2, 3, 1, 8) (by decide)).1
theorem ln_inputs {w : Wd} {a : Nat} (h : LayM w a) : wK w (a + 3) = some (.inr (1, 8)) := (h.2.1 (2, 3, 1, 8) (by decide)).2
theorem lm_outs {w : Wd} {a : Nat} (h : LayM w a) : wR w a 3 = some (a + 4) := (h.2.1 (3, 4, 1, 8) (by decide)).1
theorem ln_outs {w : Wd} {a : Nat} (h : LayM w a) : wK w (a + 4) = some (.inr (1, 8)) := (h.2.1 (3, 4, 1, 8) (by decide)).2
theorem lm_registers {w : Wd} {a : Nat} (h : LayM w a) : wR w a 4 = some (a + 5) := (h.2.1 (4, 5, 0, 8) (by decide)).1
theorem ln_registers {w : Wd} {a : Nat} (h : LayM w a) : wK w (a + 5) = some (.inr (0, 8)) := (h.2.1 (4, 5, 0, 8) (by decide)).2
theorem lm_putBy {w : Wd} {a : Nat} (h : LayM w a) : wR w a 5 = some (a + 6) := (h.2.1 (5, 6, 0, 12) (by decide)).1
theorem ln_putBy {w : Wd} {a : Nat} (h : LayM w a) : wK w (a + 6) = some (.inr (0, 12)) := (h.2.1 (5, 6, 0, 12) (by decide)).2
theorem lt_from {w : Wd} {a : Nat} (h : LayT w a) : wR w a 0 = some (a + 1) := (h.2 (0, 1, 0, 4) (by decide)).1
theorem lu_from {w : Wd} {a : Nat} (h : LayT w a) : wK w (a + 1) = some (.inr (0, 4)) := (h.2 (0, 1, 0, 4) (by decide)).2
theorem lt_by {w : Wd} {a : Nat} (h : LayT w a) : wR w a 1 = some (a + 2) := (h.2 (1, 2, 0, 4) (by decide)).1
theorem lu_by {w : Wd} {a : Nat} (h : LayT w a) : wK w (a + 2) = some (.inr (0, 4)) := (h.2 (1, 2, 0, 4) (by decide)).2
def tabP : List (Nat × Nat × Nat × Nat) := [(0, 1, 0, 60), (1, 2, 0, 60), (2, 3, 0, 60)]
def tabS : List (Nat × Nat × Nat × Nat) := [(0, 1, 0, 40), (1, 2, 0, 40), (2, 3, 1, 40)]
def tabC : List (Nat × Nat × Nat × Nat) := [(0, 1, 4, 4), (1, 2, 3, 4), (2, 3, 6, 16), (6, 13, 0, 4)]
/-- the cell -/
def LayC (w : Wd) (c : Nat) : Prop := wK w c = some (.inl 1) ∧ LayA w c tabC ∧ wR w c 3 = some (c + 4) ∧ wK w (c + 4) = some (.inl 6) ∧ LayA w (c + 4) tabP ∧ wR w c 4 = some (c + 8) ∧ wK w (c + 8) = some (.inl 7) ∧ LayA w (c + 8) tabS ∧ wR w c 5 = some (c + 12) ∧ wK w (c + 12) = some (.inl 8) ∧ (∀ j, j < 4 → wR w (c + 1) j = some (c + 14 + j) ∧ wK w (c + 14 + j) = some (.inl 2)) ∧ (∀ k, k < 4 → wR w (c + 2) k = some (c + 18 + k) ∧ wK w (c + 18 + k) = some (.inl 0)) ∧ (∀ k, k < 16 → wR w (c + 3) k = some (c + 22 + 2 * k) ∧ wK w (c + 22 + 2 * k) = some (.inl 5) ∧ wR w (c + 22 + 2 * k) 1 = some (c + 23 + 2 * k) ∧ wK w (c + 23 + 2 * k) = some (.inr (0, 4)))
theorem lc_k {w : Wd} {c : Nat} (h : LayC w c) : wK w c = some (.inl 1) := h.1
theorem lc_joints {w : Wd} {c : Nat} (h : LayC w c) : wR w c 0 = some (c + 1) := (h.2.1 (0, 1, 4, 4) (by decide)).1
theorem lc_boxes {w : Wd} {c : Nat} (h : LayC w c) : wR w c 1 = some (c + 2) := (h.2.1 (1, 2, 3, 4) (by decide)).1
theorem lc_poses {w : Wd} {c : Nat} (h : LayC w c) : wR w c 2 = some (c + 3) := (h.2.1 (2, 3, 6, 16) (by decide)).1
theorem lc_tst {w : Wd} {c : Nat} (h : LayC w c) : wR w c 6 = some (c + 13) := (h.2.1 (6, 13, 0, 4) (by decide)).1
theorem lk_joints {w : Wd} {c : Nat} (h : LayC w c) : wK w (c + 1) = some (.inr (4, 4)) := (h.2.1 (0, 1, 4, 4) (by decide)).2
theorem lk_boxes {w : Wd} {c : Nat} (h : LayC w c) : wK w (c + 2) = some (.inr (3, 4)) := (h.2.1 (1, 2, 3, 4) (by decide)).2
theorem lk_poses {w : Wd} {c : Nat} (h : LayC w c) : wK w (c + 3) = some (.inr (6, 16)) := (h.2.1 (2, 3, 6, 16) (by decide)).2
theorem lk_tst {w : Wd} {c : Nat} (h : LayC w c) : wK w (c + 13) = some (.inr (0, 4)) := (h.2.1 (6, 13, 0, 4) (by decide)).2
theorem lc_prog {w : Wd} {c : Nat} (h : LayC w c) : wR w c 3 = some (c + 4) := h.2.2.1
theorem lk_prog {w : Wd} {c : Nat} (h : LayC w c) : wK w (c + 4) = some (.inl 6) := h.2.2.2.1
theorem lc_p {w : Wd} {c : Nat} (h : LayC w c) : LayA w (c + 4) tabP := h.2.2.2.2.1
theorem lc_scr {w : Wd} {c : Nat} (h : LayC w c) : wR w c 4 = some (c + 8) := h.2.2.2.2.2.1
theorem lk_scr {w : Wd} {c : Nat} (h : LayC w c) : wK w (c + 8) = some (.inl 7) := h.2.2.2.2.2.2.1
theorem lc_s {w : Wd} {c : Nat} (h : LayC w c) : LayA w (c + 8) tabS := h.2.2.2.2.2.2.2.1
theorem lc_tried {w : Wd} {c : Nat} (h : LayC w c) : wR w c 5 = some (c + 12) := h.2.2.2.2.2.2.2.2.1
theorem lk_tried {w : Wd} {c : Nat} (h : LayC w c) : wK w (c + 12) = some (.inl 8) := h.2.2.2.2.2.2.2.2.2.1
theorem lc_jo {w : Wd} {c j : Nat} (h : LayC w c) (hj : j < 4) : wR w (c + 1) j = some (c + 14 + j) := (h.2.2.2.2.2.2.2.2.2.2.1 j hj).1
theorem lk_jo {w : Wd} {c j : Nat} (h : LayC w c) (hj : j < 4) : wK w (c + 14 + j) = some (.inl 2) := (h.2.2.2.2.2.2.2.2.2.2.1 j hj).2
theorem lc_bx {w : Wd} {c k : Nat} (h : LayC w c) (hk : k < 4) : wR w (c + 2) k = some (c + 18 + k) := (h.2.2.2.2.2.2.2.2.2.2.2.1 k hk).1
theorem lk_bx {w : Wd} {c k : Nat} (h : LayC w c) (hk : k < 4) : wK w (c + 18 + k) = some (.inl 0) := (h.2.2.2.2.2.2.2.2.2.2.2.1 k hk).2
theorem lc_po {w : Wd} {c k : Nat} (h : LayC w c) (hk : k < 16) : wR w (c + 3) k = some (c + 22 + 2 * k) := (h.2.2.2.2.2.2.2.2.2.2.2.2 k hk).1
theorem lk_po {w : Wd} {c k : Nat} (h : LayC w c) (hk : k < 16) : wK w (c + 22 + 2 * k) = some (.inl 5) := (h.2.2.2.2.2.2.2.2.2.2.2.2 k hk).2.1
theorem lc_ps {w : Wd} {c k : Nat} (h : LayC w c) (hk : k < 16) : wR w (c + 22 + 2 * k) 1 = some (c + 23 + 2 * k) := (h.2.2.2.2.2.2.2.2.2.2.2.2 k hk).2.2.1
theorem lk_ps {w : Wd} {c k : Nat} (h : LayC w c) (hk : k < 16) : wK w (c + 23 + 2 * k) = some (.inr (0, 4)) := (h.2.2.2.2.2.2.2.2.2.2.2.2 k hk).2.2.2
theorem lp_r {w : Wd} {p f a t n : Nat} {l : List (Nat × Nat × Nat × Nat)} (h : LayA w p l) (hm : (f, a, t, n) ∈ l) : wR w p f = some (p + a) := (h _ hm).1
theorem lp_k {w : Wd} {p f a t n : Nat} {l : List (Nat × Nat × Nat × Nat)} (h : LayA w p l) (hm : (f, a, t, n) ∈ l) : wK w (p + a) = some (.inr (t, n)) := (h _ hm).2
/-- the class's object -/
def LayB (w : Wd) (b : Nat) : Prop := wK w b = some (.inl 9) ∧ wR w b 0 = some (b + 1) ∧ LayC w (b + 1) ∧ wR w b 1 = some (b + 55) ∧ LayM w (b + 55) ∧ LayA w b [(2, 65, 5, 4), (3, 66, 1, 4)] ∧ wR w b 4 = some (b + 67) ∧ LayM w (b + 67) ∧ wR w b 5 = some (b + 77) ∧ LayM w (b + 77) ∧ wR w b 6 = some (b + 87) ∧ LayT w (b + 87) ∧ wR w b 7 = some (b + 90) ∧ wK w (b + 90) = some (.inl 8) ∧ (∀ k, k < 4 → wR w (b + 65) k = some (b + 91 + 10 * k) ∧ LayM w (b + 91 + 10 * k))
/-- the same kinds and references, with other ints, longs, doubles -/
def dW (w : Wd) (I : Nat → Nat → Int32) (J : Nat → Nat → Int64) (D : Nat → Nat → UInt64) : Wd := (w.1, w.2.1, w.2.2.1, I, J, D)
theorem dW_I (w : Wd) (a k : Nat) (v : Int32) : sI w a k v = dW w (up2 (wI w) a k v) (wJ w) (wD w) := rfl
theorem dW_J (w : Wd) (a k : Nat) (v : Int64) : sJ w a k v = dW w (wI w) (up2 (wJ w) a k v) (wD w) := rfl
theorem dW_D (w : Wd) (a k : Nat) (v : UInt64) : sD w a k v = dW w (wI w) (wJ w) (up2 (wD w) a k v) := rfl
theorem dW_dW (w : Wd) (I I' : Nat → Nat → Int32) (J J' : Nat → Nat → Int64) (D D' : Nat → Nat → UInt64) : dW (dW w I J D) I' J' D' = dW w I' J' D' := rfl
theorem wI_dW (w : Wd) (I : Nat → Nat → Int32) (J : Nat → Nat → Int64) (D : Nat → Nat → UInt64) : wI (dW w I J D) = I := rfl
theorem wJ_dW (w : Wd) (I : Nat → Nat → Int32) (J : Nat → Nat → Int64) (D : Nat → Nat → UInt64) : wJ (dW w I J D) = J := rfl
theorem wD_dW (w : Wd) (I : Nat → Nat → Int32) (J : Nat → Nat → Int64) (D : Nat → Nat → UInt64) : wD (dW w I J D) = D := rfl
theorem dW_self (w : Wd) : dW w (wI w) (wJ w) (wD w) = w := rfl
/-- one place of a row, one row of a memory -/
def up1 {α : Type} (f : Nat → α) (k : Nat) (v : α) : Nat → α := fun y => if y = k then v else f y
def ua {α : Type} (f : Nat → Nat → α) (a : Nat) (g : Nat → α) : Nat → Nat → α := fun x => if x = a then g else f x
theorem up1_s {α : Type} (f : Nat → α) (k : Nat) (v : α) : up1 f k v k = v := if_pos rfl
theorem up1_k {α : Type} {f : Nat → α} {k y : Nat} {v : α} (h : y ≠ k) : up1 f k v y = f y := if_neg h
theorem ua_s {α : Type} (f : Nat → Nat → α) (a : Nat) (g : Nat → α) : ua f a g a = g := if_pos rfl
theorem ua_a {α : Type} {f : Nat → Nat → α} {a x : Nat} {g : Nat → α} (h : x ≠ a) : ua f a g x = f x := if_neg h
theorem up2_ua {α : Type} (f : Nat → Nat → α) (a k : Nat) (v : α) : up2 f a k v = ua f a (up1 (f a) k v) := by
  funext x y
  unfold up2 ua up1
  by_cases h : x = a
  · subst h
    by_cases h2 : y = k
    · rw [if_pos ⟨rfl, h2⟩, if_pos rfl]; exact (if_pos h2).symm
    · rw [if_neg (fun q => h2 q.2), if_pos rfl]; exact (if_neg h2).symm
  · rw [if_neg (fun q => h q.1), if_neg h]
theorem ua_ua {α : Type} (f : Nat → Nat → α) (a : Nat) (g g' : Nat → α) : ua (ua f a g) a g' = ua f a g' := by
  funext x
  unfold ua
  by_cases h : x = a
  · rw [if_pos h, if_pos h]
  · rw [if_neg h, if_neg h, if_neg h]
theorem ua_self {α : Type} (f : Nat → Nat → α) (a : Nat) : ua f a (f a) = f := by
  funext x
  unfold ua
  by_cases h : x = a
  · rw [if_pos h, h]
  · rw [if_neg h]
/-- the reference's row, put -/
def sRow (w : Wd) (a : Nat) (r : Nat → Int64) : Wd := dW w (wI w) (ua (wJ w) (a + 1) r) (wD w)
def rw1 (w : Wd) (a : Nat) : Nat → Int64 := wJ w (a + 1)
theorem sRow_J (w : Wd) (a k : Nat) (v : Int64) : sJ w (a + 1) k v = sRow w a (up1 (rw1 w a) k v) := by rw [dW_J, up2_ua]; rfl
theorem rw1_s (w : Wd) (a : Nat) (r : Nat → Int64) : rw1 (sRow w a r) a = r := ua_s _ _ _
theorem sRow_s (w : Wd) (a : Nat) (r r' : Nat → Int64) : sRow (sRow w a r) a r' = sRow w a r' := by
  show dW w (wI w) (ua (ua (wJ w) (a + 1) r) (a + 1) r') (wD w) = _
  rw [ua_ua]; rfl
theorem sRow_u (w : Wd) (a k : Nat) (r : Nat → Int64) (v : Int64) : sJ (sRow w a r) (a + 1) k v = sRow w a (up1 r k v) := by rw [sRow_J, rw1_s, sRow_s]
theorem sRow_self (w : Wd) (a : Nat) : sRow w a (rw1 w a) = w := by
  show dW w (wI w) (ua (wJ w) (a + 1) (wJ w (a + 1))) (wD w) = w
  rw [ua_self]; rfl
theorem sRow_j (w : Wd) (a k : Nat) (r : Nat → Int64) : wJ (sRow w a r) (a + 1) k = r k := congrFun (rw1_s w a r) k
theorem sRow_jx (w : Wd) (a : Nat) (r : Nat → Int64) {x : Int32} {n : Nat} (h : x.toNatClampNeg = n) : wJ (sRow w a r) (a + 1) x.toNatClampNeg = r n := by rw [h, sRow_j]
theorem sRow_ux (w : Wd) (a : Nat) (r : Nat → Int64) (v : Int64) {x : Int32} {n : Nat} (h : x.toNatClampNeg = n) : sJ (sRow w a r) (a + 1) x.toNatClampNeg v = sRow w a (up1 r n v) := by rw [h, sRow_u]
theorem vpD {x : Int32} {n : Nat} (h : decide (¬ (x < 0 ∨ n ≤ x.toNatClampNeg)) = true) : vp_in x n := fun q => of_decide_eq_true h q
/-- truth as a number -/
def bI (p : Prop) [Decidable p] : Int32 := if p then 1 else 0
theorem bI_t {p : Prop} [Decidable p] (h : p) : bI p = 1 := if_pos h
theorem bI_f {p : Prop} [Decidable p] (h : ¬ p) : bI p = 0 := if_neg h
theorem bI_0 {p : Prop} [Decidable p] : bI p = 0 ↔ ¬ p := ⟨fun q h => by rw [bI_t h] at q; exact absurd q (by decide), bI_f⟩
theorem bI_1 {p : Prop} [Decidable p] : ¬ bI p = 0 ↔ p := by
  rw [bI_0]; exact Decidable.not_not
theorem bI_n (p : Prop) [Decidable p] : narrow .boolean (.int (bI p)) = .int (bI p) := by
  by_cases h : p
  · rw [bI_t h]; rfl
  · rw [bI_f h]; rfl
theorem bI_c {p q : Prop} [Decidable p] [Decidable q] (h : p ↔ q) : bI p = bI q := by
  by_cases g : p
  · rw [bI_t g, bI_t (h.mp g)]
  · rw [bI_f g, bI_f (fun x => g (h.mpr x))]
theorem rT {p : Prop} [Decidable p] (h : p) : some (Value.int 1) = some (Value.int (bI p)) := by rw [bI_t h]
theorem rF {p : Prop} [Decidable p] (h : ¬ p) : some (Value.int 0) = some (Value.int (bI p)) := by rw [bI_f h]
theorem i32nl {x y : Int32} : ¬ x ≤ y ↔ y < x := by rw [i32le, i32lt]; omega
theorem i32nlt {x y : Int32} : ¬ x < y ↔ y ≤ x := by rw [i32le, i32lt]; omega
/-- the reference's scratch: what may differ behind a call -/
def RS (a : Nat) (w w' : Wd) : Prop := ∃ J D, w' = dW w (wI w) J D ∧ (∀ p, p ≠ a → p ≠ a + 19 → p ≠ a + 20 → p ≠ a + 21 → p ≠ a + 22 → J p = wJ w p) ∧ (∀ p, p ≠ a → D p = wD w p)
theorem RS_r (a : Nat) (w : Wd) : RS a w w := ⟨wJ w, wD w, rfl, fun _ _ _ _ _ _ => rfl, fun _ _ => rfl⟩
theorem RS_t {a : Nat} {w w' w2 : Wd} (h : RS a w w') (g : RS a w' w2) : RS a w w2 := by
  obtain ⟨J, D, rfl, h1, h2⟩ := h
  obtain ⟨J', D', rfl, g1, g2⟩ := g
  exact ⟨J', D', rfl, fun p p1 p2 p3 p4 p5 => (g1 p p1 p2 p3 p4 p5).trans (h1 p p1 p2 p3 p4 p5), fun p p1 => (g2 p p1).trans (h2 p p1)⟩
end
section
-- within
set_option maxRecDepth 100000 in
set_option maxHeartbeats 4000000 in
theorem ct_X10_in (l : Launch) (E : EE) (w : Wd) (v lo hi : Int32) (hlo : E.2.2 ≤ wN w) : Ct l E yX10_in cX10_in 3 (some .boolean) ({ frames := 0, cells := 0, slots := 0, locals := 0 } : Room) [.int v, .int lo, .int hi] w 0 0 (Px (some (.int (bI (lo ≤ v ∧ v ≤ hi)))) w) := by
  refine ct_in (il := il_X10_in) (by decide) dk_X10_in (Nat.le_of_ble_eq_true rfl) hlo ?_
  intro X h hq

  refine g_iload_n h (i := 0) rfl rfl ?_
  refine g_iload_n h (i := 1) rfl rfl ?_
  refine g_icmp_lt h (i := 2) 14 rfl rfl (fun c_2 => ?_) (fun c_2 => ?_)
  · skip
    refine g_iconst h (i := 8) rfl (v := 0) (by rfl) ?_
    exact g_zret hq h (i := 9) rfl (rfl) (⟨rF (fun q => absurd q.1 (i32nl.mpr c_2)), rfl⟩)
  · skip
    refine g_iload_n h (i := 3) rfl rfl ?_
    refine g_iload_n h (i := 4) rfl rfl ?_
    refine g_icmp_gt h (i := 5) 14 rfl rfl (fun c_7 => ?_) (fun c_7 => ?_)
    · skip
      refine g_iconst h (i := 8) rfl (v := 0) (by rfl) ?_
      exact g_zret hq h (i := 9) rfl (rfl) (⟨rF (fun q => absurd q.2 (i32nl.mpr c_7)), rfl⟩)
    · skip
      refine g_iconst h (i := 6) rfl (v := 1) (by rfl) ?_
      refine g_goto h (i := 7) 15 rfl rfl ?_
      exact g_zret hq h (i := 9) rfl (rfl) (⟨rT ⟨i32nlt.mp c_2, i32nlt.mp c_7⟩, rfl⟩)
-- within
set_option maxRecDepth 100000 in
set_option maxHeartbeats 4000000 in
theorem ct_X10_isPose (l : Launch) (E : EE) (w : Wd) (v : Int32) (hlo : E.2.2 ≤ wN w) : Ct l E yX10_isPose cX10_isPose 1 (some .boolean) ({ frames := 1, cells := 0, slots := 0, locals := 22 } : Room) [.int v] w 0 0 (Px (some (.int (bI (0 ≤ v ∧ v ≤ 15)))) w) := by
  refine ct_in (il := il_X10_isPose) (by decide) dk_X10_isPose (Nat.le_of_ble_eq_true rfl) hlo ?_
  intro X h hq

  refine g_iload_n h (i := 0) rfl rfl ?_
  refine g_iconst h (i := 1) rfl (v := 0) (by rfl) ?_
  refine g_bipush h (i := 2) rfl (v := 15) (by rfl) ?_
  refine g_callSx h hq (i := 3) rfl ms_X10_82 (ct_X10_in l E _ v 0 15 hlo) rfl rfl ⟨rfl, rfl, Nat.le_of_ble_eq_true rfl, Nat.le_of_ble_eq_true rfl⟩ (Nat.le_of_ble_eq_true rfl) ⟨Nat.zero_le _, Nat.zero_le _⟩ ?_
  exact g_zret hq h (i := 4) rfl (bI_n _) (⟨rfl, rfl⟩)
-- within
set_option maxRecDepth 100000 in
set_option maxHeartbeats 4000000 in
theorem ct_X10_isJoint (l : Launch) (E : EE) (w : Wd) (a : Nat) (v : Int32) (hlo : E.2.2 ≤ wN w) : Ct l E yX10_isJoint cX10_isJoint 2 (some .boolean) ({ frames := 1, cells := 0, slots := 0, locals := 22 } : Room) [.ref a, .int v] w 0 0 (Px (some (.int (bI (0 ≤ v ∧ v ≤ 3)))) w) := by
  refine ct_in (il := il_X10_isJoint) (by decide) dk_X10_isJoint (Nat.le_of_ble_eq_true rfl) hlo ?_
  intro X h hq

  refine g_iload_n h (i := 0) rfl rfl ?_
  refine g_iconst h (i := 1) rfl (v := 0) (by rfl) ?_
  refine g_iconst h (i := 2) rfl (v := 3) (by rfl) ?_
  refine g_callSx h hq (i := 3) rfl ms_X10_82 (ct_X10_in l E _ v 0 3 hlo) rfl rfl ⟨rfl, rfl, Nat.le_of_ble_eq_true rfl, Nat.le_of_ble_eq_true rfl⟩ (Nat.le_of_ble_eq_true rfl) ⟨Nat.zero_le _, Nat.zero_le _⟩ ?_
  exact g_zret hq h (i := 4) rfl (bI_n _) (⟨rfl, rfl⟩)
-- a place of the row
set_option maxRecDepth 100000 in
set_option maxHeartbeats 4000000 in
theorem ct_X10_rowAt (l : Launch) (E : EE) (w : Wd) (a n : Nat) (r : Nat → Int64) (x : Int32) (hlo : E.2.2 ≤ wN (sRow w a r)) (hL : LayR w a) (hx : vp_in x 408) (hn : x.toNatClampNeg = n) : Ct l E yX10_rowAt cX10_rowAt 2 (some .int) ({ frames := 0, cells := 0, slots := 0, locals := 0 } : Room) [.ref a, .int x] (sRow w a r) 0 0 (Px (some (.int (r n).toInt32)) (sRow w a r)) := by
  refine ct_in (il := il_X10_rowAt) (by decide) dk_X10_rowAt (Nat.le_of_ble_eq_true rfl) hlo ?_
  intro X h hq

  refine g_aload_n h (i := 0) rfl rfl ?_
  refine g_getR h (i := 1) rfl fl_X10_7 (fun _ _ _ => rfl) (lk_R hL) (lr_row hL) ?_
  refine g_iload_n h (i := 2) rfl rfl ?_
  refine g_lald h (i := 3) rfl (lq_row hL) (hx) ?_
  refine g_eql _ (sRow_jx _ _ _ (n := n) (hn)) ?_
  refine g_l2i h (i := 4) rfl ?_
  exact g_iret hq h (i := 5) rfl (⟨rfl, rfl⟩)
-- going
set_option maxRecDepth 100000 in
set_option maxHeartbeats 4000000 in
theorem ct_X10_isGoing (l : Launch) (E : EE) (w : Wd) (a : Nat) (r : Nat → Int64) (hlo : E.2.2 ≤ wN (sRow w a r)) (hL : LayR w a) : Ct l E yX10_isGoing cX10_isGoing 1 (some .boolean) ({ frames := 0, cells := 0, slots := 0, locals := 0 } : Room) [.ref a] (sRow w a r) 0 0 (Px (some (.int (bI (r 28 = 1)))) (sRow w a r)) := by
  refine ct_in (il := il_X10_isGoing) (by decide) dk_X10_isGoing (Nat.le_of_ble_eq_true rfl) hlo ?_
  intro X h hq

  refine g_aload_n h (i := 0) rfl rfl ?_
  refine g_getR h (i := 1) rfl fl_X10_7 (fun _ _ _ => rfl) (lk_R hL) (lr_row hL) ?_
  refine g_bipush h (i := 2) rfl (v := 28) (by rfl) ?_
  refine g_lald h (i := 3) rfl (lq_row hL) (vpD (by decide)) ?_
  refine g_eql _ (sRow_jx _ _ _ (n := 28) (by rfl)) ?_
  refine g_lconst h (i := 4) rfl (v := 1) (by rfl) ?_
  refine g_lcmp h (i := 5) rfl ?_
  refine g_if_ne h (i := 6) 16 rfl rfl (fun c_9 => ?_) (fun c_9 => ?_)
  · skip
    refine g_iconst h (i := 9) rfl (v := 0) (by rfl) ?_
    exact g_zret hq h (i := 10) rfl (rfl) (⟨rF (fun q => c_9 ((lg_cmp_eq _ _).mpr q)), rfl⟩)
  · skip
    refine g_iconst h (i := 7) rfl (v := 1) (by rfl) ?_
    refine g_goto h (i := 8) 17 rfl rfl ?_
    exact g_zret hq h (i := 10) rfl (rfl) (⟨rT ((lg_cmp_eq _ _).mp c_9), rfl⟩)
/-- over: the line is done -/
def overR (r : Nat → Int64) : Nat → Int64 := up1 (up1 (up1 r 46 0) 47 0) 30 (r 30 + 1)
/-- an error -/
def errsR (ln e : Int32) (r : Nat → Int64) : Nat → Int64 := if (r 48).toInt32 = -1 then up1 (up1 (up1 (up1 r 46 0) 47 0) 31 e.toInt64) 28 3 else if ln ≤ (r 48).toInt32 then up1 (up1 (up1 (up1 (up1 r 46 0) 47 0) 31 e.toInt64) 31 3) 28 3 else up1 (up1 (up1 (up1 (up1 (up1 r 46 0) 47 0) 31 e.toInt64) 30 (r 48).toInt32.toInt64) 32 0) 48 (-1)
-- over
set_option maxRecDepth 100000 in
set_option maxHeartbeats 4000000 in
theorem ct_X10_over (l : Launch) (E : EE) (w : Wd) (a : Nat) (r : Nat → Int64) (hlo : E.2.2 ≤ wN (sRow w a r)) (hL : LayR w a) : Ct l E yX10_over cX10_over 1 none ({ frames := 0, cells := 0, slots := 0, locals := 0 } : Room) [.ref a] (sRow w a r) 0 0 (Px none (sRow w a (overR r))) := by
  refine ct_in (il := il_X10_over) (by decide) dk_X10_over (Nat.le_of_ble_eq_true rfl) hlo ?_
  intro X h hq

  refine g_aload_n h (i := 0) rfl rfl ?_
  refine g_getR h (i := 1) rfl fl_X10_7 (fun _ _ _ => rfl) (lk_R hL) (lr_row hL) ?_
  refine g_bipush h (i := 2) rfl (v := 46) (by rfl) ?_
  refine g_lconst h (i := 3) rfl (v := 0) (by rfl) ?_
  refine g_last h (i := 4) rfl (lq_row hL) (vpD (by decide)) ?_
  refine g_w _ (sRow_ux _ _ _ _ (n := 46) (by rfl)) ?_
  refine g_aload_n h (i := 5) rfl rfl ?_
  refine g_getR h (i := 6) rfl fl_X10_7 (fun _ _ _ => rfl) (lk_R hL) (lr_row hL) ?_
  refine g_bipush h (i := 7) rfl (v := 47) (by rfl) ?_
  refine g_lconst h (i := 8) rfl (v := 0) (by rfl) ?_
  refine g_last h (i := 9) rfl (lq_row hL) (vpD (by decide)) ?_
  refine g_w _ (sRow_ux _ _ _ _ (n := 47) (by rfl)) ?_
  refine g_aload_n h (i := 10) rfl rfl ?_
  refine g_getR h (i := 11) rfl fl_X10_7 (fun _ _ _ => rfl) (lk_R hL) (lr_row hL) ?_
  refine g_bipush h (i := 12) rfl (v := 30) (by rfl) ?_
  refine g_dup2 h (i := 13) rfl rfl rfl ?_
  refine g_lald h (i := 14) rfl (lq_row hL) (vpD (by decide)) ?_
  refine g_eql _ (sRow_jx _ _ _ (n := 30) (by rfl)) ?_
  refine g_eql (r 30) (by rw [up1_k (by decide), up1_k (by decide)]) ?_
  refine g_lconst h (i := 15) rfl (v := 1) (by rfl) ?_
  refine g_ladd h (i := 16) rfl ?_
  refine g_last h (i := 17) rfl (lq_row hL) (vpD (by decide)) ?_
  refine g_w _ (sRow_ux _ _ _ _ (n := 30) (by rfl)) ?_
  exact g_vret hq h (i := 18) rfl (⟨rfl, rfl⟩)
-- an error
set_option maxRecDepth 100000 in
set_option maxHeartbeats 4000000 in
theorem ct_X10_errs (l : Launch) (E : EE) (w : Wd) (a : Nat) (r : Nat → Int64) (e : Int32) (hlo : E.2.2 ≤ wN (sRow w a r)) (hL : LayR w a) : Ct l E yX10_errs cX10_errs 3 none ({ frames := 1, cells := 0, slots := 0, locals := 21 } : Room) [.ref a, .int e] (sRow w a r) 0 0 (Px none (sRow w a (errsR (wI w a 12) e r))) := by
  refine ct_in (il := il_X10_errs) (by decide) dk_X10_errs (Nat.le_of_ble_eq_true rfl) hlo ?_
  intro X h hq

  refine g_aload_n h (i := 0) rfl rfl ?_
  refine g_getR h (i := 1) rfl fl_X10_7 (fun _ _ _ => rfl) (lk_R hL) (lr_row hL) ?_
  refine g_bipush h (i := 2) rfl (v := 46) (by rfl) ?_
  refine g_lconst h (i := 3) rfl (v := 0) (by rfl) ?_
  refine g_last h (i := 4) rfl (lq_row hL) (vpD (by decide)) ?_
  refine g_w _ (sRow_ux _ _ _ _ (n := 46) (by rfl)) ?_
  refine g_aload_n h (i := 5) rfl rfl ?_
  refine g_getR h (i := 6) rfl fl_X10_7 (fun _ _ _ => rfl) (lk_R hL) (lr_row hL) ?_
  refine g_bipush h (i := 7) rfl (v := 47) (by rfl) ?_
  refine g_lconst h (i := 8) rfl (v := 0) (by rfl) ?_
  refine g_last h (i := 9) rfl (lq_row hL) (vpD (by decide)) ?_
  refine g_w _ (sRow_ux _ _ _ _ (n := 47) (by rfl)) ?_
  refine g_aload_n h (i := 10) rfl rfl ?_
  refine g_getR h (i := 11) rfl fl_X10_7 (fun _ _ _ => rfl) (lk_R hL) (lr_row hL) ?_
  refine g_bipush h (i := 12) rfl (v := 31) (by rfl) ?_
  refine g_iload_n h (i := 13) rfl rfl ?_
  refine g_i2l h (i := 14) rfl ?_
  refine g_last h (i := 15) rfl (lq_row hL) (vpD (by decide)) ?_
  refine g_w _ (sRow_ux _ _ _ _ (n := 31) (by rfl)) ?_
  refine g_aload_n h (i := 16) rfl rfl ?_
  refine g_bipush h (i := 17) rfl (v := 48) (by rfl) ?_
  refine g_callVx h hq (i := 18) rfl mv_X10_97 cls10 (lk_R hL) (ct_X10_rowAt l E w a 48 _ _ hlo hL (vpD (by decide)) (by rfl)) rfl rfl ⟨rfl, rfl, Nat.le_of_ble_eq_true rfl, Nat.le_of_ble_eq_true rfl⟩ (Nat.le_of_ble_eq_true rfl) ⟨Nat.zero_le _, Nat.zero_le _⟩ ?_
  refine g_eqi (r 48).toInt32 (congrArg Int64.toInt32 (by rw [up1_k (by decide), up1_k (by decide), up1_k (by decide)])) ?_
  refine g_istore_n h (i := 19) rfl hq rfl ?_
  refine g_iload_n h (i := 20) rfl rfl ?_
  refine g_iconst h (i := 21) rfl (v := -1) (by rfl) ?_
  refine g_icmp_ne h (i := 22) 50 rfl rfl (fun c_34 => ?_) (fun c_34 => ?_)
  · skip
    refine g_iload_n h (i := 29) rfl rfl ?_
    refine g_aload_n h (i := 30) rfl rfl ?_
    refine g_getI h (i := 31) rfl fl_X10_207 (fun _ _ _ => rfl) (lk_R hL) ?_
    refine g_eqi (wI w a 12) rfl ?_
    refine g_icmp_lt h (i := 32) 81 rfl rfl (fun c_55 => ?_) (fun c_55 => ?_)
    · skip
      refine g_aload_n h (i := 44) rfl rfl ?_
      refine g_getR h (i := 45) rfl fl_X10_7 (fun _ _ _ => rfl) (lk_R hL) (lr_row hL) ?_
      refine g_bipush h (i := 46) rfl (v := 30) (by rfl) ?_
      refine g_iload_n h (i := 47) rfl rfl ?_
      refine g_i2l h (i := 48) rfl ?_
      refine g_last h (i := 49) rfl (lq_row hL) (vpD (by decide)) ?_
      refine g_w _ (sRow_ux _ _ _ _ (n := 30) (by rfl)) ?_
      refine g_aload_n h (i := 50) rfl rfl ?_
      refine g_getR h (i := 51) rfl fl_X10_7 (fun _ _ _ => rfl) (lk_R hL) (lr_row hL) ?_
      refine g_bipush h (i := 52) rfl (v := 32) (by rfl) ?_
      refine g_lconst h (i := 53) rfl (v := 0) (by rfl) ?_
      refine g_last h (i := 54) rfl (lq_row hL) (vpD (by decide)) ?_
      refine g_w _ (sRow_ux _ _ _ _ (n := 32) (by rfl)) ?_
      refine g_aload_n h (i := 55) rfl rfl ?_
      refine g_getR h (i := 56) rfl fl_X10_7 (fun _ _ _ => rfl) (lk_R hL) (lr_row hL) ?_
      refine g_bipush h (i := 57) rfl (v := 48) (by rfl) ?_
      refine g_ldc2 h (i := 58) rfl k_X10_80 ?_
      refine g_last h (i := 59) rfl (lq_row hL) (vpD (by decide)) ?_
      refine g_w _ (sRow_ux _ _ _ _ (n := 48) (by rfl)) ?_
      exact g_vret hq h (i := 60) rfl (⟨rfl, by unfold errsR; rw [if_neg c_34, if_neg (i32nl.mpr c_55)]⟩)
    · skip
      refine g_aload_n h (i := 33) rfl rfl ?_
      refine g_getR h (i := 34) rfl fl_X10_7 (fun _ _ _ => rfl) (lk_R hL) (lr_row hL) ?_
      refine g_bipush h (i := 35) rfl (v := 31) (by rfl) ?_
      refine g_ldc2 h (i := 36) rfl k_X10_214 ?_
      refine g_last h (i := 37) rfl (lq_row hL) (vpD (by decide)) ?_
      refine g_w _ (sRow_ux _ _ _ _ (n := 31) (by rfl)) ?_
      refine g_aload_n h (i := 38) rfl rfl ?_
      refine g_getR h (i := 39) rfl fl_X10_7 (fun _ _ _ => rfl) (lk_R hL) (lr_row hL) ?_
      refine g_bipush h (i := 40) rfl (v := 28) (by rfl) ?_
      refine g_ldc2 h (i := 41) rfl k_X10_214 ?_
      refine g_last h (i := 42) rfl (lq_row hL) (vpD (by decide)) ?_
      refine g_w _ (sRow_ux _ _ _ _ (n := 28) (by rfl)) ?_
      refine g_goto h (i := 43) 108 rfl rfl ?_
      exact g_vret hq h (i := 60) rfl (⟨rfl, by unfold errsR; rw [if_neg c_34, if_pos (i32nlt.mp c_55)]⟩)
  · skip
    refine g_aload_n h (i := 23) rfl rfl ?_
    refine g_getR h (i := 24) rfl fl_X10_7 (fun _ _ _ => rfl) (lk_R hL) (lr_row hL) ?_
    refine g_bipush h (i := 25) rfl (v := 28) (by rfl) ?_
    refine g_ldc2 h (i := 26) rfl k_X10_214 ?_
    refine g_last h (i := 27) rfl (lq_row hL) (vpD (by decide)) ?_
    refine g_w _ (sRow_ux _ _ _ _ (n := 28) (by rfl)) ?_
    refine g_goto h (i := 28) 108 rfl rfl ?_
    exact g_vret hq h (i := 60) rfl (⟨rfl, by unfold errsR; rw [if_pos c_34]⟩)
def pN (x : Int64) : Nat := x.toInt.toNat
def pI (x : Int32) : Nat := x.toInt.toNat
theorem pN_l {n : Nat} (h : n < 9223372036854775808) : pN (lN n) = n := by unfold pN; rw [lNT h]; exact Int.toNat_natCast n
theorem pI_n {n : Nat} (h : n < 2147483648) : pI (nI n) = n := by unfold pI; rw [nIT h]; exact Int.toNat_natCast n
abbrev onP (r : Nat → Int64) (i : Int32) : Prop := i ≠ -1 ∧ r (4 + pI i) = 1
def goesToR (ln x : Int32) (r : Nat → Int64) : Nat → Int64 := if ln ≤ x then errsR ln 3 r else up1 r 30 x.toInt64
def callsR (ln x : Int32) (r : Nat → Int64) : Nat → Int64 := if ln ≤ x then errsR ln 3 r else if r 32 = 12 then errsR ln 5 r else up1 (up1 (up1 r (33 + pN (r 32)) (r 30 + 1)) 32 (r 32 + 1)) 30 x.toInt64
def backR (r : Nat → Int64) : Nat → Int64 := if r 32 = 0 then up1 r 28 2 else up1 (up1 r 32 (r 32 - 1)) 30 (r (33 + (pN (r 32) - 1)))
theorem lN_32 {n : Nat} (h : n < 2147483648) : (lN n).toInt32 = nI n := i32x (by rw [l_i (by rw [lNT (by omega)]; omega) (by rw [lNT (by omega)]; omega), lNT (by omega), nIT h])
theorem lN_x {a b : Nat} (ha : a < 9223372036854775808) (hb : b < 9223372036854775808) : lN a = lN b ↔ a = b := pk_lEQ (by omega) (by omega)
theorem up1_p {α : Type} {f : Nat → α} {k y : Nat} {v : α} (h : k ≠ y) : up1 f k v y = f y := if_neg (fun q => h q.symm)
-- a jump
set_option maxRecDepth 100000 in
set_option maxHeartbeats 4000000 in
theorem ct_X10_goesTo (l : Launch) (E : EE) (w : Wd) (a : Nat) (r : Nat → Int64) (x : Int32) (hlo : E.2.2 ≤ wN (sRow w a r)) (hL : LayR w a) : Ct l E yX10_goesTo cX10_goesTo 2 none ({ frames := 2, cells := 0, slots := 0, locals := 43 } : Room) [.ref a, .int x] (sRow w a r) 0 0 (Px none (sRow w a (goesToR (wI w a 12) x r))) := by
  refine ct_in (il := il_X10_goesTo) (by decide) dk_X10_goesTo (Nat.le_of_ble_eq_true rfl) hlo ?_
  intro X h hq

  refine g_iload_n h (i := 0) rfl rfl ?_
  refine g_aload_n h (i := 1) rfl rfl ?_
  refine g_getI h (i := 2) rfl fl_X10_207 (fun _ _ _ => rfl) (lk_R hL) ?_
  refine g_eqi (wI w a 12) rfl ?_
  refine g_icmp_lt h (i := 3) 16 rfl rfl (fun c_5 => ?_) (fun c_5 => ?_)
  · skip
    refine g_aload_n h (i := 8) rfl rfl ?_
    refine g_getR h (i := 9) rfl fl_X10_7 (fun _ _ _ => rfl) (lk_R hL) (lr_row hL) ?_
    refine g_bipush h (i := 10) rfl (v := 30) (by rfl) ?_
    refine g_iload_n h (i := 11) rfl rfl ?_
    refine g_i2l h (i := 12) rfl ?_
    refine g_last h (i := 13) rfl (lq_row hL) (vpD (by decide)) ?_
    refine g_w _ (sRow_ux _ _ _ _ (n := 30) (by rfl)) ?_
    exact g_vret hq h (i := 14) rfl (⟨rfl, by unfold goesToR; rw [if_neg (i32nl.mpr c_5)]⟩)
  · skip
    refine g_aload_n h (i := 4) rfl rfl ?_
    refine g_iconst h (i := 5) rfl (v := 3) (by rfl) ?_
    refine g_callVn h hq (i := 6) rfl mv_X10_219 cls10 (lk_R hL) (ct_X10_errs l E w a r _ hlo hL) rfl rfl ⟨rfl, rfl, Nat.le_of_ble_eq_true rfl, Nat.le_of_ble_eq_true rfl⟩ (Nat.le_of_ble_eq_true rfl) ⟨Nat.zero_le _, Nat.zero_le _⟩ ?_
    refine g_goto h (i := 7) 25 rfl rfl ?_
    exact g_vret hq h (i := 14) rfl (⟨rfl, by unfold goesToR; rw [if_pos (i32nlt.mp c_5)]⟩)
-- a call
set_option maxRecDepth 100000 in
set_option maxHeartbeats 4000000 in
theorem ct_X10_calls (l : Launch) (E : EE) (w : Wd) (a p : Nat) (r : Nat → Int64) (x : Int32) (hlo : E.2.2 ≤ wN (sRow w a r)) (hL : LayR w a) (hp : r 32 = lN p) (hp2 : p ≤ 12) : Ct l E yX10_calls cX10_calls 2 none ({ frames := 2, cells := 0, slots := 0, locals := 43 } : Room) [.ref a, .int x] (sRow w a r) 0 0 (Px none (sRow w a (callsR (wI w a 12) x r))) := by
  refine ct_in (il := il_X10_calls) (by decide) dk_X10_calls (Nat.le_of_ble_eq_true rfl) hlo ?_
  intro X h hq

  refine g_iload_n h (i := 0) rfl rfl ?_
  refine g_aload_n h (i := 1) rfl rfl ?_
  refine g_getI h (i := 2) rfl fl_X10_207 (fun _ _ _ => rfl) (lk_R hL) ?_
  refine g_eqi (wI w a 12) rfl ?_
  refine g_icmp_lt h (i := 3) 16 rfl rfl (fun c_5 => ?_) (fun c_5 => ?_)
  · skip
    refine g_aload_n h (i := 8) rfl rfl ?_
    refine g_getR h (i := 9) rfl fl_X10_7 (fun _ _ _ => rfl) (lk_R hL) (lr_row hL) ?_
    refine g_bipush h (i := 10) rfl (v := 32) (by rfl) ?_
    refine g_lald h (i := 11) rfl (lq_row hL) (vpD (by decide)) ?_
    refine g_eql _ (sRow_jx _ _ _ (n := 32) (by rfl)) ?_
    refine g_ldc2 h (i := 12) rfl k_X10_235 ?_
    refine g_lcmp h (i := 13) rfl ?_
    refine g_if_ne h (i := 14) 38 rfl rfl (fun c_27 => ?_) (fun c_27 => ?_)
    · skip
      have hp3 : p < 12 := by
        have : p ≠ 12 := fun q => c_27 ((lg_cmp_eq _ _).mpr (by rw [hp, q]; rfl))
        omega
      refine g_aload_n h (i := 19) rfl rfl ?_
      refine g_getR h (i := 20) rfl fl_X10_7 (fun _ _ _ => rfl) (lk_R hL) (lr_row hL) ?_
      refine g_bipush h (i := 21) rfl (v := 33) (by rfl) ?_
      refine g_aload_n h (i := 22) rfl rfl ?_
      refine g_bipush h (i := 23) rfl (v := 32) (by rfl) ?_
      refine g_callVx h hq (i := 24) rfl mv_X10_97 cls10 (lk_R hL) (ct_X10_rowAt l E w a 32 _ _ hlo hL (vpD (by decide)) (by rfl)) rfl rfl ⟨rfl, rfl, Nat.le_of_ble_eq_true rfl, Nat.le_of_ble_eq_true rfl⟩ (Nat.le_of_ble_eq_true rfl) ⟨Nat.zero_le _, Nat.zero_le _⟩ ?_
      refine g_iadd h (i := 25) rfl ?_
      refine g_eqi (nI (33 + p)) (by rw [hp, lN_32 (by omega)]; exact nI_add 33 p) ?_
      refine g_aload_n h (i := 26) rfl rfl ?_
      refine g_getR h (i := 27) rfl fl_X10_7 (fun _ _ _ => rfl) (lk_R hL) (lr_row hL) ?_
      refine g_bipush h (i := 28) rfl (v := 30) (by rfl) ?_
      refine g_lald h (i := 29) rfl (lq_row hL) (vpD (by decide)) ?_
      refine g_eql _ (sRow_jx _ _ _ (n := 30) (by rfl)) ?_
      refine g_lconst h (i := 30) rfl (v := 1) (by rfl) ?_
      refine g_ladd h (i := 31) rfl ?_
      refine g_last h (i := 32) rfl (lq_row hL) (vp_in_nI (by omega) (by omega)) ?_
      refine g_w _ (sRow_ux _ _ _ _ (n := 33 + p) (nI_clamp (by omega))) ?_
      refine g_aload_n h (i := 33) rfl rfl ?_
      refine g_getR h (i := 34) rfl fl_X10_7 (fun _ _ _ => rfl) (lk_R hL) (lr_row hL) ?_
      refine g_bipush h (i := 35) rfl (v := 32) (by rfl) ?_
      refine g_dup2 h (i := 36) rfl rfl rfl ?_
      refine g_lald h (i := 37) rfl (lq_row hL) (vpD (by decide)) ?_
      refine g_eql _ (sRow_jx _ _ _ (n := 32) (by rfl)) ?_
      refine g_eql (r 32) (up1_p (by omega)) ?_
      refine g_lconst h (i := 38) rfl (v := 1) (by rfl) ?_
      refine g_ladd h (i := 39) rfl ?_
      refine g_last h (i := 40) rfl (lq_row hL) (vpD (by decide)) ?_
      refine g_w _ (sRow_ux _ _ _ _ (n := 32) (by rfl)) ?_
      refine g_aload_n h (i := 41) rfl rfl ?_
      refine g_getR h (i := 42) rfl fl_X10_7 (fun _ _ _ => rfl) (lk_R hL) (lr_row hL) ?_
      refine g_bipush h (i := 43) rfl (v := 30) (by rfl) ?_
      refine g_iload_n h (i := 44) rfl rfl ?_
      refine g_i2l h (i := 45) rfl ?_
      refine g_last h (i := 46) rfl (lq_row hL) (vpD (by decide)) ?_
      refine g_w _ (sRow_ux _ _ _ _ (n := 30) (by rfl)) ?_
      exact g_vret hq h (i := 47) rfl (⟨rfl, by unfold callsR; rw [if_neg (i32nl.mpr c_5), if_neg (fun q => c_27 ((lg_cmp_eq _ _).mpr q)), hp, pN_l (by omega)]⟩)
    · skip
      refine g_aload_n h (i := 15) rfl rfl ?_
      refine g_iconst h (i := 16) rfl (v := 5) (by rfl) ?_
      refine g_callVn h hq (i := 17) rfl mv_X10_219 cls10 (lk_R hL) (ct_X10_errs l E w a r _ hlo hL) rfl rfl ⟨rfl, rfl, Nat.le_of_ble_eq_true rfl, Nat.le_of_ble_eq_true rfl⟩ (Nat.le_of_ble_eq_true rfl) ⟨Nat.zero_le _, Nat.zero_le _⟩ ?_
      refine g_goto h (i := 18) 81 rfl rfl ?_
      exact g_vret hq h (i := 47) rfl (⟨rfl, by unfold callsR; rw [if_neg (i32nl.mpr c_5), if_pos ((lg_cmp_eq _ _).mp c_27)]⟩)
  · skip
    refine g_aload_n h (i := 4) rfl rfl ?_
    refine g_iconst h (i := 5) rfl (v := 3) (by rfl) ?_
    refine g_callVn h hq (i := 6) rfl mv_X10_219 cls10 (lk_R hL) (ct_X10_errs l E w a r _ hlo hL) rfl rfl ⟨rfl, rfl, Nat.le_of_ble_eq_true rfl, Nat.le_of_ble_eq_true rfl⟩ (Nat.le_of_ble_eq_true rfl) ⟨Nat.zero_le _, Nat.zero_le _⟩ ?_
    refine g_goto h (i := 7) 81 rfl rfl ?_
    exact g_vret hq h (i := 47) rfl (⟨rfl, by unfold callsR; rw [if_pos (i32nlt.mp c_5)]⟩)
-- back from a call
set_option maxRecDepth 100000 in
set_option maxHeartbeats 4000000 in
theorem ct_X10_comesBack (l : Launch) (E : EE) (w : Wd) (a p : Nat) (r : Nat → Int64) (hlo : E.2.2 ≤ wN (sRow w a r)) (hL : LayR w a) (hp : r 32 = lN p) (hp2 : p ≤ 12) : Ct l E yX10_comesBack cX10_comesBack 1 none ({ frames := 1, cells := 0, slots := 0, locals := 21 } : Room) [.ref a] (sRow w a r) 0 0 (Px none (sRow w a (backR r))) := by
  refine ct_in (il := il_X10_comesBack) (by decide) dk_X10_comesBack (Nat.le_of_ble_eq_true rfl) hlo ?_
  intro X h hq

  refine g_aload_n h (i := 0) rfl rfl ?_
  refine g_getR h (i := 1) rfl fl_X10_7 (fun _ _ _ => rfl) (lk_R hL) (lr_row hL) ?_
  refine g_bipush h (i := 2) rfl (v := 32) (by rfl) ?_
  refine g_lald h (i := 3) rfl (lq_row hL) (vpD (by decide)) ?_
  refine g_eql _ (sRow_jx _ _ _ (n := 32) (by rfl)) ?_
  refine g_lconst h (i := 4) rfl (v := 0) (by rfl) ?_
  refine g_lcmp h (i := 5) rfl ?_
  refine g_if_ne h (i := 6) 25 rfl rfl (fun c_9 => ?_) (fun c_9 => ?_)
  · skip
    have hp3 : 0 < p := by
      have : p ≠ 0 := fun q => c_9 ((lg_cmp_eq _ _).mpr (by rw [hp, q]; rfl))
      omega
    have hm : r 32 - 1 = lN (p - 1) := by rw [hp]; exact lN_sub (b := 1) hp3
    refine g_aload_n h (i := 13) rfl rfl ?_
    refine g_getR h (i := 14) rfl fl_X10_7 (fun _ _ _ => rfl) (lk_R hL) (lr_row hL) ?_
    refine g_bipush h (i := 15) rfl (v := 32) (by rfl) ?_
    refine g_dup2 h (i := 16) rfl rfl rfl ?_
    refine g_lald h (i := 17) rfl (lq_row hL) (vpD (by decide)) ?_
    refine g_eql _ (sRow_jx _ _ _ (n := 32) (by rfl)) ?_
    refine g_lconst h (i := 18) rfl (v := 1) (by rfl) ?_
    refine g_lsub h (i := 19) rfl ?_
    refine g_last h (i := 20) rfl (lq_row hL) (vpD (by decide)) ?_
    refine g_w _ (sRow_ux _ _ _ _ (n := 32) (by rfl)) ?_
    refine g_aload_n h (i := 21) rfl rfl ?_
    refine g_getR h (i := 22) rfl fl_X10_7 (fun _ _ _ => rfl) (lk_R hL) (lr_row hL) ?_
    refine g_bipush h (i := 23) rfl (v := 30) (by rfl) ?_
    refine g_aload_n h (i := 24) rfl rfl ?_
    refine g_getR h (i := 25) rfl fl_X10_7 (fun _ _ _ => rfl) (lk_R hL) (lr_row hL) ?_
    refine g_bipush h (i := 26) rfl (v := 33) (by rfl) ?_
    refine g_aload_n h (i := 27) rfl rfl ?_
    refine g_bipush h (i := 28) rfl (v := 32) (by rfl) ?_
    refine g_callVx h hq (i := 29) rfl mv_X10_97 cls10 (lk_R hL) (ct_X10_rowAt l E w a 32 _ _ hlo hL (vpD (by decide)) (by rfl)) rfl rfl ⟨rfl, rfl, Nat.le_of_ble_eq_true rfl, Nat.le_of_ble_eq_true rfl⟩ (Nat.le_of_ble_eq_true rfl) ⟨Nat.zero_le _, Nat.zero_le _⟩ ?_
    refine g_eqi (nI (p - 1)) (by rw [up1_s, hm, lN_32 (by omega)]) ?_
    refine g_iadd h (i := 30) rfl ?_
    refine g_eqi (nI (33 + (p - 1))) (nI_add 33 (p - 1)) ?_
    refine g_lald h (i := 31) rfl (lq_row hL) (vp_in_nI (by omega) (by omega)) ?_
    refine g_eql _ (sRow_jx _ _ _ (n := 33 + (p - 1)) (nI_clamp (by omega))) ?_
    refine g_eql (r (33 + (p - 1))) (up1_k (by omega)) ?_
    refine g_last h (i := 32) rfl (lq_row hL) (vpD (by decide)) ?_
    refine g_w _ (sRow_ux _ _ _ _ (n := 30) (by rfl)) ?_
    exact g_vret hq h (i := 33) rfl (⟨rfl, by unfold backR; rw [if_neg (fun q => c_9 ((lg_cmp_eq _ _).mpr q)), hp, pN_l (by omega)]⟩)
  · skip
    refine g_aload_n h (i := 7) rfl rfl ?_
    refine g_getR h (i := 8) rfl fl_X10_7 (fun _ _ _ => rfl) (lk_R hL) (lr_row hL) ?_
    refine g_bipush h (i := 9) rfl (v := 28) (by rfl) ?_
    refine g_ldc2 h (i := 10) rfl k_X10_168 ?_
    refine g_last h (i := 11) rfl (lq_row hL) (vpD (by decide)) ?_
    refine g_w _ (sRow_ux _ _ _ _ (n := 28) (by rfl)) ?_
    refine g_goto h (i := 12) 57 rfl rfl ?_
    exact g_vret hq h (i := 33) rfl (⟨rfl, by unfold backR; rw [if_pos ((lg_cmp_eq _ _).mp c_9)]⟩)
-- an input
set_option maxRecDepth 100000 in
set_option maxHeartbeats 4000000 in
theorem ct_X10_isOn (l : Launch) (E : EE) (w : Wd) (a : Nat) (r : Nat → Int64) (i : Int32) (hlo : E.2.2 ≤ wN (sRow w a r)) (hL : LayR w a) (hi : i ≠ -1 → ∃ n, n < 8 ∧ i = nI n) : Ct l E yX10_isOn cX10_isOn 2 (some .boolean) ({ frames := 0, cells := 0, slots := 0, locals := 0 } : Room) [.ref a, .int i] (sRow w a r) 0 0 (Px (some (.int (bI (onP r i)))) (sRow w a r)) := by
  refine ct_in (il := il_X10_isOn) (by decide) dk_X10_isOn (Nat.le_of_ble_eq_true rfl) hlo ?_
  intro X h hq

  refine g_iload_n h (i := 0) rfl rfl ?_
  refine g_iconst h (i := 1) rfl (v := -1) (by rfl) ?_
  refine g_icmp_eq h (i := 2) 22 rfl rfl (fun c_2 => ?_) (fun c_2 => ?_)
  · skip
    refine g_iconst h (i := 14) rfl (v := 0) (by rfl) ?_
    exact g_zret hq h (i := 15) rfl (rfl) (⟨rF (fun q => q.1 c_2), rfl⟩)
  · skip
    obtain ⟨n, hn, he⟩ := hi c_2
    refine g_aload_n h (i := 3) rfl rfl ?_
    refine g_getR h (i := 4) rfl fl_X10_7 (fun _ _ _ => rfl) (lk_R hL) (lr_row hL) ?_
    refine g_iconst h (i := 5) rfl (v := 4) (by rfl) ?_
    refine g_iload_n h (i := 6) rfl rfl ?_
    refine g_iadd h (i := 7) rfl ?_
    refine g_eqi (nI (4 + n)) (by rw [he]; exact nI_add 4 n) ?_
    refine g_lald h (i := 8) rfl (lq_row hL) (vp_in_nI (by omega) (by omega)) ?_
    refine g_eql _ (sRow_jx _ _ _ (n := 4 + n) (nI_clamp (by omega))) ?_
    refine g_lconst h (i := 9) rfl (v := 1) (by rfl) ?_
    refine g_lcmp h (i := 10) rfl ?_
    refine g_if_ne h (i := 11) 22 rfl rfl (fun c_15 => ?_) (fun c_15 => ?_)
    · skip
      refine g_iconst h (i := 14) rfl (v := 0) (by rfl) ?_
      exact g_zret hq h (i := 15) rfl (rfl) (⟨rF (fun q => c_15 ((lg_cmp_eq _ _).mpr (by have := q.2; rw [he, pI_n (by omega)] at this; exact this))), rfl⟩)
    · skip
      refine g_iconst h (i := 12) rfl (v := 1) (by rfl) ?_
      refine g_goto h (i := 13) 23 rfl rfl ?_
      exact g_zret hq h (i := 15) rfl (rfl) (⟨rT ⟨c_2, by rw [he, pI_n (by omega)]; exact (lg_cmp_eq _ _).mp c_15⟩, rfl⟩)
def stopR (r : Nat → Int64) : Nat → Int64 := up1 (up1 (up1 (up1 r 28 3) 31 9) 46 0) 47 0
-- stop
set_option maxRecDepth 100000 in
set_option maxHeartbeats 4000000 in
theorem ct_X10_stop (l : Launch) (E : EE) (w : Wd) (a : Nat) (r : Nat → Int64) (hlo : E.2.2 ≤ wN (sRow w a r)) (hL : LayR w a) : Ct l E yX10_stop cX10_stop 1 (some .int) ({ frames := 1, cells := 0, slots := 0, locals := 20 } : Room) [.ref a] (sRow w a r) 0 0 (Px (some (.int (if r 28 = 1 then 1 else -3))) (sRow w a (if r 28 = 1 then stopR r else r))) := by
  refine ct_in (il := il_X10_stop) (by decide) dk_X10_stop (Nat.le_of_ble_eq_true rfl) hlo ?_
  intro X h hq

  refine g_aload_n h (i := 0) rfl rfl ?_
  refine g_callVx h hq (i := 1) rfl mv_X10_91 cls10 (lk_R hL) (ct_X10_isGoing l E w a r hlo hL) rfl rfl ⟨rfl, rfl, Nat.le_of_ble_eq_true rfl, Nat.le_of_ble_eq_true rfl⟩ (Nat.le_of_ble_eq_true rfl) ⟨Nat.zero_le _, Nat.zero_le _⟩ ?_
  refine g_if_ne h (i := 2) 10 rfl rfl (fun c_4 => ?_) (fun c_4 => ?_)
  · skip
    refine g_aload_n h (i := 5) rfl rfl ?_
    refine g_getR h (i := 6) rfl fl_X10_7 (fun _ _ _ => rfl) (lk_R hL) (lr_row hL) ?_
    refine g_bipush h (i := 7) rfl (v := 28) (by rfl) ?_
    refine g_ldc2 h (i := 8) rfl k_X10_214 ?_
    refine g_last h (i := 9) rfl (lq_row hL) (vpD (by decide)) ?_
    refine g_w _ (sRow_ux _ _ _ _ (n := 28) (by rfl)) ?_
    refine g_aload_n h (i := 10) rfl rfl ?_
    refine g_getR h (i := 11) rfl fl_X10_7 (fun _ _ _ => rfl) (lk_R hL) (lr_row hL) ?_
    refine g_bipush h (i := 12) rfl (v := 31) (by rfl) ?_
    refine g_ldc2 h (i := 13) rfl k_X10_258 ?_
    refine g_last h (i := 14) rfl (lq_row hL) (vpD (by decide)) ?_
    refine g_w _ (sRow_ux _ _ _ _ (n := 31) (by rfl)) ?_
    refine g_aload_n h (i := 15) rfl rfl ?_
    refine g_getR h (i := 16) rfl fl_X10_7 (fun _ _ _ => rfl) (lk_R hL) (lr_row hL) ?_
    refine g_bipush h (i := 17) rfl (v := 46) (by rfl) ?_
    refine g_lconst h (i := 18) rfl (v := 0) (by rfl) ?_
    refine g_last h (i := 19) rfl (lq_row hL) (vpD (by decide)) ?_
    refine g_w _ (sRow_ux _ _ _ _ (n := 46) (by rfl)) ?_
    refine g_aload_n h (i := 20) rfl rfl ?_
    refine g_getR h (i := 21) rfl fl_X10_7 (fun _ _ _ => rfl) (lk_R hL) (lr_row hL) ?_
    refine g_bipush h (i := 22) rfl (v := 47) (by rfl) ?_
    refine g_lconst h (i := 23) rfl (v := 0) (by rfl) ?_
    refine g_last h (i := 24) rfl (lq_row hL) (vpD (by decide)) ?_
    refine g_w _ (sRow_ux _ _ _ _ (n := 47) (by rfl)) ?_
    refine g_iconst h (i := 25) rfl (v := 1) (by rfl) ?_
    exact g_iret hq h (i := 26) rfl (⟨by rw [if_pos (bI_1.mp c_4)], by rw [if_pos (bI_1.mp c_4)]; rfl⟩)
  · skip
    refine g_bipush h (i := 3) rfl (v := -3) (by rfl) ?_
    exact g_iret hq h (i := 4) rfl (⟨by rw [if_neg (bI_0.mp c_4)], by rw [if_neg (bI_0.mp c_4)]⟩)
end
section
theorem in_swap (a b : Int) : compare b a = (compare a b).swap := by
  rcases Int.lt_trichotomy a b with h | h | h
  · rw [Int.compare_eq_lt.mpr h, Int.compare_eq_gt.mpr h]; rfl
  · rw [h, Int.compare_eq_eq.mpr rfl]; rfl
  · rw [Int.compare_eq_gt.mpr h, Int.compare_eq_lt.mpr h]; rfl
theorem dc_swap (a b : UInt64) : FP.dcmp b a = (FP.dcmp a b).map Ordering.swap := by
  rw [fk_dcmp, fk_dcmp]
  generalize fk a = x
  generalize fk b = y
  rcases x with _ | s | ⟨s, c, q⟩ <;> rcases y with _ | s2 | ⟨s2, c2, q2⟩
  all_goals first | rfl | skip
  all_goals simp only [FP.Core.order, Option.map]
  all_goals first | exact congrArg some (in_swap _ _) | (rw [Int.min_comm q2 q]; exact congrArg some (in_swap _ _))
/-- at most, of doubles -/
abbrev dLe (a b : UInt64) : Prop := FP.dcmp a b = some .lt ∨ FP.dcmp a b = some .eq
theorem cg_pos (a b : UInt64) : 0 < Op.cmpValue (FP.dcmp a b) .g ↔ ¬ dLe a b := by
  unfold dLe
  rcases hc : FP.dcmp a b with _ | o
  · exact ⟨fun _ q => (by rcases q with q | q <;> cases q), fun _ => by decide⟩
  · cases o <;> simp [Op.cmpValue]
theorem cl_neg (a b : UInt64) : Op.cmpValue (FP.dcmp b a) .l < 0 ↔ ¬ dLe a b := by
  unfold dLe
  have e := dc_swap a b
  rw [e]
  rcases hc : FP.dcmp a b with _ | o
  · exact ⟨fun _ q => (by rcases q with q | q <;> cases q), fun _ => by decide⟩
  · cases o <;> simp [Op.cmpValue, Ordering.swap]
theorem cg_n {a b : UInt64} (h : ¬ 0 < Op.cmpValue (FP.dcmp a b) .g) : dLe a b := Decidable.not_not.mp (fun q => h ((cg_pos a b).mpr q))
theorem cl_n {a b : UInt64} (h : ¬ Op.cmpValue (FP.dcmp b a) .l < 0) : dLe a b := Decidable.not_not.mp (fun q => h ((cl_neg a b).mpr q))
/-- the point in the box -/
abbrev inB (x y : UInt64) (x0 y0 x1 y1 : Int32) : Prop := dLe (FP.i2d x0) x ∧ dLe x (FP.i2d x1) ∧ dLe (FP.i2d y0) y ∧ dLe y (FP.i2d y1)
/-- in one of the first n boxes -/
def barB (ib bx : Nat → Int32) (x y : UInt64) : Nat → Bool
  | 0 => false
  | k + 1 => barB ib bx x y k || (decide (ib k ≠ 0) && decide (inB x y (bx (4 * k)) (bx (4 * k + 1)) (bx (4 * k + 2)) (bx (4 * k + 3))))
theorem bar_t {ib bx : Nat → Int32} {x y : UInt64} {k n : Nat} (hk : k < n) (h : ib k ≠ 0) (h2 : inB x y (bx (4 * k)) (bx (4 * k + 1)) (bx (4 * k + 2)) (bx (4 * k + 3))) : barB ib bx x y n = true := by
  induction n with
  | zero => omega
  | succ n ih =>
    unfold barB
    by_cases e : k = n
    · subst e; rw [decide_eq_true h, decide_eq_true h2]; simp
    · rw [ih (by omega)]; rfl
theorem bar_s {ib bx : Nat → Int32} {x y : UInt64} {k : Nat} (h : barB ib bx x y k = false) (h2 : ¬ (ib k ≠ 0 ∧ inB x y (bx (4 * k)) (bx (4 * k + 1)) (bx (4 * k + 2)) (bx (4 * k + 3)))) : barB ib bx x y (k + 1) = false := by
  unfold barB
  rw [h, Bool.false_or, ← Bool.decide_and]
  exact decide_eq_false h2
theorem nI_mul4 {k : Nat} : (4 : Int32) * nI k = nI (4 * k) := pk_mul 4 k
-- the tip in a box
set_option maxRecDepth 100000 in
set_option maxHeartbeats 4000000 in
theorem ct_X8_isIn (l : Launch) (E : EE) (w : Wd) (t : Nat) (x0 y0 x1 y1 : Int32) (hlo : E.2.2 ≤ wN w) (hT : wK w t = some (.inl 8)) : Ct l E yX8_isIn cX8_isIn 5 (some .boolean) ({ frames := 0, cells := 0, slots := 0, locals := 0 } : Room) [.ref t, .int x0, .int y0, .int x1, .int y1] w 0 0 (Px (some (.int (bI (inB (wD w t 0) (wD w t 1) x0 y0 x1 y1)))) w) := by
  refine ct_in (il := il_X8_isIn) (by decide) dk_X8_isIn (Nat.le_of_ble_eq_true rfl) hlo ?_
  intro X h hq

  refine g_iload_n h (i := 0) rfl rfl ?_
  refine g_i2d h (i := 1) rfl ?_
  refine g_aload_n h (i := 2) rfl rfl ?_
  refine g_getD h (i := 3) rfl fl_X8_9 (fun _ _ _ => rfl) hT ?_
  refine g_dcmp h (i := 4) rfl ?_
  refine g_if_gt h (i := 5) 45 rfl rfl (fun c_7 => ?_) (fun c_7 => ?_)
  · skip
    refine g_iconst h (i := 26) rfl (v := 0) (by rfl) ?_
    exact g_zret hq h (i := 27) rfl (rfl) (⟨rF (fun q => (cg_pos _ _).mp c_7 q.1), rfl⟩)
  · skip
    refine g_aload_n h (i := 6) rfl rfl ?_
    refine g_getD h (i := 7) rfl fl_X8_9 (fun _ _ _ => rfl) hT ?_
    refine g_iload_n h (i := 8) rfl rfl ?_
    refine g_i2d h (i := 9) rfl ?_
    refine g_dcmp h (i := 10) rfl ?_
    refine g_if_gt h (i := 11) 45 rfl rfl (fun c_17 => ?_) (fun c_17 => ?_)
    · skip
      refine g_iconst h (i := 26) rfl (v := 0) (by rfl) ?_
      exact g_zret hq h (i := 27) rfl (rfl) (⟨rF (fun q => (cg_pos _ _).mp c_17 q.2.1), rfl⟩)
    · skip
      refine g_iload_n h (i := 12) rfl rfl ?_
      refine g_i2d h (i := 13) rfl ?_
      refine g_aload_n h (i := 14) rfl rfl ?_
      refine g_getD h (i := 15) rfl fl_X8_15 (fun _ _ _ => rfl) hT ?_
      refine g_dcmp h (i := 16) rfl ?_
      refine g_if_gt h (i := 17) 45 rfl rfl (fun c_27 => ?_) (fun c_27 => ?_)
      · skip
        refine g_iconst h (i := 26) rfl (v := 0) (by rfl) ?_
        exact g_zret hq h (i := 27) rfl (rfl) (⟨rF (fun q => (cg_pos _ _).mp c_27 q.2.2.1), rfl⟩)
      · skip
        refine g_aload_n h (i := 18) rfl rfl ?_
        refine g_getD h (i := 19) rfl fl_X8_15 (fun _ _ _ => rfl) hT ?_
        refine g_iload h (i := 20) rfl rfl ?_
        refine g_i2d h (i := 21) rfl ?_
        refine g_dcmp h (i := 22) rfl ?_
        refine g_if_gt h (i := 23) 45 rfl rfl (fun c_38 => ?_) (fun c_38 => ?_)
        · skip
          refine g_iconst h (i := 26) rfl (v := 0) (by rfl) ?_
          exact g_zret hq h (i := 27) rfl (rfl) (⟨rF (fun q => (cg_pos _ _).mp c_38 q.2.2.2), rfl⟩)
        · skip
          refine g_iconst h (i := 24) rfl (v := 1) (by rfl) ?_
          refine g_goto h (i := 25) 46 rfl rfl ?_
          exact g_zret hq h (i := 27) rfl (rfl) (⟨rT ⟨cg_n c_7, cg_n c_17, cg_n c_27, cg_n c_38⟩, rfl⟩)
-- a box holds the tip
set_option maxRecDepth 100000 in
set_option maxHeartbeats 4000000 in
theorem ct_X0_holds (l : Launch) (E : EE) (w : Wd) (b t : Nat) (hlo : E.2.2 ≤ wN w) (hB : wK w b = some (.inl 0)) (hT : wK w t = some (.inl 8)) : Ct l E yX0_holds cX0_holds 2 (some .boolean) ({ frames := 1, cells := 0, slots := 0, locals := 24 } : Room) [.ref b, .ref t] w 0 0 (Px (some (.int (bI (wI w b 0 ≠ 0 ∧ inB (wD w t 0) (wD w t 1) (wI w b 1) (wI w b 2) (wI w b 3) (wI w b 4))))) w) := by
  refine ct_in (il := il_X0_holds) (by decide) dk_X0_holds (Nat.le_of_ble_eq_true rfl) hlo ?_
  intro X h hq

  refine g_aload_n h (i := 0) rfl rfl ?_
  refine g_getI h (i := 1) rfl fl_X0_7 (fun _ _ _ => rfl) hB ?_
  refine g_if_eq h (i := 2) 34 rfl rfl (fun c_4 => ?_) (fun c_4 => ?_)
  · skip
    refine g_iconst h (i := 16) rfl (v := 0) (by rfl) ?_
    exact g_zret hq h (i := 17) rfl (rfl) (⟨rF (fun q => q.1 c_4), rfl⟩)
  · skip
    refine g_aload_n h (i := 3) rfl rfl ?_
    refine g_aload_n h (i := 4) rfl rfl ?_
    refine g_getI h (i := 5) rfl fl_X0_13 (fun _ _ _ => rfl) hB ?_
    refine g_aload_n h (i := 6) rfl rfl ?_
    refine g_getI h (i := 7) rfl fl_X0_17 (fun _ _ _ => rfl) hB ?_
    refine g_aload_n h (i := 8) rfl rfl ?_
    refine g_getI h (i := 9) rfl fl_X0_20 (fun _ _ _ => rfl) hB ?_
    refine g_aload_n h (i := 10) rfl rfl ?_
    refine g_getI h (i := 11) rfl fl_X0_23 (fun _ _ _ => rfl) hB ?_
    refine g_callVx h hq (i := 12) rfl mv_X0_26 cls8 hT (ct_X8_isIn l E w t _ _ _ _ hlo hT) rfl rfl ⟨rfl, rfl, Nat.le_of_ble_eq_true rfl, Nat.le_of_ble_eq_true rfl⟩ (Nat.le_of_ble_eq_true rfl) ⟨Nat.zero_le _, Nat.zero_le _⟩ ?_
    refine g_if_eq h (i := 13) 34 rfl rfl (fun c_27 => ?_) (fun c_27 => ?_)
    · skip
      refine g_iconst h (i := 16) rfl (v := 0) (by rfl) ?_
      exact g_zret hq h (i := 17) rfl (rfl) (⟨rF (fun q => (bI_0.mp c_27) q.2), rfl⟩)
    · skip
      refine g_iconst h (i := 14) rfl (v := 1) (by rfl) ?_
      refine g_goto h (i := 15) 35 rfl rfl ?_
      exact g_zret hq h (i := 17) rfl (rfl) (⟨rT ⟨c_4, bI_1.mp c_27⟩, rfl⟩)
-- the tip in a box
set_option maxRecDepth 100000 in
set_option maxHeartbeats 4000000 in
theorem ct_X10_isIn (l : Launch) (E : EE) (w : Wd) (a k : Nat) (hlo : E.2.2 ≤ wN w) (hL : LayR w a) (hk : k < 4) : Ct l E yX10_isIn cX10_isIn 2 (some .boolean) ({ frames := 0, cells := 0, slots := 0, locals := 0 } : Room) [.ref a, .int (nI k)] w 0 0 (Px (some (.int (bI (inB (wD w a 20) (wD w a 21) (wI w (a + 10) (4 * k)) (wI w (a + 10) (4 * k + 1)) (wI w (a + 10) (4 * k + 2)) (wI w (a + 10) (4 * k + 3)))))) w) := by
  refine ct_in (il := il_X10_isIn) (by decide) dk_X10_isIn (Nat.le_of_ble_eq_true rfl) hlo ?_
  intro X h hq

  refine g_aload_n h (i := 0) rfl rfl ?_
  refine g_getD h (i := 1) rfl fl_X10_132 (fun _ _ _ => rfl) (lk_R hL) ?_
  refine g_aload_n h (i := 2) rfl rfl ?_
  refine g_getR h (i := 3) rfl fl_X10_41 (fun _ _ _ => rfl) (lk_R hL) (lr_box hL) ?_
  refine g_iconst h (i := 4) rfl (v := 4) (by rfl) ?_
  refine g_iload_n h (i := 5) rfl rfl ?_
  refine g_imul h (i := 6) rfl ?_
  refine g_eqi (nI (4 * k)) (nI_mul4) ?_
  refine g_iald h (i := 7) rfl (lq_box hL) (vp_in_nI (by omega) (by omega)) ?_
  refine g_eqi (wI w (a + 10) (4 * k)) (by rw [nI_clamp (by omega)]) ?_
  refine g_i2d h (i := 8) rfl ?_
  refine g_dcmp h (i := 9) rfl ?_
  refine g_if_lt h (i := 10) 78 rfl rfl (fun c_14 => ?_) (fun c_14 => ?_)
  · skip
    refine g_iconst h (i := 52) rfl (v := 0) (by rfl) ?_
    exact g_zret hq h (i := 53) rfl (rfl) (⟨rF (fun q => (cl_neg _ _).mp c_14 q.1), rfl⟩)
  · skip
    refine g_aload_n h (i := 11) rfl rfl ?_
    refine g_getD h (i := 12) rfl fl_X10_132 (fun _ _ _ => rfl) (lk_R hL) ?_
    refine g_aload_n h (i := 13) rfl rfl ?_
    refine g_getR h (i := 14) rfl fl_X10_41 (fun _ _ _ => rfl) (lk_R hL) (lr_box hL) ?_
    refine g_iconst h (i := 15) rfl (v := 4) (by rfl) ?_
    refine g_iload_n h (i := 16) rfl rfl ?_
    refine g_imul h (i := 17) rfl ?_
    refine g_iconst h (i := 18) rfl (v := 2) (by rfl) ?_
    refine g_iadd h (i := 19) rfl ?_
    refine g_eqi (nI (4 * k + 2)) (by rw [nI_mul4]; exact nI_add (4 * k) 2) ?_
    refine g_iald h (i := 20) rfl (lq_box hL) (vp_in_nI (by omega) (by omega)) ?_
    refine g_eqi (wI w (a + 10) (4 * k + 2)) (by rw [nI_clamp (by omega)]) ?_
    refine g_i2d h (i := 21) rfl ?_
    refine g_dcmp h (i := 22) rfl ?_
    refine g_if_gt h (i := 23) 78 rfl rfl (fun c_33 => ?_) (fun c_33 => ?_)
    · skip
      refine g_iconst h (i := 52) rfl (v := 0) (by rfl) ?_
      exact g_zret hq h (i := 53) rfl (rfl) (⟨rF (fun q => (cg_pos _ _).mp c_33 q.2.1), rfl⟩)
    · skip
      refine g_aload_n h (i := 24) rfl rfl ?_
      refine g_getD h (i := 25) rfl fl_X10_136 (fun _ _ _ => rfl) (lk_R hL) ?_
      refine g_aload_n h (i := 26) rfl rfl ?_
      refine g_getR h (i := 27) rfl fl_X10_41 (fun _ _ _ => rfl) (lk_R hL) (lr_box hL) ?_
      refine g_iconst h (i := 28) rfl (v := 4) (by rfl) ?_
      refine g_iload_n h (i := 29) rfl rfl ?_
      refine g_imul h (i := 30) rfl ?_
      refine g_iconst h (i := 31) rfl (v := 1) (by rfl) ?_
      refine g_iadd h (i := 32) rfl ?_
      refine g_eqi (nI (4 * k + 1)) (by rw [nI_mul4]; exact nI_add (4 * k) 1) ?_
      refine g_iald h (i := 33) rfl (lq_box hL) (vp_in_nI (by omega) (by omega)) ?_
      refine g_eqi (wI w (a + 10) (4 * k + 1)) (by rw [nI_clamp (by omega)]) ?_
      refine g_i2d h (i := 34) rfl ?_
      refine g_dcmp h (i := 35) rfl ?_
      refine g_if_lt h (i := 36) 78 rfl rfl (fun c_52 => ?_) (fun c_52 => ?_)
      · skip
        refine g_iconst h (i := 52) rfl (v := 0) (by rfl) ?_
        exact g_zret hq h (i := 53) rfl (rfl) (⟨rF (fun q => (cl_neg _ _).mp c_52 q.2.2.1), rfl⟩)
      · skip
        refine g_aload_n h (i := 37) rfl rfl ?_
        refine g_getD h (i := 38) rfl fl_X10_136 (fun _ _ _ => rfl) (lk_R hL) ?_
        refine g_aload_n h (i := 39) rfl rfl ?_
        refine g_getR h (i := 40) rfl fl_X10_41 (fun _ _ _ => rfl) (lk_R hL) (lr_box hL) ?_
        refine g_iconst h (i := 41) rfl (v := 4) (by rfl) ?_
        refine g_iload_n h (i := 42) rfl rfl ?_
        refine g_imul h (i := 43) rfl ?_
        refine g_iconst h (i := 44) rfl (v := 3) (by rfl) ?_
        refine g_iadd h (i := 45) rfl ?_
        refine g_eqi (nI (4 * k + 3)) (by rw [nI_mul4]; exact nI_add (4 * k) 3) ?_
        refine g_iald h (i := 46) rfl (lq_box hL) (vp_in_nI (by omega) (by omega)) ?_
        refine g_eqi (wI w (a + 10) (4 * k + 3)) (by rw [nI_clamp (by omega)]) ?_
        refine g_i2d h (i := 47) rfl ?_
        refine g_dcmp h (i := 48) rfl ?_
        refine g_if_gt h (i := 49) 78 rfl rfl (fun c_71 => ?_) (fun c_71 => ?_)
        · skip
          refine g_iconst h (i := 52) rfl (v := 0) (by rfl) ?_
          exact g_zret hq h (i := 53) rfl (rfl) (⟨rF (fun q => (cg_pos _ _).mp c_71 q.2.2.2), rfl⟩)
        · skip
          refine g_iconst h (i := 50) rfl (v := 1) (by rfl) ?_
          refine g_goto h (i := 51) 79 rfl rfl ?_
          exact g_zret hq h (i := 53) rfl (rfl) (⟨rT ⟨cl_n c_14, cg_n c_33, cl_n c_52, cg_n c_71⟩, rfl⟩)
theorem tipW_sRow (w : Wd) (a : Nat) (r : Nat → Int64) (x y : UInt64) : tipW (sRow w a r) a 20 x y = sRow (tipW w a 20 x y) a r := rfl
-- the tip in one of the boxes
set_option maxRecDepth 100000 in
set_option maxHeartbeats 4000000 in
theorem ct_X10_isBarred (l : Launch) (E : EE) (w : Wd) (a : Nat) (r : Nat → Int64) (st : Nat → Int32) (hlo : E.2.2 ≤ wN (sRow w a r)) (hL : LayR w a) (hs : ∀ j, j < 4 → r j = (st j).toInt64) (hA : okA (wI w (a + 3)) (wI w (a + 4)) st) : Ct l E yX10_isBarred cX10_isBarred 3 (some .boolean) ({ frames := 2, cells := 0, slots := 0, locals := 56 } : Room) [.ref a] (sRow w a r) 0 0 (Px (some (.int (bI (barB (wI w (a + 9)) (wI w (a + 10)) (tpX (wI w (a + 3)) (wI w (a + 4)) st 4) (tpY (wI w (a + 3)) (wI w (a + 4)) st 4) 4 = true)))) (sRow (tipW w a 20 (tpX (wI w (a + 3)) (wI w (a + 4)) st 4) (tpY (wI w (a + 3)) (wI w (a + 4)) st 4)) a r)) := by
  refine ct_in (il := il_X10_isBarred) (by decide) dk_X10_isBarred (Nat.le_of_ble_eq_true rfl) hlo ?_
  intro X h hq

  obtain ⟨x, hx⟩ : ∃ x, x = tpX (wI w (a + 3)) (wI w (a + 4)) st 4 := ⟨_, rfl⟩
  obtain ⟨y, hy⟩ : ∃ y, y = tpY (wI w (a + 3)) (wI w (a + 4)) st 4 := ⟨_, rfl⟩
  have ht := ct_X10_findTip l E (sRow w a r) a (a + 1) (a + 4) (a + 3) (wI w (a + 3)) (wI w (a + 4)) st hlo hL.1 (lr_row hL) (lr_slides hL) (lr_length hL) (lq_row hL) (lq_slides hL) (lq_length hL) (fun _ _ => rfl) (fun _ _ => rfl) (fun j hj => (sRow_j w a j r).trans (hs j hj)) hA
  rw [tipW_sRow, ← hx, ← hy] at ht
  rw [← hx, ← hy] at hq
  obtain ⟨B, hB⟩ : ∃ B, B = barB (wI w (a + 9)) (wI w (a + 10)) x y := ⟨_, rfl⟩
  rw [← hB] at hq
  have hlo' : E.2.2 ≤ wN (sRow (tipW w a 20 x y) a r) := hlo
  have key : ∀ (d i : Nat), i + d = 4 → G X 0 0 8 (lf [(0, .ref a), (1, .int (bI (B i = true))), (2, .int (nI i))]) [] (sRow (tipW w a 20 x y) a r) := by
    intro d
    induction d with
    | zero =>
      intro i hi
      have hi4 : i = 4 := by omega
      subst hi4
      refine g_iload_n h (i := 6) rfl rfl ?_
      refine g_iconst h (i := 7) rfl (v := 4) (by rfl) ?_
      refine g_icmp_ge h (i := 8) 46 rfl rfl (fun c_10 => ?_) (fun c_10 => absurd (by decide : (4 : Int32) ≤ nI 4) c_10)
      refine g_iload_n h (i := 26) rfl rfl ?_
      exact g_zret hq h (i := 27) rfl (bI_n _) (⟨rfl, rfl⟩)
    | succ d ih =>
      intro i hid
      have hi : i < 4 := by omega
      have hcl : (nI i).toNatClampNeg = i := nI_clamp (by omega)
      have hvp : vp_in (nI i) 4 := vp_in_nI hi (by omega)
      have hnge : ¬ (4 : Int32) ≤ nI i := nI_ge (b := 4) hi (by omega)
      have hS : B (i + 1) = true ↔ (B i = true ∨ (wI w (a + 9) i ≠ 0 ∧ inB x y (wI w (a + 10) (4 * i)) (wI w (a + 10) (4 * i + 1)) (wI w (a + 10) (4 * i + 2)) (wI w (a + 10) (4 * i + 3)))) := by
        rw [hB]
        show (barB (wI w (a + 9)) (wI w (a + 10)) x y i || (decide (wI w (a + 9) i ≠ 0) && decide (inB x y (wI w (a + 10) (4 * i)) (wI w (a + 10) (4 * i + 1)) (wI w (a + 10) (4 * i + 2)) (wI w (a + 10) (4 * i + 3))))) = true ↔ _
        rw [Bool.or_eq_true, Bool.and_eq_true, decide_eq_true_iff, decide_eq_true_iff]
      have hin := ct_X10_isIn l E (sRow (tipW w a 20 x y) a r) a i hlo' hL hi
      rw [show wD (sRow (tipW w a 20 x y) a r) a 20 = x from tip_x _ _ _ _ _, show wD (sRow (tipW w a 20 x y) a r) a 21 = y from tip_y _ _ _ _ _] at hin
      have k39 : ∀ v : Int32, v = bI (B (i + 1) = true) → G X 0 0 39 (lf [(0, .ref a), (2, .int (nI i))]) [.int v] (sRow (tipW w a 20 x y) a r) := by
        intro v hv
        refine g_istore_n h (i := 23) rfl hq rfl ?_
        refine g_iinc h (i := 24) rfl rfl (dv := 1) (by rfl) ?_
        refine g_goto h (i := 25) 8 rfl rfl ?_
        exact g_lv [(0, .ref a), (1, .int (bI (B (i + 1) = true))), (2, .int (nI (i + 1)))] ⟨rfl, congrArg (fun z => some (Value.int z)) hv, congrArg (fun z => some (Value.int z)) (nI_1 i), trivial⟩ (ih (i + 1) (by omega))
      refine g_iload_n h (i := 6) rfl rfl ?_
      refine g_iconst h (i := 7) rfl (v := 4) (by rfl) ?_
      refine g_icmp_ge h (i := 8) 46 rfl rfl (fun c_10 => absurd c_10 hnge) (fun c_10 => ?_)
      refine g_iload_n h (i := 9) rfl rfl ?_
      refine g_if_ne h (i := 10) 34 rfl rfl (fun c_14 => ?_) (fun c_14 => ?_)
      · skip
        refine g_iconst h (i := 20) rfl (v := 1) (by rfl) ?_
        refine g_goto h (i := 21) 39 rfl rfl ?_
        exact g_lv [(0, .ref a), (2, .int (nI i))] ⟨rfl, rfl, trivial⟩ (k39 _ ((bI_t (hS.mpr (Or.inl (bI_1.mp c_14)))).symm))
      · skip
        refine g_aload_n h (i := 11) rfl rfl ?_
        refine g_getR h (i := 12) rfl fl_X10_38 (fun _ _ _ => rfl) (lk_R hL) (lr_isBox hL) ?_
        refine g_iload_n h (i := 13) rfl rfl ?_
        refine g_zald h (i := 14) rfl (lq_isBox hL) (hvp) ?_
        refine g_eqi (wI w (a + 9) i) (by rw [hcl]; rfl) ?_
        refine g_if_eq h (i := 15) 38 rfl rfl (fun c_23 => ?_) (fun c_23 => ?_)
        · skip
          refine g_iconst h (i := 22) rfl (v := 0) (by rfl) ?_
          exact g_lv [(0, .ref a), (2, .int (nI i))] ⟨rfl, rfl, trivial⟩ (k39 _ ((bI_f (fun q => (hS.mp q).elim (bI_0.mp c_14) (fun z => z.1 c_23))).symm))
        · skip
          refine g_aload_n h (i := 16) rfl rfl ?_
          refine g_iload_n h (i := 17) rfl rfl ?_
          refine g_callVx h hq (i := 18) rfl mv_X10_162 cls10 (lk_R hL) (hin) rfl rfl ⟨rfl, rfl, Nat.le_of_ble_eq_true rfl, Nat.le_of_ble_eq_true rfl⟩ (Nat.le_of_ble_eq_true rfl) ⟨Nat.zero_le _, Nat.zero_le _⟩ ?_
          refine g_if_eq h (i := 19) 38 rfl rfl (fun c_31 => ?_) (fun c_31 => ?_)
          · skip
            refine g_iconst h (i := 22) rfl (v := 0) (by rfl) ?_
            exact g_lv [(0, .ref a), (2, .int (nI i))] ⟨rfl, rfl, trivial⟩ (k39 _ ((bI_f (fun q => (hS.mp q).elim (bI_0.mp c_14) (fun z => bI_0.mp c_31 z.2))).symm))
          · skip
            refine g_iconst h (i := 20) rfl (v := 1) (by rfl) ?_
            refine g_goto h (i := 21) 39 rfl rfl ?_
            exact g_lv [(0, .ref a), (2, .int (nI i))] ⟨rfl, rfl, trivial⟩ (k39 _ ((bI_t (hS.mpr (Or.inr ⟨c_23, bI_1.mp c_31⟩))).symm))
  refine g_aload_n h (i := 0) rfl rfl ?_
  refine g_callVn h hq (i := 1) rfl mv_X10_155 cls10 (lk_R hL) (ht) rfl rfl ⟨rfl, rfl, Nat.le_of_ble_eq_true rfl, Nat.le_of_ble_eq_true rfl⟩ (Nat.le_of_ble_eq_true rfl) ⟨Nat.zero_le _, Nat.zero_le _⟩ ?_
  refine g_iconst h (i := 2) rfl (v := 0) (by rfl) ?_
  refine g_istore_n h (i := 3) rfl hq rfl ?_
  refine g_iconst h (i := 4) rfl (v := 0) (by rfl) ?_
  refine g_istore_n h (i := 5) rfl hq rfl ?_
  exact g_lv [(0, .ref a), (1, .int (bI (B 0 = true))), (2, .int (nI 0))] ⟨rfl, by rw [hB]; rfl, rfl, trivial⟩ (key 4 0 (by omega))
end
section
/-- of n joints: ticks, rise, pace, way of the leader -/
def plS (rs pv wd : Nat → Nat) (w0 : Nat) : Nat → Nat × Nat × Nat × Nat
  | 0 => (0, 1, 1, w0)
  | j + 1 => if (plS rs pv wd w0 j).1 < lsN (rs j) (pv j) (wd j) then (lsN (rs j) (pv j) (wd j), rs j, pv j, wd j) else plS rs pv wd w0 j
theorem pl_t {rs pv wd : Nat → Nat} {w0 j : Nat} (h : (plS rs pv wd w0 j).1 < lsN (rs j) (pv j) (wd j)) : plS rs pv wd w0 (j + 1) = (lsN (rs j) (pv j) (wd j), rs j, pv j, wd j) := if_pos h
theorem pl_f {rs pv wd : Nat → Nat} {w0 j : Nat} (h : ¬ (plS rs pv wd w0 j).1 < lsN (rs j) (pv j) (wd j)) : plS rs pv wd w0 (j + 1) = plS rs pv wd w0 j := if_neg h
theorem pl_1 (rs pv wd : Nat → Nat) (w0 w1 : Nat) : ∀ n, (plS rs pv wd w0 n).1 = (plS rs pv wd w1 n).1 ∧ (0 < (plS rs pv wd w0 n).1 → plS rs pv wd w0 n = plS rs pv wd w1 n)
  | 0 => ⟨rfl, fun h => absurd h (by show ¬ 0 < 0; omega)⟩
  | j + 1 => by
    have ih := pl_1 rs pv wd w0 w1 j
    by_cases g : (plS rs pv wd w0 j).1 < lsN (rs j) (pv j) (wd j)
    · rw [pl_t g, pl_t (ih.1 ▸ g)]; exact ⟨rfl, fun _ => rfl⟩
    · rw [pl_f g, pl_f (ih.1 ▸ g)]; exact ih
theorem pl_ok {rs pv wd : Nat → Nat} {w0 n : Nat} (h0 : w0 ≤ 2000000) (h : ∀ j, j < n → mB (rs j) (pv j) ∧ wd j ≤ 2000000) : (plS rs pv wd w0 n).1 ≤ 2000000 ∧ mB (plS rs pv wd w0 n).2.1 (plS rs pv wd w0 n).2.2.1 ∧ (plS rs pv wd w0 n).2.2.2 ≤ 2000000 ∧ (0 < (plS rs pv wd w0 n).1 → 0 < (plS rs pv wd w0 n).2.2.2) := by
  induction n with
  | zero => exact ⟨by show 0 ≤ 2000000; omega, (show mB 1 1 from ⟨by decide, by decide, by decide, by decide⟩), h0, fun q => absurd q (by show ¬ 0 < 0; omega)⟩
  | succ j ih =>
    have ih := ih (fun i hi => h i (by omega))
    have hj := h j (by omega)
    have hl := ls_le (rs j) (pv j) (wd j)
    by_cases g : (plS rs pv wd w0 j).1 < lsN (rs j) (pv j) (wd j)
    · rw [pl_t g]
      exact ⟨Nat.le_trans hl hj.2, hj.1, hj.2, fun q => by show 0 < wd j; omega⟩
    · rw [pl_f g]; exact ih
/-- a share of a pace; a way -/
def pvN (p : Nat → Nat) (sh j : Nat) : Nat := max 1 (p j * sh / 100)
def wdN (st go : Nat → Int32) (j : Nat) : Nat := ((go j).toInt - (st j).toInt).natAbs
theorem pv_ok {p : Nat → Nat} {sh j : Nat} (h : p j ≤ 100000) (h2 : sh ≤ 100) : 0 < pvN p sh j ∧ pvN p sh j ≤ 100000 := by
  have h3 : p j * sh ≤ 100000 * 100 := Nat.mul_le_mul h h2
  unfold pvN
  omega
theorem pv_mul {p sh : Nat} (h : p ≤ 100000) (h2 : sh ≤ 100) : p * sh ≤ 10000000 := Nat.le_trans (Nat.mul_le_mul h h2) (by omega)
theorem pv_i {p sh : Nat} (h : p ≤ 100000) (h2 : sh ≤ 100) : nI p * nI sh / 100 = nI (p * sh / 100) := by
  have h3 := pv_mul h h2
  rw [pk_mul p sh]
  exact pk_div (d := 100) (by omega) (by omega) (by omega)
theorem pv_l {p sh : Nat} (h : p ≤ 100000) (h2 : sh ≤ 100) : lN p * lN sh / 100 = lN (p * sh / 100) := by
  have h3 := pv_mul h h2
  rw [lN_mul]
  exact pk_lDiv (b := 100) (by omega) (by omega) (by omega)
theorem i_max1 {n : Nat} (h : n < 2147483648) : (if (1 : Int32) < nI n then nI n else 1) = nI (max 1 n) := by
  rw [show (1 : Int32) = nI 1 from rfl]
  rcases Nat.lt_or_ge 1 n with g | g
  · rw [if_pos (nI_lt (a := 1) g (by omega)), Nat.max_eq_right (by omega)]
  · rw [if_neg (fun q => absurd ((nI_ltI (a := 1) (by omega) (by omega)).mp q) (by omega)), Nat.max_eq_left (by omega)]
theorem i_abs {x : Int32} (h : x.toInt.natAbs < 2147483648) : (if 0 ≤ x then x else 0 - x) = nI x.toInt.natAbs := by
  have e0 : (0 : Int32).toInt = 0 := rfl
  refine i32x ?_
  rw [nIT h]
  split
  · next g => rw [i32le, e0] at g; omega
  · next g =>
    rw [i32le, e0] at g
    rw [i_sub (by rw [e0]; omega) (by rw [e0]; omega), e0]; omega
theorem up2_f {α : Type} {f : Nat → Nat → α} {a k p : Nat} {v : α} (h : p ≠ a) : up2 f a k v p = f p := funext fun _ => up2_a h
/-- the class's motion t while it is aimed -/
def AimI (w : Wd) (t : Nat) (st go : Nat → Int32) (q : Nat × Nat × Nat × Nat) (i : Nat) (I : Nat → Nat → Int32) : Prop := (∀ p, p ≠ t → p ≠ t + 1 → p ≠ t + 2 → I p = wI w p) ∧ (∀ j, j < i → I (t + 1) j = st j ∧ I (t + 2) j = go j - st j) ∧ I t 2 = nI q.1 ∧ I t 3 = nI q.2.2.2 ∧ I t 4 = nI q.2.2.1 ∧ I t 5 = nI q.2.1
theorem aim_1 {w : Wd} {t : Nat} {st go : Nat → Int32} {q : Nat × Nat × Nat × Nat} {i : Nat} {I : Nat → Nat → Int32} (h : AimI w t st go q i I) : AimI w t st go q (i + 1) (up2 (up2 I (t + 1) i (st i)) (t + 2) i (go i - st i)) := by
  obtain ⟨h1, h2, h3, h4, h5, h6⟩ := h
  refine ⟨fun p p1 p2 p3 => by rw [up2_f p3, up2_f p2]; exact h1 p p1 p2 p3, fun j hj => ?_, ?_, ?_, ?_, ?_⟩
  · by_cases e : j = i
    · subst e
      exact ⟨by rw [up2_a (by omega), up2_s], by rw [up2_s]⟩
    · rw [up2_a (show t + 1 ≠ t + 2 by omega), up2_k e, up2_k e, up2_a (show t + 2 ≠ t + 1 by omega)]
      exact h2 j (by omega)
  all_goals rw [up2_a (by omega), up2_a (by omega)]; assumption
theorem aim_2 {w : Wd} {t : Nat} {st go : Nat → Int32} {q : Nat × Nat × Nat × Nat} {i : Nat} {I : Nat → Nat → Int32} (n r v wy : Nat) (h : AimI w t st go q i I) : AimI w t st go (n, r, v, wy) i (up2 (up2 (up2 (up2 I t 2 (nI n)) t 3 (nI wy)) t 4 (nI v)) t 5 (nI r)) := by
  obtain ⟨h1, h2, h3, h4, h5, h6⟩ := h
  refine ⟨fun p p1 p2 p3 => by rw [up2_f p1, up2_f p1, up2_f p1, up2_f p1]; exact h1 p p1 p2 p3, fun j hj => ?_, ?_, ?_, ?_, ?_⟩
  · rw [up2_a (by omega), up2_a (by omega), up2_a (by omega), up2_a (by omega), up2_a (by omega), up2_a (by omega), up2_a (by omega), up2_a (by omega)]
    exact h2 j hj
  · rw [up2_k (by omega), up2_k (by omega), up2_k (by omega), up2_s]
  · rw [up2_k (by omega), up2_k (by omega), up2_s]
  · rw [up2_k (by omega), up2_s]
  · rw [up2_s]
theorem aim_0 {w : Wd} {t : Nat} {st go : Nat → Int32} : AimI w t st go (0, 1, 1, 0) 0 (up2 (up2 (up2 (up2 (wI w) t 2 0) t 3 0) t 4 1) t 5 1) := by
  refine ⟨fun p p1 p2 p3 => by rw [up2_f p1, up2_f p1, up2_f p1, up2_f p1], fun j hj => absurd hj (by omega), ?_, ?_, ?_, ?_⟩
  · rw [up2_k (by omega), up2_k (by omega), up2_k (by omega), up2_s]; rfl
  · rw [up2_k (by omega), up2_k (by omega), up2_s]; rfl
  · rw [up2_k (by omega), up2_s]; rfl
  · rw [up2_s]; rfl
-- the way to a pose
set_option maxRecDepth 100000 in
set_option maxHeartbeats 4000000 in
theorem ct_X4_aim (l : Launch) (E : EE) (w : Wd) (t ja sa ga sh : Nat) (jo : Nat → Nat) (P R : Nat → Nat) (st go : Nat → Int32) (hlo : E.2.2 ≤ wN w) (hT : LayT w t) (hJ : wK w ja = some (.inr (4, 4))) (hS : wK w sa = some (.inr (0, 4))) (hG : wK w ga = some (.inr (0, 4))) (nsa : sa ≠ t ∧ sa ≠ t + 1 ∧ sa ≠ t + 2) (nga : ga ≠ t ∧ ga ≠ t + 1 ∧ ga ≠ t + 2) (hjr : ∀ j, j < 4 → wR w ja j = some (jo j) ∧ wK w (jo j) = some (.inl 2) ∧ jo j ≠ t ∧ jo j ≠ t + 1 ∧ jo j ≠ t + 2) (hP : ∀ j, j < 4 → wI w (jo j) 4 = nI (P j) ∧ 0 < P j ∧ P j ≤ 100000) (hR : ∀ j, j < 4 → wI w (jo j) 5 = nI (R j) ∧ 0 < R j ∧ R j ≤ 100000) (hst : ∀ j, j < 4 → wI w sa j = st j ∧ (st j).toInt.natAbs ≤ 1000000) (hgo : ∀ j, j < 4 → wI w ga j = go j ∧ (go j).toInt.natAbs ≤ 1000000) (hsh : sh ≤ 100) : Ct l E yX4_aim cX4_aim 9 none ({ frames := 2, cells := 0, slots := 0, locals := 50 } : Room) [.ref t, .ref ja, .ref sa, .ref ga, .int (nI sh)] w 0 0 (fun r w2 => r = none ∧ ∃ I, w2 = dW w I (wJ w) (wD w) ∧ AimI w t st go (plS R (pvN P sh) (wdN st go) 0 4) 4 I) := by
  refine ct_in (il := il_X4_aim) (by decide) dk_X4_aim (Nat.le_of_ble_eq_true rfl) hlo ?_
  intro X h hq

  have key : ∀ (d i : Nat) (I : Nat → Nat → Int32), i + d = 4 → AimI w t st go (plS R (pvN P sh) (wdN st go) 0 i) i I → G X 0 0 23 (lf [(0, .ref t), (1, .ref ja), (2, .ref sa), (3, .ref ga), (4, .int (nI sh)), (5, .int (nI i))]) [] (dW w I (wJ w) (wD w)) := by
    intro d
    induction d with
    | zero =>
      intro i I hi hI
      have hi4 : i = 4 := by omega
      subst hi4
      refine g_iload h (i := 14) rfl rfl ?_
      refine g_iconst h (i := 15) rfl (v := 4) (by rfl) ?_
      refine g_icmp_ge h (i := 16) 147 rfl rfl (fun c_26 => ?_) (fun c_26 => absurd (by decide : (4 : Int32) ≤ nI 4) c_26)
      exact g_vret hq h (i := 81) rfl (⟨rfl, I, rfl, hI⟩)
    | succ d ih =>
      intro i I hid hI
      have hi : i < 4 := by omega
      have hcl : (nI i).toNatClampNeg = i := nI_clamp (by omega)
      have hvp : vp_in (nI i) 4 := vp_in_nI hi (by omega)
      have hnge : ¬ (4 : Int32) ≤ nI i := nI_ge (b := 4) hi (by omega)
      obtain ⟨j1, j2, j3, j4, j5⟩ := hjr i hi
      obtain ⟨p1, p2, p3⟩ := hP i hi
      obtain ⟨r1, r2, r3⟩ := hR i hi
      obtain ⟨s1, s2⟩ := hst i hi
      obtain ⟨g1, g2⟩ := hgo i hi
      have fr := hI.1
      have esub : (go i - st i).toInt = (go i).toInt - (st i).toInt := i_sub (by omega) (by omega)
      have eabs : (if 0 ≤ go i - st i then go i - st i else 0 - (go i - st i)) = nI (wdN st go i) := by
        rw [i_abs (by rw [esub]; omega), esub]; rfl
      have hw2 : wdN st go i ≤ 2000000 := by unfold wdN; omega
      have hpv := pv_ok (p := P) (j := i) p3 hsh
      have epv : nI (P i) * nI sh / 100 = nI (P i * sh / 100) := pv_i p3 hsh
      have hpm := pv_mul p3 hsh
      have emx : (if (1 : Int32) < nI (P i * sh / 100) then nI (P i * sh / 100) else 1) = nI (pvN P sh i) := i_max1 (by omega)
      have hb : mB (R i) (pvN P sh i) := ⟨r2, r3, hpv.1, hpv.2⟩
      have hls := ls_le (R i) (pvN P sh i) (wdN st go i)
      have hpl := (pl_ok (rs := R) (pv := pvN P sh) (wd := wdN st go) (w0 := 0) (n := i) (by omega) (fun j hj => ⟨⟨(hR j (by omega)).2.1, (hR j (by omega)).2.2, pv_ok (hP j (by omega)).2.2 hsh⟩, by have := (hst j (by omega)).2; have := (hgo j (by omega)).2; unfold wdN; omega⟩)).1
      have hI1 := aim_1 hI
      obtain ⟨I1, hI1e⟩ : ∃ I1, I1 = up2 (up2 I (t + 1) i (st i)) (t + 2) i (go i - st i) := ⟨_, rfl⟩
      rw [← hI1e] at hI1
      have fr1 := hI1.1
      obtain ⟨m1, m2, m3, m4, m5⟩ := hI1.2
      have ih2 := ih (i + 1)
      refine g_iload h (i := 14) rfl rfl ?_
      refine g_iconst h (i := 15) rfl (v := 4) (by rfl) ?_
      refine g_icmp_ge h (i := 16) 147 rfl rfl (fun c_26 => absurd c_26 hnge) (fun c_26 => ?_)
      refine g_aload_n h (i := 17) rfl rfl ?_
      refine g_getR h (i := 18) rfl fl_X4_9 (fun _ _ _ => rfl) hT.1 (lt_from hT) ?_
      refine g_iload h (i := 19) rfl rfl ?_
      refine g_aload_n h (i := 20) rfl rfl ?_
      refine g_iload h (i := 21) rfl rfl ?_
      refine g_iald h (i := 22) rfl hS (hvp) ?_
      refine g_eqi (st i) (by rw [hcl]; exact (congrFun (fr sa nsa.1 nsa.2.1 nsa.2.2) i).trans s1) ?_
      refine g_iast h (i := 23) rfl (lu_from hT) (hvp) ?_
      refine g_w (dW w (up2 I (t + 1) i (st i)) (wJ w) (wD w)) (by rw [hcl]; rfl) ?_
      refine g_aload_n h (i := 24) rfl rfl ?_
      refine g_getR h (i := 25) rfl fl_X4_15 (fun _ _ _ => rfl) hT.1 (lt_by hT) ?_
      refine g_iload h (i := 26) rfl rfl ?_
      refine g_aload_n h (i := 27) rfl rfl ?_
      refine g_iload h (i := 28) rfl rfl ?_
      refine g_iald h (i := 29) rfl hG (hvp) ?_
      refine g_eqi (go i) (by rw [hcl]; exact (up2_a nga.2.1).trans ((congrFun (fr ga nga.1 nga.2.1 nga.2.2) i).trans g1)) ?_
      refine g_aload_n h (i := 30) rfl rfl ?_
      refine g_iload h (i := 31) rfl rfl ?_
      refine g_iald h (i := 32) rfl hS (hvp) ?_
      refine g_eqi (st i) (by rw [hcl]; exact (up2_a nsa.2.1).trans ((congrFun (fr sa nsa.1 nsa.2.1 nsa.2.2) i).trans s1)) ?_
      refine g_isub h (i := 33) rfl ?_
      refine g_iast h (i := 34) rfl (lu_by hT) (hvp) ?_
      refine g_w (dW w I1 (wJ w) (wD w)) (by rw [hI1e, hcl]; rfl) ?_
      refine g_aload_n h (i := 35) rfl rfl ?_
      refine g_getR h (i := 36) rfl fl_X4_15 (fun _ _ _ => rfl) hT.1 (lt_by hT) ?_
      refine g_iload h (i := 37) rfl rfl ?_
      refine g_iald h (i := 38) rfl (lu_by hT) (hvp) ?_
      refine g_eqi (go i - st i) (by rw [hcl]; exact (m1 i (by omega)).2) ?_
      refine g_mabs (w0 := w) h hq (i := 39) rfl ml_X4_31 ⟨rfl, Nat.le_of_ble_eq_true rfl, Nat.zero_le _, Nat.zero_le _⟩ ?_
      refine g_eqi (nI (wdN st go i)) eabs ?_
      refine g_istore h (i := 40) rfl hq rfl ?_
      refine g_iconst h (i := 41) rfl (v := 1) (by rfl) ?_
      refine g_aload_n h (i := 42) rfl rfl ?_
      refine g_iload h (i := 43) rfl rfl ?_
      refine g_aald h (i := 44) rfl (by decide) hJ (hvp) (by rw [hcl]; exact j1) ?_
      refine g_getI h (i := 45) rfl fl_X4_37 (fun _ _ _ => rfl) (hjr i hi).2.1 ?_
      refine g_eqi (nI (P i)) ((congrFun (fr1 (jo i) j3 j4 j5) 4).trans p1) ?_
      refine g_iload h (i := 46) rfl rfl ?_
      refine g_imul h (i := 47) rfl ?_
      refine g_bipush h (i := 48) rfl (v := 100) (by rfl) ?_
      refine g_idiv h (i := 49) rfl (by decide) ?_
      refine g_eqi (nI (P i * sh / 100)) epv ?_
      refine g_mmax (w0 := w) h hq (i := 50) rfl ml_X4_40 ⟨rfl, Nat.le_of_ble_eq_true rfl, Nat.zero_le _, Nat.zero_le _⟩ ?_
      refine g_eqi (nI (pvN P sh i)) emx ?_
      refine g_istore h (i := 51) rfl hq rfl ?_
      refine g_iload h (i := 52) rfl rfl ?_
      refine g_iload h (i := 53) rfl rfl ?_
      refine g_aload_n h (i := 54) rfl rfl ?_
      refine g_iload h (i := 55) rfl rfl ?_
      refine g_aald h (i := 56) rfl (by decide) hJ (hvp) (by rw [hcl]; exact j1) ?_
      refine g_getI h (i := 57) rfl fl_X4_44 (fun _ _ _ => rfl) (hjr i hi).2.1 ?_
      refine g_eqi (nI (R i)) ((congrFun (fr1 (jo i) j3 j4 j5) 5).trans r1) ?_
      refine g_callSx h hq (i := 58) rfl ms_X4_45 (ct_X4_leastTicks l E _ (wdN st go i) (pvN P sh i) (R i) hlo hb (by omega)) rfl rfl ⟨rfl, rfl, Nat.le_of_ble_eq_true rfl, Nat.le_of_ble_eq_true rfl⟩ (Nat.le_of_ble_eq_true rfl) ⟨Nat.zero_le _, Nat.zero_le _⟩ ?_
      refine g_istore h (i := 59) rfl hq rfl ?_
      refine g_iload h (i := 60) rfl rfl ?_
      refine g_aload_n h (i := 61) rfl rfl ?_
      refine g_getI h (i := 62) rfl fl_X4_18 (fun _ _ _ => rfl) hT.1 ?_
      refine g_eqi (nI (plS R (pvN P sh) (wdN st go) 0 i).1) m2 ?_
      refine g_icmp_le h (i := 63) 141 rfl rfl (fun c_109 => ?_) (fun c_109 => ?_)
      · skip
        refine g_iinc h (i := 79) rfl rfl (dv := 1) (by rfl) ?_
        refine g_goto h (i := 80) 23 rfl rfl ?_
        exact g_lv [(0, .ref t), (1, .ref ja), (2, .ref sa), (3, .ref ga), (4, .int (nI sh)), (5, .int (nI (i + 1)))] ⟨rfl, rfl, rfl, rfl, rfl, congrArg (fun z => some (Value.int z)) (nI_1 i), trivial⟩ (ih2 _ (by omega) (by rw [pl_f (by intro q; exact absurd ((nI_ltI (by omega) (by omega)).mpr q) (i32nlt.mpr c_109))]; exact hI1))
      · skip
        refine g_aload_n h (i := 64) rfl rfl ?_
        refine g_iload h (i := 65) rfl rfl ?_
        refine g_putI_0 h (i := 66) rfl fl_X4_18 nf_4_2 (fun _ _ _ => rfl) hT.1 (rfl) (by rfl) ?_
        refine g_aload_n h (i := 67) rfl rfl ?_
        refine g_iload h (i := 68) rfl rfl ?_
        refine g_putI_0 h (i := 69) rfl fl_X4_22 nf_4_3 (fun _ _ _ => rfl) hT.1 (rfl) (by rfl) ?_
        refine g_aload_n h (i := 70) rfl rfl ?_
        refine g_iload h (i := 71) rfl rfl ?_
        refine g_putI_0 h (i := 72) rfl fl_X4_25 nf_4_4 (fun _ _ _ => rfl) hT.1 (rfl) (by rfl) ?_
        refine g_aload_n h (i := 73) rfl rfl ?_
        refine g_aload_n h (i := 74) rfl rfl ?_
        refine g_iload h (i := 75) rfl rfl ?_
        refine g_aald h (i := 76) rfl (by decide) hJ (hvp) (by rw [hcl]; exact j1) ?_
        refine g_getI h (i := 77) rfl fl_X4_44 (fun _ _ _ => rfl) (hjr i hi).2.1 ?_
        refine g_eqi (nI (R i)) (show up2 (up2 (up2 I1 t 2 _) t 3 _) t 4 _ (jo i) 5 = nI (R i) by rw [up2_a j3, up2_a j3, up2_a j3]; exact (congrFun (fr1 (jo i) j3 j4 j5) 5).trans r1) ?_
        refine g_putI_0 h (i := 78) rfl fl_X4_28 nf_4_5 (fun _ _ _ => rfl) hT.1 (rfl) (by rfl) ?_
        refine g_iinc h (i := 79) rfl rfl (dv := 1) (by rfl) ?_
        refine g_goto h (i := 80) 23 rfl rfl ?_
        exact g_lv [(0, .ref t), (1, .ref ja), (2, .ref sa), (3, .ref ga), (4, .int (nI sh)), (5, .int (nI (i + 1)))] ⟨rfl, rfl, rfl, rfl, rfl, congrArg (fun z => some (Value.int z)) (nI_1 i), trivial⟩ (ih2 _ (by omega) (by rw [pl_t ((nI_ltI (by omega) (by omega)).mp (i32nl.mp c_109))]; exact aim_2 _ _ _ _ hI1))
  refine g_aload_n h (i := 0) rfl rfl ?_
  refine g_iconst h (i := 1) rfl (v := 0) (by rfl) ?_
  refine g_putI_0 h (i := 2) rfl fl_X4_18 nf_4_2 (fun _ _ _ => rfl) hT.1 (rfl) (by rfl) ?_
  refine g_aload_n h (i := 3) rfl rfl ?_
  refine g_iconst h (i := 4) rfl (v := 0) (by rfl) ?_
  refine g_putI_0 h (i := 5) rfl fl_X4_22 nf_4_3 (fun _ _ _ => rfl) hT.1 (rfl) (by rfl) ?_
  refine g_aload_n h (i := 6) rfl rfl ?_
  refine g_iconst h (i := 7) rfl (v := 1) (by rfl) ?_
  refine g_putI_0 h (i := 8) rfl fl_X4_25 nf_4_4 (fun _ _ _ => rfl) hT.1 (rfl) (by rfl) ?_
  refine g_aload_n h (i := 9) rfl rfl ?_
  refine g_iconst h (i := 10) rfl (v := 1) (by rfl) ?_
  refine g_putI_0 h (i := 11) rfl fl_X4_28 nf_4_5 (fun _ _ _ => rfl) hT.1 (rfl) (by rfl) ?_
  refine g_iconst h (i := 12) rfl (v := 0) (by rfl) ?_
  refine g_istore h (i := 13) rfl hq rfl ?_
  exact g_lv [(0, .ref t), (1, .ref ja), (2, .ref sa), (3, .ref ga), (4, .int (nI sh)), (5, .int (nI 0))] ⟨rfl, rfl, rfl, rfl, rfl, rfl, trivial⟩ (key 4 0 _ (by omega) aim_0)
theorem i64nl {x y : Int64} : ¬ x ≤ y ↔ y < x := by rw [i64le, i64lt]; omega
theorem i64nlt {x y : Int64} : ¬ x < y ↔ y ≤ x := by rw [i64le, i64lt]; omega
theorem sRow_cj {w : Wd} {a x k : Nat} {r : Nat → Int64} {v : Int64} (h : x ≠ a + 1) : sJ (sRow w a r) x k v = sRow (sJ w x k v) a r := by
  have e : up2 (ua (wJ w) (a + 1) r) x k v = ua (up2 (wJ w) x k v) (a + 1) r := by
    funext p q
    by_cases h1 : p = a + 1
    · subst h1; rw [up2_a (fun z => h z.symm), ua_s, ua_s]
    · rw [ua_a h1]
      by_cases h2 : p = x ∧ q = k
      · rw [h2.1, h2.2, up2_s, up2_s]
      · rw [show up2 (ua (wJ w) (a + 1) r) x k v p q = ua (wJ w) (a + 1) r p q from if_neg h2, ua_a h1, show up2 (wJ w) x k v p q = wJ w p q from if_neg h2]
  show dW w (wI w) (up2 (ua (wJ w) (a + 1) r) x k v) (wD w) = dW w (wI w) (ua (up2 (wJ w) x k v) (a + 1) r) (wD w)
  rw [e]
theorem sRow_o {w : Wd} {a x k : Nat} {r : Nat → Int64} (h : x ≠ a + 1) : wJ (sRow w a r) x k = wJ w x k := congrFun (ua_a h) k
/-- the reference's plan while it is made -/
def PlI (w : Wd) (a : Nat) (r : Nat → Int64) (go : Nat → Int32) (q : Nat × Nat × Nat × Nat) (i : Nat) (J : Nat → Nat → Int64) : Prop := (∀ p, p ≠ a → p ≠ a + 19 → p ≠ a + 20 → J p = wJ w p) ∧ (∀ j, j < i → J (a + 19) j = r j ∧ J (a + 20) j = (go j).toInt64) ∧ J a 24 = lN q.1 ∧ J a 27 = lN q.2.2.2 ∧ J a 26 = lN q.2.2.1 ∧ J a 25 = lN q.2.1
theorem pli_1 {w : Wd} {a : Nat} {r : Nat → Int64} {go : Nat → Int32} {q : Nat × Nat × Nat × Nat} {i : Nat} {J : Nat → Nat → Int64} (h : PlI w a r go q i J) : PlI w a r go q (i + 1) (up2 (up2 J (a + 19) i (r i)) (a + 20) i (go i).toInt64) := by
  obtain ⟨h1, h2, h3, h4, h5, h6⟩ := h
  refine ⟨fun p p1 p2 p3 => by rw [up2_f p3, up2_f p2]; exact h1 p p1 p2 p3, fun j hj => ?_, ?_, ?_, ?_, ?_⟩
  · by_cases e : j = i
    · subst e
      exact ⟨by rw [up2_a (by omega), up2_s], by rw [up2_s]⟩
    · rw [up2_a (show a + 19 ≠ a + 20 by omega), up2_k e, up2_k e, up2_a (show a + 20 ≠ a + 19 by omega)]
      exact h2 j (by omega)
  all_goals rw [up2_a (by omega), up2_a (by omega)]; assumption
theorem pli_2 {w : Wd} {a : Nat} {r : Nat → Int64} {go : Nat → Int32} {q : Nat × Nat × Nat × Nat} {i : Nat} {J : Nat → Nat → Int64} (n rr v wy : Nat) (h : PlI w a r go q i J) : PlI w a r go (n, rr, v, wy) i (up2 (up2 (up2 (up2 J a 24 (lN n)) a 25 (lN rr)) a 26 (lN v)) a 27 (lN wy)) := by
  obtain ⟨h1, h2, h3, h4, h5, h6⟩ := h
  refine ⟨fun p p1 p2 p3 => by rw [up2_f p1, up2_f p1, up2_f p1, up2_f p1]; exact h1 p p1 p2 p3, fun j hj => ?_, ?_, ?_, ?_, ?_⟩
  · rw [up2_a (by omega), up2_a (by omega), up2_a (by omega), up2_a (by omega), up2_a (by omega), up2_a (by omega), up2_a (by omega), up2_a (by omega)]
    exact h2 j hj
  · rw [up2_k (by omega), up2_k (by omega), up2_k (by omega), up2_s]
  · rw [up2_s]
  · rw [up2_k (by omega), up2_s]
  · rw [up2_k (by omega), up2_k (by omega), up2_s]
theorem pli_0 {w : Wd} {a : Nat} {r : Nat → Int64} {go : Nat → Int32} : PlI w a r go (0, 1, 1, 1) 0 (up2 (up2 (up2 (up2 (wJ w) a 24 0) a 25 1) a 26 1) a 27 1) := by
  refine ⟨fun p p1 p2 p3 => by rw [up2_f p1, up2_f p1, up2_f p1, up2_f p1], fun j hj => absurd hj (by omega), ?_, ?_, ?_, ?_⟩
  · rw [up2_k (by omega), up2_k (by omega), up2_k (by omega), up2_s]; rfl
  · rw [up2_s]; rfl
  · rw [up2_k (by omega), up2_s]; rfl
  · rw [up2_k (by omega), up2_k (by omega), up2_s]; rfl
theorem l_abs {x : Int64} (h : x.toInt.natAbs < 2147483648) : (if x < 0 then -x else x) = lN x.toInt.natAbs := by
  have e0 : (0 : Int64).toInt = 0 := rfl
  refine i64x ?_
  rw [lNT (by omega)]
  split
  · next g =>
    rw [i64lt, e0] at g
    rw [l_neg (by omega)]; omega
  · next g => rw [i64lt, e0] at g; omega
-- the way to a pose
set_option maxRecDepth 100000 in
set_option maxHeartbeats 4000000 in
theorem ct_X10_plans (l : Launch) (E : EE) (w : Wd) (a k sh : Nat) (r : Nat → Int64) (P R : Nat → Nat) (st go : Nat → Int32) (hlo : E.2.2 ≤ wN (sRow w a r)) (hL : LayR w a) (hk : k < 16) (hP : ∀ j, j < 4 → wI w (a + 7) j = nI (P j) ∧ 0 < P j ∧ P j ≤ 100000) (hR : ∀ j, j < 4 → wI w (a + 8) j = nI (R j) ∧ 0 < R j ∧ R j ≤ 100000) (hst : ∀ j, j < 4 → r j = (st j).toInt64 ∧ (st j).toInt.natAbs ≤ 1000000) (hgo : ∀ j, j < 4 → wI w (a + 12) (4 * k + j) = go j ∧ (go j).toInt.natAbs ≤ 1000000) (hsh : sh ≤ 100) : Ct l E yX10_plans cX10_plans 10 none ({ frames := 3, cells := 0, slots := 0, locals := 87 } : Room) [.ref a, .int (nI k), .int (nI sh)] (sRow w a r) 0 0 (fun q w2 => q = none ∧ ∃ J, w2 = sRow (dW w (wI w) J (wD w)) a r ∧ PlI w a r go (plS R (pvN P sh) (wdN st go) 1 4) 4 J) := by
  refine ct_in (il := il_X10_plans) (by decide) dk_X10_plans (Nat.le_of_ble_eq_true rfl) hlo ?_
  intro X h hq

  have key : ∀ (d i : Nat) (J : Nat → Nat → Int64), i + d = 4 → PlI w a r go (plS R (pvN P sh) (wdN st go) 1 i) i J → G X 0 0 22 (lf [(0, .ref a), (1, .int (nI k)), (2, .int (nI sh)), (3, .int (nI i))]) [] (sRow (dW w (wI w) J (wD w)) a r) := by
    intro d
    induction d with
    | zero =>
      intro i J hi hJ
      have hi4 : i = 4 := by omega
      subst hi4
      refine g_iload_n h (i := 14) rfl rfl ?_
      refine g_iconst h (i := 15) rfl (v := 4) (by rfl) ?_
      refine g_icmp_ge h (i := 16) 182 rfl rfl (fun c_24 => ?_) (fun c_24 => absurd (by decide : (4 : Int32) ≤ nI 4) c_24)
      exact g_vret hq h (i := 110) rfl (⟨rfl, J, rfl, hJ⟩)
    | succ d ih =>
      intro i J hid hJ
      have hi : i < 4 := by omega
      have hcl : (nI i).toNatClampNeg = i := nI_clamp (by omega)
      have hvp : vp_in (nI i) 4 := vp_in_nI hi (by omega)
      have hnge : ¬ (4 : Int32) ≤ nI i := nI_ge (b := 4) hi (by omega)
      obtain ⟨p1, p2, p3⟩ := hP i hi
      obtain ⟨r1, r2, r3⟩ := hR i hi
      obtain ⟨s1, s2⟩ := hst i hi
      obtain ⟨g1, g2⟩ := hgo i hi
      have esub : ((go i).toInt64 - r i).toInt = (go i).toInt - (st i).toInt := by rw [s1, l_sub (by rw [i_l, i_l]; omega) (by rw [i_l, i_l]; omega), i_l, i_l]
      have eabs : (if (go i).toInt64 - r i < 0 then -((go i).toInt64 - r i) else (go i).toInt64 - r i) = lN (wdN st go i) := by
        rw [l_abs (by rw [esub]; omega), esub]; rfl
      have hw2 : wdN st go i ≤ 2000000 := by unfold wdN; omega
      have hpv := pv_ok (p := P) (j := i) p3 hsh
      have hpm := pv_mul p3 hsh
      have epv : lN (P i) * lN sh / 100 = lN (P i * sh / 100) := pv_l p3 hsh
      have e3 : (nI (R i)).toInt64 = lN (R i) := nI_l (by omega)
      have e4 : (nI (P i)).toInt64 = lN (P i) := nI_l (by omega)
      have e5 : (nI sh).toInt64 = lN sh := nI_l (by omega)
      have hb : mB (R i) (pvN P sh i) := ⟨r2, r3, hpv.1, hpv.2⟩
      have hls := ls_le (R i) (pvN P sh i) (wdN st go i)
      have hpl := (pl_ok (rs := R) (pv := pvN P sh) (wd := wdN st go) (w0 := 1) (n := i) (by omega) (fun j hj => ⟨⟨(hR j (by omega)).2.1, (hR j (by omega)).2.2, pv_ok (hP j (by omega)).2.2 hsh⟩, by have := (hst j (by omega)).2; have := (hgo j (by omega)).2; unfold wdN; omega⟩)).1
      have hJ1 := pli_1 hJ
      obtain ⟨J1, hJ1e⟩ : ∃ J1, J1 = up2 (up2 J (a + 19) i (r i)) (a + 20) i (go i).toInt64 := ⟨_, rfl⟩
      rw [← hJ1e] at hJ1
      obtain ⟨m1, m2, m3, m4, m5⟩ := hJ1.2
      have ih2 := ih (i + 1)
      have hxk : (4 : Int32) * nI k + nI i = nI (4 * k + i) := by rw [nI_mul4]; exact nI_add (4 * k) i
      have k88 : G X 0 0 88 (lf [(0, .ref a), (1, .int (nI k)), (2, .int (nI sh)), (3, .int (nI i))]) [.long (lN (wdN st go i))] (sRow (dW w (wI w) J1 (wD w)) a r) := by
        have k119 : G X 0 0 119 (lf [(0, .ref a), (1, .int (nI k)), (2, .int (nI sh)), (3, .int (nI i)), (4, .long (lN (wdN st go i)))]) [.long (lN (pvN P sh i))] (sRow (dW w (wI w) J1 (wD w)) a r) := by
          refine g_lstore h (i := 77) rfl hq rfl ?_
          refine g_aload_n h (i := 78) rfl rfl ?_
          refine g_getR h (i := 79) rfl fl_X10_35 (fun _ _ _ => rfl) (lk_R hL) (lr_rise hL) ?_
          refine g_iload_n h (i := 80) rfl rfl ?_
          refine g_iald h (i := 81) rfl (lq_rise hL) (hvp) ?_
          refine g_eqi (wI w (a + 8) _) rfl ?_
          refine g_eqi (nI (R i)) (by rw [hcl]; exact r1) ?_
          refine g_i2l h (i := 82) rfl ?_
          refine g_eql (lN (R i)) e3 ?_
          refine g_lload h (i := 83) rfl rfl ?_
          refine g_lload h (i := 84) rfl rfl ?_
          refine g_callSx h hq (i := 85) rfl ms_X10_193 (ct_X10_ticksFor l E _ (R i) (pvN P sh i) (wdN st go i) hlo hb (by omega)) rfl rfl ⟨rfl, rfl, Nat.le_of_ble_eq_true rfl, Nat.le_of_ble_eq_true rfl⟩ (Nat.le_of_ble_eq_true rfl) ⟨Nat.zero_le _, Nat.zero_le _⟩ ?_
          refine g_lstore h (i := 86) rfl hq rfl ?_
          refine g_lload h (i := 87) rfl rfl ?_
          refine g_aload_n h (i := 88) rfl rfl ?_
          refine g_getJ h (i := 89) rfl fl_X10_178 (fun _ _ _ => rfl) (lk_R hL) ?_
          refine g_eql (lN (plS R (pvN P sh) (wdN st go) 1 i).1) ((sRow_o (by omega)).trans m2) ?_
          refine g_lcmp h (i := 90) rfl ?_
          refine g_if_le h (i := 91) 176 rfl rfl (fun c_144 => ?_) (fun c_144 => ?_)
          · skip
            refine g_iinc h (i := 108) rfl rfl (dv := 1) (by rfl) ?_
            refine g_goto h (i := 109) 22 rfl rfl ?_
            exact g_lv [(0, .ref a), (1, .int (nI k)), (2, .int (nI sh)), (3, .int (nI (i + 1)))] ⟨rfl, rfl, rfl, congrArg (fun z => some (Value.int z)) (nI_1 i), trivial⟩ (ih2 _ (by omega) (by rw [pl_f (by intro q; exact absurd ((pk_lLE (by omega) (by omega)).mp ((lg_cmp_le _ _).mp c_144)) (by omega))]; exact hJ1))
          · skip
            refine g_aload_n h (i := 92) rfl rfl ?_
            refine g_lload h (i := 93) rfl rfl ?_
            refine g_putJ_0 h (i := 94) rfl fl_X10_178 nf_10_24 (fun _ _ _ => rfl) (lk_R hL) (rfl) (by rfl) ?_
            refine g_w _ (sRow_cj (by omega)) ?_
            refine g_aload_n h (i := 95) rfl rfl ?_
            refine g_aload_n h (i := 96) rfl rfl ?_
            refine g_getR h (i := 97) rfl fl_X10_35 (fun _ _ _ => rfl) (lk_R hL) (lr_rise hL) ?_
            refine g_iload_n h (i := 98) rfl rfl ?_
            refine g_iald h (i := 99) rfl (lq_rise hL) (hvp) ?_
            refine g_eqi (wI w (a + 8) _) rfl ?_
            refine g_eqi (nI (R i)) (by rw [hcl]; exact r1) ?_
            refine g_i2l h (i := 100) rfl ?_
            refine g_eql (lN (R i)) e3 ?_
            refine g_putJ_0 h (i := 101) rfl fl_X10_182 nf_10_25 (fun _ _ _ => rfl) (lk_R hL) (rfl) (by rfl) ?_
            refine g_w _ (sRow_cj (by omega)) ?_
            refine g_aload_n h (i := 102) rfl rfl ?_
            refine g_lload h (i := 103) rfl rfl ?_
            refine g_putJ_0 h (i := 104) rfl fl_X10_185 nf_10_26 (fun _ _ _ => rfl) (lk_R hL) (rfl) (by rfl) ?_
            refine g_w _ (sRow_cj (by omega)) ?_
            refine g_aload_n h (i := 105) rfl rfl ?_
            refine g_lload h (i := 106) rfl rfl ?_
            refine g_putJ_0 h (i := 107) rfl fl_X10_188 nf_10_27 (fun _ _ _ => rfl) (lk_R hL) (rfl) (by rfl) ?_
            refine g_w _ (sRow_cj (by omega)) ?_
            refine g_iinc h (i := 108) rfl rfl (dv := 1) (by rfl) ?_
            refine g_goto h (i := 109) 22 rfl rfl ?_
            exact g_lv [(0, .ref a), (1, .int (nI k)), (2, .int (nI sh)), (3, .int (nI (i + 1)))] ⟨rfl, rfl, rfl, congrArg (fun z => some (Value.int z)) (nI_1 i), trivial⟩ (ih2 _ (by omega) (by rw [pl_t (Nat.lt_of_not_le (fun q => c_144 ((lg_cmp_le _ _).mpr ((pk_lLE (by omega) (by omega)).mpr q))))]; exact pli_2 _ _ _ _ hJ1))
        refine g_lstore h (i := 58) rfl hq rfl ?_
        refine g_aload_n h (i := 59) rfl rfl ?_
        refine g_getR h (i := 60) rfl fl_X10_32 (fun _ _ _ => rfl) (lk_R hL) (lr_pace hL) ?_
        refine g_iload_n h (i := 61) rfl rfl ?_
        refine g_iald h (i := 62) rfl (lq_pace hL) (hvp) ?_
        refine g_eqi (wI w (a + 7) _) rfl ?_
        refine g_eqi (nI (P i)) (by rw [hcl]; exact p1) ?_
        refine g_i2l h (i := 63) rfl ?_
        refine g_eql (lN (P i)) e4 ?_
        refine g_iload_n h (i := 64) rfl rfl ?_
        refine g_i2l h (i := 65) rfl ?_
        refine g_eql (lN sh) e5 ?_
        refine g_lmul h (i := 66) rfl ?_
        refine g_ldc2 h (i := 67) rfl k_X10_191 ?_
        refine g_ldiv h (i := 68) rfl (by decide) ?_
        refine g_eql (lN (P i * sh / 100)) epv ?_
        refine g_lstore h (i := 69) rfl hq rfl ?_
        refine g_lload h (i := 70) rfl rfl ?_
        refine g_lconst h (i := 71) rfl (v := 1) (by rfl) ?_
        refine g_lcmp h (i := 72) rfl ?_
        refine g_if_ge h (i := 73) 117 rfl rfl (fun c_110 => ?_) (fun c_110 => ?_)
        · skip
          refine g_lload h (i := 76) rfl rfl ?_
          refine g_eql (lN (pvN P sh i)) (congrArg lN (Nat.max_eq_right ((pk_lLE (a := 1) (by omega) (by omega)).mp ((lg_cmp_ge _ _).mp c_110))).symm) ?_
          exact g_lv [(0, .ref a), (1, .int (nI k)), (2, .int (nI sh)), (3, .int (nI i)), (4, .long (lN (wdN st go i)))] ⟨rfl, rfl, rfl, rfl, rfl, trivial⟩ k119
        · skip
          refine g_lconst h (i := 74) rfl (v := 1) (by rfl) ?_
          refine g_goto h (i := 75) 119 rfl rfl ?_
          refine g_eql (lN (pvN P sh i)) (congrArg lN (Nat.max_eq_left (Nat.le_of_not_le (fun q => c_110 ((lg_cmp_ge _ _).mpr ((pk_lLE (a := 1) (by omega) (by omega)).mpr q))))).symm) ?_
          exact g_lv [(0, .ref a), (1, .int (nI k)), (2, .int (nI sh)), (3, .int (nI i)), (4, .long (lN (wdN st go i)))] ⟨rfl, rfl, rfl, rfl, rfl, trivial⟩ k119
      refine g_iload_n h (i := 14) rfl rfl ?_
      refine g_iconst h (i := 15) rfl (v := 4) (by rfl) ?_
      refine g_icmp_ge h (i := 16) 182 rfl rfl (fun c_24 => absurd c_24 hnge) (fun c_24 => ?_)
      refine g_aload_n h (i := 17) rfl rfl ?_
      refine g_getR h (i := 18) rfl fl_X10_68 (fun _ _ _ => rfl) (lk_R hL) (lr_planFrom hL) ?_
      refine g_iload_n h (i := 19) rfl rfl ?_
      refine g_aload_n h (i := 20) rfl rfl ?_
      refine g_getR h (i := 21) rfl fl_X10_7 (fun _ _ _ => rfl) (lk_R hL) (lr_row hL) ?_
      refine g_iconst h (i := 22) rfl (v := 0) (by rfl) ?_
      refine g_iload_n h (i := 23) rfl rfl ?_
      refine g_iadd h (i := 24) rfl ?_
      refine g_eqi (nI i) (Int32.zero_add _) ?_
      refine g_lald h (i := 25) rfl (lq_row hL) (vp_in_nI (by omega) (by omega)) ?_
      refine g_eql _ (sRow_jx _ _ _ (n := i) (hcl)) ?_
      refine g_last h (i := 26) rfl (lq_planFrom hL) (hvp) ?_
      refine g_w (sRow (dW w (wI w) (up2 J (a + 19) i (r i)) (wD w)) a r) (by rw [hcl]; exact sRow_cj (by omega)) ?_
      refine g_aload_n h (i := 27) rfl rfl ?_
      refine g_getR h (i := 28) rfl fl_X10_71 (fun _ _ _ => rfl) (lk_R hL) (lr_planTo hL) ?_
      refine g_iload_n h (i := 29) rfl rfl ?_
      refine g_aload_n h (i := 30) rfl rfl ?_
      refine g_getR h (i := 31) rfl fl_X10_47 (fun _ _ _ => rfl) (lk_R hL) (lr_pose hL) ?_
      refine g_iconst h (i := 32) rfl (v := 4) (by rfl) ?_
      refine g_iload_n h (i := 33) rfl rfl ?_
      refine g_imul h (i := 34) rfl ?_
      refine g_iload_n h (i := 35) rfl rfl ?_
      refine g_iadd h (i := 36) rfl ?_
      refine g_eqi (nI (4 * k + i)) hxk ?_
      refine g_iald h (i := 37) rfl (lq_pose hL) (vp_in_nI (by omega) (by omega)) ?_
      refine g_eqi (wI w (a + 12) _) rfl ?_
      refine g_eqi (go i) (by rw [nI_clamp (by omega)]; exact g1) ?_
      refine g_i2l h (i := 38) rfl ?_
      refine g_last h (i := 39) rfl (lq_planTo hL) (hvp) ?_
      refine g_w (sRow (dW w (wI w) J1 (wD w)) a r) (by rw [hJ1e, hcl]; exact sRow_cj (by omega)) ?_
      refine g_aload_n h (i := 40) rfl rfl ?_
      refine g_getR h (i := 41) rfl fl_X10_71 (fun _ _ _ => rfl) (lk_R hL) (lr_planTo hL) ?_
      refine g_iload_n h (i := 42) rfl rfl ?_
      refine g_lald h (i := 43) rfl (lq_planTo hL) (hvp) ?_
      refine g_eql (go i).toInt64 (by rw [hcl]; exact (sRow_o (by omega)).trans (m1 i (by omega)).2) ?_
      refine g_aload_n h (i := 44) rfl rfl ?_
      refine g_getR h (i := 45) rfl fl_X10_68 (fun _ _ _ => rfl) (lk_R hL) (lr_planFrom hL) ?_
      refine g_iload_n h (i := 46) rfl rfl ?_
      refine g_lald h (i := 47) rfl (lq_planFrom hL) (hvp) ?_
      refine g_eql (r i) (by rw [hcl]; exact (sRow_o (by omega)).trans (m1 i (by omega)).1) ?_
      refine g_lsub h (i := 48) rfl ?_
      refine g_lstore h (i := 49) rfl hq rfl ?_
      refine g_lload h (i := 50) rfl rfl ?_
      refine g_lconst h (i := 51) rfl (v := 0) (by rfl) ?_
      refine g_lcmp h (i := 52) rfl ?_
      refine g_if_ge h (i := 53) 86 rfl rfl (fun c_77 => ?_) (fun c_77 => ?_)
      · skip
        refine g_lload h (i := 57) rfl rfl ?_
        refine g_eql (lN (wdN st go i)) (by rw [← eabs, if_neg (i64nlt.mpr ((lg_cmp_ge _ _).mp c_77))]) ?_
        exact g_lv [(0, .ref a), (1, .int (nI k)), (2, .int (nI sh)), (3, .int (nI i))] ⟨rfl, rfl, rfl, rfl, trivial⟩ k88
      · skip
        refine g_lload h (i := 54) rfl rfl ?_
        refine g_lneg h (i := 55) rfl ?_
        refine g_goto h (i := 56) 88 rfl rfl ?_
        refine g_eql (lN (wdN st go i)) (by rw [← eabs, if_pos (i64nl.mp (fun q => c_77 ((lg_cmp_ge _ _).mpr q)))]) ?_
        exact g_lv [(0, .ref a), (1, .int (nI k)), (2, .int (nI sh)), (3, .int (nI i))] ⟨rfl, rfl, rfl, rfl, trivial⟩ k88
  refine g_aload_n h (i := 0) rfl rfl ?_
  refine g_lconst h (i := 1) rfl (v := 0) (by rfl) ?_
  refine g_putJ_0 h (i := 2) rfl fl_X10_178 nf_10_24 (fun _ _ _ => rfl) (lk_R hL) (rfl) (by rfl) ?_
  refine g_w _ (sRow_cj (by omega)) ?_
  refine g_aload_n h (i := 3) rfl rfl ?_
  refine g_lconst h (i := 4) rfl (v := 1) (by rfl) ?_
  refine g_putJ_0 h (i := 5) rfl fl_X10_182 nf_10_25 (fun _ _ _ => rfl) (lk_R hL) (rfl) (by rfl) ?_
  refine g_w _ (sRow_cj (by omega)) ?_
  refine g_aload_n h (i := 6) rfl rfl ?_
  refine g_lconst h (i := 7) rfl (v := 1) (by rfl) ?_
  refine g_putJ_0 h (i := 8) rfl fl_X10_185 nf_10_26 (fun _ _ _ => rfl) (lk_R hL) (rfl) (by rfl) ?_
  refine g_w _ (sRow_cj (by omega)) ?_
  refine g_aload_n h (i := 9) rfl rfl ?_
  refine g_lconst h (i := 10) rfl (v := 1) (by rfl) ?_
  refine g_putJ_0 h (i := 11) rfl fl_X10_188 nf_10_27 (fun _ _ _ => rfl) (lk_R hL) (rfl) (by rfl) ?_
  refine g_w _ (sRow_cj (by omega)) ?_
  refine g_iconst h (i := 12) rfl (v := 0) (by rfl) ?_
  refine g_istore_n h (i := 13) rfl hq rfl ?_
  exact g_lv [(0, .ref a), (1, .int (nI k)), (2, .int (nI sh)), (3, .int (nI 0))] ⟨rfl, rfl, rfl, rfl, trivial⟩ (key 4 0 _ (by omega) pli_0)
end
section
/-- n places of a row from o on, put -/
def setn {α : Type} (r : Nat → α) (o : Nat) (f : Nat → α) (n : Nat) : Nat → α := fun y => if o ≤ y ∧ y < o + n then f (y - o) else r y
theorem setn_0 {α : Type} (r : Nat → α) (o : Nat) (f : Nat → α) : setn r o f 0 = r := funext fun y => if_neg (by omega)
theorem setn_1 {α : Type} (r : Nat → α) (o : Nat) (f : Nat → α) (i : Nat) {v : α} (h : v = f i) : up1 (setn r o f i) (o + i) v = setn r o f (i + 1) := by
  subst h
  funext y
  by_cases e : y = o + i
  · subst e; rw [up1_s]; unfold setn; rw [if_pos (by omega), show o + i - o = i by omega]
  · rw [up1_k e]
    unfold setn
    by_cases g : o ≤ y ∧ y < o + i
    · rw [if_pos g, if_pos (by omega)]
    · rw [if_neg g, if_neg (by omega)]
theorem setn_i {α : Type} {r : Nat → α} {o n y j : Nat} {f : Nat → α} (h : y = o + j) (h2 : j < n) : setn r o f n y = f j := by
  unfold setn
  rw [if_pos (by omega), show y - o = j by omega]
theorem setn_o {α : Type} {r : Nat → α} {o n y : Nat} {f : Nat → α} (h : ¬ (o ≤ y ∧ y < o + n)) : setn r o f n y = r y := if_neg h
theorem setn_r {α : Type} {r : Nat → α} {o n : Nat} {f g : Nat → α} (h : ∀ j, j < n → g j = r (o + j)) : setn (setn r o f n) o g n = r := by
  funext y
  by_cases e : o ≤ y ∧ y < o + n
  · rw [setn_i (j := y - o) (by omega) (by omega), h _ (by omega), show o + (y - o) = y by omega]
  · rw [setn_o e, setn_o e]
/-- the reference's ints: its config -/
def cfW (w : Wd) (a : Nat) : Nat → Nat → Int32 := fun f => wI w (a + f)
/-- barred at these states -/
def barC (cf : Nat → Nat → Int32) (st : Nat → Int32) : Bool := barB (cf 9) (cf 10) (tpX (cf 3) (cf 4) st 4) (tpY (cf 3) (cf 4) st 4) 4
/-- a joint behind t ticks of the go of a row -/
def sbR (r : Nat → Int64) (t : Nat) (j : Nat) : Int := mvS (r (51 + j)).toInt ((r (55 + j)).toInt - (r (51 + j)).toInt) (min (gnN (pN (r 60)) (pN (r 61)) (pN (r 59)) t) (pN (r 62))) (pN (r 62))
def nxR (r : Nat → Int64) (j : Nat) : Int64 := Int64.ofInt (sbR r (pN (r 63) + 1) j)
def absL (x : Int64) : Int64 := if x < 0 then -x else x
def goesOnR (cf : Nat → Nat → Int32) (r : Nat → Int64) : Nat → Int64 :=
  if barC cf (fun j => (nxR r j).toInt32) = true then errsR (cf 0 12) 2 (up1 r 63 (r 63 + 1))
  else if r 47 - 1 = 0 then overR (up1 (setn (setn (up1 r 63 (r 63 + 1)) 0 (nxR r) 4) 64 (fun j => r (64 + j) + absL (nxR r j - r j)) 4) 47 (r 47 - 1))
  else up1 (setn (setn (up1 r 63 (r 63 + 1)) 0 (nxR r) 4) 64 (fun j => r (64 + j) + absL (nxR r j - r j)) 4) 47 (r 47 - 1)
def isN (x : Int64) (m : Nat) : Prop := x = lN (pN x) ∧ pN x ≤ m
/-- a go under way -/
def MoR (r : Nat → Int64) : Prop := isN (r 59) 2000000 ∧ isN (r 62) 2000000 ∧ 0 < pN (r 62) ∧ r 60 = lN (pN (r 60)) ∧ r 61 = lN (pN (r 61)) ∧ mB (pN (r 60)) (pN (r 61)) ∧ r 63 = lN (pN (r 63)) ∧ r 47 = lN (pN (r 47)) ∧ pN (r 63) + pN (r 47) = pN (r 59) ∧ 0 < pN (r 47) ∧ ∀ j, j < 4 → (r (51 + j)).toInt.natAbs ≤ 1000000 ∧ (r (55 + j)).toInt.natAbs ≤ 1000000
/-- kinds and lengths -/
def CfA (cf : Nat → Nat → Int32) : Prop := ∀ j, j < 4 → (cf 3 j = 0 ∨ cf 3 j = 1) ∧ (cf 4 j).toInt.natAbs ≤ 1000
theorem okA_of {cf : Nat → Nat → Int32} {st : Nat → Int32} (h : CfA cf) (h2 : ∀ j, j < 4 → (st j).toInt.natAbs ≤ 1000000) : okA (cf 3) (cf 4) st := fun j hj => ⟨(h j hj).1, (h j hj).2, h2 j hj⟩
theorem sb_ok {r : Nat → Int64} (h : MoR r) {t j : Nat} (hj : j < 4) : (sbR r t j).natAbs ≤ 1000000 := by
  have f := h.2.2.2.2.2.2.2.2.2.2 j hj
  have := mv_btw (fr := (r (51 + j)).toInt) (dl := (r (55 + j)).toInt - (r (51 + j)).toInt) (show min (gnN (pN (r 60)) (pN (r 61)) (pN (r 59)) t) (pN (r 62)) ≤ pN (r 62) from Nat.min_le_right _ _)
  unfold sbR
  omega
theorem nx_i {r : Nat → Int64} (h : MoR r) {j : Nat} (hj : j < 4) : (nxR r j).toInt = sbR r (pN (r 63) + 1) j ∧ (nxR r j).toInt32.toInt = sbR r (pN (r 63) + 1) j ∧ nxR r j = (nxR r j).toInt32.toInt64 := by
  have b := sb_ok h (t := pN (r 63) + 1) hj
  have e1 : (nxR r j).toInt = sbR r (pN (r 63) + 1) j := ofI64 (by omega) (by omega)
  have e2 : (nxR r j).toInt32.toInt = sbR r (pN (r 63) + 1) j := by rw [l_i (by rw [e1]; omega) (by rw [e1]; omega), e1]
  exact ⟨e1, e2, i64x (by rw [i_l, e1, e2])⟩
theorem hrdn {r : Nat → Int64} {f : Nat → Int64} {i y : Nat} {v : Int64} (hi : i ≤ y) (hy : y ≠ 63) : setn (up1 r 63 v) 0 f i y = r y := by
  rw [setn_o (by omega), up1_k hy]
/-- what the states were, put -/
def wasW (w : Wd) (a : Nat) (r : Nat → Int64) (i : Nat) : Wd := dW w (wI w) (ua (wJ w) (a + 21) (setn (wJ w (a + 21)) 0 r i)) (wD w)
theorem was_0 (w : Wd) (a : Nat) (r : Nat → Int64) : wasW w a r 0 = w := by
  unfold wasW
  rw [setn_0, ua_self, dW_self]
theorem was_1 {w : Wd} {a i : Nat} {r R : Nat → Int64} {v : Int64} {x : Int32} (hx : x.toNatClampNeg = i) (hv : v = r i) : sJ (sRow (wasW w a r i) a R) (a + 21) x.toNatClampNeg v = sRow (wasW w a r (i + 1)) a R := by
  have hs := setn_1 (wJ w (a + 21)) 0 r i hv
  rw [Nat.zero_add] at hs
  rw [hx, sRow_cj (by omega), dW_J]
  show sRow (dW w (wI w) (up2 (ua (wJ w) (a + 21) (setn (wJ w (a + 21)) 0 r i)) (a + 21) i v) (wD w)) a R = _
  rw [up2_ua, ua_s, ua_ua, hs]
  rfl
theorem was_r {w : Wd} {a i n : Nat} {r R : Nat → Int64} (h : i < n) : wJ (sRow (wasW w a r n) a R) (a + 21) i = r i := by
  rw [sRow_o (by omega)]
  show ua (wJ w) (a + 21) (setn (wJ w (a + 21)) 0 r n) (a + 21) i = r i
  rw [ua_s, setn_i (j := i) (by omega) h]
theorem RS_was (w : Wd) (a : Nat) (r : Nat → Int64) (n : Nat) (x y : UInt64) : RS a w (tipW (wasW w a r n) a 20 x y) := ⟨ua (wJ w) (a + 21) (setn (wJ w (a + 21)) 0 r n), up2 (up2 (wD w) a 20 x) a 21 y, rfl, fun p _ _ _ p4 _ => ua_a p4, fun p p1 => by rw [up2_f p1, up2_f p1]⟩
-- a go goes on
set_option maxRecDepth 100000 in
set_option maxHeartbeats 4000000 in
theorem ct_X10_goesOn (l : Launch) (E : EE) (w : Wd) (a : Nat) (r : Nat → Int64) (hlo : E.2.2 ≤ wN (sRow w a r)) (hL : LayR w a) (hm : MoR r) (hc : CfA (cfW w a)) : Ct l E yX10_goesOn cX10_goesOn 4 none ({ frames := 3, cells := 0, slots := 0, locals := 91 } : Room) [.ref a] (sRow w a r) 0 0 (fun q w2 => q = none ∧ ∃ w3, RS a w w3 ∧ w2 = sRow w3 a (goesOnR (cfW w a) r)) := by
  refine ct_in (il := il_X10_goesOn) (by decide) dk_X10_goesOn (Nat.le_of_ble_eq_true rfl) hlo ?_
  intro X h hq

  obtain ⟨h59, h62, hw0, h60, h61, hmb, h63, h47, hsum, hl0, hft⟩ := id hm
  have hk1 : r 63 + 1 = lN (pN (r 63) + 1) := by rw [h63, lN_1, ← h63]
  obtain ⟨r1, hr1⟩ : ∃ r1, r1 = up1 r 63 (r 63 + 1) := ⟨_, rfl⟩
  have hnx : ∀ j, nxR r j = Int64.ofInt (mvS (r (51 + j)).toInt ((r (55 + j)).toInt - (r (51 + j)).toInt) (min (gnN (pN (r 60)) (pN (r 61)) (pN (r 59)) (pN (r 63) + 1)) (pN (r 62))) (pN (r 62))) := fun j => rfl
  have hn63 : ∀ i y, i ≤ y → y ≠ 63 → setn r1 0 (nxR r) i y = r y := fun i y h1 h2 => by rw [hr1]; exact hrdn h1 h2
  have h163 : ∀ i, i ≤ 4 → setn r1 0 (nxR r) i 63 = r 63 + 1 := fun i h => by rw [setn_o (by omega), hr1, up1_s]
  -- behind isBarred
  have k106 : ∀ w3, RS a w w3 → wI w3 = wI w → wJ w3 = wJ (wasW w a r 4) → G X 0 0 106 (lf [(0, .ref a)]) [.int (bI (barC (cfW w a) (fun j => (nxR r j).toInt32) = true))] (sRow w3 a (setn r1 0 (nxR r) 4)) := by
    intro w3 hRS hI3 hJ3
    have hLw := hL
    have hN3 : wN w3 = wN w := by obtain ⟨J, D, rfl, -, -⟩ := hRS; rfl
    have hL : LayR w3 a := by obtain ⟨J, D, rfl, -, -⟩ := hRS; exact hLw
    have hlo3 : E.2.2 ≤ wN w3 := by rw [hN3]; exact hlo
    have hwas : ∀ (R : Nat → Int64) i, i < 4 → wJ (sRow w3 a R) (a + 21) i = r i := fun R i hi => by
      rw [sRow_o (by omega), hJ3, ← sRow_o (w := wasW w a r 4) (a := a) (r := R) (x := a + 21) (k := i) (by omega)]
      exact was_r hi
    -- the states are put back
    have kA : ∀ (d i : Nat), i + d = 4 → barC (cfW w a) (fun j => (nxR r j).toInt32) = true → G X 0 0 111 (lf [(0, .ref a), (1, .int (nI i))]) [] (sRow w3 a (setn (setn r1 0 (nxR r) 4) 0 r i)) := by
      intro d
      induction d with
      | zero =>
        intro i hi hbar
        have hi4 : i = 4 := by omega
        subst hi4
        have hback : setn (setn r1 0 (nxR r) 4) 0 r 4 = r1 := setn_r (fun j hj => by rw [Nat.zero_add, hr1, up1_k (by omega)])
        rw [hback]
        refine g_iload_n h (i := 69) rfl rfl ?_
        refine g_iconst h (i := 70) rfl (v := 4) (by rfl) ?_
        refine g_icmp_ge h (i := 71) 136 rfl rfl (fun c_113 => ?_) (fun c_113 => absurd (by decide : (4 : Int32) ≤ nI 4) c_113)
        refine g_aload_n h (i := 84) rfl rfl ?_
        refine g_iconst h (i := 85) rfl (v := 2) (by rfl) ?_
        refine g_callVn h hq (i := 86) rfl mv_X10_219 cls10 (lk_R hL) (ct_X10_errs l E w3 a r1 2 hlo3 hL) rfl rfl ⟨rfl, rfl, Nat.le_of_ble_eq_true rfl, Nat.le_of_ble_eq_true rfl⟩ (Nat.le_of_ble_eq_true rfl) ⟨Nat.zero_le _, Nat.zero_le _⟩ ?_
        exact g_vret hq h (i := 87) rfl (⟨rfl, w3, hRS, by unfold goesOnR; rw [if_pos hbar, hI3, hr1]; rfl⟩)
      | succ d ih =>
        intro i hid hbar
        have hi : i < 4 := by omega
        have hcl : (nI i).toNatClampNeg = i := nI_clamp (by omega)
        have hvp : vp_in (nI i) 4 := vp_in_nI hi (by omega)
        have hvr : vp_in (nI i) 408 := vp_in_nI (by omega) (by omega)
        have hnge : ¬ (4 : Int32) ≤ nI i := nI_ge (b := 4) hi (by omega)
        have hst : up1 (setn (setn r1 0 (nxR r) 4) 0 r i) i (r i) = setn (setn r1 0 (nxR r) 4) 0 r (i + 1) := by
          have := setn_1 (setn r1 0 (nxR r) 4) 0 r i (v := r i) rfl
          rw [Nat.zero_add] at this
          exact this
        refine g_iload_n h (i := 69) rfl rfl ?_
        refine g_iconst h (i := 70) rfl (v := 4) (by rfl) ?_
        refine g_icmp_ge h (i := 71) 136 rfl rfl (fun c_113 => absurd c_113 hnge) (fun c_113 => ?_)
        refine g_aload_n h (i := 72) rfl rfl ?_
        refine g_getR h (i := 73) rfl fl_X10_7 (fun _ _ _ => rfl) (lk_R hL) (lr_row hL) ?_
        refine g_iconst h (i := 74) rfl (v := 0) (by rfl) ?_
        refine g_iload_n h (i := 75) rfl rfl ?_
        refine g_iadd h (i := 76) rfl ?_
        refine g_eqi (nI i) (Int32.zero_add _) ?_
        refine g_aload_n h (i := 77) rfl rfl ?_
        refine g_getR h (i := 78) rfl fl_X10_74 (fun _ _ _ => rfl) (lk_R hL) (lr_was hL) ?_
        refine g_iload_n h (i := 79) rfl rfl ?_
        refine g_lald h (i := 80) rfl (lq_was hL) (hvp) ?_
        refine g_eql (r i) (by rw [hcl]; exact hwas _ i hi) ?_
        refine g_last h (i := 81) rfl (lq_row hL) (hvr) ?_
        refine g_w _ (sRow_ux _ _ _ _ (n := i) (hcl)) ?_
        refine g_w (sRow w3 a (setn (setn r1 0 (nxR r) 4) 0 r (i + 1))) (by rw [hst]) ?_
        refine g_iinc h (i := 82) rfl rfl (dv := 1) (by rfl) ?_
        refine g_goto h (i := 83) 111 rfl rfl ?_
        exact g_lv [(0, .ref a), (1, .int (nI (i + 1)))] ⟨rfl, congrArg (fun z => some (Value.int z)) (nI_1 i), trivial⟩ (ih (i + 1) (by omega) hbar)
    -- the travel
    obtain ⟨tv, htv⟩ : ∃ tv : Nat → Int64, tv = fun j => r (64 + j) + absL (nxR r j - r j) := ⟨_, rfl⟩
    obtain ⟨r2, hr2⟩ : ∃ r2, r2 = setn r1 0 (nxR r) 4 := ⟨_, rfl⟩
    have kB : ∀ (d i : Nat), i + d = 4 → ¬ barC (cfW w a) (fun j => (nxR r j).toInt32) = true → G X 0 0 144 (lf [(0, .ref a), (1, .int (nI i))]) [] (sRow w3 a (setn r2 64 tv i)) := by
      intro d
      induction d with
      | zero =>
        intro i hi hbar
        have hi4 : i = 4 := by omega
        subst hi4
        have e47 : setn r2 64 tv 4 47 = r 47 := by rw [setn_o (by omega), hr2]; exact hn63 4 47 (by omega) (by omega)
        refine g_iload_n h (i := 90) rfl rfl ?_
        refine g_iconst h (i := 91) rfl (v := 4) (by rfl) ?_
        refine g_icmp_ge h (i := 92) 195 rfl rfl (fun c_146 => ?_) (fun c_146 => absurd (by decide : (4 : Int32) ≤ nI 4) c_146)
        refine g_aload_n h (i := 124) rfl rfl ?_
        refine g_getR h (i := 125) rfl fl_X10_7 (fun _ _ _ => rfl) (lk_R hL) (lr_row hL) ?_
        refine g_bipush h (i := 126) rfl (v := 47) (by rfl) ?_
        refine g_dup2 h (i := 127) rfl rfl rfl ?_
        refine g_lald h (i := 128) rfl (lq_row hL) (vpD (by decide)) ?_
        refine g_eql _ (sRow_jx _ _ _ (n := 47) (by rfl)) ?_
        refine g_eql (r 47) e47 ?_
        refine g_lconst h (i := 129) rfl (v := 1) (by rfl) ?_
        refine g_lsub h (i := 130) rfl ?_
        refine g_last h (i := 131) rfl (lq_row hL) (vpD (by decide)) ?_
        refine g_w _ (sRow_ux _ _ _ _ (n := 47) (by rfl)) ?_
        refine g_aload_n h (i := 132) rfl rfl ?_
        refine g_getR h (i := 133) rfl fl_X10_7 (fun _ _ _ => rfl) (lk_R hL) (lr_row hL) ?_
        refine g_bipush h (i := 134) rfl (v := 47) (by rfl) ?_
        refine g_lald h (i := 135) rfl (lq_row hL) (vpD (by decide)) ?_
        refine g_eql _ (sRow_jx _ _ _ (n := 47) (by rfl)) ?_
        refine g_eql (r 47 - 1) (up1_s _ _ _) ?_
        refine g_lconst h (i := 136) rfl (v := 0) (by rfl) ?_
        refine g_lcmp h (i := 137) rfl ?_
        refine g_if_ne h (i := 138) 222 rfl rfl (fun c_215 => ?_) (fun c_215 => ?_)
        · skip
          exact g_vret hq h (i := 141) rfl (⟨rfl, w3, hRS, by unfold goesOnR; rw [if_neg hbar, if_neg (fun q => c_215 ((lg_cmp_eq _ _).mpr q)), ← htv, ← hr1, ← hr2]⟩)
        · skip
          refine g_aload_n h (i := 139) rfl rfl ?_
          refine g_callVn h hq (i := 140) rfl mv_X10_223 cls10 (lk_R hL) (ct_X10_over l E w3 a _ hlo3 hL) rfl rfl ⟨rfl, rfl, Nat.le_of_ble_eq_true rfl, Nat.le_of_ble_eq_true rfl⟩ (Nat.le_of_ble_eq_true rfl) ⟨Nat.zero_le _, Nat.zero_le _⟩ ?_
          exact g_vret hq h (i := 141) rfl (⟨rfl, w3, hRS, by unfold goesOnR; rw [if_neg hbar, if_pos ((lg_cmp_eq _ _).mp c_215), ← htv, ← hr1, ← hr2]⟩)
      | succ d ih =>
        intro i hid hbar
        have hi : i < 4 := by omega
        have hcl : (nI i).toNatClampNeg = i := nI_clamp (by omega)
        have hvp : vp_in (nI i) 4 := vp_in_nI hi (by omega)
        have hvr : vp_in (nI i) 408 := vp_in_nI (by omega) (by omega)
        have hnge : ¬ (4 : Int32) ≤ nI i := nI_ge (b := 4) hi (by omega)
        have er : setn r2 64 tv i i = nxR r i := by rw [setn_o (by omega), hr2, setn_i (j := i) (by omega) hi]
        have et : setn r2 64 tv i (64 + i) = r (64 + i) := by rw [setn_o (by omega), hr2]; exact hn63 4 (64 + i) (by omega) (by omega)
        have hx : (64 : Int32) + nI i = nI (64 + i) := nI_add 64 i
        have hs1 := setn_1 r2 64 tv i (v := r (64 + i) + absL (nxR r i - r i)) (by rw [htv])
        have k187 : ∀ v : Int64, v = absL (nxR r i - r i) → G X 0 0 187 (lf [(0, .ref a), (1, .int (nI i))]) [.long v, .long (r (64 + i)), .int (nI (64 + i)), .ref (a + 1)] (sRow w3 a (setn r2 64 tv i)) := by
          intro v hv
          refine g_eql (absL (nxR r i - r i)) hv ?_
          refine g_ladd h (i := 120) rfl ?_
          refine g_last h (i := 121) rfl (lq_row hL) (vp_in_nI (by omega) (by omega)) ?_
          refine g_w _ (sRow_ux _ _ _ _ (n := 64 + i) (nI_clamp (by omega))) ?_
          refine g_w (sRow w3 a (setn r2 64 tv (i + 1))) (by rw [hs1]) ?_
          refine g_iinc h (i := 122) rfl rfl (dv := 1) (by rfl) ?_
          refine g_goto h (i := 123) 144 rfl rfl ?_
          exact g_lv [(0, .ref a), (1, .int (nI (i + 1)))] ⟨rfl, congrArg (fun z => some (Value.int z)) (nI_1 i), trivial⟩ (ih (i + 1) (by omega) hbar)
        refine g_iload_n h (i := 90) rfl rfl ?_
        refine g_iconst h (i := 91) rfl (v := 4) (by rfl) ?_
        refine g_icmp_ge h (i := 92) 195 rfl rfl (fun c_146 => absurd c_146 hnge) (fun c_146 => ?_)
        refine g_aload_n h (i := 93) rfl rfl ?_
        refine g_getR h (i := 94) rfl fl_X10_7 (fun _ _ _ => rfl) (lk_R hL) (lr_row hL) ?_
        refine g_iconst h (i := 95) rfl (v := 0) (by rfl) ?_
        refine g_iload_n h (i := 96) rfl rfl ?_
        refine g_iadd h (i := 97) rfl ?_
        refine g_eqi (nI i) (Int32.zero_add _) ?_
        refine g_lald h (i := 98) rfl (lq_row hL) (hvr) ?_
        refine g_eql _ (sRow_jx _ _ _ (n := i) (hcl)) ?_
        refine g_eql (nxR r i) er ?_
        refine g_aload_n h (i := 99) rfl rfl ?_
        refine g_getR h (i := 100) rfl fl_X10_74 (fun _ _ _ => rfl) (lk_R hL) (lr_was hL) ?_
        refine g_iload_n h (i := 101) rfl rfl ?_
        refine g_lald h (i := 102) rfl (lq_was hL) (hvp) ?_
        refine g_eql (r i) (by rw [hcl]; exact hwas _ i hi) ?_
        refine g_lsub h (i := 103) rfl ?_
        refine g_lstore_n h (i := 104) rfl hq rfl ?_
        refine g_aload_n h (i := 105) rfl rfl ?_
        refine g_getR h (i := 106) rfl fl_X10_7 (fun _ _ _ => rfl) (lk_R hL) (lr_row hL) ?_
        refine g_bipush h (i := 107) rfl (v := 64) (by rfl) ?_
        refine g_iload_n h (i := 108) rfl rfl ?_
        refine g_iadd h (i := 109) rfl ?_
        refine g_eqi (nI (64 + i)) hx ?_
        refine g_dup2 h (i := 110) rfl rfl rfl ?_
        refine g_lald h (i := 111) rfl (lq_row hL) (vp_in_nI (by omega) (by omega)) ?_
        refine g_eql _ (sRow_jx _ _ _ (n := 64 + i) (nI_clamp (by omega))) ?_
        refine g_eql (r (64 + i)) et ?_
        refine g_lload_n h (i := 112) rfl rfl ?_
        refine g_lconst h (i := 113) rfl (v := 0) (by rfl) ?_
        refine g_lcmp h (i := 114) rfl ?_
        refine g_if_ge h (i := 115) 186 rfl rfl (fun c_178 => ?_) (fun c_178 => ?_)
        · skip
          refine g_lload_n h (i := 119) rfl rfl ?_
          exact g_lv [(0, .ref a), (1, .int (nI i))] ⟨rfl, rfl, trivial⟩ (k187 _ (if_neg (i64nlt.mpr ((lg_cmp_ge _ _).mp c_178))).symm)
        · skip
          refine g_lload_n h (i := 116) rfl rfl ?_
          refine g_lneg h (i := 117) rfl ?_
          refine g_goto h (i := 118) 187 rfl rfl ?_
          exact g_lv [(0, .ref a), (1, .int (nI i))] ⟨rfl, rfl, trivial⟩ (k187 _ (if_pos (i64nl.mp (fun q => c_178 ((lg_cmp_ge _ _).mpr q)))).symm)
    refine g_if_eq h (i := 66) 142 rfl rfl (fun c_106 => ?_) (fun c_106 => ?_)
    · skip
      refine g_iconst h (i := 88) rfl (v := 0) (by rfl) ?_
      refine g_istore_n h (i := 89) rfl hq rfl ?_
      exact g_lv [(0, .ref a), (1, .int (nI 0))] ⟨rfl, rfl, trivial⟩ (by have := kB 4 0 (by omega) (bI_0.mp c_106); rw [setn_0, hr2] at this; exact this)
    · skip
      refine g_iconst h (i := 67) rfl (v := 0) (by rfl) ?_
      refine g_istore_n h (i := 68) rfl hq rfl ?_
      exact g_lv [(0, .ref a), (1, .int (nI 0))] ⟨rfl, rfl, trivial⟩ (by have := kA 4 0 (by omega) (bI_1.mp c_106); rw [setn_0] at this; exact this)
  -- the states are put
  have key : ∀ (d i : Nat), i + d = 4 → G X 0 0 13 (lf [(0, .ref a), (1, .int (nI i))]) [] (sRow (wasW w a r i) a (setn r1 0 (nxR r) i)) := by
    intro d
    induction d with
    | zero =>
      intro i hi
      have hi4 : i = 4 := by omega
      subst hi4
      have hbar := ct_X10_isBarred l E (wasW w a r 4) a (setn r1 0 (nxR r) 4) (fun j => (nxR r j).toInt32) hlo hL (fun j hj => by rw [setn_i (j := j) (by omega) hj]; exact (nx_i hm hj).2.2) (okA_of (cf := cfW w a) hc (fun j hj => by rw [(nx_i hm hj).2.1]; exact sb_ok hm hj))
      refine g_iload_n h (i := 10) rfl rfl ?_
      refine g_iconst h (i := 11) rfl (v := 4) (by rfl) ?_
      refine g_icmp_ge h (i := 12) 102 rfl rfl (fun c_15 => ?_) (fun c_15 => absurd (by decide : (4 : Int32) ≤ nI 4) c_15)
      refine g_aload_n h (i := 64) rfl rfl ?_
      refine g_callVx h hq (i := 65) rfl mv_X10_216 cls10 (lk_R hL) (hbar) rfl rfl ⟨rfl, rfl, Nat.le_of_ble_eq_true rfl, Nat.le_of_ble_eq_true rfl⟩ (Nat.le_of_ble_eq_true rfl) ⟨Nat.zero_le _, Nat.zero_le _⟩ ?_
      exact g_lv [(0, .ref a)] ⟨rfl, trivial⟩ (k106 _ (RS_was w a r 4 _ _) rfl rfl)
    | succ d ih =>
      intro i hid
      have hi : i < 4 := by omega
      have hcl : (nI i).toNatClampNeg = i := nI_clamp (by omega)
      have hvp : vp_in (nI i) 4 := vp_in_nI hi (by omega)
      have hvr : vp_in (nI i) 408 := vp_in_nI (by omega) (by omega)
      have hnge : ¬ (4 : Int32) ≤ nI i := nI_ge (b := 4) hi (by omega)
      have e51 : setn r1 0 (nxR r) i (51 + i) = r (51 + i) := hn63 i _ (by omega) (by omega)
      have e55 : setn r1 0 (nxR r) i (55 + i) = r (55 + i) := hn63 i _ (by omega) (by omega)
      have ei : setn r1 0 (nxR r) i i = r i := hn63 i _ (by omega) (by omega)
      have hs1 := setn_1 r1 0 (nxR r) i (v := nxR r i) rfl
      rw [Nat.zero_add] at hs1
      obtain ⟨f1, f2⟩ := hft i hi
      have hsb := ct_X10_stateBehind l E (sRow (wasW w a r (i + 1)) a (setn r1 0 (nxR r) i)) (r (51 + i)) (r (55 + i)) (pN (r 60)) (pN (r 61)) (pN (r 59)) (pN (r 62)) (pN (r 63) + 1) hlo hmb (by have := h59.2; omega) (by omega) hw0 (by have := h62.2; omega) f1 f2
      refine g_iload_n h (i := 10) rfl rfl ?_
      refine g_iconst h (i := 11) rfl (v := 4) (by rfl) ?_
      refine g_icmp_ge h (i := 12) 102 rfl rfl (fun c_15 => absurd c_15 hnge) (fun c_15 => ?_)
      refine g_aload_n h (i := 13) rfl rfl ?_
      refine g_getR h (i := 14) rfl fl_X10_74 (fun _ _ _ => rfl) (lk_R hL) (lr_was hL) ?_
      refine g_iload_n h (i := 15) rfl rfl ?_
      refine g_aload_n h (i := 16) rfl rfl ?_
      refine g_getR h (i := 17) rfl fl_X10_7 (fun _ _ _ => rfl) (lk_R hL) (lr_row hL) ?_
      refine g_iconst h (i := 18) rfl (v := 0) (by rfl) ?_
      refine g_iload_n h (i := 19) rfl rfl ?_
      refine g_iadd h (i := 20) rfl ?_
      refine g_eqi (nI i) (Int32.zero_add _) ?_
      refine g_lald h (i := 21) rfl (lq_row hL) (hvr) ?_
      refine g_eql _ (sRow_jx _ _ _ (n := i) (hcl)) ?_
      refine g_eql (r i) ei ?_
      refine g_last h (i := 22) rfl (lq_was hL) (hvp) ?_
      refine g_w (sRow (wasW w a r (i + 1)) a (setn r1 0 (nxR r) i)) (was_1 hcl rfl) ?_
      refine g_aload_n h (i := 23) rfl rfl ?_
      refine g_getR h (i := 24) rfl fl_X10_7 (fun _ _ _ => rfl) (lk_R hL) (lr_row hL) ?_
      refine g_iconst h (i := 25) rfl (v := 0) (by rfl) ?_
      refine g_iload_n h (i := 26) rfl rfl ?_
      refine g_iadd h (i := 27) rfl ?_
      refine g_eqi (nI i) (Int32.zero_add _) ?_
      refine g_aload_n h (i := 28) rfl rfl ?_
      refine g_getR h (i := 29) rfl fl_X10_7 (fun _ _ _ => rfl) (lk_R hL) (lr_row hL) ?_
      refine g_bipush h (i := 30) rfl (v := 51) (by rfl) ?_
      refine g_iload_n h (i := 31) rfl rfl ?_
      refine g_iadd h (i := 32) rfl ?_
      refine g_eqi (nI (51 + i)) (nI_add 51 i) ?_
      refine g_lald h (i := 33) rfl (lq_row hL) (vp_in_nI (by omega) (by omega)) ?_
      refine g_eql _ (sRow_jx _ _ _ (n := 51 + i) (nI_clamp (by omega))) ?_
      refine g_eql (r (51 + i)) (e51) ?_
      refine g_aload_n h (i := 34) rfl rfl ?_
      refine g_getR h (i := 35) rfl fl_X10_7 (fun _ _ _ => rfl) (lk_R hL) (lr_row hL) ?_
      refine g_bipush h (i := 36) rfl (v := 55) (by rfl) ?_
      refine g_iload_n h (i := 37) rfl rfl ?_
      refine g_iadd h (i := 38) rfl ?_
      refine g_eqi (nI (55 + i)) (nI_add 55 i) ?_
      refine g_lald h (i := 39) rfl (lq_row hL) (vp_in_nI (by omega) (by omega)) ?_
      refine g_eql _ (sRow_jx _ _ _ (n := 55 + i) (nI_clamp (by omega))) ?_
      refine g_eql (r (55 + i)) (e55) ?_
      refine g_aload_n h (i := 40) rfl rfl ?_
      refine g_getR h (i := 41) rfl fl_X10_7 (fun _ _ _ => rfl) (lk_R hL) (lr_row hL) ?_
      refine g_bipush h (i := 42) rfl (v := 60) (by rfl) ?_
      refine g_lald h (i := 43) rfl (lq_row hL) (vpD (by decide)) ?_
      refine g_eql _ (sRow_jx _ _ _ (n := 60) (by rfl)) ?_
      refine g_eql (lN (pN (r 60))) ((hn63 i 60 (by omega) (by omega)).trans h60) ?_
      refine g_aload_n h (i := 44) rfl rfl ?_
      refine g_getR h (i := 45) rfl fl_X10_7 (fun _ _ _ => rfl) (lk_R hL) (lr_row hL) ?_
      refine g_bipush h (i := 46) rfl (v := 61) (by rfl) ?_
      refine g_lald h (i := 47) rfl (lq_row hL) (vpD (by decide)) ?_
      refine g_eql _ (sRow_jx _ _ _ (n := 61) (by rfl)) ?_
      refine g_eql (lN (pN (r 61))) ((hn63 i 61 (by omega) (by omega)).trans h61) ?_
      refine g_aload_n h (i := 48) rfl rfl ?_
      refine g_getR h (i := 49) rfl fl_X10_7 (fun _ _ _ => rfl) (lk_R hL) (lr_row hL) ?_
      refine g_bipush h (i := 50) rfl (v := 59) (by rfl) ?_
      refine g_lald h (i := 51) rfl (lq_row hL) (vpD (by decide)) ?_
      refine g_eql _ (sRow_jx _ _ _ (n := 59) (by rfl)) ?_
      refine g_eql (lN (pN (r 59))) ((hn63 i 59 (by omega) (by omega)).trans h59.1) ?_
      refine g_aload_n h (i := 52) rfl rfl ?_
      refine g_getR h (i := 53) rfl fl_X10_7 (fun _ _ _ => rfl) (lk_R hL) (lr_row hL) ?_
      refine g_bipush h (i := 54) rfl (v := 62) (by rfl) ?_
      refine g_lald h (i := 55) rfl (lq_row hL) (vpD (by decide)) ?_
      refine g_eql _ (sRow_jx _ _ _ (n := 62) (by rfl)) ?_
      refine g_eql (lN (pN (r 62))) ((hn63 i 62 (by omega) (by omega)).trans h62.1) ?_
      refine g_aload_n h (i := 56) rfl rfl ?_
      refine g_getR h (i := 57) rfl fl_X10_7 (fun _ _ _ => rfl) (lk_R hL) (lr_row hL) ?_
      refine g_bipush h (i := 58) rfl (v := 63) (by rfl) ?_
      refine g_lald h (i := 59) rfl (lq_row hL) (vpD (by decide)) ?_
      refine g_eql _ (sRow_jx _ _ _ (n := 63) (by rfl)) ?_
      refine g_eql (lN (pN (r 63) + 1)) ((h163 i (by omega)).trans hk1) ?_
      refine g_callSx h hq (i := 60) rfl ms_X10_200 (hsb) rfl rfl ⟨rfl, rfl, Nat.le_of_ble_eq_true rfl, Nat.le_of_ble_eq_true rfl⟩ (Nat.le_of_ble_eq_true rfl) ⟨Nat.zero_le _, Nat.zero_le _⟩ ?_
      refine g_eql (nxR r i) (hnx i).symm ?_
      refine g_last h (i := 61) rfl (lq_row hL) (hvr) ?_
      refine g_w _ (sRow_ux _ _ _ _ (n := i) (hcl)) ?_
      refine g_w (sRow (wasW w a r (i + 1)) a (setn r1 0 (nxR r) (i + 1))) (by rw [hs1]) ?_
      refine g_iinc h (i := 62) rfl rfl (dv := 1) (by rfl) ?_
      refine g_goto h (i := 63) 13 rfl rfl ?_
      exact g_lv [(0, .ref a), (1, .int (nI (i + 1)))] ⟨rfl, congrArg (fun z => some (Value.int z)) (nI_1 i), trivial⟩ (ih (i + 1) (by omega))
  refine g_aload_n h (i := 0) rfl rfl ?_
  refine g_getR h (i := 1) rfl fl_X10_7 (fun _ _ _ => rfl) (lk_R hL) (lr_row hL) ?_
  refine g_bipush h (i := 2) rfl (v := 63) (by rfl) ?_
  refine g_dup2 h (i := 3) rfl rfl rfl ?_
  refine g_lald h (i := 4) rfl (lq_row hL) (vpD (by decide)) ?_
  refine g_eql _ (sRow_jx _ _ _ (n := 63) (by rfl)) ?_
  refine g_lconst h (i := 5) rfl (v := 1) (by rfl) ?_
  refine g_ladd h (i := 6) rfl ?_
  refine g_last h (i := 7) rfl (lq_row hL) (vpD (by decide)) ?_
  refine g_w _ (sRow_ux _ _ _ _ (n := 63) (by rfl)) ?_
  refine g_iconst h (i := 8) rfl (v := 0) (by rfl) ?_
  refine g_istore_n h (i := 9) rfl hq rfl ?_
  exact g_lv [(0, .ref a), (1, .int (nI 0))] ⟨rfl, rfl, trivial⟩ (by have := key 4 0 (by omega); rw [was_0, setn_0, hr1] at this; exact this)
end
section
theorem isN_mk {n m : Nat} (h : n ≤ m) (h2 : n < 9223372036854775808) : isN (lN n) m := ⟨by rw [pN_l h2], by rw [pN_l h2]; exact h⟩
theorem isN_up {x : Int64} {m m' : Nat} (h : isN x m) (h2 : m ≤ m') : isN x m' := ⟨h.1, Nat.le_trans h.2 h2⟩
theorem pN_lim (x : Int64) : pN x < 9223372036854775808 := by
  have := i64b x
  unfold pN
  omega
theorem isN_1 {x : Int64} {m : Nat} (h : isN x m) (h2 : m < 4000000000) : isN (x + 1) (m + 1) ∧ pN (x + 1) = pN x + 1 := by
  have e : x + 1 = lN (pN x + 1) := by rw [h.1, lN_1, ← h.1]
  have p : pN (x + 1) = pN x + 1 := by rw [e, pN_l (by have := h.2; omega)]
  exact ⟨⟨by rw [p]; exact e, by have := h.2; omega⟩, p⟩
theorem isN_m {x : Int64} {m : Nat} (h : isN x m) (h0 : 0 < pN x) : isN (x - 1) m ∧ pN (x - 1) = pN x - 1 := by
  have e : x - 1 = lN (pN x - 1) := by
    have : x - 1 = lN (pN x) - lN 1 := by rw [← h.1]; rfl
    rw [this, lN_sub h0]
  have p : pN (x - 1) = pN x - 1 := by rw [e, pN_l (by have := pN_lim x; omega)]
  exact ⟨⟨by rw [p]; exact e, by have := h.2; omega⟩, p⟩
theorem isN_0 {x : Int64} {m : Nat} (h : isN x m) : x = 0 ↔ pN x = 0 := by
  constructor
  · intro q; rw [q]; rfl
  · intro q; rw [h.1, q]; rfl
theorem isN_i {x : Int64} {m : Nat} (h : isN x m) (h2 : m < 2147483648) : x.toInt32 = nI (pN x) ∧ x.toInt32.toInt64 = x ∧ x.toInt = (pN x : Int) := by
  have := h.2
  have e := h.1
  have e1 : x.toInt32 = nI (pN x) := by rw [e, lN_32 (by omega), pN_l (pN_lim x)]
  exact ⟨e1, by rw [e1, nI_l (by omega)]; exact e.symm, by rw [e, lNT (by omega), pN_l (pN_lim x)]⟩
/-- what a place of a row may hold -/
def FR (k : Nat) (x : Int64) : Prop :=
  if k < 4 then x.toInt.natAbs ≤ 1000000
  else if k < 20 then isN x 1
  else if k < 28 then x = x.toInt32.toInt64
  else if k = 28 then isN x 3
  else if k = 29 then True
  else if k = 30 then isN x 61
  else if k = 31 then isN x 9
  else if k = 32 then isN x 12
  else if k < 45 then isN x 60
  else if k = 45 then True
  else if k = 46 then isN x 2
  else if k = 47 then isN x 2000000
  else if k = 48 then x = -1 ∨ isN x 59
  else if k < 51 then x = -1 ∨ isN x 7
  else if k < 59 then x.toInt.natAbs ≤ 1000000
  else if k = 59 then isN x 2000000
  else if k < 62 then isN x 100000
  else if k < 64 then isN x 2000000
  else True
theorem fr_st {k : Nat} {x : Int64} (h : k < 4) : FR k x ↔ x.toInt.natAbs ≤ 1000000 := by unfold FR; rw [if_pos h]
theorem fr_io {k : Nat} {x : Int64} (h : 4 ≤ k) (h2 : k < 20) : FR k x ↔ isN x 1 := by unfold FR; rw [if_neg (by omega), if_pos h2]
theorem fr_rg {k : Nat} {x : Int64} (h : 20 ≤ k) (h2 : k < 28) : FR k x ↔ x = x.toInt32.toInt64 := by unfold FR; rw [if_neg (by omega), if_neg (by omega), if_pos h2]
theorem fr_pb {k : Nat} {x : Int64} (h : 33 ≤ k) (h2 : k < 45) : FR k x ↔ isN x 60 := by unfold FR; rw [if_neg (by omega), if_neg (by omega), if_neg (by omega), if_neg (by omega), if_neg (by omega), if_neg (by omega), if_neg (by omega), if_neg (by omega), if_pos h2]
theorem fr_ft {k : Nat} {x : Int64} (h : 51 ≤ k) (h2 : k < 59) : FR k x ↔ x.toInt.natAbs ≤ 1000000 := by unfold FR; rw [if_neg (by omega), if_neg (by omega), if_neg (by omega), if_neg (by omega), if_neg (by omega), if_neg (by omega), if_neg (by omega), if_neg (by omega), if_neg (by omega), if_neg (by omega), if_neg (by omega), if_neg (by omega), if_neg (by omega), if_neg (by omega), if_pos h2]
theorem fr_tr {k : Nat} {x : Int64} (h : 64 ≤ k) : FR k x := by unfold FR; rw [if_neg (by omega), if_neg (by omega), if_neg (by omega), if_neg (by omega), if_neg (by omega), if_neg (by omega), if_neg (by omega), if_neg (by omega), if_neg (by omega), if_neg (by omega), if_neg (by omega), if_neg (by omega), if_neg (by omega), if_neg (by omega), if_neg (by omega), if_neg (by omega), if_neg (by omega), if_neg (by omega)]; trivial
def FA (r : Nat → Int64) : Prop := ∀ k, FR k (r k)
theorem fa_u {r : Nat → Int64} {k : Nat} {v : Int64} (h : FA r) (hv : FR k v) : FA (up1 r k v) := fun y => by
  by_cases e : y = k
  · rw [e, up1_s]; exact hv
  · rw [up1_k e]; exact h y
theorem fa_n {r : Nat → Int64} {o n : Nat} {f : Nat → Int64} (h : FA r) (hf : ∀ j, j < n → FR (o + j) (f j)) : FA (setn r o f n) := fun y => by
  by_cases e : o ≤ y ∧ y < o + n
  · have := hf (y - o) (by omega)
    rw [show o + (y - o) = y by omega] at this
    rw [setn_i (j := y - o) (by omega) (by omega)]; exact this
  · rw [setn_o e]; exact h y
/-- what holds between places -/
def XR (r : Nat → Int64) : Prop := (r 46 = 0 → r 47 = 0) ∧ (r 46 ≠ 0 → 0 < pN (r 47) ∧ pN (r 30) ≤ 59 ∧ r 28 = 1) ∧ (r 46 = 1 → mB (pN (r 60)) (pN (r 61)) ∧ 0 < pN (r 62) ∧ pN (r 63) + pN (r 47) = pN (r 59))
def RR (r : Nat → Int64) : Prop := FA r ∧ XR r
theorem rr_mo {r : Nat → Int64} (h : RR r) (hb : r 46 = 1) : MoR r := by
  obtain ⟨f, x1, x2, x3⟩ := h
  obtain ⟨m1, m2, m3⟩ := x3 hb
  obtain ⟨n1, n2, n3⟩ := x2 (by rw [hb]; decide)
  have f60 : isN (r 60) 100000 := f 60
  have f61 : isN (r 61) 100000 := f 61
  have f63 : isN (r 63) 2000000 := f 63
  have f47 : isN (r 47) 2000000 := f 47
  exact ⟨f 59, f 62, m2, f60.1, f61.1, m1, f63.1, f47.1, m3, n1, fun j hj => ⟨(fr_ft (by omega) (by omega)).mp (f (51 + j)), (fr_ft (by omega) (by omega)).mp (f (55 + j))⟩⟩
/-- idle rows -/
theorem xr_0 {r : Nat → Int64} (h : r 46 = 0) (h2 : r 47 = 0) : XR r := ⟨fun _ => h2, fun q => absurd h q, fun q => absurd (h.symm.trans q) (by decide)⟩
theorem ite_p {c A B : Prop} [Decidable c] (h1 : c → A) (h2 : ¬ c → B) : if c then A else B := by
  by_cases h : c
  · rw [if_pos h]; exact h1 h
  · rw [if_neg h]; exact h2 h
theorem z_F {k : Nat} : FR k 0 := by
  have e : isN 0 0 := isN_mk (n := 0) (m := 0) (by omega) (by omega)
  unfold FR
  have := fun m => isN_up e (Nat.zero_le m)
  repeat' first | exact this _ | exact True.intro | exact Or.inr (this _) | exact (by decide : (0 : Int64).toInt.natAbs ≤ 1000000) | exact (rfl : (0 : Int64) = (0 : Int64).toInt32.toInt64) | refine ite_p (fun _ => ?_) (fun _ => ?_)
theorem rr_over {r : Nat → Int64} (h : RR r) (ha : pN (r 30) ≤ 60) : RR (overR r) := by
  have f30 : isN (r 30) 61 := h.1 30
  refine ⟨fa_u (fa_u (fa_u h.1 z_F) z_F) ?_, xr_0 rfl rfl⟩
  exact isN_up (isN_1 (m := 60) ⟨f30.1, ha⟩ (by omega)).1 (by omega)
theorem rr_errs {r : Nat → Int64} {ln : Int32} {e : Nat} (h : RR r) (he : e ≤ 9) : RR (errsR ln (nI e) r) := by
  have hE : isN (nI e).toInt64 9 := by rw [nI_l (by omega)]; exact isN_mk he (by omega)
  have h3 : isN 3 9 := isN_mk (n := 3) (by omega) (by omega)
  have h33 : isN 3 3 := isN_mk (n := 3) (by omega) (by omega)
  have f48 : r 48 = -1 ∨ isN (r 48) 59 := h.1 48
  unfold errsR
  split
  · exact ⟨fa_u (fa_u (fa_u (fa_u h.1 z_F) z_F) hE) h33, xr_0 rfl rfl⟩
  · next g =>
    split
    · exact ⟨fa_u (fa_u (fa_u (fa_u (fa_u h.1 z_F) z_F) hE) h3) h33, xr_0 rfl rfl⟩
    · have g2 : isN (r 48) 59 := f48.resolve_left (fun q => g (by rw [q]; rfl))
      have g3 : isN (r 48).toInt32.toInt64 61 := by rw [(isN_i g2 (by omega)).2.1]; exact isN_up g2 (by omega)
      exact ⟨fa_u (fa_u (fa_u (fa_u (fa_u (fa_u h.1 z_F) z_F) hE) g3) z_F) (Or.inl rfl), xr_0 rfl rfl⟩
theorem rr_goesOn {cf : Nat → Nat → Int32} {r : Nat → Int64} (h : RR r) (hb : r 46 = 1) : RR (goesOnR cf r) := by
  have hm := rr_mo h hb
  obtain ⟨h59, h62, hw0, h60, h61, hmb, h63, h47, hsum, hl0, hft⟩ := id hm
  have f63 : isN (r 63) 2000000 := h.1 63
  have f47 : isN (r 47) 2000000 := h.1 47
  have e63 := isN_1 f63 (by omega)
  have e47 := isN_m f47 hl0
  have g63 : isN (r 63 + 1) 2000000 := ⟨e63.1.1, by rw [e63.2]; have := h59.2; omega⟩
  obtain ⟨n1, n2, n3⟩ := h.2.2.1 (by rw [hb]; decide)
  have fa1 : FA (up1 r 63 (r 63 + 1)) := fa_u h.1 g63
  have fa3 : FA (up1 (setn (setn (up1 r 63 (r 63 + 1)) 0 (nxR r) 4) 64 (fun j => r (64 + j) + absL (nxR r j - r j)) 4) 47 (r 47 - 1)) := by
    refine fa_u (fa_n (fa_n fa1 (fun j hj => ?_)) (fun j hj => fr_tr (by omega))) e47.1
    rw [Nat.zero_add, fr_st hj, (nx_i hm hj).1]; exact sb_ok hm hj
  unfold goesOnR
  split
  · -- errs wants the busy facts only of its own writing
    have key : ∀ {q : Nat → Int64} {ln : Int32}, FA q → RR (errsR ln 2 q) := by
      intro q ln hq
      have h2 : isN (2 : Int32).toInt64 9 := isN_mk (n := 2) (m := 9) (by omega) (by omega)
      have h3 : isN 3 9 := isN_mk (n := 3) (by omega) (by omega)
      have h33 : isN 3 3 := isN_mk (n := 3) (by omega) (by omega)
      have f48 : q 48 = -1 ∨ isN (q 48) 59 := hq 48
      unfold errsR
      split
      · exact ⟨fa_u (fa_u (fa_u (fa_u hq z_F) z_F) h2) h33, xr_0 rfl rfl⟩
      · next g =>
        split
        · exact ⟨fa_u (fa_u (fa_u (fa_u (fa_u hq z_F) z_F) h2) h3) h33, xr_0 rfl rfl⟩
        · have g2 : isN (q 48) 59 := f48.resolve_left (fun z => g (by rw [z]; rfl))
          have g3 : isN (q 48).toInt32.toInt64 61 := by rw [(isN_i g2 (by omega)).2.1]; exact isN_up g2 (by omega)
          exact ⟨fa_u (fa_u (fa_u (fa_u (fa_u (fa_u hq z_F) z_F) h2) g3) z_F) (Or.inl rfl), xr_0 rfl rfl⟩
    exact key fa1
  · obtain ⟨R, hR⟩ : ∃ R, R = up1 (setn (setn (up1 r 63 (r 63 + 1)) 0 (nxR r) 4) 64 (fun j => r (64 + j) + absL (nxR r j - r j)) 4) 47 (r 47 - 1) := ⟨_, rfl⟩
    rw [← hR] at fa3 ⊢
    have rd : ∀ y, 4 ≤ y → y < 63 → y ≠ 47 → R y = r y := fun y y1 y2 y3 => by rw [hR, up1_k y3, setn_o (by omega), setn_o (by omega), up1_k (by omega)]
    have r47 : R 47 = r 47 - 1 := by rw [hR, up1_s]
    have r63 : R 63 = r 63 + 1 := by rw [hR, up1_k (by omega), setn_o (by omega), setn_o (by omega), up1_s]
    split
    · have f30 : isN (R 30) 61 := fa3 30
      refine ⟨fa_u (fa_u (fa_u fa3 z_F) z_F) ?_, xr_0 rfl rfl⟩
      exact isN_up (isN_1 (m := 60) ⟨f30.1, by rw [rd 30 (by omega) (by omega) (by omega)]; omega⟩ (by omega)).1 (by omega)
    · next g =>
      refine ⟨fa3, fun q => ?_, fun _ => ?_, fun _ => ?_⟩
      · rw [rd 46 (by omega) (by omega) (by omega), hb] at q; exact absurd q (by decide)
      · rw [r47, rd 30 (by omega) (by omega) (by omega), rd 28 (by omega) (by omega) (by omega)]
        exact ⟨Nat.pos_of_ne_zero (fun z => g ((isN_0 e47.1).mpr z)), n2, n3⟩
      · rw [r47, r63, rd 60 (by omega) (by omega) (by omega), rd 61 (by omega) (by omega) (by omega), rd 62 (by omega) (by omega) (by omega), rd 59 (by omega) (by omega) (by omega), e47.2, e63.2]
        exact ⟨hmb, hw0, by omega⟩
end
section
/-- the go ends by its input -/
abbrev gtB (r : Nat → Int64) : Prop := r 46 = 1 ∧ onP r (r 50).toInt32
def goesTickR (cf : Nat → Nat → Int32) (r : Nat → Int64) : Nat → Int64 := if gtB r then overR r else if r 46 = 1 then goesOnR cf r else if r 47 - 1 = 0 then overR (up1 r 47 (r 47 - 1)) else up1 r 47 (r 47 - 1)
theorem on_hi {r : Nat → Int64} {k : Nat} (h : r k = -1 ∨ isN (r k) 7) : (r k).toInt32 ≠ -1 → ∃ n, n < 8 ∧ (r k).toInt32 = nI n := fun q => by
  have g : isN (r k) 7 := h.resolve_left (fun z => q (by rw [z]; rfl))
  exact ⟨pN (r k), by have := g.2; omega, (isN_i g (by omega)).1⟩
theorem RS_L {w w3 : Wd} {a : Nat} (h : RS a w w3) : (∀ b, LayR w b → LayR w3 b) ∧ wN w3 = wN w ∧ wI w3 = wI w ∧ wK w3 = wK w ∧ wR w3 = wR w := by
  obtain ⟨J, D, rfl, -, -⟩ := h
  exact ⟨fun _ q => q, rfl, rfl, rfl, rfl⟩
theorem RS_cf {w w3 : Wd} {a : Nat} (h : RS a w w3) : cfW w3 a = cfW w a := by
  unfold cfW; rw [(RS_L h).2.2.1]
-- a tick of what is under way
set_option maxRecDepth 100000 in
set_option maxHeartbeats 4000000 in
theorem ct_X10_goesTick (l : Launch) (E : EE) (w : Wd) (a : Nat) (r : Nat → Int64) (hlo : E.2.2 ≤ wN (sRow w a r)) (hL : LayR w a) (hr : RR r) (hc : CfA (cfW w a)) : Ct l E yX10_goesTick cX10_goesTick 1 (some .boolean) ({ frames := 4, cells := 0, slots := 0, locals := 114 } : Room) [.ref a] (sRow w a r) 0 0 (fun q w2 => q = some (.int (bI (¬ gtB r))) ∧ ∃ w3, RS a w w3 ∧ w2 = sRow w3 a (goesTickR (cfW w a) r)) := by
  refine ct_in (il := il_X10_goesTick) (by decide) dk_X10_goesTick (Nat.le_of_ble_eq_true rfl) hlo ?_
  intro X h hq

  refine g_aload_n h (i := 0) rfl rfl ?_
  refine g_getR h (i := 1) rfl fl_X10_7 (fun _ _ _ => rfl) (lk_R hL) (lr_row hL) ?_
  refine g_bipush h (i := 2) rfl (v := 46) (by rfl) ?_
  refine g_lald h (i := 3) rfl (lq_row hL) (vpD (by decide)) ?_
  refine g_eql _ (sRow_jx _ _ _ (n := 46) (by rfl)) ?_
  refine g_lconst h (i := 4) rfl (v := 1) (by rfl) ?_
  refine g_lcmp h (i := 5) rfl ?_
  refine g_if_ne h (i := 6) 31 rfl rfl (fun c_9 => ?_) (fun c_9 => ?_)
  · skip
    refine g_aload_n h (i := 17) rfl rfl ?_
    refine g_getR h (i := 18) rfl fl_X10_7 (fun _ _ _ => rfl) (lk_R hL) (lr_row hL) ?_
    refine g_bipush h (i := 19) rfl (v := 46) (by rfl) ?_
    refine g_lald h (i := 20) rfl (lq_row hL) (vpD (by decide)) ?_
    refine g_eql _ (sRow_jx _ _ _ (n := 46) (by rfl)) ?_
    refine g_lconst h (i := 21) rfl (v := 1) (by rfl) ?_
    refine g_lcmp h (i := 22) rfl ?_
    refine g_if_ne h (i := 23) 50 rfl rfl (fun c_40 => ?_) (fun c_40 => ?_)
    · skip
      refine g_aload_n h (i := 27) rfl rfl ?_
      refine g_getR h (i := 28) rfl fl_X10_7 (fun _ _ _ => rfl) (lk_R hL) (lr_row hL) ?_
      refine g_bipush h (i := 29) rfl (v := 47) (by rfl) ?_
      refine g_dup2 h (i := 30) rfl rfl rfl ?_
      refine g_lald h (i := 31) rfl (lq_row hL) (vpD (by decide)) ?_
      refine g_eql _ (sRow_jx _ _ _ (n := 47) (by rfl)) ?_
      refine g_lconst h (i := 32) rfl (v := 1) (by rfl) ?_
      refine g_lsub h (i := 33) rfl ?_
      refine g_last h (i := 34) rfl (lq_row hL) (vpD (by decide)) ?_
      refine g_w _ (sRow_ux _ _ _ _ (n := 47) (by rfl)) ?_
      refine g_aload_n h (i := 35) rfl rfl ?_
      refine g_getR h (i := 36) rfl fl_X10_7 (fun _ _ _ => rfl) (lk_R hL) (lr_row hL) ?_
      refine g_bipush h (i := 37) rfl (v := 47) (by rfl) ?_
      refine g_lald h (i := 38) rfl (lq_row hL) (vpD (by decide)) ?_
      refine g_eql _ (sRow_jx _ _ _ (n := 47) (by rfl)) ?_
      refine g_eql (r 47 - 1) (up1_s _ _ _) ?_
      refine g_lconst h (i := 39) rfl (v := 0) (by rfl) ?_
      refine g_lcmp h (i := 40) rfl ?_
      refine g_if_ne h (i := 41) 77 rfl rfl (fun c_70 => ?_) (fun c_70 => ?_)
      · skip
        refine g_iconst h (i := 44) rfl (v := 1) (by rfl) ?_
        exact g_zret hq h (i := 45) rfl (rfl) (⟨rT (fun q => c_9 ((lg_cmp_eq _ _).mpr q.1)), w, RS_r a w, by unfold goesTickR; rw [if_neg (fun q => c_9 ((lg_cmp_eq _ _).mpr q.1)), if_neg (fun q => c_40 ((lg_cmp_eq _ _).mpr q)), if_neg (fun q => c_70 ((lg_cmp_eq _ _).mpr q))]⟩)
      · skip
        refine g_aload_n h (i := 42) rfl rfl ?_
        refine g_callVn h hq (i := 43) rfl mv_X10_223 cls10 (lk_R hL) (ct_X10_over l E w a _ hlo hL) rfl rfl ⟨rfl, rfl, Nat.le_of_ble_eq_true rfl, Nat.le_of_ble_eq_true rfl⟩ (Nat.le_of_ble_eq_true rfl) ⟨Nat.zero_le _, Nat.zero_le _⟩ ?_
        refine g_iconst h (i := 44) rfl (v := 1) (by rfl) ?_
        exact g_zret hq h (i := 45) rfl (rfl) (⟨rT (fun q => c_9 ((lg_cmp_eq _ _).mpr q.1)), w, RS_r a w, by unfold goesTickR; rw [if_neg (fun q => c_9 ((lg_cmp_eq _ _).mpr q.1)), if_neg (fun q => c_40 ((lg_cmp_eq _ _).mpr q)), if_pos ((lg_cmp_eq _ _).mp c_70)]⟩)
    · skip
      refine g_aload_n h (i := 24) rfl rfl ?_
      refine g_callVp (w0 := w) h hq (i := 25) rfl mv_X10_229 cls10 (lk_R hL) (ct_X10_goesOn l E w a r hlo hL (rr_mo hr ((lg_cmp_eq _ _).mp c_40)) hc) rfl rfl ⟨rfl, rfl, Nat.le_of_ble_eq_true rfl, Nat.le_of_ble_eq_true rfl⟩ (Nat.le_of_ble_eq_true rfl) ⟨Nat.zero_le _, Nat.zero_le _⟩ (fun r44 w44 hp44 => ?_)
      obtain ⟨rfl, w3, hRS, rfl⟩ := hp44
      refine g_goto h (i := 26) 77 rfl rfl ?_
      refine g_iconst h (i := 44) rfl (v := 1) (by rfl) ?_
      exact g_zret hq h (i := 45) rfl (rfl) (⟨rT (fun q => c_9 ((lg_cmp_eq _ _).mpr q.1)), w3, hRS, by unfold goesTickR; rw [if_neg (fun q => c_9 ((lg_cmp_eq _ _).mpr q.1)), if_pos ((lg_cmp_eq _ _).mp c_40)]⟩)
  · skip
    refine g_aload_n h (i := 7) rfl rfl ?_
    refine g_aload_n h (i := 8) rfl rfl ?_
    refine g_bipush h (i := 9) rfl (v := 50) (by rfl) ?_
    refine g_callVx h hq (i := 10) rfl mv_X10_97 cls10 (lk_R hL) (ct_X10_rowAt l E w a 50 _ _ hlo hL (vpD (by decide)) (by rfl)) rfl rfl ⟨rfl, rfl, Nat.le_of_ble_eq_true rfl, Nat.le_of_ble_eq_true rfl⟩ (Nat.le_of_ble_eq_true rfl) ⟨Nat.zero_le _, Nat.zero_le _⟩ ?_
    refine g_callVx h hq (i := 11) rfl mv_X10_226 cls10 (lk_R hL) (ct_X10_isOn l E w a r _ hlo hL (on_hi (hr.1 50))) rfl rfl ⟨rfl, rfl, Nat.le_of_ble_eq_true rfl, Nat.le_of_ble_eq_true rfl⟩ (Nat.le_of_ble_eq_true rfl) ⟨Nat.zero_le _, Nat.zero_le _⟩ ?_
    refine g_if_eq h (i := 12) 31 rfl rfl (fun c_22 => ?_) (fun c_22 => ?_)
    · skip
      refine g_aload_n h (i := 17) rfl rfl ?_
      refine g_getR h (i := 18) rfl fl_X10_7 (fun _ _ _ => rfl) (lk_R hL) (lr_row hL) ?_
      refine g_bipush h (i := 19) rfl (v := 46) (by rfl) ?_
      refine g_lald h (i := 20) rfl (lq_row hL) (vpD (by decide)) ?_
      refine g_eql _ (sRow_jx _ _ _ (n := 46) (by rfl)) ?_
      refine g_lconst h (i := 21) rfl (v := 1) (by rfl) ?_
      refine g_lcmp h (i := 22) rfl ?_
      refine g_if_ne h (i := 23) 50 rfl rfl (fun c_40 => ?_) (fun c_40 => ?_)
      · skip
        refine g_aload_n h (i := 27) rfl rfl ?_
        refine g_getR h (i := 28) rfl fl_X10_7 (fun _ _ _ => rfl) (lk_R hL) (lr_row hL) ?_
        refine g_bipush h (i := 29) rfl (v := 47) (by rfl) ?_
        refine g_dup2 h (i := 30) rfl rfl rfl ?_
        refine g_lald h (i := 31) rfl (lq_row hL) (vpD (by decide)) ?_
        refine g_eql _ (sRow_jx _ _ _ (n := 47) (by rfl)) ?_
        refine g_lconst h (i := 32) rfl (v := 1) (by rfl) ?_
        refine g_lsub h (i := 33) rfl ?_
        refine g_last h (i := 34) rfl (lq_row hL) (vpD (by decide)) ?_
        refine g_w _ (sRow_ux _ _ _ _ (n := 47) (by rfl)) ?_
        refine g_aload_n h (i := 35) rfl rfl ?_
        refine g_getR h (i := 36) rfl fl_X10_7 (fun _ _ _ => rfl) (lk_R hL) (lr_row hL) ?_
        refine g_bipush h (i := 37) rfl (v := 47) (by rfl) ?_
        refine g_lald h (i := 38) rfl (lq_row hL) (vpD (by decide)) ?_
        refine g_eql _ (sRow_jx _ _ _ (n := 47) (by rfl)) ?_
        refine g_eql (r 47 - 1) (up1_s _ _ _) ?_
        refine g_lconst h (i := 39) rfl (v := 0) (by rfl) ?_
        refine g_lcmp h (i := 40) rfl ?_
        refine g_if_ne h (i := 41) 77 rfl rfl (fun c_70 => ?_) (fun c_70 => ?_)
        · skip
          refine g_iconst h (i := 44) rfl (v := 1) (by rfl) ?_
          exact g_zret hq h (i := 45) rfl (rfl) (⟨rT (fun q => bI_0.mp c_22 q.2), w, RS_r a w, by unfold goesTickR; rw [if_neg (fun q => bI_0.mp c_22 q.2), if_neg (fun q => c_40 ((lg_cmp_eq _ _).mpr q)), if_neg (fun q => c_70 ((lg_cmp_eq _ _).mpr q))]⟩)
        · skip
          refine g_aload_n h (i := 42) rfl rfl ?_
          refine g_callVn h hq (i := 43) rfl mv_X10_223 cls10 (lk_R hL) (ct_X10_over l E w a _ hlo hL) rfl rfl ⟨rfl, rfl, Nat.le_of_ble_eq_true rfl, Nat.le_of_ble_eq_true rfl⟩ (Nat.le_of_ble_eq_true rfl) ⟨Nat.zero_le _, Nat.zero_le _⟩ ?_
          refine g_iconst h (i := 44) rfl (v := 1) (by rfl) ?_
          exact g_zret hq h (i := 45) rfl (rfl) (⟨rT (fun q => bI_0.mp c_22 q.2), w, RS_r a w, by unfold goesTickR; rw [if_neg (fun q => bI_0.mp c_22 q.2), if_neg (fun q => c_40 ((lg_cmp_eq _ _).mpr q)), if_pos ((lg_cmp_eq _ _).mp c_70)]⟩)
      · skip
        refine g_aload_n h (i := 24) rfl rfl ?_
        refine g_callVp (w0 := w) h hq (i := 25) rfl mv_X10_229 cls10 (lk_R hL) (ct_X10_goesOn l E w a r hlo hL (rr_mo hr ((lg_cmp_eq _ _).mp c_40)) hc) rfl rfl ⟨rfl, rfl, Nat.le_of_ble_eq_true rfl, Nat.le_of_ble_eq_true rfl⟩ (Nat.le_of_ble_eq_true rfl) ⟨Nat.zero_le _, Nat.zero_le _⟩ (fun r44 w44 hp44 => ?_)
        obtain ⟨rfl, w3, hRS, rfl⟩ := hp44
        refine g_goto h (i := 26) 77 rfl rfl ?_
        refine g_iconst h (i := 44) rfl (v := 1) (by rfl) ?_
        exact g_zret hq h (i := 45) rfl (rfl) (⟨rT (fun q => bI_0.mp c_22 q.2), w3, hRS, by unfold goesTickR; rw [if_neg (fun q => bI_0.mp c_22 q.2), if_pos ((lg_cmp_eq _ _).mp c_40)]⟩)
    · skip
      refine g_aload_n h (i := 13) rfl rfl ?_
      refine g_callVn h hq (i := 14) rfl mv_X10_223 cls10 (lk_R hL) (ct_X10_over l E w a r hlo hL) rfl rfl ⟨rfl, rfl, Nat.le_of_ble_eq_true rfl, Nat.le_of_ble_eq_true rfl⟩ (Nat.le_of_ble_eq_true rfl) ⟨Nat.zero_le _, Nat.zero_le _⟩ ?_
      refine g_iconst h (i := 15) rfl (v := 0) (by rfl) ?_
      exact g_zret hq h (i := 16) rfl (rfl) (⟨rF (fun q => q ⟨(lg_cmp_eq _ _).mp c_9, bI_1.mp c_22⟩), w, RS_r a w, by unfold goesTickR; rw [if_pos ⟨(lg_cmp_eq _ _).mp c_9, bI_1.mp c_22⟩]⟩)
/-- a pose that is taught and within the limits -/
def inL (cf : Nat → Nat → Int32) (st : Nat → Int32) : Nat → Bool
  | 0 => true
  | j + 1 => inL cf st j && decide (cf 5 j ≤ st j ∧ st j ≤ cf 6 j)
abbrev wiP (cf : Nat → Nat → Int32) (k : Nat) : Prop := cf 11 k ≠ 0 ∧ inL cf (fun j => cf 12 (4 * k + j)) 4 = true
-- a pose within the limits
set_option maxRecDepth 100000 in
set_option maxHeartbeats 4000000 in
theorem ct_X10_isWithin (l : Launch) (E : EE) (w : Wd) (a k : Nat) (r : Nat → Int64) (hlo : E.2.2 ≤ wN (sRow w a r)) (hL : LayR w a) (hk : k < 16) (hz : cfW w a 11 k = 0 ∨ cfW w a 11 k = 1) : Ct l E yX10_isWithin cX10_isWithin 4 (some .boolean) ({ frames := 1, cells := 0, slots := 0, locals := 22 } : Room) [.ref a, .int (nI k)] (sRow w a r) 0 0 (Px (some (.int (bI (wiP (cfW w a) k)))) (sRow w a r)) := by
  refine ct_in (il := il_X10_isWithin) (by decide) dk_X10_isWithin (Nat.le_of_ble_eq_true rfl) hlo ?_
  intro X h hq

  obtain ⟨st, hst⟩ : ∃ st : Nat → Int32, st = fun j => cfW w a 12 (4 * k + j) := ⟨_, rfl⟩
  have key : ∀ (d i : Nat), i + d = 4 → G X 0 0 9 (lf [(0, .ref a), (1, .int (nI k)), (2, .int (bI (cfW w a 11 k ≠ 0 ∧ inL (cfW w a) st i = true))), (3, .int (nI i))]) [] (sRow w a r) := by
    intro d
    induction d with
    | zero =>
      intro i hi
      have hi4 : i = 4 := by omega
      subst hi4
      refine g_iload_n h (i := 7) rfl rfl ?_
      refine g_iconst h (i := 8) rfl (v := 4) (by rfl) ?_
      refine g_icmp_ge h (i := 9) 58 rfl rfl (fun c_11 => ?_) (fun c_11 => absurd (by decide : (4 : Int32) ≤ nI 4) c_11)
      refine g_iload_n h (i := 36) rfl rfl ?_
      exact g_zret hq h (i := 37) rfl (bI_n _) (⟨by rw [hst], rfl⟩)
    | succ d ih =>
      intro i hid
      have hi : i < 4 := by omega
      have hcl : (nI i).toNatClampNeg = i := nI_clamp (by omega)
      have hvp : vp_in (nI i) 4 := vp_in_nI hi (by omega)
      have hnge : ¬ (4 : Int32) ≤ nI i := nI_ge (b := 4) hi (by omega)
      have hxk : (4 : Int32) * nI k + nI i = nI (4 * k + i) := by rw [nI_mul4]; exact nI_add (4 * k) i
      have hS : (cfW w a 11 k ≠ 0 ∧ inL (cfW w a) st (i + 1) = true) ↔ ((cfW w a 11 k ≠ 0 ∧ inL (cfW w a) st i = true) ∧ (cfW w a 5 i ≤ st i ∧ st i ≤ cfW w a 6 i)) := by
        show (_ ∧ (inL (cfW w a) st i && decide (cfW w a 5 i ≤ st i ∧ st i ≤ cfW w a 6 i)) = true) ↔ _
        rw [Bool.and_eq_true, decide_eq_true_iff, and_assoc]
      have k51 : ∀ v : Int32, v = bI (cfW w a 11 k ≠ 0 ∧ inL (cfW w a) st (i + 1) = true) → G X 0 0 51 (lf [(0, .ref a), (1, .int (nI k)), (3, .int (nI i))]) [.int v] (sRow w a r) := by
        intro v hv
        refine g_istore_n h (i := 33) rfl hq rfl ?_
        refine g_iinc h (i := 34) rfl rfl (dv := 1) (by rfl) ?_
        refine g_goto h (i := 35) 9 rfl rfl ?_
        exact g_lv [(0, .ref a), (1, .int (nI k)), (2, .int (bI (cfW w a 11 k ≠ 0 ∧ inL (cfW w a) st (i + 1) = true))), (3, .int (nI (i + 1)))] ⟨rfl, rfl, congrArg (fun z => some (Value.int z)) hv, congrArg (fun z => some (Value.int z)) (nI_1 i), trivial⟩ (ih (i + 1) (by omega))
      refine g_iload_n h (i := 7) rfl rfl ?_
      refine g_iconst h (i := 8) rfl (v := 4) (by rfl) ?_
      refine g_icmp_ge h (i := 9) 58 rfl rfl (fun c_11 => absurd c_11 hnge) (fun c_11 => ?_)
      refine g_iload_n h (i := 10) rfl rfl ?_
      refine g_if_eq h (i := 11) 50 rfl rfl (fun c_15 => ?_) (fun c_15 => ?_)
      · skip
        refine g_iconst h (i := 32) rfl (v := 0) (by rfl) ?_
        exact g_lv [(0, .ref a), (1, .int (nI k)), (3, .int (nI i))] ⟨rfl, rfl, rfl, trivial⟩ (k51 _ ((bI_f (fun q => bI_0.mp c_15 (hS.mp q).1)).symm))
      · skip
        refine g_aload_n h (i := 12) rfl rfl ?_
        refine g_getR h (i := 13) rfl fl_X10_47 (fun _ _ _ => rfl) (lk_R hL) (lr_pose hL) ?_
        refine g_iconst h (i := 14) rfl (v := 4) (by rfl) ?_
        refine g_iload_n h (i := 15) rfl rfl ?_
        refine g_imul h (i := 16) rfl ?_
        refine g_iload_n h (i := 17) rfl rfl ?_
        refine g_iadd h (i := 18) rfl ?_
        refine g_eqi (nI (4 * k + i)) hxk ?_
        refine g_iald h (i := 19) rfl (lq_pose hL) (vp_in_nI (by omega) (by omega)) ?_
        refine g_eqi (wI w (a + 12) _) rfl ?_
        refine g_eqi (st i) (by rw [nI_clamp (by omega), hst]; rfl) ?_
        refine g_aload_n h (i := 20) rfl rfl ?_
        refine g_getR h (i := 21) rfl fl_X10_25 (fun _ _ _ => rfl) (lk_R hL) (lr_low hL) ?_
        refine g_iload_n h (i := 22) rfl rfl ?_
        refine g_iald h (i := 23) rfl (lq_low hL) (hvp) ?_
        refine g_eqi (wI w (a + 5) _) rfl ?_
        refine g_eqi (cfW w a 5 i) (by rw [hcl]; rfl) ?_
        refine g_aload_n h (i := 24) rfl rfl ?_
        refine g_getR h (i := 25) rfl fl_X10_29 (fun _ _ _ => rfl) (lk_R hL) (lr_high hL) ?_
        refine g_iload_n h (i := 26) rfl rfl ?_
        refine g_iald h (i := 27) rfl (lq_high hL) (hvp) ?_
        refine g_eqi (wI w (a + 6) _) rfl ?_
        refine g_eqi (cfW w a 6 i) (by rw [hcl]; rfl) ?_
        refine g_callSx h hq (i := 28) rfl ms_X10_82 (ct_X10_in l E _ (st i) (cfW w a 5 i) (cfW w a 6 i) hlo) rfl rfl ⟨rfl, rfl, Nat.le_of_ble_eq_true rfl, Nat.le_of_ble_eq_true rfl⟩ (Nat.le_of_ble_eq_true rfl) ⟨Nat.zero_le _, Nat.zero_le _⟩ ?_
        refine g_if_eq h (i := 29) 50 rfl rfl (fun c_43 => ?_) (fun c_43 => ?_)
        · skip
          refine g_iconst h (i := 32) rfl (v := 0) (by rfl) ?_
          exact g_lv [(0, .ref a), (1, .int (nI k)), (3, .int (nI i))] ⟨rfl, rfl, rfl, trivial⟩ (k51 _ ((bI_f (fun q => bI_0.mp c_43 (hS.mp q).2)).symm))
        · skip
          refine g_iconst h (i := 30) rfl (v := 1) (by rfl) ?_
          refine g_goto h (i := 31) 51 rfl rfl ?_
          exact g_lv [(0, .ref a), (1, .int (nI k)), (3, .int (nI i))] ⟨rfl, rfl, rfl, trivial⟩ (k51 _ ((bI_t (hS.mpr ⟨bI_1.mp c_15, bI_1.mp c_43⟩)).symm))
  have h0 : cfW w a 11 k = bI (cfW w a 11 k ≠ 0 ∧ inL (cfW w a) st 0 = true) := by
    rcases hz with z | z
    · rw [z, bI_f (fun q => q.1 rfl)]
    · rw [z, bI_t ⟨by decide, rfl⟩]
  refine g_aload_n h (i := 0) rfl rfl ?_
  refine g_getR h (i := 1) rfl fl_X10_44 (fun _ _ _ => rfl) (lk_R hL) (lr_isTaught hL) ?_
  refine g_iload_n h (i := 2) rfl rfl ?_
  refine g_zald h (i := 3) rfl (lq_isTaught hL) (vp_in_nI hk (by omega)) ?_
  refine g_eqi (wI w (a + 11) _) rfl ?_
  refine g_eqi (bI (cfW w a 11 k ≠ 0 ∧ inL (cfW w a) st 0 = true)) (by rw [nI_clamp (by omega)]; exact h0) ?_
  refine g_istore_n h (i := 4) rfl hq rfl ?_
  refine g_iconst h (i := 5) rfl (v := 0) (by rfl) ?_
  refine g_istore_n h (i := 6) rfl hq rfl ?_
  exact g_lv [(0, .ref a), (1, .int (nI k)), (2, .int (bI (cfW w a 11 k ≠ 0 ∧ inL (cfW w a) st 0 = true))), (3, .int (nI 0))] ⟨rfl, rfl, rfl, rfl, trivial⟩ (key 4 0 (by omega))
end
section
def isI (x : Int32) (m : Nat) : Prop := x = nI (pI x) ∧ pI x ≤ m
/-- a line that was taken -/
def LnR (o a b : Int32) : Prop := isI o 11 ∧ (o = 0 → isI a 15 ∧ isI b 100 ∧ 0 < pI b) ∧ (o = 1 → isI a 1000) ∧ (o = 2 ∨ o = 3 → isI a 7 ∧ (b = 0 ∨ b = 1)) ∧ (o = 4 ∨ o = 5 ∨ o = 11 → isI a 59) ∧ (o = 7 ∨ o = 8 ∨ o = 9 → isI a 7)
/-- what holds of a config: kinds and lengths, paces, rises, poses, taught, boxes, lines, scripts, limits -/
def CfR (cf : Nat → Nat → Int32) : Prop := CfA cf ∧ (∀ j, j < 4 → isI (cf 7 j) 100000 ∧ 0 < pI (cf 7 j)) ∧ (∀ j, j < 4 → isI (cf 8 j) 100000 ∧ 0 < pI (cf 8 j)) ∧ (∀ i, i < 64 → (cf 12 i).toInt.natAbs ≤ 1000000) ∧ (∀ k, k < 16 → cf 11 k = 0 ∨ cf 11 k = 1) ∧ (∀ k, k < 4 → cf 9 k = 0 ∨ cf 9 k = 1) ∧ isI (cf 0 12) 60 ∧ (∀ k, k < pI (cf 0 12) → LnR (cf 13 k) (cf 14 k) (cf 15 k)) ∧ isI (cf 0 16) 40 ∧ (∀ k, k < pI (cf 0 16) → isI (cf 17 k) 7 ∧ (cf 18 k = 0 ∨ cf 18 k = 1)) ∧ (∀ j, j < 4 → (cf 5 j).toInt.natAbs ≤ 1000000 ∧ (cf 6 j).toInt.natAbs ≤ 1000000)
theorem l_sm {x : Int64} (h : x.toInt.natAbs ≤ 1000000) : x = x.toInt32.toInt64 ∧ x.toInt32.toInt = x.toInt := by
  have e := l_i (x := x) (by omega) (by omega)
  exact ⟨i64x (by rw [i_l, e]), e⟩
theorem setn_u {α : Type} {r : Nat → α} {o n y : Nat} {f : Nat → α} {v : α} (h : ¬ (o ≤ y ∧ y < o + n)) : up1 (setn r o f n) y v = setn (up1 r y v) o f n := by
  funext z
  by_cases e : z = y
  · subst e; rw [up1_s, setn_o h, up1_s]
  · rw [up1_k e]
    unfold setn
    by_cases g : o ≤ z ∧ z < o + n
    · rw [if_pos g, if_pos g]
    · rw [if_neg g, if_neg g, up1_k e]
def plR (cf : Nat → Nat → Int32) (k sh : Nat) (r : Nat → Int64) : Nat × Nat × Nat × Nat := plS (fun j => pI (cf 8 j)) (pvN (fun j => pI (cf 7 j)) sh) (wdN (fun j => (r j).toInt32) (fun j => cf 12 (4 * k + j))) 1 4
def begins0 (r : Nat → Int64) : Nat → Int64 := up1 (up1 r 50 (r 49)) 49 (-1)
def begins1 (q : Nat × Nat × Nat × Nat) (go : Nat → Int32) (r : Nat → Int64) : Nat → Int64 := up1 (up1 (up1 (up1 (up1 (up1 (up1 (setn (setn (begins0 r) 51 r 4) 55 (fun j => (go j).toInt64) 4) 59 (lN q.1)) 60 (lN q.2.1)) 61 (lN q.2.2.1)) 62 (lN q.2.2.2)) 63 0) 47 (lN q.1)) 46 1
def beginsR (cf : Nat → Nat → Int32) (k sh : Nat) (r : Nat → Int64) : Nat → Int64 := if wiP cf k then (if (plR cf k sh r).1 = 0 then up1 (begins0 r) 30 (r 30 + 1) else begins1 (plR cf k sh r) (fun j => cf 12 (4 * k + j)) r) else errsR (cf 0 12) 1 (begins0 r)
theorem plR_ok {cf : Nat → Nat → Int32} {k sh : Nat} {r : Nat → Int64} (hc : CfR cf) (hr : FA r) (hk : k < 16) (hs : sh ≤ 100) : (plR cf k sh r).1 ≤ 2000000 ∧ mB (plR cf k sh r).2.1 (plR cf k sh r).2.2.1 ∧ (plR cf k sh r).2.2.2 ≤ 2000000 ∧ (0 < (plR cf k sh r).1 → 0 < (plR cf k sh r).2.2.2) := by
  refine pl_ok (by omega) (fun j hj => ⟨⟨(hc.2.2.1 j hj).2, (hc.2.2.1 j hj).1.2, pv_ok (hc.2.1 j hj).1.2 hs⟩, ?_⟩)
  have a := (fr_st hj).mp (hr j)
  have b := (l_sm a).2
  have c := hc.2.2.2.1 (4 * k + j) (by omega)
  show ((cf 12 (4 * k + j)).toInt - (r j).toInt32.toInt).natAbs ≤ 2000000
  omega
theorem RS_pl {w : Wd} {a : Nat} {r : Nat → Int64} {go : Nat → Int32} {q : Nat × Nat × Nat × Nat} {J : Nat → Nat → Int64} (h : PlI w a r go q 4 J) : RS a w (dW w (wI w) J (wD w)) := ⟨J, wD w, rfl, fun p p1 p2 p3 _ _ => h.1 p p1 p2 p3, fun _ _ => rfl⟩
-- a go begins
set_option maxRecDepth 100000 in
set_option maxHeartbeats 4000000 in
theorem ct_X10_begins (l : Launch) (E : EE) (w : Wd) (a k sh : Nat) (r : Nat → Int64) (hlo : E.2.2 ≤ wN (sRow w a r)) (hL : LayR w a) (hr : FA r) (hc : CfR (cfW w a)) (hk : k < 16) (hsh : sh ≤ 100) : Ct l E yX10_begins cX10_begins 4 none ({ frames := 4, cells := 0, slots := 0, locals := 116 } : Room) [.ref a, .int (nI k), .int (nI sh)] (sRow w a r) 0 0 (fun q w2 => q = none ∧ ∃ w3, RS a w w3 ∧ w2 = sRow w3 a (beginsR (cfW w a) k sh r)) := by
  refine ct_in (il := il_X10_begins) (by decide) dk_X10_begins (Nat.le_of_ble_eq_true rfl) hlo ?_
  intro X h hq

  obtain ⟨q, hqe⟩ : ∃ q, q = plR (cfW w a) k sh r := ⟨_, rfl⟩
  obtain ⟨go, hgo⟩ : ∃ go : Nat → Int32, go = fun j => cfW w a 12 (4 * k + j) := ⟨_, rfl⟩
  have hpo := plR_ok hc hr hk hsh
  rw [← hqe] at hpo
  have hL0 := hL
  have k44 : ∀ J, PlI w a (begins0 r) go q 4 J → wiP (cfW w a) k → G X 0 0 44 (lf [(0, .ref a)]) [] (sRow (dW w (wI w) J (wD w)) a (begins0 r)) := by
    intro J hJ hwi
    obtain ⟨m1, m2, m3, m4, m5⟩ := hJ.2
    have hRS := RS_pl hJ
    have q24 : ∀ R : Nat → Int64, wJ (sRow (dW w (wI w) J (wD w)) a R) a 24 = lN q.1 := fun R => (sRow_o (by omega)).trans m2
    have q25 : ∀ R : Nat → Int64, wJ (sRow (dW w (wI w) J (wD w)) a R) a 25 = lN q.2.1 := fun R => (sRow_o (by omega)).trans m5
    have q26 : ∀ R : Nat → Int64, wJ (sRow (dW w (wI w) J (wD w)) a R) a 26 = lN q.2.2.1 := fun R => (sRow_o (by omega)).trans m4
    have q27 : ∀ R : Nat → Int64, wJ (sRow (dW w (wI w) J (wD w)) a R) a 27 = lN q.2.2.2 := fun R => (sRow_o (by omega)).trans m3
    obtain ⟨tv, htv⟩ : ∃ tv : Nat → Int64, tv = fun j => (go j).toInt64 := ⟨_, rfl⟩
    have key : ∀ (d i : Nat), i + d = 4 → ¬ q.1 = 0 → G X 0 0 67 (lf [(0, .ref a), (3, .int (nI i))]) [] (sRow (dW w (wI w) J (wD w)) a (setn (setn (begins0 r) 51 r i) 55 tv i)) := by
      intro d
      induction d with
      | zero =>
        intro i hi hq0
        have hi4 : i = 4 := by omega
        subst hi4
        refine g_iload_n h (i := 41) rfl rfl ?_
        refine g_iconst h (i := 42) rfl (v := 4) (by rfl) ?_
        refine g_icmp_ge h (i := 43) 108 rfl rfl (fun c_69 => ?_) (fun c_69 => absurd (by decide : (4 : Int32) ≤ nI 4) c_69)
        refine g_aload_n h (i := 66) rfl rfl ?_
        refine g_getR h (i := 67) rfl fl_X10_7 (fun _ _ _ => rfl) (lk_R hL) (lr_row hL) ?_
        refine g_bipush h (i := 68) rfl (v := 59) (by rfl) ?_
        refine g_aload_n h (i := 69) rfl rfl ?_
        refine g_getJ h (i := 70) rfl fl_X10_178 (fun _ _ _ => rfl) (lk_R hL) ?_
        refine g_eql (lN q.1) (q24 _) ?_
        refine g_last h (i := 71) rfl (lq_row hL) (vpD (by decide)) ?_
        refine g_w _ (sRow_ux _ _ _ _ (n := 59) (by rfl)) ?_
        refine g_aload_n h (i := 72) rfl rfl ?_
        refine g_getR h (i := 73) rfl fl_X10_7 (fun _ _ _ => rfl) (lk_R hL) (lr_row hL) ?_
        refine g_bipush h (i := 74) rfl (v := 60) (by rfl) ?_
        refine g_aload_n h (i := 75) rfl rfl ?_
        refine g_getJ h (i := 76) rfl fl_X10_182 (fun _ _ _ => rfl) (lk_R hL) ?_
        refine g_eql (lN q.2.1) (q25 _) ?_
        refine g_last h (i := 77) rfl (lq_row hL) (vpD (by decide)) ?_
        refine g_w _ (sRow_ux _ _ _ _ (n := 60) (by rfl)) ?_
        refine g_aload_n h (i := 78) rfl rfl ?_
        refine g_getR h (i := 79) rfl fl_X10_7 (fun _ _ _ => rfl) (lk_R hL) (lr_row hL) ?_
        refine g_bipush h (i := 80) rfl (v := 61) (by rfl) ?_
        refine g_aload_n h (i := 81) rfl rfl ?_
        refine g_getJ h (i := 82) rfl fl_X10_185 (fun _ _ _ => rfl) (lk_R hL) ?_
        refine g_eql (lN q.2.2.1) (q26 _) ?_
        refine g_last h (i := 83) rfl (lq_row hL) (vpD (by decide)) ?_
        refine g_w _ (sRow_ux _ _ _ _ (n := 61) (by rfl)) ?_
        refine g_aload_n h (i := 84) rfl rfl ?_
        refine g_getR h (i := 85) rfl fl_X10_7 (fun _ _ _ => rfl) (lk_R hL) (lr_row hL) ?_
        refine g_bipush h (i := 86) rfl (v := 62) (by rfl) ?_
        refine g_aload_n h (i := 87) rfl rfl ?_
        refine g_getJ h (i := 88) rfl fl_X10_188 (fun _ _ _ => rfl) (lk_R hL) ?_
        refine g_eql (lN q.2.2.2) (q27 _) ?_
        refine g_last h (i := 89) rfl (lq_row hL) (vpD (by decide)) ?_
        refine g_w _ (sRow_ux _ _ _ _ (n := 62) (by rfl)) ?_
        refine g_aload_n h (i := 90) rfl rfl ?_
        refine g_getR h (i := 91) rfl fl_X10_7 (fun _ _ _ => rfl) (lk_R hL) (lr_row hL) ?_
        refine g_bipush h (i := 92) rfl (v := 63) (by rfl) ?_
        refine g_lconst h (i := 93) rfl (v := 0) (by rfl) ?_
        refine g_last h (i := 94) rfl (lq_row hL) (vpD (by decide)) ?_
        refine g_w _ (sRow_ux _ _ _ _ (n := 63) (by rfl)) ?_
        refine g_aload_n h (i := 95) rfl rfl ?_
        refine g_getR h (i := 96) rfl fl_X10_7 (fun _ _ _ => rfl) (lk_R hL) (lr_row hL) ?_
        refine g_bipush h (i := 97) rfl (v := 47) (by rfl) ?_
        refine g_aload_n h (i := 98) rfl rfl ?_
        refine g_getJ h (i := 99) rfl fl_X10_178 (fun _ _ _ => rfl) (lk_R hL) ?_
        refine g_eql (lN q.1) (q24 _) ?_
        refine g_last h (i := 100) rfl (lq_row hL) (vpD (by decide)) ?_
        refine g_w _ (sRow_ux _ _ _ _ (n := 47) (by rfl)) ?_
        refine g_aload_n h (i := 101) rfl rfl ?_
        refine g_getR h (i := 102) rfl fl_X10_7 (fun _ _ _ => rfl) (lk_R hL) (lr_row hL) ?_
        refine g_bipush h (i := 103) rfl (v := 46) (by rfl) ?_
        refine g_lconst h (i := 104) rfl (v := 1) (by rfl) ?_
        refine g_last h (i := 105) rfl (lq_row hL) (vpD (by decide)) ?_
        refine g_w _ (sRow_ux _ _ _ _ (n := 46) (by rfl)) ?_
        exact g_vret hq h (i := 106) rfl (⟨rfl, _, hRS, by unfold beginsR; rw [if_pos hwi, ← hqe, if_neg hq0, ← hgo, htv]; rfl⟩)
      | succ d ih =>
        intro i hid hq0
        have hi : i < 4 := by omega
        have hcl : (nI i).toNatClampNeg = i := nI_clamp (by omega)
        have hvp : vp_in (nI i) 4 := vp_in_nI hi (by omega)
        have hnge : ¬ (4 : Int32) ≤ nI i := nI_ge (b := 4) hi (by omega)
        have s1 : up1 (setn (setn (begins0 r) 51 r i) 55 tv i) (51 + i) (r i) = setn (setn (begins0 r) 51 r (i + 1)) 55 tv i := by rw [setn_u (by omega), setn_1 _ _ _ _ rfl]
        have s2 : up1 (setn (setn (begins0 r) 51 r (i + 1)) 55 tv i) (55 + i) (tv i) = setn (setn (begins0 r) 51 r (i + 1)) 55 tv (i + 1) := setn_1 _ _ _ _ rfl
        have b0 : begins0 r i = r i := by unfold begins0; rw [up1_k (by omega), up1_k (by omega)]
        refine g_iload_n h (i := 41) rfl rfl ?_
        refine g_iconst h (i := 42) rfl (v := 4) (by rfl) ?_
        refine g_icmp_ge h (i := 43) 108 rfl rfl (fun c_69 => absurd c_69 hnge) (fun c_69 => ?_)
        refine g_aload_n h (i := 44) rfl rfl ?_
        refine g_getR h (i := 45) rfl fl_X10_7 (fun _ _ _ => rfl) (lk_R hL) (lr_row hL) ?_
        refine g_bipush h (i := 46) rfl (v := 51) (by rfl) ?_
        refine g_iload_n h (i := 47) rfl rfl ?_
        refine g_iadd h (i := 48) rfl ?_
        refine g_eqi (nI (51 + i)) (nI_add 51 i) ?_
        refine g_aload_n h (i := 49) rfl rfl ?_
        refine g_getR h (i := 50) rfl fl_X10_68 (fun _ _ _ => rfl) (lk_R hL) (lr_planFrom hL) ?_
        refine g_iload_n h (i := 51) rfl rfl ?_
        refine g_lald h (i := 52) rfl (lq_planFrom hL) (hvp) ?_
        refine g_eql (r i) (by rw [hcl]; exact (sRow_o (by omega)).trans ((m1 i hi).1.trans b0)) ?_
        refine g_last h (i := 53) rfl (lq_row hL) (vp_in_nI (by omega) (by omega)) ?_
        refine g_w _ (sRow_ux _ _ _ _ (n := 51 + i) (nI_clamp (by omega))) ?_
        refine g_w (sRow (dW w (wI w) J (wD w)) a (setn (setn (begins0 r) 51 r (i + 1)) 55 tv i)) (by rw [s1]) ?_
        refine g_aload_n h (i := 54) rfl rfl ?_
        refine g_getR h (i := 55) rfl fl_X10_7 (fun _ _ _ => rfl) (lk_R hL) (lr_row hL) ?_
        refine g_bipush h (i := 56) rfl (v := 55) (by rfl) ?_
        refine g_iload_n h (i := 57) rfl rfl ?_
        refine g_iadd h (i := 58) rfl ?_
        refine g_eqi (nI (55 + i)) (nI_add 55 i) ?_
        refine g_aload_n h (i := 59) rfl rfl ?_
        refine g_getR h (i := 60) rfl fl_X10_71 (fun _ _ _ => rfl) (lk_R hL) (lr_planTo hL) ?_
        refine g_iload_n h (i := 61) rfl rfl ?_
        refine g_lald h (i := 62) rfl (lq_planTo hL) (hvp) ?_
        refine g_eql (tv i) (by rw [hcl, htv]; exact (sRow_o (by omega)).trans (m1 i hi).2) ?_
        refine g_last h (i := 63) rfl (lq_row hL) (vp_in_nI (by omega) (by omega)) ?_
        refine g_w _ (sRow_ux _ _ _ _ (n := 55 + i) (nI_clamp (by omega))) ?_
        refine g_w (sRow (dW w (wI w) J (wD w)) a (setn (setn (begins0 r) 51 r (i + 1)) 55 tv (i + 1))) (by rw [s2]) ?_
        refine g_iinc h (i := 64) rfl rfl (dv := 1) (by rfl) ?_
        refine g_goto h (i := 65) 67 rfl rfl ?_
        exact g_lv [(0, .ref a), (3, .int (nI (i + 1)))] ⟨rfl, congrArg (fun z => some (Value.int z)) (nI_1 i), trivial⟩ (ih (i + 1) (by omega) hq0)
    have z0 : lg_cmp (lN q.1) 0 = 0 ↔ q.1 = 0 := (lg_cmp_eq _ _).trans (lN_x (b := 0) (by omega) (by omega))
    refine g_aload_n h (i := 25) rfl rfl ?_
    refine g_getJ h (i := 26) rfl fl_X10_178 (fun _ _ _ => rfl) (lk_R hL) ?_
    refine g_eql (lN q.1) (q24 _) ?_
    refine g_lconst h (i := 27) rfl (v := 0) (by rfl) ?_
    refine g_lcmp h (i := 28) rfl ?_
    refine g_if_ne h (i := 29) 65 rfl rfl (fun c_50 => ?_) (fun c_50 => ?_)
    · skip
      refine g_iconst h (i := 39) rfl (v := 0) (by rfl) ?_
      refine g_istore_n h (i := 40) rfl hq rfl ?_
      exact g_lv [(0, .ref a), (3, .int (nI 0))] ⟨rfl, rfl, trivial⟩ (by have := key 4 0 (by omega) (fun z => c_50 (z0.mpr z)); rw [setn_0, setn_0] at this; exact this)
    · skip
      refine g_aload_n h (i := 30) rfl rfl ?_
      refine g_getR h (i := 31) rfl fl_X10_7 (fun _ _ _ => rfl) (lk_R hL) (lr_row hL) ?_
      refine g_bipush h (i := 32) rfl (v := 30) (by rfl) ?_
      refine g_dup2 h (i := 33) rfl rfl rfl ?_
      refine g_lald h (i := 34) rfl (lq_row hL) (vpD (by decide)) ?_
      refine g_eql _ (sRow_jx _ _ _ (n := 30) (by rfl)) ?_
      refine g_eql (r 30) (by unfold begins0; rw [up1_k (by omega), up1_k (by omega)]) ?_
      refine g_lconst h (i := 35) rfl (v := 1) (by rfl) ?_
      refine g_ladd h (i := 36) rfl ?_
      refine g_last h (i := 37) rfl (lq_row hL) (vpD (by decide)) ?_
      refine g_w _ (sRow_ux _ _ _ _ (n := 30) (by rfl)) ?_
      exact g_vret hq h (i := 38) rfl (⟨rfl, _, hRS, by unfold beginsR; rw [if_pos hwi, ← hqe, if_pos (z0.mp c_50)]⟩)
  have hpl := ct_X10_plans l E w a k sh (begins0 r) (fun j => pI (cfW w a 7 j)) (fun j => pI (cfW w a 8 j)) (fun j => (r j).toInt32) go hlo hL hk (fun j hj => ⟨(hc.2.1 j hj).1.1, (hc.2.1 j hj).2, (hc.2.1 j hj).1.2⟩) (fun j hj => ⟨(hc.2.2.1 j hj).1.1, (hc.2.2.1 j hj).2, (hc.2.2.1 j hj).1.2⟩) (fun j hj => by
    have f := l_sm ((fr_st hj).mp (hr j))
    have b0 : begins0 r j = r j := by unfold begins0; rw [up1_k (by omega), up1_k (by omega)]
    rw [b0]
    exact ⟨f.1, by rw [f.2]; exact (fr_st hj).mp (hr j)⟩) (fun j hj => by rw [hgo]; exact ⟨rfl, hc.2.2.2.1 (4 * k + j) (by omega)⟩) hsh
  refine g_aload_n h (i := 0) rfl rfl ?_
  refine g_getR h (i := 1) rfl fl_X10_7 (fun _ _ _ => rfl) (lk_R hL) (lr_row hL) ?_
  refine g_bipush h (i := 2) rfl (v := 50) (by rfl) ?_
  refine g_aload_n h (i := 3) rfl rfl ?_
  refine g_getR h (i := 4) rfl fl_X10_7 (fun _ _ _ => rfl) (lk_R hL) (lr_row hL) ?_
  refine g_bipush h (i := 5) rfl (v := 49) (by rfl) ?_
  refine g_lald h (i := 6) rfl (lq_row hL) (vpD (by decide)) ?_
  refine g_eql _ (sRow_jx _ _ _ (n := 49) (by rfl)) ?_
  refine g_last h (i := 7) rfl (lq_row hL) (vpD (by decide)) ?_
  refine g_w _ (sRow_ux _ _ _ _ (n := 50) (by rfl)) ?_
  refine g_aload_n h (i := 8) rfl rfl ?_
  refine g_getR h (i := 9) rfl fl_X10_7 (fun _ _ _ => rfl) (lk_R hL) (lr_row hL) ?_
  refine g_bipush h (i := 10) rfl (v := 49) (by rfl) ?_
  refine g_ldc2 h (i := 11) rfl k_X10_80 ?_
  refine g_last h (i := 12) rfl (lq_row hL) (vpD (by decide)) ?_
  refine g_w _ (sRow_ux _ _ _ _ (n := 49) (by rfl)) ?_
  refine g_aload_n h (i := 13) rfl rfl ?_
  refine g_iload_n h (i := 14) rfl rfl ?_
  refine g_callVx h hq (i := 15) rfl mv_X10_232 cls10 (lk_R hL) (ct_X10_isWithin l E w a k _ hlo hL hk (hc.2.2.2.2.1 k hk)) rfl rfl ⟨rfl, rfl, Nat.le_of_ble_eq_true rfl, Nat.le_of_ble_eq_true rfl⟩ (Nat.le_of_ble_eq_true rfl) ⟨Nat.zero_le _, Nat.zero_le _⟩ ?_
  refine g_if_ne h (i := 16) 38 rfl rfl (fun c_29 => ?_) (fun c_29 => ?_)
  · skip
    refine g_aload_n h (i := 21) rfl rfl ?_
    refine g_iload_n h (i := 22) rfl rfl ?_
    refine g_iload_n h (i := 23) rfl rfl ?_
    refine g_callVp (w0 := w) h hq (i := 24) rfl mv_X10_196 cls10 (lk_R hL) (hpl) rfl rfl ⟨rfl, rfl, Nat.le_of_ble_eq_true rfl, Nat.le_of_ble_eq_true rfl⟩ (Nat.le_of_ble_eq_true rfl) ⟨Nat.zero_le _, Nat.zero_le _⟩ (fun r41 w41 hp41 => ?_)
    obtain ⟨rfl, J, rfl, hJ⟩ := hp41
    exact g_lv [(0, .ref a)] ⟨rfl, trivial⟩ (k44 J (by rw [hqe]; unfold plR; rw [← hgo]; exact hJ) (bI_1.mp c_29))
  · skip
    refine g_aload_n h (i := 17) rfl rfl ?_
    refine g_iconst h (i := 18) rfl (v := 1) (by rfl) ?_
    refine g_callVn h hq (i := 19) rfl mv_X10_219 cls10 (lk_R hL) (ct_X10_errs l E w a _ 1 hlo hL) rfl rfl ⟨rfl, rfl, Nat.le_of_ble_eq_true rfl, Nat.le_of_ble_eq_true rfl⟩ (Nat.le_of_ble_eq_true rfl) ⟨Nat.zero_le _, Nat.zero_le _⟩ ?_
    exact g_vret hq h (i := 20) rfl (⟨rfl, w, RS_r a w, by unfold beginsR; rw [if_neg (bI_0.mp c_29)]; rfl⟩)
end
section
/-- a line, done: op, a, b -/
def lineO (cf : Nat → Nat → Int32) (o x y : Int32) (r : Nat → Int64) : Nat → Int64 :=
  if o = 0 then beginsR cf (pI x) (pI y) r
  else if o = 1 then up1 (up1 (up1 r 46 (if x ≤ 0 then 0 else 2)) 47 x.toInt64) 30 (r 30 + (if x ≤ 0 then 1 else 0))
  else if o = 2 then up1 (up1 r (12 + pI x) y.toInt64) 30 (r 30 + 1)
  else if o = 3 then up1 r 30 (r 30 + (if r (4 + pI x) = y.toInt64 then 2 else 1))
  else if o = 4 then goesToR (cf 0 12) x r
  else if o = 5 then callsR (cf 0 12) x r
  else if o = 6 then backR r
  else if o = 7 then up1 (up1 r (20 + pI x) (r (20 + pI x) + y.toInt64).toInt32.toInt64) 30 (r 30 + 1)
  else if o = 8 then up1 r 30 (r 30 + (if y.toInt64 ≤ r (20 + pI x) then 1 else 2))
  else if o = 9 then up1 (up1 r 49 x.toInt64) 30 (r 30 + 1)
  else if o = 10 then up1 r 28 2
  else up1 (up1 r 48 x.toInt64) 30 (r 30 + 1)
def lineR (cf : Nat → Nat → Int32) (r : Nat → Int64) : Nat → Int64 := lineO cf (cf 13 (pN (r 30))) (cf 14 (pN (r 30))) (cf 15 (pN (r 30))) (up1 r 45 (r 45 + 1))
theorem n12 {n : Nat} (h : n ≤ 11) : n = 0 ∨ n = 1 ∨ n = 2 ∨ n = 3 ∨ n = 4 ∨ n = 5 ∨ n = 6 ∨ n = 7 ∨ n = 8 ∨ n = 9 ∨ n = 10 ∨ n = 11 := by omega
-- a line is done
set_option maxRecDepth 100000 in
set_option maxHeartbeats 4000000 in
theorem ct_X10_doesLine (l : Launch) (E : EE) (w : Wd) (a : Nat) (r : Nat → Int64) (hlo : E.2.2 ≤ wN (sRow w a r)) (hL : LayR w a) (hr : FA r) (hc : CfR (cfW w a)) (hk : pN (r 30) < pI (cfW w a 0 12)) : Ct l E yX10_doesLine cX10_doesLine 4 none ({ frames := 5, cells := 0, slots := 0, locals := 139 } : Room) [.ref a] (sRow w a r) 0 0 (fun q w2 => q = none ∧ ∃ w3, RS a w w3 ∧ w2 = sRow w3 a (lineR (cfW w a) r)) := by
  refine ct_in (il := il_X10_doesLine) (by decide) dk_X10_doesLine (Nat.le_of_ble_eq_true rfl) hlo ?_
  intro X h hq

  have h30 : isN (r 30) 61 := hr 30
  obtain ⟨k, hke⟩ : ∃ k, k = pN (r 30) := ⟨_, rfl⟩
  have hk60 : k < 60 := by have := hc.2.2.2.2.2.2.1.2; omega
  have hln := hc.2.2.2.2.2.2.2.1 k (by rw [hke]; exact hk)
  have e30 : (r 30).toInt32 = nI k := by rw [hke]; exact (isN_i h30 (by omega)).1
  obtain ⟨op, hop⟩ : ∃ op, op = cfW w a 13 k := ⟨_, rfl⟩
  obtain ⟨x, hx⟩ : ∃ x, x = cfW w a 14 k := ⟨_, rfl⟩
  obtain ⟨y, hy⟩ : ∃ y, y = cfW w a 15 k := ⟨_, rfl⟩
  rw [← hop, ← hx, ← hy] at hln
  obtain ⟨l1, l2, l3, l4, l5, l6⟩ := hln
  have hR : lineR (cfW w a) r = lineO (cfW w a) op x y (up1 r 45 (r 45 + 1)) := by unfold lineR; rw [← hke, ← hop, ← hx, ← hy]
  rw [hR] at hq
  have hv : vp_in (nI k) 60 := vp_in_nI hk60 (by omega)
  have hcl : (nI k).toNatClampNeg = k := nI_clamp (by omega)
  obtain ⟨r', hr'⟩ : ∃ r', r' = up1 r 45 (r 45 + 1) := ⟨_, rfl⟩
  rw [← hr'] at hq
  have hfa : FA r' := by rw [hr']; exact fa_u hr True.intro
  refine g_aload_n h (i := 0) rfl rfl ?_
  refine g_bipush h (i := 1) rfl (v := 30) (by rfl) ?_
  refine g_callVx h hq (i := 2) rfl mv_X10_97 cls10 (lk_R hL) (ct_X10_rowAt l E w a 30 _ _ hlo hL (vpD (by decide)) (by rfl)) rfl rfl ⟨rfl, rfl, Nat.le_of_ble_eq_true rfl, Nat.le_of_ble_eq_true rfl⟩ (Nat.le_of_ble_eq_true rfl) ⟨Nat.zero_le _, Nat.zero_le _⟩ ?_
  refine g_eqi (nI k) e30 ?_
  refine g_istore_n h (i := 3) rfl hq rfl ?_
  refine g_aload_n h (i := 4) rfl rfl ?_
  refine g_getR h (i := 5) rfl fl_X10_53 (fun _ _ _ => rfl) (lk_R hL) (lr_first hL) ?_
  refine g_iload_n h (i := 6) rfl rfl ?_
  refine g_iald h (i := 7) rfl (lq_first hL) (hv) ?_
  refine g_eqi (wI w (a + 14) _) rfl ?_
  refine g_eqi x (by rw [hcl]; exact hx.symm) ?_
  refine g_istore_n h (i := 8) rfl hq rfl ?_
  refine g_aload_n h (i := 9) rfl rfl ?_
  refine g_getR h (i := 10) rfl fl_X10_56 (fun _ _ _ => rfl) (lk_R hL) (lr_second hL) ?_
  refine g_iload_n h (i := 11) rfl rfl ?_
  refine g_iald h (i := 12) rfl (lq_second hL) (hv) ?_
  refine g_eqi (wI w (a + 15) _) rfl ?_
  refine g_eqi y (by rw [hcl]; exact hy.symm) ?_
  refine g_istore_n h (i := 13) rfl hq rfl ?_
  refine g_aload_n h (i := 14) rfl rfl ?_
  refine g_getR h (i := 15) rfl fl_X10_7 (fun _ _ _ => rfl) (lk_R hL) (lr_row hL) ?_
  refine g_bipush h (i := 16) rfl (v := 45) (by rfl) ?_
  refine g_dup2 h (i := 17) rfl rfl rfl ?_
  refine g_lald h (i := 18) rfl (lq_row hL) (vpD (by decide)) ?_
  refine g_eql _ (sRow_jx _ _ _ (n := 45) (by rfl)) ?_
  refine g_lconst h (i := 19) rfl (v := 1) (by rfl) ?_
  refine g_ladd h (i := 20) rfl ?_
  refine g_last h (i := 21) rfl (lq_row hL) (vpD (by decide)) ?_
  refine g_w _ (sRow_ux _ _ _ _ (n := 45) (by rfl)) ?_
  refine g_w (sRow w a r') (by rw [hr']) ?_
  refine g_aload_n h (i := 22) rfl rfl ?_
  refine g_getR h (i := 23) rfl fl_X10_50 (fun _ _ _ => rfl) (lk_R hL) (lr_op hL) ?_
  refine g_iload_n h (i := 24) rfl rfl ?_
  refine g_iald h (i := 25) rfl (lq_op hL) (hv) ?_
  refine g_eqi (wI w (a + 13) _) rfl ?_
  refine g_eqi op (by rw [hcl]; exact hop.symm) ?_
  have hsw : op = 0 ∨ op = 1 ∨ op = 2 ∨ op = 3 ∨ op = 4 ∨ op = 5 ∨ op = 6 ∨ op = 7 ∨ op = 8 ∨ op = 9 ∨ op = 10 ∨ op = 11 := by
    rcases n12 l1.2 with n | n | n | n | n | n | n | n | n | n | n | n
    all_goals (have z := l1.1; rw [n] at z; rw [z]; decide)
  rcases hsw with e | e | e | e | e | e | e | e | e | e | e | e
  · skip
    refine g_eqi (0) e ?_
    refine g_tin h (i := 26) 96 rfl (by decide) (by decide) rfl rfl ?_
    obtain ⟨⟨z1, z2⟩, ⟨z3, z4⟩, z5⟩ := l2 e
    refine g_aload_n h (i := 27) rfl rfl ?_
    refine g_iload_n h (i := 28) rfl rfl ?_
    refine g_iload_n h (i := 29) rfl rfl ?_
    rw [z1, z3]
    have hbg := ct_X10_begins l E w a (pI x) (pI y) r' hlo hL hfa hc (by omega) z4
    refine g_callVp (w0 := w) h hq (i := 30) rfl mv_X10_237 cls10 (lk_R hL) (hbg) rfl rfl ⟨rfl, rfl, Nat.le_of_ble_eq_true rfl, Nat.le_of_ble_eq_true rfl⟩ (Nat.le_of_ble_eq_true rfl) ⟨Nat.zero_le _, Nat.zero_le _⟩ (fun r99 w99 hp99 => ?_)
    obtain ⟨rfl, w3, hRS, rfl⟩ := hp99
    refine g_goto h (i := 31) 364 rfl rfl ?_
    exact g_vret hq h (i := 191) rfl (⟨rfl, w3, hRS, by unfold lineO; rw [if_pos (show op = 0 from e)]⟩)
  · skip
    refine g_eqi (1) e ?_
    refine g_tin h (i := 26) 105 rfl (by decide) (by decide) rfl rfl ?_
    refine g_aload_n h (i := 32) rfl rfl ?_
    refine g_getR h (i := 33) rfl fl_X10_7 (fun _ _ _ => rfl) (lk_R hL) (lr_row hL) ?_
    refine g_bipush h (i := 34) rfl (v := 46) (by rfl) ?_
    refine g_iload_n h (i := 35) rfl rfl ?_
    refine g_if_le h (i := 36) 121 rfl rfl (fun c_112 => ?_) (fun c_112 => ?_)
    · skip
      refine g_lconst h (i := 39) rfl (v := 0) (by rfl) ?_
      refine g_last h (i := 40) rfl (lq_row hL) (vpD (by decide)) ?_
      refine g_w _ (sRow_ux _ _ _ _ (n := 46) (by rfl)) ?_
      refine g_aload_n h (i := 41) rfl rfl ?_
      refine g_getR h (i := 42) rfl fl_X10_7 (fun _ _ _ => rfl) (lk_R hL) (lr_row hL) ?_
      refine g_bipush h (i := 43) rfl (v := 47) (by rfl) ?_
      refine g_iload_n h (i := 44) rfl rfl ?_
      refine g_i2l h (i := 45) rfl ?_
      refine g_last h (i := 46) rfl (lq_row hL) (vpD (by decide)) ?_
      refine g_w _ (sRow_ux _ _ _ _ (n := 47) (by rfl)) ?_
      refine g_aload_n h (i := 47) rfl rfl ?_
      refine g_getR h (i := 48) rfl fl_X10_7 (fun _ _ _ => rfl) (lk_R hL) (lr_row hL) ?_
      refine g_bipush h (i := 49) rfl (v := 30) (by rfl) ?_
      refine g_dup2 h (i := 50) rfl rfl rfl ?_
      refine g_lald h (i := 51) rfl (lq_row hL) (vpD (by decide)) ?_
      refine g_eql _ (sRow_jx _ _ _ (n := 30) (by rfl)) ?_
      refine g_eql (r' 30) (by first | rfl | rw [up1_k (by omega)] | rw [up1_k (by omega), up1_k (by omega)]) ?_
      refine g_iload_n h (i := 52) rfl rfl ?_
      refine g_if_le h (i := 53) 148 rfl rfl (fun c_141 => ?_) (fun c_141 => absurd c_112 c_141)
      refine g_lconst h (i := 56) rfl (v := 1) (by rfl) ?_
      refine g_ladd h (i := 57) rfl ?_
      refine g_last h (i := 58) rfl (lq_row hL) (vpD (by decide)) ?_
      refine g_w _ (sRow_ux _ _ _ _ (n := 30) (by rfl)) ?_
      refine g_goto h (i := 59) 364 rfl rfl ?_
      exact g_vret hq h (i := 191) rfl (⟨rfl, w, RS_r a w, by unfold lineO; rw [if_neg (show ¬ op = 0 by rw [e]; decide), if_pos (show op = 1 from e), if_pos c_112, if_pos c_112]⟩)
    · skip
      refine g_ldc2 h (i := 37) rfl k_X10_168 ?_
      refine g_goto h (i := 38) 122 rfl rfl ?_
      refine g_last h (i := 40) rfl (lq_row hL) (vpD (by decide)) ?_
      refine g_w _ (sRow_ux _ _ _ _ (n := 46) (by rfl)) ?_
      refine g_aload_n h (i := 41) rfl rfl ?_
      refine g_getR h (i := 42) rfl fl_X10_7 (fun _ _ _ => rfl) (lk_R hL) (lr_row hL) ?_
      refine g_bipush h (i := 43) rfl (v := 47) (by rfl) ?_
      refine g_iload_n h (i := 44) rfl rfl ?_
      refine g_i2l h (i := 45) rfl ?_
      refine g_last h (i := 46) rfl (lq_row hL) (vpD (by decide)) ?_
      refine g_w _ (sRow_ux _ _ _ _ (n := 47) (by rfl)) ?_
      refine g_aload_n h (i := 47) rfl rfl ?_
      refine g_getR h (i := 48) rfl fl_X10_7 (fun _ _ _ => rfl) (lk_R hL) (lr_row hL) ?_
      refine g_bipush h (i := 49) rfl (v := 30) (by rfl) ?_
      refine g_dup2 h (i := 50) rfl rfl rfl ?_
      refine g_lald h (i := 51) rfl (lq_row hL) (vpD (by decide)) ?_
      refine g_eql _ (sRow_jx _ _ _ (n := 30) (by rfl)) ?_
      refine g_eql (r' 30) (by first | rfl | rw [up1_k (by omega)] | rw [up1_k (by omega), up1_k (by omega)]) ?_
      refine g_iload_n h (i := 52) rfl rfl ?_
      refine g_if_le h (i := 53) 148 rfl rfl (fun c_141 => absurd c_141 c_112) (fun c_141 => ?_)
      refine g_lconst h (i := 54) rfl (v := 0) (by rfl) ?_
      refine g_goto h (i := 55) 149 rfl rfl ?_
      refine g_ladd h (i := 57) rfl ?_
      refine g_last h (i := 58) rfl (lq_row hL) (vpD (by decide)) ?_
      refine g_w _ (sRow_ux _ _ _ _ (n := 30) (by rfl)) ?_
      refine g_goto h (i := 59) 364 rfl rfl ?_
      exact g_vret hq h (i := 191) rfl (⟨rfl, w, RS_r a w, by unfold lineO; rw [if_neg (show ¬ op = 0 by rw [e]; decide), if_pos (show op = 1 from e), if_neg c_112, if_neg c_112]⟩)
  · skip
    refine g_eqi (2) e ?_
    refine g_tin h (i := 26) 154 rfl (by decide) (by decide) rfl rfl ?_
    obtain ⟨hxn, hx7⟩ := (l4 (Or.inl e)).1
    have hx12 : (12 : Int32) + x = nI (12 + pI x) := (congrArg (fun z => (12 : Int32) + z) hxn).trans (nI_add 12 (pI x))
    refine g_aload_n h (i := 60) rfl rfl ?_
    refine g_getR h (i := 61) rfl fl_X10_7 (fun _ _ _ => rfl) (lk_R hL) (lr_row hL) ?_
    refine g_bipush h (i := 62) rfl (v := 12) (by rfl) ?_
    refine g_iload_n h (i := 63) rfl rfl ?_
    refine g_iadd h (i := 64) rfl ?_
    refine g_eqi (nI (12 + pI x)) hx12 ?_
    refine g_iload_n h (i := 65) rfl rfl ?_
    refine g_i2l h (i := 66) rfl ?_
    refine g_last h (i := 67) rfl (lq_row hL) (vp_in_nI (by omega) (by omega)) ?_
    refine g_w _ (sRow_ux _ _ _ _ (n := 12 + pI x) (nI_clamp (by omega))) ?_
    refine g_aload_n h (i := 68) rfl rfl ?_
    refine g_getR h (i := 69) rfl fl_X10_7 (fun _ _ _ => rfl) (lk_R hL) (lr_row hL) ?_
    refine g_bipush h (i := 70) rfl (v := 30) (by rfl) ?_
    refine g_dup2 h (i := 71) rfl rfl rfl ?_
    refine g_lald h (i := 72) rfl (lq_row hL) (vpD (by decide)) ?_
    refine g_eql _ (sRow_jx _ _ _ (n := 30) (by rfl)) ?_
    refine g_eql (r' 30) (by first | rfl | rw [up1_k (by omega)] | rw [up1_k (by omega), up1_k (by omega)]) ?_
    refine g_lconst h (i := 73) rfl (v := 1) (by rfl) ?_
    refine g_ladd h (i := 74) rfl ?_
    refine g_last h (i := 75) rfl (lq_row hL) (vpD (by decide)) ?_
    refine g_w _ (sRow_ux _ _ _ _ (n := 30) (by rfl)) ?_
    refine g_goto h (i := 76) 364 rfl rfl ?_
    exact g_vret hq h (i := 191) rfl (⟨rfl, w, RS_r a w, by unfold lineO; rw [if_neg (show ¬ op = 0 by rw [e]; decide), if_neg (show ¬ op = 1 by rw [e]; decide), if_pos (show op = 2 from e)]⟩)
  · skip
    refine g_eqi (3) e ?_
    refine g_tin h (i := 26) 179 rfl (by decide) (by decide) rfl rfl ?_
    obtain ⟨hxn, hx7⟩ := (l4 (Or.inr e)).1
    have hx4 : (4 : Int32) + x = nI (4 + pI x) := (congrArg (fun z => (4 : Int32) + z) hxn).trans (nI_add 4 (pI x))
    refine g_aload_n h (i := 77) rfl rfl ?_
    refine g_getR h (i := 78) rfl fl_X10_7 (fun _ _ _ => rfl) (lk_R hL) (lr_row hL) ?_
    refine g_bipush h (i := 79) rfl (v := 30) (by rfl) ?_
    refine g_dup2 h (i := 80) rfl rfl rfl ?_
    refine g_lald h (i := 81) rfl (lq_row hL) (vpD (by decide)) ?_
    refine g_eql _ (sRow_jx _ _ _ (n := 30) (by rfl)) ?_
    refine g_aload_n h (i := 82) rfl rfl ?_
    refine g_getR h (i := 83) rfl fl_X10_7 (fun _ _ _ => rfl) (lk_R hL) (lr_row hL) ?_
    refine g_iconst h (i := 84) rfl (v := 4) (by rfl) ?_
    refine g_iload_n h (i := 85) rfl rfl ?_
    refine g_iadd h (i := 86) rfl ?_
    refine g_eqi (nI (4 + pI x)) hx4 ?_
    refine g_lald h (i := 87) rfl (lq_row hL) (vp_in_nI (by omega) (by omega)) ?_
    refine g_eql _ (sRow_jx _ _ _ (n := 4 + pI x) (nI_clamp (by omega))) ?_
    refine g_iload_n h (i := 88) rfl rfl ?_
    refine g_i2l h (i := 89) rfl ?_
    refine g_lcmp h (i := 90) rfl ?_
    refine g_if_ne h (i := 91) 207 rfl rfl (fun c_198 => ?_) (fun c_198 => ?_)
    · skip
      refine g_lconst h (i := 94) rfl (v := 1) (by rfl) ?_
      refine g_ladd h (i := 95) rfl ?_
      refine g_last h (i := 96) rfl (lq_row hL) (vpD (by decide)) ?_
      refine g_w _ (sRow_ux _ _ _ _ (n := 30) (by rfl)) ?_
      refine g_goto h (i := 97) 364 rfl rfl ?_
      exact g_vret hq h (i := 191) rfl (⟨rfl, w, RS_r a w, by unfold lineO; rw [if_neg (show ¬ op = 0 by rw [e]; decide), if_neg (show ¬ op = 1 by rw [e]; decide), if_neg (show ¬ op = 2 by rw [e]; decide), if_pos (show op = 3 from e), if_neg (fun q => c_198 ((lg_cmp_eq _ _).mpr q))]⟩)
    · skip
      refine g_ldc2 h (i := 92) rfl k_X10_168 ?_
      refine g_goto h (i := 93) 208 rfl rfl ?_
      refine g_ladd h (i := 95) rfl ?_
      refine g_last h (i := 96) rfl (lq_row hL) (vpD (by decide)) ?_
      refine g_w _ (sRow_ux _ _ _ _ (n := 30) (by rfl)) ?_
      refine g_goto h (i := 97) 364 rfl rfl ?_
      exact g_vret hq h (i := 191) rfl (⟨rfl, w, RS_r a w, by unfold lineO; rw [if_neg (show ¬ op = 0 by rw [e]; decide), if_neg (show ¬ op = 1 by rw [e]; decide), if_neg (show ¬ op = 2 by rw [e]; decide), if_pos (show op = 3 from e), if_pos ((lg_cmp_eq _ _).mp c_198)]⟩)
  · skip
    refine g_eqi (4) e ?_
    refine g_tin h (i := 26) 213 rfl (by decide) (by decide) rfl rfl ?_
    refine g_aload_n h (i := 98) rfl rfl ?_
    refine g_iload_n h (i := 99) rfl rfl ?_
    refine g_callVn h hq (i := 100) rfl mv_X10_240 cls10 (lk_R hL) (ct_X10_goesTo l E w a r' x hlo hL) rfl rfl ⟨rfl, rfl, Nat.le_of_ble_eq_true rfl, Nat.le_of_ble_eq_true rfl⟩ (Nat.le_of_ble_eq_true rfl) ⟨Nat.zero_le _, Nat.zero_le _⟩ ?_
    refine g_goto h (i := 101) 364 rfl rfl ?_
    exact g_vret hq h (i := 191) rfl (⟨rfl, w, RS_r a w, by unfold lineO; rw [if_neg (show ¬ op = 0 by rw [e]; decide), if_neg (show ¬ op = 1 by rw [e]; decide), if_neg (show ¬ op = 2 by rw [e]; decide), if_neg (show ¬ op = 3 by rw [e]; decide), if_pos (show op = 4 from e)]; rfl⟩)
  · skip
    refine g_eqi (5) e ?_
    refine g_tin h (i := 26) 221 rfl (by decide) (by decide) rfl rfl ?_
    refine g_aload_n h (i := 102) rfl rfl ?_
    refine g_iload_n h (i := 103) rfl rfl ?_
    refine g_callVn h hq (i := 104) rfl mv_X10_243 cls10 (lk_R hL) (ct_X10_calls l E w a (pN (r' 32)) r' x hlo hL (show isN (r' 32) 12 from hfa 32).1 (show isN (r' 32) 12 from hfa 32).2) rfl rfl ⟨rfl, rfl, Nat.le_of_ble_eq_true rfl, Nat.le_of_ble_eq_true rfl⟩ (Nat.le_of_ble_eq_true rfl) ⟨Nat.zero_le _, Nat.zero_le _⟩ ?_
    refine g_goto h (i := 105) 364 rfl rfl ?_
    exact g_vret hq h (i := 191) rfl (⟨rfl, w, RS_r a w, by unfold lineO; rw [if_neg (show ¬ op = 0 by rw [e]; decide), if_neg (show ¬ op = 1 by rw [e]; decide), if_neg (show ¬ op = 2 by rw [e]; decide), if_neg (show ¬ op = 3 by rw [e]; decide), if_neg (show ¬ op = 4 by rw [e]; decide), if_pos (show op = 5 from e)]; rfl⟩)
  · skip
    refine g_eqi (6) e ?_
    refine g_tin h (i := 26) 229 rfl (by decide) (by decide) rfl rfl ?_
    refine g_aload_n h (i := 106) rfl rfl ?_
    refine g_callVn h hq (i := 107) rfl mv_X10_246 cls10 (lk_R hL) (ct_X10_comesBack l E w a (pN (r' 32)) r' hlo hL (show isN (r' 32) 12 from hfa 32).1 (show isN (r' 32) 12 from hfa 32).2) rfl rfl ⟨rfl, rfl, Nat.le_of_ble_eq_true rfl, Nat.le_of_ble_eq_true rfl⟩ (Nat.le_of_ble_eq_true rfl) ⟨Nat.zero_le _, Nat.zero_le _⟩ ?_
    refine g_goto h (i := 108) 364 rfl rfl ?_
    exact g_vret hq h (i := 191) rfl (⟨rfl, w, RS_r a w, by unfold lineO; rw [if_neg (show ¬ op = 0 by rw [e]; decide), if_neg (show ¬ op = 1 by rw [e]; decide), if_neg (show ¬ op = 2 by rw [e]; decide), if_neg (show ¬ op = 3 by rw [e]; decide), if_neg (show ¬ op = 4 by rw [e]; decide), if_neg (show ¬ op = 5 by rw [e]; decide), if_pos (show op = 6 from e)]⟩)
  · skip
    refine g_eqi (7) e ?_
    refine g_tin h (i := 26) 236 rfl (by decide) (by decide) rfl rfl ?_
    obtain ⟨hxn, hx7⟩ := l6 (Or.inl e)
    have hx20 : (20 : Int32) + x = nI (20 + pI x) := (congrArg (fun z => (20 : Int32) + z) hxn).trans (nI_add 20 (pI x))
    refine g_aload_n h (i := 109) rfl rfl ?_
    refine g_getR h (i := 110) rfl fl_X10_7 (fun _ _ _ => rfl) (lk_R hL) (lr_row hL) ?_
    refine g_bipush h (i := 111) rfl (v := 20) (by rfl) ?_
    refine g_iload_n h (i := 112) rfl rfl ?_
    refine g_iadd h (i := 113) rfl ?_
    refine g_eqi (nI (20 + pI x)) hx20 ?_
    refine g_aload_n h (i := 114) rfl rfl ?_
    refine g_getR h (i := 115) rfl fl_X10_7 (fun _ _ _ => rfl) (lk_R hL) (lr_row hL) ?_
    refine g_bipush h (i := 116) rfl (v := 20) (by rfl) ?_
    refine g_iload_n h (i := 117) rfl rfl ?_
    refine g_iadd h (i := 118) rfl ?_
    refine g_eqi (nI (20 + pI x)) hx20 ?_
    refine g_lald h (i := 119) rfl (lq_row hL) (vp_in_nI (by omega) (by omega)) ?_
    refine g_eql _ (sRow_jx _ _ _ (n := 20 + pI x) (nI_clamp (by omega))) ?_
    refine g_iload_n h (i := 120) rfl rfl ?_
    refine g_i2l h (i := 121) rfl ?_
    refine g_ladd h (i := 122) rfl ?_
    refine g_l2i h (i := 123) rfl ?_
    refine g_i2l h (i := 124) rfl ?_
    refine g_last h (i := 125) rfl (lq_row hL) (vp_in_nI (by omega) (by omega)) ?_
    refine g_w _ (sRow_ux _ _ _ _ (n := 20 + pI x) (nI_clamp (by omega))) ?_
    refine g_aload_n h (i := 126) rfl rfl ?_
    refine g_getR h (i := 127) rfl fl_X10_7 (fun _ _ _ => rfl) (lk_R hL) (lr_row hL) ?_
    refine g_bipush h (i := 128) rfl (v := 30) (by rfl) ?_
    refine g_dup2 h (i := 129) rfl rfl rfl ?_
    refine g_lald h (i := 130) rfl (lq_row hL) (vpD (by decide)) ?_
    refine g_eql _ (sRow_jx _ _ _ (n := 30) (by rfl)) ?_
    refine g_eql (r' 30) (by first | rfl | rw [up1_k (by omega)] | rw [up1_k (by omega), up1_k (by omega)]) ?_
    refine g_lconst h (i := 131) rfl (v := 1) (by rfl) ?_
    refine g_ladd h (i := 132) rfl ?_
    refine g_last h (i := 133) rfl (lq_row hL) (vpD (by decide)) ?_
    refine g_w _ (sRow_ux _ _ _ _ (n := 30) (by rfl)) ?_
    refine g_goto h (i := 134) 364 rfl rfl ?_
    exact g_vret hq h (i := 191) rfl (⟨rfl, w, RS_r a w, by unfold lineO; rw [if_neg (show ¬ op = 0 by rw [e]; decide), if_neg (show ¬ op = 1 by rw [e]; decide), if_neg (show ¬ op = 2 by rw [e]; decide), if_neg (show ¬ op = 3 by rw [e]; decide), if_neg (show ¬ op = 4 by rw [e]; decide), if_neg (show ¬ op = 5 by rw [e]; decide), if_neg (show ¬ op = 6 by rw [e]; decide), if_pos (show op = 7 from e)]⟩)
  · skip
    refine g_eqi (8) e ?_
    refine g_tin h (i := 26) 273 rfl (by decide) (by decide) rfl rfl ?_
    obtain ⟨hxn, hx7⟩ := l6 (Or.inr (Or.inl e))
    have hx20 : (20 : Int32) + x = nI (20 + pI x) := (congrArg (fun z => (20 : Int32) + z) hxn).trans (nI_add 20 (pI x))
    refine g_aload_n h (i := 135) rfl rfl ?_
    refine g_getR h (i := 136) rfl fl_X10_7 (fun _ _ _ => rfl) (lk_R hL) (lr_row hL) ?_
    refine g_bipush h (i := 137) rfl (v := 30) (by rfl) ?_
    refine g_dup2 h (i := 138) rfl rfl rfl ?_
    refine g_lald h (i := 139) rfl (lq_row hL) (vpD (by decide)) ?_
    refine g_eql _ (sRow_jx _ _ _ (n := 30) (by rfl)) ?_
    refine g_aload_n h (i := 140) rfl rfl ?_
    refine g_getR h (i := 141) rfl fl_X10_7 (fun _ _ _ => rfl) (lk_R hL) (lr_row hL) ?_
    refine g_bipush h (i := 142) rfl (v := 20) (by rfl) ?_
    refine g_iload_n h (i := 143) rfl rfl ?_
    refine g_iadd h (i := 144) rfl ?_
    refine g_eqi (nI (20 + pI x)) hx20 ?_
    refine g_lald h (i := 145) rfl (lq_row hL) (vp_in_nI (by omega) (by omega)) ?_
    refine g_eql _ (sRow_jx _ _ _ (n := 20 + pI x) (nI_clamp (by omega))) ?_
    refine g_iload_n h (i := 146) rfl rfl ?_
    refine g_i2l h (i := 147) rfl ?_
    refine g_lcmp h (i := 148) rfl ?_
    refine g_if_ge h (i := 149) 302 rfl rfl (fun c_293 => ?_) (fun c_293 => ?_)
    · skip
      refine g_lconst h (i := 152) rfl (v := 1) (by rfl) ?_
      refine g_ladd h (i := 153) rfl ?_
      refine g_last h (i := 154) rfl (lq_row hL) (vpD (by decide)) ?_
      refine g_w _ (sRow_ux _ _ _ _ (n := 30) (by rfl)) ?_
      refine g_goto h (i := 155) 364 rfl rfl ?_
      exact g_vret hq h (i := 191) rfl (⟨rfl, w, RS_r a w, by unfold lineO; rw [if_neg (show ¬ op = 0 by rw [e]; decide), if_neg (show ¬ op = 1 by rw [e]; decide), if_neg (show ¬ op = 2 by rw [e]; decide), if_neg (show ¬ op = 3 by rw [e]; decide), if_neg (show ¬ op = 4 by rw [e]; decide), if_neg (show ¬ op = 5 by rw [e]; decide), if_neg (show ¬ op = 6 by rw [e]; decide), if_neg (show ¬ op = 7 by rw [e]; decide), if_pos (show op = 8 from e), if_pos ((lg_cmp_ge _ _).mp c_293)]⟩)
    · skip
      refine g_ldc2 h (i := 150) rfl k_X10_168 ?_
      refine g_goto h (i := 151) 303 rfl rfl ?_
      refine g_ladd h (i := 153) rfl ?_
      refine g_last h (i := 154) rfl (lq_row hL) (vpD (by decide)) ?_
      refine g_w _ (sRow_ux _ _ _ _ (n := 30) (by rfl)) ?_
      refine g_goto h (i := 155) 364 rfl rfl ?_
      exact g_vret hq h (i := 191) rfl (⟨rfl, w, RS_r a w, by unfold lineO; rw [if_neg (show ¬ op = 0 by rw [e]; decide), if_neg (show ¬ op = 1 by rw [e]; decide), if_neg (show ¬ op = 2 by rw [e]; decide), if_neg (show ¬ op = 3 by rw [e]; decide), if_neg (show ¬ op = 4 by rw [e]; decide), if_neg (show ¬ op = 5 by rw [e]; decide), if_neg (show ¬ op = 6 by rw [e]; decide), if_neg (show ¬ op = 7 by rw [e]; decide), if_pos (show op = 8 from e), if_neg (fun q => c_293 ((lg_cmp_ge _ _).mpr q))]⟩)
  · skip
    refine g_eqi (9) e ?_
    refine g_tin h (i := 26) 308 rfl (by decide) (by decide) rfl rfl ?_
    refine g_aload_n h (i := 156) rfl rfl ?_
    refine g_getR h (i := 157) rfl fl_X10_7 (fun _ _ _ => rfl) (lk_R hL) (lr_row hL) ?_
    refine g_bipush h (i := 158) rfl (v := 49) (by rfl) ?_
    refine g_iload_n h (i := 159) rfl rfl ?_
    refine g_i2l h (i := 160) rfl ?_
    refine g_last h (i := 161) rfl (lq_row hL) (vpD (by decide)) ?_
    refine g_w _ (sRow_ux _ _ _ _ (n := 49) (by rfl)) ?_
    refine g_aload_n h (i := 162) rfl rfl ?_
    refine g_getR h (i := 163) rfl fl_X10_7 (fun _ _ _ => rfl) (lk_R hL) (lr_row hL) ?_
    refine g_bipush h (i := 164) rfl (v := 30) (by rfl) ?_
    refine g_dup2 h (i := 165) rfl rfl rfl ?_
    refine g_lald h (i := 166) rfl (lq_row hL) (vpD (by decide)) ?_
    refine g_eql _ (sRow_jx _ _ _ (n := 30) (by rfl)) ?_
    refine g_eql (r' 30) (by first | rfl | rw [up1_k (by omega)] | rw [up1_k (by omega), up1_k (by omega)]) ?_
    refine g_lconst h (i := 167) rfl (v := 1) (by rfl) ?_
    refine g_ladd h (i := 168) rfl ?_
    refine g_last h (i := 169) rfl (lq_row hL) (vpD (by decide)) ?_
    refine g_w _ (sRow_ux _ _ _ _ (n := 30) (by rfl)) ?_
    refine g_goto h (i := 170) 364 rfl rfl ?_
    exact g_vret hq h (i := 191) rfl (⟨rfl, w, RS_r a w, by unfold lineO; rw [if_neg (show ¬ op = 0 by rw [e]; decide), if_neg (show ¬ op = 1 by rw [e]; decide), if_neg (show ¬ op = 2 by rw [e]; decide), if_neg (show ¬ op = 3 by rw [e]; decide), if_neg (show ¬ op = 4 by rw [e]; decide), if_neg (show ¬ op = 5 by rw [e]; decide), if_neg (show ¬ op = 6 by rw [e]; decide), if_neg (show ¬ op = 7 by rw [e]; decide), if_neg (show ¬ op = 8 by rw [e]; decide), if_pos (show op = 9 from e)]⟩)
  · skip
    refine g_eqi (10) e ?_
    refine g_tin h (i := 26) 331 rfl (by decide) (by decide) rfl rfl ?_
    refine g_aload_n h (i := 171) rfl rfl ?_
    refine g_getR h (i := 172) rfl fl_X10_7 (fun _ _ _ => rfl) (lk_R hL) (lr_row hL) ?_
    refine g_bipush h (i := 173) rfl (v := 28) (by rfl) ?_
    refine g_ldc2 h (i := 174) rfl k_X10_168 ?_
    refine g_last h (i := 175) rfl (lq_row hL) (vpD (by decide)) ?_
    refine g_w _ (sRow_ux _ _ _ _ (n := 28) (by rfl)) ?_
    refine g_goto h (i := 176) 364 rfl rfl ?_
    exact g_vret hq h (i := 191) rfl (⟨rfl, w, RS_r a w, by unfold lineO; rw [if_neg (show ¬ op = 0 by rw [e]; decide), if_neg (show ¬ op = 1 by rw [e]; decide), if_neg (show ¬ op = 2 by rw [e]; decide), if_neg (show ¬ op = 3 by rw [e]; decide), if_neg (show ¬ op = 4 by rw [e]; decide), if_neg (show ¬ op = 5 by rw [e]; decide), if_neg (show ¬ op = 6 by rw [e]; decide), if_neg (show ¬ op = 7 by rw [e]; decide), if_neg (show ¬ op = 8 by rw [e]; decide), if_neg (show ¬ op = 9 by rw [e]; decide), if_pos (show op = 10 from e)]⟩)
  · skip
    refine g_eqi (11) e ?_
    refine g_tout h (i := 26) 344 rfl (Or.inr (by decide)) rfl ?_
    refine g_aload_n h (i := 177) rfl rfl ?_
    refine g_getR h (i := 178) rfl fl_X10_7 (fun _ _ _ => rfl) (lk_R hL) (lr_row hL) ?_
    refine g_bipush h (i := 179) rfl (v := 48) (by rfl) ?_
    refine g_iload_n h (i := 180) rfl rfl ?_
    refine g_i2l h (i := 181) rfl ?_
    refine g_last h (i := 182) rfl (lq_row hL) (vpD (by decide)) ?_
    refine g_w _ (sRow_ux _ _ _ _ (n := 48) (by rfl)) ?_
    refine g_aload_n h (i := 183) rfl rfl ?_
    refine g_getR h (i := 184) rfl fl_X10_7 (fun _ _ _ => rfl) (lk_R hL) (lr_row hL) ?_
    refine g_bipush h (i := 185) rfl (v := 30) (by rfl) ?_
    refine g_dup2 h (i := 186) rfl rfl rfl ?_
    refine g_lald h (i := 187) rfl (lq_row hL) (vpD (by decide)) ?_
    refine g_eql _ (sRow_jx _ _ _ (n := 30) (by rfl)) ?_
    refine g_eql (r' 30) (by first | rfl | rw [up1_k (by omega)] | rw [up1_k (by omega), up1_k (by omega)]) ?_
    refine g_lconst h (i := 188) rfl (v := 1) (by rfl) ?_
    refine g_ladd h (i := 189) rfl ?_
    refine g_last h (i := 190) rfl (lq_row hL) (vpD (by decide)) ?_
    refine g_w _ (sRow_ux _ _ _ _ (n := 30) (by rfl)) ?_
    exact g_vret hq h (i := 191) rfl (⟨rfl, w, RS_r a w, by unfold lineO; rw [if_neg (show ¬ op = 0 by rw [e]; decide), if_neg (show ¬ op = 1 by rw [e]; decide), if_neg (show ¬ op = 2 by rw [e]; decide), if_neg (show ¬ op = 3 by rw [e]; decide), if_neg (show ¬ op = 4 by rw [e]; decide), if_neg (show ¬ op = 5 by rw [e]; decide), if_neg (show ¬ op = 6 by rw [e]; decide), if_neg (show ¬ op = 7 by rw [e]; decide), if_neg (show ¬ op = 8 by rw [e]; decide), if_neg (show ¬ op = 9 by rw [e]; decide), if_neg (show ¬ op = 10 by rw [e]; decide)]⟩)
end
section
theorem rr_errs0 {r : Nat → Int64} {ln : Int32} {e : Nat} (h : FA r) (he : e ≤ 9) : RR (errsR ln (nI e) r) := by
  have hE : isN (nI e).toInt64 9 := by rw [nI_l (by omega)]; exact isN_mk he (by omega)
  have h3 : isN 3 9 := isN_mk (n := 3) (by omega) (by omega)
  have h33 : isN 3 3 := isN_mk (n := 3) (by omega) (by omega)
  have f48 : r 48 = -1 ∨ isN (r 48) 59 := h 48
  unfold errsR
  split
  · exact ⟨fa_u (fa_u (fa_u (fa_u h z_F) z_F) hE) h33, xr_0 rfl rfl⟩
  · next g =>
    split
    · exact ⟨fa_u (fa_u (fa_u (fa_u (fa_u h z_F) z_F) hE) h3) h33, xr_0 rfl rfl⟩
    · have g2 : isN (r 48) 59 := f48.resolve_left (fun q => g (by rw [q]; rfl))
      have g3 : isN (r 48).toInt32.toInt64 61 := by rw [(isN_i g2 (by omega)).2.1]; exact isN_up g2 (by omega)
      exact ⟨fa_u (fa_u (fa_u (fa_u (fa_u (fa_u h z_F) z_F) hE) g3) z_F) (Or.inl rfl), xr_0 rfl rfl⟩
theorem isI_l {x : Int32} {m : Nat} (h : isI x m) (h2 : m < 2147483648) : isN x.toInt64 m ∧ pN x.toInt64 = pI x := by
  have e : x.toInt64 = lN (pI x) := by
    have := h.2
    rw [h.1, pI_n (by omega), nI_l (by omega)]
  have p : pN x.toInt64 = pI x := by rw [e, pN_l (by have := h.2; omega)]
  exact ⟨⟨by rw [p]; exact e, by rw [p]; exact h.2⟩, p⟩
theorem fr_i {x : Int32} (h : isI x 59) : isN x.toInt64 61 := isN_up (isI_l h (by omega)).1 (by omega)
theorem rr_goesTo {ln x : Int32} {r : Nat → Int64} (h : FA r) (h46 : r 46 = 0) (h47 : r 47 = 0) (hx : isI x 59) : RR (goesToR ln x r) := by
  unfold goesToR
  split
  · exact rr_errs0 (e := 3) h (by omega)
  · exact ⟨fa_u h (fr_i hx), xr_0 ((up1_k (by omega)).trans h46) ((up1_k (by omega)).trans h47)⟩
theorem rr_calls {ln x : Int32} {r : Nat → Int64} (h : FA r) (h46 : r 46 = 0) (h47 : r 47 = 0) (hx : isI x 59) (h30 : pN (r 30) ≤ 59) : RR (callsR ln x r) := by
  have f32 : isN (r 32) 12 := h 32
  have f30 : isN (r 30) 61 := h 30
  unfold callsR
  split
  · exact rr_errs0 (e := 3) h (by omega)
  · split
    · exact rr_errs0 (e := 5) h (by omega)
    · next g =>
      have g12 : pN (r 32) ≠ 12 := fun z => g (by rw [f32.1, z]; rfl)
      have l12 := f32.2
      have a1 := isN_1 (x := r 30) (m := 59) ⟨f30.1, h30⟩ (by omega)
      have a2 := isN_1 (x := r 32) (m := 11) ⟨f32.1, by omega⟩ (by omega)
      refine ⟨fa_u (fa_u (fa_u h ((fr_pb (by omega) (by omega)).mpr a1.1)) a2.1) (fr_i hx), xr_0 ?_ ?_⟩
      · rw [up1_k (by omega), up1_k (by omega), up1_k (by omega)]; exact h46
      · rw [up1_k (by omega), up1_k (by omega), up1_k (by omega)]; exact h47
theorem rr_back {r : Nat → Int64} (h : FA r) (h46 : r 46 = 0) (h47 : r 47 = 0) : RR (backR r) := by
  have f32 : isN (r 32) 12 := h 32
  have h2 : isN 2 3 := isN_mk (n := 2) (by omega) (by omega)
  unfold backR
  split
  · exact ⟨fa_u h h2, xr_0 ((up1_k (by omega)).trans h46) ((up1_k (by omega)).trans h47)⟩
  · next g =>
    have g0 : 0 < pN (r 32) := Nat.pos_of_ne_zero (fun z => g ((isN_0 f32).mpr z))
    have l12 := f32.2
    have a2 := isN_m f32 g0
    have pb := (fr_pb (k := 33 + (pN (r 32) - 1)) (by omega) (by omega)).mp (h _)
    refine ⟨fa_u (fa_u h a2.1) (isN_up pb (by omega)), xr_0 ?_ ?_⟩
    · rw [up1_k (by omega), up1_k (by omega)]; exact h46
    · rw [up1_k (by omega), up1_k (by omega)]; exact h47
theorem fa_b0 {r : Nat → Int64} (h : FA r) : FA (begins0 r) := by
  have f49 : r 49 = -1 ∨ isN (r 49) 7 := h 49
  exact fa_u (fa_u h f49) (Or.inl rfl)
theorem rr_begins {cf : Nat → Nat → Int32} {k sh : Nat} {r : Nat → Int64} (hc : CfR cf) (h : FA r) (h46 : r 46 = 0) (h47 : r 47 = 0) (h28 : r 28 = 1) (h30 : pN (r 30) ≤ 59) (hk : k < 16) (hs : sh ≤ 100) : RR (beginsR cf k sh r) := by
  have hb := fa_b0 h
  have f30 : isN (r 30) 61 := h 30
  have ok := plR_ok hc h hk hs
  unfold beginsR
  split
  · split
    · have a1 := isN_1 (x := r 30) (m := 59) ⟨f30.1, h30⟩ (by omega)
      refine ⟨fa_u hb (isN_up a1.1 (by omega)), xr_0 ?_ ?_⟩
      · unfold begins0; rw [up1_k (by omega), up1_k (by omega), up1_k (by omega)]; exact h46
      · unfold begins0; rw [up1_k (by omega), up1_k (by omega), up1_k (by omega)]; exact h47
    · next g =>
      obtain ⟨q, hq⟩ : ∃ q, q = plR cf k sh r := ⟨_, rfl⟩
      rw [← hq] at ok g ⊢
      obtain ⟨o1, o2, o3, o4⟩ := ok
      have hg : ∀ j, j < 4 → ((cf 12 (4 * k + j)).toInt64).toInt.natAbs ≤ 1000000 := fun j hj => by rw [i_l]; exact hc.2.2.2.1 _ (by omega)
      refine ⟨fa_u (fa_u (fa_u (fa_u (fa_u (fa_u (fa_u (fa_n (fa_n hb (fun j hj => (fr_ft (by omega) (by omega)).mpr ((fr_st hj).mp (h j)))) (fun j hj => (fr_ft (by omega) (by omega)).mpr (hg j hj))) ?_) ?_) ?_) ?_) z_F) ?_) ?_, fun z => ?_, fun _ => ⟨?_, ?_, ?_⟩, fun _ => ?_⟩
      · exact isN_mk o1 (by omega)
      · exact isN_mk o2.2.1 (by have := o2.2.1; omega)
      · exact isN_mk o2.2.2.2 (by have := o2.2.2.2; omega)
      · exact isN_mk o3 (by omega)
      · exact isN_mk o1 (by omega)
      · exact isN_mk (n := 1) (m := 2) (by omega) (by omega)
      · exact absurd (show (1 : Int64) = 0 from z) (by decide)
      · show 0 < pN (lN q.1)
        rw [pN_l (by omega)]; omega
      · show pN (r 30) ≤ 59
        exact h30
      · exact h28
      · have b1 := o2.2.1
        have b2 := o2.2.2.2
        show mB (pN (lN q.2.1)) (pN (lN q.2.2.1)) ∧ 0 < pN (lN q.2.2.2) ∧ pN 0 + pN (lN q.1) = pN (lN q.1)
        rw [pN_l (by omega), pN_l (by omega), pN_l (by omega), pN_l (by omega)]
        exact ⟨o2, o4 (by omega), by rw [show pN 0 = 0 from rfl, Nat.zero_add]⟩
  · exact rr_errs0 (e := 1) hb (by omega)
theorem rr_ite {c : Prop} [Decidable c] {x y : Nat → Int64} (h1 : c → RR x) (h2 : ¬ c → RR y) : RR (if c then x else y) := by
  by_cases h : c
  · rw [if_pos h]; exact h1 h
  · rw [if_neg h]; exact h2 h
theorem rr_line {cf : Nat → Nat → Int32} {r : Nat → Int64} (hc : CfR cf) (h : FA r) (h46 : r 46 = 0) (h47 : r 47 = 0) (h28 : r 28 = 1) (hk : pN (r 30) < pI (cf 0 12)) : RR (lineR cf r) := by
  have hk60 : pN (r 30) ≤ 59 := by have := hc.2.2.2.2.2.2.1.2; omega
  obtain ⟨l1, l2, l3, l4, l5, l6⟩ := hc.2.2.2.2.2.2.2.1 _ hk
  unfold lineR
  obtain ⟨op, hop⟩ : ∃ op, op = cf 13 (pN (r 30)) := ⟨_, rfl⟩
  obtain ⟨x, hx⟩ : ∃ x, x = cf 14 (pN (r 30)) := ⟨_, rfl⟩
  obtain ⟨y, hy⟩ : ∃ y, y = cf 15 (pN (r 30)) := ⟨_, rfl⟩
  rw [← hop] at l1 l2 l3 l4 l5 l6 ⊢
  rw [← hx] at l2 l3 l4 l5 l6 ⊢
  rw [← hy] at l2 l4 ⊢
  obtain ⟨R, hR⟩ : ∃ R, R = up1 r 45 (r 45 + 1) := ⟨_, rfl⟩
  have fa : FA R := by rw [hR]; exact fa_u h True.intro
  have rd : ∀ z, z ≠ 45 → R z = r z := fun z hz => by rw [hR, up1_k hz]
  rw [← hR]
  have g46 : R 46 = 0 := (rd 46 (by omega)).trans h46
  have g47 : R 47 = 0 := (rd 47 (by omega)).trans h47
  have g28 : R 28 = 1 := (rd 28 (by omega)).trans h28
  have g30 : R 30 = r 30 := rd 30 (by omega)
  have gk : pN (R 30) ≤ 59 := by rw [g30]; exact hk60
  have f30 : isN (R 30) 61 := fa 30
  have a1 : isN (R 30 + 1) 61 := isN_up (isN_1 (x := R 30) (m := 59) ⟨f30.1, gk⟩ (by omega)).1 (by omega)
  have a1' := (isN_1 (x := R 30) (m := 59) ⟨f30.1, gk⟩ (by omega))
  have a2 : isN (R 30 + 2) 61 := by
    have := (isN_1 (x := R 30 + 1) (m := 60) a1'.1 (by omega)).1
    rw [Int64.add_assoc] at this
    exact this
  have pass : ∀ {q : Nat → Int64}, FA q → q 46 = 0 → q 47 = 0 → ∀ v, isN v 61 → RR (up1 q 30 v) := fun hq q1 q2 v hv => ⟨fa_u hq hv, xr_0 ((up1_k (by omega)).trans q1) ((up1_k (by omega)).trans q2)⟩
  unfold lineO
  refine rr_ite (fun e => ?_) (fun n0 => rr_ite (fun e => ?_) (fun n1 => rr_ite (fun e => ?_) (fun n2 => rr_ite (fun e => ?_) (fun n3 => rr_ite (fun e => ?_) (fun n4 => rr_ite (fun e => ?_) (fun n5 => rr_ite (fun e => ?_) (fun n6 => rr_ite (fun e => ?_) (fun n7 => rr_ite (fun e => ?_) (fun n8 => rr_ite (fun e => ?_) (fun n9 => rr_ite (fun e => ?_) (fun n10 => ?_)))))))))))
  · obtain ⟨⟨z1, z2⟩, ⟨z3, z4⟩, z5⟩ := l2 e
    exact rr_begins hc fa g46 g47 g28 gk (by omega) z4
  · have z := l3 e
    have zl := isI_l z (by omega)
    by_cases g : x ≤ 0
    · rw [if_pos g, if_pos g]
      have x0 : x.toInt64 = 0 := by
        have e1 : pI x = 0 := by
          have g2 := i32le.mp g
          unfold pI
          have : (0 : Int32).toInt = 0 := rfl
          omega
        rw [zl.1.1, zl.2, e1]; rfl
      rw [x0]
      exact pass (fa_u (fa_u fa z_F) z_F) rfl rfl _ a1
    · rw [if_neg g, if_neg g, Int64.add_zero]
      have xp : 0 < pI x := by
        have g2 := i32lt.mp (i32nl.mp g)
        have : (0 : Int32).toInt = 0 := rfl
        unfold pI
        omega
      refine ⟨fa_u (fa_u (fa_u fa (isN_mk (n := 2) (m := 2) (by omega) (by omega))) (isN_up zl.1 (by omega))) f30, fun q => absurd (show (2 : Int64) = 0 from q) (by decide), fun _ => ⟨?_, gk, g28⟩, fun q => absurd (show (2 : Int64) = 1 from q) (by decide)⟩
      show 0 < pN x.toInt64
      rw [zl.2]; exact xp
  · obtain ⟨z, zy⟩ := l4 (Or.inl e)
    have z2 := z.2
    have fy : isN y.toInt64 1 := by
      rcases zy with q | q
      · rw [q]; exact isN_mk (n := 0) (by omega) (by omega)
      · rw [q]; exact isN_mk (n := 1) (by omega) (by omega)
    exact pass (fa_u fa ((fr_io (by omega) (by omega)).mpr fy)) ((up1_k (by omega)).trans g46) ((up1_k (by omega)).trans g47) _ a1
  · exact pass fa g46 g47 _ (by split <;> assumption)
  · exact rr_goesTo fa g46 g47 (l5 (Or.inl e))
  · exact rr_calls fa g46 g47 (l5 (Or.inr (Or.inl e))) gk
  · exact rr_back fa g46 g47
  · have z2 := (l6 (Or.inl e)).2
    refine pass (fa_u fa ((fr_rg (by omega) (by omega)).mpr ?_)) ((up1_k (by omega)).trans g46) ((up1_k (by omega)).trans g47) _ a1
    rw [Int32.toInt32_toInt64]
  · exact pass fa g46 g47 _ (by split <;> assumption)
  · have z := l6 (Or.inr (Or.inr e))
    exact pass (fa_u (k := 49) fa (show FR 49 x.toInt64 from Or.inr (isI_l z (by omega)).1)) ((up1_k (by omega)).trans g46) ((up1_k (by omega)).trans g47) _ a1
  · exact ⟨fa_u fa (isN_mk (n := 2) (m := 3) (by omega) (by omega)), xr_0 ((up1_k (by omega)).trans g46) ((up1_k (by omega)).trans g47)⟩
  · have e : op = 11 := by
      rcases n12 l1.2 with m | m | m | m | m | m | m | m | m | m | m | m
      all_goals (have z := l1.1; rw [m] at z)
      all_goals first | exact z | exact absurd z (by assumption)
    have z := l5 (Or.inr (Or.inr e))
    exact pass (fa_u (k := 48) fa (show FR 48 x.toInt64 from Or.inr (isI_l z (by omega)).1)) ((up1_k (by omega)).trans g46) ((up1_k (by omega)).trans g47) _ a1
end
section
/-- the scripts of a tick -/
def scrR (cf : Nat → Nat → Int32) (r : Nat → Int64) : Nat → Nat → Int64
  | 0 => r
  | k + 1 => if (cf 16 k).toInt64 = r 29 then up1 (scrR cf r k) (4 + pI (cf 17 k)) (if cf 18 k = 0 then 0 else 1) else scrR cf r k
/-- a line with what it does to the error -/
def ln1 (cf : Nat → Nat → Int32) (r : Nat → Int64) : Nat → Int64 := lineR cf (up1 r 31 0)
def ln2 (cf : Nat → Nat → Int32) (r : Nat → Int64) : Nat → Int64 := up1 (ln1 cf r) 31 (if ln1 cf r 31 = 0 then r 31 else ln1 cf r 31)
abbrev lnT (cf : Nat → Nat → Int32) (r : Nat → Int64) : Prop := ln1 cf r 31 = 0 ∧ ln2 cf r 28 = 1 ∧ ln2 cf r 46 ≠ 0
def ln3 (cf : Nat → Nat → Int32) (r : Nat → Int64) : Nat → Int64 := if lnT cf r then goesTickR cf (ln2 cf r) else ln2 cf r
abbrev lnO (cf : Nat → Nat → Int32) (r : Nat → Int64) : Prop := ln1 cf r 31 ≠ 0 ∨ ln2 cf r 28 ≠ 1 ∨ (ln2 cf r 46 ≠ 0 ∧ ¬ gtB (ln2 cf r))
def goR (cf : Nat → Nat → Int32) : Nat → (Nat → Int64) → (Nat → Int64)
  | 0, r => if (cf 0 12).toInt64 ≤ r 30 then up1 (up1 r 30 (cf 0 12).toInt64) 28 2 else errsR (cf 0 12) 4 r
  | n + 1, r => if (cf 0 12).toInt64 ≤ r 30 then up1 (up1 r 30 (cf 0 12).toInt64) 28 2 else if lnO cf r then ln3 cf r else goR cf n (ln3 cf r)
def tk1 (cf : Nat → Nat → Int32) (r : Nat → Int64) : Nat → Int64 := scrR cf (up1 r 29 (r 29 + 1)) (pI (cf 0 16))
def ticksR (cf : Nat → Nat → Int32) (r : Nat → Int64) : Nat → Int64 := if tk1 cf r 46 = 0 then goR cf 100 (tk1 cf r) else if gtB (tk1 cf r) then goR cf 100 (goesTickR cf (tk1 cf r)) else goesTickR cf (tk1 cf r)
theorem scr_o {cf : Nat → Nat → Int32} {r : Nat → Int64} {n : Nat} (hc : ∀ k, k < n → isI (cf 17 k) 7) {y : Nat} (hy : ¬ (4 ≤ y ∧ y < 12)) : scrR cf r n y = r y := by
  induction n with
  | zero => rfl
  | succ n ih =>
    have i7 := (hc n (by omega)).2
    unfold scrR
    split
    · rw [up1_k (by omega)]; exact ih (fun k hk => hc k (by omega))
    · exact ih (fun k hk => hc k (by omega))
theorem scr_fa {cf : Nat → Nat → Int32} {r : Nat → Int64} {n : Nat} (hc : ∀ k, k < n → isI (cf 17 k) 7) (h : FA r) : FA (scrR cf r n) := by
  induction n with
  | zero => exact h
  | succ n ih =>
    have i7 := (hc n (by omega)).2
    unfold scrR
    split
    · refine fa_u (ih (fun k hk => hc k (by omega))) ((fr_io (by omega) (by omega)).mpr ?_)
      split
      · exact isN_mk (n := 0) (by omega) (by omega)
      · exact isN_mk (n := 1) (by omega) (by omega)
    · exact ih (fun k hk => hc k (by omega))
theorem xr_c {r q : Nat → Int64} (h : XR r) (e : ∀ y, y = 28 ∨ y = 30 ∨ y = 46 ∨ y = 47 ∨ (59 ≤ y ∧ y < 64) → q y = r y) : XR q := by
  have e28 := e 28 (by omega)
  have e30 := e 30 (by omega)
  have e46 := e 46 (by omega)
  have e47 := e 47 (by omega)
  have e59 := e 59 (by omega)
  have e60 := e 60 (by omega)
  have e61 := e 61 (by omega)
  have e62 := e 62 (by omega)
  have e63 := e 63 (by omega)
  unfold XR
  rw [e28, e30, e46, e47, e59, e60, e61, e62, e63]
  exact h
theorem tk1_rr {cf : Nat → Nat → Int32} {r : Nat → Int64} (hc : CfR cf) (h : RR r) : RR (tk1 cf r) := by
  have h7 : ∀ k, k < pI (cf 0 16) → isI (cf 17 k) 7 := fun k hk => (hc.2.2.2.2.2.2.2.2.2.1 k hk).1
  refine ⟨scr_fa h7 (fa_u h.1 True.intro), xr_c h.2 (fun y hy => ?_)⟩
  unfold tk1
  rw [scr_o h7 (by omega), up1_k (by omega)]
theorem rr_gt {cf : Nat → Nat → Int32} {r : Nat → Int64} (h : RR r) (hb : r 46 ≠ 0) : RR (goesTickR cf r) := by
  obtain ⟨n1, n2, n3⟩ := h.2.2.1 hb
  have f47 : isN (r 47) 2000000 := h.1 47
  have f46 : isN (r 46) 2 := h.1 46
  have e47 := isN_m f47 n1
  unfold goesTickR
  refine rr_ite (fun _ => rr_over h (by omega)) (fun _ => rr_ite (fun q => rr_goesOn h q) (fun q => ?_))
  have fa := fa_u (k := 47) h.1 e47.1
  refine rr_ite (fun z => ?_) (fun z => ?_)
  · have f30 : isN (r 30) 61 := h.1 30
    refine ⟨fa_u (fa_u (fa_u fa z_F) z_F) ?_, xr_0 rfl rfl⟩
    exact isN_up (isN_1 (x := r 30) (m := 60) ⟨f30.1, by omega⟩ (by omega)).1 (by omega)
  · refine ⟨fa, fun y => absurd ((up1_k (by omega)).symm.trans y) hb, fun _ => ⟨?_, ?_, ?_⟩, fun y => absurd ((up1_k (by omega)).symm.trans y) q⟩
    · rw [up1_s]; exact Nat.pos_of_ne_zero (fun y => z ((isN_0 e47.1).mpr y))
    · rw [up1_k (by omega)]; exact n2
    · rw [up1_k (by omega)]; exact n3
theorem rr_ln2 {cf : Nat → Nat → Int32} {r : Nat → Int64} (hc : CfR cf) (h : RR r) (h46 : r 46 = 0) (h28 : r 28 = 1) (hk : pN (r 30) < pI (cf 0 12)) : RR (ln2 cf r) := by
  have f31 : isN (r 31) 9 := h.1 31
  have h1 : RR (ln1 cf r) := rr_line hc (fa_u h.1 z_F) ((up1_k (by omega)).trans h46) ((up1_k (by omega)).trans (h.2.1 h46)) ((up1_k (by omega)).trans h28) (by rw [up1_k (by omega)]; exact hk)
  have g31 : isN (ln1 cf r 31) 9 := h1.1 31
  refine ⟨fa_u (k := 31) h1.1 (show isN _ 9 from by split <;> assumption), xr_c h1.2 (fun y hy => up1_k (by omega))⟩
theorem ln3_idle {cf : Nat → Nat → Int32} {r : Nat → Int64} (h : RR (ln2 cf r)) (ho : ¬ lnO cf r) : RR (ln3 cf r) ∧ ln3 cf r 46 = 0 ∧ ln3 cf r 28 = 1 := by
  have o1 : ln1 cf r 31 = 0 := Decidable.not_not.mp (fun q => ho (Or.inl q))
  have o2 : ln2 cf r 28 = 1 := Decidable.not_not.mp (fun q => ho (Or.inr (Or.inl q)))
  unfold ln3
  by_cases g : ln2 cf r 46 = 0
  · rw [if_neg (fun q => q.2.2 g)]
    exact ⟨h, g, o2⟩
  · have o3 : gtB (ln2 cf r) := Decidable.not_not.mp (fun q => ho (Or.inr (Or.inr ⟨g, q⟩)))
    rw [if_pos ⟨o1, o2, g⟩]
    refine ⟨rr_gt h g, ?_, ?_⟩
    · unfold goesTickR; rw [if_pos o3]; rfl
    · unfold goesTickR; rw [if_pos o3]; exact o2
end
section
-- one tick
set_option maxRecDepth 100000 in
set_option maxHeartbeats 4000000 in
theorem ct_X10_ticks (l : Launch) (E : EE) (w : Wd) (a : Nat) (r : Nat → Int64) (hlo : E.2.2 ≤ wN (sRow w a r)) (hL : LayR w a) (hr : RR r) (hc : CfR (cfW w a)) (h28 : r 28 = 1) : Ct l E yX10_ticks cX10_ticks 6 none ({ frames := 6, cells := 0, slots := 0, locals := 162 } : Room) [.ref a] (sRow w a r) 0 0 (fun q w2 => q = none ∧ ∃ w3, RS a w w3 ∧ w2 = sRow w3 a (ticksR (cfW w a) r)) := by
  refine ct_in (il := il_X10_ticks) (by decide) dk_X10_ticks (Nat.le_of_ble_eq_true rfl) hlo ?_
  intro X h hq

  obtain ⟨cf, hcf⟩ : ∃ cf, cf = cfW w a := ⟨_, rfl⟩
  rw [← hcf] at hq hc
  obtain ⟨n0, hn0⟩ : ∃ n0, n0 = pI (cf 0 16) := ⟨_, rfl⟩
  have hsc : cf 0 16 = nI n0 ∧ n0 ≤ 40 := by rw [hn0]; exact hc.2.2.2.2.2.2.2.2.1
  have hln : isI (cf 0 12) 60 := hc.2.2.2.2.2.2.1
  have hlnl := isI_l hln (by omega)
  have h7 : ∀ k, k < n0 → isI (cf 17 k) 7 ∧ (cf 18 k = 0 ∨ cf 18 k = 1) := by rw [hn0]; exact hc.2.2.2.2.2.2.2.2.2.1
  obtain ⟨r1, hr1⟩ : ∃ r1, r1 = up1 r 29 (r 29 + 1) := ⟨_, rfl⟩
  have htk : tk1 cf r = scrR cf r1 n0 := by rw [hr1, hn0]; rfl
  have hrr := tk1_rr hc hr
  rw [htk] at hrr
  have ht28 : scrR cf r1 n0 28 = 1 := by rw [scr_o (fun k hk => (h7 k hk).1) (by omega), hr1, up1_k (by omega)]; exact h28
  -- the end
  have kend : ∀ w3, RS a w w3 → G X 0 0 99 (lf [(0, .ref a), (1, .int 1)]) [] (sRow w3 a (ticksR cf r)) := by
    intro w3 hRS
    refine g_iload_n h (i := 60) rfl rfl ?_
    refine g_if_ne h (i := 61) 272 rfl rfl (fun c_100 => ?_) (fun c_100 => absurd c_100 (by decide))
    exact g_vret hq h (i := 155) rfl (⟨rfl, w3, hRS, rfl⟩)
  -- the lines
  have loop : ∀ (n : Nat) (w3 : Wd) (q : Nat → Int64), n ≤ 100 → RS a w w3 → RR q → q 46 = 0 → q 28 = 1 → goR cf n q = ticksR cf r → G X 0 0 99 (lf [(0, .ref a), (1, .int 0), (2, .int (nI (100 - n)))]) [] (sRow w3 a q) := by
    intro n
    induction n with
    | zero =>
      intro w3 q hn hRS hq0 q46 q28 hg
      have hL3 := (RS_L hRS).1 a hL
      have hL0 := hL
      have hL := hL3
      have hI : cfW w3 a = cf := by rw [RS_cf hRS, hcf]
      have hlo3 : E.2.2 ≤ wN w3 := by rw [(RS_L hRS).2.1]; exact hlo
      refine g_iload_n h (i := 60) rfl rfl ?_
      refine g_if_ne h (i := 61) 272 rfl rfl (fun c_100 => absurd rfl c_100) (fun c_100 => ?_)
      refine g_aload_n h (i := 62) rfl rfl ?_
      refine g_getR h (i := 63) rfl fl_X10_7 (fun _ _ _ => rfl) (lk_R hL) (lr_row hL) ?_
      refine g_bipush h (i := 64) rfl (v := 30) (by rfl) ?_
      refine g_lald h (i := 65) rfl (lq_row hL) (vpD (by decide)) ?_
      refine g_eql _ (sRow_jx _ _ _ (n := 30) (by rfl)) ?_
      refine g_aload_n h (i := 66) rfl rfl ?_
      refine g_getI h (i := 67) rfl fl_X10_207 (fun _ _ _ => rfl) (lk_R hL) ?_
      refine g_eqi (wI w3 a 12) rfl ?_
      refine g_eqi (cf 0 12) (by rw [← hI]; rfl) ?_
      refine g_i2l h (i := 68) rfl ?_
      refine g_lcmp h (i := 69) rfl ?_
      refine g_if_lt h (i := 70) 146 rfl rfl (fun c_116 => ?_) (fun c_116 => ?_)
      · skip
        refine g_iload_n h (i := 86) rfl rfl ?_
        refine g_bipush h (i := 87) rfl (v := 100) (by rfl) ?_
        refine g_icmp_ne h (i := 88) 162 rfl rfl (fun c_149 => absurd rfl c_149) (fun c_149 => ?_)
        refine g_aload_n h (i := 89) rfl rfl ?_
        refine g_iconst h (i := 90) rfl (v := 4) (by rfl) ?_
        refine g_callVn h hq (i := 91) rfl mv_X10_219 cls10 (lk_R hL) (ct_X10_errs l E w3 a q 4 hlo3 hL) rfl rfl ⟨rfl, rfl, Nat.le_of_ble_eq_true rfl, Nat.le_of_ble_eq_true rfl⟩ (Nat.le_of_ble_eq_true rfl) ⟨Nat.zero_le _, Nat.zero_le _⟩ ?_
        refine g_iconst h (i := 92) rfl (v := 1) (by rfl) ?_
        refine g_istore_n h (i := 93) rfl hq rfl ?_
        refine g_goto h (i := 94) 99 rfl rfl ?_
        exact g_lv [(0, .ref a), (1, .int 1)] ⟨rfl, rfl, trivial⟩ (by
          have := kend w3 hRS
          rw [← hg] at this
          unfold goR at this
          rw [if_neg (i64nl.mpr ((lg_cmp_lt _ _).mp c_116)), ← hI] at this
          exact this)
      · skip
        refine g_aload_n h (i := 71) rfl rfl ?_
        refine g_getR h (i := 72) rfl fl_X10_7 (fun _ _ _ => rfl) (lk_R hL) (lr_row hL) ?_
        refine g_bipush h (i := 73) rfl (v := 30) (by rfl) ?_
        refine g_aload_n h (i := 74) rfl rfl ?_
        refine g_getI h (i := 75) rfl fl_X10_207 (fun _ _ _ => rfl) (lk_R hL) ?_
        refine g_eqi (wI w3 a 12) rfl ?_
        refine g_eqi (cf 0 12) (by rw [← hI]; rfl) ?_
        refine g_i2l h (i := 76) rfl ?_
        refine g_last h (i := 77) rfl (lq_row hL) (vpD (by decide)) ?_
        refine g_w _ (sRow_ux _ _ _ _ (n := 30) (by rfl)) ?_
        refine g_aload_n h (i := 78) rfl rfl ?_
        refine g_getR h (i := 79) rfl fl_X10_7 (fun _ _ _ => rfl) (lk_R hL) (lr_row hL) ?_
        refine g_bipush h (i := 80) rfl (v := 28) (by rfl) ?_
        refine g_ldc2 h (i := 81) rfl k_X10_168 ?_
        refine g_last h (i := 82) rfl (lq_row hL) (vpD (by decide)) ?_
        refine g_w _ (sRow_ux _ _ _ _ (n := 28) (by rfl)) ?_
        refine g_iconst h (i := 83) rfl (v := 1) (by rfl) ?_
        refine g_istore_n h (i := 84) rfl hq rfl ?_
        refine g_goto h (i := 85) 99 rfl rfl ?_
        exact g_lv [(0, .ref a), (1, .int 1)] ⟨rfl, rfl, trivial⟩ (by
          have := kend w3 hRS
          rw [← hg] at this
          unfold goR at this
          rw [if_pos (i64nlt.mp (fun z => c_116 ((lg_cmp_lt _ _).mpr z)))] at this
          exact this)
    | succ n ih =>
      intro w3 q hn hRS hq0 q46 q28 hg
      have hL3 := (RS_L hRS).1 a hL
      have hL0 := hL
      have hL := hL3
      have hI : cfW w3 a = cf := by rw [RS_cf hRS, hcf]
      have hlo3 : E.2.2 ≤ wN w3 := by rw [(RS_L hRS).2.1]; exact hlo
      have hne : ¬ nI (100 - (n + 1)) = 100 := fun z => absurd ((nI_eq (b := 100) (by omega) (by omega)).mp z) (by omega)
      have f30 : isN (q 30) 61 := hq0.1 30
      have nxt : nI (100 - (n + 1)) + 1 = nI (100 - n) := by rw [nI_1, show 100 - (n + 1) + 1 = 100 - n by omega]
      -- behind the line
      have k185 : pN (q 30) < pI (cf 0 12) → ∀ w4, RS a w w4 → G X 0 0 185 (lf [(0, .ref a), (2, .int (nI (100 - n))), (3, .long (q 31))]) [] (sRow w4 a (ln1 cf q)) := by
        intro hlt w4 hRS4
        have hL4 := (RS_L hRS4).1 a hL0
        have hL := hL4
        have hI4 : cfW w4 a = cf := by rw [RS_cf hRS4, hcf]
        have hlo4 : E.2.2 ≤ wN w4 := by rw [(RS_L hRS4).2.1]; exact hlo
        have hr2 := rr_ln2 hc hq0 q46 q28 hlt
        have hgo : goR cf (n + 1) q = if lnO cf q then ln3 cf q else goR cf n (ln3 cf q) := by
          show (if (cf 0 12).toInt64 ≤ q 30 then _ else _) = _
          rw [if_neg (fun z => ?_)]
          rw [hlnl.1.1, hlnl.2, f30.1] at z
          have := (pk_lLE (by have := hln.2; omega) (by have := f30.2; omega)).mp z
          omega
        have kO : ∀ w5, RS a w w5 → lnO cf q → G X 0 0 268 (lf [(0, .ref a)]) [.int 1] (sRow w5 a (ln3 cf q)) := by
          intro w5 hRS5 ho
          refine g_istore_n h (i := 153) rfl hq rfl ?_
          refine g_goto h (i := 154) 99 rfl rfl ?_
          exact g_lv [(0, .ref a), (1, .int 1)] ⟨rfl, rfl, trivial⟩ (by have := kend w5 hRS5; rw [← hg, hgo, if_pos ho] at this; exact this)
        have kN : ∀ w5, RS a w w5 → ¬ lnO cf q → G X 0 0 268 (lf [(0, .ref a), (2, .int (nI (100 - n)))]) [.int 0] (sRow w5 a (ln3 cf q)) := by
          intro w5 hRS5 ho
          obtain ⟨i1, i2, i3⟩ := ln3_idle hr2 ho
          refine g_istore_n h (i := 153) rfl hq rfl ?_
          refine g_goto h (i := 154) 99 rfl rfl ?_
          exact g_lv [(0, .ref a), (1, .int 0), (2, .int (nI (100 - n)))] ⟨rfl, rfl, rfl, trivial⟩ (ih w5 (ln3 cf q) (by omega) hRS5 i1 i2 i3 (by rw [← hg, hgo, if_neg ho]))
        have kM : ∀ v : Int32, v = bI (ln1 cf q 31 ≠ 0) → G X 0 0 227 (lf [(0, .ref a), (2, .int (nI (100 - n))), (5, .int v)]) [] (sRow w4 a (ln2 cf q)) := by
          intro v hv
          refine g_iload h (i := 131) rfl rfl ?_
          refine g_if_ne h (i := 132) 263 rfl rfl (fun c_229 => ?_) (fun c_229 => ?_)
          · skip
            refine g_iconst h (i := 150) rfl (v := 1) (by rfl) ?_
            refine g_goto h (i := 151) 268 rfl rfl ?_
            exact g_lv [(0, .ref a)] ⟨rfl, trivial⟩ (by
              have e1 : ln1 cf q 31 ≠ 0 := bI_1.mp (by rw [← hv]; exact c_229)
              have := kO w4 hRS4 (Or.inl e1)
              rw [show ln3 cf q = ln2 cf q from if_neg (fun z => e1 z.1)] at this
              exact this)
          · skip
            refine g_aload_n h (i := 133) rfl rfl ?_
            refine g_getR h (i := 134) rfl fl_X10_7 (fun _ _ _ => rfl) (lk_R hL) (lr_row hL) ?_
            refine g_bipush h (i := 135) rfl (v := 28) (by rfl) ?_
            refine g_lald h (i := 136) rfl (lq_row hL) (vpD (by decide)) ?_
            refine g_eql _ (sRow_jx _ _ _ (n := 28) (by rfl)) ?_
            refine g_lconst h (i := 137) rfl (v := 1) (by rfl) ?_
            refine g_lcmp h (i := 138) rfl ?_
            refine g_if_ne h (i := 139) 263 rfl rfl (fun c_241 => ?_) (fun c_241 => ?_)
            · skip
              refine g_iconst h (i := 150) rfl (v := 1) (by rfl) ?_
              refine g_goto h (i := 151) 268 rfl rfl ?_
              exact g_lv [(0, .ref a)] ⟨rfl, trivial⟩ (by
                have e2 : ln2 cf q 28 ≠ 1 := fun z => c_241 ((lg_cmp_eq _ _).mpr z)
                have := kO w4 hRS4 (Or.inr (Or.inl e2))
                rw [show ln3 cf q = ln2 cf q from if_neg (fun z => e2 z.2.1)] at this
                exact this)
            · skip
              refine g_aload_n h (i := 140) rfl rfl ?_
              refine g_getR h (i := 141) rfl fl_X10_7 (fun _ _ _ => rfl) (lk_R hL) (lr_row hL) ?_
              refine g_bipush h (i := 142) rfl (v := 46) (by rfl) ?_
              refine g_lald h (i := 143) rfl (lq_row hL) (vpD (by decide)) ?_
              refine g_eql _ (sRow_jx _ _ _ (n := 46) (by rfl)) ?_
              refine g_lconst h (i := 144) rfl (v := 0) (by rfl) ?_
              refine g_lcmp h (i := 145) rfl ?_
              refine g_if_eq h (i := 146) 267 rfl rfl (fun c_253 => ?_) (fun c_253 => ?_)
              · skip
                refine g_iconst h (i := 152) rfl (v := 0) (by rfl) ?_
                exact g_lv [(0, .ref a), (2, .int (nI (100 - n)))] ⟨rfl, rfl, trivial⟩ (by
                  have e1 : ln1 cf q 31 = 0 := Decidable.not_not.mp (bI_0.mp (by rw [← hv]; exact c_229))
                  have e2 : ln2 cf q 28 = 1 := (lg_cmp_eq _ _).mp c_241
                  have e3 : ln2 cf q 46 = 0 := (lg_cmp_eq _ _).mp c_253
                  have := kN w4 hRS4 (fun z => z.elim (fun y => y e1) (fun z => z.elim (fun y => y e2) (fun y => y.1 e3)))
                  rw [show ln3 cf q = ln2 cf q from if_neg (fun z => z.2.2 e3)] at this
                  exact this)
              · skip
                refine g_aload_n h (i := 147) rfl rfl ?_
                refine g_callVp (w0 := w) h hq (i := 148) rfl mv_X10_249 cls10 (lk_R hL) (ct_X10_goesTick l E w4 a (ln2 cf q) hlo4 hL hr2 (by rw [hI4]; exact hc.1)) rfl rfl ⟨rfl, rfl, Nat.le_of_ble_eq_true rfl, Nat.le_of_ble_eq_true rfl⟩ (Nat.le_of_ble_eq_true rfl) ⟨Nat.zero_le _, Nat.zero_le _⟩ (fun r257 w257 hp257 => ?_)
                obtain ⟨rfl, w5, hRS5, rfl⟩ := hp257
                refine g_if_eq h (i := 149) 267 rfl rfl (fun c_260 => ?_) (fun c_260 => ?_)
                · skip
                  refine g_iconst h (i := 152) rfl (v := 0) (by rfl) ?_
                  exact g_lv [(0, .ref a), (2, .int (nI (100 - n)))] ⟨rfl, rfl, trivial⟩ (by
                    have e1 : ln1 cf q 31 = 0 := Decidable.not_not.mp (bI_0.mp (by rw [← hv]; exact c_229))
                    have e2 : ln2 cf q 28 = 1 := (lg_cmp_eq _ _).mp c_241
                    have e3 : ln2 cf q 46 ≠ 0 := fun z => c_253 ((lg_cmp_eq _ _).mpr z)
                    have e4 : ln3 cf q = goesTickR cf (ln2 cf q) := if_pos ⟨e1, e2, e3⟩
                    have := kN w5 (RS_t hRS4 hRS5) (fun z => z.elim (fun y => y e1) (fun z => z.elim (fun y => y e2) (fun y => (bI_0.mp c_260) y.2)))
                    rw [e4] at this
                    rw [hI4]
                    exact this)
                · skip
                  refine g_iconst h (i := 150) rfl (v := 1) (by rfl) ?_
                  refine g_goto h (i := 151) 268 rfl rfl ?_
                  exact g_lv [(0, .ref a)] ⟨rfl, trivial⟩ (by
                    have e1 : ln1 cf q 31 = 0 := Decidable.not_not.mp (bI_0.mp (by rw [← hv]; exact c_229))
                    have e2 : ln2 cf q 28 = 1 := (lg_cmp_eq _ _).mp c_241
                    have e3 : ln2 cf q 46 ≠ 0 := fun z => c_253 ((lg_cmp_eq _ _).mpr z)
                    have e4 : ln3 cf q = goesTickR cf (ln2 cf q) := if_pos ⟨e1, e2, e3⟩
                    have := kO w5 (RS_t hRS4 hRS5) (Or.inr (Or.inr ⟨e3, bI_1.mp c_260⟩))
                    rw [e4] at this
                    rw [hI4]
                    exact this)
        refine g_aload_n h (i := 108) rfl rfl ?_
        refine g_getR h (i := 109) rfl fl_X10_7 (fun _ _ _ => rfl) (lk_R hL) (lr_row hL) ?_
        refine g_bipush h (i := 110) rfl (v := 31) (by rfl) ?_
        refine g_lald h (i := 111) rfl (lq_row hL) (vpD (by decide)) ?_
        refine g_eql _ (sRow_jx _ _ _ (n := 31) (by rfl)) ?_
        refine g_lconst h (i := 112) rfl (v := 0) (by rfl) ?_
        refine g_lcmp h (i := 113) rfl ?_
        refine g_if_eq h (i := 114) 201 rfl rfl (fun c_194 => ?_) (fun c_194 => ?_)
        · skip
          refine g_iconst h (i := 117) rfl (v := 0) (by rfl) ?_
          refine g_istore h (i := 118) rfl hq rfl ?_
          refine g_aload_n h (i := 119) rfl rfl ?_
          refine g_getR h (i := 120) rfl fl_X10_7 (fun _ _ _ => rfl) (lk_R hL) (lr_row hL) ?_
          refine g_bipush h (i := 121) rfl (v := 31) (by rfl) ?_
          refine g_iload h (i := 122) rfl rfl ?_
          refine g_if_eq h (i := 123) 225 rfl rfl (fun c_212 => ?_) (fun c_212 => absurd rfl c_212)
          refine g_lload_n h (i := 129) rfl rfl ?_
          refine g_last h (i := 130) rfl (lq_row hL) (vpD (by decide)) ?_
          refine g_w _ (sRow_ux _ _ _ _ (n := 31) (by rfl)) ?_
          refine g_w (sRow w4 a (ln2 cf q)) (congrArg (fun z => sRow w4 a (up1 (ln1 cf q) 31 z)) (if_pos ((lg_cmp_eq _ _).mp c_194)).symm) ?_
          exact g_lv [(0, .ref a), (2, .int (nI (100 - n))), (5, .int 0)] ⟨rfl, rfl, rfl, trivial⟩ (kM 0 (bI_f (fun z => z ((lg_cmp_eq _ _).mp c_194))).symm)
        · skip
          refine g_iconst h (i := 115) rfl (v := 1) (by rfl) ?_
          refine g_goto h (i := 116) 202 rfl rfl ?_
          refine g_istore h (i := 118) rfl hq rfl ?_
          refine g_aload_n h (i := 119) rfl rfl ?_
          refine g_getR h (i := 120) rfl fl_X10_7 (fun _ _ _ => rfl) (lk_R hL) (lr_row hL) ?_
          refine g_bipush h (i := 121) rfl (v := 31) (by rfl) ?_
          refine g_iload h (i := 122) rfl rfl ?_
          refine g_if_eq h (i := 123) 225 rfl rfl (fun c_212 => absurd c_212 (by decide)) (fun c_212 => ?_)
          refine g_aload_n h (i := 124) rfl rfl ?_
          refine g_getR h (i := 125) rfl fl_X10_7 (fun _ _ _ => rfl) (lk_R hL) (lr_row hL) ?_
          refine g_bipush h (i := 126) rfl (v := 31) (by rfl) ?_
          refine g_lald h (i := 127) rfl (lq_row hL) (vpD (by decide)) ?_
          refine g_eql _ (sRow_jx _ _ _ (n := 31) (by rfl)) ?_
          refine g_goto h (i := 128) 226 rfl rfl ?_
          refine g_last h (i := 130) rfl (lq_row hL) (vpD (by decide)) ?_
          refine g_w _ (sRow_ux _ _ _ _ (n := 31) (by rfl)) ?_
          refine g_w (sRow w4 a (ln2 cf q)) (congrArg (fun z => sRow w4 a (up1 (ln1 cf q) 31 z)) (if_neg (fun z => c_194 ((lg_cmp_eq _ _).mpr z))).symm) ?_
          exact g_lv [(0, .ref a), (2, .int (nI (100 - n))), (5, .int 1)] ⟨rfl, rfl, rfl, trivial⟩ (kM 1 (bI_t (show ln1 cf q 31 ≠ 0 from fun z => c_194 ((lg_cmp_eq _ _).mpr z))).symm)
      have hle : lg_cmp (q 30) (cf 0 12).toInt64 < 0 → pN (q 30) < pI (cf 0 12) := fun z => by
        have z := (lg_cmp_lt _ _).mp z
        rw [hlnl.1.1, hlnl.2, f30.1] at z
        exact (pk_lLT (by have := f30.2; omega) (by have := hln.2; omega)).mp z
      refine g_iload_n h (i := 60) rfl rfl ?_
      refine g_if_ne h (i := 61) 272 rfl rfl (fun c_100 => absurd rfl c_100) (fun c_100 => ?_)
      refine g_aload_n h (i := 62) rfl rfl ?_
      refine g_getR h (i := 63) rfl fl_X10_7 (fun _ _ _ => rfl) (lk_R hL) (lr_row hL) ?_
      refine g_bipush h (i := 64) rfl (v := 30) (by rfl) ?_
      refine g_lald h (i := 65) rfl (lq_row hL) (vpD (by decide)) ?_
      refine g_eql _ (sRow_jx _ _ _ (n := 30) (by rfl)) ?_
      refine g_aload_n h (i := 66) rfl rfl ?_
      refine g_getI h (i := 67) rfl fl_X10_207 (fun _ _ _ => rfl) (lk_R hL) ?_
      refine g_eqi (wI w3 a 12) rfl ?_
      refine g_eqi (cf 0 12) (by rw [← hI]; rfl) ?_
      refine g_i2l h (i := 68) rfl ?_
      refine g_lcmp h (i := 69) rfl ?_
      refine g_if_lt h (i := 70) 146 rfl rfl (fun c_116 => ?_) (fun c_116 => ?_)
      · skip
        refine g_iload_n h (i := 86) rfl rfl ?_
        refine g_bipush h (i := 87) rfl (v := 100) (by rfl) ?_
        refine g_icmp_ne h (i := 88) 162 rfl rfl (fun c_149 => ?_) (fun c_149 => absurd c_149 hne)
        refine g_aload_n h (i := 95) rfl rfl ?_
        refine g_getR h (i := 96) rfl fl_X10_7 (fun _ _ _ => rfl) (lk_R hL) (lr_row hL) ?_
        refine g_bipush h (i := 97) rfl (v := 31) (by rfl) ?_
        refine g_lald h (i := 98) rfl (lq_row hL) (vpD (by decide)) ?_
        refine g_eql _ (sRow_jx _ _ _ (n := 31) (by rfl)) ?_
        refine g_lstore_n h (i := 99) rfl hq rfl ?_
        refine g_aload_n h (i := 100) rfl rfl ?_
        refine g_getR h (i := 101) rfl fl_X10_7 (fun _ _ _ => rfl) (lk_R hL) (lr_row hL) ?_
        refine g_bipush h (i := 102) rfl (v := 31) (by rfl) ?_
        refine g_lconst h (i := 103) rfl (v := 0) (by rfl) ?_
        refine g_last h (i := 104) rfl (lq_row hL) (vpD (by decide)) ?_
        refine g_w _ (sRow_ux _ _ _ _ (n := 31) (by rfl)) ?_
        refine g_aload_n h (i := 105) rfl rfl ?_
        refine g_callVp (w0 := w) h hq (i := 106) rfl mv_X10_252 cls10 (lk_R hL) (ct_X10_doesLine l E w3 a (up1 q 31 0) hlo3 hL (fa_u hq0.1 z_F) (by rw [hI]; exact hc) (by rw [hI, up1_k (by omega)]; exact hle c_116)) rfl rfl ⟨rfl, rfl, Nat.le_of_ble_eq_true rfl, Nat.le_of_ble_eq_true rfl⟩ (Nat.le_of_ble_eq_true rfl) ⟨Nat.zero_le _, Nat.zero_le _⟩ (fun r179 w179 hp179 => ?_)
        obtain ⟨rfl, w4, hRS4, rfl⟩ := hp179
        rw [hI]
        refine g_iinc h (i := 107) rfl rfl (dv := 1) (by rfl) ?_
        exact g_lv [(0, .ref a), (2, .int (nI (100 - n))), (3, .long (q 31))] ⟨rfl, congrArg (fun z => some (Value.int z)) nxt, rfl, trivial⟩ (k185 (hle c_116) w4 (RS_t hRS hRS4))
      · skip
        refine g_aload_n h (i := 71) rfl rfl ?_
        refine g_getR h (i := 72) rfl fl_X10_7 (fun _ _ _ => rfl) (lk_R hL) (lr_row hL) ?_
        refine g_bipush h (i := 73) rfl (v := 30) (by rfl) ?_
        refine g_aload_n h (i := 74) rfl rfl ?_
        refine g_getI h (i := 75) rfl fl_X10_207 (fun _ _ _ => rfl) (lk_R hL) ?_
        refine g_eqi (wI w3 a 12) rfl ?_
        refine g_eqi (cf 0 12) (by rw [← hI]; rfl) ?_
        refine g_i2l h (i := 76) rfl ?_
        refine g_last h (i := 77) rfl (lq_row hL) (vpD (by decide)) ?_
        refine g_w _ (sRow_ux _ _ _ _ (n := 30) (by rfl)) ?_
        refine g_aload_n h (i := 78) rfl rfl ?_
        refine g_getR h (i := 79) rfl fl_X10_7 (fun _ _ _ => rfl) (lk_R hL) (lr_row hL) ?_
        refine g_bipush h (i := 80) rfl (v := 28) (by rfl) ?_
        refine g_ldc2 h (i := 81) rfl k_X10_168 ?_
        refine g_last h (i := 82) rfl (lq_row hL) (vpD (by decide)) ?_
        refine g_w _ (sRow_ux _ _ _ _ (n := 28) (by rfl)) ?_
        refine g_iconst h (i := 83) rfl (v := 1) (by rfl) ?_
        refine g_istore_n h (i := 84) rfl hq rfl ?_
        refine g_goto h (i := 85) 99 rfl rfl ?_
        exact g_lv [(0, .ref a), (1, .int 1)] ⟨rfl, rfl, trivial⟩ (by
          have := kend w3 hRS
          rw [← hg] at this
          unfold goR at this
          rw [if_pos (i64nlt.mp (fun z => c_116 ((lg_cmp_lt _ _).mpr z)))] at this
          exact this)
  -- what is under way
  have k72 : G X 0 0 72 (lf [(0, .ref a)]) [] (sRow w a (scrR cf r1 n0)) := by
    have k96 : ∀ (v : Int32) (w3 : Wd) (q : Nat → Int64), RS a w w3 → (v = 1 → q = ticksR cf r) → (¬ v = 1 → v = 0 ∧ RR q ∧ q 46 = 0 ∧ q 28 = 1 ∧ goR cf 100 q = ticksR cf r) → G X 0 0 96 (lf [(0, .ref a)]) [.int v] (sRow w3 a q) := by
      intro v w3 q hRS hv1 hv0
      refine g_istore_n h (i := 57) rfl hq rfl ?_
      refine g_iconst h (i := 58) rfl (v := 0) (by rfl) ?_
      refine g_istore_n h (i := 59) rfl hq rfl ?_
      by_cases hv : v = 1
      · rw [hv1 hv]
        exact g_lv [(0, .ref a), (1, .int 1)] ⟨rfl, congrArg (fun z => some (Value.int z)) hv, trivial⟩ (kend w3 hRS)
      · obtain ⟨v0, q1, q2, q3, q4⟩ := hv0 hv
        exact g_lv [(0, .ref a), (1, .int 0), (2, .int (nI (100 - 100)))] ⟨rfl, congrArg (fun z => some (Value.int z)) v0, rfl, trivial⟩ (loop 100 w3 q (by omega) hRS q1 q2 q3 q4)
    refine g_aload_n h (i := 44) rfl rfl ?_
    refine g_getR h (i := 45) rfl fl_X10_7 (fun _ _ _ => rfl) (lk_R hL) (lr_row hL) ?_
    refine g_bipush h (i := 46) rfl (v := 46) (by rfl) ?_
    refine g_lald h (i := 47) rfl (lq_row hL) (vpD (by decide)) ?_
    refine g_eql _ (sRow_jx _ _ _ (n := 46) (by rfl)) ?_
    refine g_lconst h (i := 48) rfl (v := 0) (by rfl) ?_
    refine g_lcmp h (i := 49) rfl ?_
    refine g_if_eq h (i := 50) 95 rfl rfl (fun c_81 => ?_) (fun c_81 => ?_)
    · skip
      refine g_iconst h (i := 56) rfl (v := 0) (by rfl) ?_
      exact g_lv [(0, .ref a)] ⟨rfl, trivial⟩ (k96 0 w _ (RS_r a w) (fun z => absurd z (by decide)) (fun _ => ⟨rfl, hrr, (lg_cmp_eq _ _).mp c_81, ht28, by unfold ticksR; rw [htk, if_pos ((lg_cmp_eq _ _).mp c_81)]⟩))
    · skip
      refine g_aload_n h (i := 51) rfl rfl ?_
      refine g_callVp (w0 := w) h hq (i := 52) rfl mv_X10_249 cls10 (lk_R hL) (ct_X10_goesTick l E w a (scrR cf r1 n0) hlo hL hrr (by rw [← hcf]; exact hc.1)) rfl rfl ⟨rfl, rfl, Nat.le_of_ble_eq_true rfl, Nat.le_of_ble_eq_true rfl⟩ (Nat.le_of_ble_eq_true rfl) ⟨Nat.zero_le _, Nat.zero_le _⟩ (fun r85 w85 hp85 => ?_)
      obtain ⟨rfl, w3, hRS, rfl⟩ := hp85
      refine g_if_eq h (i := 53) 95 rfl rfl (fun c_88 => ?_) (fun c_88 => ?_)
      · skip
        refine g_iconst h (i := 56) rfl (v := 0) (by rfl) ?_
        exact g_lv [(0, .ref a)] ⟨rfl, trivial⟩ (k96 0 w3 _ hRS (fun z => absurd z (by decide)) (fun _ => by
          have g : gtB (scrR cf r1 n0) := Decidable.not_not.mp (bI_0.mp c_88)
          rw [← hcf]
          exact ⟨rfl, rr_gt hrr (fun z => c_81 ((lg_cmp_eq _ _).mpr z)), by unfold goesTickR; rw [if_pos g]; rfl, by unfold goesTickR; rw [if_pos g]; exact ht28, by unfold ticksR; rw [htk, if_neg (fun z => c_81 ((lg_cmp_eq _ _).mpr z)), if_pos g]⟩))
      · skip
        refine g_iconst h (i := 54) rfl (v := 1) (by rfl) ?_
        refine g_goto h (i := 55) 96 rfl rfl ?_
        exact g_lv [(0, .ref a)] ⟨rfl, trivial⟩ (k96 1 w3 _ hRS (fun _ => by
          rw [← hcf]
          unfold ticksR
          rw [htk, if_neg (fun z => c_81 ((lg_cmp_eq _ _).mpr z)), if_neg (bI_1.mp c_88)]) (fun z => absurd rfl z))
  -- the scripts
  have key : ∀ (d i : Nat), i + d = n0 → G X 0 0 13 (lf [(0, .ref a), (1, .int (nI i))]) [] (sRow w a (scrR cf r1 i)) := by
    intro d
    induction d with
    | zero =>
      intro i hi
      have hi4 : i = n0 := by omega
      subst hi4
      refine g_iload_n h (i := 10) rfl rfl ?_
      refine g_aload_n h (i := 11) rfl rfl ?_
      refine g_getI h (i := 12) rfl fl_X10_211 (fun _ _ _ => rfl) (lk_R hL) ?_
      refine g_eqi (wI w a 16) rfl ?_
      refine g_eqi (nI i) (by rw [← hsc.1, hcf]; rfl) ?_
      refine g_icmp_ge h (i := 13) 72 rfl rfl (fun c_18 => ?_) (fun c_18 => absurd (Int32.le_refl _) c_18)
      exact g_lv [(0, .ref a)] ⟨rfl, trivial⟩ k72
    | succ d ih =>
      intro i hid
      have hi : i < n0 := by omega
      have hcl : (nI i).toNatClampNeg = i := nI_clamp (by omega)
      have hvp : vp_in (nI i) 40 := vp_in_nI (by omega) (by omega)
      have hnge : ¬ nI n0 ≤ nI i := nI_ge hi (by omega)
      obtain ⟨⟨s1, s2⟩, s3⟩ := h7 i hi
      have e29 : scrR cf r1 i 29 = r1 29 := scr_o (fun k hk => (h7 k (by omega)).1) (by omega)
      have hx : (4 : Int32) + cf 17 i = nI (4 + pI (cf 17 i)) := (congrArg (fun z => (4 : Int32) + z) s1).trans (nI_add 4 (pI (cf 17 i)))
      have hpx : pI (nI (pI (cf 17 i))) = pI (cf 17 i) := by rw [← s1]
      refine g_iload_n h (i := 10) rfl rfl ?_
      refine g_aload_n h (i := 11) rfl rfl ?_
      refine g_getI h (i := 12) rfl fl_X10_211 (fun _ _ _ => rfl) (lk_R hL) ?_
      refine g_eqi (wI w a 16) rfl ?_
      refine g_eqi (nI n0) (by rw [← hsc.1, hcf]; rfl) ?_
      refine g_icmp_ge h (i := 13) 72 rfl rfl (fun c_18 => absurd c_18 hnge) (fun c_18 => ?_)
      refine g_aload_n h (i := 14) rfl rfl ?_
      refine g_getR h (i := 15) rfl fl_X10_59 (fun _ _ _ => rfl) (lk_R hL) (lr_scriptTick hL) ?_
      refine g_iload_n h (i := 16) rfl rfl ?_
      refine g_iald h (i := 17) rfl (lq_scriptTick hL) (hvp) ?_
      refine g_eqi (wI w (a + 16) _) rfl ?_
      refine g_eqi (cf 16 i) (by rw [hcl, hcf]; rfl) ?_
      refine g_i2l h (i := 18) rfl ?_
      refine g_aload_n h (i := 19) rfl rfl ?_
      refine g_getR h (i := 20) rfl fl_X10_7 (fun _ _ _ => rfl) (lk_R hL) (lr_row hL) ?_
      refine g_bipush h (i := 21) rfl (v := 29) (by rfl) ?_
      refine g_lald h (i := 22) rfl (lq_row hL) (vpD (by decide)) ?_
      refine g_eql _ (sRow_jx _ _ _ (n := 29) (by rfl)) ?_
      refine g_eql (r1 29) e29 ?_
      refine g_lcmp h (i := 23) rfl ?_
      refine g_if_ne h (i := 24) 66 rfl rfl (fun c_36 => ?_) (fun c_36 => ?_)
      · skip
        refine g_iinc h (i := 42) rfl rfl (dv := 1) (by rfl) ?_
        refine g_goto h (i := 43) 13 rfl rfl ?_
        exact g_lv [(0, .ref a), (1, .int (nI (i + 1)))] ⟨rfl, congrArg (fun z => some (Value.int z)) (nI_1 i), trivial⟩ (by have := ih (i + 1) (by omega); unfold scrR at this; rw [if_neg (fun z => c_36 ((lg_cmp_eq _ _).mpr z))] at this; exact this)
      · skip
        refine g_aload_n h (i := 25) rfl rfl ?_
        refine g_getR h (i := 26) rfl fl_X10_7 (fun _ _ _ => rfl) (lk_R hL) (lr_row hL) ?_
        refine g_iconst h (i := 27) rfl (v := 4) (by rfl) ?_
        refine g_aload_n h (i := 28) rfl rfl ?_
        refine g_getR h (i := 29) rfl fl_X10_62 (fun _ _ _ => rfl) (lk_R hL) (lr_scriptInput hL) ?_
        refine g_iload_n h (i := 30) rfl rfl ?_
        refine g_iald h (i := 31) rfl (lq_scriptInput hL) (hvp) ?_
        refine g_eqi (wI w (a + 17) _) rfl ?_
        refine g_eqi (cf 17 i) (by rw [hcl, hcf]; rfl) ?_
        refine g_iadd h (i := 32) rfl ?_
        refine g_eqi (nI (4 + pI (cf 17 i))) hx ?_
        refine g_aload_n h (i := 33) rfl rfl ?_
        refine g_getR h (i := 34) rfl fl_X10_65 (fun _ _ _ => rfl) (lk_R hL) (lr_scriptOn hL) ?_
        refine g_iload_n h (i := 35) rfl rfl ?_
        refine g_zald h (i := 36) rfl (lq_scriptOn hL) (hvp) ?_
        refine g_eqi (wI w (a + 18) _) rfl ?_
        refine g_eqi (cf 18 i) (by rw [hcl, hcf]; rfl) ?_
        refine g_if_eq h (i := 37) 64 rfl rfl (fun c_57 => ?_) (fun c_57 => ?_)
        · skip
          refine g_lconst h (i := 40) rfl (v := 0) (by rfl) ?_
          refine g_last h (i := 41) rfl (lq_row hL) (vp_in_nI (by omega) (by omega)) ?_
          refine g_w _ (sRow_ux _ _ _ _ (n := 4 + pI (cf 17 i)) (nI_clamp (by omega))) ?_
          refine g_iinc h (i := 42) rfl rfl (dv := 1) (by rfl) ?_
          refine g_goto h (i := 43) 13 rfl rfl ?_
          exact g_lv [(0, .ref a), (1, .int (nI (i + 1)))] ⟨rfl, congrArg (fun z => some (Value.int z)) (nI_1 i), trivial⟩ (by have := ih (i + 1) (by omega); unfold scrR at this; rw [if_pos ((lg_cmp_eq _ _).mp c_36), if_pos c_57] at this; exact this)
        · skip
          refine g_lconst h (i := 38) rfl (v := 1) (by rfl) ?_
          refine g_goto h (i := 39) 65 rfl rfl ?_
          refine g_last h (i := 41) rfl (lq_row hL) (vp_in_nI (by omega) (by omega)) ?_
          refine g_w _ (sRow_ux _ _ _ _ (n := 4 + pI (cf 17 i)) (nI_clamp (by omega))) ?_
          refine g_iinc h (i := 42) rfl rfl (dv := 1) (by rfl) ?_
          refine g_goto h (i := 43) 13 rfl rfl ?_
          exact g_lv [(0, .ref a), (1, .int (nI (i + 1)))] ⟨rfl, congrArg (fun z => some (Value.int z)) (nI_1 i), trivial⟩ (by have := ih (i + 1) (by omega); unfold scrR at this; rw [if_pos ((lg_cmp_eq _ _).mp c_36), if_neg c_57] at this; exact this)
  refine g_aload_n h (i := 0) rfl rfl ?_
  refine g_getR h (i := 1) rfl fl_X10_7 (fun _ _ _ => rfl) (lk_R hL) (lr_row hL) ?_
  refine g_bipush h (i := 2) rfl (v := 29) (by rfl) ?_
  refine g_dup2 h (i := 3) rfl rfl rfl ?_
  refine g_lald h (i := 4) rfl (lq_row hL) (vpD (by decide)) ?_
  refine g_eql _ (sRow_jx _ _ _ (n := 29) (by rfl)) ?_
  refine g_lconst h (i := 5) rfl (v := 1) (by rfl) ?_
  refine g_ladd h (i := 6) rfl ?_
  refine g_last h (i := 7) rfl (lq_row hL) (vpD (by decide)) ?_
  refine g_w _ (sRow_ux _ _ _ _ (n := 29) (by rfl)) ?_
  refine g_iconst h (i := 8) rfl (v := 0) (by rfl) ?_
  refine g_istore_n h (i := 9) rfl hq rfl ?_
  exact g_lv [(0, .ref a), (1, .int (nI 0))] ⟨rfl, rfl, trivial⟩ (by have := key n0 0 (by omega); rw [hr1] at this; exact this)
end
section
theorem rr_end {cf : Nat → Nat → Int32} {r : Nat → Int64} (hc : CfR cf) (h : FA r) (h46 : r 46 = 0) (h47 : r 47 = 0) : RR (up1 (up1 r 30 (cf 0 12).toInt64) 28 2) := by
  have hl := isI_l hc.2.2.2.2.2.2.1 (by omega)
  refine ⟨fa_u (fa_u h (isN_up hl.1 (by omega))) (isN_mk (n := 2) (m := 3) (by omega) (by omega)), xr_0 ?_ ?_⟩
  · rw [up1_k (by omega), up1_k (by omega)]; exact h46
  · rw [up1_k (by omega), up1_k (by omega)]; exact h47
theorem ln_hk {cf : Nat → Nat → Int32} {r : Nat → Int64} (hc : CfR cf) (h : FA r) (hn : ¬ (cf 0 12).toInt64 ≤ r 30) : pN (r 30) < pI (cf 0 12) := by
  have hl := isI_l hc.2.2.2.2.2.2.1 (by omega)
  have f30 : isN (r 30) 61 := h 30
  have l2 := hl.1.2
  have l3 := f30.2
  rw [hl.2] at l2
  have z := i64nl.mp hn
  rw [hl.1.1, hl.2, f30.1] at z
  exact (pk_lLT (by omega) (by omega)).mp z
theorem rr_ln3 {cf : Nat → Nat → Int32} {r : Nat → Int64} (h : RR (ln2 cf r)) : RR (ln3 cf r) := by
  unfold ln3
  exact rr_ite (fun q => rr_gt h q.2.2) (fun _ => h)
theorem rr_go {cf : Nat → Nat → Int32} (hc : CfR cf) : ∀ (n : Nat) (r : Nat → Int64), RR r → r 46 = 0 → r 28 = 1 → RR (goR cf n r)
  | 0, r, h, h46, h28 => by
    unfold goR
    exact rr_ite (fun _ => rr_end hc h.1 h46 (h.2.1 h46)) (fun _ => rr_errs0 (e := 4) h.1 (by omega))
  | n + 1, r, h, h46, h28 => by
    unfold goR
    refine rr_ite (fun _ => rr_end hc h.1 h46 (h.2.1 h46)) (fun q => ?_)
    have h2 := rr_ln2 hc h h46 h28 (ln_hk hc h.1 q)
    refine rr_ite (fun _ => rr_ln3 h2) (fun ho => ?_)
    obtain ⟨i1, i2, i3⟩ := ln3_idle h2 ho
    exact rr_go hc n _ i1 i2 i3
theorem rr_ticks {cf : Nat → Nat → Int32} {r : Nat → Int64} (hc : CfR cf) (h : RR r) (h28 : r 28 = 1) : RR (ticksR cf r) := by
  have h7 : ∀ k, k < pI (cf 0 16) → isI (cf 17 k) 7 := fun k hk => (hc.2.2.2.2.2.2.2.2.2.1 k hk).1
  have hrr := tk1_rr hc h
  have t28 : tk1 cf r 28 = 1 := by unfold tk1; rw [scr_o h7 (by omega), up1_k (by omega)]; exact h28
  unfold ticksR
  refine rr_ite (fun g => rr_go hc 100 _ hrr g t28) (fun g => rr_ite (fun g2 => ?_) (fun _ => rr_gt hrr g))
  refine rr_go hc 100 _ (rr_gt hrr g) ?_ ?_
  · unfold goesTickR; rw [if_pos g2]; rfl
  · unfold goesTickR; rw [if_pos g2]; exact t28
end
section
/-- n ticks, while it goes -/
def tickN (cf : Nat → Nat → Int32) : Nat → (Nat → Int64) → (Nat → Int64)
  | 0, r => r
  | n + 1, r => if r 28 = 1 then tickN cf n (ticksR cf r) else r
def tickA (cf : Nat → Nat → Int32) (v : Int32) (r : Nat → Int64) : Int32 × (Nat → Int64) := if 1 ≤ v ∧ v ≤ 200 then ((tickN cf (pI v) r 28).toInt32, tickN cf (pI v) r) else (-2, r)
theorem rr_tickN {cf : Nat → Nat → Int32} (hc : CfR cf) : ∀ (n : Nat) (r : Nat → Int64), RR r → RR (tickN cf n r)
  | 0, _, h => h
  | n + 1, r, h => by
    unfold tickN
    exact rr_ite (fun q => rr_tickN hc n _ (rr_ticks hc h q)) (fun _ => h)
theorem isI_of {v : Int32} {lo hi : Int32} (h : lo ≤ v ∧ v ≤ hi) (h0 : 0 ≤ lo.toInt) : v = nI (pI v) ∧ (pI v : Int) = v.toInt := by
  have a := i32le.mp h.1
  have b := i32b v
  have e : (pI v : Int) = v.toInt := by unfold pI; omega
  exact ⟨i32x (by rw [nIT (by omega)]; exact e.symm), e⟩
-- ticks
set_option maxRecDepth 100000 in
set_option maxHeartbeats 4000000 in
theorem ct_X10_tick (l : Launch) (E : EE) (w : Wd) (a : Nat) (r : Nat → Int64) (v : Int32) (hlo : E.2.2 ≤ wN (sRow w a r)) (hL : LayR w a) (hr : RR r) (hc : CfR (cfW w a)) : Ct l E yX10_tick cX10_tick 3 (some .int) ({ frames := 7, cells := 0, slots := 0, locals := 187 } : Room) [.ref a, .int v] (sRow w a r) 0 0 (fun q w2 => ∃ w3, RS a w w3 ∧ q = some (.int (tickA (cfW w a) v r).1) ∧ w2 = sRow w3 a (tickA (cfW w a) v r).2) := by
  refine ct_in (il := il_X10_tick) (by decide) dk_X10_tick (Nat.le_of_ble_eq_true rfl) hlo ?_
  intro X h hq

  obtain ⟨cf, hcf⟩ : ∃ cf, cf = cfW w a := ⟨_, rfl⟩
  rw [← hcf] at hq hc
  have loop : (1 ≤ v ∧ v ≤ 200) → ∀ (d i : Nat) (w3 : Wd) (q : Nat → Int64), i + d = pI v → RS a w w3 → RR q → tickN cf d q = tickN cf (pI v) r → G X 0 0 16 (lf [(0, .ref a), (1, .int v), (2, .int (nI i))]) [] (sRow w3 a q) := by
    intro hv
    obtain ⟨v1, v2⟩ := isI_of hv (by decide)
    have v3 : pI v ≤ 200 := by have := i32le.mp hv.2; rw [← v2] at this; have e : (200 : Int32).toInt = 200 := rfl; omega
    have fin : ∀ (w3 : Wd), RS a w w3 → G X 0 0 38 (lf [(0, .ref a)]) [] (sRow w3 a (tickN cf (pI v) r)) := by
      intro w3 hRS
      have hL3 := (RS_L hRS).1 a hL
      have hL := hL3
      have hlo3 : E.2.2 ≤ wN w3 := by rw [(RS_L hRS).2.1]; exact hlo
      refine g_aload_n h (i := 19) rfl rfl ?_
      refine g_bipush h (i := 20) rfl (v := 28) (by rfl) ?_
      refine g_callVx h hq (i := 21) rfl mv_X10_97 cls10 (lk_R hL) (ct_X10_rowAt l E w3 a 28 _ _ hlo3 hL (vpD (by decide)) (by rfl)) rfl rfl ⟨rfl, rfl, Nat.le_of_ble_eq_true rfl, Nat.le_of_ble_eq_true rfl⟩ (Nat.le_of_ble_eq_true rfl) ⟨Nat.zero_le _, Nat.zero_le _⟩ ?_
      exact g_iret hq h (i := 22) rfl (⟨w3, hRS, by unfold tickA; rw [if_pos hv], by unfold tickA; rw [if_pos hv]⟩)
    intro d
    induction d with
    | zero =>
      intro i w3 q hi hRS hq0 hg
      have hi4 : i = pI v := by omega
      have hqe : q = tickN cf (pI v) r := hg
      refine g_iload_n h (i := 9) rfl rfl ?_
      refine g_iload_n h (i := 10) rfl rfl ?_
      refine g_icmp_ge h (i := 11) 38 rfl rfl (fun c_18 => ?_) (fun c_18 => absurd (show v ≤ nI i by rw [hi4, ← v1]; exact Int32.le_refl _) c_18)
      rw [hqe]
      exact g_lv [(0, .ref a)] ⟨rfl, trivial⟩ (fin w3 hRS)
    | succ d ih =>
      intro i w3 q hi hRS hq0 hg
      have hL3 := (RS_L hRS).1 a hL
      have hL0 := hL
      have hL := hL3
      have hI : cfW w3 a = cf := by rw [RS_cf hRS, hcf]
      have hlo3 : E.2.2 ≤ wN w3 := by rw [(RS_L hRS).2.1]; exact hlo
      have hnge : ¬ v ≤ nI i := fun z => by rw [v1] at z; exact absurd z (nI_ge (by omega) (by omega))
      refine g_iload_n h (i := 9) rfl rfl ?_
      refine g_iload_n h (i := 10) rfl rfl ?_
      refine g_icmp_ge h (i := 11) 38 rfl rfl (fun c_18 => absurd c_18 hnge) (fun c_18 => ?_)
      refine g_aload_n h (i := 12) rfl rfl ?_
      refine g_callVx h hq (i := 13) rfl mv_X10_91 cls10 (lk_R hL) (ct_X10_isGoing l E w3 a q hlo3 hL) rfl rfl ⟨rfl, rfl, Nat.le_of_ble_eq_true rfl, Nat.le_of_ble_eq_true rfl⟩ (Nat.le_of_ble_eq_true rfl) ⟨Nat.zero_le _, Nat.zero_le _⟩ ?_
      refine g_if_eq h (i := 14) 38 rfl rfl (fun c_25 => ?_) (fun c_25 => ?_)
      · skip
        have hqe : q = tickN cf (pI v) r := by rw [← hg]; exact (if_neg (bI_0.mp c_25)).symm
        rw [hqe]
        exact g_lv [(0, .ref a)] ⟨rfl, trivial⟩ (fin w3 hRS)
      · skip
        refine g_aload_n h (i := 15) rfl rfl ?_
        refine g_callVp (w0 := w) h hq (i := 16) rfl mv_X10_255 cls10 (lk_R hL) (ct_X10_ticks l E w3 a q hlo3 hL hq0 (by rw [hI]; exact hc) (bI_1.mp c_25)) rfl rfl ⟨rfl, rfl, Nat.le_of_ble_eq_true rfl, Nat.le_of_ble_eq_true rfl⟩ (Nat.le_of_ble_eq_true rfl) ⟨Nat.zero_le _, Nat.zero_le _⟩ (fun r29 w29 hp29 => ?_)
        obtain ⟨rfl, w4, hRS4, rfl⟩ := hp29
        rw [hI]
        refine g_iinc h (i := 17) rfl rfl (dv := 1) (by rfl) ?_
        refine g_goto h (i := 18) 16 rfl rfl ?_
        exact g_lv [(0, .ref a), (1, .int v), (2, .int (nI (i + 1)))] ⟨rfl, rfl, congrArg (fun z => some (Value.int z)) (nI_1 i), trivial⟩ (ih (i + 1) w4 _ (by omega) (RS_t hRS hRS4) (rr_ticks hc hq0 (bI_1.mp c_25)) (by rw [← hg]; exact (if_pos (bI_1.mp c_25)).symm))
  refine g_iload_n h (i := 0) rfl rfl ?_
  refine g_iconst h (i := 1) rfl (v := 1) (by rfl) ?_
  refine g_sipush h (i := 2) rfl (v := 200) (by rfl) ?_
  refine g_callSx h hq (i := 3) rfl ms_X10_82 (ct_X10_in l E _ v 1 200 hlo) rfl rfl ⟨rfl, rfl, Nat.le_of_ble_eq_true rfl, Nat.le_of_ble_eq_true rfl⟩ (Nat.le_of_ble_eq_true rfl) ⟨Nat.zero_le _, Nat.zero_le _⟩ ?_
  refine g_if_ne h (i := 4) 14 rfl rfl (fun c_8 => ?_) (fun c_8 => ?_)
  · skip
    refine g_iconst h (i := 7) rfl (v := 0) (by rfl) ?_
    refine g_istore_n h (i := 8) rfl hq rfl ?_
    exact g_lv [(0, .ref a), (1, .int v), (2, .int (nI 0))] ⟨rfl, rfl, rfl, trivial⟩ (loop (bI_1.mp c_8) (pI v) 0 w r (by omega) (RS_r a w) hr rfl)
  · skip
    refine g_bipush h (i := 5) rfl (v := -2) (by rfl) ?_
    exact g_iret hq h (i := 6) rfl (⟨w, RS_r a w, by unfold tickA; rw [if_neg (bI_0.mp c_8)], by unfold tickA; rw [if_neg (bI_0.mp c_8)]⟩)
end
section
theorem jvp {j : Int32} {m : Int32} {n : Nat} (h : 0 ≤ j ∧ j ≤ m) (hm : m.toInt < (n : Int)) (hn : n < 2147483648) : vp_in j n := by
  have h1 := i32le.mp h.1
  have h2 := i32le.mp h.2
  exact vp_in_iff.mpr ⟨h1, by omega⟩
theorem jx {i m : Int32} {M : Nat} (h : 0 ≤ i ∧ i ≤ m) (hm : m.toInt = (M : Int)) : i = nI (pI i) ∧ pI i ≤ M := by
  have q := isI_of h (by decide)
  have h2 := i32le.mp h.2
  exact ⟨q.1, by omega⟩
theorem jadd {i : Int32} (k : Nat) (h : i = nI (pI i)) : nI k + i = nI (k + pI i) := (congrArg (fun z => nI k + z) h).trans (nI_add k _)
theorem jadd0 {i : Int32} (h : i = nI (pI i)) : (0 : Int32) + i = nI (pI i) := (jadd 0 h).trans (by rw [Nat.zero_add])
theorem jcl {i : Int32} (k : Nat) (h : i = nI (pI i)) (h2 : pI i ≤ 1000) (h3 : k ≤ 1000) : (nI k + i).toNatClampNeg = k + pI i := by rw [jadd k h]; exact nI_clamp (by omega)
theorem jin {i : Int32} (k n : Nat) (h : i = nI (pI i)) (h2 : k + pI i < n) (h3 : n ≤ 3000) : vp_in (nI k + i) n := by rw [jadd k h]; exact vp_in_nI h2 (by omega)
/-- what a call leaves of the reference: its config, its row; beneath it nothing changes -/
def RI (a : Nat) (w : Wd) (cf : Nat → Nat → Int32) (r : Nat → Int64) (w2 : Wd) : Prop := ∃ I J D, w2 = dW w I J D ∧ (∀ f, I (a + f) = cf f) ∧ J (a + 1) = r ∧ ∀ p, p < a → I p = wI w p ∧ J p = wJ w p ∧ D p = wD w p
theorem ri_RS {a : Nat} {w w3 : Wd} {r : Nat → Int64} (h : RS a w w3) : RI a w (cfW w a) r (sRow w3 a r) := by
  obtain ⟨J, D, rfl, h1, h2⟩ := h
  exact ⟨wI w, ua J (a + 1) r, D, rfl, fun _ => rfl, ua_s _ _ _, fun p hp => ⟨rfl, (ua_a (by omega)).trans (h1 p (by omega) (by omega) (by omega) (by omega) (by omega)), h2 p (by omega)⟩⟩
theorem ri_0 {a : Nat} {w : Wd} {r : Nat → Int64} : RI a w (cfW w a) r (sRow w a r) := ri_RS (RS_r a w)
theorem ri_I {a : Nat} {w w2 : Wd} {cf : Nat → Nat → Int32} {r : Nat → Int64} (f k : Nat) {v : Int32} (h : RI a w cf r w2) : RI a w (up2 cf f k v) r (sI w2 (a + f) k v) := by
  obtain ⟨I, J, D, rfl, h1, h2, h3⟩ := h
  refine ⟨up2 I (a + f) k v, J, D, rfl, fun g => ?_, h2, fun p hp => ⟨(up2_f (by omega)).trans (h3 p hp).1, (h3 p hp).2.1, (h3 p hp).2.2⟩⟩
  funext y
  unfold up2
  by_cases e : g = f
  · subst e
    by_cases e2 : y = k
    · rw [if_pos ⟨rfl, e2⟩, if_pos ⟨rfl, e2⟩]
    · rw [if_neg (fun q => e2 q.2), if_neg (fun q => e2 q.2), h1]
  · rw [if_neg (fun q => e (by omega)), if_neg (fun q => e q.1), h1]
theorem ri_r {a : Nat} {w w2 : Wd} {cf : Nat → Nat → Int32} {r r' : Nat → Int64} (h : RI a w cf r w2) : RI a w cf r' (sRow w2 a r') := by
  obtain ⟨I, J, D, rfl, h1, h2, h3⟩ := h
  exact ⟨I, ua J (a + 1) r', D, rfl, h1, ua_s _ _ _, fun p hp => ⟨(h3 p hp).1, (ua_a (by omega)).trans (h3 p hp).2.1, (h3 p hp).2.2⟩⟩
/-- an answer, a config, a row -/
abbrev St := Value × (Nat → Nat → Int32) × (Nat → Int64)
abbrev PS (a : Nat) (w : Wd) (s : St) : Option Value → Wd → Prop := fun q w2 => q = some s.1 ∧ RI a w s.2.1 s.2.2 w2
/-- what joint is told -/
abbrev jtG (j kd ln pc rs : Int32) : Prop := (0 ≤ j ∧ j ≤ 3) ∧ (0 ≤ kd ∧ kd ≤ 1) ∧ (0 ≤ ln ∧ ln ≤ 1000) ∧ (1 ≤ pc ∧ pc ≤ 100000) ∧ (1 ≤ rs ∧ rs ≤ 100000)
def jtS (j kd ln pc rs : Int32) (cf : Nat → Nat → Int32) (r : Nat → Int64) : St := if jtG j kd ln pc rs then (if r 28 = 1 then (.int (-3), cf, r) else (.int 1, up2 (up2 (up2 (up2 cf 3 (pI j) (bI (kd = 1))) 4 (pI j) ln) 7 (pI j) pc) 8 (pI j) rs, r)) else (.int (-2), cf, r)
-- joint
set_option maxRecDepth 100000 in
set_option maxHeartbeats 4000000 in
theorem ct_X10_joint (l : Launch) (E : EE) (w : Wd) (a : Nat) (r : Nat → Int64) (j kd ln pc rs : Int32) (hlo : E.2.2 ≤ wN (sRow w a r)) (hL : LayR w a) : Ct l E yX10_joint cX10_joint 6 (some .int) ({ frames := 2, cells := 0, slots := 0, locals := 43 } : Room) [.ref a, .int j, .int kd, .int ln, .int pc, .int rs] (sRow w a r) 0 0 (PS a w (jtS j kd ln pc rs (cfW w a) r)) := by
  refine ct_in (il := il_X10_joint) (by decide) dk_X10_joint (Nat.le_of_ble_eq_true rfl) hlo ?_
  intro X h hq

  refine g_aload_n h (i := 0) rfl rfl ?_
  refine g_iload_n h (i := 1) rfl rfl ?_
  refine g_callVx h hq (i := 2) rfl mv_X10_86 cls10 (lk_R hL) (ct_X10_isJoint l E _ a j hlo) rfl rfl ⟨rfl, rfl, Nat.le_of_ble_eq_true rfl, Nat.le_of_ble_eq_true rfl⟩ (Nat.le_of_ble_eq_true rfl) ⟨Nat.zero_le _, Nat.zero_le _⟩ ?_
  refine g_if_eq h (i := 3) 50 rfl rfl (fun c_5 => ?_) (fun c_5 => ?_)
  · skip
    refine g_bipush h (i := 24) rfl (v := -2) (by rfl) ?_
    exact g_iret hq h (i := 25) rfl (by unfold jtS; rw [if_neg (fun q => bI_0.mp c_5 q.1)]; exact ⟨rfl, ri_0⟩)
  · skip
    refine g_iload_n h (i := 4) rfl rfl ?_
    refine g_iconst h (i := 5) rfl (v := 0) (by rfl) ?_
    refine g_iconst h (i := 6) rfl (v := 1) (by rfl) ?_
    refine g_callSx h hq (i := 7) rfl ms_X10_82 (ct_X10_in l E _ kd (0) (1) hlo) rfl rfl ⟨rfl, rfl, Nat.le_of_ble_eq_true rfl, Nat.le_of_ble_eq_true rfl⟩ (Nat.le_of_ble_eq_true rfl) ⟨Nat.zero_le _, Nat.zero_le _⟩ ?_
    refine g_if_eq h (i := 8) 50 rfl rfl (fun c_14 => ?_) (fun c_14 => ?_)
    · skip
      refine g_bipush h (i := 24) rfl (v := -2) (by rfl) ?_
      exact g_iret hq h (i := 25) rfl (by unfold jtS; rw [if_neg (fun q => bI_0.mp c_14 q.2.1)]; exact ⟨rfl, ri_0⟩)
    · skip
      refine g_iload_n h (i := 9) rfl rfl ?_
      refine g_iconst h (i := 10) rfl (v := 0) (by rfl) ?_
      refine g_sipush h (i := 11) rfl (v := 1000) (by rfl) ?_
      refine g_callSx h hq (i := 12) rfl ms_X10_82 (ct_X10_in l E _ ln (0) (1000) hlo) rfl rfl ⟨rfl, rfl, Nat.le_of_ble_eq_true rfl, Nat.le_of_ble_eq_true rfl⟩ (Nat.le_of_ble_eq_true rfl) ⟨Nat.zero_le _, Nat.zero_le _⟩ ?_
      refine g_if_eq h (i := 13) 50 rfl rfl (fun c_25 => ?_) (fun c_25 => ?_)
      · skip
        refine g_bipush h (i := 24) rfl (v := -2) (by rfl) ?_
        exact g_iret hq h (i := 25) rfl (by unfold jtS; rw [if_neg (fun q => bI_0.mp c_25 q.2.2.1)]; exact ⟨rfl, ri_0⟩)
      · skip
        refine g_iload h (i := 14) rfl rfl ?_
        refine g_iconst h (i := 15) rfl (v := 1) (by rfl) ?_
        refine g_ldc h (i := 16) rfl k_X10_90 ?_
        refine g_callSx h hq (i := 17) rfl ms_X10_82 (ct_X10_in l E _ pc (1) (100000) hlo) rfl rfl ⟨rfl, rfl, Nat.le_of_ble_eq_true rfl, Nat.le_of_ble_eq_true rfl⟩ (Nat.le_of_ble_eq_true rfl) ⟨Nat.zero_le _, Nat.zero_le _⟩ ?_
        refine g_if_eq h (i := 18) 50 rfl rfl (fun c_36 => ?_) (fun c_36 => ?_)
        · skip
          refine g_bipush h (i := 24) rfl (v := -2) (by rfl) ?_
          exact g_iret hq h (i := 25) rfl (by unfold jtS; rw [if_neg (fun q => bI_0.mp c_36 q.2.2.2.1)]; exact ⟨rfl, ri_0⟩)
        · skip
          refine g_iload h (i := 19) rfl rfl ?_
          refine g_iconst h (i := 20) rfl (v := 1) (by rfl) ?_
          refine g_ldc h (i := 21) rfl k_X10_90 ?_
          refine g_callSx h hq (i := 22) rfl ms_X10_82 (ct_X10_in l E _ rs (1) (100000) hlo) rfl rfl ⟨rfl, rfl, Nat.le_of_ble_eq_true rfl, Nat.le_of_ble_eq_true rfl⟩ (Nat.le_of_ble_eq_true rfl) ⟨Nat.zero_le _, Nat.zero_le _⟩ ?_
          refine g_if_ne h (i := 23) 53 rfl rfl (fun c_47 => ?_) (fun c_47 => ?_)
          · skip
            refine g_aload_n h (i := 26) rfl rfl ?_
            refine g_callVx h hq (i := 27) rfl mv_X10_91 cls10 (lk_R hL) (ct_X10_isGoing l E w a r hlo hL) rfl rfl ⟨rfl, rfl, Nat.le_of_ble_eq_true rfl, Nat.le_of_ble_eq_true rfl⟩ (Nat.le_of_ble_eq_true rfl) ⟨Nat.zero_le _, Nat.zero_le _⟩ ?_
            refine g_if_eq h (i := 28) 63 rfl rfl (fun c_57 => ?_) (fun c_57 => ?_)
            · skip
              refine g_aload_n h (i := 31) rfl rfl ?_
              refine g_getR h (i := 32) rfl fl_X10_17 (fun _ _ _ => rfl) (lk_R hL) (lr_slides hL) ?_
              refine g_iload_n h (i := 33) rfl rfl ?_
              refine g_iload_n h (i := 34) rfl rfl ?_
              refine g_iconst h (i := 35) rfl (v := 1) (by rfl) ?_
              refine g_icmp_ne h (i := 36) 77 rfl rfl (fun c_70 => ?_) (fun c_70 => ?_)
              · skip
                refine g_iconst h (i := 39) rfl (v := 0) (by rfl) ?_
                refine g_zast h (i := 40) rfl (lq_slides hL) (jvp (bI_1.mp c_5) (by decide) (by omega)) (rfl) ?_
                refine g_aload_n h (i := 41) rfl rfl ?_
                refine g_getR h (i := 42) rfl fl_X10_20 (fun _ _ _ => rfl) (lk_R hL) (lr_length hL) ?_
                refine g_iload_n h (i := 43) rfl rfl ?_
                refine g_iload_n h (i := 44) rfl rfl ?_
                refine g_iast h (i := 45) rfl (lq_length hL) (jvp (bI_1.mp c_5) (by decide) (by omega)) ?_
                refine g_aload_n h (i := 46) rfl rfl ?_
                refine g_getR h (i := 47) rfl fl_X10_32 (fun _ _ _ => rfl) (lk_R hL) (lr_pace hL) ?_
                refine g_iload_n h (i := 48) rfl rfl ?_
                refine g_iload h (i := 49) rfl rfl ?_
                refine g_iast h (i := 50) rfl (lq_pace hL) (jvp (bI_1.mp c_5) (by decide) (by omega)) ?_
                refine g_aload_n h (i := 51) rfl rfl ?_
                refine g_getR h (i := 52) rfl fl_X10_35 (fun _ _ _ => rfl) (lk_R hL) (lr_rise hL) ?_
                refine g_iload_n h (i := 53) rfl rfl ?_
                refine g_iload h (i := 54) rfl rfl ?_
                refine g_iast h (i := 55) rfl (lq_rise hL) (jvp (bI_1.mp c_5) (by decide) (by omega)) ?_
                refine g_iconst h (i := 56) rfl (v := 1) (by rfl) ?_
                exact g_iret hq h (i := 57) rfl (by unfold jtS; rw [if_pos ⟨bI_1.mp c_5, bI_1.mp c_14, bI_1.mp c_25, bI_1.mp c_36, bI_1.mp c_47⟩, if_neg (bI_0.mp c_57), bI_f c_70]; exact ⟨rfl, ri_I 8 _ (ri_I 7 _ (ri_I 4 _ (ri_I 3 _ ri_0)))⟩)
              · skip
                refine g_iconst h (i := 37) rfl (v := 1) (by rfl) ?_
                refine g_goto h (i := 38) 78 rfl rfl ?_
                refine g_zast h (i := 40) rfl (lq_slides hL) (jvp (bI_1.mp c_5) (by decide) (by omega)) (rfl) ?_
                refine g_aload_n h (i := 41) rfl rfl ?_
                refine g_getR h (i := 42) rfl fl_X10_20 (fun _ _ _ => rfl) (lk_R hL) (lr_length hL) ?_
                refine g_iload_n h (i := 43) rfl rfl ?_
                refine g_iload_n h (i := 44) rfl rfl ?_
                refine g_iast h (i := 45) rfl (lq_length hL) (jvp (bI_1.mp c_5) (by decide) (by omega)) ?_
                refine g_aload_n h (i := 46) rfl rfl ?_
                refine g_getR h (i := 47) rfl fl_X10_32 (fun _ _ _ => rfl) (lk_R hL) (lr_pace hL) ?_
                refine g_iload_n h (i := 48) rfl rfl ?_
                refine g_iload h (i := 49) rfl rfl ?_
                refine g_iast h (i := 50) rfl (lq_pace hL) (jvp (bI_1.mp c_5) (by decide) (by omega)) ?_
                refine g_aload_n h (i := 51) rfl rfl ?_
                refine g_getR h (i := 52) rfl fl_X10_35 (fun _ _ _ => rfl) (lk_R hL) (lr_rise hL) ?_
                refine g_iload_n h (i := 53) rfl rfl ?_
                refine g_iload h (i := 54) rfl rfl ?_
                refine g_iast h (i := 55) rfl (lq_rise hL) (jvp (bI_1.mp c_5) (by decide) (by omega)) ?_
                refine g_iconst h (i := 56) rfl (v := 1) (by rfl) ?_
                exact g_iret hq h (i := 57) rfl (by unfold jtS; rw [if_pos ⟨bI_1.mp c_5, bI_1.mp c_14, bI_1.mp c_25, bI_1.mp c_36, bI_1.mp c_47⟩, if_neg (bI_0.mp c_57), bI_t c_70]; exact ⟨rfl, ri_I 8 _ (ri_I 7 _ (ri_I 4 _ (ri_I 3 _ ri_0)))⟩)
            · skip
              refine g_bipush h (i := 29) rfl (v := -3) (by rfl) ?_
              exact g_iret hq h (i := 30) rfl (by unfold jtS; rw [if_pos ⟨bI_1.mp c_5, bI_1.mp c_14, bI_1.mp c_25, bI_1.mp c_36, bI_1.mp c_47⟩, if_pos (bI_1.mp c_57)]; exact ⟨rfl, ri_0⟩)
          · skip
            refine g_bipush h (i := 24) rfl (v := -2) (by rfl) ?_
            exact g_iret hq h (i := 25) rfl (by unfold jtS; rw [if_neg (fun q => bI_0.mp c_47 q.2.2.2.2)]; exact ⟨rfl, ri_0⟩)
/-- limits -/
abbrev lmG (j x y : Int32) : Prop := (0 ≤ j ∧ j ≤ 3) ∧ (-1000000 ≤ x ∧ x ≤ 1000000) ∧ (x ≤ y ∧ y ≤ 1000000)
def lmS (j x y : Int32) (cf : Nat → Nat → Int32) (r : Nat → Int64) : St := if lmG j x y then (if r 28 = 1 then (.int (-3), cf, r) else if x ≤ (r (pI j)).toInt32 ∧ (r (pI j)).toInt32 ≤ y then (.int 1, up2 (up2 cf 5 (pI j) x) 6 (pI j) y, r) else (.int (-3), cf, r)) else (.int (-2), cf, r)
-- limits
set_option maxRecDepth 100000 in
set_option maxHeartbeats 4000000 in
theorem ct_X10_limits (l : Launch) (E : EE) (w : Wd) (a : Nat) (r : Nat → Int64) (j x y : Int32) (hlo : E.2.2 ≤ wN (sRow w a r)) (hL : LayR w a) : Ct l E yX10_limits cX10_limits 4 (some .int) ({ frames := 2, cells := 0, slots := 0, locals := 43 } : Room) [.ref a, .int j, .int x, .int y] (sRow w a r) 0 0 (PS a w (lmS j x y (cfW w a) r)) := by
  refine ct_in (il := il_X10_limits) (by decide) dk_X10_limits (Nat.le_of_ble_eq_true rfl) hlo ?_
  intro X h hq

  refine g_aload_n h (i := 0) rfl rfl ?_
  refine g_iload_n h (i := 1) rfl rfl ?_
  refine g_callVx h hq (i := 2) rfl mv_X10_86 cls10 (lk_R hL) (ct_X10_isJoint l E _ a j hlo) rfl rfl ⟨rfl, rfl, Nat.le_of_ble_eq_true rfl, Nat.le_of_ble_eq_true rfl⟩ (Nat.le_of_ble_eq_true rfl) ⟨Nat.zero_le _, Nat.zero_le _⟩ ?_
  refine g_if_eq h (i := 3) 29 rfl rfl (fun c_5 => ?_) (fun c_5 => ?_)
  · skip
    refine g_bipush h (i := 14) rfl (v := -2) (by rfl) ?_
    exact g_iret hq h (i := 15) rfl (by unfold lmS; rw [if_neg (fun q => bI_0.mp c_5 q.1)]; exact ⟨rfl, ri_0⟩)
  · skip
    refine g_iload_n h (i := 4) rfl rfl ?_
    refine g_ldc h (i := 5) rfl k_X10_95 ?_
    refine g_ldc h (i := 6) rfl k_X10_96 ?_
    refine g_callSx h hq (i := 7) rfl ms_X10_82 (ct_X10_in l E _ x (-1000000) (1000000) hlo) rfl rfl ⟨rfl, rfl, Nat.le_of_ble_eq_true rfl, Nat.le_of_ble_eq_true rfl⟩ (Nat.le_of_ble_eq_true rfl) ⟨Nat.zero_le _, Nat.zero_le _⟩ ?_
    refine g_if_eq h (i := 8) 29 rfl rfl (fun c_16 => ?_) (fun c_16 => ?_)
    · skip
      refine g_bipush h (i := 14) rfl (v := -2) (by rfl) ?_
      exact g_iret hq h (i := 15) rfl (by unfold lmS; rw [if_neg (fun q => bI_0.mp c_16 q.2.1)]; exact ⟨rfl, ri_0⟩)
    · skip
      refine g_iload_n h (i := 9) rfl rfl ?_
      refine g_iload_n h (i := 10) rfl rfl ?_
      refine g_ldc h (i := 11) rfl k_X10_96 ?_
      refine g_callSx h hq (i := 12) rfl ms_X10_82 (ct_X10_in l E _ y (x) (1000000) hlo) rfl rfl ⟨rfl, rfl, Nat.le_of_ble_eq_true rfl, Nat.le_of_ble_eq_true rfl⟩ (Nat.le_of_ble_eq_true rfl) ⟨Nat.zero_le _, Nat.zero_le _⟩ ?_
      refine g_if_ne h (i := 13) 32 rfl rfl (fun c_26 => ?_) (fun c_26 => ?_)
      · skip
        refine g_aload_n h (i := 16) rfl rfl ?_
        refine g_callVx h hq (i := 17) rfl mv_X10_91 cls10 (lk_R hL) (ct_X10_isGoing l E w a r hlo hL) rfl rfl ⟨rfl, rfl, Nat.le_of_ble_eq_true rfl, Nat.le_of_ble_eq_true rfl⟩ (Nat.le_of_ble_eq_true rfl) ⟨Nat.zero_le _, Nat.zero_le _⟩ ?_
        refine g_if_ne h (i := 18) 54 rfl rfl (fun c_36 => ?_) (fun c_36 => ?_)
        · skip
          refine g_bipush h (i := 28) rfl (v := -3) (by rfl) ?_
          exact g_iret hq h (i := 29) rfl (by unfold lmS; rw [if_pos ⟨bI_1.mp c_5, bI_1.mp c_16, bI_1.mp c_26⟩, if_pos (bI_1.mp c_36)]; exact ⟨rfl, ri_0⟩)
        · skip
          obtain ⟨hj, hj3⟩ := jx (M := 3) (bI_1.mp c_5) (by decide)
          refine g_aload_n h (i := 19) rfl rfl ?_
          refine g_iconst h (i := 20) rfl (v := 0) (by rfl) ?_
          refine g_iload_n h (i := 21) rfl rfl ?_
          refine g_iadd h (i := 22) rfl ?_
          refine g_eqi (nI (pI j)) (jadd0 hj) ?_
          refine g_callVx h hq (i := 23) rfl mv_X10_97 cls10 (lk_R hL) (ct_X10_rowAt l E w a (pI j) r _ hlo hL (vp_in_nI (by omega) (by omega)) (nI_clamp (by omega))) rfl rfl ⟨rfl, rfl, Nat.le_of_ble_eq_true rfl, Nat.le_of_ble_eq_true rfl⟩ (Nat.le_of_ble_eq_true rfl) ⟨Nat.zero_le _, Nat.zero_le _⟩ ?_
          refine g_iload_n h (i := 24) rfl rfl ?_
          refine g_iload_n h (i := 25) rfl rfl ?_
          refine g_callSx h hq (i := 26) rfl ms_X10_82 (ct_X10_in l E _ (r (pI j)).toInt32 (x) (y) hlo) rfl rfl ⟨rfl, rfl, Nat.le_of_ble_eq_true rfl, Nat.le_of_ble_eq_true rfl⟩ (Nat.le_of_ble_eq_true rfl) ⟨Nat.zero_le _, Nat.zero_le _⟩ ?_
          refine g_if_ne h (i := 27) 57 rfl rfl (fun c_51 => ?_) (fun c_51 => ?_)
          · skip
            refine g_aload_n h (i := 30) rfl rfl ?_
            refine g_getR h (i := 31) rfl fl_X10_25 (fun _ _ _ => rfl) (lk_R hL) (lr_low hL) ?_
            refine g_iload_n h (i := 32) rfl rfl ?_
            refine g_iload_n h (i := 33) rfl rfl ?_
            refine g_iast h (i := 34) rfl (lq_low hL) (jvp (bI_1.mp c_5) (by decide) (by omega)) ?_
            refine g_aload_n h (i := 35) rfl rfl ?_
            refine g_getR h (i := 36) rfl fl_X10_29 (fun _ _ _ => rfl) (lk_R hL) (lr_high hL) ?_
            refine g_iload_n h (i := 37) rfl rfl ?_
            refine g_iload_n h (i := 38) rfl rfl ?_
            refine g_iast h (i := 39) rfl (lq_high hL) (jvp (bI_1.mp c_5) (by decide) (by omega)) ?_
            refine g_iconst h (i := 40) rfl (v := 1) (by rfl) ?_
            exact g_iret hq h (i := 41) rfl (by unfold lmS; rw [if_pos ⟨bI_1.mp c_5, bI_1.mp c_16, bI_1.mp c_26⟩, if_neg (bI_0.mp c_36), if_pos (bI_1.mp c_51)]; exact ⟨rfl, ri_I 6 _ (ri_I 5 _ ri_0)⟩)
          · skip
            refine g_bipush h (i := 28) rfl (v := -3) (by rfl) ?_
            exact g_iret hq h (i := 29) rfl (by unfold lmS; rw [if_pos ⟨bI_1.mp c_5, bI_1.mp c_16, bI_1.mp c_26⟩, if_neg (bI_0.mp c_36), if_neg (bI_0.mp c_51)]; exact ⟨rfl, ri_0⟩)
      · skip
        refine g_bipush h (i := 14) rfl (v := -2) (by rfl) ?_
        exact g_iret hq h (i := 15) rfl (by unfold lmS; rw [if_neg (fun q => bI_0.mp c_26 q.2.2)]; exact ⟨rfl, ri_0⟩)
/-- jog -/
def jgS (j x : Int32) (cf : Nat → Nat → Int32) (r : Nat → Int64) : St := if (0 ≤ j ∧ j ≤ 3) ∧ (cf 5 (pI j) ≤ x ∧ x ≤ cf 6 (pI j)) then (if r 28 = 1 then (.int (-1000000), cf, r) else (.int (r (pI j)).toInt32, cf, up1 r (pI j) x.toInt64)) else (.int (-2000000), cf, r)
-- jog
set_option maxRecDepth 100000 in
set_option maxHeartbeats 4000000 in
theorem ct_X10_jog (l : Launch) (E : EE) (w : Wd) (a : Nat) (r : Nat → Int64) (j x : Int32) (hlo : E.2.2 ≤ wN (sRow w a r)) (hL : LayR w a) : Ct l E yX10_jog cX10_jog 4 (some .int) ({ frames := 2, cells := 0, slots := 0, locals := 43 } : Room) [.ref a, .int j, .int x] (sRow w a r) 0 0 (PS a w (jgS j x (cfW w a) r)) := by
  refine ct_in (il := il_X10_jog) (by decide) dk_X10_jog (Nat.le_of_ble_eq_true rfl) hlo ?_
  intro X h hq

  refine g_aload_n h (i := 0) rfl rfl ?_
  refine g_iload_n h (i := 1) rfl rfl ?_
  refine g_callVx h hq (i := 2) rfl mv_X10_86 cls10 (lk_R hL) (ct_X10_isJoint l E _ a j hlo) rfl rfl ⟨rfl, rfl, Nat.le_of_ble_eq_true rfl, Nat.le_of_ble_eq_true rfl⟩ (Nat.le_of_ble_eq_true rfl) ⟨Nat.zero_le _, Nat.zero_le _⟩ ?_
  refine g_if_eq h (i := 3) 27 rfl rfl (fun c_5 => ?_) (fun c_5 => ?_)
  · skip
    refine g_ldc h (i := 15) rfl k_X10_101 ?_
    exact g_iret hq h (i := 16) rfl (by unfold jgS; rw [if_neg (fun q => bI_0.mp c_5 q.1)]; exact ⟨rfl, ri_0⟩)
  · skip
    refine g_iload_n h (i := 4) rfl rfl ?_
    refine g_aload_n h (i := 5) rfl rfl ?_
    refine g_getR h (i := 6) rfl fl_X10_25 (fun _ _ _ => rfl) (lk_R hL) (lr_low hL) ?_
    refine g_iload_n h (i := 7) rfl rfl ?_
    refine g_iald h (i := 8) rfl (lq_low hL) (jvp (bI_1.mp c_5) (by decide) (by omega)) ?_
    refine g_eqi (wI w (a + 5) _) rfl ?_
    refine g_aload_n h (i := 9) rfl rfl ?_
    refine g_getR h (i := 10) rfl fl_X10_29 (fun _ _ _ => rfl) (lk_R hL) (lr_high hL) ?_
    refine g_iload_n h (i := 11) rfl rfl ?_
    refine g_iald h (i := 12) rfl (lq_high hL) (jvp (bI_1.mp c_5) (by decide) (by omega)) ?_
    refine g_eqi (wI w (a + 6) _) rfl ?_
    refine g_callSx h hq (i := 13) rfl ms_X10_82 (ct_X10_in l E _ x (wI w (a + 5) (pI j)) (wI w (a + 6) (pI j)) hlo) rfl rfl ⟨rfl, rfl, Nat.le_of_ble_eq_true rfl, Nat.le_of_ble_eq_true rfl⟩ (Nat.le_of_ble_eq_true rfl) ⟨Nat.zero_le _, Nat.zero_le _⟩ ?_
    refine g_if_ne h (i := 14) 30 rfl rfl (fun c_24 => ?_) (fun c_24 => ?_)
    · skip
      refine g_aload_n h (i := 17) rfl rfl ?_
      refine g_callVx h hq (i := 18) rfl mv_X10_91 cls10 (lk_R hL) (ct_X10_isGoing l E w a r hlo hL) rfl rfl ⟨rfl, rfl, Nat.le_of_ble_eq_true rfl, Nat.le_of_ble_eq_true rfl⟩ (Nat.le_of_ble_eq_true rfl) ⟨Nat.zero_le _, Nat.zero_le _⟩ ?_
      refine g_if_eq h (i := 19) 40 rfl rfl (fun c_34 => ?_) (fun c_34 => ?_)
      · skip
        obtain ⟨hj, hj3⟩ := jx (M := 3) (bI_1.mp c_5) (by decide)
        refine g_aload_n h (i := 22) rfl rfl ?_
        refine g_iconst h (i := 23) rfl (v := 0) (by rfl) ?_
        refine g_iload_n h (i := 24) rfl rfl ?_
        refine g_iadd h (i := 25) rfl ?_
        refine g_eqi (nI (pI j)) (jadd0 hj) ?_
        refine g_callVx h hq (i := 26) rfl mv_X10_97 cls10 (lk_R hL) (ct_X10_rowAt l E w a (pI j) r _ hlo hL (vp_in_nI (by omega) (by omega)) (nI_clamp (by omega))) rfl rfl ⟨rfl, rfl, Nat.le_of_ble_eq_true rfl, Nat.le_of_ble_eq_true rfl⟩ (Nat.le_of_ble_eq_true rfl) ⟨Nat.zero_le _, Nat.zero_le _⟩ ?_
        refine g_istore_n h (i := 27) rfl hq rfl ?_
        refine g_aload_n h (i := 28) rfl rfl ?_
        refine g_getR h (i := 29) rfl fl_X10_7 (fun _ _ _ => rfl) (lk_R hL) (lr_row hL) ?_
        refine g_iconst h (i := 30) rfl (v := 0) (by rfl) ?_
        refine g_iload_n h (i := 31) rfl rfl ?_
        refine g_iadd h (i := 32) rfl ?_
        refine g_eqi (nI (pI j)) (jadd0 hj) ?_
        refine g_iload_n h (i := 33) rfl rfl ?_
        refine g_i2l h (i := 34) rfl ?_
        refine g_last h (i := 35) rfl (lq_row hL) (vp_in_nI (by omega) (by omega)) ?_
        refine g_w _ (sRow_ux _ _ _ _ (n := pI j) (nI_clamp (by omega))) ?_
        refine g_iload_n h (i := 36) rfl rfl ?_
        exact g_iret hq h (i := 37) rfl (by unfold jgS; rw [if_pos ⟨bI_1.mp c_5, bI_1.mp c_24⟩, if_neg (bI_0.mp c_34)]; exact ⟨rfl, ri_0⟩)
      · skip
        refine g_ldc h (i := 20) rfl k_X10_95 ?_
        exact g_iret hq h (i := 21) rfl (by unfold jgS; rw [if_pos ⟨bI_1.mp c_5, bI_1.mp c_24⟩, if_pos (bI_1.mp c_34)]; exact ⟨rfl, ri_0⟩)
    · skip
      refine g_ldc h (i := 15) rfl k_X10_101 ?_
      exact g_iret hq h (i := 16) rfl (by unfold jgS; rw [if_neg (fun q => bI_0.mp c_24 q.2)]; exact ⟨rfl, ri_0⟩)
/-- state -/
def stS (j : Int32) (cf : Nat → Nat → Int32) (r : Nat → Int64) : St := (if 0 ≤ j ∧ j ≤ 3 then .int (r (pI j)).toInt32 else .int (-2000000), cf, r)
-- state
set_option maxRecDepth 100000 in
set_option maxHeartbeats 4000000 in
theorem ct_X10_state (l : Launch) (E : EE) (w : Wd) (a : Nat) (r : Nat → Int64) (j : Int32) (hlo : E.2.2 ≤ wN (sRow w a r)) (hL : LayR w a) : Ct l E yX10_state cX10_state 2 (some .int) ({ frames := 2, cells := 0, slots := 0, locals := 43 } : Room) [.ref a, .int j] (sRow w a r) 0 0 (PS a w (stS j (cfW w a) r)) := by
  refine ct_in (il := il_X10_state) (by decide) dk_X10_state (Nat.le_of_ble_eq_true rfl) hlo ?_
  intro X h hq

  refine g_aload_n h (i := 0) rfl rfl ?_
  refine g_iload_n h (i := 1) rfl rfl ?_
  refine g_callVx h hq (i := 2) rfl mv_X10_86 cls10 (lk_R hL) (ct_X10_isJoint l E _ a j hlo) rfl rfl ⟨rfl, rfl, Nat.le_of_ble_eq_true rfl, Nat.le_of_ble_eq_true rfl⟩ (Nat.le_of_ble_eq_true rfl) ⟨Nat.zero_le _, Nat.zero_le _⟩ ?_
  refine g_if_eq h (i := 3) 18 rfl rfl (fun c_5 => ?_) (fun c_5 => ?_)
  · skip
    refine g_ldc h (i := 10) rfl k_X10_101 ?_
    exact g_iret hq h (i := 11) rfl (by unfold stS; rw [if_neg (bI_0.mp c_5)]; exact ⟨rfl, ri_0⟩)
  · skip
    obtain ⟨hj, hj3⟩ := jx (M := 3) (bI_1.mp c_5) (by decide)
    refine g_aload_n h (i := 4) rfl rfl ?_
    refine g_iconst h (i := 5) rfl (v := 0) (by rfl) ?_
    refine g_iload_n h (i := 6) rfl rfl ?_
    refine g_iadd h (i := 7) rfl ?_
    refine g_eqi (nI (pI j)) (jadd0 hj) ?_
    refine g_callVx h hq (i := 8) rfl mv_X10_97 cls10 (lk_R hL) (ct_X10_rowAt l E w a (pI j) r _ hlo hL (vp_in_nI (by omega) (by omega)) (nI_clamp (by omega))) rfl rfl ⟨rfl, rfl, Nat.le_of_ble_eq_true rfl, Nat.le_of_ble_eq_true rfl⟩ (Nat.le_of_ble_eq_true rfl) ⟨Nat.zero_le _, Nat.zero_le _⟩ ?_
    refine g_goto h (i := 9) 20 rfl rfl ?_
    exact g_iret hq h (i := 11) rfl (by unfold stS; rw [if_pos (bI_1.mp c_5)]; exact ⟨rfl, ri_0⟩)
/-- unbox -/
def ubS (k : Int32) (cf : Nat → Nat → Int32) (r : Nat → Int64) : St := if 0 ≤ k ∧ k ≤ 3 then (if cf 9 (pI k) = 0 then (.int (-3), cf, r) else if r 28 = 1 then (.int (-3), cf, r) else (.int 1, up2 cf 9 (pI k) 0, r)) else (.int (-2), cf, r)
-- unbox
set_option maxRecDepth 100000 in
set_option maxHeartbeats 4000000 in
theorem ct_X10_unbox (l : Launch) (E : EE) (w : Wd) (a : Nat) (r : Nat → Int64) (k : Int32) (hlo : E.2.2 ≤ wN (sRow w a r)) (hL : LayR w a) : Ct l E yX10_unbox cX10_unbox 2 (some .int) ({ frames := 1, cells := 0, slots := 0, locals := 22 } : Room) [.ref a, .int k] (sRow w a r) 0 0 (PS a w (ubS k (cfW w a) r)) := by
  refine ct_in (il := il_X10_unbox) (by decide) dk_X10_unbox (Nat.le_of_ble_eq_true rfl) hlo ?_
  intro X h hq

  refine g_iload_n h (i := 0) rfl rfl ?_
  refine g_iconst h (i := 1) rfl (v := 0) (by rfl) ?_
  refine g_iconst h (i := 2) rfl (v := 3) (by rfl) ?_
  refine g_callSx h hq (i := 3) rfl ms_X10_82 (ct_X10_in l E _ k (0) (3) hlo) rfl rfl ⟨rfl, rfl, Nat.le_of_ble_eq_true rfl, Nat.le_of_ble_eq_true rfl⟩ (Nat.le_of_ble_eq_true rfl) ⟨Nat.zero_le _, Nat.zero_le _⟩ ?_
  refine g_if_ne h (i := 4) 12 rfl rfl (fun c_6 => ?_) (fun c_6 => ?_)
  · skip
    refine g_aload_n h (i := 7) rfl rfl ?_
    refine g_getR h (i := 8) rfl fl_X10_38 (fun _ _ _ => rfl) (lk_R hL) (lr_isBox hL) ?_
    refine g_iload_n h (i := 9) rfl rfl ?_
    refine g_zald h (i := 10) rfl (lq_isBox hL) (jvp (bI_1.mp c_6) (by decide) (by omega)) ?_
    refine g_eqi (wI w (a + 9) _) rfl ?_
    refine g_if_eq h (i := 11) 28 rfl rfl (fun c_18 => ?_) (fun c_18 => ?_)
    · skip
      refine g_bipush h (i := 15) rfl (v := -3) (by rfl) ?_
      exact g_iret hq h (i := 16) rfl (by unfold ubS; rw [if_pos (bI_1.mp c_6), if_pos (show cfW w a 9 (pI k) = 0 from c_18)]; exact ⟨rfl, ri_0⟩)
    · skip
      refine g_aload_n h (i := 12) rfl rfl ?_
      refine g_callVx h hq (i := 13) rfl mv_X10_91 cls10 (lk_R hL) (ct_X10_isGoing l E w a r hlo hL) rfl rfl ⟨rfl, rfl, Nat.le_of_ble_eq_true rfl, Nat.le_of_ble_eq_true rfl⟩ (Nat.le_of_ble_eq_true rfl) ⟨Nat.zero_le _, Nat.zero_le _⟩ ?_
      refine g_if_eq h (i := 14) 31 rfl rfl (fun c_25 => ?_) (fun c_25 => ?_)
      · skip
        refine g_aload_n h (i := 17) rfl rfl ?_
        refine g_getR h (i := 18) rfl fl_X10_38 (fun _ _ _ => rfl) (lk_R hL) (lr_isBox hL) ?_
        refine g_iload_n h (i := 19) rfl rfl ?_
        refine g_iconst h (i := 20) rfl (v := 0) (by rfl) ?_
        refine g_zast h (i := 21) rfl (lq_isBox hL) (jvp (bI_1.mp c_6) (by decide) (by omega)) (rfl) ?_
        refine g_iconst h (i := 22) rfl (v := 1) (by rfl) ?_
        exact g_iret hq h (i := 23) rfl (by unfold ubS; rw [if_pos (bI_1.mp c_6), if_neg (show ¬ cfW w a 9 (pI k) = 0 from c_18), if_neg (bI_0.mp c_25)]; exact ⟨rfl, ri_I 9 _ ri_0⟩)
      · skip
        refine g_bipush h (i := 15) rfl (v := -3) (by rfl) ?_
        exact g_iret hq h (i := 16) rfl (by unfold ubS; rw [if_pos (bI_1.mp c_6), if_neg (show ¬ cfW w a 9 (pI k) = 0 from c_18), if_pos (bI_1.mp c_25)]; exact ⟨rfl, ri_0⟩)
  · skip
    refine g_bipush h (i := 5) rfl (v := -2) (by rfl) ?_
    exact g_iret hq h (i := 6) rfl (by unfold ubS; rw [if_neg (bI_0.mp c_6)]; exact ⟨rfl, ri_0⟩)
/-- input -/
def inS (i on : Int32) (cf : Nat → Nat → Int32) (r : Nat → Int64) : St := if 0 ≤ i ∧ i ≤ 7 then (.int 1, cf, up1 r (4 + pI i) (if on = 0 then 0 else 1)) else (.int (-2), cf, r)
-- input
set_option maxRecDepth 100000 in
set_option maxHeartbeats 4000000 in
theorem ct_X10_input (l : Launch) (E : EE) (w : Wd) (a : Nat) (r : Nat → Int64) (i on : Int32) (hlo : E.2.2 ≤ wN (sRow w a r)) (hL : LayR w a) : Ct l E yX10_input cX10_input 3 (some .int) ({ frames := 1, cells := 0, slots := 0, locals := 22 } : Room) [.ref a, .int i, .int on] (sRow w a r) 0 0 (PS a w (inS i on (cfW w a) r)) := by
  refine ct_in (il := il_X10_input) (by decide) dk_X10_input (Nat.le_of_ble_eq_true rfl) hlo ?_
  intro X h hq

  refine g_iload_n h (i := 0) rfl rfl ?_
  refine g_iconst h (i := 1) rfl (v := 0) (by rfl) ?_
  refine g_bipush h (i := 2) rfl (v := 7) (by rfl) ?_
  refine g_callSx h hq (i := 3) rfl ms_X10_82 (ct_X10_in l E _ i (0) (7) hlo) rfl rfl ⟨rfl, rfl, Nat.le_of_ble_eq_true rfl, Nat.le_of_ble_eq_true rfl⟩ (Nat.le_of_ble_eq_true rfl) ⟨Nat.zero_le _, Nat.zero_le _⟩ ?_
  refine g_if_ne h (i := 4) 13 rfl rfl (fun c_7 => ?_) (fun c_7 => ?_)
  · skip
    obtain ⟨hj, hj3⟩ := jx (M := 7) (bI_1.mp c_7) (by decide)
    refine g_aload_n h (i := 7) rfl rfl ?_
    refine g_getR h (i := 8) rfl fl_X10_7 (fun _ _ _ => rfl) (lk_R hL) (lr_row hL) ?_
    refine g_iconst h (i := 9) rfl (v := 4) (by rfl) ?_
    refine g_iload_n h (i := 10) rfl rfl ?_
    refine g_iadd h (i := 11) rfl ?_
    refine g_iload_n h (i := 12) rfl rfl ?_
    refine g_if_eq h (i := 13) 28 rfl rfl (fun c_21 => ?_) (fun c_21 => ?_)
    · skip
      refine g_lconst h (i := 16) rfl (v := 0) (by rfl) ?_
      refine g_last h (i := 17) rfl (lq_row hL) (jin 4 _ hj (by omega) (by omega)) ?_
      refine g_w _ (sRow_ux _ _ _ _ (n := 4 + pI i) (jcl 4 hj (by omega) (by omega))) ?_
      refine g_iconst h (i := 18) rfl (v := 1) (by rfl) ?_
      exact g_iret hq h (i := 19) rfl (by unfold inS; rw [if_pos (bI_1.mp c_7), if_pos c_21]; exact ⟨rfl, ri_0⟩)
    · skip
      refine g_lconst h (i := 14) rfl (v := 1) (by rfl) ?_
      refine g_goto h (i := 15) 29 rfl rfl ?_
      refine g_last h (i := 17) rfl (lq_row hL) (jin 4 _ hj (by omega) (by omega)) ?_
      refine g_w _ (sRow_ux _ _ _ _ (n := 4 + pI i) (jcl 4 hj (by omega) (by omega))) ?_
      refine g_iconst h (i := 18) rfl (v := 1) (by rfl) ?_
      exact g_iret hq h (i := 19) rfl (by unfold inS; rw [if_pos (bI_1.mp c_7), if_neg c_21]; exact ⟨rfl, ri_0⟩)
  · skip
    refine g_bipush h (i := 5) rfl (v := -2) (by rfl) ?_
    exact g_iret hq h (i := 6) rfl (by unfold inS; rw [if_neg (bI_0.mp c_7)]; exact ⟨rfl, ri_0⟩)
/-- clear -/
def clS (cf : Nat → Nat → Int32) (r : Nat → Int64) : St := if r 28 = 1 then (.int (-3), cf, r) else (.int (cf 0 12), up2 cf 0 12 0, r)
-- clear
set_option maxRecDepth 100000 in
set_option maxHeartbeats 4000000 in
theorem ct_X10_clear (l : Launch) (E : EE) (w : Wd) (a : Nat) (r : Nat → Int64) (hlo : E.2.2 ≤ wN (sRow w a r)) (hL : LayR w a) : Ct l E yX10_clear cX10_clear 2 (some .int) ({ frames := 1, cells := 0, slots := 0, locals := 20 } : Room) [.ref a] (sRow w a r) 0 0 (PS a w (clS (cfW w a) r)) := by
  refine ct_in (il := il_X10_clear) (by decide) dk_X10_clear (Nat.le_of_ble_eq_true rfl) hlo ?_
  intro X h hq

  refine g_aload_n h (i := 0) rfl rfl ?_
  refine g_callVx h hq (i := 1) rfl mv_X10_91 cls10 (lk_R hL) (ct_X10_isGoing l E w a r hlo hL) rfl rfl ⟨rfl, rfl, Nat.le_of_ble_eq_true rfl, Nat.le_of_ble_eq_true rfl⟩ (Nat.le_of_ble_eq_true rfl) ⟨Nat.zero_le _, Nat.zero_le _⟩ ?_
  refine g_if_eq h (i := 2) 10 rfl rfl (fun c_4 => ?_) (fun c_4 => ?_)
  · skip
    refine g_aload_n h (i := 5) rfl rfl ?_
    refine g_getI h (i := 6) rfl fl_X10_207 (fun _ _ _ => rfl) (lk_R hL) ?_
    refine g_eqi (wI w a 12) (rfl) ?_
    refine g_istore_n h (i := 7) rfl hq rfl ?_
    refine g_aload_n h (i := 8) rfl rfl ?_
    refine g_iconst h (i := 9) rfl (v := 0) (by rfl) ?_
    refine g_putI_0 h (i := 10) rfl fl_X10_207 nf_10_12 (fun _ _ _ => rfl) (lk_R hL) (rfl) (by rfl) ?_
    refine g_iload_n h (i := 11) rfl rfl ?_
    exact g_iret hq h (i := 12) rfl (by unfold clS; rw [if_neg (bI_0.mp c_4)]; exact ⟨rfl, ri_I 0 _ ri_0⟩)
  · skip
    refine g_bipush h (i := 3) rfl (v := -3) (by rfl) ?_
    exact g_iret hq h (i := 4) rfl (by unfold clS; rw [if_pos (bI_1.mp c_4)]; exact ⟨rfl, ri_0⟩)
end
section
theorem jmul {k j : Int32} (n : Nat) (h : k = nI (pI k)) (h2 : j = nI (pI j)) : nI n * k + j = nI (n * pI k + pI j) := by
  have e : nI n * k = nI (n * pI k) := (congrArg (fun z => nI n * z) h).trans (pk_mul n _)
  have e2 : nI n * k + j = nI (n * pI k) + j := congrArg (fun z => z + j) e
  exact e2.trans (jadd _ h2)
def scS (t i on : Int32) (cf : Nat → Nat → Int32) (r : Nat → Int64) : St := if (1 ≤ t ∧ t ≤ 100000) ∧ (0 ≤ i ∧ i ≤ 7) then (if cf 0 16 = 40 then (.int (-4), cf, r) else (.int (cf 0 16 + 1), up2 (up2 (up2 (up2 cf 16 (pI (cf 0 16)) t) 17 (pI (cf 0 16)) i) 18 (pI (cf 0 16)) on) 0 16 (cf 0 16 + 1), r)) else (.int (-2), cf, r)
theorem c60 {x c : Int32} {m : Nat} (h : isI x m) (hm : m < 2147483648) (hc : c = nI m) (hn : ¬ x = c) : pI x < m := by
  have := h.2
  have : pI x ≠ m := fun q => hn (by rw [h.1, q, hc])
  omega
-- script
set_option maxRecDepth 100000 in
set_option maxHeartbeats 4000000 in
theorem ct_X10_script (l : Launch) (E : EE) (w : Wd) (a : Nat) (r : Nat → Int64) (t i on : Int32) (hlo : E.2.2 ≤ wN (sRow w a r)) (hL : LayR w a) (hc : isI (wI w a 16) 40) (hon : on = 0 ∨ on = 1) : Ct l E yX10_script cX10_script 4 (some .int) ({ frames := 1, cells := 0, slots := 0, locals := 22 } : Room) [.ref a, .int t, .int i, .int on] (sRow w a r) 0 0 (PS a w (scS t i on (cfW w a) r)) := by
  refine ct_in (il := il_X10_script) (by decide) dk_X10_script (Nat.le_of_ble_eq_true rfl) hlo ?_
  intro X h hq

  refine g_iload_n h (i := 0) rfl rfl ?_
  refine g_iconst h (i := 1) rfl (v := 1) (by rfl) ?_
  refine g_ldc h (i := 2) rfl k_X10_90 ?_
  refine g_callSx h hq (i := 3) rfl ms_X10_82 (ct_X10_in l E _ t (1) (100000) hlo) rfl rfl ⟨rfl, rfl, Nat.le_of_ble_eq_true rfl, Nat.le_of_ble_eq_true rfl⟩ (Nat.le_of_ble_eq_true rfl) ⟨Nat.zero_le _, Nat.zero_le _⟩ ?_
  refine g_if_eq h (i := 4) 20 rfl rfl (fun c_7 => ?_) (fun c_7 => ?_)
  · skip
    refine g_bipush h (i := 10) rfl (v := -2) (by rfl) ?_
    exact g_iret hq h (i := 11) rfl (by unfold scS; rw [if_neg (fun q => bI_0.mp c_7 q.1)]; exact ⟨rfl, ri_0⟩)
  · skip
    refine g_iload_n h (i := 5) rfl rfl ?_
    refine g_iconst h (i := 6) rfl (v := 0) (by rfl) ?_
    refine g_bipush h (i := 7) rfl (v := 7) (by rfl) ?_
    refine g_callSx h hq (i := 8) rfl ms_X10_82 (ct_X10_in l E _ i (0) (7) hlo) rfl rfl ⟨rfl, rfl, Nat.le_of_ble_eq_true rfl, Nat.le_of_ble_eq_true rfl⟩ (Nat.le_of_ble_eq_true rfl) ⟨Nat.zero_le _, Nat.zero_le _⟩ ?_
    refine g_if_ne h (i := 9) 23 rfl rfl (fun c_17 => ?_) (fun c_17 => ?_)
    · skip
      refine g_aload_n h (i := 12) rfl rfl ?_
      refine g_getI h (i := 13) rfl fl_X10_211 (fun _ _ _ => rfl) (lk_R hL) ?_
      refine g_eqi (wI w a 16) (rfl) ?_
      refine g_bipush h (i := 14) rfl (v := 40) (by rfl) ?_
      refine g_icmp_ne h (i := 15) 35 rfl rfl (fun c_29 => ?_) (fun c_29 => ?_)
      · skip
        have hk := c60 hc (by omega) (by rfl : (40 : Int32) = nI 40) c_29
        have hv : vp_in (wI w a 16) 40 := by rw [hc.1]; exact vp_in_nI hk (by omega)
        refine g_aload_n h (i := 18) rfl rfl ?_
        refine g_getR h (i := 19) rfl fl_X10_59 (fun _ _ _ => rfl) (lk_R hL) (lr_scriptTick hL) ?_
        refine g_aload_n h (i := 20) rfl rfl ?_
        refine g_getI h (i := 21) rfl fl_X10_211 (fun _ _ _ => rfl) (lk_R hL) ?_
        refine g_eqi (wI w a 16) (rfl) ?_
        refine g_iload_n h (i := 22) rfl rfl ?_
        refine g_iast h (i := 23) rfl (lq_scriptTick hL) (hv) ?_
        refine g_aload_n h (i := 24) rfl rfl ?_
        refine g_getR h (i := 25) rfl fl_X10_62 (fun _ _ _ => rfl) (lk_R hL) (lr_scriptInput hL) ?_
        refine g_aload_n h (i := 26) rfl rfl ?_
        refine g_getI h (i := 27) rfl fl_X10_211 (fun _ _ _ => rfl) (lk_R hL) ?_
        refine g_eqi (wI w a 16) (up2_a (by omega)) ?_
        refine g_iload_n h (i := 28) rfl rfl ?_
        refine g_iast h (i := 29) rfl (lq_scriptInput hL) (hv) ?_
        refine g_aload_n h (i := 30) rfl rfl ?_
        refine g_getR h (i := 31) rfl fl_X10_65 (fun _ _ _ => rfl) (lk_R hL) (lr_scriptOn hL) ?_
        refine g_aload_n h (i := 32) rfl rfl ?_
        refine g_getI h (i := 33) rfl fl_X10_211 (fun _ _ _ => rfl) (lk_R hL) ?_
        refine g_eqi (wI w a 16) ((up2_a (by omega)).trans (up2_a (by omega))) ?_
        refine g_iload_n h (i := 34) rfl rfl ?_
        refine g_zast h (i := 35) rfl (lq_scriptOn hL) (hv) (by rcases hon with q | q <;> (rw [q]; rfl)) ?_
        refine g_aload_n h (i := 36) rfl rfl ?_
        refine g_dup h (i := 37) rfl rfl ?_
        refine g_getI h (i := 38) rfl fl_X10_211 (fun _ _ _ => rfl) (lk_R hL) ?_
        refine g_eqi (wI w a 16) ((up2_a (by omega)).trans ((up2_a (by omega)).trans (up2_a (by omega)))) ?_
        refine g_iconst h (i := 39) rfl (v := 1) (by rfl) ?_
        refine g_iadd h (i := 40) rfl ?_
        refine g_putI_0 h (i := 41) rfl fl_X10_211 nf_10_16 (fun _ _ _ => rfl) (lk_R hL) (rfl) (by rfl) ?_
        refine g_aload_n h (i := 42) rfl rfl ?_
        refine g_getI h (i := 43) rfl fl_X10_211 (fun _ _ _ => rfl) (lk_R hL) ?_
        refine g_eqi (wI w a 16 + 1) (up2_s _ _ _ _) ?_
        exact g_iret hq h (i := 44) rfl (by unfold scS; rw [if_pos ⟨bI_1.mp c_7, bI_1.mp c_17⟩, if_neg (show ¬ cfW w a 0 16 = 40 from c_29)]; exact ⟨rfl, ri_I 0 16 (ri_I 18 _ (ri_I 17 _ (ri_I 16 _ ri_0)))⟩)
      · skip
        refine g_bipush h (i := 16) rfl (v := -4) (by rfl) ?_
        exact g_iret hq h (i := 17) rfl (by unfold scS; rw [if_pos ⟨bI_1.mp c_7, bI_1.mp c_17⟩, if_pos (show cfW w a 0 16 = 40 from c_29)]; exact ⟨rfl, ri_0⟩)
    · skip
      refine g_bipush h (i := 10) rfl (v := -2) (by rfl) ?_
      exact g_iret hq h (i := 11) rfl (by unfold scS; rw [if_neg (fun q => bI_0.mp c_17 q.2)]; exact ⟨rfl, ri_0⟩)
def lnB (o x y : Int32) : Int32 := if o = 0 then bI ((0 ≤ x ∧ x ≤ 15) ∧ (1 ≤ y ∧ y ≤ 100)) else if o = 1 then bI (0 ≤ x ∧ x ≤ 1000) else if o = 2 ∨ o = 3 then bI ((0 ≤ x ∧ x ≤ 7) ∧ (0 ≤ y ∧ y ≤ 1)) else if o = 4 ∨ o = 5 ∨ o = 11 then bI (0 ≤ x ∧ x ≤ 59) else if o = 7 ∨ o = 8 ∨ o = 9 then bI (0 ≤ x ∧ x ≤ 7) else bI (o = 6 ∨ o = 10)
theorem lnB_n (o x y : Int32) : narrow .boolean (.int (lnB o x y)) = .int (lnB o x y) := by
  unfold lnB
  repeat' split
  all_goals exact bI_n _
theorem n12e (o : Int32) : (o = 0 ∨ o = 1 ∨ o = 2 ∨ o = 3 ∨ o = 4 ∨ o = 5 ∨ o = 6 ∨ o = 7 ∨ o = 8 ∨ o = 9 ∨ o = 10 ∨ o = 11) ∨ (o.toInt < 0 ∨ 11 < o.toInt) := by
  by_cases h : o.toInt < 0 ∨ 11 < o.toInt
  · exact Or.inr h
  · left
    have e : o = nI (pI o) := i32x (by unfold pI; rw [nIT (by omega)]; omega)
    have l : pI o ≤ 11 := by unfold pI; omega
    rcases n12 l with n | n | n | n | n | n | n | n | n | n | n | n
    all_goals (rw [n] at e; rw [e]; decide)
-- is a line right
set_option maxRecDepth 100000 in
set_option maxHeartbeats 4000000 in
theorem ct_X10_isLineRight (l : Launch) (E : EE) (w : Wd) (o x y : Int32) (hlo : E.2.2 ≤ wN w) : Ct l E yX10_isLineRight cX10_isLineRight 3 (some .boolean) ({ frames := 2, cells := 0, slots := 0, locals := 42 } : Room) [.int o, .int x, .int y] w 0 0 (Px (some (.int (lnB o x y))) w) := by
  refine ct_in (il := il_X10_isLineRight) (by decide) dk_X10_isLineRight (Nat.le_of_ble_eq_true rfl) hlo ?_
  intro X h hq

  rcases n12e o with hsw | hsw
  · skip
    refine g_iload_n h (i := 0) rfl rfl ?_
    rcases hsw with e | e | e | e | e | e | e | e | e | e | e | e
    · skip
      subst e
      refine g_tin h (i := 1) 64 rfl (by decide) (by decide) rfl rfl ?_
      refine g_iload_n h (i := 2) rfl rfl ?_
      refine g_callSx h hq (i := 3) rfl ms_X10_165 (ct_X10_isPose l E _ x hlo) rfl rfl ⟨rfl, rfl, Nat.le_of_ble_eq_true rfl, Nat.le_of_ble_eq_true rfl⟩ (Nat.le_of_ble_eq_true rfl) ⟨Nat.zero_le _, Nat.zero_le _⟩ ?_
      refine g_if_eq h (i := 4) 85 rfl rfl (fun c_68 => ?_) (fun c_68 => ?_)
      · skip
        refine g_iconst h (i := 12) rfl (v := 0) (by rfl) ?_
        exact g_zret hq h (i := 13) rfl (rfl) (⟨by unfold lnB; rw [if_pos (rfl)]; exact rF (fun q => bI_0.mp c_68 q.1), rfl⟩)
      · skip
        refine g_iload_n h (i := 5) rfl rfl ?_
        refine g_iconst h (i := 6) rfl (v := 1) (by rfl) ?_
        refine g_bipush h (i := 7) rfl (v := 100) (by rfl) ?_
        refine g_callSx h hq (i := 8) rfl ms_X10_82 (ct_X10_in l E _ y (1) (100) hlo) rfl rfl ⟨rfl, rfl, Nat.le_of_ble_eq_true rfl, Nat.le_of_ble_eq_true rfl⟩ (Nat.le_of_ble_eq_true rfl) ⟨Nat.zero_le _, Nat.zero_le _⟩ ?_
        refine g_if_eq h (i := 9) 85 rfl rfl (fun c_78 => ?_) (fun c_78 => ?_)
        · skip
          refine g_iconst h (i := 12) rfl (v := 0) (by rfl) ?_
          exact g_zret hq h (i := 13) rfl (rfl) (⟨by unfold lnB; rw [if_pos (rfl)]; exact rF (fun q => bI_0.mp c_78 q.2), rfl⟩)
        · skip
          refine g_iconst h (i := 10) rfl (v := 1) (by rfl) ?_
          refine g_goto h (i := 11) 86 rfl rfl ?_
          exact g_zret hq h (i := 13) rfl (rfl) (⟨by unfold lnB; rw [if_pos (rfl)]; exact rT ⟨bI_1.mp c_68, bI_1.mp c_78⟩, rfl⟩)
    · skip
      subst e
      refine g_tin h (i := 1) 87 rfl (by decide) (by decide) rfl rfl ?_
      refine g_iload_n h (i := 14) rfl rfl ?_
      refine g_iconst h (i := 15) rfl (v := 0) (by rfl) ?_
      refine g_sipush h (i := 16) rfl (v := 1000) (by rfl) ?_
      refine g_callSx h hq (i := 17) rfl ms_X10_82 (ct_X10_in l E _ x (0) (1000) hlo) rfl rfl ⟨rfl, rfl, Nat.le_of_ble_eq_true rfl, Nat.le_of_ble_eq_true rfl⟩ (Nat.le_of_ble_eq_true rfl) ⟨Nat.zero_le _, Nat.zero_le _⟩ ?_
      exact g_zret hq h (i := 18) rfl (bI_n _) (⟨by unfold lnB; rw [if_neg (by decide), if_pos (rfl)], rfl⟩)
    · skip
      subst e
      refine g_tin h (i := 1) 96 rfl (by decide) (by decide) rfl rfl ?_
      refine g_iload_n h (i := 19) rfl rfl ?_
      refine g_iconst h (i := 20) rfl (v := 0) (by rfl) ?_
      refine g_bipush h (i := 21) rfl (v := 7) (by rfl) ?_
      refine g_callSx h hq (i := 22) rfl ms_X10_82 (ct_X10_in l E _ x (0) (7) hlo) rfl rfl ⟨rfl, rfl, Nat.le_of_ble_eq_true rfl, Nat.le_of_ble_eq_true rfl⟩ (Nat.le_of_ble_eq_true rfl) ⟨Nat.zero_le _, Nat.zero_le _⟩ ?_
      refine g_if_eq h (i := 23) 119 rfl rfl (fun c_103 => ?_) (fun c_103 => ?_)
      · skip
        refine g_iconst h (i := 31) rfl (v := 0) (by rfl) ?_
        exact g_zret hq h (i := 32) rfl (rfl) (⟨by unfold lnB; rw [if_neg (by decide), if_neg (by decide), if_pos (Or.inl rfl)]; exact rF (fun q => bI_0.mp c_103 q.1), rfl⟩)
      · skip
        refine g_iload_n h (i := 24) rfl rfl ?_
        refine g_iconst h (i := 25) rfl (v := 0) (by rfl) ?_
        refine g_iconst h (i := 26) rfl (v := 1) (by rfl) ?_
        refine g_callSx h hq (i := 27) rfl ms_X10_82 (ct_X10_in l E _ y (0) (1) hlo) rfl rfl ⟨rfl, rfl, Nat.le_of_ble_eq_true rfl, Nat.le_of_ble_eq_true rfl⟩ (Nat.le_of_ble_eq_true rfl) ⟨Nat.zero_le _, Nat.zero_le _⟩ ?_
        refine g_if_eq h (i := 28) 119 rfl rfl (fun c_112 => ?_) (fun c_112 => ?_)
        · skip
          refine g_iconst h (i := 31) rfl (v := 0) (by rfl) ?_
          exact g_zret hq h (i := 32) rfl (rfl) (⟨by unfold lnB; rw [if_neg (by decide), if_neg (by decide), if_pos (Or.inl rfl)]; exact rF (fun q => bI_0.mp c_112 q.2), rfl⟩)
        · skip
          refine g_iconst h (i := 29) rfl (v := 1) (by rfl) ?_
          refine g_goto h (i := 30) 120 rfl rfl ?_
          exact g_zret hq h (i := 32) rfl (rfl) (⟨by unfold lnB; rw [if_neg (by decide), if_neg (by decide), if_pos (Or.inl rfl)]; exact rT ⟨bI_1.mp c_103, bI_1.mp c_112⟩, rfl⟩)
    · skip
      subst e
      refine g_tin h (i := 1) 96 rfl (by decide) (by decide) rfl rfl ?_
      refine g_iload_n h (i := 19) rfl rfl ?_
      refine g_iconst h (i := 20) rfl (v := 0) (by rfl) ?_
      refine g_bipush h (i := 21) rfl (v := 7) (by rfl) ?_
      refine g_callSx h hq (i := 22) rfl ms_X10_82 (ct_X10_in l E _ x (0) (7) hlo) rfl rfl ⟨rfl, rfl, Nat.le_of_ble_eq_true rfl, Nat.le_of_ble_eq_true rfl⟩ (Nat.le_of_ble_eq_true rfl) ⟨Nat.zero_le _, Nat.zero_le _⟩ ?_
      refine g_if_eq h (i := 23) 119 rfl rfl (fun c_103 => ?_) (fun c_103 => ?_)
      · skip
        refine g_iconst h (i := 31) rfl (v := 0) (by rfl) ?_
        exact g_zret hq h (i := 32) rfl (rfl) (⟨by unfold lnB; rw [if_neg (by decide), if_neg (by decide), if_pos (Or.inr rfl)]; exact rF (fun q => bI_0.mp c_103 q.1), rfl⟩)
      · skip
        refine g_iload_n h (i := 24) rfl rfl ?_
        refine g_iconst h (i := 25) rfl (v := 0) (by rfl) ?_
        refine g_iconst h (i := 26) rfl (v := 1) (by rfl) ?_
        refine g_callSx h hq (i := 27) rfl ms_X10_82 (ct_X10_in l E _ y (0) (1) hlo) rfl rfl ⟨rfl, rfl, Nat.le_of_ble_eq_true rfl, Nat.le_of_ble_eq_true rfl⟩ (Nat.le_of_ble_eq_true rfl) ⟨Nat.zero_le _, Nat.zero_le _⟩ ?_
        refine g_if_eq h (i := 28) 119 rfl rfl (fun c_112 => ?_) (fun c_112 => ?_)
        · skip
          refine g_iconst h (i := 31) rfl (v := 0) (by rfl) ?_
          exact g_zret hq h (i := 32) rfl (rfl) (⟨by unfold lnB; rw [if_neg (by decide), if_neg (by decide), if_pos (Or.inr rfl)]; exact rF (fun q => bI_0.mp c_112 q.2), rfl⟩)
        · skip
          refine g_iconst h (i := 29) rfl (v := 1) (by rfl) ?_
          refine g_goto h (i := 30) 120 rfl rfl ?_
          exact g_zret hq h (i := 32) rfl (rfl) (⟨by unfold lnB; rw [if_neg (by decide), if_neg (by decide), if_pos (Or.inr rfl)]; exact rT ⟨bI_1.mp c_103, bI_1.mp c_112⟩, rfl⟩)
    · skip
      subst e
      refine g_tin h (i := 1) 121 rfl (by decide) (by decide) rfl rfl ?_
      refine g_iload_n h (i := 33) rfl rfl ?_
      refine g_iconst h (i := 34) rfl (v := 0) (by rfl) ?_
      refine g_bipush h (i := 35) rfl (v := 59) (by rfl) ?_
      refine g_callSx h hq (i := 36) rfl ms_X10_82 (ct_X10_in l E _ x (0) (59) hlo) rfl rfl ⟨rfl, rfl, Nat.le_of_ble_eq_true rfl, Nat.le_of_ble_eq_true rfl⟩ (Nat.le_of_ble_eq_true rfl) ⟨Nat.zero_le _, Nat.zero_le _⟩ ?_
      exact g_zret hq h (i := 37) rfl (bI_n _) (⟨by unfold lnB; rw [if_neg (by decide), if_neg (by decide), if_neg (by decide), if_pos (Or.inl rfl)], rfl⟩)
    · skip
      subst e
      refine g_tin h (i := 1) 121 rfl (by decide) (by decide) rfl rfl ?_
      refine g_iload_n h (i := 33) rfl rfl ?_
      refine g_iconst h (i := 34) rfl (v := 0) (by rfl) ?_
      refine g_bipush h (i := 35) rfl (v := 59) (by rfl) ?_
      refine g_callSx h hq (i := 36) rfl ms_X10_82 (ct_X10_in l E _ x (0) (59) hlo) rfl rfl ⟨rfl, rfl, Nat.le_of_ble_eq_true rfl, Nat.le_of_ble_eq_true rfl⟩ (Nat.le_of_ble_eq_true rfl) ⟨Nat.zero_le _, Nat.zero_le _⟩ ?_
      exact g_zret hq h (i := 37) rfl (bI_n _) (⟨by unfold lnB; rw [if_neg (by decide), if_neg (by decide), if_neg (by decide), if_pos (Or.inr (Or.inl rfl))], rfl⟩)
    · skip
      subst e
      refine g_tin h (i := 1) 137 rfl (by decide) (by decide) rfl rfl ?_
      refine g_iload_n h (i := 43) rfl rfl ?_
      refine g_bipush h (i := 44) rfl (v := 6) (by rfl) ?_
      refine g_icmp_eq h (i := 45) 149 rfl rfl (fun c_140 => ?_) (fun c_140 => absurd rfl c_140)
      refine g_iconst h (i := 49) rfl (v := 1) (by rfl) ?_
      refine g_goto h (i := 50) 154 rfl rfl ?_
      exact g_zret hq h (i := 52) rfl (rfl) (⟨by unfold lnB; rw [if_neg (by decide), if_neg (by decide), if_neg (by decide), if_neg (by decide), if_neg (by decide)]; exact rT (by decide), rfl⟩)
    · skip
      subst e
      refine g_tin h (i := 1) 129 rfl (by decide) (by decide) rfl rfl ?_
      refine g_iload_n h (i := 38) rfl rfl ?_
      refine g_iconst h (i := 39) rfl (v := 0) (by rfl) ?_
      refine g_bipush h (i := 40) rfl (v := 7) (by rfl) ?_
      refine g_callSx h hq (i := 41) rfl ms_X10_82 (ct_X10_in l E _ x (0) (7) hlo) rfl rfl ⟨rfl, rfl, Nat.le_of_ble_eq_true rfl, Nat.le_of_ble_eq_true rfl⟩ (Nat.le_of_ble_eq_true rfl) ⟨Nat.zero_le _, Nat.zero_le _⟩ ?_
      exact g_zret hq h (i := 42) rfl (bI_n _) (⟨by unfold lnB; rw [if_neg (by decide), if_neg (by decide), if_neg (by decide), if_neg (by decide), if_pos (Or.inl rfl)], rfl⟩)
    · skip
      subst e
      refine g_tin h (i := 1) 129 rfl (by decide) (by decide) rfl rfl ?_
      refine g_iload_n h (i := 38) rfl rfl ?_
      refine g_iconst h (i := 39) rfl (v := 0) (by rfl) ?_
      refine g_bipush h (i := 40) rfl (v := 7) (by rfl) ?_
      refine g_callSx h hq (i := 41) rfl ms_X10_82 (ct_X10_in l E _ x (0) (7) hlo) rfl rfl ⟨rfl, rfl, Nat.le_of_ble_eq_true rfl, Nat.le_of_ble_eq_true rfl⟩ (Nat.le_of_ble_eq_true rfl) ⟨Nat.zero_le _, Nat.zero_le _⟩ ?_
      exact g_zret hq h (i := 42) rfl (bI_n _) (⟨by unfold lnB; rw [if_neg (by decide), if_neg (by decide), if_neg (by decide), if_neg (by decide), if_pos (Or.inr (Or.inl rfl))], rfl⟩)
    · skip
      subst e
      refine g_tin h (i := 1) 129 rfl (by decide) (by decide) rfl rfl ?_
      refine g_iload_n h (i := 38) rfl rfl ?_
      refine g_iconst h (i := 39) rfl (v := 0) (by rfl) ?_
      refine g_bipush h (i := 40) rfl (v := 7) (by rfl) ?_
      refine g_callSx h hq (i := 41) rfl ms_X10_82 (ct_X10_in l E _ x (0) (7) hlo) rfl rfl ⟨rfl, rfl, Nat.le_of_ble_eq_true rfl, Nat.le_of_ble_eq_true rfl⟩ (Nat.le_of_ble_eq_true rfl) ⟨Nat.zero_le _, Nat.zero_le _⟩ ?_
      exact g_zret hq h (i := 42) rfl (bI_n _) (⟨by unfold lnB; rw [if_neg (by decide), if_neg (by decide), if_neg (by decide), if_neg (by decide), if_pos (Or.inr (Or.inr rfl))], rfl⟩)
    · skip
      subst e
      refine g_tin h (i := 1) 137 rfl (by decide) (by decide) rfl rfl ?_
      refine g_iload_n h (i := 43) rfl rfl ?_
      refine g_bipush h (i := 44) rfl (v := 6) (by rfl) ?_
      refine g_icmp_eq h (i := 45) 149 rfl rfl (fun c_140 => absurd c_140 (by decide)) (fun c_140 => ?_)
      refine g_iload_n h (i := 46) rfl rfl ?_
      refine g_bipush h (i := 47) rfl (v := 10) (by rfl) ?_
      refine g_icmp_ne h (i := 48) 153 rfl rfl (fun c_146 => absurd rfl c_146) (fun c_146 => ?_)
      refine g_iconst h (i := 49) rfl (v := 1) (by rfl) ?_
      refine g_goto h (i := 50) 154 rfl rfl ?_
      exact g_zret hq h (i := 52) rfl (rfl) (⟨by unfold lnB; rw [if_neg (by decide), if_neg (by decide), if_neg (by decide), if_neg (by decide), if_neg (by decide)]; exact rT (by decide), rfl⟩)
    · skip
      subst e
      refine g_tin h (i := 1) 121 rfl (by decide) (by decide) rfl rfl ?_
      refine g_iload_n h (i := 33) rfl rfl ?_
      refine g_iconst h (i := 34) rfl (v := 0) (by rfl) ?_
      refine g_bipush h (i := 35) rfl (v := 59) (by rfl) ?_
      refine g_callSx h hq (i := 36) rfl ms_X10_82 (ct_X10_in l E _ x (0) (59) hlo) rfl rfl ⟨rfl, rfl, Nat.le_of_ble_eq_true rfl, Nat.le_of_ble_eq_true rfl⟩ (Nat.le_of_ble_eq_true rfl) ⟨Nat.zero_le _, Nat.zero_le _⟩ ?_
      exact g_zret hq h (i := 37) rfl (bI_n _) (⟨by unfold lnB; rw [if_neg (by decide), if_neg (by decide), if_neg (by decide), if_pos (Or.inr (Or.inr rfl))], rfl⟩)
  · skip
    refine g_iload_n h (i := 0) rfl rfl ?_
    · skip
      skip
      refine g_tout h (i := 1) 137 rfl (hsw) rfl ?_
      refine g_iload_n h (i := 43) rfl rfl ?_
      refine g_bipush h (i := 44) rfl (v := 6) (by rfl) ?_
      refine g_icmp_eq h (i := 45) 149 rfl rfl (fun c_140 => absurd c_140 (fun q => by subst q; exact absurd hsw (by decide))) (fun c_140 => ?_)
      refine g_iload_n h (i := 46) rfl rfl ?_
      refine g_bipush h (i := 47) rfl (v := 10) (by rfl) ?_
      refine g_icmp_ne h (i := 48) 153 rfl rfl (fun c_146 => ?_) (fun c_146 => absurd c_146 (fun q => by subst q; exact absurd hsw (by decide)))
      refine g_iconst h (i := 51) rfl (v := 0) (by rfl) ?_
      exact g_zret hq h (i := 52) rfl (rfl) (⟨by unfold lnB; rw [if_neg (fun q => by subst q; exact absurd hsw (by decide)), if_neg (fun q => by subst q; exact absurd hsw (by decide)), if_neg (fun q => by rcases q with rfl | rfl <;> exact absurd hsw (by decide)), if_neg (fun q => by rcases q with rfl | rfl | rfl <;> exact absurd hsw (by decide)), if_neg (fun q => by rcases q with rfl | rfl | rfl <;> exact absurd hsw (by decide))]; exact rF (fun q => by rcases q with rfl | rfl <;> exact absurd hsw (by decide)), rfl⟩)
end
section
/-- a line -/
def liS (o x y : Int32) (cf : Nat → Nat → Int32) (r : Nat → Int64) : St := if lnB o x y = 0 then (.int (-2), cf, r) else if r 28 = 1 then (.int (-3), cf, r) else if cf 0 12 = 60 then (.int (-4), cf, r) else (.int (cf 0 12), up2 (up2 (up2 (up2 cf 13 (pI (cf 0 12)) o) 14 (pI (cf 0 12)) x) 15 (pI (cf 0 12)) y) 0 12 (cf 0 12 + 1), r)
-- line
set_option maxRecDepth 100000 in
set_option maxHeartbeats 4000000 in
theorem ct_X10_line (l : Launch) (E : EE) (w : Wd) (a : Nat) (r : Nat → Int64) (o x y : Int32) (hlo : E.2.2 ≤ wN (sRow w a r)) (hL : LayR w a) (hc : isI (wI w a 12) 60) : Ct l E yX10_line cX10_line 4 (some .int) ({ frames := 3, cells := 0, slots := 0, locals := 64 } : Room) [.ref a, .int o, .int x, .int y] (sRow w a r) 0 0 (PS a w (liS o x y (cfW w a) r)) := by
  refine ct_in (il := il_X10_line) (by decide) dk_X10_line (Nat.le_of_ble_eq_true rfl) hlo ?_
  intro X h hq

  refine g_iload_n h (i := 0) rfl rfl ?_
  refine g_iload_n h (i := 1) rfl rfl ?_
  refine g_iload_n h (i := 2) rfl rfl ?_
  refine g_callSx h hq (i := 3) rfl ms_X10_204 (ct_X10_isLineRight l E _ o x y hlo) rfl rfl ⟨rfl, rfl, Nat.le_of_ble_eq_true rfl, Nat.le_of_ble_eq_true rfl⟩ (Nat.le_of_ble_eq_true rfl) ⟨Nat.zero_le _, Nat.zero_le _⟩ ?_
  refine g_if_ne h (i := 4) 12 rfl rfl (fun c_6 => ?_) (fun c_6 => ?_)
  · skip
    refine g_aload_n h (i := 7) rfl rfl ?_
    refine g_callVx h hq (i := 8) rfl mv_X10_91 cls10 (lk_R hL) (ct_X10_isGoing l E w a r hlo hL) rfl rfl ⟨rfl, rfl, Nat.le_of_ble_eq_true rfl, Nat.le_of_ble_eq_true rfl⟩ (Nat.le_of_ble_eq_true rfl) ⟨Nat.zero_le _, Nat.zero_le _⟩ ?_
    refine g_if_eq h (i := 9) 22 rfl rfl (fun c_16 => ?_) (fun c_16 => ?_)
    · skip
      refine g_aload_n h (i := 12) rfl rfl ?_
      refine g_getI h (i := 13) rfl fl_X10_207 (fun _ _ _ => rfl) (lk_R hL) ?_
      refine g_eqi (wI w a 12) (rfl) ?_
      refine g_bipush h (i := 14) rfl (v := 60) (by rfl) ?_
      refine g_icmp_ne h (i := 15) 34 rfl rfl (fun c_28 => ?_) (fun c_28 => ?_)
      · skip
        have hk := c60 hc (by omega) (by rfl : (60 : Int32) = nI 60) c_28
        have hv : vp_in (wI w a 12) 60 := by rw [hc.1]; exact vp_in_nI hk (by omega)
        refine g_aload_n h (i := 18) rfl rfl ?_
        refine g_getR h (i := 19) rfl fl_X10_50 (fun _ _ _ => rfl) (lk_R hL) (lr_op hL) ?_
        refine g_aload_n h (i := 20) rfl rfl ?_
        refine g_getI h (i := 21) rfl fl_X10_207 (fun _ _ _ => rfl) (lk_R hL) ?_
        refine g_eqi (wI w a 12) (rfl) ?_
        refine g_iload_n h (i := 22) rfl rfl ?_
        refine g_iast h (i := 23) rfl (lq_op hL) (hv) ?_
        refine g_aload_n h (i := 24) rfl rfl ?_
        refine g_getR h (i := 25) rfl fl_X10_53 (fun _ _ _ => rfl) (lk_R hL) (lr_first hL) ?_
        refine g_aload_n h (i := 26) rfl rfl ?_
        refine g_getI h (i := 27) rfl fl_X10_207 (fun _ _ _ => rfl) (lk_R hL) ?_
        refine g_eqi (wI w a 12) (up2_a (by omega)) ?_
        refine g_iload_n h (i := 28) rfl rfl ?_
        refine g_iast h (i := 29) rfl (lq_first hL) (hv) ?_
        refine g_aload_n h (i := 30) rfl rfl ?_
        refine g_getR h (i := 31) rfl fl_X10_56 (fun _ _ _ => rfl) (lk_R hL) (lr_second hL) ?_
        refine g_aload_n h (i := 32) rfl rfl ?_
        refine g_getI h (i := 33) rfl fl_X10_207 (fun _ _ _ => rfl) (lk_R hL) ?_
        refine g_eqi (wI w a 12) ((up2_a (by omega)).trans (up2_a (by omega))) ?_
        refine g_iload_n h (i := 34) rfl rfl ?_
        refine g_iast h (i := 35) rfl (lq_second hL) (hv) ?_
        refine g_aload_n h (i := 36) rfl rfl ?_
        refine g_dup h (i := 37) rfl rfl ?_
        refine g_getI h (i := 38) rfl fl_X10_207 (fun _ _ _ => rfl) (lk_R hL) ?_
        refine g_eqi (wI w a 12) ((up2_a (by omega)).trans ((up2_a (by omega)).trans (up2_a (by omega)))) ?_
        refine g_iconst h (i := 39) rfl (v := 1) (by rfl) ?_
        refine g_iadd h (i := 40) rfl ?_
        refine g_putI_0 h (i := 41) rfl fl_X10_207 nf_10_12 (fun _ _ _ => rfl) (lk_R hL) (rfl) (by rfl) ?_
        refine g_aload_n h (i := 42) rfl rfl ?_
        refine g_getI h (i := 43) rfl fl_X10_207 (fun _ _ _ => rfl) (lk_R hL) ?_
        refine g_eqi (wI w a 12 + 1) (up2_s _ _ _ _) ?_
        refine g_iconst h (i := 44) rfl (v := 1) (by rfl) ?_
        refine g_isub h (i := 45) rfl ?_
        refine g_eqi (wI w a 12) (Int32.add_sub_cancel _ _) ?_
        exact g_iret hq h (i := 46) rfl (by unfold liS; rw [if_neg c_6, if_neg (bI_0.mp c_16), if_neg (show ¬ cfW w a 0 12 = 60 from c_28)]; exact ⟨rfl, ri_I 0 12 (ri_I 15 _ (ri_I 14 _ (ri_I 13 _ ri_0)))⟩)
      · skip
        refine g_bipush h (i := 16) rfl (v := -4) (by rfl) ?_
        exact g_iret hq h (i := 17) rfl (by unfold liS; rw [if_neg c_6, if_neg (bI_0.mp c_16), if_pos (show cfW w a 0 12 = 60 from c_28)]; exact ⟨rfl, ri_0⟩)
    · skip
      refine g_bipush h (i := 10) rfl (v := -3) (by rfl) ?_
      exact g_iret hq h (i := 11) rfl (by unfold liS; rw [if_neg c_6, if_pos (bI_1.mp c_16)]; exact ⟨rfl, ri_0⟩)
  · skip
    refine g_bipush h (i := 5) rfl (v := -2) (by rfl) ?_
    exact g_iret hq h (i := 6) rfl (by unfold liS; rw [if_pos c_6]; exact ⟨rfl, ri_0⟩)
/-- pose -/
def poS (k j : Int32) (cf : Nat → Nat → Int32) (r : Nat → Int64) : St := (if (0 ≤ k ∧ k ≤ 15) ∧ (0 ≤ j ∧ j ≤ 3) ∧ ¬ cf 11 (pI k) = 0 then .int (cf 12 (4 * pI k + pI j)) else .int (-2000000), cf, r)
-- pose
set_option maxRecDepth 100000 in
set_option maxHeartbeats 4000000 in
theorem ct_X10_pose (l : Launch) (E : EE) (w : Wd) (a : Nat) (r : Nat → Int64) (k j : Int32) (hlo : E.2.2 ≤ wN (sRow w a r)) (hL : LayR w a) : Ct l E yX10_pose cX10_pose 3 (some .int) ({ frames := 2, cells := 0, slots := 0, locals := 43 } : Room) [.ref a, .int k, .int j] (sRow w a r) 0 0 (PS a w (poS k j (cfW w a) r)) := by
  refine ct_in (il := il_X10_pose) (by decide) dk_X10_pose (Nat.le_of_ble_eq_true rfl) hlo ?_
  intro X h hq

  refine g_iload_n h (i := 0) rfl rfl ?_
  refine g_callSx h hq (i := 1) rfl ms_X10_165 (ct_X10_isPose l E _ k hlo) rfl rfl ⟨rfl, rfl, Nat.le_of_ble_eq_true rfl, Nat.le_of_ble_eq_true rfl⟩ (Nat.le_of_ble_eq_true rfl) ⟨Nat.zero_le _, Nat.zero_le _⟩ ?_
  refine g_if_eq h (i := 2) 37 rfl rfl (fun c_4 => ?_) (fun c_4 => ?_)
  · skip
    refine g_ldc h (i := 21) rfl k_X10_101 ?_
    exact g_iret hq h (i := 22) rfl (by unfold poS; rw [if_neg (fun q => bI_0.mp c_4 q.1)]; exact ⟨rfl, ri_0⟩)
  · skip
    refine g_aload_n h (i := 3) rfl rfl ?_
    refine g_iload_n h (i := 4) rfl rfl ?_
    refine g_callVx h hq (i := 5) rfl mv_X10_86 cls10 (lk_R hL) (ct_X10_isJoint l E _ a j hlo) rfl rfl ⟨rfl, rfl, Nat.le_of_ble_eq_true rfl, Nat.le_of_ble_eq_true rfl⟩ (Nat.le_of_ble_eq_true rfl) ⟨Nat.zero_le _, Nat.zero_le _⟩ ?_
    refine g_if_eq h (i := 6) 37 rfl rfl (fun c_12 => ?_) (fun c_12 => ?_)
    · skip
      refine g_ldc h (i := 21) rfl k_X10_101 ?_
      exact g_iret hq h (i := 22) rfl (by unfold poS; rw [if_neg (fun q => bI_0.mp c_12 q.2.1)]; exact ⟨rfl, ri_0⟩)
    · skip
      refine g_aload_n h (i := 7) rfl rfl ?_
      refine g_getR h (i := 8) rfl fl_X10_44 (fun _ _ _ => rfl) (lk_R hL) (lr_isTaught hL) ?_
      refine g_iload_n h (i := 9) rfl rfl ?_
      refine g_zald h (i := 10) rfl (lq_isTaught hL) (jvp (bI_1.mp c_4) (by decide) (by omega)) ?_
      refine g_eqi (wI w (a + 11) _) rfl ?_
      refine g_if_eq h (i := 11) 37 rfl rfl (fun c_21 => ?_) (fun c_21 => ?_)
      · skip
        refine g_ldc h (i := 21) rfl k_X10_101 ?_
        exact g_iret hq h (i := 22) rfl (by unfold poS; rw [if_neg (fun q => q.2.2 (show cfW w a 11 (pI k) = 0 from c_21))]; exact ⟨rfl, ri_0⟩)
      · skip
        obtain ⟨hk, hk3⟩ := jx (M := 15) (bI_1.mp c_4) (by decide)
        obtain ⟨hj, hj3⟩ := jx (M := 3) (bI_1.mp c_12) (by decide)
        refine g_aload_n h (i := 12) rfl rfl ?_
        refine g_getR h (i := 13) rfl fl_X10_47 (fun _ _ _ => rfl) (lk_R hL) (lr_pose hL) ?_
        refine g_iconst h (i := 14) rfl (v := 4) (by rfl) ?_
        refine g_iload_n h (i := 15) rfl rfl ?_
        refine g_imul h (i := 16) rfl ?_
        refine g_iload_n h (i := 17) rfl rfl ?_
        refine g_iadd h (i := 18) rfl ?_
        refine g_eqi (nI (4 * pI k + pI j)) (jmul 4 hk hj) ?_
        refine g_iald h (i := 19) rfl (lq_pose hL) (vp_in_nI (by omega) (by omega)) ?_
        refine g_eqi (wI w (a + 12) _) rfl ?_
        refine g_eqi (wI w (a + 12) (4 * pI k + pI j)) (by rw [nI_clamp (by omega)]) ?_
        refine g_goto h (i := 20) 39 rfl rfl ?_
        exact g_iret hq h (i := 22) rfl (by unfold poS; rw [if_pos ⟨bI_1.mp c_4, bI_1.mp c_12, (show ¬ cfW w a 11 (pI k) = 0 from c_21)⟩]; exact ⟨rfl, ri_0⟩)
theorem pl_z {rs pv wd : Nat → Nat} {w0 : Nat} : ∀ n, (plS rs pv wd w0 n).1 = 0 → plS rs pv wd w0 n = (0, 1, 1, w0)
  | 0, _ => rfl
  | n + 1, h => by
    by_cases g : (plS rs pv wd w0 n).1 < lsN (rs n) (pv n) (wd n)
    · rw [pl_t g] at h
      exact absurd h (by show ¬ lsN (rs n) (pv n) (wd n) = 0; omega)
    · rw [pl_f g] at h ⊢
      exact pl_z n h
/-- plan -/
abbrev plG (k sh : Int32) : Prop := (0 ≤ k ∧ k ≤ 15) ∧ (1 ≤ sh ∧ sh ≤ 100)
def plnS (k sh : Int32) (cf : Nat → Nat → Int32) (r : Nat → Int64) : St := if plG k sh then (if cf 11 (pI k) = 0 then (.int (-3), cf, r) else (.int (nI (plR cf (pI k) (pI sh) r).1), cf, r)) else (.int (-2), cf, r)
theorem shx {sh : Int32} (h : 1 ≤ sh ∧ sh ≤ 100) : sh = nI (pI sh) ∧ pI sh ≤ 100 := by
  have q := isI_of h (by decide)
  have h2 := i32le.mp h.2
  rw [← q.2] at h2
  have e : (100 : Int32).toInt = 100 := rfl
  exact ⟨q.1, by omega⟩
theorem pls_h {w : Wd} {a k sh : Nat} {r : Nat → Int64} (l : Launch) (E : EE) (hlo : E.2.2 ≤ wN w) (hL : LayR w a) (hr : FA r) (hc : CfR (cfW w a)) (hk : k < 16) (hsh : sh ≤ 100) : Ct l E yX10_plans cX10_plans 10 none ({ frames := 3, cells := 0, slots := 0, locals := 87 } : Room) [.ref a, .int (nI k), .int (nI sh)] (sRow w a r) 0 0 (fun q w2 => q = none ∧ ∃ J, w2 = sRow (dW w (wI w) J (wD w)) a r ∧ PlI w a r (fun j => cfW w a 12 (4 * k + j)) (plR (cfW w a) k sh r) 4 J) := ct_X10_plans l E w a k sh r (fun j => pI (cfW w a 7 j)) (fun j => pI (cfW w a 8 j)) (fun j => (r j).toInt32) (fun j => cfW w a 12 (4 * k + j)) hlo hL hk (fun j hj => ⟨(hc.2.1 j hj).1.1, (hc.2.1 j hj).2, (hc.2.1 j hj).1.2⟩) (fun j hj => ⟨(hc.2.2.1 j hj).1.1, (hc.2.2.1 j hj).2, (hc.2.2.1 j hj).1.2⟩) (fun j hj => by
    have f := l_sm ((fr_st hj).mp (hr j))
    exact ⟨f.1, by rw [f.2]; exact (fr_st hj).mp (hr j)⟩) (fun j hj => ⟨rfl, hc.2.2.2.1 (4 * k + j) (by omega)⟩) hsh
-- plan
set_option maxRecDepth 100000 in
set_option maxHeartbeats 4000000 in
theorem ct_X10_plan (l : Launch) (E : EE) (w : Wd) (a : Nat) (r : Nat → Int64) (k sh : Int32) (hlo : E.2.2 ≤ wN (sRow w a r)) (hL : LayR w a) (hr : FA r) (hc : CfR (cfW w a)) : Ct l E yX10_plan cX10_plan 3 (some .int) ({ frames := 4, cells := 0, slots := 0, locals := 116 } : Room) [.ref a, .int k, .int sh] (sRow w a r) 0 0 (PS a w (plnS k sh (cfW w a) r)) := by
  refine ct_in (il := il_X10_plan) (by decide) dk_X10_plan (Nat.le_of_ble_eq_true rfl) hlo ?_
  intro X h hq

  refine g_iload_n h (i := 0) rfl rfl ?_
  refine g_callSx h hq (i := 1) rfl ms_X10_165 (ct_X10_isPose l E _ k hlo) rfl rfl ⟨rfl, rfl, Nat.le_of_ble_eq_true rfl, Nat.le_of_ble_eq_true rfl⟩ (Nat.le_of_ble_eq_true rfl) ⟨Nat.zero_le _, Nat.zero_le _⟩ ?_
  refine g_if_eq h (i := 2) 17 rfl rfl (fun c_4 => ?_) (fun c_4 => ?_)
  · skip
    refine g_bipush h (i := 8) rfl (v := -2) (by rfl) ?_
    exact g_iret hq h (i := 9) rfl (by unfold plnS; rw [if_neg (fun q => bI_0.mp c_4 q.1)]; exact ⟨rfl, ri_0⟩)
  · skip
    refine g_iload_n h (i := 3) rfl rfl ?_
    refine g_iconst h (i := 4) rfl (v := 1) (by rfl) ?_
    refine g_bipush h (i := 5) rfl (v := 100) (by rfl) ?_
    refine g_callSx h hq (i := 6) rfl ms_X10_82 (ct_X10_in l E _ sh (1) (100) hlo) rfl rfl ⟨rfl, rfl, Nat.le_of_ble_eq_true rfl, Nat.le_of_ble_eq_true rfl⟩ (Nat.le_of_ble_eq_true rfl) ⟨Nat.zero_le _, Nat.zero_le _⟩ ?_
    refine g_if_ne h (i := 7) 20 rfl rfl (fun c_14 => ?_) (fun c_14 => ?_)
    · skip
      refine g_aload_n h (i := 10) rfl rfl ?_
      refine g_getR h (i := 11) rfl fl_X10_44 (fun _ _ _ => rfl) (lk_R hL) (lr_isTaught hL) ?_
      refine g_iload_n h (i := 12) rfl rfl ?_
      refine g_zald h (i := 13) rfl (lq_isTaught hL) (jvp (bI_1.mp c_4) (by decide) (by omega)) ?_
      refine g_eqi (wI w (a + 11) _) rfl ?_
      refine g_if_ne h (i := 14) 32 rfl rfl (fun c_26 => ?_) (fun c_26 => ?_)
      · skip
        obtain ⟨hk, hk3⟩ := jx (M := 15) (bI_1.mp c_4) (by decide)
        obtain ⟨hs, hs2⟩ := shx (bI_1.mp c_14)
        have hpl := pls_h (w := w) l E hlo hL hr hc (k := pI k) (sh := pI sh) (by omega) hs2
        have hpo := plR_ok hc hr (k := pI k) (sh := pI sh) (by omega) hs2
        refine g_aload_n h (i := 17) rfl rfl ?_
        refine g_iload_n h (i := 18) rfl rfl ?_
        refine g_iload_n h (i := 19) rfl rfl ?_
        rw [← hk, ← hs] at hpl
        refine g_callVp (w0 := w) h hq (i := 20) rfl mv_X10_196 cls10 (lk_R hL) (hpl) rfl rfl ⟨rfl, rfl, Nat.le_of_ble_eq_true rfl, Nat.le_of_ble_eq_true rfl⟩ (Nat.le_of_ble_eq_true rfl) ⟨Nat.zero_le _, Nat.zero_le _⟩ (fun r35 w35 hp35 => ?_)
        obtain ⟨rfl, J, rfl, hJ⟩ := hp35
        refine g_aload_n h (i := 21) rfl rfl ?_
        refine g_getJ h (i := 22) rfl fl_X10_178 (fun _ _ _ => rfl) (lk_R hL) ?_
        refine g_eql (lN (plR (cfW w a) (pI k) (pI sh) r).1) ((sRow_o (by omega)).trans hJ.2.2.1) ?_
        refine g_l2i h (i := 23) rfl ?_
        refine g_eqi (nI (plR (cfW w a) (pI k) (pI sh) r).1) (lN_32 (by omega)) ?_
        exact g_iret hq h (i := 24) rfl (by unfold plnS; rw [if_pos ⟨bI_1.mp c_4, bI_1.mp c_14⟩, if_neg (show ¬ cfW w a 11 (pI k) = 0 from c_26)]; exact ⟨rfl, ri_RS (RS_pl hJ)⟩)
      · skip
        refine g_bipush h (i := 15) rfl (v := -3) (by rfl) ?_
        exact g_iret hq h (i := 16) rfl (by unfold plnS; rw [if_pos ⟨bI_1.mp c_4, bI_1.mp c_14⟩, if_pos (show cfW w a 11 (pI k) = 0 from c_26)]; exact ⟨rfl, ri_0⟩)
    · skip
      refine g_bipush h (i := 8) rfl (v := -2) (by rfl) ?_
      exact g_iret hq h (i := 9) rfl (by unfold plnS; rw [if_neg (fun q => bI_0.mp c_14 q.2)]; exact ⟨rfl, ri_0⟩)
end
section
/-- along -/
abbrev alG (cf : Nat → Nat → Int32) (k sh t j : Int32) : Prop := (0 ≤ k ∧ k ≤ 15) ∧ (1 ≤ sh ∧ sh ≤ 100) ∧ ¬ cf 11 (pI k) = 0 ∧ (0 ≤ j ∧ j ≤ 3) ∧ 0 ≤ t
def alN (cf : Nat → Nat → Int32) (r : Nat → Int64) (q : Nat × Nat × Nat × Nat) (k j t : Nat) : Int := mvS (r j).toInt ((cf 12 (4 * k + j)).toInt - (r j).toInt) (min (gnN q.2.1 q.2.2.1 q.1 t) q.2.2.2) q.2.2.2
def alS (k sh t j : Int32) (cf : Nat → Nat → Int32) (r : Nat → Int64) : St := (if alG cf k sh t j then (if pI t ≤ (plR cf (pI k) (pI sh) r).1 then .int (Int64.ofInt (alN cf r (plR cf (pI k) (pI sh) r) (pI k) (pI j) (pI t))).toInt32 else .int (-2000000)) else .int (-2000000), cf, r)
theorem t_l {t : Int32} (h : 0 ≤ t) : t.toInt64 = lN (pI t) := by
  have a := i32le.mp h
  have b := i32b t
  have e : (0 : Int32).toInt = 0 := rfl
  have e2 : t = nI (pI t) := i32x (by unfold pI; rw [nIT (by omega)]; omega)
  exact (congrArg Int32.toInt64 e2).trans (nI_l (by unfold pI; omega))
-- along
set_option maxRecDepth 100000 in
set_option maxHeartbeats 4000000 in
theorem ct_X10_along (l : Launch) (E : EE) (w : Wd) (a : Nat) (r : Nat → Int64) (k sh t j : Int32) (hlo : E.2.2 ≤ wN (sRow w a r)) (hL : LayR w a) (hr : FA r) (hc : CfR (cfW w a)) : Ct l E yX10_along cX10_along 5 (some .int) ({ frames := 4, cells := 0, slots := 0, locals := 116 } : Room) [.ref a, .int k, .int sh, .int t, .int j] (sRow w a r) 0 0 (PS a w (alS k sh t j (cfW w a) r)) := by
  refine ct_in (il := il_X10_along) (by decide) dk_X10_along (Nat.le_of_ble_eq_true rfl) hlo ?_
  intro X h hq

  refine g_iload_n h (i := 0) rfl rfl ?_
  refine g_callSx h hq (i := 1) rfl ms_X10_165 (ct_X10_isPose l E _ k hlo) rfl rfl ⟨rfl, rfl, Nat.le_of_ble_eq_true rfl, Nat.le_of_ble_eq_true rfl⟩ (Nat.le_of_ble_eq_true rfl) ⟨Nat.zero_le _, Nat.zero_le _⟩ ?_
  refine g_if_eq h (i := 2) 39 rfl rfl (fun c_4 => ?_) (fun c_4 => ?_)
  · skip
    refine g_ldc h (i := 19) rfl k_X10_101 ?_
    exact g_iret hq h (i := 20) rfl (by unfold alS; rw [if_neg (fun q => bI_0.mp c_4 q.1)]; exact ⟨rfl, ri_0⟩)
  · skip
    refine g_iload_n h (i := 3) rfl rfl ?_
    refine g_iconst h (i := 4) rfl (v := 1) (by rfl) ?_
    refine g_bipush h (i := 5) rfl (v := 100) (by rfl) ?_
    refine g_callSx h hq (i := 6) rfl ms_X10_82 (ct_X10_in l E _ sh (1) (100) hlo) rfl rfl ⟨rfl, rfl, Nat.le_of_ble_eq_true rfl, Nat.le_of_ble_eq_true rfl⟩ (Nat.le_of_ble_eq_true rfl) ⟨Nat.zero_le _, Nat.zero_le _⟩ ?_
    refine g_if_eq h (i := 7) 39 rfl rfl (fun c_14 => ?_) (fun c_14 => ?_)
    · skip
      refine g_ldc h (i := 19) rfl k_X10_101 ?_
      exact g_iret hq h (i := 20) rfl (by unfold alS; rw [if_neg (fun q => bI_0.mp c_14 q.2.1)]; exact ⟨rfl, ri_0⟩)
    · skip
      refine g_aload_n h (i := 8) rfl rfl ?_
      refine g_getR h (i := 9) rfl fl_X10_44 (fun _ _ _ => rfl) (lk_R hL) (lr_isTaught hL) ?_
      refine g_iload_n h (i := 10) rfl rfl ?_
      refine g_zald h (i := 11) rfl (lq_isTaught hL) (jvp (bI_1.mp c_4) (by decide) (by omega)) ?_
      refine g_eqi (wI w (a + 11) _) rfl ?_
      refine g_if_eq h (i := 12) 39 rfl rfl (fun c_23 => ?_) (fun c_23 => ?_)
      · skip
        refine g_ldc h (i := 19) rfl k_X10_101 ?_
        exact g_iret hq h (i := 20) rfl (by unfold alS; rw [if_neg (fun q => q.2.2.1 (show cfW w a 11 (pI k) = 0 from c_23))]; exact ⟨rfl, ri_0⟩)
      · skip
        refine g_aload_n h (i := 13) rfl rfl ?_
        refine g_iload h (i := 14) rfl rfl ?_
        refine g_callVx h hq (i := 15) rfl mv_X10_86 cls10 (lk_R hL) (ct_X10_isJoint l E _ a j hlo) rfl rfl ⟨rfl, rfl, Nat.le_of_ble_eq_true rfl, Nat.le_of_ble_eq_true rfl⟩ (Nat.le_of_ble_eq_true rfl) ⟨Nat.zero_le _, Nat.zero_le _⟩ ?_
        refine g_if_eq h (i := 16) 39 rfl rfl (fun c_32 => ?_) (fun c_32 => ?_)
        · skip
          refine g_ldc h (i := 19) rfl k_X10_101 ?_
          exact g_iret hq h (i := 20) rfl (by unfold alS; rw [if_neg (fun q => bI_0.mp c_32 q.2.2.2.1)]; exact ⟨rfl, ri_0⟩)
        · skip
          refine g_iload_n h (i := 17) rfl rfl ?_
          refine g_if_ge h (i := 18) 42 rfl rfl (fun c_36 => ?_) (fun c_36 => ?_)
          · skip
            obtain ⟨hk, hk3⟩ := jx (M := 15) (bI_1.mp c_4) (by decide)
            obtain ⟨hj, hj3⟩ := jx (M := 3) (bI_1.mp c_32) (by decide)
            obtain ⟨hs, hs2⟩ := shx (bI_1.mp c_14)
            have hpl := pls_h (w := w) l E hlo hL hr hc (k := pI k) (sh := pI sh) (by omega) hs2
            obtain ⟨q, hqe⟩ : ∃ q, q = plR (cfW w a) (pI k) (pI sh) r := ⟨_, rfl⟩
            have hpo := plR_ok hc hr (k := pI k) (sh := pI sh) (by omega) hs2
            have hpz := pl_z (rs := fun j => pI (cfW w a 8 j)) (pv := pvN (fun j => pI (cfW w a 7 j)) (pI sh)) (wd := wdN (fun j => (r j).toInt32) (fun j => cfW w a 12 (4 * pI k + j))) (w0 := 1) 4
            have hp1 : 0 < q.2.2.2 := by
              by_cases z : q.1 = 0
              · have e := hpz (by rw [hqe] at z; exact z)
                have e2 : q = (0, 1, 1, 1) := hqe.trans e
                rw [e2]; exact Nat.one_pos
              · rw [hqe] at z ⊢; exact hpo.2.2.2 (by omega)
            rw [← hqe] at hpl hpo
            have ht : t.toInt64 = lN (pI t) := t_l c_36
            have htb : pI t < 2147483648 := by unfold pI; have := i32b t; omega
            refine g_aload_n h (i := 21) rfl rfl ?_
            refine g_iload_n h (i := 22) rfl rfl ?_
            refine g_iload_n h (i := 23) rfl rfl ?_
            rw [← hk, ← hs] at hpl
            refine g_callVp (w0 := w) h hq (i := 24) rfl mv_X10_196 cls10 (lk_R hL) (hpl) rfl rfl ⟨rfl, rfl, Nat.le_of_ble_eq_true rfl, Nat.le_of_ble_eq_true rfl⟩ (Nat.le_of_ble_eq_true rfl) ⟨Nat.zero_le _, Nat.zero_le _⟩ (fun r45 w45 hp45 => ?_)
            obtain ⟨rfl, J, rfl, hJ⟩ := hp45
            have m := hJ.2.1 (pI j) (by omega)
            have hle : lg_cmp (lN (pI t)) (lN q.1) ≤ 0 ↔ pI t ≤ (plR (cfW w a) (pI k) (pI sh) r).1 := by rw [← hqe]; exact (lg_cmp_le _ _).trans (pk_lLE (by omega) (by omega))
            refine g_iload_n h (i := 25) rfl rfl ?_
            refine g_i2l h (i := 26) rfl ?_
            refine g_eql (lN (pI t)) ht ?_
            refine g_aload_n h (i := 27) rfl rfl ?_
            refine g_getJ h (i := 28) rfl fl_X10_178 (fun _ _ _ => rfl) (lk_R hL) ?_
            refine g_eql (lN q.1) ((sRow_o (by omega)).trans hJ.2.2.1) ?_
            refine g_lcmp h (i := 29) rfl ?_
            refine g_if_le h (i := 30) 63 rfl rfl (fun c_55 => ?_) (fun c_55 => ?_)
            · skip
              refine g_aload_n h (i := 33) rfl rfl ?_
              refine g_getR h (i := 34) rfl fl_X10_68 (fun _ _ _ => rfl) (lk_R hL) (lr_planFrom hL) ?_
              refine g_iload h (i := 35) rfl rfl ?_
              refine g_lald h (i := 36) rfl (lq_planFrom hL) (jvp (bI_1.mp c_32) (by decide) (by omega)) ?_
              refine g_eql (r (pI j)) ((sRow_o (by omega)).trans m.1) ?_
              refine g_aload_n h (i := 37) rfl rfl ?_
              refine g_getR h (i := 38) rfl fl_X10_71 (fun _ _ _ => rfl) (lk_R hL) (lr_planTo hL) ?_
              refine g_iload h (i := 39) rfl rfl ?_
              refine g_lald h (i := 40) rfl (lq_planTo hL) (jvp (bI_1.mp c_32) (by decide) (by omega)) ?_
              refine g_eql (cfW w a 12 (4 * pI k + pI j)).toInt64 ((sRow_o (by omega)).trans m.2) ?_
              refine g_aload_n h (i := 41) rfl rfl ?_
              refine g_getJ h (i := 42) rfl fl_X10_182 (fun _ _ _ => rfl) (lk_R hL) ?_
              refine g_eql (lN q.2.1) ((sRow_o (by omega)).trans hJ.2.2.2.2.2) ?_
              refine g_aload_n h (i := 43) rfl rfl ?_
              refine g_getJ h (i := 44) rfl fl_X10_185 (fun _ _ _ => rfl) (lk_R hL) ?_
              refine g_eql (lN q.2.2.1) ((sRow_o (by omega)).trans hJ.2.2.2.2.1) ?_
              refine g_aload_n h (i := 45) rfl rfl ?_
              refine g_getJ h (i := 46) rfl fl_X10_178 (fun _ _ _ => rfl) (lk_R hL) ?_
              refine g_eql (lN q.1) ((sRow_o (by omega)).trans hJ.2.2.1) ?_
              refine g_aload_n h (i := 47) rfl rfl ?_
              refine g_getJ h (i := 48) rfl fl_X10_188 (fun _ _ _ => rfl) (lk_R hL) ?_
              refine g_eql (lN q.2.2.2) ((sRow_o (by omega)).trans hJ.2.2.2.1) ?_
              refine g_iload_n h (i := 49) rfl rfl ?_
              refine g_i2l h (i := 50) rfl ?_
              refine g_eql (lN (pI t)) ht ?_
              have hle2 : pI t ≤ q.1 := by rw [hqe]; exact hle.mp c_55
              refine g_callSx h hq (i := 51) rfl ms_X10_200 (ct_X10_stateBehind l E _ (r (pI j)) (cfW w a 12 (4 * pI k + pI j)).toInt64 q.2.1 q.2.2.1 q.1 q.2.2.2 (pI t) hlo hpo.2.1 (by omega) hle2 hp1 (by omega) ((fr_st (by omega)).mp (hr (pI j))) (by rw [i_l]; exact hc.2.2.2.1 _ (by omega))) rfl rfl ⟨rfl, rfl, Nat.le_of_ble_eq_true rfl, Nat.le_of_ble_eq_true rfl⟩ (Nat.le_of_ble_eq_true rfl) ⟨Nat.zero_le _, Nat.zero_le _⟩ ?_
              refine g_l2i h (i := 52) rfl ?_
              refine g_eqi (Int64.ofInt (alN (cfW w a) r (plR (cfW w a) (pI k) (pI sh) r) (pI k) (pI j) (pI t))).toInt32 (by unfold alN; rw [← hqe, i_l]) ?_
              exact g_iret hq h (i := 53) rfl (by unfold alS; rw [if_pos ⟨bI_1.mp c_4, bI_1.mp c_14, (show ¬ cfW w a 11 (pI k) = 0 from c_23), bI_1.mp c_32, c_36⟩, if_pos (hle.mp c_55)]; exact ⟨rfl, ri_RS (RS_pl hJ)⟩)
            · skip
              refine g_ldc h (i := 31) rfl k_X10_101 ?_
              refine g_goto h (i := 32) 99 rfl rfl ?_
              exact g_iret hq h (i := 53) rfl (by unfold alS; rw [if_pos ⟨bI_1.mp c_4, bI_1.mp c_14, (show ¬ cfW w a 11 (pI k) = 0 from c_23), bI_1.mp c_32, c_36⟩, if_neg (fun z => c_55 (hle.mpr z))]; exact ⟨rfl, ri_RS (RS_pl hJ)⟩)
          · skip
            refine g_ldc h (i := 19) rfl k_X10_101 ?_
            exact g_iret hq h (i := 20) rfl (by unfold alS; rw [if_neg (fun q => c_36 q.2.2.2.2)]; exact ⟨rfl, ri_0⟩)
/-- tip -/
def tpC (cf : Nat → Nat → Int32) (r : Nat → Int64) : UInt64 × UInt64 := (tpX (cf 3) (cf 4) (fun j => (r j).toInt32) 4, tpY (cf 3) (cf 4) (fun j => (r j).toInt32) 4)
theorem okA_r {cf : Nat → Nat → Int32} {r : Nat → Int64} (hc : CfA cf) (hr : FA r) : okA (cf 3) (cf 4) (fun j => (r j).toInt32) := okA_of hc (fun j hj => by rw [(l_sm ((fr_st hj).mp (hr j))).2]; exact (fr_st hj).mp (hr j))
theorem tpC_1 (cf : Nat → Nat → Int32) (r : Nat → Int64) : (tpC cf r).1 = tpX (cf 3) (cf 4) (fun j => (r j).toInt32) 4 := by unfold tpC; rfl
theorem tpC_2 (cf : Nat → Nat → Int32) (r : Nat → Int64) : (tpC cf r).2 = tpY (cf 3) (cf 4) (fun j => (r j).toInt32) 4 := by unfold tpC; rfl
theorem tpC_fg {cf : Nat → Nat → Int32} {r : Nat → Int64} (hc : CfA cf) (hr : FA r) : (FG 52 1120 (tpC cf r).1 ∧ NZ (tpC cf r).1) ∧ (FG 52 1120 (tpC cf r).2 ∧ NZ (tpC cf r).2) := by
  have x := fg_tpX (okA_r hc hr) 4 (by omega)
  have y := fg_tpY (okA_r hc hr) 4 (by omega)
  rw [tpC_1, tpC_2]
  exact ⟨⟨x.1.mono (by omega) (by omega), x.2⟩, ⟨y.1.mono (by omega) (by omega), y.2⟩⟩
def tiA (what : Int32) (cf : Nat → Nat → Int32) (r : Nat → Int64) : Int64 := if 0 ≤ what ∧ what ≤ 1 then (if what = 0 then (tpC cf r).1.toInt64 else (tpC cf r).2.toInt64) else -1
def tiS (what : Int32) (cf : Nat → Nat → Int32) (r : Nat → Int64) : St := (.long (tiA what cf r), cf, r)
set_option maxRecDepth 100000 in
theorem ct_tip (l : Launch) (E : EE) {w : Wd} {a : Nat} {r : Nat → Int64} (hlo : E.2.2 ≤ wN (sRow w a r)) (hL : LayR w a) (hr : FA r) (hc : CfA (cfW w a)) : Ct l E yX10_findTip cX10_findTip 6 none ({ frames := 1, cells := 0, slots := 0, locals := 31 } : Room) [.ref a] (sRow w a r) 0 0 (Px none (sRow (tipW w a 20 (tpC (cfW w a) r).1 (tpC (cfW w a) r).2) a r)) := by
  rw [tpC_1, tpC_2]
  have h := ct_X10_findTip l E (sRow w a r) a (a + 1) (a + 4) (a + 3) (cfW w a 3) (cfW w a 4) (fun j => (r j).toInt32) hlo hL.1 (lr_row hL) (lr_slides hL) (lr_length hL) (lq_row hL) (lq_slides hL) (lq_length hL) (fun _ _ => rfl) (fun _ _ => rfl) (fun j hj => (sRow_j w a j r).trans (l_sm ((fr_st hj).mp (hr j))).1) (okA_r hc hr)
  rw [tipW_sRow] at h
  exact h
theorem ps_RS {a : Nat} {w w2 : Wd} {q : Option Value} {v : Value} {r : Nat → Int64} (h : ∃ w3, RS a w w3 ∧ q = some v ∧ w2 = sRow w3 a r) : PS a w (v, cfW w a, r) q w2 := by
  obtain ⟨w3, h1, rfl, rfl⟩ := h
  exact ⟨rfl, ri_RS h1⟩
theorem RS_tip (w : Wd) (a : Nat) (x y : UInt64) : RS a w (tipW w a 20 x y) := ⟨wJ w, up2 (up2 (wD w) a 20 x) a 21 y, rfl, fun p _ _ _ p4 _ => rfl, fun p p1 => by rw [up2_f p1, up2_f p1]⟩
theorem tipW_x (w : Wd) (a : Nat) (x y : UInt64) : wD (tipW w a 20 x y) a 20 = x := (up2_k (by omega)).trans (up2_s _ _ _ _)
theorem tipW_y (w : Wd) (a : Nat) (x y : UInt64) : wD (tipW w a 20 x y) a 21 = y := up2_s _ _ _ _
-- tip
set_option maxRecDepth 100000 in
set_option maxHeartbeats 4000000 in
theorem ct_X10_tip (l : Launch) (E : EE) (w : Wd) (a : Nat) (r : Nat → Int64) (what : Int32) (hlo : E.2.2 ≤ wN (sRow w a r)) (hL : LayR w a) (hr : FA r) (hc : CfA (cfW w a)) : Ct l E yX10_tip cX10_tip 2 (some .long) ({ frames := 2, cells := 0, slots := 0, locals := 56 } : Room) [.ref a, .int what] (sRow w a r) 0 0 (fun q w2 => ∃ w3, RS a w w3 ∧ q = some (.long (tiA what (cfW w a) r)) ∧ w2 = sRow w3 a r) := by
  refine ct_in (il := il_X10_tip) (by decide) dk_X10_tip (Nat.le_of_ble_eq_true rfl) hlo ?_
  intro X h hq

  obtain ⟨x, hx⟩ : ∃ x, x = (tpC (cfW w a) r).1 := ⟨_, rfl⟩
  obtain ⟨z, hz⟩ : ∃ z, z = (tpC (cfW w a) r).2 := ⟨_, rfl⟩
  have ht := ct_tip l E hlo hL hr hc
  have hfg := tpC_fg hc hr
  rw [← hx, ← hz] at ht hfg
  have e0 : (0 ≤ what ∧ what ≤ 1) → what = 0 → tiA what (cfW w a) r = x.toInt64 := fun g q => by unfold tiA; rw [if_pos g, if_pos q, hx]
  have e1 : (0 ≤ what ∧ what ≤ 1) → ¬ what = 0 → tiA what (cfW w a) r = z.toInt64 := fun g q => by unfold tiA; rw [if_pos g, if_neg q, hz]
  have e2 : ¬ (0 ≤ what ∧ what ≤ 1) → tiA what (cfW w a) r = -1 := fun g => by unfold tiA; rw [if_neg g]
  refine g_iload_n h (i := 0) rfl rfl ?_
  refine g_iconst h (i := 1) rfl (v := 0) (by rfl) ?_
  refine g_iconst h (i := 2) rfl (v := 1) (by rfl) ?_
  refine g_callSx h hq (i := 3) rfl ms_X10_82 (ct_X10_in l E _ what (0) (1) hlo) rfl rfl ⟨rfl, rfl, Nat.le_of_ble_eq_true rfl, Nat.le_of_ble_eq_true rfl⟩ (Nat.le_of_ble_eq_true rfl) ⟨Nat.zero_le _, Nat.zero_le _⟩ ?_
  refine g_if_ne h (i := 4) 13 rfl rfl (fun c_6 => ?_) (fun c_6 => ?_)
  · skip
    refine g_aload_n h (i := 7) rfl rfl ?_
    refine g_callVn h hq (i := 8) rfl mv_X10_155 cls10 (lk_R hL) (ht) rfl rfl ⟨rfl, rfl, Nat.le_of_ble_eq_true rfl, Nat.le_of_ble_eq_true rfl⟩ (Nat.le_of_ble_eq_true rfl) ⟨Nat.zero_le _, Nat.zero_le _⟩ ?_
    refine g_iload_n h (i := 9) rfl rfl ?_
    refine g_if_ne h (i := 10) 28 rfl rfl (fun c_18 => ?_) (fun c_18 => ?_)
    · skip
      refine g_aload_n h (i := 14) rfl rfl ?_
      refine g_getD h (i := 15) rfl fl_X10_136 (fun _ _ _ => rfl) (lk_R hL) ?_
      refine g_eqd z (tipW_y _ _ _ _) ?_
      refine g_callSx h hq (i := 16) rfl ms_X10_158 (ct_X10_bitsOf l E _ z hlo hfg.2.1 hfg.2.2) rfl rfl ⟨rfl, rfl, Nat.le_of_ble_eq_true rfl, Nat.le_of_ble_eq_true rfl⟩ (Nat.le_of_ble_eq_true rfl) ⟨Nat.zero_le _, Nat.zero_le _⟩ ?_
      exact g_lret hq h (i := 17) rfl (⟨_, RS_tip w a x z, by rw [e1 (bI_1.mp c_6) c_18], rfl⟩)
    · skip
      refine g_aload_n h (i := 11) rfl rfl ?_
      refine g_getD h (i := 12) rfl fl_X10_132 (fun _ _ _ => rfl) (lk_R hL) ?_
      refine g_eqd x (tipW_x _ _ _ _) ?_
      refine g_goto h (i := 13) 32 rfl rfl ?_
      refine g_callSx h hq (i := 16) rfl ms_X10_158 (ct_X10_bitsOf l E _ x hlo hfg.1.1 hfg.1.2) rfl rfl ⟨rfl, rfl, Nat.le_of_ble_eq_true rfl, Nat.le_of_ble_eq_true rfl⟩ (Nat.le_of_ble_eq_true rfl) ⟨Nat.zero_le _, Nat.zero_le _⟩ ?_
      exact g_lret hq h (i := 17) rfl (⟨_, RS_tip w a x z, by rw [e0 (bI_1.mp c_6) c_18], rfl⟩)
  · skip
    refine g_ldc2 h (i := 5) rfl k_X10_80 ?_
    exact g_lret hq h (i := 6) rfl (⟨w, RS_r a w, by rw [e2 (bI_0.mp c_6)], rfl⟩)
/-- sine -/
def snS (u : Int32) (cf : Nat → Nat → Int32) (r : Nat → Int64) : St := (.long (sV u.toInt).toInt64, cf, r)
-- sine
set_option maxRecDepth 100000 in
set_option maxHeartbeats 4000000 in
theorem ct_X10_sine (l : Launch) (E : EE) (w : Wd) (a : Nat) (r : Nat → Int64) (u : Int32) (hlo : E.2.2 ≤ wN (sRow w a r)) (hL : LayR w a) : Ct l E yX10_sine cX10_sine 2 (some .long) ({ frames := 1, cells := 0, slots := 0, locals := 31 } : Room) [.ref a, .int u] (sRow w a r) 0 0 (PS a w (snS u (cfW w a) r)) := by
  refine ct_in (il := il_X10_sine) (by decide) dk_X10_sine (Nat.le_of_ble_eq_true rfl) hlo ?_
  intro X h hq

  refine g_iload_n h (i := 0) rfl rfl ?_
  refine g_i2l h (i := 1) rfl ?_
  refine g_callSx h hq (i := 2) rfl ms_X10_141 (ct_X10_sineOf l E _ u.toInt64 hlo) rfl rfl ⟨rfl, rfl, Nat.le_of_ble_eq_true rfl, Nat.le_of_ble_eq_true rfl⟩ (Nat.le_of_ble_eq_true rfl) ⟨Nat.zero_le _, Nat.zero_le _⟩ ?_
  rw [i_l]
  refine g_callSx h hq (i := 3) rfl ms_X10_158 (ct_X10_bitsOf l E _ (sV u.toInt) hlo ((fg_sV _).1.mono (by omega) (by omega)) (fg_sV _).2) rfl rfl ⟨rfl, rfl, Nat.le_of_ble_eq_true rfl, Nat.le_of_ble_eq_true rfl⟩ (Nat.le_of_ble_eq_true rfl) ⟨Nat.zero_le _, Nat.zero_le _⟩ ?_
  exact g_lret hq h (i := 4) rfl (⟨rfl, ri_0⟩)
end
section
def trS (j : Int32) (cf : Nat → Nat → Int32) (r : Nat → Int64) : St := (if 0 ≤ j ∧ j ≤ 3 then .long (r (64 + pI j)) else .long (-1), cf, r)
-- travel
set_option maxRecDepth 100000 in
set_option maxHeartbeats 4000000 in
theorem ct_X10_travel (l : Launch) (E : EE) (w : Wd) (a : Nat) (r : Nat → Int64) (j : Int32) (hlo : E.2.2 ≤ wN (sRow w a r)) (hL : LayR w a) : Ct l E yX10_travel cX10_travel 2 (some .long) ({ frames := 2, cells := 0, slots := 0, locals := 43 } : Room) [.ref a, .int j] (sRow w a r) 0 0 (PS a w (trS j (cfW w a) r)) := by
  refine ct_in (il := il_X10_travel) (by decide) dk_X10_travel (Nat.le_of_ble_eq_true rfl) hlo ?_
  intro X h hq

  refine g_aload_n h (i := 0) rfl rfl ?_
  refine g_iload_n h (i := 1) rfl rfl ?_
  refine g_callVx h hq (i := 2) rfl mv_X10_86 cls10 (lk_R hL) (ct_X10_isJoint l E _ a j hlo) rfl rfl ⟨rfl, rfl, Nat.le_of_ble_eq_true rfl, Nat.le_of_ble_eq_true rfl⟩ (Nat.le_of_ble_eq_true rfl) ⟨Nat.zero_le _, Nat.zero_le _⟩ ?_
  refine g_if_eq h (i := 3) 20 rfl rfl (fun c_5 => ?_) (fun c_5 => ?_)
  · skip
    refine g_ldc2 h (i := 11) rfl k_X10_80 ?_
    exact g_lret hq h (i := 12) rfl (by unfold trS; rw [if_neg (bI_0.mp c_5)]; exact ⟨rfl, ri_0⟩)
  · skip
    obtain ⟨hj, hj3⟩ := jx (M := 3) (bI_1.mp c_5) (by decide)
    refine g_aload_n h (i := 4) rfl rfl ?_
    refine g_getR h (i := 5) rfl fl_X10_7 (fun _ _ _ => rfl) (lk_R hL) (lr_row hL) ?_
    refine g_bipush h (i := 6) rfl (v := 64) (by rfl) ?_
    refine g_iload_n h (i := 7) rfl rfl ?_
    refine g_iadd h (i := 8) rfl ?_
    refine g_lald h (i := 9) rfl (lq_row hL) (jin 64 _ hj (by omega) (by omega)) ?_
    refine g_eql _ (sRow_jx _ _ _ (n := 64 + pI j) (jcl 64 hj (by omega) (by omega))) ?_
    refine g_goto h (i := 10) 23 rfl rfl ?_
    exact g_lret hq h (i := 12) rfl (by unfold trS; rw [if_pos (bI_1.mp c_5)]; exact ⟨rfl, ri_0⟩)
def abO (x : Int32) (r : Nat → Int64) : Int32 := if x = 0 then (r 28).toInt32 else if x = 1 then (r 29).toInt32 else if x = 2 then (r 30).toInt32 else if x = 3 then (r 31).toInt32 else if x = 4 then (r 32).toInt32 else if x = 5 then (r 45).toInt32 else if x = 6 then (r 47).toInt32 else if x = 7 then bI (r 46 = 1) else (r 48).toInt32
theorem n8 {n : Nat} (h : n ≤ 7) : n = 0 ∨ n = 1 ∨ n = 2 ∨ n = 3 ∨ n = 4 ∨ n = 5 ∨ n = 6 ∨ n = 7 := by omega
theorem n8e (o : Int32) : (o = 0 ∨ o = 1 ∨ o = 2 ∨ o = 3 ∨ o = 4 ∨ o = 5 ∨ o = 6 ∨ o = 7) ∨ (o.toInt < 0 ∨ 7 < o.toInt) := by
  by_cases h : o.toInt < 0 ∨ 7 < o.toInt
  · exact Or.inr h
  · left
    have e : o = nI (pI o) := i32x (by unfold pI; rw [nIT (by omega)]; omega)
    have l : pI o ≤ 7 := by unfold pI; omega
    rcases n8 l with n | n | n | n | n | n | n | n
    all_goals (rw [n] at e; rw [e]; decide)
theorem n4e (o : Int32) : (o = 0 ∨ o = 1 ∨ o = 2 ∨ o = 3) ∨ (o.toInt < 0 ∨ 3 < o.toInt) := by
  by_cases h : o.toInt < 0 ∨ 3 < o.toInt
  · exact Or.inr h
  · left
    have e : o = nI (pI o) := i32x (by unfold pI; rw [nIT (by omega)]; omega)
    have l : pI o ≤ 3 := by unfold pI; omega
    have : pI o = 0 ∨ pI o = 1 ∨ pI o = 2 ∨ pI o = 3 := by omega
    rcases this with n | n | n | n
    all_goals (rw [n] at e; rw [e]; decide)
/-- about: one number -/
def abS (x : Int32) (cf : Nat → Nat → Int32) (r : Nat → Int64) : St := (.int (if 0 ≤ x ∧ x ≤ 8 then abO x r else -2), cf, r)
-- about of
set_option maxRecDepth 100000 in
set_option maxHeartbeats 4000000 in
theorem ct_X10_aboutOf (l : Launch) (E : EE) (w : Wd) (a : Nat) (r : Nat → Int64) (x : Int32) (hlo : E.2.2 ≤ wN (sRow w a r)) (hL : LayR w a) : Ct l E yX10_aboutOf cX10_aboutOf 2 (some .int) ({ frames := 1, cells := 0, slots := 0, locals := 21 } : Room) [.ref a, .int x] (sRow w a r) 0 0 (Px (some (.int (abO x r))) (sRow w a r)) := by
  refine ct_in (il := il_X10_aboutOf) (by decide) dk_X10_aboutOf (Nat.le_of_ble_eq_true rfl) hlo ?_
  intro X h hq

  rcases n8e x with hsw | hsw
  · skip
    refine g_iload_n h (i := 0) rfl rfl ?_
    rcases hsw with e | e | e | e | e | e | e | e
    · skip
      subst e
      refine g_tin h (i := 1) 48 rfl (by decide) (by decide) rfl rfl ?_
      refine g_aload_n h (i := 2) rfl rfl ?_
      refine g_bipush h (i := 3) rfl (v := 28) (by rfl) ?_
      refine g_callVx h hq (i := 4) rfl mv_X10_97 cls10 (lk_R hL) (ct_X10_rowAt l E w a 28 _ _ hlo hL (vpD (by decide)) (by rfl)) rfl rfl ⟨rfl, rfl, Nat.le_of_ble_eq_true rfl, Nat.le_of_ble_eq_true rfl⟩ (Nat.le_of_ble_eq_true rfl) ⟨Nat.zero_le _, Nat.zero_le _⟩ ?_
      exact g_iret hq h (i := 5) rfl (⟨by unfold abO; rw [if_pos rfl], rfl⟩)
    · skip
      subst e
      refine g_tin h (i := 1) 55 rfl (by decide) (by decide) rfl rfl ?_
      refine g_aload_n h (i := 6) rfl rfl ?_
      refine g_bipush h (i := 7) rfl (v := 29) (by rfl) ?_
      refine g_callVx h hq (i := 8) rfl mv_X10_97 cls10 (lk_R hL) (ct_X10_rowAt l E w a 29 _ _ hlo hL (vpD (by decide)) (by rfl)) rfl rfl ⟨rfl, rfl, Nat.le_of_ble_eq_true rfl, Nat.le_of_ble_eq_true rfl⟩ (Nat.le_of_ble_eq_true rfl) ⟨Nat.zero_le _, Nat.zero_le _⟩ ?_
      exact g_iret hq h (i := 9) rfl (⟨by unfold abO; rw [if_neg (by decide), if_pos rfl], rfl⟩)
    · skip
      subst e
      refine g_tin h (i := 1) 62 rfl (by decide) (by decide) rfl rfl ?_
      refine g_aload_n h (i := 10) rfl rfl ?_
      refine g_bipush h (i := 11) rfl (v := 30) (by rfl) ?_
      refine g_callVx h hq (i := 12) rfl mv_X10_97 cls10 (lk_R hL) (ct_X10_rowAt l E w a 30 _ _ hlo hL (vpD (by decide)) (by rfl)) rfl rfl ⟨rfl, rfl, Nat.le_of_ble_eq_true rfl, Nat.le_of_ble_eq_true rfl⟩ (Nat.le_of_ble_eq_true rfl) ⟨Nat.zero_le _, Nat.zero_le _⟩ ?_
      exact g_iret hq h (i := 13) rfl (⟨by unfold abO; rw [if_neg (by decide), if_neg (by decide), if_pos rfl], rfl⟩)
    · skip
      subst e
      refine g_tin h (i := 1) 69 rfl (by decide) (by decide) rfl rfl ?_
      refine g_aload_n h (i := 14) rfl rfl ?_
      refine g_bipush h (i := 15) rfl (v := 31) (by rfl) ?_
      refine g_callVx h hq (i := 16) rfl mv_X10_97 cls10 (lk_R hL) (ct_X10_rowAt l E w a 31 _ _ hlo hL (vpD (by decide)) (by rfl)) rfl rfl ⟨rfl, rfl, Nat.le_of_ble_eq_true rfl, Nat.le_of_ble_eq_true rfl⟩ (Nat.le_of_ble_eq_true rfl) ⟨Nat.zero_le _, Nat.zero_le _⟩ ?_
      exact g_iret hq h (i := 17) rfl (⟨by unfold abO; rw [if_neg (by decide), if_neg (by decide), if_neg (by decide), if_pos rfl], rfl⟩)
    · skip
      subst e
      refine g_tin h (i := 1) 76 rfl (by decide) (by decide) rfl rfl ?_
      refine g_aload_n h (i := 18) rfl rfl ?_
      refine g_bipush h (i := 19) rfl (v := 32) (by rfl) ?_
      refine g_callVx h hq (i := 20) rfl mv_X10_97 cls10 (lk_R hL) (ct_X10_rowAt l E w a 32 _ _ hlo hL (vpD (by decide)) (by rfl)) rfl rfl ⟨rfl, rfl, Nat.le_of_ble_eq_true rfl, Nat.le_of_ble_eq_true rfl⟩ (Nat.le_of_ble_eq_true rfl) ⟨Nat.zero_le _, Nat.zero_le _⟩ ?_
      exact g_iret hq h (i := 21) rfl (⟨by unfold abO; rw [if_neg (by decide), if_neg (by decide), if_neg (by decide), if_neg (by decide), if_pos rfl], rfl⟩)
    · skip
      subst e
      refine g_tin h (i := 1) 83 rfl (by decide) (by decide) rfl rfl ?_
      refine g_aload_n h (i := 22) rfl rfl ?_
      refine g_bipush h (i := 23) rfl (v := 45) (by rfl) ?_
      refine g_callVx h hq (i := 24) rfl mv_X10_97 cls10 (lk_R hL) (ct_X10_rowAt l E w a 45 _ _ hlo hL (vpD (by decide)) (by rfl)) rfl rfl ⟨rfl, rfl, Nat.le_of_ble_eq_true rfl, Nat.le_of_ble_eq_true rfl⟩ (Nat.le_of_ble_eq_true rfl) ⟨Nat.zero_le _, Nat.zero_le _⟩ ?_
      exact g_iret hq h (i := 25) rfl (⟨by unfold abO; rw [if_neg (by decide), if_neg (by decide), if_neg (by decide), if_neg (by decide), if_neg (by decide), if_pos rfl], rfl⟩)
    · skip
      subst e
      refine g_tin h (i := 1) 90 rfl (by decide) (by decide) rfl rfl ?_
      refine g_aload_n h (i := 26) rfl rfl ?_
      refine g_bipush h (i := 27) rfl (v := 47) (by rfl) ?_
      refine g_callVx h hq (i := 28) rfl mv_X10_97 cls10 (lk_R hL) (ct_X10_rowAt l E w a 47 _ _ hlo hL (vpD (by decide)) (by rfl)) rfl rfl ⟨rfl, rfl, Nat.le_of_ble_eq_true rfl, Nat.le_of_ble_eq_true rfl⟩ (Nat.le_of_ble_eq_true rfl) ⟨Nat.zero_le _, Nat.zero_le _⟩ ?_
      exact g_iret hq h (i := 29) rfl (⟨by unfold abO; rw [if_neg (by decide), if_neg (by decide), if_neg (by decide), if_neg (by decide), if_neg (by decide), if_neg (by decide), if_pos rfl], rfl⟩)
    · skip
      subst e
      refine g_tin h (i := 1) 97 rfl (by decide) (by decide) rfl rfl ?_
      refine g_aload_n h (i := 30) rfl rfl ?_
      refine g_getR h (i := 31) rfl fl_X10_7 (fun _ _ _ => rfl) (lk_R hL) (lr_row hL) ?_
      refine g_bipush h (i := 32) rfl (v := 46) (by rfl) ?_
      refine g_lald h (i := 33) rfl (lq_row hL) (vpD (by decide)) ?_
      refine g_eql _ (sRow_jx _ _ _ (n := 46) (by rfl)) ?_
      refine g_lconst h (i := 34) rfl (v := 1) (by rfl) ?_
      refine g_lcmp h (i := 35) rfl ?_
      refine g_if_ne h (i := 36) 113 rfl rfl (fun c_106 => ?_) (fun c_106 => ?_)
      · skip
        refine g_iconst h (i := 39) rfl (v := 0) (by rfl) ?_
        exact g_iret hq h (i := 40) rfl (⟨by unfold abO; rw [if_neg (by decide), if_neg (by decide), if_neg (by decide), if_neg (by decide), if_neg (by decide), if_neg (by decide), if_neg (by decide), if_pos rfl]; exact rF (fun q => c_106 ((lg_cmp_eq _ _).mpr q)), rfl⟩)
      · skip
        refine g_iconst h (i := 37) rfl (v := 1) (by rfl) ?_
        refine g_goto h (i := 38) 114 rfl rfl ?_
        exact g_iret hq h (i := 40) rfl (⟨by unfold abO; rw [if_neg (by decide), if_neg (by decide), if_neg (by decide), if_neg (by decide), if_neg (by decide), if_neg (by decide), if_neg (by decide), if_pos rfl]; exact rT ((lg_cmp_eq _ _).mp c_106), rfl⟩)
  · skip
    refine g_iload_n h (i := 0) rfl rfl ?_
    skip
    · skip
      skip
      refine g_tout h (i := 1) 115 rfl (hsw) rfl ?_
      refine g_aload_n h (i := 41) rfl rfl ?_
      refine g_bipush h (i := 42) rfl (v := 48) (by rfl) ?_
      refine g_callVx h hq (i := 43) rfl mv_X10_97 cls10 (lk_R hL) (ct_X10_rowAt l E w a 48 _ _ hlo hL (vpD (by decide)) (by rfl)) rfl rfl ⟨rfl, rfl, Nat.le_of_ble_eq_true rfl, Nat.le_of_ble_eq_true rfl⟩ (Nat.le_of_ble_eq_true rfl) ⟨Nat.zero_le _, Nat.zero_le _⟩ ?_
      exact g_iret hq h (i := 44) rfl (⟨by unfold abO; rw [if_neg (fun q => by subst q; exact absurd hsw (by decide)), if_neg (fun q => by subst q; exact absurd hsw (by decide)), if_neg (fun q => by subst q; exact absurd hsw (by decide)), if_neg (fun q => by subst q; exact absurd hsw (by decide)), if_neg (fun q => by subst q; exact absurd hsw (by decide)), if_neg (fun q => by subst q; exact absurd hsw (by decide)), if_neg (fun q => by subst q; exact absurd hsw (by decide)), if_neg (fun q => by subst q; exact absurd hsw (by decide))], rfl⟩)
-- about
set_option maxRecDepth 100000 in
set_option maxHeartbeats 4000000 in
theorem ct_X10_about (l : Launch) (E : EE) (w : Wd) (a : Nat) (r : Nat → Int64) (x : Int32) (hlo : E.2.2 ≤ wN (sRow w a r)) (hL : LayR w a) : Ct l E yX10_about cX10_about 2 (some .int) ({ frames := 2, cells := 0, slots := 0, locals := 42 } : Room) [.ref a, .int x] (sRow w a r) 0 0 (PS a w (abS x (cfW w a) r)) := by
  refine ct_in (il := il_X10_about) (by decide) dk_X10_about (Nat.le_of_ble_eq_true rfl) hlo ?_
  intro X h hq

  refine g_iload_n h (i := 0) rfl rfl ?_
  refine g_iconst h (i := 1) rfl (v := 0) (by rfl) ?_
  refine g_bipush h (i := 2) rfl (v := 8) (by rfl) ?_
  refine g_callSx h hq (i := 3) rfl ms_X10_82 (ct_X10_in l E _ x (0) (8) hlo) rfl rfl ⟨rfl, rfl, Nat.le_of_ble_eq_true rfl, Nat.le_of_ble_eq_true rfl⟩ (Nat.le_of_ble_eq_true rfl) ⟨Nat.zero_le _, Nat.zero_le _⟩ ?_
  refine g_if_eq h (i := 4) 18 rfl rfl (fun c_7 => ?_) (fun c_7 => ?_)
  · skip
    refine g_bipush h (i := 9) rfl (v := -2) (by rfl) ?_
    exact g_iret hq h (i := 10) rfl (by unfold abS; rw [if_neg (bI_0.mp c_7)]; exact ⟨rfl, ri_0⟩)
  · skip
    refine g_aload_n h (i := 5) rfl rfl ?_
    refine g_iload_n h (i := 6) rfl rfl ?_
    refine g_callVx h hq (i := 7) rfl mv_X10_260 cls10 (lk_R hL) (ct_X10_aboutOf l E w a r x hlo hL) rfl rfl ⟨rfl, rfl, Nat.le_of_ble_eq_true rfl, Nat.le_of_ble_eq_true rfl⟩ (Nat.le_of_ble_eq_true rfl) ⟨Nat.zero_le _, Nat.zero_le _⟩ ?_
    refine g_goto h (i := 8) 20 rfl rfl ?_
    exact g_iret hq h (i := 10) rfl (by unfold abS; rw [if_pos (bI_1.mp c_7)]; exact ⟨rfl, ri_0⟩)
def atA (x i : Int32) (r : Nat → Int64) : Int32 := if (0 ≤ x ∧ x ≤ 2) ∧ (0 ≤ i ∧ i ≤ 7) then (if x = 0 then (r (12 + pI i)).toInt32 else if x = 1 then (r (20 + pI i)).toInt32 else (r (4 + pI i)).toInt32) else -2000000
-- at
set_option maxRecDepth 100000 in
set_option maxHeartbeats 4000000 in
theorem ct_X10_at (l : Launch) (E : EE) (w : Wd) (a : Nat) (r : Nat → Int64) (x i : Int32) (hlo : E.2.2 ≤ wN (sRow w a r)) (hL : LayR w a) : Ct l E yX10_at cX10_at 3 (some .int) ({ frames := 1, cells := 0, slots := 0, locals := 22 } : Room) [.ref a, .int x, .int i] (sRow w a r) 0 0 (Px (some (.int (atA x i r))) (sRow w a r)) := by
  refine ct_in (il := il_X10_at) (by decide) dk_X10_at (Nat.le_of_ble_eq_true rfl) hlo ?_
  intro X h hq

  refine g_iload_n h (i := 0) rfl rfl ?_
  refine g_iconst h (i := 1) rfl (v := 0) (by rfl) ?_
  refine g_iconst h (i := 2) rfl (v := 2) (by rfl) ?_
  refine g_callSx h hq (i := 3) rfl ms_X10_82 (ct_X10_in l E _ x (0) (2) hlo) rfl rfl ⟨rfl, rfl, Nat.le_of_ble_eq_true rfl, Nat.le_of_ble_eq_true rfl⟩ (Nat.le_of_ble_eq_true rfl) ⟨Nat.zero_le _, Nat.zero_le _⟩ ?_
  refine g_if_eq h (i := 4) 19 rfl rfl (fun c_6 => ?_) (fun c_6 => ?_)
  · skip
    refine g_ldc h (i := 10) rfl k_X10_101 ?_
    refine g_goto h (i := 11) 54 rfl rfl ?_
    exact g_iret hq h (i := 30) rfl (⟨by unfold atA; rw [if_neg (fun q => bI_0.mp c_6 q.1)], rfl⟩)
  · skip
    refine g_iload_n h (i := 5) rfl rfl ?_
    refine g_iconst h (i := 6) rfl (v := 0) (by rfl) ?_
    refine g_bipush h (i := 7) rfl (v := 7) (by rfl) ?_
    refine g_callSx h hq (i := 8) rfl ms_X10_82 (ct_X10_in l E _ i (0) (7) hlo) rfl rfl ⟨rfl, rfl, Nat.le_of_ble_eq_true rfl, Nat.le_of_ble_eq_true rfl⟩ (Nat.le_of_ble_eq_true rfl) ⟨Nat.zero_le _, Nat.zero_le _⟩ ?_
    refine g_if_ne h (i := 9) 24 rfl rfl (fun c_16 => ?_) (fun c_16 => ?_)
    · skip
      obtain ⟨hj, hj3⟩ := jx (M := 7) (bI_1.mp c_16) (by decide)
      refine g_aload_n h (i := 12) rfl rfl ?_
      refine g_iload_n h (i := 13) rfl rfl ?_
      refine g_if_ne h (i := 14) 36 rfl rfl (fun c_26 => ?_) (fun c_26 => ?_)
      · skip
        refine g_iload_n h (i := 19) rfl rfl ?_
        refine g_iconst h (i := 20) rfl (v := 1) (by rfl) ?_
        refine g_icmp_ne h (i := 21) 48 rfl rfl (fun c_38 => ?_) (fun c_38 => ?_)
        · skip
          refine g_iconst h (i := 26) rfl (v := 4) (by rfl) ?_
          refine g_iload_n h (i := 27) rfl rfl ?_
          refine g_iadd h (i := 28) rfl ?_
          refine g_eqi (nI (4 + pI i)) (jadd 4 hj) ?_
          refine g_callVx h hq (i := 29) rfl mv_X10_97 cls10 (lk_R hL) (ct_X10_rowAt l E w a (4 + pI i) r _ hlo hL (vp_in_nI (by omega) (by omega)) (nI_clamp (by omega))) rfl rfl ⟨rfl, rfl, Nat.le_of_ble_eq_true rfl, Nat.le_of_ble_eq_true rfl⟩ (Nat.le_of_ble_eq_true rfl) ⟨Nat.zero_le _, Nat.zero_le _⟩ ?_
          exact g_iret hq h (i := 30) rfl (⟨by unfold atA; rw [if_pos ⟨bI_1.mp c_6, bI_1.mp c_16⟩, if_neg c_26, if_neg c_38], rfl⟩)
        · skip
          refine g_bipush h (i := 22) rfl (v := 20) (by rfl) ?_
          refine g_iload_n h (i := 23) rfl rfl ?_
          refine g_iadd h (i := 24) rfl ?_
          refine g_goto h (i := 25) 51 rfl rfl ?_
          refine g_eqi (nI (20 + pI i)) (jadd 20 hj) ?_
          refine g_callVx h hq (i := 29) rfl mv_X10_97 cls10 (lk_R hL) (ct_X10_rowAt l E w a (20 + pI i) r _ hlo hL (vp_in_nI (by omega) (by omega)) (nI_clamp (by omega))) rfl rfl ⟨rfl, rfl, Nat.le_of_ble_eq_true rfl, Nat.le_of_ble_eq_true rfl⟩ (Nat.le_of_ble_eq_true rfl) ⟨Nat.zero_le _, Nat.zero_le _⟩ ?_
          exact g_iret hq h (i := 30) rfl (⟨by unfold atA; rw [if_pos ⟨bI_1.mp c_6, bI_1.mp c_16⟩, if_neg c_26, if_pos c_38], rfl⟩)
      · skip
        refine g_bipush h (i := 15) rfl (v := 12) (by rfl) ?_
        refine g_iload_n h (i := 16) rfl rfl ?_
        refine g_iadd h (i := 17) rfl ?_
        refine g_goto h (i := 18) 51 rfl rfl ?_
        refine g_eqi (nI (12 + pI i)) (jadd 12 hj) ?_
        refine g_callVx h hq (i := 29) rfl mv_X10_97 cls10 (lk_R hL) (ct_X10_rowAt l E w a (12 + pI i) r _ hlo hL (vp_in_nI (by omega) (by omega)) (nI_clamp (by omega))) rfl rfl ⟨rfl, rfl, Nat.le_of_ble_eq_true rfl, Nat.le_of_ble_eq_true rfl⟩ (Nat.le_of_ble_eq_true rfl) ⟨Nat.zero_le _, Nat.zero_le _⟩ ?_
        exact g_iret hq h (i := 30) rfl (⟨by unfold atA; rw [if_pos ⟨bI_1.mp c_6, bI_1.mp c_16⟩, if_pos c_26], rfl⟩)
    · skip
      refine g_ldc h (i := 10) rfl k_X10_101 ?_
      refine g_goto h (i := 11) 54 rfl rfl ?_
      exact g_iret hq h (i := 30) rfl (⟨by unfold atA; rw [if_neg (fun q => bI_0.mp c_16 q.2)], rfl⟩)
def cnN (f : Nat → Int32) : Nat → Nat
  | 0 => 0
  | n + 1 => cnN f n + (if f n = 0 then 0 else 1)
theorem cn_le (f : Nat → Int32) : ∀ n, cnN f n ≤ n
  | 0 => Nat.le_refl _
  | n + 1 => by
    have := cn_le f n
    unfold cnN
    by_cases e : f n = 0
    · rw [if_pos e]; omega
    · rw [if_neg e]; omega
theorem cn_0 {f : Nat → Int32} {n : Nat} (h : f n = 0) : nI (cnN f n) + 0 = nI (cnN f (n + 1)) := by
  rw [Int32.add_zero]
  exact congrArg nI (show cnN f n = cnN f n + (if f n = 0 then 0 else 1) by rw [if_pos h, Nat.add_zero])
theorem cn_1 {f : Nat → Int32} {n : Nat} (h : ¬ f n = 0) : nI (cnN f n) + 1 = nI (cnN f (n + 1)) := by
  rw [nI_1 (cnN f n)]
  exact congrArg nI (show cnN f n + 1 = cnN f n + (if f n = 0 then 0 else 1) by rw [if_neg h])
def coA (x : Int32) (cf : Nat → Nat → Int32) : Int32 := if x = 0 then cf 0 12 else if x = 1 then cf 0 16 else if x = 2 then nI (cnN (cf 9) 4) else if x = 3 then nI (cnN (cf 11) 16) else -2
-- count
set_option maxRecDepth 100000 in
set_option maxHeartbeats 4000000 in
theorem ct_X10_count (l : Launch) (E : EE) (w : Wd) (a : Nat) (r : Nat → Int64) (x : Int32) (hlo : E.2.2 ≤ wN (sRow w a r)) (hL : LayR w a) : Ct l E yX10_count cX10_count 4 (some .int) ({ frames := 0, cells := 0, slots := 0, locals := 0 } : Room) [.ref a, .int x] (sRow w a r) 0 0 (Px (some (.int (coA x (cfW w a)))) (sRow w a r)) := by
  refine ct_in (il := il_X10_count) (by decide) dk_X10_count (Nat.le_of_ble_eq_true rfl) hlo ?_
  intro X h hq

  have k44 : x = 2 → ∀ (d i : Nat), i + d = 4 → G X 0 0 44 (lf [(0, .ref a), (2, .int (nI (cnN (cfW w a 9) i))), (3, .int (nI i))]) [] (sRow w a r) := by
    intro hx d
    induction d with
    | zero =>
      intro i hi
      have hi4 : i = 4 := by omega
      subst hi4
      refine g_iload_n h (i := 12) rfl rfl ?_
      refine g_iconst h (i := 13) rfl (v := 4) (by rfl) ?_
      refine g_icmp_ge h (i := 14) 72 rfl rfl (fun c_46 => ?_) (fun c_46 => absurd (by decide : (4 : Int32) ≤ nI 4) c_46)
      refine g_iload_n h (i := 28) rfl rfl ?_
      exact g_iret hq h (i := 29) rfl (⟨by rw [hx]; unfold coA; rw [if_neg (by decide), if_neg (by decide), if_pos rfl], rfl⟩)
    | succ d ih =>
      intro i hid
      have hi : i < 4 := by omega
      have hnge : ¬ (4 : Int32) ≤ nI i := nI_ge (b := 4) hi (by omega)
      have hcl : (nI i).toNatClampNeg = i := nI_clamp (by omega)
      refine g_iload_n h (i := 12) rfl rfl ?_
      refine g_iconst h (i := 13) rfl (v := 4) (by rfl) ?_
      refine g_icmp_ge h (i := 14) 72 rfl rfl (fun c_46 => absurd c_46 hnge) (fun c_46 => ?_)
      refine g_iload_n h (i := 15) rfl rfl ?_
      refine g_aload_n h (i := 16) rfl rfl ?_
      refine g_getR h (i := 17) rfl fl_X10_38 (fun _ _ _ => rfl) (lk_R hL) (lr_isBox hL) ?_
      refine g_iload_n h (i := 18) rfl rfl ?_
      refine g_zald h (i := 19) rfl (lq_isBox hL) (vp_in_nI (by omega) (by omega)) ?_
      refine g_eqi (wI w (a + 9) _) rfl ?_
      refine g_if_eq h (i := 20) 63 rfl rfl (fun c_56 => ?_) (fun c_56 => ?_)
      · skip
        refine g_iconst h (i := 23) rfl (v := 0) (by rfl) ?_
        refine g_iadd h (i := 24) rfl ?_
        refine g_istore_n h (i := 25) rfl hq rfl ?_
        refine g_iinc h (i := 26) rfl rfl (dv := 1) (by rfl) ?_
        refine g_goto h (i := 27) 44 rfl rfl ?_
        exact g_lv [(0, .ref a), (2, .int (nI (cnN (cfW w a 9) (i + 1)))), (3, .int (nI (i + 1)))] ⟨rfl, congrArg (fun z => some (Value.int z)) (cn_0 (show cfW w a 9 i = 0 by rw [hcl] at c_56; exact c_56)), congrArg (fun z => some (Value.int z)) (nI_1 i), trivial⟩ (ih (i + 1) (by omega))
      · skip
        refine g_iconst h (i := 21) rfl (v := 1) (by rfl) ?_
        refine g_goto h (i := 22) 64 rfl rfl ?_
        refine g_iadd h (i := 24) rfl ?_
        refine g_istore_n h (i := 25) rfl hq rfl ?_
        refine g_iinc h (i := 26) rfl rfl (dv := 1) (by rfl) ?_
        refine g_goto h (i := 27) 44 rfl rfl ?_
        exact g_lv [(0, .ref a), (2, .int (nI (cnN (cfW w a 9) (i + 1)))), (3, .int (nI (i + 1)))] ⟨rfl, congrArg (fun z => some (Value.int z)) (cn_1 (show ¬ cfW w a 9 i = 0 by rw [hcl] at c_56; exact c_56)), congrArg (fun z => some (Value.int z)) (nI_1 i), trivial⟩ (ih (i + 1) (by omega))
  have k76 : x = 3 → ∀ (d i : Nat), i + d = 16 → G X 0 0 76 (lf [(0, .ref a), (2, .int (nI (cnN (cfW w a 11) i))), (3, .int (nI i))]) [] (sRow w a r) := by
    intro hx d
    induction d with
    | zero =>
      intro i hi
      have hi4 : i = 16 := by omega
      subst hi4
      refine g_iload_n h (i := 32) rfl rfl ?_
      refine g_bipush h (i := 33) rfl (v := 16) (by rfl) ?_
      refine g_icmp_ge h (i := 34) 105 rfl rfl (fun c_79 => ?_) (fun c_79 => absurd (by decide : (16 : Int32) ≤ nI 16) c_79)
      refine g_iload_n h (i := 48) rfl rfl ?_
      exact g_iret hq h (i := 49) rfl (⟨by rw [hx]; unfold coA; rw [if_neg (by decide), if_neg (by decide), if_neg (by decide), if_pos rfl], rfl⟩)
    | succ d ih =>
      intro i hid
      have hi : i < 16 := by omega
      have hnge : ¬ (16 : Int32) ≤ nI i := nI_ge (b := 16) hi (by omega)
      have hcl : (nI i).toNatClampNeg = i := nI_clamp (by omega)
      refine g_iload_n h (i := 32) rfl rfl ?_
      refine g_bipush h (i := 33) rfl (v := 16) (by rfl) ?_
      refine g_icmp_ge h (i := 34) 105 rfl rfl (fun c_79 => absurd c_79 hnge) (fun c_79 => ?_)
      refine g_iload_n h (i := 35) rfl rfl ?_
      refine g_aload_n h (i := 36) rfl rfl ?_
      refine g_getR h (i := 37) rfl fl_X10_44 (fun _ _ _ => rfl) (lk_R hL) (lr_isTaught hL) ?_
      refine g_iload_n h (i := 38) rfl rfl ?_
      refine g_zald h (i := 39) rfl (lq_isTaught hL) (vp_in_nI (by omega) (by omega)) ?_
      refine g_eqi (wI w (a + 11) _) rfl ?_
      refine g_if_eq h (i := 40) 96 rfl rfl (fun c_89 => ?_) (fun c_89 => ?_)
      · skip
        refine g_iconst h (i := 43) rfl (v := 0) (by rfl) ?_
        refine g_iadd h (i := 44) rfl ?_
        refine g_istore_n h (i := 45) rfl hq rfl ?_
        refine g_iinc h (i := 46) rfl rfl (dv := 1) (by rfl) ?_
        refine g_goto h (i := 47) 76 rfl rfl ?_
        exact g_lv [(0, .ref a), (2, .int (nI (cnN (cfW w a 11) (i + 1)))), (3, .int (nI (i + 1)))] ⟨rfl, congrArg (fun z => some (Value.int z)) (cn_0 (show cfW w a 11 i = 0 by rw [hcl] at c_89; exact c_89)), congrArg (fun z => some (Value.int z)) (nI_1 i), trivial⟩ (ih (i + 1) (by omega))
      · skip
        refine g_iconst h (i := 41) rfl (v := 1) (by rfl) ?_
        refine g_goto h (i := 42) 97 rfl rfl ?_
        refine g_iadd h (i := 44) rfl ?_
        refine g_istore_n h (i := 45) rfl hq rfl ?_
        refine g_iinc h (i := 46) rfl rfl (dv := 1) (by rfl) ?_
        refine g_goto h (i := 47) 76 rfl rfl ?_
        exact g_lv [(0, .ref a), (2, .int (nI (cnN (cfW w a 11) (i + 1)))), (3, .int (nI (i + 1)))] ⟨rfl, congrArg (fun z => some (Value.int z)) (cn_1 (show ¬ cfW w a 11 i = 0 by rw [hcl] at c_89; exact c_89)), congrArg (fun z => some (Value.int z)) (nI_1 i), trivial⟩ (ih (i + 1) (by omega))
  rcases n4e x with hsw | hsw
  · skip
    refine g_iconst h (i := 0) rfl (v := 0) (by rfl) ?_
    refine g_istore_n h (i := 1) rfl hq rfl ?_
    refine g_iload_n h (i := 2) rfl rfl ?_
    rcases hsw with e | e | e | e
    · skip
      subst e
      refine g_tin h (i := 3) 32 rfl (by decide) (by decide) rfl rfl ?_
      refine g_aload_n h (i := 4) rfl rfl ?_
      refine g_getI h (i := 5) rfl fl_X10_207 (fun _ _ _ => rfl) (lk_R hL) ?_
      refine g_eqi (wI w a 12) (rfl) ?_
      exact g_iret hq h (i := 6) rfl (⟨by unfold coA; rw [if_pos rfl]; rfl, rfl⟩)
    · skip
      subst e
      refine g_tin h (i := 3) 37 rfl (by decide) (by decide) rfl rfl ?_
      refine g_aload_n h (i := 7) rfl rfl ?_
      refine g_getI h (i := 8) rfl fl_X10_211 (fun _ _ _ => rfl) (lk_R hL) ?_
      refine g_eqi (wI w a 16) (rfl) ?_
      exact g_iret hq h (i := 9) rfl (⟨by unfold coA; rw [if_neg (by decide), if_pos rfl]; rfl, rfl⟩)
    · skip
      subst e
      refine g_tin h (i := 3) 42 rfl (by decide) (by decide) rfl rfl ?_
      refine g_iconst h (i := 10) rfl (v := 0) (by rfl) ?_
      refine g_istore_n h (i := 11) rfl hq rfl ?_
      exact g_lv [(0, .ref a), (2, .int (nI (cnN (cfW w a 9) 0))), (3, .int (nI 0))] ⟨rfl, rfl, rfl, trivial⟩ (k44 rfl 4 0 (by omega))
    · skip
      subst e
      refine g_tin h (i := 3) 74 rfl (by decide) (by decide) rfl rfl ?_
      refine g_iconst h (i := 30) rfl (v := 0) (by rfl) ?_
      refine g_istore_n h (i := 31) rfl hq rfl ?_
      exact g_lv [(0, .ref a), (2, .int (nI (cnN (cfW w a 11) 0))), (3, .int (nI 0))] ⟨rfl, rfl, rfl, trivial⟩ (k76 rfl 16 0 (by omega))
  · skip
    refine g_iconst h (i := 0) rfl (v := 0) (by rfl) ?_
    refine g_istore_n h (i := 1) rfl hq rfl ?_
    refine g_iload_n h (i := 2) rfl rfl ?_
    skip
    · skip
      skip
      refine g_tout h (i := 3) 107 rfl (hsw) rfl ?_
      refine g_bipush h (i := 50) rfl (v := -2) (by rfl) ?_
      exact g_iret hq h (i := 51) rfl (⟨by unfold coA; rw [if_neg (fun q => by subst q; exact absurd hsw (by decide)), if_neg (fun q => by subst q; exact absurd hsw (by decide)), if_neg (fun q => by subst q; exact absurd hsw (by decide)), if_neg (fun q => by subst q; exact absurd hsw (by decide))], rfl⟩)
end
