-- ===== PART A: goes FIRST, ahead of the names: the tables' words, and 'selects' of the private methods out of them =====
/-- a private method of a class that the tables say can be made, by its rows of tables_1 -/
def lw_okq (q : MethodName × Nat) : Prop := (q.1.cls ≠ "java/lang/invoke/MethodHandle" ∧ q.1.cls ≠ "java/lang/invoke/VarHandle") ∧ Cond.instantiable q.1.cls q.2 ∈ tables_1 ∧ Cond.privateMethod q.1 ∈ tables_1 ∧ Cond.instanceMethod q.1 ∈ tables_1
theorem lw_p0 : lw_okq (⟨"ColdLine", "refuse", "(I)I"⟩, 17) := ⟨⟨by decide +kernel, by decide +kernel⟩, List.mem_of_getElem? (i := 18) (by decide +kernel), List.mem_of_getElem? (i := 327) (by decide +kernel), List.mem_of_getElem? (i := 328) (by decide +kernel)⟩
theorem lw_p1 : lw_okq (⟨"ColdLine", "isStation", "(I)Z"⟩, 17) := ⟨⟨by decide +kernel, by decide +kernel⟩, List.mem_of_getElem? (i := 18) (by decide +kernel), List.mem_of_getElem? (i := 335) (by decide +kernel), List.mem_of_getElem? (i := 336) (by decide +kernel)⟩
theorem lw_p2 : lw_okq (⟨"ColdLine", "refuseByZero", "(I)I"⟩, 17) := ⟨⟨by decide +kernel, by decide +kernel⟩, List.mem_of_getElem? (i := 18) (by decide +kernel), List.mem_of_getElem? (i := 352) (by decide +kernel), List.mem_of_getElem? (i := 353) (by decide +kernel)⟩
theorem lw_p3 : lw_okq (⟨"ColdLine", "isCar", "(I)Z"⟩, 17) := ⟨⟨by decide +kernel, by decide +kernel⟩, List.mem_of_getElem? (i := 18) (by decide +kernel), List.mem_of_getElem? (i := 394) (by decide +kernel), List.mem_of_getElem? (i := 395) (by decide +kernel)⟩
theorem lw_p4 : lw_okq (⟨"ColdLine", "hoursLeft", "(LColdLine$Car;)I"⟩, 17) := ⟨⟨by decide +kernel, by decide +kernel⟩, List.mem_of_getElem? (i := 18) (by decide +kernel), List.mem_of_getElem? (i := 448) (by decide +kernel), List.mem_of_getElem? (i := 449) (by decide +kernel)⟩
theorem lw_p5 : lw_okq (⟨"ColdLine$Tape", "takeHead", "(LColdLine$Rule;)Z"⟩, 3) := ⟨⟨by decide +kernel, by decide +kernel⟩, List.mem_of_getElem? (i := 32) (by decide +kernel), List.mem_of_getElem? (i := 490) (by decide +kernel), List.mem_of_getElem? (i := 491) (by decide +kernel)⟩
theorem lw_p6 : lw_okq (⟨"ColdLine$Tape", "nextByte", "()I"⟩, 3) := ⟨⟨by decide +kernel, by decide +kernel⟩, List.mem_of_getElem? (i := 32) (by decide +kernel), List.mem_of_getElem? (i := 494) (by decide +kernel), List.mem_of_getElem? (i := 495) (by decide +kernel)⟩
theorem lw_p7 : lw_okq (⟨"ColdLine$Tape", "takeWord", "(Ljava/lang/String;)Z"⟩, 3) := ⟨⟨by decide +kernel, by decide +kernel⟩, List.mem_of_getElem? (i := 32) (by decide +kernel), List.mem_of_getElem? (i := 500) (by decide +kernel), List.mem_of_getElem? (i := 501) (by decide +kernel)⟩
theorem lw_p8 : lw_okq (⟨"ColdLine$Tape", "takeNumber", "()I"⟩, 3) := ⟨⟨by decide +kernel, by decide +kernel⟩, List.mem_of_getElem? (i := 32) (by decide +kernel), List.mem_of_getElem? (i := 552) (by decide +kernel), List.mem_of_getElem? (i := 553) (by decide +kernel)⟩
theorem lw_p9 : lw_okq (⟨"ColdLine$Tape", "takeTest", "(LColdLine$Rule;)Z"⟩, 3) := ⟨⟨by decide +kernel, by decide +kernel⟩, List.mem_of_getElem? (i := 32) (by decide +kernel), List.mem_of_getElem? (i := 562) (by decide +kernel), List.mem_of_getElem? (i := 563) (by decide +kernel)⟩
theorem lw_p10 : lw_okq (⟨"ColdLine", "passHour", "(LColdLine$Car;LColdLine$Ice;I)Z"⟩, 17) := ⟨⟨by decide +kernel, by decide +kernel⟩, List.mem_of_getElem? (i := 18) (by decide +kernel), List.mem_of_getElem? (i := 587) (by decide +kernel), List.mem_of_getElem? (i := 588) (by decide +kernel)⟩
theorem lw_p11 : lw_okq (⟨"ColdLine", "outsideOf", "(LColdLine$Car;I)I"⟩, 17) := ⟨⟨by decide +kernel, by decide +kernel⟩, List.mem_of_getElem? (i := 18) (by decide +kernel), List.mem_of_getElem? (i := 591) (by decide +kernel), List.mem_of_getElem? (i := 592) (by decide +kernel)⟩
theorem lw_p12 : lw_okq (⟨"ColdLine", "obeyRules", "(LColdLine$Car;LColdLine$Ice;II)V"⟩, 17) := ⟨⟨by decide +kernel, by decide +kernel⟩, List.mem_of_getElem? (i := 18) (by decide +kernel), List.mem_of_getElem? (i := 595) (by decide +kernel), List.mem_of_getElem? (i := 596) (by decide +kernel)⟩
theorem lw_p13 : lw_okq (⟨"ColdLine", "lastThatHolds", "(ZI)I"⟩, 17) := ⟨⟨by decide +kernel, by decide +kernel⟩, List.mem_of_getElem? (i := 18) (by decide +kernel), List.mem_of_getElem? (i := 604) (by decide +kernel), List.mem_of_getElem? (i := 605) (by decide +kernel)⟩
theorem lw_p14 : lw_okq (⟨"ColdLine$Tier", "lossOfHour", "([I)I"⟩, 6) := ⟨⟨by decide +kernel, by decide +kernel⟩, List.mem_of_getElem? (i := 103) (by decide +kernel), List.mem_of_getElem? (i := 635) (by decide +kernel), List.mem_of_getElem? (i := 636) (by decide +kernel)⟩
theorem lw_p15 : lw_okq (⟨"ColdLine$Tier", "ripen", "()Z"⟩, 6) := ⟨⟨by decide +kernel, by decide +kernel⟩, List.mem_of_getElem? (i := 103) (by decide +kernel), List.mem_of_getElem? (i := 644) (by decide +kernel), List.mem_of_getElem? (i := 645) (by decide +kernel)⟩
def lw_privs_1 : List (MethodName × Nat) := [(⟨"ColdLine", "refuse", "(I)I"⟩, 17), (⟨"ColdLine", "isStation", "(I)Z"⟩, 17), (⟨"ColdLine", "refuseByZero", "(I)I"⟩, 17), (⟨"ColdLine", "isCar", "(I)Z"⟩, 17), (⟨"ColdLine", "hoursLeft", "(LColdLine$Car;)I"⟩, 17), (⟨"ColdLine$Tape", "takeHead", "(LColdLine$Rule;)Z"⟩, 3), (⟨"ColdLine$Tape", "nextByte", "()I"⟩, 3), (⟨"ColdLine$Tape", "takeWord", "(Ljava/lang/String;)Z"⟩, 3), (⟨"ColdLine$Tape", "takeNumber", "()I"⟩, 3), (⟨"ColdLine$Tape", "takeTest", "(LColdLine$Rule;)Z"⟩, 3), (⟨"ColdLine", "passHour", "(LColdLine$Car;LColdLine$Ice;I)Z"⟩, 17), (⟨"ColdLine", "outsideOf", "(LColdLine$Car;I)I"⟩, 17), (⟨"ColdLine", "obeyRules", "(LColdLine$Car;LColdLine$Ice;II)V"⟩, 17), (⟨"ColdLine", "lastThatHolds", "(ZI)I"⟩, 17), (⟨"ColdLine$Tier", "lossOfHour", "([I)I"⟩, 6), (⟨"ColdLine$Tier", "ripen", "()Z"⟩, 6)]
theorem lw_r1 : ∀ q ∈ lw_privs_1, lw_okq q := List.forall_mem_cons.mpr ⟨lw_p0, List.forall_mem_cons.mpr ⟨lw_p1, List.forall_mem_cons.mpr ⟨lw_p2, List.forall_mem_cons.mpr ⟨lw_p3, List.forall_mem_cons.mpr ⟨lw_p4, List.forall_mem_cons.mpr ⟨lw_p5, List.forall_mem_cons.mpr ⟨lw_p6, List.forall_mem_cons.mpr ⟨lw_p7, List.forall_mem_cons.mpr ⟨lw_p8, List.forall_mem_cons.mpr ⟨lw_p9, List.forall_mem_cons.mpr ⟨lw_p10, List.forall_mem_cons.mpr ⟨lw_p11, List.forall_mem_cons.mpr ⟨lw_p12, List.forall_mem_cons.mpr ⟨lw_p13, List.forall_mem_cons.mpr ⟨lw_p14, List.forall_mem_cons.mpr ⟨lw_p15, fun _ h => absurd h List.not_mem_nil⟩⟩⟩⟩⟩⟩⟩⟩⟩⟩⟩⟩⟩⟩⟩⟩
theorem lw_p16 : lw_okq (⟨"ColdLine", "moveOn", "(LColdLine$Car;)Z"⟩, 17) := ⟨⟨by decide +kernel, by decide +kernel⟩, List.mem_of_getElem? (i := 18) (by decide +kernel), List.mem_of_getElem? (i := 652) (by decide +kernel), List.mem_of_getElem? (i := 653) (by decide +kernel)⟩
theorem lw_p17 : lw_okq (⟨"ColdLine", "legBetween", "(II)I"⟩, 17) := ⟨⟨by decide +kernel, by decide +kernel⟩, List.mem_of_getElem? (i := 18) (by decide +kernel), List.mem_of_getElem? (i := 656) (by decide +kernel), List.mem_of_getElem? (i := 657) (by decide +kernel)⟩
theorem lw_p18 : lw_okq (⟨"ColdLine$Station", "salesOfLatestHours", "(I)I"⟩, 8) := ⟨⟨by decide +kernel, by decide +kernel⟩, List.mem_of_getElem? (i := 189) (by decide +kernel), List.mem_of_getElem? (i := 672) (by decide +kernel), List.mem_of_getElem? (i := 673) (by decide +kernel)⟩
theorem lw_p19 : lw_okq (⟨"ColdLine", "couldSellAt", "(LColdLine$Car;I)Z"⟩, 17) := ⟨⟨by decide +kernel, by decide +kernel⟩, List.mem_of_getElem? (i := 18) (by decide +kernel), List.mem_of_getElem? (i := 693) (by decide +kernel), List.mem_of_getElem? (i := 694) (by decide +kernel)⟩
theorem lw_p20 : lw_okq (⟨"ColdLine", "tryOut", "(LColdLine$Car;I)I"⟩, 17) := ⟨⟨by decide +kernel, by decide +kernel⟩, List.mem_of_getElem? (i := 18) (by decide +kernel), List.mem_of_getElem? (i := 697) (by decide +kernel), List.mem_of_getElem? (i := 698) (by decide +kernel)⟩
theorem lw_p21 : lw_okq (⟨"ColdLineModel", "fresh", "(I)V"⟩, 55) := ⟨⟨by decide +kernel, by decide +kernel⟩, List.mem_of_getElem? (i := 758) (by decide +kernel), List.mem_of_getElem? (i := 764) (by decide +kernel), List.mem_of_getElem? (i := 765) (by decide +kernel)⟩
theorem lw_p22 : lw_okq (⟨"ColdLineModel", "refuse", "(I)I"⟩, 55) := ⟨⟨by decide +kernel, by decide +kernel⟩, List.mem_of_getElem? (i := 758) (by decide +kernel), List.mem_of_getElem? (i := 939) (by decide +kernel), List.mem_of_getElem? (i := 940) (by decide +kernel)⟩
theorem lw_p23 : lw_okq (⟨"ColdLineModel", "isStation", "(I)Z"⟩, 55) := ⟨⟨by decide +kernel, by decide +kernel⟩, List.mem_of_getElem? (i := 758) (by decide +kernel), List.mem_of_getElem? (i := 947) (by decide +kernel), List.mem_of_getElem? (i := 948) (by decide +kernel)⟩
theorem lw_p24 : lw_okq (⟨"ColdLineModel", "zero", "(I)I"⟩, 55) := ⟨⟨by decide +kernel, by decide +kernel⟩, List.mem_of_getElem? (i := 758) (by decide +kernel), List.mem_of_getElem? (i := 964) (by decide +kernel), List.mem_of_getElem? (i := 965) (by decide +kernel)⟩
theorem lw_p25 : lw_okq (⟨"ColdLineModel", "outAt", "(II)I"⟩, 55) := ⟨⟨by decide +kernel, by decide +kernel⟩, List.mem_of_getElem? (i := 758) (by decide +kernel), List.mem_of_getElem? (i := 976) (by decide +kernel), List.mem_of_getElem? (i := 977) (by decide +kernel)⟩
theorem lw_p26 : lw_okq (⟨"ColdLineModel", "isCar", "(I)Z"⟩, 55) := ⟨⟨by decide +kernel, by decide +kernel⟩, List.mem_of_getElem? (i := 758) (by decide +kernel), List.mem_of_getElem? (i := 992) (by decide +kernel), List.mem_of_getElem? (i := 993) (by decide +kernel)⟩
theorem lw_p27 : lw_okq (⟨"ColdLineModel", "sends", "(II)V"⟩, 55) := ⟨⟨by decide +kernel, by decide +kernel⟩, List.mem_of_getElem? (i := 758) (by decide +kernel), List.mem_of_getElem? (i := 1012) (by decide +kernel), List.mem_of_getElem? (i := 1013) (by decide +kernel)⟩
theorem lw_p28 : lw_okq (⟨"ColdLineModel", "legs", "(II)I"⟩, 55) := ⟨⟨by decide +kernel, by decide +kernel⟩, List.mem_of_getElem? (i := 758) (by decide +kernel), List.mem_of_getElem? (i := 1016) (by decide +kernel), List.mem_of_getElem? (i := 1017) (by decide +kernel)⟩
theorem lw_p29 : lw_okq (⟨"ColdLineModel", "mayTurn", "(II)Z"⟩, 55) := ⟨⟨by decide +kernel, by decide +kernel⟩, List.mem_of_getElem? (i := 758) (by decide +kernel), List.mem_of_getElem? (i := 1024) (by decide +kernel), List.mem_of_getElem? (i := 1025) (by decide +kernel)⟩
theorem lw_p30 : lw_okq (⟨"ColdLineModel", "reads", "(I)V"⟩, 55) := ⟨⟨by decide +kernel, by decide +kernel⟩, List.mem_of_getElem? (i := 758) (by decide +kernel), List.mem_of_getElem? (i := 1048) (by decide +kernel), List.mem_of_getElem? (i := 1049) (by decide +kernel)⟩
theorem lw_p31 : lw_okq (⟨"ColdLineModel", "byteAt", "(I)I"⟩, 55) := ⟨⟨by decide +kernel, by decide +kernel⟩, List.mem_of_getElem? (i := 758) (by decide +kernel), List.mem_of_getElem? (i := 1052) (by decide +kernel), List.mem_of_getElem? (i := 1053) (by decide +kernel)⟩
def lw_privs_2 : List (MethodName × Nat) := [(⟨"ColdLine", "moveOn", "(LColdLine$Car;)Z"⟩, 17), (⟨"ColdLine", "legBetween", "(II)I"⟩, 17), (⟨"ColdLine$Station", "salesOfLatestHours", "(I)I"⟩, 8), (⟨"ColdLine", "couldSellAt", "(LColdLine$Car;I)Z"⟩, 17), (⟨"ColdLine", "tryOut", "(LColdLine$Car;I)I"⟩, 17), (⟨"ColdLineModel", "fresh", "(I)V"⟩, 55), (⟨"ColdLineModel", "refuse", "(I)I"⟩, 55), (⟨"ColdLineModel", "isStation", "(I)Z"⟩, 55), (⟨"ColdLineModel", "zero", "(I)I"⟩, 55), (⟨"ColdLineModel", "outAt", "(II)I"⟩, 55), (⟨"ColdLineModel", "isCar", "(I)Z"⟩, 55), (⟨"ColdLineModel", "sends", "(II)V"⟩, 55), (⟨"ColdLineModel", "legs", "(II)I"⟩, 55), (⟨"ColdLineModel", "mayTurn", "(II)Z"⟩, 55), (⟨"ColdLineModel", "reads", "(I)V"⟩, 55), (⟨"ColdLineModel", "byteAt", "(I)I"⟩, 55)]
theorem lw_r2 : ∀ q ∈ lw_privs_2, lw_okq q := List.forall_mem_cons.mpr ⟨lw_p16, List.forall_mem_cons.mpr ⟨lw_p17, List.forall_mem_cons.mpr ⟨lw_p18, List.forall_mem_cons.mpr ⟨lw_p19, List.forall_mem_cons.mpr ⟨lw_p20, List.forall_mem_cons.mpr ⟨lw_p21, List.forall_mem_cons.mpr ⟨lw_p22, List.forall_mem_cons.mpr ⟨lw_p23, List.forall_mem_cons.mpr ⟨lw_p24, List.forall_mem_cons.mpr ⟨lw_p25, List.forall_mem_cons.mpr ⟨lw_p26, List.forall_mem_cons.mpr ⟨lw_p27, List.forall_mem_cons.mpr ⟨lw_p28, List.forall_mem_cons.mpr ⟨lw_p29, List.forall_mem_cons.mpr ⟨lw_p30, List.forall_mem_cons.mpr ⟨lw_p31, fun _ h => absurd h List.not_mem_nil⟩⟩⟩⟩⟩⟩⟩⟩⟩⟩⟩⟩⟩⟩⟩⟩
theorem lw_p32 : lw_okq (⟨"ColdLineModel", "expect", "(Ljava/lang/String;)V"⟩, 55) := ⟨⟨by decide +kernel, by decide +kernel⟩, List.mem_of_getElem? (i := 758) (by decide +kernel), List.mem_of_getElem? (i := 1058) (by decide +kernel), List.mem_of_getElem? (i := 1059) (by decide +kernel)⟩
theorem lw_p33 : lw_okq (⟨"ColdLineModel", "number", "()I"⟩, 55) := ⟨⟨by decide +kernel, by decide +kernel⟩, List.mem_of_getElem? (i := 758) (by decide +kernel), List.mem_of_getElem? (i := 1064) (by decide +kernel), List.mem_of_getElem? (i := 1065) (by decide +kernel)⟩
theorem lw_p34 : lw_okq (⟨"ColdLineModel", "fieldNow", "()I"⟩, 55) := ⟨⟨by decide +kernel, by decide +kernel⟩, List.mem_of_getElem? (i := 758) (by decide +kernel), List.mem_of_getElem? (i := 1070) (by decide +kernel), List.mem_of_getElem? (i := 1071) (by decide +kernel)⟩
theorem lw_p35 : lw_okq (⟨"ColdLineModel", "gangsRest", "()V"⟩, 55) := ⟨⟨by decide +kernel, by decide +kernel⟩, List.mem_of_getElem? (i := 758) (by decide +kernel), List.mem_of_getElem? (i := 1083) (by decide +kernel), List.mem_of_getElem? (i := 1084) (by decide +kernel)⟩
theorem lw_p36 : lw_okq (⟨"ColdLineModel", "lives", "(III)Z"⟩, 55) := ⟨⟨by decide +kernel, by decide +kernel⟩, List.mem_of_getElem? (i := 758) (by decide +kernel), List.mem_of_getElem? (i := 1087) (by decide +kernel), List.mem_of_getElem? (i := 1088) (by decide +kernel)⟩
theorem lw_p37 : lw_okq (⟨"ColdLineModel", "obeys", "(III)V"⟩, 55) := ⟨⟨by decide +kernel, by decide +kernel⟩, List.mem_of_getElem? (i := 758) (by decide +kernel), List.mem_of_getElem? (i := 1091) (by decide +kernel), List.mem_of_getElem? (i := 1092) (by decide +kernel)⟩
theorem lw_p38 : lw_okq (⟨"ColdLineModel", "holds", "(IIIII)Z"⟩, 55) := ⟨⟨by decide +kernel, by decide +kernel⟩, List.mem_of_getElem? (i := 758) (by decide +kernel), List.mem_of_getElem? (i := 1095) (by decide +kernel), List.mem_of_getElem? (i := 1096) (by decide +kernel)⟩
theorem lw_p39 : lw_okq (⟨"ColdLineModel", "outside", "(II)I"⟩, 55) := ⟨⟨by decide +kernel, by decide +kernel⟩, List.mem_of_getElem? (i := 758) (by decide +kernel), List.mem_of_getElem? (i := 1099) (by decide +kernel), List.mem_of_getElem? (i := 1100) (by decide +kernel)⟩
theorem lw_p40 : lw_okq (⟨"ColdLineModel", "loses", "(I)I"⟩, 55) := ⟨⟨by decide +kernel, by decide +kernel⟩, List.mem_of_getElem? (i := 758) (by decide +kernel), List.mem_of_getElem? (i := 1103) (by decide +kernel), List.mem_of_getElem? (i := 1104) (by decide +kernel)⟩
theorem lw_p41 : lw_okq (⟨"ColdLineModel", "lossAt", "(I)I"⟩, 55) := ⟨⟨by decide +kernel, by decide +kernel⟩, List.mem_of_getElem? (i := 758) (by decide +kernel), List.mem_of_getElem? (i := 1107) (by decide +kernel), List.mem_of_getElem? (i := 1108) (by decide +kernel)⟩
theorem lw_p42 : lw_okq (⟨"ColdLineModel", "brings", "(II)I"⟩, 55) := ⟨⟨by decide +kernel, by decide +kernel⟩, List.mem_of_getElem? (i := 758) (by decide +kernel), List.mem_of_getElem? (i := 1115) (by decide +kernel), List.mem_of_getElem? (i := 1116) (by decide +kernel)⟩
theorem lw_p43 : lw_okq (⟨"ColdLineModel", "soldLately", "(I)I"⟩, 55) := ⟨⟨by decide +kernel, by decide +kernel⟩, List.mem_of_getElem? (i := 758) (by decide +kernel), List.mem_of_getElem? (i := 1120) (by decide +kernel), List.mem_of_getElem? (i := 1121) (by decide +kernel)⟩
theorem lw_p44 : lw_okq (⟨"ColdLineModel", "mayTry", "(II)Z"⟩, 55) := ⟨⟨by decide +kernel, by decide +kernel⟩, List.mem_of_getElem? (i := 758) (by decide +kernel), List.mem_of_getElem? (i := 1128) (by decide +kernel), List.mem_of_getElem? (i := 1129) (by decide +kernel)⟩
theorem lw_p45 : lw_okq (⟨"ColdLineModel", "tried", "(II)I"⟩, 55) := ⟨⟨by decide +kernel, by decide +kernel⟩, List.mem_of_getElem? (i := 758) (by decide +kernel), List.mem_of_getElem? (i := 1132) (by decide +kernel), List.mem_of_getElem? (i := 1133) (by decide +kernel)⟩
def lw_privs_3 : List (MethodName × Nat) := [(⟨"ColdLineModel", "expect", "(Ljava/lang/String;)V"⟩, 55), (⟨"ColdLineModel", "number", "()I"⟩, 55), (⟨"ColdLineModel", "fieldNow", "()I"⟩, 55), (⟨"ColdLineModel", "gangsRest", "()V"⟩, 55), (⟨"ColdLineModel", "lives", "(III)Z"⟩, 55), (⟨"ColdLineModel", "obeys", "(III)V"⟩, 55), (⟨"ColdLineModel", "holds", "(IIIII)Z"⟩, 55), (⟨"ColdLineModel", "outside", "(II)I"⟩, 55), (⟨"ColdLineModel", "loses", "(I)I"⟩, 55), (⟨"ColdLineModel", "lossAt", "(I)I"⟩, 55), (⟨"ColdLineModel", "brings", "(II)I"⟩, 55), (⟨"ColdLineModel", "soldLately", "(I)I"⟩, 55), (⟨"ColdLineModel", "mayTry", "(II)Z"⟩, 55), (⟨"ColdLineModel", "tried", "(II)I"⟩, 55)]
theorem lw_r3 : ∀ q ∈ lw_privs_3, lw_okq q := List.forall_mem_cons.mpr ⟨lw_p32, List.forall_mem_cons.mpr ⟨lw_p33, List.forall_mem_cons.mpr ⟨lw_p34, List.forall_mem_cons.mpr ⟨lw_p35, List.forall_mem_cons.mpr ⟨lw_p36, List.forall_mem_cons.mpr ⟨lw_p37, List.forall_mem_cons.mpr ⟨lw_p38, List.forall_mem_cons.mpr ⟨lw_p39, List.forall_mem_cons.mpr ⟨lw_p40, List.forall_mem_cons.mpr ⟨lw_p41, List.forall_mem_cons.mpr ⟨lw_p42, List.forall_mem_cons.mpr ⟨lw_p43, List.forall_mem_cons.mpr ⟨lw_p44, List.forall_mem_cons.mpr ⟨lw_p45, fun _ h => absurd h List.not_mem_nil⟩⟩⟩⟩⟩⟩⟩⟩⟩⟩⟩⟩⟩⟩
def lw_privs : List (MethodName × Nat) := lw_privs_1 ++ (lw_privs_2 ++ (lw_privs_3))
def lw_tbl : List Cond := k2_sels lw_privs ++ tables_1
theorem lw_privs_ok : ∀ q ∈ lw_privs, lw_okq q := by
  show ∀ q ∈ lw_privs_1 ++ (lw_privs_2 ++ (lw_privs_3)), lw_okq q
  exact List.forall_mem_append.mpr ⟨lw_r1, List.forall_mem_append.mpr ⟨lw_r2, lw_r3⟩⟩
def RX0 : String := "ColdLine$Car"
def TX0 : u_T := fun k => match k with
  | 0 => ("ColdLine$Car", "tiers", "[LColdLine$Tier;", true)
  | 1 => ("ColdLine$Car", "claims", "[I", true)
  | 2 => ("ColdLine$Car", "number", "I", false)
  | 3 => ("ColdLine$Car", "leak", "I", false)
  | 4 => ("ColdLine$Car", "ice", "I", false)
  | 5 => ("ColdLine$Car", "vent", "I", false)
  | 6 => ("ColdLine$Car", "station", "I", false)
  | 7 => ("ColdLine$Car", "end", "I", false)
  | 8 => ("ColdLine$Car", "hoursOfLeg", "I", false)
  | 9 => ("ColdLine$Car", "hoursToStand", "I", false)
  | 10 => ("ColdLine$Car", "shortInAll", "I", false)
  | 11 => ("ColdLine$Car", "isShort", "Z", false)
  | 12 => ("ColdLine$Car", "hasCome", "Z", false)
  | _ => ("ColdLine$Car", "wasSent", "Z", false)
def tyX0 : Nat → FieldType := fun k => match k with
  | 0 => .array (.object "ColdLine$Tier")
  | 1 => .array .int
  | 2 => .int
  | 3 => .int
  | 4 => .int
  | 5 => .int
  | 6 => .int
  | 7 => .int
  | 8 => .int
  | 9 => .int
  | 10 => .int
  | 11 => .boolean
  | 12 => .boolean
  | _ => .boolean
abbrev wsX00 : List Cond := u_ws RX0 TX0 14
theorem nmX0 : ∀ a, a < 14 → ∀ b, b < 14 → a ≠ b → (TX0 a).2.1 ≠ (TX0 b).2.1 := by decide +kernel
theorem tyX0_ok : ∀ k, k < 14 → parseFieldDescriptor (TX0 k).2.2.1 = some (tyX0 k) := by decide +kernel
abbrev cX0_init : ByteArray := prog_2_method_1_code
def yX0_init : MethodName := ⟨RX0, "<init>", "(I)V"⟩
abbrev cX0_begin : ByteArray := prog_2_method_2_code
def yX0_begin : MethodName := ⟨RX0, "begin", "(III)V"⟩
abbrev cX0_goes : ByteArray := prog_2_method_3_code
def yX0_goes : MethodName := ⟨RX0, "goes", "()Z"⟩
abbrev cX0_isOnLeg : ByteArray := prog_2_method_4_code
def yX0_isOnLeg : MethodName := ⟨RX0, "isOnLeg", "()Z"⟩
abbrev cX0_nextStation : ByteArray := prog_2_method_5_code
def yX0_nextStation : MethodName := ⟨RX0, "nextStation", "()I"⟩
abbrev cX0_canHeadFor : ByteArray := prog_2_method_6_code
def yX0_canHeadFor : MethodName := ⟨RX0, "canHeadFor", "(I)Z"⟩
abbrev cX0_setOff : ByteArray := prog_2_method_7_code
def yX0_setOff : MethodName := ⟨RX0, "setOff", "(II)V"⟩
abbrev cX0_greatestHeat : ByteArray := prog_2_method_8_code
def yX0_greatestHeat : MethodName := ⟨RX0, "greatestHeat", "()I"⟩
abbrev cX0_useIce : ByteArray := prog_2_method_9_code
def yX0_useIce : MethodName := ⟨RX0, "useIce", "()I"⟩
abbrev cX0_warmTiers : ByteArray := prog_2_method_10_code
def yX0_warmTiers : MethodName := ⟨RX0, "warmTiers", "(II[I)I"⟩
abbrev cX0_addClaim : ByteArray := prog_2_method_11_code
def yX0_addClaim : MethodName := ⟨RX0, "addClaim", "(I)V"⟩
abbrev cX0_priceOfLoads : ByteArray := prog_2_method_12_code
def yX0_priceOfLoads : MethodName := ⟨RX0, "priceOfLoads", "(I)I"⟩
abbrev cX0_unload : ByteArray := prog_2_method_13_code
def yX0_unload : MethodName := ⟨RX0, "unload", "()V"⟩
abbrev cX0_becomeLike : ByteArray := prog_2_method_14_code
def yX0_becomeLike : MethodName := ⟨RX0, "becomeLike", "(LColdLine$Car;)V"⟩
def RX1 : String := "ColdLine$Ice"
def TX1 : u_T := fun k => match k with
  | 0 => ("ColdLine$Ice", "stocks", "[I", true)
  | 1 => ("ColdLine$Ice", "putInThisHour", "[I", true)
  | 2 => ("ColdLine$Ice", "putInAll", "I", false)
  | _ => ("ColdLine$Ice", "usedInAll", "I", false)
def tyX1 : Nat → FieldType := fun k => match k with
  | 0 => .array .int
  | 1 => .array .int
  | 2 => .int
  | _ => .int
abbrev wsX10 : List Cond := u_ws RX1 TX1 4
theorem nmX1 : ∀ a, a < 4 → ∀ b, b < 4 → a ≠ b → (TX1 a).2.1 ≠ (TX1 b).2.1 := by decide +kernel
theorem tyX1_ok : ∀ k, k < 4 → parseFieldDescriptor (TX1 k).2.2.1 = some (tyX1 k) := by decide +kernel
abbrev cX1_init : ByteArray := prog_3_method_1_code
def yX1_init : MethodName := ⟨RX1, "<init>", "()V"⟩
abbrev cX1_beginHour : ByteArray := prog_3_method_2_code
def yX1_beginHour : MethodName := ⟨RX1, "beginHour", "()V"⟩
abbrev cX1_putIn : ByteArray := prog_3_method_3_code
def yX1_putIn : MethodName := ⟨RX1, "putIn", "(LColdLine$Car;I)V"⟩
abbrev cX1_giveByGang : ByteArray := prog_3_method_4_code
def yX1_giveByGang : MethodName := ⟨RX1, "giveByGang", "(LColdLine$Car;II)I"⟩
abbrev cX1_becomeLike : ByteArray := prog_3_method_5_code
def yX1_becomeLike : MethodName := ⟨RX1, "becomeLike", "(LColdLine$Ice;)V"⟩
def RX2 : String := "ColdLine$Row"
def TX2 : u_T := fun k => match k with
  | 0 => ("ColdLine$Row", "numbers", "[I", true)
  | _ => ("ColdLine$Row", "isThere", "Z", false)
def tyX2 : Nat → FieldType := fun k => match k with
  | 0 => .array .int
  | _ => .boolean
abbrev wsX20 : List Cond := u_ws RX2 TX2 2
theorem nmX2 : ∀ a, a < 2 → ∀ b, b < 2 → a ≠ b → (TX2 a).2.1 ≠ (TX2 b).2.1 := by decide +kernel
theorem tyX2_ok : ∀ k, k < 2 → parseFieldDescriptor (TX2 k).2.2.1 = some (tyX2 k) := by decide +kernel
abbrev cX2_init : ByteArray := prog_4_method_1_code
def yX2_init : MethodName := ⟨RX2, "<init>", "()V"⟩
abbrev cX2_put : ByteArray := prog_4_method_2_code
def yX2_put : MethodName := ⟨RX2, "put", "(II)V"⟩
def RX3 : String := "ColdLine$Rule"
def TX3 : u_T := fun k => match k with
  | 0 => ("ColdLine$Rule", "fields", "[I", true)
  | 1 => ("ColdLine$Rule", "signs", "[I", true)
  | 2 => ("ColdLine$Rule", "bounds", "[I", true)
  | 3 => ("ColdLine$Rule", "vents", "Z", false)
  | 4 => ("ColdLine$Rule", "number", "I", false)
  | 5 => ("ColdLine$Rule", "tests", "I", false)
  | 6 => ("ColdLine$Rule", "from", "I", false)
  | _ => ("ColdLine$Rule", "to", "I", false)
def tyX3 : Nat → FieldType := fun k => match k with
  | 0 => .array .int
  | 1 => .array .int
  | 2 => .array .int
  | 3 => .boolean
  | 4 => .int
  | 5 => .int
  | 6 => .int
  | _ => .int
abbrev wsX30 : List Cond := u_ws RX3 TX3 8
theorem nmX3 : ∀ a, a < 8 → ∀ b, b < 8 → a ≠ b → (TX3 a).2.1 ≠ (TX3 b).2.1 := by decide +kernel
theorem tyX3_ok : ∀ k, k < 8 → parseFieldDescriptor (TX3 k).2.2.1 = some (tyX3 k) := by decide +kernel
abbrev cX3_init : ByteArray := prog_5_method_1_code
def yX3_init : MethodName := ⟨RX3, "<init>", "()V"⟩
abbrev cX3_holds : ByteArray := prog_5_method_2_code
def yX3_holds : MethodName := ⟨RX3, "holds", "([II)Z"⟩
abbrev cX3_isSo : ByteArray := prog_5_method_3_code
def yX3_isSo : MethodName := ⟨RX3, "isSo", "(III)Z"⟩
def RX4 : String := "ColdLine$Station"
def TX4 : u_T := fun k => match k with
  | 0 => ("ColdLine$Station", "told", "[I", true)
  | 1 => ("ColdLine$Station", "withoutGaps", "[I", true)
  | 2 => ("ColdLine$Station", "saleHours", "[I", true)
  | 3 => ("ColdLine$Station", "saleCounts", "[I", true)
  | 4 => ("ColdLine$Station", "gang", "I", false)
  | 5 => ("ColdLine$Station", "price", "I", false)
  | 6 => ("ColdLine$Station", "late", "I", false)
  | _ => ("ColdLine$Station", "legBehind", "I", false)
def tyX4 : Nat → FieldType := fun k => match k with
  | 0 => .array .int
  | 1 => .array .int
  | 2 => .array .int
  | 3 => .array .int
  | 4 => .int
  | 5 => .int
  | 6 => .int
  | _ => .int
abbrev wsX40 : List Cond := u_ws RX4 TX4 8
theorem nmX4 : ∀ a, a < 8 → ∀ b, b < 8 → a ≠ b → (TX4 a).2.1 ≠ (TX4 b).2.1 := by decide +kernel
theorem tyX4_ok : ∀ k, k < 8 → parseFieldDescriptor (TX4 k).2.2.1 = some (tyX4 k) := by decide +kernel
abbrev cX4_init : ByteArray := prog_6_method_1_code
def yX4_init : MethodName := ⟨RX4, "<init>", "()V"⟩
abbrev cX4_weatherIn : ByteArray := prog_6_method_2_code
def yX4_weatherIn : MethodName := ⟨RX4, "weatherIn", "(I)I"⟩
abbrev cX4_closeGaps : ByteArray := prog_6_method_3_code
def yX4_closeGaps : MethodName := ⟨RX4, "closeGaps", "()V"⟩
abbrev cX4_noteSale : ByteArray := prog_6_method_4_code
def yX4_noteSale : MethodName := ⟨RX4, "noteSale", "(I)V"⟩
abbrev cX4_salesOfLatestHours : ByteArray := prog_6_method_5_code
def yX4_salesOfLatestHours : MethodName := ⟨RX4, "salesOfLatestHours", "(I)I"⟩
abbrev cX4_bringsNow : ByteArray := prog_6_method_6_code
def yX4_bringsNow : MethodName := ⟨RX4, "bringsNow", "(LColdLine$Car;I)I"⟩
def RX5 : String := "ColdLine$Tape"
def TX5 : u_T := fun k => match k with
  | 0 => ("ColdLine$Tape", "bytes", "[I", true)
  | 1 => ("ColdLine$Tape", "length", "I", false)
  | _ => ("ColdLine$Tape", "place", "I", false)
def tyX5 : Nat → FieldType := fun k => match k with
  | 0 => .array .int
  | 1 => .int
  | _ => .int
abbrev wsX50 : List Cond := u_ws RX5 TX5 3
theorem nmX5 : ∀ a, a < 3 → ∀ b, b < 3 → a ≠ b → (TX5 a).2.1 ≠ (TX5 b).2.1 := by decide +kernel
theorem tyX5_ok : ∀ k, k < 3 → parseFieldDescriptor (TX5 k).2.2.1 = some (tyX5 k) := by decide +kernel
abbrev cX5_init : ByteArray := prog_7_method_1_code
def yX5_init : MethodName := ⟨RX5, "<init>", "()V"⟩
abbrev cX5_readRule : ByteArray := prog_7_method_2_code
def yX5_readRule : MethodName := ⟨RX5, "readRule", "(LColdLine$Rule;)I"⟩
abbrev cX5_takeHead : ByteArray := prog_7_method_3_code
def yX5_takeHead : MethodName := ⟨RX5, "takeHead", "(LColdLine$Rule;)Z"⟩
abbrev cX5_takeTest : ByteArray := prog_7_method_4_code
def yX5_takeTest : MethodName := ⟨RX5, "takeTest", "(LColdLine$Rule;)Z"⟩
abbrev cX5_nextByte : ByteArray := prog_7_method_5_code
def yX5_nextByte : MethodName := ⟨RX5, "nextByte", "()I"⟩
abbrev cX5_takeWord : ByteArray := prog_7_method_6_code
def yX5_takeWord : MethodName := ⟨RX5, "takeWord", "(Ljava/lang/String;)Z"⟩
abbrev cX5_takeNumber : ByteArray := prog_7_method_7_code
def yX5_takeNumber : MethodName := ⟨RX5, "takeNumber", "()I"⟩
abbrev cX5_isDigit : ByteArray := prog_7_method_8_code
def yX5_isDigit : MethodName := ⟨RX5, "isDigit", "(I)Z"⟩
abbrev cX5_fieldThatBegins : ByteArray := prog_7_method_9_code
def yX5_fieldThatBegins : MethodName := ⟨RX5, "fieldThatBegins", "(I)I"⟩
abbrev cX5_wordOf : ByteArray := prog_7_method_10_code
def yX5_wordOf : MethodName := ⟨RX5, "wordOf", "(I)Ljava/lang/String;"⟩
def RX6 : String := "ColdLine$Tier"
def TX6 : u_T := fun k => match k with
  | 0 => ("ColdLine$Tier", "heat", "I", false)
  | 1 => ("ColdLine$Tier", "kind", "I", false)
  | 2 => ("ColdLine$Tier", "baskets", "I", false)
  | 3 => ("ColdLine$Tier", "life", "I", false)
  | 4 => ("ColdLine$Tier", "ripe", "I", false)
  | _ => ("ColdLine$Tier", "isOnceNext", "Z", false)
def tyX6 : Nat → FieldType := fun k => match k with
  | 0 => .int
  | 1 => .int
  | 2 => .int
  | 3 => .int
  | 4 => .int
  | _ => .boolean
abbrev wsX60 : List Cond := u_ws RX6 TX6 6
theorem nmX6 : ∀ a, a < 6 → ∀ b, b < 6 → a ≠ b → (TX6 a).2.1 ≠ (TX6 b).2.1 := by decide +kernel
theorem tyX6_ok : ∀ k, k < 6 → parseFieldDescriptor (TX6 k).2.2.1 = some (tyX6 k) := by decide +kernel
abbrev cX6_init : ByteArray := prog_8_method_1_code
def yX6_init : MethodName := ⟨RX6, "<init>", "()V"⟩
abbrev cX6_isLoaded : ByteArray := prog_8_method_2_code
def yX6_isLoaded : MethodName := ⟨RX6, "isLoaded", "()Z"⟩
abbrev cX6_putOn : ByteArray := prog_8_method_3_code
def yX6_putOn : MethodName := ⟨RX6, "putOn", "(IIII)V"⟩
abbrev cX6_takeOff : ByteArray := prog_8_method_4_code
def yX6_takeOff : MethodName := ⟨RX6, "takeOff", "()V"⟩
abbrev cX6_ofLoad : ByteArray := prog_8_method_5_code
def yX6_ofLoad : MethodName := ⟨RX6, "ofLoad", "(I)I"⟩
abbrev cX6_liveHour : ByteArray := prog_8_method_6_code
def yX6_liveHour : MethodName := ⟨RX6, "liveHour", "([I)I"⟩
abbrev cX6_lossOfHour : ByteArray := prog_8_method_7_code
def yX6_lossOfHour : MethodName := ⟨RX6, "lossOfHour", "([I)I"⟩
abbrev cX6_ripen : ByteArray := prog_8_method_8_code
def yX6_ripen : MethodName := ⟨RX6, "ripen", "()Z"⟩
abbrev cX6_lossAt : ByteArray := prog_8_method_9_code
def yX6_lossAt : MethodName := ⟨RX6, "lossAt", "(I[I)I"⟩
abbrev cX6_becomeLike : ByteArray := prog_8_method_10_code
def yX6_becomeLike : MethodName := ⟨RX6, "becomeLike", "(LColdLine$Tier;)V"⟩
def RX7 : String := "ColdLine"
def TX7 : u_T := fun k => match k with
  | 0 => ("ColdLine", "stations", "[LColdLine$Station;", true)
  | 1 => ("ColdLine", "cars", "[LColdLine$Car;", true)
  | 2 => ("ColdLine", "rules", "[LColdLine$Rule;", true)
  | 3 => ("ColdLine", "tape", "LColdLine$Tape;", true)
  | 4 => ("ColdLine", "theRow", "LColdLine$Row;", true)
  | 5 => ("ColdLine", "ice", "LColdLine$Ice;", true)
  | 6 => ("ColdLine", "losses", "[I", true)
  | 7 => ("ColdLine", "facts", "[I", true)
  | 8 => ("ColdLine", "refusals", "[I", true)
  | 9 => ("ColdLine", "trialCar", "LColdLine$Car;", true)
  | 10 => ("ColdLine", "trialIce", "LColdLine$Ice;", true)
  | 11 => ("ColdLine", "stationCount", "I", false)
  | 12 => ("ColdLine", "carCount", "I", false)
  | 13 => ("ColdLine", "ruleCount", "I", false)
  | 14 => ("ColdLine", "openHour", "I", false)
  | 15 => ("ColdLine", "soldCount", "I", false)
  | _ => ("ColdLine", "broughtInAll", "I", false)
def tyX7 : Nat → FieldType := fun k => match k with
  | 0 => .array (.object "ColdLine$Station")
  | 1 => .array (.object "ColdLine$Car")
  | 2 => .array (.object "ColdLine$Rule")
  | 3 => .object "ColdLine$Tape"
  | 4 => .object "ColdLine$Row"
  | 5 => .object "ColdLine$Ice"
  | 6 => .array .int
  | 7 => .array .int
  | 8 => .array .int
  | 9 => .object "ColdLine$Car"
  | 10 => .object "ColdLine$Ice"
  | 11 => .int
  | 12 => .int
  | 13 => .int
  | 14 => .int
  | 15 => .int
  | _ => .int
abbrev wsX70 : List Cond := u_ws RX7 TX7 17
theorem nmX7 : ∀ a, a < 17 → ∀ b, b < 17 → a ≠ b → (TX7 a).2.1 ≠ (TX7 b).2.1 := by decide +kernel
theorem tyX7_ok : ∀ k, k < 17 → parseFieldDescriptor (TX7 k).2.2.1 = some (tyX7 k) := by decide +kernel
abbrev cX7_init : ByteArray := prog_1_method_1_code
def yX7_init : MethodName := ⟨RX7, "<init>", "()V"⟩
abbrev cX7_station : ByteArray := prog_1_method_2_code
def yX7_station : MethodName := ⟨RX7, "station", "(I)I"⟩
abbrev cX7_stock : ByteArray := prog_1_method_3_code
def yX7_stock : MethodName := ⟨RX7, "stock", "(II)I"⟩
abbrev cX7_gang : ByteArray := prog_1_method_4_code
def yX7_gang : MethodName := ⟨RX7, "gang", "(II)I"⟩
abbrev cX7_price : ByteArray := prog_1_method_5_code
def yX7_price : MethodName := ⟨RX7, "price", "(II)I"⟩
abbrev cX7_weather : ByteArray := prog_1_method_6_code
def yX7_weather : MethodName := ⟨RX7, "weather", "(III)I"⟩
abbrev cX7_read : ByteArray := prog_1_method_7_code
def yX7_read : MethodName := ⟨RX7, "read", "(I)I"⟩
abbrev cX7_out : ByteArray := prog_1_method_8_code
def yX7_out : MethodName := ⟨RX7, "out", "(II)I"⟩
abbrev cX7_loss : ByteArray := prog_1_method_9_code
def yX7_loss : MethodName := ⟨RX7, "loss", "(II)I"⟩
abbrev cX7_car : ByteArray := prog_1_method_10_code
def yX7_car : MethodName := ⟨RX7, "car", "(III)I"⟩
abbrev cX7_load : ByteArray := prog_1_method_11_code
def yX7_load : MethodName := ⟨RX7, "load", "(IIIIII)I"⟩
abbrev cX7_tier : ByteArray := prog_1_method_12_code
def yX7_tier : MethodName := ⟨RX7, "tier", "(III)I"⟩
abbrev cX7_fill : ByteArray := prog_1_method_13_code
def yX7_fill : MethodName := ⟨RX7, "fill", "(II)I"⟩
abbrev cX7_vent : ByteArray := prog_1_method_14_code
def yX7_vent : MethodName := ⟨RX7, "vent", "(II)I"⟩
abbrev cX7_send : ByteArray := prog_1_method_15_code
def yX7_send : MethodName := ⟨RX7, "send", "(II)I"⟩
abbrev cX7_turn : ByteArray := prog_1_method_16_code
def yX7_turn : MethodName := ⟨RX7, "turn", "(II)I"⟩
abbrev cX7_late : ByteArray := prog_1_method_17_code
def yX7_late : MethodName := ⟨RX7, "late", "(II)I"⟩
abbrev cX7_look : ByteArray := prog_1_method_18_code
def yX7_look : MethodName := ⟨RX7, "look", "(II)I"⟩
abbrev cX7_feed : ByteArray := prog_1_method_19_code
def yX7_feed : MethodName := ⟨RX7, "feed", "(II)I"⟩
abbrev cX7_wipe : ByteArray := prog_1_method_20_code
def yX7_wipe : MethodName := ⟨RX7, "wipe", "()I"⟩
abbrev cX7_rule : ByteArray := prog_1_method_21_code
def yX7_rule : MethodName := ⟨RX7, "rule", "(II)I"⟩
abbrev cX7_run : ByteArray := prog_1_method_22_code
def yX7_run : MethodName := ⟨RX7, "run", "(I)I"⟩
abbrev cX7_sell : ByteArray := prog_1_method_23_code
def yX7_sell : MethodName := ⟨RX7, "sell", "(I)I"⟩
abbrev cX7_worth : ByteArray := prog_1_method_24_code
def yX7_worth : MethodName := ⟨RX7, "worth", "(II)I"⟩
abbrev cX7_best : ByteArray := prog_1_method_25_code
def yX7_best : MethodName := ⟨RX7, "best", "(I)I"⟩
abbrev cX7_claim : ByteArray := prog_1_method_26_code
def yX7_claim : MethodName := ⟨RX7, "claim", "(II)I"⟩
abbrev cX7_count : ByteArray := prog_1_method_27_code
def yX7_count : MethodName := ⟨RX7, "count", "(I)I"⟩
abbrev cX7_at : ByteArray := prog_1_method_28_code
def yX7_at : MethodName := ⟨RX7, "at", "(II)I"⟩
abbrev cX7_tell : ByteArray := prog_1_method_29_code
def yX7_tell : MethodName := ⟨RX7, "tell", "(II)I"⟩
abbrev cX7_tear : ByteArray := prog_1_method_30_code
def yX7_tear : MethodName := ⟨RX7, "tear", "()I"⟩
abbrev cX7_row : ByteArray := prog_1_method_31_code
def yX7_row : MethodName := ⟨RX7, "row", "(I)I"⟩
abbrev cX7_copy : ByteArray := prog_1_method_32_code
def yX7_copy : MethodName := ⟨RX7, "copy", "(III)I"⟩
abbrev cX7_status : ByteArray := prog_1_method_33_code
def yX7_status : MethodName := ⟨RX7, "status", "(I)I"⟩
abbrev cX7_refuse : ByteArray := prog_1_method_34_code
def yX7_refuse : MethodName := ⟨RX7, "refuse", "(I)I"⟩
abbrev cX7_refuseByZero : ByteArray := prog_1_method_35_code
def yX7_refuseByZero : MethodName := ⟨RX7, "refuseByZero", "(I)I"⟩
abbrev cX7_isStation : ByteArray := prog_1_method_36_code
def yX7_isStation : MethodName := ⟨RX7, "isStation", "(I)Z"⟩
abbrev cX7_isCar : ByteArray := prog_1_method_37_code
def yX7_isCar : MethodName := ⟨RX7, "isCar", "(I)Z"⟩
abbrev cX7_within : ByteArray := prog_1_method_38_code
def yX7_within : MethodName := ⟨RX7, "within", "(III)Z"⟩
abbrev cX7_isHeat : ByteArray := prog_1_method_39_code
def yX7_isHeat : MethodName := ⟨RX7, "isHeat", "(I)Z"⟩
abbrev cX7_legBetween : ByteArray := prog_1_method_40_code
def yX7_legBetween : MethodName := ⟨RX7, "legBetween", "(II)I"⟩
abbrev cX7_hoursLeft : ByteArray := prog_1_method_41_code
def yX7_hoursLeft : MethodName := ⟨RX7, "hoursLeft", "(LColdLine$Car;)I"⟩
abbrev cX7_outsideOf : ByteArray := prog_1_method_42_code
def yX7_outsideOf : MethodName := ⟨RX7, "outsideOf", "(LColdLine$Car;I)I"⟩
abbrev cX7_passHour : ByteArray := prog_1_method_43_code
def yX7_passHour : MethodName := ⟨RX7, "passHour", "(LColdLine$Car;LColdLine$Ice;I)Z"⟩
abbrev cX7_obeyRules : ByteArray := prog_1_method_44_code
def yX7_obeyRules : MethodName := ⟨RX7, "obeyRules", "(LColdLine$Car;LColdLine$Ice;II)V"⟩
abbrev cX7_lastThatHolds : ByteArray := prog_1_method_45_code
def yX7_lastThatHolds : MethodName := ⟨RX7, "lastThatHolds", "(ZI)I"⟩
abbrev cX7_moveOn : ByteArray := prog_1_method_46_code
def yX7_moveOn : MethodName := ⟨RX7, "moveOn", "(LColdLine$Car;)Z"⟩
abbrev cX7_couldSellAt : ByteArray := prog_1_method_47_code
def yX7_couldSellAt : MethodName := ⟨RX7, "couldSellAt", "(LColdLine$Car;I)Z"⟩
abbrev cX7_tryOut : ByteArray := prog_1_method_48_code
def yX7_tryOut : MethodName := ⟨RX7, "tryOut", "(LColdLine$Car;I)I"⟩
def RX8 : String := "ColdLineModel"
def TX8 : u_T := fun k => match k with
  | 0 => ("ColdLineModel", "hour", "I", false)
  | 1 => ("ColdLineModel", "stations", "I", false)
  | 2 => ("ColdLineModel", "cars", "I", false)
  | 3 => ("ColdLineModel", "rules", "I", false)
  | 4 => ("ColdLineModel", "tapeN", "I", false)
  | 5 => ("ColdLineModel", "putIn", "I", false)
  | 6 => ("ColdLineModel", "usedAll", "I", false)
  | 7 => ("ColdLineModel", "soldAll", "I", false)
  | 8 => ("ColdLineModel", "brought", "I", false)
  | 9 => ("ColdLineModel", "leg", "[I", true)
  | 10 => ("ColdLineModel", "stock", "[I", true)
  | 11 => ("ColdLineModel", "gang", "[I", true)
  | 12 => ("ColdLineModel", "price", "[I", true)
  | 13 => ("ColdLineModel", "late", "[I", true)
  | 14 => ("ColdLineModel", "gangUsed", "[I", true)
  | 15 => ("ColdLineModel", "weather", "[I", true)
  | 16 => ("ColdLineModel", "table", "[I", true)
  | 17 => ("ColdLineModel", "leak", "[I", true)
  | 18 => ("ColdLineModel", "ice", "[I", true)
  | 19 => ("ColdLineModel", "vent", "[I", true)
  | 20 => ("ColdLineModel", "place", "[I", true)
  | 21 => ("ColdLineModel", "to", "[I", true)
  | 22 => ("ColdLineModel", "left", "[I", true)
  | 23 => ("ColdLineModel", "end", "[I", true)
  | 24 => ("ColdLineModel", "stand", "[I", true)
  | 25 => ("ColdLineModel", "shortAll", "[I", true)
  | 26 => ("ColdLineModel", "shortNow", "[I", true)
  | 27 => ("ColdLineModel", "come", "[Z", true)
  | 28 => ("ColdLineModel", "claims", "[Z", true)
  | 29 => ("ColdLineModel", "claim", "[I", true)
  | 30 => ("ColdLineModel", "heat", "[I", true)
  | 31 => ("ColdLineModel", "kind", "[I", true)
  | 32 => ("ColdLineModel", "baskets", "[I", true)
  | 33 => ("ColdLineModel", "life", "[I", true)
  | 34 => ("ColdLineModel", "ripe", "[I", true)
  | 35 => ("ColdLineModel", "lived", "[I", true)
  | 36 => ("ColdLineModel", "soldAt", "[I", true)
  | 37 => ("ColdLineModel", "soldHour", "[I", true)
  | 38 => ("ColdLineModel", "soldN", "I", false)
  | 39 => ("ColdLineModel", "rKey", "[I", true)
  | 40 => ("ColdLineModel", "rNumber", "[I", true)
  | 41 => ("ColdLineModel", "rFrom", "[I", true)
  | 42 => ("ColdLineModel", "rTo", "[I", true)
  | 43 => ("ColdLineModel", "rTests", "[I", true)
  | 44 => ("ColdLineModel", "tField", "[I", true)
  | 45 => ("ColdLineModel", "tSign", "[I", true)
  | 46 => ("ColdLineModel", "tValue", "[I", true)
  | 47 => ("ColdLineModel", "tape", "[I", true)
  | 48 => ("ColdLineModel", "row", "[I", true)
  | 49 => ("ColdLineModel", "moved", "[I", true)
  | 50 => ("ColdLineModel", "told", "[I", true)
  | 51 => ("ColdLineModel", "there", "Z", false)
  | 52 => ("ColdLineModel", "at", "I", false)
  | 53 => ("ColdLineModel", "fault", "I", false)
  | _ => ("ColdLineModel", "keptStock", "[I", true)
def tyX8 : Nat → FieldType := fun k => match k with
  | 0 => .int
  | 1 => .int
  | 2 => .int
  | 3 => .int
  | 4 => .int
  | 5 => .int
  | 6 => .int
  | 7 => .int
  | 8 => .int
  | 9 => .array .int
  | 10 => .array .int
  | 11 => .array .int
  | 12 => .array .int
  | 13 => .array .int
  | 14 => .array .int
  | 15 => .array .int
  | 16 => .array .int
  | 17 => .array .int
  | 18 => .array .int
  | 19 => .array .int
  | 20 => .array .int
  | 21 => .array .int
  | 22 => .array .int
  | 23 => .array .int
  | 24 => .array .int
  | 25 => .array .int
  | 26 => .array .int
  | 27 => .array .boolean
  | 28 => .array .boolean
  | 29 => .array .int
  | 30 => .array .int
  | 31 => .array .int
  | 32 => .array .int
  | 33 => .array .int
  | 34 => .array .int
  | 35 => .array .int
  | 36 => .array .int
  | 37 => .array .int
  | 38 => .int
  | 39 => .array .int
  | 40 => .array .int
  | 41 => .array .int
  | 42 => .array .int
  | 43 => .array .int
  | 44 => .array .int
  | 45 => .array .int
  | 46 => .array .int
  | 47 => .array .int
  | 48 => .array .int
  | 49 => .array .int
  | 50 => .array .int
  | 51 => .boolean
  | 52 => .int
  | 53 => .int
  | _ => .array .int
abbrev wsX80 : List Cond := u_ws RX8 TX8 55
theorem nmX8 : ∀ a, a < 55 → ∀ b, b < 55 → a ≠ b → (TX8 a).2.1 ≠ (TX8 b).2.1 := by decide +kernel
theorem tyX8_ok : ∀ k, k < 55 → parseFieldDescriptor (TX8 k).2.2.1 = some (tyX8 k) := by decide +kernel
abbrev cX8_init : ByteArray := prog_10_method_1_code
def yX8_init : MethodName := ⟨RX8, "<init>", "()V"⟩
abbrev cX8_fresh : ByteArray := prog_10_method_2_code
def yX8_fresh : MethodName := ⟨RX8, "fresh", "(I)V"⟩
abbrev cX8_refuse : ByteArray := prog_10_method_3_code
def yX8_refuse : MethodName := ⟨RX8, "refuse", "(I)I"⟩
abbrev cX8_zero : ByteArray := prog_10_method_4_code
def yX8_zero : MethodName := ⟨RX8, "zero", "(I)I"⟩
abbrev cX8_isStation : ByteArray := prog_10_method_5_code
def yX8_isStation : MethodName := ⟨RX8, "isStation", "(I)Z"⟩
abbrev cX8_isCar : ByteArray := prog_10_method_6_code
def yX8_isCar : MethodName := ⟨RX8, "isCar", "(I)Z"⟩
abbrev cX8_station : ByteArray := prog_10_method_7_code
def yX8_station : MethodName := ⟨RX8, "station", "(I)I"⟩
abbrev cX8_stock : ByteArray := prog_10_method_8_code
def yX8_stock : MethodName := ⟨RX8, "stock", "(II)I"⟩
abbrev cX8_gang : ByteArray := prog_10_method_9_code
def yX8_gang : MethodName := ⟨RX8, "gang", "(II)I"⟩
abbrev cX8_price : ByteArray := prog_10_method_10_code
def yX8_price : MethodName := ⟨RX8, "price", "(II)I"⟩
abbrev cX8_weather : ByteArray := prog_10_method_11_code
def yX8_weather : MethodName := ⟨RX8, "weather", "(III)I"⟩
abbrev cX8_read : ByteArray := prog_10_method_12_code
def yX8_read : MethodName := ⟨RX8, "read", "(I)I"⟩
abbrev cX8_outAt : ByteArray := prog_10_method_13_code
def yX8_outAt : MethodName := ⟨RX8, "outAt", "(II)I"⟩
abbrev cX8_out : ByteArray := prog_10_method_14_code
def yX8_out : MethodName := ⟨RX8, "out", "(II)I"⟩
abbrev cX8_loss : ByteArray := prog_10_method_15_code
def yX8_loss : MethodName := ⟨RX8, "loss", "(II)I"⟩
abbrev cX8_car : ByteArray := prog_10_method_16_code
def yX8_car : MethodName := ⟨RX8, "car", "(III)I"⟩
abbrev cX8_load : ByteArray := prog_10_method_17_code
def yX8_load : MethodName := ⟨RX8, "load", "(IIIIII)I"⟩
abbrev cX8_tier : ByteArray := prog_10_method_18_code
def yX8_tier : MethodName := ⟨RX8, "tier", "(III)I"⟩
abbrev cX8_fill : ByteArray := prog_10_method_19_code
def yX8_fill : MethodName := ⟨RX8, "fill", "(II)I"⟩
abbrev cX8_vent : ByteArray := prog_10_method_20_code
def yX8_vent : MethodName := ⟨RX8, "vent", "(II)I"⟩
abbrev cX8_legs : ByteArray := prog_10_method_21_code
def yX8_legs : MethodName := ⟨RX8, "legs", "(II)I"⟩
abbrev cX8_sends : ByteArray := prog_10_method_22_code
def yX8_sends : MethodName := ⟨RX8, "sends", "(II)V"⟩
abbrev cX8_send : ByteArray := prog_10_method_23_code
def yX8_send : MethodName := ⟨RX8, "send", "(II)I"⟩
abbrev cX8_mayTurn : ByteArray := prog_10_method_24_code
def yX8_mayTurn : MethodName := ⟨RX8, "mayTurn", "(II)Z"⟩
abbrev cX8_turn : ByteArray := prog_10_method_25_code
def yX8_turn : MethodName := ⟨RX8, "turn", "(II)I"⟩
abbrev cX8_late : ByteArray := prog_10_method_26_code
def yX8_late : MethodName := ⟨RX8, "late", "(II)I"⟩
abbrev cX8_look : ByteArray := prog_10_method_27_code
def yX8_look : MethodName := ⟨RX8, "look", "(II)I"⟩
abbrev cX8_feed : ByteArray := prog_10_method_28_code
def yX8_feed : MethodName := ⟨RX8, "feed", "(II)I"⟩
abbrev cX8_wipe : ByteArray := prog_10_method_29_code
def yX8_wipe : MethodName := ⟨RX8, "wipe", "()I"⟩
abbrev cX8_byteAt : ByteArray := prog_10_method_30_code
def yX8_byteAt : MethodName := ⟨RX8, "byteAt", "(I)I"⟩
abbrev cX8_expect : ByteArray := prog_10_method_31_code
def yX8_expect : MethodName := ⟨RX8, "expect", "(Ljava/lang/String;)V"⟩
abbrev cX8_number : ByteArray := prog_10_method_32_code
def yX8_number : MethodName := ⟨RX8, "number", "()I"⟩
abbrev cX8_fieldNow : ByteArray := prog_10_method_33_code
def yX8_fieldNow : MethodName := ⟨RX8, "fieldNow", "()I"⟩
abbrev cX8_reads : ByteArray := prog_10_method_34_code
def yX8_reads : MethodName := ⟨RX8, "reads", "(I)V"⟩
abbrev cX8_rule : ByteArray := prog_10_method_35_code
def yX8_rule : MethodName := ⟨RX8, "rule", "(II)I"⟩
abbrev cX8_outside : ByteArray := prog_10_method_36_code
def yX8_outside : MethodName := ⟨RX8, "outside", "(II)I"⟩
abbrev cX8_holds : ByteArray := prog_10_method_37_code
def yX8_holds : MethodName := ⟨RX8, "holds", "(IIIII)Z"⟩
abbrev cX8_obeys : ByteArray := prog_10_method_38_code
def yX8_obeys : MethodName := ⟨RX8, "obeys", "(III)V"⟩
abbrev cX8_lossAt : ByteArray := prog_10_method_39_code
def yX8_lossAt : MethodName := ⟨RX8, "lossAt", "(I)I"⟩
abbrev cX8_loses : ByteArray := prog_10_method_40_code
def yX8_loses : MethodName := ⟨RX8, "loses", "(I)I"⟩
abbrev cX8_lives : ByteArray := prog_10_method_41_code
def yX8_lives : MethodName := ⟨RX8, "lives", "(III)Z"⟩
abbrev cX8_gangsRest : ByteArray := prog_10_method_42_code
def yX8_gangsRest : MethodName := ⟨RX8, "gangsRest", "()V"⟩
abbrev cX8_run : ByteArray := prog_10_method_43_code
def yX8_run : MethodName := ⟨RX8, "run", "(I)I"⟩
abbrev cX8_soldLately : ByteArray := prog_10_method_44_code
def yX8_soldLately : MethodName := ⟨RX8, "soldLately", "(I)I"⟩
abbrev cX8_brings : ByteArray := prog_10_method_45_code
def yX8_brings : MethodName := ⟨RX8, "brings", "(II)I"⟩
abbrev cX8_sell : ByteArray := prog_10_method_46_code
def yX8_sell : MethodName := ⟨RX8, "sell", "(I)I"⟩
abbrev cX8_tried : ByteArray := prog_10_method_47_code
def yX8_tried : MethodName := ⟨RX8, "tried", "(II)I"⟩
abbrev cX8_mayTry : ByteArray := prog_10_method_48_code
def yX8_mayTry : MethodName := ⟨RX8, "mayTry", "(II)Z"⟩
abbrev cX8_worth : ByteArray := prog_10_method_49_code
def yX8_worth : MethodName := ⟨RX8, "worth", "(II)I"⟩
abbrev cX8_best : ByteArray := prog_10_method_50_code
def yX8_best : MethodName := ⟨RX8, "best", "(I)I"⟩
abbrev cX8_claim : ByteArray := prog_10_method_51_code
def yX8_claim : MethodName := ⟨RX8, "claim", "(II)I"⟩
abbrev cX8_count : ByteArray := prog_10_method_52_code
def yX8_count : MethodName := ⟨RX8, "count", "(I)I"⟩
abbrev cX8_at : ByteArray := prog_10_method_53_code
def yX8_at : MethodName := ⟨RX8, "at", "(II)I"⟩
abbrev cX8_tell : ByteArray := prog_10_method_54_code
def yX8_tell : MethodName := ⟨RX8, "tell", "(II)I"⟩
abbrev cX8_tear : ByteArray := prog_10_method_55_code
def yX8_tear : MethodName := ⟨RX8, "tear", "()I"⟩
abbrev cX8_row : ByteArray := prog_10_method_56_code
def yX8_row : MethodName := ⟨RX8, "row", "(I)I"⟩
abbrev cX8_copy : ByteArray := prog_10_method_57_code
def yX8_copy : MethodName := ⟨RX8, "copy", "(III)I"⟩
abbrev cX8_status : ByteArray := prog_10_method_58_code
def yX8_status : MethodName := ⟨RX8, "status", "(I)I"⟩
def RJx8e188 : String := "java/lang/Cloneable"
def RJ9 : String := "java/lang/Math"
abbrev cJ9_floorMod_7cf53 : ByteArray := prog_12_method_50_code
def yJ9_floorMod_7cf53 : MethodName := ⟨RJ9, "floorMod", "(II)I"⟩
abbrev cJ9_max_7cf53 : ByteArray := prog_12_method_65_code
def yJ9_max_7cf53 : MethodName := ⟨RJ9, "max", "(II)I"⟩
abbrev cJ9_min_7cf53 : ByteArray := prog_12_method_69_code
def yJ9_min_7cf53 : MethodName := ⟨RJ9, "min", "(II)I"⟩
def RJ0 : String := "java/lang/String"
abbrev cJ0_length_8abf5 : ByteArray := prog_13_method_54_code
def yJ0_length_8abf5 : MethodName := ⟨RJ0, "length", "()I"⟩
abbrev cJ0_charAt_5068e : ByteArray := prog_13_method_56_code
def yJ0_charAt_5068e : MethodName := ⟨RJ0, "charAt", "(I)C"⟩
abbrev cJ0_coder_7d493 : ByteArray := prog_13_method_152_code
def yJ0_coder_7d493 : MethodName := ⟨RJ0, "coder", "()B"⟩
abbrev cJ0_isLatin1_aae02 : ByteArray := prog_13_method_154_code
def yJ0_isLatin1_aae02 : MethodName := ⟨RJ0, "isLatin1", "()Z"⟩
abbrev cJ0_checkIndex_df160 : ByteArray := prog_13_method_155_code
def yJ0_checkIndex_df160 : MethodName := ⟨RJ0, "checkIndex", "(II)V"⟩
def RJ1 : String := "java/lang/StringLatin1"
abbrev cJ1_charAt_3b067 : ByteArray := prog_14_method_2_code
def yJ1_charAt_3b067 : MethodName := ⟨RJ1, "charAt", "([BI)C"⟩
def RJ2 : String := "java/lang/StringUTF16"
abbrev cJ2_getChar_3b067 : ByteArray := prog_15_method_5_code
def yJ2_getChar_3b067 : MethodName := ⟨RJ2, "getChar", "([BI)C"⟩
abbrev cJ2_length_9d52b : ByteArray := prog_15_method_6_code
def yJ2_length_9d52b : MethodName := ⟨RJ2, "length", "([B)I"⟩
abbrev cJ2_charAt_3b067 : ByteArray := prog_15_method_83_code
def yJ2_charAt_3b067 : MethodName := ⟨RJ2, "charAt", "([BI)C"⟩
abbrev cJ2_checkIndex_2214a : ByteArray := prog_15_method_91_code
def yJ2_checkIndex_2214a : MethodName := ⟨RJ2, "checkIndex", "(I[B)V"⟩
def RJ10 : String := "java/lang/System"
def RJ7 : String := "java/util/Arrays"
abbrev cJ7_fill_53178 : ByteArray := prog_17_method_103_code
def yJ7_fill_53178 : MethodName := ⟨RJ7, "fill", "([II)V"⟩
def RJ3 : String := "jdk/internal/util/Preconditions"
abbrev cJ3_checkIndex_8e157 : ByteArray := prog_18_method_11_code
def yJ3_checkIndex_8e157 : MethodName := ⟨RJ3, "checkIndex", "(IILjava/util/function/BiFunction;)I"⟩
def RL : String := "ColdLineLaw"
abbrev cL_law : ByteArray := code
def yL_law : MethodName := ⟨RL, "law", "([I)Z"⟩
abbrev vwCl : List vw_C := [(RX0, TX0, 14), (RX1, TX1, 4), (RX2, TX2, 2), (RX3, TX3, 8), (RX4, TX4, 8), (RX5, TX5, 3), (RX6, TX6, 6), (RX7, TX7, 17), (RX8, TX8, 55)]
