-- ===== PART A: goes FIRST, ahead of the names: the tables' words, and 'selects' of the private methods out of them =====
/-- a private method of a class that the tables say can be made, by its rows of tables_1 -/
def lw_okq (q : MethodName × Nat) : Prop := (q.1.cls ≠ "java/lang/invoke/MethodHandle" ∧ q.1.cls ≠ "java/lang/invoke/VarHandle") ∧ Cond.instantiable q.1.cls q.2 ∈ tables_1 ∧ Cond.privateMethod q.1 ∈ tables_1 ∧ Cond.instanceMethod q.1 ∈ tables_1
theorem lw_p0 : lw_okq (⟨"TallShip$Tape", "endOfRun", "(CC)I"⟩, 6) := ⟨⟨by decide +kernel, by decide +kernel⟩, List.mem_of_getElem? (i := 98) (by decide +kernel), List.mem_of_getElem? (i := 336) (by decide +kernel), List.mem_of_getElem? (i := 337) (by decide +kernel)⟩
theorem lw_p1 : lw_okq (⟨"TallShip$Tape", "numberHere", "()I"⟩, 6) := ⟨⟨by decide +kernel, by decide +kernel⟩, List.mem_of_getElem? (i := 98) (by decide +kernel), List.mem_of_getElem? (i := 340) (by decide +kernel), List.mem_of_getElem? (i := 341) (by decide +kernel)⟩
theorem lw_p2 : lw_okq (⟨"TallShip$Reader", "isOver", "()Z"⟩, 4) := ⟨⟨by decide +kernel, by decide +kernel⟩, List.mem_of_getElem? (i := 128) (by decide +kernel), List.mem_of_getElem? (i := 347) (by decide +kernel), List.mem_of_getElem? (i := 348) (by decide +kernel)⟩
theorem lw_p3 : lw_okq (⟨"TallShip$Reader", "readClosing", "()I"⟩, 4) := ⟨⟨by decide +kernel, by decide +kernel⟩, List.mem_of_getElem? (i := 128) (by decide +kernel), List.mem_of_getElem? (i := 351) (by decide +kernel), List.mem_of_getElem? (i := 352) (by decide +kernel)⟩
theorem lw_p4 : lw_okq (⟨"TallShip$Reader", "readSign", "(C)I"⟩, 4) := ⟨⟨by decide +kernel, by decide +kernel⟩, List.mem_of_getElem? (i := 128) (by decide +kernel), List.mem_of_getElem? (i := 409) (by decide +kernel), List.mem_of_getElem? (i := 410) (by decide +kernel)⟩
theorem lw_p5 : lw_okq (⟨"TallShip$Reader", "faultHere", "(I)I"⟩, 4) := ⟨⟨by decide +kernel, by decide +kernel⟩, List.mem_of_getElem? (i := 128) (by decide +kernel), List.mem_of_getElem? (i := 413) (by decide +kernel), List.mem_of_getElem? (i := 414) (by decide +kernel)⟩
theorem lw_p6 : lw_okq (⟨"TallShip$Reader", "readStatement", "()I"⟩, 4) := ⟨⟨by decide +kernel, by decide +kernel⟩, List.mem_of_getElem? (i := 128) (by decide +kernel), List.mem_of_getElem? (i := 417) (by decide +kernel), List.mem_of_getElem? (i := 418) (by decide +kernel)⟩
theorem lw_p7 : lw_okq (⟨"TallShip$Reader", "verbHere", "()I"⟩, 4) := ⟨⟨by decide +kernel, by decide +kernel⟩, List.mem_of_getElem? (i := 128) (by decide +kernel), List.mem_of_getElem? (i := 421) (by decide +kernel), List.mem_of_getElem? (i := 422) (by decide +kernel)⟩
theorem lw_p8 : lw_okq (⟨"TallShip$Reader", "readCondition", "(I)I"⟩, 4) := ⟨⟨by decide +kernel, by decide +kernel⟩, List.mem_of_getElem? (i := 128) (by decide +kernel), List.mem_of_getElem? (i := 438) (by decide +kernel), List.mem_of_getElem? (i := 439) (by decide +kernel)⟩
theorem lw_p9 : lw_okq (⟨"TallShip$Reader", "readSum", "(II)I"⟩, 4) := ⟨⟨by decide +kernel, by decide +kernel⟩, List.mem_of_getElem? (i := 128) (by decide +kernel), List.mem_of_getElem? (i := 442) (by decide +kernel), List.mem_of_getElem? (i := 443) (by decide +kernel)⟩
theorem lw_p10 : lw_okq (⟨"TallShip$Reader", "partHere", "()I"⟩, 4) := ⟨⟨by decide +kernel, by decide +kernel⟩, List.mem_of_getElem? (i := 128) (by decide +kernel), List.mem_of_getElem? (i := 446) (by decide +kernel), List.mem_of_getElem? (i := 447) (by decide +kernel)⟩
theorem lw_p11 : lw_okq (⟨"TallShip$Reader", "readOpening", "(I)I"⟩, 4) := ⟨⟨by decide +kernel, by decide +kernel⟩, List.mem_of_getElem? (i := 128) (by decide +kernel), List.mem_of_getElem? (i := 461) (by decide +kernel), List.mem_of_getElem? (i := 462) (by decide +kernel)⟩
theorem lw_p12 : lw_okq (⟨"TallShip$Reader", "readOrder", "(II)I"⟩, 4) := ⟨⟨by decide +kernel, by decide +kernel⟩, List.mem_of_getElem? (i := 128) (by decide +kernel), List.mem_of_getElem? (i := 465) (by decide +kernel), List.mem_of_getElem? (i := 466) (by decide +kernel)⟩
theorem lw_p13 : lw_okq (⟨"TallShip$Reader", "checkNumber", "(II)I"⟩, 4) := ⟨⟨by decide +kernel, by decide +kernel⟩, List.mem_of_getElem? (i := 128) (by decide +kernel), List.mem_of_getElem? (i := 472) (by decide +kernel), List.mem_of_getElem? (i := 473) (by decide +kernel)⟩
theorem lw_p14 : lw_okq (⟨"TallShip$Script", "blockEnd", "(II)I"⟩, 9) := ⟨⟨by decide +kernel, by decide +kernel⟩, List.mem_of_getElem? (i := 175) (by decide +kernel), List.mem_of_getElem? (i := 480) (by decide +kernel), List.mem_of_getElem? (i := 481) (by decide +kernel)⟩
theorem lw_p15 : lw_okq (⟨"TallShip$Winds", "find", "(I)V"⟩, 7) := ⟨⟨by decide +kernel, by decide +kernel⟩, List.mem_of_getElem? (i := 68) (by decide +kernel), List.mem_of_getElem? (i := 497) (by decide +kernel), List.mem_of_getElem? (i := 498) (by decide +kernel)⟩
def lw_privs_1 : List (MethodName × Nat) := [(⟨"TallShip$Tape", "endOfRun", "(CC)I"⟩, 6), (⟨"TallShip$Tape", "numberHere", "()I"⟩, 6), (⟨"TallShip$Reader", "isOver", "()Z"⟩, 4), (⟨"TallShip$Reader", "readClosing", "()I"⟩, 4), (⟨"TallShip$Reader", "readSign", "(C)I"⟩, 4), (⟨"TallShip$Reader", "faultHere", "(I)I"⟩, 4), (⟨"TallShip$Reader", "readStatement", "()I"⟩, 4), (⟨"TallShip$Reader", "verbHere", "()I"⟩, 4), (⟨"TallShip$Reader", "readCondition", "(I)I"⟩, 4), (⟨"TallShip$Reader", "readSum", "(II)I"⟩, 4), (⟨"TallShip$Reader", "partHere", "()I"⟩, 4), (⟨"TallShip$Reader", "readOpening", "(I)I"⟩, 4), (⟨"TallShip$Reader", "readOrder", "(II)I"⟩, 4), (⟨"TallShip$Reader", "checkNumber", "(II)I"⟩, 4), (⟨"TallShip$Script", "blockEnd", "(II)I"⟩, 9), (⟨"TallShip$Winds", "find", "(I)V"⟩, 7)]
theorem lw_r1 : ∀ q ∈ lw_privs_1, lw_okq q := List.forall_mem_cons.mpr ⟨lw_p0, List.forall_mem_cons.mpr ⟨lw_p1, List.forall_mem_cons.mpr ⟨lw_p2, List.forall_mem_cons.mpr ⟨lw_p3, List.forall_mem_cons.mpr ⟨lw_p4, List.forall_mem_cons.mpr ⟨lw_p5, List.forall_mem_cons.mpr ⟨lw_p6, List.forall_mem_cons.mpr ⟨lw_p7, List.forall_mem_cons.mpr ⟨lw_p8, List.forall_mem_cons.mpr ⟨lw_p9, List.forall_mem_cons.mpr ⟨lw_p10, List.forall_mem_cons.mpr ⟨lw_p11, List.forall_mem_cons.mpr ⟨lw_p12, List.forall_mem_cons.mpr ⟨lw_p13, List.forall_mem_cons.mpr ⟨lw_p14, List.forall_mem_cons.mpr ⟨lw_p15, fun _ h => absurd h List.not_mem_nil⟩⟩⟩⟩⟩⟩⟩⟩⟩⟩⟩⟩⟩⟩⟩⟩
theorem lw_p16 : lw_okq (⟨"TallShip", "passMinute", "()V"⟩, 18) := ⟨⟨by decide +kernel, by decide +kernel⟩, List.mem_of_getElem? (i := 21) (by decide +kernel), List.mem_of_getElem? (i := 505) (by decide +kernel), List.mem_of_getElem? (i := 506) (by decide +kernel)⟩
theorem lw_p17 : lw_okq (⟨"TallShip", "endWorks", "()V"⟩, 18) := ⟨⟨by decide +kernel, by decide +kernel⟩, List.mem_of_getElem? (i := 21) (by decide +kernel), List.mem_of_getElem? (i := 513) (by decide +kernel), List.mem_of_getElem? (i := 514) (by decide +kernel)⟩
theorem lw_p18 : lw_okq (⟨"TallShip$Rig", "become", "(III)V"⟩, 8) := ⟨⟨by decide +kernel, by decide +kernel⟩, List.mem_of_getElem? (i := 29) (by decide +kernel), List.mem_of_getElem? (i := 529) (by decide +kernel), List.mem_of_getElem? (i := 530) (by decide +kernel)⟩
theorem lw_p19 : lw_okq (⟨"TallShip$Rig", "renew", "(I)V"⟩, 8) := ⟨⟨by decide +kernel, by decide +kernel⟩, List.mem_of_getElem? (i := 29) (by decide +kernel), List.mem_of_getElem? (i := 533) (by decide +kernel), List.mem_of_getElem? (i := 534) (by decide +kernel)⟩
theorem lw_p20 : lw_okq (⟨"TallShip$Rig", "hasParted", "(I)Z"⟩, 8) := ⟨⟨by decide +kernel, by decide +kernel⟩, List.mem_of_getElem? (i := 29) (by decide +kernel), List.mem_of_getElem? (i := 537) (by decide +kernel), List.mem_of_getElem? (i := 538) (by decide +kernel)⟩
theorem lw_p21 : lw_okq (⟨"TallShip", "carryOut", "()V"⟩, 18) := ⟨⟨by decide +kernel, by decide +kernel⟩, List.mem_of_getElem? (i := 21) (by decide +kernel), List.mem_of_getElem? (i := 545) (by decide +kernel), List.mem_of_getElem? (i := 546) (by decide +kernel)⟩
theorem lw_p22 : lw_okq (⟨"TallShip", "weighParts", "()V"⟩, 18) := ⟨⟨by decide +kernel, by decide +kernel⟩, List.mem_of_getElem? (i := 21) (by decide +kernel), List.mem_of_getElem? (i := 549) (by decide +kernel), List.mem_of_getElem? (i := 550) (by decide +kernel)⟩
theorem lw_p23 : lw_okq (⟨"TallShip", "carryOutOne", "(I)Z"⟩, 18) := ⟨⟨by decide +kernel, by decide +kernel⟩, List.mem_of_getElem? (i := 21) (by decide +kernel), List.mem_of_getElem? (i := 569) (by decide +kernel), List.mem_of_getElem? (i := 570) (by decide +kernel)⟩
theorem lw_p24 : lw_okq (⟨"TallShip", "beginWork", "(III)Z"⟩, 18) := ⟨⟨by decide +kernel, by decide +kernel⟩, List.mem_of_getElem? (i := 21) (by decide +kernel), List.mem_of_getElem? (i := 585) (by decide +kernel), List.mem_of_getElem? (i := 586) (by decide +kernel)⟩
theorem lw_p25 : lw_okq (⟨"TallShip$Crew", "isReady", "(I)Z"⟩, 8) := ⟨⟨by decide +kernel, by decide +kernel⟩, List.mem_of_getElem? (i := 220) (by decide +kernel), List.mem_of_getElem? (i := 604) (by decide +kernel), List.mem_of_getElem? (i := 605) (by decide +kernel)⟩
theorem lw_p26 : lw_okq (⟨"TallShip$Rig", "drawOf", "(III)I"⟩, 8) := ⟨⟨by decide +kernel, by decide +kernel⟩, List.mem_of_getElem? (i := 29) (by decide +kernel), List.mem_of_getElem? (i := 631) (by decide +kernel), List.mem_of_getElem? (i := 632) (by decide +kernel)⟩
theorem lw_p27 : lw_okq (⟨"TallShip", "changeSpeed", "(I)V"⟩, 18) := ⟨⟨by decide +kernel, by decide +kernel⟩, List.mem_of_getElem? (i := 21) (by decide +kernel), List.mem_of_getElem? (i := 646) (by decide +kernel), List.mem_of_getElem? (i := 647) (by decide +kernel)⟩
theorem lw_p28 : lw_okq (⟨"TallShip", "strainSails", "(Z)V"⟩, 18) := ⟨⟨by decide +kernel, by decide +kernel⟩, List.mem_of_getElem? (i := 21) (by decide +kernel), List.mem_of_getElem? (i := 652) (by decide +kernel), List.mem_of_getElem? (i := 653) (by decide +kernel)⟩
theorem lw_p29 : lw_okq (⟨"TallShip$Rig", "strainRope", "(II)V"⟩, 8) := ⟨⟨by decide +kernel, by decide +kernel⟩, List.mem_of_getElem? (i := 29) (by decide +kernel), List.mem_of_getElem? (i := 660) (by decide +kernel), List.mem_of_getElem? (i := 661) (by decide +kernel)⟩
theorem lw_p30 : lw_okq (⟨"TallShip$Passage", "countGlasses", "(II)I"⟩, 6) := ⟨⟨by decide +kernel, by decide +kernel⟩, List.mem_of_getElem? (i := 147) (by decide +kernel), List.mem_of_getElem? (i := 718) (by decide +kernel), List.mem_of_getElem? (i := 719) (by decide +kernel)⟩
theorem lw_p31 : lw_okq (⟨"TallShip$Passage", "spread", "(I)V"⟩, 6) := ⟨⟨by decide +kernel, by decide +kernel⟩, List.mem_of_getElem? (i := 147) (by decide +kernel), List.mem_of_getElem? (i := 731) (by decide +kernel), List.mem_of_getElem? (i := 732) (by decide +kernel)⟩
def lw_privs_2 : List (MethodName × Nat) := [(⟨"TallShip", "passMinute", "()V"⟩, 18), (⟨"TallShip", "endWorks", "()V"⟩, 18), (⟨"TallShip$Rig", "become", "(III)V"⟩, 8), (⟨"TallShip$Rig", "renew", "(I)V"⟩, 8), (⟨"TallShip$Rig", "hasParted", "(I)Z"⟩, 8), (⟨"TallShip", "carryOut", "()V"⟩, 18), (⟨"TallShip", "weighParts", "()V"⟩, 18), (⟨"TallShip", "carryOutOne", "(I)Z"⟩, 18), (⟨"TallShip", "beginWork", "(III)Z"⟩, 18), (⟨"TallShip$Crew", "isReady", "(I)Z"⟩, 8), (⟨"TallShip$Rig", "drawOf", "(III)I"⟩, 8), (⟨"TallShip", "changeSpeed", "(I)V"⟩, 18), (⟨"TallShip", "strainSails", "(Z)V"⟩, 18), (⟨"TallShip$Rig", "strainRope", "(II)V"⟩, 8), (⟨"TallShip$Passage", "countGlasses", "(II)I"⟩, 6), (⟨"TallShip$Passage", "spread", "(I)V"⟩, 6)]
theorem lw_r2 : ∀ q ∈ lw_privs_2, lw_okq q := List.forall_mem_cons.mpr ⟨lw_p16, List.forall_mem_cons.mpr ⟨lw_p17, List.forall_mem_cons.mpr ⟨lw_p18, List.forall_mem_cons.mpr ⟨lw_p19, List.forall_mem_cons.mpr ⟨lw_p20, List.forall_mem_cons.mpr ⟨lw_p21, List.forall_mem_cons.mpr ⟨lw_p22, List.forall_mem_cons.mpr ⟨lw_p23, List.forall_mem_cons.mpr ⟨lw_p24, List.forall_mem_cons.mpr ⟨lw_p25, List.forall_mem_cons.mpr ⟨lw_p26, List.forall_mem_cons.mpr ⟨lw_p27, List.forall_mem_cons.mpr ⟨lw_p28, List.forall_mem_cons.mpr ⟨lw_p29, List.forall_mem_cons.mpr ⟨lw_p30, List.forall_mem_cons.mpr ⟨lw_p31, fun _ h => absurd h List.not_mem_nil⟩⟩⟩⟩⟩⟩⟩⟩⟩⟩⟩⟩⟩⟩⟩⟩
theorem lw_p32 : lw_okq (⟨"TallShip$Passage", "traceBack", "(II)V"⟩, 6) := ⟨⟨by decide +kernel, by decide +kernel⟩, List.mem_of_getElem? (i := 147) (by decide +kernel), List.mem_of_getElem? (i := 740) (by decide +kernel), List.mem_of_getElem? (i := 741) (by decide +kernel)⟩
theorem lw_p33 : lw_okq (⟨"TallShip$Passage", "chooseCourses", "()V"⟩, 6) := ⟨⟨by decide +kernel, by decide +kernel⟩, List.mem_of_getElem? (i := 147) (by decide +kernel), List.mem_of_getElem? (i := 744) (by decide +kernel), List.mem_of_getElem? (i := 745) (by decide +kernel)⟩
theorem lw_p34 : lw_okq (⟨"TallShip$Passage", "leastLeading", "(III)I"⟩, 6) := ⟨⟨by decide +kernel, by decide +kernel⟩, List.mem_of_getElem? (i := 147) (by decide +kernel), List.mem_of_getElem? (i := 748) (by decide +kernel), List.mem_of_getElem? (i := 749) (by decide +kernel)⟩
theorem lw_p35 : lw_okq (⟨"java/lang/Throwable", "fillInStackTrace", "(I)Ljava/lang/Throwable;"⟩, 6) := ⟨⟨by decide +kernel, by decide +kernel⟩, List.mem_of_getElem? (i := 803) (by decide +kernel), List.mem_of_getElem? (i := 801) (by decide +kernel), List.mem_of_getElem? (i := 802) (by decide +kernel)⟩
theorem lw_p36 : lw_okq (⟨"TallShipModel", "lay", "(J)V"⟩, 53) := ⟨⟨by decide +kernel, by decide +kernel⟩, List.mem_of_getElem? (i := 852) (by decide +kernel), List.mem_of_getElem? (i := 850) (by decide +kernel), List.mem_of_getElem? (i := 851) (by decide +kernel)⟩
theorem lw_p37 : lw_okq (⟨"TallShipModel", "cutAll", "()V"⟩, 53) := ⟨⟨by decide +kernel, by decide +kernel⟩, List.mem_of_getElem? (i := 852) (by decide +kernel), List.mem_of_getElem? (i := 1042) (by decide +kernel), List.mem_of_getElem? (i := 1043) (by decide +kernel)⟩
theorem lw_p38 : lw_okq (⟨"TallShipModel", "statement", "()V"⟩, 53) := ⟨⟨by decide +kernel, by decide +kernel⟩, List.mem_of_getElem? (i := 852) (by decide +kernel), List.mem_of_getElem? (i := 1061) (by decide +kernel), List.mem_of_getElem? (i := 1062) (by decide +kernel)⟩
theorem lw_p39 : lw_okq (⟨"TallShipModel", "isWord", "(I)Z"⟩, 53) := ⟨⟨by decide +kernel, by decide +kernel⟩, List.mem_of_getElem? (i := 852) (by decide +kernel), List.mem_of_getElem? (i := 1065) (by decide +kernel), List.mem_of_getElem? (i := 1066) (by decide +kernel)⟩
theorem lw_p40 : lw_okq (⟨"TallShipModel", "wrong", "(I)V"⟩, 53) := ⟨⟨by decide +kernel, by decide +kernel⟩, List.mem_of_getElem? (i := 852) (by decide +kernel), List.mem_of_getElem? (i := 1069) (by decide +kernel), List.mem_of_getElem? (i := 1070) (by decide +kernel)⟩
theorem lw_p41 : lw_okq (⟨"TallShipModel", "here", "()I"⟩, 53) := ⟨⟨by decide +kernel, by decide +kernel⟩, List.mem_of_getElem? (i := 852) (by decide +kernel), List.mem_of_getElem? (i := 1073) (by decide +kernel), List.mem_of_getElem? (i := 1074) (by decide +kernel)⟩
theorem lw_p42 : lw_okq (⟨"TallShipModel", "choice", "(II)V"⟩, 53) := ⟨⟨by decide +kernel, by decide +kernel⟩, List.mem_of_getElem? (i := 852) (by decide +kernel), List.mem_of_getElem? (i := 1077) (by decide +kernel), List.mem_of_getElem? (i := 1078) (by decide +kernel)⟩
theorem lw_p43 : lw_okq (⟨"TallShipModel", "expression", "()V"⟩, 53) := ⟨⟨by decide +kernel, by decide +kernel⟩, List.mem_of_getElem? (i := 852) (by decide +kernel), List.mem_of_getElem? (i := 1081) (by decide +kernel), List.mem_of_getElem? (i := 1082) (by decide +kernel)⟩
theorem lw_p44 : lw_okq (⟨"TallShipModel", "sum", "()V"⟩, 53) := ⟨⟨by decide +kernel, by decide +kernel⟩, List.mem_of_getElem? (i := 852) (by decide +kernel), List.mem_of_getElem? (i := 1085) (by decide +kernel), List.mem_of_getElem? (i := 1086) (by decide +kernel)⟩
theorem lw_p45 : lw_okq (⟨"TallShipModel", "part", "()V"⟩, 53) := ⟨⟨by decide +kernel, by decide +kernel⟩, List.mem_of_getElem? (i := 852) (by decide +kernel), List.mem_of_getElem? (i := 1089) (by decide +kernel), List.mem_of_getElem? (i := 1090) (by decide +kernel)⟩
theorem lw_p46 : lw_okq (⟨"TallShipModel", "emit", "(III)I"⟩, 53) := ⟨⟨by decide +kernel, by decide +kernel⟩, List.mem_of_getElem? (i := 852) (by decide +kernel), List.mem_of_getElem? (i := 1093) (by decide +kernel), List.mem_of_getElem? (i := 1094) (by decide +kernel)⟩
theorem lw_p47 : lw_okq (⟨"TallShipModel", "isSign", "(I)Z"⟩, 53) := ⟨⟨by decide +kernel, by decide +kernel⟩, List.mem_of_getElem? (i := 852) (by decide +kernel), List.mem_of_getElem? (i := 1097) (by decide +kernel), List.mem_of_getElem? (i := 1098) (by decide +kernel)⟩
def lw_privs_3 : List (MethodName × Nat) := [(⟨"TallShip$Passage", "traceBack", "(II)V"⟩, 6), (⟨"TallShip$Passage", "chooseCourses", "()V"⟩, 6), (⟨"TallShip$Passage", "leastLeading", "(III)I"⟩, 6), (⟨"java/lang/Throwable", "fillInStackTrace", "(I)Ljava/lang/Throwable;"⟩, 6), (⟨"TallShipModel", "lay", "(J)V"⟩, 53), (⟨"TallShipModel", "cutAll", "()V"⟩, 53), (⟨"TallShipModel", "statement", "()V"⟩, 53), (⟨"TallShipModel", "isWord", "(I)Z"⟩, 53), (⟨"TallShipModel", "wrong", "(I)V"⟩, 53), (⟨"TallShipModel", "here", "()I"⟩, 53), (⟨"TallShipModel", "choice", "(II)V"⟩, 53), (⟨"TallShipModel", "expression", "()V"⟩, 53), (⟨"TallShipModel", "sum", "()V"⟩, 53), (⟨"TallShipModel", "part", "()V"⟩, 53), (⟨"TallShipModel", "emit", "(III)I"⟩, 53), (⟨"TallShipModel", "isSign", "(I)Z"⟩, 53)]
theorem lw_r3 : ∀ q ∈ lw_privs_3, lw_okq q := List.forall_mem_cons.mpr ⟨lw_p32, List.forall_mem_cons.mpr ⟨lw_p33, List.forall_mem_cons.mpr ⟨lw_p34, List.forall_mem_cons.mpr ⟨lw_p35, List.forall_mem_cons.mpr ⟨lw_p36, List.forall_mem_cons.mpr ⟨lw_p37, List.forall_mem_cons.mpr ⟨lw_p38, List.forall_mem_cons.mpr ⟨lw_p39, List.forall_mem_cons.mpr ⟨lw_p40, List.forall_mem_cons.mpr ⟨lw_p41, List.forall_mem_cons.mpr ⟨lw_p42, List.forall_mem_cons.mpr ⟨lw_p43, List.forall_mem_cons.mpr ⟨lw_p44, List.forall_mem_cons.mpr ⟨lw_p45, List.forall_mem_cons.mpr ⟨lw_p46, List.forall_mem_cons.mpr ⟨lw_p47, fun _ h => absurd h List.not_mem_nil⟩⟩⟩⟩⟩⟩⟩⟩⟩⟩⟩⟩⟩⟩⟩⟩
theorem lw_p48 : lw_okq (⟨"TallShipModel", "block", "()V"⟩, 53) := ⟨⟨by decide +kernel, by decide +kernel⟩, List.mem_of_getElem? (i := 852) (by decide +kernel), List.mem_of_getElem? (i := 1101) (by decide +kernel), List.mem_of_getElem? (i := 1102) (by decide +kernel)⟩
theorem lw_p49 : lw_okq (⟨"TallShipModel", "takeSign", "(I)V"⟩, 53) := ⟨⟨by decide +kernel, by decide +kernel⟩, List.mem_of_getElem? (i := 852) (by decide +kernel), List.mem_of_getElem? (i := 1105) (by decide +kernel), List.mem_of_getElem? (i := 1106) (by decide +kernel)⟩
theorem lw_p50 : lw_okq (⟨"TallShipModel", "hasWord", "(I)Z"⟩, 53) := ⟨⟨by decide +kernel, by decide +kernel⟩, List.mem_of_getElem? (i := 852) (by decide +kernel), List.mem_of_getElem? (i := 1109) (by decide +kernel), List.mem_of_getElem? (i := 1110) (by decide +kernel)⟩
theorem lw_p51 : lw_okq (⟨"TallShipModel", "takeNumber", "(II)I"⟩, 53) := ⟨⟨by decide +kernel, by decide +kernel⟩, List.mem_of_getElem? (i := 852) (by decide +kernel), List.mem_of_getElem? (i := 1113) (by decide +kernel), List.mem_of_getElem? (i := 1114) (by decide +kernel)⟩
theorem lw_p52 : lw_okq (⟨"TallShipModel", "goes", "()V"⟩, 53) := ⟨⟨by decide +kernel, by decide +kernel⟩, List.mem_of_getElem? (i := 852) (by decide +kernel), List.mem_of_getElem? (i := 1126) (by decide +kernel), List.mem_of_getElem? (i := 1127) (by decide +kernel)⟩
theorem lw_p53 : lw_okq (⟨"TallShipModel", "point", "()I"⟩, 53) := ⟨⟨by decide +kernel, by decide +kernel⟩, List.mem_of_getElem? (i := 852) (by decide +kernel), List.mem_of_getElem? (i := 1130) (by decide +kernel), List.mem_of_getElem? (i := 1131) (by decide +kernel)⟩
theorem lw_p54 : lw_okq (⟨"TallShipModel", "windNow", "()I"⟩, 53) := ⟨⟨by decide +kernel, by decide +kernel⟩, List.mem_of_getElem? (i := 852) (by decide +kernel), List.mem_of_getElem? (i := 1134) (by decide +kernel), List.mem_of_getElem? (i := 1135) (by decide +kernel)⟩
theorem lw_p55 : lw_okq (⟨"TallShipModel", "force", "()I"⟩, 53) := ⟨⟨by decide +kernel, by decide +kernel⟩, List.mem_of_getElem? (i := 852) (by decide +kernel), List.mem_of_getElem? (i := 1138) (by decide +kernel), List.mem_of_getElem? (i := 1139) (by decide +kernel)⟩
theorem lw_p56 : lw_okq (⟨"TallShipModel", "endWorks", "()V"⟩, 53) := ⟨⟨by decide +kernel, by decide +kernel⟩, List.mem_of_getElem? (i := 852) (by decide +kernel), List.mem_of_getElem? (i := 1142) (by decide +kernel), List.mem_of_getElem? (i := 1143) (by decide +kernel)⟩
theorem lw_p57 : lw_okq (⟨"TallShipModel", "ended", "(III)V"⟩, 53) := ⟨⟨by decide +kernel, by decide +kernel⟩, List.mem_of_getElem? (i := 852) (by decide +kernel), List.mem_of_getElem? (i := 1146) (by decide +kernel), List.mem_of_getElem? (i := 1147) (by decide +kernel)⟩
theorem lw_p58 : lw_okq (⟨"TallShipModel", "gives", "(I)V"⟩, 53) := ⟨⟨by decide +kernel, by decide +kernel⟩, List.mem_of_getElem? (i := 852) (by decide +kernel), List.mem_of_getElem? (i := 1150) (by decide +kernel), List.mem_of_getElem? (i := 1151) (by decide +kernel)⟩
theorem lw_p59 : lw_okq (⟨"TallShipModel", "carries", "()V"⟩, 53) := ⟨⟨by decide +kernel, by decide +kernel⟩, List.mem_of_getElem? (i := 852) (by decide +kernel), List.mem_of_getElem? (i := 1154) (by decide +kernel), List.mem_of_getElem? (i := 1155) (by decide +kernel)⟩
theorem lw_p60 : lw_okq (⟨"TallShipModel", "reckons", "(II)V"⟩, 53) := ⟨⟨by decide +kernel, by decide +kernel⟩, List.mem_of_getElem? (i := 852) (by decide +kernel), List.mem_of_getElem? (i := 1158) (by decide +kernel), List.mem_of_getElem? (i := 1159) (by decide +kernel)⟩
theorem lw_p61 : lw_okq (⟨"TallShipModel", "partOf", "(I)I"⟩, 53) := ⟨⟨by decide +kernel, by decide +kernel⟩, List.mem_of_getElem? (i := 852) (by decide +kernel), List.mem_of_getElem? (i := 1162) (by decide +kernel), List.mem_of_getElem? (i := 1163) (by decide +kernel)⟩
theorem lw_p62 : lw_okq (⟨"TallShipModel", "loadNow", "()I"⟩, 53) := ⟨⟨by decide +kernel, by decide +kernel⟩, List.mem_of_getElem? (i := 852) (by decide +kernel), List.mem_of_getElem? (i := 1169) (by decide +kernel), List.mem_of_getElem? (i := 1170) (by decide +kernel)⟩
theorem lw_p63 : lw_okq (⟨"TallShipModel", "begins", "(III)Z"⟩, 53) := ⟨⟨by decide +kernel, by decide +kernel⟩, List.mem_of_getElem? (i := 852) (by decide +kernel), List.mem_of_getElem? (i := 1173) (by decide +kernel), List.mem_of_getElem? (i := 1174) (by decide +kernel)⟩
def lw_privs_4 : List (MethodName × Nat) := [(⟨"TallShipModel", "block", "()V"⟩, 53), (⟨"TallShipModel", "takeSign", "(I)V"⟩, 53), (⟨"TallShipModel", "hasWord", "(I)Z"⟩, 53), (⟨"TallShipModel", "takeNumber", "(II)I"⟩, 53), (⟨"TallShipModel", "goes", "()V"⟩, 53), (⟨"TallShipModel", "point", "()I"⟩, 53), (⟨"TallShipModel", "windNow", "()I"⟩, 53), (⟨"TallShipModel", "force", "()I"⟩, 53), (⟨"TallShipModel", "endWorks", "()V"⟩, 53), (⟨"TallShipModel", "ended", "(III)V"⟩, 53), (⟨"TallShipModel", "gives", "(I)V"⟩, 53), (⟨"TallShipModel", "carries", "()V"⟩, 53), (⟨"TallShipModel", "reckons", "(II)V"⟩, 53), (⟨"TallShipModel", "partOf", "(I)I"⟩, 53), (⟨"TallShipModel", "loadNow", "()I"⟩, 53), (⟨"TallShipModel", "begins", "(III)Z"⟩, 53)]
theorem lw_r4 : ∀ q ∈ lw_privs_4, lw_okq q := List.forall_mem_cons.mpr ⟨lw_p48, List.forall_mem_cons.mpr ⟨lw_p49, List.forall_mem_cons.mpr ⟨lw_p50, List.forall_mem_cons.mpr ⟨lw_p51, List.forall_mem_cons.mpr ⟨lw_p52, List.forall_mem_cons.mpr ⟨lw_p53, List.forall_mem_cons.mpr ⟨lw_p54, List.forall_mem_cons.mpr ⟨lw_p55, List.forall_mem_cons.mpr ⟨lw_p56, List.forall_mem_cons.mpr ⟨lw_p57, List.forall_mem_cons.mpr ⟨lw_p58, List.forall_mem_cons.mpr ⟨lw_p59, List.forall_mem_cons.mpr ⟨lw_p60, List.forall_mem_cons.mpr ⟨lw_p61, List.forall_mem_cons.mpr ⟨lw_p62, List.forall_mem_cons.mpr ⟨lw_p63, fun _ h => absurd h List.not_mem_nil⟩⟩⟩⟩⟩⟩⟩⟩⟩⟩⟩⟩⟩⟩⟩⟩
theorem lw_p64 : lw_okq (⟨"TallShipModel", "isBarred", "(II)Z"⟩, 53) := ⟨⟨by decide +kernel, by decide +kernel⟩, List.mem_of_getElem? (i := 852) (by decide +kernel), List.mem_of_getElem? (i := 1177) (by decide +kernel), List.mem_of_getElem? (i := 1178) (by decide +kernel)⟩
theorem lw_p65 : lw_okq (⟨"TallShipModel", "isUnder", "(II)Z"⟩, 53) := ⟨⟨by decide +kernel, by decide +kernel⟩, List.mem_of_getElem? (i := 852) (by decide +kernel), List.mem_of_getElem? (i := 1181) (by decide +kernel), List.mem_of_getElem? (i := 1182) (by decide +kernel)⟩
theorem lw_p66 : lw_okq (⟨"TallShipModel", "isMeant", "(III)Z"⟩, 53) := ⟨⟨by decide +kernel, by decide +kernel⟩, List.mem_of_getElem? (i := 852) (by decide +kernel), List.mem_of_getElem? (i := 1185) (by decide +kernel), List.mem_of_getElem? (i := 1186) (by decide +kernel)⟩
theorem lw_p67 : lw_okq (⟨"TallShipModel", "isOnDeck", "(I)Z"⟩, 53) := ⟨⟨by decide +kernel, by decide +kernel⟩, List.mem_of_getElem? (i := 852) (by decide +kernel), List.mem_of_getElem? (i := 1189) (by decide +kernel), List.mem_of_getElem? (i := 1190) (by decide +kernel)⟩
theorem lw_p68 : lw_okq (⟨"TallShipModel", "carriesOut", "(I)V"⟩, 53) := ⟨⟨by decide +kernel, by decide +kernel⟩, List.mem_of_getElem? (i := 852) (by decide +kernel), List.mem_of_getElem? (i := 1199) (by decide +kernel), List.mem_of_getElem? (i := 1200) (by decide +kernel)⟩
theorem lw_p69 : lw_okq (⟨"TallShipModel", "sails", "()V"⟩, 53) := ⟨⟨by decide +kernel, by decide +kernel⟩, List.mem_of_getElem? (i := 852) (by decide +kernel), List.mem_of_getElem? (i := 1203) (by decide +kernel), List.mem_of_getElem? (i := 1204) (by decide +kernel)⟩
theorem lw_p70 : lw_okq (⟨"TallShipModel", "loads", "(II)V"⟩, 53) := ⟨⟨by decide +kernel, by decide +kernel⟩, List.mem_of_getElem? (i := 852) (by decide +kernel), List.mem_of_getElem? (i := 1213) (by decide +kernel), List.mem_of_getElem? (i := 1214) (by decide +kernel)⟩
theorem lw_p71 : lw_okq (⟨"TallShipModel", "marksForth", "(I)V"⟩, 53) := ⟨⟨by decide +kernel, by decide +kernel⟩, List.mem_of_getElem? (i := 852) (by decide +kernel), List.mem_of_getElem? (i := 1251) (by decide +kernel), List.mem_of_getElem? (i := 1252) (by decide +kernel)⟩
theorem lw_p72 : lw_okq (⟨"TallShipModel", "leads", "(III)I"⟩, 53) := ⟨⟨by decide +kernel, by decide +kernel⟩, List.mem_of_getElem? (i := 852) (by decide +kernel), List.mem_of_getElem? (i := 1255) (by decide +kernel), List.mem_of_getElem? (i := 1256) (by decide +kernel)⟩
theorem lw_p73 : lw_okq (⟨"TallShipModel", "marksBack", "(I)V"⟩, 53) := ⟨⟨by decide +kernel, by decide +kernel⟩, List.mem_of_getElem? (i := 852) (by decide +kernel), List.mem_of_getElem? (i := 1259) (by decide +kernel), List.mem_of_getElem? (i := 1260) (by decide +kernel)⟩
def lw_privs_5 : List (MethodName × Nat) := [(⟨"TallShipModel", "isBarred", "(II)Z"⟩, 53), (⟨"TallShipModel", "isUnder", "(II)Z"⟩, 53), (⟨"TallShipModel", "isMeant", "(III)Z"⟩, 53), (⟨"TallShipModel", "isOnDeck", "(I)Z"⟩, 53), (⟨"TallShipModel", "carriesOut", "(I)V"⟩, 53), (⟨"TallShipModel", "sails", "()V"⟩, 53), (⟨"TallShipModel", "loads", "(II)V"⟩, 53), (⟨"TallShipModel", "marksForth", "(I)V"⟩, 53), (⟨"TallShipModel", "leads", "(III)I"⟩, 53), (⟨"TallShipModel", "marksBack", "(I)V"⟩, 53)]
theorem lw_r5 : ∀ q ∈ lw_privs_5, lw_okq q := List.forall_mem_cons.mpr ⟨lw_p64, List.forall_mem_cons.mpr ⟨lw_p65, List.forall_mem_cons.mpr ⟨lw_p66, List.forall_mem_cons.mpr ⟨lw_p67, List.forall_mem_cons.mpr ⟨lw_p68, List.forall_mem_cons.mpr ⟨lw_p69, List.forall_mem_cons.mpr ⟨lw_p70, List.forall_mem_cons.mpr ⟨lw_p71, List.forall_mem_cons.mpr ⟨lw_p72, List.forall_mem_cons.mpr ⟨lw_p73, fun _ h => absurd h List.not_mem_nil⟩⟩⟩⟩⟩⟩⟩⟩⟩⟩
def lw_privs : List (MethodName × Nat) := lw_privs_1 ++ (lw_privs_2 ++ (lw_privs_3 ++ (lw_privs_4 ++ (lw_privs_5))))
def lw_tbl : List Cond := k2_sels lw_privs ++ tables_1
theorem lw_privs_ok : ∀ q ∈ lw_privs, lw_okq q := by
  show ∀ q ∈ lw_privs_1 ++ (lw_privs_2 ++ (lw_privs_3 ++ (lw_privs_4 ++ (lw_privs_5)))), lw_okq q
  exact List.forall_mem_append.mpr ⟨lw_r1, List.forall_mem_append.mpr ⟨lw_r2, List.forall_mem_append.mpr ⟨lw_r3, List.forall_mem_append.mpr ⟨lw_r4, lw_r5⟩⟩⟩⟩
def RX0 : String := "TallShip$Compass"
def TX0 : u_T := fun k => match k with
  | _ => ("", "", "", false)
def tyX0 : Nat → FieldType := fun k => match k with
  | _ => .int
theorem nmX0 : ∀ a, a < 0 → ∀ b, b < 0 → a ≠ b → (TX0 a).2.1 ≠ (TX0 b).2.1 := by decide +kernel
theorem tyX0_ok : ∀ k, k < 0 → parseFieldDescriptor (TX0 k).2.2.1 = some (tyX0 k) := by decide +kernel
abbrev cX0_isWind : ByteArray := prog_2_method_2_code
def yX0_isWind : MethodName := ⟨RX0, "isWind", "(II)Z"⟩
abbrev cX0_apart : ByteArray := prog_2_method_3_code
def yX0_apart : MethodName := ⟨RX0, "apart", "(II)I"⟩
abbrev cX0_isAback : ByteArray := prog_2_method_4_code
def yX0_isAback : MethodName := ⟨RX0, "isAback", "(I)Z"⟩
abbrev cX0_pull : ByteArray := prog_2_method_5_code
def yX0_pull : MethodName := ⟨RX0, "pull", "(I)I"⟩
abbrev cX0_best : ByteArray := prog_2_method_6_code
def yX0_best : MethodName := ⟨RX0, "best", "(I)I"⟩
abbrev cX0_north : ByteArray := prog_2_method_7_code
def yX0_north : MethodName := ⟨RX0, "north", "(I)I"⟩
abbrev cX0_east : ByteArray := prog_2_method_8_code
def yX0_east : MethodName := ⟨RX0, "east", "(I)I"⟩
abbrev cX0_turned : ByteArray := prog_2_method_9_code
def yX0_turned : MethodName := ⟨RX0, "turned", "(II)I"⟩
def RX1 : String := "TallShip$Crew"
def TX1 : u_T := fun k => match k with
  | 0 => ("TallShip$Crew", "size", "I", true)
  | 1 => ("TallShip$Crew", "job", "[I", true)
  | 2 => ("TallShip$Crew", "thing", "[I", true)
  | 3 => ("TallShip$Crew", "aim", "[I", true)
  | 4 => ("TallShip$Crew", "end", "[I", true)
  | 5 => ("TallShip$Crew", "lead", "[I", true)
  | 6 => ("TallShip$Crew", "deck", "I", false)
  | _ => ("TallShip$Crew", "works", "I", false)
def tyX1 : Nat → FieldType := fun k => match k with
  | 0 => .int
  | 1 => .array .int
  | 2 => .array .int
  | 3 => .array .int
  | 4 => .array .int
  | 5 => .array .int
  | 6 => .int
  | _ => .int
theorem nmX1 : ∀ a, a < 8 → ∀ b, b < 8 → a ≠ b → (TX1 a).2.1 ≠ (TX1 b).2.1 := by decide +kernel
theorem tyX1_ok : ∀ k, k < 8 → parseFieldDescriptor (TX1 k).2.2.1 = some (tyX1 k) := by decide +kernel
abbrev cX1_init : ByteArray := prog_3_method_1_code
def yX1_init : MethodName := ⟨RX1, "<init>", "(I)V"⟩
abbrev cX1_isFree : ByteArray := prog_3_method_2_code
def yX1_isFree : MethodName := ⟨RX1, "isFree", "(I)Z"⟩
abbrev cX1_isOnDeck : ByteArray := prog_3_method_3_code
def yX1_isOnDeck : MethodName := ⟨RX1, "isOnDeck", "(I)Z"⟩
abbrev cX1_endOf : ByteArray := prog_3_method_4_code
def yX1_endOf : MethodName := ⟨RX1, "endOf", "(I)I"⟩
abbrev cX1_isDue : ByteArray := prog_3_method_5_code
def yX1_isDue : MethodName := ⟨RX1, "isDue", "(II)Z"⟩
abbrev cX1_isReady : ByteArray := prog_3_method_6_code
def yX1_isReady : MethodName := ⟨RX1, "isReady", "(I)Z"⟩
abbrev cX1_muster : ByteArray := prog_3_method_7_code
def yX1_muster : MethodName := ⟨RX1, "muster", "(I)I"⟩
abbrev cX1_assign : ByteArray := prog_3_method_8_code
def yX1_assign : MethodName := ⟨RX1, "assign", "(IIIII)V"⟩
abbrev cX1_release : ByteArray := prog_3_method_9_code
def yX1_release : MethodName := ⟨RX1, "release", "(I)V"⟩
def RX2 : String := "TallShip$Passage"
def TX2 : u_T := fun k => match k with
  | 0 => ("TallShip$Passage", "east", "[I", true)
  | 1 => ("TallShip$Passage", "north", "[I", true)
  | 2 => ("TallShip$Passage", "reached", "[J", true)
  | 3 => ("TallShip$Passage", "leading", "[J", true)
  | 4 => ("TallShip$Passage", "courses", "[I", true)
  | _ => ("TallShip$Passage", "glasses", "I", false)
def tyX2 : Nat → FieldType := fun k => match k with
  | 0 => .array .int
  | 1 => .array .int
  | 2 => .array .long
  | 3 => .array .long
  | 4 => .array .int
  | _ => .int
theorem nmX2 : ∀ a, a < 6 → ∀ b, b < 6 → a ≠ b → (TX2 a).2.1 ≠ (TX2 b).2.1 := by decide +kernel
theorem tyX2_ok : ∀ k, k < 6 → parseFieldDescriptor (TX2 k).2.2.1 = some (tyX2 k) := by decide +kernel
abbrev cX2_init : ByteArray := prog_4_method_1_code
def yX2_init : MethodName := ⟨RX2, "<init>", "()V"⟩
abbrev cX2_tell : ByteArray := prog_4_method_2_code
def yX2_tell : MethodName := ⟨RX2, "tell", "(III)Z"⟩
abbrev cX2_make : ByteArray := prog_4_method_3_code
def yX2_make : MethodName := ⟨RX2, "make", "(II)I"⟩
abbrev cX2_isPlace : ByteArray := prog_4_method_4_code
def yX2_isPlace : MethodName := ⟨RX2, "isPlace", "(II)Z"⟩
abbrev cX2_countGlasses : ByteArray := prog_4_method_5_code
def yX2_countGlasses : MethodName := ⟨RX2, "countGlasses", "(II)I"⟩
abbrev cX2_spread : ByteArray := prog_4_method_6_code
def yX2_spread : MethodName := ⟨RX2, "spread", "(I)V"⟩
abbrev cX2_traceBack : ByteArray := prog_4_method_7_code
def yX2_traceBack : MethodName := ⟨RX2, "traceBack", "(II)V"⟩
abbrev cX2_chooseCourses : ByteArray := prog_4_method_8_code
def yX2_chooseCourses : MethodName := ⟨RX2, "chooseCourses", "()V"⟩
abbrev cX2_leastLeading : ByteArray := prog_4_method_9_code
def yX2_leastLeading : MethodName := ⟨RX2, "leastLeading", "(III)I"⟩
abbrev cX2_clear : ByteArray := prog_4_method_10_code
def yX2_clear : MethodName := ⟨RX2, "clear", "([JI)V"⟩
abbrev cX2_putOnly : ByteArray := prog_4_method_11_code
def yX2_putOnly : MethodName := ⟨RX2, "putOnly", "([JIII)V"⟩
abbrev cX2_has : ByteArray := prog_4_method_12_code
def yX2_has : MethodName := ⟨RX2, "has", "([JIII)Z"⟩
abbrev cX2_move : ByteArray := prog_4_method_13_code
def yX2_move : MethodName := ⟨RX2, "move", "([JIIII)V"⟩
def RX3 : String := "TallShip$Reader"
def TX3 : u_T := fun k => match k with
  | 0 => ("TallShip$Reader", "tape", "LTallShip$Tape;", true)
  | 1 => ("TallShip$Reader", "open", "[I", true)
  | 2 => ("TallShip$Reader", "depth", "I", false)
  | _ => ("TallShip$Reader", "script", "LTallShip$Script;", false)
def tyX3 : Nat → FieldType := fun k => match k with
  | 0 => .object "TallShip$Tape"
  | 1 => .array .int
  | 2 => .int
  | _ => .object "TallShip$Script"
theorem nmX3 : ∀ a, a < 4 → ∀ b, b < 4 → a ≠ b → (TX3 a).2.1 ≠ (TX3 b).2.1 := by decide +kernel
theorem tyX3_ok : ∀ k, k < 4 → parseFieldDescriptor (TX3 k).2.2.1 = some (tyX3 k) := by decide +kernel
abbrev cX3_init : ByteArray := prog_5_method_1_code
def yX3_init : MethodName := ⟨RX3, "<init>", "(LTallShip$Tape;)V"⟩
abbrev cX3_read : ByteArray := prog_5_method_2_code
def yX3_read : MethodName := ⟨RX3, "read", "(LTallShip$Script;)I"⟩
abbrev cX3_isOver : ByteArray := prog_5_method_3_code
def yX3_isOver : MethodName := ⟨RX3, "isOver", "()Z"⟩
abbrev cX3_faultHere : ByteArray := prog_5_method_4_code
def yX3_faultHere : MethodName := ⟨RX3, "faultHere", "(I)I"⟩
abbrev cX3_readClosing : ByteArray := prog_5_method_5_code
def yX3_readClosing : MethodName := ⟨RX3, "readClosing", "()I"⟩
abbrev cX3_readStatement : ByteArray := prog_5_method_6_code
def yX3_readStatement : MethodName := ⟨RX3, "readStatement", "()I"⟩
abbrev cX3_verbHere : ByteArray := prog_5_method_7_code
def yX3_verbHere : MethodName := ⟨RX3, "verbHere", "()I"⟩
abbrev cX3_readOrder : ByteArray := prog_5_method_8_code
def yX3_readOrder : MethodName := ⟨RX3, "readOrder", "(II)I"⟩
abbrev cX3_highestOf : ByteArray := prog_5_method_9_code
def yX3_highestOf : MethodName := ⟨RX3, "highestOf", "(I)I"⟩
abbrev cX3_checkNumber : ByteArray := prog_5_method_10_code
def yX3_checkNumber : MethodName := ⟨RX3, "checkNumber", "(II)I"⟩
abbrev cX3_readSign : ByteArray := prog_5_method_11_code
def yX3_readSign : MethodName := ⟨RX3, "readSign", "(C)I"⟩
abbrev cX3_readCondition : ByteArray := prog_5_method_12_code
def yX3_readCondition : MethodName := ⟨RX3, "readCondition", "(I)I"⟩
abbrev cX3_readSum : ByteArray := prog_5_method_13_code
def yX3_readSum : MethodName := ⟨RX3, "readSum", "(II)I"⟩
abbrev cX3_partHere : ByteArray := prog_5_method_14_code
def yX3_partHere : MethodName := ⟨RX3, "partHere", "()I"⟩
abbrev cX3_readOpening : ByteArray := prog_5_method_15_code
def yX3_readOpening : MethodName := ⟨RX3, "readOpening", "(I)I"⟩
def RX4 : String := "TallShip$Rig"
def TX4 : u_T := fun k => match k with
  | 0 => ("TallShip$Rig", "sailState", "[I", true)
  | 1 => ("TallShip$Rig", "ropeState", "[I", true)
  | 2 => ("TallShip$Rig", "wear", "[I", true)
  | 3 => ("TallShip$Rig", "yards", "[I", true)
  | 4 => ("TallShip$Rig", "sailLead", "[I", true)
  | 5 => ("TallShip$Rig", "ropeLead", "[I", true)
  | 6 => ("TallShip$Rig", "yardLead", "[I", true)
  | _ => ("TallShip$Rig", "parted", "I", false)
def tyX4 : Nat → FieldType := fun k => match k with
  | 0 => .array .int
  | 1 => .array .int
  | 2 => .array .int
  | 3 => .array .int
  | 4 => .array .int
  | 5 => .array .int
  | 6 => .array .int
  | _ => .int
theorem nmX4 : ∀ a, a < 8 → ∀ b, b < 8 → a ≠ b → (TX4 a).2.1 ≠ (TX4 b).2.1 := by decide +kernel
theorem tyX4_ok : ∀ k, k < 8 → parseFieldDescriptor (TX4 k).2.2.1 = some (tyX4 k) := by decide +kernel
abbrev cX4_init : ByteArray := prog_6_method_1_code
def yX4_init : MethodName := ⟨RX4, "<init>", "()V"⟩
abbrev cX4_handsFor : ByteArray := prog_6_method_2_code
def yX4_handsFor : MethodName := ⟨RX4, "handsFor", "(I)I"⟩
abbrev cX4_minutesFor : ByteArray := prog_6_method_3_code
def yX4_minutesFor : MethodName := ⟨RX4, "minutesFor", "(III)I"⟩
abbrev cX4_isBarred : ByteArray := prog_6_method_4_code
def yX4_isBarred : MethodName := ⟨RX4, "isBarred", "(II)Z"⟩
abbrev cX4_isIdle : ByteArray := prog_6_method_5_code
def yX4_isIdle : MethodName := ⟨RX4, "isIdle", "(III)Z"⟩
abbrev cX4_hasParted : ByteArray := prog_6_method_6_code
def yX4_hasParted : MethodName := ⟨RX4, "hasParted", "(I)Z"⟩
abbrev cX4_mark : ByteArray := prog_6_method_7_code
def yX4_mark : MethodName := ⟨RX4, "mark", "(III)V"⟩
abbrev cX4_finish : ByteArray := prog_6_method_8_code
def yX4_finish : MethodName := ⟨RX4, "finish", "(III)V"⟩
abbrev cX4_become : ByteArray := prog_6_method_9_code
def yX4_become : MethodName := ⟨RX4, "become", "(III)V"⟩
abbrev cX4_renew : ByteArray := prog_6_method_10_code
def yX4_renew : MethodName := ⟨RX4, "renew", "(I)V"⟩
abbrev cX4_draw : ByteArray := prog_6_method_11_code
def yX4_draw : MethodName := ⟨RX4, "draw", "(II)I"⟩
abbrev cX4_drawOf : ByteArray := prog_6_method_12_code
def yX4_drawOf : MethodName := ⟨RX4, "drawOf", "(III)I"⟩
abbrev cX4_strain : ByteArray := prog_6_method_13_code
def yX4_strain : MethodName := ⟨RX4, "strain", "(IIZ)Z"⟩
abbrev cX4_strainRope : ByteArray := prog_6_method_14_code
def yX4_strainRope : MethodName := ⟨RX4, "strainRope", "(II)V"⟩
abbrev cX4_lose : ByteArray := prog_6_method_15_code
def yX4_lose : MethodName := ⟨RX4, "lose", "(I)V"⟩
abbrev cX4_greatestWear : ByteArray := prog_6_method_16_code
def yX4_greatestWear : MethodName := ⟨RX4, "greatestWear", "()I"⟩
def RX5 : String := "TallShip$Script"
def TX5 : u_T := fun k => match k with
  | 0 => ("TallShip$Script", "count", "I", false)
  | 1 => ("TallShip$Script", "verb", "[I", true)
  | 2 => ("TallShip$Script", "first", "[I", true)
  | 3 => ("TallShip$Script", "second", "[I", true)
  | 4 => ("TallShip$Script", "parent", "[I", true)
  | 5 => ("TallShip$Script", "middle", "[I", true)
  | 6 => ("TallShip$Script", "end", "[I", true)
  | 7 => ("TallShip$Script", "after", "[I", true)
  | _ => ("TallShip$Script", "weights", "[I", true)
def tyX5 : Nat → FieldType := fun k => match k with
  | 0 => .int
  | 1 => .array .int
  | 2 => .array .int
  | 3 => .array .int
  | 4 => .array .int
  | 5 => .array .int
  | 6 => .array .int
  | 7 => .array .int
  | _ => .array .int
theorem nmX5 : ∀ a, a < 9 → ∀ b, b < 9 → a ≠ b → (TX5 a).2.1 ≠ (TX5 b).2.1 := by decide +kernel
theorem tyX5_ok : ∀ k, k < 9 → parseFieldDescriptor (TX5 k).2.2.1 = some (tyX5 k) := by decide +kernel
abbrev cX5_init : ByteArray := prog_7_method_1_code
def yX5_init : MethodName := ⟨RX5, "<init>", "()V"⟩
abbrev cX5_add : ByteArray := prog_7_method_2_code
def yX5_add : MethodName := ⟨RX5, "add", "(II)I"⟩
abbrev cX5_weigh : ByteArray := prog_7_method_3_code
def yX5_weigh : MethodName := ⟨RX5, "weigh", "(III)V"⟩
abbrev cX5_link : ByteArray := prog_7_method_4_code
def yX5_link : MethodName := ⟨RX5, "link", "()V"⟩
abbrev cX5_blockEnd : ByteArray := prog_7_method_5_code
def yX5_blockEnd : MethodName := ⟨RX5, "blockEnd", "(II)I"⟩
abbrev cX5_whenTrue : ByteArray := prog_7_method_6_code
def yX5_whenTrue : MethodName := ⟨RX5, "whenTrue", "(I)I"⟩
abbrev cX5_whenFalse : ByteArray := prog_7_method_7_code
def yX5_whenFalse : MethodName := ⟨RX5, "whenFalse", "(I)I"⟩
abbrev cX5_isTrue : ByteArray := prog_7_method_8_code
def yX5_isTrue : MethodName := ⟨RX5, "isTrue", "(I[I)Z"⟩
def RX6 : String := "TallShip$Tape"
def TX6 : u_T := fun k => match k with
  | 0 => ("TallShip$Tape", "signs", "[C", true)
  | 1 => ("TallShip$Tape", "length", "I", false)
  | 2 => ("TallShip$Tape", "kind", "I", false)
  | 3 => ("TallShip$Tape", "place", "I", false)
  | 4 => ("TallShip$Tape", "value", "I", false)
  | _ => ("TallShip$Tape", "next", "I", false)
def tyX6 : Nat → FieldType := fun k => match k with
  | 0 => .array .char
  | 1 => .int
  | 2 => .int
  | 3 => .int
  | 4 => .int
  | _ => .int
theorem nmX6 : ∀ a, a < 6 → ∀ b, b < 6 → a ≠ b → (TX6 a).2.1 ≠ (TX6 b).2.1 := by decide +kernel
theorem tyX6_ok : ∀ k, k < 6 → parseFieldDescriptor (TX6 k).2.2.1 = some (tyX6 k) := by decide +kernel
abbrev cX6_init : ByteArray := prog_8_method_1_code
def yX6_init : MethodName := ⟨RX6, "<init>", "()V"⟩
abbrev cX6_addBytes : ByteArray := prog_8_method_2_code
def yX6_addBytes : MethodName := ⟨RX6, "addBytes", "(J)V"⟩
abbrev cX6_rewind : ByteArray := prog_8_method_3_code
def yX6_rewind : MethodName := ⟨RX6, "rewind", "()V"⟩
abbrev cX6_advance : ByteArray := prog_8_method_4_code
def yX6_advance : MethodName := ⟨RX6, "advance", "()V"⟩
abbrev cX6_endOfRun : ByteArray := prog_8_method_5_code
def yX6_endOfRun : MethodName := ⟨RX6, "endOfRun", "(CC)I"⟩
abbrev cX6_numberHere : ByteArray := prog_8_method_6_code
def yX6_numberHere : MethodName := ⟨RX6, "numberHere", "()I"⟩
abbrev cX6_spells : ByteArray := prog_8_method_7_code
def yX6_spells : MethodName := ⟨RX6, "spells", "(Ljava/lang/String;)Z"⟩
abbrev cX6_isSign : ByteArray := prog_8_method_8_code
def yX6_isSign : MethodName := ⟨RX6, "isSign", "(C)Z"⟩
def RX7 : String := "TallShip$Winds"
def TX7 : u_T := fun k => match k with
  | 0 => ("TallShip$Winds", "starts", "[I", true)
  | 1 => ("TallShip$Winds", "points", "[I", true)
  | 2 => ("TallShip$Winds", "forces", "[I", true)
  | 3 => ("TallShip$Winds", "rows", "I", false)
  | 4 => ("TallShip$Winds", "begun", "Z", false)
  | 5 => ("TallShip$Winds", "point", "I", false)
  | _ => ("TallShip$Winds", "force", "I", false)
def tyX7 : Nat → FieldType := fun k => match k with
  | 0 => .array .int
  | 1 => .array .int
  | 2 => .array .int
  | 3 => .int
  | 4 => .boolean
  | 5 => .int
  | _ => .int
theorem nmX7 : ∀ a, a < 7 → ∀ b, b < 7 → a ≠ b → (TX7 a).2.1 ≠ (TX7 b).2.1 := by decide +kernel
theorem tyX7_ok : ∀ k, k < 7 → parseFieldDescriptor (TX7 k).2.2.1 = some (tyX7 k) := by decide +kernel
abbrev cX7_init : ByteArray := prog_9_method_1_code
def yX7_init : MethodName := ⟨RX7, "<init>", "()V"⟩
abbrev cX7_tell : ByteArray := prog_9_method_2_code
def yX7_tell : MethodName := ⟨RX7, "tell", "(III)Z"⟩
abbrev cX7_blow : ByteArray := prog_9_method_3_code
def yX7_blow : MethodName := ⟨RX7, "blow", "(I)V"⟩
abbrev cX7_find : ByteArray := prog_9_method_4_code
def yX7_find : MethodName := ⟨RX7, "find", "(I)V"⟩
def RX8 : String := "TallShip"
def TX8 : u_T := fun k => match k with
  | 0 => ("TallShip", "crew", "LTallShip$Crew;", true)
  | 1 => ("TallShip", "rig", "LTallShip$Rig;", true)
  | 2 => ("TallShip", "winds", "LTallShip$Winds;", true)
  | 3 => ("TallShip", "tape", "LTallShip$Tape;", true)
  | 4 => ("TallShip", "reader", "LTallShip$Reader;", true)
  | 5 => ("TallShip", "passage", "LTallShip$Passage;", true)
  | 6 => ("TallShip", "parts", "[I", true)
  | 7 => ("TallShip", "script", "LTallShip$Script;", false)
  | 8 => ("TallShip", "spare", "LTallShip$Script;", false)
  | 9 => ("TallShip", "at", "I", false)
  | 10 => ("TallShip", "waiting", "I", false)
  | 11 => ("TallShip", "carried", "I", false)
  | 12 => ("TallShip", "minute", "I", false)
  | 13 => ("TallShip", "course", "I", false)
  | 14 => ("TallShip", "wish", "I", false)
  | 15 => ("TallShip", "speed", "I", false)
  | 16 => ("TallShip", "x", "I", false)
  | _ => ("TallShip", "y", "I", false)
def tyX8 : Nat → FieldType := fun k => match k with
  | 0 => .object "TallShip$Crew"
  | 1 => .object "TallShip$Rig"
  | 2 => .object "TallShip$Winds"
  | 3 => .object "TallShip$Tape"
  | 4 => .object "TallShip$Reader"
  | 5 => .object "TallShip$Passage"
  | 6 => .array .int
  | 7 => .object "TallShip$Script"
  | 8 => .object "TallShip$Script"
  | 9 => .int
  | 10 => .int
  | 11 => .int
  | 12 => .int
  | 13 => .int
  | 14 => .int
  | 15 => .int
  | 16 => .int
  | _ => .int
theorem nmX8 : ∀ a, a < 18 → ∀ b, b < 18 → a ≠ b → (TX8 a).2.1 ≠ (TX8 b).2.1 := by decide +kernel
theorem tyX8_ok : ∀ k, k < 18 → parseFieldDescriptor (TX8 k).2.2.1 = some (tyX8 k) := by decide +kernel
abbrev cX8_init : ByteArray := prog_1_method_1_code
def yX8_init : MethodName := ⟨RX8, "<init>", "(I)V"⟩
abbrev cX8_feed : ByteArray := prog_1_method_2_code
def yX8_feed : MethodName := ⟨RX8, "feed", "(JJJ)I"⟩
abbrev cX8_orders : ByteArray := prog_1_method_3_code
def yX8_orders : MethodName := ⟨RX8, "orders", "()I"⟩
abbrev cX8_wind : ByteArray := prog_1_method_4_code
def yX8_wind : MethodName := ⟨RX8, "wind", "(III)Z"⟩
abbrev cX8_minutes : ByteArray := prog_1_method_5_code
def yX8_minutes : MethodName := ⟨RX8, "minutes", "(I)I"⟩
abbrev cX8_sail : ByteArray := prog_1_method_6_code
def yX8_sail : MethodName := ⟨RX8, "sail", "(II)I"⟩
abbrev cX8_rope : ByteArray := prog_1_method_7_code
def yX8_rope : MethodName := ⟨RX8, "rope", "(II)I"⟩
abbrev cX8_braced : ByteArray := prog_1_method_8_code
def yX8_braced : MethodName := ⟨RX8, "braced", "(I)I"⟩
abbrev cX8_hand : ByteArray := prog_1_method_9_code
def yX8_hand : MethodName := ⟨RX8, "hand", "(II)I"⟩
abbrev cX8_look : ByteArray := prog_1_method_10_code
def yX8_look : MethodName := ⟨RX8, "look", "(I)I"⟩
abbrev cX8_foretell : ByteArray := prog_1_method_11_code
def yX8_foretell : MethodName := ⟨RX8, "foretell", "(III)Z"⟩
abbrev cX8_plan : ByteArray := prog_1_method_12_code
def yX8_plan : MethodName := ⟨RX8, "plan", "(II)I"⟩
abbrev cX8_leg : ByteArray := prog_1_method_13_code
def yX8_leg : MethodName := ⟨RX8, "leg", "(I)I"⟩
abbrev cX8_passMinute : ByteArray := prog_1_method_14_code
def yX8_passMinute : MethodName := ⟨RX8, "passMinute", "()V"⟩
abbrev cX8_endWorks : ByteArray := prog_1_method_15_code
def yX8_endWorks : MethodName := ⟨RX8, "endWorks", "()V"⟩
abbrev cX8_carryOut : ByteArray := prog_1_method_16_code
def yX8_carryOut : MethodName := ⟨RX8, "carryOut", "()V"⟩
abbrev cX8_weighParts : ByteArray := prog_1_method_17_code
def yX8_weighParts : MethodName := ⟨RX8, "weighParts", "()V"⟩
abbrev cX8_carryOutOne : ByteArray := prog_1_method_18_code
def yX8_carryOutOne : MethodName := ⟨RX8, "carryOutOne", "(I)Z"⟩
abbrev cX8_beginWork : ByteArray := prog_1_method_19_code
def yX8_beginWork : MethodName := ⟨RX8, "beginWork", "(III)Z"⟩
abbrev cX8_changeSpeed : ByteArray := prog_1_method_20_code
def yX8_changeSpeed : MethodName := ⟨RX8, "changeSpeed", "(I)V"⟩
abbrev cX8_strainSails : ByteArray := prog_1_method_21_code
def yX8_strainSails : MethodName := ⟨RX8, "strainSails", "(Z)V"⟩
def RX9 : String := "TallShipModel"
def TX9 : u_T := fun k => match k with
  | 0 => ("TallShipModel", "thrown", "I", false)
  | 1 => ("TallShipModel", "tape", "[I", true)
  | 2 => ("TallShipModel", "taped", "I", false)
  | 3 => ("TallShipModel", "size", "I", false)
  | 4 => ("TallShipModel", "sort", "[I", true)
  | 5 => ("TallShipModel", "place", "[I", true)
  | 6 => ("TallShipModel", "value", "[J", true)
  | 7 => ("TallShipModel", "at", "I", false)
  | 8 => ("TallShipModel", "fault", "I", false)
  | 9 => ("TallShipModel", "words", "[J", true)
  | 10 => ("TallShipModel", "op", "[I", true)
  | 11 => ("TallShipModel", "one", "[I", true)
  | 12 => ("TallShipModel", "two", "[I", true)
  | 13 => ("TallShipModel", "holds", "I", false)
  | 14 => ("TallShipModel", "next", "I", false)
  | 15 => ("TallShipModel", "codes", "I", false)
  | 16 => ("TallShipModel", "statements", "[I", true)
  | 17 => ("TallShipModel", "deep", "I", false)
  | 18 => ("TallShipModel", "hands", "I", true)
  | 19 => ("TallShipModel", "sail", "[I", true)
  | 20 => ("TallShipModel", "rope", "[I", true)
  | 21 => ("TallShipModel", "wear", "[I", true)
  | 22 => ("TallShipModel", "braced", "[I", true)
  | 23 => ("TallShipModel", "workOf", "[I", true)
  | 24 => ("TallShipModel", "work", "[I", true)
  | 25 => ("TallShipModel", "about", "[I", true)
  | 26 => ("TallShipModel", "target", "[I", true)
  | 27 => ("TallShipModel", "ends", "[I", true)
  | 28 => ("TallShipModel", "deck", "I", false)
  | 29 => ("TallShipModel", "minute", "I", false)
  | 30 => ("TallShipModel", "course", "I", false)
  | 31 => ("TallShipModel", "wish", "I", false)
  | 32 => ("TallShipModel", "speed", "I", false)
  | 33 => ("TallShipModel", "placeX", "I", false)
  | 34 => ("TallShipModel", "placeY", "I", false)
  | 35 => ("TallShipModel", "parted", "I", false)
  | 36 => ("TallShipModel", "done", "I", false)
  | 37 => ("TallShipModel", "pc", "I", false)
  | 38 => ("TallShipModel", "waitsTo", "I", false)
  | 39 => ("TallShipModel", "winds", "I", false)
  | 40 => ("TallShipModel", "windMinute", "[I", true)
  | 41 => ("TallShipModel", "windPoint", "[I", true)
  | 42 => ("TallShipModel", "windForce", "[I", true)
  | 43 => ("TallShipModel", "latestPoint", "I", false)
  | 44 => ("TallShipModel", "latestForce", "I", false)
  | 45 => ("TallShipModel", "pile", "[I", true)
  | 46 => ("TallShipModel", "top", "I", false)
  | 47 => ("TallShipModel", "toldPoint", "[I", true)
  | 48 => ("TallShipModel", "toldForce", "[I", true)
  | 49 => ("TallShipModel", "forth", "[Z", true)
  | 50 => ("TallShipModel", "back", "[Z", true)
  | 51 => ("TallShipModel", "legs", "I", false)
  | _ => ("TallShipModel", "leg", "[I", true)
def tyX9 : Nat → FieldType := fun k => match k with
  | 0 => .int
  | 1 => .array .int
  | 2 => .int
  | 3 => .int
  | 4 => .array .int
  | 5 => .array .int
  | 6 => .array .long
  | 7 => .int
  | 8 => .int
  | 9 => .array .long
  | 10 => .array .int
  | 11 => .array .int
  | 12 => .array .int
  | 13 => .int
  | 14 => .int
  | 15 => .int
  | 16 => .array .int
  | 17 => .int
  | 18 => .int
  | 19 => .array .int
  | 20 => .array .int
  | 21 => .array .int
  | 22 => .array .int
  | 23 => .array .int
  | 24 => .array .int
  | 25 => .array .int
  | 26 => .array .int
  | 27 => .array .int
  | 28 => .int
  | 29 => .int
  | 30 => .int
  | 31 => .int
  | 32 => .int
  | 33 => .int
  | 34 => .int
  | 35 => .int
  | 36 => .int
  | 37 => .int
  | 38 => .int
  | 39 => .int
  | 40 => .array .int
  | 41 => .array .int
  | 42 => .array .int
  | 43 => .int
  | 44 => .int
  | 45 => .array .int
  | 46 => .int
  | 47 => .array .int
  | 48 => .array .int
  | 49 => .array .boolean
  | 50 => .array .boolean
  | 51 => .int
  | _ => .array .int
theorem nmX9 : ∀ a, a < 53 → ∀ b, b < 53 → a ≠ b → (TX9 a).2.1 ≠ (TX9 b).2.1 := by decide +kernel
theorem tyX9_ok : ∀ k, k < 53 → parseFieldDescriptor (TX9 k).2.2.1 = some (tyX9 k) := by decide +kernel
abbrev cX9_thrown : ByteArray := prog_11_method_1_code
def yX9_thrown : MethodName := ⟨RX9, "thrown", "()I"⟩
abbrev cX9_feed : ByteArray := prog_11_method_2_code
def yX9_feed : MethodName := ⟨RX9, "feed", "(JJJ)I"⟩
abbrev cX9_lay : ByteArray := prog_11_method_3_code
def yX9_lay : MethodName := ⟨RX9, "lay", "(J)V"⟩
abbrev cX9_init : ByteArray := prog_11_method_4_code
def yX9_init : MethodName := ⟨RX9, "<init>", "(I)V"⟩
abbrev cX9_isLetter : ByteArray := prog_11_method_5_code
def yX9_isLetter : MethodName := ⟨RX9, "isLetter", "(I)Z"⟩
abbrev cX9_isDigit : ByteArray := prog_11_method_6_code
def yX9_isDigit : MethodName := ⟨RX9, "isDigit", "(I)Z"⟩
abbrev cX9_rank : ByteArray := prog_11_method_7_code
def yX9_rank : MethodName := ⟨RX9, "rank", "(I)I"⟩
abbrev cX9_isSignOf : ByteArray := prog_11_method_8_code
def yX9_isSignOf : MethodName := ⟨RX9, "isSignOf", "(I)Z"⟩
abbrev cX9_cutAll : ByteArray := prog_11_method_9_code
def yX9_cutAll : MethodName := ⟨RX9, "cutAll", "()V"⟩
abbrev cX9_wrong : ByteArray := prog_11_method_10_code
def yX9_wrong : MethodName := ⟨RX9, "wrong", "(I)V"⟩
abbrev cX9_isSign : ByteArray := prog_11_method_11_code
def yX9_isSign : MethodName := ⟨RX9, "isSign", "(I)Z"⟩
abbrev cX9_isWord : ByteArray := prog_11_method_12_code
def yX9_isWord : MethodName := ⟨RX9, "isWord", "(I)Z"⟩
abbrev cX9_takeSign : ByteArray := prog_11_method_13_code
def yX9_takeSign : MethodName := ⟨RX9, "takeSign", "(I)V"⟩
abbrev cX9_hasWord : ByteArray := prog_11_method_15_code
def yX9_hasWord : MethodName := ⟨RX9, "hasWord", "(I)Z"⟩
abbrev cX9_takeNumber : ByteArray := prog_11_method_17_code
def yX9_takeNumber : MethodName := ⟨RX9, "takeNumber", "(II)I"⟩
abbrev cX9_emit : ByteArray := prog_11_method_18_code
def yX9_emit : MethodName := ⟨RX9, "emit", "(III)I"⟩
abbrev cX9_here : ByteArray := prog_11_method_19_code
def yX9_here : MethodName := ⟨RX9, "here", "()I"⟩
abbrev cX9_orders : ByteArray := prog_11_method_20_code
def yX9_orders : MethodName := ⟨RX9, "orders", "()I"⟩
abbrev cX9_statement : ByteArray := prog_11_method_21_code
def yX9_statement : MethodName := ⟨RX9, "statement", "()V"⟩
abbrev cX9_choice : ByteArray := prog_11_method_22_code
def yX9_choice : MethodName := ⟨RX9, "choice", "(II)V"⟩
abbrev cX9_block : ByteArray := prog_11_method_23_code
def yX9_block : MethodName := ⟨RX9, "block", "()V"⟩
abbrev cX9_expression : ByteArray := prog_11_method_24_code
def yX9_expression : MethodName := ⟨RX9, "expression", "()V"⟩
abbrev cX9_sum : ByteArray := prog_11_method_25_code
def yX9_sum : MethodName := ⟨RX9, "sum", "()V"⟩
abbrev cX9_part : ByteArray := prog_11_method_26_code
def yX9_part : MethodName := ⟨RX9, "part", "()V"⟩
abbrev cX9_wind : ByteArray := prog_11_method_27_code
def yX9_wind : MethodName := ⟨RX9, "wind", "(III)Z"⟩
abbrev cX9_windNow : ByteArray := prog_11_method_28_code
def yX9_windNow : MethodName := ⟨RX9, "windNow", "()I"⟩
abbrev cX9_point : ByteArray := prog_11_method_29_code
def yX9_point : MethodName := ⟨RX9, "point", "()I"⟩
abbrev cX9_force : ByteArray := prog_11_method_30_code
def yX9_force : MethodName := ⟨RX9, "force", "()I"⟩
abbrev cX9_apart : ByteArray := prog_11_method_31_code
def yX9_apart : MethodName := ⟨RX9, "apart", "(II)I"⟩
abbrev cX9_table : ByteArray := prog_11_method_32_code
def yX9_table : MethodName := ⟨RX9, "table", "(I)I"⟩
abbrev cX9_area : ByteArray := prog_11_method_33_code
def yX9_area : MethodName := ⟨RX9, "area", "(I)I"⟩
abbrev cX9_minutesOf : ByteArray := prog_11_method_34_code
def yX9_minutesOf : MethodName := ⟨RX9, "minutesOf", "(III)I"⟩
abbrev cX9_handsOf : ByteArray := prog_11_method_35_code
def yX9_handsOf : MethodName := ⟨RX9, "handsOf", "(I)I"⟩
abbrev cX9_isUnder : ByteArray := prog_11_method_36_code
def yX9_isUnder : MethodName := ⟨RX9, "isUnder", "(II)Z"⟩
abbrev cX9_isBarred : ByteArray := prog_11_method_37_code
def yX9_isBarred : MethodName := ⟨RX9, "isBarred", "(II)Z"⟩
abbrev cX9_isMeant : ByteArray := prog_11_method_38_code
def yX9_isMeant : MethodName := ⟨RX9, "isMeant", "(III)Z"⟩
abbrev cX9_isOnDeck : ByteArray := prog_11_method_39_code
def yX9_isOnDeck : MethodName := ⟨RX9, "isOnDeck", "(I)Z"⟩
abbrev cX9_begins : ByteArray := prog_11_method_40_code
def yX9_begins : MethodName := ⟨RX9, "begins", "(III)Z"⟩
abbrev cX9_gives : ByteArray := prog_11_method_41_code
def yX9_gives : MethodName := ⟨RX9, "gives", "(I)V"⟩
abbrev cX9_endWorks : ByteArray := prog_11_method_42_code
def yX9_endWorks : MethodName := ⟨RX9, "endWorks", "()V"⟩
abbrev cX9_ended : ByteArray := prog_11_method_43_code
def yX9_ended : MethodName := ⟨RX9, "ended", "(III)V"⟩
abbrev cX9_partOf : ByteArray := prog_11_method_44_code
def yX9_partOf : MethodName := ⟨RX9, "partOf", "(I)I"⟩
abbrev cX9_loadNow : ByteArray := prog_11_method_45_code
def yX9_loadNow : MethodName := ⟨RX9, "loadNow", "()I"⟩
abbrev cX9_carries : ByteArray := prog_11_method_46_code
def yX9_carries : MethodName := ⟨RX9, "carries", "()V"⟩
abbrev cX9_carriesOut : ByteArray := prog_11_method_47_code
def yX9_carriesOut : MethodName := ⟨RX9, "carriesOut", "(I)V"⟩
abbrev cX9_reckons : ByteArray := prog_11_method_48_code
def yX9_reckons : MethodName := ⟨RX9, "reckons", "(II)V"⟩
abbrev cX9_dy : ByteArray := prog_11_method_49_code
def yX9_dy : MethodName := ⟨RX9, "dy", "(I)I"⟩
abbrev cX9_dx : ByteArray := prog_11_method_50_code
def yX9_dx : MethodName := ⟨RX9, "dx", "(I)I"⟩
abbrev cX9_sails : ByteArray := prog_11_method_51_code
def yX9_sails : MethodName := ⟨RX9, "sails", "()V"⟩
abbrev cX9_loads : ByteArray := prog_11_method_52_code
def yX9_loads : MethodName := ⟨RX9, "loads", "(II)V"⟩
abbrev cX9_goes : ByteArray := prog_11_method_53_code
def yX9_goes : MethodName := ⟨RX9, "goes", "()V"⟩
abbrev cX9_minutes : ByteArray := prog_11_method_54_code
def yX9_minutes : MethodName := ⟨RX9, "minutes", "(I)I"⟩
abbrev cX9_sail : ByteArray := prog_11_method_55_code
def yX9_sail : MethodName := ⟨RX9, "sail", "(II)I"⟩
abbrev cX9_rope : ByteArray := prog_11_method_56_code
def yX9_rope : MethodName := ⟨RX9, "rope", "(II)I"⟩
abbrev cX9_braced : ByteArray := prog_11_method_57_code
def yX9_braced : MethodName := ⟨RX9, "braced", "(I)I"⟩
abbrev cX9_hand : ByteArray := prog_11_method_58_code
def yX9_hand : MethodName := ⟨RX9, "hand", "(II)I"⟩
abbrev cX9_look : ByteArray := prog_11_method_59_code
def yX9_look : MethodName := ⟨RX9, "look", "(I)I"⟩
abbrev cX9_foretell : ByteArray := prog_11_method_60_code
def yX9_foretell : MethodName := ⟨RX9, "foretell", "(III)Z"⟩
abbrev cX9_leads : ByteArray := prog_11_method_61_code
def yX9_leads : MethodName := ⟨RX9, "leads", "(III)I"⟩
abbrev cX9_marksForth : ByteArray := prog_11_method_62_code
def yX9_marksForth : MethodName := ⟨RX9, "marksForth", "(I)V"⟩
abbrev cX9_marksBack : ByteArray := prog_11_method_63_code
def yX9_marksBack : MethodName := ⟨RX9, "marksBack", "(I)V"⟩
abbrev cX9_plan : ByteArray := prog_11_method_64_code
def yX9_plan : MethodName := ⟨RX9, "plan", "(II)I"⟩
abbrev cX9_leg : ByteArray := prog_11_method_65_code
def yX9_leg : MethodName := ⟨RX9, "leg", "(I)I"⟩
def RJ9 : String := "java/lang/Math"
abbrev cJ9_abs_0f7a4 : ByteArray := prog_13_method_59_code
def yJ9_abs_0f7a4 : MethodName := ⟨RJ9, "abs", "(I)I"⟩
abbrev cJ9_max_7cf53 : ByteArray := prog_13_method_65_code
def yJ9_max_7cf53 : MethodName := ⟨RJ9, "max", "(II)I"⟩
abbrev cJ9_min_7cf53 : ByteArray := prog_13_method_69_code
def yJ9_min_7cf53 : MethodName := ⟨RJ9, "min", "(II)I"⟩
def RJ0 : String := "java/lang/String"
abbrev cJ0_length_8abf5 : ByteArray := prog_15_method_54_code
def yJ0_length_8abf5 : MethodName := ⟨RJ0, "length", "()I"⟩
abbrev cJ0_charAt_5068e : ByteArray := prog_15_method_56_code
def yJ0_charAt_5068e : MethodName := ⟨RJ0, "charAt", "(I)C"⟩
abbrev cJ0_coder_7d493 : ByteArray := prog_15_method_152_code
def yJ0_coder_7d493 : MethodName := ⟨RJ0, "coder", "()B"⟩
abbrev cJ0_isLatin1_aae02 : ByteArray := prog_15_method_154_code
def yJ0_isLatin1_aae02 : MethodName := ⟨RJ0, "isLatin1", "()Z"⟩
abbrev cJ0_checkIndex_df160 : ByteArray := prog_15_method_155_code
def yJ0_checkIndex_df160 : MethodName := ⟨RJ0, "checkIndex", "(II)V"⟩
def RJ1 : String := "java/lang/StringLatin1"
abbrev cJ1_charAt_3b067 : ByteArray := prog_16_method_2_code
def yJ1_charAt_3b067 : MethodName := ⟨RJ1, "charAt", "([BI)C"⟩
def RJ2 : String := "java/lang/StringUTF16"
abbrev cJ2_getChar_3b067 : ByteArray := prog_17_method_5_code
def yJ2_getChar_3b067 : MethodName := ⟨RJ2, "getChar", "([BI)C"⟩
abbrev cJ2_length_9d52b : ByteArray := prog_17_method_6_code
def yJ2_length_9d52b : MethodName := ⟨RJ2, "length", "([B)I"⟩
abbrev cJ2_charAt_3b067 : ByteArray := prog_17_method_83_code
def yJ2_charAt_3b067 : MethodName := ⟨RJ2, "charAt", "([BI)C"⟩
abbrev cJ2_checkIndex_2214a : ByteArray := prog_17_method_91_code
def yJ2_checkIndex_2214a : MethodName := ⟨RJ2, "checkIndex", "(I[B)V"⟩
def RJ3 : String := "jdk/internal/util/Preconditions"
abbrev cJ3_checkIndex_8e157 : ByteArray := prog_20_method_11_code
def yJ3_checkIndex_8e157 : MethodName := ⟨RJ3, "checkIndex", "(IILjava/util/function/BiFunction;)I"⟩
def RL : String := "TallShipLaw"
abbrev cL_cell : ByteArray := method_2_code
def yL_cell : MethodName := ⟨RL, "cell", "([II)I"⟩
abbrev cL_hand : ByteArray := method_3_code
def yL_hand : MethodName := ⟨RL, "hand", "(LTallShip;II[J)I"⟩
abbrev cL_law : ByteArray := code
def yL_law : MethodName := ⟨RL, "law", "([I)Z"⟩
abbrev vwCl : List vw_C := [(RX1, TX1, 8), (RX2, TX2, 6), (RX3, TX3, 4), (RX4, TX4, 8), (RX5, TX5, 9), (RX6, TX6, 6), (RX7, TX7, 7), (RX8, TX8, 18), (RX9, TX9, 53)]
