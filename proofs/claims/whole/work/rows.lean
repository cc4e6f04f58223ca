section
-- ===== PART A: goes FIRST, ahead of the names: the tables' words, and 'selects' of the private methods out of them =====
/-- a private method of a class that the tables say can be made, by its rows of tables_1 -/
def lw_okq (q : MethodName × Nat) : Prop := (q.1.cls ≠ "java/lang/invoke/MethodHandle" ∧ q.1.cls ≠ "java/lang/invoke/VarHandle") ∧ Cond.instantiable q.1.cls q.2 ∈ tables_1 ∧ Cond.privateMethod q.1 ∈ tables_1 ∧ Cond.instanceMethod q.1 ∈ tables_1
theorem lw_p0 : lw_okq (⟨"TallShip$Tape", "endOfRun", "(CC)I"⟩, 6) := ⟨⟨by decide +kernel, by decide +kernel⟩, List.mem_of_getElem? (i := 98) (by decide +kernel), List.mem_of_getElem? (i := 336) (by decide +kernel), List.mem_of_getElem? (i := 337) (by decide +kernel)⟩
theorem lw_p1 : lw_okq (⟨"TallShip$Tape", "numberHere", "()I"⟩, 6) := ⟨⟨by decide +kernel, by decide +kernel⟩, List.mem_of_getElem? (i := 98) (by decide +kernel), List.mem_of_getElem? (i := 340) (by decide +kernel), List.mem_of_getElem? (i := 341) (by decide +kernel)⟩
theorem lw_p2 : lw_okq (⟨"TallShip$Reader", "isOver", "()Z"⟩, 4) := ⟨⟨by decide +kernel, by decide +kernel⟩, List.mem_of_getElem? (i := 128) (by decide +kernel), List.mem_of_getElem? (i := 347) (by decide +kernel), List.mem_of_getElem? (i := 348) (by decide +kernel)⟩
theorem lw_p3 : lw_okq (⟨"TallShip$Reader", "readClosing", "()I"⟩, 4) := ⟨⟨by decide +kernel, by decide +kernel⟩, List.mem_of_getElem? (i := 128) (by decide +kernel), List.mem_of_getElem? (i := 351) (by decide +kernel), List.mem_of_getElem? (i := 352) (by decide +kernel)⟩
theorem lw_p4 : lw_okq (⟨"TallShip$Reader", "readSign", "(C)I"⟩, 4) := ⟨⟨by decide +kernel, by decide +kernel⟩, List.mem_of_getElem? (i := 128) (by decide +kernel), List.mem_of_getElem? (i := 409) (by decide +kernel), List.mem_of_getElem? (i := 410) (by decide +kernel)⟩
theorem lw_p5 : lw_okq (⟨"TallShip$Reader", "faultHere", "(I)I"⟩, 4) := ⟨⟨by decide +kernel, by decide +kernel⟩, List.mem_of_getElem? (i := 128) (by decide +kernel), List.mem_of_getElem? (i := 413) (by decide +kernel), List.mem_of_getElem? (i := 414) (by decide +kernel)⟩
theorem lw_p6 : lw_okq (⟨"TallShip$Reader", "readStatement", "()I"⟩, 4) := ⟨⟨by decide +kernel, by decide +kernel⟩, List.mem_of_getElem? (i := 128) (by decide +kernel), List.mem_of_getElem? (i := 417) (by decide +kernel), List.mem_of_getElem? (i := 418) (by decide +kernel)⟩
theorem lw_p7 : lw_okq (⟨"TallShip$Reader", "verbHere", "()I"⟩, 4) := ⟨⟨by decide +kernel, by decide +kernel⟩, List.mem_of_getElem? (i := 128) (by decide +kernel), List.mem_of_getElem? (i := 421) (by decide +kernel), List.mem_of_getElem? (i := 422) (by decide +kernel)⟩
theorem lw_p8 : lw_okq (⟨"TallShip$Reader", "readCondition", "(I)I"⟩, 4) := ⟨⟨by decide +kernel, by decide +kernel⟩, List.mem_of_getElem? (i := 128) (by decide +kernel), List.mem_of_getElem? (i := 438) (by decide +kernel), List.mem_of_getElem? (i := 439) (by decide +kernel)⟩
theorem lw_p9 : lw_okq (⟨"TallShip$Reader", "readSum", "(II)I"⟩, 4) := ⟨⟨by decide +kernel, by decide +kernel⟩, List.mem_of_getElem? (i := 128) (by decide +kernel), List.mem_of_getElem? (i := 442) (by decide +kernel), List.mem_of_getElem? (i := 443) (by decide +kernel)⟩
theorem lw_p10 : lw_okq (⟨"TallShip$Reader", "partHere", "()I"⟩, 4) := ⟨⟨by decide +kernel, by decide +kernel⟩, List.mem_of_getElem? (i := 128) (by decide +kernel), List.mem_of_getElem? (i := 446) (by decide +kernel), List.mem_of_getElem? (i := 447) (by decide +kernel)⟩
theorem lw_p11 : lw_okq (⟨"TallShip$Reader", "readOpening", "(I)I"⟩, 4) := ⟨⟨by decide +kernel, by decide +kernel⟩, List.mem_of_getElem? (i := 128) (by decide +kernel), List.mem_of_getElem? (i := 461) (by decide +kernel), List.mem_of_getElem? (i := 462) (by decide +kernel)⟩
theorem lw_p12 : lw_okq (⟨"TallShip$Reader", "readOrder", "(II)I"⟩, 4) := ⟨⟨by decide +kernel, by decide +kernel⟩, List.mem_of_getElem? (i := 128) (by decide +kernel), List.mem_of_getElem? (i := 465) (by decide +kernel), List.mem_of_getElem? (i := 466) (by decide +kernel)⟩
theorem lw_p13 : lw_okq (⟨"TallShip$Reader", "checkNumber", "(II)I"⟩, 4) := ⟨⟨by decide +kernel, by decide +kernel⟩, List.mem_of_getElem? (i := 128) (by decide +kernel), List.mem_of_getElem? (i := 473) (by decide +kernel), List.mem_of_getElem? (i := 474) (by decide +kernel)⟩
theorem lw_p14 : lw_okq (⟨"TallShip$Script", "blockEnd", "(II)I"⟩, 9) := ⟨⟨by decide +kernel, by decide +kernel⟩, List.mem_of_getElem? (i := 175) (by decide +kernel), List.mem_of_getElem? (i := 481) (by decide +kernel), List.mem_of_getElem? (i := 482) (by decide +kernel)⟩
theorem lw_p15 : lw_okq (⟨"TallShip$Winds", "find", "(I)V"⟩, 7) := ⟨⟨by decide +kernel, by decide +kernel⟩, List.mem_of_getElem? (i := 68) (by decide +kernel), List.mem_of_getElem? (i := 498) (by decide +kernel), List.mem_of_getElem? (i := 499) (by decide +kernel)⟩
def lw_privs_1 : List (MethodName × Nat) := [(⟨"TallShip$Tape", "endOfRun", "(CC)I"⟩, 6), (⟨"TallShip$Tape", "numberHere", "()I"⟩, 6), (⟨"TallShip$Reader", "isOver", "()Z"⟩, 4), (⟨"TallShip$Reader", "readClosing", "()I"⟩, 4), (⟨"TallShip$Reader", "readSign", "(C)I"⟩, 4), (⟨"TallShip$Reader", "faultHere", "(I)I"⟩, 4), (⟨"TallShip$Reader", "readStatement", "()I"⟩, 4), (⟨"TallShip$Reader", "verbHere", "()I"⟩, 4), (⟨"TallShip$Reader", "readCondition", "(I)I"⟩, 4), (⟨"TallShip$Reader", "readSum", "(II)I"⟩, 4), (⟨"TallShip$Reader", "partHere", "()I"⟩, 4), (⟨"TallShip$Reader", "readOpening", "(I)I"⟩, 4), (⟨"TallShip$Reader", "readOrder", "(II)I"⟩, 4), (⟨"TallShip$Reader", "checkNumber", "(II)I"⟩, 4), (⟨"TallShip$Script", "blockEnd", "(II)I"⟩, 9), (⟨"TallShip$Winds", "find", "(I)V"⟩, 7)]
theorem lw_r1 : ∀ q ∈ lw_privs_1, lw_okq q := List.forall_mem_cons.mpr ⟨lw_p0, List.forall_mem_cons.mpr ⟨lw_p1, List.forall_mem_cons.mpr ⟨lw_p2, List.forall_mem_cons.mpr ⟨lw_p3, List.forall_mem_cons.mpr ⟨lw_p4, List.forall_mem_cons.mpr ⟨lw_p5, List.forall_mem_cons.mpr ⟨lw_p6, List.forall_mem_cons.mpr ⟨lw_p7, List.forall_mem_cons.mpr ⟨lw_p8, List.forall_mem_cons.mpr ⟨lw_p9, List.forall_mem_cons.mpr ⟨lw_p10, List.forall_mem_cons.mpr ⟨lw_p11, List.forall_mem_cons.mpr ⟨lw_p12, List.forall_mem_cons.mpr ⟨lw_p13, List.forall_mem_cons.mpr ⟨lw_p14, List.forall_mem_cons.mpr ⟨lw_p15, fun _ h => absurd h List.not_mem_nil⟩⟩⟩⟩⟩⟩⟩⟩⟩⟩⟩⟩⟩⟩⟩⟩
theorem lw_p16 : lw_okq (⟨"TallShip", "passMinute", "()V"⟩, 18) := ⟨⟨by decide +kernel, by decide +kernel⟩, List.mem_of_getElem? (i := 21) (by decide +kernel), List.mem_of_getElem? (i := 506) (by decide +kernel), List.mem_of_getElem? (i := 507) (by decide +kernel)⟩
theorem lw_p17 : lw_okq (⟨"TallShip", "endWorks", "()V"⟩, 18) := ⟨⟨by decide +kernel, by decide +kernel⟩, List.mem_of_getElem? (i := 21) (by decide +kernel), List.mem_of_getElem? (i := 514) (by decide +kernel), List.mem_of_getElem? (i := 515) (by decide +kernel)⟩
theorem lw_p18 : lw_okq (⟨"TallShip$Rig", "become", "(III)V"⟩, 8) := ⟨⟨by decide +kernel, by decide +kernel⟩, List.mem_of_getElem? (i := 29) (by decide +kernel), List.mem_of_getElem? (i := 530) (by decide +kernel), List.mem_of_getElem? (i := 531) (by decide +kernel)⟩
theorem lw_p19 : lw_okq (⟨"TallShip$Rig", "renew", "(I)V"⟩, 8) := ⟨⟨by decide +kernel, by decide +kernel⟩, List.mem_of_getElem? (i := 29) (by decide +kernel), List.mem_of_getElem? (i := 534) (by decide +kernel), List.mem_of_getElem? (i := 535) (by decide +kernel)⟩
theorem lw_p20 : lw_okq (⟨"TallShip$Rig", "hasParted", "(I)Z"⟩, 8) := ⟨⟨by decide +kernel, by decide +kernel⟩, List.mem_of_getElem? (i := 29) (by decide +kernel), List.mem_of_getElem? (i := 538) (by decide +kernel), List.mem_of_getElem? (i := 539) (by decide +kernel)⟩
theorem lw_p21 : lw_okq (⟨"TallShip", "carryOut", "()V"⟩, 18) := ⟨⟨by decide +kernel, by decide +kernel⟩, List.mem_of_getElem? (i := 21) (by decide +kernel), List.mem_of_getElem? (i := 546) (by decide +kernel), List.mem_of_getElem? (i := 547) (by decide +kernel)⟩
theorem lw_p22 : lw_okq (⟨"TallShip", "weighParts", "()V"⟩, 18) := ⟨⟨by decide +kernel, by decide +kernel⟩, List.mem_of_getElem? (i := 21) (by decide +kernel), List.mem_of_getElem? (i := 550) (by decide +kernel), List.mem_of_getElem? (i := 551) (by decide +kernel)⟩
theorem lw_p23 : lw_okq (⟨"TallShip", "carryOutOne", "(I)Z"⟩, 18) := ⟨⟨by decide +kernel, by decide +kernel⟩, List.mem_of_getElem? (i := 21) (by decide +kernel), List.mem_of_getElem? (i := 570) (by decide +kernel), List.mem_of_getElem? (i := 571) (by decide +kernel)⟩
theorem lw_p24 : lw_okq (⟨"TallShip", "beginWork", "(III)Z"⟩, 18) := ⟨⟨by decide +kernel, by decide +kernel⟩, List.mem_of_getElem? (i := 21) (by decide +kernel), List.mem_of_getElem? (i := 586) (by decide +kernel), List.mem_of_getElem? (i := 587) (by decide +kernel)⟩
theorem lw_p25 : lw_okq (⟨"TallShip$Crew", "isReady", "(I)Z"⟩, 8) := ⟨⟨by decide +kernel, by decide +kernel⟩, List.mem_of_getElem? (i := 220) (by decide +kernel), List.mem_of_getElem? (i := 607) (by decide +kernel), List.mem_of_getElem? (i := 608) (by decide +kernel)⟩
theorem lw_p26 : lw_okq (⟨"TallShip$Rig", "drawOf", "(III)I"⟩, 8) := ⟨⟨by decide +kernel, by decide +kernel⟩, List.mem_of_getElem? (i := 29) (by decide +kernel), List.mem_of_getElem? (i := 634) (by decide +kernel), List.mem_of_getElem? (i := 635) (by decide +kernel)⟩
theorem lw_p27 : lw_okq (⟨"TallShip", "changeSpeed", "(I)V"⟩, 18) := ⟨⟨by decide +kernel, by decide +kernel⟩, List.mem_of_getElem? (i := 21) (by decide +kernel), List.mem_of_getElem? (i := 649) (by decide +kernel), List.mem_of_getElem? (i := 650) (by decide +kernel)⟩
theorem lw_p28 : lw_okq (⟨"TallShip", "strainSails", "(Z)V"⟩, 18) := ⟨⟨by decide +kernel, by decide +kernel⟩, List.mem_of_getElem? (i := 21) (by decide +kernel), List.mem_of_getElem? (i := 655) (by decide +kernel), List.mem_of_getElem? (i := 656) (by decide +kernel)⟩
theorem lw_p29 : lw_okq (⟨"TallShip$Rig", "strainRope", "(II)V"⟩, 8) := ⟨⟨by decide +kernel, by decide +kernel⟩, List.mem_of_getElem? (i := 29) (by decide +kernel), List.mem_of_getElem? (i := 663) (by decide +kernel), List.mem_of_getElem? (i := 664) (by decide +kernel)⟩
theorem lw_p30 : lw_okq (⟨"TallShip$Passage", "countGlasses", "(II)I"⟩, 6) := ⟨⟨by decide +kernel, by decide +kernel⟩, List.mem_of_getElem? (i := 147) (by decide +kernel), List.mem_of_getElem? (i := 721) (by decide +kernel), List.mem_of_getElem? (i := 722) (by decide +kernel)⟩
theorem lw_p31 : lw_okq (⟨"TallShip$Passage", "spread", "(I)V"⟩, 6) := ⟨⟨by decide +kernel, by decide +kernel⟩, List.mem_of_getElem? (i := 147) (by decide +kernel), List.mem_of_getElem? (i := 734) (by decide +kernel), List.mem_of_getElem? (i := 735) (by decide +kernel)⟩
def lw_privs_2 : List (MethodName × Nat) := [(⟨"TallShip", "passMinute", "()V"⟩, 18), (⟨"TallShip", "endWorks", "()V"⟩, 18), (⟨"TallShip$Rig", "become", "(III)V"⟩, 8), (⟨"TallShip$Rig", "renew", "(I)V"⟩, 8), (⟨"TallShip$Rig", "hasParted", "(I)Z"⟩, 8), (⟨"TallShip", "carryOut", "()V"⟩, 18), (⟨"TallShip", "weighParts", "()V"⟩, 18), (⟨"TallShip", "carryOutOne", "(I)Z"⟩, 18), (⟨"TallShip", "beginWork", "(III)Z"⟩, 18), (⟨"TallShip$Crew", "isReady", "(I)Z"⟩, 8), (⟨"TallShip$Rig", "drawOf", "(III)I"⟩, 8), (⟨"TallShip", "changeSpeed", "(I)V"⟩, 18), (⟨"TallShip", "strainSails", "(Z)V"⟩, 18), (⟨"TallShip$Rig", "strainRope", "(II)V"⟩, 8), (⟨"TallShip$Passage", "countGlasses", "(II)I"⟩, 6), (⟨"TallShip$Passage", "spread", "(I)V"⟩, 6)]
theorem lw_r2 : ∀ q ∈ lw_privs_2, lw_okq q := List.forall_mem_cons.mpr ⟨lw_p16, List.forall_mem_cons.mpr ⟨lw_p17, List.forall_mem_cons.mpr ⟨lw_p18, List.forall_mem_cons.mpr ⟨lw_p19, List.forall_mem_cons.mpr ⟨lw_p20, List.forall_mem_cons.mpr ⟨lw_p21, List.forall_mem_cons.mpr ⟨lw_p22, List.forall_mem_cons.mpr ⟨lw_p23, List.forall_mem_cons.mpr ⟨lw_p24, List.forall_mem_cons.mpr ⟨lw_p25, List.forall_mem_cons.mpr ⟨lw_p26, List.forall_mem_cons.mpr ⟨lw_p27, List.forall_mem_cons.mpr ⟨lw_p28, List.forall_mem_cons.mpr ⟨lw_p29, List.forall_mem_cons.mpr ⟨lw_p30, List.forall_mem_cons.mpr ⟨lw_p31, fun _ h => absurd h List.not_mem_nil⟩⟩⟩⟩⟩⟩⟩⟩⟩⟩⟩⟩⟩⟩⟩⟩
theorem lw_p32 : lw_okq (⟨"TallShip$Passage", "traceBack", "(II)V"⟩, 6) := ⟨⟨by decide +kernel, by decide +kernel⟩, List.mem_of_getElem? (i := 147) (by decide +kernel), List.mem_of_getElem? (i := 743) (by decide +kernel), List.mem_of_getElem? (i := 744) (by decide +kernel)⟩
theorem lw_p33 : lw_okq (⟨"TallShip$Passage", "chooseCourses", "()V"⟩, 6) := ⟨⟨by decide +kernel, by decide +kernel⟩, List.mem_of_getElem? (i := 147) (by decide +kernel), List.mem_of_getElem? (i := 747) (by decide +kernel), List.mem_of_getElem? (i := 748) (by decide +kernel)⟩
theorem lw_p34 : lw_okq (⟨"TallShip$Passage", "leastLeading", "(III)I"⟩, 6) := ⟨⟨by decide +kernel, by decide +kernel⟩, List.mem_of_getElem? (i := 147) (by decide +kernel), List.mem_of_getElem? (i := 751) (by decide +kernel), List.mem_of_getElem? (i := 752) (by decide +kernel)⟩
theorem lw_p35 : lw_okq (⟨"java/lang/Throwable", "fillInStackTrace", "(I)Ljava/lang/Throwable;"⟩, 6) := ⟨⟨by decide +kernel, by decide +kernel⟩, List.mem_of_getElem? (i := 806) (by decide +kernel), List.mem_of_getElem? (i := 804) (by decide +kernel), List.mem_of_getElem? (i := 805) (by decide +kernel)⟩
theorem lw_p36 : lw_okq (⟨"TallShipModel", "lay", "(J)V"⟩, 53) := ⟨⟨by decide +kernel, by decide +kernel⟩, List.mem_of_getElem? (i := 855) (by decide +kernel), List.mem_of_getElem? (i := 853) (by decide +kernel), List.mem_of_getElem? (i := 854) (by decide +kernel)⟩
theorem lw_p37 : lw_okq (⟨"TallShipModel", "cutAll", "()V"⟩, 53) := ⟨⟨by decide +kernel, by decide +kernel⟩, List.mem_of_getElem? (i := 855) (by decide +kernel), List.mem_of_getElem? (i := 1045) (by decide +kernel), List.mem_of_getElem? (i := 1046) (by decide +kernel)⟩
theorem lw_p38 : lw_okq (⟨"TallShipModel", "statement", "()V"⟩, 53) := ⟨⟨by decide +kernel, by decide +kernel⟩, List.mem_of_getElem? (i := 855) (by decide +kernel), List.mem_of_getElem? (i := 1064) (by decide +kernel), List.mem_of_getElem? (i := 1065) (by decide +kernel)⟩
theorem lw_p39 : lw_okq (⟨"TallShipModel", "isWord", "(I)Z"⟩, 53) := ⟨⟨by decide +kernel, by decide +kernel⟩, List.mem_of_getElem? (i := 855) (by decide +kernel), List.mem_of_getElem? (i := 1068) (by decide +kernel), List.mem_of_getElem? (i := 1069) (by decide +kernel)⟩
theorem lw_p40 : lw_okq (⟨"TallShipModel", "wrong", "(I)V"⟩, 53) := ⟨⟨by decide +kernel, by decide +kernel⟩, List.mem_of_getElem? (i := 855) (by decide +kernel), List.mem_of_getElem? (i := 1072) (by decide +kernel), List.mem_of_getElem? (i := 1073) (by decide +kernel)⟩
theorem lw_p41 : lw_okq (⟨"TallShipModel", "here", "()I"⟩, 53) := ⟨⟨by decide +kernel, by decide +kernel⟩, List.mem_of_getElem? (i := 855) (by decide +kernel), List.mem_of_getElem? (i := 1076) (by decide +kernel), List.mem_of_getElem? (i := 1077) (by decide +kernel)⟩
theorem lw_p42 : lw_okq (⟨"TallShipModel", "choice", "(II)V"⟩, 53) := ⟨⟨by decide +kernel, by decide +kernel⟩, List.mem_of_getElem? (i := 855) (by decide +kernel), List.mem_of_getElem? (i := 1080) (by decide +kernel), List.mem_of_getElem? (i := 1081) (by decide +kernel)⟩
theorem lw_p43 : lw_okq (⟨"TallShipModel", "expression", "()V"⟩, 53) := ⟨⟨by decide +kernel, by decide +kernel⟩, List.mem_of_getElem? (i := 855) (by decide +kernel), List.mem_of_getElem? (i := 1084) (by decide +kernel), List.mem_of_getElem? (i := 1085) (by decide +kernel)⟩
theorem lw_p44 : lw_okq (⟨"TallShipModel", "sum", "()V"⟩, 53) := ⟨⟨by decide +kernel, by decide +kernel⟩, List.mem_of_getElem? (i := 855) (by decide +kernel), List.mem_of_getElem? (i := 1088) (by decide +kernel), List.mem_of_getElem? (i := 1089) (by decide +kernel)⟩
theorem lw_p45 : lw_okq (⟨"TallShipModel", "part", "()V"⟩, 53) := ⟨⟨by decide +kernel, by decide +kernel⟩, List.mem_of_getElem? (i := 855) (by decide +kernel), List.mem_of_getElem? (i := 1092) (by decide +kernel), List.mem_of_getElem? (i := 1093) (by decide +kernel)⟩
theorem lw_p46 : lw_okq (⟨"TallShipModel", "emit", "(III)I"⟩, 53) := ⟨⟨by decide +kernel, by decide +kernel⟩, List.mem_of_getElem? (i := 855) (by decide +kernel), List.mem_of_getElem? (i := 1096) (by decide +kernel), List.mem_of_getElem? (i := 1097) (by decide +kernel)⟩
theorem lw_p47 : lw_okq (⟨"TallShipModel", "isSign", "(I)Z"⟩, 53) := ⟨⟨by decide +kernel, by decide +kernel⟩, List.mem_of_getElem? (i := 855) (by decide +kernel), List.mem_of_getElem? (i := 1100) (by decide +kernel), List.mem_of_getElem? (i := 1101) (by decide +kernel)⟩
def lw_privs_3 : List (MethodName × Nat) := [(⟨"TallShip$Passage", "traceBack", "(II)V"⟩, 6), (⟨"TallShip$Passage", "chooseCourses", "()V"⟩, 6), (⟨"TallShip$Passage", "leastLeading", "(III)I"⟩, 6), (⟨"java/lang/Throwable", "fillInStackTrace", "(I)Ljava/lang/Throwable;"⟩, 6), (⟨"TallShipModel", "lay", "(J)V"⟩, 53), (⟨"TallShipModel", "cutAll", "()V"⟩, 53), (⟨"TallShipModel", "statement", "()V"⟩, 53), (⟨"TallShipModel", "isWord", "(I)Z"⟩, 53), (⟨"TallShipModel", "wrong", "(I)V"⟩, 53), (⟨"TallShipModel", "here", "()I"⟩, 53), (⟨"TallShipModel", "choice", "(II)V"⟩, 53), (⟨"TallShipModel", "expression", "()V"⟩, 53), (⟨"TallShipModel", "sum", "()V"⟩, 53), (⟨"TallShipModel", "part", "()V"⟩, 53), (⟨"TallShipModel", "emit", "(III)I"⟩, 53), (⟨"TallShipModel", "isSign", "(I)Z"⟩, 53)]
theorem lw_r3 : ∀ q ∈ lw_privs_3, lw_okq q := List.forall_mem_cons.mpr ⟨lw_p32, List.forall_mem_cons.mpr ⟨lw_p33, List.forall_mem_cons.mpr ⟨lw_p34, List.forall_mem_cons.mpr ⟨lw_p35, List.forall_mem_cons.mpr ⟨lw_p36, List.forall_mem_cons.mpr ⟨lw_p37, List.forall_mem_cons.mpr ⟨lw_p38, List.forall_mem_cons.mpr ⟨lw_p39, List.forall_mem_cons.mpr ⟨lw_p40, List.forall_mem_cons.mpr ⟨lw_p41, List.forall_mem_cons.mpr ⟨lw_p42, List.forall_mem_cons.mpr ⟨lw_p43, List.forall_mem_cons.mpr ⟨lw_p44, List.forall_mem_cons.mpr ⟨lw_p45, List.forall_mem_cons.mpr ⟨lw_p46, List.forall_mem_cons.mpr ⟨lw_p47, fun _ h => absurd h List.not_mem_nil⟩⟩⟩⟩⟩⟩⟩⟩⟩⟩⟩⟩⟩⟩⟩⟩
theorem lw_p48 : lw_okq (⟨"TallShipModel", "block", "()V"⟩, 53) := ⟨⟨by decide +kernel, by decide +kernel⟩, List.mem_of_getElem? (i := 855) (by decide +kernel), List.mem_of_getElem? (i := 1104) (by decide +kernel), List.mem_of_getElem? (i := 1105) (by decide +kernel)⟩
theorem lw_p49 : lw_okq (⟨"TallShipModel", "takeSign", "(I)V"⟩, 53) := ⟨⟨by decide +kernel, by decide +kernel⟩, List.mem_of_getElem? (i := 855) (by decide +kernel), List.mem_of_getElem? (i := 1108) (by decide +kernel), List.mem_of_getElem? (i := 1109) (by decide +kernel)⟩
theorem lw_p50 : lw_okq (⟨"TallShipModel", "hasWord", "(I)Z"⟩, 53) := ⟨⟨by decide +kernel, by decide +kernel⟩, List.mem_of_getElem? (i := 855) (by decide +kernel), List.mem_of_getElem? (i := 1112) (by decide +kernel), List.mem_of_getElem? (i := 1113) (by decide +kernel)⟩
theorem lw_p51 : lw_okq (⟨"TallShipModel", "takeNumber", "(II)I"⟩, 53) := ⟨⟨by decide +kernel, by decide +kernel⟩, List.mem_of_getElem? (i := 855) (by decide +kernel), List.mem_of_getElem? (i := 1116) (by decide +kernel), List.mem_of_getElem? (i := 1117) (by decide +kernel)⟩
theorem lw_p52 : lw_okq (⟨"TallShipModel", "goes", "()V"⟩, 53) := ⟨⟨by decide +kernel, by decide +kernel⟩, List.mem_of_getElem? (i := 855) (by decide +kernel), List.mem_of_getElem? (i := 1129) (by decide +kernel), List.mem_of_getElem? (i := 1130) (by decide +kernel)⟩
theorem lw_p53 : lw_okq (⟨"TallShipModel", "point", "()I"⟩, 53) := ⟨⟨by decide +kernel, by decide +kernel⟩, List.mem_of_getElem? (i := 855) (by decide +kernel), List.mem_of_getElem? (i := 1133) (by decide +kernel), List.mem_of_getElem? (i := 1134) (by decide +kernel)⟩
theorem lw_p54 : lw_okq (⟨"TallShipModel", "windNow", "()I"⟩, 53) := ⟨⟨by decide +kernel, by decide +kernel⟩, List.mem_of_getElem? (i := 855) (by decide +kernel), List.mem_of_getElem? (i := 1137) (by decide +kernel), List.mem_of_getElem? (i := 1138) (by decide +kernel)⟩
theorem lw_p55 : lw_okq (⟨"TallShipModel", "force", "()I"⟩, 53) := ⟨⟨by decide +kernel, by decide +kernel⟩, List.mem_of_getElem? (i := 855) (by decide +kernel), List.mem_of_getElem? (i := 1141) (by decide +kernel), List.mem_of_getElem? (i := 1142) (by decide +kernel)⟩
theorem lw_p56 : lw_okq (⟨"TallShipModel", "endWorks", "()V"⟩, 53) := ⟨⟨by decide +kernel, by decide +kernel⟩, List.mem_of_getElem? (i := 855) (by decide +kernel), List.mem_of_getElem? (i := 1145) (by decide +kernel), List.mem_of_getElem? (i := 1146) (by decide +kernel)⟩
theorem lw_p57 : lw_okq (⟨"TallShipModel", "ended", "(III)V"⟩, 53) := ⟨⟨by decide +kernel, by decide +kernel⟩, List.mem_of_getElem? (i := 855) (by decide +kernel), List.mem_of_getElem? (i := 1149) (by decide +kernel), List.mem_of_getElem? (i := 1150) (by decide +kernel)⟩
theorem lw_p58 : lw_okq (⟨"TallShipModel", "gives", "(I)V"⟩, 53) := ⟨⟨by decide +kernel, by decide +kernel⟩, List.mem_of_getElem? (i := 855) (by decide +kernel), List.mem_of_getElem? (i := 1153) (by decide +kernel), List.mem_of_getElem? (i := 1154) (by decide +kernel)⟩
theorem lw_p59 : lw_okq (⟨"TallShipModel", "carries", "()V"⟩, 53) := ⟨⟨by decide +kernel, by decide +kernel⟩, List.mem_of_getElem? (i := 855) (by decide +kernel), List.mem_of_getElem? (i := 1157) (by decide +kernel), List.mem_of_getElem? (i := 1158) (by decide +kernel)⟩
theorem lw_p60 : lw_okq (⟨"TallShipModel", "reckons", "(II)V"⟩, 53) := ⟨⟨by decide +kernel, by decide +kernel⟩, List.mem_of_getElem? (i := 855) (by decide +kernel), List.mem_of_getElem? (i := 1161) (by decide +kernel), List.mem_of_getElem? (i := 1162) (by decide +kernel)⟩
theorem lw_p61 : lw_okq (⟨"TallShipModel", "partOf", "(I)I"⟩, 53) := ⟨⟨by decide +kernel, by decide +kernel⟩, List.mem_of_getElem? (i := 855) (by decide +kernel), List.mem_of_getElem? (i := 1165) (by decide +kernel), List.mem_of_getElem? (i := 1166) (by decide +kernel)⟩
theorem lw_p62 : lw_okq (⟨"TallShipModel", "loadNow", "()I"⟩, 53) := ⟨⟨by decide +kernel, by decide +kernel⟩, List.mem_of_getElem? (i := 855) (by decide +kernel), List.mem_of_getElem? (i := 1172) (by decide +kernel), List.mem_of_getElem? (i := 1173) (by decide +kernel)⟩
theorem lw_p63 : lw_okq (⟨"TallShipModel", "begins", "(III)Z"⟩, 53) := ⟨⟨by decide +kernel, by decide +kernel⟩, List.mem_of_getElem? (i := 855) (by decide +kernel), List.mem_of_getElem? (i := 1176) (by decide +kernel), List.mem_of_getElem? (i := 1177) (by decide +kernel)⟩
def lw_privs_4 : List (MethodName × Nat) := [(⟨"TallShipModel", "block", "()V"⟩, 53), (⟨"TallShipModel", "takeSign", "(I)V"⟩, 53), (⟨"TallShipModel", "hasWord", "(I)Z"⟩, 53), (⟨"TallShipModel", "takeNumber", "(II)I"⟩, 53), (⟨"TallShipModel", "goes", "()V"⟩, 53), (⟨"TallShipModel", "point", "()I"⟩, 53), (⟨"TallShipModel", "windNow", "()I"⟩, 53), (⟨"TallShipModel", "force", "()I"⟩, 53), (⟨"TallShipModel", "endWorks", "()V"⟩, 53), (⟨"TallShipModel", "ended", "(III)V"⟩, 53), (⟨"TallShipModel", "gives", "(I)V"⟩, 53), (⟨"TallShipModel", "carries", "()V"⟩, 53), (⟨"TallShipModel", "reckons", "(II)V"⟩, 53), (⟨"TallShipModel", "partOf", "(I)I"⟩, 53), (⟨"TallShipModel", "loadNow", "()I"⟩, 53), (⟨"TallShipModel", "begins", "(III)Z"⟩, 53)]
theorem lw_r4 : ∀ q ∈ lw_privs_4, lw_okq q := List.forall_mem_cons.mpr ⟨lw_p48, List.forall_mem_cons.mpr ⟨lw_p49, List.forall_mem_cons.mpr ⟨lw_p50, List.forall_mem_cons.mpr ⟨lw_p51, List.forall_mem_cons.mpr ⟨lw_p52, List.forall_mem_cons.mpr ⟨lw_p53, List.forall_mem_cons.mpr ⟨lw_p54, List.forall_mem_cons.mpr ⟨lw_p55, List.forall_mem_cons.mpr ⟨lw_p56, List.forall_mem_cons.mpr ⟨lw_p57, List.forall_mem_cons.mpr ⟨lw_p58, List.forall_mem_cons.mpr ⟨lw_p59, List.forall_mem_cons.mpr ⟨lw_p60, List.forall_mem_cons.mpr ⟨lw_p61, List.forall_mem_cons.mpr ⟨lw_p62, List.forall_mem_cons.mpr ⟨lw_p63, fun _ h => absurd h List.not_mem_nil⟩⟩⟩⟩⟩⟩⟩⟩⟩⟩⟩⟩⟩⟩⟩⟩
theorem lw_p64 : lw_okq (⟨"TallShipModel", "isBarred", "(II)Z"⟩, 53) := ⟨⟨by decide +kernel, by decide +kernel⟩, List.mem_of_getElem? (i := 855) (by decide +kernel), List.mem_of_getElem? (i := 1180) (by decide +kernel), List.mem_of_getElem? (i := 1181) (by decide +kernel)⟩
theorem lw_p65 : lw_okq (⟨"TallShipModel", "isUnder", "(II)Z"⟩, 53) := ⟨⟨by decide +kernel, by decide +kernel⟩, List.mem_of_getElem? (i := 855) (by decide +kernel), List.mem_of_getElem? (i := 1184) (by decide +kernel), List.mem_of_getElem? (i := 1185) (by decide +kernel)⟩
theorem lw_p66 : lw_okq (⟨"TallShipModel", "isMeant", "(III)Z"⟩, 53) := ⟨⟨by decide +kernel, by decide +kernel⟩, List.mem_of_getElem? (i := 855) (by decide +kernel), List.mem_of_getElem? (i := 1188) (by decide +kernel), List.mem_of_getElem? (i := 1189) (by decide +kernel)⟩
theorem lw_p67 : lw_okq (⟨"TallShipModel", "isOnDeck", "(I)Z"⟩, 53) := ⟨⟨by decide +kernel, by decide +kernel⟩, List.mem_of_getElem? (i := 855) (by decide +kernel), List.mem_of_getElem? (i := 1192) (by decide +kernel), List.mem_of_getElem? (i := 1193) (by decide +kernel)⟩
theorem lw_p68 : lw_okq (⟨"TallShipModel", "carriesOut", "(I)V"⟩, 53) := ⟨⟨by decide +kernel, by decide +kernel⟩, List.mem_of_getElem? (i := 855) (by decide +kernel), List.mem_of_getElem? (i := 1202) (by decide +kernel), List.mem_of_getElem? (i := 1203) (by decide +kernel)⟩
theorem lw_p69 : lw_okq (⟨"TallShipModel", "sails", "()V"⟩, 53) := ⟨⟨by decide +kernel, by decide +kernel⟩, List.mem_of_getElem? (i := 855) (by decide +kernel), List.mem_of_getElem? (i := 1206) (by decide +kernel), List.mem_of_getElem? (i := 1207) (by decide +kernel)⟩
theorem lw_p70 : lw_okq (⟨"TallShipModel", "loads", "(II)V"⟩, 53) := ⟨⟨by decide +kernel, by decide +kernel⟩, List.mem_of_getElem? (i := 855) (by decide +kernel), List.mem_of_getElem? (i := 1216) (by decide +kernel), List.mem_of_getElem? (i := 1217) (by decide +kernel)⟩
theorem lw_p71 : lw_okq (⟨"TallShipModel", "marksForth", "(I)V"⟩, 53) := ⟨⟨by decide +kernel, by decide +kernel⟩, List.mem_of_getElem? (i := 855) (by decide +kernel), List.mem_of_getElem? (i := 1254) (by decide +kernel), List.mem_of_getElem? (i := 1255) (by decide +kernel)⟩
theorem lw_p72 : lw_okq (⟨"TallShipModel", "leads", "(III)I"⟩, 53) := ⟨⟨by decide +kernel, by decide +kernel⟩, List.mem_of_getElem? (i := 855) (by decide +kernel), List.mem_of_getElem? (i := 1258) (by decide +kernel), List.mem_of_getElem? (i := 1259) (by decide +kernel)⟩
theorem lw_p73 : lw_okq (⟨"TallShipModel", "marksBack", "(I)V"⟩, 53) := ⟨⟨by decide +kernel, by decide +kernel⟩, List.mem_of_getElem? (i := 855) (by decide +kernel), List.mem_of_getElem? (i := 1262) (by decide +kernel), List.mem_of_getElem? (i := 1263) (by decide +kernel)⟩
def lw_privs_5 : List (MethodName × Nat) := [(⟨"TallShipModel", "isBarred", "(II)Z"⟩, 53), (⟨"TallShipModel", "isUnder", "(II)Z"⟩, 53), (⟨"TallShipModel", "isMeant", "(III)Z"⟩, 53), (⟨"TallShipModel", "isOnDeck", "(I)Z"⟩, 53), (⟨"TallShipModel", "carriesOut", "(I)V"⟩, 53), (⟨"TallShipModel", "sails", "()V"⟩, 53), (⟨"TallShipModel", "loads", "(II)V"⟩, 53), (⟨"TallShipModel", "marksForth", "(I)V"⟩, 53), (⟨"TallShipModel", "leads", "(III)I"⟩, 53), (⟨"TallShipModel", "marksBack", "(I)V"⟩, 53)]
theorem lw_r5 : ∀ q ∈ lw_privs_5, lw_okq q := List.forall_mem_cons.mpr ⟨lw_p64, List.forall_mem_cons.mpr ⟨lw_p65, List.forall_mem_cons.mpr ⟨lw_p66, List.forall_mem_cons.mpr ⟨lw_p67, List.forall_mem_cons.mpr ⟨lw_p68, List.forall_mem_cons.mpr ⟨lw_p69, List.forall_mem_cons.mpr ⟨lw_p70, List.forall_mem_cons.mpr ⟨lw_p71, List.forall_mem_cons.mpr ⟨lw_p72, List.forall_mem_cons.mpr ⟨lw_p73, fun _ h => absurd h List.not_mem_nil⟩⟩⟩⟩⟩⟩⟩⟩⟩⟩
def lw_privs : List (MethodName × Nat) := lw_privs_1 ++ (lw_privs_2 ++ (lw_privs_3 ++ (lw_privs_4 ++ (lw_privs_5))))
def lw_tbl : List Cond := k2_sels lw_privs ++ tables_1
theorem lw_privs_ok : ∀ q ∈ lw_privs, lw_okq q := by
  show ∀ q ∈ lw_privs_1 ++ (lw_privs_2 ++ (lw_privs_3 ++ (lw_privs_4 ++ (lw_privs_5)))), lw_okq q
  exact List.forall_mem_append.mpr ⟨lw_r1, List.forall_mem_append.mpr ⟨lw_r2, List.forall_mem_append.mpr ⟨lw_r3, List.forall_mem_append.mpr ⟨lw_r4, lw_r5⟩⟩⟩⟩
def RX0 : String := "TallShip$Compass"
def TX0 : u_T := fun k => match k with
  | _ => ("", "", "", false)
def tyX0 : Nat → FieldType := fun k => match k with
  | _ => .int
theorem nmX0 : ∀ a, a < 0 → ∀ b, b < 0 → a ≠ b → (TX0 a).2.1 ≠ (TX0 b).2.1 := by decide +kernel
theorem tyX0_ok : ∀ k, k < 0 → parseFieldDescriptor (TX0 k).2.2.1 = some (tyX0 k) := by decide +kernel
abbrev cX0_isWind : ByteArray := prog_2_method_2_code
def yX0_isWind : MethodName := ⟨RX0, "isWind", "(II)Z"⟩
abbrev cX0_apart : ByteArray := prog_2_method_3_code
def yX0_apart : MethodName := ⟨RX0, "apart", "(II)I"⟩
abbrev cX0_isAback : ByteArray := prog_2_method_4_code
def yX0_isAback : MethodName := ⟨RX0, "isAback", "(I)Z"⟩
abbrev cX0_pull : ByteArray := prog_2_method_5_code
def yX0_pull : MethodName := ⟨RX0, "pull", "(I)I"⟩
abbrev cX0_best : ByteArray := prog_2_method_6_code
def yX0_best : MethodName := ⟨RX0, "best", "(I)I"⟩
abbrev cX0_north : ByteArray := prog_2_method_7_code
def yX0_north : MethodName := ⟨RX0, "north", "(I)I"⟩
abbrev cX0_east : ByteArray := prog_2_method_8_code
def yX0_east : MethodName := ⟨RX0, "east", "(I)I"⟩
abbrev cX0_turned : ByteArray := prog_2_method_9_code
def yX0_turned : MethodName := ⟨RX0, "turned", "(II)I"⟩
def RX1 : String := "TallShip$Crew"
def TX1 : u_T := fun k => match k with
  | 0 => ("TallShip$Crew", "size", "I", true)
  | 1 => ("TallShip$Crew", "job", "[I", true)
  | 2 => ("TallShip$Crew", "thing", "[I", true)
  | 3 => ("TallShip$Crew", "aim", "[I", true)
  | 4 => ("TallShip$Crew", "end", "[I", true)
  | 5 => ("TallShip$Crew", "lead", "[I", true)
  | 6 => ("TallShip$Crew", "deck", "I", false)
  | _ => ("TallShip$Crew", "works", "I", false)
def tyX1 : Nat → FieldType := fun k => match k with
  | 0 => .int
  | 1 => .array .int
  | 2 => .array .int
  | 3 => .array .int
  | 4 => .array .int
  | 5 => .array .int
  | 6 => .int
  | _ => .int
theorem nmX1 : ∀ a, a < 8 → ∀ b, b < 8 → a ≠ b → (TX1 a).2.1 ≠ (TX1 b).2.1 := by decide +kernel
theorem tyX1_ok : ∀ k, k < 8 → parseFieldDescriptor (TX1 k).2.2.1 = some (tyX1 k) := by decide +kernel
abbrev cX1_init : ByteArray := prog_3_method_1_code
def yX1_init : MethodName := ⟨RX1, "<init>", "(I)V"⟩
abbrev cX1_isFree : ByteArray := prog_3_method_2_code
def yX1_isFree : MethodName := ⟨RX1, "isFree", "(I)Z"⟩
abbrev cX1_isOnDeck : ByteArray := prog_3_method_3_code
def yX1_isOnDeck : MethodName := ⟨RX1, "isOnDeck", "(I)Z"⟩
abbrev cX1_endOf : ByteArray := prog_3_method_4_code
def yX1_endOf : MethodName := ⟨RX1, "endOf", "(I)I"⟩
abbrev cX1_isDue : ByteArray := prog_3_method_5_code
def yX1_isDue : MethodName := ⟨RX1, "isDue", "(II)Z"⟩
abbrev cX1_isReady : ByteArray := prog_3_method_6_code
def yX1_isReady : MethodName := ⟨RX1, "isReady", "(I)Z"⟩
abbrev cX1_muster : ByteArray := prog_3_method_7_code
def yX1_muster : MethodName := ⟨RX1, "muster", "(I)I"⟩
abbrev cX1_assign : ByteArray := prog_3_method_8_code
def yX1_assign : MethodName := ⟨RX1, "assign", "(IIIII)V"⟩
abbrev cX1_release : ByteArray := prog_3_method_9_code
def yX1_release : MethodName := ⟨RX1, "release", "(I)V"⟩
def RX2 : String := "TallShip$Passage"
def TX2 : u_T := fun k => match k with
  | 0 => ("TallShip$Passage", "east", "[I", true)
  | 1 => ("TallShip$Passage", "north", "[I", true)
  | 2 => ("TallShip$Passage", "reached", "[J", true)
  | 3 => ("TallShip$Passage", "leading", "[J", true)
  | 4 => ("TallShip$Passage", "courses", "[I", true)
  | _ => ("TallShip$Passage", "glasses", "I", false)
def tyX2 : Nat → FieldType := fun k => match k with
  | 0 => .array .int
  | 1 => .array .int
  | 2 => .array .long
  | 3 => .array .long
  | 4 => .array .int
  | _ => .int
theorem nmX2 : ∀ a, a < 6 → ∀ b, b < 6 → a ≠ b → (TX2 a).2.1 ≠ (TX2 b).2.1 := by decide +kernel
theorem tyX2_ok : ∀ k, k < 6 → parseFieldDescriptor (TX2 k).2.2.1 = some (tyX2 k) := by decide +kernel
abbrev cX2_init : ByteArray := prog_4_method_1_code
def yX2_init : MethodName := ⟨RX2, "<init>", "()V"⟩
abbrev cX2_tell : ByteArray := prog_4_method_2_code
def yX2_tell : MethodName := ⟨RX2, "tell", "(III)Z"⟩
abbrev cX2_make : ByteArray := prog_4_method_3_code
def yX2_make : MethodName := ⟨RX2, "make", "(II)I"⟩
abbrev cX2_isPlace : ByteArray := prog_4_method_4_code
def yX2_isPlace : MethodName := ⟨RX2, "isPlace", "(II)Z"⟩
abbrev cX2_countGlasses : ByteArray := prog_4_method_5_code
def yX2_countGlasses : MethodName := ⟨RX2, "countGlasses", "(II)I"⟩
abbrev cX2_spread : ByteArray := prog_4_method_6_code
def yX2_spread : MethodName := ⟨RX2, "spread", "(I)V"⟩
abbrev cX2_traceBack : ByteArray := prog_4_method_7_code
def yX2_traceBack : MethodName := ⟨RX2, "traceBack", "(II)V"⟩
abbrev cX2_chooseCourses : ByteArray := prog_4_method_8_code
def yX2_chooseCourses : MethodName := ⟨RX2, "chooseCourses", "()V"⟩
abbrev cX2_leastLeading : ByteArray := prog_4_method_9_code
def yX2_leastLeading : MethodName := ⟨RX2, "leastLeading", "(III)I"⟩
abbrev cX2_clear : ByteArray := prog_4_method_10_code
def yX2_clear : MethodName := ⟨RX2, "clear", "([JI)V"⟩
abbrev cX2_putOnly : ByteArray := prog_4_method_11_code
def yX2_putOnly : MethodName := ⟨RX2, "putOnly", "([JIII)V"⟩
abbrev cX2_has : ByteArray := prog_4_method_12_code
def yX2_has : MethodName := ⟨RX2, "has", "([JIII)Z"⟩
abbrev cX2_move : ByteArray := prog_4_method_13_code
def yX2_move : MethodName := ⟨RX2, "move", "([JIIII)V"⟩
def RX3 : String := "TallShip$Reader"
def TX3 : u_T := fun k => match k with
  | 0 => ("TallShip$Reader", "tape", "LTallShip$Tape;", true)
  | 1 => ("TallShip$Reader", "open", "[I", true)
  | 2 => ("TallShip$Reader", "depth", "I", false)
  | _ => ("TallShip$Reader", "script", "LTallShip$Script;", false)
def tyX3 : Nat → FieldType := fun k => match k with
  | 0 => .object "TallShip$Tape"
  | 1 => .array .int
  | 2 => .int
  | _ => .object "TallShip$Script"
theorem nmX3 : ∀ a, a < 4 → ∀ b, b < 4 → a ≠ b → (TX3 a).2.1 ≠ (TX3 b).2.1 := by decide +kernel
theorem tyX3_ok : ∀ k, k < 4 → parseFieldDescriptor (TX3 k).2.2.1 = some (tyX3 k) := by decide +kernel
abbrev cX3_init : ByteArray := prog_5_method_1_code
def yX3_init : MethodName := ⟨RX3, "<init>", "(LTallShip$Tape;)V"⟩
abbrev cX3_read : ByteArray := prog_5_method_2_code
def yX3_read : MethodName := ⟨RX3, "read", "(LTallShip$Script;)I"⟩
abbrev cX3_isOver : ByteArray := prog_5_method_3_code
def yX3_isOver : MethodName := ⟨RX3, "isOver", "()Z"⟩
abbrev cX3_faultHere : ByteArray := prog_5_method_4_code
def yX3_faultHere : MethodName := ⟨RX3, "faultHere", "(I)I"⟩
abbrev cX3_readClosing : ByteArray := prog_5_method_5_code
def yX3_readClosing : MethodName := ⟨RX3, "readClosing", "()I"⟩
abbrev cX3_readStatement : ByteArray := prog_5_method_6_code
def yX3_readStatement : MethodName := ⟨RX3, "readStatement", "()I"⟩
abbrev cX3_verbHere : ByteArray := prog_5_method_7_code
def yX3_verbHere : MethodName := ⟨RX3, "verbHere", "()I"⟩
abbrev cX3_readOrder : ByteArray := prog_5_method_8_code
def yX3_readOrder : MethodName := ⟨RX3, "readOrder", "(II)I"⟩
abbrev cX3_checkNumber : ByteArray := prog_5_method_9_code
def yX3_checkNumber : MethodName := ⟨RX3, "checkNumber", "(II)I"⟩
abbrev cX3_readSign : ByteArray := prog_5_method_10_code
def yX3_readSign : MethodName := ⟨RX3, "readSign", "(C)I"⟩
abbrev cX3_readCondition : ByteArray := prog_5_method_11_code
def yX3_readCondition : MethodName := ⟨RX3, "readCondition", "(I)I"⟩
abbrev cX3_readSum : ByteArray := prog_5_method_12_code
def yX3_readSum : MethodName := ⟨RX3, "readSum", "(II)I"⟩
abbrev cX3_partHere : ByteArray := prog_5_method_13_code
def yX3_partHere : MethodName := ⟨RX3, "partHere", "()I"⟩
abbrev cX3_readOpening : ByteArray := prog_5_method_14_code
def yX3_readOpening : MethodName := ⟨RX3, "readOpening", "(I)I"⟩
def RX4 : String := "TallShip$Rig"
def TX4 : u_T := fun k => match k with
  | 0 => ("TallShip$Rig", "sailState", "[I", true)
  | 1 => ("TallShip$Rig", "ropeState", "[I", true)
  | 2 => ("TallShip$Rig", "wear", "[I", true)
  | 3 => ("TallShip$Rig", "yards", "[I", true)
  | 4 => ("TallShip$Rig", "sailLead", "[I", true)
  | 5 => ("TallShip$Rig", "ropeLead", "[I", true)
  | 6 => ("TallShip$Rig", "yardLead", "[I", true)
  | _ => ("TallShip$Rig", "parted", "I", false)
def tyX4 : Nat → FieldType := fun k => match k with
  | 0 => .array .int
  | 1 => .array .int
  | 2 => .array .int
  | 3 => .array .int
  | 4 => .array .int
  | 5 => .array .int
  | 6 => .array .int
  | _ => .int
theorem nmX4 : ∀ a, a < 8 → ∀ b, b < 8 → a ≠ b → (TX4 a).2.1 ≠ (TX4 b).2.1 := by decide +kernel
theorem tyX4_ok : ∀ k, k < 8 → parseFieldDescriptor (TX4 k).2.2.1 = some (tyX4 k) := by decide +kernel
abbrev cX4_init : ByteArray := prog_6_method_1_code
def yX4_init : MethodName := ⟨RX4, "<init>", "()V"⟩
abbrev cX4_handsFor : ByteArray := prog_6_method_2_code
def yX4_handsFor : MethodName := ⟨RX4, "handsFor", "(I)I"⟩
abbrev cX4_minutesFor : ByteArray := prog_6_method_3_code
def yX4_minutesFor : MethodName := ⟨RX4, "minutesFor", "(III)I"⟩
abbrev cX4_isBarred : ByteArray := prog_6_method_4_code
def yX4_isBarred : MethodName := ⟨RX4, "isBarred", "(II)Z"⟩
abbrev cX4_isIdle : ByteArray := prog_6_method_5_code
def yX4_isIdle : MethodName := ⟨RX4, "isIdle", "(III)Z"⟩
abbrev cX4_hasParted : ByteArray := prog_6_method_6_code
def yX4_hasParted : MethodName := ⟨RX4, "hasParted", "(I)Z"⟩
abbrev cX4_mark : ByteArray := prog_6_method_7_code
def yX4_mark : MethodName := ⟨RX4, "mark", "(III)V"⟩
abbrev cX4_finish : ByteArray := prog_6_method_8_code
def yX4_finish : MethodName := ⟨RX4, "finish", "(III)V"⟩
abbrev cX4_become : ByteArray := prog_6_method_9_code
def yX4_become : MethodName := ⟨RX4, "become", "(III)V"⟩
abbrev cX4_renew : ByteArray := prog_6_method_10_code
def yX4_renew : MethodName := ⟨RX4, "renew", "(I)V"⟩
abbrev cX4_draw : ByteArray := prog_6_method_11_code
def yX4_draw : MethodName := ⟨RX4, "draw", "(II)I"⟩
abbrev cX4_drawOf : ByteArray := prog_6_method_12_code
def yX4_drawOf : MethodName := ⟨RX4, "drawOf", "(III)I"⟩
abbrev cX4_strain : ByteArray := prog_6_method_13_code
def yX4_strain : MethodName := ⟨RX4, "strain", "(IIZ)Z"⟩
abbrev cX4_strainRope : ByteArray := prog_6_method_14_code
def yX4_strainRope : MethodName := ⟨RX4, "strainRope", "(II)V"⟩
abbrev cX4_lose : ByteArray := prog_6_method_15_code
def yX4_lose : MethodName := ⟨RX4, "lose", "(I)V"⟩
abbrev cX4_greatestWear : ByteArray := prog_6_method_16_code
def yX4_greatestWear : MethodName := ⟨RX4, "greatestWear", "()I"⟩
def RX5 : String := "TallShip$Script"
def TX5 : u_T := fun k => match k with
  | 0 => ("TallShip$Script", "count", "I", false)
  | 1 => ("TallShip$Script", "verb", "[I", true)
  | 2 => ("TallShip$Script", "first", "[I", true)
  | 3 => ("TallShip$Script", "second", "[I", true)
  | 4 => ("TallShip$Script", "parent", "[I", true)
  | 5 => ("TallShip$Script", "middle", "[I", true)
  | 6 => ("TallShip$Script", "end", "[I", true)
  | 7 => ("TallShip$Script", "after", "[I", true)
  | _ => ("TallShip$Script", "weights", "[I", true)
def tyX5 : Nat → FieldType := fun k => match k with
  | 0 => .int
  | 1 => .array .int
  | 2 => .array .int
  | 3 => .array .int
  | 4 => .array .int
  | 5 => .array .int
  | 6 => .array .int
  | 7 => .array .int
  | _ => .array .int
theorem nmX5 : ∀ a, a < 9 → ∀ b, b < 9 → a ≠ b → (TX5 a).2.1 ≠ (TX5 b).2.1 := by decide +kernel
theorem tyX5_ok : ∀ k, k < 9 → parseFieldDescriptor (TX5 k).2.2.1 = some (tyX5 k) := by decide +kernel
abbrev cX5_init : ByteArray := prog_7_method_1_code
def yX5_init : MethodName := ⟨RX5, "<init>", "()V"⟩
abbrev cX5_add : ByteArray := prog_7_method_2_code
def yX5_add : MethodName := ⟨RX5, "add", "(II)I"⟩
abbrev cX5_weigh : ByteArray := prog_7_method_3_code
def yX5_weigh : MethodName := ⟨RX5, "weigh", "(III)V"⟩
abbrev cX5_link : ByteArray := prog_7_method_4_code
def yX5_link : MethodName := ⟨RX5, "link", "()V"⟩
abbrev cX5_blockEnd : ByteArray := prog_7_method_5_code
def yX5_blockEnd : MethodName := ⟨RX5, "blockEnd", "(II)I"⟩
abbrev cX5_whenTrue : ByteArray := prog_7_method_6_code
def yX5_whenTrue : MethodName := ⟨RX5, "whenTrue", "(I)I"⟩
abbrev cX5_whenFalse : ByteArray := prog_7_method_7_code
def yX5_whenFalse : MethodName := ⟨RX5, "whenFalse", "(I)I"⟩
abbrev cX5_isTrue : ByteArray := prog_7_method_8_code
def yX5_isTrue : MethodName := ⟨RX5, "isTrue", "(I[I)Z"⟩
def RX6 : String := "TallShip$Tape"
def TX6 : u_T := fun k => match k with
  | 0 => ("TallShip$Tape", "signs", "[C", true)
  | 1 => ("TallShip$Tape", "length", "I", false)
  | 2 => ("TallShip$Tape", "kind", "I", false)
  | 3 => ("TallShip$Tape", "place", "I", false)
  | 4 => ("TallShip$Tape", "value", "I", false)
  | _ => ("TallShip$Tape", "next", "I", false)
def tyX6 : Nat → FieldType := fun k => match k with
  | 0 => .array .char
  | 1 => .int
  | 2 => .int
  | 3 => .int
  | 4 => .int
  | _ => .int
theorem nmX6 : ∀ a, a < 6 → ∀ b, b < 6 → a ≠ b → (TX6 a).2.1 ≠ (TX6 b).2.1 := by decide +kernel
theorem tyX6_ok : ∀ k, k < 6 → parseFieldDescriptor (TX6 k).2.2.1 = some (tyX6 k) := by decide +kernel
abbrev cX6_init : ByteArray := prog_8_method_1_code
def yX6_init : MethodName := ⟨RX6, "<init>", "()V"⟩
abbrev cX6_addBytes : ByteArray := prog_8_method_2_code
def yX6_addBytes : MethodName := ⟨RX6, "addBytes", "(J)V"⟩
abbrev cX6_rewind : ByteArray := prog_8_method_3_code
def yX6_rewind : MethodName := ⟨RX6, "rewind", "()V"⟩
abbrev cX6_advance : ByteArray := prog_8_method_4_code
def yX6_advance : MethodName := ⟨RX6, "advance", "()V"⟩
abbrev cX6_endOfRun : ByteArray := prog_8_method_5_code
def yX6_endOfRun : MethodName := ⟨RX6, "endOfRun", "(CC)I"⟩
abbrev cX6_numberHere : ByteArray := prog_8_method_6_code
def yX6_numberHere : MethodName := ⟨RX6, "numberHere", "()I"⟩
abbrev cX6_spells : ByteArray := prog_8_method_7_code
def yX6_spells : MethodName := ⟨RX6, "spells", "(Ljava/lang/String;)Z"⟩
abbrev cX6_isSign : ByteArray := prog_8_method_8_code
def yX6_isSign : MethodName := ⟨RX6, "isSign", "(C)Z"⟩
def RX7 : String := "TallShip$Winds"
def TX7 : u_T := fun k => match k with
  | 0 => ("TallShip$Winds", "starts", "[I", true)
  | 1 => ("TallShip$Winds", "points", "[I", true)
  | 2 => ("TallShip$Winds", "forces", "[I", true)
  | 3 => ("TallShip$Winds", "rows", "I", false)
  | 4 => ("TallShip$Winds", "begun", "Z", false)
  | 5 => ("TallShip$Winds", "point", "I", false)
  | _ => ("TallShip$Winds", "force", "I", false)
def tyX7 : Nat → FieldType := fun k => match k with
  | 0 => .array .int
  | 1 => .array .int
  | 2 => .array .int
  | 3 => .int
  | 4 => .boolean
  | 5 => .int
  | _ => .int
theorem nmX7 : ∀ a, a < 7 → ∀ b, b < 7 → a ≠ b → (TX7 a).2.1 ≠ (TX7 b).2.1 := by decide +kernel
theorem tyX7_ok : ∀ k, k < 7 → parseFieldDescriptor (TX7 k).2.2.1 = some (tyX7 k) := by decide +kernel
abbrev cX7_init : ByteArray := prog_9_method_1_code
def yX7_init : MethodName := ⟨RX7, "<init>", "()V"⟩
abbrev cX7_tell : ByteArray := prog_9_method_2_code
def yX7_tell : MethodName := ⟨RX7, "tell", "(III)Z"⟩
abbrev cX7_blow : ByteArray := prog_9_method_3_code
def yX7_blow : MethodName := ⟨RX7, "blow", "(I)V"⟩
abbrev cX7_find : ByteArray := prog_9_method_4_code
def yX7_find : MethodName := ⟨RX7, "find", "(I)V"⟩
def RX8 : String := "TallShip"
def TX8 : u_T := fun k => match k with
  | 0 => ("TallShip", "crew", "LTallShip$Crew;", true)
  | 1 => ("TallShip", "rig", "LTallShip$Rig;", true)
  | 2 => ("TallShip", "winds", "LTallShip$Winds;", true)
  | 3 => ("TallShip", "tape", "LTallShip$Tape;", true)
  | 4 => ("TallShip", "reader", "LTallShip$Reader;", true)
  | 5 => ("TallShip", "passage", "LTallShip$Passage;", true)
  | 6 => ("TallShip", "parts", "[I", true)
  | 7 => ("TallShip", "script", "LTallShip$Script;", false)
  | 8 => ("TallShip", "spare", "LTallShip$Script;", false)
  | 9 => ("TallShip", "at", "I", false)
  | 10 => ("TallShip", "waiting", "I", false)
  | 11 => ("TallShip", "carried", "I", false)
  | 12 => ("TallShip", "minute", "I", false)
  | 13 => ("TallShip", "course", "I", false)
  | 14 => ("TallShip", "wish", "I", false)
  | 15 => ("TallShip", "speed", "I", false)
  | 16 => ("TallShip", "x", "I", false)
  | _ => ("TallShip", "y", "I", false)
def tyX8 : Nat → FieldType := fun k => match k with
  | 0 => .object "TallShip$Crew"
  | 1 => .object "TallShip$Rig"
  | 2 => .object "TallShip$Winds"
  | 3 => .object "TallShip$Tape"
  | 4 => .object "TallShip$Reader"
  | 5 => .object "TallShip$Passage"
  | 6 => .array .int
  | 7 => .object "TallShip$Script"
  | 8 => .object "TallShip$Script"
  | 9 => .int
  | 10 => .int
  | 11 => .int
  | 12 => .int
  | 13 => .int
  | 14 => .int
  | 15 => .int
  | 16 => .int
  | _ => .int
theorem nmX8 : ∀ a, a < 18 → ∀ b, b < 18 → a ≠ b → (TX8 a).2.1 ≠ (TX8 b).2.1 := by decide +kernel
theorem tyX8_ok : ∀ k, k < 18 → parseFieldDescriptor (TX8 k).2.2.1 = some (tyX8 k) := by decide +kernel
abbrev cX8_init : ByteArray := prog_1_method_1_code
def yX8_init : MethodName := ⟨RX8, "<init>", "(I)V"⟩
abbrev cX8_feed : ByteArray := prog_1_method_2_code
def yX8_feed : MethodName := ⟨RX8, "feed", "(JJJ)I"⟩
abbrev cX8_orders : ByteArray := prog_1_method_3_code
def yX8_orders : MethodName := ⟨RX8, "orders", "()I"⟩
abbrev cX8_wind : ByteArray := prog_1_method_4_code
def yX8_wind : MethodName := ⟨RX8, "wind", "(III)Z"⟩
abbrev cX8_minutes : ByteArray := prog_1_method_5_code
def yX8_minutes : MethodName := ⟨RX8, "minutes", "(I)I"⟩
abbrev cX8_sail : ByteArray := prog_1_method_6_code
def yX8_sail : MethodName := ⟨RX8, "sail", "(II)I"⟩
abbrev cX8_rope : ByteArray := prog_1_method_7_code
def yX8_rope : MethodName := ⟨RX8, "rope", "(II)I"⟩
abbrev cX8_braced : ByteArray := prog_1_method_8_code
def yX8_braced : MethodName := ⟨RX8, "braced", "(I)I"⟩
abbrev cX8_hand : ByteArray := prog_1_method_9_code
def yX8_hand : MethodName := ⟨RX8, "hand", "(II)I"⟩
abbrev cX8_look : ByteArray := prog_1_method_10_code
def yX8_look : MethodName := ⟨RX8, "look", "(I)I"⟩
abbrev cX8_foretell : ByteArray := prog_1_method_11_code
def yX8_foretell : MethodName := ⟨RX8, "foretell", "(III)Z"⟩
abbrev cX8_plan : ByteArray := prog_1_method_12_code
def yX8_plan : MethodName := ⟨RX8, "plan", "(II)I"⟩
abbrev cX8_leg : ByteArray := prog_1_method_13_code
def yX8_leg : MethodName := ⟨RX8, "leg", "(I)I"⟩
abbrev cX8_passMinute : ByteArray := prog_1_method_14_code
def yX8_passMinute : MethodName := ⟨RX8, "passMinute", "()V"⟩
abbrev cX8_endWorks : ByteArray := prog_1_method_15_code
def yX8_endWorks : MethodName := ⟨RX8, "endWorks", "()V"⟩
abbrev cX8_carryOut : ByteArray := prog_1_method_16_code
def yX8_carryOut : MethodName := ⟨RX8, "carryOut", "()V"⟩
abbrev cX8_weighParts : ByteArray := prog_1_method_17_code
def yX8_weighParts : MethodName := ⟨RX8, "weighParts", "()V"⟩
abbrev cX8_carryOutOne : ByteArray := prog_1_method_18_code
def yX8_carryOutOne : MethodName := ⟨RX8, "carryOutOne", "(I)Z"⟩
abbrev cX8_beginWork : ByteArray := prog_1_method_19_code
def yX8_beginWork : MethodName := ⟨RX8, "beginWork", "(III)Z"⟩
abbrev cX8_changeSpeed : ByteArray := prog_1_method_20_code
def yX8_changeSpeed : MethodName := ⟨RX8, "changeSpeed", "(I)V"⟩
abbrev cX8_strainSails : ByteArray := prog_1_method_21_code
def yX8_strainSails : MethodName := ⟨RX8, "strainSails", "(Z)V"⟩
def RX9 : String := "TallShipModel"
def TX9 : u_T := fun k => match k with
  | 0 => ("TallShipModel", "thrown", "I", false)
  | 1 => ("TallShipModel", "tape", "[I", true)
  | 2 => ("TallShipModel", "taped", "I", false)
  | 3 => ("TallShipModel", "size", "I", false)
  | 4 => ("TallShipModel", "sort", "[I", true)
  | 5 => ("TallShipModel", "place", "[I", true)
  | 6 => ("TallShipModel", "value", "[J", true)
  | 7 => ("TallShipModel", "at", "I", false)
  | 8 => ("TallShipModel", "fault", "I", false)
  | 9 => ("TallShipModel", "words", "[J", true)
  | 10 => ("TallShipModel", "op", "[I", true)
  | 11 => ("TallShipModel", "one", "[I", true)
  | 12 => ("TallShipModel", "two", "[I", true)
  | 13 => ("TallShipModel", "holds", "I", false)
  | 14 => ("TallShipModel", "next", "I", false)
  | 15 => ("TallShipModel", "codes", "I", false)
  | 16 => ("TallShipModel", "statements", "[I", true)
  | 17 => ("TallShipModel", "deep", "I", false)
  | 18 => ("TallShipModel", "hands", "I", true)
  | 19 => ("TallShipModel", "sail", "[I", true)
  | 20 => ("TallShipModel", "rope", "[I", true)
  | 21 => ("TallShipModel", "wear", "[I", true)
  | 22 => ("TallShipModel", "braced", "[I", true)
  | 23 => ("TallShipModel", "workOf", "[I", true)
  | 24 => ("TallShipModel", "work", "[I", true)
  | 25 => ("TallShipModel", "about", "[I", true)
  | 26 => ("TallShipModel", "target", "[I", true)
  | 27 => ("TallShipModel", "ends", "[I", true)
  | 28 => ("TallShipModel", "deck", "I", false)
  | 29 => ("TallShipModel", "minute", "I", false)
  | 30 => ("TallShipModel", "course", "I", false)
  | 31 => ("TallShipModel", "wish", "I", false)
  | 32 => ("TallShipModel", "speed", "I", false)
  | 33 => ("TallShipModel", "placeX", "I", false)
  | 34 => ("TallShipModel", "placeY", "I", false)
  | 35 => ("TallShipModel", "parted", "I", false)
  | 36 => ("TallShipModel", "done", "I", false)
  | 37 => ("TallShipModel", "pc", "I", false)
  | 38 => ("TallShipModel", "waitsTo", "I", false)
  | 39 => ("TallShipModel", "winds", "I", false)
  | 40 => ("TallShipModel", "windMinute", "[I", true)
  | 41 => ("TallShipModel", "windPoint", "[I", true)
  | 42 => ("TallShipModel", "windForce", "[I", true)
  | 43 => ("TallShipModel", "latestPoint", "I", false)
  | 44 => ("TallShipModel", "latestForce", "I", false)
  | 45 => ("TallShipModel", "pile", "[I", true)
  | 46 => ("TallShipModel", "top", "I", false)
  | 47 => ("TallShipModel", "toldPoint", "[I", true)
  | 48 => ("TallShipModel", "toldForce", "[I", true)
  | 49 => ("TallShipModel", "forth", "[Z", true)
  | 50 => ("TallShipModel", "back", "[Z", true)
  | 51 => ("TallShipModel", "legs", "I", false)
  | _ => ("TallShipModel", "leg", "[I", true)
def tyX9 : Nat → FieldType := fun k => match k with
  | 0 => .int
  | 1 => .array .int
  | 2 => .int
  | 3 => .int
  | 4 => .array .int
  | 5 => .array .int
  | 6 => .array .long
  | 7 => .int
  | 8 => .int
  | 9 => .array .long
  | 10 => .array .int
  | 11 => .array .int
  | 12 => .array .int
  | 13 => .int
  | 14 => .int
  | 15 => .int
  | 16 => .array .int
  | 17 => .int
  | 18 => .int
  | 19 => .array .int
  | 20 => .array .int
  | 21 => .array .int
  | 22 => .array .int
  | 23 => .array .int
  | 24 => .array .int
  | 25 => .array .int
  | 26 => .array .int
  | 27 => .array .int
  | 28 => .int
  | 29 => .int
  | 30 => .int
  | 31 => .int
  | 32 => .int
  | 33 => .int
  | 34 => .int
  | 35 => .int
  | 36 => .int
  | 37 => .int
  | 38 => .int
  | 39 => .int
  | 40 => .array .int
  | 41 => .array .int
  | 42 => .array .int
  | 43 => .int
  | 44 => .int
  | 45 => .array .int
  | 46 => .int
  | 47 => .array .int
  | 48 => .array .int
  | 49 => .array .boolean
  | 50 => .array .boolean
  | 51 => .int
  | _ => .array .int
theorem nmX9 : ∀ a, a < 53 → ∀ b, b < 53 → a ≠ b → (TX9 a).2.1 ≠ (TX9 b).2.1 := by decide +kernel
theorem tyX9_ok : ∀ k, k < 53 → parseFieldDescriptor (TX9 k).2.2.1 = some (tyX9 k) := by decide +kernel
abbrev cX9_thrown : ByteArray := prog_11_method_1_code
def yX9_thrown : MethodName := ⟨RX9, "thrown", "()I"⟩
abbrev cX9_feed : ByteArray := prog_11_method_2_code
def yX9_feed : MethodName := ⟨RX9, "feed", "(JJJ)I"⟩
abbrev cX9_lay : ByteArray := prog_11_method_3_code
def yX9_lay : MethodName := ⟨RX9, "lay", "(J)V"⟩
abbrev cX9_init : ByteArray := prog_11_method_4_code
def yX9_init : MethodName := ⟨RX9, "<init>", "(I)V"⟩
abbrev cX9_isLetter : ByteArray := prog_11_method_5_code
def yX9_isLetter : MethodName := ⟨RX9, "isLetter", "(I)Z"⟩
abbrev cX9_isDigit : ByteArray := prog_11_method_6_code
def yX9_isDigit : MethodName := ⟨RX9, "isDigit", "(I)Z"⟩
abbrev cX9_rank : ByteArray := prog_11_method_7_code
def yX9_rank : MethodName := ⟨RX9, "rank", "(I)I"⟩
abbrev cX9_isSignOf : ByteArray := prog_11_method_8_code
def yX9_isSignOf : MethodName := ⟨RX9, "isSignOf", "(I)Z"⟩
abbrev cX9_cutAll : ByteArray := prog_11_method_9_code
def yX9_cutAll : MethodName := ⟨RX9, "cutAll", "()V"⟩
abbrev cX9_wrong : ByteArray := prog_11_method_10_code
def yX9_wrong : MethodName := ⟨RX9, "wrong", "(I)V"⟩
abbrev cX9_isSign : ByteArray := prog_11_method_11_code
def yX9_isSign : MethodName := ⟨RX9, "isSign", "(I)Z"⟩
abbrev cX9_isWord : ByteArray := prog_11_method_12_code
def yX9_isWord : MethodName := ⟨RX9, "isWord", "(I)Z"⟩
abbrev cX9_takeSign : ByteArray := prog_11_method_13_code
def yX9_takeSign : MethodName := ⟨RX9, "takeSign", "(I)V"⟩
abbrev cX9_hasWord : ByteArray := prog_11_method_15_code
def yX9_hasWord : MethodName := ⟨RX9, "hasWord", "(I)Z"⟩
abbrev cX9_takeNumber : ByteArray := prog_11_method_17_code
def yX9_takeNumber : MethodName := ⟨RX9, "takeNumber", "(II)I"⟩
abbrev cX9_emit : ByteArray := prog_11_method_18_code
def yX9_emit : MethodName := ⟨RX9, "emit", "(III)I"⟩
abbrev cX9_here : ByteArray := prog_11_method_19_code
def yX9_here : MethodName := ⟨RX9, "here", "()I"⟩
abbrev cX9_orders : ByteArray := prog_11_method_20_code
def yX9_orders : MethodName := ⟨RX9, "orders", "()I"⟩
abbrev cX9_statement : ByteArray := prog_11_method_21_code
def yX9_statement : MethodName := ⟨RX9, "statement", "()V"⟩
abbrev cX9_choice : ByteArray := prog_11_method_22_code
def yX9_choice : MethodName := ⟨RX9, "choice", "(II)V"⟩
abbrev cX9_block : ByteArray := prog_11_method_23_code
def yX9_block : MethodName := ⟨RX9, "block", "()V"⟩
abbrev cX9_expression : ByteArray := prog_11_method_24_code
def yX9_expression : MethodName := ⟨RX9, "expression", "()V"⟩
abbrev cX9_sum : ByteArray := prog_11_method_25_code
def yX9_sum : MethodName := ⟨RX9, "sum", "()V"⟩
abbrev cX9_part : ByteArray := prog_11_method_26_code
def yX9_part : MethodName := ⟨RX9, "part", "()V"⟩
abbrev cX9_wind : ByteArray := prog_11_method_27_code
def yX9_wind : MethodName := ⟨RX9, "wind", "(III)Z"⟩
abbrev cX9_windNow : ByteArray := prog_11_method_28_code
def yX9_windNow : MethodName := ⟨RX9, "windNow", "()I"⟩
abbrev cX9_point : ByteArray := prog_11_method_29_code
def yX9_point : MethodName := ⟨RX9, "point", "()I"⟩
abbrev cX9_force : ByteArray := prog_11_method_30_code
def yX9_force : MethodName := ⟨RX9, "force", "()I"⟩
abbrev cX9_apart : ByteArray := prog_11_method_31_code
def yX9_apart : MethodName := ⟨RX9, "apart", "(II)I"⟩
abbrev cX9_table : ByteArray := prog_11_method_32_code
def yX9_table : MethodName := ⟨RX9, "table", "(I)I"⟩
abbrev cX9_area : ByteArray := prog_11_method_33_code
def yX9_area : MethodName := ⟨RX9, "area", "(I)I"⟩
abbrev cX9_minutesOf : ByteArray := prog_11_method_34_code
def yX9_minutesOf : MethodName := ⟨RX9, "minutesOf", "(III)I"⟩
abbrev cX9_handsOf : ByteArray := prog_11_method_35_code
def yX9_handsOf : MethodName := ⟨RX9, "handsOf", "(I)I"⟩
abbrev cX9_isUnder : ByteArray := prog_11_method_36_code
def yX9_isUnder : MethodName := ⟨RX9, "isUnder", "(II)Z"⟩
abbrev cX9_isBarred : ByteArray := prog_11_method_37_code
def yX9_isBarred : MethodName := ⟨RX9, "isBarred", "(II)Z"⟩
abbrev cX9_isMeant : ByteArray := prog_11_method_38_code
def yX9_isMeant : MethodName := ⟨RX9, "isMeant", "(III)Z"⟩
abbrev cX9_isOnDeck : ByteArray := prog_11_method_39_code
def yX9_isOnDeck : MethodName := ⟨RX9, "isOnDeck", "(I)Z"⟩
abbrev cX9_begins : ByteArray := prog_11_method_40_code
def yX9_begins : MethodName := ⟨RX9, "begins", "(III)Z"⟩
abbrev cX9_gives : ByteArray := prog_11_method_41_code
def yX9_gives : MethodName := ⟨RX9, "gives", "(I)V"⟩
abbrev cX9_endWorks : ByteArray := prog_11_method_42_code
def yX9_endWorks : MethodName := ⟨RX9, "endWorks", "()V"⟩
abbrev cX9_ended : ByteArray := prog_11_method_43_code
def yX9_ended : MethodName := ⟨RX9, "ended", "(III)V"⟩
abbrev cX9_partOf : ByteArray := prog_11_method_44_code
def yX9_partOf : MethodName := ⟨RX9, "partOf", "(I)I"⟩
abbrev cX9_loadNow : ByteArray := prog_11_method_45_code
def yX9_loadNow : MethodName := ⟨RX9, "loadNow", "()I"⟩
abbrev cX9_carries : ByteArray := prog_11_method_46_code
def yX9_carries : MethodName := ⟨RX9, "carries", "()V"⟩
abbrev cX9_carriesOut : ByteArray := prog_11_method_47_code
def yX9_carriesOut : MethodName := ⟨RX9, "carriesOut", "(I)V"⟩
abbrev cX9_reckons : ByteArray := prog_11_method_48_code
def yX9_reckons : MethodName := ⟨RX9, "reckons", "(II)V"⟩
abbrev cX9_dy : ByteArray := prog_11_method_49_code
def yX9_dy : MethodName := ⟨RX9, "dy", "(I)I"⟩
abbrev cX9_dx : ByteArray := prog_11_method_50_code
def yX9_dx : MethodName := ⟨RX9, "dx", "(I)I"⟩
abbrev cX9_sails : ByteArray := prog_11_method_51_code
def yX9_sails : MethodName := ⟨RX9, "sails", "()V"⟩
abbrev cX9_loads : ByteArray := prog_11_method_52_code
def yX9_loads : MethodName := ⟨RX9, "loads", "(II)V"⟩
abbrev cX9_goes : ByteArray := prog_11_method_53_code
def yX9_goes : MethodName := ⟨RX9, "goes", "()V"⟩
abbrev cX9_minutes : ByteArray := prog_11_method_54_code
def yX9_minutes : MethodName := ⟨RX9, "minutes", "(I)I"⟩
abbrev cX9_sail : ByteArray := prog_11_method_55_code
def yX9_sail : MethodName := ⟨RX9, "sail", "(II)I"⟩
abbrev cX9_rope : ByteArray := prog_11_method_56_code
def yX9_rope : MethodName := ⟨RX9, "rope", "(II)I"⟩
abbrev cX9_braced : ByteArray := prog_11_method_57_code
def yX9_braced : MethodName := ⟨RX9, "braced", "(I)I"⟩
abbrev cX9_hand : ByteArray := prog_11_method_58_code
def yX9_hand : MethodName := ⟨RX9, "hand", "(II)I"⟩
abbrev cX9_look : ByteArray := prog_11_method_59_code
def yX9_look : MethodName := ⟨RX9, "look", "(I)I"⟩
abbrev cX9_foretell : ByteArray := prog_11_method_60_code
def yX9_foretell : MethodName := ⟨RX9, "foretell", "(III)Z"⟩
abbrev cX9_leads : ByteArray := prog_11_method_61_code
def yX9_leads : MethodName := ⟨RX9, "leads", "(III)I"⟩
abbrev cX9_marksForth : ByteArray := prog_11_method_62_code
def yX9_marksForth : MethodName := ⟨RX9, "marksForth", "(I)V"⟩
abbrev cX9_marksBack : ByteArray := prog_11_method_63_code
def yX9_marksBack : MethodName := ⟨RX9, "marksBack", "(I)V"⟩
abbrev cX9_plan : ByteArray := prog_11_method_64_code
def yX9_plan : MethodName := ⟨RX9, "plan", "(II)I"⟩
abbrev cX9_leg : ByteArray := prog_11_method_65_code
def yX9_leg : MethodName := ⟨RX9, "leg", "(I)I"⟩
def RJ9 : String := "java/lang/Math"
abbrev cJ9_abs_0f7a4 : ByteArray := prog_13_method_59_code
def yJ9_abs_0f7a4 : MethodName := ⟨RJ9, "abs", "(I)I"⟩
abbrev cJ9_max_7cf53 : ByteArray := prog_13_method_65_code
def yJ9_max_7cf53 : MethodName := ⟨RJ9, "max", "(II)I"⟩
abbrev cJ9_min_7cf53 : ByteArray := prog_13_method_69_code
def yJ9_min_7cf53 : MethodName := ⟨RJ9, "min", "(II)I"⟩
def RJ0 : String := "java/lang/String"
abbrev cJ0_length_8abf5 : ByteArray := prog_15_method_54_code
def yJ0_length_8abf5 : MethodName := ⟨RJ0, "length", "()I"⟩
abbrev cJ0_charAt_5068e : ByteArray := prog_15_method_56_code
def yJ0_charAt_5068e : MethodName := ⟨RJ0, "charAt", "(I)C"⟩
abbrev cJ0_coder_7d493 : ByteArray := prog_15_method_152_code
def yJ0_coder_7d493 : MethodName := ⟨RJ0, "coder", "()B"⟩
abbrev cJ0_isLatin1_aae02 : ByteArray := prog_15_method_154_code
def yJ0_isLatin1_aae02 : MethodName := ⟨RJ0, "isLatin1", "()Z"⟩
abbrev cJ0_checkIndex_df160 : ByteArray := prog_15_method_155_code
def yJ0_checkIndex_df160 : MethodName := ⟨RJ0, "checkIndex", "(II)V"⟩
def RJ1 : String := "java/lang/StringLatin1"
abbrev cJ1_charAt_3b067 : ByteArray := prog_16_method_2_code
def yJ1_charAt_3b067 : MethodName := ⟨RJ1, "charAt", "([BI)C"⟩
def RJ2 : String := "java/lang/StringUTF16"
abbrev cJ2_getChar_3b067 : ByteArray := prog_17_method_5_code
def yJ2_getChar_3b067 : MethodName := ⟨RJ2, "getChar", "([BI)C"⟩
abbrev cJ2_length_9d52b : ByteArray := prog_17_method_6_code
def yJ2_length_9d52b : MethodName := ⟨RJ2, "length", "([B)I"⟩
abbrev cJ2_charAt_3b067 : ByteArray := prog_17_method_83_code
def yJ2_charAt_3b067 : MethodName := ⟨RJ2, "charAt", "([BI)C"⟩
abbrev cJ2_checkIndex_2214a : ByteArray := prog_17_method_91_code
def yJ2_checkIndex_2214a : MethodName := ⟨RJ2, "checkIndex", "(I[B)V"⟩
def RJ3 : String := "jdk/internal/util/Preconditions"
abbrev cJ3_checkIndex_8e157 : ByteArray := prog_20_method_11_code
def yJ3_checkIndex_8e157 : MethodName := ⟨RJ3, "checkIndex", "(IILjava/util/function/BiFunction;)I"⟩
def RL : String := "TallShipLaw"
abbrev cL_cell : ByteArray := method_2_code
def yL_cell : MethodName := ⟨RL, "cell", "([II)I"⟩
abbrev cL_hand : ByteArray := method_3_code
def yL_hand : MethodName := ⟨RL, "hand", "(LTallShip;II[J)I"⟩
abbrev cL_law : ByteArray := code
def yL_law : MethodName := ⟨RL, "law", "([I)Z"⟩
abbrev vwCl : List vw_C := [(RX1, TX1, 8), (RX2, TX2, 6), (RX3, TX3, 4), (RX4, TX4, 8), (RX5, TX5, 9), (RX6, TX6, 6), (RX7, TX7, 7), (RX8, TX8, 18), (RX9, TX9, 53)]
end
section
/-! THE PICTURE: objects by numbers (in the order in which they are made), three planes: ints, longs, references. -/
abbrev zV : Type := Int32 ⊕ (Int64 ⊕ Option Nat)
abbrev zi (x : Int32) : zV := Sum.inl x
abbrev zl (x : Int64) : zV := Sum.inr (Sum.inl x)
abbrev zq (r : Option Nat) : zV := Sum.inr (Sum.inr r)
abbrev zr (o : Nat) : zV := Sum.inr (Sum.inr (some o))
def zc (ad : Nat → Nat) (v : zV) : Value := match v with
  | .inl x => .int x
  | .inr (.inl x) => .long x
  | .inr (.inr r) => va_rf (r.map ad)
def zcat (v : zV) : Nat := match v with
  | .inr (.inl _) => 2
  | _ => 1
theorem zc_cat (ad : Nat → Nat) (v : zV) : (zc ad v).category = zcat v := by
  rcases v with x | x | r
  · rfl
  · rfl
  · cases r <;> rfl
/-- a shape: an object of a class of vwCl, or an array of a type and a length -/
abbrev zS : Type := Nat ⊕ (FieldType × Nat)
abbrev zW : Type := List zS × (Nat → Nat → Int32) × (Nat → Nat → Int64) × (Nat → Nat → Option Nat)
def zu {α : Type} (f : Nat → Nat → α) (o k : Nat) (x : α) : Nat → Nat → α := fun a b => if a = o then (if b = k then x else f a b) else f a b
theorem zu_same {α : Type} {f : Nat → Nat → α} {o k : Nat} {x : α} : zu f o k x o k = x := by simp [zu]
theorem zu_row {α : Type} {f : Nat → Nat → α} {o k a b : Nat} {x : α} (h : a ≠ o) : zu f o k x a b = f a b := by simp [zu, h]
theorem zu_col {α : Type} {f : Nat → Nat → α} {o k a b : Nat} {x : α} (h : b ≠ k) : zu f o k x a b = f a b := by simp [zu, h]
theorem zu_rowf {α : Type} {f : Nat → Nat → α} {o k a : Nat} {x : α} (h : a ≠ o) : zu f o k x a = f a := by funext b; exact zu_row h
def zn (ci : Nat) : Nat := match vwCl[ci]? with
  | some q => q.2.2
  | none => 0
def zty (ci : Nat) : Nat → FieldType := match ci with
  | 0 => tyX1
  | 1 => tyX2
  | 2 => tyX3
  | 3 => tyX4
  | 4 => tyX5
  | 5 => tyX6
  | 6 => tyX7
  | 7 => tyX8
  | _ => tyX9
def zkind (ty : FieldType) : Nat := match ty with
  | .long => 1
  | .object _ => 2
  | .array _ => 2
  | _ => 0
def zfv (ad : Nat → Nat) (σ : zW) (o ci k : Nat) : Value := match zkind (zty ci k) with
  | 0 => .int (σ.2.1 o k)
  | 1 => .long (σ.2.2.1 o k)
  | _ => va_rf ((σ.2.2.2 o k).map ad)
def zfs (ad : Nat → Nat) (σ : zW) (o ci : Nat) : List Value := (List.range (zn ci)).map (zfv ad σ o ci)
def zar (ty : FieldType) (n : Nat) (σ : zW) (o : Nat) : vp_A := match zkind ty with
  | 1 => (n, .inr (.inl (σ.2.2.1 o)))
  | _ => (n, .inl (σ.2.1 o))
def zce (dA : FieldType → ClassId) (ad : Nat → Nat) (σ : zW) (o : Nat) : va_E := match σ.1[o]? with
  | some (.inl ci) => .inr (ci, zfs ad σ o ci)
  | some (.inr (ty, n)) => .inl (dA ty, zar ty n σ o)
  | none => .inr (0, [])
def zws (dA : FieldType → ClassId) (ad : Nat → Nat) (σ : zW) : va_W := (List.range σ.1.length).map (fun o => (ad o, zce dA ad σ o))
theorem zlt {α : Type} {S : List α} {o : Nat} {x : α} (h : S[o]? = some x) : o < S.length := (List.getElem?_eq_some_iff.mp h).1
theorem zws_at {dA : FieldType → ClassId} {ad : Nat → Nat} {σ : zW} {o : Nat} (h : o < σ.1.length) : (zws dA ad σ)[o]? = some (ad o, zce dA ad σ o) := by
  simp [zws, List.getElem?_map, List.getElem?_range h]
theorem zws_len {dA : FieldType → ClassId} {ad : Nat → Nat} {σ : zW} : (zws dA ad σ).length = σ.1.length := by simp [zws]
theorem zws_obj {dA : FieldType → ClassId} {ad : Nat → Nat} {σ : zW} {o ci : Nat} (h : σ.1[o]? = some (.inl ci)) : (zws dA ad σ)[o]? = some (ad o, .inr (ci, zfs ad σ o ci)) := by
  rw [zws_at (zlt h)]
  simp [zce, h]
theorem zws_arr {dA : FieldType → ClassId} {ad : Nat → Nat} {σ : zW} {o n : Nat} {ty : FieldType} (h : σ.1[o]? = some (.inr (ty, n))) : (zws dA ad σ)[o]? = some (ad o, .inl (dA ty, zar ty n σ o)) := by
  rw [zws_at (zlt h)]
  simp [zce, h]
theorem zws_set {dA : FieldType → ClassId} {ad : Nat → Nat} {σ σ1 : zW} {o : Nat} (hS : σ1.1 = σ.1) (ho : o < σ.1.length) (hne : ∀ a, a ≠ o → zce dA ad σ1 a = zce dA ad σ a) :
    (zws dA ad σ).set o (ad o, zce dA ad σ1 o) = zws dA ad σ1 := by
  apply List.ext_getElem?
  intro i
  by_cases hi : i < σ.1.length
  · rw [zws_at (σ := σ1) (by rw [hS]; exact hi)]
    by_cases e : o = i
    · subst e
      rw [List.getElem?_set_self (by rw [zws_len]; exact ho)]
    · rw [List.getElem?_set_ne e, zws_at hi, hne i (Ne.symm e)]
  · rw [List.getElem?_eq_none (by rw [List.length_set, zws_len]; omega), List.getElem?_eq_none (by rw [zws_len, hS]; omega)]
theorem zfs_get {ad : Nat → Nat} {σ : zW} {o ci k : Nat} (hk : k < zn ci) : (zfs ad σ o ci)[k]? = some (zfv ad σ o ci k) := by
  simp [zfs, List.getElem?_map, List.getElem?_range hk]
theorem zfs_set {ad : Nat → Nat} {σ σ1 : zW} {o ci k : Nat} {v : Value} (hk : k < zn ci) (h1 : zfv ad σ1 o ci k = v) (hne : ∀ j, j ≠ k → zfv ad σ1 o ci j = zfv ad σ o ci j) : (zfs ad σ o ci).set k v = zfs ad σ1 o ci := by
  apply List.ext_getElem?
  intro i
  by_cases hi : i < zn ci
  · rw [zfs_get (σ := σ1) hi]
    by_cases e : k = i
    · subst e
      rw [List.getElem?_set_self (by simpa [zfs] using hk), h1]
    · rw [List.getElem?_set_ne e, zfs_get hi, hne i (Ne.symm e)]
  · rw [List.getElem?_eq_none (by simp [zfs]; omega), List.getElem?_eq_none (by simp [zfs]; omega)]
/-- a cell is told by its shape and its rows of the planes -/
theorem zce_eq {dA : FieldType → ClassId} {ad : Nat → Nat} {σ σ1 : zW} {a : Nat} (hS : σ1.1 = σ.1) (h1 : σ1.2.1 a = σ.2.1 a) (h2 : σ1.2.2.1 a = σ.2.2.1 a) (h3 : σ1.2.2.2 a = σ.2.2.2 a) : zce dA ad σ1 a = zce dA ad σ a := by
  unfold zce
  rw [hS]
  cases σ.1[a]? with
  | none => rfl
  | some sh =>
    cases sh with
    | inl ci =>
      have e : zfv ad σ1 a ci = zfv ad σ a ci := by funext k; simp [zfv, h1, h2, h3]
      simp only [zfs, e]
    | inr q => simp [zar, h1, h2]
theorem zset_i {dA : FieldType → ClassId} {ad : Nat → Nat} {σ : zW} {o ci k : Nat} {x : Int32} (h : σ.1[o]? = some (.inl ci)) (hk : k < zn ci) (ht : zkind (zty ci k) = 0) :
    (zws dA ad σ).set o (ad o, .inr (ci, (zfs ad σ o ci).set k (.int x))) = zws dA ad (σ.1, zu σ.2.1 o k x, σ.2.2.1, σ.2.2.2) := by
  rw [← zws_set (σ := σ) (σ1 := (σ.1, zu σ.2.1 o k x, σ.2.2.1, σ.2.2.2)) (o := o) rfl (zlt h) (fun a ha => zce_eq rfl (zu_rowf ha) rfl rfl)]
  congr 2
  simp only [zce, h]
  rw [zfs_set (σ1 := (σ.1, zu σ.2.1 o k x, σ.2.2.1, σ.2.2.2)) hk (by simp [zfv, ht, zu_same]) (fun j hj => by simp [zfv, zu_col hj])]
theorem zset_q {dA : FieldType → ClassId} {ad : Nat → Nat} {σ : zW} {o ci k : Nat} {r : Option Nat} (h : σ.1[o]? = some (.inl ci)) (hk : k < zn ci) (ht : zkind (zty ci k) = 2) :
    (zws dA ad σ).set o (ad o, .inr (ci, (zfs ad σ o ci).set k (va_rf (r.map ad)))) = zws dA ad (σ.1, σ.2.1, σ.2.2.1, zu σ.2.2.2 o k r) := by
  rw [← zws_set (σ := σ) (σ1 := (σ.1, σ.2.1, σ.2.2.1, zu σ.2.2.2 o k r)) (o := o) rfl (zlt h) (fun a ha => zce_eq rfl rfl rfl (zu_rowf ha))]
  congr 2
  simp only [zce, h]
  rw [zfs_set (σ1 := (σ.1, σ.2.1, σ.2.2.1, zu σ.2.2.2 o k r)) hk (by simp [zfv, ht, zu_same]) (fun j hj => by simp [zfv, zu_col hj])]
theorem zu_upd {f : Nat → Nat → Int32} {o k : Nat} {x : Int32} : zu f o k x o = upd (f o) k x := by
  funext b
  simp [zu, upd]
theorem zu_updL {f : Nat → Nat → Int64} {o k : Nat} {x : Int64} : zu f o k x o = vp_updL (f o) k x := by
  funext b
  simp [zu, vp_updL]
theorem zseta_i {dA : FieldType → ClassId} {ad : Nat → Nat} {σ : zW} {o n k : Nat} {ty : FieldType} {x : Int32} (h : σ.1[o]? = some (.inr (ty, n))) (ht : zkind ty = 0) :
    (zws dA ad σ).set o (ad o, .inl (dA ty, n, .inl (upd (σ.2.1 o) k x))) = zws dA ad (σ.1, zu σ.2.1 o k x, σ.2.2.1, σ.2.2.2) := by
  rw [← zws_set (σ := σ) (σ1 := (σ.1, zu σ.2.1 o k x, σ.2.2.1, σ.2.2.2)) (o := o) rfl (zlt h) (fun a ha => zce_eq rfl (zu_rowf ha) rfl rfl)]
  simp [zce, h, zar, ht, zu_upd]
theorem zseta_l {dA : FieldType → ClassId} {ad : Nat → Nat} {σ : zW} {o n k : Nat} {x : Int64} (h : σ.1[o]? = some (.inr (.long, n))) :
    (zws dA ad σ).set o (ad o, .inl (dA .long, n, .inr (.inl (vp_updL (σ.2.2.1 o) k x)))) = zws dA ad (σ.1, σ.2.1, zu σ.2.2.1 o k x, σ.2.2.2) := by
  rw [← zws_set (σ := σ) (σ1 := (σ.1, σ.2.1, zu σ.2.2.1 o k x, σ.2.2.2)) (o := o) rfl (zlt h) (fun a ha => zce_eq rfl rfl (zu_rowf ha) rfl)]
  simp [zce, h, zar, zkind, zu_updL]
/-! numbers of references that may be met: an object that is there, or one of those from outside (1000 and on) -/
def zok (n x : Nat) : Prop := x < n ∨ 1000 ≤ x
def zwfv (n : Nat) (v : zV) : Prop := ∀ x, v = zr x → zok n x
def zwfs (n : Nat) (st : List zV) : Prop := ∀ v ∈ st, zwfv n v
def zwfl (n : Nat) (lv : List (Nat × zV)) : Prop := ∀ q ∈ lv, zwfv n q.2
def zwfR (n : Nat) (R : Nat → Nat → Option Nat) : Prop := ∀ o k x, R o k = some x → zok n x
theorem zwfv_i {n : Nat} {x : Int32} : zwfv n (zi x) := fun _ h => by cases h
theorem zwfv_l {n : Nat} {x : Int64} : zwfv n (zl x) := fun _ h => by cases h
theorem zwfs_nil {n : Nat} : zwfs n [] := fun _ h => by cases h
theorem zwfl_nil {n : Nat} : zwfl n [] := fun _ h => by cases h
theorem zwfs_cons {n : Nat} {v : zV} {st : List zV} (h1 : zwfv n v) (h2 : zwfs n st) : zwfs n (v :: st) := fun w h => by
  rcases List.mem_cons.mp h with e | h
  · rw [e]; exact h1
  · exact h2 w h
theorem zwfs_head {n : Nat} {v : zV} {st : List zV} (h : zwfs n (v :: st)) : zwfv n v := h v List.mem_cons_self
theorem zwfs_tail {n : Nat} {v : zV} {st : List zV} (h : zwfs n (v :: st)) : zwfs n st := fun w hw => h w (List.mem_cons_of_mem _ hw)
theorem zwfs_i {n : Nat} {x : Int32} {st : List zV} (h : zwfs n st) : zwfs n (zi x :: st) := zwfs_cons zwfv_i h
theorem zwfs_l {n : Nat} {x : Int64} {st : List zV} (h : zwfs n st) : zwfs n (zl x :: st) := zwfs_cons zwfv_l h
/-- what an object's cells come to, in slots -/
def zsl : List zS → Nat
  | [] => 0
  | .inl ci :: S => zn ci + zsl S
  | .inr (_, n) :: S => n + zsl S
theorem zsl_app (S T : List zS) : zsl (S ++ T) = zsl S + zsl T := by
  induction S with
  | nil => simp [zsl]
  | cons a S ih => rcases a with ci | ⟨ty, n⟩ <;> simp [zsl, ih] <;> omega
end
section
/-! THE TWO JUDGEMENTS: zAM (a method's contract), zAW (the machine within a method), over the picture. -/
/-- a method: its name, code, number of locals, what it returns -/
abbrev zM : Type := MethodName × ByteArray × Nat × Option FieldType
def zT : List Cond := lw_tbl.filter goodWord
theorem zT_good : ∀ w ∈ zT, w ∈ lw_tbl ∧ goodWord w = true := fun _ h => List.mem_filter.mp h
theorem zT_mem {w : Cond} (i : Nat) (h : lw_tbl[i]? = some w) (hg : goodWord w = true) : w ∈ zT := List.mem_filter.mpr ⟨List.mem_of_getElem? h, hg⟩
/-- static arrays that nobody writes -/
def zst : List (String × String × List Int32) := [
  (RX0, "PULL", [0, 0, 0, 0, 0, 2, 4, 6, 8, 8, 8, 8, 8, 7, 6, 6, 6]),
  (RX0, "NORTH", [16, 16, 15, 13, 11, 9, 6, 3, 0, -3, -6, -9, -11, -13, -15, -16, -16, -16, -15, -13, -11, -9, -6, -3, 0, 3, 6, 9, 11, 13, 15, 16]),
  (RX4, "AREA", [6, 5, 3]),
  (RX4, "HANDS", [3, 4, 5, 2]),
  (RX3, "LOWEST", [0, 0, 0, 0, 0, 0, 1]),
  (RX3, "HIGHEST", [8, 8, 2, 17, 31, 2, 999])]
/-- the words that the reader spells: their places in its pool, their texts, their bytes -/
def zsr : List (Nat × String × List Int32) := [
  (66, "else", [101, 108, 115, 101]), (96, "set", [115, 101, 116]), (98, "furl", [102, 117, 114, 108]), (100, "brace", [98, 114, 97, 99, 101]),
  (102, "rope", [114, 111, 112, 101]), (104, "steer", [115, 116, 101, 101, 114]), (106, "call", [99, 97, 108, 108]), (108, "wait", [119, 97, 105, 116]),
  (110, "if", [105, 102]), (112, "while", [119, 104, 105, 108, 101]), (145, "force", [102, 111, 114, 99, 101]), (147, "from", [102, 114, 111, 109]),
  (149, "aback", [97, 98, 97, 99, 107]), (151, "speed", [115, 112, 101, 101, 100]), (153, "course", [99, 111, 117, 114, 115, 101]), (155, "hour", [104, 111, 117, 114]), (157, "load", [108, 111, 97, 100])]
/-- private constructors that the ship calls -/
def znst : List (Nat × MethodName) := [(18, yX7_init), (25, yX6_init), (41, yX2_init), (52, yX5_init)]
abbrev zcs (dA : FieldType → ClassId) : List (ClassId × FieldType) := [(dA .int, .int), (dA .char, .char), (dA .boolean, .boolean), (dA .long, .long)]
/-- what is known of the tables, and of what lies outside the picture: 1000 the script, 1001 and on the static arrays, 1020 and on the words, 1050 and on their bytes -/
def zK (X : Nat × (Nat → Int32)) (D : va_G) (dA : FieldType → ClassId) (A : Nat → Prop) (ad : Nat → Nat) (U : State) (H : Heap) : Prop :=
  va_K D vwCl (zcs dA) U ∧
  (∀ (i : Nat) (q : String × String × List Int32), zst[i]? = some q → va_Z q.1 q.2.1 "[I" (.ref (ad (1001 + i))) A U H ∧ va_T .int (ad (1001 + i)) q.2.2.length (fun j => .int (q.2.2.getD j 0)) A U H) ∧
  va_T .int (ad 1000) X.1 (fun j => .int (X.2 j)) A U H ∧
  va_Z "java/lang/String" "COMPACT_STRINGS" "Z" (.int 1) A U H ∧
  (∀ (i : Nat) (q : Nat × String × List Int32), zsr[i]? = some q → va_O "java/lang/String" (ad (1020 + i)) A U H ∧ va_OF "java/lang/String" "coder" "B" (.int 0) (ad (1020 + i)) A U H ∧ va_OF "java/lang/String" "value" "[B" (.ref (ad (1050 + i))) (ad (1020 + i)) A U H ∧
    va_T .byte (ad (1050 + i)) q.2.2.length (fun j => .int (q.2.2.getD j 0)) A U H ∧ vk_R RX3 q.1 q.2.1 (ad (1020 + i)) U) ∧
  (∀ q ∈ znst, va_Nw (.methodLinkNest RX8 q.1 q.2 RX8) U)
theorem zK.cast {X : Nat × (Nat → Int32)} {D : va_G} {dA : FieldType → ClassId} {A : Nat → Prop} {ad ad' : Nat → Nat} {U : State} {H : Heap} (h : zK X D dA A ad U H) (he : ∀ x, 1000 ≤ x → ad' x = ad x) : zK X D dA A ad' U H := by
  obtain ⟨h1, h2, h3, h4, h5, h6⟩ := h
  refine ⟨h1, fun i q hq => ?_, ?_, h4, fun i q hq => ?_, h6⟩
  · rw [he _ (by omega)]; exact h2 i q hq
  · rw [he _ (by omega)]; exact h3
  · rw [he _ (by omega), he (1050 + i) (by omega)]; exact h5 i q hq
theorem zK.warm {X : Nat × (Nat → Int32)} {D : va_G} {dA : FieldType → ClassId} {A : Nat → Prop} {ad : Nat → Nat} {u U : State} {H : Heap} (hW : u.WarmedH U.vm) (h : zK X D dA A ad u H) : zK X D dA A ad U H := by
  obtain ⟨h1, h2, h3, h4, h5, h6⟩ := h
  have hvm := hW.alike
  refine ⟨va_K.moved hvm h1, fun i q hq => ⟨va_Z.moved hvm (h2 i q hq).1, va_T.moved hvm (h2 i q hq).2⟩, va_T.moved hvm h3, va_Z.moved hvm h4, fun i q hq => ?_, fun q hq => va_Nw.warmM hW (h6 q hq)⟩
  obtain ⟨a1, a2, a3, a4, a5⟩ := h5 i q hq
  exact ⟨va_O.moved hvm a1, va_OF.moved hvm a2, va_OF.moved hvm a3, va_T.moved hvm a4, vk_R.warm hW a5⟩
theorem zK.same {X : Nat × (Nat → Int32)} {D : va_G} {dA : FieldType → ClassId} {A : Nat → Prop} {ad : Nat → Nat} {u U : State} {H : Heap} (hv : U.vm = u.vm) (h : zK X D dA A ad u H) : zK X D dA A ad U H := by
  obtain ⟨h1, h2, h3, h4, h5, h6⟩ := h
  have hvm : u.vm.Alike U.vm := by rw [hv]; exact Vm.Alike.refl _
  refine ⟨va_K.moved hvm h1, fun i q hq => ⟨va_Z.moved hvm (h2 i q hq).1, va_T.moved hvm (h2 i q hq).2⟩, va_T.moved hvm h3, va_Z.moved hvm h4, fun i q hq => ?_, fun q hq => va_Nw.same rfl hv.symm (h6 q hq)⟩
  obtain ⟨a1, a2, a3, a4, a5⟩ := h5 i q hq
  exact ⟨va_O.moved hvm a1, va_OF.moved hvm a2, va_OF.moved hvm a3, va_T.moved hvm a4, vk_R.same hv a5⟩
theorem zK.kept {X : Nat × (Nat → Int32)} {D : va_G} {dA : FieldType → ClassId} {A : Nat → Prop} {ad : Nat → Nat} {U : State} {H H1 : Heap} (h : zK X D dA A ad U H) (hq : ∀ a : Nat, a < H.size → ¬ A a → H1[a]? = H[a]?) : zK X D dA A ad U H1 := by
  obtain ⟨h1, h2, h3, h4, h5, h6⟩ := h
  refine ⟨h1, fun i q hi => ⟨(h2 i q hi).1.kept hq, (h2 i q hi).2.kept hq⟩, h3.kept hq, h4.kept hq, fun i q hi => ?_, h6⟩
  obtain ⟨a1, a2, a3, a4, a5⟩ := h5 i q hi
  exact ⟨a1.kept hq, a2.kept hq, a3.kept hq, a4.kept hq, a5⟩
theorem zK.narrow {X : Nat × (Nat → Int32)} {D : va_G} {dA : FieldType → ClassId} {A B : Nat → Prop} {ad : Nat → Nat} {U : State} {H : Heap} (h : zK X D dA A ad U H) (hAB : ∀ q, B q → A q) : zK X D dA B ad U H := by
  obtain ⟨h1, h2, h3, h4, h5, h6⟩ := h
  refine ⟨h1, fun i q hi => ⟨(h2 i q hi).1.narrow hAB, (h2 i q hi).2.narrow hAB⟩, h3.narrow hAB, h4.narrow hAB, fun i q hi => ?_, h6⟩
  obtain ⟨a1, a2, a3, a4, a5⟩ := h5 i q hi
  exact ⟨a1.narrow hAB, a2.narrow hAB, a3.narrow hAB, a4.narrow hAB, a5⟩
/-- an answer fits what the method says that it returns -/
def znar (Mt : zM) (rv : Option zV) : Prop := ∀ x ty, rv = some (zi x) → Mt.2.2.2 = some ty → narrow ty (.int x) = .int x
/-- what holds of a method that is being carried out, whatever it does -/
def zCx (E : (Nat → Prop) → Launch → State → Prop) (X : Nat × (Nat → Int32)) (Mt : zM) (d : Nat) (p : Program) (l : Launch) (R : Room) (s : State) (m : MethodId) (args : Array Value) (meth : Method) (c : Code) (D : va_G) (dA : FieldType → ClassId) (A : Nat → Prop) (ad : Nat → Nat) : Prop :=
  p.tables.exec = Jvm.exec ∧ c.code = Mt.2.1 ∧ c.maxLocals = Mt.2.2.1 ∧ s.vm.findClass Mt.1.cls = some m.cls ∧ (∀ w ∈ zT, w.before args s = true) ∧ (Mt.1.name = "<init>" → meth.name = "<init>") ∧ (∀ q, s.heap.size ≤ q → A q) ∧ zK X D dA A ad s s.heap ∧ d ≤ R.frames ∧ 60 * d ≤ R.locals ∧ E A l s
/-- the locals hold what is listed -/
abbrev zLs (ls : Array Slot) (n : Nat) (ad : Nat → Nat) (lv : List (Nat × zV)) : Prop := lv_has ls n (lv.map fun q => (q.1, zc ad q.2))
/-- the end of a method: at a return -/
def zEnd (X : Nat × (Nat → Int32)) (Mt : zM) (p : Program) (l : Launch) (e : Env) (R : Room) (s : State) (m : MethodId) (args : Array Value) (below : List Frame) (meth : Method) (c : Code) (Q : State → Prop) (D : va_G) (dA : FieldType → ClassId) (A : Nat → Prop) (ad : Nat → Nat) (n : Nat) (rv : Option zV) (σ' : zW) : Prop :=
  ∀ (pc : Nat) (ls : Array Slot) (H : Heap) (locs : List Loc) (cells slots : Nat) (ad' : Nat → Nat),
    (match rv with
      | none => decode Mt.2.1 pc = .ok (.return_, 1) ∧ Mt.2.2.2 = none
      | some (.inl _) => decode Mt.2.1 pc = .ok (.ireturn, 1) ∧ Mt.2.2.2 ≠ none
      | _ => False) → znar Mt rv →
    (∀ x, zok n x → ad' x = ad x) → va_P D vwCl (zws dA ad' σ') H → va_D A (zws dA ad' σ') → va_S A s.heap H locs → zwfR σ'.1.length σ'.2.2.2 → cells ≤ R.cells → slots ≤ R.slots →
    W p l e R s m args below meth c H locs cells slots Q (F0 m pc ls (rv.toList.map (zc ad')))
/-- the machine at pc of a method, locals lv, operands st, picture σ: it comes to the method's end with the answer rv and the picture σ' -/
def zAW (E : (Nat → Prop) → Launch → State → Prop) (X : Nat × (Nat → Int32)) (Mt : zM) (d pc : Nat) (lv : List (Nat × zV)) (st : List zV) (σ : zW) (rv : Option zV) (σ' : zW) : Prop :=
  ∀ (p : Program) (l : Launch) (e : Env) (R : Room) (s : State) (m : MethodId) (args : Array Value) (below : List Frame) (meth : Method) (c : Code) (H : Heap) (locs : List Loc) (cells slots : Nat) (Q : State → Prop) (D : va_G) (dA : FieldType → ClassId) (A : Nat → Prop) (ad : Nat → Nat) (ls : Array Slot),
    zCx E X Mt d p l R s m args meth c D dA A ad → zLs ls Mt.2.2.1 ad lv → va_P D vwCl (zws dA ad σ) H → va_D A (zws dA ad σ) → va_S A s.heap H locs →
    zwfR σ.1.length σ.2.2.2 → zwfl σ.1.length lv → zwfs σ.1.length st → cells + σ'.1.length ≤ R.cells + σ.1.length → slots + zsl σ'.1 ≤ R.slots + zsl σ.1 →
    zEnd X Mt p l e R s m args below meth c Q D dA A ad σ.1.length rv σ' →
    W p l e R s m args below meth c H locs cells slots Q (F0 m pc ls (st.map (zc ad)))
/-- what a method leaves -/
def zQc (D : va_G) (dA : FieldType → ClassId) (ad : Nat → Nat) (A : Nat → Prop) (n : Nat) (rv : Option zV) (σ' : zW) : Array Value → State → Outcome → State → Prop := match rv with
  | none => va_Qv (fun ad' : Nat → Nat => (∀ x, zok n x → ad' x = ad x) ∧ zwfR σ'.1.length σ'.2.2.2) (fun ad' t => va_P D vwCl (zws dA ad' σ') t.heap ∧ va_D A (zws dA ad' σ')) A
  | some v => va_Qi (fun (r : Int32) (ad' : Nat → Nat) => v = zi r ∧ (∀ x, zok n x → ad' x = ad x) ∧ zwfR σ'.1.length σ'.2.2.2) (fun ad' t => va_P D vwCl (zws dA ad' σ') t.heap ∧ va_D A (zws dA ad' σ')) A
def zPre (X : Nat × (Nat → Int32)) (D : va_G) (dA : FieldType → ClassId) (ad : Nat → Nat) (sz : Nat) (σ : zW) (U : State) : Prop :=
  U.heap.size = sz ∧ va_P D vwCl (zws dA ad σ) U.heap ∧ zK X D dA (va_A (zws dA ad σ) sz) ad U U.heap ∧ va_D (fun _ => True) (zws dA ad σ)
/-- a method's contract: called with as in the picture σ it answers rv and leaves σ'; d frames deep at most -/
def zAM (X : Nat × (Nat → Int32)) (Mt : zM) (d : Nat) (as : List zV) (σ : zW) (rv : Option zV) (σ' : zW) : Prop :=
  znar Mt rv ∧ σ.1.length ≤ σ'.1.length ∧ zsl σ.1 ≤ zsl σ'.1 ∧ (∃ Ty, Mt.2.2.2 = Ty ∧ (Ty = none ↔ rv = none)) ∧
  (zwfR σ.1.length σ.2.2.2 → zwfs σ.1.length as → ∀ (l : Launch) (D : va_G) (dA : FieldType → ClassId) (ad : Nat → Nat) (sz : Nat),
    Met l Mt.1 (Cond.code Mt.1 Mt.2.1 Mt.2.2.1 Mt.2.2.2 :: zT) ({ frames := d, cells := σ'.1.length - σ.1.length, slots := zsl σ'.1 - zsl σ.1, locals := 60 * d })
      (va_Pc (as.map (zc ad)) (zPre X D dA ad sz σ)) (zQc D dA ad (va_A (zws dA ad σ) sz) σ.1.length rv σ') (σ'.1.length - σ.1.length) (zsl σ'.1 - zsl σ.1) (va_A (zws dA ad σ) sz))
end
section
/-! RULES: one an instruction -/
section zRules
variable {E : (Nat → Prop) → Launch → State → Prop} {X : Nat × (Nat → Int32)} {Mt : zM} {d pc : Nat} {lv : List (Nat × zV)} {st : List zV} {σ σ' : zW} {rv : Option zV}
theorem zLs_at {ls : Array Slot} {n j i : Nat} {ad : Nat → Nat} {lv : List (Nat × zV)} {v : zV} (h : zLs ls n ad lv) (hk : lv[j]? = some (i, v)) : ls[i]? = some (.val (zc ad v)) := lv_at h j (by simp [List.getElem?_map, hk])
def zfl (i : Nat) (lv : List (Nat × zV)) : List (Nat × zV) := lv.filter (fun q => !(q.1 == i) && !(q.1 + 1 == i && zcat q.2 == 2))
def zfl2 (i : Nat) (lv : List (Nat × zV)) : List (Nat × zV) := lv.filter (fun q => !(q.1 == i) && (!(q.1 == i + 1) && !(q.1 + 1 == i && zcat q.2 == 2)))
theorem zfl_map (ad : Nat → Nat) (i : Nat) (v : zV) (lv : List (Nat × zV)) : (i, zc ad v) :: (lv.map fun q => (q.1, zc ad q.2)).filter (fun q => !(q.1 == i) && !(q.1 + 1 == i && q.2.category == 2)) = ((i, v) :: zfl i lv).map (fun q => (q.1, zc ad q.2)) := by
  simp only [List.map_cons, List.filter_map, zfl]
  congr 2
  apply List.filter_congr
  intro q _
  simp [zc_cat]
theorem zfl2_map (ad : Nat → Nat) (i : Nat) (v : zV) (lv : List (Nat × zV)) : (i, zc ad v) :: (lv.map fun q => (q.1, zc ad q.2)).filter (fun q => !(q.1 == i) && (!(q.1 == i + 1) && !(q.1 + 1 == i && q.2.category == 2))) = ((i, v) :: zfl2 i lv).map (fun q => (q.1, zc ad q.2)) := by
  simp only [List.map_cons, List.filter_map, zfl2]
  congr 2
  apply List.filter_congr
  intro q _
  simp [zc_cat]
theorem zwfl_cons {n i : Nat} {v : zV} {lv lv2 : List (Nat × zV)} (h : zwfl n lv) (hv : zwfv n v) (hs : ∀ q ∈ lv2, q ∈ lv) : zwfl n ((i, v) :: lv2) := fun q hq => by
  rcases List.mem_cons.mp hq with e | hq
  · rw [e]; exact hv
  · exact h q (hs q hq)
theorem zfl_sub {i : Nat} {lv : List (Nat × zV)} : ∀ q ∈ zfl i lv, q ∈ lv := fun _ h => (List.mem_filter.mp h).1
theorem zfl2_sub {i : Nat} {lv : List (Nat × zV)} : ∀ q ∈ zfl2 i lv, q ∈ lv := fun _ h => (List.mem_filter.mp h).1
theorem zwfv_at {n j i : Nat} {lv : List (Nat × zV)} {v : zV} (h : zwfl n lv) (hk : lv[j]? = some (i, v)) : zwfv n v := h (i, v) (List.mem_of_getElem? hk)
/-- fewer locals, or in another order: by their places -/
theorem a_sub {lv' : List (Nat × zV)} (ks : List Nat) (hs9 : ks.filterMap (fun k => lv[k]?) = lv') (k : zAW E X Mt d pc lv' st σ rv σ') : zAW E X Mt d pc lv st σ rv σ' := by
  intro p l e R s m args below meth c H locs cells slots Q D dA A ad ls cx hl hP hD hS wR wl ws hc hs he
  have hsub : ∀ q ∈ lv', q ∈ lv := fun q hq => by
    rw [← hs9] at hq
    obtain ⟨i, -, hi⟩ := List.mem_filterMap.mp hq
    exact List.mem_of_getElem? hi
  exact (k p l e R s m args below meth c H locs cells slots Q D dA A ad ls cx ⟨hl.1, hl.2.1, fun q hq => by obtain ⟨z, hz, e⟩ := List.mem_map.mp hq; exact hl.2.2 q (List.mem_map.mpr ⟨z, hsub z hz, e⟩)⟩ hP hD hS wR (fun q hq => wl q (hsub q hq)) ws hc hs he)
theorem a_iadd {x y : Int32} (hd : decode Mt.2.1 pc = .ok (.iadd, 1)) (k : zAW E X Mt d (pc + 1) lv (zi (x + y) :: st) σ rv σ') : zAW E X Mt d pc lv (zi y :: zi x :: st) σ rv σ' := by
  intro p l e R s m args below meth c H locs cells slots Q D dA A ad ls cx hl hP hD hS wR wl ws hc hs he
  exact lv_iadd cx.1 cx.2.1 hd (k p l e R s m args below meth c H locs cells slots Q D dA A ad ls cx hl hP hD hS wR wl (zwfs_i (zwfs_tail (zwfs_tail ws))) hc hs he)
theorem a_isub {x y : Int32} (hd : decode Mt.2.1 pc = .ok (.isub, 1)) (k : zAW E X Mt d (pc + 1) lv (zi (x - y) :: st) σ rv σ') : zAW E X Mt d pc lv (zi y :: zi x :: st) σ rv σ' := by
  intro p l e R s m args below meth c H locs cells slots Q D dA A ad ls cx hl hP hD hS wR wl ws hc hs he
  exact lv_isub cx.1 cx.2.1 hd (k p l e R s m args below meth c H locs cells slots Q D dA A ad ls cx hl hP hD hS wR wl (zwfs_i (zwfs_tail (zwfs_tail ws))) hc hs he)
theorem a_imul {x y : Int32} (hd : decode Mt.2.1 pc = .ok (.imul, 1)) (k : zAW E X Mt d (pc + 1) lv (zi (x * y) :: st) σ rv σ') : zAW E X Mt d pc lv (zi y :: zi x :: st) σ rv σ' := by
  intro p l e R s m args below meth c H locs cells slots Q D dA A ad ls cx hl hP hD hS wR wl ws hc hs he
  exact lv_imul cx.1 cx.2.1 hd (k p l e R s m args below meth c H locs cells slots Q D dA A ad ls cx hl hP hD hS wR wl (zwfs_i (zwfs_tail (zwfs_tail ws))) hc hs he)
theorem a_iand {x y : Int32} (hd : decode Mt.2.1 pc = .ok (.iand, 1)) (k : zAW E X Mt d (pc + 1) lv (zi (x &&& y) :: st) σ rv σ') : zAW E X Mt d pc lv (zi y :: zi x :: st) σ rv σ' := by
  intro p l e R s m args below meth c H locs cells slots Q D dA A ad ls cx hl hP hD hS wR wl ws hc hs he
  exact lv_iand cx.1 cx.2.1 hd (k p l e R s m args below meth c H locs cells slots Q D dA A ad ls cx hl hP hD hS wR wl (zwfs_i (zwfs_tail (zwfs_tail ws))) hc hs he)
theorem a_ior {x y : Int32} (hd : decode Mt.2.1 pc = .ok (.ior, 1)) (k : zAW E X Mt d (pc + 1) lv (zi (x ||| y) :: st) σ rv σ') : zAW E X Mt d pc lv (zi y :: zi x :: st) σ rv σ' := by
  intro p l e R s m args below meth c H locs cells slots Q D dA A ad ls cx hl hP hD hS wR wl ws hc hs he
  exact lv_ior cx.1 cx.2.1 hd (k p l e R s m args below meth c H locs cells slots Q D dA A ad ls cx hl hP hD hS wR wl (zwfs_i (zwfs_tail (zwfs_tail ws))) hc hs he)
theorem a_ixor {x y : Int32} (hd : decode Mt.2.1 pc = .ok (.ixor, 1)) (k : zAW E X Mt d (pc + 1) lv (zi (x ^^^ y) :: st) σ rv σ') : zAW E X Mt d pc lv (zi y :: zi x :: st) σ rv σ' := by
  intro p l e R s m args below meth c H locs cells slots Q D dA A ad ls cx hl hP hD hS wR wl ws hc hs he
  exact lv_ixor cx.1 cx.2.1 hd (k p l e R s m args below meth c H locs cells slots Q D dA A ad ls cx hl hP hD hS wR wl (zwfs_i (zwfs_tail (zwfs_tail ws))) hc hs he)
theorem a_ishl {x y : Int32} (hd : decode Mt.2.1 pc = .ok (.ishl, 1)) (k : zAW E X Mt d (pc + 1) lv (zi (x <<< (y &&& 31)) :: st) σ rv σ') : zAW E X Mt d pc lv (zi y :: zi x :: st) σ rv σ' := by
  intro p l e R s m args below meth c H locs cells slots Q D dA A ad ls cx hl hP hD hS wR wl ws hc hs he
  exact lv_ishl cx.1 cx.2.1 hd (k p l e R s m args below meth c H locs cells slots Q D dA A ad ls cx hl hP hD hS wR wl (zwfs_i (zwfs_tail (zwfs_tail ws))) hc hs he)
theorem a_ishr {x y : Int32} (hd : decode Mt.2.1 pc = .ok (.ishr, 1)) (k : zAW E X Mt d (pc + 1) lv (zi (x >>> (y &&& 31)) :: st) σ rv σ') : zAW E X Mt d pc lv (zi y :: zi x :: st) σ rv σ' := by
  intro p l e R s m args below meth c H locs cells slots Q D dA A ad ls cx hl hP hD hS wR wl ws hc hs he
  exact lv_ishr cx.1 cx.2.1 hd (k p l e R s m args below meth c H locs cells slots Q D dA A ad ls cx hl hP hD hS wR wl (zwfs_i (zwfs_tail (zwfs_tail ws))) hc hs he)
theorem a_idiv {x y : Int32} (hd : decode Mt.2.1 pc = .ok (.idiv, 1)) (hne : ¬ y = 0) (k : zAW E X Mt d (pc + 1) lv (zi (x / y) :: st) σ rv σ') : zAW E X Mt d pc lv (zi y :: zi x :: st) σ rv σ' := by
  intro p l e R s m args below meth c H locs cells slots Q D dA A ad ls cx hl hP hD hS wR wl ws hc hs he
  exact lv_idiv cx.1 cx.2.1 hd hne (k p l e R s m args below meth c H locs cells slots Q D dA A ad ls cx hl hP hD hS wR wl (zwfs_i (zwfs_tail (zwfs_tail ws))) hc hs he)
theorem a_irem {x y : Int32} (hd : decode Mt.2.1 pc = .ok (.irem, 1)) (hne : ¬ y = 0) (k : zAW E X Mt d (pc + 1) lv (zi (x - x / y * y) :: st) σ rv σ') : zAW E X Mt d pc lv (zi y :: zi x :: st) σ rv σ' := by
  intro p l e R s m args below meth c H locs cells slots Q D dA A ad ls cx hl hP hD hS wR wl ws hc hs he
  exact lv_irem cx.1 cx.2.1 hd hne (k p l e R s m args below meth c H locs cells slots Q D dA A ad ls cx hl hP hD hS wR wl (zwfs_i (zwfs_tail (zwfs_tail ws))) hc hs he)
theorem a_ladd {x y : Int64} (hd : decode Mt.2.1 pc = .ok (.ladd, 1)) (k : zAW E X Mt d (pc + 1) lv (zl (x + y) :: st) σ rv σ') : zAW E X Mt d pc lv (zl y :: zl x :: st) σ rv σ' := by
  intro p l e R s m args below meth c H locs cells slots Q D dA A ad ls cx hl hP hD hS wR wl ws hc hs he
  exact lv_ladd cx.1 cx.2.1 hd (k p l e R s m args below meth c H locs cells slots Q D dA A ad ls cx hl hP hD hS wR wl (zwfs_l (zwfs_tail (zwfs_tail ws))) hc hs he)
theorem a_lsub {x y : Int64} (hd : decode Mt.2.1 pc = .ok (.lsub, 1)) (k : zAW E X Mt d (pc + 1) lv (zl (x - y) :: st) σ rv σ') : zAW E X Mt d pc lv (zl y :: zl x :: st) σ rv σ' := by
  intro p l e R s m args below meth c H locs cells slots Q D dA A ad ls cx hl hP hD hS wR wl ws hc hs he
  exact lv_lsub cx.1 cx.2.1 hd (k p l e R s m args below meth c H locs cells slots Q D dA A ad ls cx hl hP hD hS wR wl (zwfs_l (zwfs_tail (zwfs_tail ws))) hc hs he)
theorem a_lmul {x y : Int64} (hd : decode Mt.2.1 pc = .ok (.lmul, 1)) (k : zAW E X Mt d (pc + 1) lv (zl (x * y) :: st) σ rv σ') : zAW E X Mt d pc lv (zl y :: zl x :: st) σ rv σ' := by
  intro p l e R s m args below meth c H locs cells slots Q D dA A ad ls cx hl hP hD hS wR wl ws hc hs he
  exact lv_lmul cx.1 cx.2.1 hd (k p l e R s m args below meth c H locs cells slots Q D dA A ad ls cx hl hP hD hS wR wl (zwfs_l (zwfs_tail (zwfs_tail ws))) hc hs he)
theorem a_land {x y : Int64} (hd : decode Mt.2.1 pc = .ok (.land, 1)) (k : zAW E X Mt d (pc + 1) lv (zl (x &&& y) :: st) σ rv σ') : zAW E X Mt d pc lv (zl y :: zl x :: st) σ rv σ' := by
  intro p l e R s m args below meth c H locs cells slots Q D dA A ad ls cx hl hP hD hS wR wl ws hc hs he
  exact lv_land cx.1 cx.2.1 hd (k p l e R s m args below meth c H locs cells slots Q D dA A ad ls cx hl hP hD hS wR wl (zwfs_l (zwfs_tail (zwfs_tail ws))) hc hs he)
theorem a_lor {x y : Int64} (hd : decode Mt.2.1 pc = .ok (.lor, 1)) (k : zAW E X Mt d (pc + 1) lv (zl (x ||| y) :: st) σ rv σ') : zAW E X Mt d pc lv (zl y :: zl x :: st) σ rv σ' := by
  intro p l e R s m args below meth c H locs cells slots Q D dA A ad ls cx hl hP hD hS wR wl ws hc hs he
  exact lv_lor cx.1 cx.2.1 hd (k p l e R s m args below meth c H locs cells slots Q D dA A ad ls cx hl hP hD hS wR wl (zwfs_l (zwfs_tail (zwfs_tail ws))) hc hs he)
theorem a_lshl {x : Int64} {y : Int32} (hd : decode Mt.2.1 pc = .ok (.lshl, 1)) (k : zAW E X Mt d (pc + 1) lv (zl (x <<< (y.toInt64 &&& 63)) :: st) σ rv σ') : zAW E X Mt d pc lv (zi y :: zl x :: st) σ rv σ' := by
  intro p l e R s m args below meth c H locs cells slots Q D dA A ad ls cx hl hP hD hS wR wl ws hc hs he
  exact lv_lshl cx.1 cx.2.1 hd rfl (k p l e R s m args below meth c H locs cells slots Q D dA A ad ls cx hl hP hD hS wR wl (zwfs_l (zwfs_tail (zwfs_tail ws))) hc hs he)
theorem a_lshr {x : Int64} {y : Int32} (hd : decode Mt.2.1 pc = .ok (.lshr, 1)) (k : zAW E X Mt d (pc + 1) lv (zl (x >>> (y.toInt64 &&& 63)) :: st) σ rv σ') : zAW E X Mt d pc lv (zi y :: zl x :: st) σ rv σ' := by
  intro p l e R s m args below meth c H locs cells slots Q D dA A ad ls cx hl hP hD hS wR wl ws hc hs he
  exact lv_lshr cx.1 cx.2.1 hd rfl (k p l e R s m args below meth c H locs cells slots Q D dA A ad ls cx hl hP hD hS wR wl (zwfs_l (zwfs_tail (zwfs_tail ws))) hc hs he)
theorem a_lushr {x : Int64} {y : Int32} (hd : decode Mt.2.1 pc = .ok (.lushr, 1)) (k : zAW E X Mt d (pc + 1) lv (zl ((x.toUInt64 >>> (y.toInt64.toUInt64 &&& Int64.toUInt64 63)).toInt64) :: st) σ rv σ') : zAW E X Mt d pc lv (zi y :: zl x :: st) σ rv σ' := by
  intro p l e R s m args below meth c H locs cells slots Q D dA A ad ls cx hl hP hD hS wR wl ws hc hs he
  exact lv_lushr cx.1 cx.2.1 hd rfl (k p l e R s m args below meth c H locs cells slots Q D dA A ad ls cx hl hP hD hS wR wl (zwfs_l (zwfs_tail (zwfs_tail ws))) hc hs he)
theorem a_lcmp {x y : Int64} (hd : decode Mt.2.1 pc = .ok (.lcmp, 1)) (k : zAW E X Mt d (pc + 1) lv (zi (lg_cmp x y) :: st) σ rv σ') : zAW E X Mt d pc lv (zl y :: zl x :: st) σ rv σ' := by
  intro p l e R s m args below meth c H locs cells slots Q D dA A ad ls cx hl hP hD hS wR wl ws hc hs he
  exact W.lcmp cx.1 cx.2.1 hd (k p l e R s m args below meth c H locs cells slots Q D dA A ad ls cx hl hP hD hS wR wl (zwfs_i (zwfs_tail (zwfs_tail ws))) hc hs he)
theorem a_ineg {x : Int32} (hd : decode Mt.2.1 pc = .ok (.ineg, 1)) (k : zAW E X Mt d (pc + 1) lv (zi (-x) :: st) σ rv σ') : zAW E X Mt d pc lv (zi x :: st) σ rv σ' := by
  intro p l e R s m args below meth c H locs cells slots Q D dA A ad ls cx hl hP hD hS wR wl ws hc hs he
  exact lv_ineg cx.1 cx.2.1 hd (k p l e R s m args below meth c H locs cells slots Q D dA A ad ls cx hl hP hD hS wR wl (zwfs_i (zwfs_tail ws)) hc hs he)
theorem a_i2l {x : Int32} (hd : decode Mt.2.1 pc = .ok (.i2l, 1)) (k : zAW E X Mt d (pc + 1) lv (zl x.toInt64 :: st) σ rv σ') : zAW E X Mt d pc lv (zi x :: st) σ rv σ' := by
  intro p l e R s m args below meth c H locs cells slots Q D dA A ad ls cx hl hP hD hS wR wl ws hc hs he
  exact lv_i2l cx.1 cx.2.1 hd rfl (k p l e R s m args below meth c H locs cells slots Q D dA A ad ls cx hl hP hD hS wR wl (zwfs_l (zwfs_tail ws)) hc hs he)
theorem a_l2i {x : Int64} (hd : decode Mt.2.1 pc = .ok (.l2i, 1)) (k : zAW E X Mt d (pc + 1) lv (zi x.toInt32 :: st) σ rv σ') : zAW E X Mt d pc lv (zl x :: st) σ rv σ' := by
  intro p l e R s m args below meth c H locs cells slots Q D dA A ad ls cx hl hP hD hS wR wl ws hc hs he
  exact lv_l2i cx.1 cx.2.1 hd rfl (k p l e R s m args below meth c H locs cells slots Q D dA A ad ls cx hl hP hD hS wR wl (zwfs_i (zwfs_tail ws)) hc hs he)
theorem a_i2c {x : Int32} (hd : decode Mt.2.1 pc = .ok (.i2c, 1)) (k : zAW E X Mt d (pc + 1) lv (zi (x.toUInt32 % 65536).toInt32 :: st) σ rv σ') : zAW E X Mt d pc lv (zi x :: st) σ rv σ' := by
  intro p l e R s m args below meth c H locs cells slots Q D dA A ad ls cx hl hP hD hS wR wl ws hc hs he
  exact lv_i2c cx.1 cx.2.1 hd rfl (k p l e R s m args below meth c H locs cells slots Q D dA A ad ls cx hl hP hD hS wR wl (zwfs_i (zwfs_tail ws)) hc hs he)
theorem a_iconst {n : Int} {v : Int32} (hd : decode Mt.2.1 pc = .ok (.iconst n, 1)) (hv : Int32.ofInt n = v) (k : zAW E X Mt d (pc + 1) lv (zi v :: st) σ rv σ') : zAW E X Mt d pc lv st σ rv σ' := by
  intro p l e R s m args below meth c H locs cells slots Q D dA A ad ls cx hl hP hD hS wR wl ws hc hs he
  exact lv_iconst cx.1 cx.2.1 hd hv (k p l e R s m args below meth c H locs cells slots Q D dA A ad ls cx hl hP hD hS wR wl (zwfs_i ws) hc hs he)
theorem a_bipush {n : Int} {v : Int32} (hd : decode Mt.2.1 pc = .ok (.bipush n, 2)) (hv : (Int8.ofInt n).toInt32 = v) (k : zAW E X Mt d (pc + 2) lv (zi v :: st) σ rv σ') : zAW E X Mt d pc lv st σ rv σ' := by
  intro p l e R s m args below meth c H locs cells slots Q D dA A ad ls cx hl hP hD hS wR wl ws hc hs he
  exact lv_bipush cx.1 cx.2.1 hd hv (k p l e R s m args below meth c H locs cells slots Q D dA A ad ls cx hl hP hD hS wR wl (zwfs_i ws) hc hs he)
theorem a_sipush {n : Int} {v : Int32} (hd : decode Mt.2.1 pc = .ok (.sipush n, 3)) (hv : (Int16.ofInt n).toInt32 = v) (k : zAW E X Mt d (pc + 3) lv (zi v :: st) σ rv σ') : zAW E X Mt d pc lv st σ rv σ' := by
  intro p l e R s m args below meth c H locs cells slots Q D dA A ad ls cx hl hP hD hS wR wl ws hc hs he
  exact lv_sipush cx.1 cx.2.1 hd hv (k p l e R s m args below meth c H locs cells slots Q D dA A ad ls cx hl hP hD hS wR wl (zwfs_i ws) hc hs he)
theorem a_lconst {n : Fin 2} {v : Int64} (hd : decode Mt.2.1 pc = .ok (.lconst n, 1)) (hv : Int64.ofNat (n : Nat) = v) (k : zAW E X Mt d (pc + 1) lv (zl v :: st) σ rv σ') : zAW E X Mt d pc lv st σ rv σ' := by
  intro p l e R s m args below meth c H locs cells slots Q D dA A ad ls cx hl hP hD hS wR wl ws hc hs he
  exact lv_lconst cx.1 cx.2.1 hd hv (k p l e R s m args below meth c H locs cells slots Q D dA A ad ls cx hl hP hD hS wR wl (zwfs_l ws) hc hs he)
theorem a_ldc {idx : Nat} {v : Int32} (hd : decode Mt.2.1 pc = .ok (.ldc idx, 2)) (hv : Cond.constant Mt.1.cls idx v ∈ zT) (k : zAW E X Mt d (pc + 2) lv (zi v :: st) σ rv σ') : zAW E X Mt d pc lv st σ rv σ' := by
  intro p l e R s m args below meth c H locs cells slots Q D dA A ad ls cx hl hP hD hS wR wl ws hc hs he
  exact lv_ldc cx.1 cx.2.1 cx.2.2.2.1 (cx.2.2.2.2.1 _ hv) hd (k p l e R s m args below meth c H locs cells slots Q D dA A ad ls cx hl hP hD hS wR wl (zwfs_i ws) hc hs he)
theorem a_ldc2 {idx : Nat} {v : Int64} (hd : decode Mt.2.1 pc = .ok (.ldc2_w idx, 3)) (hv : Cond.constantLong Mt.1.cls idx v ∈ zT) (k : zAW E X Mt d (pc + 3) lv (zl v :: st) σ rv σ') : zAW E X Mt d pc lv st σ rv σ' := by
  intro p l e R s m args below meth c H locs cells slots Q D dA A ad ls cx hl hP hD hS wR wl ws hc hs he
  exact lv_ldc2 cx.1 cx.2.1 cx.2.2.2.1 (cx.2.2.2.2.1 _ hv) hd (k p l e R s m args below meth c H locs cells slots Q D dA A ad ls cx hl hP hD hS wR wl (zwfs_l ws) hc hs he)
theorem a_dup {v : zV} (hd : decode Mt.2.1 pc = .ok (.dup, 1)) (hv : zcat v = 1) (k : zAW E X Mt d (pc + 1) lv (v :: v :: st) σ rv σ') : zAW E X Mt d pc lv (v :: st) σ rv σ' := by
  intro p l e R s m args below meth c H locs cells slots Q D dA A ad ls cx hl hP hD hS wR wl ws hc hs he
  exact lv_dup cx.1 cx.2.1 hd ((zc_cat ad v).trans hv) (k p l e R s m args below meth c H locs cells slots Q D dA A ad ls cx hl hP hD hS wR wl (zwfs_cons (zwfs_head ws) ws) hc hs he)
theorem a_pop {v : zV} (hd : decode Mt.2.1 pc = .ok (.pop, 1)) (hv : zcat v = 1) (k : zAW E X Mt d (pc + 1) lv st σ rv σ') : zAW E X Mt d pc lv (v :: st) σ rv σ' := by
  intro p l e R s m args below meth c H locs cells slots Q D dA A ad ls cx hl hP hD hS wR wl ws hc hs he
  exact lv_pop cx.1 cx.2.1 hd ((zc_cat ad v).trans hv) (k p l e R s m args below meth c H locs cells slots Q D dA A ad ls cx hl hP hD hS wR wl (zwfs_tail ws) hc hs he)
theorem a_dup2 {v u : zV} (hd : decode Mt.2.1 pc = .ok (.dup2, 1)) (hv : zcat v = 1) (hu : zcat u = 1) (k : zAW E X Mt d (pc + 1) lv (v :: u :: v :: u :: st) σ rv σ') : zAW E X Mt d pc lv (v :: u :: st) σ rv σ' := by
  intro p l e R s m args below meth c H locs cells slots Q D dA A ad ls cx hl hP hD hS wR wl ws hc hs he
  exact lv_dup2_11 cx.1 cx.2.1 hd ((zc_cat ad v).trans hv) ((zc_cat ad u).trans hu) (k p l e R s m args below meth c H locs cells slots Q D dA A ad ls cx hl hP hD hS wR wl (zwfs_cons (zwfs_head ws) (zwfs_cons (zwfs_head (zwfs_tail ws)) ws)) hc hs he)
theorem a_dup_x1 {v u : zV} (hd : decode Mt.2.1 pc = .ok (.dup_x1, 1)) (hv : zcat v = 1) (hu : zcat u = 1) (k : zAW E X Mt d (pc + 1) lv (v :: u :: v :: st) σ rv σ') : zAW E X Mt d pc lv (v :: u :: st) σ rv σ' := by
  intro p l e R s m args below meth c H locs cells slots Q D dA A ad ls cx hl hP hD hS wR wl ws hc hs he
  exact lv_dup_x1 cx.1 cx.2.1 hd ((zc_cat ad v).trans hv) ((zc_cat ad u).trans hu) (k p l e R s m args below meth c H locs cells slots Q D dA A ad ls cx hl hP hD hS wR wl (zwfs_cons (zwfs_head ws) (zwfs_cons (zwfs_head (zwfs_tail ws)) (zwfs_cons (zwfs_head ws) (zwfs_tail (zwfs_tail ws))))) hc hs he)
theorem a_iload_n {kk : Fin 4} {i : Nat} {x : Int32} (hd : decode Mt.2.1 pc = .ok (.iload_n kk, 1)) (hi : (kk : Nat) = i) (j : Nat) (hk : lv[j]? = some (i, zi x)) (k : zAW E X Mt d (pc + 1) lv (zi x :: st) σ rv σ') : zAW E X Mt d pc lv st σ rv σ' := by
  intro p l e R s m args below meth c H locs cells slots Q D dA A ad ls cx hl hP hD hS wR wl ws hc hs he
  exact lv_iload_n cx.1 cx.2.1 hd hi (zLs_at hl hk) (k p l e R s m args below meth c H locs cells slots Q D dA A ad ls cx hl hP hD hS wR wl (zwfs_cons (zwfv_at wl hk) ws) hc hs he)
theorem a_iload {i : Nat} {x : Int32} (hd : decode Mt.2.1 pc = .ok (.iload i, 2)) (j : Nat) (hk : lv[j]? = some (i, zi x)) (k : zAW E X Mt d (pc + 2) lv (zi x :: st) σ rv σ') : zAW E X Mt d pc lv st σ rv σ' := by
  intro p l e R s m args below meth c H locs cells slots Q D dA A ad ls cx hl hP hD hS wR wl ws hc hs he
  exact lv_iload cx.1 cx.2.1 hd (zLs_at hl hk) (k p l e R s m args below meth c H locs cells slots Q D dA A ad ls cx hl hP hD hS wR wl (zwfs_cons (zwfv_at wl hk) ws) hc hs he)
theorem a_lload_n {kk : Fin 4} {i : Nat} {x : Int64} (hd : decode Mt.2.1 pc = .ok (.lload_n kk, 1)) (hi : (kk : Nat) = i) (j : Nat) (hk : lv[j]? = some (i, zl x)) (k : zAW E X Mt d (pc + 1) lv (zl x :: st) σ rv σ') : zAW E X Mt d pc lv st σ rv σ' := by
  intro p l e R s m args below meth c H locs cells slots Q D dA A ad ls cx hl hP hD hS wR wl ws hc hs he
  exact lv_lload_n cx.1 cx.2.1 hd hi (zLs_at hl hk) (k p l e R s m args below meth c H locs cells slots Q D dA A ad ls cx hl hP hD hS wR wl (zwfs_cons (zwfv_at wl hk) ws) hc hs he)
theorem a_lload {i : Nat} {x : Int64} (hd : decode Mt.2.1 pc = .ok (.lload i, 2)) (j : Nat) (hk : lv[j]? = some (i, zl x)) (k : zAW E X Mt d (pc + 2) lv (zl x :: st) σ rv σ') : zAW E X Mt d pc lv st σ rv σ' := by
  intro p l e R s m args below meth c H locs cells slots Q D dA A ad ls cx hl hP hD hS wR wl ws hc hs he
  exact lv_lload cx.1 cx.2.1 hd (zLs_at hl hk) (k p l e R s m args below meth c H locs cells slots Q D dA A ad ls cx hl hP hD hS wR wl (zwfs_cons (zwfv_at wl hk) ws) hc hs he)
theorem a_aload_n {kk : Fin 4} {i : Nat} {x : Nat} (hd : decode Mt.2.1 pc = .ok (.aload_n kk, 1)) (hi : (kk : Nat) = i) (j : Nat) (hk : lv[j]? = some (i, zr x)) (k : zAW E X Mt d (pc + 1) lv (zr x :: st) σ rv σ') : zAW E X Mt d pc lv st σ rv σ' := by
  intro p l e R s m args below meth c H locs cells slots Q D dA A ad ls cx hl hP hD hS wR wl ws hc hs he
  exact lv_aload_n cx.1 cx.2.1 hd hi (zLs_at hl hk) (k p l e R s m args below meth c H locs cells slots Q D dA A ad ls cx hl hP hD hS wR wl (zwfs_cons (zwfv_at wl hk) ws) hc hs he)
theorem a_aload {i : Nat} {x : Nat} (hd : decode Mt.2.1 pc = .ok (.aload i, 2)) (j : Nat) (hk : lv[j]? = some (i, zr x)) (k : zAW E X Mt d (pc + 2) lv (zr x :: st) σ rv σ') : zAW E X Mt d pc lv st σ rv σ' := by
  intro p l e R s m args below meth c H locs cells slots Q D dA A ad ls cx hl hP hD hS wR wl ws hc hs he
  exact lv_aload cx.1 cx.2.1 hd (zLs_at hl hk) (k p l e R s m args below meth c H locs cells slots Q D dA A ad ls cx hl hP hD hS wR wl (zwfs_cons (zwfv_at wl hk) ws) hc hs he)
theorem a_istore_n {kk : Fin 4} {i : Nat} {x : Int32} {lv' : List (Nat × zV)} (hd : decode Mt.2.1 pc = .ok (.istore_n kk, 1)) (hi : (kk : Nat) = i) (hn : i < Mt.2.2.1) (h9 : (i, zi x) :: zfl i lv = lv') (k : zAW E X Mt d (pc + 1) lv' st σ rv σ') : zAW E X Mt d pc lv (zi x :: st) σ rv σ' := by
  intro p l e R s m args below meth c H locs cells slots Q D dA A ad ls cx hl hP hD hS wR wl ws hc hs he
  exact lv_istore_n cx.1 cx.2.1 hd hi hl hn (zfl_map ad i (zi x) lv) (fun ls' hl' => by rw [h9] at hl'; exact (k p l e R s m args below meth c H locs cells slots Q D dA A ad ls' cx hl' hP hD hS wR (h9 ▸ zwfl_cons wl (zwfs_head ws) zfl_sub) (zwfs_tail ws) hc hs he))
theorem a_istore {i : Nat} {x : Int32} {lv' : List (Nat × zV)} (hd : decode Mt.2.1 pc = .ok (.istore i, 2)) (hn : i < Mt.2.2.1) (h9 : (i, zi x) :: zfl i lv = lv') (k : zAW E X Mt d (pc + 2) lv' st σ rv σ') : zAW E X Mt d pc lv (zi x :: st) σ rv σ' := by
  intro p l e R s m args below meth c H locs cells slots Q D dA A ad ls cx hl hP hD hS wR wl ws hc hs he
  exact lv_istore cx.1 cx.2.1 hd hl hn (zfl_map ad i (zi x) lv) (fun ls' hl' => by rw [h9] at hl'; exact (k p l e R s m args below meth c H locs cells slots Q D dA A ad ls' cx hl' hP hD hS wR (h9 ▸ zwfl_cons wl (zwfs_head ws) zfl_sub) (zwfs_tail ws) hc hs he))
theorem a_astore_n {kk : Fin 4} {i : Nat} {x : Nat} {lv' : List (Nat × zV)} (hd : decode Mt.2.1 pc = .ok (.astore_n kk, 1)) (hi : (kk : Nat) = i) (hn : i < Mt.2.2.1) (h9 : (i, zr x) :: zfl i lv = lv') (k : zAW E X Mt d (pc + 1) lv' st σ rv σ') : zAW E X Mt d pc lv (zr x :: st) σ rv σ' := by
  intro p l e R s m args below meth c H locs cells slots Q D dA A ad ls cx hl hP hD hS wR wl ws hc hs he
  exact lv_astore_n cx.1 cx.2.1 hd hi hl hn (zfl_map ad i (zr x) lv) (fun ls' hl' => by rw [h9] at hl'; exact (k p l e R s m args below meth c H locs cells slots Q D dA A ad ls' cx hl' hP hD hS wR (h9 ▸ zwfl_cons wl (zwfs_head ws) zfl_sub) (zwfs_tail ws) hc hs he))
theorem a_astore {i : Nat} {x : Nat} {lv' : List (Nat × zV)} (hd : decode Mt.2.1 pc = .ok (.astore i, 2)) (hn : i < Mt.2.2.1) (h9 : (i, zr x) :: zfl i lv = lv') (k : zAW E X Mt d (pc + 2) lv' st σ rv σ') : zAW E X Mt d pc lv (zr x :: st) σ rv σ' := by
  intro p l e R s m args below meth c H locs cells slots Q D dA A ad ls cx hl hP hD hS wR wl ws hc hs he
  exact lv_astore cx.1 cx.2.1 hd hl hn (zfl_map ad i (zr x) lv) (fun ls' hl' => by rw [h9] at hl'; exact (k p l e R s m args below meth c H locs cells slots Q D dA A ad ls' cx hl' hP hD hS wR (h9 ▸ zwfl_cons wl (zwfs_head ws) zfl_sub) (zwfs_tail ws) hc hs he))
theorem a_lstore_n {kk : Fin 4} {i : Nat} {x : Int64} {lv' : List (Nat × zV)} (hd : decode Mt.2.1 pc = .ok (.lstore_n kk, 1)) (hi : (kk : Nat) = i) (hn : i + 1 < Mt.2.2.1) (h9 : (i, zl x) :: zfl2 i lv = lv') (k : zAW E X Mt d (pc + 1) lv' st σ rv σ') : zAW E X Mt d pc lv (zl x :: st) σ rv σ' := by
  intro p l e R s m args below meth c H locs cells slots Q D dA A ad ls cx hl hP hD hS wR wl ws hc hs he
  exact lv_lstore_n cx.1 cx.2.1 hd hi hl hn (zfl2_map ad i (zl x) lv) (fun ls' hl' => by rw [h9] at hl'; exact (k p l e R s m args below meth c H locs cells slots Q D dA A ad ls' cx hl' hP hD hS wR (h9 ▸ zwfl_cons wl (zwfs_head ws) zfl2_sub) (zwfs_tail ws) hc hs he))
theorem a_lstore {i : Nat} {x : Int64} {lv' : List (Nat × zV)} (hd : decode Mt.2.1 pc = .ok (.lstore i, 2)) (hn : i + 1 < Mt.2.2.1) (h9 : (i, zl x) :: zfl2 i lv = lv') (k : zAW E X Mt d (pc + 2) lv' st σ rv σ') : zAW E X Mt d pc lv (zl x :: st) σ rv σ' := by
  intro p l e R s m args below meth c H locs cells slots Q D dA A ad ls cx hl hP hD hS wR wl ws hc hs he
  exact lv_lstore cx.1 cx.2.1 hd hl hn (zfl2_map ad i (zl x) lv) (fun ls' hl' => by rw [h9] at hl'; exact (k p l e R s m args below meth c H locs cells slots Q D dA A ad ls' cx hl' hP hD hS wR (h9 ▸ zwfl_cons wl (zwfs_head ws) zfl2_sub) (zwfs_tail ws) hc hs he))
theorem a_iinc {i : Nat} {n : Int} {x v : Int32} {lv' : List (Nat × zV)} (hd : decode Mt.2.1 pc = .ok (.iinc i n, 3)) (j : Nat) (hk : lv[j]? = some (i, zi x)) (hv : x + Int32.ofInt n = v) (hn : i < Mt.2.2.1) (h9 : (i, zi v) :: zfl i lv = lv') (k : zAW E X Mt d (pc + 3) lv' st σ rv σ') : zAW E X Mt d pc lv st σ rv σ' := by
  intro p l e R s m args below meth c H locs cells slots Q D dA A ad ls cx hl hP hD hS wR wl ws hc hs he
  exact lv_iinc (k := j) (x := x) cx.1 cx.2.1 hd hl (by simp [List.getElem?_map, hk, zc]) hv hn (zfl_map ad i (zi v) lv) (fun ls' hl' => by rw [h9] at hl'; exact (k p l e R s m args below meth c H locs cells slots Q D dA A ad ls' cx hl' hP hD hS wR (h9 ▸ zwfl_cons wl zwfv_i zfl_sub) ws hc hs he))
theorem a_if_eq {x : Int32} {off : Int} {tgt : Nat} (hd : decode Mt.2.1 pc = .ok (.ifCond .eq off, 3)) (ht : (pc : Int) + off = (tgt : Int)) (kt : x = 0 → zAW E X Mt d tgt lv st σ rv σ') (kf : ¬ x = 0 → zAW E X Mt d (pc + 3) lv st σ rv σ') : zAW E X Mt d pc lv (zi x :: st) σ rv σ' := by
  intro p l e R s m args below meth c H locs cells slots Q D dA A ad ls cx hl hP hD hS wR wl ws hc hs he
  exact lv_if_eq cx.1 cx.2.1 hd ht (fun h => (kt h p l e R s m args below meth c H locs cells slots Q D dA A ad ls cx hl hP hD hS wR wl (zwfs_tail ws) hc hs he)) (fun h => (kf h p l e R s m args below meth c H locs cells slots Q D dA A ad ls cx hl hP hD hS wR wl (zwfs_tail ws) hc hs he))
theorem a_if_ne {x : Int32} {off : Int} {tgt : Nat} (hd : decode Mt.2.1 pc = .ok (.ifCond .ne off, 3)) (ht : (pc : Int) + off = (tgt : Int)) (kt : ¬ x = 0 → zAW E X Mt d tgt lv st σ rv σ') (kf : x = 0 → zAW E X Mt d (pc + 3) lv st σ rv σ') : zAW E X Mt d pc lv (zi x :: st) σ rv σ' := by
  intro p l e R s m args below meth c H locs cells slots Q D dA A ad ls cx hl hP hD hS wR wl ws hc hs he
  exact lv_if_ne cx.1 cx.2.1 hd ht (fun h => (kt h p l e R s m args below meth c H locs cells slots Q D dA A ad ls cx hl hP hD hS wR wl (zwfs_tail ws) hc hs he)) (fun h => (kf h p l e R s m args below meth c H locs cells slots Q D dA A ad ls cx hl hP hD hS wR wl (zwfs_tail ws) hc hs he))
theorem a_if_lt {x : Int32} {off : Int} {tgt : Nat} (hd : decode Mt.2.1 pc = .ok (.ifCond .lt off, 3)) (ht : (pc : Int) + off = (tgt : Int)) (kt : x < 0 → zAW E X Mt d tgt lv st σ rv σ') (kf : ¬ x < 0 → zAW E X Mt d (pc + 3) lv st σ rv σ') : zAW E X Mt d pc lv (zi x :: st) σ rv σ' := by
  intro p l e R s m args below meth c H locs cells slots Q D dA A ad ls cx hl hP hD hS wR wl ws hc hs he
  exact lv_if_lt cx.1 cx.2.1 hd ht (fun h => (kt h p l e R s m args below meth c H locs cells slots Q D dA A ad ls cx hl hP hD hS wR wl (zwfs_tail ws) hc hs he)) (fun h => (kf h p l e R s m args below meth c H locs cells slots Q D dA A ad ls cx hl hP hD hS wR wl (zwfs_tail ws) hc hs he))
theorem a_if_ge {x : Int32} {off : Int} {tgt : Nat} (hd : decode Mt.2.1 pc = .ok (.ifCond .ge off, 3)) (ht : (pc : Int) + off = (tgt : Int)) (kt : 0 ≤ x → zAW E X Mt d tgt lv st σ rv σ') (kf : ¬ 0 ≤ x → zAW E X Mt d (pc + 3) lv st σ rv σ') : zAW E X Mt d pc lv (zi x :: st) σ rv σ' := by
  intro p l e R s m args below meth c H locs cells slots Q D dA A ad ls cx hl hP hD hS wR wl ws hc hs he
  exact lv_if_ge cx.1 cx.2.1 hd ht (fun h => (kt h p l e R s m args below meth c H locs cells slots Q D dA A ad ls cx hl hP hD hS wR wl (zwfs_tail ws) hc hs he)) (fun h => (kf h p l e R s m args below meth c H locs cells slots Q D dA A ad ls cx hl hP hD hS wR wl (zwfs_tail ws) hc hs he))
theorem a_if_gt {x : Int32} {off : Int} {tgt : Nat} (hd : decode Mt.2.1 pc = .ok (.ifCond .gt off, 3)) (ht : (pc : Int) + off = (tgt : Int)) (kt : 0 < x → zAW E X Mt d tgt lv st σ rv σ') (kf : ¬ 0 < x → zAW E X Mt d (pc + 3) lv st σ rv σ') : zAW E X Mt d pc lv (zi x :: st) σ rv σ' := by
  intro p l e R s m args below meth c H locs cells slots Q D dA A ad ls cx hl hP hD hS wR wl ws hc hs he
  exact lv_if_gt cx.1 cx.2.1 hd ht (fun h => (kt h p l e R s m args below meth c H locs cells slots Q D dA A ad ls cx hl hP hD hS wR wl (zwfs_tail ws) hc hs he)) (fun h => (kf h p l e R s m args below meth c H locs cells slots Q D dA A ad ls cx hl hP hD hS wR wl (zwfs_tail ws) hc hs he))
theorem a_if_le {x : Int32} {off : Int} {tgt : Nat} (hd : decode Mt.2.1 pc = .ok (.ifCond .le off, 3)) (ht : (pc : Int) + off = (tgt : Int)) (kt : x ≤ 0 → zAW E X Mt d tgt lv st σ rv σ') (kf : ¬ x ≤ 0 → zAW E X Mt d (pc + 3) lv st σ rv σ') : zAW E X Mt d pc lv (zi x :: st) σ rv σ' := by
  intro p l e R s m args below meth c H locs cells slots Q D dA A ad ls cx hl hP hD hS wR wl ws hc hs he
  exact lv_if_le cx.1 cx.2.1 hd ht (fun h => (kt h p l e R s m args below meth c H locs cells slots Q D dA A ad ls cx hl hP hD hS wR wl (zwfs_tail ws) hc hs he)) (fun h => (kf h p l e R s m args below meth c H locs cells slots Q D dA A ad ls cx hl hP hD hS wR wl (zwfs_tail ws) hc hs he))
theorem a_icmp_eq {x y : Int32} {off : Int} {tgt : Nat} (hd : decode Mt.2.1 pc = .ok (.if_icmp .eq off, 3)) (ht : (pc : Int) + off = (tgt : Int)) (kt : x = y → zAW E X Mt d tgt lv st σ rv σ') (kf : ¬ x = y → zAW E X Mt d (pc + 3) lv st σ rv σ') : zAW E X Mt d pc lv (zi y :: zi x :: st) σ rv σ' := by
  intro p l e R s m args below meth c H locs cells slots Q D dA A ad ls cx hl hP hD hS wR wl ws hc hs he
  exact lv_icmp_eq cx.1 cx.2.1 hd ht (fun h => (kt h p l e R s m args below meth c H locs cells slots Q D dA A ad ls cx hl hP hD hS wR wl (zwfs_tail (zwfs_tail ws)) hc hs he)) (fun h => (kf h p l e R s m args below meth c H locs cells slots Q D dA A ad ls cx hl hP hD hS wR wl (zwfs_tail (zwfs_tail ws)) hc hs he))
theorem a_icmp_ne {x y : Int32} {off : Int} {tgt : Nat} (hd : decode Mt.2.1 pc = .ok (.if_icmp .ne off, 3)) (ht : (pc : Int) + off = (tgt : Int)) (kt : ¬ x = y → zAW E X Mt d tgt lv st σ rv σ') (kf : x = y → zAW E X Mt d (pc + 3) lv st σ rv σ') : zAW E X Mt d pc lv (zi y :: zi x :: st) σ rv σ' := by
  intro p l e R s m args below meth c H locs cells slots Q D dA A ad ls cx hl hP hD hS wR wl ws hc hs he
  exact lv_icmp_ne cx.1 cx.2.1 hd ht (fun h => (kt h p l e R s m args below meth c H locs cells slots Q D dA A ad ls cx hl hP hD hS wR wl (zwfs_tail (zwfs_tail ws)) hc hs he)) (fun h => (kf h p l e R s m args below meth c H locs cells slots Q D dA A ad ls cx hl hP hD hS wR wl (zwfs_tail (zwfs_tail ws)) hc hs he))
theorem a_icmp_lt {x y : Int32} {off : Int} {tgt : Nat} (hd : decode Mt.2.1 pc = .ok (.if_icmp .lt off, 3)) (ht : (pc : Int) + off = (tgt : Int)) (kt : x < y → zAW E X Mt d tgt lv st σ rv σ') (kf : ¬ x < y → zAW E X Mt d (pc + 3) lv st σ rv σ') : zAW E X Mt d pc lv (zi y :: zi x :: st) σ rv σ' := by
  intro p l e R s m args below meth c H locs cells slots Q D dA A ad ls cx hl hP hD hS wR wl ws hc hs he
  exact lv_icmp_lt cx.1 cx.2.1 hd ht (fun h => (kt h p l e R s m args below meth c H locs cells slots Q D dA A ad ls cx hl hP hD hS wR wl (zwfs_tail (zwfs_tail ws)) hc hs he)) (fun h => (kf h p l e R s m args below meth c H locs cells slots Q D dA A ad ls cx hl hP hD hS wR wl (zwfs_tail (zwfs_tail ws)) hc hs he))
theorem a_icmp_ge {x y : Int32} {off : Int} {tgt : Nat} (hd : decode Mt.2.1 pc = .ok (.if_icmp .ge off, 3)) (ht : (pc : Int) + off = (tgt : Int)) (kt : y ≤ x → zAW E X Mt d tgt lv st σ rv σ') (kf : ¬ y ≤ x → zAW E X Mt d (pc + 3) lv st σ rv σ') : zAW E X Mt d pc lv (zi y :: zi x :: st) σ rv σ' := by
  intro p l e R s m args below meth c H locs cells slots Q D dA A ad ls cx hl hP hD hS wR wl ws hc hs he
  exact lv_icmp_ge cx.1 cx.2.1 hd ht (fun h => (kt h p l e R s m args below meth c H locs cells slots Q D dA A ad ls cx hl hP hD hS wR wl (zwfs_tail (zwfs_tail ws)) hc hs he)) (fun h => (kf h p l e R s m args below meth c H locs cells slots Q D dA A ad ls cx hl hP hD hS wR wl (zwfs_tail (zwfs_tail ws)) hc hs he))
theorem a_icmp_gt {x y : Int32} {off : Int} {tgt : Nat} (hd : decode Mt.2.1 pc = .ok (.if_icmp .gt off, 3)) (ht : (pc : Int) + off = (tgt : Int)) (kt : y < x → zAW E X Mt d tgt lv st σ rv σ') (kf : ¬ y < x → zAW E X Mt d (pc + 3) lv st σ rv σ') : zAW E X Mt d pc lv (zi y :: zi x :: st) σ rv σ' := by
  intro p l e R s m args below meth c H locs cells slots Q D dA A ad ls cx hl hP hD hS wR wl ws hc hs he
  exact lv_icmp_gt cx.1 cx.2.1 hd ht (fun h => (kt h p l e R s m args below meth c H locs cells slots Q D dA A ad ls cx hl hP hD hS wR wl (zwfs_tail (zwfs_tail ws)) hc hs he)) (fun h => (kf h p l e R s m args below meth c H locs cells slots Q D dA A ad ls cx hl hP hD hS wR wl (zwfs_tail (zwfs_tail ws)) hc hs he))
theorem a_icmp_le {x y : Int32} {off : Int} {tgt : Nat} (hd : decode Mt.2.1 pc = .ok (.if_icmp .le off, 3)) (ht : (pc : Int) + off = (tgt : Int)) (kt : x ≤ y → zAW E X Mt d tgt lv st σ rv σ') (kf : ¬ x ≤ y → zAW E X Mt d (pc + 3) lv st σ rv σ') : zAW E X Mt d pc lv (zi y :: zi x :: st) σ rv σ' := by
  intro p l e R s m args below meth c H locs cells slots Q D dA A ad ls cx hl hP hD hS wR wl ws hc hs he
  exact lv_icmp_le cx.1 cx.2.1 hd ht (fun h => (kt h p l e R s m args below meth c H locs cells slots Q D dA A ad ls cx hl hP hD hS wR wl (zwfs_tail (zwfs_tail ws)) hc hs he)) (fun h => (kf h p l e R s m args below meth c H locs cells slots Q D dA A ad ls cx hl hP hD hS wR wl (zwfs_tail (zwfs_tail ws)) hc hs he))
theorem a_goto {off : Int} {tgt : Nat} (hd : decode Mt.2.1 pc = .ok (.goto off, 3)) (ht : (pc : Int) + off = (tgt : Int)) (k : zAW E X Mt d tgt lv st σ rv σ') : zAW E X Mt d pc lv st σ rv σ' := by
  intro p l e R s m args below meth c H locs cells slots Q D dA A ad ls cx hl hP hD hS wR wl ws hc hs he
  exact lv_goto cx.1 cx.2.1 hd ht (k p l e R s m args below meth c H locs cells slots Q D dA A ad ls cx hl hP hD hS wR wl ws hc hs he)
theorem a_tableIn {dflt lo hi : Int} {offs : Array Int} {len : Nat} {x : Int32} {off : Int} {tgt : Nat} (hd : decode Mt.2.1 pc = .ok (.tableswitch dflt lo hi offs, len)) (h1 : ¬ x.toInt < lo) (h2 : ¬ hi < x.toInt) (ho : offs[(x.toInt - lo).toNat]? = some off) (ht : (pc : Int) + off = (tgt : Int)) (k : zAW E X Mt d tgt lv st σ rv σ') : zAW E X Mt d pc lv (zi x :: st) σ rv σ' := by
  intro p l e R s m args below meth c H locs cells slots Q D dA A ad ls cx hl hP hD hS wR wl ws hc hs he
  exact lv_tableIn cx.1 cx.2.1 hd h1 h2 ho ht (k p l e R s m args below meth c H locs cells slots Q D dA A ad ls cx hl hP hD hS wR wl (zwfs_tail ws) hc hs he)
theorem a_tableOut {dflt lo hi : Int} {offs : Array Int} {len : Nat} {x : Int32} {tgt : Nat} (hd : decode Mt.2.1 pc = .ok (.tableswitch dflt lo hi offs, len)) (h : x.toInt < lo ∨ hi < x.toInt) (ht : (pc : Int) + dflt = (tgt : Int)) (k : zAW E X Mt d tgt lv st σ rv σ') : zAW E X Mt d pc lv (zi x :: st) σ rv σ' := by
  intro p l e R s m args below meth c H locs cells slots Q D dA A ad ls cx hl hP hD hS wR wl ws hc hs he
  exact lv_tableOut cx.1 cx.2.1 hd h ht (k p l e R s m args below meth c H locs cells slots Q D dA A ad ls cx hl hP hD hS wR wl (zwfs_tail ws) hc hs he)
theorem a_lookup {dflt : Int} {ps : Array (Int × Int)} {len : Nat} {x : Int32} {off : Int} {tgt : Nat} (hd : decode Mt.2.1 pc = .ok (.lookupswitch dflt ps, len)) (hp9 : (ps.toList.zip (ps.toList.drop 1)).all (fun (a, next) => a.1 < next.1) = true) (ho : Op.lookupswitch.offset ps.toList dflt x.toInt = off) (ht : (pc : Int) + off = (tgt : Int)) (k : zAW E X Mt d tgt lv st σ rv σ') : zAW E X Mt d pc lv (zi x :: st) σ rv σ' := by
  intro p l e R s m args below meth c H locs cells slots Q D dA A ad ls cx hl hP hD hS wR wl ws hc hs he
  exact lv_lookup cx.1 cx.2.1 hd hp9 ho ht (k p l e R s m args below meth c H locs cells slots Q D dA A ad ls cx hl hP hD hS wR wl (zwfs_tail ws) hc hs he)
/-- what is known of a class of the picture -/
def zCls (ci : Nat) (C : String) (T : u_T) (N : Nat) : Prop := vwCl[ci]? = some (C, T, N) ∧ (∀ w ∈ u_ws C T N, w ∈ zT) ∧ (∀ a, a < N → ∀ b, b < N → a ≠ b → (T a).2.1 ≠ (T b).2.1) ∧ ∀ k, k < N → parseFieldDescriptor (T k).2.2.1 = some (zty ci k)
/-- the pool's place idx of the class own is the field k of the class ci; fin: it is final -/
def zFl (own : String) (idx ci k : Nat) (fin : Bool) : Prop := ∃ (C : String) (T : u_T) (N : Nat), zCls ci C T N ∧ k < N ∧ Cond.fieldLink own idx (T k).1 (T k).2.1 (T k).2.2.1 ∈ zT ∧ (T k).2.2.2 = fin ∧ (fin = true → (T k).1 = own)
theorem zn_of {ci : Nat} {C : String} {T : u_T} {N : Nat} (h : vwCl[ci]? = some (C, T, N)) : zn ci = N := by simp [zn, h]
theorem a_geti {idx o ci k9 : Nat} {fin : Bool} (hd : decode Mt.2.1 pc = .ok (.getfield idx, 3)) (hf : zFl Mt.1.cls idx ci k9 fin) (hsh : σ.1[o]? = some (.inl ci)) (ht : zkind (zty ci k9) = 0) (k : zAW E X Mt d (pc + 3) lv (zi (σ.2.1 o k9) :: st) σ rv σ') : zAW E X Mt d pc lv (zr o :: st) σ rv σ' := by
  intro p l e R s m args below meth c H locs cells slots Q D dA A ad ls cx hl hP hD hS wR wl ws hc hs he
  obtain ⟨C, T, N, ⟨c1, c2, c3, c4⟩, h1, h2, h3, h4⟩ := hf
  have e9 : zn ci = N := zn_of c1
  exact va_get (D := D) (ci := ci) (v := .int (σ.2.1 o k9)) cx.1 cx.2.1 cx.2.2.2.2.1 c2 cx.2.2.2.1 cx.2.2.2.2.2.2.2.1.1 hP o (zws_obj hsh) c1 k9 h1 (cx.2.2.2.2.1 _ h2) (fun _ h9 => h9) (by rw [zfs_get (by rw [e9]; exact h1)]; simp [zfv, ht]) hd (k p l e R s m args below meth c H locs cells slots Q D dA A ad ls cx hl hP hD hS wR wl (zwfs_i (zwfs_tail ws)) hc hs he)
theorem a_getq {idx o ci k9 : Nat} {fin : Bool} {r : Option Nat} (hd : decode Mt.2.1 pc = .ok (.getfield idx, 3)) (hf : zFl Mt.1.cls idx ci k9 fin) (hsh : σ.1[o]? = some (.inl ci)) (ht : zkind (zty ci k9) = 2) (hr : σ.2.2.2 o k9 = r) (k : zAW E X Mt d (pc + 3) lv (zq r :: st) σ rv σ') : zAW E X Mt d pc lv (zr o :: st) σ rv σ' := by
  intro p l e R s m args below meth c H locs cells slots Q D dA A ad ls cx hl hP hD hS wR wl ws hc hs he
  obtain ⟨C, T, N, ⟨c1, c2, c3, c4⟩, h1, h2, h3, h4⟩ := hf
  have e9 : zn ci = N := zn_of c1
  exact va_get (D := D) (ci := ci) (v := zc ad (zq r)) cx.1 cx.2.1 cx.2.2.2.2.1 c2 cx.2.2.2.1 cx.2.2.2.2.2.2.2.1.1 hP o (zws_obj hsh) c1 k9 h1 (cx.2.2.2.2.1 _ h2) (fun _ h9 => h9) (by rw [zfs_get (by rw [e9]; exact h1)]; simp [zfv, ht, zc, hr]) hd (k p l e R s m args below meth c H locs cells slots Q D dA A ad ls cx hl hP hD hS wR wl (zwfs_cons (fun x hx => wR o k9 x (by rw [hr]; cases hx; rfl)) (zwfs_tail ws)) hc hs he)
theorem a_puti {idx o ci k9 : Nat} {x : Int32} (hd : decode Mt.2.1 pc = .ok (.putfield idx, 3)) (hf : zFl Mt.1.cls idx ci k9 false) (hsh : σ.1[o]? = some (.inl ci)) (ht : zkind (zty ci k9) = 0) (hn : narrow (zty ci k9) (.int x) = .int x ∧ fits (zty ci k9) (.int x) = true) (k : zAW E X Mt d (pc + 3) lv st (σ.1, zu σ.2.1 o k9 x, σ.2.2.1, σ.2.2.2) rv σ') : zAW E X Mt d pc lv (zi x :: zr o :: st) σ rv σ' := by
  intro p l e R s m args below meth c H locs cells slots Q D dA A ad ls cx hl hP hD hS wR wl ws hc hs he
  obtain ⟨C, T, N, ⟨c1, c2, c3, c4⟩, h1, h2, h3, h4⟩ := hf
  have e9 : zn ci = N := zn_of c1
  refine va_put (D := D) (ci := ci) (v := .int x) (ty := zty ci k9) cx.1 cx.2.1 cx.2.2.2.2.1 c2 (zty ci) c4 c3 cx.2.2.2.1 cx.2.2.2.2.2.2.2.1.1 hP hD hS o (zws_obj hsh) c1 k9 h1 (cx.2.2.2.2.1 _ h2) (fun _ h9 => h9) h3  (c4 k9 h1) hn.1 hn.2 (by simp [zfs, e9, h1]) hd (fun H1 locs1 hP1 hD1 hS1 => ?_)
  rw [zset_i hsh (by rw [e9]; exact h1) ht] at hP1 hD1
  exact (k p l e R s m args below meth c H1 locs1 cells slots Q D dA A ad ls cx hl hP1 hD1 hS1 wR wl (zwfs_tail (zwfs_tail ws)) hc hs he)
theorem a_putq {idx o ci k9 : Nat} {r : Option Nat} (hd : decode Mt.2.1 pc = .ok (.putfield idx, 3)) (hf : zFl Mt.1.cls idx ci k9 false) (hsh : σ.1[o]? = some (.inl ci)) (ht : zkind (zty ci k9) = 2) (hn9 : ∀ z : Option Nat, narrow (zty ci k9) (va_rf z) = va_rf z ∧ fits (zty ci k9) (va_rf z) = true) (k : zAW E X Mt d (pc + 3) lv st (σ.1, σ.2.1, σ.2.2.1, zu σ.2.2.2 o k9 r) rv σ') : zAW E X Mt d pc lv (zq r :: zr o :: st) σ rv σ' := by
  intro p l e R s m args below meth c H locs cells slots Q D dA A ad ls cx hl hP hD hS wR wl ws hc hs he
  obtain ⟨C, T, N, ⟨c1, c2, c3, c4⟩, h1, h2, h3, h4⟩ := hf
  have e9 : zn ci = N := zn_of c1
  refine va_put (D := D) (ci := ci) (v := va_rf (r.map ad)) (ty := zty ci k9) cx.1 cx.2.1 cx.2.2.2.2.1 c2 (zty ci) c4 c3 cx.2.2.2.1 cx.2.2.2.2.2.2.2.1.1 hP hD hS o (zws_obj hsh) c1 k9 h1 (cx.2.2.2.2.1 _ h2) (fun _ h9 => h9) h3  (c4 k9 h1) (hn9 _).1 (hn9 _).2 (by simp [zfs, e9, h1]) hd (fun H1 locs1 hP1 hD1 hS1 => ?_)
  rw [zset_q hsh (by rw [e9]; exact h1) ht] at hP1 hD1
  exact (k p l e R s m args below meth c H1 locs1 cells slots Q D dA A ad ls cx hl hP1 hD1 hS1 (fun a b y hy => by simp only [zu] at hy; split at hy <;> (try split at hy) <;> first | exact wR a b y hy | exact (zwfs_head ws) y (by rw [hy])) wl (zwfs_tail (zwfs_tail ws)) hc hs he)
theorem a_putiF {idx o ci k9 : Nat} {x : Int32} (hd : decode Mt.2.1 pc = .ok (.putfield idx, 3)) (hf : zFl Mt.1.cls idx ci k9 true) (hsh : σ.1[o]? = some (.inl ci)) (ht : zkind (zty ci k9) = 0) (hn : narrow (zty ci k9) (.int x) = .int x ∧ fits (zty ci k9) (.int x) = true) (hi9 : Mt.1.name = "<init>") (k : zAW E X Mt d (pc + 3) lv st (σ.1, zu σ.2.1 o k9 x, σ.2.2.1, σ.2.2.2) rv σ') : zAW E X Mt d pc lv (zi x :: zr o :: st) σ rv σ' := by
  intro p l e R s m args below meth c H locs cells slots Q D dA A ad ls cx hl hP hD hS wR wl ws hc hs he
  obtain ⟨C, T, N, ⟨c1, c2, c3, c4⟩, h1, h2, h3, h4⟩ := hf
  have e9 : zn ci = N := zn_of c1
  refine va_putF (D := D) (ci := ci) (v := .int x) (ty := zty ci k9) cx.1 cx.2.1 cx.2.2.2.2.1 c2 (zty ci) c4 c3 cx.2.2.2.1 cx.2.2.2.2.2.2.2.1.1 hP hD hS o (zws_obj hsh) c1 k9 h1 (cx.2.2.2.2.1 _ h2) (fun _ h9 => h9) h3 (cx.2.2.2.2.2.1 hi9) (h4 rfl) (c4 k9 h1) hn.1 hn.2 (by simp [zfs, e9, h1]) hd (fun H1 locs1 hP1 hD1 hS1 => ?_)
  rw [zset_i hsh (by rw [e9]; exact h1) ht] at hP1 hD1
  exact (k p l e R s m args below meth c H1 locs1 cells slots Q D dA A ad ls cx hl hP1 hD1 hS1 wR wl (zwfs_tail (zwfs_tail ws)) hc hs he)
theorem a_putqF {idx o ci k9 : Nat} {r : Option Nat} (hd : decode Mt.2.1 pc = .ok (.putfield idx, 3)) (hf : zFl Mt.1.cls idx ci k9 true) (hsh : σ.1[o]? = some (.inl ci)) (ht : zkind (zty ci k9) = 2) (hn9 : ∀ z : Option Nat, narrow (zty ci k9) (va_rf z) = va_rf z ∧ fits (zty ci k9) (va_rf z) = true) (hi9 : Mt.1.name = "<init>") (k : zAW E X Mt d (pc + 3) lv st (σ.1, σ.2.1, σ.2.2.1, zu σ.2.2.2 o k9 r) rv σ') : zAW E X Mt d pc lv (zq r :: zr o :: st) σ rv σ' := by
  intro p l e R s m args below meth c H locs cells slots Q D dA A ad ls cx hl hP hD hS wR wl ws hc hs he
  obtain ⟨C, T, N, ⟨c1, c2, c3, c4⟩, h1, h2, h3, h4⟩ := hf
  have e9 : zn ci = N := zn_of c1
  refine va_putF (D := D) (ci := ci) (v := va_rf (r.map ad)) (ty := zty ci k9) cx.1 cx.2.1 cx.2.2.2.2.1 c2 (zty ci) c4 c3 cx.2.2.2.1 cx.2.2.2.2.2.2.2.1.1 hP hD hS o (zws_obj hsh) c1 k9 h1 (cx.2.2.2.2.1 _ h2) (fun _ h9 => h9) h3 (cx.2.2.2.2.2.1 hi9) (h4 rfl) (c4 k9 h1) (hn9 _).1 (hn9 _).2 (by simp [zfs, e9, h1]) hd (fun H1 locs1 hP1 hD1 hS1 => ?_)
  rw [zset_q hsh (by rw [e9]; exact h1) ht] at hP1 hD1
  exact (k p l e R s m args below meth c H1 locs1 cells slots Q D dA A ad ls cx hl hP1 hD1 hS1 (fun a b y hy => by simp only [zu] at hy; split at hy <;> (try split at hy) <;> first | exact wR a b y hy | exact (zwfs_head ws) y (by rw [hy])) wl (zwfs_tail (zwfs_tail ws)) hc hs he)
theorem a_iald {o n : Nat} {i : Int32} (hd : decode Mt.2.1 pc = .ok (.iaload, 1)) (hsh : σ.1[o]? = some (.inr (.int, n))) (hin : vp_in i n) (k : zAW E X Mt d (pc + 1) lv (zi (σ.2.1 o i.toNatClampNeg) :: st) σ rv σ') : zAW E X Mt d pc lv (zi i :: zr o :: st) σ rv σ' := by
  intro p l e R s m args below meth c H locs cells slots Q D dA A ad ls cx hl hP hD hS wR wl ws hc hs he
  exact va_iald (D := D) cx.1 cx.2.1 cx.2.2.2.2.2.2.2.1.1 hP o 0 (zws_arr hsh) rfl hin hd (k p l e R s m args below meth c H locs cells slots Q D dA A ad ls cx hl hP hD hS wR wl (zwfs_i (zwfs_tail (zwfs_tail ws))) hc hs he)
theorem a_iast {o n : Nat} {i : Int32} {x : Int32} (hd : decode Mt.2.1 pc = .ok (.iastore, 1)) (hsh : σ.1[o]? = some (.inr (.int, n))) (hin : vp_in i n) (k : zAW E X Mt d (pc + 1) lv st (σ.1, zu σ.2.1 o i.toNatClampNeg x, σ.2.2.1, σ.2.2.2) rv σ') : zAW E X Mt d pc lv (zi x :: zi i :: zr o :: st) σ rv σ' := by
  intro p l e R s m args below meth c H locs cells slots Q D dA A ad ls cx hl hP hD hS wR wl ws hc hs he
  refine va_iast (D := D) cx.1 cx.2.1 cx.2.2.2.2.2.2.2.1.1 hP hD hS o 0 (zws_arr hsh) rfl hin hd (fun H1 locs1 hP1 hD1 hS1 => ?_)
  have e1 := zseta_i (dA := dA) (ad := ad) (k := i.toNatClampNeg) (x := x) hsh rfl
  rw [e1] at hP1 hD1
  exact (k p l e R s m args below meth c H1 locs1 cells slots Q D dA A ad ls cx hl hP1 hD1 hS1 wR wl (zwfs_tail (zwfs_tail (zwfs_tail ws))) hc hs he)
theorem a_alen_i {o n : Nat} (hd : decode Mt.2.1 pc = .ok (.arraylength, 1)) (hsh : σ.1[o]? = some (.inr (.int, n))) (k : zAW E X Mt d (pc + 1) lv (zi (Int32.ofNat n) :: st) σ rv σ') : zAW E X Mt d pc lv (zr o :: st) σ rv σ' := by
  intro p l e R s m args below meth c H locs cells slots Q D dA A ad ls cx hl hP hD hS wR wl ws hc hs he
  exact va_alen (D := D) cx.1 cx.2.1 cx.2.2.2.2.2.2.2.1.1 hP o 0 (zws_arr hsh) rfl rfl hd (k p l e R s m args below meth c H locs cells slots Q D dA A ad ls cx hl hP hD hS wR wl (zwfs_i (zwfs_tail ws)) hc hs he)
theorem a_cald {o n : Nat} {i : Int32} (hd : decode Mt.2.1 pc = .ok (.caload, 1)) (hsh : σ.1[o]? = some (.inr (.char, n))) (hin : vp_in i n) (k : zAW E X Mt d (pc + 1) lv (zi (σ.2.1 o i.toNatClampNeg) :: st) σ rv σ') : zAW E X Mt d pc lv (zi i :: zr o :: st) σ rv σ' := by
  intro p l e R s m args below meth c H locs cells slots Q D dA A ad ls cx hl hP hD hS wR wl ws hc hs he
  exact va_cald (D := D) cx.1 cx.2.1 cx.2.2.2.2.2.2.2.1.1 hP o 1 (zws_arr hsh) rfl hin hd (k p l e R s m args below meth c H locs cells slots Q D dA A ad ls cx hl hP hD hS wR wl (zwfs_i (zwfs_tail (zwfs_tail ws))) hc hs he)
theorem a_cast {o n : Nat} {i : Int32} {x : Int32} (hd : decode Mt.2.1 pc = .ok (.castore, 1)) (hsh : σ.1[o]? = some (.inr (.char, n))) (hin : vp_in i n) (k : zAW E X Mt d (pc + 1) lv st (σ.1, zu σ.2.1 o i.toNatClampNeg (vp_nar .char x), σ.2.2.1, σ.2.2.2) rv σ') : zAW E X Mt d pc lv (zi x :: zi i :: zr o :: st) σ rv σ' := by
  intro p l e R s m args below meth c H locs cells slots Q D dA A ad ls cx hl hP hD hS wR wl ws hc hs he
  refine va_cast (D := D) cx.1 cx.2.1 cx.2.2.2.2.2.2.2.1.1 hP hD hS o 1 (zws_arr hsh) rfl hin hd (fun H1 locs1 hP1 hD1 hS1 => ?_)
  have e1 := zseta_i (dA := dA) (ad := ad) (k := i.toNatClampNeg) (x := (vp_nar .char x)) hsh rfl
  rw [e1] at hP1 hD1
  exact (k p l e R s m args below meth c H1 locs1 cells slots Q D dA A ad ls cx hl hP1 hD1 hS1 wR wl (zwfs_tail (zwfs_tail (zwfs_tail ws))) hc hs he)
theorem a_alen_c {o n : Nat} (hd : decode Mt.2.1 pc = .ok (.arraylength, 1)) (hsh : σ.1[o]? = some (.inr (.char, n))) (k : zAW E X Mt d (pc + 1) lv (zi (Int32.ofNat n) :: st) σ rv σ') : zAW E X Mt d pc lv (zr o :: st) σ rv σ' := by
  intro p l e R s m args below meth c H locs cells slots Q D dA A ad ls cx hl hP hD hS wR wl ws hc hs he
  exact va_alen (D := D) cx.1 cx.2.1 cx.2.2.2.2.2.2.2.1.1 hP o 1 (zws_arr hsh) rfl rfl hd (k p l e R s m args below meth c H locs cells slots Q D dA A ad ls cx hl hP hD hS wR wl (zwfs_i (zwfs_tail ws)) hc hs he)
theorem a_zald {o n : Nat} {i : Int32} (hd : decode Mt.2.1 pc = .ok (.baload, 1)) (hsh : σ.1[o]? = some (.inr (.boolean, n))) (hin : vp_in i n) (k : zAW E X Mt d (pc + 1) lv (zi (σ.2.1 o i.toNatClampNeg) :: st) σ rv σ') : zAW E X Mt d pc lv (zi i :: zr o :: st) σ rv σ' := by
  intro p l e R s m args below meth c H locs cells slots Q D dA A ad ls cx hl hP hD hS wR wl ws hc hs he
  exact va_zald (D := D) cx.1 cx.2.1 cx.2.2.2.2.2.2.2.1.1 hP o 2 (zws_arr hsh) rfl hin hd (k p l e R s m args below meth c H locs cells slots Q D dA A ad ls cx hl hP hD hS wR wl (zwfs_i (zwfs_tail (zwfs_tail ws))) hc hs he)
theorem a_zast {o n : Nat} {i : Int32} {x : Int32} (hd : decode Mt.2.1 pc = .ok (.bastore, 1)) (hsh : σ.1[o]? = some (.inr (.boolean, n))) (hin : vp_in i n) (k : zAW E X Mt d (pc + 1) lv st (σ.1, zu σ.2.1 o i.toNatClampNeg (vp_nar .boolean x), σ.2.2.1, σ.2.2.2) rv σ') : zAW E X Mt d pc lv (zi x :: zi i :: zr o :: st) σ rv σ' := by
  intro p l e R s m args below meth c H locs cells slots Q D dA A ad ls cx hl hP hD hS wR wl ws hc hs he
  refine va_zast (D := D) cx.1 cx.2.1 cx.2.2.2.2.2.2.2.1.1 hP hD hS o 2 (zws_arr hsh) rfl hin hd (fun H1 locs1 hP1 hD1 hS1 => ?_)
  have e1 := zseta_i (dA := dA) (ad := ad) (k := i.toNatClampNeg) (x := (vp_nar .boolean x)) hsh rfl
  rw [e1] at hP1 hD1
  exact (k p l e R s m args below meth c H1 locs1 cells slots Q D dA A ad ls cx hl hP1 hD1 hS1 wR wl (zwfs_tail (zwfs_tail (zwfs_tail ws))) hc hs he)
theorem a_alen_z {o n : Nat} (hd : decode Mt.2.1 pc = .ok (.arraylength, 1)) (hsh : σ.1[o]? = some (.inr (.boolean, n))) (k : zAW E X Mt d (pc + 1) lv (zi (Int32.ofNat n) :: st) σ rv σ') : zAW E X Mt d pc lv (zr o :: st) σ rv σ' := by
  intro p l e R s m args below meth c H locs cells slots Q D dA A ad ls cx hl hP hD hS wR wl ws hc hs he
  exact va_alen (D := D) cx.1 cx.2.1 cx.2.2.2.2.2.2.2.1.1 hP o 2 (zws_arr hsh) rfl rfl hd (k p l e R s m args below meth c H locs cells slots Q D dA A ad ls cx hl hP hD hS wR wl (zwfs_i (zwfs_tail ws)) hc hs he)
theorem a_lald {o n : Nat} {i : Int32} (hd : decode Mt.2.1 pc = .ok (.laload, 1)) (hsh : σ.1[o]? = some (.inr (.long, n))) (hin : vp_in i n) (k : zAW E X Mt d (pc + 1) lv (zl (σ.2.2.1 o i.toNatClampNeg) :: st) σ rv σ') : zAW E X Mt d pc lv (zi i :: zr o :: st) σ rv σ' := by
  intro p l e R s m args below meth c H locs cells slots Q D dA A ad ls cx hl hP hD hS wR wl ws hc hs he
  exact va_lald (D := D) cx.1 cx.2.1 cx.2.2.2.2.2.2.2.1.1 hP o 3 (zws_arr hsh) rfl hin hd (k p l e R s m args below meth c H locs cells slots Q D dA A ad ls cx hl hP hD hS wR wl (zwfs_l (zwfs_tail (zwfs_tail ws))) hc hs he)
theorem a_last {o n : Nat} {i : Int32} {x : Int64} (hd : decode Mt.2.1 pc = .ok (.lastore, 1)) (hsh : σ.1[o]? = some (.inr (.long, n))) (hin : vp_in i n) (k : zAW E X Mt d (pc + 1) lv st (σ.1, σ.2.1, zu σ.2.2.1 o i.toNatClampNeg x, σ.2.2.2) rv σ') : zAW E X Mt d pc lv (zl x :: zi i :: zr o :: st) σ rv σ' := by
  intro p l e R s m args below meth c H locs cells slots Q D dA A ad ls cx hl hP hD hS wR wl ws hc hs he
  refine va_last (D := D) cx.1 cx.2.1 cx.2.2.2.2.2.2.2.1.1 hP hD hS o 3 (zws_arr hsh) rfl hin hd (fun H1 locs1 hP1 hD1 hS1 => ?_)
  have e1 := zseta_l (dA := dA) (ad := ad) (k := i.toNatClampNeg) (x := x) hsh
  rw [e1] at hP1 hD1
  exact (k p l e R s m args below meth c H1 locs1 cells slots Q D dA A ad ls cx hl hP1 hD1 hS1 wR wl (zwfs_tail (zwfs_tail (zwfs_tail ws))) hc hs he)
theorem a_alen_l {o n : Nat} (hd : decode Mt.2.1 pc = .ok (.arraylength, 1)) (hsh : σ.1[o]? = some (.inr (.long, n))) (k : zAW E X Mt d (pc + 1) lv (zi (Int32.ofNat n) :: st) σ rv σ') : zAW E X Mt d pc lv (zr o :: st) σ rv σ' := by
  intro p l e R s m args below meth c H locs cells slots Q D dA A ad ls cx hl hP hD hS wR wl ws hc hs he
  exact va_alen (D := D) cx.1 cx.2.1 cx.2.2.2.2.2.2.2.1.1 hP o 3 (zws_arr hsh) rfl rfl hd (k p l e R s m args below meth c H locs cells slots Q D dA A ad ls cx hl hP hD hS wR wl (zwfs_i (zwfs_tail ws)) hc hs he)
theorem a_xald {i9 : Nat} {q : String × String × List Int32} {i : Int32} (hd : decode Mt.2.1 pc = .ok (.iaload, 1)) (hq : zst[i9]? = some q) (hin : vp_in i q.2.2.length) (k : zAW E X Mt d (pc + 1) lv (zi (q.2.2.getD i.toNatClampNeg 0) :: st) σ rv σ') : zAW E X Mt d pc lv (zi i :: zr (1001 + i9) :: st) σ rv σ' := by
  intro p l e R s m args below meth c H locs cells slots Q D dA A ad ls cx hl hP hD hS wR wl ws hc hs he
  exact va_ti cx.1 cx.2.1 (cx.2.2.2.2.2.2.2.1.2.1 i9 q hq).2 hS hin rfl hd (k p l e R s m args below meth c H locs cells slots Q D dA A ad ls cx hl hP hD hS wR wl (zwfs_i (zwfs_tail (zwfs_tail ws))) hc hs he)
theorem a_xlen {i9 : Nat} {q : String × String × List Int32} (hd : decode Mt.2.1 pc = .ok (.arraylength, 1)) (hq : zst[i9]? = some q) (k : zAW E X Mt d (pc + 1) lv (zi (Int32.ofNat q.2.2.length) :: st) σ rv σ') : zAW E X Mt d pc lv (zr (1001 + i9) :: st) σ rv σ' := by
  intro p l e R s m args below meth c H locs cells slots Q D dA A ad ls cx hl hP hD hS wR wl ws hc hs he
  exact va_tlen cx.1 cx.2.1 (cx.2.2.2.2.2.2.2.1.2.1 i9 q hq).2 hS rfl hd (k p l e R s m args below meth c H locs cells slots Q D dA A ad ls cx hl hP hD hS wR wl (zwfs_i (zwfs_tail ws)) hc hs he)
theorem a_sald {i : Int32} (hd : decode Mt.2.1 pc = .ok (.iaload, 1)) (hin : vp_in i X.1) (k : zAW E X Mt d (pc + 1) lv (zi (X.2 i.toNatClampNeg) :: st) σ rv σ') : zAW E X Mt d pc lv (zi i :: zr 1000 :: st) σ rv σ' := by
  intro p l e R s m args below meth c H locs cells slots Q D dA A ad ls cx hl hP hD hS wR wl ws hc hs he
  exact va_ti cx.1 cx.2.1 cx.2.2.2.2.2.2.2.1.2.2.1 hS hin rfl hd (k p l e R s m args below meth c H locs cells slots Q D dA A ad ls cx hl hP hD hS wR wl (zwfs_i (zwfs_tail (zwfs_tail ws))) hc hs he)
theorem a_slen (hd : decode Mt.2.1 pc = .ok (.arraylength, 1)) (k : zAW E X Mt d (pc + 1) lv (zi (Int32.ofNat X.1) :: st) σ rv σ') : zAW E X Mt d pc lv (zr 1000 :: st) σ rv σ' := by
  intro p l e R s m args below meth c H locs cells slots Q D dA A ad ls cx hl hP hD hS wR wl ws hc hs he
  exact va_tlen cx.1 cx.2.1 cx.2.2.2.2.2.2.2.1.2.2.1 hS rfl hd (k p l e R s m args below meth c H locs cells slots Q D dA A ad ls cx hl hP hD hS wR wl (zwfs_i (zwfs_tail ws)) hc hs he)
theorem a_gets {idx i9 : Nat} {q : String × String × List Int32} (hd : decode Mt.2.1 pc = .ok (.getstatic idx, 3)) (hq : zst[i9]? = some q) (hw : Cond.fieldLink Mt.1.cls idx q.1 q.2.1 "[I" ∈ zT) (k : zAW E X Mt d (pc + 3) lv (zr (1001 + i9) :: st) σ rv σ') : zAW E X Mt d pc lv st σ rv σ' := by
  intro p l e R s m args below meth c H locs cells slots Q D dA A ad ls cx hl hP hD hS wR wl ws hc hs he
  exact va_gets cx.1 cx.2.1 (cx.2.2.2.2.2.2.2.1.2.1 i9 q hq).1 hS cx.2.2.2.1 (cx.2.2.2.2.1 _ hw) (fun _ h => h) hd (k p l e R s m args below meth c H locs cells slots Q D dA A ad ls cx hl hP hD hS wR wl (zwfs_cons (fun x hx => by cases hx; exact Or.inr (by omega)) ws) hc hs he)
end zRules
end
section
/-! returns, the entry of a method, calls, what is made -/
section zCalls
variable {E : (Nat → Prop) → Launch → State → Prop} {X : Nat × (Nat → Int32)} {Mt : zM} {d pc : Nat} {lv : List (Nat × zV)} {st : List zV} {σ σ' : zW} {rv : Option zV}
theorem a_iret {x : Int32} (hd : decode Mt.2.1 pc = .ok (.ireturn, 1)) (hr : Mt.2.2.2 ≠ none) (hn : znar Mt (some (zi x))) : zAW E X Mt d pc lv [zi x] σ (some (zi x)) σ := by
  intro p l e R s m args below meth c H locs cells slots Q D dA A ad ls cx hl hP hD hS wR wl ws hc hs he
  exact he pc ls H locs cells slots ad ⟨hd, hr⟩ hn (fun _ _ => rfl) hP hD hS wR (by omega) (by omega)
theorem a_vret (hd : decode Mt.2.1 pc = .ok (.return_, 1)) (hr : Mt.2.2.2 = none) : zAW E X Mt d pc lv [] σ none σ := by
  intro p l e R s m args below meth c H locs cells slots Q D dA A ad ls cx hl hP hD hS wR wl ws hc hs he
  exact he pc ls H locs cells slots ad ⟨hd, hr⟩ (fun _ _ h => by cases h) (fun _ _ => rfl) hP hD hS wR (by omega) (by omega)
def zargs : Nat → List zV → List (Nat × zV)
  | _, [] => []
  | i, v :: vs => (i, v) :: zargs (if zcat v = 2 then i + 2 else i + 1) vs
theorem zargs_map (ad : Nat → Nat) (as : List zV) : ∀ i, lv_args i (as.map (zc ad)) = (zargs i as).map (fun q => (q.1, zc ad q.2)) := by
  induction as with
  | nil => intro i; rfl
  | cons v vs ih => intro i; simp [lv_args, zargs, ih, zc_cat]
theorem zargs_wf {n : Nat} {as : List zV} : ∀ {i : Nat}, zwfs n as → zwfl n (zargs i as) := by
  induction as with
  | nil => intro i _ q hq; cases hq
  | cons v vs ih =>
    intro i h q hq
    rcases List.mem_cons.mp hq with e | hq
    · rw [e]; exact zwfs_head h
    · exact ih (zwfs_tail h) q hq
theorem zsl_len (ad : Nat → Nat) (as : List zV) : (lg_sl (as.map (zc ad))).length = (as.map zcat).sum := by
  induction as with
  | nil => rfl
  | cons v vs ih =>
    simp only [lg_sl, List.map_cons, List.flatMap_cons, List.length_append, List.sum_cons] at ih ⊢
    rw [ih, zc_cat]
    rcases v with x | x | r <;> simp [zcat]
/-- the entry: a method's contract out of the walk of its body -/
theorem zAM_of {as : List zV} (hy : plainName Mt.1.cls = true) (hlen : (as.map zcat).sum ≤ Mt.2.2.1) (hnar : znar Mt rv) (hret : Mt.2.2.2 = none ↔ rv = none) (h1 : σ.1.length ≤ σ'.1.length) (h2 : zsl σ.1 ≤ zsl σ'.1)
    (k : zAW (fun _ _ _ => True) X Mt d 0 (zargs 0 as) [] σ rv σ') : zAM X Mt d as σ rv σ' := by
  refine ⟨hnar, h1, h2, ⟨_, rfl, hret⟩, fun wR was l D dA ad sz => ?_⟩
  refine Met.ofW (cc := Mt.2.1) (maxL := Mt.2.2.1) (ret := Mt.2.2.2) hy rfl ?_
  intro p e s m args below meth c s₁ B hml hv
  obtain ⟨rfl, hsz, hP, hK, hD0⟩ := hv
  have hts := atoms_spec (ws := Cond.code Mt.1 Mt.2.1 Mt.2.2.1 Mt.2.2.2 :: zT) B.pre
  have hown : s.vm.findClass Mt.1.cls = some m.cls := findClass_of_methodNamed B.named
  have hD := hD0.self (sz := sz)
  have hl := lv_entry (as.map (zc ad)) (n := Mt.2.2.1) (by rw [zsl_len]; exact hlen)
  rw [lg_entry_eq]
  generalize (lg_sl (as.map (zc ad)) ++ List.replicate (Mt.2.2.1 - (lg_sl (as.map (zc ad))).length) Slot.unset).toArray = ls at hl ⊢
  rw [zargs_map] at hl
  refine k p l e _ s m _ below meth c s.heap [] 0 0 _ D dA (va_A (zws dA ad σ) sz) ad ls ⟨B.exec, B.bytes, hml, hown, fun w hw => hts w (List.mem_cons_of_mem _ hw), fun h => ?_, fun q hq => Or.inr (by rw [← hsz]; exact hq), hK, Nat.le_refl _, Nat.le_refl _, trivial⟩ hl hP hD va_S.rf wR (zargs_wf was) zwfs_nil ?_ ?_ ?_
  · rw [← h]; exact (name_of_methodNamed B.named B.method).1
  · show 0 + σ'.1.length ≤ (σ'.1.length - σ.1.length) + σ.1.length
    omega
  · show 0 + zsl σ'.1 ≤ (zsl σ'.1 - zsl σ.1) + zsl σ.1
    omega
  · intro pc ls H locs cells slots ad' hx hn had hP' hD' hS' wR' hc hs
    refine W.widen (k := σ'.1.length - σ.1.length) (n := zsl σ'.1 - zsl σ.1) hc hs ?_
    have hlocks := B.notSynchronized
    cases rv with
    | none => exact W.vret B.exec B.bytes (by rw [B.returns]; exact hx.2) (fun t ht hW => ⟨⟨ad', rfl, ⟨had, wR'⟩, by rw [ht]; exact hP', hD'⟩, hS'.F ht⟩) hS'.2.2 hx.1
    | some v =>
      rcases v with x | x
      · obtain ⟨hx1, hx2⟩ := hx
        cases hty : Mt.2.2.2 with
        | none => exact absurd hty hx2
        | some ty => exact W.zret (v := x) (ty := ty) B.exec B.bytes (by rw [B.returns]; exact hty) (hn x ty rfl hty) (fun t ht hW => ⟨⟨x, ad', rfl, ⟨rfl, had, wR'⟩, by rw [ht]; exact hP', hD'⟩, hS'.F ht⟩) hS'.2.2 hx1
      · exact absurd hx (by intro h; exact h)
theorem zc_cong {n : Nat} {ad ad' : Nat → Nat} (h : ∀ x, zok n x → ad' x = ad x) {v : zV} (hv : zwfv n v) : zc ad' v = zc ad v := by
  rcases v with x | x | r
  · rfl
  · rfl
  · cases r with
    | none => rfl
    | some a => simp [zc, h a (hv a rfl)]
theorem zcs_cong {n : Nat} {ad ad' : Nat → Nat} (h : ∀ x, zok n x → ad' x = ad x) {st : List zV} (hv : zwfs n st) : st.map (zc ad') = st.map (zc ad) := List.map_congr_left fun v hm => zc_cong h (hv v hm)
theorem zLs_cong {n nL : Nat} {ad ad' : Nat → Nat} {ls : Array Slot} (h : ∀ x, zok n x → ad' x = ad x) {lv : List (Nat × zV)} (hv : zwfl n lv) (hl : zLs ls nL ad lv) : zLs ls nL ad' lv := by
  have e : lv.map (fun q => (q.1, zc ad' q.2)) = lv.map (fun q => (q.1, zc ad q.2)) := List.map_congr_left fun q hm => by rw [zc_cong h (hv q hm)]
  unfold zLs
  rw [e]
  exact hl
theorem zok_mono {n k x : Nat} (h : n ≤ k) (hx : zok n x) : zok k x := hx.elim (fun a => Or.inl (Nat.lt_of_lt_of_le a h)) Or.inr
theorem zwfs_mono {n k : Nat} (h : n ≤ k) {st : List zV} (hv : zwfs n st) : zwfs k st := fun v hm x hx => zok_mono h (hv v hm x hx)
theorem zwfl_mono {n k : Nat} (h : n ≤ k) {lv : List (Nat × zV)} (hv : zwfl n lv) : zwfl k lv := fun q hm x hx => zok_mono h (hv q hm x hx)
theorem zCx_cast {n : Nat} {p : Program} {l : Launch} {R : Room} {s : State} {m : MethodId} {args : Array Value} {meth : Method} {c : Code} {D : va_G} {dA : FieldType → ClassId} {A : Nat → Prop} {ad ad' : Nat → Nat} (h : ∀ x, zok n x → ad' x = ad x) (cx : zCx E X Mt d p l R s m args meth c D dA A ad) : zCx E X Mt d p l R s m args meth c D dA A ad' := by
  obtain ⟨a1, a2, a3, a4, a5, a6, a7, a8, a9⟩ := cx
  exact ⟨a1, a2, a3, a4, a5, a6, a7, a8.cast (fun x hx => h x (Or.inr hx)), a9⟩
theorem zEnd_cast {n n2 : Nat} {p : Program} {l : Launch} {e : Env} {R : Room} {s : State} {m : MethodId} {args : Array Value} {below : List Frame} {meth : Method} {c : Code} {Q : State → Prop} {D : va_G} {dA : FieldType → ClassId} {A : Nat → Prop} {ad ad' : Nat → Nat} (hn : n ≤ n2) (h : ∀ x, zok n x → ad' x = ad x) (he : zEnd X Mt p l e R s m args below meth c Q D dA A ad n rv σ') : zEnd X Mt p l e R s m args below meth c Q D dA A ad' n2 rv σ' := by
  intro pc ls H locs cells slots ad2 g1 g2 g3
  exact he pc ls H locs cells slots ad2 g1 g2 (fun x hx => (g3 x (zok_mono hn hx)).trans (h x hx))
/-- behind a call: what it left goes on -/
theorem z_call {p : Program} {l : Launch} {e : Env} {R : Room} {s : State} {m : MethodId} {args : Array Value} {below : List Frame} {meth : Method} {c : Code} {H : Heap} {locs : List Loc} {cells slots : Nat} {Q : State → Prop} {D : va_G} {dA : FieldType → ClassId} {A : Nat → Prop} {ad : Nat → Nat} {ls : Array Slot} {rv2 : Option zV} {σ2 : zW} {st0 : List Value} {a : Array Value}
    (hr : va_Run p l e R s m args below meth c H locs cells slots (σ2.1.length - σ.1.length) (zsl σ2.1 - zsl σ.1) (F0 m pc ls st0) (st.map (zc ad)) (zQc D dA ad (va_A (zws dA ad σ) H.size) σ.1.length rv2 σ2 a) (va_A (zws dA ad σ) H.size))
    (h1 : σ.1.length ≤ σ2.1.length) (h2 : zsl σ.1 ≤ zsl σ2.1)
    (k : zAW E X Mt d (pc + 3) lv (rv2.toList ++ st) σ2 rv σ')
    (cx : zCx E X Mt d p l R s m args meth c D dA A ad) (hl : zLs ls Mt.2.2.1 ad lv) (hD : va_D A (zws dA ad σ)) (hS : va_S A s.heap H locs) (wl : zwfl σ.1.length lv) (ws : zwfs σ.1.length st)
    (hc : cells + σ'.1.length ≤ R.cells + σ.1.length) (hs : slots + zsl σ'.1 ≤ R.slots + zsl σ.1) (he : zEnd X Mt p l e R s m args below meth c Q D dA A ad σ.1.length rv σ') :
    W p l e R s m args below meth c H locs cells slots Q (F0 m pc ls st0) := by
  have hA : ∀ q, va_A (zws dA ad σ) H.size q → A q := by
    rintro q (⟨j, x, hj⟩ | hq)
    · exact hD.2 j _ hj
    · exact cx.2.2.2.2.2.2.1 q (Nat.le_trans hS.1 hq)
  cases rv2 with
  | none =>
    refine va_callv (a := a) hr hS (fun q _ h => hA q h) hA (fun u t H1 locs1 ht hvm hw hB hz1 hk1 hS1 => ?_)
    obtain ⟨had, wR2⟩ := hw
    obtain ⟨hP1, hD1⟩ := hB
    rw [ht] at hP1
    have e1 := zcs_cong had ws
    rw [← e1]
    exact k p l e R s m args below meth c H1 locs1 _ _ Q D dA A u ls (zCx_cast had cx) (zLs_cong had wl hl) hP1 (hD1.weaken (fun _ _ _ h => hA _ h)) hS1 wR2 (zwfl_mono h1 wl) (zwfs_mono h1 ws) (by omega) (by omega) (zEnd_cast h1 had he)
  | some v =>
    refine va_calli (a := a) hr hS (fun q _ h => hA q h) hA (fun r u t H1 locs1 ht hvm hw hB hz1 hk1 hS1 => ?_)
    obtain ⟨hv, had, wR2⟩ := hw
    obtain ⟨hP1, hD1⟩ := hB
    rw [ht] at hP1
    subst hv
    have e1 := zcs_cong had ws
    rw [← e1]
    exact k p l e R s m args below meth c H1 locs1 _ _ Q D dA A u ls (zCx_cast had cx) (zLs_cong had wl hl) hP1 (hD1.weaken (fun _ _ _ h => hA _ h)) hS1 wR2 (zwfl_mono h1 wl) (zwfs_i (zwfs_mono h1 ws)) (by omega) (by omega) (zEnd_cast h1 had he)
theorem zblind {as : List Value} {D : va_G} {dA : FieldType → ClassId} {ad : Nat → Nat} {sz : Nat} : FrameBlind (va_Pc as (zPre X D dA ad sz σ)) := by
  intro a U g mk q
  obtain ⟨q0, q1, qP, qK, qD⟩ := q
  exact ⟨q0, q1, qP, zK.same (u := U) (U := U.calling g mk a) rfl qK, qD⟩
theorem zpre {p : Program} {l : Launch} {R : Room} {s : State} {m : MethodId} {args : Array Value} {meth : Method} {c : Code} {H : Heap} {locs : List Loc} {D : va_G} {dA : FieldType → ClassId} {A : Nat → Prop} {ad : Nat → Nat} (cx : zCx E X Mt d p l R s m args meth c D dA A ad) (hP : va_P D vwCl (zws dA ad σ) H) (hD : va_D A (zws dA ad σ)) (hS : va_S A s.heap H locs) :
    ∀ U : State, U.heap = H → s.WarmedH U.vm → zPre X D dA ad H.size σ U := by
  intro U hU hW
  have hA : ∀ q, va_A (zws dA ad σ) H.size q → A q := by
    rintro q (⟨j, x, hj⟩ | hq)
    · exact hD.2 j _ hj
    · exact cx.2.2.2.2.2.2.1 q (Nat.le_trans hS.1 hq)
  refine ⟨by rw [hU], by rw [hU]; exact hP, ?_, hD.weaken (fun _ _ _ _ => trivial)⟩
  rw [hU]
  exact ((cx.2.2.2.2.2.2.2.1.kept hS.2.1).narrow hA).warm hW
theorem zgood {ws : List Cond} (h : ∀ w ∈ ws, w ∈ zT) : GoodIn zT ws := fun w hw => ⟨h w hw, good_of_word (zT_good w (h w hw)).2⟩
/-- the words of a call: of a method y with its code; plain names; how many arguments -/
def zCw (Mt : zM) (n : Nat) : Prop := Cond.initialized Mt.1.cls ∈ zT ∧ Cond.code Mt.1 Mt.2.1 Mt.2.2.1 Mt.2.2.2 ∈ zT ∧ (Mt.1.cls ≠ "java/lang/invoke/MethodHandle" ∧ Mt.1.cls ≠ "java/lang/invoke/VarHandle" ∧ (parseMethodDescriptor Mt.1.desc).map (fun d => d.parameters.length) = some n) ∧ Mt.2.2.1 ≤ 41
def zCv (Mt : zM) (n : Nat) : Prop := zCw Mt n ∧ Cond.instanceMethod Mt.1 ∈ zT ∧ Cond.selects Mt.1.cls Mt.1 Mt.1 ∈ zT
theorem zroom {l : Launch} {p : Program} {R : Room} {s : State} {m : MethodId} {args : Array Value} {meth : Method} {c : Code} {D : va_G} {dA : FieldType → ClassId} {A : Nat → Prop} {ad : Nat → Nat} {d2 n : Nat} {Mt2 : zM} (cx : zCx E X Mt d p l R s m args meth c D dA A ad) (hd2 : d2 + 1 ≤ d) (h : Mt2.2.2.1 ≤ 41) : d2 + 1 ≤ R.frames ∧ 8 + (Mt2.2.2.1 + 11) + 60 * d2 ≤ R.locals := by
  have a1 := cx.2.2.2.2.2.2.2.2.1
  have a2 := cx.2.2.2.2.2.2.2.2.2.1
  exact ⟨by omega, by omega⟩
theorem zmap_rev (ad : Nat → Nat) (As : List zV) (r : List zV) : (As.reverse ++ r).map (zc ad) = (As.map (zc ad)).reverse ++ r.map (zc ad) := by simp
theorem zrest {m : MethodId} {ls : Array Slot} {ad : Nat → Nat} {rest : List Value} (h : (st.map zcat).sum ≤ 8) : 2 * (F0 m pc ls rest).monitorRoom + ((st.map (zc ad)).map fun v => v.category).sum ≤ 8 := by
  have e : (st.map (zc ad)).map (fun v => v.category) = st.map zcat := by simp [Function.comp_def, zc_cat]
  exact lv_room (by rw [e]; exact h)
theorem a_callV {Mt2 : zM} {idx o ci d2 : Nat} {As : List zV} {rv2 : Option zV} {σ2 : zW} {stk : List zV} {T : u_T} {N : Nat} (hd : decode Mt.2.1 pc = .ok (.invokevirtual idx, 3)) (hM : zAM X Mt2 d2 (zr o :: As) σ rv2 σ2) (hcv : zCv Mt2 As.length) (hlk : Cond.methodLink Mt.1.cls idx Mt2.1 ∈ zT) (hd2 : d2 + 1 ≤ d) (hsh : σ.1[o]? = some (.inl ci)) (hcl : vwCl[ci]? = some (Mt2.1.cls, T, N))
    (hstk : stk = As.reverse ++ zr o :: st) (h8 : (st.map zcat).sum ≤ 8) (hg : σ2.1.length ≤ σ'.1.length ∧ zsl σ2.1 ≤ zsl σ'.1) (k : zAW E X Mt d (pc + 3) lv (rv2.toList ++ st) σ2 rv σ') : zAW E X Mt d pc lv stk σ rv σ' := by
  intro p l e R s m args below meth c H locs cells slots Q D dA A ad ls cx hl hP hD hS wR wl ws hc hs he
  subst hstk
  obtain ⟨-, g1, g2, -, hMet⟩ := hM
  obtain ⟨⟨w1, w2, w3, w4⟩, w5, w6⟩ := hcv
  have wst : zwfs σ.1.length st := fun v hv => ws v (List.mem_append_right _ (List.mem_cons_of_mem _ hv))
  have was : zwfs σ.1.length (zr o :: As) := fun v hv => by
    rcases List.mem_cons.mp hv with e | hv
    · rw [e]; exact ws _ (List.mem_append_right _ List.mem_cons_self)
    · exact ws v (List.mem_append_left _ (List.mem_reverse.mpr hv))
  refine z_call (pc := pc) (a := (Value.ref (ad o) :: As.map (zc ad)).toArray) ?_ g1 g2 k cx hl hD hS wl wst hc hs he
  refine va_runV (As := As.map (zc ad)) (b := ad o) ⟨cx.1, cx.2.1, cx.2.2.1, cx.2.2.2.1, cx.2.2.2.2.1⟩ (hMet wR was l D dA ad H.size) (cwV As.length cx.2.2.2.2.1 (zgood (fun w hw => ?_)) rfl rfl rfl ⟨rfl, w3⟩ (zroom (n := 0) cx hd2 w4)) ⟨zblind, va_recv cx.2.2.2.2.2.2.2.1.1 hP hcl (zws_obj hsh), fun U hU hW => ⟨rfl, zpre cx hP hD hS U hU hW⟩⟩ rfl (by simp) hl.1 (by exact zmap_rev ad As (zr o :: st)) (zrest h8) hd ⟨by omega, by omega⟩
  simp only [wsV, List.cons_append, List.nil_append, List.mem_cons] at hw
  rcases hw with rfl | rfl | rfl | rfl | rfl | hw
  · exact hlk
  · exact w5
  · exact w6
  · exact w1
  · exact w2
  · exact hw
theorem a_callS {Mt2 : zM} {idx d2 : Nat} {As : List zV} {rv2 : Option zV} {σ2 : zW} {stk : List zV} (hd : decode Mt.2.1 pc = .ok (.invokestatic idx, 3)) (hM : zAM X Mt2 d2 As σ rv2 σ2) (hcv : zCw Mt2 As.length ∧ Cond.static Mt2.1 ∈ zT) (hlk : Cond.methodLink Mt.1.cls idx Mt2.1 ∈ zT) (hd2 : d2 + 1 ≤ d)
    (hstk : stk = As.reverse ++ st) (h8 : (st.map zcat).sum ≤ 8) (hg : σ2.1.length ≤ σ'.1.length ∧ zsl σ2.1 ≤ zsl σ'.1) (k : zAW E X Mt d (pc + 3) lv (rv2.toList ++ st) σ2 rv σ') : zAW E X Mt d pc lv stk σ rv σ' := by
  intro p l e R s m args below meth c H locs cells slots Q D dA A ad ls cx hl hP hD hS wR wl ws hc hs he
  subst hstk
  obtain ⟨-, g1, g2, -, hMet⟩ := hM
  obtain ⟨⟨w1, w2, w3, w4⟩, w5⟩ := hcv
  have wst : zwfs σ.1.length st := fun v hv => ws v (List.mem_append_right _ hv)
  have was : zwfs σ.1.length As := fun v hv => ws v (List.mem_append_left _ (List.mem_reverse.mpr hv))
  refine z_call (pc := pc) (a := (As.map (zc ad)).toArray) ?_ g1 g2 k cx hl hD hS wl wst hc hs he
  refine va_runS (As := As.map (zc ad)) ⟨cx.1, cx.2.1, cx.2.2.1, cx.2.2.2.1, cx.2.2.2.2.1⟩ (hMet wR was l D dA ad H.size) (va_cwS As.length cx.2.2.2.2.1 (zgood (fun w hw => ?_)) rfl rfl rfl w3 (zroom (n := 0) cx hd2 w4)) ⟨zblind, fun U hU hW => ⟨rfl, zpre cx hP hD hS U hU hW⟩⟩ rfl (by simp) hl.1 (by exact zmap_rev ad As st) (zrest h8) hd ⟨by omega, by omega⟩
  simp only [va_wsS, List.cons_append, List.nil_append, List.mem_cons] at hw
  rcases hw with rfl | rfl | rfl | rfl | hw
  · exact hlk
  · exact w5
  · exact w1
  · exact w2
  · exact hw
theorem a_callI {Mt2 : zM} {idx o d2 : Nat} {As : List zV} {σ2 : zW} {stk : List zV} (hd : decode Mt.2.1 pc = .ok (.invokespecial idx, 3)) (hM : zAM X Mt2 d2 (zr o :: As) σ none σ2) (hcv : zCw Mt2 As.length ∧ Cond.instanceMethod Mt2.1 ∈ zT ∧ Mt2.1.name = "<init>") (hlk : Cond.methodLink Mt.1.cls idx Mt2.1 ∈ zT) (hd2 : d2 + 1 ≤ d)
    (hstk : stk = As.reverse ++ zr o :: st) (h8 : (st.map zcat).sum ≤ 8) (hg : σ2.1.length ≤ σ'.1.length ∧ zsl σ2.1 ≤ zsl σ'.1) (k : zAW E X Mt d (pc + 3) lv st σ2 rv σ') : zAW E X Mt d pc lv stk σ rv σ' := by
  intro p l e R s m args below meth c H locs cells slots Q D dA A ad ls cx hl hP hD hS wR wl ws hc hs he
  subst hstk
  obtain ⟨-, g1, g2, ⟨Ty, hTy, hTn⟩, hMet⟩ := hM
  have hno : Mt2.2.2.2 = none := by rw [hTy]; exact hTn.mpr rfl
  obtain ⟨⟨w1, w2, w3, w4⟩, w5, w6⟩ := hcv
  rw [hno] at w2
  have wst : zwfs σ.1.length st := fun v hv => ws v (List.mem_append_right _ (List.mem_cons_of_mem _ hv))
  have was : zwfs σ.1.length (zr o :: As) := fun v hv => by
    rcases List.mem_cons.mp hv with e | hv
    · rw [e]; exact ws _ (List.mem_append_right _ List.mem_cons_self)
    · exact ws v (List.mem_append_left _ (List.mem_reverse.mpr hv))
  have hMet := hMet wR was l D dA ad H.size
  rw [hno] at hMet
  refine z_call (pc := pc) (rv2 := none) (a := (Value.ref (ad o) :: As.map (zc ad)).toArray) ?_ g1 g2 k cx hl hD hS wl wst hc hs he
  refine va_runI (As := As.map (zc ad)) (b := ad o) ⟨cx.1, cx.2.1, cx.2.2.1, cx.2.2.2.1, cx.2.2.2.2.1⟩ hMet (cwI As.length cx.2.2.2.2.1 (zgood (fun w hw => ?_)) rfl rfl rfl (cx.2.2.2.2.1 _ w1) (cx.2.2.2.2.1 _ hlk) (cx.2.2.2.2.1 _ w5) w6 w3 (zroom (n := 0) cx hd2 w4)) ⟨zblind, fun U hU hW => ⟨rfl, zpre cx hP hD hS U hU hW⟩⟩ rfl (by simp) hl.1 (by exact zmap_rev ad As (zr o :: st)) (zrest h8) hd ⟨by omega, by omega⟩
  rcases List.mem_cons.mp hw with rfl | hw
  · exact w2
  · exact hw
theorem a_callIN {Mt2 : zM} {idx o d2 : Nat} {As : List zV} {σ2 : zW} {stk : List zV} (hd : decode Mt.2.1 pc = .ok (.invokespecial idx, 3)) (hM : zAM X Mt2 d2 (zr o :: As) σ none σ2) (hcv : zCw Mt2 As.length ∧ Cond.instanceMethod Mt2.1 ∈ zT ∧ Mt2.1.name = "<init>") (hown : Mt.1.cls = RX8) (hlk : (idx, Mt2.1) ∈ znst) (hd2 : d2 + 1 ≤ d)
    (hstk : stk = As.reverse ++ zr o :: st) (h8 : (st.map zcat).sum ≤ 8) (hg : σ2.1.length ≤ σ'.1.length ∧ zsl σ2.1 ≤ zsl σ'.1) (k : zAW E X Mt d (pc + 3) lv st σ2 rv σ') : zAW E X Mt d pc lv stk σ rv σ' := by
  intro p l e R s m args below meth c H locs cells slots Q D dA A ad ls cx hl hP hD hS wR wl ws hc hs he
  subst hstk
  obtain ⟨-, g1, g2, ⟨Ty, hTy, hTn⟩, hMet⟩ := hM
  have hno : Mt2.2.2.2 = none := by rw [hTy]; exact hTn.mpr rfl
  obtain ⟨⟨w1, w2, w3, w4⟩, w5, w6⟩ := hcv
  rw [hno] at w2
  have wst : zwfs σ.1.length st := fun v hv => ws v (List.mem_append_right _ (List.mem_cons_of_mem _ hv))
  have was : zwfs σ.1.length (zr o :: As) := fun v hv => by
    rcases List.mem_cons.mp hv with e | hv
    · rw [e]; exact ws _ (List.mem_append_right _ List.mem_cons_self)
    · exact ws v (List.mem_append_left _ (List.mem_reverse.mpr hv))
  have hMet := hMet wR was l D dA ad H.size
  rw [hno] at hMet
  have hnw := cx.2.2.2.2.2.2.2.1.2.2.2.2.2 _ hlk
  refine z_call (pc := pc) (rv2 := none) (a := (Value.ref (ad o) :: As.map (zc ad)).toArray) ?_ g1 g2 k cx hl hD hS wl wst hc hs he
  refine va_runIN (As := As.map (zc ad)) (b := ad o) (own := RX8) (host := RX8) ⟨cx.1, cx.2.1, cx.2.2.1, by rw [← hown]; exact cx.2.2.2.1, cx.2.2.2.2.1⟩ hMet ⟨va_cnB As.length cx.2.2.2.2.1 (zgood (fun w hw => ?_)) rfl rfl rfl hnw (cx.2.2.2.2.1 _ w1) w3 (zroom (n := 0) cx hd2 w4), w6, cx.2.2.2.2.1 _ w5⟩ ⟨zblind, fun U hU hW => ⟨rfl, zpre cx hP hD hS U hU hW⟩⟩ rfl (by simp) hl.1 (by exact zmap_rev ad As (zr o :: st)) (zrest h8) hd ⟨by omega, by omega⟩
  rcases List.mem_cons.mp hw with rfl | hw
  · exact w2
  · exact hw
end zCalls
end
section
/-! what is made: objects, arrays; the constructor of Object; the words that the reader spells -/
section zMakes
variable {E : (Nat → Prop) → Launch → State → Prop} {X : Nat × (Nat → Int32)} {Mt : zM} {d pc : Nat} {lv : List (Nat × zV)} {st : List zV} {σ σ' : zW} {rv : Option zV}
theorem zup_ok {n q : Nat} {ad : Nat → Nat} (hn : n < 1000) : ∀ x, zok n x → va_up ad n q x = ad x := by
  intro x hx
  have : x ≠ n := by
    rcases hx with h | h
    · omega
    · omega
  simp [va_up, this]
theorem zfv_cong {n : Nat} {ad ad' : Nat → Nat} {S S2 : List zS} {I : Nat → Nat → Int32} {L : Nat → Nat → Int64} {R : Nat → Nat → Option Nat} (h : ∀ x, zok n x → ad' x = ad x) (wR : zwfR n R) (a ci k : Nat) : zfv ad' (S2, I, L, R) a ci k = zfv ad (S, I, L, R) a ci k := by
  simp only [zfv]
  split
  · rfl
  · rfl
  · cases hr : R a k with
    | none => rfl
    | some x => simp [h x (wR a k x hr)]
theorem zws_push {dA : FieldType → ClassId} {ad : Nat → Nat} {S : List zS} {I : Nat → Nat → Int32} {L : Nat → Nat → Int64} {R : Nat → Nat → Option Nat} {sh : zS} {q : Nat} (hn : S.length < 1000) (wR : zwfR S.length R) :
    zws dA (va_up ad S.length q) (S ++ [sh], I, L, R) = zws dA ad (S, I, L, R) ++ [(q, zce dA (va_up ad S.length q) (S ++ [sh], I, L, R) S.length)] := by
  have hz := zup_ok (n := S.length) (q := q) (ad := ad) hn
  apply List.ext_getElem?
  intro i
  by_cases hi : i < S.length
  · rw [List.getElem?_append_left (by rw [zws_len]; exact hi), zws_at (σ := (S, I, L, R)) hi, zws_at (σ := (S ++ [sh], I, L, R)) (by simp; omega), hz i (Or.inl hi)]
    congr 2
    simp only [zce]
    rw [List.getElem?_append_left hi]
    cases S[i]? with
    | none => rfl
    | some z =>
      cases z with
      | inl ci =>
        have e : zfv (va_up ad S.length q) (S ++ [sh], I, L, R) i ci = zfv ad (S, I, L, R) i ci := by funext k; exact zfv_cong hz wR i ci k
        simp only [zfs, e]
      | inr z => rfl
  · by_cases hj : i = S.length
    · subst hj
      rw [List.getElem?_append_right (by rw [zws_len]; exact Nat.le_refl _), zws_at (σ := (S ++ [sh], I, L, R)) (by simp), zws_len]
      simp [va_up]
    · rw [List.getElem?_eq_none (by rw [zws_len]; simp; omega), List.getElem?_eq_none (by rw [List.length_append, zws_len]; simp; omega)]
/-- an array of a plain type is made; its row of the planes is empty yet -/
theorem a_newa {S : List zS} {I : Nat → Nat → Int32} {L : Nat → Nat → Int64} {R : Nat → Nat → Option Nat} {atype : ArrayType} {ty : FieldType} {t0 : Nat} {x : Int32} {n : Nat} (hd : decode Mt.2.1 pc = .ok (.newarray atype, 2)) (hty : newarray.typeOf atype = ty) (ht0 : ∀ dA : FieldType → ClassId, (zcs dA)[t0]? = some (dA ty, ty)) (hw : Cond.arrayClass ty ∈ zT)
    (hra : ∀ (U : State) (cA : ClassId), va_RA U cA ty ↔ U.vm.findClass ("[" ++ ty.toString) = some cA) (hcell : ∀ cA : ClassId, vp_cell cA (zar ty n (S, I, L, R) S.length) = arrV cA n (fun _ => defaultValue ty))
    (hx : ¬ x < 0) (hn : x.toNatClampNeg = n) (hb : n * componentBytes ty ≤ 536870912) (h9 : S.length < 1000) (hg : S.length + 1 ≤ σ'.1.length ∧ zsl S + n ≤ zsl σ'.1)
    (k : zAW E X Mt d (pc + 2) lv (zr S.length :: st) (S ++ [.inr (ty, n)], I, L, R) rv σ') : zAW E X Mt d pc lv (zi x :: st) (S, I, L, R) rv σ' := by
  intro p l e Rm s m args below meth c H locs cells slots Q D dA A ad ls cx hl hP hD hS wR wl ws hc hs he
  have hK := cx.2.2.2.2.2.2.2.1.1
  subst hty
  simp only at hc hs
  refine va_newa (a0 := zar (newarray.typeOf atype) n (S, I, L, R) S.length) cx.1 cx.2.1 (cx.2.2.2.2.1 _ hw) rfl hK hP hD hS cx.2.2.2.2.2.2.1 hcell hx hn hb (by omega) (by omega) hd (fun q cA H1 hK1 hP1 hD1 hS1 => ?_)
  have hz := zup_ok (n := S.length) (q := q) (ad := ad) h9
  have e1 : cA = dA (newarray.typeOf atype) := by
    have a1 := (hra _ _).mp (hK.2 t0 _ (ht0 dA)).2
    have a2 := (hra _ _).mp (hK1.2 (zcs dA).length (cA, newarray.typeOf atype) (by simp)).2
    exact Option.some.inj (a2.symm.trans a1)
  subst e1
  have e2 : zws dA ad (S, I, L, R) ++ [(q, Sum.inl (dA (newarray.typeOf atype), zar (newarray.typeOf atype) n (S, I, L, R) S.length))] = zws dA (va_up ad S.length q) (S ++ [.inr (newarray.typeOf atype, n)], I, L, R) := by
    rw [zws_push h9 wR]
    simp [zce, zar]
  rw [e2] at hP1 hD1
  have e3 := zcs_cong hz (zwfs_tail ws)
  have e4 : (zr S.length :: st).map (zc (va_up ad S.length q)) = .ref q :: st.map (zc ad) := by
    simp only [List.map_cons, e3]
    simp [zc, va_up, va_rf]
  rw [show (Value.ref q :: List.map (zc ad) st) = (zr S.length :: st).map (zc (va_up ad S.length q)) from e4.symm]
  exact k p l e Rm s m args below meth c H1 locs _ _ Q D dA A _ ls (zCx_cast hz cx) (zLs_cong hz wl hl) hP1 hD1 hS1 (fun a b y hy => zok_mono (by simp) (wR a b y hy)) (zwfl_mono (by simp) wl)
    (zwfs_cons (fun y hy => by cases hy; exact Or.inl (by simp)) (zwfs_mono (by simp) (zwfs_tail ws))) (by simp only [List.length_append, List.length_singleton]; omega) (by simp only [zsl_app, zsl]; omega) (zEnd_cast (by simp) hz he)
/-- an object is made; its rows of the planes are empty yet -/
theorem a_new {S : List zS} {I : Nat → Nat → Int32} {L : Nat → Nat → Int64} {R : Nat → Nat → Option Nat} {idx ci : Nat} {C : String} {T : u_T} {N : Nat} (hd : decode Mt.2.1 pc = .ok (.new idx, 3)) (hcl : zCls ci C T N) (w1 : Cond.classLink Mt.1.cls idx C ∈ zT) (w2 : Cond.instantiable C N ∈ zT) (w3 : Cond.initialized C ∈ zT)
    (hdv : ∀ j, j < N → defaultValue (zty ci j) = (match zkind (zty ci j) with | 0 => .int 0 | 1 => .long 0 | _ => .null)) (hI : ∀ j, I S.length j = 0) (hL : ∀ j, L S.length j = 0) (hR : ∀ j, R S.length j = none)
    (h9 : S.length < 1000) (hg : S.length + 1 ≤ σ'.1.length ∧ zsl S + N ≤ zsl σ'.1)
    (k : zAW E X Mt d (pc + 3) lv (zr S.length :: st) (S ++ [.inl ci], I, L, R) rv σ') : zAW E X Mt d pc lv st (S, I, L, R) rv σ' := by
  intro p l e Rm s m args below meth c H locs cells slots Q D dA A ad ls cx hl hP hD hS wR wl ws hc hs he
  obtain ⟨c1, c2, c3, c4⟩ := hcl
  have e9 : zn ci = N := zn_of c1
  have hK := cx.2.2.2.2.2.2.2.1.1
  simp only at hc hs
  refine va_new (ci := ci) (fs := zfs ad (S, I, L, R) S.length ci) cx.1 cx.2.1 cx.2.2.2.2.1 c2 (zty ci) c4 cx.2.2.2.1 (cx.2.2.2.2.1 _ w1) (cx.2.2.2.2.1 _ w2) (cx.2.2.2.2.1 _ w3) hK hP hD hS cx.2.2.2.2.2.2.1 c1 (fun j hj => ?_) (by omega) (by omega) hd (fun q H1 hP1 hD1 hS1 => ?_)
  · have h1 := zfs_get (ad := ad) (σ := (S, I, L, R)) (o := S.length) (ci := ci) (k := j) (by rw [e9]; exact hj)
    rw [hdv j hj]
    simp only [vp_V, List.getD_eq_getElem?_getD, h1, Option.getD_some, zfv, hI, hL, hR]
    generalize zkind (zty ci j) = z
    match z with
    | 0 => rfl
    | 1 => rfl
    | _ + 2 => rfl
  have hz := zup_ok (n := S.length) (q := q) (ad := ad) h9
  have e2 : zws dA ad (S, I, L, R) ++ [(q, Sum.inr (ci, zfs ad (S, I, L, R) S.length ci))] = zws dA (va_up ad S.length q) (S ++ [.inl ci], I, L, R) := by
    have e : zfv (va_up ad S.length q) (S ++ [.inl ci], I, L, R) S.length ci = zfv ad (S, I, L, R) S.length ci := by funext j; exact zfv_cong hz wR _ ci j
    rw [zws_push h9 wR]
    simp [zce, zfs, e]
  rw [e2] at hP1 hD1
  have e3 := zcs_cong hz ws
  have e4 : (zr S.length :: st).map (zc (va_up ad S.length q)) = .ref q :: st.map (zc ad) := by
    simp only [List.map_cons, e3]
    simp [zc, va_up, va_rf]
  rw [show (Value.ref q :: List.map (zc ad) st) = (zr S.length :: st).map (zc (va_up ad S.length q)) from e4.symm]
  exact k p l e Rm s m args below meth c H1 locs _ _ Q D dA A _ ls (zCx_cast hz cx) (zLs_cong hz wl hl) hP1 hD1 hS1 (fun a b y hy => zok_mono (by simp) (wR a b y hy)) (zwfl_mono (by simp) wl)
    (zwfs_cons (fun y hy => by cases hy; exact Or.inl (by simp)) (zwfs_mono (by simp) ws)) (by simp only [List.length_append, List.length_singleton]; omega) (by simp only [zsl_app, zsl]; omega) (zEnd_cast (by simp) hz he)
theorem a_objInit {idx o : Nat} (hd : decode Mt.2.1 pc = .ok (.invokespecial idx, 3)) (w1 : Cond.methodLink Mt.1.cls idx Lib.objectInit ∈ zT) (w2 : Cond.instanceMethod Lib.objectInit ∈ zT) (w3 : Cond.code Lib.objectInit ⟨#[0xb1]⟩ 1 none ∈ zT) (hd1 : 1 ≤ d) (h8 : (st.map zcat).sum ≤ 8)
    (k : zAW E X Mt d (pc + 3) lv st σ rv σ') : zAW E X Mt d pc lv (zr o :: st) σ rv σ' := by
  intro p l e R s m args below meth c H locs cells slots Q D dA A ad ls cx hl hP hD hS wR wl ws hc hs he
  have a1 := cx.2.2.2.2.2.2.2.2.1
  have a2 := cx.2.2.2.2.2.2.2.2.2.1
  have a3 := zrest (m := m) (pc := pc) (ls := ls) (ad := ad) (rest := (zr o :: st).map (zc ad)) h8
  refine W.objInit cx.1 cx.2.1 cx.2.2.2.1 (cx.2.2.2.2.1 _ w1) (cx.2.2.2.2.1 _ w2) (cx.2.2.2.2.1 _ w3) rfl (hl.1.trans cx.2.2.1.symm) rfl hd (by omega) (by omega) ?_
  exact k p l e R s m args below meth c H locs cells slots Q D dA A ad ls cx hl hP hD hS wR wl (zwfs_tail ws) hc hs he
/-! the words -/
theorem a_ldcs {idx i : Nat} {q : Nat × String × List Int32} (hd : decode Mt.2.1 pc = .ok (.ldc idx, 2)) (hq : zsr[i]? = some q) (hi : q.1 = idx) (hown : Mt.1.cls = RX3) (k : zAW E X Mt d (pc + 2) lv (zr (1020 + i) :: st) σ rv σ') : zAW E X Mt d pc lv st σ rv σ' := by
  intro p l e R s m args below meth c H locs cells slots Q D dA A ad ls cx hl hP hD hS wR wl ws hc hs he
  subst hi
  have h1 := (cx.2.2.2.2.2.2.2.1.2.2.2.2.1 i q hq).2.2.2.2
  exact va_ldcS cx.1 cx.2.1 (by rw [← hown]; exact cx.2.2.2.1) h1 hd (k p l e R s m args below meth c H locs cells slots Q D dA A ad ls cx hl hP hD hS wR wl (zwfs_cons (fun x hx => by cases hx; exact Or.inr (by omega)) ws) hc hs he)
theorem a_sval {idx i : Nat} {q : Nat × String × List Int32} (hd : decode Mt.2.1 pc = .ok (.getfield idx, 3)) (hq : zsr[i]? = some q) (hw : Cond.fieldLink Mt.1.cls idx "java/lang/String" "value" "[B" ∈ zT) (k : zAW E X Mt d (pc + 3) lv (zr (1050 + i) :: st) σ rv σ') : zAW E X Mt d pc lv (zr (1020 + i) :: st) σ rv σ' := by
  intro p l e R s m args below meth c H locs cells slots Q D dA A ad ls cx hl hP hD hS wR wl ws hc hs he
  have h1 := (cx.2.2.2.2.2.2.2.1.2.2.2.2.1 i q hq).2.2.1
  exact vk_getf cx.1 cx.2.1 h1 hS cx.2.2.2.1 (cx.2.2.2.2.1 _ hw) (fun _ h => h) hd (k p l e R s m args below meth c H locs cells slots Q D dA A ad ls cx hl hP hD hS wR wl (zwfs_cons (fun x hx => by cases hx; exact Or.inr (by omega)) (zwfs_tail ws)) hc hs he)
theorem a_scod {idx i : Nat} {q : Nat × String × List Int32} (hd : decode Mt.2.1 pc = .ok (.getfield idx, 3)) (hq : zsr[i]? = some q) (hw : Cond.fieldLink Mt.1.cls idx "java/lang/String" "coder" "B" ∈ zT) (k : zAW E X Mt d (pc + 3) lv (zi 0 :: st) σ rv σ') : zAW E X Mt d pc lv (zr (1020 + i) :: st) σ rv σ' := by
  intro p l e R s m args below meth c H locs cells slots Q D dA A ad ls cx hl hP hD hS wR wl ws hc hs he
  have h1 := (cx.2.2.2.2.2.2.2.1.2.2.2.2.1 i q hq).2.1
  exact vk_getf cx.1 cx.2.1 h1 hS cx.2.2.2.1 (cx.2.2.2.2.1 _ hw) (fun _ h => h) hd (k p l e R s m args below meth c H locs cells slots Q D dA A ad ls cx hl hP hD hS wR wl (zwfs_i (zwfs_tail ws)) hc hs he)
theorem a_scmp {idx : Nat} (hd : decode Mt.2.1 pc = .ok (.getstatic idx, 3)) (hw : Cond.fieldLink Mt.1.cls idx "java/lang/String" "COMPACT_STRINGS" "Z" ∈ zT) (k : zAW E X Mt d (pc + 3) lv (zi 1 :: st) σ rv σ') : zAW E X Mt d pc lv st σ rv σ' := by
  intro p l e R s m args below meth c H locs cells slots Q D dA A ad ls cx hl hP hD hS wR wl ws hc hs he
  exact va_gets cx.1 cx.2.1 cx.2.2.2.2.2.2.2.1.2.2.2.1 hS cx.2.2.2.1 (cx.2.2.2.2.1 _ hw) (fun _ h => h) hd (k p l e R s m args below meth c H locs cells slots Q D dA A ad ls cx hl hP hD hS wR wl (zwfs_i ws) hc hs he)
theorem a_sblen {i : Nat} {q : Nat × String × List Int32} (hd : decode Mt.2.1 pc = .ok (.arraylength, 1)) (hq : zsr[i]? = some q) (k : zAW E X Mt d (pc + 1) lv (zi (Int32.ofNat q.2.2.length) :: st) σ rv σ') : zAW E X Mt d pc lv (zr (1050 + i) :: st) σ rv σ' := by
  intro p l e R s m args below meth c H locs cells slots Q D dA A ad ls cx hl hP hD hS wR wl ws hc hs he
  have h1 := (cx.2.2.2.2.2.2.2.1.2.2.2.2.1 i q hq).2.2.2.1
  exact va_tlen cx.1 cx.2.1 h1 hS rfl hd (k p l e R s m args below meth c H locs cells slots Q D dA A ad ls cx hl hP hD hS wR wl (zwfs_i (zwfs_tail ws)) hc hs he)
theorem a_sbald {i : Nat} {q : Nat × String × List Int32} {x : Int32} (hd : decode Mt.2.1 pc = .ok (.baload, 1)) (hq : zsr[i]? = some q) (hin : vp_in x q.2.2.length) (k : zAW E X Mt d (pc + 1) lv (zi (q.2.2.getD x.toNatClampNeg 0) :: st) σ rv σ') : zAW E X Mt d pc lv (zi x :: zr (1050 + i) :: st) σ rv σ' := by
  intro p l e R s m args below meth c H locs cells slots Q D dA A ad ls cx hl hP hD hS wR wl ws hc hs he
  have h1 := (cx.2.2.2.2.2.2.2.1.2.2.2.2.1 i q hq).2.2.2.1
  exact va_tb cx.1 cx.2.1 h1 hS hin rfl hd (k p l e R s m args below meth c H locs cells slots Q D dA A ad ls cx hl hP hD hS wR wl (zwfs_i (zwfs_tail (zwfs_tail ws))) hc hs he)
/-- a call upon a word -/
theorem a_callVs {Mt2 : zM} {idx i d2 : Nat} {q : Nat × String × List Int32} {As : List zV} {rv2 : Option zV} {σ2 : zW} {stk : List zV} (hd : decode Mt.2.1 pc = .ok (.invokevirtual idx, 3)) (hM : zAM X Mt2 d2 (zr (1020 + i) :: As) σ rv2 σ2) (hcv : zCv Mt2 As.length) (hlk : Cond.methodLink Mt.1.cls idx Mt2.1 ∈ zT) (hd2 : d2 + 1 ≤ d) (hq : zsr[i]? = some q) (hcl : Mt2.1.cls = "java/lang/String")
    (hstk : stk = As.reverse ++ zr (1020 + i) :: st) (h8 : (st.map zcat).sum ≤ 8) (hg : σ2.1.length ≤ σ'.1.length ∧ zsl σ2.1 ≤ zsl σ'.1) (k : zAW E X Mt d (pc + 3) lv (rv2.toList ++ st) σ2 rv σ') : zAW E X Mt d pc lv stk σ rv σ' := by
  intro p l e R s m args below meth c H locs cells slots Q D dA A ad ls cx hl hP hD hS wR wl ws hc hs he
  subst hstk
  obtain ⟨-, g1, g2, -, hMet⟩ := hM
  obtain ⟨⟨w1, w2, w3, w4⟩, w5, w6⟩ := hcv
  have wst : zwfs σ.1.length st := fun v hv => ws v (List.mem_append_right _ (List.mem_cons_of_mem _ hv))
  have was : zwfs σ.1.length (zr (1020 + i) :: As) := fun v hv => by
    rcases List.mem_cons.mp hv with e | hv
    · rw [e]; exact ws _ (List.mem_append_right _ List.mem_cons_self)
    · exact ws v (List.mem_append_left _ (List.mem_reverse.mpr hv))
  have hO := ((cx.2.2.2.2.2.2.2.1.2.2.2.2.1 i q hq).1).kept hS.2.1
  obtain ⟨cell, o1, o2, o3, -⟩ := hO
  refine z_call (pc := pc) (a := (Value.ref (ad (1020 + i)) :: As.map (zc ad)).toArray) ?_ g1 g2 k cx hl hD hS wl wst hc hs he
  refine va_runV (As := As.map (zc ad)) (b := ad (1020 + i)) (C := Mt2.1.cls) ⟨cx.1, cx.2.1, cx.2.2.1, cx.2.2.2.1, cx.2.2.2.2.1⟩ (hMet wR was l D dA ad H.size) (cwV As.length cx.2.2.2.2.1 (zgood (fun w hw => ?_)) rfl rfl rfl ⟨rfl, w3⟩ (zroom (n := 0) cx hd2 w4)) ⟨zblind, ⟨cell, o1, o2, by rw [hcl]; exact o3⟩, fun U hU hW => ⟨rfl, zpre cx hP hD hS U hU hW⟩⟩ rfl (by simp) hl.1 (by exact zmap_rev ad As (zr (1020 + i) :: st)) (zrest h8) hd ⟨by omega, by omega⟩
  simp only [wsV, List.cons_append, List.nil_append, List.mem_cons] at hw
  rcases hw with rfl | rfl | rfl | rfl | rfl | hw
  · exact hlk
  · exact w5
  · exact w6
  · exact w1
  · exact w2
  · exact hw
end zMakes
end
