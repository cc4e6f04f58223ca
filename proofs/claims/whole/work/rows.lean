section
-- ===== PART A: goes FIRST, ahead of the names: the tables' words, and 'selects' of the private methods out of them =====
/-- a private method of a class that the tables say can be made, by its rows of tables_1 -/
def lw_okq (q : MethodName × Nat) : Prop := (q.1.cls ≠ "java/lang/invoke/MethodHandle" ∧ q.1.cls ≠ "java/lang/invoke/VarHandle") ∧ Cond.instantiable q.1.cls q.2 ∈ tables_1 ∧ Cond.privateMethod q.1 ∈ tables_1 ∧ Cond.instanceMethod q.1 ∈ tables_1
theorem lw_p0 : lw_okq (⟨"TallShip$Tape", "endOfRun", "(CC)I"⟩, 6) := ⟨⟨by decide +kernel, by decide +kernel⟩, List.mem_of_getElem? (i := 98) (by decide +kernel), List.mem_of_getElem? (i := 336) (by decide +kernel), List.mem_of_getElem? (i := 337) (by decide +kernel)⟩
theorem lw_p1 : lw_okq (⟨"TallShip$Tape", "numberHere", "()I"⟩, 6) := ⟨⟨by decide +kernel, by decide +kernel⟩, List.mem_of_getElem? (i := 98) (by decide +kernel), List.mem_of_getElem? (i := 340) (by decide +kernel), List.mem_of_getElem? (i := 341) (by decide +kernel)⟩
theorem lw_p2 : lw_okq (⟨"TallShip$Reader", "isOver", "()Z"⟩, 4) := ⟨⟨by decide +kernel, by decide +kernel⟩, List.mem_of_getElem? (i := 128) (by decide +kernel), List.mem_of_getElem? (i := 347) (by decide +kernel), List.mem_of_getElem? (i := 348) (by decide +kernel)⟩
theorem lw_p3 : lw_okq (⟨"TallShip$Reader", "readClosing", "()I"⟩, 4) := ⟨⟨by decide +kernel, by decide +kernel⟩, List.mem_of_getElem? (i := 128) (by decide +kernel), List.mem_of_getElem? (i := 351) (by decide +kernel), List.mem_of_getElem? (i := 352) (by decide +kernel)⟩
theorem lw_p4 : lw_okq (⟨"TallShip$Reader", "readSign", "(C)I"⟩, 4) := ⟨⟨by decide +kernel, by decide +kernel⟩, List.mem_of_getElem? (i := 128) (by decide +kernel), List.mem_of_getElem? (i := 409) (by decide +kernel), List.mem_of_getElem? (i := 410) (by decide +kernel)⟩
theorem lw_p5 : lw_okq (⟨"TallShip$Reader", "faultHere", "(I)I"⟩, 4) := ⟨⟨by decide +kernel, by decide +kernel⟩, List.mem_of_getElem? (i := 128) (by decide +kernel), List.mem_of_getElem? (i := 413) (by decide +kernel), List.mem_of_getElem? (i := 414) (by decide +kernel)⟩
theorem lw_p6 : lw_okq (⟨"TallShip$Reader", "readStatement", "()I"⟩, 4) := ⟨⟨by decide +kernel, by decide +kernel⟩, List.mem_of_getElem? (i := 128) (by decide +kernel), List.mem_of_getElem? (i := 417) (by decide +kernel), List.mem_of_getElem? (i := 418) (by decide +kernel)⟩
theorem lw_p7 : lw_okq (⟨"TallShip$Reader", "verbHere", "()I"⟩, 4) := ⟨⟨by decide +kernel, by decide +kernel⟩, List.mem_of_getElem? (i := 128) (by decide +kernel), List.mem_of_getElem? (i := 421) (by decide +kernel), List.mem_of_getElem? (i := 422) (by decide +kernel)⟩
theorem lw_p8 : lw_okq (⟨"TallShip$Reader", "readCondition", "(I)I"⟩, 4) := ⟨⟨by decide +kernel, by decide +kernel⟩, List.mem_of_getElem? (i := 128) (by decide +kernel), List.mem_of_getElem? (i := 438) (by decide +kernel), List.mem_of_getElem? (i := 439) (by decide +kernel)⟩
theorem lw_p9 : lw_okq (⟨"TallShip$Reader", "readSum", "(II)I"⟩, 4) := ⟨⟨by decide +kernel, by decide +kernel⟩, List.mem_of_getElem? (i := 128) (by decide +kernel), List.mem_of_getElem? (i := 442) (by decide +kernel), List.mem_of_getElem? (i := 443) (by decide +kernel)⟩
theorem lw_p10 : lw_okq (⟨"TallShip$Reader", "partHere", "()I"⟩, 4) := ⟨⟨by decide +kernel, by decide +kernel⟩, List.mem_of_getElem? (i := 128) (by decide +kernel), List.mem_of_getElem? (i := 446) (by decide +kernel), List.mem_of_getElem? (i := 447) (by decide +kernel)⟩
theorem lw_p11 : lw_okq (⟨"TallShip$Reader", "readOpening", "(I)I"⟩, 4) := ⟨⟨by decide +kernel, by decide +kernel⟩, List.mem_of_getElem? (i := 128) (by decide +kernel), List.mem_of_getElem? (i := 461) (by decide +kernel), List.mem_of_getElem? (i := 462) (by decide +kernel)⟩
theorem lw_p12 : lw_okq (⟨"TallShip$Reader", "readOrder", "(II)I"⟩, 4) := ⟨⟨by decide +kernel, by decide +kernel⟩, List.mem_of_getElem? (i := 128) (by decide +kernel), List.mem_of_getElem? (i := 465) (by decide +kernel), List.mem_of_getElem? (i := 466) (by decide +kernel)⟩
theorem lw_p13 : lw_okq (⟨"TallShip$Reader", "checkNumber", "(II)I"⟩, 4) := ⟨⟨by decide +kernel, by decide +kernel⟩, List.mem_of_getElem? (i := 128) (by decide +kernel), List.mem_of_getElem? (i := 473) (by decide +kernel), List.mem_of_getElem? (i := 474) (by decide +kernel)⟩
theorem lw_p14 : lw_okq (⟨"TallShip$Script", "blockEnd", "(II)I"⟩, 9) := ⟨⟨by decide +kernel, by decide +kernel⟩, List.mem_of_getElem? (i := 175) (by decide +kernel), List.mem_of_getElem? (i := 481) (by decide +kernel), List.mem_of_getElem? (i := 482) (by decide +kernel)⟩
theorem lw_p15 : lw_okq (⟨"TallShip$Winds", "find", "(I)V"⟩, 7) := ⟨⟨by decide +kernel, by decide +kernel⟩, List.mem_of_getElem? (i := 68) (by decide +kernel), List.mem_of_getElem? (i := 498) (by decide +kernel), List.mem_of_getElem? (i := 499) (by decide +kernel)⟩
def lw_privs_1 : List (MethodName × Nat) := [(⟨"TallShip$Tape", "endOfRun", "(CC)I"⟩, 6), (⟨"TallShip$Tape", "numberHere", "()I"⟩, 6), (⟨"TallShip$Reader", "isOver", "()Z"⟩, 4), (⟨"TallShip$Reader", "readClosing", "()I"⟩, 4), (⟨"TallShip$Reader", "readSign", "(C)I"⟩, 4), (⟨"TallShip$Reader", "faultHere", "(I)I"⟩, 4), (⟨"TallShip$Reader", "readStatement", "()I"⟩, 4), (⟨"TallShip$Reader", "verbHere", "()I"⟩, 4), (⟨"TallShip$Reader", "readCondition", "(I)I"⟩, 4), (⟨"TallShip$Reader", "readSum", "(II)I"⟩, 4), (⟨"TallShip$Reader", "partHere", "()I"⟩, 4), (⟨"TallShip$Reader", "readOpening", "(I)I"⟩, 4), (⟨"TallShip$Reader", "readOrder", "(II)I"⟩, 4), (⟨"TallShip$Reader", "checkNumber", "(II)I"⟩, 4), (⟨"TallShip$Script", "blockEnd", "(II)I"⟩, 9), (⟨"TallShip$Winds", "find", "(I)V"⟩, 7)]
theorem lw_r1 : ∀ q ∈ lw_privs_1, lw_okq q := List.forall_mem_cons.mpr ⟨lw_p0, List.forall_mem_cons.mpr ⟨lw_p1, List.forall_mem_cons.mpr ⟨lw_p2, List.forall_mem_cons.mpr ⟨lw_p3, List.forall_mem_cons.mpr ⟨lw_p4, List.forall_mem_cons.mpr ⟨lw_p5, List.forall_mem_cons.mpr ⟨lw_p6, List.forall_mem_cons.mpr ⟨lw_p7, List.forall_mem_cons.mpr ⟨lw_p8, List.forall_mem_cons.mpr ⟨lw_p9, List.forall_mem_cons.mpr ⟨lw_p10, List.forall_mem_cons.mpr ⟨lw_p11, List.forall_mem_cons.mpr ⟨lw_p12, List.forall_mem_cons.mpr ⟨lw_p13, List.forall_mem_cons.mpr ⟨lw_p14, List.forall_mem_cons.mpr ⟨lw_p15, fun _ h => absurd h List.not_mem_nil⟩⟩⟩⟩⟩⟩⟩⟩⟩⟩⟩⟩⟩⟩⟩⟩
theorem lw_p16 : lw_okq (⟨"TallShip", "passMinute", "()V"⟩, 18) := ⟨⟨by decide +kernel, by decide +kernel⟩, List.mem_of_getElem? (i := 21) (by decide +kernel), List.mem_of_getElem? (i := 506) (by decide +kernel), List.mem_of_getElem? (i := 507) (by decide +kernel)⟩
theorem lw_p17 : lw_okq (⟨"TallShip", "endWorks", "()V"⟩, 18) := ⟨⟨by decide +kernel, by decide +kernel⟩, List.mem_of_getElem? (i := 21) (by decide +kernel), List.mem_of_getElem? (i := 514) (by decide +kernel), List.mem_of_getElem? (i := 515) (by decide +kernel)⟩
theorem lw_p18 : lw_okq (⟨"TallShip$Rig", "become", "(III)V"⟩, 8) := ⟨⟨by decide +kernel, by decide +kernel⟩, List.mem_of_getElem? (i := 29) (by decide +kernel), List.mem_of_getElem? (i := 530) (by decide +kernel), List.mem_of_getElem? (i := 531) (by decide +kernel)⟩
theorem lw_p19 : lw_okq (⟨"TallShip$Rig", "renew", "(I)V"⟩, 8) := ⟨⟨by decide +kernel, by decide +kernel⟩, List.mem_of_getElem? (i := 29) (by decide +kernel), List.mem_of_getElem? (i := 534) (by decide +kernel), List.mem_of_getElem? (i := 535) (by decide +kernel)⟩
theorem lw_p20 : lw_okq (⟨"TallShip$Rig", "hasParted", "(I)Z"⟩, 8) := ⟨⟨by decide +kernel, by decide +kernel⟩, List.mem_of_getElem? (i := 29) (by decide +kernel), List.mem_of_getElem? (i := 538) (by decide +kernel), List.mem_of_getElem? (i := 539) (by decide +kernel)⟩
theorem lw_p21 : lw_okq (⟨"TallShip", "carryOut", "()V"⟩, 18) := ⟨⟨by decide +kernel, by decide +kernel⟩, List.mem_of_getElem? (i := 21) (by decide +kernel), List.mem_of_getElem? (i := 546) (by decide +kernel), List.mem_of_getElem? (i := 547) (by decide +kernel)⟩
theorem lw_p22 : lw_okq (⟨"TallShip", "weighParts", "()V"⟩, 18) := ⟨⟨by decide +kernel, by decide +kernel⟩, List.mem_of_getElem? (i := 21) (by decide +kernel), List.mem_of_getElem? (i := 550) (by decide +kernel), List.mem_of_getElem? (i := 551) (by decide +kernel)⟩
theorem lw_p23 : lw_okq (⟨"TallShip", "carryOutOne", "(I)Z"⟩, 18) := ⟨⟨by decide +kernel, by decide +kernel⟩, List.mem_of_getElem? (i := 21) (by decide +kernel), List.mem_of_getElem? (i := 570) (by decide +kernel), List.mem_of_getElem? (i := 571) (by decide +kernel)⟩
theorem lw_p24 : lw_okq (⟨"TallShip", "beginWork", "(III)Z"⟩, 18) := ⟨⟨by decide +kernel, by decide +kernel⟩, List.mem_of_getElem? (i := 21) (by decide +kernel), List.mem_of_getElem? (i := 586) (by decide +kernel), List.mem_of_getElem? (i := 587) (by decide +kernel)⟩
theorem lw_p25 : lw_okq (⟨"TallShip$Crew", "isReady", "(I)Z"⟩, 8) := ⟨⟨by decide +kernel, by decide +kernel⟩, List.mem_of_getElem? (i := 220) (by decide +kernel), List.mem_of_getElem? (i := 607) (by decide +kernel), List.mem_of_getElem? (i := 608) (by decide +kernel)⟩
theorem lw_p26 : lw_okq (⟨"TallShip$Rig", "drawOf", "(III)I"⟩, 8) := ⟨⟨by decide +kernel, by decide +kernel⟩, List.mem_of_getElem? (i := 29) (by decide +kernel), List.mem_of_getElem? (i := 634) (by decide +kernel), List.mem_of_getElem? (i := 635) (by decide +kernel)⟩
theorem lw_p27 : lw_okq (⟨"TallShip", "changeSpeed", "(I)V"⟩, 18) := ⟨⟨by decide +kernel, by decide +kernel⟩, List.mem_of_getElem? (i := 21) (by decide +kernel), List.mem_of_getElem? (i := 649) (by decide +kernel), List.mem_of_getElem? (i := 650) (by decide +kernel)⟩
theorem lw_p28 : lw_okq (⟨"TallShip", "strainSails", "(Z)V"⟩, 18) := ⟨⟨by decide +kernel, by decide +kernel⟩, List.mem_of_getElem? (i := 21) (by decide +kernel), List.mem_of_getElem? (i := 655) (by decide +kernel), List.mem_of_getElem? (i := 656) (by decide +kernel)⟩
theorem lw_p29 : lw_okq (⟨"TallShip$Rig", "strainRope", "(II)V"⟩, 8) := ⟨⟨by decide +kernel, by decide +kernel⟩, List.mem_of_getElem? (i := 29) (by decide +kernel), List.mem_of_getElem? (i := 663) (by decide +kernel), List.mem_of_getElem? (i := 664) (by decide +kernel)⟩
theorem lw_p30 : lw_okq (⟨"TallShip$Passage", "countGlasses", "(II)I"⟩, 6) := ⟨⟨by decide +kernel, by decide +kernel⟩, List.mem_of_getElem? (i := 147) (by decide +kernel), List.mem_of_getElem? (i := 721) (by decide +kernel), List.mem_of_getElem? (i := 722) (by decide +kernel)⟩
theorem lw_p31 : lw_okq (⟨"TallShip$Passage", "spread", "(I)V"⟩, 6) := ⟨⟨by decide +kernel, by decide +kernel⟩, List.mem_of_getElem? (i := 147) (by decide +kernel), List.mem_of_getElem? (i := 734) (by decide +kernel), List.mem_of_getElem? (i := 735) (by decide +kernel)⟩
def lw_privs_2 : List (MethodName × Nat) := [(⟨"TallShip", "passMinute", "()V"⟩, 18), (⟨"TallShip", "endWorks", "()V"⟩, 18), (⟨"TallShip$Rig", "become", "(III)V"⟩, 8), (⟨"TallShip$Rig", "renew", "(I)V"⟩, 8), (⟨"TallShip$Rig", "hasParted", "(I)Z"⟩, 8), (⟨"TallShip", "carryOut", "()V"⟩, 18), (⟨"TallShip", "weighParts", "()V"⟩, 18), (⟨"TallShip", "carryOutOne", "(I)Z"⟩, 18), (⟨"TallShip", "beginWork", "(III)Z"⟩, 18), (⟨"TallShip$Crew", "isReady", "(I)Z"⟩, 8), (⟨"TallShip$Rig", "drawOf", "(III)I"⟩, 8), (⟨"TallShip", "changeSpeed", "(I)V"⟩, 18), (⟨"TallShip", "strainSails", "(Z)V"⟩, 18), (⟨"TallShip$Rig", "strainRope", "(II)V"⟩, 8), (⟨"TallShip$Passage", "countGlasses", "(II)I"⟩, 6), (⟨"TallShip$Passage", "spread", "(I)V"⟩, 6)]
theorem lw_r2 : ∀ q ∈ lw_privs_2, lw_okq q := List.forall_mem_cons.mpr ⟨lw_p16, List.forall_mem_cons.mpr ⟨lw_p17, List.forall_mem_cons.mpr ⟨lw_p18, List.forall_mem_cons.mpr ⟨lw_p19, List.forall_mem_cons.mpr ⟨lw_p20, List.forall_mem_cons.mpr ⟨lw_p21, List.forall_mem_cons.mpr ⟨lw_p22, List.forall_mem_cons.mpr ⟨lw_p23, List.forall_mem_cons.mpr ⟨lw_p24, List.forall_mem_cons.mpr ⟨lw_p25, List.forall_mem_cons.mpr ⟨lw_p26, List.forall_mem_cons.mpr ⟨lw_p27, List.forall_mem_cons.mpr ⟨lw_p28, List.forall_mem_cons.mpr ⟨lw_p29, List.forall_mem_cons.mpr ⟨lw_p30, List.forall_mem_cons.mpr ⟨lw_p31, fun _ h => absurd h List.not_mem_nil⟩⟩⟩⟩⟩⟩⟩⟩⟩⟩⟩⟩⟩⟩⟩⟩
theorem lw_p32 : lw_okq (⟨"TallShip$Passage", "traceBack", "(II)V"⟩, 6) := ⟨⟨by decide +kernel, by decide +kernel⟩, List.mem_of_getElem? (i := 147) (by decide +kernel), List.mem_of_getElem? (i := 743) (by decide +kernel), List.mem_of_getElem? (i := 744) (by decide +kernel)⟩
theorem lw_p33 : lw_okq (⟨"TallShip$Passage", "chooseCourses", "()V"⟩, 6) := ⟨⟨by decide +kernel, by decide +kernel⟩, List.mem_of_getElem? (i := 147) (by decide +kernel), List.mem_of_getElem? (i := 747) (by decide +kernel), List.mem_of_getElem? (i := 748) (by decide +kernel)⟩
theorem lw_p34 : lw_okq (⟨"TallShip$Passage", "leastLeading", "(III)I"⟩, 6) := ⟨⟨by decide +kernel, by decide +kernel⟩, List.mem_of_getElem? (i := 147) (by decide +kernel), List.mem_of_getElem? (i := 751) (by decide +kernel), List.mem_of_getElem? (i := 752) (by decide +kernel)⟩
theorem lw_p35 : lw_okq (⟨"java/lang/Throwable", "fillInStackTrace", "(I)Ljava/lang/Throwable;"⟩, 6) := ⟨⟨by decide +kernel, by decide +kernel⟩, List.mem_of_getElem? (i := 806) (by decide +kernel), List.mem_of_getElem? (i := 804) (by decide +kernel), List.mem_of_getElem? (i := 805) (by decide +kernel)⟩
theorem lw_p36 : lw_okq (⟨"TallShipModel", "lay", "(J)V"⟩, 53) := ⟨⟨by decide +kernel, by decide +kernel⟩, List.mem_of_getElem? (i := 855) (by decide +kernel), List.mem_of_getElem? (i := 853) (by decide +kernel), List.mem_of_getElem? (i := 854) (by decide +kernel)⟩
theorem lw_p37 : lw_okq (⟨"TallShipModel", "cutAll", "()V"⟩, 53) := ⟨⟨by decide +kernel, by decide +kernel⟩, List.mem_of_getElem? (i := 855) (by decide +kernel), List.mem_of_getElem? (i := 1045) (by decide +kernel), List.mem_of_getElem? (i := 1046) (by decide +kernel)⟩
theorem lw_p38 : lw_okq (⟨"TallShipModel", "statement", "()V"⟩, 53) := ⟨⟨by decide +kernel, by decide +kernel⟩, List.mem_of_getElem? (i := 855) (by decide +kernel), List.mem_of_getElem? (i := 1064) (by decide +kernel), List.mem_of_getElem? (i := 1065) (by decide +kernel)⟩
theorem lw_p39 : lw_okq (⟨"TallShipModel", "isWord", "(I)Z"⟩, 53) := ⟨⟨by decide +kernel, by decide +kernel⟩, List.mem_of_getElem? (i := 855) (by decide +kernel), List.mem_of_getElem? (i := 1068) (by decide +kernel), List.mem_of_getElem? (i := 1069) (by decide +kernel)⟩
theorem lw_p40 : lw_okq (⟨"TallShipModel", "wrong", "(I)V"⟩, 53) := ⟨⟨by decide +kernel, by decide +kernel⟩, List.mem_of_getElem? (i := 855) (by decide +kernel), List.mem_of_getElem? (i := 1072) (by decide +kernel), List.mem_of_getElem? (i := 1073) (by decide +kernel)⟩
theorem lw_p41 : lw_okq (⟨"TallShipModel", "here", "()I"⟩, 53) := ⟨⟨by decide +kernel, by decide +kernel⟩, List.mem_of_getElem? (i := 855) (by decide +kernel), List.mem_of_getElem? (i := 1076) (by decide +kernel), List.mem_of_getElem? (i := 1077) (by decide +kernel)⟩
theorem lw_p42 : lw_okq (⟨"TallShipModel", "choice", "(II)V"⟩, 53) := ⟨⟨by decide +kernel, by decide +kernel⟩, List.mem_of_getElem? (i := 855) (by decide +kernel), List.mem_of_getElem? (i := 1080) (by decide +kernel), List.mem_of_getElem? (i := 1081) (by decide +kernel)⟩
theorem lw_p43 : lw_okq (⟨"TallShipModel", "expression", "()V"⟩, 53) := ⟨⟨by decide +kernel, by decide +kernel⟩, List.mem_of_getElem? (i := 855) (by decide +kernel), List.mem_of_getElem? (i := 1084) (by decide +kernel), List.mem_of_getElem? (i := 1085) (by decide +kernel)⟩
theorem lw_p44 : lw_okq (⟨"TallShipModel", "sum", "()V"⟩, 53) := ⟨⟨by decide +kernel, by decide +kernel⟩, List.mem_of_getElem? (i := 855) (by decide +kernel), List.mem_of_getElem? (i := 1088) (by decide +kernel), List.mem_of_getElem? (i := 1089) (by decide +kernel)⟩
theorem lw_p45 : lw_okq (⟨"TallShipModel", "part", "()V"⟩, 53) := ⟨⟨by decide +kernel, by decide +kernel⟩, List.mem_of_getElem? (i := 855) (by decide +kernel), List.mem_of_getElem? (i := 1092) (by decide +kernel), List.mem_of_getElem? (i := 1093) (by decide +kernel)⟩
theorem lw_p46 : lw_okq (⟨"TallShipModel", "emit", "(III)I"⟩, 53) := ⟨⟨by decide +kernel, by decide +kernel⟩, List.mem_of_getElem? (i := 855) (by decide +kernel), List.mem_of_getElem? (i := 1096) (by decide +kernel), List.mem_of_getElem? (i := 1097) (by decide +kernel)⟩
theorem lw_p47 : lw_okq (⟨"TallShipModel", "isSign", "(I)Z"⟩, 53) := ⟨⟨by decide +kernel, by decide +kernel⟩, List.mem_of_getElem? (i := 855) (by decide +kernel), List.mem_of_getElem? (i := 1100) (by decide +kernel), List.mem_of_getElem? (i := 1101) (by decide +kernel)⟩
def lw_privs_3 : List (MethodName × Nat) := [(⟨"TallShip$Passage", "traceBack", "(II)V"⟩, 6), (⟨"TallShip$Passage", "chooseCourses", "()V"⟩, 6), (⟨"TallShip$Passage", "leastLeading", "(III)I"⟩, 6), (⟨"java/lang/Throwable", "fillInStackTrace", "(I)Ljava/lang/Throwable;"⟩, 6), (⟨"TallShipModel", "lay", "(J)V"⟩, 53), (⟨"TallShipModel", "cutAll", "()V"⟩, 53), (⟨"TallShipModel", "statement", "()V"⟩, 53), (⟨"TallShipModel", "isWord", "(I)Z"⟩, 53), (⟨"TallShipModel", "wrong", "(I)V"⟩, 53), (⟨"TallShipModel", "here", "()I"⟩, 53), (⟨"TallShipModel", "choice", "(II)V"⟩, 53), (⟨"TallShipModel", "expression", "()V"⟩, 53), (⟨"TallShipModel", "sum", "()V"⟩, 53), (⟨"TallShipModel", "part", "()V"⟩, 53), (⟨"TallShipModel", "emit", "(III)I"⟩, 53), (⟨"TallShipModel", "isSign", "(I)Z"⟩, 53)]
theorem lw_r3 : ∀ q ∈ lw_privs_3, lw_okq q := List.forall_mem_cons.mpr ⟨lw_p32, List.forall_mem_cons.mpr ⟨lw_p33, List.forall_mem_cons.mpr ⟨lw_p34, List.forall_mem_cons.mpr ⟨lw_p35, List.forall_mem_cons.mpr ⟨lw_p36, List.forall_mem_cons.mpr ⟨lw_p37, List.forall_mem_cons.mpr ⟨lw_p38, List.forall_mem_cons.mpr ⟨lw_p39, List.forall_mem_cons.mpr ⟨lw_p40, List.forall_mem_cons.mpr ⟨lw_p41, List.forall_mem_cons.mpr ⟨lw_p42, List.forall_mem_cons.mpr ⟨lw_p43, List.forall_mem_cons.mpr ⟨lw_p44, List.forall_mem_cons.mpr ⟨lw_p45, List.forall_mem_cons.mpr ⟨lw_p46, List.forall_mem_cons.mpr ⟨lw_p47, fun _ h => absurd h List.not_mem_nil⟩⟩⟩⟩⟩⟩⟩⟩⟩⟩⟩⟩⟩⟩⟩⟩
theorem lw_p48 : lw_okq (⟨"TallShipModel", "block", "()V"⟩, 53) := ⟨⟨by decide +kernel, by decide +kernel⟩, List.mem_of_getElem? (i := 855) (by decide +kernel), List.mem_of_getElem? (i := 1104) (by decide +kernel), List.mem_of_getElem? (i := 1105) (by decide +kernel)⟩
theorem lw_p49 : lw_okq (⟨"TallShipModel", "takeSign", "(I)V"⟩, 53) := ⟨⟨by decide +kernel, by decide +kernel⟩, List.mem_of_getElem? (i := 855) (by decide +kernel), List.mem_of_getElem? (i := 1108) (by decide +kernel), List.mem_of_getElem? (i := 1109) (by decide +kernel)⟩
theorem lw_p50 : lw_okq (⟨"TallShipModel", "hasWord", "(I)Z"⟩, 53) := ⟨⟨by decide +kernel, by decide +kernel⟩, List.mem_of_getElem? (i := 855) (by decide +kernel), List.mem_of_getElem? (i := 1112) (by decide +kernel), List.mem_of_getElem? (i := 1113) (by decide +kernel)⟩
theorem lw_p51 : lw_okq (⟨"TallShipModel", "takeNumber", "(II)I"⟩, 53) := ⟨⟨by decide +kernel, by decide +kernel⟩, List.mem_of_getElem? (i := 855) (by decide +kernel), List.mem_of_getElem? (i := 1116) (by decide +kernel), List.mem_of_getElem? (i := 1117) (by decide +kernel)⟩
theorem lw_p52 : lw_okq (⟨"TallShipModel", "goes", "()V"⟩, 53) := ⟨⟨by decide +kernel, by decide +kernel⟩, List.mem_of_getElem? (i := 855) (by decide +kernel), List.mem_of_getElem? (i := 1129) (by decide +kernel), List.mem_of_getElem? (i := 1130) (by decide +kernel)⟩
theorem lw_p53 : lw_okq (⟨"TallShipModel", "point", "()I"⟩, 53) := ⟨⟨by decide +kernel, by decide +kernel⟩, List.mem_of_getElem? (i := 855) (by decide +kernel), List.mem_of_getElem? (i := 1133) (by decide +kernel), List.mem_of_getElem? (i := 1134) (by decide +kernel)⟩
theorem lw_p54 : lw_okq (⟨"TallShipModel", "windNow", "()I"⟩, 53) := ⟨⟨by decide +kernel, by decide +kernel⟩, List.mem_of_getElem? (i := 855) (by decide +kernel), List.mem_of_getElem? (i := 1137) (by decide +kernel), List.mem_of_getElem? (i := 1138) (by decide +kernel)⟩
theorem lw_p55 : lw_okq (⟨"TallShipModel", "force", "()I"⟩, 53) := ⟨⟨by decide +kernel, by decide +kernel⟩, List.mem_of_getElem? (i := 855) (by decide +kernel), List.mem_of_getElem? (i := 1141) (by decide +kernel), List.mem_of_getElem? (i := 1142) (by decide +kernel)⟩
theorem lw_p56 : lw_okq (⟨"TallShipModel", "endWorks", "()V"⟩, 53) := ⟨⟨by decide +kernel, by decide +kernel⟩, List.mem_of_getElem? (i := 855) (by decide +kernel), List.mem_of_getElem? (i := 1145) (by decide +kernel), List.mem_of_getElem? (i := 1146) (by decide +kernel)⟩
theorem lw_p57 : lw_okq (⟨"TallShipModel", "ended", "(III)V"⟩, 53) := ⟨⟨by decide +kernel, by decide +kernel⟩, List.mem_of_getElem? (i := 855) (by decide +kernel), List.mem_of_getElem? (i := 1149) (by decide +kernel), List.mem_of_getElem? (i := 1150) (by decide +kernel)⟩
theorem lw_p58 : lw_okq (⟨"TallShipModel", "gives", "(I)V"⟩, 53) := ⟨⟨by decide +kernel, by decide +kernel⟩, List.mem_of_getElem? (i := 855) (by decide +kernel), List.mem_of_getElem? (i := 1153) (by decide +kernel), List.mem_of_getElem? (i := 1154) (by decide +kernel)⟩
theorem lw_p59 : lw_okq (⟨"TallShipModel", "carries", "()V"⟩, 53) := ⟨⟨by decide +kernel, by decide +kernel⟩, List.mem_of_getElem? (i := 855) (by decide +kernel), List.mem_of_getElem? (i := 1157) (by decide +kernel), List.mem_of_getElem? (i := 1158) (by decide +kernel)⟩
theorem lw_p60 : lw_okq (⟨"TallShipModel", "reckons", "(II)V"⟩, 53) := ⟨⟨by decide +kernel, by decide +kernel⟩, List.mem_of_getElem? (i := 855) (by decide +kernel), List.mem_of_getElem? (i := 1161) (by decide +kernel), List.mem_of_getElem? (i := 1162) (by decide +kernel)⟩
theorem lw_p61 : lw_okq (⟨"TallShipModel", "partOf", "(I)I"⟩, 53) := ⟨⟨by decide +kernel, by decide +kernel⟩, List.mem_of_getElem? (i := 855) (by decide +kernel), List.mem_of_getElem? (i := 1165) (by decide +kernel), List.mem_of_getElem? (i := 1166) (by decide +kernel)⟩
theorem lw_p62 : lw_okq (⟨"TallShipModel", "loadNow", "()I"⟩, 53) := ⟨⟨by decide +kernel, by decide +kernel⟩, List.mem_of_getElem? (i := 855) (by decide +kernel), List.mem_of_getElem? (i := 1172) (by decide +kernel), List.mem_of_getElem? (i := 1173) (by decide +kernel)⟩
theorem lw_p63 : lw_okq (⟨"TallShipModel", "begins", "(III)Z"⟩, 53) := ⟨⟨by decide +kernel, by decide +kernel⟩, List.mem_of_getElem? (i := 855) (by decide +kernel), List.mem_of_getElem? (i := 1176) (by decide +kernel), List.mem_of_getElem? (i := 1177) (by decide +kernel)⟩
def lw_privs_4 : List (MethodName × Nat) := [(⟨"TallShipModel", "block", "()V"⟩, 53), (⟨"TallShipModel", "takeSign", "(I)V"⟩, 53), (⟨"TallShipModel", "hasWord", "(I)Z"⟩, 53), (⟨"TallShipModel", "takeNumber", "(II)I"⟩, 53), (⟨"TallShipModel", "goes", "()V"⟩, 53), (⟨"TallShipModel", "point", "()I"⟩, 53), (⟨"TallShipModel", "windNow", "()I"⟩, 53), (⟨"TallShipModel", "force", "()I"⟩, 53), (⟨"TallShipModel", "endWorks", "()V"⟩, 53), (⟨"TallShipModel", "ended", "(III)V"⟩, 53), (⟨"TallShipModel", "gives", "(I)V"⟩, 53), (⟨"TallShipModel", "carries", "()V"⟩, 53), (⟨"TallShipModel", "reckons", "(II)V"⟩, 53), (⟨"TallShipModel", "partOf", "(I)I"⟩, 53), (⟨"TallShipModel", "loadNow", "()I"⟩, 53), (⟨"TallShipModel", "begins", "(III)Z"⟩, 53)]
theorem lw_r4 : ∀ q ∈ lw_privs_4, lw_okq q := List.forall_mem_cons.mpr ⟨lw_p48, List.forall_mem_cons.mpr ⟨lw_p49, List.forall_mem_cons.mpr ⟨lw_p50, List.forall_mem_cons.mpr ⟨lw_p51, List.forall_mem_cons.mpr ⟨lw_p52, List.forall_mem_cons.mpr ⟨lw_p53, List.forall_mem_cons.mpr ⟨lw_p54, List.forall_mem_cons.mpr ⟨lw_p55, List.forall_mem_cons.mpr ⟨lw_p56, List.forall_mem_cons.mpr ⟨lw_p57, List.forall_mem_cons.mpr ⟨lw_p58, List.forall_mem_cons.mpr ⟨lw_p59, List.forall_mem_cons.mpr ⟨lw_p60, List.forall_mem_cons.mpr ⟨lw_p61, List.forall_mem_cons.mpr ⟨lw_p62, List.forall_mem_cons.mpr ⟨lw_p63, fun _ h => absurd h List.not_mem_nil⟩⟩⟩⟩⟩⟩⟩⟩⟩⟩⟩⟩⟩⟩⟩⟩
theorem lw_p64 : lw_okq (⟨"TallShipModel", "isBarred", "(II)Z"⟩, 53) := ⟨⟨by decide +kernel, by decide +kernel⟩, List.mem_of_getElem? (i := 855) (by decide +kernel), List.mem_of_getElem? (i := 1180) (by decide +kernel), List.mem_of_getElem? (i := 1181) (by decide +kernel)⟩
theorem lw_p65 : lw_okq (⟨"TallShipModel", "isUnder", "(II)Z"⟩, 53) := ⟨⟨by decide +kernel, by decide +kernel⟩, List.mem_of_getElem? (i := 855) (by decide +kernel), List.mem_of_getElem? (i := 1184) (by decide +kernel), List.mem_of_getElem? (i := 1185) (by decide +kernel)⟩
theorem lw_p66 : lw_okq (⟨"TallShipModel", "isMeant", "(III)Z"⟩, 53) := ⟨⟨by decide +kernel, by decide +kernel⟩, List.mem_of_getElem? (i := 855) (by decide +kernel), List.mem_of_getElem? (i := 1188) (by decide +kernel), List.mem_of_getElem? (i := 1189) (by decide +kernel)⟩
theorem lw_p67 : lw_okq (⟨"TallShipModel", "isOnDeck", "(I)Z"⟩, 53) := ⟨⟨by decide +kernel, by decide +kernel⟩, List.mem_of_getElem? (i := 855) (by decide +kernel), List.mem_of_getElem? (i := 1192) (by decide +kernel), List.mem_of_getElem? (i := 1193) (by decide +kernel)⟩
theorem lw_p68 : lw_okq (⟨"TallShipModel", "carriesOut", "(I)V"⟩, 53) := ⟨⟨by decide +kernel, by decide +kernel⟩, List.mem_of_getElem? (i := 855) (by decide +kernel), List.mem_of_getElem? (i := 1202) (by decide +kernel), List.mem_of_getElem? (i := 1203) (by decide +kernel)⟩
theorem lw_p69 : lw_okq (⟨"TallShipModel", "sails", "()V"⟩, 53) := ⟨⟨by decide +kernel, by decide +kernel⟩, List.mem_of_getElem? (i := 855) (by decide +kernel), List.mem_of_getElem? (i := 1206) (by decide +kernel), List.mem_of_getElem? (i := 1207) (by decide +kernel)⟩
theorem lw_p70 : lw_okq (⟨"TallShipModel", "loads", "(II)V"⟩, 53) := ⟨⟨by decide +kernel, by decide +kernel⟩, List.mem_of_getElem? (i := 855) (by decide +kernel), List.mem_of_getElem? (i := 1216) (by decide +kernel), List.mem_of_getElem? (i := 1217) (by decide +kernel)⟩
theorem lw_p71 : lw_okq (⟨"TallShipModel", "marksForth", "(I)V"⟩, 53) := ⟨⟨by decide +kernel, by decide +kernel⟩, List.mem_of_getElem? (i := 855) (by decide +kernel), List.mem_of_getElem? (i := 1254) (by decide +kernel), List.mem_of_getElem? (i := 1255) (by decide +kernel)⟩
theorem lw_p72 : lw_okq (⟨"TallShipModel", "leads", "(III)I"⟩, 53) := ⟨⟨by decide +kernel, by decide +kernel⟩, List.mem_of_getElem? (i := 855) (by decide +kernel), List.mem_of_getElem? (i := 1258) (by decide +kernel), List.mem_of_getElem? (i := 1259) (by decide +kernel)⟩
theorem lw_p73 : lw_okq (⟨"TallShipModel", "marksBack", "(I)V"⟩, 53) := ⟨⟨by decide +kernel, by decide +kernel⟩, List.mem_of_getElem? (i := 855) (by decide +kernel), List.mem_of_getElem? (i := 1262) (by decide +kernel), List.mem_of_getElem? (i := 1263) (by decide +kernel)⟩
def lw_privs_5 : List (MethodName × Nat) := [(⟨"TallShipModel", "isBarred", "(II)Z"⟩, 53), (⟨"TallShipModel", "isUnder", "(II)Z"⟩, 53), (⟨"TallShipModel", "isMeant", "(III)Z"⟩, 53), (⟨"TallShipModel", "isOnDeck", "(I)Z"⟩, 53), (⟨"TallShipModel", "carriesOut", "(I)V"⟩, 53), (⟨"TallShipModel", "sails", "()V"⟩, 53), (⟨"TallShipModel", "loads", "(II)V"⟩, 53), (⟨"TallShipModel", "marksForth", "(I)V"⟩, 53), (⟨"TallShipModel", "leads", "(III)I"⟩, 53), (⟨"TallShipModel", "marksBack", "(I)V"⟩, 53)]
theorem lw_r5 : ∀ q ∈ lw_privs_5, lw_okq q := List.forall_mem_cons.mpr ⟨lw_p64, List.forall_mem_cons.mpr ⟨lw_p65, List.forall_mem_cons.mpr ⟨lw_p66, List.forall_mem_cons.mpr ⟨lw_p67, List.forall_mem_cons.mpr ⟨lw_p68, List.forall_mem_cons.mpr ⟨lw_p69, List.forall_mem_cons.mpr ⟨lw_p70, List.forall_mem_cons.mpr ⟨lw_p71, List.forall_mem_cons.mpr ⟨lw_p72, List.forall_mem_cons.mpr ⟨lw_p73, fun _ h => absurd h List.not_mem_nil⟩⟩⟩⟩⟩⟩⟩⟩⟩⟩
def lw_privs : List (MethodName × Nat) := lw_privs_1 ++ (lw_privs_2 ++ (lw_privs_3 ++ (lw_privs_4 ++ (lw_privs_5))))
def lw_tbl : List Cond := k2_sels lw_privs ++ tables_1
theorem lw_privs_ok : ∀ q ∈ lw_privs, lw_okq q := by
  show ∀ q ∈ lw_privs_1 ++ (lw_privs_2 ++ (lw_privs_3 ++ (lw_privs_4 ++ (lw_privs_5)))), lw_okq q
  exact List.forall_mem_append.mpr ⟨lw_r1, List.forall_mem_append.mpr ⟨lw_r2, List.forall_mem_append.mpr ⟨lw_r3, List.forall_mem_append.mpr ⟨lw_r4, lw_r5⟩⟩⟩⟩
def RX0 : String := "TallShip$Compass"
def TX0 : u_T := fun k => match k with
  | _ => ("", "", "", false)
def tyX0 : Nat → FieldType := fun k => match k with
  | _ => .int
theorem nmX0 : ∀ a, a < 0 → ∀ b, b < 0 → a ≠ b → (TX0 a).2.1 ≠ (TX0 b).2.1 := by decide +kernel
theorem tyX0_ok : ∀ k, k < 0 → parseFieldDescriptor (TX0 k).2.2.1 = some (tyX0 k) := by decide +kernel
abbrev cX0_isWind : ByteArray := prog_2_method_2_code
def yX0_isWind : MethodName := ⟨RX0, "isWind", "(II)Z"⟩
abbrev cX0_apart : ByteArray := prog_2_method_3_code
def yX0_apart : MethodName := ⟨RX0, "apart", "(II)I"⟩
abbrev cX0_isAback : ByteArray := prog_2_method_4_code
def yX0_isAback : MethodName := ⟨RX0, "isAback", "(I)Z"⟩
abbrev cX0_pull : ByteArray := prog_2_method_5_code
def yX0_pull : MethodName := ⟨RX0, "pull", "(I)I"⟩
abbrev cX0_best : ByteArray := prog_2_method_6_code
def yX0_best : MethodName := ⟨RX0, "best", "(I)I"⟩
abbrev cX0_north : ByteArray := prog_2_method_7_code
def yX0_north : MethodName := ⟨RX0, "north", "(I)I"⟩
abbrev cX0_east : ByteArray := prog_2_method_8_code
def yX0_east : MethodName := ⟨RX0, "east", "(I)I"⟩
abbrev cX0_turned : ByteArray := prog_2_method_9_code
def yX0_turned : MethodName := ⟨RX0, "turned", "(II)I"⟩
def RX1 : String := "TallShip$Crew"
def TX1 : u_T := fun k => match k with
  | 0 => ("TallShip$Crew", "size", "I", true)
  | 1 => ("TallShip$Crew", "job", "[I", true)
  | 2 => ("TallShip$Crew", "thing", "[I", true)
  | 3 => ("TallShip$Crew", "aim", "[I", true)
  | 4 => ("TallShip$Crew", "end", "[I", true)
  | 5 => ("TallShip$Crew", "lead", "[I", true)
  | 6 => ("TallShip$Crew", "deck", "I", false)
  | _ => ("TallShip$Crew", "works", "I", false)
def tyX1 : Nat → FieldType := fun k => match k with
  | 0 => .int
  | 1 => .array .int
  | 2 => .array .int
  | 3 => .array .int
  | 4 => .array .int
  | 5 => .array .int
  | 6 => .int
  | _ => .int
theorem nmX1 : ∀ a, a < 8 → ∀ b, b < 8 → a ≠ b → (TX1 a).2.1 ≠ (TX1 b).2.1 := by decide +kernel
theorem tyX1_ok : ∀ k, k < 8 → parseFieldDescriptor (TX1 k).2.2.1 = some (tyX1 k) := by decide +kernel
abbrev cX1_init : ByteArray := prog_3_method_1_code
def yX1_init : MethodName := ⟨RX1, "<init>", "(I)V"⟩
abbrev cX1_isFree : ByteArray := prog_3_method_2_code
def yX1_isFree : MethodName := ⟨RX1, "isFree", "(I)Z"⟩
abbrev cX1_isOnDeck : ByteArray := prog_3_method_3_code
def yX1_isOnDeck : MethodName := ⟨RX1, "isOnDeck", "(I)Z"⟩
abbrev cX1_endOf : ByteArray := prog_3_method_4_code
def yX1_endOf : MethodName := ⟨RX1, "endOf", "(I)I"⟩
abbrev cX1_isDue : ByteArray := prog_3_method_5_code
def yX1_isDue : MethodName := ⟨RX1, "isDue", "(II)Z"⟩
abbrev cX1_isReady : ByteArray := prog_3_method_6_code
def yX1_isReady : MethodName := ⟨RX1, "isReady", "(I)Z"⟩
abbrev cX1_muster : ByteArray := prog_3_method_7_code
def yX1_muster : MethodName := ⟨RX1, "muster", "(I)I"⟩
abbrev cX1_assign : ByteArray := prog_3_method_8_code
def yX1_assign : MethodName := ⟨RX1, "assign", "(IIIII)V"⟩
abbrev cX1_release : ByteArray := prog_3_method_9_code
def yX1_release : MethodName := ⟨RX1, "release", "(I)V"⟩
def RX2 : String := "TallShip$Passage"
def TX2 : u_T := fun k => match k with
  | 0 => ("TallShip$Passage", "east", "[I", true)
  | 1 => ("TallShip$Passage", "north", "[I", true)
  | 2 => ("TallShip$Passage", "reached", "[J", true)
  | 3 => ("TallShip$Passage", "leading", "[J", true)
  | 4 => ("TallShip$Passage", "courses", "[I", true)
  | _ => ("TallShip$Passage", "glasses", "I", false)
def tyX2 : Nat → FieldType := fun k => match k with
  | 0 => .array .int
  | 1 => .array .int
  | 2 => .array .long
  | 3 => .array .long
  | 4 => .array .int
  | _ => .int
theorem nmX2 : ∀ a, a < 6 → ∀ b, b < 6 → a ≠ b → (TX2 a).2.1 ≠ (TX2 b).2.1 := by decide +kernel
theorem tyX2_ok : ∀ k, k < 6 → parseFieldDescriptor (TX2 k).2.2.1 = some (tyX2 k) := by decide +kernel
abbrev cX2_init : ByteArray := prog_4_method_1_code
def yX2_init : MethodName := ⟨RX2, "<init>", "()V"⟩
abbrev cX2_tell : ByteArray := prog_4_method_2_code
def yX2_tell : MethodName := ⟨RX2, "tell", "(III)Z"⟩
abbrev cX2_make : ByteArray := prog_4_method_3_code
def yX2_make : MethodName := ⟨RX2, "make", "(II)I"⟩
abbrev cX2_isPlace : ByteArray := prog_4_method_4_code
def yX2_isPlace : MethodName := ⟨RX2, "isPlace", "(II)Z"⟩
abbrev cX2_countGlasses : ByteArray := prog_4_method_5_code
def yX2_countGlasses : MethodName := ⟨RX2, "countGlasses", "(II)I"⟩
abbrev cX2_spread : ByteArray := prog_4_method_6_code
def yX2_spread : MethodName := ⟨RX2, "spread", "(I)V"⟩
abbrev cX2_traceBack : ByteArray := prog_4_method_7_code
def yX2_traceBack : MethodName := ⟨RX2, "traceBack", "(II)V"⟩
abbrev cX2_chooseCourses : ByteArray := prog_4_method_8_code
def yX2_chooseCourses : MethodName := ⟨RX2, "chooseCourses", "()V"⟩
abbrev cX2_leastLeading : ByteArray := prog_4_method_9_code
def yX2_leastLeading : MethodName := ⟨RX2, "leastLeading", "(III)I"⟩
abbrev cX2_clear : ByteArray := prog_4_method_10_code
def yX2_clear : MethodName := ⟨RX2, "clear", "([JI)V"⟩
abbrev cX2_putOnly : ByteArray := prog_4_method_11_code
def yX2_putOnly : MethodName := ⟨RX2, "putOnly", "([JIII)V"⟩
abbrev cX2_has : ByteArray := prog_4_method_12_code
def yX2_has : MethodName := ⟨RX2, "has", "([JIII)Z"⟩
abbrev cX2_move : ByteArray := prog_4_method_13_code
def yX2_move : MethodName := ⟨RX2, "move", "([JIIII)V"⟩
def RX3 : String := "TallShip$Reader"
def TX3 : u_T := fun k => match k with
  | 0 => ("TallShip$Reader", "tape", "LTallShip$Tape;", true)
  | 1 => ("TallShip$Reader", "open", "[I", true)
  | 2 => ("TallShip$Reader", "depth", "I", false)
  | _ => ("TallShip$Reader", "script", "LTallShip$Script;", false)
def tyX3 : Nat → FieldType := fun k => match k with
  | 0 => .object "TallShip$Tape"
  | 1 => .array .int
  | 2 => .int
  | _ => .object "TallShip$Script"
theorem nmX3 : ∀ a, a < 4 → ∀ b, b < 4 → a ≠ b → (TX3 a).2.1 ≠ (TX3 b).2.1 := by decide +kernel
theorem tyX3_ok : ∀ k, k < 4 → parseFieldDescriptor (TX3 k).2.2.1 = some (tyX3 k) := by decide +kernel
abbrev cX3_init : ByteArray := prog_5_method_1_code
def yX3_init : MethodName := ⟨RX3, "<init>", "(LTallShip$Tape;)V"⟩
abbrev cX3_read : ByteArray := prog_5_method_2_code
def yX3_read : MethodName := ⟨RX3, "read", "(LTallShip$Script;)I"⟩
abbrev cX3_isOver : ByteArray := prog_5_method_3_code
def yX3_isOver : MethodName := ⟨RX3, "isOver", "()Z"⟩
abbrev cX3_faultHere : ByteArray := prog_5_method_4_code
def yX3_faultHere : MethodName := ⟨RX3, "faultHere", "(I)I"⟩
abbrev cX3_readClosing : ByteArray := prog_5_method_5_code
def yX3_readClosing : MethodName := ⟨RX3, "readClosing", "()I"⟩
abbrev cX3_readStatement : ByteArray := prog_5_method_6_code
def yX3_readStatement : MethodName := ⟨RX3, "readStatement", "()I"⟩
abbrev cX3_verbHere : ByteArray := prog_5_method_7_code
def yX3_verbHere : MethodName := ⟨RX3, "verbHere", "()I"⟩
abbrev cX3_readOrder : ByteArray := prog_5_method_8_code
def yX3_readOrder : MethodName := ⟨RX3, "readOrder", "(II)I"⟩
abbrev cX3_checkNumber : ByteArray := prog_5_method_9_code
def yX3_checkNumber : MethodName := ⟨RX3, "checkNumber", "(II)I"⟩
abbrev cX3_readSign : ByteArray := prog_5_method_10_code
def yX3_readSign : MethodName := ⟨RX3, "readSign", "(C)I"⟩
abbrev cX3_readCondition : ByteArray := prog_5_method_11_code
def yX3_readCondition : MethodName := ⟨RX3, "readCondition", "(I)I"⟩
abbrev cX3_readSum : ByteArray := prog_5_method_12_code
def yX3_readSum : MethodName := ⟨RX3, "readSum", "(II)I"⟩
abbrev cX3_partHere : ByteArray := prog_5_method_13_code
def yX3_partHere : MethodName := ⟨RX3, "partHere", "()I"⟩
abbrev cX3_readOpening : ByteArray := prog_5_method_14_code
def yX3_readOpening : MethodName := ⟨RX3, "readOpening", "(I)I"⟩
def RX4 : String := "TallShip$Rig"
def TX4 : u_T := fun k => match k with
  | 0 => ("TallShip$Rig", "sailState", "[I", true)
  | 1 => ("TallShip$Rig", "ropeState", "[I", true)
  | 2 => ("TallShip$Rig", "wear", "[I", true)
  | 3 => ("TallShip$Rig", "yards", "[I", true)
  | 4 => ("TallShip$Rig", "sailLead", "[I", true)
  | 5 => ("TallShip$Rig", "ropeLead", "[I", true)
  | 6 => ("TallShip$Rig", "yardLead", "[I", true)
  | _ => ("TallShip$Rig", "parted", "I", false)
def tyX4 : Nat → FieldType := fun k => match k with
  | 0 => .array .int
  | 1 => .array .int
  | 2 => .array .int
  | 3 => .array .int
  | 4 => .array .int
  | 5 => .array .int
  | 6 => .array .int
  | _ => .int
theorem nmX4 : ∀ a, a < 8 → ∀ b, b < 8 → a ≠ b → (TX4 a).2.1 ≠ (TX4 b).2.1 := by decide +kernel
theorem tyX4_ok : ∀ k, k < 8 → parseFieldDescriptor (TX4 k).2.2.1 = some (tyX4 k) := by decide +kernel
abbrev cX4_init : ByteArray := prog_6_method_1_code
def yX4_init : MethodName := ⟨RX4, "<init>", "()V"⟩
abbrev cX4_handsFor : ByteArray := prog_6_method_2_code
def yX4_handsFor : MethodName := ⟨RX4, "handsFor", "(I)I"⟩
abbrev cX4_minutesFor : ByteArray := prog_6_method_3_code
def yX4_minutesFor : MethodName := ⟨RX4, "minutesFor", "(III)I"⟩
abbrev cX4_isBarred : ByteArray := prog_6_method_4_code
def yX4_isBarred : MethodName := ⟨RX4, "isBarred", "(II)Z"⟩
abbrev cX4_isIdle : ByteArray := prog_6_method_5_code
def yX4_isIdle : MethodName := ⟨RX4, "isIdle", "(III)Z"⟩
abbrev cX4_hasParted : ByteArray := prog_6_method_6_code
def yX4_hasParted : MethodName := ⟨RX4, "hasParted", "(I)Z"⟩
abbrev cX4_mark : ByteArray := prog_6_method_7_code
def yX4_mark : MethodName := ⟨RX4, "mark", "(III)V"⟩
abbrev cX4_finish : ByteArray := prog_6_method_8_code
def yX4_finish : MethodName := ⟨RX4, "finish", "(III)V"⟩
abbrev cX4_become : ByteArray := prog_6_method_9_code
def yX4_become : MethodName := ⟨RX4, "become", "(III)V"⟩
abbrev cX4_renew : ByteArray := prog_6_method_10_code
def yX4_renew : MethodName := ⟨RX4, "renew", "(I)V"⟩
abbrev cX4_draw : ByteArray := prog_6_method_11_code
def yX4_draw : MethodName := ⟨RX4, "draw", "(II)I"⟩
abbrev cX4_drawOf : ByteArray := prog_6_method_12_code
def yX4_drawOf : MethodName := ⟨RX4, "drawOf", "(III)I"⟩
abbrev cX4_strain : ByteArray := prog_6_method_13_code
def yX4_strain : MethodName := ⟨RX4, "strain", "(IIZ)Z"⟩
abbrev cX4_strainRope : ByteArray := prog_6_method_14_code
def yX4_strainRope : MethodName := ⟨RX4, "strainRope", "(II)V"⟩
abbrev cX4_lose : ByteArray := prog_6_method_15_code
def yX4_lose : MethodName := ⟨RX4, "lose", "(I)V"⟩
abbrev cX4_greatestWear : ByteArray := prog_6_method_16_code
def yX4_greatestWear : MethodName := ⟨RX4, "greatestWear", "()I"⟩
def RX5 : String := "TallShip$Script"
def TX5 : u_T := fun k => match k with
  | 0 => ("TallShip$Script", "count", "I", false)
  | 1 => ("TallShip$Script", "verb", "[I", true)
  | 2 => ("TallShip$Script", "first", "[I", true)
  | 3 => ("TallShip$Script", "second", "[I", true)
  | 4 => ("TallShip$Script", "parent", "[I", true)
  | 5 => ("TallShip$Script", "middle", "[I", true)
  | 6 => ("TallShip$Script", "end", "[I", true)
  | 7 => ("TallShip$Script", "after", "[I", true)
  | _ => ("TallShip$Script", "weights", "[I", true)
def tyX5 : Nat → FieldType := fun k => match k with
  | 0 => .int
  | 1 => .array .int
  | 2 => .array .int
  | 3 => .array .int
  | 4 => .array .int
  | 5 => .array .int
  | 6 => .array .int
  | 7 => .array .int
  | _ => .array .int
theorem nmX5 : ∀ a, a < 9 → ∀ b, b < 9 → a ≠ b → (TX5 a).2.1 ≠ (TX5 b).2.1 := by decide +kernel
theorem tyX5_ok : ∀ k, k < 9 → parseFieldDescriptor (TX5 k).2.2.1 = some (tyX5 k) := by decide +kernel
abbrev cX5_init : ByteArray := prog_7_method_1_code
def yX5_init : MethodName := ⟨RX5, "<init>", "()V"⟩
abbrev cX5_add : ByteArray := prog_7_method_2_code
def yX5_add : MethodName := ⟨RX5, "add", "(II)I"⟩
abbrev cX5_weigh : ByteArray := prog_7_method_3_code
def yX5_weigh : MethodName := ⟨RX5, "weigh", "(III)V"⟩
abbrev cX5_link : ByteArray := prog_7_method_4_code
def yX5_link : MethodName := ⟨RX5, "link", "()V"⟩
abbrev cX5_blockEnd : ByteArray := prog_7_method_5_code
def yX5_blockEnd : MethodName := ⟨RX5, "blockEnd", "(II)I"⟩
abbrev cX5_whenTrue : ByteArray := prog_7_method_6_code
def yX5_whenTrue : MethodName := ⟨RX5, "whenTrue", "(I)I"⟩
abbrev cX5_whenFalse : ByteArray := prog_7_method_7_code
def yX5_whenFalse : MethodName := ⟨RX5, "whenFalse", "(I)I"⟩
abbrev cX5_isTrue : ByteArray := prog_7_method_8_code
def yX5_isTrue : MethodName := ⟨RX5, "isTrue", "(I[I)Z"⟩
def RX6 : String := "TallShip$Tape"
def TX6 : u_T := fun k => match k with
  | 0 => ("TallShip$Tape", "signs", "[C", true)
  | 1 => ("TallShip$Tape", "length", "I", false)
  | 2 => ("TallShip$Tape", "kind", "I", false)
  | 3 => ("TallShip$Tape", "place", "I", false)
  | 4 => ("TallShip$Tape", "value", "I", false)
  | _ => ("TallShip$Tape", "next", "I", false)
def tyX6 : Nat → FieldType := fun k => match k with
  | 0 => .array .char
  | 1 => .int
  | 2 => .int
  | 3 => .int
  | 4 => .int
  | _ => .int
theorem nmX6 : ∀ a, a < 6 → ∀ b, b < 6 → a ≠ b → (TX6 a).2.1 ≠ (TX6 b).2.1 := by decide +kernel
theorem tyX6_ok : ∀ k, k < 6 → parseFieldDescriptor (TX6 k).2.2.1 = some (tyX6 k) := by decide +kernel
abbrev cX6_init : ByteArray := prog_8_method_1_code
def yX6_init : MethodName := ⟨RX6, "<init>", "()V"⟩
abbrev cX6_addBytes : ByteArray := prog_8_method_2_code
def yX6_addBytes : MethodName := ⟨RX6, "addBytes", "(J)V"⟩
abbrev cX6_rewind : ByteArray := prog_8_method_3_code
def yX6_rewind : MethodName := ⟨RX6, "rewind", "()V"⟩
abbrev cX6_advance : ByteArray := prog_8_method_4_code
def yX6_advance : MethodName := ⟨RX6, "advance", "()V"⟩
abbrev cX6_endOfRun : ByteArray := prog_8_method_5_code
def yX6_endOfRun : MethodName := ⟨RX6, "endOfRun", "(CC)I"⟩
abbrev cX6_numberHere : ByteArray := prog_8_method_6_code
def yX6_numberHere : MethodName := ⟨RX6, "numberHere", "()I"⟩
abbrev cX6_spells : ByteArray := prog_8_method_7_code
def yX6_spells : MethodName := ⟨RX6, "spells", "(Ljava/lang/String;)Z"⟩
abbrev cX6_isSign : ByteArray := prog_8_method_8_code
def yX6_isSign : MethodName := ⟨RX6, "isSign", "(C)Z"⟩
def RX7 : String := "TallShip$Winds"
def TX7 : u_T := fun k => match k with
  | 0 => ("TallShip$Winds", "starts", "[I", true)
  | 1 => ("TallShip$Winds", "points", "[I", true)
  | 2 => ("TallShip$Winds", "forces", "[I", true)
  | 3 => ("TallShip$Winds", "rows", "I", false)
  | 4 => ("TallShip$Winds", "begun", "Z", false)
  | 5 => ("TallShip$Winds", "point", "I", false)
  | _ => ("TallShip$Winds", "force", "I", false)
def tyX7 : Nat → FieldType := fun k => match k with
  | 0 => .array .int
  | 1 => .array .int
  | 2 => .array .int
  | 3 => .int
  | 4 => .boolean
  | 5 => .int
  | _ => .int
theorem nmX7 : ∀ a, a < 7 → ∀ b, b < 7 → a ≠ b → (TX7 a).2.1 ≠ (TX7 b).2.1 := by decide +kernel
theorem tyX7_ok : ∀ k, k < 7 → parseFieldDescriptor (TX7 k).2.2.1 = some (tyX7 k) := by decide +kernel
abbrev cX7_init : ByteArray := prog_9_method_1_code
def yX7_init : MethodName := ⟨RX7, "<init>", "()V"⟩
abbrev cX7_tell : ByteArray := prog_9_method_2_code
def yX7_tell : MethodName := ⟨RX7, "tell", "(III)Z"⟩
abbrev cX7_blow : ByteArray := prog_9_method_3_code
def yX7_blow : MethodName := ⟨RX7, "blow", "(I)V"⟩
abbrev cX7_find : ByteArray := prog_9_method_4_code
def yX7_find : MethodName := ⟨RX7, "find", "(I)V"⟩
def RX8 : String := "TallShip"
def TX8 : u_T := fun k => match k with
  | 0 => ("TallShip", "crew", "LTallShip$Crew;", true)
  | 1 => ("TallShip", "rig", "LTallShip$Rig;", true)
  | 2 => ("TallShip", "winds", "LTallShip$Winds;", true)
  | 3 => ("TallShip", "tape", "LTallShip$Tape;", true)
  | 4 => ("TallShip", "reader", "LTallShip$Reader;", true)
  | 5 => ("TallShip", "passage", "LTallShip$Passage;", true)
  | 6 => ("TallShip", "parts", "[I", true)
  | 7 => ("TallShip", "script", "LTallShip$Script;", false)
  | 8 => ("TallShip", "spare", "LTallShip$Script;", false)
  | 9 => ("TallShip", "at", "I", false)
  | 10 => ("TallShip", "waiting", "I", false)
  | 11 => ("TallShip", "carried", "I", false)
  | 12 => ("TallShip", "minute", "I", false)
  | 13 => ("TallShip", "course", "I", false)
  | 14 => ("TallShip", "wish", "I", false)
  | 15 => ("TallShip", "speed", "I", false)
  | 16 => ("TallShip", "x", "I", false)
  | _ => ("TallShip", "y", "I", false)
def tyX8 : Nat → FieldType := fun k => match k with
  | 0 => .object "TallShip$Crew"
  | 1 => .object "TallShip$Rig"
  | 2 => .object "TallShip$Winds"
  | 3 => .object "TallShip$Tape"
  | 4 => .object "TallShip$Reader"
  | 5 => .object "TallShip$Passage"
  | 6 => .array .int
  | 7 => .object "TallShip$Script"
  | 8 => .object "TallShip$Script"
  | 9 => .int
  | 10 => .int
  | 11 => .int
  | 12 => .int
  | 13 => .int
  | 14 => .int
  | 15 => .int
  | 16 => .int
  | _ => .int
theorem nmX8 : ∀ a, a < 18 → ∀ b, b < 18 → a ≠ b → (TX8 a).2.1 ≠ (TX8 b).2.1 := by decide +kernel
theorem tyX8_ok : ∀ k, k < 18 → parseFieldDescriptor (TX8 k).2.2.1 = some (tyX8 k) := by decide +kernel
abbrev cX8_init : ByteArray := prog_1_method_1_code
def yX8_init : MethodName := ⟨RX8, "<init>", "(I)V"⟩
abbrev cX8_feed : ByteArray := prog_1_method_2_code
def yX8_feed : MethodName := ⟨RX8, "feed", "(JJJ)I"⟩
abbrev cX8_orders : ByteArray := prog_1_method_3_code
def yX8_orders : MethodName := ⟨RX8, "orders", "()I"⟩
abbrev cX8_wind : ByteArray := prog_1_method_4_code
def yX8_wind : MethodName := ⟨RX8, "wind", "(III)Z"⟩
abbrev cX8_minutes : ByteArray := prog_1_method_5_code
def yX8_minutes : MethodName := ⟨RX8, "minutes", "(I)I"⟩
abbrev cX8_sail : ByteArray := prog_1_method_6_code
def yX8_sail : MethodName := ⟨RX8, "sail", "(II)I"⟩
abbrev cX8_rope : ByteArray := prog_1_method_7_code
def yX8_rope : MethodName := ⟨RX8, "rope", "(II)I"⟩
abbrev cX8_braced : ByteArray := prog_1_method_8_code
def yX8_braced : MethodName := ⟨RX8, "braced", "(I)I"⟩
abbrev cX8_hand : ByteArray := prog_1_method_9_code
def yX8_hand : MethodName := ⟨RX8, "hand", "(II)I"⟩
abbrev cX8_look : ByteArray := prog_1_method_10_code
def yX8_look : MethodName := ⟨RX8, "look", "(I)I"⟩
abbrev cX8_foretell : ByteArray := prog_1_method_11_code
def yX8_foretell : MethodName := ⟨RX8, "foretell", "(III)Z"⟩
abbrev cX8_plan : ByteArray := prog_1_method_12_code
def yX8_plan : MethodName := ⟨RX8, "plan", "(II)I"⟩
abbrev cX8_leg : ByteArray := prog_1_method_13_code
def yX8_leg : MethodName := ⟨RX8, "leg", "(I)I"⟩
abbrev cX8_passMinute : ByteArray := prog_1_method_14_code
def yX8_passMinute : MethodName := ⟨RX8, "passMinute", "()V"⟩
abbrev cX8_endWorks : ByteArray := prog_1_method_15_code
def yX8_endWorks : MethodName := ⟨RX8, "endWorks", "()V"⟩
abbrev cX8_carryOut : ByteArray := prog_1_method_16_code
def yX8_carryOut : MethodName := ⟨RX8, "carryOut", "()V"⟩
abbrev cX8_weighParts : ByteArray := prog_1_method_17_code
def yX8_weighParts : MethodName := ⟨RX8, "weighParts", "()V"⟩
abbrev cX8_carryOutOne : ByteArray := prog_1_method_18_code
def yX8_carryOutOne : MethodName := ⟨RX8, "carryOutOne", "(I)Z"⟩
abbrev cX8_beginWork : ByteArray := prog_1_method_19_code
def yX8_beginWork : MethodName := ⟨RX8, "beginWork", "(III)Z"⟩
abbrev cX8_changeSpeed : ByteArray := prog_1_method_20_code
def yX8_changeSpeed : MethodName := ⟨RX8, "changeSpeed", "(I)V"⟩
abbrev cX8_strainSails : ByteArray := prog_1_method_21_code
def yX8_strainSails : MethodName := ⟨RX8, "strainSails", "(Z)V"⟩
def RX9 : String := "TallShipModel"
def TX9 : u_T := fun k => match k with
  | 0 => ("TallShipModel", "thrown", "I", false)
  | 1 => ("TallShipModel", "tape", "[I", true)
  | 2 => ("TallShipModel", "taped", "I", false)
  | 3 => ("TallShipModel", "size", "I", false)
  | 4 => ("TallShipModel", "sort", "[I", true)
  | 5 => ("TallShipModel", "place", "[I", true)
  | 6 => ("TallShipModel", "value", "[J", true)
  | 7 => ("TallShipModel", "at", "I", false)
  | 8 => ("TallShipModel", "fault", "I", false)
  | 9 => ("TallShipModel", "words", "[J", true)
  | 10 => ("TallShipModel", "op", "[I", true)
  | 11 => ("TallShipModel", "one", "[I", true)
  | 12 => ("TallShipModel", "two", "[I", true)
  | 13 => ("TallShipModel", "holds", "I", false)
  | 14 => ("TallShipModel", "next", "I", false)
  | 15 => ("TallShipModel", "codes", "I", false)
  | 16 => ("TallShipModel", "statements", "[I", true)
  | 17 => ("TallShipModel", "deep", "I", false)
  | 18 => ("TallShipModel", "hands", "I", true)
  | 19 => ("TallShipModel", "sail", "[I", true)
  | 20 => ("TallShipModel", "rope", "[I", true)
  | 21 => ("TallShipModel", "wear", "[I", true)
  | 22 => ("TallShipModel", "braced", "[I", true)
  | 23 => ("TallShipModel", "workOf", "[I", true)
  | 24 => ("TallShipModel", "work", "[I", true)
  | 25 => ("TallShipModel", "about", "[I", true)
  | 26 => ("TallShipModel", "target", "[I", true)
  | 27 => ("TallShipModel", "ends", "[I", true)
  | 28 => ("TallShipModel", "deck", "I", false)
  | 29 => ("TallShipModel", "minute", "I", false)
  | 30 => ("TallShipModel", "course", "I", false)
  | 31 => ("TallShipModel", "wish", "I", false)
  | 32 => ("TallShipModel", "speed", "I", false)
  | 33 => ("TallShipModel", "placeX", "I", false)
  | 34 => ("TallShipModel", "placeY", "I", false)
  | 35 => ("TallShipModel", "parted", "I", false)
  | 36 => ("TallShipModel", "done", "I", false)
  | 37 => ("TallShipModel", "pc", "I", false)
  | 38 => ("TallShipModel", "waitsTo", "I", false)
  | 39 => ("TallShipModel", "winds", "I", false)
  | 40 => ("TallShipModel", "windMinute", "[I", true)
  | 41 => ("TallShipModel", "windPoint", "[I", true)
  | 42 => ("TallShipModel", "windForce", "[I", true)
  | 43 => ("TallShipModel", "latestPoint", "I", false)
  | 44 => ("TallShipModel", "latestForce", "I", false)
  | 45 => ("TallShipModel", "pile", "[I", true)
  | 46 => ("TallShipModel", "top", "I", false)
  | 47 => ("TallShipModel", "toldPoint", "[I", true)
  | 48 => ("TallShipModel", "toldForce", "[I", true)
  | 49 => ("TallShipModel", "forth", "[Z", true)
  | 50 => ("TallShipModel", "back", "[Z", true)
  | 51 => ("TallShipModel", "legs", "I", false)
  | _ => ("TallShipModel", "leg", "[I", true)
def tyX9 : Nat → FieldType := fun k => match k with
  | 0 => .int
  | 1 => .array .int
  | 2 => .int
  | 3 => .int
  | 4 => .array .int
  | 5 => .array .int
  | 6 => .array .long
  | 7 => .int
  | 8 => .int
  | 9 => .array .long
  | 10 => .array .int
  | 11 => .array .int
  | 12 => .array .int
  | 13 => .int
  | 14 => .int
  | 15 => .int
  | 16 => .array .int
  | 17 => .int
  | 18 => .int
  | 19 => .array .int
  | 20 => .array .int
  | 21 => .array .int
  | 22 => .array .int
  | 23 => .array .int
  | 24 => .array .int
  | 25 => .array .int
  | 26 => .array .int
  | 27 => .array .int
  | 28 => .int
  | 29 => .int
  | 30 => .int
  | 31 => .int
  | 32 => .int
  | 33 => .int
  | 34 => .int
  | 35 => .int
  | 36 => .int
  | 37 => .int
  | 38 => .int
  | 39 => .int
  | 40 => .array .int
  | 41 => .array .int
  | 42 => .array .int
  | 43 => .int
  | 44 => .int
  | 45 => .array .int
  | 46 => .int
  | 47 => .array .int
  | 48 => .array .int
  | 49 => .array .boolean
  | 50 => .array .boolean
  | 51 => .int
  | _ => .array .int
theorem nmX9 : ∀ a, a < 53 → ∀ b, b < 53 → a ≠ b → (TX9 a).2.1 ≠ (TX9 b).2.1 := by decide +kernel
theorem tyX9_ok : ∀ k, k < 53 → parseFieldDescriptor (TX9 k).2.2.1 = some (tyX9 k) := by decide +kernel
abbrev cX9_thrown : ByteArray := prog_11_method_1_code
def yX9_thrown : MethodName := ⟨RX9, "thrown", "()I"⟩
abbrev cX9_feed : ByteArray := prog_11_method_2_code
def yX9_feed : MethodName := ⟨RX9, "feed", "(JJJ)I"⟩
abbrev cX9_lay : ByteArray := prog_11_method_3_code
def yX9_lay : MethodName := ⟨RX9, "lay", "(J)V"⟩
abbrev cX9_init : ByteArray := prog_11_method_4_code
def yX9_init : MethodName := ⟨RX9, "<init>", "(I)V"⟩
abbrev cX9_isLetter : ByteArray := prog_11_method_5_code
def yX9_isLetter : MethodName := ⟨RX9, "isLetter", "(I)Z"⟩
abbrev cX9_isDigit : ByteArray := prog_11_method_6_code
def yX9_isDigit : MethodName := ⟨RX9, "isDigit", "(I)Z"⟩
abbrev cX9_rank : ByteArray := prog_11_method_7_code
def yX9_rank : MethodName := ⟨RX9, "rank", "(I)I"⟩
abbrev cX9_isSignOf : ByteArray := prog_11_method_8_code
def yX9_isSignOf : MethodName := ⟨RX9, "isSignOf", "(I)Z"⟩
abbrev cX9_cutAll : ByteArray := prog_11_method_9_code
def yX9_cutAll : MethodName := ⟨RX9, "cutAll", "()V"⟩
abbrev cX9_wrong : ByteArray := prog_11_method_10_code
def yX9_wrong : MethodName := ⟨RX9, "wrong", "(I)V"⟩
abbrev cX9_isSign : ByteArray := prog_11_method_11_code
def yX9_isSign : MethodName := ⟨RX9, "isSign", "(I)Z"⟩
abbrev cX9_isWord : ByteArray := prog_11_method_12_code
def yX9_isWord : MethodName := ⟨RX9, "isWord", "(I)Z"⟩
abbrev cX9_takeSign : ByteArray := prog_11_method_13_code
def yX9_takeSign : MethodName := ⟨RX9, "takeSign", "(I)V"⟩
abbrev cX9_hasWord : ByteArray := prog_11_method_15_code
def yX9_hasWord : MethodName := ⟨RX9, "hasWord", "(I)Z"⟩
abbrev cX9_takeNumber : ByteArray := prog_11_method_17_code
def yX9_takeNumber : MethodName := ⟨RX9, "takeNumber", "(II)I"⟩
abbrev cX9_emit : ByteArray := prog_11_method_18_code
def yX9_emit : MethodName := ⟨RX9, "emit", "(III)I"⟩
abbrev cX9_here : ByteArray := prog_11_method_19_code
def yX9_here : MethodName := ⟨RX9, "here", "()I"⟩
abbrev cX9_orders : ByteArray := prog_11_method_20_code
def yX9_orders : MethodName := ⟨RX9, "orders", "()I"⟩
abbrev cX9_statement : ByteArray := prog_11_method_21_code
def yX9_statement : MethodName := ⟨RX9, "statement", "()V"⟩
abbrev cX9_choice : ByteArray := prog_11_method_22_code
def yX9_choice : MethodName := ⟨RX9, "choice", "(II)V"⟩
abbrev cX9_block : ByteArray := prog_11_method_23_code
def yX9_block : MethodName := ⟨RX9, "block", "()V"⟩
abbrev cX9_expression : ByteArray := prog_11_method_24_code
def yX9_expression : MethodName := ⟨RX9, "expression", "()V"⟩
abbrev cX9_sum : ByteArray := prog_11_method_25_code
def yX9_sum : MethodName := ⟨RX9, "sum", "()V"⟩
abbrev cX9_part : ByteArray := prog_11_method_26_code
def yX9_part : MethodName := ⟨RX9, "part", "()V"⟩
abbrev cX9_wind : ByteArray := prog_11_method_27_code
def yX9_wind : MethodName := ⟨RX9, "wind", "(III)Z"⟩
abbrev cX9_windNow : ByteArray := prog_11_method_28_code
def yX9_windNow : MethodName := ⟨RX9, "windNow", "()I"⟩
abbrev cX9_point : ByteArray := prog_11_method_29_code
def yX9_point : MethodName := ⟨RX9, "point", "()I"⟩
abbrev cX9_force : ByteArray := prog_11_method_30_code
def yX9_force : MethodName := ⟨RX9, "force", "()I"⟩
abbrev cX9_apart : ByteArray := prog_11_method_31_code
def yX9_apart : MethodName := ⟨RX9, "apart", "(II)I"⟩
abbrev cX9_table : ByteArray := prog_11_method_32_code
def yX9_table : MethodName := ⟨RX9, "table", "(I)I"⟩
abbrev cX9_area : ByteArray := prog_11_method_33_code
def yX9_area : MethodName := ⟨RX9, "area", "(I)I"⟩
abbrev cX9_minutesOf : ByteArray := prog_11_method_34_code
def yX9_minutesOf : MethodName := ⟨RX9, "minutesOf", "(III)I"⟩
abbrev cX9_handsOf : ByteArray := prog_11_method_35_code
def yX9_handsOf : MethodName := ⟨RX9, "handsOf", "(I)I"⟩
abbrev cX9_isUnder : ByteArray := prog_11_method_36_code
def yX9_isUnder : MethodName := ⟨RX9, "isUnder", "(II)Z"⟩
abbrev cX9_isBarred : ByteArray := prog_11_method_37_code
def yX9_isBarred : MethodName := ⟨RX9, "isBarred", "(II)Z"⟩
abbrev cX9_isMeant : ByteArray := prog_11_method_38_code
def yX9_isMeant : MethodName := ⟨RX9, "isMeant", "(III)Z"⟩
abbrev cX9_isOnDeck : ByteArray := prog_11_method_39_code
def yX9_isOnDeck : MethodName := ⟨RX9, "isOnDeck", "(I)Z"⟩
abbrev cX9_begins : ByteArray := prog_11_method_40_code
def yX9_begins : MethodName := ⟨RX9, "begins", "(III)Z"⟩
abbrev cX9_gives : ByteArray := prog_11_method_41_code
def yX9_gives : MethodName := ⟨RX9, "gives", "(I)V"⟩
abbrev cX9_endWorks : ByteArray := prog_11_method_42_code
def yX9_endWorks : MethodName := ⟨RX9, "endWorks", "()V"⟩
abbrev cX9_ended : ByteArray := prog_11_method_43_code
def yX9_ended : MethodName := ⟨RX9, "ended", "(III)V"⟩
abbrev cX9_partOf : ByteArray := prog_11_method_44_code
def yX9_partOf : MethodName := ⟨RX9, "partOf", "(I)I"⟩
abbrev cX9_loadNow : ByteArray := prog_11_method_45_code
def yX9_loadNow : MethodName := ⟨RX9, "loadNow", "()I"⟩
abbrev cX9_carries : ByteArray := prog_11_method_46_code
def yX9_carries : MethodName := ⟨RX9, "carries", "()V"⟩
abbrev cX9_carriesOut : ByteArray := prog_11_method_47_code
def yX9_carriesOut : MethodName := ⟨RX9, "carriesOut", "(I)V"⟩
abbrev cX9_reckons : ByteArray := prog_11_method_48_code
def yX9_reckons : MethodName := ⟨RX9, "reckons", "(II)V"⟩
abbrev cX9_dy : ByteArray := prog_11_method_49_code
def yX9_dy : MethodName := ⟨RX9, "dy", "(I)I"⟩
abbrev cX9_dx : ByteArray := prog_11_method_50_code
def yX9_dx : MethodName := ⟨RX9, "dx", "(I)I"⟩
abbrev cX9_sails : ByteArray := prog_11_method_51_code
def yX9_sails : MethodName := ⟨RX9, "sails", "()V"⟩
abbrev cX9_loads : ByteArray := prog_11_method_52_code
def yX9_loads : MethodName := ⟨RX9, "loads", "(II)V"⟩
abbrev cX9_goes : ByteArray := prog_11_method_53_code
def yX9_goes : MethodName := ⟨RX9, "goes", "()V"⟩
abbrev cX9_minutes : ByteArray := prog_11_method_54_code
def yX9_minutes : MethodName := ⟨RX9, "minutes", "(I)I"⟩
abbrev cX9_sail : ByteArray := prog_11_method_55_code
def yX9_sail : MethodName := ⟨RX9, "sail", "(II)I"⟩
abbrev cX9_rope : ByteArray := prog_11_method_56_code
def yX9_rope : MethodName := ⟨RX9, "rope", "(II)I"⟩
abbrev cX9_braced : ByteArray := prog_11_method_57_code
def yX9_braced : MethodName := ⟨RX9, "braced", "(I)I"⟩
abbrev cX9_hand : ByteArray := prog_11_method_58_code
def yX9_hand : MethodName := ⟨RX9, "hand", "(II)I"⟩
abbrev cX9_look : ByteArray := prog_11_method_59_code
def yX9_look : MethodName := ⟨RX9, "look", "(I)I"⟩
abbrev cX9_foretell : ByteArray := prog_11_method_60_code
def yX9_foretell : MethodName := ⟨RX9, "foretell", "(III)Z"⟩
abbrev cX9_leads : ByteArray := prog_11_method_61_code
def yX9_leads : MethodName := ⟨RX9, "leads", "(III)I"⟩
abbrev cX9_marksForth : ByteArray := prog_11_method_62_code
def yX9_marksForth : MethodName := ⟨RX9, "marksForth", "(I)V"⟩
abbrev cX9_marksBack : ByteArray := prog_11_method_63_code
def yX9_marksBack : MethodName := ⟨RX9, "marksBack", "(I)V"⟩
abbrev cX9_plan : ByteArray := prog_11_method_64_code
def yX9_plan : MethodName := ⟨RX9, "plan", "(II)I"⟩
abbrev cX9_leg : ByteArray := prog_11_method_65_code
def yX9_leg : MethodName := ⟨RX9, "leg", "(I)I"⟩
def RJ9 : String := "java/lang/Math"
abbrev cJ9_abs_0f7a4 : ByteArray := prog_13_method_59_code
def yJ9_abs_0f7a4 : MethodName := ⟨RJ9, "abs", "(I)I"⟩
abbrev cJ9_max_7cf53 : ByteArray := prog_13_method_65_code
def yJ9_max_7cf53 : MethodName := ⟨RJ9, "max", "(II)I"⟩
abbrev cJ9_min_7cf53 : ByteArray := prog_13_method_69_code
def yJ9_min_7cf53 : MethodName := ⟨RJ9, "min", "(II)I"⟩
def RJ0 : String := "java/lang/String"
abbrev cJ0_length_8abf5 : ByteArray := prog_15_method_54_code
def yJ0_length_8abf5 : MethodName := ⟨RJ0, "length", "()I"⟩
abbrev cJ0_charAt_5068e : ByteArray := prog_15_method_56_code
def yJ0_charAt_5068e : MethodName := ⟨RJ0, "charAt", "(I)C"⟩
abbrev cJ0_coder_7d493 : ByteArray := prog_15_method_152_code
def yJ0_coder_7d493 : MethodName := ⟨RJ0, "coder", "()B"⟩
abbrev cJ0_isLatin1_aae02 : ByteArray := prog_15_method_154_code
def yJ0_isLatin1_aae02 : MethodName := ⟨RJ0, "isLatin1", "()Z"⟩
abbrev cJ0_checkIndex_df160 : ByteArray := prog_15_method_155_code
def yJ0_checkIndex_df160 : MethodName := ⟨RJ0, "checkIndex", "(II)V"⟩
def RJ1 : String := "java/lang/StringLatin1"
abbrev cJ1_charAt_3b067 : ByteArray := prog_16_method_2_code
def yJ1_charAt_3b067 : MethodName := ⟨RJ1, "charAt", "([BI)C"⟩
def RJ2 : String := "java/lang/StringUTF16"
abbrev cJ2_getChar_3b067 : ByteArray := prog_17_method_5_code
def yJ2_getChar_3b067 : MethodName := ⟨RJ2, "getChar", "([BI)C"⟩
abbrev cJ2_length_9d52b : ByteArray := prog_17_method_6_code
def yJ2_length_9d52b : MethodName := ⟨RJ2, "length", "([B)I"⟩
abbrev cJ2_charAt_3b067 : ByteArray := prog_17_method_83_code
def yJ2_charAt_3b067 : MethodName := ⟨RJ2, "charAt", "([BI)C"⟩
abbrev cJ2_checkIndex_2214a : ByteArray := prog_17_method_91_code
def yJ2_checkIndex_2214a : MethodName := ⟨RJ2, "checkIndex", "(I[B)V"⟩
def RJ3 : String := "jdk/internal/util/Preconditions"
abbrev cJ3_checkIndex_8e157 : ByteArray := prog_20_method_11_code
def yJ3_checkIndex_8e157 : MethodName := ⟨RJ3, "checkIndex", "(IILjava/util/function/BiFunction;)I"⟩
def RL : String := "TallShipLaw"
abbrev cL_cell : ByteArray := method_2_code
def yL_cell : MethodName := ⟨RL, "cell", "([II)I"⟩
abbrev cL_hand : ByteArray := method_3_code
def yL_hand : MethodName := ⟨RL, "hand", "(LTallShip;II[J)I"⟩
abbrev cL_law : ByteArray := code
def yL_law : MethodName := ⟨RL, "law", "([I)Z"⟩
abbrev vwCl : List vw_C := [(RX1, TX1, 8), (RX2, TX2, 6), (RX3, TX3, 4), (RX4, TX4, 8), (RX5, TX5, 9), (RX6, TX6, 6), (RX7, TX7, 7), (RX8, TX8, 18), (RX9, TX9, 53)]
end
section
def zT : List Cond := lw_tbl.filter goodWord
theorem zT_good : ∀ w ∈ zT, w ∈ lw_tbl ∧ goodWord w = true := fun _ h => List.mem_filter.mp h
theorem zT_mem {w : Cond} (i : Nat) (h : lw_tbl[i]? = some w) (hg : goodWord w = true) : w ∈ zT := List.mem_filter.mpr ⟨List.mem_of_getElem? h, hg⟩
/-! words of the tables, by their places -/
theorem zw0 : (Jvm.Cond.selects "TallShip$Tape" ({ cls := "TallShip$Tape", name := "endOfRun", desc := "(CC)I" } : Jvm.MethodName) ({ cls := "TallShip$Tape", name := "endOfRun", desc := "(CC)I" } : Jvm.MethodName)) ∈ zT := zT_mem 0 (by decide +kernel) (by decide +kernel)
theorem zw1 : (Jvm.Cond.selects "TallShip$Tape" ({ cls := "TallShip$Tape", name := "numberHere", desc := "()I" } : Jvm.MethodName) ({ cls := "TallShip$Tape", name := "numberHere", desc := "()I" } : Jvm.MethodName)) ∈ zT := zT_mem 1 (by decide +kernel) (by decide +kernel)
theorem zw2 : (Jvm.Cond.selects "TallShip$Reader" ({ cls := "TallShip$Reader", name := "isOver", desc := "()Z" } : Jvm.MethodName) ({ cls := "TallShip$Reader", name := "isOver", desc := "()Z" } : Jvm.MethodName)) ∈ zT := zT_mem 2 (by decide +kernel) (by decide +kernel)
theorem zw3 : (Jvm.Cond.selects "TallShip$Reader" ({ cls := "TallShip$Reader", name := "readClosing", desc := "()I" } : Jvm.MethodName) ({ cls := "TallShip$Reader", name := "readClosing", desc := "()I" } : Jvm.MethodName)) ∈ zT := zT_mem 3 (by decide +kernel) (by decide +kernel)
theorem zw4 : (Jvm.Cond.selects "TallShip$Reader" ({ cls := "TallShip$Reader", name := "readSign", desc := "(C)I" } : Jvm.MethodName) ({ cls := "TallShip$Reader", name := "readSign", desc := "(C)I" } : Jvm.MethodName)) ∈ zT := zT_mem 4 (by decide +kernel) (by decide +kernel)
theorem zw5 : (Jvm.Cond.selects "TallShip$Reader" ({ cls := "TallShip$Reader", name := "faultHere", desc := "(I)I" } : Jvm.MethodName) ({ cls := "TallShip$Reader", name := "faultHere", desc := "(I)I" } : Jvm.MethodName)) ∈ zT := zT_mem 5 (by decide +kernel) (by decide +kernel)
theorem zw6 : (Jvm.Cond.selects "TallShip$Reader" ({ cls := "TallShip$Reader", name := "readStatement", desc := "()I" } : Jvm.MethodName) ({ cls := "TallShip$Reader", name := "readStatement", desc := "()I" } : Jvm.MethodName)) ∈ zT := zT_mem 6 (by decide +kernel) (by decide +kernel)
theorem zw7 : (Jvm.Cond.selects "TallShip$Reader" ({ cls := "TallShip$Reader", name := "verbHere", desc := "()I" } : Jvm.MethodName) ({ cls := "TallShip$Reader", name := "verbHere", desc := "()I" } : Jvm.MethodName)) ∈ zT := zT_mem 7 (by decide +kernel) (by decide +kernel)
theorem zw8 : (Jvm.Cond.selects "TallShip$Reader" ({ cls := "TallShip$Reader", name := "readCondition", desc := "(I)I" } : Jvm.MethodName) ({ cls := "TallShip$Reader", name := "readCondition", desc := "(I)I" } : Jvm.MethodName)) ∈ zT := zT_mem 8 (by decide +kernel) (by decide +kernel)
theorem zw9 : (Jvm.Cond.selects "TallShip$Reader" ({ cls := "TallShip$Reader", name := "readSum", desc := "(II)I" } : Jvm.MethodName) ({ cls := "TallShip$Reader", name := "readSum", desc := "(II)I" } : Jvm.MethodName)) ∈ zT := zT_mem 9 (by decide +kernel) (by decide +kernel)
theorem zw10 : (Jvm.Cond.selects "TallShip$Reader" ({ cls := "TallShip$Reader", name := "partHere", desc := "()I" } : Jvm.MethodName) ({ cls := "TallShip$Reader", name := "partHere", desc := "()I" } : Jvm.MethodName)) ∈ zT := zT_mem 10 (by decide +kernel) (by decide +kernel)
theorem zw11 : (Jvm.Cond.selects "TallShip$Reader" ({ cls := "TallShip$Reader", name := "readOpening", desc := "(I)I" } : Jvm.MethodName) ({ cls := "TallShip$Reader", name := "readOpening", desc := "(I)I" } : Jvm.MethodName)) ∈ zT := zT_mem 11 (by decide +kernel) (by decide +kernel)
theorem zw12 : (Jvm.Cond.selects "TallShip$Reader" ({ cls := "TallShip$Reader", name := "readOrder", desc := "(II)I" } : Jvm.MethodName) ({ cls := "TallShip$Reader", name := "readOrder", desc := "(II)I" } : Jvm.MethodName)) ∈ zT := zT_mem 12 (by decide +kernel) (by decide +kernel)
theorem zw13 : (Jvm.Cond.selects "TallShip$Reader" ({ cls := "TallShip$Reader", name := "checkNumber", desc := "(II)I" } : Jvm.MethodName) ({ cls := "TallShip$Reader", name := "checkNumber", desc := "(II)I" } : Jvm.MethodName)) ∈ zT := zT_mem 13 (by decide +kernel) (by decide +kernel)
theorem zw14 : (Jvm.Cond.selects "TallShip$Script" ({ cls := "TallShip$Script", name := "blockEnd", desc := "(II)I" } : Jvm.MethodName) ({ cls := "TallShip$Script", name := "blockEnd", desc := "(II)I" } : Jvm.MethodName)) ∈ zT := zT_mem 14 (by decide +kernel) (by decide +kernel)
theorem zw15 : (Jvm.Cond.selects "TallShip$Winds" ({ cls := "TallShip$Winds", name := "find", desc := "(I)V" } : Jvm.MethodName) ({ cls := "TallShip$Winds", name := "find", desc := "(I)V" } : Jvm.MethodName)) ∈ zT := zT_mem 15 (by decide +kernel) (by decide +kernel)
theorem zw16 : (Jvm.Cond.selects "TallShip" ({ cls := "TallShip", name := "passMinute", desc := "()V" } : Jvm.MethodName) ({ cls := "TallShip", name := "passMinute", desc := "()V" } : Jvm.MethodName)) ∈ zT := zT_mem 16 (by decide +kernel) (by decide +kernel)
theorem zw17 : (Jvm.Cond.selects "TallShip" ({ cls := "TallShip", name := "endWorks", desc := "()V" } : Jvm.MethodName) ({ cls := "TallShip", name := "endWorks", desc := "()V" } : Jvm.MethodName)) ∈ zT := zT_mem 17 (by decide +kernel) (by decide +kernel)
theorem zw18 : (Jvm.Cond.selects "TallShip$Rig" ({ cls := "TallShip$Rig", name := "become", desc := "(III)V" } : Jvm.MethodName) ({ cls := "TallShip$Rig", name := "become", desc := "(III)V" } : Jvm.MethodName)) ∈ zT := zT_mem 18 (by decide +kernel) (by decide +kernel)
theorem zw19 : (Jvm.Cond.selects "TallShip$Rig" ({ cls := "TallShip$Rig", name := "renew", desc := "(I)V" } : Jvm.MethodName) ({ cls := "TallShip$Rig", name := "renew", desc := "(I)V" } : Jvm.MethodName)) ∈ zT := zT_mem 19 (by decide +kernel) (by decide +kernel)
theorem zw20 : (Jvm.Cond.selects "TallShip$Rig" ({ cls := "TallShip$Rig", name := "hasParted", desc := "(I)Z" } : Jvm.MethodName) ({ cls := "TallShip$Rig", name := "hasParted", desc := "(I)Z" } : Jvm.MethodName)) ∈ zT := zT_mem 20 (by decide +kernel) (by decide +kernel)
theorem zw21 : (Jvm.Cond.selects "TallShip" ({ cls := "TallShip", name := "carryOut", desc := "()V" } : Jvm.MethodName) ({ cls := "TallShip", name := "carryOut", desc := "()V" } : Jvm.MethodName)) ∈ zT := zT_mem 21 (by decide +kernel) (by decide +kernel)
theorem zw22 : (Jvm.Cond.selects "TallShip" ({ cls := "TallShip", name := "weighParts", desc := "()V" } : Jvm.MethodName) ({ cls := "TallShip", name := "weighParts", desc := "()V" } : Jvm.MethodName)) ∈ zT := zT_mem 22 (by decide +kernel) (by decide +kernel)
theorem zw23 : (Jvm.Cond.selects "TallShip" ({ cls := "TallShip", name := "carryOutOne", desc := "(I)Z" } : Jvm.MethodName) ({ cls := "TallShip", name := "carryOutOne", desc := "(I)Z" } : Jvm.MethodName)) ∈ zT := zT_mem 23 (by decide +kernel) (by decide +kernel)
theorem zw24 : (Jvm.Cond.selects "TallShip" ({ cls := "TallShip", name := "beginWork", desc := "(III)Z" } : Jvm.MethodName) ({ cls := "TallShip", name := "beginWork", desc := "(III)Z" } : Jvm.MethodName)) ∈ zT := zT_mem 24 (by decide +kernel) (by decide +kernel)
theorem zw25 : (Jvm.Cond.selects "TallShip$Crew" ({ cls := "TallShip$Crew", name := "isReady", desc := "(I)Z" } : Jvm.MethodName) ({ cls := "TallShip$Crew", name := "isReady", desc := "(I)Z" } : Jvm.MethodName)) ∈ zT := zT_mem 25 (by decide +kernel) (by decide +kernel)
theorem zw26 : (Jvm.Cond.selects "TallShip$Rig" ({ cls := "TallShip$Rig", name := "drawOf", desc := "(III)I" } : Jvm.MethodName) ({ cls := "TallShip$Rig", name := "drawOf", desc := "(III)I" } : Jvm.MethodName)) ∈ zT := zT_mem 26 (by decide +kernel) (by decide +kernel)
theorem zw27 : (Jvm.Cond.selects "TallShip" ({ cls := "TallShip", name := "changeSpeed", desc := "(I)V" } : Jvm.MethodName) ({ cls := "TallShip", name := "changeSpeed", desc := "(I)V" } : Jvm.MethodName)) ∈ zT := zT_mem 27 (by decide +kernel) (by decide +kernel)
theorem zw28 : (Jvm.Cond.selects "TallShip" ({ cls := "TallShip", name := "strainSails", desc := "(Z)V" } : Jvm.MethodName) ({ cls := "TallShip", name := "strainSails", desc := "(Z)V" } : Jvm.MethodName)) ∈ zT := zT_mem 28 (by decide +kernel) (by decide +kernel)
theorem zw29 : (Jvm.Cond.selects "TallShip$Rig" ({ cls := "TallShip$Rig", name := "strainRope", desc := "(II)V" } : Jvm.MethodName) ({ cls := "TallShip$Rig", name := "strainRope", desc := "(II)V" } : Jvm.MethodName)) ∈ zT := zT_mem 29 (by decide +kernel) (by decide +kernel)
theorem zw30 : (Jvm.Cond.selects "TallShip$Passage" ({ cls := "TallShip$Passage", name := "countGlasses", desc := "(II)I" } : Jvm.MethodName) ({ cls := "TallShip$Passage", name := "countGlasses", desc := "(II)I" } : Jvm.MethodName)) ∈ zT := zT_mem 30 (by decide +kernel) (by decide +kernel)
theorem zw31 : (Jvm.Cond.selects "TallShip$Passage" ({ cls := "TallShip$Passage", name := "spread", desc := "(I)V" } : Jvm.MethodName) ({ cls := "TallShip$Passage", name := "spread", desc := "(I)V" } : Jvm.MethodName)) ∈ zT := zT_mem 31 (by decide +kernel) (by decide +kernel)
theorem zw32 : (Jvm.Cond.selects "TallShip$Passage" ({ cls := "TallShip$Passage", name := "traceBack", desc := "(II)V" } : Jvm.MethodName) ({ cls := "TallShip$Passage", name := "traceBack", desc := "(II)V" } : Jvm.MethodName)) ∈ zT := zT_mem 32 (by decide +kernel) (by decide +kernel)
theorem zw33 : (Jvm.Cond.selects "TallShip$Passage" ({ cls := "TallShip$Passage", name := "chooseCourses", desc := "()V" } : Jvm.MethodName) ({ cls := "TallShip$Passage", name := "chooseCourses", desc := "()V" } : Jvm.MethodName)) ∈ zT := zT_mem 33 (by decide +kernel) (by decide +kernel)
theorem zw34 : (Jvm.Cond.selects "TallShip$Passage" ({ cls := "TallShip$Passage", name := "leastLeading", desc := "(III)I" } : Jvm.MethodName) ({ cls := "TallShip$Passage", name := "leastLeading", desc := "(III)I" } : Jvm.MethodName)) ∈ zT := zT_mem 34 (by decide +kernel) (by decide +kernel)
theorem zw35 : (Jvm.Cond.selects "java/lang/Throwable" ({ cls := "java/lang/Throwable", name := "fillInStackTrace", desc := "(I)Ljava/lang/Throwable;" } : Jvm.MethodName) ({ cls := "java/lang/Throwable", name := "fillInStackTrace", desc := "(I)Ljava/lang/Throwable;" } : Jvm.MethodName)) ∈ zT := zT_mem 35 (by decide +kernel) (by decide +kernel)
theorem zw36 : (Jvm.Cond.selects "TallShipModel" ({ cls := "TallShipModel", name := "lay", desc := "(J)V" } : Jvm.MethodName) ({ cls := "TallShipModel", name := "lay", desc := "(J)V" } : Jvm.MethodName)) ∈ zT := zT_mem 36 (by decide +kernel) (by decide +kernel)
theorem zw37 : (Jvm.Cond.selects "TallShipModel" ({ cls := "TallShipModel", name := "cutAll", desc := "()V" } : Jvm.MethodName) ({ cls := "TallShipModel", name := "cutAll", desc := "()V" } : Jvm.MethodName)) ∈ zT := zT_mem 37 (by decide +kernel) (by decide +kernel)
theorem zw38 : (Jvm.Cond.selects "TallShipModel" ({ cls := "TallShipModel", name := "statement", desc := "()V" } : Jvm.MethodName) ({ cls := "TallShipModel", name := "statement", desc := "()V" } : Jvm.MethodName)) ∈ zT := zT_mem 38 (by decide +kernel) (by decide +kernel)
theorem zw39 : (Jvm.Cond.selects "TallShipModel" ({ cls := "TallShipModel", name := "isWord", desc := "(I)Z" } : Jvm.MethodName) ({ cls := "TallShipModel", name := "isWord", desc := "(I)Z" } : Jvm.MethodName)) ∈ zT := zT_mem 39 (by decide +kernel) (by decide +kernel)
theorem zw40 : (Jvm.Cond.selects "TallShipModel" ({ cls := "TallShipModel", name := "wrong", desc := "(I)V" } : Jvm.MethodName) ({ cls := "TallShipModel", name := "wrong", desc := "(I)V" } : Jvm.MethodName)) ∈ zT := zT_mem 40 (by decide +kernel) (by decide +kernel)
theorem zw41 : (Jvm.Cond.selects "TallShipModel" ({ cls := "TallShipModel", name := "here", desc := "()I" } : Jvm.MethodName) ({ cls := "TallShipModel", name := "here", desc := "()I" } : Jvm.MethodName)) ∈ zT := zT_mem 41 (by decide +kernel) (by decide +kernel)
theorem zw42 : (Jvm.Cond.selects "TallShipModel" ({ cls := "TallShipModel", name := "choice", desc := "(II)V" } : Jvm.MethodName) ({ cls := "TallShipModel", name := "choice", desc := "(II)V" } : Jvm.MethodName)) ∈ zT := zT_mem 42 (by decide +kernel) (by decide +kernel)
theorem zw43 : (Jvm.Cond.selects "TallShipModel" ({ cls := "TallShipModel", name := "expression", desc := "()V" } : Jvm.MethodName) ({ cls := "TallShipModel", name := "expression", desc := "()V" } : Jvm.MethodName)) ∈ zT := zT_mem 43 (by decide +kernel) (by decide +kernel)
theorem zw44 : (Jvm.Cond.selects "TallShipModel" ({ cls := "TallShipModel", name := "sum", desc := "()V" } : Jvm.MethodName) ({ cls := "TallShipModel", name := "sum", desc := "()V" } : Jvm.MethodName)) ∈ zT := zT_mem 44 (by decide +kernel) (by decide +kernel)
theorem zw45 : (Jvm.Cond.selects "TallShipModel" ({ cls := "TallShipModel", name := "part", desc := "()V" } : Jvm.MethodName) ({ cls := "TallShipModel", name := "part", desc := "()V" } : Jvm.MethodName)) ∈ zT := zT_mem 45 (by decide +kernel) (by decide +kernel)
theorem zw46 : (Jvm.Cond.selects "TallShipModel" ({ cls := "TallShipModel", name := "emit", desc := "(III)I" } : Jvm.MethodName) ({ cls := "TallShipModel", name := "emit", desc := "(III)I" } : Jvm.MethodName)) ∈ zT := zT_mem 46 (by decide +kernel) (by decide +kernel)
theorem zw47 : (Jvm.Cond.selects "TallShipModel" ({ cls := "TallShipModel", name := "isSign", desc := "(I)Z" } : Jvm.MethodName) ({ cls := "TallShipModel", name := "isSign", desc := "(I)Z" } : Jvm.MethodName)) ∈ zT := zT_mem 47 (by decide +kernel) (by decide +kernel)
theorem zw48 : (Jvm.Cond.selects "TallShipModel" ({ cls := "TallShipModel", name := "block", desc := "()V" } : Jvm.MethodName) ({ cls := "TallShipModel", name := "block", desc := "()V" } : Jvm.MethodName)) ∈ zT := zT_mem 48 (by decide +kernel) (by decide +kernel)
theorem zw49 : (Jvm.Cond.selects "TallShipModel" ({ cls := "TallShipModel", name := "takeSign", desc := "(I)V" } : Jvm.MethodName) ({ cls := "TallShipModel", name := "takeSign", desc := "(I)V" } : Jvm.MethodName)) ∈ zT := zT_mem 49 (by decide +kernel) (by decide +kernel)
theorem zw50 : (Jvm.Cond.selects "TallShipModel" ({ cls := "TallShipModel", name := "hasWord", desc := "(I)Z" } : Jvm.MethodName) ({ cls := "TallShipModel", name := "hasWord", desc := "(I)Z" } : Jvm.MethodName)) ∈ zT := zT_mem 50 (by decide +kernel) (by decide +kernel)
theorem zw51 : (Jvm.Cond.selects "TallShipModel" ({ cls := "TallShipModel", name := "takeNumber", desc := "(II)I" } : Jvm.MethodName) ({ cls := "TallShipModel", name := "takeNumber", desc := "(II)I" } : Jvm.MethodName)) ∈ zT := zT_mem 51 (by decide +kernel) (by decide +kernel)
theorem zw52 : (Jvm.Cond.selects "TallShipModel" ({ cls := "TallShipModel", name := "goes", desc := "()V" } : Jvm.MethodName) ({ cls := "TallShipModel", name := "goes", desc := "()V" } : Jvm.MethodName)) ∈ zT := zT_mem 52 (by decide +kernel) (by decide +kernel)
theorem zw53 : (Jvm.Cond.selects "TallShipModel" ({ cls := "TallShipModel", name := "point", desc := "()I" } : Jvm.MethodName) ({ cls := "TallShipModel", name := "point", desc := "()I" } : Jvm.MethodName)) ∈ zT := zT_mem 53 (by decide +kernel) (by decide +kernel)
theorem zw54 : (Jvm.Cond.selects "TallShipModel" ({ cls := "TallShipModel", name := "windNow", desc := "()I" } : Jvm.MethodName) ({ cls := "TallShipModel", name := "windNow", desc := "()I" } : Jvm.MethodName)) ∈ zT := zT_mem 54 (by decide +kernel) (by decide +kernel)
theorem zw55 : (Jvm.Cond.selects "TallShipModel" ({ cls := "TallShipModel", name := "force", desc := "()I" } : Jvm.MethodName) ({ cls := "TallShipModel", name := "force", desc := "()I" } : Jvm.MethodName)) ∈ zT := zT_mem 55 (by decide +kernel) (by decide +kernel)
theorem zw56 : (Jvm.Cond.selects "TallShipModel" ({ cls := "TallShipModel", name := "endWorks", desc := "()V" } : Jvm.MethodName) ({ cls := "TallShipModel", name := "endWorks", desc := "()V" } : Jvm.MethodName)) ∈ zT := zT_mem 56 (by decide +kernel) (by decide +kernel)
theorem zw57 : (Jvm.Cond.selects "TallShipModel" ({ cls := "TallShipModel", name := "ended", desc := "(III)V" } : Jvm.MethodName) ({ cls := "TallShipModel", name := "ended", desc := "(III)V" } : Jvm.MethodName)) ∈ zT := zT_mem 57 (by decide +kernel) (by decide +kernel)
theorem zw58 : (Jvm.Cond.selects "TallShipModel" ({ cls := "TallShipModel", name := "gives", desc := "(I)V" } : Jvm.MethodName) ({ cls := "TallShipModel", name := "gives", desc := "(I)V" } : Jvm.MethodName)) ∈ zT := zT_mem 58 (by decide +kernel) (by decide +kernel)
theorem zw59 : (Jvm.Cond.selects "TallShipModel" ({ cls := "TallShipModel", name := "carries", desc := "()V" } : Jvm.MethodName) ({ cls := "TallShipModel", name := "carries", desc := "()V" } : Jvm.MethodName)) ∈ zT := zT_mem 59 (by decide +kernel) (by decide +kernel)
theorem zw60 : (Jvm.Cond.selects "TallShipModel" ({ cls := "TallShipModel", name := "reckons", desc := "(II)V" } : Jvm.MethodName) ({ cls := "TallShipModel", name := "reckons", desc := "(II)V" } : Jvm.MethodName)) ∈ zT := zT_mem 60 (by decide +kernel) (by decide +kernel)
theorem zw61 : (Jvm.Cond.selects "TallShipModel" ({ cls := "TallShipModel", name := "partOf", desc := "(I)I" } : Jvm.MethodName) ({ cls := "TallShipModel", name := "partOf", desc := "(I)I" } : Jvm.MethodName)) ∈ zT := zT_mem 61 (by decide +kernel) (by decide +kernel)
theorem zw62 : (Jvm.Cond.selects "TallShipModel" ({ cls := "TallShipModel", name := "loadNow", desc := "()I" } : Jvm.MethodName) ({ cls := "TallShipModel", name := "loadNow", desc := "()I" } : Jvm.MethodName)) ∈ zT := zT_mem 62 (by decide +kernel) (by decide +kernel)
theorem zw63 : (Jvm.Cond.selects "TallShipModel" ({ cls := "TallShipModel", name := "begins", desc := "(III)Z" } : Jvm.MethodName) ({ cls := "TallShipModel", name := "begins", desc := "(III)Z" } : Jvm.MethodName)) ∈ zT := zT_mem 63 (by decide +kernel) (by decide +kernel)
theorem zw64 : (Jvm.Cond.selects "TallShipModel" ({ cls := "TallShipModel", name := "isBarred", desc := "(II)Z" } : Jvm.MethodName) ({ cls := "TallShipModel", name := "isBarred", desc := "(II)Z" } : Jvm.MethodName)) ∈ zT := zT_mem 64 (by decide +kernel) (by decide +kernel)
theorem zw65 : (Jvm.Cond.selects "TallShipModel" ({ cls := "TallShipModel", name := "isUnder", desc := "(II)Z" } : Jvm.MethodName) ({ cls := "TallShipModel", name := "isUnder", desc := "(II)Z" } : Jvm.MethodName)) ∈ zT := zT_mem 65 (by decide +kernel) (by decide +kernel)
theorem zw66 : (Jvm.Cond.selects "TallShipModel" ({ cls := "TallShipModel", name := "isMeant", desc := "(III)Z" } : Jvm.MethodName) ({ cls := "TallShipModel", name := "isMeant", desc := "(III)Z" } : Jvm.MethodName)) ∈ zT := zT_mem 66 (by decide +kernel) (by decide +kernel)
theorem zw67 : (Jvm.Cond.selects "TallShipModel" ({ cls := "TallShipModel", name := "isOnDeck", desc := "(I)Z" } : Jvm.MethodName) ({ cls := "TallShipModel", name := "isOnDeck", desc := "(I)Z" } : Jvm.MethodName)) ∈ zT := zT_mem 67 (by decide +kernel) (by decide +kernel)
theorem zw68 : (Jvm.Cond.selects "TallShipModel" ({ cls := "TallShipModel", name := "carriesOut", desc := "(I)V" } : Jvm.MethodName) ({ cls := "TallShipModel", name := "carriesOut", desc := "(I)V" } : Jvm.MethodName)) ∈ zT := zT_mem 68 (by decide +kernel) (by decide +kernel)
theorem zw69 : (Jvm.Cond.selects "TallShipModel" ({ cls := "TallShipModel", name := "sails", desc := "()V" } : Jvm.MethodName) ({ cls := "TallShipModel", name := "sails", desc := "()V" } : Jvm.MethodName)) ∈ zT := zT_mem 69 (by decide +kernel) (by decide +kernel)
theorem zw70 : (Jvm.Cond.selects "TallShipModel" ({ cls := "TallShipModel", name := "loads", desc := "(II)V" } : Jvm.MethodName) ({ cls := "TallShipModel", name := "loads", desc := "(II)V" } : Jvm.MethodName)) ∈ zT := zT_mem 70 (by decide +kernel) (by decide +kernel)
theorem zw71 : (Jvm.Cond.selects "TallShipModel" ({ cls := "TallShipModel", name := "marksForth", desc := "(I)V" } : Jvm.MethodName) ({ cls := "TallShipModel", name := "marksForth", desc := "(I)V" } : Jvm.MethodName)) ∈ zT := zT_mem 71 (by decide +kernel) (by decide +kernel)
theorem zw72 : (Jvm.Cond.selects "TallShipModel" ({ cls := "TallShipModel", name := "leads", desc := "(III)I" } : Jvm.MethodName) ({ cls := "TallShipModel", name := "leads", desc := "(III)I" } : Jvm.MethodName)) ∈ zT := zT_mem 72 (by decide +kernel) (by decide +kernel)
theorem zw73 : (Jvm.Cond.selects "TallShipModel" ({ cls := "TallShipModel", name := "marksBack", desc := "(I)V" } : Jvm.MethodName) ({ cls := "TallShipModel", name := "marksBack", desc := "(I)V" } : Jvm.MethodName)) ∈ zT := zT_mem 73 (by decide +kernel) (by decide +kernel)
theorem zw74 : (Jvm.Cond.initialized "TallShipLaw") ∈ zT := zT_mem 74 (by decide +kernel) (by decide +kernel)
theorem zw75 : (Jvm.Cond.initialized "TallShip") ∈ zT := zT_mem 75 (by decide +kernel) (by decide +kernel)
theorem zw76 : (Jvm.Cond.initialized "TallShip$Rig") ∈ zT := zT_mem 76 (by decide +kernel) (by decide +kernel)
theorem zw77 : (Jvm.Cond.initialized "TallShip$Winds") ∈ zT := zT_mem 77 (by decide +kernel) (by decide +kernel)
theorem zw78 : (Jvm.Cond.initialized "TallShip$Tape") ∈ zT := zT_mem 78 (by decide +kernel) (by decide +kernel)
theorem zw79 : (Jvm.Cond.initialized "TallShip$Reader") ∈ zT := zT_mem 79 (by decide +kernel) (by decide +kernel)
theorem zw80 : (Jvm.Cond.initialized "TallShip$Passage") ∈ zT := zT_mem 80 (by decide +kernel) (by decide +kernel)
theorem zw81 : (Jvm.Cond.initialized "TallShip$Script") ∈ zT := zT_mem 81 (by decide +kernel) (by decide +kernel)
theorem zw82 : (Jvm.Cond.initialized "TallShip$Crew") ∈ zT := zT_mem 82 (by decide +kernel) (by decide +kernel)
theorem zw83 : (Jvm.Cond.initialized "TallShipModel") ∈ zT := zT_mem 83 (by decide +kernel) (by decide +kernel)
theorem zw84 : (Jvm.Cond.initialized "java/lang/String") ∈ zT := zT_mem 84 (by decide +kernel) (by decide +kernel)
theorem zw85 : (Jvm.Cond.initialized "java/lang/StringLatin1") ∈ zT := zT_mem 85 (by decide +kernel) (by decide +kernel)
theorem zw86 : (Jvm.Cond.initialized "jdk/internal/util/Preconditions") ∈ zT := zT_mem 86 (by decide +kernel) (by decide +kernel)
theorem zw87 : (Jvm.Cond.initialized "java/lang/StringUTF16") ∈ zT := zT_mem 87 (by decide +kernel) (by decide +kernel)
theorem zw88 : (Jvm.Cond.initialized "TallShip$Compass") ∈ zT := zT_mem 88 (by decide +kernel) (by decide +kernel)
theorem zw89 : (Jvm.Cond.initialized "java/lang/Math") ∈ zT := zT_mem 89 (by decide +kernel) (by decide +kernel)
theorem zw90 : (Jvm.Cond.initialized "java/lang/Throwable") ∈ zT := zT_mem 90 (by decide +kernel) (by decide +kernel)
theorem zw91 : (Jvm.Cond.initialized "java/lang/Exception") ∈ zT := zT_mem 91 (by decide +kernel) (by decide +kernel)
theorem zw92 : (Jvm.Cond.initialized "java/lang/RuntimeException") ∈ zT := zT_mem 92 (by decide +kernel) (by decide +kernel)
theorem zw93 : (Jvm.Cond.initialized "java/util/NoSuchElementException") ∈ zT := zT_mem 93 (by decide +kernel) (by decide +kernel)
theorem zw94 : (Jvm.Cond.classLink "TallShipLaw" (8 : Nat) "TallShip") ∈ zT := zT_mem 94 (by decide +kernel) (by decide +kernel)
theorem zw95 : (Jvm.Cond.instantiable "TallShip" (18 : Nat)) ∈ zT := zT_mem 95 (by decide +kernel) (by decide +kernel)
theorem zw96 : (Jvm.Cond.methodLink "TallShipLaw" (21 : Nat) ({ cls := "TallShip", name := "<init>", desc := "(I)V" } : Jvm.MethodName)) ∈ zT := zT_mem 96 (by decide +kernel) (by decide +kernel)
theorem zw97 : (Jvm.Cond.instanceMethod ({ cls := "TallShip", name := "<init>", desc := "(I)V" } : Jvm.MethodName)) ∈ zT := zT_mem 97 (by decide +kernel) (by decide +kernel)
theorem zw98 : (Jvm.Cond.code ({ cls := "TallShip", name := "<init>", desc := "(I)V" } : Jvm.MethodName) prog_1_method_1_code (2 : Nat) (Option.none : Option Jvm.ClassFile.FieldType)) ∈ zT := zT_mem 98 (by decide +kernel) (by decide +kernel)
theorem zw99 : (Jvm.Cond.methodLink "TallShip" (1 : Nat) ({ cls := "java/lang/Object", name := "<init>", desc := "()V" } : Jvm.MethodName)) ∈ zT := zT_mem 99 (by decide +kernel) (by decide +kernel)
theorem zw100 : (Jvm.Cond.instanceMethod ({ cls := "java/lang/Object", name := "<init>", desc := "()V" } : Jvm.MethodName)) ∈ zT := zT_mem 100 (by decide +kernel) (by decide +kernel)
theorem zw101 : (Jvm.Cond.code ({ cls := "java/lang/Object", name := "<init>", desc := "()V" } : Jvm.MethodName) object_method_1_code (1 : Nat) (Option.none : Option Jvm.ClassFile.FieldType)) ∈ zT := zT_mem 101 (by decide +kernel) (by decide +kernel)
theorem zw102 : (Jvm.Cond.classLink "TallShip" (7 : Nat) "TallShip$Rig") ∈ zT := zT_mem 102 (by decide +kernel) (by decide +kernel)
theorem zw103 : (Jvm.Cond.instantiable "TallShip$Rig" (8 : Nat)) ∈ zT := zT_mem 103 (by decide +kernel) (by decide +kernel)
theorem zw104 : (Jvm.Cond.methodLink "TallShip" (9 : Nat) ({ cls := "TallShip$Rig", name := "<init>", desc := "()V" } : Jvm.MethodName)) ∈ zT := zT_mem 104 (by decide +kernel) (by decide +kernel)
theorem zw105 : (Jvm.Cond.instanceMethod ({ cls := "TallShip$Rig", name := "<init>", desc := "()V" } : Jvm.MethodName)) ∈ zT := zT_mem 105 (by decide +kernel) (by decide +kernel)
theorem zw106 : (Jvm.Cond.code ({ cls := "TallShip$Rig", name := "<init>", desc := "()V" } : Jvm.MethodName) prog_6_method_1_code (2 : Nat) (Option.none : Option Jvm.ClassFile.FieldType)) ∈ zT := zT_mem 106 (by decide +kernel) (by decide +kernel)
theorem zw107 : (Jvm.Cond.methodLink "TallShip$Rig" (3 : Nat) ({ cls := "java/lang/Object", name := "<init>", desc := "()V" } : Jvm.MethodName)) ∈ zT := zT_mem 107 (by decide +kernel) (by decide +kernel)
theorem zw108 : (Jvm.Cond.fieldLink "TallShip$Rig" (11 : Nat) "TallShip$Rig" "sailState" "[I") ∈ zT := zT_mem 108 (by decide +kernel) (by decide +kernel)
theorem zw109 : (Jvm.Cond.fieldLink "TallShip" (97 : Nat) "TallShip$Rig" "sailState" "[I") ∈ zT := zT_mem 109 (by decide +kernel) (by decide +kernel)
theorem zw110 : (Jvm.Cond.fieldLink "TallShip$Rig" (15 : Nat) "TallShip$Rig" "ropeState" "[I") ∈ zT := zT_mem 110 (by decide +kernel) (by decide +kernel)
theorem zw111 : (Jvm.Cond.fieldLink "TallShip" (103 : Nat) "TallShip$Rig" "ropeState" "[I") ∈ zT := zT_mem 111 (by decide +kernel) (by decide +kernel)
theorem zw112 : (Jvm.Cond.fieldLink "TallShip$Rig" (18 : Nat) "TallShip$Rig" "wear" "[I") ∈ zT := zT_mem 112 (by decide +kernel) (by decide +kernel)
theorem zw113 : (Jvm.Cond.fieldLink "TallShip" (106 : Nat) "TallShip$Rig" "wear" "[I") ∈ zT := zT_mem 113 (by decide +kernel) (by decide +kernel)
theorem zw114 : (Jvm.Cond.fieldLink "TallShip$Rig" (21 : Nat) "TallShip$Rig" "yards" "[I") ∈ zT := zT_mem 114 (by decide +kernel) (by decide +kernel)
theorem zw115 : (Jvm.Cond.fieldLink "TallShip" (112 : Nat) "TallShip$Rig" "yards" "[I") ∈ zT := zT_mem 115 (by decide +kernel) (by decide +kernel)
theorem zw116 : (Jvm.Cond.fieldLink "TallShip$Rig" (24 : Nat) "TallShip$Rig" "sailLead" "[I") ∈ zT := zT_mem 116 (by decide +kernel) (by decide +kernel)
theorem zw117 : (Jvm.Cond.fieldLink "TallShip" (100 : Nat) "TallShip$Rig" "sailLead" "[I") ∈ zT := zT_mem 117 (by decide +kernel) (by decide +kernel)
theorem zw118 : (Jvm.Cond.fieldLink "TallShip$Rig" (27 : Nat) "TallShip$Rig" "ropeLead" "[I") ∈ zT := zT_mem 118 (by decide +kernel) (by decide +kernel)
theorem zw119 : (Jvm.Cond.fieldLink "TallShip" (109 : Nat) "TallShip$Rig" "ropeLead" "[I") ∈ zT := zT_mem 119 (by decide +kernel) (by decide +kernel)
theorem zw120 : (Jvm.Cond.fieldLink "TallShip$Rig" (30 : Nat) "TallShip$Rig" "yardLead" "[I") ∈ zT := zT_mem 120 (by decide +kernel) (by decide +kernel)
theorem zw121 : (Jvm.Cond.fieldLink "TallShip" (159 : Nat) "TallShip$Rig" "parted" "I") ∈ zT := zT_mem 121 (by decide +kernel) (by decide +kernel)
theorem zw122 : (Jvm.Cond.fieldLink "TallShip$Rig" (79 : Nat) "TallShip$Rig" "parted" "I") ∈ zT := zT_mem 122 (by decide +kernel) (by decide +kernel)
theorem zw123 : (Jvm.Cond.laysFinal "TallShip$Rig" "TallShip$Rig" "sailState" "[I") ∈ zT := zT_mem 123 (by decide +kernel) (by decide +kernel)
theorem zw125 : (Jvm.Cond.laysFinal "TallShip$Rig" "TallShip$Rig" "ropeState" "[I") ∈ zT := zT_mem 125 (by decide +kernel) (by decide +kernel)
theorem zw127 : (Jvm.Cond.laysFinal "TallShip$Rig" "TallShip$Rig" "wear" "[I") ∈ zT := zT_mem 127 (by decide +kernel) (by decide +kernel)
theorem zw129 : (Jvm.Cond.laysFinal "TallShip$Rig" "TallShip$Rig" "yards" "[I") ∈ zT := zT_mem 129 (by decide +kernel) (by decide +kernel)
theorem zw131 : (Jvm.Cond.laysFinal "TallShip$Rig" "TallShip$Rig" "sailLead" "[I") ∈ zT := zT_mem 131 (by decide +kernel) (by decide +kernel)
theorem zw133 : (Jvm.Cond.laysFinal "TallShip$Rig" "TallShip$Rig" "ropeLead" "[I") ∈ zT := zT_mem 133 (by decide +kernel) (by decide +kernel)
theorem zw135 : (Jvm.Cond.laysFinal "TallShip$Rig" "TallShip$Rig" "yardLead" "[I") ∈ zT := zT_mem 135 (by decide +kernel) (by decide +kernel)
theorem zw137 : (Jvm.Cond.lays "TallShip$Rig" "TallShip$Rig" "parted" "I") ∈ zT := zT_mem 137 (by decide +kernel) (by decide +kernel)
theorem zw140 : (Jvm.Cond.arrayClass Jvm.ClassFile.FieldType.int) ∈ zT := zT_mem 140 (by decide +kernel) (by decide +kernel)
theorem zw141 : (Jvm.Cond.classLink "TallShip" (16 : Nat) "TallShip$Winds") ∈ zT := zT_mem 141 (by decide +kernel) (by decide +kernel)
theorem zw142 : (Jvm.Cond.instantiable "TallShip$Winds" (7 : Nat)) ∈ zT := zT_mem 142 (by decide +kernel) (by decide +kernel)
theorem zw144 : (Jvm.Cond.instanceMethod ({ cls := "TallShip$Winds", name := "<init>", desc := "()V" } : Jvm.MethodName)) ∈ zT := zT_mem 144 (by decide +kernel) (by decide +kernel)
theorem zw145 : (Jvm.Cond.code ({ cls := "TallShip$Winds", name := "<init>", desc := "()V" } : Jvm.MethodName) prog_9_method_1_code (1 : Nat) (Option.none : Option Jvm.ClassFile.FieldType)) ∈ zT := zT_mem 145 (by decide +kernel) (by decide +kernel)
theorem zw146 : (Jvm.Cond.methodLink "TallShip$Winds" (1 : Nat) ({ cls := "java/lang/Object", name := "<init>", desc := "()V" } : Jvm.MethodName)) ∈ zT := zT_mem 146 (by decide +kernel) (by decide +kernel)
theorem zw147 : (Jvm.Cond.fieldLink "TallShip$Winds" (9 : Nat) "TallShip$Winds" "starts" "[I") ∈ zT := zT_mem 147 (by decide +kernel) (by decide +kernel)
theorem zw148 : (Jvm.Cond.fieldLink "TallShip$Winds" (13 : Nat) "TallShip$Winds" "points" "[I") ∈ zT := zT_mem 148 (by decide +kernel) (by decide +kernel)
theorem zw149 : (Jvm.Cond.fieldLink "TallShip$Winds" (16 : Nat) "TallShip$Winds" "forces" "[I") ∈ zT := zT_mem 149 (by decide +kernel) (by decide +kernel)
theorem zw150 : (Jvm.Cond.fieldLink "TallShip$Winds" (26 : Nat) "TallShip$Winds" "rows" "I") ∈ zT := zT_mem 150 (by decide +kernel) (by decide +kernel)
theorem zw151 : (Jvm.Cond.fieldLink "TallShip$Winds" (30 : Nat) "TallShip$Winds" "begun" "Z") ∈ zT := zT_mem 151 (by decide +kernel) (by decide +kernel)
theorem zw152 : (Jvm.Cond.fieldLink "TallShip$Winds" (38 : Nat) "TallShip$Winds" "point" "I") ∈ zT := zT_mem 152 (by decide +kernel) (by decide +kernel)
theorem zw153 : (Jvm.Cond.fieldLink "TallShip" (168 : Nat) "TallShip$Winds" "point" "I") ∈ zT := zT_mem 153 (by decide +kernel) (by decide +kernel)
theorem zw154 : (Jvm.Cond.fieldLink "TallShip$Winds" (41 : Nat) "TallShip$Winds" "force" "I") ∈ zT := zT_mem 154 (by decide +kernel) (by decide +kernel)
theorem zw155 : (Jvm.Cond.fieldLink "TallShip" (171 : Nat) "TallShip$Winds" "force" "I") ∈ zT := zT_mem 155 (by decide +kernel) (by decide +kernel)
theorem zw156 : (Jvm.Cond.laysFinal "TallShip$Winds" "TallShip$Winds" "starts" "[I") ∈ zT := zT_mem 156 (by decide +kernel) (by decide +kernel)
theorem zw158 : (Jvm.Cond.laysFinal "TallShip$Winds" "TallShip$Winds" "points" "[I") ∈ zT := zT_mem 158 (by decide +kernel) (by decide +kernel)
theorem zw160 : (Jvm.Cond.laysFinal "TallShip$Winds" "TallShip$Winds" "forces" "[I") ∈ zT := zT_mem 160 (by decide +kernel) (by decide +kernel)
theorem zw162 : (Jvm.Cond.lays "TallShip$Winds" "TallShip$Winds" "rows" "I") ∈ zT := zT_mem 162 (by decide +kernel) (by decide +kernel)
theorem zw164 : (Jvm.Cond.lays "TallShip$Winds" "TallShip$Winds" "begun" "Z") ∈ zT := zT_mem 164 (by decide +kernel) (by decide +kernel)
theorem zw166 : (Jvm.Cond.lays "TallShip$Winds" "TallShip$Winds" "point" "I") ∈ zT := zT_mem 166 (by decide +kernel) (by decide +kernel)
theorem zw168 : (Jvm.Cond.lays "TallShip$Winds" "TallShip$Winds" "force" "I") ∈ zT := zT_mem 168 (by decide +kernel) (by decide +kernel)
theorem zw171 : (Jvm.Cond.classLink "TallShip" (23 : Nat) "TallShip$Tape") ∈ zT := zT_mem 171 (by decide +kernel) (by decide +kernel)
theorem zw172 : (Jvm.Cond.instantiable "TallShip$Tape" (6 : Nat)) ∈ zT := zT_mem 172 (by decide +kernel) (by decide +kernel)
theorem zw174 : (Jvm.Cond.instanceMethod ({ cls := "TallShip$Tape", name := "<init>", desc := "()V" } : Jvm.MethodName)) ∈ zT := zT_mem 174 (by decide +kernel) (by decide +kernel)
theorem zw175 : (Jvm.Cond.code ({ cls := "TallShip$Tape", name := "<init>", desc := "()V" } : Jvm.MethodName) prog_8_method_1_code (1 : Nat) (Option.none : Option Jvm.ClassFile.FieldType)) ∈ zT := zT_mem 175 (by decide +kernel) (by decide +kernel)
theorem zw176 : (Jvm.Cond.methodLink "TallShip$Tape" (1 : Nat) ({ cls := "java/lang/Object", name := "<init>", desc := "()V" } : Jvm.MethodName)) ∈ zT := zT_mem 176 (by decide +kernel) (by decide +kernel)
theorem zw177 : (Jvm.Cond.fieldLink "TallShip$Tape" (9 : Nat) "TallShip$Tape" "signs" "[C") ∈ zT := zT_mem 177 (by decide +kernel) (by decide +kernel)
theorem zw178 : (Jvm.Cond.fieldLink "TallShip" (73 : Nat) "TallShip$Tape" "length" "I") ∈ zT := zT_mem 178 (by decide +kernel) (by decide +kernel)
theorem zw179 : (Jvm.Cond.fieldLink "TallShip$Tape" (13 : Nat) "TallShip$Tape" "length" "I") ∈ zT := zT_mem 179 (by decide +kernel) (by decide +kernel)
theorem zw180 : (Jvm.Cond.fieldLink "TallShip$Reader" (41 : Nat) "TallShip$Tape" "kind" "I") ∈ zT := zT_mem 180 (by decide +kernel) (by decide +kernel)
theorem zw181 : (Jvm.Cond.fieldLink "TallShip$Tape" (26 : Nat) "TallShip$Tape" "kind" "I") ∈ zT := zT_mem 181 (by decide +kernel) (by decide +kernel)
theorem zw182 : (Jvm.Cond.fieldLink "TallShip$Tape" (23 : Nat) "TallShip$Tape" "place" "I") ∈ zT := zT_mem 182 (by decide +kernel) (by decide +kernel)
theorem zw183 : (Jvm.Cond.fieldLink "TallShip$Reader" (54 : Nat) "TallShip$Tape" "place" "I") ∈ zT := zT_mem 183 (by decide +kernel) (by decide +kernel)
theorem zw184 : (Jvm.Cond.fieldLink "TallShip$Tape" (37 : Nat) "TallShip$Tape" "value" "I") ∈ zT := zT_mem 184 (by decide +kernel) (by decide +kernel)
theorem zw185 : (Jvm.Cond.fieldLink "TallShip$Reader" (126 : Nat) "TallShip$Tape" "value" "I") ∈ zT := zT_mem 185 (by decide +kernel) (by decide +kernel)
theorem zw186 : (Jvm.Cond.fieldLink "TallShip$Tape" (17 : Nat) "TallShip$Tape" "next" "I") ∈ zT := zT_mem 186 (by decide +kernel) (by decide +kernel)
theorem zw187 : (Jvm.Cond.laysFinal "TallShip$Tape" "TallShip$Tape" "signs" "[C") ∈ zT := zT_mem 187 (by decide +kernel) (by decide +kernel)
theorem zw189 : (Jvm.Cond.lays "TallShip$Tape" "TallShip$Tape" "length" "I") ∈ zT := zT_mem 189 (by decide +kernel) (by decide +kernel)
theorem zw191 : (Jvm.Cond.lays "TallShip$Tape" "TallShip$Tape" "kind" "I") ∈ zT := zT_mem 191 (by decide +kernel) (by decide +kernel)
theorem zw193 : (Jvm.Cond.lays "TallShip$Tape" "TallShip$Tape" "place" "I") ∈ zT := zT_mem 193 (by decide +kernel) (by decide +kernel)
theorem zw195 : (Jvm.Cond.lays "TallShip$Tape" "TallShip$Tape" "value" "I") ∈ zT := zT_mem 195 (by decide +kernel) (by decide +kernel)
theorem zw197 : (Jvm.Cond.lays "TallShip$Tape" "TallShip$Tape" "next" "I") ∈ zT := zT_mem 197 (by decide +kernel) (by decide +kernel)
theorem zw200 : (Jvm.Cond.arrayClass Jvm.ClassFile.FieldType.char) ∈ zT := zT_mem 200 (by decide +kernel) (by decide +kernel)
theorem zw201 : (Jvm.Cond.classLink "TallShip" (30 : Nat) "TallShip$Reader") ∈ zT := zT_mem 201 (by decide +kernel) (by decide +kernel)
theorem zw202 : (Jvm.Cond.instantiable "TallShip$Reader" (4 : Nat)) ∈ zT := zT_mem 202 (by decide +kernel) (by decide +kernel)
theorem zw203 : (Jvm.Cond.methodLink "TallShip" (32 : Nat) ({ cls := "TallShip$Reader", name := "<init>", desc := "(LTallShip$Tape;)V" } : Jvm.MethodName)) ∈ zT := zT_mem 203 (by decide +kernel) (by decide +kernel)
theorem zw204 : (Jvm.Cond.instanceMethod ({ cls := "TallShip$Reader", name := "<init>", desc := "(LTallShip$Tape;)V" } : Jvm.MethodName)) ∈ zT := zT_mem 204 (by decide +kernel) (by decide +kernel)
theorem zw205 : (Jvm.Cond.code ({ cls := "TallShip$Reader", name := "<init>", desc := "(LTallShip$Tape;)V" } : Jvm.MethodName) prog_5_method_1_code (2 : Nat) (Option.none : Option Jvm.ClassFile.FieldType)) ∈ zT := zT_mem 205 (by decide +kernel) (by decide +kernel)
theorem zw206 : (Jvm.Cond.methodLink "TallShip$Reader" (3 : Nat) ({ cls := "java/lang/Object", name := "<init>", desc := "()V" } : Jvm.MethodName)) ∈ zT := zT_mem 206 (by decide +kernel) (by decide +kernel)
theorem zw207 : (Jvm.Cond.fieldLink "TallShip$Reader" (15 : Nat) "TallShip$Reader" "tape" "LTallShip$Tape;") ∈ zT := zT_mem 207 (by decide +kernel) (by decide +kernel)
theorem zw208 : (Jvm.Cond.fieldLink "TallShip$Reader" (11 : Nat) "TallShip$Reader" "open" "[I") ∈ zT := zT_mem 208 (by decide +kernel) (by decide +kernel)
theorem zw209 : (Jvm.Cond.fieldLink "TallShip$Reader" (29 : Nat) "TallShip$Reader" "depth" "I") ∈ zT := zT_mem 209 (by decide +kernel) (by decide +kernel)
theorem zw210 : (Jvm.Cond.fieldLink "TallShip$Reader" (19 : Nat) "TallShip$Reader" "script" "LTallShip$Script;") ∈ zT := zT_mem 210 (by decide +kernel) (by decide +kernel)
theorem zw211 : (Jvm.Cond.laysFinal "TallShip$Reader" "TallShip$Reader" "tape" "LTallShip$Tape;") ∈ zT := zT_mem 211 (by decide +kernel) (by decide +kernel)
theorem zw213 : (Jvm.Cond.laysFinal "TallShip$Reader" "TallShip$Reader" "open" "[I") ∈ zT := zT_mem 213 (by decide +kernel) (by decide +kernel)
theorem zw215 : (Jvm.Cond.lays "TallShip$Reader" "TallShip$Reader" "depth" "I") ∈ zT := zT_mem 215 (by decide +kernel) (by decide +kernel)
theorem zw217 : (Jvm.Cond.lays "TallShip$Reader" "TallShip$Reader" "script" "LTallShip$Script;") ∈ zT := zT_mem 217 (by decide +kernel) (by decide +kernel)
theorem zw220 : (Jvm.Cond.classLink "TallShip" (39 : Nat) "TallShip$Passage") ∈ zT := zT_mem 220 (by decide +kernel) (by decide +kernel)
theorem zw221 : (Jvm.Cond.instantiable "TallShip$Passage" (6 : Nat)) ∈ zT := zT_mem 221 (by decide +kernel) (by decide +kernel)
theorem zw223 : (Jvm.Cond.instanceMethod ({ cls := "TallShip$Passage", name := "<init>", desc := "()V" } : Jvm.MethodName)) ∈ zT := zT_mem 223 (by decide +kernel) (by decide +kernel)
theorem zw224 : (Jvm.Cond.code ({ cls := "TallShip$Passage", name := "<init>", desc := "()V" } : Jvm.MethodName) prog_4_method_1_code (1 : Nat) (Option.none : Option Jvm.ClassFile.FieldType)) ∈ zT := zT_mem 224 (by decide +kernel) (by decide +kernel)
theorem zw225 : (Jvm.Cond.methodLink "TallShip$Passage" (5 : Nat) ({ cls := "java/lang/Object", name := "<init>", desc := "()V" } : Jvm.MethodName)) ∈ zT := zT_mem 225 (by decide +kernel) (by decide +kernel)
theorem zw226 : (Jvm.Cond.fieldLink "TallShip$Passage" (13 : Nat) "TallShip$Passage" "east" "[I") ∈ zT := zT_mem 226 (by decide +kernel) (by decide +kernel)
theorem zw227 : (Jvm.Cond.fieldLink "TallShip$Passage" (17 : Nat) "TallShip$Passage" "north" "[I") ∈ zT := zT_mem 227 (by decide +kernel) (by decide +kernel)
theorem zw228 : (Jvm.Cond.fieldLink "TallShip$Passage" (20 : Nat) "TallShip$Passage" "reached" "[J") ∈ zT := zT_mem 228 (by decide +kernel) (by decide +kernel)
theorem zw229 : (Jvm.Cond.fieldLink "TallShip$Passage" (24 : Nat) "TallShip$Passage" "leading" "[J") ∈ zT := zT_mem 229 (by decide +kernel) (by decide +kernel)
theorem zw230 : (Jvm.Cond.fieldLink "TallShip$Passage" (27 : Nat) "TallShip$Passage" "courses" "[I") ∈ zT := zT_mem 230 (by decide +kernel) (by decide +kernel)
theorem zw231 : (Jvm.Cond.fieldLink "TallShip" (182 : Nat) "TallShip$Passage" "courses" "[I") ∈ zT := zT_mem 231 (by decide +kernel) (by decide +kernel)
theorem zw232 : (Jvm.Cond.fieldLink "TallShip$Passage" (60 : Nat) "TallShip$Passage" "glasses" "I") ∈ zT := zT_mem 232 (by decide +kernel) (by decide +kernel)
theorem zw233 : (Jvm.Cond.fieldLink "TallShip" (179 : Nat) "TallShip$Passage" "glasses" "I") ∈ zT := zT_mem 233 (by decide +kernel) (by decide +kernel)
theorem zw234 : (Jvm.Cond.laysFinal "TallShip$Passage" "TallShip$Passage" "east" "[I") ∈ zT := zT_mem 234 (by decide +kernel) (by decide +kernel)
theorem zw236 : (Jvm.Cond.laysFinal "TallShip$Passage" "TallShip$Passage" "north" "[I") ∈ zT := zT_mem 236 (by decide +kernel) (by decide +kernel)
theorem zw238 : (Jvm.Cond.laysFinal "TallShip$Passage" "TallShip$Passage" "reached" "[J") ∈ zT := zT_mem 238 (by decide +kernel) (by decide +kernel)
theorem zw240 : (Jvm.Cond.laysFinal "TallShip$Passage" "TallShip$Passage" "leading" "[J") ∈ zT := zT_mem 240 (by decide +kernel) (by decide +kernel)
theorem zw242 : (Jvm.Cond.laysFinal "TallShip$Passage" "TallShip$Passage" "courses" "[I") ∈ zT := zT_mem 242 (by decide +kernel) (by decide +kernel)
theorem zw244 : (Jvm.Cond.lays "TallShip$Passage" "TallShip$Passage" "glasses" "I") ∈ zT := zT_mem 244 (by decide +kernel) (by decide +kernel)
theorem zw247 : (Jvm.Cond.arrayClass Jvm.ClassFile.FieldType.long) ∈ zT := zT_mem 247 (by decide +kernel) (by decide +kernel)
theorem zw248 : (Jvm.Cond.classLink "TallShip" (46 : Nat) "TallShip$Script") ∈ zT := zT_mem 248 (by decide +kernel) (by decide +kernel)
theorem zw249 : (Jvm.Cond.instantiable "TallShip$Script" (9 : Nat)) ∈ zT := zT_mem 249 (by decide +kernel) (by decide +kernel)
theorem zw251 : (Jvm.Cond.instanceMethod ({ cls := "TallShip$Script", name := "<init>", desc := "()V" } : Jvm.MethodName)) ∈ zT := zT_mem 251 (by decide +kernel) (by decide +kernel)
theorem zw252 : (Jvm.Cond.code ({ cls := "TallShip$Script", name := "<init>", desc := "()V" } : Jvm.MethodName) prog_7_method_1_code (1 : Nat) (Option.none : Option Jvm.ClassFile.FieldType)) ∈ zT := zT_mem 252 (by decide +kernel) (by decide +kernel)
theorem zw253 : (Jvm.Cond.methodLink "TallShip$Script" (3 : Nat) ({ cls := "java/lang/Object", name := "<init>", desc := "()V" } : Jvm.MethodName)) ∈ zT := zT_mem 253 (by decide +kernel) (by decide +kernel)
theorem zw254 : (Jvm.Cond.fieldLink "TallShip$Script" (36 : Nat) "TallShip$Script" "count" "I") ∈ zT := zT_mem 254 (by decide +kernel) (by decide +kernel)
theorem zw255 : (Jvm.Cond.fieldLink "TallShip$Reader" (23 : Nat) "TallShip$Script" "count" "I") ∈ zT := zT_mem 255 (by decide +kernel) (by decide +kernel)
theorem zw256 : (Jvm.Cond.fieldLink "TallShip" (165 : Nat) "TallShip$Script" "count" "I") ∈ zT := zT_mem 256 (by decide +kernel) (by decide +kernel)
theorem zw257 : (Jvm.Cond.fieldLink "TallShip$Script" (11 : Nat) "TallShip$Script" "verb" "[I") ∈ zT := zT_mem 257 (by decide +kernel) (by decide +kernel)
theorem zw258 : (Jvm.Cond.fieldLink "TallShip$Reader" (60 : Nat) "TallShip$Script" "verb" "[I") ∈ zT := zT_mem 258 (by decide +kernel) (by decide +kernel)
theorem zw259 : (Jvm.Cond.fieldLink "TallShip" (254 : Nat) "TallShip$Script" "verb" "[I") ∈ zT := zT_mem 259 (by decide +kernel) (by decide +kernel)
theorem zw260 : (Jvm.Cond.fieldLink "TallShip$Script" (15 : Nat) "TallShip$Script" "first" "[I") ∈ zT := zT_mem 260 (by decide +kernel) (by decide +kernel)
theorem zw261 : (Jvm.Cond.fieldLink "TallShip$Reader" (123 : Nat) "TallShip$Script" "first" "[I") ∈ zT := zT_mem 261 (by decide +kernel) (by decide +kernel)
theorem zw262 : (Jvm.Cond.fieldLink "TallShip" (251 : Nat) "TallShip$Script" "first" "[I") ∈ zT := zT_mem 262 (by decide +kernel) (by decide +kernel)
theorem zw263 : (Jvm.Cond.fieldLink "TallShip$Script" (18 : Nat) "TallShip$Script" "second" "[I") ∈ zT := zT_mem 263 (by decide +kernel) (by decide +kernel)
theorem zw264 : (Jvm.Cond.fieldLink "TallShip$Reader" (129 : Nat) "TallShip$Script" "second" "[I") ∈ zT := zT_mem 264 (by decide +kernel) (by decide +kernel)
theorem zw265 : (Jvm.Cond.fieldLink "TallShip" (267 : Nat) "TallShip$Script" "second" "[I") ∈ zT := zT_mem 265 (by decide +kernel) (by decide +kernel)
theorem zw266 : (Jvm.Cond.fieldLink "TallShip$Script" (21 : Nat) "TallShip$Script" "parent" "[I") ∈ zT := zT_mem 266 (by decide +kernel) (by decide +kernel)
theorem zw267 : (Jvm.Cond.fieldLink "TallShip$Script" (24 : Nat) "TallShip$Script" "middle" "[I") ∈ zT := zT_mem 267 (by decide +kernel) (by decide +kernel)
theorem zw268 : (Jvm.Cond.fieldLink "TallShip$Reader" (63 : Nat) "TallShip$Script" "middle" "[I") ∈ zT := zT_mem 268 (by decide +kernel) (by decide +kernel)
theorem zw269 : (Jvm.Cond.fieldLink "TallShip$Script" (27 : Nat) "TallShip$Script" "end" "[I") ∈ zT := zT_mem 269 (by decide +kernel) (by decide +kernel)
theorem zw270 : (Jvm.Cond.fieldLink "TallShip$Reader" (76 : Nat) "TallShip$Script" "end" "[I") ∈ zT := zT_mem 270 (by decide +kernel) (by decide +kernel)
theorem zw271 : (Jvm.Cond.fieldLink "TallShip$Script" (30 : Nat) "TallShip$Script" "after" "[I") ∈ zT := zT_mem 271 (by decide +kernel) (by decide +kernel)
theorem zw272 : (Jvm.Cond.fieldLink "TallShip" (273 : Nat) "TallShip$Script" "after" "[I") ∈ zT := zT_mem 272 (by decide +kernel) (by decide +kernel)
theorem zw273 : (Jvm.Cond.fieldLink "TallShip$Script" (33 : Nat) "TallShip$Script" "weights" "[I") ∈ zT := zT_mem 273 (by decide +kernel) (by decide +kernel)
theorem zw274 : (Jvm.Cond.lays "TallShip$Script" "TallShip$Script" "count" "I") ∈ zT := zT_mem 274 (by decide +kernel) (by decide +kernel)
theorem zw276 : (Jvm.Cond.laysFinal "TallShip$Script" "TallShip$Script" "verb" "[I") ∈ zT := zT_mem 276 (by decide +kernel) (by decide +kernel)
theorem zw278 : (Jvm.Cond.laysFinal "TallShip$Script" "TallShip$Script" "first" "[I") ∈ zT := zT_mem 278 (by decide +kernel) (by decide +kernel)
theorem zw280 : (Jvm.Cond.laysFinal "TallShip$Script" "TallShip$Script" "second" "[I") ∈ zT := zT_mem 280 (by decide +kernel) (by decide +kernel)
theorem zw282 : (Jvm.Cond.laysFinal "TallShip$Script" "TallShip$Script" "parent" "[I") ∈ zT := zT_mem 282 (by decide +kernel) (by decide +kernel)
theorem zw284 : (Jvm.Cond.laysFinal "TallShip$Script" "TallShip$Script" "middle" "[I") ∈ zT := zT_mem 284 (by decide +kernel) (by decide +kernel)
theorem zw286 : (Jvm.Cond.laysFinal "TallShip$Script" "TallShip$Script" "end" "[I") ∈ zT := zT_mem 286 (by decide +kernel) (by decide +kernel)
theorem zw288 : (Jvm.Cond.laysFinal "TallShip$Script" "TallShip$Script" "after" "[I") ∈ zT := zT_mem 288 (by decide +kernel) (by decide +kernel)
theorem zw290 : (Jvm.Cond.laysFinal "TallShip$Script" "TallShip$Script" "weights" "[I") ∈ zT := zT_mem 290 (by decide +kernel) (by decide +kernel)
theorem zw293 : (Jvm.Cond.classLink "TallShip" (60 : Nat) "TallShip$Crew") ∈ zT := zT_mem 293 (by decide +kernel) (by decide +kernel)
theorem zw294 : (Jvm.Cond.instantiable "TallShip$Crew" (8 : Nat)) ∈ zT := zT_mem 294 (by decide +kernel) (by decide +kernel)
theorem zw295 : (Jvm.Cond.methodLink "TallShip" (62 : Nat) ({ cls := "TallShip$Crew", name := "<init>", desc := "(I)V" } : Jvm.MethodName)) ∈ zT := zT_mem 295 (by decide +kernel) (by decide +kernel)
theorem zw296 : (Jvm.Cond.instanceMethod ({ cls := "TallShip$Crew", name := "<init>", desc := "(I)V" } : Jvm.MethodName)) ∈ zT := zT_mem 296 (by decide +kernel) (by decide +kernel)
theorem zw297 : (Jvm.Cond.code ({ cls := "TallShip$Crew", name := "<init>", desc := "(I)V" } : Jvm.MethodName) prog_3_method_1_code (3 : Nat) (Option.none : Option Jvm.ClassFile.FieldType)) ∈ zT := zT_mem 297 (by decide +kernel) (by decide +kernel)
theorem zw298 : (Jvm.Cond.methodLink "TallShip$Crew" (3 : Nat) ({ cls := "java/lang/Object", name := "<init>", desc := "()V" } : Jvm.MethodName)) ∈ zT := zT_mem 298 (by decide +kernel) (by decide +kernel)
theorem zw299 : (Jvm.Cond.fieldLink "TallShip$Crew" (9 : Nat) "TallShip$Crew" "size" "I") ∈ zT := zT_mem 299 (by decide +kernel) (by decide +kernel)
theorem zw300 : (Jvm.Cond.fieldLink "TallShip" (115 : Nat) "TallShip$Crew" "size" "I") ∈ zT := zT_mem 300 (by decide +kernel) (by decide +kernel)
theorem zw301 : (Jvm.Cond.fieldLink "TallShip$Crew" (15 : Nat) "TallShip$Crew" "job" "[I") ∈ zT := zT_mem 301 (by decide +kernel) (by decide +kernel)
theorem zw302 : (Jvm.Cond.fieldLink "TallShip" (225 : Nat) "TallShip$Crew" "job" "[I") ∈ zT := zT_mem 302 (by decide +kernel) (by decide +kernel)
theorem zw303 : (Jvm.Cond.fieldLink "TallShip$Crew" (19 : Nat) "TallShip$Crew" "thing" "[I") ∈ zT := zT_mem 303 (by decide +kernel) (by decide +kernel)
theorem zw304 : (Jvm.Cond.fieldLink "TallShip" (228 : Nat) "TallShip$Crew" "thing" "[I") ∈ zT := zT_mem 304 (by decide +kernel) (by decide +kernel)
theorem zw305 : (Jvm.Cond.fieldLink "TallShip$Crew" (22 : Nat) "TallShip$Crew" "aim" "[I") ∈ zT := zT_mem 305 (by decide +kernel) (by decide +kernel)
theorem zw306 : (Jvm.Cond.fieldLink "TallShip" (231 : Nat) "TallShip$Crew" "aim" "[I") ∈ zT := zT_mem 306 (by decide +kernel) (by decide +kernel)
theorem zw307 : (Jvm.Cond.fieldLink "TallShip$Crew" (25 : Nat) "TallShip$Crew" "end" "[I") ∈ zT := zT_mem 307 (by decide +kernel) (by decide +kernel)
theorem zw308 : (Jvm.Cond.fieldLink "TallShip$Crew" (28 : Nat) "TallShip$Crew" "lead" "[I") ∈ zT := zT_mem 308 (by decide +kernel) (by decide +kernel)
theorem zw309 : (Jvm.Cond.fieldLink "TallShip$Crew" (31 : Nat) "TallShip$Crew" "deck" "I") ∈ zT := zT_mem 309 (by decide +kernel) (by decide +kernel)
theorem zw310 : (Jvm.Cond.fieldLink "TallShip" (153 : Nat) "TallShip$Crew" "deck" "I") ∈ zT := zT_mem 310 (by decide +kernel) (by decide +kernel)
theorem zw311 : (Jvm.Cond.fieldLink "TallShip$Crew" (41 : Nat) "TallShip$Crew" "works" "I") ∈ zT := zT_mem 311 (by decide +kernel) (by decide +kernel)
theorem zw312 : (Jvm.Cond.fieldLink "TallShip" (156 : Nat) "TallShip$Crew" "works" "I") ∈ zT := zT_mem 312 (by decide +kernel) (by decide +kernel)
theorem zw313 : (Jvm.Cond.laysFinal "TallShip$Crew" "TallShip$Crew" "size" "I") ∈ zT := zT_mem 313 (by decide +kernel) (by decide +kernel)
theorem zw315 : (Jvm.Cond.laysFinal "TallShip$Crew" "TallShip$Crew" "job" "[I") ∈ zT := zT_mem 315 (by decide +kernel) (by decide +kernel)
theorem zw317 : (Jvm.Cond.laysFinal "TallShip$Crew" "TallShip$Crew" "thing" "[I") ∈ zT := zT_mem 317 (by decide +kernel) (by decide +kernel)
theorem zw319 : (Jvm.Cond.laysFinal "TallShip$Crew" "TallShip$Crew" "aim" "[I") ∈ zT := zT_mem 319 (by decide +kernel) (by decide +kernel)
theorem zw321 : (Jvm.Cond.laysFinal "TallShip$Crew" "TallShip$Crew" "end" "[I") ∈ zT := zT_mem 321 (by decide +kernel) (by decide +kernel)
theorem zw323 : (Jvm.Cond.laysFinal "TallShip$Crew" "TallShip$Crew" "lead" "[I") ∈ zT := zT_mem 323 (by decide +kernel) (by decide +kernel)
theorem zw325 : (Jvm.Cond.lays "TallShip$Crew" "TallShip$Crew" "deck" "I") ∈ zT := zT_mem 325 (by decide +kernel) (by decide +kernel)
theorem zw327 : (Jvm.Cond.lays "TallShip$Crew" "TallShip$Crew" "works" "I") ∈ zT := zT_mem 327 (by decide +kernel) (by decide +kernel)
theorem zw330 : (Jvm.Cond.fieldLink "TallShip" (65 : Nat) "TallShip" "crew" "LTallShip$Crew;") ∈ zT := zT_mem 330 (by decide +kernel) (by decide +kernel)
theorem zw331 : (Jvm.Cond.fieldLink "TallShip" (10 : Nat) "TallShip" "rig" "LTallShip$Rig;") ∈ zT := zT_mem 331 (by decide +kernel) (by decide +kernel)
theorem zw332 : (Jvm.Cond.fieldLink "TallShip" (19 : Nat) "TallShip" "winds" "LTallShip$Winds;") ∈ zT := zT_mem 332 (by decide +kernel) (by decide +kernel)
theorem zw333 : (Jvm.Cond.fieldLink "TallShip" (26 : Nat) "TallShip" "tape" "LTallShip$Tape;") ∈ zT := zT_mem 333 (by decide +kernel) (by decide +kernel)
theorem zw334 : (Jvm.Cond.fieldLink "TallShip" (35 : Nat) "TallShip" "reader" "LTallShip$Reader;") ∈ zT := zT_mem 334 (by decide +kernel) (by decide +kernel)
theorem zw335 : (Jvm.Cond.fieldLink "TallShip" (42 : Nat) "TallShip" "passage" "LTallShip$Passage;") ∈ zT := zT_mem 335 (by decide +kernel) (by decide +kernel)
theorem zw336 : (Jvm.Cond.fieldLink "TallShip" (48 : Nat) "TallShip" "parts" "[I") ∈ zT := zT_mem 336 (by decide +kernel) (by decide +kernel)
theorem zw337 : (Jvm.Cond.fieldLink "TallShip" (53 : Nat) "TallShip" "script" "LTallShip$Script;") ∈ zT := zT_mem 337 (by decide +kernel) (by decide +kernel)
theorem zw338 : (Jvm.Cond.fieldLink "TallShip" (57 : Nat) "TallShip" "spare" "LTallShip$Script;") ∈ zT := zT_mem 338 (by decide +kernel) (by decide +kernel)
theorem zw339 : (Jvm.Cond.fieldLink "TallShip" (81 : Nat) "TallShip" "at" "I") ∈ zT := zT_mem 339 (by decide +kernel) (by decide +kernel)
theorem zw340 : (Jvm.Cond.fieldLink "TallShip" (84 : Nat) "TallShip" "waiting" "I") ∈ zT := zT_mem 340 (by decide +kernel) (by decide +kernel)
theorem zw341 : (Jvm.Cond.fieldLink "TallShip" (162 : Nat) "TallShip" "carried" "I") ∈ zT := zT_mem 341 (by decide +kernel) (by decide +kernel)
theorem zw342 : (Jvm.Cond.fieldLink "TallShip" (94 : Nat) "TallShip" "minute" "I") ∈ zT := zT_mem 342 (by decide +kernel) (by decide +kernel)
theorem zw343 : (Jvm.Cond.fieldLink "TallShip" (138 : Nat) "TallShip" "course" "I") ∈ zT := zT_mem 343 (by decide +kernel) (by decide +kernel)
theorem zw344 : (Jvm.Cond.fieldLink "TallShip" (141 : Nat) "TallShip" "wish" "I") ∈ zT := zT_mem 344 (by decide +kernel) (by decide +kernel)
theorem zw345 : (Jvm.Cond.fieldLink "TallShip" (144 : Nat) "TallShip" "speed" "I") ∈ zT := zT_mem 345 (by decide +kernel) (by decide +kernel)
theorem zw346 : (Jvm.Cond.fieldLink "TallShip" (147 : Nat) "TallShip" "x" "I") ∈ zT := zT_mem 346 (by decide +kernel) (by decide +kernel)
theorem zw347 : (Jvm.Cond.fieldLink "TallShip" (150 : Nat) "TallShip" "y" "I") ∈ zT := zT_mem 347 (by decide +kernel) (by decide +kernel)
theorem zw348 : (Jvm.Cond.laysFinal "TallShip" "TallShip" "crew" "LTallShip$Crew;") ∈ zT := zT_mem 348 (by decide +kernel) (by decide +kernel)
theorem zw350 : (Jvm.Cond.laysFinal "TallShip" "TallShip" "rig" "LTallShip$Rig;") ∈ zT := zT_mem 350 (by decide +kernel) (by decide +kernel)
theorem zw352 : (Jvm.Cond.laysFinal "TallShip" "TallShip" "winds" "LTallShip$Winds;") ∈ zT := zT_mem 352 (by decide +kernel) (by decide +kernel)
theorem zw354 : (Jvm.Cond.laysFinal "TallShip" "TallShip" "tape" "LTallShip$Tape;") ∈ zT := zT_mem 354 (by decide +kernel) (by decide +kernel)
theorem zw356 : (Jvm.Cond.laysFinal "TallShip" "TallShip" "reader" "LTallShip$Reader;") ∈ zT := zT_mem 356 (by decide +kernel) (by decide +kernel)
theorem zw358 : (Jvm.Cond.laysFinal "TallShip" "TallShip" "passage" "LTallShip$Passage;") ∈ zT := zT_mem 358 (by decide +kernel) (by decide +kernel)
theorem zw360 : (Jvm.Cond.laysFinal "TallShip" "TallShip" "parts" "[I") ∈ zT := zT_mem 360 (by decide +kernel) (by decide +kernel)
theorem zw362 : (Jvm.Cond.lays "TallShip" "TallShip" "script" "LTallShip$Script;") ∈ zT := zT_mem 362 (by decide +kernel) (by decide +kernel)
theorem zw364 : (Jvm.Cond.lays "TallShip" "TallShip" "spare" "LTallShip$Script;") ∈ zT := zT_mem 364 (by decide +kernel) (by decide +kernel)
theorem zw366 : (Jvm.Cond.lays "TallShip" "TallShip" "at" "I") ∈ zT := zT_mem 366 (by decide +kernel) (by decide +kernel)
theorem zw368 : (Jvm.Cond.lays "TallShip" "TallShip" "waiting" "I") ∈ zT := zT_mem 368 (by decide +kernel) (by decide +kernel)
theorem zw370 : (Jvm.Cond.lays "TallShip" "TallShip" "carried" "I") ∈ zT := zT_mem 370 (by decide +kernel) (by decide +kernel)
theorem zw372 : (Jvm.Cond.lays "TallShip" "TallShip" "minute" "I") ∈ zT := zT_mem 372 (by decide +kernel) (by decide +kernel)
theorem zw374 : (Jvm.Cond.lays "TallShip" "TallShip" "course" "I") ∈ zT := zT_mem 374 (by decide +kernel) (by decide +kernel)
theorem zw376 : (Jvm.Cond.lays "TallShip" "TallShip" "wish" "I") ∈ zT := zT_mem 376 (by decide +kernel) (by decide +kernel)
theorem zw378 : (Jvm.Cond.lays "TallShip" "TallShip" "speed" "I") ∈ zT := zT_mem 378 (by decide +kernel) (by decide +kernel)
theorem zw380 : (Jvm.Cond.lays "TallShip" "TallShip" "x" "I") ∈ zT := zT_mem 380 (by decide +kernel) (by decide +kernel)
theorem zw382 : (Jvm.Cond.lays "TallShip" "TallShip" "y" "I") ∈ zT := zT_mem 382 (by decide +kernel) (by decide +kernel)
theorem zw385 : (Jvm.Cond.methodLink "TallShipLaw" (29 : Nat) ({ cls := "TallShip", name := "feed", desc := "(JJJ)I" } : Jvm.MethodName)) ∈ zT := zT_mem 385 (by decide +kernel) (by decide +kernel)
theorem zw386 : (Jvm.Cond.instanceMethod ({ cls := "TallShip", name := "feed", desc := "(JJJ)I" } : Jvm.MethodName)) ∈ zT := zT_mem 386 (by decide +kernel) (by decide +kernel)
theorem zw387 : (Jvm.Cond.selects "TallShip" ({ cls := "TallShip", name := "feed", desc := "(JJJ)I" } : Jvm.MethodName) ({ cls := "TallShip", name := "feed", desc := "(JJJ)I" } : Jvm.MethodName)) ∈ zT := zT_mem 387 (by decide +kernel) (by decide +kernel)
theorem zw388 : (Jvm.Cond.code ({ cls := "TallShip", name := "feed", desc := "(JJJ)I" } : Jvm.MethodName) prog_1_method_2_code (7 : Nat) (Option.some Jvm.ClassFile.FieldType.int)) ∈ zT := zT_mem 388 (by decide +kernel) (by decide +kernel)
theorem zw389 : (Jvm.Cond.methodLink "TallShip" (69 : Nat) ({ cls := "TallShip$Tape", name := "addBytes", desc := "(J)V" } : Jvm.MethodName)) ∈ zT := zT_mem 389 (by decide +kernel) (by decide +kernel)
theorem zw390 : (Jvm.Cond.instanceMethod ({ cls := "TallShip$Tape", name := "addBytes", desc := "(J)V" } : Jvm.MethodName)) ∈ zT := zT_mem 390 (by decide +kernel) (by decide +kernel)
theorem zw391 : (Jvm.Cond.selects "TallShip$Tape" ({ cls := "TallShip$Tape", name := "addBytes", desc := "(J)V" } : Jvm.MethodName) ({ cls := "TallShip$Tape", name := "addBytes", desc := "(J)V" } : Jvm.MethodName)) ∈ zT := zT_mem 391 (by decide +kernel) (by decide +kernel)
theorem zw392 : (Jvm.Cond.code ({ cls := "TallShip$Tape", name := "addBytes", desc := "(J)V" } : Jvm.MethodName) prog_8_method_2_code (6 : Nat) (Option.none : Option Jvm.ClassFile.FieldType)) ∈ zT := zT_mem 392 (by decide +kernel) (by decide +kernel)
theorem zw393 : (Jvm.Cond.methodLink "TallShipLaw" (34 : Nat) ({ cls := "TallShip", name := "orders", desc := "()I" } : Jvm.MethodName)) ∈ zT := zT_mem 393 (by decide +kernel) (by decide +kernel)
theorem zw394 : (Jvm.Cond.instanceMethod ({ cls := "TallShip", name := "orders", desc := "()I" } : Jvm.MethodName)) ∈ zT := zT_mem 394 (by decide +kernel) (by decide +kernel)
theorem zw395 : (Jvm.Cond.selects "TallShip" ({ cls := "TallShip", name := "orders", desc := "()I" } : Jvm.MethodName) ({ cls := "TallShip", name := "orders", desc := "()I" } : Jvm.MethodName)) ∈ zT := zT_mem 395 (by decide +kernel) (by decide +kernel)
theorem zw396 : (Jvm.Cond.code ({ cls := "TallShip", name := "orders", desc := "()I" } : Jvm.MethodName) prog_1_method_3_code (3 : Nat) (Option.some Jvm.ClassFile.FieldType.int)) ∈ zT := zT_mem 396 (by decide +kernel) (by decide +kernel)
theorem zw397 : (Jvm.Cond.methodLink "TallShip" (77 : Nat) ({ cls := "TallShip$Reader", name := "read", desc := "(LTallShip$Script;)I" } : Jvm.MethodName)) ∈ zT := zT_mem 397 (by decide +kernel) (by decide +kernel)
theorem zw398 : (Jvm.Cond.instanceMethod ({ cls := "TallShip$Reader", name := "read", desc := "(LTallShip$Script;)I" } : Jvm.MethodName)) ∈ zT := zT_mem 398 (by decide +kernel) (by decide +kernel)
theorem zw399 : (Jvm.Cond.selects "TallShip$Reader" ({ cls := "TallShip$Reader", name := "read", desc := "(LTallShip$Script;)I" } : Jvm.MethodName) ({ cls := "TallShip$Reader", name := "read", desc := "(LTallShip$Script;)I" } : Jvm.MethodName)) ∈ zT := zT_mem 399 (by decide +kernel) (by decide +kernel)
theorem zw400 : (Jvm.Cond.code ({ cls := "TallShip$Reader", name := "read", desc := "(LTallShip$Script;)I" } : Jvm.MethodName) prog_5_method_2_code (4 : Nat) (Option.some Jvm.ClassFile.FieldType.int)) ∈ zT := zT_mem 400 (by decide +kernel) (by decide +kernel)
theorem zw401 : (Jvm.Cond.methodLink "TallShip$Reader" (32 : Nat) ({ cls := "TallShip$Tape", name := "rewind", desc := "()V" } : Jvm.MethodName)) ∈ zT := zT_mem 401 (by decide +kernel) (by decide +kernel)
theorem zw402 : (Jvm.Cond.instanceMethod ({ cls := "TallShip$Tape", name := "rewind", desc := "()V" } : Jvm.MethodName)) ∈ zT := zT_mem 402 (by decide +kernel) (by decide +kernel)
theorem zw403 : (Jvm.Cond.selects "TallShip$Tape" ({ cls := "TallShip$Tape", name := "rewind", desc := "()V" } : Jvm.MethodName) ({ cls := "TallShip$Tape", name := "rewind", desc := "()V" } : Jvm.MethodName)) ∈ zT := zT_mem 403 (by decide +kernel) (by decide +kernel)
theorem zw404 : (Jvm.Cond.code ({ cls := "TallShip$Tape", name := "rewind", desc := "()V" } : Jvm.MethodName) prog_8_method_3_code (1 : Nat) (Option.none : Option Jvm.ClassFile.FieldType)) ∈ zT := zT_mem 404 (by decide +kernel) (by decide +kernel)
theorem zw405 : (Jvm.Cond.methodLink "TallShip$Tape" (20 : Nat) ({ cls := "TallShip$Tape", name := "advance", desc := "()V" } : Jvm.MethodName)) ∈ zT := zT_mem 405 (by decide +kernel) (by decide +kernel)
theorem zw406 : (Jvm.Cond.instanceMethod ({ cls := "TallShip$Tape", name := "advance", desc := "()V" } : Jvm.MethodName)) ∈ zT := zT_mem 406 (by decide +kernel) (by decide +kernel)
theorem zw407 : (Jvm.Cond.selects "TallShip$Tape" ({ cls := "TallShip$Tape", name := "advance", desc := "()V" } : Jvm.MethodName) ({ cls := "TallShip$Tape", name := "advance", desc := "()V" } : Jvm.MethodName)) ∈ zT := zT_mem 407 (by decide +kernel) (by decide +kernel)
theorem zw408 : (Jvm.Cond.code ({ cls := "TallShip$Tape", name := "advance", desc := "()V" } : Jvm.MethodName) prog_8_method_4_code (1 : Nat) (Option.none : Option Jvm.ClassFile.FieldType)) ∈ zT := zT_mem 408 (by decide +kernel) (by decide +kernel)
theorem zw409 : (Jvm.Cond.methodLink "TallShip$Tape" (29 : Nat) ({ cls := "TallShip$Tape", name := "endOfRun", desc := "(CC)I" } : Jvm.MethodName)) ∈ zT := zT_mem 409 (by decide +kernel) (by decide +kernel)
theorem zw411 : (Jvm.Cond.instanceMethod ({ cls := "TallShip$Tape", name := "endOfRun", desc := "(CC)I" } : Jvm.MethodName)) ∈ zT := zT_mem 411 (by decide +kernel) (by decide +kernel)
theorem zw412 : (Jvm.Cond.code ({ cls := "TallShip$Tape", name := "endOfRun", desc := "(CC)I" } : Jvm.MethodName) prog_8_method_5_code (4 : Nat) (Option.some Jvm.ClassFile.FieldType.int)) ∈ zT := zT_mem 412 (by decide +kernel) (by decide +kernel)
theorem zw413 : (Jvm.Cond.methodLink "TallShip$Tape" (33 : Nat) ({ cls := "TallShip$Tape", name := "numberHere", desc := "()I" } : Jvm.MethodName)) ∈ zT := zT_mem 413 (by decide +kernel) (by decide +kernel)
theorem zw415 : (Jvm.Cond.instanceMethod ({ cls := "TallShip$Tape", name := "numberHere", desc := "()I" } : Jvm.MethodName)) ∈ zT := zT_mem 415 (by decide +kernel) (by decide +kernel)
theorem zw416 : (Jvm.Cond.code ({ cls := "TallShip$Tape", name := "numberHere", desc := "()I" } : Jvm.MethodName) prog_8_method_6_code (3 : Nat) (Option.some Jvm.ClassFile.FieldType.int)) ∈ zT := zT_mem 416 (by decide +kernel) (by decide +kernel)
theorem zw417 : (Jvm.Cond.methodLink "TallShip$Tape" (40 : Nat) ({ cls := "TallShip$Tape", name := "isSign", desc := "(C)Z" } : Jvm.MethodName)) ∈ zT := zT_mem 417 (by decide +kernel) (by decide +kernel)
theorem zw418 : (Jvm.Cond.static ({ cls := "TallShip$Tape", name := "isSign", desc := "(C)Z" } : Jvm.MethodName)) ∈ zT := zT_mem 418 (by decide +kernel) (by decide +kernel)
theorem zw419 : (Jvm.Cond.code ({ cls := "TallShip$Tape", name := "isSign", desc := "(C)Z" } : Jvm.MethodName) prog_8_method_8_code (1 : Nat) (Option.some Jvm.ClassFile.FieldType.boolean)) ∈ zT := zT_mem 419 (by decide +kernel) (by decide +kernel)
theorem zw420 : (Jvm.Cond.methodLink "TallShip$Reader" (37 : Nat) ({ cls := "TallShip$Reader", name := "isOver", desc := "()Z" } : Jvm.MethodName)) ∈ zT := zT_mem 420 (by decide +kernel) (by decide +kernel)
theorem zw422 : (Jvm.Cond.instanceMethod ({ cls := "TallShip$Reader", name := "isOver", desc := "()Z" } : Jvm.MethodName)) ∈ zT := zT_mem 422 (by decide +kernel) (by decide +kernel)
theorem zw423 : (Jvm.Cond.code ({ cls := "TallShip$Reader", name := "isOver", desc := "()Z" } : Jvm.MethodName) prog_5_method_3_code (1 : Nat) (Option.some Jvm.ClassFile.FieldType.boolean)) ∈ zT := zT_mem 423 (by decide +kernel) (by decide +kernel)
theorem zw424 : (Jvm.Cond.methodLink "TallShip$Reader" (44 : Nat) ({ cls := "TallShip$Reader", name := "readClosing", desc := "()I" } : Jvm.MethodName)) ∈ zT := zT_mem 424 (by decide +kernel) (by decide +kernel)
theorem zw426 : (Jvm.Cond.instanceMethod ({ cls := "TallShip$Reader", name := "readClosing", desc := "()I" } : Jvm.MethodName)) ∈ zT := zT_mem 426 (by decide +kernel) (by decide +kernel)
theorem zw427 : (Jvm.Cond.code ({ cls := "TallShip$Reader", name := "readClosing", desc := "()I" } : Jvm.MethodName) prog_5_method_5_code (2 : Nat) (Option.some Jvm.ClassFile.FieldType.int)) ∈ zT := zT_mem 427 (by decide +kernel) (by decide +kernel)
theorem zw428 : (Jvm.Cond.methodLink "TallShip$Reader" (57 : Nat) ({ cls := "TallShip$Tape", name := "advance", desc := "()V" } : Jvm.MethodName)) ∈ zT := zT_mem 428 (by decide +kernel) (by decide +kernel)
theorem zw430 : (Jvm.Cond.methodLink "TallShip$Reader" (68 : Nat) ({ cls := "TallShip$Tape", name := "spells", desc := "(Ljava/lang/String;)Z" } : Jvm.MethodName)) ∈ zT := zT_mem 430 (by decide +kernel) (by decide +kernel)
theorem zw431 : (Jvm.Cond.instanceMethod ({ cls := "TallShip$Tape", name := "spells", desc := "(Ljava/lang/String;)Z" } : Jvm.MethodName)) ∈ zT := zT_mem 431 (by decide +kernel) (by decide +kernel)
theorem zw432 : (Jvm.Cond.selects "TallShip$Tape" ({ cls := "TallShip$Tape", name := "spells", desc := "(Ljava/lang/String;)Z" } : Jvm.MethodName) ({ cls := "TallShip$Tape", name := "spells", desc := "(Ljava/lang/String;)Z" } : Jvm.MethodName)) ∈ zT := zT_mem 432 (by decide +kernel) (by decide +kernel)
theorem zw433 : (Jvm.Cond.code ({ cls := "TallShip$Tape", name := "spells", desc := "(Ljava/lang/String;)Z" } : Jvm.MethodName) prog_8_method_7_code (3 : Nat) (Option.some Jvm.ClassFile.FieldType.boolean)) ∈ zT := zT_mem 433 (by decide +kernel) (by decide +kernel)
theorem zw434 : (Jvm.Cond.methodLink "TallShip$Tape" (44 : Nat) ({ cls := "java/lang/String", name := "length", desc := "()I" } : Jvm.MethodName)) ∈ zT := zT_mem 434 (by decide +kernel) (by decide +kernel)
theorem zw435 : (Jvm.Cond.instanceMethod ({ cls := "java/lang/String", name := "length", desc := "()I" } : Jvm.MethodName)) ∈ zT := zT_mem 435 (by decide +kernel) (by decide +kernel)
theorem zw436 : (Jvm.Cond.selects "java/lang/String" ({ cls := "java/lang/String", name := "length", desc := "()I" } : Jvm.MethodName) ({ cls := "java/lang/String", name := "length", desc := "()I" } : Jvm.MethodName)) ∈ zT := zT_mem 436 (by decide +kernel) (by decide +kernel)
theorem zw437 : (Jvm.Cond.code ({ cls := "java/lang/String", name := "length", desc := "()I" } : Jvm.MethodName) prog_15_method_54_code (1 : Nat) (Option.some Jvm.ClassFile.FieldType.int)) ∈ zT := zT_mem 437 (by decide +kernel) (by decide +kernel)
theorem zw438 : (Jvm.Cond.methodLink "java/lang/String" (335 : Nat) ({ cls := "java/lang/String", name := "coder", desc := "()B" } : Jvm.MethodName)) ∈ zT := zT_mem 438 (by decide +kernel) (by decide +kernel)
theorem zw439 : (Jvm.Cond.instanceMethod ({ cls := "java/lang/String", name := "coder", desc := "()B" } : Jvm.MethodName)) ∈ zT := zT_mem 439 (by decide +kernel) (by decide +kernel)
theorem zw440 : (Jvm.Cond.selects "java/lang/String" ({ cls := "java/lang/String", name := "coder", desc := "()B" } : Jvm.MethodName) ({ cls := "java/lang/String", name := "coder", desc := "()B" } : Jvm.MethodName)) ∈ zT := zT_mem 440 (by decide +kernel) (by decide +kernel)
theorem zw441 : (Jvm.Cond.code ({ cls := "java/lang/String", name := "coder", desc := "()B" } : Jvm.MethodName) prog_15_method_152_code (1 : Nat) (Option.some Jvm.ClassFile.FieldType.byte)) ∈ zT := zT_mem 441 (by decide +kernel) (by decide +kernel)
theorem zw442 : (Jvm.Cond.fieldLink "java/lang/String" (38 : Nat) "java/lang/String" "COMPACT_STRINGS" "Z") ∈ zT := zT_mem 442 (by decide +kernel) (by decide +kernel)
theorem zw444 : (Jvm.Cond.methodLink "TallShip$Tape" (48 : Nat) ({ cls := "java/lang/String", name := "charAt", desc := "(I)C" } : Jvm.MethodName)) ∈ zT := zT_mem 444 (by decide +kernel) (by decide +kernel)
theorem zw445 : (Jvm.Cond.instanceMethod ({ cls := "java/lang/String", name := "charAt", desc := "(I)C" } : Jvm.MethodName)) ∈ zT := zT_mem 445 (by decide +kernel) (by decide +kernel)
theorem zw446 : (Jvm.Cond.selects "java/lang/String" ({ cls := "java/lang/String", name := "charAt", desc := "(I)C" } : Jvm.MethodName) ({ cls := "java/lang/String", name := "charAt", desc := "(I)C" } : Jvm.MethodName)) ∈ zT := zT_mem 446 (by decide +kernel) (by decide +kernel)
theorem zw447 : (Jvm.Cond.code ({ cls := "java/lang/String", name := "charAt", desc := "(I)C" } : Jvm.MethodName) prog_15_method_56_code (2 : Nat) (Option.some Jvm.ClassFile.FieldType.char)) ∈ zT := zT_mem 447 (by decide +kernel) (by decide +kernel)
theorem zw448 : (Jvm.Cond.methodLink "java/lang/String" (492 : Nat) ({ cls := "java/lang/String", name := "isLatin1", desc := "()Z" } : Jvm.MethodName)) ∈ zT := zT_mem 448 (by decide +kernel) (by decide +kernel)
theorem zw449 : (Jvm.Cond.instanceMethod ({ cls := "java/lang/String", name := "isLatin1", desc := "()Z" } : Jvm.MethodName)) ∈ zT := zT_mem 449 (by decide +kernel) (by decide +kernel)
theorem zw450 : (Jvm.Cond.selects "java/lang/String" ({ cls := "java/lang/String", name := "isLatin1", desc := "()Z" } : Jvm.MethodName) ({ cls := "java/lang/String", name := "isLatin1", desc := "()Z" } : Jvm.MethodName)) ∈ zT := zT_mem 450 (by decide +kernel) (by decide +kernel)
theorem zw451 : (Jvm.Cond.code ({ cls := "java/lang/String", name := "isLatin1", desc := "()Z" } : Jvm.MethodName) prog_15_method_154_code (1 : Nat) (Option.some Jvm.ClassFile.FieldType.boolean)) ∈ zT := zT_mem 451 (by decide +kernel) (by decide +kernel)
theorem zw452 : (Jvm.Cond.methodLink "java/lang/String" (495 : Nat) ({ cls := "java/lang/StringLatin1", name := "charAt", desc := "([BI)C" } : Jvm.MethodName)) ∈ zT := zT_mem 452 (by decide +kernel) (by decide +kernel)
theorem zw453 : (Jvm.Cond.static ({ cls := "java/lang/StringLatin1", name := "charAt", desc := "([BI)C" } : Jvm.MethodName)) ∈ zT := zT_mem 453 (by decide +kernel) (by decide +kernel)
theorem zw454 : (Jvm.Cond.code ({ cls := "java/lang/StringLatin1", name := "charAt", desc := "([BI)C" } : Jvm.MethodName) prog_16_method_2_code (2 : Nat) (Option.some Jvm.ClassFile.FieldType.char)) ∈ zT := zT_mem 454 (by decide +kernel) (by decide +kernel)
theorem zw455 : (Jvm.Cond.methodLink "java/lang/StringLatin1" (9 : Nat) ({ cls := "java/lang/String", name := "checkIndex", desc := "(II)V" } : Jvm.MethodName)) ∈ zT := zT_mem 455 (by decide +kernel) (by decide +kernel)
theorem zw456 : (Jvm.Cond.static ({ cls := "java/lang/String", name := "checkIndex", desc := "(II)V" } : Jvm.MethodName)) ∈ zT := zT_mem 456 (by decide +kernel) (by decide +kernel)
theorem zw457 : (Jvm.Cond.code ({ cls := "java/lang/String", name := "checkIndex", desc := "(II)V" } : Jvm.MethodName) prog_15_method_155_code (2 : Nat) (Option.none : Option Jvm.ClassFile.FieldType)) ∈ zT := zT_mem 457 (by decide +kernel) (by decide +kernel)
theorem zw458 : (Jvm.Cond.fieldLink "java/lang/String" (1053 : Nat) "jdk/internal/util/Preconditions" "SIOOBE_FORMATTER" "Ljava/util/function/BiFunction;") ∈ zT := zT_mem 458 (by decide +kernel) (by decide +kernel)
theorem zw460 : (Jvm.Cond.methodLink "java/lang/String" (1059 : Nat) ({ cls := "jdk/internal/util/Preconditions", name := "checkIndex", desc := "(IILjava/util/function/BiFunction;)I" } : Jvm.MethodName)) ∈ zT := zT_mem 460 (by decide +kernel) (by decide +kernel)
theorem zw461 : (Jvm.Cond.static ({ cls := "jdk/internal/util/Preconditions", name := "checkIndex", desc := "(IILjava/util/function/BiFunction;)I" } : Jvm.MethodName)) ∈ zT := zT_mem 461 (by decide +kernel) (by decide +kernel)
theorem zw462 : (Jvm.Cond.code ({ cls := "jdk/internal/util/Preconditions", name := "checkIndex", desc := "(IILjava/util/function/BiFunction;)I" } : Jvm.MethodName) prog_20_method_11_code (3 : Nat) (Option.some Jvm.ClassFile.FieldType.int)) ∈ zT := zT_mem 462 (by decide +kernel) (by decide +kernel)
theorem zw463 : (Jvm.Cond.methodLink "java/lang/String" (498 : Nat) ({ cls := "java/lang/StringUTF16", name := "charAt", desc := "([BI)C" } : Jvm.MethodName)) ∈ zT := zT_mem 463 (by decide +kernel) (by decide +kernel)
theorem zw464 : (Jvm.Cond.static ({ cls := "java/lang/StringUTF16", name := "charAt", desc := "([BI)C" } : Jvm.MethodName)) ∈ zT := zT_mem 464 (by decide +kernel) (by decide +kernel)
theorem zw465 : (Jvm.Cond.code ({ cls := "java/lang/StringUTF16", name := "charAt", desc := "([BI)C" } : Jvm.MethodName) prog_17_method_83_code (2 : Nat) (Option.some Jvm.ClassFile.FieldType.char)) ∈ zT := zT_mem 465 (by decide +kernel) (by decide +kernel)
theorem zw466 : (Jvm.Cond.methodLink "java/lang/StringUTF16" (67 : Nat) ({ cls := "java/lang/StringUTF16", name := "checkIndex", desc := "(I[B)V" } : Jvm.MethodName)) ∈ zT := zT_mem 466 (by decide +kernel) (by decide +kernel)
theorem zw467 : (Jvm.Cond.static ({ cls := "java/lang/StringUTF16", name := "checkIndex", desc := "(I[B)V" } : Jvm.MethodName)) ∈ zT := zT_mem 467 (by decide +kernel) (by decide +kernel)
theorem zw468 : (Jvm.Cond.code ({ cls := "java/lang/StringUTF16", name := "checkIndex", desc := "(I[B)V" } : Jvm.MethodName) prog_17_method_91_code (2 : Nat) (Option.none : Option Jvm.ClassFile.FieldType)) ∈ zT := zT_mem 468 (by decide +kernel) (by decide +kernel)
theorem zw469 : (Jvm.Cond.methodLink "java/lang/StringUTF16" (48 : Nat) ({ cls := "java/lang/StringUTF16", name := "length", desc := "([B)I" } : Jvm.MethodName)) ∈ zT := zT_mem 469 (by decide +kernel) (by decide +kernel)
theorem zw470 : (Jvm.Cond.static ({ cls := "java/lang/StringUTF16", name := "length", desc := "([B)I" } : Jvm.MethodName)) ∈ zT := zT_mem 470 (by decide +kernel) (by decide +kernel)
theorem zw471 : (Jvm.Cond.code ({ cls := "java/lang/StringUTF16", name := "length", desc := "([B)I" } : Jvm.MethodName) prog_17_method_6_code (1 : Nat) (Option.some Jvm.ClassFile.FieldType.int)) ∈ zT := zT_mem 471 (by decide +kernel) (by decide +kernel)
theorem zw472 : (Jvm.Cond.methodLink "java/lang/StringUTF16" (414 : Nat) ({ cls := "java/lang/String", name := "checkIndex", desc := "(II)V" } : Jvm.MethodName)) ∈ zT := zT_mem 472 (by decide +kernel) (by decide +kernel)
theorem zw473 : (Jvm.Cond.methodLink "java/lang/StringUTF16" (71 : Nat) ({ cls := "java/lang/StringUTF16", name := "getChar", desc := "([BI)C" } : Jvm.MethodName)) ∈ zT := zT_mem 473 (by decide +kernel) (by decide +kernel)
theorem zw474 : (Jvm.Cond.static ({ cls := "java/lang/StringUTF16", name := "getChar", desc := "([BI)C" } : Jvm.MethodName)) ∈ zT := zT_mem 474 (by decide +kernel) (by decide +kernel)
theorem zw475 : (Jvm.Cond.code ({ cls := "java/lang/StringUTF16", name := "getChar", desc := "([BI)C" } : Jvm.MethodName) prog_17_method_5_code (2 : Nat) (Option.some Jvm.ClassFile.FieldType.char)) ∈ zT := zT_mem 475 (by decide +kernel) (by decide +kernel)
theorem zw476 : (Jvm.Cond.fieldLink "java/lang/StringUTF16" (44 : Nat) "java/lang/StringUTF16" "$assertionsDisabled" "Z") ∈ zT := zT_mem 476 (by decide +kernel) (by decide +kernel)
theorem zw478 : (Jvm.Cond.fieldLink "java/lang/StringUTF16" (59 : Nat) "java/lang/StringUTF16" "HI_BYTE_SHIFT" "I") ∈ zT := zT_mem 478 (by decide +kernel) (by decide +kernel)
theorem zw480 : (Jvm.Cond.fieldLink "java/lang/StringUTF16" (63 : Nat) "java/lang/StringUTF16" "LO_BYTE_SHIFT" "I") ∈ zT := zT_mem 480 (by decide +kernel) (by decide +kernel)
theorem zw482 : (Jvm.Cond.methodLink "TallShip$Reader" (72 : Nat) ({ cls := "TallShip$Reader", name := "readSign", desc := "(C)I" } : Jvm.MethodName)) ∈ zT := zT_mem 482 (by decide +kernel) (by decide +kernel)
theorem zw484 : (Jvm.Cond.instanceMethod ({ cls := "TallShip$Reader", name := "readSign", desc := "(C)I" } : Jvm.MethodName)) ∈ zT := zT_mem 484 (by decide +kernel) (by decide +kernel)
theorem zw485 : (Jvm.Cond.code ({ cls := "TallShip$Reader", name := "readSign", desc := "(C)I" } : Jvm.MethodName) prog_5_method_10_code (2 : Nat) (Option.some Jvm.ClassFile.FieldType.int)) ∈ zT := zT_mem 485 (by decide +kernel) (by decide +kernel)
theorem zw486 : (Jvm.Cond.methodLink "TallShip$Reader" (82 : Nat) ({ cls := "TallShip$Reader", name := "faultHere", desc := "(I)I" } : Jvm.MethodName)) ∈ zT := zT_mem 486 (by decide +kernel) (by decide +kernel)
theorem zw488 : (Jvm.Cond.instanceMethod ({ cls := "TallShip$Reader", name := "faultHere", desc := "(I)I" } : Jvm.MethodName)) ∈ zT := zT_mem 488 (by decide +kernel) (by decide +kernel)
theorem zw489 : (Jvm.Cond.code ({ cls := "TallShip$Reader", name := "faultHere", desc := "(I)I" } : Jvm.MethodName) prog_5_method_4_code (2 : Nat) (Option.some Jvm.ClassFile.FieldType.int)) ∈ zT := zT_mem 489 (by decide +kernel) (by decide +kernel)
theorem zw490 : (Jvm.Cond.methodLink "TallShip$Reader" (48 : Nat) ({ cls := "TallShip$Reader", name := "readStatement", desc := "()I" } : Jvm.MethodName)) ∈ zT := zT_mem 490 (by decide +kernel) (by decide +kernel)
theorem zw492 : (Jvm.Cond.instanceMethod ({ cls := "TallShip$Reader", name := "readStatement", desc := "()I" } : Jvm.MethodName)) ∈ zT := zT_mem 492 (by decide +kernel) (by decide +kernel)
theorem zw493 : (Jvm.Cond.code ({ cls := "TallShip$Reader", name := "readStatement", desc := "()I" } : Jvm.MethodName) prog_5_method_6_code (3 : Nat) (Option.some Jvm.ClassFile.FieldType.int)) ∈ zT := zT_mem 493 (by decide +kernel) (by decide +kernel)
theorem zw494 : (Jvm.Cond.methodLink "TallShip$Reader" (79 : Nat) ({ cls := "TallShip$Reader", name := "verbHere", desc := "()I" } : Jvm.MethodName)) ∈ zT := zT_mem 494 (by decide +kernel) (by decide +kernel)
theorem zw496 : (Jvm.Cond.instanceMethod ({ cls := "TallShip$Reader", name := "verbHere", desc := "()I" } : Jvm.MethodName)) ∈ zT := zT_mem 496 (by decide +kernel) (by decide +kernel)
theorem zw497 : (Jvm.Cond.code ({ cls := "TallShip$Reader", name := "verbHere", desc := "()I" } : Jvm.MethodName) prog_5_method_7_code (1 : Nat) (Option.some Jvm.ClassFile.FieldType.int)) ∈ zT := zT_mem 497 (by decide +kernel) (by decide +kernel)
theorem zw507 : (Jvm.Cond.methodLink "TallShip$Reader" (86 : Nat) ({ cls := "TallShip$Script", name := "add", desc := "(II)I" } : Jvm.MethodName)) ∈ zT := zT_mem 507 (by decide +kernel) (by decide +kernel)
theorem zw508 : (Jvm.Cond.instanceMethod ({ cls := "TallShip$Script", name := "add", desc := "(II)I" } : Jvm.MethodName)) ∈ zT := zT_mem 508 (by decide +kernel) (by decide +kernel)
theorem zw509 : (Jvm.Cond.selects "TallShip$Script" ({ cls := "TallShip$Script", name := "add", desc := "(II)I" } : Jvm.MethodName) ({ cls := "TallShip$Script", name := "add", desc := "(II)I" } : Jvm.MethodName)) ∈ zT := zT_mem 509 (by decide +kernel) (by decide +kernel)
theorem zw510 : (Jvm.Cond.code ({ cls := "TallShip$Script", name := "add", desc := "(II)I" } : Jvm.MethodName) prog_7_method_2_code (5 : Nat) (Option.some Jvm.ClassFile.FieldType.int)) ∈ zT := zT_mem 510 (by decide +kernel) (by decide +kernel)
theorem zw511 : (Jvm.Cond.methodLink "TallShip$Reader" (90 : Nat) ({ cls := "TallShip$Reader", name := "readCondition", desc := "(I)I" } : Jvm.MethodName)) ∈ zT := zT_mem 511 (by decide +kernel) (by decide +kernel)
theorem zw513 : (Jvm.Cond.instanceMethod ({ cls := "TallShip$Reader", name := "readCondition", desc := "(I)I" } : Jvm.MethodName)) ∈ zT := zT_mem 513 (by decide +kernel) (by decide +kernel)
theorem zw514 : (Jvm.Cond.code ({ cls := "TallShip$Reader", name := "readCondition", desc := "(I)I" } : Jvm.MethodName) prog_5_method_11_code (3 : Nat) (Option.some Jvm.ClassFile.FieldType.int)) ∈ zT := zT_mem 514 (by decide +kernel) (by decide +kernel)
theorem zw515 : (Jvm.Cond.methodLink "TallShip$Reader" (132 : Nat) ({ cls := "TallShip$Reader", name := "readSum", desc := "(II)I" } : Jvm.MethodName)) ∈ zT := zT_mem 515 (by decide +kernel) (by decide +kernel)
theorem zw517 : (Jvm.Cond.instanceMethod ({ cls := "TallShip$Reader", name := "readSum", desc := "(II)I" } : Jvm.MethodName)) ∈ zT := zT_mem 517 (by decide +kernel) (by decide +kernel)
theorem zw518 : (Jvm.Cond.code ({ cls := "TallShip$Reader", name := "readSum", desc := "(II)I" } : Jvm.MethodName) prog_5_method_12_code (6 : Nat) (Option.some Jvm.ClassFile.FieldType.int)) ∈ zT := zT_mem 518 (by decide +kernel) (by decide +kernel)
theorem zw519 : (Jvm.Cond.methodLink "TallShip$Reader" (138 : Nat) ({ cls := "TallShip$Reader", name := "partHere", desc := "()I" } : Jvm.MethodName)) ∈ zT := zT_mem 519 (by decide +kernel) (by decide +kernel)
theorem zw521 : (Jvm.Cond.instanceMethod ({ cls := "TallShip$Reader", name := "partHere", desc := "()I" } : Jvm.MethodName)) ∈ zT := zT_mem 521 (by decide +kernel) (by decide +kernel)
theorem zw522 : (Jvm.Cond.code ({ cls := "TallShip$Reader", name := "partHere", desc := "()I" } : Jvm.MethodName) prog_5_method_13_code (1 : Nat) (Option.some Jvm.ClassFile.FieldType.int)) ∈ zT := zT_mem 522 (by decide +kernel) (by decide +kernel)
theorem zw530 : (Jvm.Cond.methodLink "TallShip$Reader" (141 : Nat) ({ cls := "TallShip$Script", name := "weigh", desc := "(III)V" } : Jvm.MethodName)) ∈ zT := zT_mem 530 (by decide +kernel) (by decide +kernel)
theorem zw531 : (Jvm.Cond.instanceMethod ({ cls := "TallShip$Script", name := "weigh", desc := "(III)V" } : Jvm.MethodName)) ∈ zT := zT_mem 531 (by decide +kernel) (by decide +kernel)
theorem zw532 : (Jvm.Cond.selects "TallShip$Script" ({ cls := "TallShip$Script", name := "weigh", desc := "(III)V" } : Jvm.MethodName) ({ cls := "TallShip$Script", name := "weigh", desc := "(III)V" } : Jvm.MethodName)) ∈ zT := zT_mem 532 (by decide +kernel) (by decide +kernel)
theorem zw533 : (Jvm.Cond.code ({ cls := "TallShip$Script", name := "weigh", desc := "(III)V" } : Jvm.MethodName) prog_7_method_3_code (4 : Nat) (Option.none : Option Jvm.ClassFile.FieldType)) ∈ zT := zT_mem 533 (by decide +kernel) (by decide +kernel)
theorem zw534 : (Jvm.Cond.methodLink "TallShip$Reader" (135 : Nat) ({ cls := "TallShip$Reader", name := "readOpening", desc := "(I)I" } : Jvm.MethodName)) ∈ zT := zT_mem 534 (by decide +kernel) (by decide +kernel)
theorem zw536 : (Jvm.Cond.instanceMethod ({ cls := "TallShip$Reader", name := "readOpening", desc := "(I)I" } : Jvm.MethodName)) ∈ zT := zT_mem 536 (by decide +kernel) (by decide +kernel)
theorem zw537 : (Jvm.Cond.code ({ cls := "TallShip$Reader", name := "readOpening", desc := "(I)I" } : Jvm.MethodName) prog_5_method_14_code (3 : Nat) (Option.some Jvm.ClassFile.FieldType.int)) ∈ zT := zT_mem 537 (by decide +kernel) (by decide +kernel)
theorem zw538 : (Jvm.Cond.methodLink "TallShip$Reader" (93 : Nat) ({ cls := "TallShip$Reader", name := "readOrder", desc := "(II)I" } : Jvm.MethodName)) ∈ zT := zT_mem 538 (by decide +kernel) (by decide +kernel)
theorem zw540 : (Jvm.Cond.instanceMethod ({ cls := "TallShip$Reader", name := "readOrder", desc := "(II)I" } : Jvm.MethodName)) ∈ zT := zT_mem 540 (by decide +kernel) (by decide +kernel)
theorem zw541 : (Jvm.Cond.code ({ cls := "TallShip$Reader", name := "readOrder", desc := "(II)I" } : Jvm.MethodName) prog_5_method_8_code (4 : Nat) (Option.some Jvm.ClassFile.FieldType.int)) ∈ zT := zT_mem 541 (by decide +kernel) (by decide +kernel)
theorem zw542 : (Jvm.Cond.fieldLink "TallShip$Reader" (114 : Nat) "TallShip$Reader" "LOWEST" "[I") ∈ zT := zT_mem 542 (by decide +kernel) (by decide +kernel)
theorem zw544 : (Jvm.Cond.fieldLink "TallShip$Reader" (117 : Nat) "TallShip$Reader" "HIGHEST" "[I") ∈ zT := zT_mem 544 (by decide +kernel) (by decide +kernel)
theorem zw546 : (Jvm.Cond.methodLink "TallShip$Reader" (120 : Nat) ({ cls := "TallShip$Reader", name := "checkNumber", desc := "(II)I" } : Jvm.MethodName)) ∈ zT := zT_mem 546 (by decide +kernel) (by decide +kernel)
theorem zw548 : (Jvm.Cond.instanceMethod ({ cls := "TallShip$Reader", name := "checkNumber", desc := "(II)I" } : Jvm.MethodName)) ∈ zT := zT_mem 548 (by decide +kernel) (by decide +kernel)
theorem zw549 : (Jvm.Cond.code ({ cls := "TallShip$Reader", name := "checkNumber", desc := "(II)I" } : Jvm.MethodName) prog_5_method_9_code (4 : Nat) (Option.some Jvm.ClassFile.FieldType.int)) ∈ zT := zT_mem 549 (by decide +kernel) (by decide +kernel)
theorem zw550 : (Jvm.Cond.methodLink "TallShip$Reader" (51 : Nat) ({ cls := "TallShip$Script", name := "link", desc := "()V" } : Jvm.MethodName)) ∈ zT := zT_mem 550 (by decide +kernel) (by decide +kernel)
theorem zw551 : (Jvm.Cond.instanceMethod ({ cls := "TallShip$Script", name := "link", desc := "()V" } : Jvm.MethodName)) ∈ zT := zT_mem 551 (by decide +kernel) (by decide +kernel)
theorem zw552 : (Jvm.Cond.selects "TallShip$Script" ({ cls := "TallShip$Script", name := "link", desc := "()V" } : Jvm.MethodName) ({ cls := "TallShip$Script", name := "link", desc := "()V" } : Jvm.MethodName)) ∈ zT := zT_mem 552 (by decide +kernel) (by decide +kernel)
theorem zw553 : (Jvm.Cond.code ({ cls := "TallShip$Script", name := "link", desc := "()V" } : Jvm.MethodName) prog_7_method_4_code (3 : Nat) (Option.none : Option Jvm.ClassFile.FieldType)) ∈ zT := zT_mem 553 (by decide +kernel) (by decide +kernel)
theorem zw554 : (Jvm.Cond.methodLink "TallShip$Script" (40 : Nat) ({ cls := "TallShip$Script", name := "blockEnd", desc := "(II)I" } : Jvm.MethodName)) ∈ zT := zT_mem 554 (by decide +kernel) (by decide +kernel)
theorem zw556 : (Jvm.Cond.instanceMethod ({ cls := "TallShip$Script", name := "blockEnd", desc := "(II)I" } : Jvm.MethodName)) ∈ zT := zT_mem 556 (by decide +kernel) (by decide +kernel)
theorem zw557 : (Jvm.Cond.code ({ cls := "TallShip$Script", name := "blockEnd", desc := "(II)I" } : Jvm.MethodName) prog_7_method_5_code (3 : Nat) (Option.some Jvm.ClassFile.FieldType.int)) ∈ zT := zT_mem 557 (by decide +kernel) (by decide +kernel)
theorem zw558 : (Jvm.Cond.arrayClass Jvm.ClassFile.FieldType.byte) ∈ zT := zT_mem 558 (by decide +kernel) (by decide +kernel)
theorem zw559 : (Jvm.Cond.methodLink "TallShipLaw" (39 : Nat) ({ cls := "TallShip", name := "wind", desc := "(III)Z" } : Jvm.MethodName)) ∈ zT := zT_mem 559 (by decide +kernel) (by decide +kernel)
theorem zw560 : (Jvm.Cond.instanceMethod ({ cls := "TallShip", name := "wind", desc := "(III)Z" } : Jvm.MethodName)) ∈ zT := zT_mem 560 (by decide +kernel) (by decide +kernel)
theorem zw561 : (Jvm.Cond.selects "TallShip" ({ cls := "TallShip", name := "wind", desc := "(III)Z" } : Jvm.MethodName) ({ cls := "TallShip", name := "wind", desc := "(III)Z" } : Jvm.MethodName)) ∈ zT := zT_mem 561 (by decide +kernel) (by decide +kernel)
theorem zw562 : (Jvm.Cond.code ({ cls := "TallShip", name := "wind", desc := "(III)Z" } : Jvm.MethodName) prog_1_method_4_code (4 : Nat) (Option.some Jvm.ClassFile.FieldType.boolean)) ∈ zT := zT_mem 562 (by decide +kernel) (by decide +kernel)
theorem zw563 : (Jvm.Cond.methodLink "TallShip" (87 : Nat) ({ cls := "TallShip$Winds", name := "tell", desc := "(III)Z" } : Jvm.MethodName)) ∈ zT := zT_mem 563 (by decide +kernel) (by decide +kernel)
theorem zw564 : (Jvm.Cond.instanceMethod ({ cls := "TallShip$Winds", name := "tell", desc := "(III)Z" } : Jvm.MethodName)) ∈ zT := zT_mem 564 (by decide +kernel) (by decide +kernel)
theorem zw565 : (Jvm.Cond.selects "TallShip$Winds" ({ cls := "TallShip$Winds", name := "tell", desc := "(III)Z" } : Jvm.MethodName) ({ cls := "TallShip$Winds", name := "tell", desc := "(III)Z" } : Jvm.MethodName)) ∈ zT := zT_mem 565 (by decide +kernel) (by decide +kernel)
theorem zw566 : (Jvm.Cond.code ({ cls := "TallShip$Winds", name := "tell", desc := "(III)Z" } : Jvm.MethodName) prog_9_method_2_code (4 : Nat) (Option.some Jvm.ClassFile.FieldType.boolean)) ∈ zT := zT_mem 566 (by decide +kernel) (by decide +kernel)
theorem zw567 : (Jvm.Cond.constant "TallShip$Winds" (19 : Nat) (100000 : Int32)) ∈ zT := zT_mem 567 (by decide +kernel) (by decide +kernel)
theorem zw568 : (Jvm.Cond.methodLink "TallShip$Winds" (20 : Nat) ({ cls := "TallShip$Compass", name := "isWind", desc := "(II)Z" } : Jvm.MethodName)) ∈ zT := zT_mem 568 (by decide +kernel) (by decide +kernel)
theorem zw569 : (Jvm.Cond.static ({ cls := "TallShip$Compass", name := "isWind", desc := "(II)Z" } : Jvm.MethodName)) ∈ zT := zT_mem 569 (by decide +kernel) (by decide +kernel)
theorem zw570 : (Jvm.Cond.code ({ cls := "TallShip$Compass", name := "isWind", desc := "(II)Z" } : Jvm.MethodName) prog_2_method_2_code (2 : Nat) (Option.some Jvm.ClassFile.FieldType.boolean)) ∈ zT := zT_mem 570 (by decide +kernel) (by decide +kernel)
theorem zw571 : (Jvm.Cond.methodLink "TallShip$Winds" (34 : Nat) ({ cls := "TallShip$Winds", name := "find", desc := "(I)V" } : Jvm.MethodName)) ∈ zT := zT_mem 571 (by decide +kernel) (by decide +kernel)
theorem zw573 : (Jvm.Cond.instanceMethod ({ cls := "TallShip$Winds", name := "find", desc := "(I)V" } : Jvm.MethodName)) ∈ zT := zT_mem 573 (by decide +kernel) (by decide +kernel)
theorem zw574 : (Jvm.Cond.code ({ cls := "TallShip$Winds", name := "find", desc := "(I)V" } : Jvm.MethodName) prog_9_method_4_code (4 : Nat) (Option.none : Option Jvm.ClassFile.FieldType)) ∈ zT := zT_mem 574 (by decide +kernel) (by decide +kernel)
theorem zw575 : (Jvm.Cond.methodLink "TallShipLaw" (44 : Nat) ({ cls := "TallShip", name := "minutes", desc := "(I)I" } : Jvm.MethodName)) ∈ zT := zT_mem 575 (by decide +kernel) (by decide +kernel)
theorem zw576 : (Jvm.Cond.instanceMethod ({ cls := "TallShip", name := "minutes", desc := "(I)I" } : Jvm.MethodName)) ∈ zT := zT_mem 576 (by decide +kernel) (by decide +kernel)
theorem zw577 : (Jvm.Cond.selects "TallShip" ({ cls := "TallShip", name := "minutes", desc := "(I)I" } : Jvm.MethodName) ({ cls := "TallShip", name := "minutes", desc := "(I)I" } : Jvm.MethodName)) ∈ zT := zT_mem 577 (by decide +kernel) (by decide +kernel)
theorem zw578 : (Jvm.Cond.code ({ cls := "TallShip", name := "minutes", desc := "(I)I" } : Jvm.MethodName) prog_1_method_5_code (3 : Nat) (Option.some Jvm.ClassFile.FieldType.int)) ∈ zT := zT_mem 578 (by decide +kernel) (by decide +kernel)
theorem zw579 : (Jvm.Cond.methodLink "TallShip" (91 : Nat) ({ cls := "TallShip", name := "passMinute", desc := "()V" } : Jvm.MethodName)) ∈ zT := zT_mem 579 (by decide +kernel) (by decide +kernel)
theorem zw581 : (Jvm.Cond.instanceMethod ({ cls := "TallShip", name := "passMinute", desc := "()V" } : Jvm.MethodName)) ∈ zT := zT_mem 581 (by decide +kernel) (by decide +kernel)
theorem zw582 : (Jvm.Cond.code ({ cls := "TallShip", name := "passMinute", desc := "()V" } : Jvm.MethodName) prog_1_method_14_code (2 : Nat) (Option.none : Option Jvm.ClassFile.FieldType)) ∈ zT := zT_mem 582 (by decide +kernel) (by decide +kernel)
theorem zw583 : (Jvm.Cond.methodLink "TallShip" (185 : Nat) ({ cls := "TallShip$Winds", name := "blow", desc := "(I)V" } : Jvm.MethodName)) ∈ zT := zT_mem 583 (by decide +kernel) (by decide +kernel)
theorem zw584 : (Jvm.Cond.instanceMethod ({ cls := "TallShip$Winds", name := "blow", desc := "(I)V" } : Jvm.MethodName)) ∈ zT := zT_mem 584 (by decide +kernel) (by decide +kernel)
theorem zw585 : (Jvm.Cond.selects "TallShip$Winds" ({ cls := "TallShip$Winds", name := "blow", desc := "(I)V" } : Jvm.MethodName) ({ cls := "TallShip$Winds", name := "blow", desc := "(I)V" } : Jvm.MethodName)) ∈ zT := zT_mem 585 (by decide +kernel) (by decide +kernel)
theorem zw586 : (Jvm.Cond.code ({ cls := "TallShip$Winds", name := "blow", desc := "(I)V" } : Jvm.MethodName) prog_9_method_3_code (2 : Nat) (Option.none : Option Jvm.ClassFile.FieldType)) ∈ zT := zT_mem 586 (by decide +kernel) (by decide +kernel)
theorem zw587 : (Jvm.Cond.methodLink "TallShip" (188 : Nat) ({ cls := "TallShip", name := "endWorks", desc := "()V" } : Jvm.MethodName)) ∈ zT := zT_mem 587 (by decide +kernel) (by decide +kernel)
theorem zw589 : (Jvm.Cond.instanceMethod ({ cls := "TallShip", name := "endWorks", desc := "()V" } : Jvm.MethodName)) ∈ zT := zT_mem 589 (by decide +kernel) (by decide +kernel)
theorem zw590 : (Jvm.Cond.code ({ cls := "TallShip", name := "endWorks", desc := "()V" } : Jvm.MethodName) prog_1_method_15_code (2 : Nat) (Option.none : Option Jvm.ClassFile.FieldType)) ∈ zT := zT_mem 590 (by decide +kernel) (by decide +kernel)
theorem zw591 : (Jvm.Cond.methodLink "TallShip" (221 : Nat) ({ cls := "TallShip$Crew", name := "isDue", desc := "(II)Z" } : Jvm.MethodName)) ∈ zT := zT_mem 591 (by decide +kernel) (by decide +kernel)
theorem zw592 : (Jvm.Cond.instanceMethod ({ cls := "TallShip$Crew", name := "isDue", desc := "(II)Z" } : Jvm.MethodName)) ∈ zT := zT_mem 592 (by decide +kernel) (by decide +kernel)
theorem zw593 : (Jvm.Cond.selects "TallShip$Crew" ({ cls := "TallShip$Crew", name := "isDue", desc := "(II)Z" } : Jvm.MethodName) ({ cls := "TallShip$Crew", name := "isDue", desc := "(II)Z" } : Jvm.MethodName)) ∈ zT := zT_mem 593 (by decide +kernel) (by decide +kernel)
theorem zw594 : (Jvm.Cond.code ({ cls := "TallShip$Crew", name := "isDue", desc := "(II)Z" } : Jvm.MethodName) prog_3_method_5_code (3 : Nat) (Option.some Jvm.ClassFile.FieldType.boolean)) ∈ zT := zT_mem 594 (by decide +kernel) (by decide +kernel)
theorem zw595 : (Jvm.Cond.methodLink "TallShip" (234 : Nat) ({ cls := "TallShip$Rig", name := "finish", desc := "(III)V" } : Jvm.MethodName)) ∈ zT := zT_mem 595 (by decide +kernel) (by decide +kernel)
theorem zw596 : (Jvm.Cond.instanceMethod ({ cls := "TallShip$Rig", name := "finish", desc := "(III)V" } : Jvm.MethodName)) ∈ zT := zT_mem 596 (by decide +kernel) (by decide +kernel)
theorem zw597 : (Jvm.Cond.selects "TallShip$Rig" ({ cls := "TallShip$Rig", name := "finish", desc := "(III)V" } : Jvm.MethodName) ({ cls := "TallShip$Rig", name := "finish", desc := "(III)V" } : Jvm.MethodName)) ∈ zT := zT_mem 597 (by decide +kernel) (by decide +kernel)
theorem zw598 : (Jvm.Cond.code ({ cls := "TallShip$Rig", name := "finish", desc := "(III)V" } : Jvm.MethodName) prog_6_method_8_code (4 : Nat) (Option.none : Option Jvm.ClassFile.FieldType)) ∈ zT := zT_mem 598 (by decide +kernel) (by decide +kernel)
theorem zw599 : (Jvm.Cond.methodLink "TallShip$Rig" (46 : Nat) ({ cls := "TallShip$Rig", name := "mark", desc := "(III)V" } : Jvm.MethodName)) ∈ zT := zT_mem 599 (by decide +kernel) (by decide +kernel)
theorem zw600 : (Jvm.Cond.instanceMethod ({ cls := "TallShip$Rig", name := "mark", desc := "(III)V" } : Jvm.MethodName)) ∈ zT := zT_mem 600 (by decide +kernel) (by decide +kernel)
theorem zw601 : (Jvm.Cond.selects "TallShip$Rig" ({ cls := "TallShip$Rig", name := "mark", desc := "(III)V" } : Jvm.MethodName) ({ cls := "TallShip$Rig", name := "mark", desc := "(III)V" } : Jvm.MethodName)) ∈ zT := zT_mem 601 (by decide +kernel) (by decide +kernel)
theorem zw602 : (Jvm.Cond.code ({ cls := "TallShip$Rig", name := "mark", desc := "(III)V" } : Jvm.MethodName) prog_6_method_7_code (4 : Nat) (Option.none : Option Jvm.ClassFile.FieldType)) ∈ zT := zT_mem 602 (by decide +kernel) (by decide +kernel)
theorem zw603 : (Jvm.Cond.methodLink "TallShip$Rig" (50 : Nat) ({ cls := "TallShip$Rig", name := "become", desc := "(III)V" } : Jvm.MethodName)) ∈ zT := zT_mem 603 (by decide +kernel) (by decide +kernel)
theorem zw605 : (Jvm.Cond.instanceMethod ({ cls := "TallShip$Rig", name := "become", desc := "(III)V" } : Jvm.MethodName)) ∈ zT := zT_mem 605 (by decide +kernel) (by decide +kernel)
theorem zw606 : (Jvm.Cond.code ({ cls := "TallShip$Rig", name := "become", desc := "(III)V" } : Jvm.MethodName) prog_6_method_9_code (4 : Nat) (Option.none : Option Jvm.ClassFile.FieldType)) ∈ zT := zT_mem 606 (by decide +kernel) (by decide +kernel)
theorem zw607 : (Jvm.Cond.methodLink "TallShip$Rig" (53 : Nat) ({ cls := "TallShip$Rig", name := "renew", desc := "(I)V" } : Jvm.MethodName)) ∈ zT := zT_mem 607 (by decide +kernel) (by decide +kernel)
theorem zw609 : (Jvm.Cond.instanceMethod ({ cls := "TallShip$Rig", name := "renew", desc := "(I)V" } : Jvm.MethodName)) ∈ zT := zT_mem 609 (by decide +kernel) (by decide +kernel)
theorem zw610 : (Jvm.Cond.code ({ cls := "TallShip$Rig", name := "renew", desc := "(I)V" } : Jvm.MethodName) prog_6_method_10_code (3 : Nat) (Option.none : Option Jvm.ClassFile.FieldType)) ∈ zT := zT_mem 610 (by decide +kernel) (by decide +kernel)
theorem zw611 : (Jvm.Cond.methodLink "TallShip$Rig" (42 : Nat) ({ cls := "TallShip$Rig", name := "hasParted", desc := "(I)Z" } : Jvm.MethodName)) ∈ zT := zT_mem 611 (by decide +kernel) (by decide +kernel)
theorem zw613 : (Jvm.Cond.instanceMethod ({ cls := "TallShip$Rig", name := "hasParted", desc := "(I)Z" } : Jvm.MethodName)) ∈ zT := zT_mem 613 (by decide +kernel) (by decide +kernel)
theorem zw614 : (Jvm.Cond.code ({ cls := "TallShip$Rig", name := "hasParted", desc := "(I)Z" } : Jvm.MethodName) prog_6_method_6_code (2 : Nat) (Option.some Jvm.ClassFile.FieldType.boolean)) ∈ zT := zT_mem 614 (by decide +kernel) (by decide +kernel)
theorem zw615 : (Jvm.Cond.methodLink "TallShip" (238 : Nat) ({ cls := "TallShip$Crew", name := "release", desc := "(I)V" } : Jvm.MethodName)) ∈ zT := zT_mem 615 (by decide +kernel) (by decide +kernel)
theorem zw616 : (Jvm.Cond.instanceMethod ({ cls := "TallShip$Crew", name := "release", desc := "(I)V" } : Jvm.MethodName)) ∈ zT := zT_mem 616 (by decide +kernel) (by decide +kernel)
theorem zw617 : (Jvm.Cond.selects "TallShip$Crew" ({ cls := "TallShip$Crew", name := "release", desc := "(I)V" } : Jvm.MethodName) ({ cls := "TallShip$Crew", name := "release", desc := "(I)V" } : Jvm.MethodName)) ∈ zT := zT_mem 617 (by decide +kernel) (by decide +kernel)
theorem zw618 : (Jvm.Cond.code ({ cls := "TallShip$Crew", name := "release", desc := "(I)V" } : Jvm.MethodName) prog_3_method_9_code (3 : Nat) (Option.none : Option Jvm.ClassFile.FieldType)) ∈ zT := zT_mem 618 (by decide +kernel) (by decide +kernel)
theorem zw619 : (Jvm.Cond.methodLink "TallShip" (191 : Nat) ({ cls := "TallShip", name := "carryOut", desc := "()V" } : Jvm.MethodName)) ∈ zT := zT_mem 619 (by decide +kernel) (by decide +kernel)
theorem zw621 : (Jvm.Cond.instanceMethod ({ cls := "TallShip", name := "carryOut", desc := "()V" } : Jvm.MethodName)) ∈ zT := zT_mem 621 (by decide +kernel) (by decide +kernel)
theorem zw622 : (Jvm.Cond.code ({ cls := "TallShip", name := "carryOut", desc := "()V" } : Jvm.MethodName) prog_1_method_16_code (2 : Nat) (Option.none : Option Jvm.ClassFile.FieldType)) ∈ zT := zT_mem 622 (by decide +kernel) (by decide +kernel)
theorem zw623 : (Jvm.Cond.methodLink "TallShip" (241 : Nat) ({ cls := "TallShip", name := "weighParts", desc := "()V" } : Jvm.MethodName)) ∈ zT := zT_mem 623 (by decide +kernel) (by decide +kernel)
theorem zw625 : (Jvm.Cond.instanceMethod ({ cls := "TallShip", name := "weighParts", desc := "()V" } : Jvm.MethodName)) ∈ zT := zT_mem 625 (by decide +kernel) (by decide +kernel)
theorem zw626 : (Jvm.Cond.code ({ cls := "TallShip", name := "weighParts", desc := "()V" } : Jvm.MethodName) prog_1_method_17_code (2 : Nat) (Option.none : Option Jvm.ClassFile.FieldType)) ∈ zT := zT_mem 626 (by decide +kernel) (by decide +kernel)
theorem zw627 : (Jvm.Cond.methodLink "TallShip" (199 : Nat) ({ cls := "TallShip$Compass", name := "apart", desc := "(II)I" } : Jvm.MethodName)) ∈ zT := zT_mem 627 (by decide +kernel) (by decide +kernel)
theorem zw628 : (Jvm.Cond.static ({ cls := "TallShip$Compass", name := "apart", desc := "(II)I" } : Jvm.MethodName)) ∈ zT := zT_mem 628 (by decide +kernel) (by decide +kernel)
theorem zw629 : (Jvm.Cond.code ({ cls := "TallShip$Compass", name := "apart", desc := "(II)I" } : Jvm.MethodName) prog_2_method_3_code (3 : Nat) (Option.some Jvm.ClassFile.FieldType.int)) ∈ zT := zT_mem 629 (by decide +kernel) (by decide +kernel)
theorem zw630 : (Jvm.Cond.methodLink "TallShip$Compass" (9 : Nat) ({ cls := "java/lang/Math", name := "min", desc := "(II)I" } : Jvm.MethodName)) ∈ zT := zT_mem 630 (by decide +kernel) (by decide +kernel)
theorem zw631 : (Jvm.Cond.static ({ cls := "java/lang/Math", name := "min", desc := "(II)I" } : Jvm.MethodName)) ∈ zT := zT_mem 631 (by decide +kernel) (by decide +kernel)
theorem zw632 : (Jvm.Cond.code ({ cls := "java/lang/Math", name := "min", desc := "(II)I" } : Jvm.MethodName) prog_13_method_69_code (2 : Nat) (Option.some Jvm.ClassFile.FieldType.int)) ∈ zT := zT_mem 632 (by decide +kernel) (by decide +kernel)
theorem zw633 : (Jvm.Cond.methodLink "TallShip" (208 : Nat) ({ cls := "TallShip$Compass", name := "isAback", desc := "(I)Z" } : Jvm.MethodName)) ∈ zT := zT_mem 633 (by decide +kernel) (by decide +kernel)
theorem zw634 : (Jvm.Cond.static ({ cls := "TallShip$Compass", name := "isAback", desc := "(I)Z" } : Jvm.MethodName)) ∈ zT := zT_mem 634 (by decide +kernel) (by decide +kernel)
theorem zw635 : (Jvm.Cond.code ({ cls := "TallShip$Compass", name := "isAback", desc := "(I)Z" } : Jvm.MethodName) prog_2_method_4_code (1 : Nat) (Option.some Jvm.ClassFile.FieldType.boolean)) ∈ zT := zT_mem 635 (by decide +kernel) (by decide +kernel)
theorem zw636 : (Jvm.Cond.methodLink "TallShip" (247 : Nat) ({ cls := "TallShip$Rig", name := "greatestWear", desc := "()I" } : Jvm.MethodName)) ∈ zT := zT_mem 636 (by decide +kernel) (by decide +kernel)
theorem zw637 : (Jvm.Cond.instanceMethod ({ cls := "TallShip$Rig", name := "greatestWear", desc := "()I" } : Jvm.MethodName)) ∈ zT := zT_mem 637 (by decide +kernel) (by decide +kernel)
theorem zw638 : (Jvm.Cond.selects "TallShip$Rig" ({ cls := "TallShip$Rig", name := "greatestWear", desc := "()I" } : Jvm.MethodName) ({ cls := "TallShip$Rig", name := "greatestWear", desc := "()I" } : Jvm.MethodName)) ∈ zT := zT_mem 638 (by decide +kernel) (by decide +kernel)
theorem zw639 : (Jvm.Cond.code ({ cls := "TallShip$Rig", name := "greatestWear", desc := "()I" } : Jvm.MethodName) prog_6_method_16_code (3 : Nat) (Option.some Jvm.ClassFile.FieldType.int)) ∈ zT := zT_mem 639 (by decide +kernel) (by decide +kernel)
theorem zw640 : (Jvm.Cond.methodLink "TallShip$Rig" (75 : Nat) ({ cls := "java/lang/Math", name := "max", desc := "(II)I" } : Jvm.MethodName)) ∈ zT := zT_mem 640 (by decide +kernel) (by decide +kernel)
theorem zw641 : (Jvm.Cond.static ({ cls := "java/lang/Math", name := "max", desc := "(II)I" } : Jvm.MethodName)) ∈ zT := zT_mem 641 (by decide +kernel) (by decide +kernel)
theorem zw642 : (Jvm.Cond.code ({ cls := "java/lang/Math", name := "max", desc := "(II)I" } : Jvm.MethodName) prog_13_method_65_code (2 : Nat) (Option.some Jvm.ClassFile.FieldType.int)) ∈ zT := zT_mem 642 (by decide +kernel) (by decide +kernel)
theorem zw643 : (Jvm.Cond.methodLink "TallShip" (244 : Nat) ({ cls := "TallShip", name := "carryOutOne", desc := "(I)Z" } : Jvm.MethodName)) ∈ zT := zT_mem 643 (by decide +kernel) (by decide +kernel)
theorem zw645 : (Jvm.Cond.instanceMethod ({ cls := "TallShip", name := "carryOutOne", desc := "(I)Z" } : Jvm.MethodName)) ∈ zT := zT_mem 645 (by decide +kernel) (by decide +kernel)
theorem zw646 : (Jvm.Cond.code ({ cls := "TallShip", name := "carryOutOne", desc := "(I)Z" } : Jvm.MethodName) prog_1_method_18_code (3 : Nat) (Option.some Jvm.ClassFile.FieldType.boolean)) ∈ zT := zT_mem 646 (by decide +kernel) (by decide +kernel)
theorem zw647 : (Jvm.Cond.methodLink "TallShip" (257 : Nat) ({ cls := "TallShip$Script", name := "isTrue", desc := "(I[I)Z" } : Jvm.MethodName)) ∈ zT := zT_mem 647 (by decide +kernel) (by decide +kernel)
theorem zw648 : (Jvm.Cond.instanceMethod ({ cls := "TallShip$Script", name := "isTrue", desc := "(I[I)Z" } : Jvm.MethodName)) ∈ zT := zT_mem 648 (by decide +kernel) (by decide +kernel)
theorem zw649 : (Jvm.Cond.selects "TallShip$Script" ({ cls := "TallShip$Script", name := "isTrue", desc := "(I[I)Z" } : Jvm.MethodName) ({ cls := "TallShip$Script", name := "isTrue", desc := "(I[I)Z" } : Jvm.MethodName)) ∈ zT := zT_mem 649 (by decide +kernel) (by decide +kernel)
theorem zw650 : (Jvm.Cond.code ({ cls := "TallShip$Script", name := "isTrue", desc := "(I[I)Z" } : Jvm.MethodName) prog_7_method_8_code (5 : Nat) (Option.some Jvm.ClassFile.FieldType.boolean)) ∈ zT := zT_mem 650 (by decide +kernel) (by decide +kernel)
theorem zw651 : (Jvm.Cond.methodLink "TallShip" (261 : Nat) ({ cls := "TallShip$Script", name := "whenTrue", desc := "(I)I" } : Jvm.MethodName)) ∈ zT := zT_mem 651 (by decide +kernel) (by decide +kernel)
theorem zw652 : (Jvm.Cond.instanceMethod ({ cls := "TallShip$Script", name := "whenTrue", desc := "(I)I" } : Jvm.MethodName)) ∈ zT := zT_mem 652 (by decide +kernel) (by decide +kernel)
theorem zw653 : (Jvm.Cond.selects "TallShip$Script" ({ cls := "TallShip$Script", name := "whenTrue", desc := "(I)I" } : Jvm.MethodName) ({ cls := "TallShip$Script", name := "whenTrue", desc := "(I)I" } : Jvm.MethodName)) ∈ zT := zT_mem 653 (by decide +kernel) (by decide +kernel)
theorem zw654 : (Jvm.Cond.code ({ cls := "TallShip$Script", name := "whenTrue", desc := "(I)I" } : Jvm.MethodName) prog_7_method_6_code (2 : Nat) (Option.some Jvm.ClassFile.FieldType.int)) ∈ zT := zT_mem 654 (by decide +kernel) (by decide +kernel)
theorem zw655 : (Jvm.Cond.methodLink "TallShip" (264 : Nat) ({ cls := "TallShip$Script", name := "whenFalse", desc := "(I)I" } : Jvm.MethodName)) ∈ zT := zT_mem 655 (by decide +kernel) (by decide +kernel)
theorem zw656 : (Jvm.Cond.instanceMethod ({ cls := "TallShip$Script", name := "whenFalse", desc := "(I)I" } : Jvm.MethodName)) ∈ zT := zT_mem 656 (by decide +kernel) (by decide +kernel)
theorem zw657 : (Jvm.Cond.selects "TallShip$Script" ({ cls := "TallShip$Script", name := "whenFalse", desc := "(I)I" } : Jvm.MethodName) ({ cls := "TallShip$Script", name := "whenFalse", desc := "(I)I" } : Jvm.MethodName)) ∈ zT := zT_mem 657 (by decide +kernel) (by decide +kernel)
theorem zw658 : (Jvm.Cond.code ({ cls := "TallShip$Script", name := "whenFalse", desc := "(I)I" } : Jvm.MethodName) prog_7_method_7_code (2 : Nat) (Option.some Jvm.ClassFile.FieldType.int)) ∈ zT := zT_mem 658 (by decide +kernel) (by decide +kernel)
theorem zw659 : (Jvm.Cond.methodLink "TallShip" (270 : Nat) ({ cls := "TallShip", name := "beginWork", desc := "(III)Z" } : Jvm.MethodName)) ∈ zT := zT_mem 659 (by decide +kernel) (by decide +kernel)
theorem zw661 : (Jvm.Cond.instanceMethod ({ cls := "TallShip", name := "beginWork", desc := "(III)Z" } : Jvm.MethodName)) ∈ zT := zT_mem 661 (by decide +kernel) (by decide +kernel)
theorem zw662 : (Jvm.Cond.code ({ cls := "TallShip", name := "beginWork", desc := "(III)Z" } : Jvm.MethodName) prog_1_method_19_code (5 : Nat) (Option.some Jvm.ClassFile.FieldType.boolean)) ∈ zT := zT_mem 662 (by decide +kernel) (by decide +kernel)
theorem zw663 : (Jvm.Cond.methodLink "TallShip" (276 : Nat) ({ cls := "TallShip$Rig", name := "isBarred", desc := "(II)Z" } : Jvm.MethodName)) ∈ zT := zT_mem 663 (by decide +kernel) (by decide +kernel)
theorem zw664 : (Jvm.Cond.instanceMethod ({ cls := "TallShip$Rig", name := "isBarred", desc := "(II)Z" } : Jvm.MethodName)) ∈ zT := zT_mem 664 (by decide +kernel) (by decide +kernel)
theorem zw665 : (Jvm.Cond.selects "TallShip$Rig" ({ cls := "TallShip$Rig", name := "isBarred", desc := "(II)Z" } : Jvm.MethodName) ({ cls := "TallShip$Rig", name := "isBarred", desc := "(II)Z" } : Jvm.MethodName)) ∈ zT := zT_mem 665 (by decide +kernel) (by decide +kernel)
theorem zw666 : (Jvm.Cond.code ({ cls := "TallShip$Rig", name := "isBarred", desc := "(II)Z" } : Jvm.MethodName) prog_6_method_4_code (3 : Nat) (Option.some Jvm.ClassFile.FieldType.boolean)) ∈ zT := zT_mem 666 (by decide +kernel) (by decide +kernel)
theorem zw667 : (Jvm.Cond.methodLink "TallShip" (279 : Nat) ({ cls := "TallShip$Rig", name := "isIdle", desc := "(III)Z" } : Jvm.MethodName)) ∈ zT := zT_mem 667 (by decide +kernel) (by decide +kernel)
theorem zw668 : (Jvm.Cond.instanceMethod ({ cls := "TallShip$Rig", name := "isIdle", desc := "(III)Z" } : Jvm.MethodName)) ∈ zT := zT_mem 668 (by decide +kernel) (by decide +kernel)
theorem zw669 : (Jvm.Cond.selects "TallShip$Rig" ({ cls := "TallShip$Rig", name := "isIdle", desc := "(III)Z" } : Jvm.MethodName) ({ cls := "TallShip$Rig", name := "isIdle", desc := "(III)Z" } : Jvm.MethodName)) ∈ zT := zT_mem 669 (by decide +kernel) (by decide +kernel)
theorem zw670 : (Jvm.Cond.code ({ cls := "TallShip$Rig", name := "isIdle", desc := "(III)Z" } : Jvm.MethodName) prog_6_method_5_code (4 : Nat) (Option.some Jvm.ClassFile.FieldType.boolean)) ∈ zT := zT_mem 670 (by decide +kernel) (by decide +kernel)
theorem zw671 : (Jvm.Cond.methodLink "TallShip" (282 : Nat) ({ cls := "TallShip$Rig", name := "handsFor", desc := "(I)I" } : Jvm.MethodName)) ∈ zT := zT_mem 671 (by decide +kernel) (by decide +kernel)
theorem zw672 : (Jvm.Cond.static ({ cls := "TallShip$Rig", name := "handsFor", desc := "(I)I" } : Jvm.MethodName)) ∈ zT := zT_mem 672 (by decide +kernel) (by decide +kernel)
theorem zw673 : (Jvm.Cond.code ({ cls := "TallShip$Rig", name := "handsFor", desc := "(I)I" } : Jvm.MethodName) prog_6_method_2_code (1 : Nat) (Option.some Jvm.ClassFile.FieldType.int)) ∈ zT := zT_mem 673 (by decide +kernel) (by decide +kernel)
theorem zw674 : (Jvm.Cond.fieldLink "TallShip$Rig" (33 : Nat) "TallShip$Rig" "HANDS" "[I") ∈ zT := zT_mem 674 (by decide +kernel) (by decide +kernel)
theorem zw676 : (Jvm.Cond.methodLink "TallShip" (285 : Nat) ({ cls := "TallShip$Crew", name := "muster", desc := "(I)I" } : Jvm.MethodName)) ∈ zT := zT_mem 676 (by decide +kernel) (by decide +kernel)
theorem zw677 : (Jvm.Cond.instanceMethod ({ cls := "TallShip$Crew", name := "muster", desc := "(I)I" } : Jvm.MethodName)) ∈ zT := zT_mem 677 (by decide +kernel) (by decide +kernel)
theorem zw678 : (Jvm.Cond.selects "TallShip$Crew" ({ cls := "TallShip$Crew", name := "muster", desc := "(I)I" } : Jvm.MethodName) ({ cls := "TallShip$Crew", name := "muster", desc := "(I)I" } : Jvm.MethodName)) ∈ zT := zT_mem 678 (by decide +kernel) (by decide +kernel)
theorem zw679 : (Jvm.Cond.code ({ cls := "TallShip$Crew", name := "muster", desc := "(I)I" } : Jvm.MethodName) prog_3_method_7_code (6 : Nat) (Option.some Jvm.ClassFile.FieldType.int)) ∈ zT := zT_mem 679 (by decide +kernel) (by decide +kernel)
theorem zw680 : (Jvm.Cond.methodLink "TallShip$Crew" (38 : Nat) ({ cls := "TallShip$Crew", name := "isReady", desc := "(I)Z" } : Jvm.MethodName)) ∈ zT := zT_mem 680 (by decide +kernel) (by decide +kernel)
theorem zw682 : (Jvm.Cond.instanceMethod ({ cls := "TallShip$Crew", name := "isReady", desc := "(I)Z" } : Jvm.MethodName)) ∈ zT := zT_mem 682 (by decide +kernel) (by decide +kernel)
theorem zw683 : (Jvm.Cond.code ({ cls := "TallShip$Crew", name := "isReady", desc := "(I)Z" } : Jvm.MethodName) prog_3_method_6_code (2 : Nat) (Option.some Jvm.ClassFile.FieldType.boolean)) ∈ zT := zT_mem 683 (by decide +kernel) (by decide +kernel)
theorem zw684 : (Jvm.Cond.methodLink "TallShip$Crew" (34 : Nat) ({ cls := "TallShip$Crew", name := "isOnDeck", desc := "(I)Z" } : Jvm.MethodName)) ∈ zT := zT_mem 684 (by decide +kernel) (by decide +kernel)
theorem zw685 : (Jvm.Cond.instanceMethod ({ cls := "TallShip$Crew", name := "isOnDeck", desc := "(I)Z" } : Jvm.MethodName)) ∈ zT := zT_mem 685 (by decide +kernel) (by decide +kernel)
theorem zw686 : (Jvm.Cond.selects "TallShip$Crew" ({ cls := "TallShip$Crew", name := "isOnDeck", desc := "(I)Z" } : Jvm.MethodName) ({ cls := "TallShip$Crew", name := "isOnDeck", desc := "(I)Z" } : Jvm.MethodName)) ∈ zT := zT_mem 686 (by decide +kernel) (by decide +kernel)
theorem zw687 : (Jvm.Cond.code ({ cls := "TallShip$Crew", name := "isOnDeck", desc := "(I)Z" } : Jvm.MethodName) prog_3_method_3_code (2 : Nat) (Option.some Jvm.ClassFile.FieldType.boolean)) ∈ zT := zT_mem 687 (by decide +kernel) (by decide +kernel)
theorem zw688 : (Jvm.Cond.methodLink "TallShip" (288 : Nat) ({ cls := "TallShip$Rig", name := "minutesFor", desc := "(III)I" } : Jvm.MethodName)) ∈ zT := zT_mem 688 (by decide +kernel) (by decide +kernel)
theorem zw689 : (Jvm.Cond.instanceMethod ({ cls := "TallShip$Rig", name := "minutesFor", desc := "(III)I" } : Jvm.MethodName)) ∈ zT := zT_mem 689 (by decide +kernel) (by decide +kernel)
theorem zw690 : (Jvm.Cond.selects "TallShip$Rig" ({ cls := "TallShip$Rig", name := "minutesFor", desc := "(III)I" } : Jvm.MethodName) ({ cls := "TallShip$Rig", name := "minutesFor", desc := "(III)I" } : Jvm.MethodName)) ∈ zT := zT_mem 690 (by decide +kernel) (by decide +kernel)
theorem zw691 : (Jvm.Cond.code ({ cls := "TallShip$Rig", name := "minutesFor", desc := "(III)I" } : Jvm.MethodName) prog_6_method_3_code (4 : Nat) (Option.some Jvm.ClassFile.FieldType.int)) ∈ zT := zT_mem 691 (by decide +kernel) (by decide +kernel)
theorem zw692 : (Jvm.Cond.methodLink "TallShip$Rig" (36 : Nat) ({ cls := "java/lang/Math", name := "abs", desc := "(I)I" } : Jvm.MethodName)) ∈ zT := zT_mem 692 (by decide +kernel) (by decide +kernel)
theorem zw693 : (Jvm.Cond.static ({ cls := "java/lang/Math", name := "abs", desc := "(I)I" } : Jvm.MethodName)) ∈ zT := zT_mem 693 (by decide +kernel) (by decide +kernel)
theorem zw694 : (Jvm.Cond.code ({ cls := "java/lang/Math", name := "abs", desc := "(I)I" } : Jvm.MethodName) prog_13_method_59_code (1 : Nat) (Option.some Jvm.ClassFile.FieldType.int)) ∈ zT := zT_mem 694 (by decide +kernel) (by decide +kernel)
theorem zw695 : (Jvm.Cond.methodLink "TallShip" (292 : Nat) ({ cls := "TallShip$Crew", name := "assign", desc := "(IIIII)V" } : Jvm.MethodName)) ∈ zT := zT_mem 695 (by decide +kernel) (by decide +kernel)
theorem zw696 : (Jvm.Cond.instanceMethod ({ cls := "TallShip$Crew", name := "assign", desc := "(IIIII)V" } : Jvm.MethodName)) ∈ zT := zT_mem 696 (by decide +kernel) (by decide +kernel)
theorem zw697 : (Jvm.Cond.selects "TallShip$Crew" ({ cls := "TallShip$Crew", name := "assign", desc := "(IIIII)V" } : Jvm.MethodName) ({ cls := "TallShip$Crew", name := "assign", desc := "(IIIII)V" } : Jvm.MethodName)) ∈ zT := zT_mem 697 (by decide +kernel) (by decide +kernel)
theorem zw698 : (Jvm.Cond.code ({ cls := "TallShip$Crew", name := "assign", desc := "(IIIII)V" } : Jvm.MethodName) prog_3_method_8_code (6 : Nat) (Option.none : Option Jvm.ClassFile.FieldType)) ∈ zT := zT_mem 698 (by decide +kernel) (by decide +kernel)
theorem zw699 : (Jvm.Cond.methodLink "TallShip" (296 : Nat) ({ cls := "TallShip$Rig", name := "mark", desc := "(III)V" } : Jvm.MethodName)) ∈ zT := zT_mem 699 (by decide +kernel) (by decide +kernel)
theorem zw700 : (Jvm.Cond.methodLink "TallShip" (194 : Nat) ({ cls := "TallShip$Compass", name := "turned", desc := "(II)I" } : Jvm.MethodName)) ∈ zT := zT_mem 700 (by decide +kernel) (by decide +kernel)
theorem zw701 : (Jvm.Cond.static ({ cls := "TallShip$Compass", name := "turned", desc := "(II)I" } : Jvm.MethodName)) ∈ zT := zT_mem 701 (by decide +kernel) (by decide +kernel)
theorem zw702 : (Jvm.Cond.code ({ cls := "TallShip$Compass", name := "turned", desc := "(II)I" } : Jvm.MethodName) prog_2_method_9_code (4 : Nat) (Option.some Jvm.ClassFile.FieldType.int)) ∈ zT := zT_mem 702 (by decide +kernel) (by decide +kernel)
theorem zw703 : (Jvm.Cond.methodLink "TallShip" (202 : Nat) ({ cls := "TallShip$Rig", name := "draw", desc := "(II)I" } : Jvm.MethodName)) ∈ zT := zT_mem 703 (by decide +kernel) (by decide +kernel)
theorem zw704 : (Jvm.Cond.instanceMethod ({ cls := "TallShip$Rig", name := "draw", desc := "(II)I" } : Jvm.MethodName)) ∈ zT := zT_mem 704 (by decide +kernel) (by decide +kernel)
theorem zw705 : (Jvm.Cond.selects "TallShip$Rig" ({ cls := "TallShip$Rig", name := "draw", desc := "(II)I" } : Jvm.MethodName) ({ cls := "TallShip$Rig", name := "draw", desc := "(II)I" } : Jvm.MethodName)) ∈ zT := zT_mem 705 (by decide +kernel) (by decide +kernel)
theorem zw706 : (Jvm.Cond.code ({ cls := "TallShip$Rig", name := "draw", desc := "(II)I" } : Jvm.MethodName) prog_6_method_11_code (5 : Nat) (Option.some Jvm.ClassFile.FieldType.int)) ∈ zT := zT_mem 706 (by decide +kernel) (by decide +kernel)
theorem zw707 : (Jvm.Cond.methodLink "TallShip$Rig" (57 : Nat) ({ cls := "TallShip$Rig", name := "drawOf", desc := "(III)I" } : Jvm.MethodName)) ∈ zT := zT_mem 707 (by decide +kernel) (by decide +kernel)
theorem zw709 : (Jvm.Cond.instanceMethod ({ cls := "TallShip$Rig", name := "drawOf", desc := "(III)I" } : Jvm.MethodName)) ∈ zT := zT_mem 709 (by decide +kernel) (by decide +kernel)
theorem zw710 : (Jvm.Cond.code ({ cls := "TallShip$Rig", name := "drawOf", desc := "(III)I" } : Jvm.MethodName) prog_6_method_12_code (6 : Nat) (Option.some Jvm.ClassFile.FieldType.int)) ∈ zT := zT_mem 710 (by decide +kernel) (by decide +kernel)
theorem zw711 : (Jvm.Cond.fieldLink "TallShip$Rig" (61 : Nat) "TallShip$Rig" "AREA" "[I") ∈ zT := zT_mem 711 (by decide +kernel) (by decide +kernel)
theorem zw713 : (Jvm.Cond.methodLink "TallShip$Rig" (64 : Nat) ({ cls := "TallShip$Compass", name := "isAback", desc := "(I)Z" } : Jvm.MethodName)) ∈ zT := zT_mem 713 (by decide +kernel) (by decide +kernel)
theorem zw714 : (Jvm.Cond.methodLink "TallShip$Rig" (69 : Nat) ({ cls := "TallShip$Compass", name := "best", desc := "(I)I" } : Jvm.MethodName)) ∈ zT := zT_mem 714 (by decide +kernel) (by decide +kernel)
theorem zw715 : (Jvm.Cond.static ({ cls := "TallShip$Compass", name := "best", desc := "(I)I" } : Jvm.MethodName)) ∈ zT := zT_mem 715 (by decide +kernel) (by decide +kernel)
theorem zw716 : (Jvm.Cond.code ({ cls := "TallShip$Compass", name := "best", desc := "(I)I" } : Jvm.MethodName) prog_2_method_6_code (1 : Nat) (Option.some Jvm.ClassFile.FieldType.int)) ∈ zT := zT_mem 716 (by decide +kernel) (by decide +kernel)
theorem zw717 : (Jvm.Cond.methodLink "TallShip$Rig" (72 : Nat) ({ cls := "TallShip$Compass", name := "pull", desc := "(I)I" } : Jvm.MethodName)) ∈ zT := zT_mem 717 (by decide +kernel) (by decide +kernel)
theorem zw718 : (Jvm.Cond.static ({ cls := "TallShip$Compass", name := "pull", desc := "(I)I" } : Jvm.MethodName)) ∈ zT := zT_mem 718 (by decide +kernel) (by decide +kernel)
theorem zw719 : (Jvm.Cond.code ({ cls := "TallShip$Compass", name := "pull", desc := "(I)I" } : Jvm.MethodName) prog_2_method_5_code (1 : Nat) (Option.some Jvm.ClassFile.FieldType.int)) ∈ zT := zT_mem 719 (by decide +kernel) (by decide +kernel)
theorem zw720 : (Jvm.Cond.fieldLink "TallShip$Compass" (15 : Nat) "TallShip$Compass" "PULL" "[I") ∈ zT := zT_mem 720 (by decide +kernel) (by decide +kernel)
theorem zw722 : (Jvm.Cond.methodLink "TallShip" (205 : Nat) ({ cls := "TallShip", name := "changeSpeed", desc := "(I)V" } : Jvm.MethodName)) ∈ zT := zT_mem 722 (by decide +kernel) (by decide +kernel)
theorem zw724 : (Jvm.Cond.instanceMethod ({ cls := "TallShip", name := "changeSpeed", desc := "(I)V" } : Jvm.MethodName)) ∈ zT := zT_mem 724 (by decide +kernel) (by decide +kernel)
theorem zw725 : (Jvm.Cond.code ({ cls := "TallShip", name := "changeSpeed", desc := "(I)V" } : Jvm.MethodName) prog_1_method_20_code (3 : Nat) (Option.none : Option Jvm.ClassFile.FieldType)) ∈ zT := zT_mem 725 (by decide +kernel) (by decide +kernel)
theorem zw726 : (Jvm.Cond.methodLink "TallShip" (299 : Nat) ({ cls := "java/lang/Math", name := "min", desc := "(II)I" } : Jvm.MethodName)) ∈ zT := zT_mem 726 (by decide +kernel) (by decide +kernel)
theorem zw727 : (Jvm.Cond.methodLink "TallShip" (304 : Nat) ({ cls := "java/lang/Math", name := "max", desc := "(II)I" } : Jvm.MethodName)) ∈ zT := zT_mem 727 (by decide +kernel) (by decide +kernel)
theorem zw728 : (Jvm.Cond.methodLink "TallShip" (211 : Nat) ({ cls := "TallShip", name := "strainSails", desc := "(Z)V" } : Jvm.MethodName)) ∈ zT := zT_mem 728 (by decide +kernel) (by decide +kernel)
theorem zw730 : (Jvm.Cond.instanceMethod ({ cls := "TallShip", name := "strainSails", desc := "(Z)V" } : Jvm.MethodName)) ∈ zT := zT_mem 730 (by decide +kernel) (by decide +kernel)
theorem zw731 : (Jvm.Cond.code ({ cls := "TallShip", name := "strainSails", desc := "(Z)V" } : Jvm.MethodName) prog_1_method_21_code (4 : Nat) (Option.none : Option Jvm.ClassFile.FieldType)) ∈ zT := zT_mem 731 (by decide +kernel) (by decide +kernel)
theorem zw732 : (Jvm.Cond.methodLink "TallShip" (307 : Nat) ({ cls := "TallShip$Rig", name := "strain", desc := "(IIZ)Z" } : Jvm.MethodName)) ∈ zT := zT_mem 732 (by decide +kernel) (by decide +kernel)
theorem zw733 : (Jvm.Cond.instanceMethod ({ cls := "TallShip$Rig", name := "strain", desc := "(IIZ)Z" } : Jvm.MethodName)) ∈ zT := zT_mem 733 (by decide +kernel) (by decide +kernel)
theorem zw734 : (Jvm.Cond.selects "TallShip$Rig" ({ cls := "TallShip$Rig", name := "strain", desc := "(IIZ)Z" } : Jvm.MethodName) ({ cls := "TallShip$Rig", name := "strain", desc := "(IIZ)Z" } : Jvm.MethodName)) ∈ zT := zT_mem 734 (by decide +kernel) (by decide +kernel)
theorem zw735 : (Jvm.Cond.code ({ cls := "TallShip$Rig", name := "strain", desc := "(IIZ)Z" } : Jvm.MethodName) prog_6_method_13_code (6 : Nat) (Option.some Jvm.ClassFile.FieldType.boolean)) ∈ zT := zT_mem 735 (by decide +kernel) (by decide +kernel)
theorem zw736 : (Jvm.Cond.methodLink "TallShip$Rig" (83 : Nat) ({ cls := "TallShip$Rig", name := "strainRope", desc := "(II)V" } : Jvm.MethodName)) ∈ zT := zT_mem 736 (by decide +kernel) (by decide +kernel)
theorem zw738 : (Jvm.Cond.instanceMethod ({ cls := "TallShip$Rig", name := "strainRope", desc := "(II)V" } : Jvm.MethodName)) ∈ zT := zT_mem 738 (by decide +kernel) (by decide +kernel)
theorem zw739 : (Jvm.Cond.code ({ cls := "TallShip$Rig", name := "strainRope", desc := "(II)V" } : Jvm.MethodName) prog_6_method_14_code (3 : Nat) (Option.none : Option Jvm.ClassFile.FieldType)) ∈ zT := zT_mem 739 (by decide +kernel) (by decide +kernel)
theorem zw740 : (Jvm.Cond.methodLink "TallShip" (311 : Nat) ({ cls := "TallShip$Rig", name := "lose", desc := "(I)V" } : Jvm.MethodName)) ∈ zT := zT_mem 740 (by decide +kernel) (by decide +kernel)
theorem zw741 : (Jvm.Cond.instanceMethod ({ cls := "TallShip$Rig", name := "lose", desc := "(I)V" } : Jvm.MethodName)) ∈ zT := zT_mem 741 (by decide +kernel) (by decide +kernel)
theorem zw742 : (Jvm.Cond.selects "TallShip$Rig" ({ cls := "TallShip$Rig", name := "lose", desc := "(I)V" } : Jvm.MethodName) ({ cls := "TallShip$Rig", name := "lose", desc := "(I)V" } : Jvm.MethodName)) ∈ zT := zT_mem 742 (by decide +kernel) (by decide +kernel)
theorem zw743 : (Jvm.Cond.code ({ cls := "TallShip$Rig", name := "lose", desc := "(I)V" } : Jvm.MethodName) prog_6_method_15_code (3 : Nat) (Option.none : Option Jvm.ClassFile.FieldType)) ∈ zT := zT_mem 743 (by decide +kernel) (by decide +kernel)
theorem zw744 : (Jvm.Cond.methodLink "TallShip" (215 : Nat) ({ cls := "TallShip$Compass", name := "east", desc := "(I)I" } : Jvm.MethodName)) ∈ zT := zT_mem 744 (by decide +kernel) (by decide +kernel)
theorem zw745 : (Jvm.Cond.static ({ cls := "TallShip$Compass", name := "east", desc := "(I)I" } : Jvm.MethodName)) ∈ zT := zT_mem 745 (by decide +kernel) (by decide +kernel)
theorem zw746 : (Jvm.Cond.code ({ cls := "TallShip$Compass", name := "east", desc := "(I)I" } : Jvm.MethodName) prog_2_method_8_code (1 : Nat) (Option.some Jvm.ClassFile.FieldType.int)) ∈ zT := zT_mem 746 (by decide +kernel) (by decide +kernel)
theorem zw747 : (Jvm.Cond.methodLink "TallShip$Compass" (22 : Nat) ({ cls := "TallShip$Compass", name := "north", desc := "(I)I" } : Jvm.MethodName)) ∈ zT := zT_mem 747 (by decide +kernel) (by decide +kernel)
theorem zw748 : (Jvm.Cond.static ({ cls := "TallShip$Compass", name := "north", desc := "(I)I" } : Jvm.MethodName)) ∈ zT := zT_mem 748 (by decide +kernel) (by decide +kernel)
theorem zw749 : (Jvm.Cond.code ({ cls := "TallShip$Compass", name := "north", desc := "(I)I" } : Jvm.MethodName) prog_2_method_7_code (1 : Nat) (Option.some Jvm.ClassFile.FieldType.int)) ∈ zT := zT_mem 749 (by decide +kernel) (by decide +kernel)
theorem zw750 : (Jvm.Cond.fieldLink "TallShip$Compass" (19 : Nat) "TallShip$Compass" "NORTH" "[I") ∈ zT := zT_mem 750 (by decide +kernel) (by decide +kernel)
theorem zw752 : (Jvm.Cond.methodLink "TallShip" (218 : Nat) ({ cls := "TallShip$Compass", name := "north", desc := "(I)I" } : Jvm.MethodName)) ∈ zT := zT_mem 752 (by decide +kernel) (by decide +kernel)
theorem zw753 : (Jvm.Cond.methodLink "TallShipLaw" (49 : Nat) ({ cls := "TallShip", name := "sail", desc := "(II)I" } : Jvm.MethodName)) ∈ zT := zT_mem 753 (by decide +kernel) (by decide +kernel)
theorem zw754 : (Jvm.Cond.instanceMethod ({ cls := "TallShip", name := "sail", desc := "(II)I" } : Jvm.MethodName)) ∈ zT := zT_mem 754 (by decide +kernel) (by decide +kernel)
theorem zw755 : (Jvm.Cond.selects "TallShip" ({ cls := "TallShip", name := "sail", desc := "(II)I" } : Jvm.MethodName) ({ cls := "TallShip", name := "sail", desc := "(II)I" } : Jvm.MethodName)) ∈ zT := zT_mem 755 (by decide +kernel) (by decide +kernel)
theorem zw756 : (Jvm.Cond.code ({ cls := "TallShip", name := "sail", desc := "(II)I" } : Jvm.MethodName) prog_1_method_6_code (3 : Nat) (Option.some Jvm.ClassFile.FieldType.int)) ∈ zT := zT_mem 756 (by decide +kernel) (by decide +kernel)
theorem zw757 : (Jvm.Cond.methodLink "TallShipLaw" (53 : Nat) ({ cls := "TallShip", name := "rope", desc := "(II)I" } : Jvm.MethodName)) ∈ zT := zT_mem 757 (by decide +kernel) (by decide +kernel)
theorem zw758 : (Jvm.Cond.instanceMethod ({ cls := "TallShip", name := "rope", desc := "(II)I" } : Jvm.MethodName)) ∈ zT := zT_mem 758 (by decide +kernel) (by decide +kernel)
theorem zw759 : (Jvm.Cond.selects "TallShip" ({ cls := "TallShip", name := "rope", desc := "(II)I" } : Jvm.MethodName) ({ cls := "TallShip", name := "rope", desc := "(II)I" } : Jvm.MethodName)) ∈ zT := zT_mem 759 (by decide +kernel) (by decide +kernel)
theorem zw760 : (Jvm.Cond.code ({ cls := "TallShip", name := "rope", desc := "(II)I" } : Jvm.MethodName) prog_1_method_7_code (3 : Nat) (Option.some Jvm.ClassFile.FieldType.int)) ∈ zT := zT_mem 760 (by decide +kernel) (by decide +kernel)
theorem zw761 : (Jvm.Cond.methodLink "TallShipLaw" (57 : Nat) ({ cls := "TallShip", name := "braced", desc := "(I)I" } : Jvm.MethodName)) ∈ zT := zT_mem 761 (by decide +kernel) (by decide +kernel)
theorem zw762 : (Jvm.Cond.instanceMethod ({ cls := "TallShip", name := "braced", desc := "(I)I" } : Jvm.MethodName)) ∈ zT := zT_mem 762 (by decide +kernel) (by decide +kernel)
theorem zw763 : (Jvm.Cond.selects "TallShip" ({ cls := "TallShip", name := "braced", desc := "(I)I" } : Jvm.MethodName) ({ cls := "TallShip", name := "braced", desc := "(I)I" } : Jvm.MethodName)) ∈ zT := zT_mem 763 (by decide +kernel) (by decide +kernel)
theorem zw764 : (Jvm.Cond.code ({ cls := "TallShip", name := "braced", desc := "(I)I" } : Jvm.MethodName) prog_1_method_8_code (2 : Nat) (Option.some Jvm.ClassFile.FieldType.int)) ∈ zT := zT_mem 764 (by decide +kernel) (by decide +kernel)
theorem zw765 : (Jvm.Cond.methodLink "TallShipLaw" (68 : Nat) ({ cls := "TallShip", name := "look", desc := "(I)I" } : Jvm.MethodName)) ∈ zT := zT_mem 765 (by decide +kernel) (by decide +kernel)
theorem zw766 : (Jvm.Cond.instanceMethod ({ cls := "TallShip", name := "look", desc := "(I)I" } : Jvm.MethodName)) ∈ zT := zT_mem 766 (by decide +kernel) (by decide +kernel)
theorem zw767 : (Jvm.Cond.selects "TallShip" ({ cls := "TallShip", name := "look", desc := "(I)I" } : Jvm.MethodName) ({ cls := "TallShip", name := "look", desc := "(I)I" } : Jvm.MethodName)) ∈ zT := zT_mem 767 (by decide +kernel) (by decide +kernel)
theorem zw768 : (Jvm.Cond.code ({ cls := "TallShip", name := "look", desc := "(I)I" } : Jvm.MethodName) prog_1_method_10_code (2 : Nat) (Option.some Jvm.ClassFile.FieldType.int)) ∈ zT := zT_mem 768 (by decide +kernel) (by decide +kernel)
theorem zw769 : (Jvm.Cond.methodLink "TallShipLaw" (72 : Nat) ({ cls := "TallShip", name := "foretell", desc := "(III)Z" } : Jvm.MethodName)) ∈ zT := zT_mem 769 (by decide +kernel) (by decide +kernel)
theorem zw770 : (Jvm.Cond.instanceMethod ({ cls := "TallShip", name := "foretell", desc := "(III)Z" } : Jvm.MethodName)) ∈ zT := zT_mem 770 (by decide +kernel) (by decide +kernel)
theorem zw771 : (Jvm.Cond.selects "TallShip" ({ cls := "TallShip", name := "foretell", desc := "(III)Z" } : Jvm.MethodName) ({ cls := "TallShip", name := "foretell", desc := "(III)Z" } : Jvm.MethodName)) ∈ zT := zT_mem 771 (by decide +kernel) (by decide +kernel)
theorem zw772 : (Jvm.Cond.code ({ cls := "TallShip", name := "foretell", desc := "(III)Z" } : Jvm.MethodName) prog_1_method_11_code (4 : Nat) (Option.some Jvm.ClassFile.FieldType.boolean)) ∈ zT := zT_mem 772 (by decide +kernel) (by decide +kernel)
theorem zw773 : (Jvm.Cond.methodLink "TallShip" (174 : Nat) ({ cls := "TallShip$Passage", name := "tell", desc := "(III)Z" } : Jvm.MethodName)) ∈ zT := zT_mem 773 (by decide +kernel) (by decide +kernel)
theorem zw774 : (Jvm.Cond.instanceMethod ({ cls := "TallShip$Passage", name := "tell", desc := "(III)Z" } : Jvm.MethodName)) ∈ zT := zT_mem 774 (by decide +kernel) (by decide +kernel)
theorem zw775 : (Jvm.Cond.selects "TallShip$Passage" ({ cls := "TallShip$Passage", name := "tell", desc := "(III)Z" } : Jvm.MethodName) ({ cls := "TallShip$Passage", name := "tell", desc := "(III)Z" } : Jvm.MethodName)) ∈ zT := zT_mem 775 (by decide +kernel) (by decide +kernel)
theorem zw776 : (Jvm.Cond.code ({ cls := "TallShip$Passage", name := "tell", desc := "(III)Z" } : Jvm.MethodName) prog_4_method_2_code (7 : Nat) (Option.some Jvm.ClassFile.FieldType.boolean)) ∈ zT := zT_mem 776 (by decide +kernel) (by decide +kernel)
theorem zw777 : (Jvm.Cond.methodLink "TallShip$Passage" (30 : Nat) ({ cls := "TallShip$Compass", name := "isWind", desc := "(II)Z" } : Jvm.MethodName)) ∈ zT := zT_mem 777 (by decide +kernel) (by decide +kernel)
theorem zw778 : (Jvm.Cond.methodLink "TallShip$Passage" (34 : Nat) ({ cls := "TallShip$Compass", name := "apart", desc := "(II)I" } : Jvm.MethodName)) ∈ zT := zT_mem 778 (by decide +kernel) (by decide +kernel)
theorem zw779 : (Jvm.Cond.methodLink "TallShip$Passage" (38 : Nat) ({ cls := "TallShip$Compass", name := "pull", desc := "(I)I" } : Jvm.MethodName)) ∈ zT := zT_mem 779 (by decide +kernel) (by decide +kernel)
theorem zw780 : (Jvm.Cond.methodLink "TallShip$Passage" (42 : Nat) ({ cls := "java/lang/Math", name := "min", desc := "(II)I" } : Jvm.MethodName)) ∈ zT := zT_mem 780 (by decide +kernel) (by decide +kernel)
theorem zw781 : (Jvm.Cond.methodLink "TallShip$Passage" (47 : Nat) ({ cls := "TallShip$Compass", name := "east", desc := "(I)I" } : Jvm.MethodName)) ∈ zT := zT_mem 781 (by decide +kernel) (by decide +kernel)
theorem zw782 : (Jvm.Cond.methodLink "TallShip$Passage" (49 : Nat) ({ cls := "TallShip$Compass", name := "north", desc := "(I)I" } : Jvm.MethodName)) ∈ zT := zT_mem 782 (by decide +kernel) (by decide +kernel)
theorem zw783 : (Jvm.Cond.methodLink "TallShipLaw" (76 : Nat) ({ cls := "TallShip", name := "plan", desc := "(II)I" } : Jvm.MethodName)) ∈ zT := zT_mem 783 (by decide +kernel) (by decide +kernel)
theorem zw784 : (Jvm.Cond.instanceMethod ({ cls := "TallShip", name := "plan", desc := "(II)I" } : Jvm.MethodName)) ∈ zT := zT_mem 784 (by decide +kernel) (by decide +kernel)
theorem zw785 : (Jvm.Cond.selects "TallShip" ({ cls := "TallShip", name := "plan", desc := "(II)I" } : Jvm.MethodName) ({ cls := "TallShip", name := "plan", desc := "(II)I" } : Jvm.MethodName)) ∈ zT := zT_mem 785 (by decide +kernel) (by decide +kernel)
theorem zw786 : (Jvm.Cond.code ({ cls := "TallShip", name := "plan", desc := "(II)I" } : Jvm.MethodName) prog_1_method_12_code (3 : Nat) (Option.some Jvm.ClassFile.FieldType.int)) ∈ zT := zT_mem 786 (by decide +kernel) (by decide +kernel)
theorem zw787 : (Jvm.Cond.methodLink "TallShip" (175 : Nat) ({ cls := "TallShip$Passage", name := "make", desc := "(II)I" } : Jvm.MethodName)) ∈ zT := zT_mem 787 (by decide +kernel) (by decide +kernel)
theorem zw788 : (Jvm.Cond.instanceMethod ({ cls := "TallShip$Passage", name := "make", desc := "(II)I" } : Jvm.MethodName)) ∈ zT := zT_mem 788 (by decide +kernel) (by decide +kernel)
theorem zw789 : (Jvm.Cond.selects "TallShip$Passage" ({ cls := "TallShip$Passage", name := "make", desc := "(II)I" } : Jvm.MethodName) ({ cls := "TallShip$Passage", name := "make", desc := "(II)I" } : Jvm.MethodName)) ∈ zT := zT_mem 789 (by decide +kernel) (by decide +kernel)
theorem zw790 : (Jvm.Cond.code ({ cls := "TallShip$Passage", name := "make", desc := "(II)I" } : Jvm.MethodName) prog_4_method_3_code (4 : Nat) (Option.some Jvm.ClassFile.FieldType.int)) ∈ zT := zT_mem 790 (by decide +kernel) (by decide +kernel)
theorem zw791 : (Jvm.Cond.methodLink "TallShip$Passage" (51 : Nat) ({ cls := "TallShip$Passage", name := "isPlace", desc := "(II)Z" } : Jvm.MethodName)) ∈ zT := zT_mem 791 (by decide +kernel) (by decide +kernel)
theorem zw792 : (Jvm.Cond.static ({ cls := "TallShip$Passage", name := "isPlace", desc := "(II)Z" } : Jvm.MethodName)) ∈ zT := zT_mem 792 (by decide +kernel) (by decide +kernel)
theorem zw793 : (Jvm.Cond.code ({ cls := "TallShip$Passage", name := "isPlace", desc := "(II)Z" } : Jvm.MethodName) prog_4_method_4_code (2 : Nat) (Option.some Jvm.ClassFile.FieldType.boolean)) ∈ zT := zT_mem 793 (by decide +kernel) (by decide +kernel)
theorem zw794 : (Jvm.Cond.methodLink "TallShip$Passage" (54 : Nat) ({ cls := "TallShip$Passage", name := "countGlasses", desc := "(II)I" } : Jvm.MethodName)) ∈ zT := zT_mem 794 (by decide +kernel) (by decide +kernel)
theorem zw796 : (Jvm.Cond.instanceMethod ({ cls := "TallShip$Passage", name := "countGlasses", desc := "(II)I" } : Jvm.MethodName)) ∈ zT := zT_mem 796 (by decide +kernel) (by decide +kernel)
theorem zw797 : (Jvm.Cond.code ({ cls := "TallShip$Passage", name := "countGlasses", desc := "(II)I" } : Jvm.MethodName) prog_4_method_5_code (4 : Nat) (Option.some Jvm.ClassFile.FieldType.int)) ∈ zT := zT_mem 797 (by decide +kernel) (by decide +kernel)
theorem zw798 : (Jvm.Cond.methodLink "TallShip$Passage" (71 : Nat) ({ cls := "TallShip$Passage", name := "putOnly", desc := "([JIII)V" } : Jvm.MethodName)) ∈ zT := zT_mem 798 (by decide +kernel) (by decide +kernel)
theorem zw799 : (Jvm.Cond.static ({ cls := "TallShip$Passage", name := "putOnly", desc := "([JIII)V" } : Jvm.MethodName)) ∈ zT := zT_mem 799 (by decide +kernel) (by decide +kernel)
theorem zw800 : (Jvm.Cond.code ({ cls := "TallShip$Passage", name := "putOnly", desc := "([JIII)V" } : Jvm.MethodName) prog_4_method_11_code (4 : Nat) (Option.none : Option Jvm.ClassFile.FieldType)) ∈ zT := zT_mem 800 (by decide +kernel) (by decide +kernel)
theorem zw801 : (Jvm.Cond.methodLink "TallShip$Passage" (83 : Nat) ({ cls := "TallShip$Passage", name := "clear", desc := "([JI)V" } : Jvm.MethodName)) ∈ zT := zT_mem 801 (by decide +kernel) (by decide +kernel)
theorem zw802 : (Jvm.Cond.static ({ cls := "TallShip$Passage", name := "clear", desc := "([JI)V" } : Jvm.MethodName)) ∈ zT := zT_mem 802 (by decide +kernel) (by decide +kernel)
theorem zw803 : (Jvm.Cond.code ({ cls := "TallShip$Passage", name := "clear", desc := "([JI)V" } : Jvm.MethodName) prog_4_method_10_code (3 : Nat) (Option.none : Option Jvm.ClassFile.FieldType)) ∈ zT := zT_mem 803 (by decide +kernel) (by decide +kernel)
theorem zw804 : (Jvm.Cond.methodLink "TallShip$Passage" (75 : Nat) ({ cls := "TallShip$Passage", name := "has", desc := "([JIII)Z" } : Jvm.MethodName)) ∈ zT := zT_mem 804 (by decide +kernel) (by decide +kernel)
theorem zw805 : (Jvm.Cond.static ({ cls := "TallShip$Passage", name := "has", desc := "([JIII)Z" } : Jvm.MethodName)) ∈ zT := zT_mem 805 (by decide +kernel) (by decide +kernel)
theorem zw806 : (Jvm.Cond.code ({ cls := "TallShip$Passage", name := "has", desc := "([JIII)Z" } : Jvm.MethodName) prog_4_method_12_code (4 : Nat) (Option.some Jvm.ClassFile.FieldType.boolean)) ∈ zT := zT_mem 806 (by decide +kernel) (by decide +kernel)
theorem zw807 : (Jvm.Cond.methodLink "TallShip$Passage" (79 : Nat) ({ cls := "TallShip$Passage", name := "spread", desc := "(I)V" } : Jvm.MethodName)) ∈ zT := zT_mem 807 (by decide +kernel) (by decide +kernel)
theorem zw809 : (Jvm.Cond.instanceMethod ({ cls := "TallShip$Passage", name := "spread", desc := "(I)V" } : Jvm.MethodName)) ∈ zT := zT_mem 809 (by decide +kernel) (by decide +kernel)
theorem zw810 : (Jvm.Cond.code ({ cls := "TallShip$Passage", name := "spread", desc := "(I)V" } : Jvm.MethodName) prog_4_method_6_code (4 : Nat) (Option.none : Option Jvm.ClassFile.FieldType)) ∈ zT := zT_mem 810 (by decide +kernel) (by decide +kernel)
theorem zw811 : (Jvm.Cond.methodLink "TallShip$Passage" (87 : Nat) ({ cls := "TallShip$Passage", name := "move", desc := "([JIIII)V" } : Jvm.MethodName)) ∈ zT := zT_mem 811 (by decide +kernel) (by decide +kernel)
theorem zw812 : (Jvm.Cond.static ({ cls := "TallShip$Passage", name := "move", desc := "([JIIII)V" } : Jvm.MethodName)) ∈ zT := zT_mem 812 (by decide +kernel) (by decide +kernel)
theorem zw813 : (Jvm.Cond.code ({ cls := "TallShip$Passage", name := "move", desc := "([JIIII)V" } : Jvm.MethodName) prog_4_method_13_code (11 : Nat) (Option.none : Option Jvm.ClassFile.FieldType)) ∈ zT := zT_mem 813 (by decide +kernel) (by decide +kernel)
theorem zw814 : (Jvm.Cond.methodLink "TallShip$Passage" (57 : Nat) ({ cls := "java/lang/Math", name := "max", desc := "(II)I" } : Jvm.MethodName)) ∈ zT := zT_mem 814 (by decide +kernel) (by decide +kernel)
theorem zw815 : (Jvm.Cond.constantLong "TallShip$Passage" (95 : Nat) (562949953421311 : Int64)) ∈ zT := zT_mem 815 (by decide +kernel) (by decide +kernel)
theorem zw816 : (Jvm.Cond.methodLink "TallShip$Passage" (64 : Nat) ({ cls := "TallShip$Passage", name := "traceBack", desc := "(II)V" } : Jvm.MethodName)) ∈ zT := zT_mem 816 (by decide +kernel) (by decide +kernel)
theorem zw818 : (Jvm.Cond.instanceMethod ({ cls := "TallShip$Passage", name := "traceBack", desc := "(II)V" } : Jvm.MethodName)) ∈ zT := zT_mem 818 (by decide +kernel) (by decide +kernel)
theorem zw819 : (Jvm.Cond.code ({ cls := "TallShip$Passage", name := "traceBack", desc := "(II)V" } : Jvm.MethodName) prog_4_method_7_code (6 : Nat) (Option.none : Option Jvm.ClassFile.FieldType)) ∈ zT := zT_mem 819 (by decide +kernel) (by decide +kernel)
theorem zw820 : (Jvm.Cond.methodLink "TallShip$Passage" (68 : Nat) ({ cls := "TallShip$Passage", name := "chooseCourses", desc := "()V" } : Jvm.MethodName)) ∈ zT := zT_mem 820 (by decide +kernel) (by decide +kernel)
theorem zw822 : (Jvm.Cond.instanceMethod ({ cls := "TallShip$Passage", name := "chooseCourses", desc := "()V" } : Jvm.MethodName)) ∈ zT := zT_mem 822 (by decide +kernel) (by decide +kernel)
theorem zw823 : (Jvm.Cond.code ({ cls := "TallShip$Passage", name := "chooseCourses", desc := "()V" } : Jvm.MethodName) prog_4_method_8_code (5 : Nat) (Option.none : Option Jvm.ClassFile.FieldType)) ∈ zT := zT_mem 823 (by decide +kernel) (by decide +kernel)
theorem zw824 : (Jvm.Cond.methodLink "TallShip$Passage" (91 : Nat) ({ cls := "TallShip$Passage", name := "leastLeading", desc := "(III)I" } : Jvm.MethodName)) ∈ zT := zT_mem 824 (by decide +kernel) (by decide +kernel)
theorem zw826 : (Jvm.Cond.instanceMethod ({ cls := "TallShip$Passage", name := "leastLeading", desc := "(III)I" } : Jvm.MethodName)) ∈ zT := zT_mem 826 (by decide +kernel) (by decide +kernel)
theorem zw827 : (Jvm.Cond.code ({ cls := "TallShip$Passage", name := "leastLeading", desc := "(III)I" } : Jvm.MethodName) prog_4_method_9_code (6 : Nat) (Option.some Jvm.ClassFile.FieldType.int)) ∈ zT := zT_mem 827 (by decide +kernel) (by decide +kernel)
theorem zw828 : (Jvm.Cond.methodLink "TallShipLaw" (80 : Nat) ({ cls := "TallShip", name := "leg", desc := "(I)I" } : Jvm.MethodName)) ∈ zT := zT_mem 828 (by decide +kernel) (by decide +kernel)
theorem zw829 : (Jvm.Cond.instanceMethod ({ cls := "TallShip", name := "leg", desc := "(I)I" } : Jvm.MethodName)) ∈ zT := zT_mem 829 (by decide +kernel) (by decide +kernel)
theorem zw830 : (Jvm.Cond.selects "TallShip" ({ cls := "TallShip", name := "leg", desc := "(I)I" } : Jvm.MethodName) ({ cls := "TallShip", name := "leg", desc := "(I)I" } : Jvm.MethodName)) ∈ zT := zT_mem 830 (by decide +kernel) (by decide +kernel)
theorem zw831 : (Jvm.Cond.code ({ cls := "TallShip", name := "leg", desc := "(I)I" } : Jvm.MethodName) prog_1_method_13_code (2 : Nat) (Option.some Jvm.ClassFile.FieldType.int)) ∈ zT := zT_mem 831 (by decide +kernel) (by decide +kernel)
theorem zw832 : (Jvm.Cond.methodLink "TallShipLaw" (15 : Nat) ({ cls := "TallShipLaw", name := "cell", desc := "([II)I" } : Jvm.MethodName)) ∈ zT := zT_mem 832 (by decide +kernel) (by decide +kernel)
theorem zw833 : (Jvm.Cond.static ({ cls := "TallShipLaw", name := "cell", desc := "([II)I" } : Jvm.MethodName)) ∈ zT := zT_mem 833 (by decide +kernel) (by decide +kernel)
theorem zw834 : (Jvm.Cond.code ({ cls := "TallShipLaw", name := "cell", desc := "([II)I" } : Jvm.MethodName) method_2_code (2 : Nat) (Option.some Jvm.ClassFile.FieldType.int)) ∈ zT := zT_mem 834 (by decide +kernel) (by decide +kernel)
theorem zw835 : (Jvm.Cond.methodLink "TallShipLaw" (61 : Nat) ({ cls := "TallShipLaw", name := "hand", desc := "(LTallShip;II[J)I" } : Jvm.MethodName)) ∈ zT := zT_mem 835 (by decide +kernel) (by decide +kernel)
theorem zw836 : (Jvm.Cond.static ({ cls := "TallShipLaw", name := "hand", desc := "(LTallShip;II[J)I" } : Jvm.MethodName)) ∈ zT := zT_mem 836 (by decide +kernel) (by decide +kernel)
theorem zw838 : (Jvm.Cond.classLink "TallShipLaw" (13 : Nat) "java/util/NoSuchElementException") ∈ zT := zT_mem 838 (by decide +kernel) (by decide +kernel)
theorem zw839 : (Jvm.Cond.methodLink "TallShipLaw" (7 : Nat) ({ cls := "TallShip", name := "hand", desc := "(II)I" } : Jvm.MethodName)) ∈ zT := zT_mem 839 (by decide +kernel) (by decide +kernel)
theorem zw840 : (Jvm.Cond.instanceMethod ({ cls := "TallShip", name := "hand", desc := "(II)I" } : Jvm.MethodName)) ∈ zT := zT_mem 840 (by decide +kernel) (by decide +kernel)
theorem zw841 : (Jvm.Cond.selects "TallShip" ({ cls := "TallShip", name := "hand", desc := "(II)I" } : Jvm.MethodName) ({ cls := "TallShip", name := "hand", desc := "(II)I" } : Jvm.MethodName)) ∈ zT := zT_mem 841 (by decide +kernel) (by decide +kernel)
theorem zw842 : (Jvm.Cond.code ({ cls := "TallShip", name := "hand", desc := "(II)I" } : Jvm.MethodName) prog_1_method_9_code (3 : Nat) (Option.some Jvm.ClassFile.FieldType.int)) ∈ zT := zT_mem 842 (by decide +kernel) (by decide +kernel)
theorem zw843 : (Jvm.Cond.classLink "TallShip" (118 : Nat) "java/util/NoSuchElementException") ∈ zT := zT_mem 843 (by decide +kernel) (by decide +kernel)
theorem zw844 : (Jvm.Cond.instantiable "java/util/NoSuchElementException" (6 : Nat)) ∈ zT := zT_mem 844 (by decide +kernel) (by decide +kernel)
theorem zw852 : (Jvm.Cond.selects "java/util/NoSuchElementException" ({ cls := "java/lang/Throwable", name := "fillInStackTrace", desc := "(I)Ljava/lang/Throwable;" } : Jvm.MethodName) ({ cls := "java/lang/Throwable", name := "fillInStackTrace", desc := "(I)Ljava/lang/Throwable;" } : Jvm.MethodName)) ∈ zT := zT_mem 852 (by decide +kernel) (by decide +kernel)
theorem zw853 : (Jvm.Cond.selects "java/util/NoSuchElementException" ({ cls := "java/lang/Throwable", name := "fillInStackTrace", desc := "()Ljava/lang/Throwable;" } : Jvm.MethodName) ({ cls := "java/lang/Throwable", name := "fillInStackTrace", desc := "()Ljava/lang/Throwable;" } : Jvm.MethodName)) ∈ zT := zT_mem 853 (by decide +kernel) (by decide +kernel)
theorem zw854 : (Jvm.Cond.lays "java/util/NoSuchElementException" "java/lang/Throwable" "cause" "Ljava/lang/Throwable;") ∈ zT := zT_mem 854 (by decide +kernel) (by decide +kernel)
theorem zw855 : (Jvm.Cond.lays "java/lang/Throwable" "java/lang/Throwable" "cause" "Ljava/lang/Throwable;") ∈ zT := zT_mem 855 (by decide +kernel) (by decide +kernel)
theorem zw856 : (Jvm.Cond.lays "java/util/NoSuchElementException" "java/lang/Throwable" "stackTrace" "[Ljava/lang/StackTraceElement;") ∈ zT := zT_mem 856 (by decide +kernel) (by decide +kernel)
theorem zw857 : (Jvm.Cond.lays "java/lang/Throwable" "java/lang/Throwable" "stackTrace" "[Ljava/lang/StackTraceElement;") ∈ zT := zT_mem 857 (by decide +kernel) (by decide +kernel)
theorem zw858 : (Jvm.Cond.lays "java/util/NoSuchElementException" "java/lang/Throwable" "suppressedExceptions" "Ljava/util/List;") ∈ zT := zT_mem 858 (by decide +kernel) (by decide +kernel)
theorem zw859 : (Jvm.Cond.lays "java/lang/Throwable" "java/lang/Throwable" "suppressedExceptions" "Ljava/util/List;") ∈ zT := zT_mem 859 (by decide +kernel) (by decide +kernel)
theorem zw860 : (Jvm.Cond.lays "java/util/NoSuchElementException" "java/lang/Throwable" "detailMessage" "Ljava/lang/String;") ∈ zT := zT_mem 860 (by decide +kernel) (by decide +kernel)
theorem zw861 : (Jvm.Cond.lays "java/lang/Throwable" "java/lang/Throwable" "detailMessage" "Ljava/lang/String;") ∈ zT := zT_mem 861 (by decide +kernel) (by decide +kernel)
theorem zw862 : (Jvm.Cond.lays "java/util/NoSuchElementException" "java/lang/Throwable" "backtrace" "Ljava/lang/Object;") ∈ zT := zT_mem 862 (by decide +kernel) (by decide +kernel)
theorem zw863 : (Jvm.Cond.lays "java/lang/Throwable" "java/lang/Throwable" "backtrace" "Ljava/lang/Object;") ∈ zT := zT_mem 863 (by decide +kernel) (by decide +kernel)
theorem zw864 : (Jvm.Cond.fieldLink "java/lang/Throwable" (198 : Nat) "java/lang/Throwable" "backtrace" "Ljava/lang/Object;") ∈ zT := zT_mem 864 (by decide +kernel) (by decide +kernel)
theorem zw866 : (Jvm.Cond.instanceMethod ({ cls := "java/lang/Throwable", name := "<init>", desc := "()V" } : Jvm.MethodName)) ∈ zT := zT_mem 866 (by decide +kernel) (by decide +kernel)
theorem zw867 : (Jvm.Cond.code ({ cls := "java/lang/Throwable", name := "<init>", desc := "()V" } : Jvm.MethodName) prog_18_method_1_code (1 : Nat) (Option.none : Option Jvm.ClassFile.FieldType)) ∈ zT := zT_mem 867 (by decide +kernel) (by decide +kernel)
theorem zw868 : (Jvm.Cond.methodLink "java/lang/Throwable" (1 : Nat) ({ cls := "java/lang/Object", name := "<init>", desc := "()V" } : Jvm.MethodName)) ∈ zT := zT_mem 868 (by decide +kernel) (by decide +kernel)
theorem zw869 : (Jvm.Cond.fieldLink "java/lang/Throwable" (13 : Nat) "java/lang/Throwable" "UNASSIGNED_STACK" "[Ljava/lang/StackTraceElement;") ∈ zT := zT_mem 869 (by decide +kernel) (by decide +kernel)
theorem zw871 : (Jvm.Cond.fieldLink "java/lang/Throwable" (20 : Nat) "java/lang/Throwable" "SUPPRESSED_SENTINEL" "Ljava/util/List;") ∈ zT := zT_mem 871 (by decide +kernel) (by decide +kernel)
theorem zw873 : (Jvm.Cond.methodLink "java/lang/Throwable" (27 : Nat) ({ cls := "java/lang/Throwable", name := "fillInStackTrace", desc := "()Ljava/lang/Throwable;" } : Jvm.MethodName)) ∈ zT := zT_mem 873 (by decide +kernel) (by decide +kernel)
theorem zw874 : (Jvm.Cond.instanceMethod ({ cls := "java/lang/Throwable", name := "fillInStackTrace", desc := "()Ljava/lang/Throwable;" } : Jvm.MethodName)) ∈ zT := zT_mem 874 (by decide +kernel) (by decide +kernel)
theorem zw877 : (Jvm.Cond.methodLink "java/lang/Throwable" (202 : Nat) ({ cls := "java/lang/Throwable", name := "fillInStackTrace", desc := "(I)Ljava/lang/Throwable;" } : Jvm.MethodName)) ∈ zT := zT_mem 877 (by decide +kernel) (by decide +kernel)
theorem zw879 : (Jvm.Cond.instanceMethod ({ cls := "java/lang/Throwable", name := "fillInStackTrace", desc := "(I)Ljava/lang/Throwable;" } : Jvm.MethodName)) ∈ zT := zT_mem 879 (by decide +kernel) (by decide +kernel)
theorem zw880 : (Jvm.Cond.instantiable "java/lang/Throwable" (6 : Nat)) ∈ zT := zT_mem 880 (by decide +kernel) (by decide +kernel)
theorem zw883 : (Jvm.Cond.methodLink "TallShip" (122 : Nat) ({ cls := "java/util/NoSuchElementException", name := "<init>", desc := "(Ljava/lang/String;)V" } : Jvm.MethodName)) ∈ zT := zT_mem 883 (by decide +kernel) (by decide +kernel)
theorem zw884 : (Jvm.Cond.instanceMethod ({ cls := "java/util/NoSuchElementException", name := "<init>", desc := "(Ljava/lang/String;)V" } : Jvm.MethodName)) ∈ zT := zT_mem 884 (by decide +kernel) (by decide +kernel)
theorem zw885 : (Jvm.Cond.code ({ cls := "java/util/NoSuchElementException", name := "<init>", desc := "(Ljava/lang/String;)V" } : Jvm.MethodName) prog_19_method_4_code (2 : Nat) (Option.none : Option Jvm.ClassFile.FieldType)) ∈ zT := zT_mem 885 (by decide +kernel) (by decide +kernel)
theorem zw886 : (Jvm.Cond.methodLink "java/util/NoSuchElementException" (13 : Nat) ({ cls := "java/lang/RuntimeException", name := "<init>", desc := "(Ljava/lang/String;)V" } : Jvm.MethodName)) ∈ zT := zT_mem 886 (by decide +kernel) (by decide +kernel)
theorem zw887 : (Jvm.Cond.instanceMethod ({ cls := "java/lang/RuntimeException", name := "<init>", desc := "(Ljava/lang/String;)V" } : Jvm.MethodName)) ∈ zT := zT_mem 887 (by decide +kernel) (by decide +kernel)
theorem zw888 : (Jvm.Cond.code ({ cls := "java/lang/RuntimeException", name := "<init>", desc := "(Ljava/lang/String;)V" } : Jvm.MethodName) prog_14_method_2_code (2 : Nat) (Option.none : Option Jvm.ClassFile.FieldType)) ∈ zT := zT_mem 888 (by decide +kernel) (by decide +kernel)
theorem zw889 : (Jvm.Cond.methodLink "java/lang/RuntimeException" (7 : Nat) ({ cls := "java/lang/Exception", name := "<init>", desc := "(Ljava/lang/String;)V" } : Jvm.MethodName)) ∈ zT := zT_mem 889 (by decide +kernel) (by decide +kernel)
theorem zw890 : (Jvm.Cond.instanceMethod ({ cls := "java/lang/Exception", name := "<init>", desc := "(Ljava/lang/String;)V" } : Jvm.MethodName)) ∈ zT := zT_mem 890 (by decide +kernel) (by decide +kernel)
theorem zw891 : (Jvm.Cond.code ({ cls := "java/lang/Exception", name := "<init>", desc := "(Ljava/lang/String;)V" } : Jvm.MethodName) prog_12_method_2_code (2 : Nat) (Option.none : Option Jvm.ClassFile.FieldType)) ∈ zT := zT_mem 891 (by decide +kernel) (by decide +kernel)
theorem zw892 : (Jvm.Cond.methodLink "java/lang/Exception" (7 : Nat) ({ cls := "java/lang/Throwable", name := "<init>", desc := "(Ljava/lang/String;)V" } : Jvm.MethodName)) ∈ zT := zT_mem 892 (by decide +kernel) (by decide +kernel)
theorem zw893 : (Jvm.Cond.instanceMethod ({ cls := "java/lang/Throwable", name := "<init>", desc := "(Ljava/lang/String;)V" } : Jvm.MethodName)) ∈ zT := zT_mem 893 (by decide +kernel) (by decide +kernel)
theorem zw894 : (Jvm.Cond.code ({ cls := "java/lang/Throwable", name := "<init>", desc := "(Ljava/lang/String;)V" } : Jvm.MethodName) prog_18_method_2_code (2 : Nat) (Option.none : Option Jvm.ClassFile.FieldType)) ∈ zT := zT_mem 894 (by decide +kernel) (by decide +kernel)
theorem zw896 : (Jvm.Cond.fieldLink "java/lang/Throwable" (31 : Nat) "java/lang/Throwable" "detailMessage" "Ljava/lang/String;") ∈ zT := zT_mem 896 (by decide +kernel) (by decide +kernel)
theorem zw897 : (Jvm.Cond.fieldLink "java/lang/Throwable" (7 : Nat) "java/lang/Throwable" "cause" "Ljava/lang/Throwable;") ∈ zT := zT_mem 897 (by decide +kernel) (by decide +kernel)
theorem zw898 : (Jvm.Cond.fieldLink "java/lang/Throwable" (17 : Nat) "java/lang/Throwable" "stackTrace" "[Ljava/lang/StackTraceElement;") ∈ zT := zT_mem 898 (by decide +kernel) (by decide +kernel)
theorem zw899 : (Jvm.Cond.fieldLink "java/lang/Throwable" (24 : Nat) "java/lang/Throwable" "suppressedExceptions" "Ljava/util/List;") ∈ zT := zT_mem 899 (by decide +kernel) (by decide +kernel)
theorem zw904 : (Jvm.Cond.lays "java/util/NoSuchElementException" "java/lang/Throwable" "depth" "I") ∈ zT := zT_mem 904 (by decide +kernel) (by decide +kernel)
theorem zw908 : (Jvm.Cond.methodLink "TallShip" (125 : Nat) ({ cls := "TallShip$Crew", name := "isFree", desc := "(I)Z" } : Jvm.MethodName)) ∈ zT := zT_mem 908 (by decide +kernel) (by decide +kernel)
theorem zw909 : (Jvm.Cond.instanceMethod ({ cls := "TallShip$Crew", name := "isFree", desc := "(I)Z" } : Jvm.MethodName)) ∈ zT := zT_mem 909 (by decide +kernel) (by decide +kernel)
theorem zw910 : (Jvm.Cond.selects "TallShip$Crew" ({ cls := "TallShip$Crew", name := "isFree", desc := "(I)Z" } : Jvm.MethodName) ({ cls := "TallShip$Crew", name := "isFree", desc := "(I)Z" } : Jvm.MethodName)) ∈ zT := zT_mem 910 (by decide +kernel) (by decide +kernel)
theorem zw911 : (Jvm.Cond.code ({ cls := "TallShip$Crew", name := "isFree", desc := "(I)Z" } : Jvm.MethodName) prog_3_method_2_code (2 : Nat) (Option.some Jvm.ClassFile.FieldType.boolean)) ∈ zT := zT_mem 911 (by decide +kernel) (by decide +kernel)
theorem zw912 : (Jvm.Cond.methodLink "TallShip" (129 : Nat) ({ cls := "TallShip$Crew", name := "endOf", desc := "(I)I" } : Jvm.MethodName)) ∈ zT := zT_mem 912 (by decide +kernel) (by decide +kernel)
theorem zw913 : (Jvm.Cond.instanceMethod ({ cls := "TallShip$Crew", name := "endOf", desc := "(I)I" } : Jvm.MethodName)) ∈ zT := zT_mem 913 (by decide +kernel) (by decide +kernel)
theorem zw914 : (Jvm.Cond.selects "TallShip$Crew" ({ cls := "TallShip$Crew", name := "endOf", desc := "(I)I" } : Jvm.MethodName) ({ cls := "TallShip$Crew", name := "endOf", desc := "(I)I" } : Jvm.MethodName)) ∈ zT := zT_mem 914 (by decide +kernel) (by decide +kernel)
theorem zw915 : (Jvm.Cond.code ({ cls := "TallShip$Crew", name := "endOf", desc := "(I)I" } : Jvm.MethodName) prog_3_method_4_code (2 : Nat) (Option.some Jvm.ClassFile.FieldType.int)) ∈ zT := zT_mem 915 (by decide +kernel) (by decide +kernel)
theorem zw916 : (Jvm.Cond.methodLink "TallShip" (133 : Nat) ({ cls := "TallShip$Crew", name := "isOnDeck", desc := "(I)Z" } : Jvm.MethodName)) ∈ zT := zT_mem 916 (by decide +kernel) (by decide +kernel)
theorem zw918 : (Jvm.Cond.methodLink "TallShipLaw" (65 : Nat) ({ cls := "TallShipModel", name := "thrown", desc := "()I" } : Jvm.MethodName)) ∈ zT := zT_mem 918 (by decide +kernel) (by decide +kernel)
theorem zw919 : (Jvm.Cond.instanceMethod ({ cls := "TallShipModel", name := "thrown", desc := "()I" } : Jvm.MethodName)) ∈ zT := zT_mem 919 (by decide +kernel) (by decide +kernel)
theorem zw920 : (Jvm.Cond.selects "TallShipModel" ({ cls := "TallShipModel", name := "thrown", desc := "()I" } : Jvm.MethodName) ({ cls := "TallShipModel", name := "thrown", desc := "()I" } : Jvm.MethodName)) ∈ zT := zT_mem 920 (by decide +kernel) (by decide +kernel)
theorem zw921 : (Jvm.Cond.code ({ cls := "TallShipModel", name := "thrown", desc := "()I" } : Jvm.MethodName) prog_11_method_1_code (1 : Nat) (Option.some Jvm.ClassFile.FieldType.int)) ∈ zT := zT_mem 921 (by decide +kernel) (by decide +kernel)
theorem zw922 : (Jvm.Cond.methodLink "TallShipLaw" (33 : Nat) ({ cls := "TallShipModel", name := "feed", desc := "(JJJ)I" } : Jvm.MethodName)) ∈ zT := zT_mem 922 (by decide +kernel) (by decide +kernel)
theorem zw923 : (Jvm.Cond.instanceMethod ({ cls := "TallShipModel", name := "feed", desc := "(JJJ)I" } : Jvm.MethodName)) ∈ zT := zT_mem 923 (by decide +kernel) (by decide +kernel)
theorem zw924 : (Jvm.Cond.selects "TallShipModel" ({ cls := "TallShipModel", name := "feed", desc := "(JJJ)I" } : Jvm.MethodName) ({ cls := "TallShipModel", name := "feed", desc := "(JJJ)I" } : Jvm.MethodName)) ∈ zT := zT_mem 924 (by decide +kernel) (by decide +kernel)
theorem zw925 : (Jvm.Cond.code ({ cls := "TallShipModel", name := "feed", desc := "(JJJ)I" } : Jvm.MethodName) prog_11_method_2_code (7 : Nat) (Option.some Jvm.ClassFile.FieldType.int)) ∈ zT := zT_mem 925 (by decide +kernel) (by decide +kernel)
theorem zw926 : (Jvm.Cond.methodLink "TallShipModel" (7 : Nat) ({ cls := "TallShipModel", name := "lay", desc := "(J)V" } : Jvm.MethodName)) ∈ zT := zT_mem 926 (by decide +kernel) (by decide +kernel)
theorem zw928 : (Jvm.Cond.instanceMethod ({ cls := "TallShipModel", name := "lay", desc := "(J)V" } : Jvm.MethodName)) ∈ zT := zT_mem 928 (by decide +kernel) (by decide +kernel)
theorem zw929 : (Jvm.Cond.instantiable "TallShipModel" (53 : Nat)) ∈ zT := zT_mem 929 (by decide +kernel) (by decide +kernel)
theorem zw930 : (Jvm.Cond.code ({ cls := "TallShipModel", name := "lay", desc := "(J)V" } : Jvm.MethodName) prog_11_method_3_code (5 : Nat) (Option.none : Option Jvm.ClassFile.FieldType)) ∈ zT := zT_mem 930 (by decide +kernel) (by decide +kernel)
theorem zw931 : (Jvm.Cond.classLink "TallShipLaw" (24 : Nat) "TallShipModel") ∈ zT := zT_mem 931 (by decide +kernel) (by decide +kernel)
theorem zw932 : (Jvm.Cond.methodLink "TallShipLaw" (26 : Nat) ({ cls := "TallShipModel", name := "<init>", desc := "(I)V" } : Jvm.MethodName)) ∈ zT := zT_mem 932 (by decide +kernel) (by decide +kernel)
theorem zw933 : (Jvm.Cond.instanceMethod ({ cls := "TallShipModel", name := "<init>", desc := "(I)V" } : Jvm.MethodName)) ∈ zT := zT_mem 933 (by decide +kernel) (by decide +kernel)
theorem zw934 : (Jvm.Cond.code ({ cls := "TallShipModel", name := "<init>", desc := "(I)V" } : Jvm.MethodName) prog_11_method_4_code (3 : Nat) (Option.none : Option Jvm.ClassFile.FieldType)) ∈ zT := zT_mem 934 (by decide +kernel) (by decide +kernel)
theorem zw935 : (Jvm.Cond.methodLink "TallShipModel" (18 : Nat) ({ cls := "java/lang/Object", name := "<init>", desc := "()V" } : Jvm.MethodName)) ∈ zT := zT_mem 935 (by decide +kernel) (by decide +kernel)
theorem zw936 : (Jvm.Cond.constantLong "TallShipModel" (34 : Nat) (26216 : Int64)) ∈ zT := zT_mem 936 (by decide +kernel) (by decide +kernel)
theorem zw937 : (Jvm.Cond.constantLong "TallShipModel" (36 : Nat) (333345 : Int64)) ∈ zT := zT_mem 937 (by decide +kernel) (by decide +kernel)
theorem zw938 : (Jvm.Cond.constantLong "TallShipModel" (38 : Nat) (4661561 : Int64)) ∈ zT := zT_mem 938 (by decide +kernel) (by decide +kernel)
theorem zw939 : (Jvm.Cond.constantLong "TallShipModel" (40 : Nat) (932886 : Int64)) ∈ zT := zT_mem 939 (by decide +kernel) (by decide +kernel)
theorem zw940 : (Jvm.Cond.constantLong "TallShipModel" (42 : Nat) (36629167 : Int64)) ∈ zT := zT_mem 940 (by decide +kernel) (by decide +kernel)
theorem zw941 : (Jvm.Cond.constantLong "TallShipModel" (44 : Nat) (153784 : Int64)) ∈ zT := zT_mem 941 (by decide +kernel) (by decide +kernel)
theorem zw942 : (Jvm.Cond.constantLong "TallShipModel" (46 : Nat) (1166741 : Int64)) ∈ zT := zT_mem 942 (by decide +kernel) (by decide +kernel)
theorem zw943 : (Jvm.Cond.constantLong "TallShipModel" (48 : Nat) (339 : Int64)) ∈ zT := zT_mem 943 (by decide +kernel) (by decide +kernel)
theorem zw944 : (Jvm.Cond.constantLong "TallShipModel" (50 : Nat) (270401 : Int64)) ∈ zT := zT_mem 944 (by decide +kernel) (by decide +kernel)
theorem zw945 : (Jvm.Cond.constantLong "TallShipModel" (52 : Nat) (43523697 : Int64)) ∈ zT := zT_mem 945 (by decide +kernel) (by decide +kernel)
theorem zw946 : (Jvm.Cond.constantLong "TallShipModel" (54 : Nat) (12029519 : Int64)) ∈ zT := zT_mem 946 (by decide +kernel) (by decide +kernel)
theorem zw947 : (Jvm.Cond.constantLong "TallShipModel" (56 : Nat) (329128 : Int64)) ∈ zT := zT_mem 947 (by decide +kernel) (by decide +kernel)
theorem zw948 : (Jvm.Cond.constantLong "TallShipModel" (58 : Nat) (1976958 : Int64)) ∈ zT := zT_mem 948 (by decide +kernel) (by decide +kernel)
theorem zw949 : (Jvm.Cond.constantLong "TallShipModel" (60 : Nat) (36426541 : Int64)) ∈ zT := zT_mem 949 (by decide +kernel) (by decide +kernel)
theorem zw950 : (Jvm.Cond.constantLong "TallShipModel" (62 : Nat) (237233349 : Int64)) ∈ zT := zT_mem 950 (by decide +kernel) (by decide +kernel)
theorem zw951 : (Jvm.Cond.constantLong "TallShipModel" (64 : Nat) (426554 : Int64)) ∈ zT := zT_mem 951 (by decide +kernel) (by decide +kernel)
theorem zw952 : (Jvm.Cond.constantLong "TallShipModel" (66 : Nat) (628412 : Int64)) ∈ zT := zT_mem 952 (by decide +kernel) (by decide +kernel)
theorem zw953 : (Jvm.Cond.fieldLink "TallShipModel" (1 : Nat) "TallShipModel" "thrown" "I") ∈ zT := zT_mem 953 (by decide +kernel) (by decide +kernel)
theorem zw954 : (Jvm.Cond.fieldLink "TallShipModel" (14 : Nat) "TallShipModel" "tape" "[I") ∈ zT := zT_mem 954 (by decide +kernel) (by decide +kernel)
theorem zw955 : (Jvm.Cond.fieldLink "TallShipModel" (11 : Nat) "TallShipModel" "taped" "I") ∈ zT := zT_mem 955 (by decide +kernel) (by decide +kernel)
theorem zw956 : (Jvm.Cond.fieldLink "TallShipModel" (145 : Nat) "TallShipModel" "size" "I") ∈ zT := zT_mem 956 (by decide +kernel) (by decide +kernel)
theorem zw957 : (Jvm.Cond.fieldLink "TallShipModel" (24 : Nat) "TallShipModel" "sort" "[I") ∈ zT := zT_mem 957 (by decide +kernel) (by decide +kernel)
theorem zw958 : (Jvm.Cond.fieldLink "TallShipModel" (27 : Nat) "TallShipModel" "place" "[I") ∈ zT := zT_mem 958 (by decide +kernel) (by decide +kernel)
theorem zw959 : (Jvm.Cond.fieldLink "TallShipModel" (30 : Nat) "TallShipModel" "value" "[J") ∈ zT := zT_mem 959 (by decide +kernel) (by decide +kernel)
theorem zw960 : (Jvm.Cond.fieldLink "TallShipModel" (164 : Nat) "TallShipModel" "at" "I") ∈ zT := zT_mem 960 (by decide +kernel) (by decide +kernel)
theorem zw961 : (Jvm.Cond.fieldLink "TallShipModel" (167 : Nat) "TallShipModel" "fault" "I") ∈ zT := zT_mem 961 (by decide +kernel) (by decide +kernel)
theorem zw962 : (Jvm.Cond.fieldLink "TallShipModel" (68 : Nat) "TallShipModel" "words" "[J") ∈ zT := zT_mem 962 (by decide +kernel) (by decide +kernel)
theorem zw963 : (Jvm.Cond.fieldLink "TallShipModel" (71 : Nat) "TallShipModel" "op" "[I") ∈ zT := zT_mem 963 (by decide +kernel) (by decide +kernel)
theorem zw964 : (Jvm.Cond.fieldLink "TallShipModel" (74 : Nat) "TallShipModel" "one" "[I") ∈ zT := zT_mem 964 (by decide +kernel) (by decide +kernel)
theorem zw965 : (Jvm.Cond.fieldLink "TallShipModel" (77 : Nat) "TallShipModel" "two" "[I") ∈ zT := zT_mem 965 (by decide +kernel) (by decide +kernel)
theorem zw966 : (Jvm.Cond.fieldLink "TallShipModel" (192 : Nat) "TallShipModel" "holds" "I") ∈ zT := zT_mem 966 (by decide +kernel) (by decide +kernel)
theorem zw967 : (Jvm.Cond.fieldLink "TallShipModel" (183 : Nat) "TallShipModel" "next" "I") ∈ zT := zT_mem 967 (by decide +kernel) (by decide +kernel)
theorem zw968 : (Jvm.Cond.fieldLink "TallShipModel" (186 : Nat) "TallShipModel" "codes" "I") ∈ zT := zT_mem 968 (by decide +kernel) (by decide +kernel)
theorem zw969 : (Jvm.Cond.fieldLink "TallShipModel" (80 : Nat) "TallShipModel" "statements" "[I") ∈ zT := zT_mem 969 (by decide +kernel) (by decide +kernel)
theorem zw970 : (Jvm.Cond.fieldLink "TallShipModel" (195 : Nat) "TallShipModel" "deep" "I") ∈ zT := zT_mem 970 (by decide +kernel) (by decide +kernel)
theorem zw971 : (Jvm.Cond.fieldLink "TallShipModel" (138 : Nat) "TallShipModel" "hands" "I") ∈ zT := zT_mem 971 (by decide +kernel) (by decide +kernel)
theorem zw972 : (Jvm.Cond.fieldLink "TallShipModel" (83 : Nat) "TallShipModel" "sail" "[I") ∈ zT := zT_mem 972 (by decide +kernel) (by decide +kernel)
theorem zw973 : (Jvm.Cond.fieldLink "TallShipModel" (86 : Nat) "TallShipModel" "rope" "[I") ∈ zT := zT_mem 973 (by decide +kernel) (by decide +kernel)
theorem zw974 : (Jvm.Cond.fieldLink "TallShipModel" (89 : Nat) "TallShipModel" "wear" "[I") ∈ zT := zT_mem 974 (by decide +kernel) (by decide +kernel)
theorem zw975 : (Jvm.Cond.fieldLink "TallShipModel" (92 : Nat) "TallShipModel" "braced" "[I") ∈ zT := zT_mem 975 (by decide +kernel) (by decide +kernel)
theorem zw976 : (Jvm.Cond.fieldLink "TallShipModel" (95 : Nat) "TallShipModel" "workOf" "[I") ∈ zT := zT_mem 976 (by decide +kernel) (by decide +kernel)
theorem zw977 : (Jvm.Cond.fieldLink "TallShipModel" (98 : Nat) "TallShipModel" "work" "[I") ∈ zT := zT_mem 977 (by decide +kernel) (by decide +kernel)
theorem zw978 : (Jvm.Cond.fieldLink "TallShipModel" (101 : Nat) "TallShipModel" "about" "[I") ∈ zT := zT_mem 978 (by decide +kernel) (by decide +kernel)
theorem zw979 : (Jvm.Cond.fieldLink "TallShipModel" (104 : Nat) "TallShipModel" "target" "[I") ∈ zT := zT_mem 979 (by decide +kernel) (by decide +kernel)
theorem zw980 : (Jvm.Cond.fieldLink "TallShipModel" (107 : Nat) "TallShipModel" "ends" "[I") ∈ zT := zT_mem 980 (by decide +kernel) (by decide +kernel)
theorem zw981 : (Jvm.Cond.fieldLink "TallShipModel" (252 : Nat) "TallShipModel" "deck" "I") ∈ zT := zT_mem 981 (by decide +kernel) (by decide +kernel)
theorem zw982 : (Jvm.Cond.fieldLink "TallShipModel" (242 : Nat) "TallShipModel" "minute" "I") ∈ zT := zT_mem 982 (by decide +kernel) (by decide +kernel)
theorem zw983 : (Jvm.Cond.fieldLink "TallShipModel" (284 : Nat) "TallShipModel" "course" "I") ∈ zT := zT_mem 983 (by decide +kernel) (by decide +kernel)
theorem zw984 : (Jvm.Cond.fieldLink "TallShipModel" (308 : Nat) "TallShipModel" "wish" "I") ∈ zT := zT_mem 984 (by decide +kernel) (by decide +kernel)
theorem zw985 : (Jvm.Cond.fieldLink "TallShipModel" (290 : Nat) "TallShipModel" "speed" "I") ∈ zT := zT_mem 985 (by decide +kernel) (by decide +kernel)
theorem zw986 : (Jvm.Cond.fieldLink "TallShipModel" (347 : Nat) "TallShipModel" "placeX" "I") ∈ zT := zT_mem 986 (by decide +kernel) (by decide +kernel)
theorem zw987 : (Jvm.Cond.fieldLink "TallShipModel" (353 : Nat) "TallShipModel" "placeY" "I") ∈ zT := zT_mem 987 (by decide +kernel) (by decide +kernel)
theorem zw988 : (Jvm.Cond.fieldLink "TallShipModel" (329 : Nat) "TallShipModel" "parted" "I") ∈ zT := zT_mem 988 (by decide +kernel) (by decide +kernel)
theorem zw989 : (Jvm.Cond.fieldLink "TallShipModel" (302 : Nat) "TallShipModel" "done" "I") ∈ zT := zT_mem 989 (by decide +kernel) (by decide +kernel)
theorem zw990 : (Jvm.Cond.fieldLink "TallShipModel" (205 : Nat) "TallShipModel" "pc" "I") ∈ zT := zT_mem 990 (by decide +kernel) (by decide +kernel)
theorem zw991 : (Jvm.Cond.fieldLink "TallShipModel" (208 : Nat) "TallShipModel" "waitsTo" "I") ∈ zT := zT_mem 991 (by decide +kernel) (by decide +kernel)
theorem zw992 : (Jvm.Cond.fieldLink "TallShipModel" (239 : Nat) "TallShipModel" "winds" "I") ∈ zT := zT_mem 992 (by decide +kernel) (by decide +kernel)
theorem zw993 : (Jvm.Cond.fieldLink "TallShipModel" (110 : Nat) "TallShipModel" "windMinute" "[I") ∈ zT := zT_mem 993 (by decide +kernel) (by decide +kernel)
theorem zw994 : (Jvm.Cond.fieldLink "TallShipModel" (113 : Nat) "TallShipModel" "windPoint" "[I") ∈ zT := zT_mem 994 (by decide +kernel) (by decide +kernel)
theorem zw995 : (Jvm.Cond.fieldLink "TallShipModel" (116 : Nat) "TallShipModel" "windForce" "[I") ∈ zT := zT_mem 995 (by decide +kernel) (by decide +kernel)
theorem zw996 : (Jvm.Cond.fieldLink "TallShipModel" (332 : Nat) "TallShipModel" "latestPoint" "I") ∈ zT := zT_mem 996 (by decide +kernel) (by decide +kernel)
theorem zw997 : (Jvm.Cond.fieldLink "TallShipModel" (335 : Nat) "TallShipModel" "latestForce" "I") ∈ zT := zT_mem 997 (by decide +kernel) (by decide +kernel)
theorem zw998 : (Jvm.Cond.fieldLink "TallShipModel" (119 : Nat) "TallShipModel" "pile" "[I") ∈ zT := zT_mem 998 (by decide +kernel) (by decide +kernel)
theorem zw999 : (Jvm.Cond.fieldLink "TallShipModel" (311 : Nat) "TallShipModel" "top" "I") ∈ zT := zT_mem 999 (by decide +kernel) (by decide +kernel)
theorem zw1000 : (Jvm.Cond.fieldLink "TallShipModel" (122 : Nat) "TallShipModel" "toldPoint" "[I") ∈ zT := zT_mem 1000 (by decide +kernel) (by decide +kernel)
theorem zw1001 : (Jvm.Cond.fieldLink "TallShipModel" (125 : Nat) "TallShipModel" "toldForce" "[I") ∈ zT := zT_mem 1001 (by decide +kernel) (by decide +kernel)
theorem zw1002 : (Jvm.Cond.fieldLink "TallShipModel" (128 : Nat) "TallShipModel" "forth" "[Z") ∈ zT := zT_mem 1002 (by decide +kernel) (by decide +kernel)
theorem zw1003 : (Jvm.Cond.fieldLink "TallShipModel" (132 : Nat) "TallShipModel" "back" "[Z") ∈ zT := zT_mem 1003 (by decide +kernel) (by decide +kernel)
theorem zw1004 : (Jvm.Cond.fieldLink "TallShipModel" (362 : Nat) "TallShipModel" "legs" "I") ∈ zT := zT_mem 1004 (by decide +kernel) (by decide +kernel)
theorem zw1005 : (Jvm.Cond.fieldLink "TallShipModel" (135 : Nat) "TallShipModel" "leg" "[I") ∈ zT := zT_mem 1005 (by decide +kernel) (by decide +kernel)
theorem zw1006 : (Jvm.Cond.lays "TallShipModel" "TallShipModel" "thrown" "I") ∈ zT := zT_mem 1006 (by decide +kernel) (by decide +kernel)
theorem zw1008 : (Jvm.Cond.laysFinal "TallShipModel" "TallShipModel" "tape" "[I") ∈ zT := zT_mem 1008 (by decide +kernel) (by decide +kernel)
theorem zw1010 : (Jvm.Cond.lays "TallShipModel" "TallShipModel" "taped" "I") ∈ zT := zT_mem 1010 (by decide +kernel) (by decide +kernel)
theorem zw1012 : (Jvm.Cond.lays "TallShipModel" "TallShipModel" "size" "I") ∈ zT := zT_mem 1012 (by decide +kernel) (by decide +kernel)
theorem zw1014 : (Jvm.Cond.laysFinal "TallShipModel" "TallShipModel" "sort" "[I") ∈ zT := zT_mem 1014 (by decide +kernel) (by decide +kernel)
theorem zw1016 : (Jvm.Cond.laysFinal "TallShipModel" "TallShipModel" "place" "[I") ∈ zT := zT_mem 1016 (by decide +kernel) (by decide +kernel)
theorem zw1018 : (Jvm.Cond.laysFinal "TallShipModel" "TallShipModel" "value" "[J") ∈ zT := zT_mem 1018 (by decide +kernel) (by decide +kernel)
theorem zw1020 : (Jvm.Cond.lays "TallShipModel" "TallShipModel" "at" "I") ∈ zT := zT_mem 1020 (by decide +kernel) (by decide +kernel)
theorem zw1022 : (Jvm.Cond.lays "TallShipModel" "TallShipModel" "fault" "I") ∈ zT := zT_mem 1022 (by decide +kernel) (by decide +kernel)
theorem zw1024 : (Jvm.Cond.laysFinal "TallShipModel" "TallShipModel" "words" "[J") ∈ zT := zT_mem 1024 (by decide +kernel) (by decide +kernel)
theorem zw1026 : (Jvm.Cond.laysFinal "TallShipModel" "TallShipModel" "op" "[I") ∈ zT := zT_mem 1026 (by decide +kernel) (by decide +kernel)
theorem zw1028 : (Jvm.Cond.laysFinal "TallShipModel" "TallShipModel" "one" "[I") ∈ zT := zT_mem 1028 (by decide +kernel) (by decide +kernel)
theorem zw1030 : (Jvm.Cond.laysFinal "TallShipModel" "TallShipModel" "two" "[I") ∈ zT := zT_mem 1030 (by decide +kernel) (by decide +kernel)
theorem zw1032 : (Jvm.Cond.lays "TallShipModel" "TallShipModel" "holds" "I") ∈ zT := zT_mem 1032 (by decide +kernel) (by decide +kernel)
theorem zw1034 : (Jvm.Cond.lays "TallShipModel" "TallShipModel" "next" "I") ∈ zT := zT_mem 1034 (by decide +kernel) (by decide +kernel)
theorem zw1036 : (Jvm.Cond.lays "TallShipModel" "TallShipModel" "codes" "I") ∈ zT := zT_mem 1036 (by decide +kernel) (by decide +kernel)
theorem zw1038 : (Jvm.Cond.laysFinal "TallShipModel" "TallShipModel" "statements" "[I") ∈ zT := zT_mem 1038 (by decide +kernel) (by decide +kernel)
theorem zw1040 : (Jvm.Cond.lays "TallShipModel" "TallShipModel" "deep" "I") ∈ zT := zT_mem 1040 (by decide +kernel) (by decide +kernel)
theorem zw1042 : (Jvm.Cond.laysFinal "TallShipModel" "TallShipModel" "hands" "I") ∈ zT := zT_mem 1042 (by decide +kernel) (by decide +kernel)
theorem zw1044 : (Jvm.Cond.laysFinal "TallShipModel" "TallShipModel" "sail" "[I") ∈ zT := zT_mem 1044 (by decide +kernel) (by decide +kernel)
theorem zw1046 : (Jvm.Cond.laysFinal "TallShipModel" "TallShipModel" "rope" "[I") ∈ zT := zT_mem 1046 (by decide +kernel) (by decide +kernel)
theorem zw1048 : (Jvm.Cond.laysFinal "TallShipModel" "TallShipModel" "wear" "[I") ∈ zT := zT_mem 1048 (by decide +kernel) (by decide +kernel)
theorem zw1050 : (Jvm.Cond.laysFinal "TallShipModel" "TallShipModel" "braced" "[I") ∈ zT := zT_mem 1050 (by decide +kernel) (by decide +kernel)
theorem zw1052 : (Jvm.Cond.laysFinal "TallShipModel" "TallShipModel" "workOf" "[I") ∈ zT := zT_mem 1052 (by decide +kernel) (by decide +kernel)
theorem zw1054 : (Jvm.Cond.laysFinal "TallShipModel" "TallShipModel" "work" "[I") ∈ zT := zT_mem 1054 (by decide +kernel) (by decide +kernel)
theorem zw1056 : (Jvm.Cond.laysFinal "TallShipModel" "TallShipModel" "about" "[I") ∈ zT := zT_mem 1056 (by decide +kernel) (by decide +kernel)
theorem zw1058 : (Jvm.Cond.laysFinal "TallShipModel" "TallShipModel" "target" "[I") ∈ zT := zT_mem 1058 (by decide +kernel) (by decide +kernel)
theorem zw1060 : (Jvm.Cond.laysFinal "TallShipModel" "TallShipModel" "ends" "[I") ∈ zT := zT_mem 1060 (by decide +kernel) (by decide +kernel)
theorem zw1062 : (Jvm.Cond.lays "TallShipModel" "TallShipModel" "deck" "I") ∈ zT := zT_mem 1062 (by decide +kernel) (by decide +kernel)
theorem zw1064 : (Jvm.Cond.lays "TallShipModel" "TallShipModel" "minute" "I") ∈ zT := zT_mem 1064 (by decide +kernel) (by decide +kernel)
theorem zw1066 : (Jvm.Cond.lays "TallShipModel" "TallShipModel" "course" "I") ∈ zT := zT_mem 1066 (by decide +kernel) (by decide +kernel)
theorem zw1068 : (Jvm.Cond.lays "TallShipModel" "TallShipModel" "wish" "I") ∈ zT := zT_mem 1068 (by decide +kernel) (by decide +kernel)
theorem zw1070 : (Jvm.Cond.lays "TallShipModel" "TallShipModel" "speed" "I") ∈ zT := zT_mem 1070 (by decide +kernel) (by decide +kernel)
theorem zw1072 : (Jvm.Cond.lays "TallShipModel" "TallShipModel" "placeX" "I") ∈ zT := zT_mem 1072 (by decide +kernel) (by decide +kernel)
theorem zw1074 : (Jvm.Cond.lays "TallShipModel" "TallShipModel" "placeY" "I") ∈ zT := zT_mem 1074 (by decide +kernel) (by decide +kernel)
theorem zw1076 : (Jvm.Cond.lays "TallShipModel" "TallShipModel" "parted" "I") ∈ zT := zT_mem 1076 (by decide +kernel) (by decide +kernel)
theorem zw1078 : (Jvm.Cond.lays "TallShipModel" "TallShipModel" "done" "I") ∈ zT := zT_mem 1078 (by decide +kernel) (by decide +kernel)
theorem zw1080 : (Jvm.Cond.lays "TallShipModel" "TallShipModel" "pc" "I") ∈ zT := zT_mem 1080 (by decide +kernel) (by decide +kernel)
theorem zw1082 : (Jvm.Cond.lays "TallShipModel" "TallShipModel" "waitsTo" "I") ∈ zT := zT_mem 1082 (by decide +kernel) (by decide +kernel)
theorem zw1084 : (Jvm.Cond.lays "TallShipModel" "TallShipModel" "winds" "I") ∈ zT := zT_mem 1084 (by decide +kernel) (by decide +kernel)
theorem zw1086 : (Jvm.Cond.laysFinal "TallShipModel" "TallShipModel" "windMinute" "[I") ∈ zT := zT_mem 1086 (by decide +kernel) (by decide +kernel)
theorem zw1088 : (Jvm.Cond.laysFinal "TallShipModel" "TallShipModel" "windPoint" "[I") ∈ zT := zT_mem 1088 (by decide +kernel) (by decide +kernel)
theorem zw1090 : (Jvm.Cond.laysFinal "TallShipModel" "TallShipModel" "windForce" "[I") ∈ zT := zT_mem 1090 (by decide +kernel) (by decide +kernel)
theorem zw1092 : (Jvm.Cond.lays "TallShipModel" "TallShipModel" "latestPoint" "I") ∈ zT := zT_mem 1092 (by decide +kernel) (by decide +kernel)
theorem zw1094 : (Jvm.Cond.lays "TallShipModel" "TallShipModel" "latestForce" "I") ∈ zT := zT_mem 1094 (by decide +kernel) (by decide +kernel)
theorem zw1096 : (Jvm.Cond.laysFinal "TallShipModel" "TallShipModel" "pile" "[I") ∈ zT := zT_mem 1096 (by decide +kernel) (by decide +kernel)
theorem zw1098 : (Jvm.Cond.lays "TallShipModel" "TallShipModel" "top" "I") ∈ zT := zT_mem 1098 (by decide +kernel) (by decide +kernel)
theorem zw1100 : (Jvm.Cond.laysFinal "TallShipModel" "TallShipModel" "toldPoint" "[I") ∈ zT := zT_mem 1100 (by decide +kernel) (by decide +kernel)
theorem zw1102 : (Jvm.Cond.laysFinal "TallShipModel" "TallShipModel" "toldForce" "[I") ∈ zT := zT_mem 1102 (by decide +kernel) (by decide +kernel)
theorem zw1104 : (Jvm.Cond.laysFinal "TallShipModel" "TallShipModel" "forth" "[Z") ∈ zT := zT_mem 1104 (by decide +kernel) (by decide +kernel)
theorem zw1106 : (Jvm.Cond.laysFinal "TallShipModel" "TallShipModel" "back" "[Z") ∈ zT := zT_mem 1106 (by decide +kernel) (by decide +kernel)
theorem zw1108 : (Jvm.Cond.lays "TallShipModel" "TallShipModel" "legs" "I") ∈ zT := zT_mem 1108 (by decide +kernel) (by decide +kernel)
theorem zw1110 : (Jvm.Cond.laysFinal "TallShipModel" "TallShipModel" "leg" "[I") ∈ zT := zT_mem 1110 (by decide +kernel) (by decide +kernel)
theorem zw1113 : (Jvm.Cond.arrayClass Jvm.ClassFile.FieldType.boolean) ∈ zT := zT_mem 1113 (by decide +kernel) (by decide +kernel)
theorem zw1114 : (Jvm.Cond.methodLink "TallShipLaw" (38 : Nat) ({ cls := "TallShipModel", name := "orders", desc := "()I" } : Jvm.MethodName)) ∈ zT := zT_mem 1114 (by decide +kernel) (by decide +kernel)
theorem zw1115 : (Jvm.Cond.instanceMethod ({ cls := "TallShipModel", name := "orders", desc := "()I" } : Jvm.MethodName)) ∈ zT := zT_mem 1115 (by decide +kernel) (by decide +kernel)
theorem zw1116 : (Jvm.Cond.selects "TallShipModel" ({ cls := "TallShipModel", name := "orders", desc := "()I" } : Jvm.MethodName) ({ cls := "TallShipModel", name := "orders", desc := "()I" } : Jvm.MethodName)) ∈ zT := zT_mem 1116 (by decide +kernel) (by decide +kernel)
theorem zw1117 : (Jvm.Cond.code ({ cls := "TallShipModel", name := "orders", desc := "()I" } : Jvm.MethodName) prog_11_method_20_code (2 : Nat) (Option.some Jvm.ClassFile.FieldType.int)) ∈ zT := zT_mem 1117 (by decide +kernel) (by decide +kernel)
theorem zw1118 : (Jvm.Cond.methodLink "TallShipModel" (189 : Nat) ({ cls := "TallShipModel", name := "cutAll", desc := "()V" } : Jvm.MethodName)) ∈ zT := zT_mem 1118 (by decide +kernel) (by decide +kernel)
theorem zw1120 : (Jvm.Cond.instanceMethod ({ cls := "TallShipModel", name := "cutAll", desc := "()V" } : Jvm.MethodName)) ∈ zT := zT_mem 1120 (by decide +kernel) (by decide +kernel)
theorem zw1121 : (Jvm.Cond.code ({ cls := "TallShipModel", name := "cutAll", desc := "()V" } : Jvm.MethodName) prog_11_method_9_code (7 : Nat) (Option.none : Option Jvm.ClassFile.FieldType)) ∈ zT := zT_mem 1121 (by decide +kernel) (by decide +kernel)
theorem zw1122 : (Jvm.Cond.methodLink "TallShipModel" (141 : Nat) ({ cls := "TallShipModel", name := "isLetter", desc := "(I)Z" } : Jvm.MethodName)) ∈ zT := zT_mem 1122 (by decide +kernel) (by decide +kernel)
theorem zw1123 : (Jvm.Cond.static ({ cls := "TallShipModel", name := "isLetter", desc := "(I)Z" } : Jvm.MethodName)) ∈ zT := zT_mem 1123 (by decide +kernel) (by decide +kernel)
theorem zw1124 : (Jvm.Cond.code ({ cls := "TallShipModel", name := "isLetter", desc := "(I)Z" } : Jvm.MethodName) prog_11_method_5_code (1 : Nat) (Option.some Jvm.ClassFile.FieldType.boolean)) ∈ zT := zT_mem 1124 (by decide +kernel) (by decide +kernel)
theorem zw1125 : (Jvm.Cond.constantLong "TallShipModel" (148 : Nat) (37 : Int64)) ∈ zT := zT_mem 1125 (by decide +kernel) (by decide +kernel)
theorem zw1126 : (Jvm.Cond.methodLink "TallShipModel" (150 : Nat) ({ cls := "TallShipModel", name := "rank", desc := "(I)I" } : Jvm.MethodName)) ∈ zT := zT_mem 1126 (by decide +kernel) (by decide +kernel)
theorem zw1127 : (Jvm.Cond.static ({ cls := "TallShipModel", name := "rank", desc := "(I)I" } : Jvm.MethodName)) ∈ zT := zT_mem 1127 (by decide +kernel) (by decide +kernel)
theorem zw1128 : (Jvm.Cond.code ({ cls := "TallShipModel", name := "rank", desc := "(I)I" } : Jvm.MethodName) prog_11_method_7_code (1 : Nat) (Option.some Jvm.ClassFile.FieldType.int)) ∈ zT := zT_mem 1128 (by decide +kernel) (by decide +kernel)
theorem zw1129 : (Jvm.Cond.methodLink "TallShipModel" (154 : Nat) ({ cls := "TallShipModel", name := "isDigit", desc := "(I)Z" } : Jvm.MethodName)) ∈ zT := zT_mem 1129 (by decide +kernel) (by decide +kernel)
theorem zw1130 : (Jvm.Cond.static ({ cls := "TallShipModel", name := "isDigit", desc := "(I)Z" } : Jvm.MethodName)) ∈ zT := zT_mem 1130 (by decide +kernel) (by decide +kernel)
theorem zw1131 : (Jvm.Cond.code ({ cls := "TallShipModel", name := "isDigit", desc := "(I)Z" } : Jvm.MethodName) prog_11_method_6_code (1 : Nat) (Option.some Jvm.ClassFile.FieldType.boolean)) ∈ zT := zT_mem 1131 (by decide +kernel) (by decide +kernel)
theorem zw1132 : (Jvm.Cond.constantLong "TallShipModel" (157 : Nat) (10 : Int64)) ∈ zT := zT_mem 1132 (by decide +kernel) (by decide +kernel)
theorem zw1133 : (Jvm.Cond.constantLong "TallShipModel" (159 : Nat) (48 : Int64)) ∈ zT := zT_mem 1133 (by decide +kernel) (by decide +kernel)
theorem zw1134 : (Jvm.Cond.methodLink "TallShipModel" (161 : Nat) ({ cls := "TallShipModel", name := "isSignOf", desc := "(I)Z" } : Jvm.MethodName)) ∈ zT := zT_mem 1134 (by decide +kernel) (by decide +kernel)
theorem zw1135 : (Jvm.Cond.static ({ cls := "TallShipModel", name := "isSignOf", desc := "(I)Z" } : Jvm.MethodName)) ∈ zT := zT_mem 1135 (by decide +kernel) (by decide +kernel)
theorem zw1136 : (Jvm.Cond.code ({ cls := "TallShipModel", name := "isSignOf", desc := "(I)Z" } : Jvm.MethodName) prog_11_method_8_code (1 : Nat) (Option.some Jvm.ClassFile.FieldType.boolean)) ∈ zT := zT_mem 1136 (by decide +kernel) (by decide +kernel)
theorem zw1137 : (Jvm.Cond.methodLink "TallShipModel" (198 : Nat) ({ cls := "TallShipModel", name := "statement", desc := "()V" } : Jvm.MethodName)) ∈ zT := zT_mem 1137 (by decide +kernel) (by decide +kernel)
theorem zw1139 : (Jvm.Cond.instanceMethod ({ cls := "TallShipModel", name := "statement", desc := "()V" } : Jvm.MethodName)) ∈ zT := zT_mem 1139 (by decide +kernel) (by decide +kernel)
theorem zw1140 : (Jvm.Cond.code ({ cls := "TallShipModel", name := "statement", desc := "()V" } : Jvm.MethodName) prog_11_method_21_code (6 : Nat) (Option.none : Option Jvm.ClassFile.FieldType)) ∈ zT := zT_mem 1140 (by decide +kernel) (by decide +kernel)
theorem zw1141 : (Jvm.Cond.methodLink "TallShipModel" (177 : Nat) ({ cls := "TallShipModel", name := "isWord", desc := "(I)Z" } : Jvm.MethodName)) ∈ zT := zT_mem 1141 (by decide +kernel) (by decide +kernel)
theorem zw1143 : (Jvm.Cond.instanceMethod ({ cls := "TallShipModel", name := "isWord", desc := "(I)Z" } : Jvm.MethodName)) ∈ zT := zT_mem 1143 (by decide +kernel) (by decide +kernel)
theorem zw1144 : (Jvm.Cond.code ({ cls := "TallShipModel", name := "isWord", desc := "(I)Z" } : Jvm.MethodName) prog_11_method_12_code (2 : Nat) (Option.some Jvm.ClassFile.FieldType.boolean)) ∈ zT := zT_mem 1144 (by decide +kernel) (by decide +kernel)
theorem zw1145 : (Jvm.Cond.methodLink "TallShipModel" (173 : Nat) ({ cls := "TallShipModel", name := "wrong", desc := "(I)V" } : Jvm.MethodName)) ∈ zT := zT_mem 1145 (by decide +kernel) (by decide +kernel)
theorem zw1147 : (Jvm.Cond.instanceMethod ({ cls := "TallShipModel", name := "wrong", desc := "(I)V" } : Jvm.MethodName)) ∈ zT := zT_mem 1147 (by decide +kernel) (by decide +kernel)
theorem zw1148 : (Jvm.Cond.code ({ cls := "TallShipModel", name := "wrong", desc := "(I)V" } : Jvm.MethodName) prog_11_method_10_code (2 : Nat) (Option.none : Option Jvm.ClassFile.FieldType)) ∈ zT := zT_mem 1148 (by decide +kernel) (by decide +kernel)
theorem zw1149 : (Jvm.Cond.methodLink "TallShipModel" (211 : Nat) ({ cls := "TallShipModel", name := "here", desc := "()I" } : Jvm.MethodName)) ∈ zT := zT_mem 1149 (by decide +kernel) (by decide +kernel)
theorem zw1151 : (Jvm.Cond.instanceMethod ({ cls := "TallShipModel", name := "here", desc := "()I" } : Jvm.MethodName)) ∈ zT := zT_mem 1151 (by decide +kernel) (by decide +kernel)
theorem zw1152 : (Jvm.Cond.code ({ cls := "TallShipModel", name := "here", desc := "()I" } : Jvm.MethodName) prog_11_method_19_code (1 : Nat) (Option.some Jvm.ClassFile.FieldType.int)) ∈ zT := zT_mem 1152 (by decide +kernel) (by decide +kernel)
theorem zw1153 : (Jvm.Cond.methodLink "TallShipModel" (215 : Nat) ({ cls := "TallShipModel", name := "choice", desc := "(II)V" } : Jvm.MethodName)) ∈ zT := zT_mem 1153 (by decide +kernel) (by decide +kernel)
theorem zw1155 : (Jvm.Cond.instanceMethod ({ cls := "TallShipModel", name := "choice", desc := "(II)V" } : Jvm.MethodName)) ∈ zT := zT_mem 1155 (by decide +kernel) (by decide +kernel)
theorem zw1156 : (Jvm.Cond.code ({ cls := "TallShipModel", name := "choice", desc := "(II)V" } : Jvm.MethodName) prog_11_method_22_code (5 : Nat) (Option.none : Option Jvm.ClassFile.FieldType)) ∈ zT := zT_mem 1156 (by decide +kernel) (by decide +kernel)
theorem zw1157 : (Jvm.Cond.methodLink "TallShipModel" (226 : Nat) ({ cls := "TallShipModel", name := "expression", desc := "()V" } : Jvm.MethodName)) ∈ zT := zT_mem 1157 (by decide +kernel) (by decide +kernel)
theorem zw1159 : (Jvm.Cond.instanceMethod ({ cls := "TallShipModel", name := "expression", desc := "()V" } : Jvm.MethodName)) ∈ zT := zT_mem 1159 (by decide +kernel) (by decide +kernel)
theorem zw1160 : (Jvm.Cond.code ({ cls := "TallShipModel", name := "expression", desc := "()V" } : Jvm.MethodName) prog_11_method_24_code (3 : Nat) (Option.none : Option Jvm.ClassFile.FieldType)) ∈ zT := zT_mem 1160 (by decide +kernel) (by decide +kernel)
theorem zw1161 : (Jvm.Cond.methodLink "TallShipModel" (232 : Nat) ({ cls := "TallShipModel", name := "sum", desc := "()V" } : Jvm.MethodName)) ∈ zT := zT_mem 1161 (by decide +kernel) (by decide +kernel)
theorem zw1163 : (Jvm.Cond.instanceMethod ({ cls := "TallShipModel", name := "sum", desc := "()V" } : Jvm.MethodName)) ∈ zT := zT_mem 1163 (by decide +kernel) (by decide +kernel)
theorem zw1164 : (Jvm.Cond.code ({ cls := "TallShipModel", name := "sum", desc := "()V" } : Jvm.MethodName) prog_11_method_25_code (3 : Nat) (Option.none : Option Jvm.ClassFile.FieldType)) ∈ zT := zT_mem 1164 (by decide +kernel) (by decide +kernel)
theorem zw1165 : (Jvm.Cond.methodLink "TallShipModel" (235 : Nat) ({ cls := "TallShipModel", name := "part", desc := "()V" } : Jvm.MethodName)) ∈ zT := zT_mem 1165 (by decide +kernel) (by decide +kernel)
theorem zw1167 : (Jvm.Cond.instanceMethod ({ cls := "TallShipModel", name := "part", desc := "()V" } : Jvm.MethodName)) ∈ zT := zT_mem 1167 (by decide +kernel) (by decide +kernel)
theorem zw1168 : (Jvm.Cond.code ({ cls := "TallShipModel", name := "part", desc := "()V" } : Jvm.MethodName) prog_11_method_26_code (3 : Nat) (Option.none : Option Jvm.ClassFile.FieldType)) ∈ zT := zT_mem 1168 (by decide +kernel) (by decide +kernel)
theorem zw1169 : (Jvm.Cond.methodLink "TallShipModel" (201 : Nat) ({ cls := "TallShipModel", name := "emit", desc := "(III)I" } : Jvm.MethodName)) ∈ zT := zT_mem 1169 (by decide +kernel) (by decide +kernel)
theorem zw1171 : (Jvm.Cond.instanceMethod ({ cls := "TallShipModel", name := "emit", desc := "(III)I" } : Jvm.MethodName)) ∈ zT := zT_mem 1171 (by decide +kernel) (by decide +kernel)
theorem zw1172 : (Jvm.Cond.code ({ cls := "TallShipModel", name := "emit", desc := "(III)I" } : Jvm.MethodName) prog_11_method_18_code (5 : Nat) (Option.some Jvm.ClassFile.FieldType.int)) ∈ zT := zT_mem 1172 (by decide +kernel) (by decide +kernel)
theorem zw1173 : (Jvm.Cond.methodLink "TallShipModel" (170 : Nat) ({ cls := "TallShipModel", name := "isSign", desc := "(I)Z" } : Jvm.MethodName)) ∈ zT := zT_mem 1173 (by decide +kernel) (by decide +kernel)
theorem zw1175 : (Jvm.Cond.instanceMethod ({ cls := "TallShipModel", name := "isSign", desc := "(I)Z" } : Jvm.MethodName)) ∈ zT := zT_mem 1175 (by decide +kernel) (by decide +kernel)
theorem zw1176 : (Jvm.Cond.code ({ cls := "TallShipModel", name := "isSign", desc := "(I)Z" } : Jvm.MethodName) prog_11_method_11_code (2 : Nat) (Option.some Jvm.ClassFile.FieldType.boolean)) ∈ zT := zT_mem 1176 (by decide +kernel) (by decide +kernel)
theorem zw1177 : (Jvm.Cond.methodLink "TallShipModel" (229 : Nat) ({ cls := "TallShipModel", name := "block", desc := "()V" } : Jvm.MethodName)) ∈ zT := zT_mem 1177 (by decide +kernel) (by decide +kernel)
theorem zw1179 : (Jvm.Cond.instanceMethod ({ cls := "TallShipModel", name := "block", desc := "()V" } : Jvm.MethodName)) ∈ zT := zT_mem 1179 (by decide +kernel) (by decide +kernel)
theorem zw1180 : (Jvm.Cond.code ({ cls := "TallShipModel", name := "block", desc := "()V" } : Jvm.MethodName) prog_11_method_23_code (1 : Nat) (Option.none : Option Jvm.ClassFile.FieldType)) ∈ zT := zT_mem 1180 (by decide +kernel) (by decide +kernel)
theorem zw1181 : (Jvm.Cond.methodLink "TallShipModel" (223 : Nat) ({ cls := "TallShipModel", name := "takeSign", desc := "(I)V" } : Jvm.MethodName)) ∈ zT := zT_mem 1181 (by decide +kernel) (by decide +kernel)
theorem zw1183 : (Jvm.Cond.instanceMethod ({ cls := "TallShipModel", name := "takeSign", desc := "(I)V" } : Jvm.MethodName)) ∈ zT := zT_mem 1183 (by decide +kernel) (by decide +kernel)
theorem zw1184 : (Jvm.Cond.code ({ cls := "TallShipModel", name := "takeSign", desc := "(I)V" } : Jvm.MethodName) prog_11_method_13_code (2 : Nat) (Option.none : Option Jvm.ClassFile.FieldType)) ∈ zT := zT_mem 1184 (by decide +kernel) (by decide +kernel)
theorem zw1185 : (Jvm.Cond.methodLink "TallShipModel" (180 : Nat) ({ cls := "TallShipModel", name := "hasWord", desc := "(I)Z" } : Jvm.MethodName)) ∈ zT := zT_mem 1185 (by decide +kernel) (by decide +kernel)
theorem zw1187 : (Jvm.Cond.instanceMethod ({ cls := "TallShipModel", name := "hasWord", desc := "(I)Z" } : Jvm.MethodName)) ∈ zT := zT_mem 1187 (by decide +kernel) (by decide +kernel)
theorem zw1188 : (Jvm.Cond.code ({ cls := "TallShipModel", name := "hasWord", desc := "(I)Z" } : Jvm.MethodName) prog_11_method_15_code (3 : Nat) (Option.some Jvm.ClassFile.FieldType.boolean)) ∈ zT := zT_mem 1188 (by decide +kernel) (by decide +kernel)
theorem zw1189 : (Jvm.Cond.methodLink "TallShipModel" (219 : Nat) ({ cls := "TallShipModel", name := "takeNumber", desc := "(II)I" } : Jvm.MethodName)) ∈ zT := zT_mem 1189 (by decide +kernel) (by decide +kernel)
theorem zw1191 : (Jvm.Cond.instanceMethod ({ cls := "TallShipModel", name := "takeNumber", desc := "(II)I" } : Jvm.MethodName)) ∈ zT := zT_mem 1191 (by decide +kernel) (by decide +kernel)
theorem zw1192 : (Jvm.Cond.code ({ cls := "TallShipModel", name := "takeNumber", desc := "(II)I" } : Jvm.MethodName) prog_11_method_17_code (3 : Nat) (Option.some Jvm.ClassFile.FieldType.int)) ∈ zT := zT_mem 1192 (by decide +kernel) (by decide +kernel)
theorem zw1193 : (Jvm.Cond.methodLink "TallShipLaw" (43 : Nat) ({ cls := "TallShipModel", name := "wind", desc := "(III)Z" } : Jvm.MethodName)) ∈ zT := zT_mem 1193 (by decide +kernel) (by decide +kernel)
theorem zw1194 : (Jvm.Cond.instanceMethod ({ cls := "TallShipModel", name := "wind", desc := "(III)Z" } : Jvm.MethodName)) ∈ zT := zT_mem 1194 (by decide +kernel) (by decide +kernel)
theorem zw1195 : (Jvm.Cond.selects "TallShipModel" ({ cls := "TallShipModel", name := "wind", desc := "(III)Z" } : Jvm.MethodName) ({ cls := "TallShipModel", name := "wind", desc := "(III)Z" } : Jvm.MethodName)) ∈ zT := zT_mem 1195 (by decide +kernel) (by decide +kernel)
theorem zw1196 : (Jvm.Cond.code ({ cls := "TallShipModel", name := "wind", desc := "(III)Z" } : Jvm.MethodName) prog_11_method_27_code (4 : Nat) (Option.some Jvm.ClassFile.FieldType.boolean)) ∈ zT := zT_mem 1196 (by decide +kernel) (by decide +kernel)
theorem zw1197 : (Jvm.Cond.constant "TallShipModel" (238 : Nat) (100000 : Int32)) ∈ zT := zT_mem 1197 (by decide +kernel) (by decide +kernel)
theorem zw1198 : (Jvm.Cond.methodLink "TallShipLaw" (48 : Nat) ({ cls := "TallShipModel", name := "minutes", desc := "(I)I" } : Jvm.MethodName)) ∈ zT := zT_mem 1198 (by decide +kernel) (by decide +kernel)
theorem zw1199 : (Jvm.Cond.instanceMethod ({ cls := "TallShipModel", name := "minutes", desc := "(I)I" } : Jvm.MethodName)) ∈ zT := zT_mem 1199 (by decide +kernel) (by decide +kernel)
theorem zw1200 : (Jvm.Cond.selects "TallShipModel" ({ cls := "TallShipModel", name := "minutes", desc := "(I)I" } : Jvm.MethodName) ({ cls := "TallShipModel", name := "minutes", desc := "(I)I" } : Jvm.MethodName)) ∈ zT := zT_mem 1200 (by decide +kernel) (by decide +kernel)
theorem zw1201 : (Jvm.Cond.code ({ cls := "TallShipModel", name := "minutes", desc := "(I)I" } : Jvm.MethodName) prog_11_method_54_code (3 : Nat) (Option.some Jvm.ClassFile.FieldType.int)) ∈ zT := zT_mem 1201 (by decide +kernel) (by decide +kernel)
theorem zw1202 : (Jvm.Cond.methodLink "TallShipModel" (356 : Nat) ({ cls := "TallShipModel", name := "goes", desc := "()V" } : Jvm.MethodName)) ∈ zT := zT_mem 1202 (by decide +kernel) (by decide +kernel)
theorem zw1204 : (Jvm.Cond.instanceMethod ({ cls := "TallShipModel", name := "goes", desc := "()V" } : Jvm.MethodName)) ∈ zT := zT_mem 1204 (by decide +kernel) (by decide +kernel)
theorem zw1205 : (Jvm.Cond.code ({ cls := "TallShipModel", name := "goes", desc := "()V" } : Jvm.MethodName) prog_11_method_53_code (1 : Nat) (Option.none : Option Jvm.ClassFile.FieldType)) ∈ zT := zT_mem 1205 (by decide +kernel) (by decide +kernel)
theorem zw1206 : (Jvm.Cond.methodLink "TallShipModel" (281 : Nat) ({ cls := "TallShipModel", name := "point", desc := "()I" } : Jvm.MethodName)) ∈ zT := zT_mem 1206 (by decide +kernel) (by decide +kernel)
theorem zw1208 : (Jvm.Cond.instanceMethod ({ cls := "TallShipModel", name := "point", desc := "()I" } : Jvm.MethodName)) ∈ zT := zT_mem 1208 (by decide +kernel) (by decide +kernel)
theorem zw1209 : (Jvm.Cond.code ({ cls := "TallShipModel", name := "point", desc := "()I" } : Jvm.MethodName) prog_11_method_29_code (2 : Nat) (Option.some Jvm.ClassFile.FieldType.int)) ∈ zT := zT_mem 1209 (by decide +kernel) (by decide +kernel)
theorem zw1210 : (Jvm.Cond.methodLink "TallShipModel" (245 : Nat) ({ cls := "TallShipModel", name := "windNow", desc := "()I" } : Jvm.MethodName)) ∈ zT := zT_mem 1210 (by decide +kernel) (by decide +kernel)
theorem zw1212 : (Jvm.Cond.instanceMethod ({ cls := "TallShipModel", name := "windNow", desc := "()I" } : Jvm.MethodName)) ∈ zT := zT_mem 1212 (by decide +kernel) (by decide +kernel)
theorem zw1213 : (Jvm.Cond.code ({ cls := "TallShipModel", name := "windNow", desc := "()I" } : Jvm.MethodName) prog_11_method_28_code (3 : Nat) (Option.some Jvm.ClassFile.FieldType.int)) ∈ zT := zT_mem 1213 (by decide +kernel) (by decide +kernel)
theorem zw1214 : (Jvm.Cond.methodLink "TallShipModel" (278 : Nat) ({ cls := "TallShipModel", name := "force", desc := "()I" } : Jvm.MethodName)) ∈ zT := zT_mem 1214 (by decide +kernel) (by decide +kernel)
theorem zw1216 : (Jvm.Cond.instanceMethod ({ cls := "TallShipModel", name := "force", desc := "()I" } : Jvm.MethodName)) ∈ zT := zT_mem 1216 (by decide +kernel) (by decide +kernel)
theorem zw1217 : (Jvm.Cond.code ({ cls := "TallShipModel", name := "force", desc := "()I" } : Jvm.MethodName) prog_11_method_30_code (2 : Nat) (Option.some Jvm.ClassFile.FieldType.int)) ∈ zT := zT_mem 1217 (by decide +kernel) (by decide +kernel)
theorem zw1218 : (Jvm.Cond.methodLink "TallShipModel" (338 : Nat) ({ cls := "TallShipModel", name := "endWorks", desc := "()V" } : Jvm.MethodName)) ∈ zT := zT_mem 1218 (by decide +kernel) (by decide +kernel)
theorem zw1220 : (Jvm.Cond.instanceMethod ({ cls := "TallShipModel", name := "endWorks", desc := "()V" } : Jvm.MethodName)) ∈ zT := zT_mem 1220 (by decide +kernel) (by decide +kernel)
theorem zw1221 : (Jvm.Cond.code ({ cls := "TallShipModel", name := "endWorks", desc := "()V" } : Jvm.MethodName) prog_11_method_42_code (3 : Nat) (Option.none : Option Jvm.ClassFile.FieldType)) ∈ zT := zT_mem 1221 (by decide +kernel) (by decide +kernel)
theorem zw1222 : (Jvm.Cond.methodLink "TallShipModel" (271 : Nat) ({ cls := "TallShipModel", name := "ended", desc := "(III)V" } : Jvm.MethodName)) ∈ zT := zT_mem 1222 (by decide +kernel) (by decide +kernel)
theorem zw1224 : (Jvm.Cond.instanceMethod ({ cls := "TallShipModel", name := "ended", desc := "(III)V" } : Jvm.MethodName)) ∈ zT := zT_mem 1224 (by decide +kernel) (by decide +kernel)
theorem zw1225 : (Jvm.Cond.code ({ cls := "TallShipModel", name := "ended", desc := "(III)V" } : Jvm.MethodName) prog_11_method_43_code (5 : Nat) (Option.none : Option Jvm.ClassFile.FieldType)) ∈ zT := zT_mem 1225 (by decide +kernel) (by decide +kernel)
theorem zw1226 : (Jvm.Cond.methodLink "TallShipModel" (275 : Nat) ({ cls := "TallShipModel", name := "gives", desc := "(I)V" } : Jvm.MethodName)) ∈ zT := zT_mem 1226 (by decide +kernel) (by decide +kernel)
theorem zw1228 : (Jvm.Cond.instanceMethod ({ cls := "TallShipModel", name := "gives", desc := "(I)V" } : Jvm.MethodName)) ∈ zT := zT_mem 1228 (by decide +kernel) (by decide +kernel)
theorem zw1229 : (Jvm.Cond.code ({ cls := "TallShipModel", name := "gives", desc := "(I)V" } : Jvm.MethodName) prog_11_method_41_code (3 : Nat) (Option.none : Option Jvm.ClassFile.FieldType)) ∈ zT := zT_mem 1229 (by decide +kernel) (by decide +kernel)
theorem zw1230 : (Jvm.Cond.methodLink "TallShipModel" (341 : Nat) ({ cls := "TallShipModel", name := "carries", desc := "()V" } : Jvm.MethodName)) ∈ zT := zT_mem 1230 (by decide +kernel) (by decide +kernel)
theorem zw1232 : (Jvm.Cond.instanceMethod ({ cls := "TallShipModel", name := "carries", desc := "()V" } : Jvm.MethodName)) ∈ zT := zT_mem 1232 (by decide +kernel) (by decide +kernel)
theorem zw1233 : (Jvm.Cond.code ({ cls := "TallShipModel", name := "carries", desc := "()V" } : Jvm.MethodName) prog_11_method_46_code (3 : Nat) (Option.none : Option Jvm.ClassFile.FieldType)) ∈ zT := zT_mem 1233 (by decide +kernel) (by decide +kernel)
theorem zw1234 : (Jvm.Cond.methodLink "TallShipModel" (296 : Nat) ({ cls := "TallShipModel", name := "reckons", desc := "(II)V" } : Jvm.MethodName)) ∈ zT := zT_mem 1234 (by decide +kernel) (by decide +kernel)
theorem zw1236 : (Jvm.Cond.instanceMethod ({ cls := "TallShipModel", name := "reckons", desc := "(II)V" } : Jvm.MethodName)) ∈ zT := zT_mem 1236 (by decide +kernel) (by decide +kernel)
theorem zw1237 : (Jvm.Cond.code ({ cls := "TallShipModel", name := "reckons", desc := "(II)V" } : Jvm.MethodName) prog_11_method_48_code (5 : Nat) (Option.none : Option Jvm.ClassFile.FieldType)) ∈ zT := zT_mem 1237 (by decide +kernel) (by decide +kernel)
theorem zw1238 : (Jvm.Cond.methodLink "TallShipModel" (314 : Nat) ({ cls := "TallShipModel", name := "partOf", desc := "(I)I" } : Jvm.MethodName)) ∈ zT := zT_mem 1238 (by decide +kernel) (by decide +kernel)
theorem zw1240 : (Jvm.Cond.instanceMethod ({ cls := "TallShipModel", name := "partOf", desc := "(I)I" } : Jvm.MethodName)) ∈ zT := zT_mem 1240 (by decide +kernel) (by decide +kernel)
theorem zw1241 : (Jvm.Cond.code ({ cls := "TallShipModel", name := "partOf", desc := "(I)I" } : Jvm.MethodName) prog_11_method_44_code (2 : Nat) (Option.some Jvm.ClassFile.FieldType.int)) ∈ zT := zT_mem 1241 (by decide +kernel) (by decide +kernel)
theorem zw1242 : (Jvm.Cond.methodLink "TallShipModel" (287 : Nat) ({ cls := "TallShipModel", name := "apart", desc := "(II)I" } : Jvm.MethodName)) ∈ zT := zT_mem 1242 (by decide +kernel) (by decide +kernel)
theorem zw1243 : (Jvm.Cond.static ({ cls := "TallShipModel", name := "apart", desc := "(II)I" } : Jvm.MethodName)) ∈ zT := zT_mem 1243 (by decide +kernel) (by decide +kernel)
theorem zw1244 : (Jvm.Cond.code ({ cls := "TallShipModel", name := "apart", desc := "(II)I" } : Jvm.MethodName) prog_11_method_31_code (3 : Nat) (Option.some Jvm.ClassFile.FieldType.int)) ∈ zT := zT_mem 1244 (by decide +kernel) (by decide +kernel)
theorem zw1245 : (Jvm.Cond.methodLink "TallShipModel" (293 : Nat) ({ cls := "TallShipModel", name := "loadNow", desc := "()I" } : Jvm.MethodName)) ∈ zT := zT_mem 1245 (by decide +kernel) (by decide +kernel)
theorem zw1247 : (Jvm.Cond.instanceMethod ({ cls := "TallShipModel", name := "loadNow", desc := "()I" } : Jvm.MethodName)) ∈ zT := zT_mem 1247 (by decide +kernel) (by decide +kernel)
theorem zw1248 : (Jvm.Cond.code ({ cls := "TallShipModel", name := "loadNow", desc := "()I" } : Jvm.MethodName) prog_11_method_45_code (3 : Nat) (Option.some Jvm.ClassFile.FieldType.int)) ∈ zT := zT_mem 1248 (by decide +kernel) (by decide +kernel)
theorem zw1249 : (Jvm.Cond.methodLink "TallShipModel" (299 : Nat) ({ cls := "TallShipModel", name := "begins", desc := "(III)Z" } : Jvm.MethodName)) ∈ zT := zT_mem 1249 (by decide +kernel) (by decide +kernel)
theorem zw1251 : (Jvm.Cond.instanceMethod ({ cls := "TallShipModel", name := "begins", desc := "(III)Z" } : Jvm.MethodName)) ∈ zT := zT_mem 1251 (by decide +kernel) (by decide +kernel)
theorem zw1252 : (Jvm.Cond.code ({ cls := "TallShipModel", name := "begins", desc := "(III)Z" } : Jvm.MethodName) prog_11_method_40_code (9 : Nat) (Option.some Jvm.ClassFile.FieldType.boolean)) ∈ zT := zT_mem 1252 (by decide +kernel) (by decide +kernel)
theorem zw1253 : (Jvm.Cond.methodLink "TallShipModel" (255 : Nat) ({ cls := "TallShipModel", name := "isBarred", desc := "(II)Z" } : Jvm.MethodName)) ∈ zT := zT_mem 1253 (by decide +kernel) (by decide +kernel)
theorem zw1255 : (Jvm.Cond.instanceMethod ({ cls := "TallShipModel", name := "isBarred", desc := "(II)Z" } : Jvm.MethodName)) ∈ zT := zT_mem 1255 (by decide +kernel) (by decide +kernel)
theorem zw1256 : (Jvm.Cond.code ({ cls := "TallShipModel", name := "isBarred", desc := "(II)Z" } : Jvm.MethodName) prog_11_method_37_code (3 : Nat) (Option.some Jvm.ClassFile.FieldType.boolean)) ∈ zT := zT_mem 1256 (by decide +kernel) (by decide +kernel)
theorem zw1257 : (Jvm.Cond.methodLink "TallShipModel" (248 : Nat) ({ cls := "TallShipModel", name := "isUnder", desc := "(II)Z" } : Jvm.MethodName)) ∈ zT := zT_mem 1257 (by decide +kernel) (by decide +kernel)
theorem zw1259 : (Jvm.Cond.instanceMethod ({ cls := "TallShipModel", name := "isUnder", desc := "(II)Z" } : Jvm.MethodName)) ∈ zT := zT_mem 1259 (by decide +kernel) (by decide +kernel)
theorem zw1260 : (Jvm.Cond.code ({ cls := "TallShipModel", name := "isUnder", desc := "(II)Z" } : Jvm.MethodName) prog_11_method_36_code (5 : Nat) (Option.some Jvm.ClassFile.FieldType.boolean)) ∈ zT := zT_mem 1260 (by decide +kernel) (by decide +kernel)
theorem zw1261 : (Jvm.Cond.methodLink "TallShipModel" (258 : Nat) ({ cls := "TallShipModel", name := "isMeant", desc := "(III)Z" } : Jvm.MethodName)) ∈ zT := zT_mem 1261 (by decide +kernel) (by decide +kernel)
theorem zw1263 : (Jvm.Cond.instanceMethod ({ cls := "TallShipModel", name := "isMeant", desc := "(III)Z" } : Jvm.MethodName)) ∈ zT := zT_mem 1263 (by decide +kernel) (by decide +kernel)
theorem zw1264 : (Jvm.Cond.code ({ cls := "TallShipModel", name := "isMeant", desc := "(III)Z" } : Jvm.MethodName) prog_11_method_38_code (4 : Nat) (Option.some Jvm.ClassFile.FieldType.boolean)) ∈ zT := zT_mem 1264 (by decide +kernel) (by decide +kernel)
theorem zw1265 : (Jvm.Cond.methodLink "TallShipModel" (262 : Nat) ({ cls := "TallShipModel", name := "isOnDeck", desc := "(I)Z" } : Jvm.MethodName)) ∈ zT := zT_mem 1265 (by decide +kernel) (by decide +kernel)
theorem zw1267 : (Jvm.Cond.instanceMethod ({ cls := "TallShipModel", name := "isOnDeck", desc := "(I)Z" } : Jvm.MethodName)) ∈ zT := zT_mem 1267 (by decide +kernel) (by decide +kernel)
theorem zw1268 : (Jvm.Cond.code ({ cls := "TallShipModel", name := "isOnDeck", desc := "(I)Z" } : Jvm.MethodName) prog_11_method_39_code (2 : Nat) (Option.some Jvm.ClassFile.FieldType.boolean)) ∈ zT := zT_mem 1268 (by decide +kernel) (by decide +kernel)
theorem zw1269 : (Jvm.Cond.methodLink "TallShipModel" (265 : Nat) ({ cls := "TallShipModel", name := "handsOf", desc := "(I)I" } : Jvm.MethodName)) ∈ zT := zT_mem 1269 (by decide +kernel) (by decide +kernel)
theorem zw1270 : (Jvm.Cond.static ({ cls := "TallShipModel", name := "handsOf", desc := "(I)I" } : Jvm.MethodName)) ∈ zT := zT_mem 1270 (by decide +kernel) (by decide +kernel)
theorem zw1271 : (Jvm.Cond.code ({ cls := "TallShipModel", name := "handsOf", desc := "(I)I" } : Jvm.MethodName) prog_11_method_35_code (1 : Nat) (Option.some Jvm.ClassFile.FieldType.int)) ∈ zT := zT_mem 1271 (by decide +kernel) (by decide +kernel)
theorem zw1272 : (Jvm.Cond.methodLink "TallShipModel" (268 : Nat) ({ cls := "TallShipModel", name := "minutesOf", desc := "(III)I" } : Jvm.MethodName)) ∈ zT := zT_mem 1272 (by decide +kernel) (by decide +kernel)
theorem zw1273 : (Jvm.Cond.static ({ cls := "TallShipModel", name := "minutesOf", desc := "(III)I" } : Jvm.MethodName)) ∈ zT := zT_mem 1273 (by decide +kernel) (by decide +kernel)
theorem zw1274 : (Jvm.Cond.code ({ cls := "TallShipModel", name := "minutesOf", desc := "(III)I" } : Jvm.MethodName) prog_11_method_34_code (3 : Nat) (Option.some Jvm.ClassFile.FieldType.int)) ∈ zT := zT_mem 1274 (by decide +kernel) (by decide +kernel)
theorem zw1275 : (Jvm.Cond.methodLink "TallShipModel" (305 : Nat) ({ cls := "TallShipModel", name := "carriesOut", desc := "(I)V" } : Jvm.MethodName)) ∈ zT := zT_mem 1275 (by decide +kernel) (by decide +kernel)
theorem zw1277 : (Jvm.Cond.instanceMethod ({ cls := "TallShipModel", name := "carriesOut", desc := "(I)V" } : Jvm.MethodName)) ∈ zT := zT_mem 1277 (by decide +kernel) (by decide +kernel)
theorem zw1278 : (Jvm.Cond.code ({ cls := "TallShipModel", name := "carriesOut", desc := "(I)V" } : Jvm.MethodName) prog_11_method_47_code (3 : Nat) (Option.none : Option Jvm.ClassFile.FieldType)) ∈ zT := zT_mem 1278 (by decide +kernel) (by decide +kernel)
theorem zw1279 : (Jvm.Cond.methodLink "TallShipModel" (344 : Nat) ({ cls := "TallShipModel", name := "sails", desc := "()V" } : Jvm.MethodName)) ∈ zT := zT_mem 1279 (by decide +kernel) (by decide +kernel)
theorem zw1281 : (Jvm.Cond.instanceMethod ({ cls := "TallShipModel", name := "sails", desc := "()V" } : Jvm.MethodName)) ∈ zT := zT_mem 1281 (by decide +kernel) (by decide +kernel)
theorem zw1282 : (Jvm.Cond.code ({ cls := "TallShipModel", name := "sails", desc := "()V" } : Jvm.MethodName) prog_11_method_51_code (9 : Nat) (Option.none : Option Jvm.ClassFile.FieldType)) ∈ zT := zT_mem 1282 (by decide +kernel) (by decide +kernel)
theorem zw1283 : (Jvm.Cond.methodLink "TallShipModel" (320 : Nat) ({ cls := "TallShipModel", name := "area", desc := "(I)I" } : Jvm.MethodName)) ∈ zT := zT_mem 1283 (by decide +kernel) (by decide +kernel)
theorem zw1284 : (Jvm.Cond.static ({ cls := "TallShipModel", name := "area", desc := "(I)I" } : Jvm.MethodName)) ∈ zT := zT_mem 1284 (by decide +kernel) (by decide +kernel)
theorem zw1285 : (Jvm.Cond.code ({ cls := "TallShipModel", name := "area", desc := "(I)I" } : Jvm.MethodName) prog_11_method_33_code (1 : Nat) (Option.some Jvm.ClassFile.FieldType.int)) ∈ zT := zT_mem 1285 (by decide +kernel) (by decide +kernel)
theorem zw1286 : (Jvm.Cond.methodLink "TallShipModel" (323 : Nat) ({ cls := "TallShipModel", name := "table", desc := "(I)I" } : Jvm.MethodName)) ∈ zT := zT_mem 1286 (by decide +kernel) (by decide +kernel)
theorem zw1287 : (Jvm.Cond.static ({ cls := "TallShipModel", name := "table", desc := "(I)I" } : Jvm.MethodName)) ∈ zT := zT_mem 1287 (by decide +kernel) (by decide +kernel)
theorem zw1288 : (Jvm.Cond.code ({ cls := "TallShipModel", name := "table", desc := "(I)I" } : Jvm.MethodName) prog_11_method_32_code (1 : Nat) (Option.some Jvm.ClassFile.FieldType.int)) ∈ zT := zT_mem 1288 (by decide +kernel) (by decide +kernel)
theorem zw1289 : (Jvm.Cond.methodLink "TallShipModel" (326 : Nat) ({ cls := "TallShipModel", name := "loads", desc := "(II)V" } : Jvm.MethodName)) ∈ zT := zT_mem 1289 (by decide +kernel) (by decide +kernel)
theorem zw1291 : (Jvm.Cond.instanceMethod ({ cls := "TallShipModel", name := "loads", desc := "(II)V" } : Jvm.MethodName)) ∈ zT := zT_mem 1291 (by decide +kernel) (by decide +kernel)
theorem zw1292 : (Jvm.Cond.code ({ cls := "TallShipModel", name := "loads", desc := "(II)V" } : Jvm.MethodName) prog_11_method_52_code (5 : Nat) (Option.none : Option Jvm.ClassFile.FieldType)) ∈ zT := zT_mem 1292 (by decide +kernel) (by decide +kernel)
theorem zw1293 : (Jvm.Cond.methodLink "TallShipModel" (350 : Nat) ({ cls := "TallShipModel", name := "dx", desc := "(I)I" } : Jvm.MethodName)) ∈ zT := zT_mem 1293 (by decide +kernel) (by decide +kernel)
theorem zw1294 : (Jvm.Cond.static ({ cls := "TallShipModel", name := "dx", desc := "(I)I" } : Jvm.MethodName)) ∈ zT := zT_mem 1294 (by decide +kernel) (by decide +kernel)
theorem zw1295 : (Jvm.Cond.code ({ cls := "TallShipModel", name := "dx", desc := "(I)I" } : Jvm.MethodName) prog_11_method_50_code (1 : Nat) (Option.some Jvm.ClassFile.FieldType.int)) ∈ zT := zT_mem 1295 (by decide +kernel) (by decide +kernel)
theorem zw1296 : (Jvm.Cond.methodLink "TallShipModel" (317 : Nat) ({ cls := "TallShipModel", name := "dy", desc := "(I)I" } : Jvm.MethodName)) ∈ zT := zT_mem 1296 (by decide +kernel) (by decide +kernel)
theorem zw1297 : (Jvm.Cond.static ({ cls := "TallShipModel", name := "dy", desc := "(I)I" } : Jvm.MethodName)) ∈ zT := zT_mem 1297 (by decide +kernel) (by decide +kernel)
theorem zw1298 : (Jvm.Cond.code ({ cls := "TallShipModel", name := "dy", desc := "(I)I" } : Jvm.MethodName) prog_11_method_49_code (4 : Nat) (Option.some Jvm.ClassFile.FieldType.int)) ∈ zT := zT_mem 1298 (by decide +kernel) (by decide +kernel)
theorem zw1299 : (Jvm.Cond.methodLink "TallShipLaw" (52 : Nat) ({ cls := "TallShipModel", name := "sail", desc := "(II)I" } : Jvm.MethodName)) ∈ zT := zT_mem 1299 (by decide +kernel) (by decide +kernel)
theorem zw1300 : (Jvm.Cond.instanceMethod ({ cls := "TallShipModel", name := "sail", desc := "(II)I" } : Jvm.MethodName)) ∈ zT := zT_mem 1300 (by decide +kernel) (by decide +kernel)
theorem zw1301 : (Jvm.Cond.selects "TallShipModel" ({ cls := "TallShipModel", name := "sail", desc := "(II)I" } : Jvm.MethodName) ({ cls := "TallShipModel", name := "sail", desc := "(II)I" } : Jvm.MethodName)) ∈ zT := zT_mem 1301 (by decide +kernel) (by decide +kernel)
theorem zw1302 : (Jvm.Cond.code ({ cls := "TallShipModel", name := "sail", desc := "(II)I" } : Jvm.MethodName) prog_11_method_55_code (3 : Nat) (Option.some Jvm.ClassFile.FieldType.int)) ∈ zT := zT_mem 1302 (by decide +kernel) (by decide +kernel)
theorem zw1303 : (Jvm.Cond.methodLink "TallShipLaw" (56 : Nat) ({ cls := "TallShipModel", name := "rope", desc := "(II)I" } : Jvm.MethodName)) ∈ zT := zT_mem 1303 (by decide +kernel) (by decide +kernel)
theorem zw1304 : (Jvm.Cond.instanceMethod ({ cls := "TallShipModel", name := "rope", desc := "(II)I" } : Jvm.MethodName)) ∈ zT := zT_mem 1304 (by decide +kernel) (by decide +kernel)
theorem zw1305 : (Jvm.Cond.selects "TallShipModel" ({ cls := "TallShipModel", name := "rope", desc := "(II)I" } : Jvm.MethodName) ({ cls := "TallShipModel", name := "rope", desc := "(II)I" } : Jvm.MethodName)) ∈ zT := zT_mem 1305 (by decide +kernel) (by decide +kernel)
theorem zw1306 : (Jvm.Cond.code ({ cls := "TallShipModel", name := "rope", desc := "(II)I" } : Jvm.MethodName) prog_11_method_56_code (3 : Nat) (Option.some Jvm.ClassFile.FieldType.int)) ∈ zT := zT_mem 1306 (by decide +kernel) (by decide +kernel)
theorem zw1307 : (Jvm.Cond.methodLink "TallShipLaw" (60 : Nat) ({ cls := "TallShipModel", name := "braced", desc := "(I)I" } : Jvm.MethodName)) ∈ zT := zT_mem 1307 (by decide +kernel) (by decide +kernel)
theorem zw1308 : (Jvm.Cond.instanceMethod ({ cls := "TallShipModel", name := "braced", desc := "(I)I" } : Jvm.MethodName)) ∈ zT := zT_mem 1308 (by decide +kernel) (by decide +kernel)
theorem zw1309 : (Jvm.Cond.selects "TallShipModel" ({ cls := "TallShipModel", name := "braced", desc := "(I)I" } : Jvm.MethodName) ({ cls := "TallShipModel", name := "braced", desc := "(I)I" } : Jvm.MethodName)) ∈ zT := zT_mem 1309 (by decide +kernel) (by decide +kernel)
theorem zw1310 : (Jvm.Cond.code ({ cls := "TallShipModel", name := "braced", desc := "(I)I" } : Jvm.MethodName) prog_11_method_57_code (2 : Nat) (Option.some Jvm.ClassFile.FieldType.int)) ∈ zT := zT_mem 1310 (by decide +kernel) (by decide +kernel)
theorem zw1311 : (Jvm.Cond.methodLink "TallShipLaw" (64 : Nat) ({ cls := "TallShipModel", name := "hand", desc := "(II)I" } : Jvm.MethodName)) ∈ zT := zT_mem 1311 (by decide +kernel) (by decide +kernel)
theorem zw1312 : (Jvm.Cond.instanceMethod ({ cls := "TallShipModel", name := "hand", desc := "(II)I" } : Jvm.MethodName)) ∈ zT := zT_mem 1312 (by decide +kernel) (by decide +kernel)
theorem zw1313 : (Jvm.Cond.selects "TallShipModel" ({ cls := "TallShipModel", name := "hand", desc := "(II)I" } : Jvm.MethodName) ({ cls := "TallShipModel", name := "hand", desc := "(II)I" } : Jvm.MethodName)) ∈ zT := zT_mem 1313 (by decide +kernel) (by decide +kernel)
theorem zw1314 : (Jvm.Cond.code ({ cls := "TallShipModel", name := "hand", desc := "(II)I" } : Jvm.MethodName) prog_11_method_58_code (3 : Nat) (Option.some Jvm.ClassFile.FieldType.int)) ∈ zT := zT_mem 1314 (by decide +kernel) (by decide +kernel)
theorem zw1315 : (Jvm.Cond.methodLink "TallShipLaw" (71 : Nat) ({ cls := "TallShipModel", name := "look", desc := "(I)I" } : Jvm.MethodName)) ∈ zT := zT_mem 1315 (by decide +kernel) (by decide +kernel)
theorem zw1316 : (Jvm.Cond.instanceMethod ({ cls := "TallShipModel", name := "look", desc := "(I)I" } : Jvm.MethodName)) ∈ zT := zT_mem 1316 (by decide +kernel) (by decide +kernel)
theorem zw1317 : (Jvm.Cond.selects "TallShipModel" ({ cls := "TallShipModel", name := "look", desc := "(I)I" } : Jvm.MethodName) ({ cls := "TallShipModel", name := "look", desc := "(I)I" } : Jvm.MethodName)) ∈ zT := zT_mem 1317 (by decide +kernel) (by decide +kernel)
theorem zw1318 : (Jvm.Cond.code ({ cls := "TallShipModel", name := "look", desc := "(I)I" } : Jvm.MethodName) prog_11_method_59_code (4 : Nat) (Option.some Jvm.ClassFile.FieldType.int)) ∈ zT := zT_mem 1318 (by decide +kernel) (by decide +kernel)
theorem zw1319 : (Jvm.Cond.methodLink "TallShipLaw" (75 : Nat) ({ cls := "TallShipModel", name := "foretell", desc := "(III)Z" } : Jvm.MethodName)) ∈ zT := zT_mem 1319 (by decide +kernel) (by decide +kernel)
theorem zw1320 : (Jvm.Cond.instanceMethod ({ cls := "TallShipModel", name := "foretell", desc := "(III)Z" } : Jvm.MethodName)) ∈ zT := zT_mem 1320 (by decide +kernel) (by decide +kernel)
theorem zw1321 : (Jvm.Cond.selects "TallShipModel" ({ cls := "TallShipModel", name := "foretell", desc := "(III)Z" } : Jvm.MethodName) ({ cls := "TallShipModel", name := "foretell", desc := "(III)Z" } : Jvm.MethodName)) ∈ zT := zT_mem 1321 (by decide +kernel) (by decide +kernel)
theorem zw1322 : (Jvm.Cond.code ({ cls := "TallShipModel", name := "foretell", desc := "(III)Z" } : Jvm.MethodName) prog_11_method_60_code (4 : Nat) (Option.some Jvm.ClassFile.FieldType.boolean)) ∈ zT := zT_mem 1322 (by decide +kernel) (by decide +kernel)
theorem zw1323 : (Jvm.Cond.methodLink "TallShipLaw" (79 : Nat) ({ cls := "TallShipModel", name := "plan", desc := "(II)I" } : Jvm.MethodName)) ∈ zT := zT_mem 1323 (by decide +kernel) (by decide +kernel)
theorem zw1324 : (Jvm.Cond.instanceMethod ({ cls := "TallShipModel", name := "plan", desc := "(II)I" } : Jvm.MethodName)) ∈ zT := zT_mem 1324 (by decide +kernel) (by decide +kernel)
theorem zw1325 : (Jvm.Cond.selects "TallShipModel" ({ cls := "TallShipModel", name := "plan", desc := "(II)I" } : Jvm.MethodName) ({ cls := "TallShipModel", name := "plan", desc := "(II)I" } : Jvm.MethodName)) ∈ zT := zT_mem 1325 (by decide +kernel) (by decide +kernel)
theorem zw1326 : (Jvm.Cond.code ({ cls := "TallShipModel", name := "plan", desc := "(II)I" } : Jvm.MethodName) prog_11_method_64_code (9 : Nat) (Option.some Jvm.ClassFile.FieldType.int)) ∈ zT := zT_mem 1326 (by decide +kernel) (by decide +kernel)
theorem zw1327 : (Jvm.Cond.methodLink "TallShipModel" (365 : Nat) ({ cls := "TallShipModel", name := "marksForth", desc := "(I)V" } : Jvm.MethodName)) ∈ zT := zT_mem 1327 (by decide +kernel) (by decide +kernel)
theorem zw1329 : (Jvm.Cond.instanceMethod ({ cls := "TallShipModel", name := "marksForth", desc := "(I)V" } : Jvm.MethodName)) ∈ zT := zT_mem 1329 (by decide +kernel) (by decide +kernel)
theorem zw1330 : (Jvm.Cond.code ({ cls := "TallShipModel", name := "marksForth", desc := "(I)V" } : Jvm.MethodName) prog_11_method_62_code (5 : Nat) (Option.none : Option Jvm.ClassFile.FieldType)) ∈ zT := zT_mem 1330 (by decide +kernel) (by decide +kernel)
theorem zw1331 : (Jvm.Cond.methodLink "TallShipModel" (359 : Nat) ({ cls := "TallShipModel", name := "leads", desc := "(III)I" } : Jvm.MethodName)) ∈ zT := zT_mem 1331 (by decide +kernel) (by decide +kernel)
theorem zw1333 : (Jvm.Cond.instanceMethod ({ cls := "TallShipModel", name := "leads", desc := "(III)I" } : Jvm.MethodName)) ∈ zT := zT_mem 1333 (by decide +kernel) (by decide +kernel)
theorem zw1334 : (Jvm.Cond.code ({ cls := "TallShipModel", name := "leads", desc := "(III)I" } : Jvm.MethodName) prog_11_method_61_code (7 : Nat) (Option.some Jvm.ClassFile.FieldType.int)) ∈ zT := zT_mem 1334 (by decide +kernel) (by decide +kernel)
theorem zw1335 : (Jvm.Cond.methodLink "TallShipModel" (368 : Nat) ({ cls := "TallShipModel", name := "marksBack", desc := "(I)V" } : Jvm.MethodName)) ∈ zT := zT_mem 1335 (by decide +kernel) (by decide +kernel)
theorem zw1337 : (Jvm.Cond.instanceMethod ({ cls := "TallShipModel", name := "marksBack", desc := "(I)V" } : Jvm.MethodName)) ∈ zT := zT_mem 1337 (by decide +kernel) (by decide +kernel)
theorem zw1338 : (Jvm.Cond.code ({ cls := "TallShipModel", name := "marksBack", desc := "(I)V" } : Jvm.MethodName) prog_11_method_63_code (6 : Nat) (Option.none : Option Jvm.ClassFile.FieldType)) ∈ zT := zT_mem 1338 (by decide +kernel) (by decide +kernel)
theorem zw1339 : (Jvm.Cond.methodLink "TallShipLaw" (83 : Nat) ({ cls := "TallShipModel", name := "leg", desc := "(I)I" } : Jvm.MethodName)) ∈ zT := zT_mem 1339 (by decide +kernel) (by decide +kernel)
theorem zw1340 : (Jvm.Cond.instanceMethod ({ cls := "TallShipModel", name := "leg", desc := "(I)I" } : Jvm.MethodName)) ∈ zT := zT_mem 1340 (by decide +kernel) (by decide +kernel)
theorem zw1341 : (Jvm.Cond.selects "TallShipModel" ({ cls := "TallShipModel", name := "leg", desc := "(I)I" } : Jvm.MethodName) ({ cls := "TallShipModel", name := "leg", desc := "(I)I" } : Jvm.MethodName)) ∈ zT := zT_mem 1341 (by decide +kernel) (by decide +kernel)
theorem zw1342 : (Jvm.Cond.code ({ cls := "TallShipModel", name := "leg", desc := "(I)I" } : Jvm.MethodName) prog_11_method_65_code (2 : Nat) (Option.some Jvm.ClassFile.FieldType.int)) ∈ zT := zT_mem 1342 (by decide +kernel) (by decide +kernel)
theorem zw1343 : (Jvm.Cond.constantLong "TallShipLaw" (27 : Nat) (4294967295 : Int64)) ∈ zT := zT_mem 1343 (by decide +kernel) (by decide +kernel)
theorem zw1357 : (Jvm.Cond.fieldLink "java/lang/String" (9 : Nat) "java/lang/String" "value" "[B") ∈ zT := zT_mem 1357 (by decide +kernel) (by decide +kernel)
theorem zw1358 : (Jvm.Cond.fieldLink "java/lang/String" (15 : Nat) "java/lang/String" "coder" "B") ∈ zT := zT_mem 1358 (by decide +kernel) (by decide +kernel)
end
section
/-! THE PICTURE: objects by numbers (in the order in which they are made), three planes: ints, longs, references. -/
abbrev zV : Type := Int32 ⊕ (Int64 ⊕ Option Nat)
abbrev zi (x : Int32) : zV := Sum.inl x
abbrev zl (x : Int64) : zV := Sum.inr (Sum.inl x)
abbrev zq (r : Option Nat) : zV := Sum.inr (Sum.inr r)
abbrev zr (o : Nat) : zV := Sum.inr (Sum.inr (some o))
def zc (ad : Nat → Nat) (v : zV) : Value := match v with
  | .inl x => .int x
  | .inr (.inl x) => .long x
  | .inr (.inr r) => va_rf (r.map ad)
def zcat (v : zV) : Nat := match v with
  | .inr (.inl _) => 2
  | _ => 1
theorem zc_cat (ad : Nat → Nat) (v : zV) : (zc ad v).category = zcat v := by
  rcases v with x | x | r
  · rfl
  · rfl
  · cases r <;> rfl
/-- a shape: an object of a class of vwCl, or an array of a type and a length -/
abbrev zS : Type := Nat ⊕ (FieldType × Nat)
abbrev zW : Type := List zS × (Nat → Nat → Int32) × (Nat → Nat → Int64) × (Nat → Nat → Option Nat)
def zu {α : Type} (f : Nat → Nat → α) (o k : Nat) (x : α) : Nat → Nat → α := fun a b => if a = o then (if b = k then x else f a b) else f a b
theorem zu_same {α : Type} {f : Nat → Nat → α} {o k : Nat} {x : α} : zu f o k x o k = x := by simp [zu]
theorem zu_row {α : Type} {f : Nat → Nat → α} {o k a b : Nat} {x : α} (h : a ≠ o) : zu f o k x a b = f a b := by simp [zu, h]
theorem zu_col {α : Type} {f : Nat → Nat → α} {o k a b : Nat} {x : α} (h : b ≠ k) : zu f o k x a b = f a b := by simp [zu, h]
theorem zu_rowf {α : Type} {f : Nat → Nat → α} {o k a : Nat} {x : α} (h : a ≠ o) : zu f o k x a = f a := by funext b; exact zu_row h
def zn (ci : Nat) : Nat := match vwCl[ci]? with
  | some q => q.2.2
  | none => 0
def zty (ci : Nat) : Nat → FieldType := match ci with
  | 0 => tyX1
  | 1 => tyX2
  | 2 => tyX3
  | 3 => tyX4
  | 4 => tyX5
  | 5 => tyX6
  | 6 => tyX7
  | 7 => tyX8
  | _ => tyX9
def zkind (ty : FieldType) : Nat := match ty with
  | .long => 1
  | .object _ => 2
  | .array _ => 2
  | _ => 0
def zfv (ad : Nat → Nat) (σ : zW) (o ci k : Nat) : Value := match zkind (zty ci k) with
  | 0 => .int (σ.2.1 o k)
  | 1 => .long (σ.2.2.1 o k)
  | _ => va_rf ((σ.2.2.2 o k).map ad)
def zfs (ad : Nat → Nat) (σ : zW) (o ci : Nat) : List Value := (List.range (zn ci)).map (zfv ad σ o ci)
def zar (ty : FieldType) (n : Nat) (σ : zW) (o : Nat) : vp_A := match zkind ty with
  | 1 => (n, .inr (.inl (σ.2.2.1 o)))
  | _ => (n, .inl (σ.2.1 o))
def zce (dA : FieldType → ClassId) (ad : Nat → Nat) (σ : zW) (o : Nat) : va_E := match σ.1[o]? with
  | some (.inl ci) => .inr (ci, zfs ad σ o ci)
  | some (.inr (ty, n)) => .inl (dA ty, zar ty n σ o)
  | none => .inr (0, [])
def zws (dA : FieldType → ClassId) (ad : Nat → Nat) (σ : zW) : va_W := (List.range σ.1.length).map (fun o => (ad o, zce dA ad σ o))
theorem zlt {α : Type} {S : List α} {o : Nat} {x : α} (h : S[o]? = some x) : o < S.length := (List.getElem?_eq_some_iff.mp h).1
theorem zws_at {dA : FieldType → ClassId} {ad : Nat → Nat} {σ : zW} {o : Nat} (h : o < σ.1.length) : (zws dA ad σ)[o]? = some (ad o, zce dA ad σ o) := by
  simp [zws, List.getElem?_map, List.getElem?_range h]
theorem zws_len {dA : FieldType → ClassId} {ad : Nat → Nat} {σ : zW} : (zws dA ad σ).length = σ.1.length := by simp [zws]
theorem zws_obj {dA : FieldType → ClassId} {ad : Nat → Nat} {σ : zW} {o ci : Nat} (h : σ.1[o]? = some (.inl ci)) : (zws dA ad σ)[o]? = some (ad o, .inr (ci, zfs ad σ o ci)) := by
  rw [zws_at (zlt h)]
  simp [zce, h]
theorem zws_arr {dA : FieldType → ClassId} {ad : Nat → Nat} {σ : zW} {o n : Nat} {ty : FieldType} (h : σ.1[o]? = some (.inr (ty, n))) : (zws dA ad σ)[o]? = some (ad o, .inl (dA ty, zar ty n σ o)) := by
  rw [zws_at (zlt h)]
  simp [zce, h]
theorem zws_set {dA : FieldType → ClassId} {ad : Nat → Nat} {σ σ1 : zW} {o : Nat} (hS : σ1.1 = σ.1) (ho : o < σ.1.length) (hne : ∀ a, a ≠ o → zce dA ad σ1 a = zce dA ad σ a) :
    (zws dA ad σ).set o (ad o, zce dA ad σ1 o) = zws dA ad σ1 := by
  apply List.ext_getElem?
  intro i
  by_cases hi : i < σ.1.length
  · rw [zws_at (σ := σ1) (by rw [hS]; exact hi)]
    by_cases e : o = i
    · subst e
      rw [List.getElem?_set_self (by rw [zws_len]; exact ho)]
    · rw [List.getElem?_set_ne e, zws_at hi, hne i (Ne.symm e)]
  · rw [List.getElem?_eq_none (by rw [List.length_set, zws_len]; omega), List.getElem?_eq_none (by rw [zws_len, hS]; omega)]
theorem zfs_get {ad : Nat → Nat} {σ : zW} {o ci k : Nat} (hk : k < zn ci) : (zfs ad σ o ci)[k]? = some (zfv ad σ o ci k) := by
  simp [zfs, List.getElem?_map, List.getElem?_range hk]
theorem zfs_set {ad : Nat → Nat} {σ σ1 : zW} {o ci k : Nat} {v : Value} (hk : k < zn ci) (h1 : zfv ad σ1 o ci k = v) (hne : ∀ j, j ≠ k → zfv ad σ1 o ci j = zfv ad σ o ci j) : (zfs ad σ o ci).set k v = zfs ad σ1 o ci := by
  apply List.ext_getElem?
  intro i
  by_cases hi : i < zn ci
  · rw [zfs_get (σ := σ1) hi]
    by_cases e : k = i
    · subst e
      rw [List.getElem?_set_self (by simpa [zfs] using hk), h1]
    · rw [List.getElem?_set_ne e, zfs_get hi, hne i (Ne.symm e)]
  · rw [List.getElem?_eq_none (by simp [zfs]; omega), List.getElem?_eq_none (by simp [zfs]; omega)]
/-- a cell is told by its shape and its rows of the planes -/
theorem zce_eq {dA : FieldType → ClassId} {ad : Nat → Nat} {σ σ1 : zW} {a : Nat} (hS : σ1.1 = σ.1) (h1 : σ1.2.1 a = σ.2.1 a) (h2 : σ1.2.2.1 a = σ.2.2.1 a) (h3 : σ1.2.2.2 a = σ.2.2.2 a) : zce dA ad σ1 a = zce dA ad σ a := by
  unfold zce
  rw [hS]
  cases σ.1[a]? with
  | none => rfl
  | some sh =>
    cases sh with
    | inl ci =>
      have e : zfv ad σ1 a ci = zfv ad σ a ci := by funext k; simp [zfv, h1, h2, h3]
      simp only [zfs, e]
    | inr q => simp [zar, h1, h2]
theorem zset_i {dA : FieldType → ClassId} {ad : Nat → Nat} {σ : zW} {o ci k : Nat} {x : Int32} (h : σ.1[o]? = some (.inl ci)) (hk : k < zn ci) (ht : zkind (zty ci k) = 0) :
    (zws dA ad σ).set o (ad o, .inr (ci, (zfs ad σ o ci).set k (.int x))) = zws dA ad (σ.1, zu σ.2.1 o k x, σ.2.2.1, σ.2.2.2) := by
  rw [← zws_set (σ := σ) (σ1 := (σ.1, zu σ.2.1 o k x, σ.2.2.1, σ.2.2.2)) (o := o) rfl (zlt h) (fun a ha => zce_eq rfl (zu_rowf ha) rfl rfl)]
  congr 2
  simp only [zce, h]
  rw [zfs_set (σ1 := (σ.1, zu σ.2.1 o k x, σ.2.2.1, σ.2.2.2)) hk (by simp [zfv, ht, zu_same]) (fun j hj => by simp [zfv, zu_col hj])]
theorem zset_q {dA : FieldType → ClassId} {ad : Nat → Nat} {σ : zW} {o ci k : Nat} {r : Option Nat} (h : σ.1[o]? = some (.inl ci)) (hk : k < zn ci) (ht : zkind (zty ci k) = 2) :
    (zws dA ad σ).set o (ad o, .inr (ci, (zfs ad σ o ci).set k (va_rf (r.map ad)))) = zws dA ad (σ.1, σ.2.1, σ.2.2.1, zu σ.2.2.2 o k r) := by
  rw [← zws_set (σ := σ) (σ1 := (σ.1, σ.2.1, σ.2.2.1, zu σ.2.2.2 o k r)) (o := o) rfl (zlt h) (fun a ha => zce_eq rfl rfl rfl (zu_rowf ha))]
  congr 2
  simp only [zce, h]
  rw [zfs_set (σ1 := (σ.1, σ.2.1, σ.2.2.1, zu σ.2.2.2 o k r)) hk (by simp [zfv, ht, zu_same]) (fun j hj => by simp [zfv, zu_col hj])]
theorem zu_upd {f : Nat → Nat → Int32} {o k : Nat} {x : Int32} : zu f o k x o = upd (f o) k x := by
  funext b
  simp [zu, upd]
theorem zu_updL {f : Nat → Nat → Int64} {o k : Nat} {x : Int64} : zu f o k x o = vp_updL (f o) k x := by
  funext b
  simp [zu, vp_updL]
theorem zseta_i {dA : FieldType → ClassId} {ad : Nat → Nat} {σ : zW} {o n k : Nat} {ty : FieldType} {x : Int32} (h : σ.1[o]? = some (.inr (ty, n))) (ht : zkind ty = 0) :
    (zws dA ad σ).set o (ad o, .inl (dA ty, n, .inl (upd (σ.2.1 o) k x))) = zws dA ad (σ.1, zu σ.2.1 o k x, σ.2.2.1, σ.2.2.2) := by
  rw [← zws_set (σ := σ) (σ1 := (σ.1, zu σ.2.1 o k x, σ.2.2.1, σ.2.2.2)) (o := o) rfl (zlt h) (fun a ha => zce_eq rfl (zu_rowf ha) rfl rfl)]
  simp [zce, h, zar, ht, zu_upd]
theorem zseta_l {dA : FieldType → ClassId} {ad : Nat → Nat} {σ : zW} {o n k : Nat} {x : Int64} (h : σ.1[o]? = some (.inr (.long, n))) :
    (zws dA ad σ).set o (ad o, .inl (dA .long, n, .inr (.inl (vp_updL (σ.2.2.1 o) k x)))) = zws dA ad (σ.1, σ.2.1, zu σ.2.2.1 o k x, σ.2.2.2) := by
  rw [← zws_set (σ := σ) (σ1 := (σ.1, σ.2.1, zu σ.2.2.1 o k x, σ.2.2.2)) (o := o) rfl (zlt h) (fun a ha => zce_eq rfl rfl (zu_rowf ha) rfl)]
  simp [zce, h, zar, zkind, zu_updL]
/-! numbers of references that may be met: an object that is there, or one of those from outside (1000 and on) -/
def zok (n x : Nat) : Prop := x < n ∨ 1000 ≤ x
def zwfv (n : Nat) (v : zV) : Prop := ∀ x, v = zr x → zok n x
def zwfs (n : Nat) (st : List zV) : Prop := ∀ v ∈ st, zwfv n v
def zwfl (n : Nat) (lv : List (Nat × zV)) : Prop := ∀ q ∈ lv, zwfv n q.2
def zwfR (n : Nat) (R : Nat → Nat → Option Nat) : Prop := ∀ o k x, R o k = some x → zok n x
theorem zwfv_i {n : Nat} {x : Int32} : zwfv n (zi x) := fun _ h => by cases h
theorem zwfv_l {n : Nat} {x : Int64} : zwfv n (zl x) := fun _ h => by cases h
theorem zwfs_nil {n : Nat} : zwfs n [] := fun _ h => by cases h
theorem zwfl_nil {n : Nat} : zwfl n [] := fun _ h => by cases h
theorem zwfs_cons {n : Nat} {v : zV} {st : List zV} (h1 : zwfv n v) (h2 : zwfs n st) : zwfs n (v :: st) := fun w h => by
  rcases List.mem_cons.mp h with e | h
  · rw [e]; exact h1
  · exact h2 w h
theorem zwfs_head {n : Nat} {v : zV} {st : List zV} (h : zwfs n (v :: st)) : zwfv n v := h v List.mem_cons_self
theorem zwfs_tail {n : Nat} {v : zV} {st : List zV} (h : zwfs n (v :: st)) : zwfs n st := fun w hw => h w (List.mem_cons_of_mem _ hw)
theorem zwfs_i {n : Nat} {x : Int32} {st : List zV} (h : zwfs n st) : zwfs n (zi x :: st) := zwfs_cons zwfv_i h
theorem zwfs_l {n : Nat} {x : Int64} {st : List zV} (h : zwfs n st) : zwfs n (zl x :: st) := zwfs_cons zwfv_l h
/-- what an object's cells come to, in slots -/
def zsl : List zS → Nat
  | [] => 0
  | .inl ci :: S => zn ci + zsl S
  | .inr (_, n) :: S => n + zsl S
theorem zsl_app (S T : List zS) : zsl (S ++ T) = zsl S + zsl T := by
  induction S with
  | nil => simp [zsl]
  | cons a S ih => rcases a with ci | ⟨ty, n⟩ <;> simp [zsl, ih] <;> omega
end
section
/-! THE TWO JUDGEMENTS: zAM (a method's contract), zAW (the machine within a method), over the picture. -/
/-- a method: its name, code, number of locals, what it returns -/
abbrev zM : Type := MethodName × ByteArray × Nat × Option FieldType
/-- static arrays that nobody writes -/
def zst : List (String × String × List Int32) := [
  (RX0, "PULL", [0, 0, 0, 0, 0, 2, 4, 6, 8, 8, 8, 8, 8, 7, 6, 6, 6]),
  (RX0, "NORTH", [16, 16, 15, 13, 11, 9, 6, 3, 0, -3, -6, -9, -11, -13, -15, -16, -16, -16, -15, -13, -11, -9, -6, -3, 0, 3, 6, 9, 11, 13, 15, 16]),
  (RX4, "AREA", [6, 5, 3]),
  (RX4, "HANDS", [3, 4, 5, 2]),
  (RX3, "LOWEST", [0, 0, 0, 0, 0, 0, 1]),
  (RX3, "HIGHEST", [8, 8, 2, 17, 31, 2, 999])]
/-- the words that the reader spells: their places in its pool, their texts, their bytes -/
def zsr : List (Nat × String × List Int32) := [
  (66, "else", [101, 108, 115, 101]), (96, "set", [115, 101, 116]), (98, "furl", [102, 117, 114, 108]), (100, "brace", [98, 114, 97, 99, 101]),
  (102, "rope", [114, 111, 112, 101]), (104, "steer", [115, 116, 101, 101, 114]), (106, "call", [99, 97, 108, 108]), (108, "wait", [119, 97, 105, 116]),
  (110, "if", [105, 102]), (112, "while", [119, 104, 105, 108, 101]), (145, "force", [102, 111, 114, 99, 101]), (147, "from", [102, 114, 111, 109]),
  (149, "aback", [97, 98, 97, 99, 107]), (151, "speed", [115, 112, 101, 101, 100]), (153, "course", [99, 111, 117, 114, 115, 101]), (155, "hour", [104, 111, 117, 114]), (157, "load", [108, 111, 97, 100])]
/-- private constructors that the ship calls -/
def znst : List (Nat × MethodName) := [(18, yX7_init), (25, yX6_init), (41, yX2_init), (52, yX5_init)]
abbrev zcs (dA : FieldType → ClassId) : List (ClassId × FieldType) := [(dA .int, .int), (dA .char, .char), (dA .boolean, .boolean), (dA .long, .long)]
/-- what is known of the tables, and of what lies outside the picture: 1000 the script, 1001 and on the static arrays, 1020 and on the words, 1050 and on their bytes -/
def zK (X : Nat × (Nat → Int32)) (D : va_G) (dA : FieldType → ClassId) (A : Nat → Prop) (ad : Nat → Nat) (U : State) (H : Heap) : Prop :=
  va_K D vwCl (zcs dA) U ∧
  (∀ (i : Nat) (q : String × String × List Int32), zst[i]? = some q → va_Z q.1 q.2.1 "[I" (.ref (ad (1001 + i))) A U H ∧ va_T .int (ad (1001 + i)) q.2.2.length (fun j => .int (q.2.2.getD j 0)) A U H) ∧
  va_T .int (ad 1000) X.1 (fun j => .int (X.2 j)) A U H ∧
  va_Z "java/lang/String" "COMPACT_STRINGS" "Z" (.int 1) A U H ∧
  (∀ (i : Nat) (q : Nat × String × List Int32), zsr[i]? = some q → va_O "java/lang/String" (ad (1020 + i)) A U H ∧ va_OF "java/lang/String" "coder" "B" (.int 0) (ad (1020 + i)) A U H ∧ va_OF "java/lang/String" "value" "[B" (.ref (ad (1050 + i))) (ad (1020 + i)) A U H ∧
    va_T .byte (ad (1050 + i)) q.2.2.length (fun j => .int (q.2.2.getD j 0)) A U H ∧ vk_R RX3 q.1 q.2.1 (ad (1020 + i)) U) ∧
  (∀ q ∈ znst, va_Nw (.methodLinkNest RX8 q.1 q.2 RX8) U)
theorem zK.cast {X : Nat × (Nat → Int32)} {D : va_G} {dA : FieldType → ClassId} {A : Nat → Prop} {ad ad' : Nat → Nat} {U : State} {H : Heap} (h : zK X D dA A ad U H) (he : ∀ x, 1000 ≤ x → ad' x = ad x) : zK X D dA A ad' U H := by
  obtain ⟨h1, h2, h3, h4, h5, h6⟩ := h
  refine ⟨h1, fun i q hq => ?_, ?_, h4, fun i q hq => ?_, h6⟩
  · rw [he _ (by omega)]; exact h2 i q hq
  · rw [he _ (by omega)]; exact h3
  · rw [he _ (by omega), he (1050 + i) (by omega)]; exact h5 i q hq
theorem zK.warm {X : Nat × (Nat → Int32)} {D : va_G} {dA : FieldType → ClassId} {A : Nat → Prop} {ad : Nat → Nat} {u U : State} {H : Heap} (hW : u.WarmedH U.vm) (h : zK X D dA A ad u H) : zK X D dA A ad U H := by
  obtain ⟨h1, h2, h3, h4, h5, h6⟩ := h
  have hvm := hW.alike
  refine ⟨va_K.moved hvm h1, fun i q hq => ⟨va_Z.moved hvm (h2 i q hq).1, va_T.moved hvm (h2 i q hq).2⟩, va_T.moved hvm h3, va_Z.moved hvm h4, fun i q hq => ?_, fun q hq => va_Nw.warmM hW (h6 q hq)⟩
  obtain ⟨a1, a2, a3, a4, a5⟩ := h5 i q hq
  exact ⟨va_O.moved hvm a1, va_OF.moved hvm a2, va_OF.moved hvm a3, va_T.moved hvm a4, vk_R.warm hW a5⟩
theorem zK.same {X : Nat × (Nat → Int32)} {D : va_G} {dA : FieldType → ClassId} {A : Nat → Prop} {ad : Nat → Nat} {u U : State} {H : Heap} (hv : U.vm = u.vm) (h : zK X D dA A ad u H) : zK X D dA A ad U H := by
  obtain ⟨h1, h2, h3, h4, h5, h6⟩ := h
  have hvm : u.vm.Alike U.vm := by rw [hv]; exact Vm.Alike.refl _
  refine ⟨va_K.moved hvm h1, fun i q hq => ⟨va_Z.moved hvm (h2 i q hq).1, va_T.moved hvm (h2 i q hq).2⟩, va_T.moved hvm h3, va_Z.moved hvm h4, fun i q hq => ?_, fun q hq => va_Nw.same rfl hv.symm (h6 q hq)⟩
  obtain ⟨a1, a2, a3, a4, a5⟩ := h5 i q hq
  exact ⟨va_O.moved hvm a1, va_OF.moved hvm a2, va_OF.moved hvm a3, va_T.moved hvm a4, vk_R.same hv a5⟩
theorem zK.kept {X : Nat × (Nat → Int32)} {D : va_G} {dA : FieldType → ClassId} {A : Nat → Prop} {ad : Nat → Nat} {U : State} {H H1 : Heap} (h : zK X D dA A ad U H) (hq : ∀ a : Nat, a < H.size → ¬ A a → H1[a]? = H[a]?) : zK X D dA A ad U H1 := by
  obtain ⟨h1, h2, h3, h4, h5, h6⟩ := h
  refine ⟨h1, fun i q hi => ⟨(h2 i q hi).1.kept hq, (h2 i q hi).2.kept hq⟩, h3.kept hq, h4.kept hq, fun i q hi => ?_, h6⟩
  obtain ⟨a1, a2, a3, a4, a5⟩ := h5 i q hi
  exact ⟨a1.kept hq, a2.kept hq, a3.kept hq, a4.kept hq, a5⟩
theorem zK.narrow {X : Nat × (Nat → Int32)} {D : va_G} {dA : FieldType → ClassId} {A B : Nat → Prop} {ad : Nat → Nat} {U : State} {H : Heap} (h : zK X D dA A ad U H) (hAB : ∀ q, B q → A q) : zK X D dA B ad U H := by
  obtain ⟨h1, h2, h3, h4, h5, h6⟩ := h
  refine ⟨h1, fun i q hi => ⟨(h2 i q hi).1.narrow hAB, (h2 i q hi).2.narrow hAB⟩, h3.narrow hAB, h4.narrow hAB, fun i q hi => ?_, h6⟩
  obtain ⟨a1, a2, a3, a4, a5⟩ := h5 i q hi
  exact ⟨a1.narrow hAB, a2.narrow hAB, a3.narrow hAB, a4.narrow hAB, a5⟩
/-- an answer fits what the method says that it returns -/
def znar (Mt : zM) (rv : Option zV) : Prop := ∀ x ty, rv = some (zi x) → Mt.2.2.2 = some ty → narrow ty (.int x) = .int x
/-- what holds of a method that is being carried out, whatever it does -/
def zCx (E : (Nat → Prop) → Launch → State → Prop) (X : Nat × (Nat → Int32)) (Mt : zM) (d : Nat) (p : Program) (l : Launch) (R : Room) (s : State) (m : MethodId) (args : Array Value) (meth : Method) (c : Code) (D : va_G) (dA : FieldType → ClassId) (A : Nat → Prop) (ad : Nat → Nat) : Prop :=
  p.tables.exec = Jvm.exec ∧ c.code = Mt.2.1 ∧ c.maxLocals = Mt.2.2.1 ∧ s.vm.findClass Mt.1.cls = some m.cls ∧ (∀ w ∈ zT, w.before args s = true) ∧ (Mt.1.name = "<init>" → meth.name = "<init>") ∧ (∀ q, s.heap.size ≤ q → A q) ∧ zK X D dA A ad s s.heap ∧ d ≤ R.frames ∧ 60 * d ≤ R.locals ∧ E A l s
/-- the locals hold what is listed -/
abbrev zLs (ls : Array Slot) (n : Nat) (ad : Nat → Nat) (lv : List (Nat × zV)) : Prop := lv_has ls n (lv.map fun q => (q.1, zc ad q.2))
/-- the end of a method: at a return -/
def zEnd (X : Nat × (Nat → Int32)) (Mt : zM) (p : Program) (l : Launch) (e : Env) (R : Room) (s : State) (m : MethodId) (args : Array Value) (below : List Frame) (meth : Method) (c : Code) (Q : State → Prop) (D : va_G) (dA : FieldType → ClassId) (A : Nat → Prop) (ad : Nat → Nat) (n : Nat) (rv : Option zV) (σ' : zW) : Prop :=
  ∀ (pc : Nat) (ls : Array Slot) (H : Heap) (locs : List Loc) (cells slots : Nat) (ad' : Nat → Nat),
    (match rv with
      | none => decode Mt.2.1 pc = .ok (.return_, 1) ∧ Mt.2.2.2 = none
      | some (.inl _) => decode Mt.2.1 pc = .ok (.ireturn, 1) ∧ Mt.2.2.2 ≠ none
      | _ => False) → znar Mt rv →
    (∀ x, zok n x → ad' x = ad x) → va_P D vwCl (zws dA ad' σ') H → va_D A (zws dA ad' σ') → va_S A s.heap H locs → zwfR σ'.1.length σ'.2.2.2 → cells ≤ R.cells → slots ≤ R.slots →
    W p l e R s m args below meth c H locs cells slots Q (F0 m pc ls (rv.toList.map (zc ad')))
/-- the machine at pc of a method, locals lv, operands st, picture σ: it comes to the method's end with the answer rv and the picture σ' -/
def zAW (E : (Nat → Prop) → Launch → State → Prop) (X : Nat × (Nat → Int32)) (Mt : zM) (d pc : Nat) (lv : List (Nat × zV)) (st : List zV) (σ : zW) (rv : Option zV) (σ' : zW) : Prop :=
  ∀ (p : Program) (l : Launch) (e : Env) (R : Room) (s : State) (m : MethodId) (args : Array Value) (below : List Frame) (meth : Method) (c : Code) (H : Heap) (locs : List Loc) (cells slots : Nat) (Q : State → Prop) (D : va_G) (dA : FieldType → ClassId) (A : Nat → Prop) (ad : Nat → Nat) (ls : Array Slot),
    zCx E X Mt d p l R s m args meth c D dA A ad → zLs ls Mt.2.2.1 ad lv → va_P D vwCl (zws dA ad σ) H → va_D A (zws dA ad σ) → va_S A s.heap H locs →
    zwfR σ.1.length σ.2.2.2 → zwfl σ.1.length lv → zwfs σ.1.length st → cells + σ'.1.length ≤ R.cells + σ.1.length → slots + zsl σ'.1 ≤ R.slots + zsl σ.1 →
    zEnd X Mt p l e R s m args below meth c Q D dA A ad σ.1.length rv σ' →
    W p l e R s m args below meth c H locs cells slots Q (F0 m pc ls (st.map (zc ad)))
/-- what a method leaves -/
def zQc (Mt : zM) (D : va_G) (dA : FieldType → ClassId) (ad : Nat → Nat) (A : Nat → Prop) (n : Nat) (rv : Option zV) (σ' : zW) : Array Value → State → Outcome → State → Prop := match rv with
  | none => va_Qv (fun ad' : Nat → Nat => (∀ x, zok n x → ad' x = ad x) ∧ zwfR σ'.1.length σ'.2.2.2 ∧ znar Mt rv) (fun ad' t => va_P D vwCl (zws dA ad' σ') t.heap ∧ va_D A (zws dA ad' σ')) A
  | some v => va_Qi (fun (r : Int32) (ad' : Nat → Nat) => v = zi r ∧ (∀ x, zok n x → ad' x = ad x) ∧ zwfR σ'.1.length σ'.2.2.2 ∧ znar Mt rv) (fun ad' t => va_P D vwCl (zws dA ad' σ') t.heap ∧ va_D A (zws dA ad' σ')) A
def zPre (X : Nat × (Nat → Int32)) (D : va_G) (dA : FieldType → ClassId) (ad : Nat → Nat) (sz : Nat) (σ : zW) (U : State) : Prop :=
  U.heap.size = sz ∧ va_P D vwCl (zws dA ad σ) U.heap ∧ zK X D dA (va_A (zws dA ad σ) sz) ad U U.heap ∧ va_D (fun _ => True) (zws dA ad σ)
/-- a method's contract: called with as in the picture σ it answers rv and leaves σ'; d frames deep at most -/
def zAM (X : Nat × (Nat → Int32)) (Mt : zM) (d : Nat) (as : List zV) (σ : zW) (rv : Option zV) (σ' : zW) : Prop :=
  σ.1.length ≤ σ'.1.length ∧ zsl σ.1 ≤ zsl σ'.1 ∧ (∃ Ty, Mt.2.2.2 = Ty ∧ (Ty = none ↔ rv = none)) ∧
  (zwfR σ.1.length σ.2.2.2 → zwfs σ.1.length as → ∀ (l : Launch) (D : va_G) (dA : FieldType → ClassId) (ad : Nat → Nat) (sz : Nat),
    Met l Mt.1 (Cond.code Mt.1 Mt.2.1 Mt.2.2.1 Mt.2.2.2 :: zT) ({ frames := d, cells := σ'.1.length - σ.1.length, slots := zsl σ'.1 - zsl σ.1, locals := 60 * d })
      (va_Pc (as.map (zc ad)) (zPre X D dA ad sz σ)) (zQc Mt D dA ad (va_A (zws dA ad σ) sz) σ.1.length rv σ') (σ'.1.length - σ.1.length) (zsl σ'.1 - zsl σ.1) (va_A (zws dA ad σ) sz))
end
section
/-! RULES: one an instruction -/
section zRules
variable {E : (Nat → Prop) → Launch → State → Prop} {X : Nat × (Nat → Int32)} {Mt : zM} {d pc : Nat} {lv : List (Nat × zV)} {st : List zV} {σ σ' : zW} {rv : Option zV} {S : List zS} {I : Nat → Nat → Int32} {L : Nat → Nat → Int64} {F : Nat → Nat → Option Nat}
def zrm (x y : Int32) : Int32 := x - x / y * y
theorem a_name {x : Int32} (k : ∀ v, v = x → zAW E X Mt d pc lv (zi v :: st) σ rv σ') : zAW E X Mt d pc lv (zi x :: st) σ rv σ' := k x rfl
theorem a_namel {x : Int64} (k : ∀ v, v = x → zAW E X Mt d pc lv (zl v :: st) σ rv σ') : zAW E X Mt d pc lv (zl x :: st) σ rv σ' := k x rfl
theorem zLs_at {ls : Array Slot} {n j i : Nat} {ad : Nat → Nat} {lv : List (Nat × zV)} {v : zV} (h : zLs ls n ad lv) (hk : lv[j]? = some (i, v)) : ls[i]? = some (.val (zc ad v)) := lv_at h j (by simp [List.getElem?_map, hk])
def zfl (i : Nat) (lv : List (Nat × zV)) : List (Nat × zV) := lv.filter (fun q => !(q.1 == i) && !(q.1 + 1 == i && zcat q.2 == 2))
def zfl2 (i : Nat) (lv : List (Nat × zV)) : List (Nat × zV) := lv.filter (fun q => !(q.1 == i) && (!(q.1 == i + 1) && !(q.1 + 1 == i && zcat q.2 == 2)))
theorem zfl_map (ad : Nat → Nat) (i : Nat) (v : zV) (lv : List (Nat × zV)) : (i, zc ad v) :: (lv.map fun q => (q.1, zc ad q.2)).filter (fun q => !(q.1 == i) && !(q.1 + 1 == i && q.2.category == 2)) = ((i, v) :: zfl i lv).map (fun q => (q.1, zc ad q.2)) := by
  simp only [List.map_cons, List.filter_map, zfl]
  congr 2
  apply List.filter_congr
  intro q _
  simp [zc_cat]
theorem zfl2_map (ad : Nat → Nat) (i : Nat) (v : zV) (lv : List (Nat × zV)) : (i, zc ad v) :: (lv.map fun q => (q.1, zc ad q.2)).filter (fun q => !(q.1 == i) && (!(q.1 == i + 1) && !(q.1 + 1 == i && q.2.category == 2))) = ((i, v) :: zfl2 i lv).map (fun q => (q.1, zc ad q.2)) := by
  simp only [List.map_cons, List.filter_map, zfl2]
  congr 2
  apply List.filter_congr
  intro q _
  simp [zc_cat]
theorem zwfl_cons {n i : Nat} {v : zV} {lv lv2 : List (Nat × zV)} (h : zwfl n lv) (hv : zwfv n v) (hs : ∀ q ∈ lv2, q ∈ lv) : zwfl n ((i, v) :: lv2) := fun q hq => by
  rcases List.mem_cons.mp hq with e | hq
  · rw [e]; exact hv
  · exact h q (hs q hq)
theorem zfl_sub {i : Nat} {lv : List (Nat × zV)} : ∀ q ∈ zfl i lv, q ∈ lv := fun _ h => (List.mem_filter.mp h).1
theorem zfl2_sub {i : Nat} {lv : List (Nat × zV)} : ∀ q ∈ zfl2 i lv, q ∈ lv := fun _ h => (List.mem_filter.mp h).1
theorem zwfv_at {n j i : Nat} {lv : List (Nat × zV)} {v : zV} (h : zwfl n lv) (hk : lv[j]? = some (i, v)) : zwfv n v := h (i, v) (List.mem_of_getElem? hk)
/-- fewer locals, or in another order: by their places -/
theorem a_sub {lv' : List (Nat × zV)} (ks : List Nat) (hs9 : ks.filterMap (fun k => lv[k]?) = lv') (k : zAW E X Mt d pc lv' st σ rv σ') : zAW E X Mt d pc lv st σ rv σ' := by
  intro p l e R s m args below meth c H locs cells slots Q D dA A ad ls cx hl hP hD hS wR wl ws hc hs he
  have hsub : ∀ q ∈ lv', q ∈ lv := fun q hq => by
    rw [← hs9] at hq
    obtain ⟨i, -, hi⟩ := List.mem_filterMap.mp hq
    exact List.mem_of_getElem? hi
  exact (k p l e R s m args below meth c H locs cells slots Q D dA A ad ls cx ⟨hl.1, hl.2.1, fun q hq => by obtain ⟨z, hz, e⟩ := List.mem_map.mp hq; exact hl.2.2 q (List.mem_map.mpr ⟨z, hsub z hz, e⟩)⟩ hP hD hS wR (fun q hq => wl q (hsub q hq)) ws hc hs he)
theorem a_iadd {x y : Int32} (hd : decode Mt.2.1 pc = .ok (.iadd, 1)) (k : zAW E X Mt d (pc + 1) lv (zi (x + y) :: st) σ rv σ') : zAW E X Mt d pc lv (zi y :: zi x :: st) σ rv σ' := by
  intro p l e R s m args below meth c H locs cells slots Q D dA A ad ls cx hl hP hD hS wR wl ws hc hs he
  exact lv_iadd cx.1 cx.2.1 hd (k p l e R s m args below meth c H locs cells slots Q D dA A ad ls cx hl hP hD hS wR wl (zwfs_i (zwfs_tail (zwfs_tail ws))) hc hs he)
theorem a_isub {x y : Int32} (hd : decode Mt.2.1 pc = .ok (.isub, 1)) (k : zAW E X Mt d (pc + 1) lv (zi (x - y) :: st) σ rv σ') : zAW E X Mt d pc lv (zi y :: zi x :: st) σ rv σ' := by
  intro p l e R s m args below meth c H locs cells slots Q D dA A ad ls cx hl hP hD hS wR wl ws hc hs he
  exact lv_isub cx.1 cx.2.1 hd (k p l e R s m args below meth c H locs cells slots Q D dA A ad ls cx hl hP hD hS wR wl (zwfs_i (zwfs_tail (zwfs_tail ws))) hc hs he)
theorem a_imul {x y : Int32} (hd : decode Mt.2.1 pc = .ok (.imul, 1)) (k : zAW E X Mt d (pc + 1) lv (zi (x * y) :: st) σ rv σ') : zAW E X Mt d pc lv (zi y :: zi x :: st) σ rv σ' := by
  intro p l e R s m args below meth c H locs cells slots Q D dA A ad ls cx hl hP hD hS wR wl ws hc hs he
  exact lv_imul cx.1 cx.2.1 hd (k p l e R s m args below meth c H locs cells slots Q D dA A ad ls cx hl hP hD hS wR wl (zwfs_i (zwfs_tail (zwfs_tail ws))) hc hs he)
theorem a_iand {x y : Int32} (hd : decode Mt.2.1 pc = .ok (.iand, 1)) (k : zAW E X Mt d (pc + 1) lv (zi (x &&& y) :: st) σ rv σ') : zAW E X Mt d pc lv (zi y :: zi x :: st) σ rv σ' := by
  intro p l e R s m args below meth c H locs cells slots Q D dA A ad ls cx hl hP hD hS wR wl ws hc hs he
  exact lv_iand cx.1 cx.2.1 hd (k p l e R s m args below meth c H locs cells slots Q D dA A ad ls cx hl hP hD hS wR wl (zwfs_i (zwfs_tail (zwfs_tail ws))) hc hs he)
theorem a_ior {x y : Int32} (hd : decode Mt.2.1 pc = .ok (.ior, 1)) (k : zAW E X Mt d (pc + 1) lv (zi (x ||| y) :: st) σ rv σ') : zAW E X Mt d pc lv (zi y :: zi x :: st) σ rv σ' := by
  intro p l e R s m args below meth c H locs cells slots Q D dA A ad ls cx hl hP hD hS wR wl ws hc hs he
  exact lv_ior cx.1 cx.2.1 hd (k p l e R s m args below meth c H locs cells slots Q D dA A ad ls cx hl hP hD hS wR wl (zwfs_i (zwfs_tail (zwfs_tail ws))) hc hs he)
theorem a_ixor {x y : Int32} (hd : decode Mt.2.1 pc = .ok (.ixor, 1)) (k : zAW E X Mt d (pc + 1) lv (zi (x ^^^ y) :: st) σ rv σ') : zAW E X Mt d pc lv (zi y :: zi x :: st) σ rv σ' := by
  intro p l e R s m args below meth c H locs cells slots Q D dA A ad ls cx hl hP hD hS wR wl ws hc hs he
  exact lv_ixor cx.1 cx.2.1 hd (k p l e R s m args below meth c H locs cells slots Q D dA A ad ls cx hl hP hD hS wR wl (zwfs_i (zwfs_tail (zwfs_tail ws))) hc hs he)
theorem a_ishl {x y : Int32} (hd : decode Mt.2.1 pc = .ok (.ishl, 1)) (k : zAW E X Mt d (pc + 1) lv (zi (x <<< (y &&& 31)) :: st) σ rv σ') : zAW E X Mt d pc lv (zi y :: zi x :: st) σ rv σ' := by
  intro p l e R s m args below meth c H locs cells slots Q D dA A ad ls cx hl hP hD hS wR wl ws hc hs he
  exact lv_ishl cx.1 cx.2.1 hd (k p l e R s m args below meth c H locs cells slots Q D dA A ad ls cx hl hP hD hS wR wl (zwfs_i (zwfs_tail (zwfs_tail ws))) hc hs he)
theorem a_ishr {x y : Int32} (hd : decode Mt.2.1 pc = .ok (.ishr, 1)) (k : zAW E X Mt d (pc + 1) lv (zi (x >>> (y &&& 31)) :: st) σ rv σ') : zAW E X Mt d pc lv (zi y :: zi x :: st) σ rv σ' := by
  intro p l e R s m args below meth c H locs cells slots Q D dA A ad ls cx hl hP hD hS wR wl ws hc hs he
  exact lv_ishr cx.1 cx.2.1 hd (k p l e R s m args below meth c H locs cells slots Q D dA A ad ls cx hl hP hD hS wR wl (zwfs_i (zwfs_tail (zwfs_tail ws))) hc hs he)
theorem a_idiv {x y : Int32} (hd : decode Mt.2.1 pc = .ok (.idiv, 1)) (hne : ¬ y = 0) (k : zAW E X Mt d (pc + 1) lv (zi (x / y) :: st) σ rv σ') : zAW E X Mt d pc lv (zi y :: zi x :: st) σ rv σ' := by
  intro p l e R s m args below meth c H locs cells slots Q D dA A ad ls cx hl hP hD hS wR wl ws hc hs he
  exact lv_idiv cx.1 cx.2.1 hd hne (k p l e R s m args below meth c H locs cells slots Q D dA A ad ls cx hl hP hD hS wR wl (zwfs_i (zwfs_tail (zwfs_tail ws))) hc hs he)
theorem a_irem {x y : Int32} (hd : decode Mt.2.1 pc = .ok (.irem, 1)) (hne : ¬ y = 0) (k : zAW E X Mt d (pc + 1) lv (zi (zrm x y) :: st) σ rv σ') : zAW E X Mt d pc lv (zi y :: zi x :: st) σ rv σ' := by
  intro p l e R s m args below meth c H locs cells slots Q D dA A ad ls cx hl hP hD hS wR wl ws hc hs he
  exact lv_irem cx.1 cx.2.1 hd hne (k p l e R s m args below meth c H locs cells slots Q D dA A ad ls cx hl hP hD hS wR wl (zwfs_i (zwfs_tail (zwfs_tail ws))) hc hs he)
theorem a_ladd {x y : Int64} (hd : decode Mt.2.1 pc = .ok (.ladd, 1)) (k : zAW E X Mt d (pc + 1) lv (zl (x + y) :: st) σ rv σ') : zAW E X Mt d pc lv (zl y :: zl x :: st) σ rv σ' := by
  intro p l e R s m args below meth c H locs cells slots Q D dA A ad ls cx hl hP hD hS wR wl ws hc hs he
  exact lv_ladd cx.1 cx.2.1 hd (k p l e R s m args below meth c H locs cells slots Q D dA A ad ls cx hl hP hD hS wR wl (zwfs_l (zwfs_tail (zwfs_tail ws))) hc hs he)
theorem a_lsub {x y : Int64} (hd : decode Mt.2.1 pc = .ok (.lsub, 1)) (k : zAW E X Mt d (pc + 1) lv (zl (x - y) :: st) σ rv σ') : zAW E X Mt d pc lv (zl y :: zl x :: st) σ rv σ' := by
  intro p l e R s m args below meth c H locs cells slots Q D dA A ad ls cx hl hP hD hS wR wl ws hc hs he
  exact lv_lsub cx.1 cx.2.1 hd (k p l e R s m args below meth c H locs cells slots Q D dA A ad ls cx hl hP hD hS wR wl (zwfs_l (zwfs_tail (zwfs_tail ws))) hc hs he)
theorem a_lmul {x y : Int64} (hd : decode Mt.2.1 pc = .ok (.lmul, 1)) (k : zAW E X Mt d (pc + 1) lv (zl (x * y) :: st) σ rv σ') : zAW E X Mt d pc lv (zl y :: zl x :: st) σ rv σ' := by
  intro p l e R s m args below meth c H locs cells slots Q D dA A ad ls cx hl hP hD hS wR wl ws hc hs he
  exact lv_lmul cx.1 cx.2.1 hd (k p l e R s m args below meth c H locs cells slots Q D dA A ad ls cx hl hP hD hS wR wl (zwfs_l (zwfs_tail (zwfs_tail ws))) hc hs he)
theorem a_land {x y : Int64} (hd : decode Mt.2.1 pc = .ok (.land, 1)) (k : zAW E X Mt d (pc + 1) lv (zl (x &&& y) :: st) σ rv σ') : zAW E X Mt d pc lv (zl y :: zl x :: st) σ rv σ' := by
  intro p l e R s m args below meth c H locs cells slots Q D dA A ad ls cx hl hP hD hS wR wl ws hc hs he
  exact lv_land cx.1 cx.2.1 hd (k p l e R s m args below meth c H locs cells slots Q D dA A ad ls cx hl hP hD hS wR wl (zwfs_l (zwfs_tail (zwfs_tail ws))) hc hs he)
theorem a_lor {x y : Int64} (hd : decode Mt.2.1 pc = .ok (.lor, 1)) (k : zAW E X Mt d (pc + 1) lv (zl (x ||| y) :: st) σ rv σ') : zAW E X Mt d pc lv (zl y :: zl x :: st) σ rv σ' := by
  intro p l e R s m args below meth c H locs cells slots Q D dA A ad ls cx hl hP hD hS wR wl ws hc hs he
  exact lv_lor cx.1 cx.2.1 hd (k p l e R s m args below meth c H locs cells slots Q D dA A ad ls cx hl hP hD hS wR wl (zwfs_l (zwfs_tail (zwfs_tail ws))) hc hs he)
theorem a_lshl {x : Int64} {y : Int32} (hd : decode Mt.2.1 pc = .ok (.lshl, 1)) (k : zAW E X Mt d (pc + 1) lv (zl (x <<< (y.toInt64 &&& 63)) :: st) σ rv σ') : zAW E X Mt d pc lv (zi y :: zl x :: st) σ rv σ' := by
  intro p l e R s m args below meth c H locs cells slots Q D dA A ad ls cx hl hP hD hS wR wl ws hc hs he
  exact lv_lshl cx.1 cx.2.1 hd rfl (k p l e R s m args below meth c H locs cells slots Q D dA A ad ls cx hl hP hD hS wR wl (zwfs_l (zwfs_tail (zwfs_tail ws))) hc hs he)
theorem a_lshr {x : Int64} {y : Int32} (hd : decode Mt.2.1 pc = .ok (.lshr, 1)) (k : zAW E X Mt d (pc + 1) lv (zl (x >>> (y.toInt64 &&& 63)) :: st) σ rv σ') : zAW E X Mt d pc lv (zi y :: zl x :: st) σ rv σ' := by
  intro p l e R s m args below meth c H locs cells slots Q D dA A ad ls cx hl hP hD hS wR wl ws hc hs he
  exact lv_lshr cx.1 cx.2.1 hd rfl (k p l e R s m args below meth c H locs cells slots Q D dA A ad ls cx hl hP hD hS wR wl (zwfs_l (zwfs_tail (zwfs_tail ws))) hc hs he)
theorem a_lushr {x : Int64} {y : Int32} (hd : decode Mt.2.1 pc = .ok (.lushr, 1)) (k : zAW E X Mt d (pc + 1) lv (zl ((x.toUInt64 >>> (y.toInt64.toUInt64 &&& Int64.toUInt64 63)).toInt64) :: st) σ rv σ') : zAW E X Mt d pc lv (zi y :: zl x :: st) σ rv σ' := by
  intro p l e R s m args below meth c H locs cells slots Q D dA A ad ls cx hl hP hD hS wR wl ws hc hs he
  exact lv_lushr cx.1 cx.2.1 hd rfl (k p l e R s m args below meth c H locs cells slots Q D dA A ad ls cx hl hP hD hS wR wl (zwfs_l (zwfs_tail (zwfs_tail ws))) hc hs he)
theorem a_lcmp {x y : Int64} (hd : decode Mt.2.1 pc = .ok (.lcmp, 1)) (k : zAW E X Mt d (pc + 1) lv (zi (lg_cmp x y) :: st) σ rv σ') : zAW E X Mt d pc lv (zl y :: zl x :: st) σ rv σ' := by
  intro p l e R s m args below meth c H locs cells slots Q D dA A ad ls cx hl hP hD hS wR wl ws hc hs he
  exact W.lcmp cx.1 cx.2.1 hd (k p l e R s m args below meth c H locs cells slots Q D dA A ad ls cx hl hP hD hS wR wl (zwfs_i (zwfs_tail (zwfs_tail ws))) hc hs he)
theorem a_ineg {x : Int32} (hd : decode Mt.2.1 pc = .ok (.ineg, 1)) (k : zAW E X Mt d (pc + 1) lv (zi (-x) :: st) σ rv σ') : zAW E X Mt d pc lv (zi x :: st) σ rv σ' := by
  intro p l e R s m args below meth c H locs cells slots Q D dA A ad ls cx hl hP hD hS wR wl ws hc hs he
  exact lv_ineg cx.1 cx.2.1 hd (k p l e R s m args below meth c H locs cells slots Q D dA A ad ls cx hl hP hD hS wR wl (zwfs_i (zwfs_tail ws)) hc hs he)
theorem a_i2l {x : Int32} (hd : decode Mt.2.1 pc = .ok (.i2l, 1)) (k : zAW E X Mt d (pc + 1) lv (zl x.toInt64 :: st) σ rv σ') : zAW E X Mt d pc lv (zi x :: st) σ rv σ' := by
  intro p l e R s m args below meth c H locs cells slots Q D dA A ad ls cx hl hP hD hS wR wl ws hc hs he
  exact lv_i2l cx.1 cx.2.1 hd rfl (k p l e R s m args below meth c H locs cells slots Q D dA A ad ls cx hl hP hD hS wR wl (zwfs_l (zwfs_tail ws)) hc hs he)
theorem a_l2i {x : Int64} (hd : decode Mt.2.1 pc = .ok (.l2i, 1)) (k : zAW E X Mt d (pc + 1) lv (zi x.toInt32 :: st) σ rv σ') : zAW E X Mt d pc lv (zl x :: st) σ rv σ' := by
  intro p l e R s m args below meth c H locs cells slots Q D dA A ad ls cx hl hP hD hS wR wl ws hc hs he
  exact lv_l2i cx.1 cx.2.1 hd rfl (k p l e R s m args below meth c H locs cells slots Q D dA A ad ls cx hl hP hD hS wR wl (zwfs_i (zwfs_tail ws)) hc hs he)
theorem a_i2c {x : Int32} (hd : decode Mt.2.1 pc = .ok (.i2c, 1)) (k : zAW E X Mt d (pc + 1) lv (zi (x.toUInt32 % 65536).toInt32 :: st) σ rv σ') : zAW E X Mt d pc lv (zi x :: st) σ rv σ' := by
  intro p l e R s m args below meth c H locs cells slots Q D dA A ad ls cx hl hP hD hS wR wl ws hc hs he
  exact lv_i2c cx.1 cx.2.1 hd rfl (k p l e R s m args below meth c H locs cells slots Q D dA A ad ls cx hl hP hD hS wR wl (zwfs_i (zwfs_tail ws)) hc hs he)
theorem a_iconst {n : Int} {v : Int32} (hd : decode Mt.2.1 pc = .ok (.iconst n, 1)) (hv : Int32.ofInt n = v) (k : zAW E X Mt d (pc + 1) lv (zi v :: st) σ rv σ') : zAW E X Mt d pc lv st σ rv σ' := by
  intro p l e R s m args below meth c H locs cells slots Q D dA A ad ls cx hl hP hD hS wR wl ws hc hs he
  exact lv_iconst cx.1 cx.2.1 hd hv (k p l e R s m args below meth c H locs cells slots Q D dA A ad ls cx hl hP hD hS wR wl (zwfs_i ws) hc hs he)
theorem a_bipush {n : Int} {v : Int32} (hd : decode Mt.2.1 pc = .ok (.bipush n, 2)) (hv : (Int8.ofInt n).toInt32 = v) (k : zAW E X Mt d (pc + 2) lv (zi v :: st) σ rv σ') : zAW E X Mt d pc lv st σ rv σ' := by
  intro p l e R s m args below meth c H locs cells slots Q D dA A ad ls cx hl hP hD hS wR wl ws hc hs he
  exact lv_bipush cx.1 cx.2.1 hd hv (k p l e R s m args below meth c H locs cells slots Q D dA A ad ls cx hl hP hD hS wR wl (zwfs_i ws) hc hs he)
theorem a_sipush {n : Int} {v : Int32} (hd : decode Mt.2.1 pc = .ok (.sipush n, 3)) (hv : (Int16.ofInt n).toInt32 = v) (k : zAW E X Mt d (pc + 3) lv (zi v :: st) σ rv σ') : zAW E X Mt d pc lv st σ rv σ' := by
  intro p l e R s m args below meth c H locs cells slots Q D dA A ad ls cx hl hP hD hS wR wl ws hc hs he
  exact lv_sipush cx.1 cx.2.1 hd hv (k p l e R s m args below meth c H locs cells slots Q D dA A ad ls cx hl hP hD hS wR wl (zwfs_i ws) hc hs he)
theorem a_lconst {n : Fin 2} {v : Int64} (hd : decode Mt.2.1 pc = .ok (.lconst n, 1)) (hv : Int64.ofNat (n : Nat) = v) (k : zAW E X Mt d (pc + 1) lv (zl v :: st) σ rv σ') : zAW E X Mt d pc lv st σ rv σ' := by
  intro p l e R s m args below meth c H locs cells slots Q D dA A ad ls cx hl hP hD hS wR wl ws hc hs he
  exact lv_lconst cx.1 cx.2.1 hd hv (k p l e R s m args below meth c H locs cells slots Q D dA A ad ls cx hl hP hD hS wR wl (zwfs_l ws) hc hs he)
theorem a_ldc {idx : Nat} {v : Int32} (hd : decode Mt.2.1 pc = .ok (.ldc idx, 2)) (hv : Cond.constant Mt.1.cls idx v ∈ zT) (k : zAW E X Mt d (pc + 2) lv (zi v :: st) σ rv σ') : zAW E X Mt d pc lv st σ rv σ' := by
  intro p l e R s m args below meth c H locs cells slots Q D dA A ad ls cx hl hP hD hS wR wl ws hc hs he
  exact lv_ldc cx.1 cx.2.1 cx.2.2.2.1 (cx.2.2.2.2.1 _ hv) hd (k p l e R s m args below meth c H locs cells slots Q D dA A ad ls cx hl hP hD hS wR wl (zwfs_i ws) hc hs he)
theorem a_ldc2 {idx : Nat} {v : Int64} (hd : decode Mt.2.1 pc = .ok (.ldc2_w idx, 3)) (hv : Cond.constantLong Mt.1.cls idx v ∈ zT) (k : zAW E X Mt d (pc + 3) lv (zl v :: st) σ rv σ') : zAW E X Mt d pc lv st σ rv σ' := by
  intro p l e R s m args below meth c H locs cells slots Q D dA A ad ls cx hl hP hD hS wR wl ws hc hs he
  exact lv_ldc2 cx.1 cx.2.1 cx.2.2.2.1 (cx.2.2.2.2.1 _ hv) hd (k p l e R s m args below meth c H locs cells slots Q D dA A ad ls cx hl hP hD hS wR wl (zwfs_l ws) hc hs he)
theorem a_dup {v : zV} (hd : decode Mt.2.1 pc = .ok (.dup, 1)) (hv : zcat v = 1) (k : zAW E X Mt d (pc + 1) lv (v :: v :: st) σ rv σ') : zAW E X Mt d pc lv (v :: st) σ rv σ' := by
  intro p l e R s m args below meth c H locs cells slots Q D dA A ad ls cx hl hP hD hS wR wl ws hc hs he
  exact lv_dup cx.1 cx.2.1 hd ((zc_cat ad v).trans hv) (k p l e R s m args below meth c H locs cells slots Q D dA A ad ls cx hl hP hD hS wR wl (zwfs_cons (zwfs_head ws) ws) hc hs he)
theorem a_pop {v : zV} (hd : decode Mt.2.1 pc = .ok (.pop, 1)) (hv : zcat v = 1) (k : zAW E X Mt d (pc + 1) lv st σ rv σ') : zAW E X Mt d pc lv (v :: st) σ rv σ' := by
  intro p l e R s m args below meth c H locs cells slots Q D dA A ad ls cx hl hP hD hS wR wl ws hc hs he
  exact lv_pop cx.1 cx.2.1 hd ((zc_cat ad v).trans hv) (k p l e R s m args below meth c H locs cells slots Q D dA A ad ls cx hl hP hD hS wR wl (zwfs_tail ws) hc hs he)
theorem a_dup2 {v u : zV} (hd : decode Mt.2.1 pc = .ok (.dup2, 1)) (hv : zcat v = 1) (hu : zcat u = 1) (k : zAW E X Mt d (pc + 1) lv (v :: u :: v :: u :: st) σ rv σ') : zAW E X Mt d pc lv (v :: u :: st) σ rv σ' := by
  intro p l e R s m args below meth c H locs cells slots Q D dA A ad ls cx hl hP hD hS wR wl ws hc hs he
  exact lv_dup2_11 cx.1 cx.2.1 hd ((zc_cat ad v).trans hv) ((zc_cat ad u).trans hu) (k p l e R s m args below meth c H locs cells slots Q D dA A ad ls cx hl hP hD hS wR wl (zwfs_cons (zwfs_head ws) (zwfs_cons (zwfs_head (zwfs_tail ws)) ws)) hc hs he)
theorem a_dup_x1 {v u : zV} (hd : decode Mt.2.1 pc = .ok (.dup_x1, 1)) (hv : zcat v = 1) (hu : zcat u = 1) (k : zAW E X Mt d (pc + 1) lv (v :: u :: v :: st) σ rv σ') : zAW E X Mt d pc lv (v :: u :: st) σ rv σ' := by
  intro p l e R s m args below meth c H locs cells slots Q D dA A ad ls cx hl hP hD hS wR wl ws hc hs he
  exact lv_dup_x1 cx.1 cx.2.1 hd ((zc_cat ad v).trans hv) ((zc_cat ad u).trans hu) (k p l e R s m args below meth c H locs cells slots Q D dA A ad ls cx hl hP hD hS wR wl (zwfs_cons (zwfs_head ws) (zwfs_cons (zwfs_head (zwfs_tail ws)) (zwfs_cons (zwfs_head ws) (zwfs_tail (zwfs_tail ws))))) hc hs he)
theorem a_iload_n {kk : Fin 4} {i : Nat} {x : Int32} (hd : decode Mt.2.1 pc = .ok (.iload_n kk, 1)) (hi : (kk : Nat) = i) (j : Nat) (hk : lv[j]? = some (i, zi x)) (k : zAW E X Mt d (pc + 1) lv (zi x :: st) σ rv σ') : zAW E X Mt d pc lv st σ rv σ' := by
  intro p l e R s m args below meth c H locs cells slots Q D dA A ad ls cx hl hP hD hS wR wl ws hc hs he
  exact lv_iload_n cx.1 cx.2.1 hd hi (zLs_at hl hk) (k p l e R s m args below meth c H locs cells slots Q D dA A ad ls cx hl hP hD hS wR wl (zwfs_cons (zwfv_at wl hk) ws) hc hs he)
theorem a_iload {i : Nat} {x : Int32} (hd : decode Mt.2.1 pc = .ok (.iload i, 2)) (j : Nat) (hk : lv[j]? = some (i, zi x)) (k : zAW E X Mt d (pc + 2) lv (zi x :: st) σ rv σ') : zAW E X Mt d pc lv st σ rv σ' := by
  intro p l e R s m args below meth c H locs cells slots Q D dA A ad ls cx hl hP hD hS wR wl ws hc hs he
  exact lv_iload cx.1 cx.2.1 hd (zLs_at hl hk) (k p l e R s m args below meth c H locs cells slots Q D dA A ad ls cx hl hP hD hS wR wl (zwfs_cons (zwfv_at wl hk) ws) hc hs he)
theorem a_lload_n {kk : Fin 4} {i : Nat} {x : Int64} (hd : decode Mt.2.1 pc = .ok (.lload_n kk, 1)) (hi : (kk : Nat) = i) (j : Nat) (hk : lv[j]? = some (i, zl x)) (k : zAW E X Mt d (pc + 1) lv (zl x :: st) σ rv σ') : zAW E X Mt d pc lv st σ rv σ' := by
  intro p l e R s m args below meth c H locs cells slots Q D dA A ad ls cx hl hP hD hS wR wl ws hc hs he
  exact lv_lload_n cx.1 cx.2.1 hd hi (zLs_at hl hk) (k p l e R s m args below meth c H locs cells slots Q D dA A ad ls cx hl hP hD hS wR wl (zwfs_cons (zwfv_at wl hk) ws) hc hs he)
theorem a_lload {i : Nat} {x : Int64} (hd : decode Mt.2.1 pc = .ok (.lload i, 2)) (j : Nat) (hk : lv[j]? = some (i, zl x)) (k : zAW E X Mt d (pc + 2) lv (zl x :: st) σ rv σ') : zAW E X Mt d pc lv st σ rv σ' := by
  intro p l e R s m args below meth c H locs cells slots Q D dA A ad ls cx hl hP hD hS wR wl ws hc hs he
  exact lv_lload cx.1 cx.2.1 hd (zLs_at hl hk) (k p l e R s m args below meth c H locs cells slots Q D dA A ad ls cx hl hP hD hS wR wl (zwfs_cons (zwfv_at wl hk) ws) hc hs he)
theorem a_aload_n {kk : Fin 4} {i : Nat} {x : Nat} (hd : decode Mt.2.1 pc = .ok (.aload_n kk, 1)) (hi : (kk : Nat) = i) (j : Nat) (hk : lv[j]? = some (i, zr x)) (k : zAW E X Mt d (pc + 1) lv (zr x :: st) σ rv σ') : zAW E X Mt d pc lv st σ rv σ' := by
  intro p l e R s m args below meth c H locs cells slots Q D dA A ad ls cx hl hP hD hS wR wl ws hc hs he
  exact lv_aload_n cx.1 cx.2.1 hd hi (zLs_at hl hk) (k p l e R s m args below meth c H locs cells slots Q D dA A ad ls cx hl hP hD hS wR wl (zwfs_cons (zwfv_at wl hk) ws) hc hs he)
theorem a_aload {i : Nat} {x : Nat} (hd : decode Mt.2.1 pc = .ok (.aload i, 2)) (j : Nat) (hk : lv[j]? = some (i, zr x)) (k : zAW E X Mt d (pc + 2) lv (zr x :: st) σ rv σ') : zAW E X Mt d pc lv st σ rv σ' := by
  intro p l e R s m args below meth c H locs cells slots Q D dA A ad ls cx hl hP hD hS wR wl ws hc hs he
  exact lv_aload cx.1 cx.2.1 hd (zLs_at hl hk) (k p l e R s m args below meth c H locs cells slots Q D dA A ad ls cx hl hP hD hS wR wl (zwfs_cons (zwfv_at wl hk) ws) hc hs he)
theorem a_istore_n {kk : Fin 4} {i : Nat} {x : Int32} {lv' : List (Nat × zV)} (hd : decode Mt.2.1 pc = .ok (.istore_n kk, 1)) (hi : (kk : Nat) = i) (hn : i < Mt.2.2.1) (h9 : (i, zi x) :: zfl i lv = lv') (k : zAW E X Mt d (pc + 1) lv' st σ rv σ') : zAW E X Mt d pc lv (zi x :: st) σ rv σ' := by
  intro p l e R s m args below meth c H locs cells slots Q D dA A ad ls cx hl hP hD hS wR wl ws hc hs he
  exact lv_istore_n cx.1 cx.2.1 hd hi hl hn (zfl_map ad i (zi x) lv) (fun ls' hl' => by rw [h9] at hl'; exact (k p l e R s m args below meth c H locs cells slots Q D dA A ad ls' cx hl' hP hD hS wR (h9 ▸ zwfl_cons wl (zwfs_head ws) zfl_sub) (zwfs_tail ws) hc hs he))
theorem a_istore {i : Nat} {x : Int32} {lv' : List (Nat × zV)} (hd : decode Mt.2.1 pc = .ok (.istore i, 2)) (hn : i < Mt.2.2.1) (h9 : (i, zi x) :: zfl i lv = lv') (k : zAW E X Mt d (pc + 2) lv' st σ rv σ') : zAW E X Mt d pc lv (zi x :: st) σ rv σ' := by
  intro p l e R s m args below meth c H locs cells slots Q D dA A ad ls cx hl hP hD hS wR wl ws hc hs he
  exact lv_istore cx.1 cx.2.1 hd hl hn (zfl_map ad i (zi x) lv) (fun ls' hl' => by rw [h9] at hl'; exact (k p l e R s m args below meth c H locs cells slots Q D dA A ad ls' cx hl' hP hD hS wR (h9 ▸ zwfl_cons wl (zwfs_head ws) zfl_sub) (zwfs_tail ws) hc hs he))
theorem a_astore_n {kk : Fin 4} {i : Nat} {x : Nat} {lv' : List (Nat × zV)} (hd : decode Mt.2.1 pc = .ok (.astore_n kk, 1)) (hi : (kk : Nat) = i) (hn : i < Mt.2.2.1) (h9 : (i, zr x) :: zfl i lv = lv') (k : zAW E X Mt d (pc + 1) lv' st σ rv σ') : zAW E X Mt d pc lv (zr x :: st) σ rv σ' := by
  intro p l e R s m args below meth c H locs cells slots Q D dA A ad ls cx hl hP hD hS wR wl ws hc hs he
  exact lv_astore_n cx.1 cx.2.1 hd hi hl hn (zfl_map ad i (zr x) lv) (fun ls' hl' => by rw [h9] at hl'; exact (k p l e R s m args below meth c H locs cells slots Q D dA A ad ls' cx hl' hP hD hS wR (h9 ▸ zwfl_cons wl (zwfs_head ws) zfl_sub) (zwfs_tail ws) hc hs he))
theorem a_astore {i : Nat} {x : Nat} {lv' : List (Nat × zV)} (hd : decode Mt.2.1 pc = .ok (.astore i, 2)) (hn : i < Mt.2.2.1) (h9 : (i, zr x) :: zfl i lv = lv') (k : zAW E X Mt d (pc + 2) lv' st σ rv σ') : zAW E X Mt d pc lv (zr x :: st) σ rv σ' := by
  intro p l e R s m args below meth c H locs cells slots Q D dA A ad ls cx hl hP hD hS wR wl ws hc hs he
  exact lv_astore cx.1 cx.2.1 hd hl hn (zfl_map ad i (zr x) lv) (fun ls' hl' => by rw [h9] at hl'; exact (k p l e R s m args below meth c H locs cells slots Q D dA A ad ls' cx hl' hP hD hS wR (h9 ▸ zwfl_cons wl (zwfs_head ws) zfl_sub) (zwfs_tail ws) hc hs he))
theorem a_lstore_n {kk : Fin 4} {i : Nat} {x : Int64} {lv' : List (Nat × zV)} (hd : decode Mt.2.1 pc = .ok (.lstore_n kk, 1)) (hi : (kk : Nat) = i) (hn : i + 1 < Mt.2.2.1) (h9 : (i, zl x) :: zfl2 i lv = lv') (k : zAW E X Mt d (pc + 1) lv' st σ rv σ') : zAW E X Mt d pc lv (zl x :: st) σ rv σ' := by
  intro p l e R s m args below meth c H locs cells slots Q D dA A ad ls cx hl hP hD hS wR wl ws hc hs he
  exact lv_lstore_n cx.1 cx.2.1 hd hi hl hn (zfl2_map ad i (zl x) lv) (fun ls' hl' => by rw [h9] at hl'; exact (k p l e R s m args below meth c H locs cells slots Q D dA A ad ls' cx hl' hP hD hS wR (h9 ▸ zwfl_cons wl (zwfs_head ws) zfl2_sub) (zwfs_tail ws) hc hs he))
theorem a_lstore {i : Nat} {x : Int64} {lv' : List (Nat × zV)} (hd : decode Mt.2.1 pc = .ok (.lstore i, 2)) (hn : i + 1 < Mt.2.2.1) (h9 : (i, zl x) :: zfl2 i lv = lv') (k : zAW E X Mt d (pc + 2) lv' st σ rv σ') : zAW E X Mt d pc lv (zl x :: st) σ rv σ' := by
  intro p l e R s m args below meth c H locs cells slots Q D dA A ad ls cx hl hP hD hS wR wl ws hc hs he
  exact lv_lstore cx.1 cx.2.1 hd hl hn (zfl2_map ad i (zl x) lv) (fun ls' hl' => by rw [h9] at hl'; exact (k p l e R s m args below meth c H locs cells slots Q D dA A ad ls' cx hl' hP hD hS wR (h9 ▸ zwfl_cons wl (zwfs_head ws) zfl2_sub) (zwfs_tail ws) hc hs he))
theorem a_iinc {i : Nat} {n : Int} {x v : Int32} {lv' : List (Nat × zV)} (hd : decode Mt.2.1 pc = .ok (.iinc i n, 3)) (j : Nat) (hk : lv[j]? = some (i, zi x)) (hv : x + Int32.ofInt n = v) (hn : i < Mt.2.2.1) (h9 : (i, zi v) :: zfl i lv = lv') (k : zAW E X Mt d (pc + 3) lv' st σ rv σ') : zAW E X Mt d pc lv st σ rv σ' := by
  intro p l e R s m args below meth c H locs cells slots Q D dA A ad ls cx hl hP hD hS wR wl ws hc hs he
  exact lv_iinc (k := j) (x := x) cx.1 cx.2.1 hd hl (by simp [List.getElem?_map, hk, zc]) hv hn (zfl_map ad i (zi v) lv) (fun ls' hl' => by rw [h9] at hl'; exact (k p l e R s m args below meth c H locs cells slots Q D dA A ad ls' cx hl' hP hD hS wR (h9 ▸ zwfl_cons wl zwfv_i zfl_sub) ws hc hs he))
theorem a_if_eq {x : Int32} {off : Int} {tgt : Nat} (hd : decode Mt.2.1 pc = .ok (.ifCond .eq off, 3)) (ht : (pc : Int) + off = (tgt : Int)) (kt : x = 0 → zAW E X Mt d tgt lv st σ rv σ') (kf : ¬ x = 0 → zAW E X Mt d (pc + 3) lv st σ rv σ') : zAW E X Mt d pc lv (zi x :: st) σ rv σ' := by
  intro p l e R s m args below meth c H locs cells slots Q D dA A ad ls cx hl hP hD hS wR wl ws hc hs he
  exact lv_if_eq cx.1 cx.2.1 hd ht (fun h => (kt h p l e R s m args below meth c H locs cells slots Q D dA A ad ls cx hl hP hD hS wR wl (zwfs_tail ws) hc hs he)) (fun h => (kf h p l e R s m args below meth c H locs cells slots Q D dA A ad ls cx hl hP hD hS wR wl (zwfs_tail ws) hc hs he))
theorem a_if_ne {x : Int32} {off : Int} {tgt : Nat} (hd : decode Mt.2.1 pc = .ok (.ifCond .ne off, 3)) (ht : (pc : Int) + off = (tgt : Int)) (kt : ¬ x = 0 → zAW E X Mt d tgt lv st σ rv σ') (kf : x = 0 → zAW E X Mt d (pc + 3) lv st σ rv σ') : zAW E X Mt d pc lv (zi x :: st) σ rv σ' := by
  intro p l e R s m args below meth c H locs cells slots Q D dA A ad ls cx hl hP hD hS wR wl ws hc hs he
  exact lv_if_ne cx.1 cx.2.1 hd ht (fun h => (kt h p l e R s m args below meth c H locs cells slots Q D dA A ad ls cx hl hP hD hS wR wl (zwfs_tail ws) hc hs he)) (fun h => (kf h p l e R s m args below meth c H locs cells slots Q D dA A ad ls cx hl hP hD hS wR wl (zwfs_tail ws) hc hs he))
theorem a_if_lt {x : Int32} {off : Int} {tgt : Nat} (hd : decode Mt.2.1 pc = .ok (.ifCond .lt off, 3)) (ht : (pc : Int) + off = (tgt : Int)) (kt : x < 0 → zAW E X Mt d tgt lv st σ rv σ') (kf : ¬ x < 0 → zAW E X Mt d (pc + 3) lv st σ rv σ') : zAW E X Mt d pc lv (zi x :: st) σ rv σ' := by
  intro p l e R s m args below meth c H locs cells slots Q D dA A ad ls cx hl hP hD hS wR wl ws hc hs he
  exact lv_if_lt cx.1 cx.2.1 hd ht (fun h => (kt h p l e R s m args below meth c H locs cells slots Q D dA A ad ls cx hl hP hD hS wR wl (zwfs_tail ws) hc hs he)) (fun h => (kf h p l e R s m args below meth c H locs cells slots Q D dA A ad ls cx hl hP hD hS wR wl (zwfs_tail ws) hc hs he))
theorem a_if_ge {x : Int32} {off : Int} {tgt : Nat} (hd : decode Mt.2.1 pc = .ok (.ifCond .ge off, 3)) (ht : (pc : Int) + off = (tgt : Int)) (kt : 0 ≤ x → zAW E X Mt d tgt lv st σ rv σ') (kf : ¬ 0 ≤ x → zAW E X Mt d (pc + 3) lv st σ rv σ') : zAW E X Mt d pc lv (zi x :: st) σ rv σ' := by
  intro p l e R s m args below meth c H locs cells slots Q D dA A ad ls cx hl hP hD hS wR wl ws hc hs he
  exact lv_if_ge cx.1 cx.2.1 hd ht (fun h => (kt h p l e R s m args below meth c H locs cells slots Q D dA A ad ls cx hl hP hD hS wR wl (zwfs_tail ws) hc hs he)) (fun h => (kf h p l e R s m args below meth c H locs cells slots Q D dA A ad ls cx hl hP hD hS wR wl (zwfs_tail ws) hc hs he))
theorem a_if_gt {x : Int32} {off : Int} {tgt : Nat} (hd : decode Mt.2.1 pc = .ok (.ifCond .gt off, 3)) (ht : (pc : Int) + off = (tgt : Int)) (kt : 0 < x → zAW E X Mt d tgt lv st σ rv σ') (kf : ¬ 0 < x → zAW E X Mt d (pc + 3) lv st σ rv σ') : zAW E X Mt d pc lv (zi x :: st) σ rv σ' := by
  intro p l e R s m args below meth c H locs cells slots Q D dA A ad ls cx hl hP hD hS wR wl ws hc hs he
  exact lv_if_gt cx.1 cx.2.1 hd ht (fun h => (kt h p l e R s m args below meth c H locs cells slots Q D dA A ad ls cx hl hP hD hS wR wl (zwfs_tail ws) hc hs he)) (fun h => (kf h p l e R s m args below meth c H locs cells slots Q D dA A ad ls cx hl hP hD hS wR wl (zwfs_tail ws) hc hs he))
theorem a_if_le {x : Int32} {off : Int} {tgt : Nat} (hd : decode Mt.2.1 pc = .ok (.ifCond .le off, 3)) (ht : (pc : Int) + off = (tgt : Int)) (kt : x ≤ 0 → zAW E X Mt d tgt lv st σ rv σ') (kf : ¬ x ≤ 0 → zAW E X Mt d (pc + 3) lv st σ rv σ') : zAW E X Mt d pc lv (zi x :: st) σ rv σ' := by
  intro p l e R s m args below meth c H locs cells slots Q D dA A ad ls cx hl hP hD hS wR wl ws hc hs he
  exact lv_if_le cx.1 cx.2.1 hd ht (fun h => (kt h p l e R s m args below meth c H locs cells slots Q D dA A ad ls cx hl hP hD hS wR wl (zwfs_tail ws) hc hs he)) (fun h => (kf h p l e R s m args below meth c H locs cells slots Q D dA A ad ls cx hl hP hD hS wR wl (zwfs_tail ws) hc hs he))
theorem a_icmp_eq {x y : Int32} {off : Int} {tgt : Nat} (hd : decode Mt.2.1 pc = .ok (.if_icmp .eq off, 3)) (ht : (pc : Int) + off = (tgt : Int)) (kt : x = y → zAW E X Mt d tgt lv st σ rv σ') (kf : ¬ x = y → zAW E X Mt d (pc + 3) lv st σ rv σ') : zAW E X Mt d pc lv (zi y :: zi x :: st) σ rv σ' := by
  intro p l e R s m args below meth c H locs cells slots Q D dA A ad ls cx hl hP hD hS wR wl ws hc hs he
  exact lv_icmp_eq cx.1 cx.2.1 hd ht (fun h => (kt h p l e R s m args below meth c H locs cells slots Q D dA A ad ls cx hl hP hD hS wR wl (zwfs_tail (zwfs_tail ws)) hc hs he)) (fun h => (kf h p l e R s m args below meth c H locs cells slots Q D dA A ad ls cx hl hP hD hS wR wl (zwfs_tail (zwfs_tail ws)) hc hs he))
theorem a_icmp_ne {x y : Int32} {off : Int} {tgt : Nat} (hd : decode Mt.2.1 pc = .ok (.if_icmp .ne off, 3)) (ht : (pc : Int) + off = (tgt : Int)) (kt : ¬ x = y → zAW E X Mt d tgt lv st σ rv σ') (kf : x = y → zAW E X Mt d (pc + 3) lv st σ rv σ') : zAW E X Mt d pc lv (zi y :: zi x :: st) σ rv σ' := by
  intro p l e R s m args below meth c H locs cells slots Q D dA A ad ls cx hl hP hD hS wR wl ws hc hs he
  exact lv_icmp_ne cx.1 cx.2.1 hd ht (fun h => (kt h p l e R s m args below meth c H locs cells slots Q D dA A ad ls cx hl hP hD hS wR wl (zwfs_tail (zwfs_tail ws)) hc hs he)) (fun h => (kf h p l e R s m args below meth c H locs cells slots Q D dA A ad ls cx hl hP hD hS wR wl (zwfs_tail (zwfs_tail ws)) hc hs he))
theorem a_icmp_lt {x y : Int32} {off : Int} {tgt : Nat} (hd : decode Mt.2.1 pc = .ok (.if_icmp .lt off, 3)) (ht : (pc : Int) + off = (tgt : Int)) (kt : x < y → zAW E X Mt d tgt lv st σ rv σ') (kf : ¬ x < y → zAW E X Mt d (pc + 3) lv st σ rv σ') : zAW E X Mt d pc lv (zi y :: zi x :: st) σ rv σ' := by
  intro p l e R s m args below meth c H locs cells slots Q D dA A ad ls cx hl hP hD hS wR wl ws hc hs he
  exact lv_icmp_lt cx.1 cx.2.1 hd ht (fun h => (kt h p l e R s m args below meth c H locs cells slots Q D dA A ad ls cx hl hP hD hS wR wl (zwfs_tail (zwfs_tail ws)) hc hs he)) (fun h => (kf h p l e R s m args below meth c H locs cells slots Q D dA A ad ls cx hl hP hD hS wR wl (zwfs_tail (zwfs_tail ws)) hc hs he))
theorem a_icmp_ge {x y : Int32} {off : Int} {tgt : Nat} (hd : decode Mt.2.1 pc = .ok (.if_icmp .ge off, 3)) (ht : (pc : Int) + off = (tgt : Int)) (kt : y ≤ x → zAW E X Mt d tgt lv st σ rv σ') (kf : ¬ y ≤ x → zAW E X Mt d (pc + 3) lv st σ rv σ') : zAW E X Mt d pc lv (zi y :: zi x :: st) σ rv σ' := by
  intro p l e R s m args below meth c H locs cells slots Q D dA A ad ls cx hl hP hD hS wR wl ws hc hs he
  exact lv_icmp_ge cx.1 cx.2.1 hd ht (fun h => (kt h p l e R s m args below meth c H locs cells slots Q D dA A ad ls cx hl hP hD hS wR wl (zwfs_tail (zwfs_tail ws)) hc hs he)) (fun h => (kf h p l e R s m args below meth c H locs cells slots Q D dA A ad ls cx hl hP hD hS wR wl (zwfs_tail (zwfs_tail ws)) hc hs he))
theorem a_icmp_gt {x y : Int32} {off : Int} {tgt : Nat} (hd : decode Mt.2.1 pc = .ok (.if_icmp .gt off, 3)) (ht : (pc : Int) + off = (tgt : Int)) (kt : y < x → zAW E X Mt d tgt lv st σ rv σ') (kf : ¬ y < x → zAW E X Mt d (pc + 3) lv st σ rv σ') : zAW E X Mt d pc lv (zi y :: zi x :: st) σ rv σ' := by
  intro p l e R s m args below meth c H locs cells slots Q D dA A ad ls cx hl hP hD hS wR wl ws hc hs he
  exact lv_icmp_gt cx.1 cx.2.1 hd ht (fun h => (kt h p l e R s m args below meth c H locs cells slots Q D dA A ad ls cx hl hP hD hS wR wl (zwfs_tail (zwfs_tail ws)) hc hs he)) (fun h => (kf h p l e R s m args below meth c H locs cells slots Q D dA A ad ls cx hl hP hD hS wR wl (zwfs_tail (zwfs_tail ws)) hc hs he))
theorem a_icmp_le {x y : Int32} {off : Int} {tgt : Nat} (hd : decode Mt.2.1 pc = .ok (.if_icmp .le off, 3)) (ht : (pc : Int) + off = (tgt : Int)) (kt : x ≤ y → zAW E X Mt d tgt lv st σ rv σ') (kf : ¬ x ≤ y → zAW E X Mt d (pc + 3) lv st σ rv σ') : zAW E X Mt d pc lv (zi y :: zi x :: st) σ rv σ' := by
  intro p l e R s m args below meth c H locs cells slots Q D dA A ad ls cx hl hP hD hS wR wl ws hc hs he
  exact lv_icmp_le cx.1 cx.2.1 hd ht (fun h => (kt h p l e R s m args below meth c H locs cells slots Q D dA A ad ls cx hl hP hD hS wR wl (zwfs_tail (zwfs_tail ws)) hc hs he)) (fun h => (kf h p l e R s m args below meth c H locs cells slots Q D dA A ad ls cx hl hP hD hS wR wl (zwfs_tail (zwfs_tail ws)) hc hs he))
theorem a_goto {off : Int} {tgt : Nat} (hd : decode Mt.2.1 pc = .ok (.goto off, 3)) (ht : (pc : Int) + off = (tgt : Int)) (k : zAW E X Mt d tgt lv st σ rv σ') : zAW E X Mt d pc lv st σ rv σ' := by
  intro p l e R s m args below meth c H locs cells slots Q D dA A ad ls cx hl hP hD hS wR wl ws hc hs he
  exact lv_goto cx.1 cx.2.1 hd ht (k p l e R s m args below meth c H locs cells slots Q D dA A ad ls cx hl hP hD hS wR wl ws hc hs he)
theorem a_tableIn {dflt lo hi : Int} {offs : Array Int} {len : Nat} {x : Int32} {off : Int} {tgt : Nat} (hd : decode Mt.2.1 pc = .ok (.tableswitch dflt lo hi offs, len)) (h1 : ¬ x.toInt < lo) (h2 : ¬ hi < x.toInt) (ho : offs[(x.toInt - lo).toNat]? = some off) (ht : (pc : Int) + off = (tgt : Int)) (k : zAW E X Mt d tgt lv st σ rv σ') : zAW E X Mt d pc lv (zi x :: st) σ rv σ' := by
  intro p l e R s m args below meth c H locs cells slots Q D dA A ad ls cx hl hP hD hS wR wl ws hc hs he
  exact lv_tableIn cx.1 cx.2.1 hd h1 h2 ho ht (k p l e R s m args below meth c H locs cells slots Q D dA A ad ls cx hl hP hD hS wR wl (zwfs_tail ws) hc hs he)
theorem a_tableOut {dflt lo hi : Int} {offs : Array Int} {len : Nat} {x : Int32} {tgt : Nat} (hd : decode Mt.2.1 pc = .ok (.tableswitch dflt lo hi offs, len)) (h : x.toInt < lo ∨ hi < x.toInt) (ht : (pc : Int) + dflt = (tgt : Int)) (k : zAW E X Mt d tgt lv st σ rv σ') : zAW E X Mt d pc lv (zi x :: st) σ rv σ' := by
  intro p l e R s m args below meth c H locs cells slots Q D dA A ad ls cx hl hP hD hS wR wl ws hc hs he
  exact lv_tableOut cx.1 cx.2.1 hd h ht (k p l e R s m args below meth c H locs cells slots Q D dA A ad ls cx hl hP hD hS wR wl (zwfs_tail ws) hc hs he)
theorem a_lookup {dflt : Int} {ps : Array (Int × Int)} {len : Nat} {x : Int32} {off : Int} {tgt : Nat} (hd : decode Mt.2.1 pc = .ok (.lookupswitch dflt ps, len)) (hp9 : (ps.toList.zip (ps.toList.drop 1)).all (fun (a, next) => a.1 < next.1) = true) (ho : Op.lookupswitch.offset ps.toList dflt x.toInt = off) (ht : (pc : Int) + off = (tgt : Int)) (k : zAW E X Mt d tgt lv st σ rv σ') : zAW E X Mt d pc lv (zi x :: st) σ rv σ' := by
  intro p l e R s m args below meth c H locs cells slots Q D dA A ad ls cx hl hP hD hS wR wl ws hc hs he
  exact lv_lookup cx.1 cx.2.1 hd hp9 ho ht (k p l e R s m args below meth c H locs cells slots Q D dA A ad ls cx hl hP hD hS wR wl (zwfs_tail ws) hc hs he)
/-- what is known of a class of the picture -/
def zCls (ci : Nat) (C : String) (T : u_T) (N : Nat) : Prop := vwCl[ci]? = some (C, T, N) ∧ (∀ w ∈ u_ws C T N, w ∈ zT) ∧ (∀ a, a < N → ∀ b, b < N → a ≠ b → (T a).2.1 ≠ (T b).2.1) ∧ ∀ k, k < N → parseFieldDescriptor (T k).2.2.1 = some (zty ci k)
/-- the pool's place idx of the class own is the field k of the class ci; fin: it is final -/
def zFl (own : String) (idx ci k : Nat) (fin : Bool) : Prop := ∃ (C : String) (T : u_T) (N : Nat), zCls ci C T N ∧ k < N ∧ Cond.fieldLink own idx (T k).1 (T k).2.1 (T k).2.2.1 ∈ zT ∧ (T k).2.2.2 = fin ∧ (fin = true → (T k).1 = own)
/-- .. to be read -/
def zFlg (own : String) (idx ci k : Nat) : Prop := ∃ (C : String) (T : u_T) (N : Nat), zCls ci C T N ∧ k < N ∧ Cond.fieldLink own idx (T k).1 (T k).2.1 (T k).2.2.1 ∈ zT
theorem zFl_g {own : String} {idx ci k : Nat} {fin : Bool} (h : zFl own idx ci k fin) : zFlg own idx ci k := by
  obtain ⟨C, T, N, h1, h2, h3, -⟩ := h
  exact ⟨C, T, N, h1, h2, h3⟩
theorem zn_of {ci : Nat} {C : String} {T : u_T} {N : Nat} (h : vwCl[ci]? = some (C, T, N)) : zn ci = N := by simp [zn, h]
theorem a_geti {idx o ci k9 : Nat} (hd : decode Mt.2.1 pc = .ok (.getfield idx, 3)) (hf : zFlg Mt.1.cls idx ci k9) (hsh : S[o]? = some (.inl ci)) (ht : zkind (zty ci k9) = 0) (k : zAW E X Mt d (pc + 3) lv (zi (I o k9) :: st) (S, I, L, F) rv σ') : zAW E X Mt d pc lv (zr o :: st) (S, I, L, F) rv σ' := by
  intro p l e R s m args below meth c H locs cells slots Q D dA A ad ls cx hl hP hD hS wR wl ws hc hs he
  obtain ⟨C, T, N, ⟨c1, c2, c3, c4⟩, h1, h2⟩ := hf
  have e9 : zn ci = N := zn_of c1
  exact va_get (D := D) (ci := ci) (v := .int (I o k9)) cx.1 cx.2.1 cx.2.2.2.2.1 c2 cx.2.2.2.1 cx.2.2.2.2.2.2.2.1.1 hP o (zws_obj hsh) c1 k9 h1 (cx.2.2.2.2.1 _ h2) (fun _ h9 => h9) (by rw [zfs_get (by rw [e9]; exact h1)]; simp [zfv, ht]) hd (k p l e R s m args below meth c H locs cells slots Q D dA A ad ls cx hl hP hD hS wR wl (zwfs_i (zwfs_tail ws)) hc hs he)
theorem a_getq {idx o ci k9 : Nat} {r : Option Nat} (hd : decode Mt.2.1 pc = .ok (.getfield idx, 3)) (hf : zFlg Mt.1.cls idx ci k9) (hsh : S[o]? = some (.inl ci)) (ht : zkind (zty ci k9) = 2) (hr : F o k9 = r) (k : zAW E X Mt d (pc + 3) lv (zq r :: st) (S, I, L, F) rv σ') : zAW E X Mt d pc lv (zr o :: st) (S, I, L, F) rv σ' := by
  intro p l e R s m args below meth c H locs cells slots Q D dA A ad ls cx hl hP hD hS wR wl ws hc hs he
  obtain ⟨C, T, N, ⟨c1, c2, c3, c4⟩, h1, h2⟩ := hf
  have e9 : zn ci = N := zn_of c1
  exact va_get (D := D) (ci := ci) (v := zc ad (zq r)) cx.1 cx.2.1 cx.2.2.2.2.1 c2 cx.2.2.2.1 cx.2.2.2.2.2.2.2.1.1 hP o (zws_obj hsh) c1 k9 h1 (cx.2.2.2.2.1 _ h2) (fun _ h9 => h9) (by rw [zfs_get (by rw [e9]; exact h1)]; simp [zfv, ht, zc, hr]) hd (k p l e R s m args below meth c H locs cells slots Q D dA A ad ls cx hl hP hD hS wR wl (zwfs_cons (fun x hx => wR o k9 x (hr.trans (by cases hx; rfl))) (zwfs_tail ws)) hc hs he)
theorem a_puti {idx o ci k9 : Nat} {x : Int32} (hd : decode Mt.2.1 pc = .ok (.putfield idx, 3)) (hf : zFl Mt.1.cls idx ci k9 false) (hsh : S[o]? = some (.inl ci)) (ht : zkind (zty ci k9) = 0) (hn : narrow (zty ci k9) (.int x) = .int x ∧ fits (zty ci k9) (.int x) = true) (k : zAW E X Mt d (pc + 3) lv st (S, zu I o k9 x, L, F) rv σ') : zAW E X Mt d pc lv (zi x :: zr o :: st) (S, I, L, F) rv σ' := by
  intro p l e R s m args below meth c H locs cells slots Q D dA A ad ls cx hl hP hD hS wR wl ws hc hs he
  obtain ⟨C, T, N, ⟨c1, c2, c3, c4⟩, h1, h2, h3, h4⟩ := hf
  have e9 : zn ci = N := zn_of c1
  refine va_put (D := D) (ci := ci) (v := .int x) (ty := zty ci k9) cx.1 cx.2.1 cx.2.2.2.2.1 c2 (zty ci) c4 c3 cx.2.2.2.1 cx.2.2.2.2.2.2.2.1.1 hP hD hS o (zws_obj hsh) c1 k9 h1 (cx.2.2.2.2.1 _ h2) (fun _ h9 => h9) h3  (c4 k9 h1) hn.1 hn.2 (by simp [zfs, e9, h1]) hd (fun H1 locs1 hP1 hD1 hS1 => ?_)
  rw [zset_i hsh (by rw [e9]; exact h1) ht] at hP1 hD1
  exact (k p l e R s m args below meth c H1 locs1 cells slots Q D dA A ad ls cx hl hP1 hD1 hS1 wR wl (zwfs_tail (zwfs_tail ws)) hc hs he)
theorem a_putq {idx o ci k9 : Nat} {r : Option Nat} (hd : decode Mt.2.1 pc = .ok (.putfield idx, 3)) (hf : zFl Mt.1.cls idx ci k9 false) (hsh : S[o]? = some (.inl ci)) (ht : zkind (zty ci k9) = 2) (hn9 : ∀ z : Option Nat, narrow (zty ci k9) (va_rf z) = va_rf z ∧ fits (zty ci k9) (va_rf z) = true) (k : zAW E X Mt d (pc + 3) lv st (S, I, L, zu F o k9 r) rv σ') : zAW E X Mt d pc lv (zq r :: zr o :: st) (S, I, L, F) rv σ' := by
  intro p l e R s m args below meth c H locs cells slots Q D dA A ad ls cx hl hP hD hS wR wl ws hc hs he
  obtain ⟨C, T, N, ⟨c1, c2, c3, c4⟩, h1, h2, h3, h4⟩ := hf
  have e9 : zn ci = N := zn_of c1
  refine va_put (D := D) (ci := ci) (v := va_rf (r.map ad)) (ty := zty ci k9) cx.1 cx.2.1 cx.2.2.2.2.1 c2 (zty ci) c4 c3 cx.2.2.2.1 cx.2.2.2.2.2.2.2.1.1 hP hD hS o (zws_obj hsh) c1 k9 h1 (cx.2.2.2.2.1 _ h2) (fun _ h9 => h9) h3  (c4 k9 h1) (hn9 _).1 (hn9 _).2 (by simp [zfs, e9, h1]) hd (fun H1 locs1 hP1 hD1 hS1 => ?_)
  rw [zset_q hsh (by rw [e9]; exact h1) ht] at hP1 hD1
  exact (k p l e R s m args below meth c H1 locs1 cells slots Q D dA A ad ls cx hl hP1 hD1 hS1 (fun a b y hy => by simp only [zu] at hy; split at hy <;> (try split at hy) <;> first | exact wR a b y hy | exact (zwfs_head ws) y (by rw [hy])) wl (zwfs_tail (zwfs_tail ws)) hc hs he)
theorem a_putiF {idx o ci k9 : Nat} {x : Int32} (hd : decode Mt.2.1 pc = .ok (.putfield idx, 3)) (hf : zFl Mt.1.cls idx ci k9 true) (hsh : S[o]? = some (.inl ci)) (ht : zkind (zty ci k9) = 0) (hn : narrow (zty ci k9) (.int x) = .int x ∧ fits (zty ci k9) (.int x) = true) (hi9 : Mt.1.name = "<init>") (k : zAW E X Mt d (pc + 3) lv st (S, zu I o k9 x, L, F) rv σ') : zAW E X Mt d pc lv (zi x :: zr o :: st) (S, I, L, F) rv σ' := by
  intro p l e R s m args below meth c H locs cells slots Q D dA A ad ls cx hl hP hD hS wR wl ws hc hs he
  obtain ⟨C, T, N, ⟨c1, c2, c3, c4⟩, h1, h2, h3, h4⟩ := hf
  have e9 : zn ci = N := zn_of c1
  refine va_putF (D := D) (ci := ci) (v := .int x) (ty := zty ci k9) cx.1 cx.2.1 cx.2.2.2.2.1 c2 (zty ci) c4 c3 cx.2.2.2.1 cx.2.2.2.2.2.2.2.1.1 hP hD hS o (zws_obj hsh) c1 k9 h1 (cx.2.2.2.2.1 _ h2) (fun _ h9 => h9) h3 (cx.2.2.2.2.2.1 hi9) (h4 rfl) (c4 k9 h1) hn.1 hn.2 (by simp [zfs, e9, h1]) hd (fun H1 locs1 hP1 hD1 hS1 => ?_)
  rw [zset_i hsh (by rw [e9]; exact h1) ht] at hP1 hD1
  exact (k p l e R s m args below meth c H1 locs1 cells slots Q D dA A ad ls cx hl hP1 hD1 hS1 wR wl (zwfs_tail (zwfs_tail ws)) hc hs he)
theorem a_putqF {idx o ci k9 : Nat} {r : Option Nat} (hd : decode Mt.2.1 pc = .ok (.putfield idx, 3)) (hf : zFl Mt.1.cls idx ci k9 true) (hsh : S[o]? = some (.inl ci)) (ht : zkind (zty ci k9) = 2) (hn9 : ∀ z : Option Nat, narrow (zty ci k9) (va_rf z) = va_rf z ∧ fits (zty ci k9) (va_rf z) = true) (hi9 : Mt.1.name = "<init>") (k : zAW E X Mt d (pc + 3) lv st (S, I, L, zu F o k9 r) rv σ') : zAW E X Mt d pc lv (zq r :: zr o :: st) (S, I, L, F) rv σ' := by
  intro p l e R s m args below meth c H locs cells slots Q D dA A ad ls cx hl hP hD hS wR wl ws hc hs he
  obtain ⟨C, T, N, ⟨c1, c2, c3, c4⟩, h1, h2, h3, h4⟩ := hf
  have e9 : zn ci = N := zn_of c1
  refine va_putF (D := D) (ci := ci) (v := va_rf (r.map ad)) (ty := zty ci k9) cx.1 cx.2.1 cx.2.2.2.2.1 c2 (zty ci) c4 c3 cx.2.2.2.1 cx.2.2.2.2.2.2.2.1.1 hP hD hS o (zws_obj hsh) c1 k9 h1 (cx.2.2.2.2.1 _ h2) (fun _ h9 => h9) h3 (cx.2.2.2.2.2.1 hi9) (h4 rfl) (c4 k9 h1) (hn9 _).1 (hn9 _).2 (by simp [zfs, e9, h1]) hd (fun H1 locs1 hP1 hD1 hS1 => ?_)
  rw [zset_q hsh (by rw [e9]; exact h1) ht] at hP1 hD1
  exact (k p l e R s m args below meth c H1 locs1 cells slots Q D dA A ad ls cx hl hP1 hD1 hS1 (fun a b y hy => by simp only [zu] at hy; split at hy <;> (try split at hy) <;> first | exact wR a b y hy | exact (zwfs_head ws) y (by rw [hy])) wl (zwfs_tail (zwfs_tail ws)) hc hs he)
theorem a_iald {o n : Nat} {i : Int32} (hd : decode Mt.2.1 pc = .ok (.iaload, 1)) (hsh : S[o]? = some (.inr (.int, n))) (hin : vp_in i n) (k : zAW E X Mt d (pc + 1) lv (zi (I o i.toNatClampNeg) :: st) (S, I, L, F) rv σ') : zAW E X Mt d pc lv (zi i :: zr o :: st) (S, I, L, F) rv σ' := by
  intro p l e R s m args below meth c H locs cells slots Q D dA A ad ls cx hl hP hD hS wR wl ws hc hs he
  exact va_iald (D := D) cx.1 cx.2.1 cx.2.2.2.2.2.2.2.1.1 hP o 0 (zws_arr hsh) rfl hin hd (k p l e R s m args below meth c H locs cells slots Q D dA A ad ls cx hl hP hD hS wR wl (zwfs_i (zwfs_tail (zwfs_tail ws))) hc hs he)
theorem a_iast {o n : Nat} {i : Int32} {x : Int32} (hd : decode Mt.2.1 pc = .ok (.iastore, 1)) (hsh : S[o]? = some (.inr (.int, n))) (hin : vp_in i n) (k : zAW E X Mt d (pc + 1) lv st (S, zu I o i.toNatClampNeg x, L, F) rv σ') : zAW E X Mt d pc lv (zi x :: zi i :: zr o :: st) (S, I, L, F) rv σ' := by
  intro p l e R s m args below meth c H locs cells slots Q D dA A ad ls cx hl hP hD hS wR wl ws hc hs he
  refine va_iast (D := D) cx.1 cx.2.1 cx.2.2.2.2.2.2.2.1.1 hP hD hS o 0 (zws_arr hsh) rfl hin hd (fun H1 locs1 hP1 hD1 hS1 => ?_)
  have e1 := zseta_i (σ := (S, I, L, F)) (dA := dA) (ad := ad) (k := i.toNatClampNeg) (x := x) hsh rfl
  rw [e1] at hP1 hD1
  exact (k p l e R s m args below meth c H1 locs1 cells slots Q D dA A ad ls cx hl hP1 hD1 hS1 wR wl (zwfs_tail (zwfs_tail (zwfs_tail ws))) hc hs he)
theorem a_alen_i {o n : Nat} (hd : decode Mt.2.1 pc = .ok (.arraylength, 1)) (hsh : S[o]? = some (.inr (.int, n))) (k : zAW E X Mt d (pc + 1) lv (zi (Int32.ofNat n) :: st) (S, I, L, F) rv σ') : zAW E X Mt d pc lv (zr o :: st) (S, I, L, F) rv σ' := by
  intro p l e R s m args below meth c H locs cells slots Q D dA A ad ls cx hl hP hD hS wR wl ws hc hs he
  exact va_alen (D := D) cx.1 cx.2.1 cx.2.2.2.2.2.2.2.1.1 hP o 0 (zws_arr hsh) rfl rfl hd (k p l e R s m args below meth c H locs cells slots Q D dA A ad ls cx hl hP hD hS wR wl (zwfs_i (zwfs_tail ws)) hc hs he)
theorem a_cald {o n : Nat} {i : Int32} (hd : decode Mt.2.1 pc = .ok (.caload, 1)) (hsh : S[o]? = some (.inr (.char, n))) (hin : vp_in i n) (k : zAW E X Mt d (pc + 1) lv (zi (I o i.toNatClampNeg) :: st) (S, I, L, F) rv σ') : zAW E X Mt d pc lv (zi i :: zr o :: st) (S, I, L, F) rv σ' := by
  intro p l e R s m args below meth c H locs cells slots Q D dA A ad ls cx hl hP hD hS wR wl ws hc hs he
  exact va_cald (D := D) cx.1 cx.2.1 cx.2.2.2.2.2.2.2.1.1 hP o 1 (zws_arr hsh) rfl hin hd (k p l e R s m args below meth c H locs cells slots Q D dA A ad ls cx hl hP hD hS wR wl (zwfs_i (zwfs_tail (zwfs_tail ws))) hc hs he)
theorem a_cast {o n : Nat} {i : Int32} {x : Int32} (hd : decode Mt.2.1 pc = .ok (.castore, 1)) (hsh : S[o]? = some (.inr (.char, n))) (hin : vp_in i n) (k : zAW E X Mt d (pc + 1) lv st (S, zu I o i.toNatClampNeg (vp_nar .char x), L, F) rv σ') : zAW E X Mt d pc lv (zi x :: zi i :: zr o :: st) (S, I, L, F) rv σ' := by
  intro p l e R s m args below meth c H locs cells slots Q D dA A ad ls cx hl hP hD hS wR wl ws hc hs he
  refine va_cast (D := D) cx.1 cx.2.1 cx.2.2.2.2.2.2.2.1.1 hP hD hS o 1 (zws_arr hsh) rfl hin hd (fun H1 locs1 hP1 hD1 hS1 => ?_)
  have e1 := zseta_i (σ := (S, I, L, F)) (dA := dA) (ad := ad) (k := i.toNatClampNeg) (x := (vp_nar .char x)) hsh rfl
  rw [e1] at hP1 hD1
  exact (k p l e R s m args below meth c H1 locs1 cells slots Q D dA A ad ls cx hl hP1 hD1 hS1 wR wl (zwfs_tail (zwfs_tail (zwfs_tail ws))) hc hs he)
theorem a_alen_c {o n : Nat} (hd : decode Mt.2.1 pc = .ok (.arraylength, 1)) (hsh : S[o]? = some (.inr (.char, n))) (k : zAW E X Mt d (pc + 1) lv (zi (Int32.ofNat n) :: st) (S, I, L, F) rv σ') : zAW E X Mt d pc lv (zr o :: st) (S, I, L, F) rv σ' := by
  intro p l e R s m args below meth c H locs cells slots Q D dA A ad ls cx hl hP hD hS wR wl ws hc hs he
  exact va_alen (D := D) cx.1 cx.2.1 cx.2.2.2.2.2.2.2.1.1 hP o 1 (zws_arr hsh) rfl rfl hd (k p l e R s m args below meth c H locs cells slots Q D dA A ad ls cx hl hP hD hS wR wl (zwfs_i (zwfs_tail ws)) hc hs he)
theorem a_zald {o n : Nat} {i : Int32} (hd : decode Mt.2.1 pc = .ok (.baload, 1)) (hsh : S[o]? = some (.inr (.boolean, n))) (hin : vp_in i n) (k : zAW E X Mt d (pc + 1) lv (zi (I o i.toNatClampNeg) :: st) (S, I, L, F) rv σ') : zAW E X Mt d pc lv (zi i :: zr o :: st) (S, I, L, F) rv σ' := by
  intro p l e R s m args below meth c H locs cells slots Q D dA A ad ls cx hl hP hD hS wR wl ws hc hs he
  exact va_zald (D := D) cx.1 cx.2.1 cx.2.2.2.2.2.2.2.1.1 hP o 2 (zws_arr hsh) rfl hin hd (k p l e R s m args below meth c H locs cells slots Q D dA A ad ls cx hl hP hD hS wR wl (zwfs_i (zwfs_tail (zwfs_tail ws))) hc hs he)
theorem a_zast {o n : Nat} {i : Int32} {x : Int32} (hd : decode Mt.2.1 pc = .ok (.bastore, 1)) (hsh : S[o]? = some (.inr (.boolean, n))) (hin : vp_in i n) (k : zAW E X Mt d (pc + 1) lv st (S, zu I o i.toNatClampNeg (vp_nar .boolean x), L, F) rv σ') : zAW E X Mt d pc lv (zi x :: zi i :: zr o :: st) (S, I, L, F) rv σ' := by
  intro p l e R s m args below meth c H locs cells slots Q D dA A ad ls cx hl hP hD hS wR wl ws hc hs he
  refine va_zast (D := D) cx.1 cx.2.1 cx.2.2.2.2.2.2.2.1.1 hP hD hS o 2 (zws_arr hsh) rfl hin hd (fun H1 locs1 hP1 hD1 hS1 => ?_)
  have e1 := zseta_i (σ := (S, I, L, F)) (dA := dA) (ad := ad) (k := i.toNatClampNeg) (x := (vp_nar .boolean x)) hsh rfl
  rw [e1] at hP1 hD1
  exact (k p l e R s m args below meth c H1 locs1 cells slots Q D dA A ad ls cx hl hP1 hD1 hS1 wR wl (zwfs_tail (zwfs_tail (zwfs_tail ws))) hc hs he)
theorem a_alen_z {o n : Nat} (hd : decode Mt.2.1 pc = .ok (.arraylength, 1)) (hsh : S[o]? = some (.inr (.boolean, n))) (k : zAW E X Mt d (pc + 1) lv (zi (Int32.ofNat n) :: st) (S, I, L, F) rv σ') : zAW E X Mt d pc lv (zr o :: st) (S, I, L, F) rv σ' := by
  intro p l e R s m args below meth c H locs cells slots Q D dA A ad ls cx hl hP hD hS wR wl ws hc hs he
  exact va_alen (D := D) cx.1 cx.2.1 cx.2.2.2.2.2.2.2.1.1 hP o 2 (zws_arr hsh) rfl rfl hd (k p l e R s m args below meth c H locs cells slots Q D dA A ad ls cx hl hP hD hS wR wl (zwfs_i (zwfs_tail ws)) hc hs he)
theorem a_lald {o n : Nat} {i : Int32} (hd : decode Mt.2.1 pc = .ok (.laload, 1)) (hsh : S[o]? = some (.inr (.long, n))) (hin : vp_in i n) (k : zAW E X Mt d (pc + 1) lv (zl (L o i.toNatClampNeg) :: st) (S, I, L, F) rv σ') : zAW E X Mt d pc lv (zi i :: zr o :: st) (S, I, L, F) rv σ' := by
  intro p l e R s m args below meth c H locs cells slots Q D dA A ad ls cx hl hP hD hS wR wl ws hc hs he
  exact va_lald (D := D) cx.1 cx.2.1 cx.2.2.2.2.2.2.2.1.1 hP o 3 (zws_arr hsh) rfl hin hd (k p l e R s m args below meth c H locs cells slots Q D dA A ad ls cx hl hP hD hS wR wl (zwfs_l (zwfs_tail (zwfs_tail ws))) hc hs he)
theorem a_last {o n : Nat} {i : Int32} {x : Int64} (hd : decode Mt.2.1 pc = .ok (.lastore, 1)) (hsh : S[o]? = some (.inr (.long, n))) (hin : vp_in i n) (k : zAW E X Mt d (pc + 1) lv st (S, I, zu L o i.toNatClampNeg x, F) rv σ') : zAW E X Mt d pc lv (zl x :: zi i :: zr o :: st) (S, I, L, F) rv σ' := by
  intro p l e R s m args below meth c H locs cells slots Q D dA A ad ls cx hl hP hD hS wR wl ws hc hs he
  refine va_last (D := D) cx.1 cx.2.1 cx.2.2.2.2.2.2.2.1.1 hP hD hS o 3 (zws_arr hsh) rfl hin hd (fun H1 locs1 hP1 hD1 hS1 => ?_)
  have e1 := zseta_l (σ := (S, I, L, F)) (dA := dA) (ad := ad) (k := i.toNatClampNeg) (x := x) hsh
  rw [e1] at hP1 hD1
  exact (k p l e R s m args below meth c H1 locs1 cells slots Q D dA A ad ls cx hl hP1 hD1 hS1 wR wl (zwfs_tail (zwfs_tail (zwfs_tail ws))) hc hs he)
theorem a_alen_l {o n : Nat} (hd : decode Mt.2.1 pc = .ok (.arraylength, 1)) (hsh : S[o]? = some (.inr (.long, n))) (k : zAW E X Mt d (pc + 1) lv (zi (Int32.ofNat n) :: st) (S, I, L, F) rv σ') : zAW E X Mt d pc lv (zr o :: st) (S, I, L, F) rv σ' := by
  intro p l e R s m args below meth c H locs cells slots Q D dA A ad ls cx hl hP hD hS wR wl ws hc hs he
  exact va_alen (D := D) cx.1 cx.2.1 cx.2.2.2.2.2.2.2.1.1 hP o 3 (zws_arr hsh) rfl rfl hd (k p l e R s m args below meth c H locs cells slots Q D dA A ad ls cx hl hP hD hS wR wl (zwfs_i (zwfs_tail ws)) hc hs he)
theorem a_xald {i9 : Nat} {q : String × String × List Int32} {i : Int32} (hd : decode Mt.2.1 pc = .ok (.iaload, 1)) (hq : zst[i9]? = some q) (hin : vp_in i q.2.2.length) (k : zAW E X Mt d (pc + 1) lv (zi (q.2.2.getD i.toNatClampNeg 0) :: st) (S, I, L, F) rv σ') : zAW E X Mt d pc lv (zi i :: zr (1001 + i9) :: st) (S, I, L, F) rv σ' := by
  intro p l e R s m args below meth c H locs cells slots Q D dA A ad ls cx hl hP hD hS wR wl ws hc hs he
  exact va_ti cx.1 cx.2.1 (cx.2.2.2.2.2.2.2.1.2.1 i9 q hq).2 hS hin rfl hd (k p l e R s m args below meth c H locs cells slots Q D dA A ad ls cx hl hP hD hS wR wl (zwfs_i (zwfs_tail (zwfs_tail ws))) hc hs he)
theorem a_xlen {i9 : Nat} {q : String × String × List Int32} (hd : decode Mt.2.1 pc = .ok (.arraylength, 1)) (hq : zst[i9]? = some q) (k : zAW E X Mt d (pc + 1) lv (zi (Int32.ofNat q.2.2.length) :: st) (S, I, L, F) rv σ') : zAW E X Mt d pc lv (zr (1001 + i9) :: st) (S, I, L, F) rv σ' := by
  intro p l e R s m args below meth c H locs cells slots Q D dA A ad ls cx hl hP hD hS wR wl ws hc hs he
  exact va_tlen cx.1 cx.2.1 (cx.2.2.2.2.2.2.2.1.2.1 i9 q hq).2 hS rfl hd (k p l e R s m args below meth c H locs cells slots Q D dA A ad ls cx hl hP hD hS wR wl (zwfs_i (zwfs_tail ws)) hc hs he)
theorem a_sald {i : Int32} (hd : decode Mt.2.1 pc = .ok (.iaload, 1)) (hin : vp_in i X.1) (k : zAW E X Mt d (pc + 1) lv (zi (X.2 i.toNatClampNeg) :: st) (S, I, L, F) rv σ') : zAW E X Mt d pc lv (zi i :: zr 1000 :: st) (S, I, L, F) rv σ' := by
  intro p l e R s m args below meth c H locs cells slots Q D dA A ad ls cx hl hP hD hS wR wl ws hc hs he
  exact va_ti cx.1 cx.2.1 cx.2.2.2.2.2.2.2.1.2.2.1 hS hin rfl hd (k p l e R s m args below meth c H locs cells slots Q D dA A ad ls cx hl hP hD hS wR wl (zwfs_i (zwfs_tail (zwfs_tail ws))) hc hs he)
theorem a_slen (hd : decode Mt.2.1 pc = .ok (.arraylength, 1)) (k : zAW E X Mt d (pc + 1) lv (zi (Int32.ofNat X.1) :: st) (S, I, L, F) rv σ') : zAW E X Mt d pc lv (zr 1000 :: st) (S, I, L, F) rv σ' := by
  intro p l e R s m args below meth c H locs cells slots Q D dA A ad ls cx hl hP hD hS wR wl ws hc hs he
  exact va_tlen cx.1 cx.2.1 cx.2.2.2.2.2.2.2.1.2.2.1 hS rfl hd (k p l e R s m args below meth c H locs cells slots Q D dA A ad ls cx hl hP hD hS wR wl (zwfs_i (zwfs_tail ws)) hc hs he)
theorem a_gets {idx i9 : Nat} {q : String × String × List Int32} (hd : decode Mt.2.1 pc = .ok (.getstatic idx, 3)) (hq : zst[i9]? = some q) (hw : Cond.fieldLink Mt.1.cls idx q.1 q.2.1 "[I" ∈ zT) (k : zAW E X Mt d (pc + 3) lv (zr (1001 + i9) :: st) (S, I, L, F) rv σ') : zAW E X Mt d pc lv st (S, I, L, F) rv σ' := by
  intro p l e R s m args below meth c H locs cells slots Q D dA A ad ls cx hl hP hD hS wR wl ws hc hs he
  exact va_gets cx.1 cx.2.1 (cx.2.2.2.2.2.2.2.1.2.1 i9 q hq).1 hS cx.2.2.2.1 (cx.2.2.2.2.1 _ hw) (fun _ h => h) hd (k p l e R s m args below meth c H locs cells slots Q D dA A ad ls cx hl hP hD hS wR wl (zwfs_cons (fun x hx => by cases hx; exact Or.inr (by omega)) ws) hc hs he)
end zRules
end
section
/-! returns, the entry of a method, calls, what is made -/
section zCalls
variable {E : (Nat → Prop) → Launch → State → Prop} {X : Nat × (Nat → Int32)} {Mt : zM} {d pc : Nat} {lv : List (Nat × zV)} {st : List zV} {σ σ' : zW} {rv : Option zV}
theorem a_iret {x : Int32} (hd : decode Mt.2.1 pc = .ok (.ireturn, 1)) (hr : Mt.2.2.2 ≠ none) (hn : znar Mt (some (zi x))) : zAW E X Mt d pc lv [zi x] σ (some (zi x)) σ := by
  intro p l e R s m args below meth c H locs cells slots Q D dA A ad ls cx hl hP hD hS wR wl ws hc hs he
  exact he pc ls H locs cells slots ad ⟨hd, hr⟩ hn (fun _ _ => rfl) hP hD hS wR (by omega) (by omega)
theorem a_vret (hd : decode Mt.2.1 pc = .ok (.return_, 1)) (hr : Mt.2.2.2 = none) : zAW E X Mt d pc lv [] σ none σ := by
  intro p l e R s m args below meth c H locs cells slots Q D dA A ad ls cx hl hP hD hS wR wl ws hc hs he
  exact he pc ls H locs cells slots ad ⟨hd, hr⟩ (fun _ _ h => by cases h) (fun _ _ => rfl) hP hD hS wR (by omega) (by omega)
def zargs : Nat → List zV → List (Nat × zV)
  | _, [] => []
  | i, v :: vs => (i, v) :: zargs (if zcat v = 2 then i + 2 else i + 1) vs
theorem zargs_map (ad : Nat → Nat) (as : List zV) : ∀ i, lv_args i (as.map (zc ad)) = (zargs i as).map (fun q => (q.1, zc ad q.2)) := by
  induction as with
  | nil => intro i; rfl
  | cons v vs ih => intro i; simp [lv_args, zargs, ih, zc_cat]
theorem zargs_wf {n : Nat} {as : List zV} : ∀ {i : Nat}, zwfs n as → zwfl n (zargs i as) := by
  induction as with
  | nil => intro i _ q hq; cases hq
  | cons v vs ih =>
    intro i h q hq
    rcases List.mem_cons.mp hq with e | hq
    · rw [e]; exact zwfs_head h
    · exact ih (zwfs_tail h) q hq
theorem zsl_len (ad : Nat → Nat) (as : List zV) : (lg_sl (as.map (zc ad))).length = (as.map zcat).sum := by
  induction as with
  | nil => rfl
  | cons v vs ih =>
    simp only [lg_sl, List.map_cons, List.flatMap_cons, List.length_append, List.sum_cons] at ih ⊢
    rw [ih, zc_cat]
    rcases v with x | x | r <;> simp [zcat]
/-- the entry: a method's contract out of the walk of its body -/
theorem zAM_of {as : List zV} (hy : plainName Mt.1.cls = true) (hlen : (as.map zcat).sum ≤ Mt.2.2.1) (hret : Mt.2.2.2 = none ↔ rv = none) (h1 : σ.1.length ≤ σ'.1.length) (h2 : zsl σ.1 ≤ zsl σ'.1)
    (k : zAW (fun _ _ _ => True) X Mt d 0 (zargs 0 as) [] σ rv σ') : zAM X Mt d as σ rv σ' := by
  refine ⟨h1, h2, ⟨_, rfl, hret⟩, fun wR was l D dA ad sz => ?_⟩
  refine Met.ofW (cc := Mt.2.1) (maxL := Mt.2.2.1) (ret := Mt.2.2.2) hy rfl ?_
  intro p e s m args below meth c s₁ B hml hv
  obtain ⟨rfl, hsz, hP, hK, hD0⟩ := hv
  have hts := atoms_spec (ws := Cond.code Mt.1 Mt.2.1 Mt.2.2.1 Mt.2.2.2 :: zT) B.pre
  have hown : s.vm.findClass Mt.1.cls = some m.cls := findClass_of_methodNamed B.named
  have hD := hD0.self (sz := sz)
  have hl := lv_entry (as.map (zc ad)) (n := Mt.2.2.1) (by rw [zsl_len]; exact hlen)
  rw [lg_entry_eq]
  generalize (lg_sl (as.map (zc ad)) ++ List.replicate (Mt.2.2.1 - (lg_sl (as.map (zc ad))).length) Slot.unset).toArray = ls at hl ⊢
  rw [zargs_map] at hl
  refine k p l e _ s m _ below meth c s.heap [] 0 0 _ D dA (va_A (zws dA ad σ) sz) ad ls ⟨B.exec, B.bytes, hml, hown, fun w hw => hts w (List.mem_cons_of_mem _ hw), fun h => ?_, fun q hq => Or.inr (by rw [← hsz]; exact hq), hK, Nat.le_refl _, Nat.le_refl _, trivial⟩ hl hP hD va_S.rf wR (zargs_wf was) zwfs_nil ?_ ?_ ?_
  · rw [← h]; exact (name_of_methodNamed B.named B.method).1
  · show 0 + σ'.1.length ≤ (σ'.1.length - σ.1.length) + σ.1.length
    omega
  · show 0 + zsl σ'.1 ≤ (zsl σ'.1 - zsl σ.1) + zsl σ.1
    omega
  · intro pc ls H locs cells slots ad' hx hn had hP' hD' hS' wR' hc hs
    refine W.widen (k := σ'.1.length - σ.1.length) (n := zsl σ'.1 - zsl σ.1) hc hs ?_
    have hlocks := B.notSynchronized
    cases rv with
    | none => exact W.vret B.exec B.bytes (by rw [B.returns]; exact hx.2) (fun t ht hW => ⟨⟨ad', rfl, ⟨had, wR', hn⟩, by rw [ht]; exact hP', hD'⟩, hS'.F ht⟩) hS'.2.2 hx.1
    | some v =>
      rcases v with x | x
      · obtain ⟨hx1, hx2⟩ := hx
        cases hty : Mt.2.2.2 with
        | none => exact absurd hty hx2
        | some ty => exact W.zret (v := x) (ty := ty) B.exec B.bytes (by rw [B.returns]; exact hty) (hn x ty rfl hty) (fun t ht hW => ⟨⟨x, ad', rfl, ⟨rfl, had, wR', hn⟩, by rw [ht]; exact hP', hD'⟩, hS'.F ht⟩) hS'.2.2 hx1
      · exact absurd hx (by intro h; exact h)
theorem zc_cong {n : Nat} {ad ad' : Nat → Nat} (h : ∀ x, zok n x → ad' x = ad x) {v : zV} (hv : zwfv n v) : zc ad' v = zc ad v := by
  rcases v with x | x | r
  · rfl
  · rfl
  · cases r with
    | none => rfl
    | some a => simp [zc, h a (hv a rfl)]
theorem zcs_cong {n : Nat} {ad ad' : Nat → Nat} (h : ∀ x, zok n x → ad' x = ad x) {st : List zV} (hv : zwfs n st) : st.map (zc ad') = st.map (zc ad) := List.map_congr_left fun v hm => zc_cong h (hv v hm)
theorem zLs_cong {n nL : Nat} {ad ad' : Nat → Nat} {ls : Array Slot} (h : ∀ x, zok n x → ad' x = ad x) {lv : List (Nat × zV)} (hv : zwfl n lv) (hl : zLs ls nL ad lv) : zLs ls nL ad' lv := by
  have e : lv.map (fun q => (q.1, zc ad' q.2)) = lv.map (fun q => (q.1, zc ad q.2)) := List.map_congr_left fun q hm => by rw [zc_cong h (hv q hm)]
  unfold zLs
  rw [e]
  exact hl
theorem zok_mono {n k x : Nat} (h : n ≤ k) (hx : zok n x) : zok k x := hx.elim (fun a => Or.inl (Nat.lt_of_lt_of_le a h)) Or.inr
theorem zwfs_mono {n k : Nat} (h : n ≤ k) {st : List zV} (hv : zwfs n st) : zwfs k st := fun v hm x hx => zok_mono h (hv v hm x hx)
theorem zwfl_mono {n k : Nat} (h : n ≤ k) {lv : List (Nat × zV)} (hv : zwfl n lv) : zwfl k lv := fun q hm x hx => zok_mono h (hv q hm x hx)
theorem zCx_cast {n : Nat} {p : Program} {l : Launch} {R : Room} {s : State} {m : MethodId} {args : Array Value} {meth : Method} {c : Code} {D : va_G} {dA : FieldType → ClassId} {A : Nat → Prop} {ad ad' : Nat → Nat} (h : ∀ x, zok n x → ad' x = ad x) (cx : zCx E X Mt d p l R s m args meth c D dA A ad) : zCx E X Mt d p l R s m args meth c D dA A ad' := by
  obtain ⟨a1, a2, a3, a4, a5, a6, a7, a8, a9⟩ := cx
  exact ⟨a1, a2, a3, a4, a5, a6, a7, a8.cast (fun x hx => h x (Or.inr hx)), a9⟩
theorem zEnd_cast {n n2 : Nat} {p : Program} {l : Launch} {e : Env} {R : Room} {s : State} {m : MethodId} {args : Array Value} {below : List Frame} {meth : Method} {c : Code} {Q : State → Prop} {D : va_G} {dA : FieldType → ClassId} {A : Nat → Prop} {ad ad' : Nat → Nat} (hn : n ≤ n2) (h : ∀ x, zok n x → ad' x = ad x) (he : zEnd X Mt p l e R s m args below meth c Q D dA A ad n rv σ') : zEnd X Mt p l e R s m args below meth c Q D dA A ad' n2 rv σ' := by
  intro pc ls H locs cells slots ad2 g1 g2 g3
  exact he pc ls H locs cells slots ad2 g1 g2 (fun x hx => (g3 x (zok_mono hn hx)).trans (h x hx))
/-- behind a call: what it left goes on -/
theorem z_call {p : Program} {l : Launch} {e : Env} {R : Room} {s : State} {m : MethodId} {args : Array Value} {below : List Frame} {meth : Method} {c : Code} {H : Heap} {locs : List Loc} {cells slots : Nat} {Q : State → Prop} {D : va_G} {dA : FieldType → ClassId} {A : Nat → Prop} {ad : Nat → Nat} {ls : Array Slot} {rv2 : Option zV} {σ2 : zW} {st0 : List Value} {a : Array Value} {Mt2 : zM}
    (hr : va_Run p l e R s m args below meth c H locs cells slots (σ2.1.length - σ.1.length) (zsl σ2.1 - zsl σ.1) (F0 m pc ls st0) (st.map (zc ad)) (zQc Mt2 D dA ad (va_A (zws dA ad σ) H.size) σ.1.length rv2 σ2 a) (va_A (zws dA ad σ) H.size))
    (h1 : σ.1.length ≤ σ2.1.length) (h2 : zsl σ.1 ≤ zsl σ2.1)
    (k : znar Mt2 rv2 → zAW E X Mt d (pc + 3) lv (rv2.toList ++ st) σ2 rv σ')
    (cx : zCx E X Mt d p l R s m args meth c D dA A ad) (hl : zLs ls Mt.2.2.1 ad lv) (hD : va_D A (zws dA ad σ)) (hS : va_S A s.heap H locs) (wl : zwfl σ.1.length lv) (ws : zwfs σ.1.length st)
    (hc : cells + σ'.1.length ≤ R.cells + σ.1.length) (hs : slots + zsl σ'.1 ≤ R.slots + zsl σ.1) (he : zEnd X Mt p l e R s m args below meth c Q D dA A ad σ.1.length rv σ') :
    W p l e R s m args below meth c H locs cells slots Q (F0 m pc ls st0) := by
  have hA : ∀ q, va_A (zws dA ad σ) H.size q → A q := by
    rintro q (⟨j, x, hj⟩ | hq)
    · exact hD.2 j _ hj
    · exact cx.2.2.2.2.2.2.1 q (Nat.le_trans hS.1 hq)
  cases rv2 with
  | none =>
    refine va_callv (a := a) hr hS (fun q _ h => hA q h) hA (fun u t H1 locs1 ht hvm hw hB hz1 hk1 hS1 => ?_)
    obtain ⟨had, wR2, hnr⟩ := hw
    obtain ⟨hP1, hD1⟩ := hB
    rw [ht] at hP1
    have e1 := zcs_cong had ws
    rw [← e1]
    exact k hnr p l e R s m args below meth c H1 locs1 _ _ Q D dA A u ls (zCx_cast had cx) (zLs_cong had wl hl) hP1 (hD1.weaken (fun _ _ _ h => hA _ h)) hS1 wR2 (zwfl_mono h1 wl) (zwfs_mono h1 ws) (by omega) (by omega) (zEnd_cast h1 had he)
  | some v =>
    refine va_calli (a := a) hr hS (fun q _ h => hA q h) hA (fun r u t H1 locs1 ht hvm hw hB hz1 hk1 hS1 => ?_)
    obtain ⟨hv, had, wR2, hnr⟩ := hw
    obtain ⟨hP1, hD1⟩ := hB
    rw [ht] at hP1
    subst hv
    have e1 := zcs_cong had ws
    rw [← e1]
    exact k hnr p l e R s m args below meth c H1 locs1 _ _ Q D dA A u ls (zCx_cast had cx) (zLs_cong had wl hl) hP1 (hD1.weaken (fun _ _ _ h => hA _ h)) hS1 wR2 (zwfl_mono h1 wl) (zwfs_i (zwfs_mono h1 ws)) (by omega) (by omega) (zEnd_cast h1 had he)
theorem zblind {as : List Value} {D : va_G} {dA : FieldType → ClassId} {ad : Nat → Nat} {sz : Nat} : FrameBlind (va_Pc as (zPre X D dA ad sz σ)) := by
  intro a U g mk q
  obtain ⟨q0, q1, qP, qK, qD⟩ := q
  exact ⟨q0, q1, qP, zK.same (u := U) (U := U.calling g mk a) rfl qK, qD⟩
theorem zpre {p : Program} {l : Launch} {R : Room} {s : State} {m : MethodId} {args : Array Value} {meth : Method} {c : Code} {H : Heap} {locs : List Loc} {D : va_G} {dA : FieldType → ClassId} {A : Nat → Prop} {ad : Nat → Nat} (cx : zCx E X Mt d p l R s m args meth c D dA A ad) (hP : va_P D vwCl (zws dA ad σ) H) (hD : va_D A (zws dA ad σ)) (hS : va_S A s.heap H locs) :
    ∀ U : State, U.heap = H → s.WarmedH U.vm → zPre X D dA ad H.size σ U := by
  intro U hU hW
  have hA : ∀ q, va_A (zws dA ad σ) H.size q → A q := by
    rintro q (⟨j, x, hj⟩ | hq)
    · exact hD.2 j _ hj
    · exact cx.2.2.2.2.2.2.1 q (Nat.le_trans hS.1 hq)
  refine ⟨by rw [hU], by rw [hU]; exact hP, ?_, hD.weaken (fun _ _ _ _ => trivial)⟩
  rw [hU]
  exact ((cx.2.2.2.2.2.2.2.1.kept hS.2.1).narrow hA).warm hW
theorem zgood {ws : List Cond} (h : ∀ w ∈ ws, w ∈ zT) : GoodIn zT ws := fun w hw => ⟨h w hw, good_of_word (zT_good w (h w hw)).2⟩
/-- the words of a call: of a method y with its code; plain names; how many arguments -/
def zCw (Mt : zM) (n : Nat) : Prop := Cond.initialized Mt.1.cls ∈ zT ∧ Cond.code Mt.1 Mt.2.1 Mt.2.2.1 Mt.2.2.2 ∈ zT ∧ (Mt.1.cls ≠ "java/lang/invoke/MethodHandle" ∧ Mt.1.cls ≠ "java/lang/invoke/VarHandle" ∧ (parseMethodDescriptor Mt.1.desc).map (fun d => d.parameters.length) = some n) ∧ Mt.2.2.1 ≤ 41
def zCv (Mt : zM) (n : Nat) : Prop := zCw Mt n ∧ Cond.instanceMethod Mt.1 ∈ zT ∧ Cond.selects Mt.1.cls Mt.1 Mt.1 ∈ zT
theorem zroom {l : Launch} {p : Program} {R : Room} {s : State} {m : MethodId} {args : Array Value} {meth : Method} {c : Code} {D : va_G} {dA : FieldType → ClassId} {A : Nat → Prop} {ad : Nat → Nat} {d2 n : Nat} {Mt2 : zM} (cx : zCx E X Mt d p l R s m args meth c D dA A ad) (hd2 : d2 + 1 ≤ d) (h : Mt2.2.2.1 ≤ 41) : d2 + 1 ≤ R.frames ∧ 8 + (Mt2.2.2.1 + 11) + 60 * d2 ≤ R.locals := by
  have a1 := cx.2.2.2.2.2.2.2.2.1
  have a2 := cx.2.2.2.2.2.2.2.2.2.1
  exact ⟨by omega, by omega⟩
theorem zmap_rev (ad : Nat → Nat) (As : List zV) (r : List zV) : (As.reverse ++ r).map (zc ad) = (As.map (zc ad)).reverse ++ r.map (zc ad) := by simp
theorem zrest {m : MethodId} {ls : Array Slot} {ad : Nat → Nat} {rest : List Value} (h : (st.map zcat).sum ≤ 8) : 2 * (F0 m pc ls rest).monitorRoom + ((st.map (zc ad)).map fun v => v.category).sum ≤ 8 := by
  have e : (st.map (zc ad)).map (fun v => v.category) = st.map zcat := by simp [Function.comp_def, zc_cat]
  exact lv_room (by rw [e]; exact h)
theorem a_callV {Mt2 : zM} {idx o ci d2 : Nat} {As : List zV} {rv2 : Option zV} {σ2 : zW} {stk : List zV} {T : u_T} {N : Nat} (hd : decode Mt.2.1 pc = .ok (.invokevirtual idx, 3)) (hM : zAM X Mt2 d2 (zr o :: As) σ rv2 σ2) (hcv : zCv Mt2 As.length) (hlk : Cond.methodLink Mt.1.cls idx Mt2.1 ∈ zT) (hd2 : d2 + 1 ≤ d) (hsh : σ.1[o]? = some (.inl ci)) (hcl : vwCl[ci]? = some (Mt2.1.cls, T, N))
    (hstk : stk = As.reverse ++ zr o :: st) (h8 : (st.map zcat).sum ≤ 8) (hg : σ2.1.length ≤ σ'.1.length ∧ zsl σ2.1 ≤ zsl σ'.1) (k : znar Mt2 rv2 → zAW E X Mt d (pc + 3) lv (rv2.toList ++ st) σ2 rv σ') : zAW E X Mt d pc lv stk σ rv σ' := by
  intro p l e R s m args below meth c H locs cells slots Q D dA A ad ls cx hl hP hD hS wR wl ws hc hs he
  subst hstk
  obtain ⟨g1, g2, -, hMet⟩ := hM
  obtain ⟨⟨w1, w2, w3, w4⟩, w5, w6⟩ := hcv
  have wst : zwfs σ.1.length st := fun v hv => ws v (List.mem_append_right _ (List.mem_cons_of_mem _ hv))
  have was : zwfs σ.1.length (zr o :: As) := fun v hv => by
    rcases List.mem_cons.mp hv with e | hv
    · rw [e]; exact ws _ (List.mem_append_right _ List.mem_cons_self)
    · exact ws v (List.mem_append_left _ (List.mem_reverse.mpr hv))
  refine z_call (pc := pc) (Mt2 := Mt2) (a := (Value.ref (ad o) :: As.map (zc ad)).toArray) ?_ g1 g2 k cx hl hD hS wl wst hc hs he
  refine va_runV (As := As.map (zc ad)) (b := ad o) ⟨cx.1, cx.2.1, cx.2.2.1, cx.2.2.2.1, cx.2.2.2.2.1⟩ (hMet wR was l D dA ad H.size) (cwV As.length cx.2.2.2.2.1 (zgood (fun w hw => ?_)) rfl rfl rfl ⟨rfl, w3⟩ (zroom (n := 0) cx hd2 w4)) ⟨zblind, va_recv cx.2.2.2.2.2.2.2.1.1 hP hcl (zws_obj hsh), fun U hU hW => ⟨rfl, zpre cx hP hD hS U hU hW⟩⟩ rfl (by simp) hl.1 (by exact zmap_rev ad As (zr o :: st)) (zrest h8) hd ⟨by omega, by omega⟩
  simp only [wsV, List.cons_append, List.nil_append, List.mem_cons] at hw
  rcases hw with rfl | rfl | rfl | rfl | rfl | hw
  · exact hlk
  · exact w5
  · exact w6
  · exact w1
  · exact w2
  · exact hw
theorem a_callS {Mt2 : zM} {idx d2 : Nat} {As : List zV} {rv2 : Option zV} {σ2 : zW} {stk : List zV} (hd : decode Mt.2.1 pc = .ok (.invokestatic idx, 3)) (hM : zAM X Mt2 d2 As σ rv2 σ2) (hcv : zCw Mt2 As.length ∧ Cond.static Mt2.1 ∈ zT) (hlk : Cond.methodLink Mt.1.cls idx Mt2.1 ∈ zT) (hd2 : d2 + 1 ≤ d)
    (hstk : stk = As.reverse ++ st) (h8 : (st.map zcat).sum ≤ 8) (hg : σ2.1.length ≤ σ'.1.length ∧ zsl σ2.1 ≤ zsl σ'.1) (k : znar Mt2 rv2 → zAW E X Mt d (pc + 3) lv (rv2.toList ++ st) σ2 rv σ') : zAW E X Mt d pc lv stk σ rv σ' := by
  intro p l e R s m args below meth c H locs cells slots Q D dA A ad ls cx hl hP hD hS wR wl ws hc hs he
  subst hstk
  obtain ⟨g1, g2, -, hMet⟩ := hM
  obtain ⟨⟨w1, w2, w3, w4⟩, w5⟩ := hcv
  have wst : zwfs σ.1.length st := fun v hv => ws v (List.mem_append_right _ hv)
  have was : zwfs σ.1.length As := fun v hv => ws v (List.mem_append_left _ (List.mem_reverse.mpr hv))
  refine z_call (pc := pc) (Mt2 := Mt2) (a := (As.map (zc ad)).toArray) ?_ g1 g2 k cx hl hD hS wl wst hc hs he
  refine va_runS (As := As.map (zc ad)) ⟨cx.1, cx.2.1, cx.2.2.1, cx.2.2.2.1, cx.2.2.2.2.1⟩ (hMet wR was l D dA ad H.size) (va_cwS As.length cx.2.2.2.2.1 (zgood (fun w hw => ?_)) rfl rfl rfl w3 (zroom (n := 0) cx hd2 w4)) ⟨zblind, fun U hU hW => ⟨rfl, zpre cx hP hD hS U hU hW⟩⟩ rfl (by simp) hl.1 (by exact zmap_rev ad As st) (zrest h8) hd ⟨by omega, by omega⟩
  simp only [va_wsS, List.cons_append, List.nil_append, List.mem_cons] at hw
  rcases hw with rfl | rfl | rfl | rfl | hw
  · exact hlk
  · exact w5
  · exact w1
  · exact w2
  · exact hw
theorem a_callI {Mt2 : zM} {idx o d2 : Nat} {As : List zV} {σ2 : zW} {stk : List zV} (hd : decode Mt.2.1 pc = .ok (.invokespecial idx, 3)) (hM : zAM X Mt2 d2 (zr o :: As) σ none σ2) (hcv : zCw Mt2 As.length ∧ Cond.instanceMethod Mt2.1 ∈ zT ∧ Mt2.1.name = "<init>") (hlk : Cond.methodLink Mt.1.cls idx Mt2.1 ∈ zT) (hd2 : d2 + 1 ≤ d)
    (hstk : stk = As.reverse ++ zr o :: st) (h8 : (st.map zcat).sum ≤ 8) (hg : σ2.1.length ≤ σ'.1.length ∧ zsl σ2.1 ≤ zsl σ'.1) (k : zAW E X Mt d (pc + 3) lv st σ2 rv σ') : zAW E X Mt d pc lv stk σ rv σ' := by
  intro p l e R s m args below meth c H locs cells slots Q D dA A ad ls cx hl hP hD hS wR wl ws hc hs he
  subst hstk
  obtain ⟨g1, g2, ⟨Ty, hTy, hTn⟩, hMet⟩ := hM
  have hno : Mt2.2.2.2 = none := by rw [hTy]; exact hTn.mpr rfl
  obtain ⟨⟨w1, w2, w3, w4⟩, w5, w6⟩ := hcv
  rw [hno] at w2
  have wst : zwfs σ.1.length st := fun v hv => ws v (List.mem_append_right _ (List.mem_cons_of_mem _ hv))
  have was : zwfs σ.1.length (zr o :: As) := fun v hv => by
    rcases List.mem_cons.mp hv with e | hv
    · rw [e]; exact ws _ (List.mem_append_right _ List.mem_cons_self)
    · exact ws v (List.mem_append_left _ (List.mem_reverse.mpr hv))
  have hMet := hMet wR was l D dA ad H.size
  rw [hno] at hMet
  refine z_call (pc := pc) (Mt2 := Mt2) (rv2 := none) (a := (Value.ref (ad o) :: As.map (zc ad)).toArray) ?_ g1 g2 (fun _ => k) cx hl hD hS wl wst hc hs he
  refine va_runI (As := As.map (zc ad)) (b := ad o) ⟨cx.1, cx.2.1, cx.2.2.1, cx.2.2.2.1, cx.2.2.2.2.1⟩ hMet (cwI As.length cx.2.2.2.2.1 (zgood (fun w hw => ?_)) rfl rfl rfl (cx.2.2.2.2.1 _ w1) (cx.2.2.2.2.1 _ hlk) (cx.2.2.2.2.1 _ w5) w6 w3 (zroom (n := 0) cx hd2 w4)) ⟨zblind, fun U hU hW => ⟨rfl, zpre cx hP hD hS U hU hW⟩⟩ rfl (by simp) hl.1 (by exact zmap_rev ad As (zr o :: st)) (zrest h8) hd ⟨by omega, by omega⟩
  rcases List.mem_cons.mp hw with rfl | hw
  · exact w2
  · exact hw
theorem a_callIN {Mt2 : zM} {idx o d2 : Nat} {As : List zV} {σ2 : zW} {stk : List zV} (hd : decode Mt.2.1 pc = .ok (.invokespecial idx, 3)) (hM : zAM X Mt2 d2 (zr o :: As) σ none σ2) (hcv : zCw Mt2 As.length ∧ Cond.instanceMethod Mt2.1 ∈ zT ∧ Mt2.1.name = "<init>") (hown : Mt.1.cls = RX8) (hlk : (idx, Mt2.1) ∈ znst) (hd2 : d2 + 1 ≤ d)
    (hstk : stk = As.reverse ++ zr o :: st) (h8 : (st.map zcat).sum ≤ 8) (hg : σ2.1.length ≤ σ'.1.length ∧ zsl σ2.1 ≤ zsl σ'.1) (k : zAW E X Mt d (pc + 3) lv st σ2 rv σ') : zAW E X Mt d pc lv stk σ rv σ' := by
  intro p l e R s m args below meth c H locs cells slots Q D dA A ad ls cx hl hP hD hS wR wl ws hc hs he
  subst hstk
  obtain ⟨g1, g2, ⟨Ty, hTy, hTn⟩, hMet⟩ := hM
  have hno : Mt2.2.2.2 = none := by rw [hTy]; exact hTn.mpr rfl
  obtain ⟨⟨w1, w2, w3, w4⟩, w5, w6⟩ := hcv
  rw [hno] at w2
  have wst : zwfs σ.1.length st := fun v hv => ws v (List.mem_append_right _ (List.mem_cons_of_mem _ hv))
  have was : zwfs σ.1.length (zr o :: As) := fun v hv => by
    rcases List.mem_cons.mp hv with e | hv
    · rw [e]; exact ws _ (List.mem_append_right _ List.mem_cons_self)
    · exact ws v (List.mem_append_left _ (List.mem_reverse.mpr hv))
  have hMet := hMet wR was l D dA ad H.size
  rw [hno] at hMet
  have hnw := cx.2.2.2.2.2.2.2.1.2.2.2.2.2 _ hlk
  refine z_call (pc := pc) (Mt2 := Mt2) (rv2 := none) (a := (Value.ref (ad o) :: As.map (zc ad)).toArray) ?_ g1 g2 (fun _ => k) cx hl hD hS wl wst hc hs he
  refine va_runIN (As := As.map (zc ad)) (b := ad o) (own := RX8) (host := RX8) ⟨cx.1, cx.2.1, cx.2.2.1, by rw [← hown]; exact cx.2.2.2.1, cx.2.2.2.2.1⟩ hMet ⟨va_cnB As.length cx.2.2.2.2.1 (zgood (fun w hw => ?_)) rfl rfl rfl hnw (cx.2.2.2.2.1 _ w1) w3 (zroom (n := 0) cx hd2 w4), w6, cx.2.2.2.2.1 _ w5⟩ ⟨zblind, fun U hU hW => ⟨rfl, zpre cx hP hD hS U hU hW⟩⟩ rfl (by simp) hl.1 (by exact zmap_rev ad As (zr o :: st)) (zrest h8) hd ⟨by omega, by omega⟩
  rcases List.mem_cons.mp hw with rfl | hw
  · exact w2
  · exact hw
end zCalls
end
section
/-! what is made: objects, arrays; the constructor of Object; the words that the reader spells -/
section zMakes
variable {E : (Nat → Prop) → Launch → State → Prop} {X : Nat × (Nat → Int32)} {Mt : zM} {d pc : Nat} {lv : List (Nat × zV)} {st : List zV} {σ σ' : zW} {rv : Option zV}
theorem zup_ok {n q : Nat} {ad : Nat → Nat} (hn : n < 1000) : ∀ x, zok n x → va_up ad n q x = ad x := by
  intro x hx
  have : x ≠ n := by
    rcases hx with h | h
    · omega
    · omega
  simp [va_up, this]
theorem zfv_cong {n : Nat} {ad ad' : Nat → Nat} {S S2 : List zS} {I : Nat → Nat → Int32} {L : Nat → Nat → Int64} {R : Nat → Nat → Option Nat} (h : ∀ x, zok n x → ad' x = ad x) (wR : zwfR n R) (a ci k : Nat) : zfv ad' (S2, I, L, R) a ci k = zfv ad (S, I, L, R) a ci k := by
  simp only [zfv]
  split
  · rfl
  · rfl
  · cases hr : R a k with
    | none => rfl
    | some x => simp [h x (wR a k x hr)]
theorem zws_push {dA : FieldType → ClassId} {ad : Nat → Nat} {S : List zS} {I : Nat → Nat → Int32} {L : Nat → Nat → Int64} {R : Nat → Nat → Option Nat} {sh : zS} {q : Nat} (hn : S.length < 1000) (wR : zwfR S.length R) :
    zws dA (va_up ad S.length q) (S ++ [sh], I, L, R) = zws dA ad (S, I, L, R) ++ [(q, zce dA (va_up ad S.length q) (S ++ [sh], I, L, R) S.length)] := by
  have hz := zup_ok (n := S.length) (q := q) (ad := ad) hn
  apply List.ext_getElem?
  intro i
  by_cases hi : i < S.length
  · rw [List.getElem?_append_left (by rw [zws_len]; exact hi), zws_at (σ := (S, I, L, R)) hi, zws_at (σ := (S ++ [sh], I, L, R)) (by simp; omega), hz i (Or.inl hi)]
    congr 2
    simp only [zce]
    rw [List.getElem?_append_left hi]
    cases S[i]? with
    | none => rfl
    | some z =>
      cases z with
      | inl ci =>
        have e : zfv (va_up ad S.length q) (S ++ [sh], I, L, R) i ci = zfv ad (S, I, L, R) i ci := by funext k; exact zfv_cong hz wR i ci k
        simp only [zfs, e]
      | inr z => rfl
  · by_cases hj : i = S.length
    · subst hj
      rw [List.getElem?_append_right (by rw [zws_len]; exact Nat.le_refl _), zws_at (σ := (S ++ [sh], I, L, R)) (by simp), zws_len]
      simp [va_up]
    · rw [List.getElem?_eq_none (by rw [zws_len]; simp; omega), List.getElem?_eq_none (by rw [List.length_append, zws_len]; simp; omega)]
/-- an array of a plain type is made; its row of the planes is empty yet -/
theorem a_newa {S : List zS} {I : Nat → Nat → Int32} {L : Nat → Nat → Int64} {R : Nat → Nat → Option Nat} {atype : ArrayType} {ty : FieldType} {t0 : Nat} {x : Int32} {n : Nat} (hd : decode Mt.2.1 pc = .ok (.newarray atype, 2)) (hty : newarray.typeOf atype = ty) (ht0 : ∀ dA : FieldType → ClassId, (zcs dA)[t0]? = some (dA ty, ty)) (hw : Cond.arrayClass ty ∈ zT)
    (hra : ∀ (U : State) (cA : ClassId), va_RA U cA ty ↔ U.vm.findClass ("[" ++ ty.toString) = some cA) (hcell : ∀ cA : ClassId, vp_cell cA (zar ty n (S, I, L, R) S.length) = arrV cA n (fun _ => defaultValue ty))
    (hx : ¬ x < 0) (hn : x.toNatClampNeg = n) (hb : n * componentBytes ty ≤ 536870912) (h9 : S.length < 1000) (hg : S.length + 1 ≤ σ'.1.length ∧ zsl S + n ≤ zsl σ'.1)
    (k : zAW E X Mt d (pc + 2) lv (zr S.length :: st) (S ++ [.inr (ty, n)], I, L, R) rv σ') : zAW E X Mt d pc lv (zi x :: st) (S, I, L, R) rv σ' := by
  intro p l e Rm s m args below meth c H locs cells slots Q D dA A ad ls cx hl hP hD hS wR wl ws hc hs he
  have hK := cx.2.2.2.2.2.2.2.1.1
  subst hty
  simp only at hc hs
  refine va_newa (a0 := zar (newarray.typeOf atype) n (S, I, L, R) S.length) cx.1 cx.2.1 (cx.2.2.2.2.1 _ hw) rfl hK hP hD hS cx.2.2.2.2.2.2.1 hcell hx hn hb (by omega) (by omega) hd (fun q cA H1 hK1 hP1 hD1 hS1 => ?_)
  have hz := zup_ok (n := S.length) (q := q) (ad := ad) h9
  have e1 : cA = dA (newarray.typeOf atype) := by
    have a1 := (hra _ _).mp (hK.2 t0 _ (ht0 dA)).2
    have a2 := (hra _ _).mp (hK1.2 (zcs dA).length (cA, newarray.typeOf atype) (by simp)).2
    exact Option.some.inj (a2.symm.trans a1)
  subst e1
  have e2 : zws dA ad (S, I, L, R) ++ [(q, Sum.inl (dA (newarray.typeOf atype), zar (newarray.typeOf atype) n (S, I, L, R) S.length))] = zws dA (va_up ad S.length q) (S ++ [.inr (newarray.typeOf atype, n)], I, L, R) := by
    rw [zws_push h9 wR]
    simp [zce, zar]
  rw [e2] at hP1 hD1
  have e3 := zcs_cong hz (zwfs_tail ws)
  have e4 : (zr S.length :: st).map (zc (va_up ad S.length q)) = .ref q :: st.map (zc ad) := by
    simp only [List.map_cons, e3]
    simp [zc, va_up, va_rf]
  rw [show (Value.ref q :: List.map (zc ad) st) = (zr S.length :: st).map (zc (va_up ad S.length q)) from e4.symm]
  exact k p l e Rm s m args below meth c H1 locs _ _ Q D dA A _ ls (zCx_cast hz cx) (zLs_cong hz wl hl) hP1 hD1 hS1 (fun a b y hy => zok_mono (by simp) (wR a b y hy)) (zwfl_mono (by simp) wl)
    (zwfs_cons (fun y hy => by cases hy; exact Or.inl (by simp)) (zwfs_mono (by simp) (zwfs_tail ws))) (by simp only [List.length_append, List.length_singleton]; omega) (by simp only [zsl_app, zsl]; omega) (zEnd_cast (by simp) hz he)
/-- an object is made; its rows of the planes are empty yet -/
theorem a_new {S : List zS} {I : Nat → Nat → Int32} {L : Nat → Nat → Int64} {R : Nat → Nat → Option Nat} {idx ci : Nat} {C : String} {T : u_T} {N : Nat} (hd : decode Mt.2.1 pc = .ok (.new idx, 3)) (hcl : zCls ci C T N) (w1 : Cond.classLink Mt.1.cls idx C ∈ zT) (w2 : Cond.instantiable C N ∈ zT) (w3 : Cond.initialized C ∈ zT)
    (hdv : ∀ j, j < N → defaultValue (zty ci j) = (match zkind (zty ci j) with | 0 => .int 0 | 1 => .long 0 | _ => .null)) (hI : ∀ j, I S.length j = 0) (hL : ∀ j, L S.length j = 0) (hR : ∀ j, R S.length j = none)
    (h9 : S.length < 1000) (hg : S.length + 1 ≤ σ'.1.length ∧ zsl S + N ≤ zsl σ'.1)
    (k : zAW E X Mt d (pc + 3) lv (zr S.length :: st) (S ++ [.inl ci], I, L, R) rv σ') : zAW E X Mt d pc lv st (S, I, L, R) rv σ' := by
  intro p l e Rm s m args below meth c H locs cells slots Q D dA A ad ls cx hl hP hD hS wR wl ws hc hs he
  obtain ⟨c1, c2, c3, c4⟩ := hcl
  have e9 : zn ci = N := zn_of c1
  have hK := cx.2.2.2.2.2.2.2.1.1
  simp only at hc hs
  refine va_new (ci := ci) (fs := zfs ad (S, I, L, R) S.length ci) cx.1 cx.2.1 cx.2.2.2.2.1 c2 (zty ci) c4 cx.2.2.2.1 (cx.2.2.2.2.1 _ w1) (cx.2.2.2.2.1 _ w2) (cx.2.2.2.2.1 _ w3) hK hP hD hS cx.2.2.2.2.2.2.1 c1 (fun j hj => ?_) (by omega) (by omega) hd (fun q H1 hP1 hD1 hS1 => ?_)
  · have h1 := zfs_get (ad := ad) (σ := (S, I, L, R)) (o := S.length) (ci := ci) (k := j) (by rw [e9]; exact hj)
    rw [hdv j hj]
    simp only [vp_V, List.getD_eq_getElem?_getD, h1, Option.getD_some, zfv, hI, hL, hR]
    generalize zkind (zty ci j) = z
    match z with
    | 0 => rfl
    | 1 => rfl
    | _ + 2 => rfl
  have hz := zup_ok (n := S.length) (q := q) (ad := ad) h9
  have e2 : zws dA ad (S, I, L, R) ++ [(q, Sum.inr (ci, zfs ad (S, I, L, R) S.length ci))] = zws dA (va_up ad S.length q) (S ++ [.inl ci], I, L, R) := by
    have e : zfv (va_up ad S.length q) (S ++ [.inl ci], I, L, R) S.length ci = zfv ad (S, I, L, R) S.length ci := by funext j; exact zfv_cong hz wR _ ci j
    rw [zws_push h9 wR]
    simp [zce, zfs, e]
  rw [e2] at hP1 hD1
  have e3 := zcs_cong hz ws
  have e4 : (zr S.length :: st).map (zc (va_up ad S.length q)) = .ref q :: st.map (zc ad) := by
    simp only [List.map_cons, e3]
    simp [zc, va_up, va_rf]
  rw [show (Value.ref q :: List.map (zc ad) st) = (zr S.length :: st).map (zc (va_up ad S.length q)) from e4.symm]
  exact k p l e Rm s m args below meth c H1 locs _ _ Q D dA A _ ls (zCx_cast hz cx) (zLs_cong hz wl hl) hP1 hD1 hS1 (fun a b y hy => zok_mono (by simp) (wR a b y hy)) (zwfl_mono (by simp) wl)
    (zwfs_cons (fun y hy => by cases hy; exact Or.inl (by simp)) (zwfs_mono (by simp) ws)) (by simp only [List.length_append, List.length_singleton]; omega) (by simp only [zsl_app, zsl]; omega) (zEnd_cast (by simp) hz he)
theorem a_objInit {idx o : Nat} (hd : decode Mt.2.1 pc = .ok (.invokespecial idx, 3)) (w1 : Cond.methodLink Mt.1.cls idx Lib.objectInit ∈ zT) (w2 : Cond.instanceMethod Lib.objectInit ∈ zT) (w3 : Cond.code Lib.objectInit ⟨#[0xb1]⟩ 1 none ∈ zT) (hd1 : 1 ≤ d) (h8 : (st.map zcat).sum ≤ 8)
    (k : zAW E X Mt d (pc + 3) lv st σ rv σ') : zAW E X Mt d pc lv (zr o :: st) σ rv σ' := by
  intro p l e R s m args below meth c H locs cells slots Q D dA A ad ls cx hl hP hD hS wR wl ws hc hs he
  have a1 := cx.2.2.2.2.2.2.2.2.1
  have a2 := cx.2.2.2.2.2.2.2.2.2.1
  have a3 := zrest (m := m) (pc := pc) (ls := ls) (ad := ad) (rest := (zr o :: st).map (zc ad)) h8
  refine W.objInit cx.1 cx.2.1 cx.2.2.2.1 (cx.2.2.2.2.1 _ w1) (cx.2.2.2.2.1 _ w2) (cx.2.2.2.2.1 _ w3) rfl (hl.1.trans cx.2.2.1.symm) rfl hd (by omega) (by omega) ?_
  exact k p l e R s m args below meth c H locs cells slots Q D dA A ad ls cx hl hP hD hS wR wl (zwfs_tail ws) hc hs he
/-! the words -/
theorem a_ldcs {idx i : Nat} {q : Nat × String × List Int32} (hd : decode Mt.2.1 pc = .ok (.ldc idx, 2)) (hq : zsr[i]? = some q) (hi : q.1 = idx) (hown : Mt.1.cls = RX3) (k : zAW E X Mt d (pc + 2) lv (zr (1020 + i) :: st) σ rv σ') : zAW E X Mt d pc lv st σ rv σ' := by
  intro p l e R s m args below meth c H locs cells slots Q D dA A ad ls cx hl hP hD hS wR wl ws hc hs he
  subst hi
  have h1 := (cx.2.2.2.2.2.2.2.1.2.2.2.2.1 i q hq).2.2.2.2
  exact va_ldcS cx.1 cx.2.1 (by rw [← hown]; exact cx.2.2.2.1) h1 hd (k p l e R s m args below meth c H locs cells slots Q D dA A ad ls cx hl hP hD hS wR wl (zwfs_cons (fun x hx => by cases hx; exact Or.inr (by omega)) ws) hc hs he)
theorem a_sval {idx i : Nat} {q : Nat × String × List Int32} (hd : decode Mt.2.1 pc = .ok (.getfield idx, 3)) (hq : zsr[i]? = some q) (hw : Cond.fieldLink Mt.1.cls idx "java/lang/String" "value" "[B" ∈ zT) (k : zAW E X Mt d (pc + 3) lv (zr (1050 + i) :: st) σ rv σ') : zAW E X Mt d pc lv (zr (1020 + i) :: st) σ rv σ' := by
  intro p l e R s m args below meth c H locs cells slots Q D dA A ad ls cx hl hP hD hS wR wl ws hc hs he
  have h1 := (cx.2.2.2.2.2.2.2.1.2.2.2.2.1 i q hq).2.2.1
  exact vk_getf cx.1 cx.2.1 h1 hS cx.2.2.2.1 (cx.2.2.2.2.1 _ hw) (fun _ h => h) hd (k p l e R s m args below meth c H locs cells slots Q D dA A ad ls cx hl hP hD hS wR wl (zwfs_cons (fun x hx => by cases hx; exact Or.inr (by omega)) (zwfs_tail ws)) hc hs he)
theorem a_scod {idx i : Nat} {q : Nat × String × List Int32} (hd : decode Mt.2.1 pc = .ok (.getfield idx, 3)) (hq : zsr[i]? = some q) (hw : Cond.fieldLink Mt.1.cls idx "java/lang/String" "coder" "B" ∈ zT) (k : zAW E X Mt d (pc + 3) lv (zi 0 :: st) σ rv σ') : zAW E X Mt d pc lv (zr (1020 + i) :: st) σ rv σ' := by
  intro p l e R s m args below meth c H locs cells slots Q D dA A ad ls cx hl hP hD hS wR wl ws hc hs he
  have h1 := (cx.2.2.2.2.2.2.2.1.2.2.2.2.1 i q hq).2.1
  exact vk_getf cx.1 cx.2.1 h1 hS cx.2.2.2.1 (cx.2.2.2.2.1 _ hw) (fun _ h => h) hd (k p l e R s m args below meth c H locs cells slots Q D dA A ad ls cx hl hP hD hS wR wl (zwfs_i (zwfs_tail ws)) hc hs he)
theorem a_scmp {idx : Nat} (hd : decode Mt.2.1 pc = .ok (.getstatic idx, 3)) (hw : Cond.fieldLink Mt.1.cls idx "java/lang/String" "COMPACT_STRINGS" "Z" ∈ zT) (k : zAW E X Mt d (pc + 3) lv (zi 1 :: st) σ rv σ') : zAW E X Mt d pc lv st σ rv σ' := by
  intro p l e R s m args below meth c H locs cells slots Q D dA A ad ls cx hl hP hD hS wR wl ws hc hs he
  exact va_gets cx.1 cx.2.1 cx.2.2.2.2.2.2.2.1.2.2.2.1 hS cx.2.2.2.1 (cx.2.2.2.2.1 _ hw) (fun _ h => h) hd (k p l e R s m args below meth c H locs cells slots Q D dA A ad ls cx hl hP hD hS wR wl (zwfs_i ws) hc hs he)
theorem a_sblen {i : Nat} {q : Nat × String × List Int32} (hd : decode Mt.2.1 pc = .ok (.arraylength, 1)) (hq : zsr[i]? = some q) (k : zAW E X Mt d (pc + 1) lv (zi (Int32.ofNat q.2.2.length) :: st) σ rv σ') : zAW E X Mt d pc lv (zr (1050 + i) :: st) σ rv σ' := by
  intro p l e R s m args below meth c H locs cells slots Q D dA A ad ls cx hl hP hD hS wR wl ws hc hs he
  have h1 := (cx.2.2.2.2.2.2.2.1.2.2.2.2.1 i q hq).2.2.2.1
  exact va_tlen cx.1 cx.2.1 h1 hS rfl hd (k p l e R s m args below meth c H locs cells slots Q D dA A ad ls cx hl hP hD hS wR wl (zwfs_i (zwfs_tail ws)) hc hs he)
theorem a_sbald {i : Nat} {q : Nat × String × List Int32} {x : Int32} (hd : decode Mt.2.1 pc = .ok (.baload, 1)) (hq : zsr[i]? = some q) (hin : vp_in x q.2.2.length) (k : zAW E X Mt d (pc + 1) lv (zi (q.2.2.getD x.toNatClampNeg 0) :: st) σ rv σ') : zAW E X Mt d pc lv (zi x :: zr (1050 + i) :: st) σ rv σ' := by
  intro p l e R s m args below meth c H locs cells slots Q D dA A ad ls cx hl hP hD hS wR wl ws hc hs he
  have h1 := (cx.2.2.2.2.2.2.2.1.2.2.2.2.1 i q hq).2.2.2.1
  exact va_tb cx.1 cx.2.1 h1 hS hin rfl hd (k p l e R s m args below meth c H locs cells slots Q D dA A ad ls cx hl hP hD hS wR wl (zwfs_i (zwfs_tail (zwfs_tail ws))) hc hs he)
/-- a call upon a word -/
theorem a_callVs {Mt2 : zM} {idx i d2 : Nat} {q : Nat × String × List Int32} {As : List zV} {rv2 : Option zV} {σ2 : zW} {stk : List zV} (hd : decode Mt.2.1 pc = .ok (.invokevirtual idx, 3)) (hM : zAM X Mt2 d2 (zr (1020 + i) :: As) σ rv2 σ2) (hcv : zCv Mt2 As.length) (hlk : Cond.methodLink Mt.1.cls idx Mt2.1 ∈ zT) (hd2 : d2 + 1 ≤ d) (hq : zsr[i]? = some q) (hcl : Mt2.1.cls = "java/lang/String")
    (hstk : stk = As.reverse ++ zr (1020 + i) :: st) (h8 : (st.map zcat).sum ≤ 8) (hg : σ2.1.length ≤ σ'.1.length ∧ zsl σ2.1 ≤ zsl σ'.1) (k : znar Mt2 rv2 → zAW E X Mt d (pc + 3) lv (rv2.toList ++ st) σ2 rv σ') : zAW E X Mt d pc lv stk σ rv σ' := by
  intro p l e R s m args below meth c H locs cells slots Q D dA A ad ls cx hl hP hD hS wR wl ws hc hs he
  subst hstk
  obtain ⟨g1, g2, -, hMet⟩ := hM
  obtain ⟨⟨w1, w2, w3, w4⟩, w5, w6⟩ := hcv
  have wst : zwfs σ.1.length st := fun v hv => ws v (List.mem_append_right _ (List.mem_cons_of_mem _ hv))
  have was : zwfs σ.1.length (zr (1020 + i) :: As) := fun v hv => by
    rcases List.mem_cons.mp hv with e | hv
    · rw [e]; exact ws _ (List.mem_append_right _ List.mem_cons_self)
    · exact ws v (List.mem_append_left _ (List.mem_reverse.mpr hv))
  have hO := ((cx.2.2.2.2.2.2.2.1.2.2.2.2.1 i q hq).1).kept hS.2.1
  obtain ⟨cell, o1, o2, o3, -⟩ := hO
  refine z_call (pc := pc) (Mt2 := Mt2) (a := (Value.ref (ad (1020 + i)) :: As.map (zc ad)).toArray) ?_ g1 g2 k cx hl hD hS wl wst hc hs he
  refine va_runV (As := As.map (zc ad)) (b := ad (1020 + i)) (C := Mt2.1.cls) ⟨cx.1, cx.2.1, cx.2.2.1, cx.2.2.2.1, cx.2.2.2.2.1⟩ (hMet wR was l D dA ad H.size) (cwV As.length cx.2.2.2.2.1 (zgood (fun w hw => ?_)) rfl rfl rfl ⟨rfl, w3⟩ (zroom (n := 0) cx hd2 w4)) ⟨zblind, ⟨cell, o1, o2, by rw [hcl]; exact o3⟩, fun U hU hW => ⟨rfl, zpre cx hP hD hS U hU hW⟩⟩ rfl (by simp) hl.1 (by exact zmap_rev ad As (zr (1020 + i) :: st)) (zrest h8) hd ⟨by omega, by omega⟩
  simp only [wsV, List.cons_append, List.nil_append, List.mem_cons] at hw
  rcases hw with rfl | rfl | rfl | rfl | rfl | hw
  · exact hlk
  · exact w5
  · exact w6
  · exact w1
  · exact w2
  · exact hw
end zMakes
end
section
/-! classes, fields, methods -/
theorem inzX1 : ∀ w ∈ u_ws RX1 TX1 8, w ∈ zT := by
  intro w hw
  obtain ⟨k, hk, rfl⟩ := List.mem_map.mp hw
  have hk := List.mem_range.mp hk
  match k, hk with
  | 0, _ => exact zw313
  | 1, _ => exact zw315
  | 2, _ => exact zw317
  | 3, _ => exact zw319
  | 4, _ => exact zw321
  | 5, _ => exact zw323
  | 6, _ => exact zw325
  | 7, _ => exact zw327
  | j + 8, hj => exact absurd hj (by omega)
theorem clX1 : zCls 0 RX1 TX1 8 := ⟨rfl, inzX1, nmX1, tyX1_ok⟩
theorem dvX1 : ∀ j, j < 8 → defaultValue (zty 0 j) = (match zkind (zty 0 j) with | 0 => .int 0 | 1 => .long 0 | _ => .null) := by decide +kernel
theorem inzX2 : ∀ w ∈ u_ws RX2 TX2 6, w ∈ zT := by
  intro w hw
  obtain ⟨k, hk, rfl⟩ := List.mem_map.mp hw
  have hk := List.mem_range.mp hk
  match k, hk with
  | 0, _ => exact zw234
  | 1, _ => exact zw236
  | 2, _ => exact zw238
  | 3, _ => exact zw240
  | 4, _ => exact zw242
  | 5, _ => exact zw244
  | j + 6, hj => exact absurd hj (by omega)
theorem clX2 : zCls 1 RX2 TX2 6 := ⟨rfl, inzX2, nmX2, tyX2_ok⟩
theorem dvX2 : ∀ j, j < 6 → defaultValue (zty 1 j) = (match zkind (zty 1 j) with | 0 => .int 0 | 1 => .long 0 | _ => .null) := by decide +kernel
theorem inzX3 : ∀ w ∈ u_ws RX3 TX3 4, w ∈ zT := by
  intro w hw
  obtain ⟨k, hk, rfl⟩ := List.mem_map.mp hw
  have hk := List.mem_range.mp hk
  match k, hk with
  | 0, _ => exact zw211
  | 1, _ => exact zw213
  | 2, _ => exact zw215
  | 3, _ => exact zw217
  | j + 4, hj => exact absurd hj (by omega)
theorem clX3 : zCls 2 RX3 TX3 4 := ⟨rfl, inzX3, nmX3, tyX3_ok⟩
theorem dvX3 : ∀ j, j < 4 → defaultValue (zty 2 j) = (match zkind (zty 2 j) with | 0 => .int 0 | 1 => .long 0 | _ => .null) := by decide +kernel
theorem inzX4 : ∀ w ∈ u_ws RX4 TX4 8, w ∈ zT := by
  intro w hw
  obtain ⟨k, hk, rfl⟩ := List.mem_map.mp hw
  have hk := List.mem_range.mp hk
  match k, hk with
  | 0, _ => exact zw123
  | 1, _ => exact zw125
  | 2, _ => exact zw127
  | 3, _ => exact zw129
  | 4, _ => exact zw131
  | 5, _ => exact zw133
  | 6, _ => exact zw135
  | 7, _ => exact zw137
  | j + 8, hj => exact absurd hj (by omega)
theorem clX4 : zCls 3 RX4 TX4 8 := ⟨rfl, inzX4, nmX4, tyX4_ok⟩
theorem dvX4 : ∀ j, j < 8 → defaultValue (zty 3 j) = (match zkind (zty 3 j) with | 0 => .int 0 | 1 => .long 0 | _ => .null) := by decide +kernel
theorem inzX5 : ∀ w ∈ u_ws RX5 TX5 9, w ∈ zT := by
  intro w hw
  obtain ⟨k, hk, rfl⟩ := List.mem_map.mp hw
  have hk := List.mem_range.mp hk
  match k, hk with
  | 0, _ => exact zw274
  | 1, _ => exact zw276
  | 2, _ => exact zw278
  | 3, _ => exact zw280
  | 4, _ => exact zw282
  | 5, _ => exact zw284
  | 6, _ => exact zw286
  | 7, _ => exact zw288
  | 8, _ => exact zw290
  | j + 9, hj => exact absurd hj (by omega)
theorem clX5 : zCls 4 RX5 TX5 9 := ⟨rfl, inzX5, nmX5, tyX5_ok⟩
theorem dvX5 : ∀ j, j < 9 → defaultValue (zty 4 j) = (match zkind (zty 4 j) with | 0 => .int 0 | 1 => .long 0 | _ => .null) := by decide +kernel
theorem inzX6 : ∀ w ∈ u_ws RX6 TX6 6, w ∈ zT := by
  intro w hw
  obtain ⟨k, hk, rfl⟩ := List.mem_map.mp hw
  have hk := List.mem_range.mp hk
  match k, hk with
  | 0, _ => exact zw187
  | 1, _ => exact zw189
  | 2, _ => exact zw191
  | 3, _ => exact zw193
  | 4, _ => exact zw195
  | 5, _ => exact zw197
  | j + 6, hj => exact absurd hj (by omega)
theorem clX6 : zCls 5 RX6 TX6 6 := ⟨rfl, inzX6, nmX6, tyX6_ok⟩
theorem dvX6 : ∀ j, j < 6 → defaultValue (zty 5 j) = (match zkind (zty 5 j) with | 0 => .int 0 | 1 => .long 0 | _ => .null) := by decide +kernel
theorem inzX7 : ∀ w ∈ u_ws RX7 TX7 7, w ∈ zT := by
  intro w hw
  obtain ⟨k, hk, rfl⟩ := List.mem_map.mp hw
  have hk := List.mem_range.mp hk
  match k, hk with
  | 0, _ => exact zw156
  | 1, _ => exact zw158
  | 2, _ => exact zw160
  | 3, _ => exact zw162
  | 4, _ => exact zw164
  | 5, _ => exact zw166
  | 6, _ => exact zw168
  | j + 7, hj => exact absurd hj (by omega)
theorem clX7 : zCls 6 RX7 TX7 7 := ⟨rfl, inzX7, nmX7, tyX7_ok⟩
theorem dvX7 : ∀ j, j < 7 → defaultValue (zty 6 j) = (match zkind (zty 6 j) with | 0 => .int 0 | 1 => .long 0 | _ => .null) := by decide +kernel
theorem inzX8 : ∀ w ∈ u_ws RX8 TX8 18, w ∈ zT := by
  intro w hw
  obtain ⟨k, hk, rfl⟩ := List.mem_map.mp hw
  have hk := List.mem_range.mp hk
  match k, hk with
  | 0, _ => exact zw348
  | 1, _ => exact zw350
  | 2, _ => exact zw352
  | 3, _ => exact zw354
  | 4, _ => exact zw356
  | 5, _ => exact zw358
  | 6, _ => exact zw360
  | 7, _ => exact zw362
  | 8, _ => exact zw364
  | 9, _ => exact zw366
  | 10, _ => exact zw368
  | 11, _ => exact zw370
  | 12, _ => exact zw372
  | 13, _ => exact zw374
  | 14, _ => exact zw376
  | 15, _ => exact zw378
  | 16, _ => exact zw380
  | 17, _ => exact zw382
  | j + 18, hj => exact absurd hj (by omega)
theorem clX8 : zCls 7 RX8 TX8 18 := ⟨rfl, inzX8, nmX8, tyX8_ok⟩
theorem dvX8 : ∀ j, j < 18 → defaultValue (zty 7 j) = (match zkind (zty 7 j) with | 0 => .int 0 | 1 => .long 0 | _ => .null) := by decide +kernel
theorem inzX9 : ∀ w ∈ u_ws RX9 TX9 53, w ∈ zT := by
  intro w hw
  obtain ⟨k, hk, rfl⟩ := List.mem_map.mp hw
  have hk := List.mem_range.mp hk
  match k, hk with
  | 0, _ => exact zw1006
  | 1, _ => exact zw1008
  | 2, _ => exact zw1010
  | 3, _ => exact zw1012
  | 4, _ => exact zw1014
  | 5, _ => exact zw1016
  | 6, _ => exact zw1018
  | 7, _ => exact zw1020
  | 8, _ => exact zw1022
  | 9, _ => exact zw1024
  | 10, _ => exact zw1026
  | 11, _ => exact zw1028
  | 12, _ => exact zw1030
  | 13, _ => exact zw1032
  | 14, _ => exact zw1034
  | 15, _ => exact zw1036
  | 16, _ => exact zw1038
  | 17, _ => exact zw1040
  | 18, _ => exact zw1042
  | 19, _ => exact zw1044
  | 20, _ => exact zw1046
  | 21, _ => exact zw1048
  | 22, _ => exact zw1050
  | 23, _ => exact zw1052
  | 24, _ => exact zw1054
  | 25, _ => exact zw1056
  | 26, _ => exact zw1058
  | 27, _ => exact zw1060
  | 28, _ => exact zw1062
  | 29, _ => exact zw1064
  | 30, _ => exact zw1066
  | 31, _ => exact zw1068
  | 32, _ => exact zw1070
  | 33, _ => exact zw1072
  | 34, _ => exact zw1074
  | 35, _ => exact zw1076
  | 36, _ => exact zw1078
  | 37, _ => exact zw1080
  | 38, _ => exact zw1082
  | 39, _ => exact zw1084
  | 40, _ => exact zw1086
  | 41, _ => exact zw1088
  | 42, _ => exact zw1090
  | 43, _ => exact zw1092
  | 44, _ => exact zw1094
  | 45, _ => exact zw1096
  | 46, _ => exact zw1098
  | 47, _ => exact zw1100
  | 48, _ => exact zw1102
  | 49, _ => exact zw1104
  | 50, _ => exact zw1106
  | 51, _ => exact zw1108
  | 52, _ => exact zw1110
  | j + 53, hj => exact absurd hj (by omega)
theorem clX9 : zCls 8 RX9 TX9 53 := ⟨rfl, inzX9, nmX9, tyX9_ok⟩
theorem dvX9 : ∀ j, j < 53 → defaultValue (zty 8 j) = (match zkind (zty 8 j) with | 0 => .int 0 | 1 => .long 0 | _ => .null) := by decide +kernel
theorem F_X4_11 : zFl RX4 11 3 0 true := ⟨_, _, _, clX4, by decide, zw108, rfl, fun _ => rfl⟩
theorem G_X4_11 : zFlg RX4 11 3 0 := zFl_g F_X4_11
theorem G_X8_97 : zFlg RX8 97 3 0 := ⟨_, _, _, clX4, by decide, zw109⟩
theorem F_X4_15 : zFl RX4 15 3 1 true := ⟨_, _, _, clX4, by decide, zw110, rfl, fun _ => rfl⟩
theorem G_X4_15 : zFlg RX4 15 3 1 := zFl_g F_X4_15
theorem G_X8_103 : zFlg RX8 103 3 1 := ⟨_, _, _, clX4, by decide, zw111⟩
theorem F_X4_18 : zFl RX4 18 3 2 true := ⟨_, _, _, clX4, by decide, zw112, rfl, fun _ => rfl⟩
theorem G_X4_18 : zFlg RX4 18 3 2 := zFl_g F_X4_18
theorem G_X8_106 : zFlg RX8 106 3 2 := ⟨_, _, _, clX4, by decide, zw113⟩
theorem F_X4_21 : zFl RX4 21 3 3 true := ⟨_, _, _, clX4, by decide, zw114, rfl, fun _ => rfl⟩
theorem G_X4_21 : zFlg RX4 21 3 3 := zFl_g F_X4_21
theorem G_X8_112 : zFlg RX8 112 3 3 := ⟨_, _, _, clX4, by decide, zw115⟩
theorem F_X4_24 : zFl RX4 24 3 4 true := ⟨_, _, _, clX4, by decide, zw116, rfl, fun _ => rfl⟩
theorem G_X4_24 : zFlg RX4 24 3 4 := zFl_g F_X4_24
theorem G_X8_100 : zFlg RX8 100 3 4 := ⟨_, _, _, clX4, by decide, zw117⟩
theorem F_X4_27 : zFl RX4 27 3 5 true := ⟨_, _, _, clX4, by decide, zw118, rfl, fun _ => rfl⟩
theorem G_X4_27 : zFlg RX4 27 3 5 := zFl_g F_X4_27
theorem G_X8_109 : zFlg RX8 109 3 5 := ⟨_, _, _, clX4, by decide, zw119⟩
theorem F_X4_30 : zFl RX4 30 3 6 true := ⟨_, _, _, clX4, by decide, zw120, rfl, fun _ => rfl⟩
theorem G_X4_30 : zFlg RX4 30 3 6 := zFl_g F_X4_30
theorem F_X8_159 : zFl RX8 159 3 7 false := ⟨_, _, _, clX4, by decide, zw121, rfl, fun h => by cases h⟩
theorem G_X8_159 : zFlg RX8 159 3 7 := zFl_g F_X8_159
theorem F_X4_79 : zFl RX4 79 3 7 false := ⟨_, _, _, clX4, by decide, zw122, rfl, fun h => by cases h⟩
theorem G_X4_79 : zFlg RX4 79 3 7 := zFl_g F_X4_79
theorem F_X7_9 : zFl RX7 9 6 0 true := ⟨_, _, _, clX7, by decide, zw147, rfl, fun _ => rfl⟩
theorem G_X7_9 : zFlg RX7 9 6 0 := zFl_g F_X7_9
theorem F_X7_13 : zFl RX7 13 6 1 true := ⟨_, _, _, clX7, by decide, zw148, rfl, fun _ => rfl⟩
theorem G_X7_13 : zFlg RX7 13 6 1 := zFl_g F_X7_13
theorem F_X7_16 : zFl RX7 16 6 2 true := ⟨_, _, _, clX7, by decide, zw149, rfl, fun _ => rfl⟩
theorem G_X7_16 : zFlg RX7 16 6 2 := zFl_g F_X7_16
theorem F_X7_26 : zFl RX7 26 6 3 false := ⟨_, _, _, clX7, by decide, zw150, rfl, fun h => by cases h⟩
theorem G_X7_26 : zFlg RX7 26 6 3 := zFl_g F_X7_26
theorem F_X7_30 : zFl RX7 30 6 4 false := ⟨_, _, _, clX7, by decide, zw151, rfl, fun h => by cases h⟩
theorem G_X7_30 : zFlg RX7 30 6 4 := zFl_g F_X7_30
theorem F_X7_38 : zFl RX7 38 6 5 false := ⟨_, _, _, clX7, by decide, zw152, rfl, fun h => by cases h⟩
theorem G_X7_38 : zFlg RX7 38 6 5 := zFl_g F_X7_38
theorem F_X8_168 : zFl RX8 168 6 5 false := ⟨_, _, _, clX7, by decide, zw153, rfl, fun h => by cases h⟩
theorem G_X8_168 : zFlg RX8 168 6 5 := zFl_g F_X8_168
theorem F_X7_41 : zFl RX7 41 6 6 false := ⟨_, _, _, clX7, by decide, zw154, rfl, fun h => by cases h⟩
theorem G_X7_41 : zFlg RX7 41 6 6 := zFl_g F_X7_41
theorem F_X8_171 : zFl RX8 171 6 6 false := ⟨_, _, _, clX7, by decide, zw155, rfl, fun h => by cases h⟩
theorem G_X8_171 : zFlg RX8 171 6 6 := zFl_g F_X8_171
theorem F_X6_9 : zFl RX6 9 5 0 true := ⟨_, _, _, clX6, by decide, zw177, rfl, fun _ => rfl⟩
theorem G_X6_9 : zFlg RX6 9 5 0 := zFl_g F_X6_9
theorem F_X8_73 : zFl RX8 73 5 1 false := ⟨_, _, _, clX6, by decide, zw178, rfl, fun h => by cases h⟩
theorem G_X8_73 : zFlg RX8 73 5 1 := zFl_g F_X8_73
theorem F_X6_13 : zFl RX6 13 5 1 false := ⟨_, _, _, clX6, by decide, zw179, rfl, fun h => by cases h⟩
theorem G_X6_13 : zFlg RX6 13 5 1 := zFl_g F_X6_13
theorem F_X3_41 : zFl RX3 41 5 2 false := ⟨_, _, _, clX6, by decide, zw180, rfl, fun h => by cases h⟩
theorem G_X3_41 : zFlg RX3 41 5 2 := zFl_g F_X3_41
theorem F_X6_26 : zFl RX6 26 5 2 false := ⟨_, _, _, clX6, by decide, zw181, rfl, fun h => by cases h⟩
theorem G_X6_26 : zFlg RX6 26 5 2 := zFl_g F_X6_26
theorem F_X6_23 : zFl RX6 23 5 3 false := ⟨_, _, _, clX6, by decide, zw182, rfl, fun h => by cases h⟩
theorem G_X6_23 : zFlg RX6 23 5 3 := zFl_g F_X6_23
theorem F_X3_54 : zFl RX3 54 5 3 false := ⟨_, _, _, clX6, by decide, zw183, rfl, fun h => by cases h⟩
theorem G_X3_54 : zFlg RX3 54 5 3 := zFl_g F_X3_54
theorem F_X6_37 : zFl RX6 37 5 4 false := ⟨_, _, _, clX6, by decide, zw184, rfl, fun h => by cases h⟩
theorem G_X6_37 : zFlg RX6 37 5 4 := zFl_g F_X6_37
theorem F_X3_126 : zFl RX3 126 5 4 false := ⟨_, _, _, clX6, by decide, zw185, rfl, fun h => by cases h⟩
theorem G_X3_126 : zFlg RX3 126 5 4 := zFl_g F_X3_126
theorem F_X6_17 : zFl RX6 17 5 5 false := ⟨_, _, _, clX6, by decide, zw186, rfl, fun h => by cases h⟩
theorem G_X6_17 : zFlg RX6 17 5 5 := zFl_g F_X6_17
theorem F_X3_15 : zFl RX3 15 2 0 true := ⟨_, _, _, clX3, by decide, zw207, rfl, fun _ => rfl⟩
theorem G_X3_15 : zFlg RX3 15 2 0 := zFl_g F_X3_15
theorem F_X3_11 : zFl RX3 11 2 1 true := ⟨_, _, _, clX3, by decide, zw208, rfl, fun _ => rfl⟩
theorem G_X3_11 : zFlg RX3 11 2 1 := zFl_g F_X3_11
theorem F_X3_29 : zFl RX3 29 2 2 false := ⟨_, _, _, clX3, by decide, zw209, rfl, fun h => by cases h⟩
theorem G_X3_29 : zFlg RX3 29 2 2 := zFl_g F_X3_29
theorem F_X3_19 : zFl RX3 19 2 3 false := ⟨_, _, _, clX3, by decide, zw210, rfl, fun h => by cases h⟩
theorem G_X3_19 : zFlg RX3 19 2 3 := zFl_g F_X3_19
theorem F_X2_13 : zFl RX2 13 1 0 true := ⟨_, _, _, clX2, by decide, zw226, rfl, fun _ => rfl⟩
theorem G_X2_13 : zFlg RX2 13 1 0 := zFl_g F_X2_13
theorem F_X2_17 : zFl RX2 17 1 1 true := ⟨_, _, _, clX2, by decide, zw227, rfl, fun _ => rfl⟩
theorem G_X2_17 : zFlg RX2 17 1 1 := zFl_g F_X2_17
theorem F_X2_20 : zFl RX2 20 1 2 true := ⟨_, _, _, clX2, by decide, zw228, rfl, fun _ => rfl⟩
theorem G_X2_20 : zFlg RX2 20 1 2 := zFl_g F_X2_20
theorem F_X2_24 : zFl RX2 24 1 3 true := ⟨_, _, _, clX2, by decide, zw229, rfl, fun _ => rfl⟩
theorem G_X2_24 : zFlg RX2 24 1 3 := zFl_g F_X2_24
theorem F_X2_27 : zFl RX2 27 1 4 true := ⟨_, _, _, clX2, by decide, zw230, rfl, fun _ => rfl⟩
theorem G_X2_27 : zFlg RX2 27 1 4 := zFl_g F_X2_27
theorem G_X8_182 : zFlg RX8 182 1 4 := ⟨_, _, _, clX2, by decide, zw231⟩
theorem F_X2_60 : zFl RX2 60 1 5 false := ⟨_, _, _, clX2, by decide, zw232, rfl, fun h => by cases h⟩
theorem G_X2_60 : zFlg RX2 60 1 5 := zFl_g F_X2_60
theorem F_X8_179 : zFl RX8 179 1 5 false := ⟨_, _, _, clX2, by decide, zw233, rfl, fun h => by cases h⟩
theorem G_X8_179 : zFlg RX8 179 1 5 := zFl_g F_X8_179
theorem F_X5_36 : zFl RX5 36 4 0 false := ⟨_, _, _, clX5, by decide, zw254, rfl, fun h => by cases h⟩
theorem G_X5_36 : zFlg RX5 36 4 0 := zFl_g F_X5_36
theorem F_X3_23 : zFl RX3 23 4 0 false := ⟨_, _, _, clX5, by decide, zw255, rfl, fun h => by cases h⟩
theorem G_X3_23 : zFlg RX3 23 4 0 := zFl_g F_X3_23
theorem F_X8_165 : zFl RX8 165 4 0 false := ⟨_, _, _, clX5, by decide, zw256, rfl, fun h => by cases h⟩
theorem G_X8_165 : zFlg RX8 165 4 0 := zFl_g F_X8_165
theorem F_X5_11 : zFl RX5 11 4 1 true := ⟨_, _, _, clX5, by decide, zw257, rfl, fun _ => rfl⟩
theorem G_X5_11 : zFlg RX5 11 4 1 := zFl_g F_X5_11
theorem G_X3_60 : zFlg RX3 60 4 1 := ⟨_, _, _, clX5, by decide, zw258⟩
theorem G_X8_254 : zFlg RX8 254 4 1 := ⟨_, _, _, clX5, by decide, zw259⟩
theorem F_X5_15 : zFl RX5 15 4 2 true := ⟨_, _, _, clX5, by decide, zw260, rfl, fun _ => rfl⟩
theorem G_X5_15 : zFlg RX5 15 4 2 := zFl_g F_X5_15
theorem G_X3_123 : zFlg RX3 123 4 2 := ⟨_, _, _, clX5, by decide, zw261⟩
theorem G_X8_251 : zFlg RX8 251 4 2 := ⟨_, _, _, clX5, by decide, zw262⟩
theorem F_X5_18 : zFl RX5 18 4 3 true := ⟨_, _, _, clX5, by decide, zw263, rfl, fun _ => rfl⟩
theorem G_X5_18 : zFlg RX5 18 4 3 := zFl_g F_X5_18
theorem G_X3_129 : zFlg RX3 129 4 3 := ⟨_, _, _, clX5, by decide, zw264⟩
theorem G_X8_267 : zFlg RX8 267 4 3 := ⟨_, _, _, clX5, by decide, zw265⟩
theorem F_X5_21 : zFl RX5 21 4 4 true := ⟨_, _, _, clX5, by decide, zw266, rfl, fun _ => rfl⟩
theorem G_X5_21 : zFlg RX5 21 4 4 := zFl_g F_X5_21
theorem F_X5_24 : zFl RX5 24 4 5 true := ⟨_, _, _, clX5, by decide, zw267, rfl, fun _ => rfl⟩
theorem G_X5_24 : zFlg RX5 24 4 5 := zFl_g F_X5_24
theorem G_X3_63 : zFlg RX3 63 4 5 := ⟨_, _, _, clX5, by decide, zw268⟩
theorem F_X5_27 : zFl RX5 27 4 6 true := ⟨_, _, _, clX5, by decide, zw269, rfl, fun _ => rfl⟩
theorem G_X5_27 : zFlg RX5 27 4 6 := zFl_g F_X5_27
theorem G_X3_76 : zFlg RX3 76 4 6 := ⟨_, _, _, clX5, by decide, zw270⟩
theorem F_X5_30 : zFl RX5 30 4 7 true := ⟨_, _, _, clX5, by decide, zw271, rfl, fun _ => rfl⟩
theorem G_X5_30 : zFlg RX5 30 4 7 := zFl_g F_X5_30
theorem G_X8_273 : zFlg RX8 273 4 7 := ⟨_, _, _, clX5, by decide, zw272⟩
theorem F_X5_33 : zFl RX5 33 4 8 true := ⟨_, _, _, clX5, by decide, zw273, rfl, fun _ => rfl⟩
theorem G_X5_33 : zFlg RX5 33 4 8 := zFl_g F_X5_33
theorem F_X1_9 : zFl RX1 9 0 0 true := ⟨_, _, _, clX1, by decide, zw299, rfl, fun _ => rfl⟩
theorem G_X1_9 : zFlg RX1 9 0 0 := zFl_g F_X1_9
theorem G_X8_115 : zFlg RX8 115 0 0 := ⟨_, _, _, clX1, by decide, zw300⟩
theorem F_X1_15 : zFl RX1 15 0 1 true := ⟨_, _, _, clX1, by decide, zw301, rfl, fun _ => rfl⟩
theorem G_X1_15 : zFlg RX1 15 0 1 := zFl_g F_X1_15
theorem G_X8_225 : zFlg RX8 225 0 1 := ⟨_, _, _, clX1, by decide, zw302⟩
theorem F_X1_19 : zFl RX1 19 0 2 true := ⟨_, _, _, clX1, by decide, zw303, rfl, fun _ => rfl⟩
theorem G_X1_19 : zFlg RX1 19 0 2 := zFl_g F_X1_19
theorem G_X8_228 : zFlg RX8 228 0 2 := ⟨_, _, _, clX1, by decide, zw304⟩
theorem F_X1_22 : zFl RX1 22 0 3 true := ⟨_, _, _, clX1, by decide, zw305, rfl, fun _ => rfl⟩
theorem G_X1_22 : zFlg RX1 22 0 3 := zFl_g F_X1_22
theorem G_X8_231 : zFlg RX8 231 0 3 := ⟨_, _, _, clX1, by decide, zw306⟩
theorem F_X1_25 : zFl RX1 25 0 4 true := ⟨_, _, _, clX1, by decide, zw307, rfl, fun _ => rfl⟩
theorem G_X1_25 : zFlg RX1 25 0 4 := zFl_g F_X1_25
theorem F_X1_28 : zFl RX1 28 0 5 true := ⟨_, _, _, clX1, by decide, zw308, rfl, fun _ => rfl⟩
theorem G_X1_28 : zFlg RX1 28 0 5 := zFl_g F_X1_28
theorem F_X1_31 : zFl RX1 31 0 6 false := ⟨_, _, _, clX1, by decide, zw309, rfl, fun h => by cases h⟩
theorem G_X1_31 : zFlg RX1 31 0 6 := zFl_g F_X1_31
theorem F_X8_153 : zFl RX8 153 0 6 false := ⟨_, _, _, clX1, by decide, zw310, rfl, fun h => by cases h⟩
theorem G_X8_153 : zFlg RX8 153 0 6 := zFl_g F_X8_153
theorem F_X1_41 : zFl RX1 41 0 7 false := ⟨_, _, _, clX1, by decide, zw311, rfl, fun h => by cases h⟩
theorem G_X1_41 : zFlg RX1 41 0 7 := zFl_g F_X1_41
theorem F_X8_156 : zFl RX8 156 0 7 false := ⟨_, _, _, clX1, by decide, zw312, rfl, fun h => by cases h⟩
theorem G_X8_156 : zFlg RX8 156 0 7 := zFl_g F_X8_156
theorem F_X8_65 : zFl RX8 65 7 0 true := ⟨_, _, _, clX8, by decide, zw330, rfl, fun _ => rfl⟩
theorem G_X8_65 : zFlg RX8 65 7 0 := zFl_g F_X8_65
theorem F_X8_10 : zFl RX8 10 7 1 true := ⟨_, _, _, clX8, by decide, zw331, rfl, fun _ => rfl⟩
theorem G_X8_10 : zFlg RX8 10 7 1 := zFl_g F_X8_10
theorem F_X8_19 : zFl RX8 19 7 2 true := ⟨_, _, _, clX8, by decide, zw332, rfl, fun _ => rfl⟩
theorem G_X8_19 : zFlg RX8 19 7 2 := zFl_g F_X8_19
theorem F_X8_26 : zFl RX8 26 7 3 true := ⟨_, _, _, clX8, by decide, zw333, rfl, fun _ => rfl⟩
theorem G_X8_26 : zFlg RX8 26 7 3 := zFl_g F_X8_26
theorem F_X8_35 : zFl RX8 35 7 4 true := ⟨_, _, _, clX8, by decide, zw334, rfl, fun _ => rfl⟩
theorem G_X8_35 : zFlg RX8 35 7 4 := zFl_g F_X8_35
theorem F_X8_42 : zFl RX8 42 7 5 true := ⟨_, _, _, clX8, by decide, zw335, rfl, fun _ => rfl⟩
theorem G_X8_42 : zFlg RX8 42 7 5 := zFl_g F_X8_42
theorem F_X8_48 : zFl RX8 48 7 6 true := ⟨_, _, _, clX8, by decide, zw336, rfl, fun _ => rfl⟩
theorem G_X8_48 : zFlg RX8 48 7 6 := zFl_g F_X8_48
theorem F_X8_53 : zFl RX8 53 7 7 false := ⟨_, _, _, clX8, by decide, zw337, rfl, fun h => by cases h⟩
theorem G_X8_53 : zFlg RX8 53 7 7 := zFl_g F_X8_53
theorem F_X8_57 : zFl RX8 57 7 8 false := ⟨_, _, _, clX8, by decide, zw338, rfl, fun h => by cases h⟩
theorem G_X8_57 : zFlg RX8 57 7 8 := zFl_g F_X8_57
theorem F_X8_81 : zFl RX8 81 7 9 false := ⟨_, _, _, clX8, by decide, zw339, rfl, fun h => by cases h⟩
theorem G_X8_81 : zFlg RX8 81 7 9 := zFl_g F_X8_81
theorem F_X8_84 : zFl RX8 84 7 10 false := ⟨_, _, _, clX8, by decide, zw340, rfl, fun h => by cases h⟩
theorem G_X8_84 : zFlg RX8 84 7 10 := zFl_g F_X8_84
theorem F_X8_162 : zFl RX8 162 7 11 false := ⟨_, _, _, clX8, by decide, zw341, rfl, fun h => by cases h⟩
theorem G_X8_162 : zFlg RX8 162 7 11 := zFl_g F_X8_162
theorem F_X8_94 : zFl RX8 94 7 12 false := ⟨_, _, _, clX8, by decide, zw342, rfl, fun h => by cases h⟩
theorem G_X8_94 : zFlg RX8 94 7 12 := zFl_g F_X8_94
theorem F_X8_138 : zFl RX8 138 7 13 false := ⟨_, _, _, clX8, by decide, zw343, rfl, fun h => by cases h⟩
theorem G_X8_138 : zFlg RX8 138 7 13 := zFl_g F_X8_138
theorem F_X8_141 : zFl RX8 141 7 14 false := ⟨_, _, _, clX8, by decide, zw344, rfl, fun h => by cases h⟩
theorem G_X8_141 : zFlg RX8 141 7 14 := zFl_g F_X8_141
theorem F_X8_144 : zFl RX8 144 7 15 false := ⟨_, _, _, clX8, by decide, zw345, rfl, fun h => by cases h⟩
theorem G_X8_144 : zFlg RX8 144 7 15 := zFl_g F_X8_144
theorem F_X8_147 : zFl RX8 147 7 16 false := ⟨_, _, _, clX8, by decide, zw346, rfl, fun h => by cases h⟩
theorem G_X8_147 : zFlg RX8 147 7 16 := zFl_g F_X8_147
theorem F_X8_150 : zFl RX8 150 7 17 false := ⟨_, _, _, clX8, by decide, zw347, rfl, fun h => by cases h⟩
theorem G_X8_150 : zFlg RX8 150 7 17 := zFl_g F_X8_150
theorem F_X9_1 : zFl RX9 1 8 0 false := ⟨_, _, _, clX9, by decide, zw953, rfl, fun h => by cases h⟩
theorem G_X9_1 : zFlg RX9 1 8 0 := zFl_g F_X9_1
theorem F_X9_14 : zFl RX9 14 8 1 true := ⟨_, _, _, clX9, by decide, zw954, rfl, fun _ => rfl⟩
theorem G_X9_14 : zFlg RX9 14 8 1 := zFl_g F_X9_14
theorem F_X9_11 : zFl RX9 11 8 2 false := ⟨_, _, _, clX9, by decide, zw955, rfl, fun h => by cases h⟩
theorem G_X9_11 : zFlg RX9 11 8 2 := zFl_g F_X9_11
theorem F_X9_145 : zFl RX9 145 8 3 false := ⟨_, _, _, clX9, by decide, zw956, rfl, fun h => by cases h⟩
theorem G_X9_145 : zFlg RX9 145 8 3 := zFl_g F_X9_145
theorem F_X9_24 : zFl RX9 24 8 4 true := ⟨_, _, _, clX9, by decide, zw957, rfl, fun _ => rfl⟩
theorem G_X9_24 : zFlg RX9 24 8 4 := zFl_g F_X9_24
theorem F_X9_27 : zFl RX9 27 8 5 true := ⟨_, _, _, clX9, by decide, zw958, rfl, fun _ => rfl⟩
theorem G_X9_27 : zFlg RX9 27 8 5 := zFl_g F_X9_27
theorem F_X9_30 : zFl RX9 30 8 6 true := ⟨_, _, _, clX9, by decide, zw959, rfl, fun _ => rfl⟩
theorem G_X9_30 : zFlg RX9 30 8 6 := zFl_g F_X9_30
theorem F_X9_164 : zFl RX9 164 8 7 false := ⟨_, _, _, clX9, by decide, zw960, rfl, fun h => by cases h⟩
theorem G_X9_164 : zFlg RX9 164 8 7 := zFl_g F_X9_164
theorem F_X9_167 : zFl RX9 167 8 8 false := ⟨_, _, _, clX9, by decide, zw961, rfl, fun h => by cases h⟩
theorem G_X9_167 : zFlg RX9 167 8 8 := zFl_g F_X9_167
theorem F_X9_68 : zFl RX9 68 8 9 true := ⟨_, _, _, clX9, by decide, zw962, rfl, fun _ => rfl⟩
theorem G_X9_68 : zFlg RX9 68 8 9 := zFl_g F_X9_68
theorem F_X9_71 : zFl RX9 71 8 10 true := ⟨_, _, _, clX9, by decide, zw963, rfl, fun _ => rfl⟩
theorem G_X9_71 : zFlg RX9 71 8 10 := zFl_g F_X9_71
theorem F_X9_74 : zFl RX9 74 8 11 true := ⟨_, _, _, clX9, by decide, zw964, rfl, fun _ => rfl⟩
theorem G_X9_74 : zFlg RX9 74 8 11 := zFl_g F_X9_74
theorem F_X9_77 : zFl RX9 77 8 12 true := ⟨_, _, _, clX9, by decide, zw965, rfl, fun _ => rfl⟩
theorem G_X9_77 : zFlg RX9 77 8 12 := zFl_g F_X9_77
theorem F_X9_192 : zFl RX9 192 8 13 false := ⟨_, _, _, clX9, by decide, zw966, rfl, fun h => by cases h⟩
theorem G_X9_192 : zFlg RX9 192 8 13 := zFl_g F_X9_192
theorem F_X9_183 : zFl RX9 183 8 14 false := ⟨_, _, _, clX9, by decide, zw967, rfl, fun h => by cases h⟩
theorem G_X9_183 : zFlg RX9 183 8 14 := zFl_g F_X9_183
theorem F_X9_186 : zFl RX9 186 8 15 false := ⟨_, _, _, clX9, by decide, zw968, rfl, fun h => by cases h⟩
theorem G_X9_186 : zFlg RX9 186 8 15 := zFl_g F_X9_186
theorem F_X9_80 : zFl RX9 80 8 16 true := ⟨_, _, _, clX9, by decide, zw969, rfl, fun _ => rfl⟩
theorem G_X9_80 : zFlg RX9 80 8 16 := zFl_g F_X9_80
theorem F_X9_195 : zFl RX9 195 8 17 false := ⟨_, _, _, clX9, by decide, zw970, rfl, fun h => by cases h⟩
theorem G_X9_195 : zFlg RX9 195 8 17 := zFl_g F_X9_195
theorem F_X9_138 : zFl RX9 138 8 18 true := ⟨_, _, _, clX9, by decide, zw971, rfl, fun _ => rfl⟩
theorem G_X9_138 : zFlg RX9 138 8 18 := zFl_g F_X9_138
theorem F_X9_83 : zFl RX9 83 8 19 true := ⟨_, _, _, clX9, by decide, zw972, rfl, fun _ => rfl⟩
theorem G_X9_83 : zFlg RX9 83 8 19 := zFl_g F_X9_83
theorem F_X9_86 : zFl RX9 86 8 20 true := ⟨_, _, _, clX9, by decide, zw973, rfl, fun _ => rfl⟩
theorem G_X9_86 : zFlg RX9 86 8 20 := zFl_g F_X9_86
theorem F_X9_89 : zFl RX9 89 8 21 true := ⟨_, _, _, clX9, by decide, zw974, rfl, fun _ => rfl⟩
theorem G_X9_89 : zFlg RX9 89 8 21 := zFl_g F_X9_89
theorem F_X9_92 : zFl RX9 92 8 22 true := ⟨_, _, _, clX9, by decide, zw975, rfl, fun _ => rfl⟩
theorem G_X9_92 : zFlg RX9 92 8 22 := zFl_g F_X9_92
theorem F_X9_95 : zFl RX9 95 8 23 true := ⟨_, _, _, clX9, by decide, zw976, rfl, fun _ => rfl⟩
theorem G_X9_95 : zFlg RX9 95 8 23 := zFl_g F_X9_95
theorem F_X9_98 : zFl RX9 98 8 24 true := ⟨_, _, _, clX9, by decide, zw977, rfl, fun _ => rfl⟩
theorem G_X9_98 : zFlg RX9 98 8 24 := zFl_g F_X9_98
theorem F_X9_101 : zFl RX9 101 8 25 true := ⟨_, _, _, clX9, by decide, zw978, rfl, fun _ => rfl⟩
theorem G_X9_101 : zFlg RX9 101 8 25 := zFl_g F_X9_101
theorem F_X9_104 : zFl RX9 104 8 26 true := ⟨_, _, _, clX9, by decide, zw979, rfl, fun _ => rfl⟩
theorem G_X9_104 : zFlg RX9 104 8 26 := zFl_g F_X9_104
theorem F_X9_107 : zFl RX9 107 8 27 true := ⟨_, _, _, clX9, by decide, zw980, rfl, fun _ => rfl⟩
theorem G_X9_107 : zFlg RX9 107 8 27 := zFl_g F_X9_107
theorem F_X9_252 : zFl RX9 252 8 28 false := ⟨_, _, _, clX9, by decide, zw981, rfl, fun h => by cases h⟩
theorem G_X9_252 : zFlg RX9 252 8 28 := zFl_g F_X9_252
theorem F_X9_242 : zFl RX9 242 8 29 false := ⟨_, _, _, clX9, by decide, zw982, rfl, fun h => by cases h⟩
theorem G_X9_242 : zFlg RX9 242 8 29 := zFl_g F_X9_242
theorem F_X9_284 : zFl RX9 284 8 30 false := ⟨_, _, _, clX9, by decide, zw983, rfl, fun h => by cases h⟩
theorem G_X9_284 : zFlg RX9 284 8 30 := zFl_g F_X9_284
theorem F_X9_308 : zFl RX9 308 8 31 false := ⟨_, _, _, clX9, by decide, zw984, rfl, fun h => by cases h⟩
theorem G_X9_308 : zFlg RX9 308 8 31 := zFl_g F_X9_308
theorem F_X9_290 : zFl RX9 290 8 32 false := ⟨_, _, _, clX9, by decide, zw985, rfl, fun h => by cases h⟩
theorem G_X9_290 : zFlg RX9 290 8 32 := zFl_g F_X9_290
theorem F_X9_347 : zFl RX9 347 8 33 false := ⟨_, _, _, clX9, by decide, zw986, rfl, fun h => by cases h⟩
theorem G_X9_347 : zFlg RX9 347 8 33 := zFl_g F_X9_347
theorem F_X9_353 : zFl RX9 353 8 34 false := ⟨_, _, _, clX9, by decide, zw987, rfl, fun h => by cases h⟩
theorem G_X9_353 : zFlg RX9 353 8 34 := zFl_g F_X9_353
theorem F_X9_329 : zFl RX9 329 8 35 false := ⟨_, _, _, clX9, by decide, zw988, rfl, fun h => by cases h⟩
theorem G_X9_329 : zFlg RX9 329 8 35 := zFl_g F_X9_329
theorem F_X9_302 : zFl RX9 302 8 36 false := ⟨_, _, _, clX9, by decide, zw989, rfl, fun h => by cases h⟩
theorem G_X9_302 : zFlg RX9 302 8 36 := zFl_g F_X9_302
theorem F_X9_205 : zFl RX9 205 8 37 false := ⟨_, _, _, clX9, by decide, zw990, rfl, fun h => by cases h⟩
theorem G_X9_205 : zFlg RX9 205 8 37 := zFl_g F_X9_205
theorem F_X9_208 : zFl RX9 208 8 38 false := ⟨_, _, _, clX9, by decide, zw991, rfl, fun h => by cases h⟩
theorem G_X9_208 : zFlg RX9 208 8 38 := zFl_g F_X9_208
theorem F_X9_239 : zFl RX9 239 8 39 false := ⟨_, _, _, clX9, by decide, zw992, rfl, fun h => by cases h⟩
theorem G_X9_239 : zFlg RX9 239 8 39 := zFl_g F_X9_239
theorem F_X9_110 : zFl RX9 110 8 40 true := ⟨_, _, _, clX9, by decide, zw993, rfl, fun _ => rfl⟩
theorem G_X9_110 : zFlg RX9 110 8 40 := zFl_g F_X9_110
theorem F_X9_113 : zFl RX9 113 8 41 true := ⟨_, _, _, clX9, by decide, zw994, rfl, fun _ => rfl⟩
theorem G_X9_113 : zFlg RX9 113 8 41 := zFl_g F_X9_113
theorem F_X9_116 : zFl RX9 116 8 42 true := ⟨_, _, _, clX9, by decide, zw995, rfl, fun _ => rfl⟩
theorem G_X9_116 : zFlg RX9 116 8 42 := zFl_g F_X9_116
theorem F_X9_332 : zFl RX9 332 8 43 false := ⟨_, _, _, clX9, by decide, zw996, rfl, fun h => by cases h⟩
theorem G_X9_332 : zFlg RX9 332 8 43 := zFl_g F_X9_332
theorem F_X9_335 : zFl RX9 335 8 44 false := ⟨_, _, _, clX9, by decide, zw997, rfl, fun h => by cases h⟩
theorem G_X9_335 : zFlg RX9 335 8 44 := zFl_g F_X9_335
theorem F_X9_119 : zFl RX9 119 8 45 true := ⟨_, _, _, clX9, by decide, zw998, rfl, fun _ => rfl⟩
theorem G_X9_119 : zFlg RX9 119 8 45 := zFl_g F_X9_119
theorem F_X9_311 : zFl RX9 311 8 46 false := ⟨_, _, _, clX9, by decide, zw999, rfl, fun h => by cases h⟩
theorem G_X9_311 : zFlg RX9 311 8 46 := zFl_g F_X9_311
theorem F_X9_122 : zFl RX9 122 8 47 true := ⟨_, _, _, clX9, by decide, zw1000, rfl, fun _ => rfl⟩
theorem G_X9_122 : zFlg RX9 122 8 47 := zFl_g F_X9_122
theorem F_X9_125 : zFl RX9 125 8 48 true := ⟨_, _, _, clX9, by decide, zw1001, rfl, fun _ => rfl⟩
theorem G_X9_125 : zFlg RX9 125 8 48 := zFl_g F_X9_125
theorem F_X9_128 : zFl RX9 128 8 49 true := ⟨_, _, _, clX9, by decide, zw1002, rfl, fun _ => rfl⟩
theorem G_X9_128 : zFlg RX9 128 8 49 := zFl_g F_X9_128
theorem F_X9_132 : zFl RX9 132 8 50 true := ⟨_, _, _, clX9, by decide, zw1003, rfl, fun _ => rfl⟩
theorem G_X9_132 : zFlg RX9 132 8 50 := zFl_g F_X9_132
theorem F_X9_362 : zFl RX9 362 8 51 false := ⟨_, _, _, clX9, by decide, zw1004, rfl, fun h => by cases h⟩
theorem G_X9_362 : zFlg RX9 362 8 51 := zFl_g F_X9_362
theorem F_X9_135 : zFl RX9 135 8 52 true := ⟨_, _, _, clX9, by decide, zw1005, rfl, fun _ => rfl⟩
theorem G_X9_135 : zFlg RX9 135 8 52 := zFl_g F_X9_135
def mX8_init : zM := (yX8_init, cX8_init, 2, none)
theorem csX8_init : zCw mX8_init 1 ∧ Cond.instanceMethod mX8_init.1 ∈ zT ∧ mX8_init.1.name = "<init>" := ⟨⟨zw75, zw98, by decide +kernel, by decide⟩, zw97, rfl⟩
def mX4_init : zM := (yX4_init, cX4_init, 2, none)
theorem csX4_init : zCw mX4_init 0 ∧ Cond.instanceMethod mX4_init.1 ∈ zT ∧ mX4_init.1.name = "<init>" := ⟨⟨zw76, zw106, by decide +kernel, by decide⟩, zw105, rfl⟩
def mX7_init : zM := (yX7_init, cX7_init, 1, none)
theorem csX7_init : zCw mX7_init 0 ∧ Cond.instanceMethod mX7_init.1 ∈ zT ∧ mX7_init.1.name = "<init>" := ⟨⟨zw77, zw145, by decide +kernel, by decide⟩, zw144, rfl⟩
def mX6_init : zM := (yX6_init, cX6_init, 1, none)
theorem csX6_init : zCw mX6_init 0 ∧ Cond.instanceMethod mX6_init.1 ∈ zT ∧ mX6_init.1.name = "<init>" := ⟨⟨zw78, zw175, by decide +kernel, by decide⟩, zw174, rfl⟩
def mX3_init : zM := (yX3_init, cX3_init, 2, none)
theorem csX3_init : zCw mX3_init 1 ∧ Cond.instanceMethod mX3_init.1 ∈ zT ∧ mX3_init.1.name = "<init>" := ⟨⟨zw79, zw205, by decide +kernel, by decide⟩, zw204, rfl⟩
def mX2_init : zM := (yX2_init, cX2_init, 1, none)
theorem csX2_init : zCw mX2_init 0 ∧ Cond.instanceMethod mX2_init.1 ∈ zT ∧ mX2_init.1.name = "<init>" := ⟨⟨zw80, zw224, by decide +kernel, by decide⟩, zw223, rfl⟩
def mX5_init : zM := (yX5_init, cX5_init, 1, none)
theorem csX5_init : zCw mX5_init 0 ∧ Cond.instanceMethod mX5_init.1 ∈ zT ∧ mX5_init.1.name = "<init>" := ⟨⟨zw81, zw252, by decide +kernel, by decide⟩, zw251, rfl⟩
def mX1_init : zM := (yX1_init, cX1_init, 3, none)
theorem csX1_init : zCw mX1_init 1 ∧ Cond.instanceMethod mX1_init.1 ∈ zT ∧ mX1_init.1.name = "<init>" := ⟨⟨zw82, zw297, by decide +kernel, by decide⟩, zw296, rfl⟩
def mX8_feed : zM := (yX8_feed, cX8_feed, 7, (some .int))
theorem csX8_feed : zCv mX8_feed 3 := ⟨⟨zw75, zw388, by decide +kernel, by decide⟩, zw386, zw387⟩
def mX6_addBytes : zM := (yX6_addBytes, cX6_addBytes, 6, none)
theorem csX6_addBytes : zCv mX6_addBytes 1 := ⟨⟨zw78, zw392, by decide +kernel, by decide⟩, zw390, zw391⟩
def mX8_orders : zM := (yX8_orders, cX8_orders, 3, (some .int))
theorem csX8_orders : zCv mX8_orders 0 := ⟨⟨zw75, zw396, by decide +kernel, by decide⟩, zw394, zw395⟩
def mX3_read : zM := (yX3_read, cX3_read, 4, (some .int))
theorem csX3_read : zCv mX3_read 1 := ⟨⟨zw79, zw400, by decide +kernel, by decide⟩, zw398, zw399⟩
def mX6_rewind : zM := (yX6_rewind, cX6_rewind, 1, none)
theorem csX6_rewind : zCv mX6_rewind 0 := ⟨⟨zw78, zw404, by decide +kernel, by decide⟩, zw402, zw403⟩
def mX6_advance : zM := (yX6_advance, cX6_advance, 1, none)
theorem csX6_advance : zCv mX6_advance 0 := ⟨⟨zw78, zw408, by decide +kernel, by decide⟩, zw406, zw407⟩
def mX6_endOfRun : zM := (yX6_endOfRun, cX6_endOfRun, 4, (some .int))
theorem csX6_endOfRun : zCv mX6_endOfRun 2 := ⟨⟨zw78, zw412, by decide +kernel, by decide⟩, zw411, zw0⟩
def mX6_numberHere : zM := (yX6_numberHere, cX6_numberHere, 3, (some .int))
theorem csX6_numberHere : zCv mX6_numberHere 0 := ⟨⟨zw78, zw416, by decide +kernel, by decide⟩, zw415, zw1⟩
def mX6_isSign : zM := (yX6_isSign, cX6_isSign, 1, (some .boolean))
theorem csX6_isSign : zCw mX6_isSign 1 ∧ Cond.static mX6_isSign.1 ∈ zT := ⟨⟨zw78, zw419, by decide +kernel, by decide⟩, zw418⟩
def mX3_isOver : zM := (yX3_isOver, cX3_isOver, 1, (some .boolean))
theorem csX3_isOver : zCv mX3_isOver 0 := ⟨⟨zw79, zw423, by decide +kernel, by decide⟩, zw422, zw2⟩
def mX3_readClosing : zM := (yX3_readClosing, cX3_readClosing, 2, (some .int))
theorem csX3_readClosing : zCv mX3_readClosing 0 := ⟨⟨zw79, zw427, by decide +kernel, by decide⟩, zw426, zw3⟩
def mX6_spells : zM := (yX6_spells, cX6_spells, 3, (some .boolean))
theorem csX6_spells : zCv mX6_spells 1 := ⟨⟨zw78, zw433, by decide +kernel, by decide⟩, zw431, zw432⟩
def mJ0_length_8abf5 : zM := (yJ0_length_8abf5, cJ0_length_8abf5, 1, (some .int))
theorem csJ0_length_8abf5 : zCv mJ0_length_8abf5 0 := ⟨⟨zw84, zw437, by decide +kernel, by decide⟩, zw435, zw436⟩
def mJ0_coder_7d493 : zM := (yJ0_coder_7d493, cJ0_coder_7d493, 1, (some .byte))
theorem csJ0_coder_7d493 : zCv mJ0_coder_7d493 0 := ⟨⟨zw84, zw441, by decide +kernel, by decide⟩, zw439, zw440⟩
def mJ0_charAt_5068e : zM := (yJ0_charAt_5068e, cJ0_charAt_5068e, 2, (some .char))
theorem csJ0_charAt_5068e : zCv mJ0_charAt_5068e 1 := ⟨⟨zw84, zw447, by decide +kernel, by decide⟩, zw445, zw446⟩
def mJ0_isLatin1_aae02 : zM := (yJ0_isLatin1_aae02, cJ0_isLatin1_aae02, 1, (some .boolean))
theorem csJ0_isLatin1_aae02 : zCv mJ0_isLatin1_aae02 0 := ⟨⟨zw84, zw451, by decide +kernel, by decide⟩, zw449, zw450⟩
def mJ1_charAt_3b067 : zM := (yJ1_charAt_3b067, cJ1_charAt_3b067, 2, (some .char))
theorem csJ1_charAt_3b067 : zCw mJ1_charAt_3b067 2 ∧ Cond.static mJ1_charAt_3b067.1 ∈ zT := ⟨⟨zw85, zw454, by decide +kernel, by decide⟩, zw453⟩
def mJ0_checkIndex_df160 : zM := (yJ0_checkIndex_df160, cJ0_checkIndex_df160, 2, none)
theorem csJ0_checkIndex_df160 : zCw mJ0_checkIndex_df160 2 ∧ Cond.static mJ0_checkIndex_df160.1 ∈ zT := ⟨⟨zw84, zw457, by decide +kernel, by decide⟩, zw456⟩
def mJ3_checkIndex_8e157 : zM := (yJ3_checkIndex_8e157, cJ3_checkIndex_8e157, 3, (some .int))
theorem csJ3_checkIndex_8e157 : zCw mJ3_checkIndex_8e157 3 ∧ Cond.static mJ3_checkIndex_8e157.1 ∈ zT := ⟨⟨zw86, zw462, by decide +kernel, by decide⟩, zw461⟩
def mJ2_charAt_3b067 : zM := (yJ2_charAt_3b067, cJ2_charAt_3b067, 2, (some .char))
theorem csJ2_charAt_3b067 : zCw mJ2_charAt_3b067 2 ∧ Cond.static mJ2_charAt_3b067.1 ∈ zT := ⟨⟨zw87, zw465, by decide +kernel, by decide⟩, zw464⟩
def mJ2_checkIndex_2214a : zM := (yJ2_checkIndex_2214a, cJ2_checkIndex_2214a, 2, none)
theorem csJ2_checkIndex_2214a : zCw mJ2_checkIndex_2214a 2 ∧ Cond.static mJ2_checkIndex_2214a.1 ∈ zT := ⟨⟨zw87, zw468, by decide +kernel, by decide⟩, zw467⟩
def mJ2_length_9d52b : zM := (yJ2_length_9d52b, cJ2_length_9d52b, 1, (some .int))
theorem csJ2_length_9d52b : zCw mJ2_length_9d52b 1 ∧ Cond.static mJ2_length_9d52b.1 ∈ zT := ⟨⟨zw87, zw471, by decide +kernel, by decide⟩, zw470⟩
def mJ2_getChar_3b067 : zM := (yJ2_getChar_3b067, cJ2_getChar_3b067, 2, (some .char))
theorem csJ2_getChar_3b067 : zCw mJ2_getChar_3b067 2 ∧ Cond.static mJ2_getChar_3b067.1 ∈ zT := ⟨⟨zw87, zw475, by decide +kernel, by decide⟩, zw474⟩
def mX3_readSign : zM := (yX3_readSign, cX3_readSign, 2, (some .int))
theorem csX3_readSign : zCv mX3_readSign 1 := ⟨⟨zw79, zw485, by decide +kernel, by decide⟩, zw484, zw4⟩
def mX3_faultHere : zM := (yX3_faultHere, cX3_faultHere, 2, (some .int))
theorem csX3_faultHere : zCv mX3_faultHere 1 := ⟨⟨zw79, zw489, by decide +kernel, by decide⟩, zw488, zw5⟩
def mX3_readStatement : zM := (yX3_readStatement, cX3_readStatement, 3, (some .int))
theorem csX3_readStatement : zCv mX3_readStatement 0 := ⟨⟨zw79, zw493, by decide +kernel, by decide⟩, zw492, zw6⟩
def mX3_verbHere : zM := (yX3_verbHere, cX3_verbHere, 1, (some .int))
theorem csX3_verbHere : zCv mX3_verbHere 0 := ⟨⟨zw79, zw497, by decide +kernel, by decide⟩, zw496, zw7⟩
def mX5_add : zM := (yX5_add, cX5_add, 5, (some .int))
theorem csX5_add : zCv mX5_add 2 := ⟨⟨zw81, zw510, by decide +kernel, by decide⟩, zw508, zw509⟩
def mX3_readCondition : zM := (yX3_readCondition, cX3_readCondition, 3, (some .int))
theorem csX3_readCondition : zCv mX3_readCondition 1 := ⟨⟨zw79, zw514, by decide +kernel, by decide⟩, zw513, zw8⟩
def mX3_readSum : zM := (yX3_readSum, cX3_readSum, 6, (some .int))
theorem csX3_readSum : zCv mX3_readSum 2 := ⟨⟨zw79, zw518, by decide +kernel, by decide⟩, zw517, zw9⟩
def mX3_partHere : zM := (yX3_partHere, cX3_partHere, 1, (some .int))
theorem csX3_partHere : zCv mX3_partHere 0 := ⟨⟨zw79, zw522, by decide +kernel, by decide⟩, zw521, zw10⟩
def mX5_weigh : zM := (yX5_weigh, cX5_weigh, 4, none)
theorem csX5_weigh : zCv mX5_weigh 3 := ⟨⟨zw81, zw533, by decide +kernel, by decide⟩, zw531, zw532⟩
def mX3_readOpening : zM := (yX3_readOpening, cX3_readOpening, 3, (some .int))
theorem csX3_readOpening : zCv mX3_readOpening 1 := ⟨⟨zw79, zw537, by decide +kernel, by decide⟩, zw536, zw11⟩
def mX3_readOrder : zM := (yX3_readOrder, cX3_readOrder, 4, (some .int))
theorem csX3_readOrder : zCv mX3_readOrder 2 := ⟨⟨zw79, zw541, by decide +kernel, by decide⟩, zw540, zw12⟩
def mX3_checkNumber : zM := (yX3_checkNumber, cX3_checkNumber, 4, (some .int))
theorem csX3_checkNumber : zCv mX3_checkNumber 2 := ⟨⟨zw79, zw549, by decide +kernel, by decide⟩, zw548, zw13⟩
def mX5_link : zM := (yX5_link, cX5_link, 3, none)
theorem csX5_link : zCv mX5_link 0 := ⟨⟨zw81, zw553, by decide +kernel, by decide⟩, zw551, zw552⟩
def mX5_blockEnd : zM := (yX5_blockEnd, cX5_blockEnd, 3, (some .int))
theorem csX5_blockEnd : zCv mX5_blockEnd 2 := ⟨⟨zw81, zw557, by decide +kernel, by decide⟩, zw556, zw14⟩
def mX8_wind : zM := (yX8_wind, cX8_wind, 4, (some .boolean))
theorem csX8_wind : zCv mX8_wind 3 := ⟨⟨zw75, zw562, by decide +kernel, by decide⟩, zw560, zw561⟩
def mX7_tell : zM := (yX7_tell, cX7_tell, 4, (some .boolean))
theorem csX7_tell : zCv mX7_tell 3 := ⟨⟨zw77, zw566, by decide +kernel, by decide⟩, zw564, zw565⟩
def mX0_isWind : zM := (yX0_isWind, cX0_isWind, 2, (some .boolean))
theorem csX0_isWind : zCw mX0_isWind 2 ∧ Cond.static mX0_isWind.1 ∈ zT := ⟨⟨zw88, zw570, by decide +kernel, by decide⟩, zw569⟩
def mX7_find : zM := (yX7_find, cX7_find, 4, none)
theorem csX7_find : zCv mX7_find 1 := ⟨⟨zw77, zw574, by decide +kernel, by decide⟩, zw573, zw15⟩
def mX8_minutes : zM := (yX8_minutes, cX8_minutes, 3, (some .int))
theorem csX8_minutes : zCv mX8_minutes 1 := ⟨⟨zw75, zw578, by decide +kernel, by decide⟩, zw576, zw577⟩
def mX8_passMinute : zM := (yX8_passMinute, cX8_passMinute, 2, none)
theorem csX8_passMinute : zCv mX8_passMinute 0 := ⟨⟨zw75, zw582, by decide +kernel, by decide⟩, zw581, zw16⟩
def mX7_blow : zM := (yX7_blow, cX7_blow, 2, none)
theorem csX7_blow : zCv mX7_blow 1 := ⟨⟨zw77, zw586, by decide +kernel, by decide⟩, zw584, zw585⟩
def mX8_endWorks : zM := (yX8_endWorks, cX8_endWorks, 2, none)
theorem csX8_endWorks : zCv mX8_endWorks 0 := ⟨⟨zw75, zw590, by decide +kernel, by decide⟩, zw589, zw17⟩
def mX1_isDue : zM := (yX1_isDue, cX1_isDue, 3, (some .boolean))
theorem csX1_isDue : zCv mX1_isDue 2 := ⟨⟨zw82, zw594, by decide +kernel, by decide⟩, zw592, zw593⟩
def mX4_finish : zM := (yX4_finish, cX4_finish, 4, none)
theorem csX4_finish : zCv mX4_finish 3 := ⟨⟨zw76, zw598, by decide +kernel, by decide⟩, zw596, zw597⟩
def mX4_mark : zM := (yX4_mark, cX4_mark, 4, none)
theorem csX4_mark : zCv mX4_mark 3 := ⟨⟨zw76, zw602, by decide +kernel, by decide⟩, zw600, zw601⟩
def mX4_become : zM := (yX4_become, cX4_become, 4, none)
theorem csX4_become : zCv mX4_become 3 := ⟨⟨zw76, zw606, by decide +kernel, by decide⟩, zw605, zw18⟩
def mX4_renew : zM := (yX4_renew, cX4_renew, 3, none)
theorem csX4_renew : zCv mX4_renew 1 := ⟨⟨zw76, zw610, by decide +kernel, by decide⟩, zw609, zw19⟩
def mX4_hasParted : zM := (yX4_hasParted, cX4_hasParted, 2, (some .boolean))
theorem csX4_hasParted : zCv mX4_hasParted 1 := ⟨⟨zw76, zw614, by decide +kernel, by decide⟩, zw613, zw20⟩
def mX1_release : zM := (yX1_release, cX1_release, 3, none)
theorem csX1_release : zCv mX1_release 1 := ⟨⟨zw82, zw618, by decide +kernel, by decide⟩, zw616, zw617⟩
def mX8_carryOut : zM := (yX8_carryOut, cX8_carryOut, 2, none)
theorem csX8_carryOut : zCv mX8_carryOut 0 := ⟨⟨zw75, zw622, by decide +kernel, by decide⟩, zw621, zw21⟩
def mX8_weighParts : zM := (yX8_weighParts, cX8_weighParts, 2, none)
theorem csX8_weighParts : zCv mX8_weighParts 0 := ⟨⟨zw75, zw626, by decide +kernel, by decide⟩, zw625, zw22⟩
def mX0_apart : zM := (yX0_apart, cX0_apart, 3, (some .int))
theorem csX0_apart : zCw mX0_apart 2 ∧ Cond.static mX0_apart.1 ∈ zT := ⟨⟨zw88, zw629, by decide +kernel, by decide⟩, zw628⟩
def mJ9_min_7cf53 : zM := (yJ9_min_7cf53, cJ9_min_7cf53, 2, (some .int))
theorem csJ9_min_7cf53 : zCw mJ9_min_7cf53 2 ∧ Cond.static mJ9_min_7cf53.1 ∈ zT := ⟨⟨zw89, zw632, by decide +kernel, by decide⟩, zw631⟩
def mX0_isAback : zM := (yX0_isAback, cX0_isAback, 1, (some .boolean))
theorem csX0_isAback : zCw mX0_isAback 1 ∧ Cond.static mX0_isAback.1 ∈ zT := ⟨⟨zw88, zw635, by decide +kernel, by decide⟩, zw634⟩
def mX4_greatestWear : zM := (yX4_greatestWear, cX4_greatestWear, 3, (some .int))
theorem csX4_greatestWear : zCv mX4_greatestWear 0 := ⟨⟨zw76, zw639, by decide +kernel, by decide⟩, zw637, zw638⟩
def mJ9_max_7cf53 : zM := (yJ9_max_7cf53, cJ9_max_7cf53, 2, (some .int))
theorem csJ9_max_7cf53 : zCw mJ9_max_7cf53 2 ∧ Cond.static mJ9_max_7cf53.1 ∈ zT := ⟨⟨zw89, zw642, by decide +kernel, by decide⟩, zw641⟩
def mX8_carryOutOne : zM := (yX8_carryOutOne, cX8_carryOutOne, 3, (some .boolean))
theorem csX8_carryOutOne : zCv mX8_carryOutOne 1 := ⟨⟨zw75, zw646, by decide +kernel, by decide⟩, zw645, zw23⟩
def mX5_isTrue : zM := (yX5_isTrue, cX5_isTrue, 5, (some .boolean))
theorem csX5_isTrue : zCv mX5_isTrue 2 := ⟨⟨zw81, zw650, by decide +kernel, by decide⟩, zw648, zw649⟩
def mX5_whenTrue : zM := (yX5_whenTrue, cX5_whenTrue, 2, (some .int))
theorem csX5_whenTrue : zCv mX5_whenTrue 1 := ⟨⟨zw81, zw654, by decide +kernel, by decide⟩, zw652, zw653⟩
def mX5_whenFalse : zM := (yX5_whenFalse, cX5_whenFalse, 2, (some .int))
theorem csX5_whenFalse : zCv mX5_whenFalse 1 := ⟨⟨zw81, zw658, by decide +kernel, by decide⟩, zw656, zw657⟩
def mX8_beginWork : zM := (yX8_beginWork, cX8_beginWork, 5, (some .boolean))
theorem csX8_beginWork : zCv mX8_beginWork 3 := ⟨⟨zw75, zw662, by decide +kernel, by decide⟩, zw661, zw24⟩
def mX4_isBarred : zM := (yX4_isBarred, cX4_isBarred, 3, (some .boolean))
theorem csX4_isBarred : zCv mX4_isBarred 2 := ⟨⟨zw76, zw666, by decide +kernel, by decide⟩, zw664, zw665⟩
def mX4_isIdle : zM := (yX4_isIdle, cX4_isIdle, 4, (some .boolean))
theorem csX4_isIdle : zCv mX4_isIdle 3 := ⟨⟨zw76, zw670, by decide +kernel, by decide⟩, zw668, zw669⟩
def mX4_handsFor : zM := (yX4_handsFor, cX4_handsFor, 1, (some .int))
theorem csX4_handsFor : zCw mX4_handsFor 1 ∧ Cond.static mX4_handsFor.1 ∈ zT := ⟨⟨zw76, zw673, by decide +kernel, by decide⟩, zw672⟩
def mX1_muster : zM := (yX1_muster, cX1_muster, 6, (some .int))
theorem csX1_muster : zCv mX1_muster 1 := ⟨⟨zw82, zw679, by decide +kernel, by decide⟩, zw677, zw678⟩
def mX1_isReady : zM := (yX1_isReady, cX1_isReady, 2, (some .boolean))
theorem csX1_isReady : zCv mX1_isReady 1 := ⟨⟨zw82, zw683, by decide +kernel, by decide⟩, zw682, zw25⟩
def mX1_isOnDeck : zM := (yX1_isOnDeck, cX1_isOnDeck, 2, (some .boolean))
theorem csX1_isOnDeck : zCv mX1_isOnDeck 1 := ⟨⟨zw82, zw687, by decide +kernel, by decide⟩, zw685, zw686⟩
def mX4_minutesFor : zM := (yX4_minutesFor, cX4_minutesFor, 4, (some .int))
theorem csX4_minutesFor : zCv mX4_minutesFor 3 := ⟨⟨zw76, zw691, by decide +kernel, by decide⟩, zw689, zw690⟩
def mJ9_abs_0f7a4 : zM := (yJ9_abs_0f7a4, cJ9_abs_0f7a4, 1, (some .int))
theorem csJ9_abs_0f7a4 : zCw mJ9_abs_0f7a4 1 ∧ Cond.static mJ9_abs_0f7a4.1 ∈ zT := ⟨⟨zw89, zw694, by decide +kernel, by decide⟩, zw693⟩
def mX1_assign : zM := (yX1_assign, cX1_assign, 6, none)
theorem csX1_assign : zCv mX1_assign 5 := ⟨⟨zw82, zw698, by decide +kernel, by decide⟩, zw696, zw697⟩
def mX0_turned : zM := (yX0_turned, cX0_turned, 4, (some .int))
theorem csX0_turned : zCw mX0_turned 2 ∧ Cond.static mX0_turned.1 ∈ zT := ⟨⟨zw88, zw702, by decide +kernel, by decide⟩, zw701⟩
def mX4_draw : zM := (yX4_draw, cX4_draw, 5, (some .int))
theorem csX4_draw : zCv mX4_draw 2 := ⟨⟨zw76, zw706, by decide +kernel, by decide⟩, zw704, zw705⟩
def mX4_drawOf : zM := (yX4_drawOf, cX4_drawOf, 6, (some .int))
theorem csX4_drawOf : zCv mX4_drawOf 3 := ⟨⟨zw76, zw710, by decide +kernel, by decide⟩, zw709, zw26⟩
def mX0_best : zM := (yX0_best, cX0_best, 1, (some .int))
theorem csX0_best : zCw mX0_best 1 ∧ Cond.static mX0_best.1 ∈ zT := ⟨⟨zw88, zw716, by decide +kernel, by decide⟩, zw715⟩
def mX0_pull : zM := (yX0_pull, cX0_pull, 1, (some .int))
theorem csX0_pull : zCw mX0_pull 1 ∧ Cond.static mX0_pull.1 ∈ zT := ⟨⟨zw88, zw719, by decide +kernel, by decide⟩, zw718⟩
def mX8_changeSpeed : zM := (yX8_changeSpeed, cX8_changeSpeed, 3, none)
theorem csX8_changeSpeed : zCv mX8_changeSpeed 1 := ⟨⟨zw75, zw725, by decide +kernel, by decide⟩, zw724, zw27⟩
def mX8_strainSails : zM := (yX8_strainSails, cX8_strainSails, 4, none)
theorem csX8_strainSails : zCv mX8_strainSails 1 := ⟨⟨zw75, zw731, by decide +kernel, by decide⟩, zw730, zw28⟩
def mX4_strain : zM := (yX4_strain, cX4_strain, 6, (some .boolean))
theorem csX4_strain : zCv mX4_strain 3 := ⟨⟨zw76, zw735, by decide +kernel, by decide⟩, zw733, zw734⟩
def mX4_strainRope : zM := (yX4_strainRope, cX4_strainRope, 3, none)
theorem csX4_strainRope : zCv mX4_strainRope 2 := ⟨⟨zw76, zw739, by decide +kernel, by decide⟩, zw738, zw29⟩
def mX4_lose : zM := (yX4_lose, cX4_lose, 3, none)
theorem csX4_lose : zCv mX4_lose 1 := ⟨⟨zw76, zw743, by decide +kernel, by decide⟩, zw741, zw742⟩
def mX0_east : zM := (yX0_east, cX0_east, 1, (some .int))
theorem csX0_east : zCw mX0_east 1 ∧ Cond.static mX0_east.1 ∈ zT := ⟨⟨zw88, zw746, by decide +kernel, by decide⟩, zw745⟩
def mX0_north : zM := (yX0_north, cX0_north, 1, (some .int))
theorem csX0_north : zCw mX0_north 1 ∧ Cond.static mX0_north.1 ∈ zT := ⟨⟨zw88, zw749, by decide +kernel, by decide⟩, zw748⟩
def mX8_sail : zM := (yX8_sail, cX8_sail, 3, (some .int))
theorem csX8_sail : zCv mX8_sail 2 := ⟨⟨zw75, zw756, by decide +kernel, by decide⟩, zw754, zw755⟩
def mX8_rope : zM := (yX8_rope, cX8_rope, 3, (some .int))
theorem csX8_rope : zCv mX8_rope 2 := ⟨⟨zw75, zw760, by decide +kernel, by decide⟩, zw758, zw759⟩
def mX8_braced : zM := (yX8_braced, cX8_braced, 2, (some .int))
theorem csX8_braced : zCv mX8_braced 1 := ⟨⟨zw75, zw764, by decide +kernel, by decide⟩, zw762, zw763⟩
def mX8_look : zM := (yX8_look, cX8_look, 2, (some .int))
theorem csX8_look : zCv mX8_look 1 := ⟨⟨zw75, zw768, by decide +kernel, by decide⟩, zw766, zw767⟩
def mX8_foretell : zM := (yX8_foretell, cX8_foretell, 4, (some .boolean))
theorem csX8_foretell : zCv mX8_foretell 3 := ⟨⟨zw75, zw772, by decide +kernel, by decide⟩, zw770, zw771⟩
def mX2_tell : zM := (yX2_tell, cX2_tell, 7, (some .boolean))
theorem csX2_tell : zCv mX2_tell 3 := ⟨⟨zw80, zw776, by decide +kernel, by decide⟩, zw774, zw775⟩
def mX8_plan : zM := (yX8_plan, cX8_plan, 3, (some .int))
theorem csX8_plan : zCv mX8_plan 2 := ⟨⟨zw75, zw786, by decide +kernel, by decide⟩, zw784, zw785⟩
def mX2_make : zM := (yX2_make, cX2_make, 4, (some .int))
theorem csX2_make : zCv mX2_make 2 := ⟨⟨zw80, zw790, by decide +kernel, by decide⟩, zw788, zw789⟩
def mX2_isPlace : zM := (yX2_isPlace, cX2_isPlace, 2, (some .boolean))
theorem csX2_isPlace : zCw mX2_isPlace 2 ∧ Cond.static mX2_isPlace.1 ∈ zT := ⟨⟨zw80, zw793, by decide +kernel, by decide⟩, zw792⟩
def mX2_countGlasses : zM := (yX2_countGlasses, cX2_countGlasses, 4, (some .int))
theorem csX2_countGlasses : zCv mX2_countGlasses 2 := ⟨⟨zw80, zw797, by decide +kernel, by decide⟩, zw796, zw30⟩
def mX2_putOnly : zM := (yX2_putOnly, cX2_putOnly, 4, none)
theorem csX2_putOnly : zCw mX2_putOnly 4 ∧ Cond.static mX2_putOnly.1 ∈ zT := ⟨⟨zw80, zw800, by decide +kernel, by decide⟩, zw799⟩
def mX2_clear : zM := (yX2_clear, cX2_clear, 3, none)
theorem csX2_clear : zCw mX2_clear 2 ∧ Cond.static mX2_clear.1 ∈ zT := ⟨⟨zw80, zw803, by decide +kernel, by decide⟩, zw802⟩
def mX2_has : zM := (yX2_has, cX2_has, 4, (some .boolean))
theorem csX2_has : zCw mX2_has 4 ∧ Cond.static mX2_has.1 ∈ zT := ⟨⟨zw80, zw806, by decide +kernel, by decide⟩, zw805⟩
def mX2_spread : zM := (yX2_spread, cX2_spread, 4, none)
theorem csX2_spread : zCv mX2_spread 1 := ⟨⟨zw80, zw810, by decide +kernel, by decide⟩, zw809, zw31⟩
def mX2_move : zM := (yX2_move, cX2_move, 11, none)
theorem csX2_move : zCw mX2_move 5 ∧ Cond.static mX2_move.1 ∈ zT := ⟨⟨zw80, zw813, by decide +kernel, by decide⟩, zw812⟩
def mX2_traceBack : zM := (yX2_traceBack, cX2_traceBack, 6, none)
theorem csX2_traceBack : zCv mX2_traceBack 2 := ⟨⟨zw80, zw819, by decide +kernel, by decide⟩, zw818, zw32⟩
def mX2_chooseCourses : zM := (yX2_chooseCourses, cX2_chooseCourses, 5, none)
theorem csX2_chooseCourses : zCv mX2_chooseCourses 0 := ⟨⟨zw80, zw823, by decide +kernel, by decide⟩, zw822, zw33⟩
def mX2_leastLeading : zM := (yX2_leastLeading, cX2_leastLeading, 6, (some .int))
theorem csX2_leastLeading : zCv mX2_leastLeading 3 := ⟨⟨zw80, zw827, by decide +kernel, by decide⟩, zw826, zw34⟩
def mX8_leg : zM := (yX8_leg, cX8_leg, 2, (some .int))
theorem csX8_leg : zCv mX8_leg 1 := ⟨⟨zw75, zw831, by decide +kernel, by decide⟩, zw829, zw830⟩
def mL_cell : zM := (yL_cell, cL_cell, 2, (some .int))
theorem csL_cell : zCw mL_cell 2 ∧ Cond.static mL_cell.1 ∈ zT := ⟨⟨zw74, zw834, by decide +kernel, by decide⟩, zw833⟩
def mX8_hand : zM := (yX8_hand, cX8_hand, 3, (some .int))
theorem csX8_hand : zCv mX8_hand 2 := ⟨⟨zw75, zw842, by decide +kernel, by decide⟩, zw840, zw841⟩
def mX1_isFree : zM := (yX1_isFree, cX1_isFree, 2, (some .boolean))
theorem csX1_isFree : zCv mX1_isFree 1 := ⟨⟨zw82, zw911, by decide +kernel, by decide⟩, zw909, zw910⟩
def mX1_endOf : zM := (yX1_endOf, cX1_endOf, 2, (some .int))
theorem csX1_endOf : zCv mX1_endOf 1 := ⟨⟨zw82, zw915, by decide +kernel, by decide⟩, zw913, zw914⟩
def mX9_thrown : zM := (yX9_thrown, cX9_thrown, 1, (some .int))
theorem csX9_thrown : zCv mX9_thrown 0 := ⟨⟨zw83, zw921, by decide +kernel, by decide⟩, zw919, zw920⟩
def mX9_feed : zM := (yX9_feed, cX9_feed, 7, (some .int))
theorem csX9_feed : zCv mX9_feed 3 := ⟨⟨zw83, zw925, by decide +kernel, by decide⟩, zw923, zw924⟩
def mX9_lay : zM := (yX9_lay, cX9_lay, 5, none)
theorem csX9_lay : zCv mX9_lay 1 := ⟨⟨zw83, zw930, by decide +kernel, by decide⟩, zw928, zw36⟩
def mX9_init : zM := (yX9_init, cX9_init, 3, none)
theorem csX9_init : zCw mX9_init 1 ∧ Cond.instanceMethod mX9_init.1 ∈ zT ∧ mX9_init.1.name = "<init>" := ⟨⟨zw83, zw934, by decide +kernel, by decide⟩, zw933, rfl⟩
def mX9_orders : zM := (yX9_orders, cX9_orders, 2, (some .int))
theorem csX9_orders : zCv mX9_orders 0 := ⟨⟨zw83, zw1117, by decide +kernel, by decide⟩, zw1115, zw1116⟩
def mX9_cutAll : zM := (yX9_cutAll, cX9_cutAll, 7, none)
theorem csX9_cutAll : zCv mX9_cutAll 0 := ⟨⟨zw83, zw1121, by decide +kernel, by decide⟩, zw1120, zw37⟩
def mX9_isLetter : zM := (yX9_isLetter, cX9_isLetter, 1, (some .boolean))
theorem csX9_isLetter : zCw mX9_isLetter 1 ∧ Cond.static mX9_isLetter.1 ∈ zT := ⟨⟨zw83, zw1124, by decide +kernel, by decide⟩, zw1123⟩
def mX9_rank : zM := (yX9_rank, cX9_rank, 1, (some .int))
theorem csX9_rank : zCw mX9_rank 1 ∧ Cond.static mX9_rank.1 ∈ zT := ⟨⟨zw83, zw1128, by decide +kernel, by decide⟩, zw1127⟩
def mX9_isDigit : zM := (yX9_isDigit, cX9_isDigit, 1, (some .boolean))
theorem csX9_isDigit : zCw mX9_isDigit 1 ∧ Cond.static mX9_isDigit.1 ∈ zT := ⟨⟨zw83, zw1131, by decide +kernel, by decide⟩, zw1130⟩
def mX9_isSignOf : zM := (yX9_isSignOf, cX9_isSignOf, 1, (some .boolean))
theorem csX9_isSignOf : zCw mX9_isSignOf 1 ∧ Cond.static mX9_isSignOf.1 ∈ zT := ⟨⟨zw83, zw1136, by decide +kernel, by decide⟩, zw1135⟩
def mX9_statement : zM := (yX9_statement, cX9_statement, 6, none)
theorem csX9_statement : zCv mX9_statement 0 := ⟨⟨zw83, zw1140, by decide +kernel, by decide⟩, zw1139, zw38⟩
def mX9_isWord : zM := (yX9_isWord, cX9_isWord, 2, (some .boolean))
theorem csX9_isWord : zCv mX9_isWord 1 := ⟨⟨zw83, zw1144, by decide +kernel, by decide⟩, zw1143, zw39⟩
def mX9_wrong : zM := (yX9_wrong, cX9_wrong, 2, none)
theorem csX9_wrong : zCv mX9_wrong 1 := ⟨⟨zw83, zw1148, by decide +kernel, by decide⟩, zw1147, zw40⟩
def mX9_here : zM := (yX9_here, cX9_here, 1, (some .int))
theorem csX9_here : zCv mX9_here 0 := ⟨⟨zw83, zw1152, by decide +kernel, by decide⟩, zw1151, zw41⟩
def mX9_choice : zM := (yX9_choice, cX9_choice, 5, none)
theorem csX9_choice : zCv mX9_choice 2 := ⟨⟨zw83, zw1156, by decide +kernel, by decide⟩, zw1155, zw42⟩
def mX9_expression : zM := (yX9_expression, cX9_expression, 3, none)
theorem csX9_expression : zCv mX9_expression 0 := ⟨⟨zw83, zw1160, by decide +kernel, by decide⟩, zw1159, zw43⟩
def mX9_sum : zM := (yX9_sum, cX9_sum, 3, none)
theorem csX9_sum : zCv mX9_sum 0 := ⟨⟨zw83, zw1164, by decide +kernel, by decide⟩, zw1163, zw44⟩
def mX9_part : zM := (yX9_part, cX9_part, 3, none)
theorem csX9_part : zCv mX9_part 0 := ⟨⟨zw83, zw1168, by decide +kernel, by decide⟩, zw1167, zw45⟩
def mX9_emit : zM := (yX9_emit, cX9_emit, 5, (some .int))
theorem csX9_emit : zCv mX9_emit 3 := ⟨⟨zw83, zw1172, by decide +kernel, by decide⟩, zw1171, zw46⟩
def mX9_isSign : zM := (yX9_isSign, cX9_isSign, 2, (some .boolean))
theorem csX9_isSign : zCv mX9_isSign 1 := ⟨⟨zw83, zw1176, by decide +kernel, by decide⟩, zw1175, zw47⟩
def mX9_block : zM := (yX9_block, cX9_block, 1, none)
theorem csX9_block : zCv mX9_block 0 := ⟨⟨zw83, zw1180, by decide +kernel, by decide⟩, zw1179, zw48⟩
def mX9_takeSign : zM := (yX9_takeSign, cX9_takeSign, 2, none)
theorem csX9_takeSign : zCv mX9_takeSign 1 := ⟨⟨zw83, zw1184, by decide +kernel, by decide⟩, zw1183, zw49⟩
def mX9_hasWord : zM := (yX9_hasWord, cX9_hasWord, 3, (some .boolean))
theorem csX9_hasWord : zCv mX9_hasWord 1 := ⟨⟨zw83, zw1188, by decide +kernel, by decide⟩, zw1187, zw50⟩
def mX9_takeNumber : zM := (yX9_takeNumber, cX9_takeNumber, 3, (some .int))
theorem csX9_takeNumber : zCv mX9_takeNumber 2 := ⟨⟨zw83, zw1192, by decide +kernel, by decide⟩, zw1191, zw51⟩
def mX9_wind : zM := (yX9_wind, cX9_wind, 4, (some .boolean))
theorem csX9_wind : zCv mX9_wind 3 := ⟨⟨zw83, zw1196, by decide +kernel, by decide⟩, zw1194, zw1195⟩
def mX9_minutes : zM := (yX9_minutes, cX9_minutes, 3, (some .int))
theorem csX9_minutes : zCv mX9_minutes 1 := ⟨⟨zw83, zw1201, by decide +kernel, by decide⟩, zw1199, zw1200⟩
def mX9_goes : zM := (yX9_goes, cX9_goes, 1, none)
theorem csX9_goes : zCv mX9_goes 0 := ⟨⟨zw83, zw1205, by decide +kernel, by decide⟩, zw1204, zw52⟩
def mX9_point : zM := (yX9_point, cX9_point, 2, (some .int))
theorem csX9_point : zCv mX9_point 0 := ⟨⟨zw83, zw1209, by decide +kernel, by decide⟩, zw1208, zw53⟩
def mX9_windNow : zM := (yX9_windNow, cX9_windNow, 3, (some .int))
theorem csX9_windNow : zCv mX9_windNow 0 := ⟨⟨zw83, zw1213, by decide +kernel, by decide⟩, zw1212, zw54⟩
def mX9_force : zM := (yX9_force, cX9_force, 2, (some .int))
theorem csX9_force : zCv mX9_force 0 := ⟨⟨zw83, zw1217, by decide +kernel, by decide⟩, zw1216, zw55⟩
def mX9_endWorks : zM := (yX9_endWorks, cX9_endWorks, 3, none)
theorem csX9_endWorks : zCv mX9_endWorks 0 := ⟨⟨zw83, zw1221, by decide +kernel, by decide⟩, zw1220, zw56⟩
def mX9_ended : zM := (yX9_ended, cX9_ended, 5, none)
theorem csX9_ended : zCv mX9_ended 3 := ⟨⟨zw83, zw1225, by decide +kernel, by decide⟩, zw1224, zw57⟩
def mX9_gives : zM := (yX9_gives, cX9_gives, 3, none)
theorem csX9_gives : zCv mX9_gives 1 := ⟨⟨zw83, zw1229, by decide +kernel, by decide⟩, zw1228, zw58⟩
def mX9_carries : zM := (yX9_carries, cX9_carries, 3, none)
theorem csX9_carries : zCv mX9_carries 0 := ⟨⟨zw83, zw1233, by decide +kernel, by decide⟩, zw1232, zw59⟩
def mX9_reckons : zM := (yX9_reckons, cX9_reckons, 5, none)
theorem csX9_reckons : zCv mX9_reckons 2 := ⟨⟨zw83, zw1237, by decide +kernel, by decide⟩, zw1236, zw60⟩
def mX9_partOf : zM := (yX9_partOf, cX9_partOf, 2, (some .int))
theorem csX9_partOf : zCv mX9_partOf 1 := ⟨⟨zw83, zw1241, by decide +kernel, by decide⟩, zw1240, zw61⟩
def mX9_apart : zM := (yX9_apart, cX9_apart, 3, (some .int))
theorem csX9_apart : zCw mX9_apart 2 ∧ Cond.static mX9_apart.1 ∈ zT := ⟨⟨zw83, zw1244, by decide +kernel, by decide⟩, zw1243⟩
def mX9_loadNow : zM := (yX9_loadNow, cX9_loadNow, 3, (some .int))
theorem csX9_loadNow : zCv mX9_loadNow 0 := ⟨⟨zw83, zw1248, by decide +kernel, by decide⟩, zw1247, zw62⟩
def mX9_begins : zM := (yX9_begins, cX9_begins, 9, (some .boolean))
theorem csX9_begins : zCv mX9_begins 3 := ⟨⟨zw83, zw1252, by decide +kernel, by decide⟩, zw1251, zw63⟩
def mX9_isBarred : zM := (yX9_isBarred, cX9_isBarred, 3, (some .boolean))
theorem csX9_isBarred : zCv mX9_isBarred 2 := ⟨⟨zw83, zw1256, by decide +kernel, by decide⟩, zw1255, zw64⟩
def mX9_isUnder : zM := (yX9_isUnder, cX9_isUnder, 5, (some .boolean))
theorem csX9_isUnder : zCv mX9_isUnder 2 := ⟨⟨zw83, zw1260, by decide +kernel, by decide⟩, zw1259, zw65⟩
def mX9_isMeant : zM := (yX9_isMeant, cX9_isMeant, 4, (some .boolean))
theorem csX9_isMeant : zCv mX9_isMeant 3 := ⟨⟨zw83, zw1264, by decide +kernel, by decide⟩, zw1263, zw66⟩
def mX9_isOnDeck : zM := (yX9_isOnDeck, cX9_isOnDeck, 2, (some .boolean))
theorem csX9_isOnDeck : zCv mX9_isOnDeck 1 := ⟨⟨zw83, zw1268, by decide +kernel, by decide⟩, zw1267, zw67⟩
def mX9_handsOf : zM := (yX9_handsOf, cX9_handsOf, 1, (some .int))
theorem csX9_handsOf : zCw mX9_handsOf 1 ∧ Cond.static mX9_handsOf.1 ∈ zT := ⟨⟨zw83, zw1271, by decide +kernel, by decide⟩, zw1270⟩
def mX9_minutesOf : zM := (yX9_minutesOf, cX9_minutesOf, 3, (some .int))
theorem csX9_minutesOf : zCw mX9_minutesOf 3 ∧ Cond.static mX9_minutesOf.1 ∈ zT := ⟨⟨zw83, zw1274, by decide +kernel, by decide⟩, zw1273⟩
def mX9_carriesOut : zM := (yX9_carriesOut, cX9_carriesOut, 3, none)
theorem csX9_carriesOut : zCv mX9_carriesOut 1 := ⟨⟨zw83, zw1278, by decide +kernel, by decide⟩, zw1277, zw68⟩
def mX9_sails : zM := (yX9_sails, cX9_sails, 9, none)
theorem csX9_sails : zCv mX9_sails 0 := ⟨⟨zw83, zw1282, by decide +kernel, by decide⟩, zw1281, zw69⟩
def mX9_area : zM := (yX9_area, cX9_area, 1, (some .int))
theorem csX9_area : zCw mX9_area 1 ∧ Cond.static mX9_area.1 ∈ zT := ⟨⟨zw83, zw1285, by decide +kernel, by decide⟩, zw1284⟩
def mX9_table : zM := (yX9_table, cX9_table, 1, (some .int))
theorem csX9_table : zCw mX9_table 1 ∧ Cond.static mX9_table.1 ∈ zT := ⟨⟨zw83, zw1288, by decide +kernel, by decide⟩, zw1287⟩
def mX9_loads : zM := (yX9_loads, cX9_loads, 5, none)
theorem csX9_loads : zCv mX9_loads 2 := ⟨⟨zw83, zw1292, by decide +kernel, by decide⟩, zw1291, zw70⟩
def mX9_dx : zM := (yX9_dx, cX9_dx, 1, (some .int))
theorem csX9_dx : zCw mX9_dx 1 ∧ Cond.static mX9_dx.1 ∈ zT := ⟨⟨zw83, zw1295, by decide +kernel, by decide⟩, zw1294⟩
def mX9_dy : zM := (yX9_dy, cX9_dy, 4, (some .int))
theorem csX9_dy : zCw mX9_dy 1 ∧ Cond.static mX9_dy.1 ∈ zT := ⟨⟨zw83, zw1298, by decide +kernel, by decide⟩, zw1297⟩
def mX9_sail : zM := (yX9_sail, cX9_sail, 3, (some .int))
theorem csX9_sail : zCv mX9_sail 2 := ⟨⟨zw83, zw1302, by decide +kernel, by decide⟩, zw1300, zw1301⟩
def mX9_rope : zM := (yX9_rope, cX9_rope, 3, (some .int))
theorem csX9_rope : zCv mX9_rope 2 := ⟨⟨zw83, zw1306, by decide +kernel, by decide⟩, zw1304, zw1305⟩
def mX9_braced : zM := (yX9_braced, cX9_braced, 2, (some .int))
theorem csX9_braced : zCv mX9_braced 1 := ⟨⟨zw83, zw1310, by decide +kernel, by decide⟩, zw1308, zw1309⟩
def mX9_hand : zM := (yX9_hand, cX9_hand, 3, (some .int))
theorem csX9_hand : zCv mX9_hand 2 := ⟨⟨zw83, zw1314, by decide +kernel, by decide⟩, zw1312, zw1313⟩
def mX9_look : zM := (yX9_look, cX9_look, 4, (some .int))
theorem csX9_look : zCv mX9_look 1 := ⟨⟨zw83, zw1318, by decide +kernel, by decide⟩, zw1316, zw1317⟩
def mX9_foretell : zM := (yX9_foretell, cX9_foretell, 4, (some .boolean))
theorem csX9_foretell : zCv mX9_foretell 3 := ⟨⟨zw83, zw1322, by decide +kernel, by decide⟩, zw1320, zw1321⟩
def mX9_plan : zM := (yX9_plan, cX9_plan, 9, (some .int))
theorem csX9_plan : zCv mX9_plan 2 := ⟨⟨zw83, zw1326, by decide +kernel, by decide⟩, zw1324, zw1325⟩
def mX9_marksForth : zM := (yX9_marksForth, cX9_marksForth, 5, none)
theorem csX9_marksForth : zCv mX9_marksForth 1 := ⟨⟨zw83, zw1330, by decide +kernel, by decide⟩, zw1329, zw71⟩
def mX9_leads : zM := (yX9_leads, cX9_leads, 7, (some .int))
theorem csX9_leads : zCv mX9_leads 3 := ⟨⟨zw83, zw1334, by decide +kernel, by decide⟩, zw1333, zw72⟩
def mX9_marksBack : zM := (yX9_marksBack, cX9_marksBack, 6, none)
theorem csX9_marksBack : zCv mX9_marksBack 1 := ⟨⟨zw83, zw1338, by decide +kernel, by decide⟩, zw1337, zw73⟩
def mX9_leg : zM := (yX9_leg, cX9_leg, 2, (some .int))
theorem csX9_leg : zCv mX9_leg 1 := ⟨⟨zw83, zw1342, by decide +kernel, by decide⟩, zw1340, zw1341⟩
end
