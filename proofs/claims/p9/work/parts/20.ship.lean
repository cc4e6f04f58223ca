def fX8_beginWork (I : zPI) (p1 : Int32) (p2 : Int32) (p3 : Int32) : Option (Int32 × zPI) := (fX4_isBarred I p1 p2).bind (fun q1 => (if q1 = 0 then (fX4_isIdle I p1 p2 p3).bind (fun q3 => (if q3 = 0 then (fX1_muster I (fX4_handsFor p1)).bind (fun q6 => (if q6.1 = (-1) then some (0, q6.2) else (fX4_minutesFor q6.2 p1 p2 p3).bind (fun q8 => (fX1_assign q6.2 q6.1 p1 p2 p3 ((q6.2 0 12) + q8)).bind (fun q10 => (fX4_mark q10 p1 p2 q6.1).bind (fun q12 => some (1, q12)))))) else some (1, I))) else some (0, I)))
set_option maxRecDepth 100000 in
theorem tX8_beginWork {X : Nat × (Nat → Int32)} {I : zPI} {L : zPL} {F : zPF} {a b : Nat} {c : Option Nat} (hR : zRin F a b c) (p1 : Int32) (p2 : Int32) (p3 : Int32) (r : Int32 × zPI) (h : fX8_beginWork I p1 p2 p3 = some r) : zAM X mX8_beginWork 3 [zr 0, zi p1, zi p2, zi p3] (zS0, I, L, F) (some (zi r.1)) (zS0, r.2, L, F) := by
  refine zAM_of (by decide) (Nat.le_of_ble_eq_true rfl) ⟨fun h => (by cases h), fun h => (by cases h)⟩ (Nat.le_refl _) (Nat.le_refl _) ?_
  unfold fX8_beginWork at h
  show zAW zE0 X mX8_beginWork 3 0 [(0, zr 0), (1, zi p1), (2, zi p2), (3, zi p3)] [] (zS0, I, L, F) (some (zi r.1)) (zS0, r.2, L, F)
  refine a_aload_n dX8_beginWork_0 rfl 0 rfl ?_
  refine a_getq dX8_beginWork_1 G_X8_10 zs_0 rfl (rf_0_1 hR) ?_
  refine a_iload_n dX8_beginWork_4 rfl 1 rfl ?_
  refine a_iload_n dX8_beginWork_5 rfl 2 rfl ?_
  obtain ⟨q1, hq1, h⟩ := zbind h
  refine a_callV dX8_beginWork_6 (tX4_isBarred hR _ _ _ hq1) csX4_isBarred zw662 (Nat.le_of_ble_eq_true rfl) zs_1 rfl rfl (Nat.le_of_ble_eq_true rfl) ⟨Nat.le_refl _, Nat.le_refl _⟩ (fun hb2 => ?_)
  refine a_if_eq (tgt := 14) dX8_beginWork_9 rfl (fun hc16 => ?_) (fun hc16 => ?_)
  · rw [if_pos hc16] at h
    refine a_aload_n dX8_beginWork_14 rfl 0 rfl ?_
    refine a_getq dX8_beginWork_15 G_X8_10 zs_0 rfl (rf_0_1 hR) ?_
    refine a_iload_n dX8_beginWork_18 rfl 1 rfl ?_
    refine a_iload_n dX8_beginWork_19 rfl 2 rfl ?_
    refine a_iload_n dX8_beginWork_20 rfl 3 rfl ?_
    obtain ⟨q3, hq3, h⟩ := zbind h
    refine a_callV dX8_beginWork_21 (tX4_isIdle hR _ _ _ _ hq3) csX4_isIdle zw666 (Nat.le_of_ble_eq_true rfl) zs_1 rfl rfl (Nat.le_of_ble_eq_true rfl) ⟨Nat.le_refl _, Nat.le_refl _⟩ (fun hb4 => ?_)
    refine a_if_eq (tgt := 29) dX8_beginWork_24 rfl (fun hc15 => ?_) (fun hc15 => ?_)
    · rw [if_pos hc15] at h
      refine a_aload_n dX8_beginWork_29 rfl 0 rfl ?_
      refine a_getq dX8_beginWork_30 G_X8_65 zs_0 rfl (rf_0_0 hR) ?_
      refine a_iload_n dX8_beginWork_33 rfl 1 rfl ?_
      refine a_callS dX8_beginWork_34 (tX4_handsFor hR _ _ rfl) csX4_handsFor zw670 (Nat.le_of_ble_eq_true rfl) rfl (Nat.le_of_ble_eq_true rfl) ⟨Nat.le_refl _, Nat.le_refl _⟩ (fun hb5 => ?_)
      obtain ⟨q6, hq6, h⟩ := zbind h
      refine a_callV dX8_beginWork_37 (tX1_muster hR _ _ hq6) csX1_muster zw673 (Nat.le_of_ble_eq_true rfl) zs_42 rfl rfl (Nat.le_of_ble_eq_true rfl) ⟨Nat.le_refl _, Nat.le_refl _⟩ (fun hb7 => ?_)
      refine a_istore dX8_beginWork_40 (by decide) rfl ?_
      refine a_iload dX8_beginWork_42 0 rfl ?_
      refine a_iconst (v := (-1)) dX8_beginWork_44 (by decide) ?_
      refine a_icmp_ne (tgt := 50) dX8_beginWork_45 rfl (fun hc14 => ?_) (fun hc14 => ?_)
      · rw [if_neg hc14] at h
        refine a_aload_n dX8_beginWork_50 rfl 1 rfl ?_
        refine a_getq dX8_beginWork_51 G_X8_65 zs_0 rfl (rf_0_0 hR) ?_
        refine a_iload dX8_beginWork_54 0 rfl ?_
        refine a_iload_n dX8_beginWork_56 rfl 2 rfl ?_
        refine a_iload_n dX8_beginWork_57 rfl 3 rfl ?_
        refine a_iload_n dX8_beginWork_58 rfl 4 rfl ?_
        refine a_aload_n dX8_beginWork_59 rfl 1 rfl ?_
        refine a_geti dX8_beginWork_60 G_X8_94 zs_0 rfl ?_
        refine a_aload_n dX8_beginWork_63 rfl 1 rfl ?_
        refine a_getq dX8_beginWork_64 G_X8_10 zs_0 rfl (rf_0_1 hR) ?_
        refine a_iload_n dX8_beginWork_67 rfl 2 rfl ?_
        refine a_iload_n dX8_beginWork_68 rfl 3 rfl ?_
        refine a_iload_n dX8_beginWork_69 rfl 4 rfl ?_
        obtain ⟨q8, hq8, h⟩ := zbind h
        refine a_callV dX8_beginWork_70 (tX4_minutesFor hR _ _ _ _ hq8) csX4_minutesFor zw685 (Nat.le_of_ble_eq_true rfl) zs_1 rfl rfl (Nat.le_of_ble_eq_true rfl) ⟨Nat.le_refl _, Nat.le_refl _⟩ (fun hb9 => ?_)
        refine a_iadd dX8_beginWork_73 ?_
        obtain ⟨q10, hq10, h⟩ := zbind h
        refine a_callV dX8_beginWork_74 (tX1_assign hR _ _ _ _ _ _ hq10) csX1_assign zw692 (Nat.le_of_ble_eq_true rfl) zs_42 rfl rfl (Nat.le_of_ble_eq_true rfl) ⟨Nat.le_refl _, Nat.le_refl _⟩ (fun hb11 => ?_)
        refine a_aload_n dX8_beginWork_77 rfl 1 rfl ?_
        refine a_getq dX8_beginWork_78 G_X8_10 zs_0 rfl (rf_0_1 hR) ?_
        refine a_iload_n dX8_beginWork_81 rfl 2 rfl ?_
        refine a_iload_n dX8_beginWork_82 rfl 3 rfl ?_
        refine a_iload dX8_beginWork_83 0 rfl ?_
        obtain ⟨q12, hq12, h⟩ := zbind h
        refine a_callV dX8_beginWork_85 (tX4_mark hR _ _ _ _ hq12) csX4_mark zw696 (Nat.le_of_ble_eq_true rfl) zs_1 rfl rfl (Nat.le_of_ble_eq_true rfl) ⟨Nat.le_refl _, Nat.le_refl _⟩ (fun hb13 => ?_)
        refine a_iconst (v := 1) dX8_beginWork_88 (by decide) ?_
        cases h
        exact a_iret dX8_beginWork_89 (by intro h; cases h) (znar_b1 rfl)
      · rw [if_pos hc14] at h
        refine a_iconst (v := 0) dX8_beginWork_48 (by decide) ?_
        cases h
        exact a_iret dX8_beginWork_49 (by intro h; cases h) (znar_b0 rfl)
    · rw [if_neg hc15] at h
      refine a_iconst (v := 1) dX8_beginWork_27 (by decide) ?_
      cases h
      exact a_iret dX8_beginWork_28 (by intro h; cases h) (znar_b1 rfl)
  · rw [if_neg hc16] at h
    refine a_iconst (v := 0) dX8_beginWork_12 (by decide) ?_
    cases h
    exact a_iret dX8_beginWork_13 (by intro h; cases h) (znar_b0 rfl)
def fX8_braced (I : zPI) (p1 : Int32) : Option (Int32) := (if p1 < 0 then some (-1) else (if p1 < 3 then (if zin p1 3 then some (I 5 p1.toNatClampNeg) else none) else some (-1)))
set_option maxRecDepth 100000 in
theorem tX8_braced {X : Nat × (Nat → Int32)} {I : zPI} {L : zPL} {F : zPF} {a b : Nat} {c : Option Nat} (hR : zRin F a b c) (p1 : Int32) (r : Int32) (h : fX8_braced I p1 = some r) : zAM X mX8_braced 0 [zr 0, zi p1] (zS0, I, L, F) (some (zi r)) (zS0, I, L, F) := by
  refine zAM_of (by decide) (Nat.le_of_ble_eq_true rfl) ⟨fun h => (by cases h), fun h => (by cases h)⟩ (Nat.le_refl _) (Nat.le_refl _) ?_
  unfold fX8_braced at h
  show zAW zE0 X mX8_braced 0 0 [(0, zr 0), (1, zi p1)] [] (zS0, I, L, F) (some (zi r)) (zS0, I, L, F)
  refine a_iload_n dX8_braced_0 rfl 1 rfl ?_
  refine a_if_lt (tgt := 9) dX8_braced_1 rfl (fun hc3 => ?_) (fun hc3 => ?_)
  · rw [if_pos hc3] at h
    refine a_iconst (v := (-1)) dX8_braced_9 (by decide) ?_
    refine a_goto (tgt := 22) dX8_braced_10 rfl ?_
    cases h
    exact a_iret dX8_braced_22 (by intro h; cases h) (znar_i rfl)
  · rw [if_neg hc3] at h
    refine a_iload_n dX8_braced_4 rfl 1 rfl ?_
    refine a_iconst (v := 3) dX8_braced_5 (by decide) ?_
    refine a_icmp_lt (tgt := 13) dX8_braced_6 rfl (fun hc2 => ?_) (fun hc2 => ?_)
    · rw [if_pos hc2] at h
      refine a_aload_n dX8_braced_13 rfl 0 rfl ?_
      refine a_getq dX8_braced_14 G_X8_10 zs_0 rfl (rf_0_1 hR) ?_
      refine a_getq dX8_braced_17 G_X8_112 zs_1 rfl (rf_1_3 hR) ?_
      refine a_iload_n dX8_braced_20 rfl 1 rfl ?_
      obtain ⟨hz1, h⟩ := zif h
      refine a_iald dX8_braced_21 zs_5 (zin_vp hz1) ?_
      cases h
      exact a_iret dX8_braced_22 (by intro h; cases h) (znar_i rfl)
    · rw [if_neg hc2] at h
      refine a_iconst (v := (-1)) dX8_braced_9 (by decide) ?_
      refine a_goto (tgt := 22) dX8_braced_10 rfl ?_
      cases h
      exact a_iret dX8_braced_22 (by intro h; cases h) (znar_i rfl)
def fX8_weighParts_65 (s1 : Int32) (s2 : Int32) (I : zPI) : Option (zPI) := (if zin s1 8 then (fX4_greatestWear (zu (zu (zu (zu I 23 s1.toNatClampNeg s2) 23 4 ((zu I 23 s1.toNatClampNeg s2) 0 15)) 23 5 ((zu (zu I 23 s1.toNatClampNeg s2) 23 4 ((zu I 23 s1.toNatClampNeg s2) 0 15)) 0 13)) 23 6 (zrm (((zu (zu (zu I 23 s1.toNatClampNeg s2) 23 4 ((zu I 23 s1.toNatClampNeg s2) 0 15)) 23 5 ((zu (zu I 23 s1.toNatClampNeg s2) 23 4 ((zu I 23 s1.toNatClampNeg s2) 0 15)) 0 13)) 0 12) / 60) 24))).bind (fun q10 => some (zu (zu (zu (zu (zu I 23 s1.toNatClampNeg s2) 23 4 ((zu I 23 s1.toNatClampNeg s2) 0 15)) 23 5 ((zu (zu I 23 s1.toNatClampNeg s2) 23 4 ((zu I 23 s1.toNatClampNeg s2) 0 15)) 0 13)) 23 6 (zrm (((zu (zu (zu I 23 s1.toNatClampNeg s2) 23 4 ((zu I 23 s1.toNatClampNeg s2) 0 15)) 23 5 ((zu (zu I 23 s1.toNatClampNeg s2) 23 4 ((zu I 23 s1.toNatClampNeg s2) 0 15)) 0 13)) 0 12) / 60) 24)) 23 7 q10)) else none)
def fX8_weighParts (I : zPI) : Option (zPI) := (if (fX0_isAback (fX0_apart (I 9 5) (I 0 13))) = 0 then fX8_weighParts_65 3 0 (zu (zu (zu I 23 0 1) 23 1 ((zu I 23 0 1) 9 6)) 23 2 ((zu (zu I 23 0 1) 23 1 ((zu I 23 0 1) 9 6)) 9 5)) else fX8_weighParts_65 3 1 (zu (zu (zu I 23 0 1) 23 1 ((zu I 23 0 1) 9 6)) 23 2 ((zu (zu I 23 0 1) 23 1 ((zu I 23 0 1) 9 6)) 9 5)))
set_option maxRecDepth 100000 in
theorem tX8_weighParts_65 {X : Nat × (Nat → Int32)} {I : zPI} {L : zPL} {F : zPF} {a b : Nat} {c : Option Nat} (hR : zRin F a b c) {r : zPI} {s1 : Int32} {s2 : Int32} (h : fX8_weighParts_65 s1 s2 I = some r) : zAW zE0 X mX8_weighParts 2 65 [(0, zr 0)] [zi s2, zi s1, zr 23] (zS0, I, L, F) none (zS0, r, L, F) := by
  unfold fX8_weighParts_65 at h
  obtain ⟨hz6, h⟩ := zif h
  refine a_iast dX8_weighParts_65 zs_23 (zin_vp hz6) ?_
  refine a_aload_n dX8_weighParts_66 rfl 0 rfl ?_
  refine a_getq dX8_weighParts_67 G_X8_48 zs_0 rfl (rf_0_6 hR) ?_
  refine a_iconst (v := 4) dX8_weighParts_70 (by decide) ?_
  refine a_aload_n dX8_weighParts_71 rfl 0 rfl ?_
  refine a_geti dX8_weighParts_72 G_X8_144 zs_0 rfl ?_
  refine a_iast dX8_weighParts_75 zs_23 (zin_vp (by decide)) ?_
  refine a_aload_n dX8_weighParts_76 rfl 0 rfl ?_
  refine a_getq dX8_weighParts_77 G_X8_48 zs_0 rfl (rf_0_6 hR) ?_
  refine a_iconst (v := 5) dX8_weighParts_80 (by decide) ?_
  refine a_aload_n dX8_weighParts_81 rfl 0 rfl ?_
  refine a_geti dX8_weighParts_82 G_X8_138 zs_0 rfl ?_
  refine a_iast dX8_weighParts_85 zs_23 (zin_vp (by decide)) ?_
  refine a_aload_n dX8_weighParts_86 rfl 0 rfl ?_
  refine a_getq dX8_weighParts_87 G_X8_48 zs_0 rfl (rf_0_6 hR) ?_
  refine a_bipush (v := 6) dX8_weighParts_90 (by decide) ?_
  refine a_aload_n dX8_weighParts_92 rfl 0 rfl ?_
  refine a_geti dX8_weighParts_93 G_X8_94 zs_0 rfl ?_
  refine a_bipush (v := 60) dX8_weighParts_96 (by decide) ?_
  refine a_idiv dX8_weighParts_98 (by decide) ?_
  refine a_bipush (v := 24) dX8_weighParts_99 (by decide) ?_
  refine a_irem dX8_weighParts_101 (by decide) ?_
  refine a_iast dX8_weighParts_102 zs_23 (zin_vp (by decide)) ?_
  refine a_aload_n dX8_weighParts_103 rfl 0 rfl ?_
  refine a_getq dX8_weighParts_104 G_X8_48 zs_0 rfl (rf_0_6 hR) ?_
  refine a_bipush (v := 7) dX8_weighParts_107 (by decide) ?_
  refine a_aload_n dX8_weighParts_109 rfl 0 rfl ?_
  refine a_getq dX8_weighParts_110 G_X8_10 zs_0 rfl (rf_0_1 hR) ?_
  obtain ⟨q10, hq10, h⟩ := zbind h
  refine a_callV dX8_weighParts_113 (tX4_greatestWear hR _ hq10) csX4_greatestWear zw635 (Nat.le_of_ble_eq_true rfl) zs_1 rfl rfl (Nat.le_of_ble_eq_true rfl) ⟨Nat.le_refl _, Nat.le_refl _⟩ (fun hb11 => ?_)
  refine a_iast dX8_weighParts_116 zs_23 (zin_vp (by decide)) ?_
  cases h
  exact a_vret dX8_weighParts_117 rfl
set_option maxRecDepth 100000 in
theorem tX8_weighParts {X : Nat × (Nat → Int32)} {I : zPI} {L : zPL} {F : zPF} {a b : Nat} {c : Option Nat} (hR : zRin F a b c) (r : zPI) (h : fX8_weighParts I = some r) : zAM X mX8_weighParts 2 [zr 0] (zS0, I, L, F) none (zS0, r, L, F) := by
  refine zAM_of (by decide) (Nat.le_of_ble_eq_true rfl) ⟨fun _ => rfl, fun _ => rfl⟩ (Nat.le_refl _) (Nat.le_refl _) ?_
  unfold fX8_weighParts at h
  show zAW zE0 X mX8_weighParts 2 0 [(0, zr 0)] [] (zS0, I, L, F) none (zS0, r, L, F)
  refine a_aload_n dX8_weighParts_0 rfl 0 rfl ?_
  refine a_getq dX8_weighParts_1 G_X8_19 zs_0 rfl (rf_0_2 hR) ?_
  refine a_geti dX8_weighParts_4 G_X8_168 zs_9 rfl ?_
  refine a_aload_n dX8_weighParts_7 rfl 0 rfl ?_
  refine a_geti dX8_weighParts_8 G_X8_138 zs_0 rfl ?_
  refine a_callS dX8_weighParts_11 (tX0_apart hR _ _ _ rfl) csX0_apart zw626 (Nat.le_of_ble_eq_true rfl) rfl (Nat.le_of_ble_eq_true rfl) ⟨Nat.le_refl _, Nat.le_refl _⟩ (fun hb1 => ?_)
  refine a_callS dX8_weighParts_14 (tX0_isAback hR _ _ rfl) csX0_isAback zw632 (Nat.le_of_ble_eq_true rfl) rfl (Nat.le_of_ble_eq_true rfl) ⟨Nat.le_refl _, Nat.le_refl _⟩ (fun hb2 => ?_)
  refine a_istore_n dX8_weighParts_17 rfl (by decide) rfl ?_
  refine a_aload_n dX8_weighParts_18 rfl 1 rfl ?_
  refine a_getq dX8_weighParts_19 G_X8_48 zs_0 rfl (rf_0_6 hR) ?_
  refine a_iconst (v := 0) dX8_weighParts_22 (by decide) ?_
  refine a_iconst (v := 1) dX8_weighParts_23 (by decide) ?_
  refine a_iast dX8_weighParts_24 zs_23 (zin_vp (by decide)) ?_
  refine a_aload_n dX8_weighParts_25 rfl 1 rfl ?_
  refine a_getq dX8_weighParts_26 G_X8_48 zs_0 rfl (rf_0_6 hR) ?_
  refine a_iconst (v := 1) dX8_weighParts_29 (by decide) ?_
  refine a_aload_n dX8_weighParts_30 rfl 1 rfl ?_
  refine a_getq dX8_weighParts_31 G_X8_19 zs_0 rfl (rf_0_2 hR) ?_
  refine a_geti dX8_weighParts_34 G_X8_171 zs_9 rfl ?_
  refine a_iast dX8_weighParts_37 zs_23 (zin_vp (by decide)) ?_
  refine a_aload_n dX8_weighParts_38 rfl 1 rfl ?_
  refine a_getq dX8_weighParts_39 G_X8_48 zs_0 rfl (rf_0_6 hR) ?_
  refine a_iconst (v := 2) dX8_weighParts_42 (by decide) ?_
  refine a_aload_n dX8_weighParts_43 rfl 1 rfl ?_
  refine a_getq dX8_weighParts_44 G_X8_19 zs_0 rfl (rf_0_2 hR) ?_
  refine a_geti dX8_weighParts_47 G_X8_168 zs_9 rfl ?_
  refine a_iast dX8_weighParts_50 zs_23 (zin_vp (by decide)) ?_
  refine a_aload_n dX8_weighParts_51 rfl 1 rfl ?_
  refine a_getq dX8_weighParts_52 G_X8_48 zs_0 rfl (rf_0_6 hR) ?_
  refine a_iconst (v := 3) dX8_weighParts_55 (by decide) ?_
  refine a_iload_n dX8_weighParts_56 rfl 0 rfl ?_
  refine a_if_eq (tgt := 64) dX8_weighParts_57 rfl (fun hc13 => ?_) (fun hc13 => ?_)
  · rw [if_pos hc13] at h
    refine a_iconst (v := 0) dX8_weighParts_64 (by decide) ?_
    refine a_sub [1] rfl ?_
    exact tX8_weighParts_65 hR h
  · rw [if_neg hc13] at h
    refine a_iconst (v := 1) dX8_weighParts_60 (by decide) ?_
    refine a_goto (tgt := 65) dX8_weighParts_61 rfl ?_
    refine a_sub [1] rfl ?_
    exact tX8_weighParts_65 hR h
def fX8_carryOutOne_79 (a : Nat) (v1 : Int32) (I : zPI) : Option (Int32 × zPI) := (fX5_isTrue a I v1).bind (fun q10 => (if q10 = 0 then (fX5_whenFalse a I v1).bind (fun q12 => some (1, zu I 0 9 q12)) else (fX5_whenTrue a I v1).bind (fun q14 => some (1, zu I 0 9 q14))))
def fX8_carryOutOne (a : Nat) (I : zPI) (p1 : Int32) : Option (Int32 × zPI) := (if zin p1 80 then (if zin p1 80 then (if (I (a + 1) p1.toNatClampNeg) = 4 then (if zin p1 80 then some (1, zu (zu I 0 14 (I (a + 2) p1.toNatClampNeg)) 0 9 ((zu I 0 14 (I (a + 2) p1.toNatClampNeg)) (a + 7) p1.toNatClampNeg)) else none) else if (I (a + 1) p1.toNatClampNeg) = 5 then (if zin p1 80 then some (1, zu (zu I 42 6 (I (a + 2) p1.toNatClampNeg)) 0 9 ((zu I 42 6 (I (a + 2) p1.toNatClampNeg)) (a + 7) p1.toNatClampNeg)) else none) else if (I (a + 1) p1.toNatClampNeg) = 6 then (if zin p1 80 then some (1, zu (zu I 0 10 (I (a + 2) p1.toNatClampNeg)) 0 9 ((zu I 0 10 (I (a + 2) p1.toNatClampNeg)) (a + 7) p1.toNatClampNeg)) else none) else if (I (a + 1) p1.toNatClampNeg) = 7 then fX8_carryOutOne_79 a p1 I else if (I (a + 1) p1.toNatClampNeg) = 8 then fX8_carryOutOne_79 a p1 I else (if zin p1 80 then (if zin p1 80 then (fX8_beginWork I (I (a + 1) p1.toNatClampNeg) (I (a + 2) p1.toNatClampNeg) (I (a + 3) p1.toNatClampNeg)).bind (fun q21 => (if q21.1 = 0 then some (0, q21.2) else (if zin p1 80 then some (1, zu q21.2 0 9 (q21.2 (a + 7) p1.toNatClampNeg)) else none))) else none) else none)) else none) else none)
set_option maxRecDepth 100000 in
theorem tX8_carryOutOne_79 {X : Nat × (Nat → Int32)} {I : zPI} {L : zPL} {F : zPF} {a b : Nat} {c : Option Nat} (hR : zRin F a b c) {r : Int32 × zPI} {v1 : Int32} (h : fX8_carryOutOne_79 a v1 I = some r) : zAW zE0 X mX8_carryOutOne 4 79 [(0, zr 0), (1, zi v1)] [] (zS0, I, L, F) (some (zi r.1)) (zS0, r.2, L, F) := by
  unfold fX8_carryOutOne_79 at h
  refine a_aload_n dX8_carryOutOne_79 rfl 0 rfl ?_
  refine a_aload_n dX8_carryOutOne_80 rfl 0 rfl ?_
  refine a_getq dX8_carryOutOne_81 G_X8_53 zs_0 rfl (rf_0_7 hR) ?_
  refine a_iload_n dX8_carryOutOne_84 rfl 1 rfl ?_
  refine a_aload_n dX8_carryOutOne_85 rfl 0 rfl ?_
  refine a_getq dX8_carryOutOne_86 G_X8_48 zs_0 rfl (rf_0_6 hR) ?_
  obtain ⟨q10, hq10, h⟩ := zbind h
  refine a_callV dX8_carryOutOne_89 (tX5_isTrue hR (zin_a hR) _ _ hq10) csX5_isTrue zw646 (Nat.le_of_ble_eq_true rfl) (zsc_o (zin_a hR)) rfl rfl (Nat.le_of_ble_eq_true rfl) ⟨Nat.le_refl _, Nat.le_refl _⟩ (fun hb11 => ?_)
  refine a_if_eq (tgt := 106) dX8_carryOutOne_92 rfl (fun hc16 => ?_) (fun hc16 => ?_)
  · rw [if_pos hc16] at h
    refine a_aload_n dX8_carryOutOne_106 rfl 0 rfl ?_
    refine a_getq dX8_carryOutOne_107 G_X8_53 zs_0 rfl (rf_0_7 hR) ?_
    refine a_iload_n dX8_carryOutOne_110 rfl 1 rfl ?_
    obtain ⟨q12, hq12, h⟩ := zbind h
    refine a_callV dX8_carryOutOne_111 (tX5_whenFalse hR (zin_a hR) _ _ hq12) csX5_whenFalse zw654 (Nat.le_of_ble_eq_true rfl) (zsc_o (zin_a hR)) rfl rfl (Nat.le_of_ble_eq_true rfl) ⟨Nat.le_refl _, Nat.le_refl _⟩ (fun hb13 => ?_)
    refine a_puti dX8_carryOutOne_114 F_X8_81 zs_0 rfl ⟨rfl, rfl⟩ ?_
    refine a_iconst (v := 1) dX8_carryOutOne_117 (by decide) ?_
    cases h
    exact a_iret dX8_carryOutOne_118 (by intro h; cases h) (znar_b1 rfl)
  · rw [if_neg hc16] at h
    refine a_aload_n dX8_carryOutOne_95 rfl 0 rfl ?_
    refine a_getq dX8_carryOutOne_96 G_X8_53 zs_0 rfl (rf_0_7 hR) ?_
    refine a_iload_n dX8_carryOutOne_99 rfl 1 rfl ?_
    obtain ⟨q14, hq14, h⟩ := zbind h
    refine a_callV dX8_carryOutOne_100 (tX5_whenTrue hR (zin_a hR) _ _ hq14) csX5_whenTrue zw650 (Nat.le_of_ble_eq_true rfl) (zsc_o (zin_a hR)) rfl rfl (Nat.le_of_ble_eq_true rfl) ⟨Nat.le_refl _, Nat.le_refl _⟩ (fun hb15 => ?_)
    refine a_goto (tgt := 114) dX8_carryOutOne_103 rfl ?_
    refine a_puti dX8_carryOutOne_114 F_X8_81 zs_0 rfl ⟨rfl, rfl⟩ ?_
    refine a_iconst (v := 1) dX8_carryOutOne_117 (by decide) ?_
    cases h
    exact a_iret dX8_carryOutOne_118 (by intro h; cases h) (znar_b1 rfl)
set_option maxRecDepth 100000 in
theorem tX8_carryOutOne {X : Nat × (Nat → Int32)} {I : zPI} {L : zPL} {F : zPF} {a b : Nat} {c : Option Nat} (hR : zRin F a b c) (p1 : Int32) (r : Int32 × zPI) (h : fX8_carryOutOne a I p1 = some r) : zAM X mX8_carryOutOne 4 [zr 0, zi p1] (zS0, I, L, F) (some (zi r.1)) (zS0, r.2, L, F) := by
  refine zAM_of (by decide) (Nat.le_of_ble_eq_true rfl) ⟨fun h => (by cases h), fun h => (by cases h)⟩ (Nat.le_refl _) (Nat.le_refl _) ?_
  unfold fX8_carryOutOne at h
  show zAW zE0 X mX8_carryOutOne 4 0 [(0, zr 0), (1, zi p1)] [] (zS0, I, L, F) (some (zi r.1)) (zS0, r.2, L, F)
  refine a_aload_n dX8_carryOutOne_0 rfl 0 rfl ?_
  refine a_getq dX8_carryOutOne_1 G_X8_53 zs_0 rfl (rf_0_7 hR) ?_
  refine a_getq dX8_carryOutOne_4 G_X8_251 (zsc_o (zin_a hR)) rfl (rsc_2 hR (zin_a hR)) ?_
  refine a_iload_n dX8_carryOutOne_7 rfl 1 rfl ?_
  obtain ⟨hz1, h⟩ := zif h
  refine a_iald dX8_carryOutOne_8 (zsa_2 (zin_a hR)) (zin_vp hz1) ?_
  refine a_istore_n dX8_carryOutOne_9 rfl (by decide) rfl ?_
  refine a_aload_n dX8_carryOutOne_10 rfl 1 rfl ?_
  refine a_getq dX8_carryOutOne_11 G_X8_53 zs_0 rfl (rf_0_7 hR) ?_
  refine a_getq dX8_carryOutOne_14 G_X8_254 (zsc_o (zin_a hR)) rfl (rsc_1 hR (zin_a hR)) ?_
  refine a_iload_n dX8_carryOutOne_17 rfl 2 rfl ?_
  obtain ⟨hz2, h⟩ := zif h
  refine a_iald dX8_carryOutOne_18 (zsa_1 (zin_a hR)) (zin_vp hz2) ?_
  by_cases hc5 : (I (a + 1) p1.toNatClampNeg) = 4
  · rw [if_pos hc5] at h
    refine a_tableIn (tgt := 52) dX8_carryOutOne_19 (by rw [hc5]; decide) (by rw [hc5]; decide) (by rw [hc5]; first | done | rfl) rfl ?_
    refine a_aload_n dX8_carryOutOne_52 rfl 1 rfl ?_
    refine a_iload_n dX8_carryOutOne_53 rfl 0 rfl ?_
    refine a_puti dX8_carryOutOne_54 F_X8_141 zs_0 rfl ⟨rfl, rfl⟩ ?_
    refine a_goto (tgt := 147) dX8_carryOutOne_57 rfl ?_
    refine a_aload_n dX8_carryOutOne_147 rfl 1 rfl ?_
    refine a_aload_n dX8_carryOutOne_148 rfl 1 rfl ?_
    refine a_getq dX8_carryOutOne_149 G_X8_53 zs_0 rfl (rf_0_7 hR) ?_
    refine a_getq dX8_carryOutOne_152 G_X8_273 (zsc_o (zin_a hR)) rfl (rsc_7 hR (zin_a hR)) ?_
    refine a_iload_n dX8_carryOutOne_155 rfl 2 rfl ?_
    obtain ⟨hz4, h⟩ := zif h
    refine a_iald dX8_carryOutOne_156 (zsa_7 (zin_a hR)) (zin_vp hz4) ?_
    refine a_puti dX8_carryOutOne_157 F_X8_81 zs_0 rfl ⟨rfl, rfl⟩ ?_
    refine a_iconst (v := 1) dX8_carryOutOne_160 (by decide) ?_
    cases h
    exact a_iret dX8_carryOutOne_161 (by intro h; cases h) (znar_b1 rfl)
  · rw [if_neg hc5] at h
    by_cases hc7 : (I (a + 1) p1.toNatClampNeg) = 5
    · rw [if_pos hc7] at h
      refine a_tableIn (tgt := 60) dX8_carryOutOne_19 (by rw [hc7]; decide) (by rw [hc7]; decide) (by rw [hc7]; first | done | rfl) rfl ?_
      refine a_aload_n dX8_carryOutOne_60 rfl 1 rfl ?_
      refine a_getq dX8_carryOutOne_61 G_X8_65 zs_0 rfl (rf_0_0 hR) ?_
      refine a_iload_n dX8_carryOutOne_64 rfl 0 rfl ?_
      refine a_puti dX8_carryOutOne_65 F_X8_153 zs_42 rfl ⟨rfl, rfl⟩ ?_
      refine a_goto (tgt := 147) dX8_carryOutOne_68 rfl ?_
      refine a_aload_n dX8_carryOutOne_147 rfl 1 rfl ?_
      refine a_aload_n dX8_carryOutOne_148 rfl 1 rfl ?_
      refine a_getq dX8_carryOutOne_149 G_X8_53 zs_0 rfl (rf_0_7 hR) ?_
      refine a_getq dX8_carryOutOne_152 G_X8_273 (zsc_o (zin_a hR)) rfl (rsc_7 hR (zin_a hR)) ?_
      refine a_iload_n dX8_carryOutOne_155 rfl 2 rfl ?_
      obtain ⟨hz6, h⟩ := zif h
      refine a_iald dX8_carryOutOne_156 (zsa_7 (zin_a hR)) (zin_vp hz6) ?_
      refine a_puti dX8_carryOutOne_157 F_X8_81 zs_0 rfl ⟨rfl, rfl⟩ ?_
      refine a_iconst (v := 1) dX8_carryOutOne_160 (by decide) ?_
      cases h
      exact a_iret dX8_carryOutOne_161 (by intro h; cases h) (znar_b1 rfl)
    · rw [if_neg hc7] at h
      by_cases hc9 : (I (a + 1) p1.toNatClampNeg) = 6
      · rw [if_pos hc9] at h
        refine a_tableIn (tgt := 71) dX8_carryOutOne_19 (by rw [hc9]; decide) (by rw [hc9]; decide) (by rw [hc9]; first | done | rfl) rfl ?_
        refine a_aload_n dX8_carryOutOne_71 rfl 1 rfl ?_
        refine a_iload_n dX8_carryOutOne_72 rfl 0 rfl ?_
        refine a_puti dX8_carryOutOne_73 F_X8_84 zs_0 rfl ⟨rfl, rfl⟩ ?_
        refine a_goto (tgt := 147) dX8_carryOutOne_76 rfl ?_
        refine a_aload_n dX8_carryOutOne_147 rfl 1 rfl ?_
        refine a_aload_n dX8_carryOutOne_148 rfl 1 rfl ?_
        refine a_getq dX8_carryOutOne_149 G_X8_53 zs_0 rfl (rf_0_7 hR) ?_
        refine a_getq dX8_carryOutOne_152 G_X8_273 (zsc_o (zin_a hR)) rfl (rsc_7 hR (zin_a hR)) ?_
        refine a_iload_n dX8_carryOutOne_155 rfl 2 rfl ?_
        obtain ⟨hz8, h⟩ := zif h
        refine a_iald dX8_carryOutOne_156 (zsa_7 (zin_a hR)) (zin_vp hz8) ?_
        refine a_puti dX8_carryOutOne_157 F_X8_81 zs_0 rfl ⟨rfl, rfl⟩ ?_
        refine a_iconst (v := 1) dX8_carryOutOne_160 (by decide) ?_
        cases h
        exact a_iret dX8_carryOutOne_161 (by intro h; cases h) (znar_b1 rfl)
      · rw [if_neg hc9] at h
        by_cases hc17 : (I (a + 1) p1.toNatClampNeg) = 7
        · rw [if_pos hc17] at h
          refine a_tableIn (tgt := 79) dX8_carryOutOne_19 (by rw [hc17]; decide) (by rw [hc17]; decide) (by rw [hc17]; first | done | rfl) rfl ?_
          refine a_sub [1, 2] rfl ?_
          exact tX8_carryOutOne_79 hR h
        · rw [if_neg hc17] at h
          by_cases hc18 : (I (a + 1) p1.toNatClampNeg) = 8
          · rw [if_pos hc18] at h
            refine a_tableIn (tgt := 79) dX8_carryOutOne_19 (by rw [hc18]; decide) (by rw [hc18]; decide) (by rw [hc18]; first | done | rfl) rfl ?_
            refine a_sub [1, 2] rfl ?_
            exact tX8_carryOutOne_79 hR h
          · rw [if_neg hc18] at h
            have hk9 : ((I (a + 1) p1.toNatClampNeg) : Int32).toInt < 4 ∨ 8 < ((I (a + 1) p1.toNatClampNeg) : Int32).toInt := by
              have := znot (k := 4) (z := 4) hc5 (by decide)
              have := znot (k := 5) (z := 5) hc7 (by decide)
              have := znot (k := 6) (z := 6) hc9 (by decide)
              have := znot (k := 7) (z := 7) hc17 (by decide)
              have := znot (k := 8) (z := 8) hc18 (by decide)
              omega
            refine a_tableOut (tgt := 119) dX8_carryOutOne_19 hk9 rfl ?_
            refine a_aload_n dX8_carryOutOne_119 rfl 1 rfl ?_
            refine a_aload_n dX8_carryOutOne_120 rfl 1 rfl ?_
            refine a_getq dX8_carryOutOne_121 G_X8_53 zs_0 rfl (rf_0_7 hR) ?_
            refine a_getq dX8_carryOutOne_124 G_X8_254 (zsc_o (zin_a hR)) rfl (rsc_1 hR (zin_a hR)) ?_
            refine a_iload_n dX8_carryOutOne_127 rfl 2 rfl ?_
            obtain ⟨hz19, h⟩ := zif h
            refine a_iald dX8_carryOutOne_128 (zsa_1 (zin_a hR)) (zin_vp hz19) ?_
            refine a_iload_n dX8_carryOutOne_129 rfl 0 rfl ?_
            refine a_aload_n dX8_carryOutOne_130 rfl 1 rfl ?_
            refine a_getq dX8_carryOutOne_131 G_X8_53 zs_0 rfl (rf_0_7 hR) ?_
            refine a_getq dX8_carryOutOne_134 G_X8_267 (zsc_o (zin_a hR)) rfl (rsc_3 hR (zin_a hR)) ?_
            refine a_iload_n dX8_carryOutOne_137 rfl 2 rfl ?_
            obtain ⟨hz20, h⟩ := zif h
            refine a_iald dX8_carryOutOne_138 (zsa_3 (zin_a hR)) (zin_vp hz20) ?_
            obtain ⟨q21, hq21, h⟩ := zbind h
            refine a_callV dX8_carryOutOne_139 (tX8_beginWork hR _ _ _ _ hq21) csX8_beginWork zw658 (Nat.le_of_ble_eq_true rfl) zs_0 rfl rfl (Nat.le_of_ble_eq_true rfl) ⟨Nat.le_refl _, Nat.le_refl _⟩ (fun hb22 => ?_)
            refine a_if_ne (tgt := 147) dX8_carryOutOne_142 rfl (fun hc24 => ?_) (fun hc24 => ?_)
            · rw [if_neg hc24] at h
              refine a_aload_n dX8_carryOutOne_147 rfl 1 rfl ?_
              refine a_aload_n dX8_carryOutOne_148 rfl 1 rfl ?_
              refine a_getq dX8_carryOutOne_149 G_X8_53 zs_0 rfl (rf_0_7 hR) ?_
              refine a_getq dX8_carryOutOne_152 G_X8_273 (zsc_o (zin_a hR)) rfl (rsc_7 hR (zin_a hR)) ?_
              refine a_iload_n dX8_carryOutOne_155 rfl 2 rfl ?_
              obtain ⟨hz23, h⟩ := zif h
              refine a_iald dX8_carryOutOne_156 (zsa_7 (zin_a hR)) (zin_vp hz23) ?_
              refine a_puti dX8_carryOutOne_157 F_X8_81 zs_0 rfl ⟨rfl, rfl⟩ ?_
              refine a_iconst (v := 1) dX8_carryOutOne_160 (by decide) ?_
              cases h
              exact a_iret dX8_carryOutOne_161 (by intro h; cases h) (znar_b1 rfl)
            · rw [if_pos hc24] at h
              refine a_iconst (v := 0) dX8_carryOutOne_145 (by decide) ?_
              cases h
              exact a_iret dX8_carryOutOne_146 (by intro h; cases h) (znar_b0 rfl)
def fX8_carryOut_6 (a : Nat) (K : zPI → Option (zPI)) : Nat → Int32 → zPI → Option (zPI)
  | 0, _, _ => none
  | n + 1, v1, I => (if 60 ≤ v1 then K I else (if (I 0 10) = 0 then (if (I a 0) ≤ (I 0 9) then K I else (fX8_carryOutOne a I (I 0 9)).bind (fun q3 => (if q3.1 = 0 then K q3.2 else fX8_carryOut_6 a K n (v1 + 1) (zu q3.2 0 11 ((q3.2 0 11) + 1))))) else K I))
def fX8_carryOut_63 (a : Nat) (I : zPI) : Option (zPI) := (if (I 0 10) ≤ 0 then some (I) else some (zu I 0 10 ((I 0 10) - 1)))
def fX8_carryOut (a : Nat) (I : zPI) : Option (zPI) := (fX8_weighParts I).bind (fun q1 => fX8_carryOut_6 a (fun I => fX8_carryOut_63 a I) zF 0 q1)
set_option maxRecDepth 100000 in
theorem tX8_carryOut_6 {X : Nat × (Nat → Int32)} {L : zPL} {F : zPF} {a b : Nat} {c : Option Nat} (hR : zRin F a b c) {r : zPI} {K : zPI → Option (zPI)} (hK : ∀ (I : zPI), K I = some r → zAW zE0 X mX8_carryOut 5 63 [(0, zr 0)] [] (zS0, I, L, F) none (zS0, r, L, F)) : ∀ (n : Nat) (v1 : Int32) (I : zPI), fX8_carryOut_6 a K n v1 I = some r → zAW zE0 X mX8_carryOut 5 6 [(0, zr 0), (1, zi v1)] [] (zS0, I, L, F) none (zS0, r, L, F) := by
  intro n
  induction n with
  | zero =>
    intro v1 I h
    rw [fX8_carryOut_6.eq_1] at h
    cases h
  | succ n ih =>
    intro v1 I h
    rw [fX8_carryOut_6.eq_2] at h
    refine a_iload_n dX8_carryOut_6 rfl 1 rfl ?_
    refine a_bipush (v := 60) dX8_carryOut_7 (by decide) ?_
    refine a_icmp_ge (tgt := 63) dX8_carryOut_9 rfl (fun hc8 => ?_) (fun hc8 => ?_)
    · rw [if_pos hc8] at h
      refine a_sub [0] rfl ?_
      exact hK _ h
    · rw [if_neg hc8] at h
      refine a_aload_n dX8_carryOut_12 rfl 0 rfl ?_
      refine a_geti dX8_carryOut_13 G_X8_84 zs_0 rfl ?_
      refine a_if_ne (tgt := 63) dX8_carryOut_16 rfl (fun hc7 => ?_) (fun hc7 => ?_)
      · rw [if_neg hc7] at h
        refine a_sub [0] rfl ?_
        exact hK _ h
      · rw [if_pos hc7] at h
        refine a_aload_n dX8_carryOut_19 rfl 0 rfl ?_
        refine a_geti dX8_carryOut_20 G_X8_81 zs_0 rfl ?_
        refine a_aload_n dX8_carryOut_23 rfl 0 rfl ?_
        refine a_getq dX8_carryOut_24 G_X8_53 zs_0 rfl (rf_0_7 hR) ?_
        refine a_geti dX8_carryOut_27 G_X8_165 (zsc_o (zin_a hR)) rfl ?_
        refine a_icmp_ge (tgt := 63) dX8_carryOut_30 rfl (fun hc6 => ?_) (fun hc6 => ?_)
        · rw [if_pos hc6] at h
          refine a_sub [0] rfl ?_
          exact hK _ h
        · rw [if_neg hc6] at h
          refine a_aload_n dX8_carryOut_33 rfl 0 rfl ?_
          refine a_aload_n dX8_carryOut_34 rfl 0 rfl ?_
          refine a_geti dX8_carryOut_35 G_X8_81 zs_0 rfl ?_
          obtain ⟨q3, hq3, h⟩ := zbind h
          refine a_callV dX8_carryOut_38 (tX8_carryOutOne hR _ _ hq3) csX8_carryOutOne zw642 (Nat.le_of_ble_eq_true rfl) zs_0 rfl rfl (Nat.le_of_ble_eq_true rfl) ⟨Nat.le_refl _, Nat.le_refl _⟩ (fun hb4 => ?_)
          refine a_if_ne (tgt := 47) dX8_carryOut_41 rfl (fun hc5 => ?_) (fun hc5 => ?_)
          · rw [if_neg hc5] at h
            refine a_aload_n dX8_carryOut_47 rfl 0 rfl ?_
            refine a_dup dX8_carryOut_48 rfl ?_
            refine a_geti dX8_carryOut_49 G_X8_162 zs_0 rfl ?_
            refine a_iconst (v := 1) dX8_carryOut_52 (by decide) ?_
            refine a_iadd dX8_carryOut_53 ?_
            refine a_puti dX8_carryOut_54 F_X8_162 zs_0 rfl ⟨rfl, rfl⟩ ?_
            refine a_iincK (k0 := 1) dX8_carryOut_57 (by decide) 1 rfl (by decide) rfl ?_
            refine a_goto (tgt := 6) dX8_carryOut_60 rfl ?_
            refine a_sub [1, 0] rfl ?_
            exact ih _ _ h
          · rw [if_pos hc5] at h
            refine a_goto (tgt := 63) dX8_carryOut_44 rfl ?_
            refine a_sub [0] rfl ?_
            exact hK _ h
set_option maxRecDepth 100000 in
theorem tX8_carryOut_63 {X : Nat × (Nat → Int32)} {I : zPI} {L : zPL} {F : zPF} {a b : Nat} {c : Option Nat} (hR : zRin F a b c) {r : zPI} (h : fX8_carryOut_63 a I = some r) : zAW zE0 X mX8_carryOut 5 63 [(0, zr 0)] [] (zS0, I, L, F) none (zS0, r, L, F) := by
  unfold fX8_carryOut_63 at h
  refine a_aload_n dX8_carryOut_63 rfl 0 rfl ?_
  refine a_geti dX8_carryOut_64 G_X8_84 zs_0 rfl ?_
  refine a_if_le (tgt := 80) dX8_carryOut_67 rfl (fun hc9 => ?_) (fun hc9 => ?_)
  · rw [if_pos hc9] at h
    cases h
    exact a_vret dX8_carryOut_80 rfl
  · rw [if_neg hc9] at h
    refine a_aload_n dX8_carryOut_70 rfl 0 rfl ?_
    refine a_dup dX8_carryOut_71 rfl ?_
    refine a_geti dX8_carryOut_72 G_X8_84 zs_0 rfl ?_
    refine a_iconst (v := 1) dX8_carryOut_75 (by decide) ?_
    refine a_isub dX8_carryOut_76 ?_
    refine a_puti dX8_carryOut_77 F_X8_84 zs_0 rfl ⟨rfl, rfl⟩ ?_
    cases h
    exact a_vret dX8_carryOut_80 rfl
set_option maxRecDepth 100000 in
theorem tX8_carryOut {X : Nat × (Nat → Int32)} {I : zPI} {L : zPL} {F : zPF} {a b : Nat} {c : Option Nat} (hR : zRin F a b c) (r : zPI) (h : fX8_carryOut a I = some r) : zAM X mX8_carryOut 5 [zr 0] (zS0, I, L, F) none (zS0, r, L, F) := by
  refine zAM_of (by decide) (Nat.le_of_ble_eq_true rfl) ⟨fun _ => rfl, fun _ => rfl⟩ (Nat.le_refl _) (Nat.le_refl _) ?_
  unfold fX8_carryOut at h
  show zAW zE0 X mX8_carryOut 5 0 [(0, zr 0)] [] (zS0, I, L, F) none (zS0, r, L, F)
  refine a_aload_n dX8_carryOut_0 rfl 0 rfl ?_
  obtain ⟨q1, hq1, h⟩ := zbind h
  refine a_callV dX8_carryOut_1 (tX8_weighParts hR _ hq1) csX8_weighParts zw622 (Nat.le_of_ble_eq_true rfl) zs_0 rfl rfl (Nat.le_of_ble_eq_true rfl) ⟨Nat.le_refl _, Nat.le_refl _⟩ (fun hb2 => ?_)
  refine a_iconst (v := 0) dX8_carryOut_4 (by decide) ?_
  refine a_istore_n dX8_carryOut_5 rfl (by decide) rfl ?_
  refine a_sub [1, 0] rfl ?_
  refine tX8_carryOut_6 hR (fun I h => ?_) zF _ _ h
  (try dsimp only at h)
  exact tX8_carryOut_63 hR h
def fX8_changeSpeed (I : zPI) (p1 : Int32) : zPI := (if (zmmax (-3) (zmmin 14 (p1 / 20))) ≤ (I 0 15) then (if (I 0 15) ≤ (zmmax (-3) (zmmin 14 (p1 / 20))) then (I) else (zu I 0 15 ((I 0 15) - 1))) else (zu I 0 15 ((I 0 15) + 1)))
set_option maxRecDepth 100000 in
theorem tX8_changeSpeed {X : Nat × (Nat → Int32)} {I : zPI} {L : zPL} {F : zPF} {a b : Nat} {c : Option Nat} (hR : zRin F a b c) (p1 : Int32) (r : zPI) (h : fX8_changeSpeed I p1 = r) : zAM X mX8_changeSpeed 1 [zr 0, zi p1] (zS0, I, L, F) none (zS0, r, L, F) := by
  refine zAM_of (by decide) (Nat.le_of_ble_eq_true rfl) ⟨fun _ => rfl, fun _ => rfl⟩ (Nat.le_refl _) (Nat.le_refl _) ?_
  unfold fX8_changeSpeed at h
  show zAW zE0 X mX8_changeSpeed 1 0 [(0, zr 0), (1, zi p1)] [] (zS0, I, L, F) none (zS0, r, L, F)
  refine a_bipush (v := (-3)) dX8_changeSpeed_0 (by decide) ?_
  refine a_bipush (v := 14) dX8_changeSpeed_2 (by decide) ?_
  refine a_iload_n dX8_changeSpeed_4 rfl 1 rfl ?_
  refine a_bipush (v := 20) dX8_changeSpeed_5 (by decide) ?_
  refine a_idiv dX8_changeSpeed_7 (by decide) ?_
  refine a_mmin dX8_changeSpeed_8 zw723 (Nat.le_of_ble_eq_true rfl) (Nat.le_of_ble_eq_true rfl) ⟨Nat.le_refl _, Nat.le_refl _⟩ ?_
  refine a_mmax dX8_changeSpeed_11 zw724 (Nat.le_of_ble_eq_true rfl) (Nat.le_of_ble_eq_true rfl) ⟨Nat.le_refl _, Nat.le_refl _⟩ ?_
  refine a_istore_n dX8_changeSpeed_14 rfl (by decide) rfl ?_
  refine a_aload_n dX8_changeSpeed_15 rfl 1 rfl ?_
  refine a_geti dX8_changeSpeed_16 G_X8_144 zs_0 rfl ?_
  refine a_iload_n dX8_changeSpeed_19 rfl 0 rfl ?_
  refine a_icmp_ge (tgt := 36) dX8_changeSpeed_20 rfl (fun hc2 => ?_) (fun hc2 => ?_)
  · rw [if_pos hc2] at h
    refine a_aload_n dX8_changeSpeed_36 rfl 1 rfl ?_
    refine a_geti dX8_changeSpeed_37 G_X8_144 zs_0 rfl ?_
    refine a_iload_n dX8_changeSpeed_40 rfl 0 rfl ?_
    refine a_icmp_le (tgt := 54) dX8_changeSpeed_41 rfl (fun hc1 => ?_) (fun hc1 => ?_)
    · rw [if_pos hc1] at h
      subst h
      exact a_vret dX8_changeSpeed_54 rfl
    · rw [if_neg hc1] at h
      refine a_aload_n dX8_changeSpeed_44 rfl 1 rfl ?_
      refine a_dup dX8_changeSpeed_45 rfl ?_
      refine a_geti dX8_changeSpeed_46 G_X8_144 zs_0 rfl ?_
      refine a_iconst (v := 1) dX8_changeSpeed_49 (by decide) ?_
      refine a_isub dX8_changeSpeed_50 ?_
      refine a_puti dX8_changeSpeed_51 F_X8_144 zs_0 rfl ⟨rfl, rfl⟩ ?_
      subst h
      exact a_vret dX8_changeSpeed_54 rfl
  · rw [if_neg hc2] at h
    refine a_aload_n dX8_changeSpeed_23 rfl 1 rfl ?_
    refine a_dup dX8_changeSpeed_24 rfl ?_
    refine a_geti dX8_changeSpeed_25 G_X8_144 zs_0 rfl ?_
    refine a_iconst (v := 1) dX8_changeSpeed_28 (by decide) ?_
    refine a_iadd dX8_changeSpeed_29 ?_
    refine a_puti dX8_changeSpeed_30 F_X8_144 zs_0 rfl ⟨rfl, rfl⟩ ?_
    refine a_goto (tgt := 54) dX8_changeSpeed_33 rfl ?_
    subst h
    exact a_vret dX8_changeSpeed_54 rfl
def fX8_endWorks_2 (K : zPI → Option (zPI)) : Nat → Int32 → zPI → Option (zPI)
  | 0, _, _ => none
  | n + 1, v1, I => (if (I 42 0) ≤ v1 then K I else (fX1_isDue I v1 (I 0 12)).bind (fun q1 => (if q1 = 0 then fX8_endWorks_2 K n (v1 + 1) I else (if zin v1 24 then (if zin v1 24 then (if zin v1 24 then (fX4_finish I (I 43 v1.toNatClampNeg) (I 44 v1.toNatClampNeg) (I 45 v1.toNatClampNeg)).bind (fun q6 => (fX1_release q6 v1).bind (fun q8 => fX8_endWorks_2 K n (v1 + 1) q8)) else none) else none) else none))))
def fX8_endWorks (I : zPI) : Option (zPI) := fX8_endWorks_2 (fun I => some (I)) zF 0 I
set_option maxRecDepth 100000 in
theorem tX8_endWorks_2 {X : Nat × (Nat → Int32)} {L : zPL} {F : zPF} {a b : Nat} {c : Option Nat} (hR : zRin F a b c) {r : zPI} {K : zPI → Option (zPI)} (hK : ∀ (I : zPI), K I = some r → zAW zE0 X mX8_endWorks 3 76 [] [] (zS0, I, L, F) none (zS0, r, L, F)) : ∀ (n : Nat) (v1 : Int32) (I : zPI), fX8_endWorks_2 K n v1 I = some r → zAW zE0 X mX8_endWorks 3 2 [(0, zr 0), (1, zi v1)] [] (zS0, I, L, F) none (zS0, r, L, F) := by
  intro n
  induction n with
  | zero =>
    intro v1 I h
    rw [fX8_endWorks_2.eq_1] at h
    cases h
  | succ n ih =>
    intro v1 I h
    rw [fX8_endWorks_2.eq_2] at h
    refine a_iload_n dX8_endWorks_2 rfl 1 rfl ?_
    refine a_aload_n dX8_endWorks_3 rfl 0 rfl ?_
    refine a_getq dX8_endWorks_4 G_X8_65 zs_0 rfl (rf_0_0 hR) ?_
    refine a_geti dX8_endWorks_7 G_X8_115 zs_42 rfl ?_
    refine a_icmp_ge (tgt := 76) dX8_endWorks_10 rfl (fun hc11 => ?_) (fun hc11 => ?_)
    · rw [if_pos hc11] at h
      refine a_sub [] rfl ?_
      exact hK _ h
    · rw [if_neg hc11] at h
      refine a_aload_n dX8_endWorks_13 rfl 0 rfl ?_
      refine a_getq dX8_endWorks_14 G_X8_65 zs_0 rfl (rf_0_0 hR) ?_
      refine a_iload_n dX8_endWorks_17 rfl 1 rfl ?_
      refine a_aload_n dX8_endWorks_18 rfl 0 rfl ?_
      refine a_geti dX8_endWorks_19 G_X8_94 zs_0 rfl ?_
      obtain ⟨q1, hq1, h⟩ := zbind h
      refine a_callV dX8_endWorks_22 (tX1_isDue hR _ _ _ hq1) csX1_isDue zw590 (Nat.le_of_ble_eq_true rfl) zs_42 rfl rfl (Nat.le_of_ble_eq_true rfl) ⟨Nat.le_refl _, Nat.le_refl _⟩ (fun hb2 => ?_)
      refine a_if_eq (tgt := 70) dX8_endWorks_25 rfl (fun hc10 => ?_) (fun hc10 => ?_)
      · rw [if_pos hc10] at h
        refine a_iincK (k0 := 1) dX8_endWorks_70 (by decide) 1 rfl (by decide) rfl ?_
        refine a_goto (tgt := 2) dX8_endWorks_73 rfl ?_
        refine a_sub [1, 0] rfl ?_
        exact ih _ _ h
      · rw [if_neg hc10] at h
        refine a_aload_n dX8_endWorks_28 rfl 0 rfl ?_
        refine a_getq dX8_endWorks_29 G_X8_10 zs_0 rfl (rf_0_1 hR) ?_
        refine a_aload_n dX8_endWorks_32 rfl 0 rfl ?_
        refine a_getq dX8_endWorks_33 G_X8_65 zs_0 rfl (rf_0_0 hR) ?_
        refine a_getq dX8_endWorks_36 G_X8_225 zs_42 rfl (rf_42_1 hR) ?_
        refine a_iload_n dX8_endWorks_39 rfl 1 rfl ?_
        obtain ⟨hz3, h⟩ := zif h
        refine a_iald dX8_endWorks_40 zs_43 (zin_vp hz3) ?_
        refine a_aload_n dX8_endWorks_41 rfl 0 rfl ?_
        refine a_getq dX8_endWorks_42 G_X8_65 zs_0 rfl (rf_0_0 hR) ?_
        refine a_getq dX8_endWorks_45 G_X8_228 zs_42 rfl (rf_42_2 hR) ?_
        refine a_iload_n dX8_endWorks_48 rfl 1 rfl ?_
        obtain ⟨hz4, h⟩ := zif h
        refine a_iald dX8_endWorks_49 zs_44 (zin_vp hz4) ?_
        refine a_aload_n dX8_endWorks_50 rfl 0 rfl ?_
        refine a_getq dX8_endWorks_51 G_X8_65 zs_0 rfl (rf_0_0 hR) ?_
        refine a_getq dX8_endWorks_54 G_X8_231 zs_42 rfl (rf_42_3 hR) ?_
        refine a_iload_n dX8_endWorks_57 rfl 1 rfl ?_
        obtain ⟨hz5, h⟩ := zif h
        refine a_iald dX8_endWorks_58 zs_45 (zin_vp hz5) ?_
        obtain ⟨q6, hq6, h⟩ := zbind h
        refine a_callV dX8_endWorks_59 (tX4_finish hR _ _ _ _ hq6) csX4_finish zw594 (Nat.le_of_ble_eq_true rfl) zs_1 rfl rfl (Nat.le_of_ble_eq_true rfl) ⟨Nat.le_refl _, Nat.le_refl _⟩ (fun hb7 => ?_)
        refine a_aload_n dX8_endWorks_62 rfl 0 rfl ?_
        refine a_getq dX8_endWorks_63 G_X8_65 zs_0 rfl (rf_0_0 hR) ?_
        refine a_iload_n dX8_endWorks_66 rfl 1 rfl ?_
        obtain ⟨q8, hq8, h⟩ := zbind h
        refine a_callV dX8_endWorks_67 (tX1_release hR _ _ hq8) csX1_release zw614 (Nat.le_of_ble_eq_true rfl) zs_42 rfl rfl (Nat.le_of_ble_eq_true rfl) ⟨Nat.le_refl _, Nat.le_refl _⟩ (fun hb9 => ?_)
        refine a_iincK (k0 := 1) dX8_endWorks_70 (by decide) 1 rfl (by decide) rfl ?_
        refine a_goto (tgt := 2) dX8_endWorks_73 rfl ?_
        refine a_sub [1, 0] rfl ?_
        exact ih _ _ h
set_option maxRecDepth 100000 in
theorem tX8_endWorks {X : Nat × (Nat → Int32)} {I : zPI} {L : zPL} {F : zPF} {a b : Nat} {c : Option Nat} (hR : zRin F a b c) (r : zPI) (h : fX8_endWorks I = some r) : zAM X mX8_endWorks 3 [zr 0] (zS0, I, L, F) none (zS0, r, L, F) := by
  refine zAM_of (by decide) (Nat.le_of_ble_eq_true rfl) ⟨fun _ => rfl, fun _ => rfl⟩ (Nat.le_refl _) (Nat.le_refl _) ?_
  unfold fX8_endWorks at h
  show zAW zE0 X mX8_endWorks 3 0 [(0, zr 0)] [] (zS0, I, L, F) none (zS0, r, L, F)
  refine a_iconst (v := 0) dX8_endWorks_0 (by decide) ?_
  refine a_istore_n dX8_endWorks_1 rfl (by decide) rfl ?_
  refine a_sub [1, 0] rfl ?_
  refine tX8_endWorks_2 hR (fun I h => ?_) zF _ _ h
  (try dsimp only at h)
  cases h
  exact a_vret dX8_endWorks_76 rfl
def fX8_feed (I : zPI) (p1 : Int64) (p3 : Int64) (p5 : Int64) : Option (Int32 × zPI) := (fX6_addBytes I p1).bind (fun q1 => (fX6_addBytes q1 p3).bind (fun q3 => (fX6_addBytes q3 p5).bind (fun q5 => some (q5 13 1, q5))))
set_option maxRecDepth 100000 in
theorem tX8_feed {X : Nat × (Nat → Int32)} {I : zPI} {L : zPL} {F : zPF} {a b : Nat} {c : Option Nat} (hR : zRin F a b c) (p1 : Int64) (p3 : Int64) (p5 : Int64) (r : Int32 × zPI) (h : fX8_feed I p1 p3 p5 = some r) : zAM X mX8_feed 1 [zr 0, zl p1, zl p3, zl p5] (zS0, I, L, F) (some (zi r.1)) (zS0, r.2, L, F) := by
  refine zAM_of (by decide) (Nat.le_of_ble_eq_true rfl) ⟨fun h => (by cases h), fun h => (by cases h)⟩ (Nat.le_refl _) (Nat.le_refl _) ?_
  unfold fX8_feed at h
  show zAW zE0 X mX8_feed 1 0 [(0, zr 0), (1, zl p1), (3, zl p3), (5, zl p5)] [] (zS0, I, L, F) (some (zi r.1)) (zS0, r.2, L, F)
  refine a_aload_n dX8_feed_0 rfl 0 rfl ?_
  refine a_getq dX8_feed_1 G_X8_26 zs_0 rfl (rf_0_3 hR) ?_
  refine a_lload_n dX8_feed_4 rfl 1 rfl ?_
  obtain ⟨q1, hq1, h⟩ := zbind h
  refine a_callV dX8_feed_5 (tX6_addBytes hR _ _ hq1) csX6_addBytes zw389 (Nat.le_of_ble_eq_true rfl) zs_13 rfl rfl (Nat.le_of_ble_eq_true rfl) ⟨Nat.le_refl _, Nat.le_refl _⟩ (fun hb2 => ?_)
  refine a_aload_n dX8_feed_8 rfl 0 rfl ?_
  refine a_getq dX8_feed_9 G_X8_26 zs_0 rfl (rf_0_3 hR) ?_
  refine a_lload_n dX8_feed_12 rfl 2 rfl ?_
  obtain ⟨q3, hq3, h⟩ := zbind h
  refine a_callV dX8_feed_13 (tX6_addBytes hR _ _ hq3) csX6_addBytes zw389 (Nat.le_of_ble_eq_true rfl) zs_13 rfl rfl (Nat.le_of_ble_eq_true rfl) ⟨Nat.le_refl _, Nat.le_refl _⟩ (fun hb4 => ?_)
  refine a_aload_n dX8_feed_16 rfl 0 rfl ?_
  refine a_getq dX8_feed_17 G_X8_26 zs_0 rfl (rf_0_3 hR) ?_
  refine a_lload dX8_feed_20 3 rfl ?_
  obtain ⟨q5, hq5, h⟩ := zbind h
  refine a_callV dX8_feed_22 (tX6_addBytes hR _ _ hq5) csX6_addBytes zw389 (Nat.le_of_ble_eq_true rfl) zs_13 rfl rfl (Nat.le_of_ble_eq_true rfl) ⟨Nat.le_refl _, Nat.le_refl _⟩ (fun hb6 => ?_)
  refine a_aload_n dX8_feed_25 rfl 0 rfl ?_
  refine a_getq dX8_feed_26 G_X8_26 zs_0 rfl (rf_0_3 hR) ?_
  refine a_geti dX8_feed_29 G_X8_73 zs_13 rfl ?_
  cases h
  exact a_iret dX8_feed_32 (by intro h; cases h) (znar_i rfl)
def fX8_foretell (I : zPI) (p1 : Int32) (p2 : Int32) (p3 : Int32) : Option (Int32 × zPI) := (fX2_tell I p1 p2 p3).bind (fun q1 => some (q1.1, q1.2))
set_option maxRecDepth 100000 in
theorem tX8_foretell {X : Nat × (Nat → Int32)} {I : zPI} {L : zPL} {F : zPF} {a b : Nat} {c : Option Nat} (hR : zRin F a b c) (p1 : Int32) (p2 : Int32) (p3 : Int32) (r : Int32 × zPI) (h : fX8_foretell I p1 p2 p3 = some r) : zAM X mX8_foretell 3 [zr 0, zi p1, zi p2, zi p3] (zS0, I, L, F) (some (zi r.1)) (zS0, r.2, L, F) := by
  refine zAM_of (by decide) (Nat.le_of_ble_eq_true rfl) ⟨fun h => (by cases h), fun h => (by cases h)⟩ (Nat.le_refl _) (Nat.le_refl _) ?_
  unfold fX8_foretell at h
  show zAW zE0 X mX8_foretell 3 0 [(0, zr 0), (1, zi p1), (2, zi p2), (3, zi p3)] [] (zS0, I, L, F) (some (zi r.1)) (zS0, r.2, L, F)
  refine a_aload_n dX8_foretell_0 rfl 0 rfl ?_
  refine a_getq dX8_foretell_1 G_X8_42 zs_0 rfl (rf_0_5 hR) ?_
  refine a_iload_n dX8_foretell_4 rfl 1 rfl ?_
  refine a_iload_n dX8_foretell_5 rfl 2 rfl ?_
  refine a_iload_n dX8_foretell_6 rfl 3 rfl ?_
  obtain ⟨q1, hq1, h⟩ := zbind h
  refine a_callV dX8_foretell_7 (tX2_tell hR _ _ _ _ hq1) csX2_tell zw770 (Nat.le_of_ble_eq_true rfl) zs_17 rfl rfl (Nat.le_of_ble_eq_true rfl) ⟨Nat.le_refl _, Nat.le_refl _⟩ (fun hb2 => ?_)
  cases h
  exact a_iret dX8_foretell_10 (by intro h; cases h) (znar_of rfl (hb2))
def fX8_hand (I : zPI) (p1 : Int32) (p2 : Int32) : Option (Option Int32) := (if p1 < 0 then some none else (if p1 < (I 42 0) then (if p2 = 0 then (fX1_isFree I p1).bind (fun q2 => (if q2 = 0 then some (some 1) else some (some 0))) else if p2 = 1 then (fX1_endOf I p1).bind (fun q6 => some (some q6)) else if p2 = 2 then (if (fX1_isOnDeck I p1) = 0 then some (some 0) else some (some 1)) else some none) else some none))
set_option maxRecDepth 100000 in
theorem tX8_hand {E : Nat × Nat × ((Nat → Prop) → Launch → State → Prop)} {X : Nat × (Nat → Int32)} {I : zPI} {L : zPL} {F : zPF} {a b : Nat} {c : Option Nat} (hR : zRin F a b c) (p1 : Int32) (p2 : Int32) (r : Option Int32) (h : fX8_hand I p1 p2 = some r) : zAW E X mX8_hand 1 0 [(0, zr 0), (1, zi p1), (2, zi p2)] [] (zS0, I, L, F) (Option.map zi r) (zS0, I, L, F) := by
  unfold fX8_hand at h
  refine a_iload_n dX8_hand_0 rfl 1 rfl ?_
  refine a_if_lt (tgt := 15) dX8_hand_1 rfl (fun hc13 => ?_) (fun hc13 => ?_)
  · rw [if_pos hc13] at h
    cases h
    exact a_thr ⟨dX8_hand_15, dX8_hand_18, Or.inl dX8_hand_19, dX8_hand_21, dX8_hand_24⟩ (by intro h; cases h)
  · rw [if_neg hc13] at h
    refine a_iload_n dX8_hand_4 rfl 1 rfl ?_
    refine a_aload_n dX8_hand_5 rfl 0 rfl ?_
    refine a_getq dX8_hand_6 G_X8_65 zs_0 rfl (rf_0_0 hR) ?_
    refine a_geti dX8_hand_9 G_X8_115 zs_42 rfl ?_
    refine a_icmp_lt (tgt := 25) dX8_hand_12 rfl (fun hc12 => ?_) (fun hc12 => ?_)
    · rw [if_pos hc12] at h
      refine a_iload_n dX8_hand_25 rfl 2 rfl ?_
      by_cases hc5 : p2 = 0
      · rw [if_pos hc5] at h
        refine a_tableIn (tgt := 52) dX8_hand_26 (by rw [hc5]; decide) (by rw [hc5]; decide) (by rw [hc5]; first | done | rfl) rfl ?_
        refine a_aload_n dX8_hand_52 rfl 0 rfl ?_
        refine a_getq dX8_hand_53 G_X8_65 zs_0 rfl (rf_0_0 hR) ?_
        refine a_iload_n dX8_hand_56 rfl 1 rfl ?_
        obtain ⟨q2, hq2, h⟩ := zbind h
        refine a_callV dX8_hand_57 (tX1_isFree hR _ _ hq2) csX1_isFree zw905 (Nat.le_of_ble_eq_true rfl) zs_42 rfl rfl (Nat.le_of_ble_eq_true rfl) ⟨Nat.le_refl _, Nat.le_refl _⟩ (fun hb3 => ?_)
        refine a_if_eq (tgt := 67) dX8_hand_60 rfl (fun hc4 => ?_) (fun hc4 => ?_)
        · rw [if_pos hc4] at h
          refine a_iconst (v := 1) dX8_hand_67 (by decide) ?_
          cases h
          exact a_iret dX8_hand_68 (by intro h; cases h) (znar_i rfl)
        · rw [if_neg hc4] at h
          refine a_iconst (v := 0) dX8_hand_63 (by decide) ?_
          refine a_goto (tgt := 68) dX8_hand_64 rfl ?_
          cases h
          exact a_iret dX8_hand_68 (by intro h; cases h) (znar_i rfl)
      · rw [if_neg hc5] at h
        by_cases hc8 : p2 = 1
        · rw [if_pos hc8] at h
          refine a_tableIn (tgt := 69) dX8_hand_26 (by rw [hc8]; decide) (by rw [hc8]; decide) (by rw [hc8]; first | done | rfl) rfl ?_
          refine a_aload_n dX8_hand_69 rfl 0 rfl ?_
          refine a_getq dX8_hand_70 G_X8_65 zs_0 rfl (rf_0_0 hR) ?_
          refine a_iload_n dX8_hand_73 rfl 1 rfl ?_
          obtain ⟨q6, hq6, h⟩ := zbind h
          refine a_callV dX8_hand_74 (tX1_endOf hR _ _ hq6) csX1_endOf zw909 (Nat.le_of_ble_eq_true rfl) zs_42 rfl rfl (Nat.le_of_ble_eq_true rfl) ⟨Nat.le_refl _, Nat.le_refl _⟩ (fun hb7 => ?_)
          cases h
          exact a_iret dX8_hand_77 (by intro h; cases h) (znar_i rfl)
        · rw [if_neg hc8] at h
          by_cases hc11 : p2 = 2
          · rw [if_pos hc11] at h
            refine a_tableIn (tgt := 78) dX8_hand_26 (by rw [hc11]; decide) (by rw [hc11]; decide) (by rw [hc11]; first | done | rfl) rfl ?_
            refine a_aload_n dX8_hand_78 rfl 0 rfl ?_
            refine a_getq dX8_hand_79 G_X8_65 zs_0 rfl (rf_0_0 hR) ?_
            refine a_iload_n dX8_hand_82 rfl 1 rfl ?_
            refine a_callV dX8_hand_83 (tX1_isOnDeck hR _ _ rfl) csX1_isOnDeck zw913 (Nat.le_of_ble_eq_true rfl) zs_42 rfl rfl (Nat.le_of_ble_eq_true rfl) ⟨Nat.le_refl _, Nat.le_refl _⟩ (fun hb9 => ?_)
            refine a_if_eq (tgt := 93) dX8_hand_86 rfl (fun hc10 => ?_) (fun hc10 => ?_)
            · rw [if_pos hc10] at h
              refine a_iconst (v := 0) dX8_hand_93 (by decide) ?_
              cases h
              exact a_iret dX8_hand_94 (by intro h; cases h) (znar_i rfl)
            · rw [if_neg hc10] at h
              refine a_iconst (v := 1) dX8_hand_89 (by decide) ?_
              refine a_goto (tgt := 94) dX8_hand_90 rfl ?_
              cases h
              exact a_iret dX8_hand_94 (by intro h; cases h) (znar_i rfl)
          · rw [if_neg hc11] at h
            have hk9 : (p2 : Int32).toInt < 0 ∨ 2 < (p2 : Int32).toInt := by
              have := znot (k := 0) (z := 0) hc5 (by decide)
              have := znot (k := 1) (z := 1) hc8 (by decide)
              have := znot (k := 2) (z := 2) hc11 (by decide)
              omega
            refine a_tableOut (tgt := 95) dX8_hand_26 hk9 rfl ?_
            cases h
            exact a_thr ⟨dX8_hand_95, dX8_hand_98, Or.inr dX8_hand_99, dX8_hand_101, dX8_hand_104⟩ (by intro h; cases h)
    · rw [if_neg hc12] at h
      cases h
      exact a_thr ⟨dX8_hand_15, dX8_hand_18, Or.inl dX8_hand_19, dX8_hand_21, dX8_hand_24⟩ (by intro h; cases h)
def fX8_leg (I : zPI) (p1 : Int32) : Option (Int32) := (if p1 < 0 then some (-1) else (if p1 < (I 17 5) then (if zin p1 8 then some (I 22 p1.toNatClampNeg) else none) else some (-1)))
set_option maxRecDepth 100000 in
theorem tX8_leg {X : Nat × (Nat → Int32)} {I : zPI} {L : zPL} {F : zPF} {a b : Nat} {c : Option Nat} (hR : zRin F a b c) (p1 : Int32) (r : Int32) (h : fX8_leg I p1 = some r) : zAM X mX8_leg 0 [zr 0, zi p1] (zS0, I, L, F) (some (zi r)) (zS0, I, L, F) := by
  refine zAM_of (by decide) (Nat.le_of_ble_eq_true rfl) ⟨fun h => (by cases h), fun h => (by cases h)⟩ (Nat.le_refl _) (Nat.le_refl _) ?_
  unfold fX8_leg at h
  show zAW zE0 X mX8_leg 0 0 [(0, zr 0), (1, zi p1)] [] (zS0, I, L, F) (some (zi r)) (zS0, I, L, F)
  refine a_iload_n dX8_leg_0 rfl 1 rfl ?_
  refine a_if_lt (tgt := 15) dX8_leg_1 rfl (fun hc3 => ?_) (fun hc3 => ?_)
  · rw [if_pos hc3] at h
    refine a_iconst (v := (-1)) dX8_leg_15 (by decide) ?_
    refine a_goto (tgt := 28) dX8_leg_16 rfl ?_
    cases h
    exact a_iret dX8_leg_28 (by intro h; cases h) (znar_i rfl)
  · rw [if_neg hc3] at h
    refine a_iload_n dX8_leg_4 rfl 1 rfl ?_
    refine a_aload_n dX8_leg_5 rfl 0 rfl ?_
    refine a_getq dX8_leg_6 G_X8_42 zs_0 rfl (rf_0_5 hR) ?_
    refine a_geti dX8_leg_9 G_X8_179 zs_17 rfl ?_
    refine a_icmp_lt (tgt := 19) dX8_leg_12 rfl (fun hc2 => ?_) (fun hc2 => ?_)
    · rw [if_pos hc2] at h
      refine a_aload_n dX8_leg_19 rfl 0 rfl ?_
      refine a_getq dX8_leg_20 G_X8_42 zs_0 rfl (rf_0_5 hR) ?_
      refine a_getq dX8_leg_23 G_X8_182 zs_17 rfl (rf_17_4 hR) ?_
      refine a_iload_n dX8_leg_26 rfl 1 rfl ?_
      obtain ⟨hz1, h⟩ := zif h
      refine a_iald dX8_leg_27 zs_22 (zin_vp hz1) ?_
      cases h
      exact a_iret dX8_leg_28 (by intro h; cases h) (znar_i rfl)
    · rw [if_neg hc2] at h
      refine a_iconst (v := (-1)) dX8_leg_15 (by decide) ?_
      refine a_goto (tgt := 28) dX8_leg_16 rfl ?_
      cases h
      exact a_iret dX8_leg_28 (by intro h; cases h) (znar_i rfl)
def fX8_look (a : Nat) (I : zPI) (p1 : Int32) : Int32 := (if p1 = 0 then (I 0 12) else if p1 = 1 then (I 0 13) else if p1 = 2 then (I 0 14) else if p1 = 3 then (I 0 15) else if p1 = 4 then (I 0 16) else if p1 = 5 then (I 0 17) else if p1 = 6 then (I 42 6) else if p1 = 7 then (I 42 7) else if p1 = 8 then (I 1 7) else if p1 = 9 then (I 0 11) else if p1 = 10 then (I a 0) else if p1 = 11 then (if (I 0 9) < (I a 0) then 0 else (if (I 0 10) = 0 then 1 else 0)) else if p1 = 12 then (I 13 1) else if p1 = 13 then (I 9 5) else if p1 = 14 then (I 9 6) else (-1))
set_option maxRecDepth 100000 in
theorem tX8_look {X : Nat × (Nat → Int32)} {I : zPI} {L : zPL} {F : zPF} {a b : Nat} {c : Option Nat} (hR : zRin F a b c) (p1 : Int32) (r : Int32) (h : fX8_look a I p1 = r) : zAM X mX8_look 0 [zr 0, zi p1] (zS0, I, L, F) (some (zi r)) (zS0, I, L, F) := by
  refine zAM_of (by decide) (Nat.le_of_ble_eq_true rfl) ⟨fun h => (by cases h), fun h => (by cases h)⟩ (Nat.le_refl _) (Nat.le_refl _) ?_
  unfold fX8_look at h
  show zAW zE0 X mX8_look 0 0 [(0, zr 0), (1, zi p1)] [] (zS0, I, L, F) (some (zi r)) (zS0, I, L, F)
  refine a_iload_n dX8_look_0 rfl 1 rfl ?_
  by_cases hc2 : p1 = 0
  · rw [if_pos hc2] at h
    refine a_tableIn (tgt := 76) dX8_look_1 (by rw [hc2]; decide) (by rw [hc2]; decide) (by rw [hc2]; first | done | rfl) rfl ?_
    refine a_aload_n dX8_look_76 rfl 0 rfl ?_
    refine a_geti dX8_look_77 G_X8_94 zs_0 rfl ?_
    subst h
    exact a_iret dX8_look_80 (by intro h; cases h) (znar_i rfl)
  · rw [if_neg hc2] at h
    by_cases hc3 : p1 = 1
    · rw [if_pos hc3] at h
      refine a_tableIn (tgt := 81) dX8_look_1 (by rw [hc3]; decide) (by rw [hc3]; decide) (by rw [hc3]; first | done | rfl) rfl ?_
      refine a_aload_n dX8_look_81 rfl 0 rfl ?_
      refine a_geti dX8_look_82 G_X8_138 zs_0 rfl ?_
      subst h
      exact a_iret dX8_look_85 (by intro h; cases h) (znar_i rfl)
    · rw [if_neg hc3] at h
      by_cases hc4 : p1 = 2
      · rw [if_pos hc4] at h
        refine a_tableIn (tgt := 86) dX8_look_1 (by rw [hc4]; decide) (by rw [hc4]; decide) (by rw [hc4]; first | done | rfl) rfl ?_
        refine a_aload_n dX8_look_86 rfl 0 rfl ?_
        refine a_geti dX8_look_87 G_X8_141 zs_0 rfl ?_
        subst h
        exact a_iret dX8_look_90 (by intro h; cases h) (znar_i rfl)
      · rw [if_neg hc4] at h
        by_cases hc5 : p1 = 3
        · rw [if_pos hc5] at h
          refine a_tableIn (tgt := 91) dX8_look_1 (by rw [hc5]; decide) (by rw [hc5]; decide) (by rw [hc5]; first | done | rfl) rfl ?_
          refine a_aload_n dX8_look_91 rfl 0 rfl ?_
          refine a_geti dX8_look_92 G_X8_144 zs_0 rfl ?_
          subst h
          exact a_iret dX8_look_95 (by intro h; cases h) (znar_i rfl)
        · rw [if_neg hc5] at h
          by_cases hc6 : p1 = 4
          · rw [if_pos hc6] at h
            refine a_tableIn (tgt := 96) dX8_look_1 (by rw [hc6]; decide) (by rw [hc6]; decide) (by rw [hc6]; first | done | rfl) rfl ?_
            refine a_aload_n dX8_look_96 rfl 0 rfl ?_
            refine a_geti dX8_look_97 G_X8_147 zs_0 rfl ?_
            subst h
            exact a_iret dX8_look_100 (by intro h; cases h) (znar_i rfl)
          · rw [if_neg hc6] at h
            by_cases hc7 : p1 = 5
            · rw [if_pos hc7] at h
              refine a_tableIn (tgt := 101) dX8_look_1 (by rw [hc7]; decide) (by rw [hc7]; decide) (by rw [hc7]; first | done | rfl) rfl ?_
              refine a_aload_n dX8_look_101 rfl 0 rfl ?_
              refine a_geti dX8_look_102 G_X8_150 zs_0 rfl ?_
              subst h
              exact a_iret dX8_look_105 (by intro h; cases h) (znar_i rfl)
            · rw [if_neg hc7] at h
              by_cases hc8 : p1 = 6
              · rw [if_pos hc8] at h
                refine a_tableIn (tgt := 106) dX8_look_1 (by rw [hc8]; decide) (by rw [hc8]; decide) (by rw [hc8]; first | done | rfl) rfl ?_
                refine a_aload_n dX8_look_106 rfl 0 rfl ?_
                refine a_getq dX8_look_107 G_X8_65 zs_0 rfl (rf_0_0 hR) ?_
                refine a_geti dX8_look_110 G_X8_153 zs_42 rfl ?_
                subst h
                exact a_iret dX8_look_113 (by intro h; cases h) (znar_i rfl)
              · rw [if_neg hc8] at h
                by_cases hc9 : p1 = 7
                · rw [if_pos hc9] at h
                  refine a_tableIn (tgt := 114) dX8_look_1 (by rw [hc9]; decide) (by rw [hc9]; decide) (by rw [hc9]; first | done | rfl) rfl ?_
                  refine a_aload_n dX8_look_114 rfl 0 rfl ?_
                  refine a_getq dX8_look_115 G_X8_65 zs_0 rfl (rf_0_0 hR) ?_
                  refine a_geti dX8_look_118 G_X8_156 zs_42 rfl ?_
                  subst h
                  exact a_iret dX8_look_121 (by intro h; cases h) (znar_i rfl)
                · rw [if_neg hc9] at h
                  by_cases hc10 : p1 = 8
                  · rw [if_pos hc10] at h
                    refine a_tableIn (tgt := 122) dX8_look_1 (by rw [hc10]; decide) (by rw [hc10]; decide) (by rw [hc10]; first | done | rfl) rfl ?_
                    refine a_aload_n dX8_look_122 rfl 0 rfl ?_
                    refine a_getq dX8_look_123 G_X8_10 zs_0 rfl (rf_0_1 hR) ?_
                    refine a_geti dX8_look_126 G_X8_159 zs_1 rfl ?_
                    subst h
                    exact a_iret dX8_look_129 (by intro h; cases h) (znar_i rfl)
                  · rw [if_neg hc10] at h
                    by_cases hc11 : p1 = 9
                    · rw [if_pos hc11] at h
                      refine a_tableIn (tgt := 130) dX8_look_1 (by rw [hc11]; decide) (by rw [hc11]; decide) (by rw [hc11]; first | done | rfl) rfl ?_
                      refine a_aload_n dX8_look_130 rfl 0 rfl ?_
                      refine a_geti dX8_look_131 G_X8_162 zs_0 rfl ?_
                      subst h
                      exact a_iret dX8_look_134 (by intro h; cases h) (znar_i rfl)
                    · rw [if_neg hc11] at h
                      by_cases hc12 : p1 = 10
                      · rw [if_pos hc12] at h
                        refine a_tableIn (tgt := 135) dX8_look_1 (by rw [hc12]; decide) (by rw [hc12]; decide) (by rw [hc12]; first | done | rfl) rfl ?_
                        refine a_aload_n dX8_look_135 rfl 0 rfl ?_
                        refine a_getq dX8_look_136 G_X8_53 zs_0 rfl (rf_0_7 hR) ?_
                        refine a_geti dX8_look_139 G_X8_165 (zsc_o (zin_a hR)) rfl ?_
                        subst h
                        exact a_iret dX8_look_142 (by intro h; cases h) (znar_i rfl)
                      · rw [if_neg hc12] at h
                        by_cases hc15 : p1 = 11
                        · rw [if_pos hc15] at h
                          refine a_tableIn (tgt := 143) dX8_look_1 (by rw [hc15]; decide) (by rw [hc15]; decide) (by rw [hc15]; first | done | rfl) rfl ?_
                          refine a_aload_n dX8_look_143 rfl 0 rfl ?_
                          refine a_geti dX8_look_144 G_X8_81 zs_0 rfl ?_
                          refine a_aload_n dX8_look_147 rfl 0 rfl ?_
                          refine a_getq dX8_look_148 G_X8_53 zs_0 rfl (rf_0_7 hR) ?_
                          refine a_geti dX8_look_151 G_X8_165 (zsc_o (zin_a hR)) rfl ?_
                          refine a_icmp_lt (tgt := 168) dX8_look_154 rfl (fun hc14 => ?_) (fun hc14 => ?_)
                          · rw [if_pos hc14] at h
                            refine a_iconst (v := 0) dX8_look_168 (by decide) ?_
                            subst h
                            exact a_iret dX8_look_169 (by intro h; cases h) (znar_i rfl)
                          · rw [if_neg hc14] at h
                            refine a_aload_n dX8_look_157 rfl 0 rfl ?_
                            refine a_geti dX8_look_158 G_X8_84 zs_0 rfl ?_
                            refine a_if_ne (tgt := 168) dX8_look_161 rfl (fun hc13 => ?_) (fun hc13 => ?_)
                            · rw [if_neg hc13] at h
                              refine a_iconst (v := 0) dX8_look_168 (by decide) ?_
                              subst h
                              exact a_iret dX8_look_169 (by intro h; cases h) (znar_i rfl)
                            · rw [if_pos hc13] at h
                              refine a_iconst (v := 1) dX8_look_164 (by decide) ?_
                              refine a_goto (tgt := 169) dX8_look_165 rfl ?_
                              subst h
                              exact a_iret dX8_look_169 (by intro h; cases h) (znar_i rfl)
                        · rw [if_neg hc15] at h
                          by_cases hc16 : p1 = 12
                          · rw [if_pos hc16] at h
                            refine a_tableIn (tgt := 170) dX8_look_1 (by rw [hc16]; decide) (by rw [hc16]; decide) (by rw [hc16]; first | done | rfl) rfl ?_
                            refine a_aload_n dX8_look_170 rfl 0 rfl ?_
                            refine a_getq dX8_look_171 G_X8_26 zs_0 rfl (rf_0_3 hR) ?_
                            refine a_geti dX8_look_174 G_X8_73 zs_13 rfl ?_
                            subst h
                            exact a_iret dX8_look_177 (by intro h; cases h) (znar_i rfl)
                          · rw [if_neg hc16] at h
                            by_cases hc17 : p1 = 13
                            · rw [if_pos hc17] at h
                              refine a_tableIn (tgt := 178) dX8_look_1 (by rw [hc17]; decide) (by rw [hc17]; decide) (by rw [hc17]; first | done | rfl) rfl ?_
                              refine a_aload_n dX8_look_178 rfl 0 rfl ?_
                              refine a_getq dX8_look_179 G_X8_19 zs_0 rfl (rf_0_2 hR) ?_
                              refine a_geti dX8_look_182 G_X8_168 zs_9 rfl ?_
                              subst h
                              exact a_iret dX8_look_185 (by intro h; cases h) (znar_i rfl)
                            · rw [if_neg hc17] at h
                              by_cases hc18 : p1 = 14
                              · rw [if_pos hc18] at h
                                refine a_tableIn (tgt := 186) dX8_look_1 (by rw [hc18]; decide) (by rw [hc18]; decide) (by rw [hc18]; first | done | rfl) rfl ?_
                                refine a_aload_n dX8_look_186 rfl 0 rfl ?_
                                refine a_getq dX8_look_187 G_X8_19 zs_0 rfl (rf_0_2 hR) ?_
                                refine a_geti dX8_look_190 G_X8_171 zs_9 rfl ?_
                                subst h
                                exact a_iret dX8_look_193 (by intro h; cases h) (znar_i rfl)
                              · rw [if_neg hc18] at h
                                have hk9 : (p1 : Int32).toInt < 0 ∨ 14 < (p1 : Int32).toInt := by
                                  have := znot (k := 0) (z := 0) hc2 (by decide)
                                  have := znot (k := 1) (z := 1) hc3 (by decide)
                                  have := znot (k := 2) (z := 2) hc4 (by decide)
                                  have := znot (k := 3) (z := 3) hc5 (by decide)
                                  have := znot (k := 4) (z := 4) hc6 (by decide)
                                  have := znot (k := 5) (z := 5) hc7 (by decide)
                                  have := znot (k := 6) (z := 6) hc8 (by decide)
                                  have := znot (k := 7) (z := 7) hc9 (by decide)
                                  have := znot (k := 8) (z := 8) hc10 (by decide)
                                  have := znot (k := 9) (z := 9) hc11 (by decide)
                                  have := znot (k := 10) (z := 10) hc12 (by decide)
                                  have := znot (k := 11) (z := 11) hc15 (by decide)
                                  have := znot (k := 12) (z := 12) hc16 (by decide)
                                  have := znot (k := 13) (z := 13) hc17 (by decide)
                                  have := znot (k := 14) (z := 14) hc18 (by decide)
                                  omega
                                refine a_tableOut (tgt := 194) dX8_look_1 hk9 rfl ?_
                                refine a_iconst (v := (-1)) dX8_look_194 (by decide) ?_
                                subst h
                                exact a_iret dX8_look_195 (by intro h; cases h) (znar_i rfl)
def fX8_strainSails_2 (K : zPI → Option (zPI)) : Nat → Int32 → Int32 → zPI → Option (zPI)
  | 0, _, _, _ => none
  | n + 1, v1, v2, I => (if 9 ≤ v2 then K I else (if zin v2 9 then (if zin v2 9 then (if (I 2 v2.toNatClampNeg) = 1 then (fX4_strain I v2 (I 9 6) v1).bind (fun q3 => (if q3.1 = 0 then fX8_strainSails_2 K n v1 (v2 + 1) q3.2 else (fX4_lose q3.2 v2).bind (fun q5 => (fX1_release q5 (I 6 v2.toNatClampNeg)).bind (fun q7 => fX8_strainSails_2 K n v1 (v2 + 1) q7)))) else fX8_strainSails_2 K n v1 (v2 + 1) I) else none) else none))
def fX8_strainSails (I : zPI) (p1 : Int32) : Option (zPI) := fX8_strainSails_2 (fun I => some (I)) zF p1 0 I
set_option maxRecDepth 100000 in
theorem tX8_strainSails_2 {X : Nat × (Nat → Int32)} {L : zPL} {F : zPF} {a b : Nat} {c : Option Nat} (hR : zRin F a b c) {r : zPI} {K : zPI → Option (zPI)} (hK : ∀ (I : zPI), K I = some r → zAW zE0 X mX8_strainSails 2 72 [] [] (zS0, I, L, F) none (zS0, r, L, F)) : ∀ (n : Nat) (v1 : Int32) (v2 : Int32) (I : zPI), fX8_strainSails_2 K n v1 v2 I = some r → zAW zE0 X mX8_strainSails 2 2 [(0, zr 0), (1, zi v1), (2, zi v2)] [] (zS0, I, L, F) none (zS0, r, L, F) := by
  intro n
  induction n with
  | zero =>
    intro v1 v2 I h
    rw [fX8_strainSails_2.eq_1] at h
    cases h
  | succ n ih =>
    intro v1 v2 I h
    rw [fX8_strainSails_2.eq_2] at h
    refine a_iload_n dX8_strainSails_2 rfl 2 rfl ?_
    refine a_bipush (v := 9) dX8_strainSails_3 (by decide) ?_
    refine a_icmp_ge (tgt := 72) dX8_strainSails_5 rfl (fun hc11 => ?_) (fun hc11 => ?_)
    · rw [if_pos hc11] at h
      refine a_sub [] rfl ?_
      exact hK _ h
    · rw [if_neg hc11] at h
      refine a_aload_n dX8_strainSails_8 rfl 0 rfl ?_
      refine a_getq dX8_strainSails_9 G_X8_10 zs_0 rfl (rf_0_1 hR) ?_
      refine a_getq dX8_strainSails_12 G_X8_100 zs_1 rfl (rf_1_4 hR) ?_
      refine a_iload_n dX8_strainSails_15 rfl 2 rfl ?_
      obtain ⟨hz1, h⟩ := zif h
      refine a_iald dX8_strainSails_16 zs_6 (zin_vp hz1) ?_
      refine a_istore_n dX8_strainSails_17 rfl (by decide) rfl ?_
      refine a_aload_n dX8_strainSails_18 rfl 1 rfl ?_
      refine a_getq dX8_strainSails_19 G_X8_10 zs_0 rfl (rf_0_1 hR) ?_
      refine a_getq dX8_strainSails_22 G_X8_97 zs_1 rfl (rf_1_0 hR) ?_
      refine a_iload_n dX8_strainSails_25 rfl 3 rfl ?_
      obtain ⟨hz2, h⟩ := zif h
      refine a_iald dX8_strainSails_26 zs_2 (zin_vp hz2) ?_
      refine a_iconst (v := 1) dX8_strainSails_27 (by decide) ?_
      refine a_icmp_ne (tgt := 66) dX8_strainSails_28 rfl (fun hc10 => ?_) (fun hc10 => ?_)
      · rw [if_neg hc10] at h
        refine a_iincK (k0 := 1) dX8_strainSails_66 (by decide) 3 rfl (by decide) rfl ?_
        refine a_goto (tgt := 2) dX8_strainSails_69 rfl ?_
        refine a_sub [2, 3, 0] rfl ?_
        exact ih _ _ _ h
      · rw [if_pos hc10] at h
        refine a_aload_n dX8_strainSails_31 rfl 1 rfl ?_
        refine a_getq dX8_strainSails_32 G_X8_10 zs_0 rfl (rf_0_1 hR) ?_
        refine a_iload_n dX8_strainSails_35 rfl 3 rfl ?_
        refine a_aload_n dX8_strainSails_36 rfl 1 rfl ?_
        refine a_getq dX8_strainSails_37 G_X8_19 zs_0 rfl (rf_0_2 hR) ?_
        refine a_geti dX8_strainSails_40 G_X8_171 zs_9 rfl ?_
        refine a_iload_n dX8_strainSails_43 rfl 2 rfl ?_
        obtain ⟨q3, hq3, h⟩ := zbind h
        refine a_callV dX8_strainSails_44 (tX4_strain hR _ _ _ _ hq3) csX4_strain zw729 (Nat.le_of_ble_eq_true rfl) zs_1 rfl rfl (Nat.le_of_ble_eq_true rfl) ⟨Nat.le_refl _, Nat.le_refl _⟩ (fun hb4 => ?_)
        refine a_if_eq (tgt := 66) dX8_strainSails_47 rfl (fun hc9 => ?_) (fun hc9 => ?_)
        · rw [if_pos hc9] at h
          refine a_iincK (k0 := 1) dX8_strainSails_66 (by decide) 3 rfl (by decide) rfl ?_
          refine a_goto (tgt := 2) dX8_strainSails_69 rfl ?_
          refine a_sub [2, 3, 0] rfl ?_
          exact ih _ _ _ h
        · rw [if_neg hc9] at h
          refine a_aload_n dX8_strainSails_50 rfl 1 rfl ?_
          refine a_getq dX8_strainSails_51 G_X8_10 zs_0 rfl (rf_0_1 hR) ?_
          refine a_iload_n dX8_strainSails_54 rfl 3 rfl ?_
          obtain ⟨q5, hq5, h⟩ := zbind h
          refine a_callV dX8_strainSails_55 (tX4_lose hR _ _ hq5) csX4_lose zw737 (Nat.le_of_ble_eq_true rfl) zs_1 rfl rfl (Nat.le_of_ble_eq_true rfl) ⟨Nat.le_refl _, Nat.le_refl _⟩ (fun hb6 => ?_)
          refine a_aload_n dX8_strainSails_58 rfl 1 rfl ?_
          refine a_getq dX8_strainSails_59 G_X8_65 zs_0 rfl (rf_0_0 hR) ?_
          refine a_iload_n dX8_strainSails_62 rfl 0 rfl ?_
          obtain ⟨q7, hq7, h⟩ := zbind h
          refine a_callV dX8_strainSails_63 (tX1_release hR _ _ hq7) csX1_release zw614 (Nat.le_of_ble_eq_true rfl) zs_42 rfl rfl (Nat.le_of_ble_eq_true rfl) ⟨Nat.le_refl _, Nat.le_refl _⟩ (fun hb8 => ?_)
          refine a_iincK (k0 := 1) dX8_strainSails_66 (by decide) 3 rfl (by decide) rfl ?_
          refine a_goto (tgt := 2) dX8_strainSails_69 rfl ?_
          refine a_sub [2, 3, 0] rfl ?_
          exact ih _ _ _ h
set_option maxRecDepth 100000 in
theorem tX8_strainSails {X : Nat × (Nat → Int32)} {I : zPI} {L : zPL} {F : zPF} {a b : Nat} {c : Option Nat} (hR : zRin F a b c) (p1 : Int32) (r : zPI) (h : fX8_strainSails I p1 = some r) : zAM X mX8_strainSails 2 [zr 0, zi p1] (zS0, I, L, F) none (zS0, r, L, F) := by
  refine zAM_of (by decide) (Nat.le_of_ble_eq_true rfl) ⟨fun _ => rfl, fun _ => rfl⟩ (Nat.le_refl _) (Nat.le_refl _) ?_
  unfold fX8_strainSails at h
  show zAW zE0 X mX8_strainSails 2 0 [(0, zr 0), (1, zi p1)] [] (zS0, I, L, F) none (zS0, r, L, F)
  refine a_iconst (v := 0) dX8_strainSails_0 (by decide) ?_
  refine a_istore_n dX8_strainSails_1 rfl (by decide) rfl ?_
  refine a_sub [1, 2, 0] rfl ?_
  refine tX8_strainSails_2 hR (fun I h => ?_) zF _ _ _ h
  (try dsimp only at h)
  cases h
  exact a_vret dX8_strainSails_72 rfl
def fX8_passMinute (a : Nat) (I : zPI) : Option (zPI) := (fX7_blow (zu I 0 12 ((I 0 12) + 1)) ((zu I 0 12 ((I 0 12) + 1)) 0 12)).bind (fun q1 => (fX8_endWorks q1).bind (fun q3 => (fX8_carryOut a q3).bind (fun q5 => zlet (fX0_apart ((zu q5 0 13 (fX0_turned (q5 0 13) (q5 0 14))) 9 5) ((zu q5 0 13 (fX0_turned (q5 0 13) (q5 0 14))) 0 13)) (fun x9 => (fX4_draw (zu q5 0 13 (fX0_turned (q5 0 13) (q5 0 14))) x9 ((zu q5 0 13 (fX0_turned (q5 0 13) (q5 0 14))) 9 6)).bind (fun q10 => (fX8_strainSails (fX8_changeSpeed (zu q5 0 13 (fX0_turned (q5 0 13) (q5 0 14))) q10) (fX0_isAback x9)).bind (fun q14 => (fX0_east q14 (q14 0 13)).bind (fun q16 => (fX0_north (zu q14 0 16 ((q14 0 16) + ((q14 0 15) * q16))) ((zu q14 0 16 ((q14 0 16) + ((q14 0 15) * q16))) 0 13)).bind (fun q18 => some (zu (zu q14 0 16 ((q14 0 16) + ((q14 0 15) * q16))) 0 17 (((zu q14 0 16 ((q14 0 16) + ((q14 0 15) * q16))) 0 17) + (((zu q14 0 16 ((q14 0 16) + ((q14 0 15) * q16))) 0 15) * q18)))))))))))
set_option maxRecDepth 100000 in
theorem tX8_passMinute {X : Nat × (Nat → Int32)} {I : zPI} {L : zPL} {F : zPF} {a b : Nat} {c : Option Nat} (hR : zRin F a b c) (r : zPI) (h : fX8_passMinute a I = some r) : zAM X mX8_passMinute 6 [zr 0] (zS0, I, L, F) none (zS0, r, L, F) := by
  refine zAM_of (by decide) (Nat.le_of_ble_eq_true rfl) ⟨fun _ => rfl, fun _ => rfl⟩ (Nat.le_refl _) (Nat.le_refl _) ?_
  unfold fX8_passMinute at h
  show zAW zE0 X mX8_passMinute 6 0 [(0, zr 0)] [] (zS0, I, L, F) none (zS0, r, L, F)
  refine a_aload_n dX8_passMinute_0 rfl 0 rfl ?_
  refine a_dup dX8_passMinute_1 rfl ?_
  refine a_geti dX8_passMinute_2 G_X8_94 zs_0 rfl ?_
  refine a_iconst (v := 1) dX8_passMinute_5 (by decide) ?_
  refine a_iadd dX8_passMinute_6 ?_
  refine a_puti dX8_passMinute_7 F_X8_94 zs_0 rfl ⟨rfl, rfl⟩ ?_
  refine a_aload_n dX8_passMinute_10 rfl 0 rfl ?_
  refine a_getq dX8_passMinute_11 G_X8_19 zs_0 rfl (rf_0_2 hR) ?_
  refine a_aload_n dX8_passMinute_14 rfl 0 rfl ?_
  refine a_geti dX8_passMinute_15 G_X8_94 zs_0 rfl ?_
  obtain ⟨q1, hq1, h⟩ := zbind h
  refine a_callV dX8_passMinute_18 (tX7_blow hR _ _ hq1) csX7_blow zw582 (Nat.le_of_ble_eq_true rfl) zs_9 rfl rfl (Nat.le_of_ble_eq_true rfl) ⟨Nat.le_refl _, Nat.le_refl _⟩ (fun hb2 => ?_)
  refine a_aload_n dX8_passMinute_21 rfl 0 rfl ?_
  obtain ⟨q3, hq3, h⟩ := zbind h
  refine a_callV dX8_passMinute_22 (tX8_endWorks hR _ hq3) csX8_endWorks zw586 (Nat.le_of_ble_eq_true rfl) zs_0 rfl rfl (Nat.le_of_ble_eq_true rfl) ⟨Nat.le_refl _, Nat.le_refl _⟩ (fun hb4 => ?_)
  refine a_aload_n dX8_passMinute_25 rfl 0 rfl ?_
  obtain ⟨q5, hq5, h⟩ := zbind h
  refine a_callV dX8_passMinute_26 (tX8_carryOut hR _ hq5) csX8_carryOut zw618 (Nat.le_of_ble_eq_true rfl) zs_0 rfl rfl (Nat.le_of_ble_eq_true rfl) ⟨Nat.le_refl _, Nat.le_refl _⟩ (fun hb6 => ?_)
  refine a_aload_n dX8_passMinute_29 rfl 0 rfl ?_
  refine a_aload_n dX8_passMinute_30 rfl 0 rfl ?_
  refine a_geti dX8_passMinute_31 G_X8_138 zs_0 rfl ?_
  refine a_aload_n dX8_passMinute_34 rfl 0 rfl ?_
  refine a_geti dX8_passMinute_35 G_X8_141 zs_0 rfl ?_
  refine a_callS dX8_passMinute_38 (tX0_turned hR _ _ _ rfl) csX0_turned zw697 (Nat.le_of_ble_eq_true rfl) rfl (Nat.le_of_ble_eq_true rfl) ⟨Nat.le_refl _, Nat.le_refl _⟩ (fun hb7 => ?_)
  refine a_puti dX8_passMinute_41 F_X8_138 zs_0 rfl ⟨rfl, rfl⟩ ?_
  refine a_aload_n dX8_passMinute_44 rfl 0 rfl ?_
  refine a_getq dX8_passMinute_45 G_X8_19 zs_0 rfl (rf_0_2 hR) ?_
  refine a_geti dX8_passMinute_48 G_X8_168 zs_9 rfl ?_
  refine a_aload_n dX8_passMinute_51 rfl 0 rfl ?_
  refine a_geti dX8_passMinute_52 G_X8_138 zs_0 rfl ?_
  refine a_callS dX8_passMinute_55 (tX0_apart hR _ _ _ rfl) csX0_apart zw626 (Nat.le_of_ble_eq_true rfl) rfl (Nat.le_of_ble_eq_true rfl) ⟨Nat.le_refl _, Nat.le_refl _⟩ (fun hb8 => ?_)
  refine a_name (fun x9 ex9 => ?_)
  replace h := zlet_at h ex9
  clear ex9
  refine a_istore_n dX8_passMinute_58 rfl (by decide) rfl ?_
  refine a_aload_n dX8_passMinute_59 rfl 1 rfl ?_
  refine a_aload_n dX8_passMinute_60 rfl 1 rfl ?_
  refine a_getq dX8_passMinute_61 G_X8_10 zs_0 rfl (rf_0_1 hR) ?_
  refine a_iload_n dX8_passMinute_64 rfl 0 rfl ?_
  refine a_aload_n dX8_passMinute_65 rfl 1 rfl ?_
  refine a_getq dX8_passMinute_66 G_X8_19 zs_0 rfl (rf_0_2 hR) ?_
  refine a_geti dX8_passMinute_69 G_X8_171 zs_9 rfl ?_
  obtain ⟨q10, hq10, h⟩ := zbind h
  refine a_callV dX8_passMinute_72 (tX4_draw hR _ _ _ hq10) csX4_draw zw700 (Nat.le_of_ble_eq_true rfl) zs_1 rfl rfl (Nat.le_of_ble_eq_true rfl) ⟨Nat.le_refl _, Nat.le_refl _⟩ (fun hb11 => ?_)
  refine a_callV dX8_passMinute_75 (tX8_changeSpeed hR _ _ rfl) csX8_changeSpeed zw719 (Nat.le_of_ble_eq_true rfl) zs_0 rfl rfl (Nat.le_of_ble_eq_true rfl) ⟨Nat.le_refl _, Nat.le_refl _⟩ (fun hb12 => ?_)
  refine a_aload_n dX8_passMinute_78 rfl 1 rfl ?_
  refine a_iload_n dX8_passMinute_79 rfl 0 rfl ?_
  refine a_callS dX8_passMinute_80 (tX0_isAback hR _ _ rfl) csX0_isAback zw632 (Nat.le_of_ble_eq_true rfl) rfl (Nat.le_of_ble_eq_true rfl) ⟨Nat.le_refl _, Nat.le_refl _⟩ (fun hb13 => ?_)
  obtain ⟨q14, hq14, h⟩ := zbind h
  refine a_callV dX8_passMinute_83 (tX8_strainSails hR _ _ hq14) csX8_strainSails zw725 (Nat.le_of_ble_eq_true rfl) zs_0 rfl rfl (Nat.le_of_ble_eq_true rfl) ⟨Nat.le_refl _, Nat.le_refl _⟩ (fun hb15 => ?_)
  refine a_aload_n dX8_passMinute_86 rfl 1 rfl ?_
  refine a_dup dX8_passMinute_87 rfl ?_
  refine a_geti dX8_passMinute_88 G_X8_147 zs_0 rfl ?_
  refine a_aload_n dX8_passMinute_91 rfl 1 rfl ?_
  refine a_geti dX8_passMinute_92 G_X8_144 zs_0 rfl ?_
  refine a_aload_n dX8_passMinute_95 rfl 1 rfl ?_
  refine a_geti dX8_passMinute_96 G_X8_138 zs_0 rfl ?_
  obtain ⟨q16, hq16, h⟩ := zbind h
  refine a_callS dX8_passMinute_99 (tX0_east hR _ _ hq16) csX0_east zw741 (Nat.le_of_ble_eq_true rfl) rfl (Nat.le_of_ble_eq_true rfl) ⟨Nat.le_refl _, Nat.le_refl _⟩ (fun hb17 => ?_)
  refine a_imul dX8_passMinute_102 ?_
  refine a_iadd dX8_passMinute_103 ?_
  refine a_puti dX8_passMinute_104 F_X8_147 zs_0 rfl ⟨rfl, rfl⟩ ?_
  refine a_aload_n dX8_passMinute_107 rfl 1 rfl ?_
  refine a_dup dX8_passMinute_108 rfl ?_
  refine a_geti dX8_passMinute_109 G_X8_150 zs_0 rfl ?_
  refine a_aload_n dX8_passMinute_112 rfl 1 rfl ?_
  refine a_geti dX8_passMinute_113 G_X8_144 zs_0 rfl ?_
  refine a_aload_n dX8_passMinute_116 rfl 1 rfl ?_
  refine a_geti dX8_passMinute_117 G_X8_138 zs_0 rfl ?_
  obtain ⟨q18, hq18, h⟩ := zbind h
  refine a_callS dX8_passMinute_120 (tX0_north hR _ _ hq18) csX0_north zw749 (Nat.le_of_ble_eq_true rfl) rfl (Nat.le_of_ble_eq_true rfl) ⟨Nat.le_refl _, Nat.le_refl _⟩ (fun hb19 => ?_)
  refine a_imul dX8_passMinute_123 ?_
  refine a_iadd dX8_passMinute_124 ?_
  refine a_puti dX8_passMinute_125 F_X8_150 zs_0 rfl ⟨rfl, rfl⟩ ?_
  cases h
  exact a_vret dX8_passMinute_128 rfl
def fX8_minutes_14 (a : Nat) (K : zPI → Option (Int32 × zPI)) : Nat → Int32 → Int32 → zPI → Option (Int32 × zPI)
  | 0, _, _, _ => none
  | n + 1, v1, v2, I => (if v1 ≤ v2 then K I else (fX8_passMinute a I).bind (fun q1 => fX8_minutes_14 a K n v1 (v2 + 1) q1))
def fX8_minutes (a : Nat) (I : zPI) (p1 : Int32) : Option (Int32 × zPI) := (if p1 < 0 then some ((-1), I) else (if p1 ≤ 120 then fX8_minutes_14 a (fun I => some (I 0 12, I)) zF p1 0 I else some ((-1), I)))
set_option maxRecDepth 100000 in
theorem tX8_minutes_14 {X : Nat × (Nat → Int32)} {L : zPL} {F : zPF} {a b : Nat} {c : Option Nat} (hR : zRin F a b c) {r : Int32 × zPI} {K : zPI → Option (Int32 × zPI)} (hK : ∀ (I : zPI), K I = some r → zAW zE0 X mX8_minutes 7 29 [(0, zr 0)] [] (zS0, I, L, F) (some (zi r.1)) (zS0, r.2, L, F)) : ∀ (n : Nat) (v1 : Int32) (v2 : Int32) (I : zPI), fX8_minutes_14 a K n v1 v2 I = some r → zAW zE0 X mX8_minutes 7 14 [(0, zr 0), (1, zi v1), (2, zi v2)] [] (zS0, I, L, F) (some (zi r.1)) (zS0, r.2, L, F) := by
  intro n
  induction n with
  | zero =>
    intro v1 v2 I h
    rw [fX8_minutes_14.eq_1] at h
    cases h
  | succ n ih =>
    intro v1 v2 I h
    rw [fX8_minutes_14.eq_2] at h
    refine a_iload_n dX8_minutes_14 rfl 2 rfl ?_
    refine a_iload_n dX8_minutes_15 rfl 1 rfl ?_
    refine a_icmp_ge (tgt := 29) dX8_minutes_16 rfl (fun hc3 => ?_) (fun hc3 => ?_)
    · rw [if_pos hc3] at h
      refine a_sub [0] rfl ?_
      exact hK _ h
    · rw [if_neg hc3] at h
      refine a_aload_n dX8_minutes_19 rfl 0 rfl ?_
      obtain ⟨q1, hq1, h⟩ := zbind h
      refine a_callV dX8_minutes_20 (tX8_passMinute hR _ hq1) csX8_passMinute zw578 (Nat.le_of_ble_eq_true rfl) zs_0 rfl rfl (Nat.le_of_ble_eq_true rfl) ⟨Nat.le_refl _, Nat.le_refl _⟩ (fun hb2 => ?_)
      refine a_iincK (k0 := 1) dX8_minutes_23 (by decide) 2 rfl (by decide) rfl ?_
      refine a_goto (tgt := 14) dX8_minutes_26 rfl ?_
      refine a_sub [1, 2, 0] rfl ?_
      exact ih _ _ _ h
set_option maxRecDepth 100000 in
theorem tX8_minutes {X : Nat × (Nat → Int32)} {I : zPI} {L : zPL} {F : zPF} {a b : Nat} {c : Option Nat} (hR : zRin F a b c) (p1 : Int32) (r : Int32 × zPI) (h : fX8_minutes a I p1 = some r) : zAM X mX8_minutes 7 [zr 0, zi p1] (zS0, I, L, F) (some (zi r.1)) (zS0, r.2, L, F) := by
  refine zAM_of (by decide) (Nat.le_of_ble_eq_true rfl) ⟨fun h => (by cases h), fun h => (by cases h)⟩ (Nat.le_refl _) (Nat.le_refl _) ?_
  unfold fX8_minutes at h
  show zAW zE0 X mX8_minutes 7 0 [(0, zr 0), (1, zi p1)] [] (zS0, I, L, F) (some (zi r.1)) (zS0, r.2, L, F)
  refine a_iload_n dX8_minutes_0 rfl 1 rfl ?_
  refine a_if_lt (tgt := 10) dX8_minutes_1 rfl (fun hc5 => ?_) (fun hc5 => ?_)
  · rw [if_pos hc5] at h
    refine a_iconst (v := (-1)) dX8_minutes_10 (by decide) ?_
    cases h
    exact a_iret dX8_minutes_11 (by intro h; cases h) (znar_i rfl)
  · rw [if_neg hc5] at h
    refine a_iload_n dX8_minutes_4 rfl 1 rfl ?_
    refine a_bipush (v := 120) dX8_minutes_5 (by decide) ?_
    refine a_icmp_le (tgt := 12) dX8_minutes_7 rfl (fun hc4 => ?_) (fun hc4 => ?_)
    · rw [if_pos hc4] at h
      refine a_iconst (v := 0) dX8_minutes_12 (by decide) ?_
      refine a_istore_n dX8_minutes_13 rfl (by decide) rfl ?_
      refine a_sub [1, 2, 0] rfl ?_
      refine tX8_minutes_14 hR (fun I h => ?_) zF _ _ _ h
      (try dsimp only at h)
      refine a_aload_n dX8_minutes_29 rfl 0 rfl ?_
      refine a_geti dX8_minutes_30 G_X8_94 zs_0 rfl ?_
      cases h
      exact a_iret dX8_minutes_33 (by intro h; cases h) (znar_i rfl)
    · rw [if_neg hc4] at h
      refine a_iconst (v := (-1)) dX8_minutes_10 (by decide) ?_
      cases h
      exact a_iret dX8_minutes_11 (by intro h; cases h) (znar_i rfl)
def fX8_orders (a : Nat) (b : Nat) (I : zPI) (F : zPF) : Option (Int32 × zPI × zPF) := (fX3_read b I).bind (fun q1 => (if q1.1 = 0 then some (0, zu (zu (zu q1.2 13 1 0) 0 9 0) 0 10 0, zu (zu (zu F 15 3 (some b)) 0 7 (some b)) 0 8 (some a)) else some (q1.1, zu q1.2 13 1 0, zu F 15 3 (some b))))
set_option maxRecDepth 100000 in
theorem tX8_orders {X : Nat × (Nat → Int32)} {I : zPI} {L : zPL} {F : zPF} {a b : Nat} {c : Option Nat} (hR : zRin F a b c) (r : Int32 × zPI × zPF) (h : fX8_orders a b I F = some r) : zAM X mX8_orders 10 [zr 0] (zS0, I, L, F) (some (zi r.1)) (zS0, r.2.1, L, r.2.2) := by
  refine zAM_of (by decide) (Nat.le_of_ble_eq_true rfl) ⟨fun h => (by cases h), fun h => (by cases h)⟩ (Nat.le_refl _) (Nat.le_refl _) ?_
  unfold fX8_orders at h
  show zAW zE0 X mX8_orders 10 0 [(0, zr 0)] [] (zS0, I, L, F) (some (zi r.1)) (zS0, r.2.1, L, r.2.2)
  refine a_aload_n dX8_orders_0 rfl 0 rfl ?_
  refine a_getq dX8_orders_1 G_X8_35 zs_0 rfl (rf_0_4 hR) ?_
  refine a_aload_n dX8_orders_4 rfl 0 rfl ?_
  refine a_getq dX8_orders_5 G_X8_57 zs_0 rfl (rf_0_8 hR) ?_
  obtain ⟨q1, hq1, h⟩ := zbind h
  have hR2 := zRin_s (x := b) hR
  refine a_callV dX8_orders_8 (tX3_read hR (zin_b hR) _ hq1) csX3_read zw397 (Nat.le_of_ble_eq_true rfl) zs_15 rfl rfl (Nat.le_of_ble_eq_true rfl) ⟨Nat.le_refl _, Nat.le_refl _⟩ (fun hb3 => ?_)
  refine a_istore_n dX8_orders_11 rfl (by decide) rfl ?_
  refine a_aload_n dX8_orders_12 rfl 1 rfl ?_
  refine a_getq dX8_orders_13 G_X8_26 zs_0 rfl (rf_0_3 hR2) ?_
  refine a_iconst (v := 0) dX8_orders_16 (by decide) ?_
  refine a_puti dX8_orders_17 F_X8_73 zs_13 rfl ⟨rfl, rfl⟩ ?_
  refine a_iload_n dX8_orders_20 rfl 0 rfl ?_
  refine a_if_eq (tgt := 26) dX8_orders_21 rfl (fun hc6 => ?_) (fun hc6 => ?_)
  · rw [if_pos hc6] at h
    refine a_aload_n dX8_orders_26 rfl 1 rfl ?_
    refine a_getq dX8_orders_27 G_X8_53 zs_0 rfl (rf_0_7 hR2) ?_
    refine a_astore_n dX8_orders_30 rfl (by decide) rfl ?_
    refine a_aload_n dX8_orders_31 rfl 2 rfl ?_
    refine a_aload_n dX8_orders_32 rfl 2 rfl ?_
    refine a_getq dX8_orders_33 G_X8_57 zs_0 rfl (rf_0_8 hR2) ?_
    refine a_putq dX8_orders_36 F_X8_53 zs_0 rfl (fun z => by cases z <;> exact ⟨rfl, rfl⟩) ?_
    have hR4 := zRin_a (x := b) hR2 (zin_b hR)
    refine a_aload_n dX8_orders_39 rfl 2 rfl ?_
    refine a_aload_n dX8_orders_40 rfl 0 rfl ?_
    refine a_putq dX8_orders_41 F_X8_57 zs_0 rfl (fun z => by cases z <;> exact ⟨rfl, rfl⟩) ?_
    have hR5 := zRin_b (x := a) hR4 (zin_a hR)
    refine a_aload_n dX8_orders_44 rfl 2 rfl ?_
    refine a_iconst (v := 0) dX8_orders_45 (by decide) ?_
    refine a_puti dX8_orders_46 F_X8_81 zs_0 rfl ⟨rfl, rfl⟩ ?_
    refine a_aload_n dX8_orders_49 rfl 2 rfl ?_
    refine a_iconst (v := 0) dX8_orders_50 (by decide) ?_
    refine a_puti dX8_orders_51 F_X8_84 zs_0 rfl ⟨rfl, rfl⟩ ?_
    refine a_iconst (v := 0) dX8_orders_54 (by decide) ?_
    cases h
    exact a_iret dX8_orders_55 (by intro h; cases h) (znar_i rfl)
  · rw [if_neg hc6] at h
    refine a_iload_n dX8_orders_24 rfl 0 rfl ?_
    cases h
    exact a_iret dX8_orders_25 (by intro h; cases h) (znar_i rfl)
def fX8_plan (I : zPI) (L : zPL) (p1 : Int32) (p2 : Int32) : Option (Int32 × zPI × zPL) := (fX2_make I L p1 p2).bind (fun q1 => some (q1.1, q1.2.1, q1.2.2))
set_option maxRecDepth 100000 in
theorem tX8_plan {X : Nat × (Nat → Int32)} {I : zPI} {L : zPL} {F : zPF} {a b : Nat} {c : Option Nat} (hR : zRin F a b c) (p1 : Int32) (p2 : Int32) (r : Int32 × zPI × zPL) (h : fX8_plan I L p1 p2 = some r) : zAM X mX8_plan 5 [zr 0, zi p1, zi p2] (zS0, I, L, F) (some (zi r.1)) (zS0, r.2.1, r.2.2, F) := by
  refine zAM_of (by decide) (Nat.le_of_ble_eq_true rfl) ⟨fun h => (by cases h), fun h => (by cases h)⟩ (Nat.le_refl _) (Nat.le_refl _) ?_
  unfold fX8_plan at h
  show zAW zE0 X mX8_plan 5 0 [(0, zr 0), (1, zi p1), (2, zi p2)] [] (zS0, I, L, F) (some (zi r.1)) (zS0, r.2.1, r.2.2, F)
  refine a_aload_n dX8_plan_0 rfl 0 rfl ?_
  refine a_getq dX8_plan_1 G_X8_42 zs_0 rfl (rf_0_5 hR) ?_
  refine a_iload_n dX8_plan_4 rfl 1 rfl ?_
  refine a_iload_n dX8_plan_5 rfl 2 rfl ?_
  obtain ⟨q1, hq1, h⟩ := zbind h
  refine a_callV dX8_plan_6 (tX2_make hR _ _ _ hq1) csX2_make zw784 (Nat.le_of_ble_eq_true rfl) zs_17 rfl rfl (Nat.le_of_ble_eq_true rfl) ⟨Nat.le_refl _, Nat.le_refl _⟩ (fun hb2 => ?_)
  cases h
  exact a_iret dX8_plan_9 (by intro h; cases h) (znar_i rfl)
def fX8_rope (I : zPI) (p1 : Int32) (p2 : Int32) : Option (Int32) := (if p1 < 0 then some (-1) else (if p1 < 18 then (if p2 = 0 then (if zin p1 18 then some (I 3 p1.toNatClampNeg) else none) else if p2 = 1 then (if zin p1 18 then some (I 4 p1.toNatClampNeg) else none) else if p2 = 2 then (if zin p1 18 then (if (I 7 p1.toNatClampNeg) = (-1) then some 0 else some 1) else none) else some (-1)) else some (-1)))
set_option maxRecDepth 100000 in
theorem tX8_rope {X : Nat × (Nat → Int32)} {I : zPI} {L : zPL} {F : zPF} {a b : Nat} {c : Option Nat} (hR : zRin F a b c) (p1 : Int32) (p2 : Int32) (r : Int32) (h : fX8_rope I p1 p2 = some r) : zAM X mX8_rope 0 [zr 0, zi p1, zi p2] (zS0, I, L, F) (some (zi r)) (zS0, I, L, F) := by
  refine zAM_of (by decide) (Nat.le_of_ble_eq_true rfl) ⟨fun h => (by cases h), fun h => (by cases h)⟩ (Nat.le_refl _) (Nat.le_refl _) ?_
  unfold fX8_rope at h
  show zAW zE0 X mX8_rope 0 0 [(0, zr 0), (1, zi p1), (2, zi p2)] [] (zS0, I, L, F) (some (zi r)) (zS0, I, L, F)
  refine a_iload_n dX8_rope_0 rfl 1 rfl ?_
  refine a_if_lt (tgt := 10) dX8_rope_1 rfl (fun hc10 => ?_) (fun hc10 => ?_)
  · rw [if_pos hc10] at h
    refine a_iconst (v := (-1)) dX8_rope_10 (by decide) ?_
    cases h
    exact a_iret dX8_rope_11 (by intro h; cases h) (znar_i rfl)
  · rw [if_neg hc10] at h
    refine a_iload_n dX8_rope_4 rfl 1 rfl ?_
    refine a_bipush (v := 18) dX8_rope_5 (by decide) ?_
    refine a_icmp_lt (tgt := 12) dX8_rope_7 rfl (fun hc9 => ?_) (fun hc9 => ?_)
    · rw [if_pos hc9] at h
      refine a_iload_n dX8_rope_12 rfl 2 rfl ?_
      by_cases hc3 : p2 = 0
      · rw [if_pos hc3] at h
        refine a_tableIn (tgt := 40) dX8_rope_13 (by rw [hc3]; decide) (by rw [hc3]; decide) (by rw [hc3]; first | done | rfl) rfl ?_
        refine a_aload_n dX8_rope_40 rfl 0 rfl ?_
        refine a_getq dX8_rope_41 G_X8_10 zs_0 rfl (rf_0_1 hR) ?_
        refine a_getq dX8_rope_44 G_X8_103 zs_1 rfl (rf_1_1 hR) ?_
        refine a_iload_n dX8_rope_47 rfl 1 rfl ?_
        obtain ⟨hz2, h⟩ := zif h
        refine a_iald dX8_rope_48 zs_3 (zin_vp hz2) ?_
        cases h
        exact a_iret dX8_rope_49 (by intro h; cases h) (znar_i rfl)
      · rw [if_neg hc3] at h
        by_cases hc5 : p2 = 1
        · rw [if_pos hc5] at h
          refine a_tableIn (tgt := 50) dX8_rope_13 (by rw [hc5]; decide) (by rw [hc5]; decide) (by rw [hc5]; first | done | rfl) rfl ?_
          refine a_aload_n dX8_rope_50 rfl 0 rfl ?_
          refine a_getq dX8_rope_51 G_X8_10 zs_0 rfl (rf_0_1 hR) ?_
          refine a_getq dX8_rope_54 G_X8_106 zs_1 rfl (rf_1_2 hR) ?_
          refine a_iload_n dX8_rope_57 rfl 1 rfl ?_
          obtain ⟨hz4, h⟩ := zif h
          refine a_iald dX8_rope_58 zs_4 (zin_vp hz4) ?_
          cases h
          exact a_iret dX8_rope_59 (by intro h; cases h) (znar_i rfl)
        · rw [if_neg hc5] at h
          by_cases hc8 : p2 = 2
          · rw [if_pos hc8] at h
            refine a_tableIn (tgt := 60) dX8_rope_13 (by rw [hc8]; decide) (by rw [hc8]; decide) (by rw [hc8]; first | done | rfl) rfl ?_
            refine a_aload_n dX8_rope_60 rfl 0 rfl ?_
            refine a_getq dX8_rope_61 G_X8_10 zs_0 rfl (rf_0_1 hR) ?_
            refine a_getq dX8_rope_64 G_X8_109 zs_1 rfl (rf_1_5 hR) ?_
            refine a_iload_n dX8_rope_67 rfl 1 rfl ?_
            obtain ⟨hz6, h⟩ := zif h
            refine a_iald dX8_rope_68 zs_7 (zin_vp hz6) ?_
            refine a_iconst (v := (-1)) dX8_rope_69 (by decide) ?_
            refine a_icmp_ne (tgt := 77) dX8_rope_70 rfl (fun hc7 => ?_) (fun hc7 => ?_)
            · rw [if_neg hc7] at h
              refine a_iconst (v := 1) dX8_rope_77 (by decide) ?_
              cases h
              exact a_iret dX8_rope_78 (by intro h; cases h) (znar_i rfl)
            · rw [if_pos hc7] at h
              refine a_iconst (v := 0) dX8_rope_73 (by decide) ?_
              refine a_goto (tgt := 78) dX8_rope_74 rfl ?_
              cases h
              exact a_iret dX8_rope_78 (by intro h; cases h) (znar_i rfl)
          · rw [if_neg hc8] at h
            have hk9 : (p2 : Int32).toInt < 0 ∨ 2 < (p2 : Int32).toInt := by
              have := znot (k := 0) (z := 0) hc3 (by decide)
              have := znot (k := 1) (z := 1) hc5 (by decide)
              have := znot (k := 2) (z := 2) hc8 (by decide)
              omega
            refine a_tableOut (tgt := 79) dX8_rope_13 hk9 rfl ?_
            refine a_iconst (v := (-1)) dX8_rope_79 (by decide) ?_
            cases h
            exact a_iret dX8_rope_80 (by intro h; cases h) (znar_i rfl)
    · rw [if_neg hc9] at h
      refine a_iconst (v := (-1)) dX8_rope_10 (by decide) ?_
      cases h
      exact a_iret dX8_rope_11 (by intro h; cases h) (znar_i rfl)
def fX8_sail (I : zPI) (p1 : Int32) (p2 : Int32) : Option (Int32) := (if p1 < 0 then some (-1) else (if p1 < 9 then (if p2 = 0 then (if zin p1 9 then some (I 2 p1.toNatClampNeg) else none) else if p2 = 1 then (if zin p1 9 then (if (I 6 p1.toNatClampNeg) = (-1) then some 0 else some 1) else none) else some (-1)) else some (-1)))
set_option maxRecDepth 100000 in
theorem tX8_sail {X : Nat × (Nat → Int32)} {I : zPI} {L : zPL} {F : zPF} {a b : Nat} {c : Option Nat} (hR : zRin F a b c) (p1 : Int32) (p2 : Int32) (r : Int32) (h : fX8_sail I p1 p2 = some r) : zAM X mX8_sail 0 [zr 0, zi p1, zi p2] (zS0, I, L, F) (some (zi r)) (zS0, I, L, F) := by
  refine zAM_of (by decide) (Nat.le_of_ble_eq_true rfl) ⟨fun h => (by cases h), fun h => (by cases h)⟩ (Nat.le_refl _) (Nat.le_refl _) ?_
  unfold fX8_sail at h
  show zAW zE0 X mX8_sail 0 0 [(0, zr 0), (1, zi p1), (2, zi p2)] [] (zS0, I, L, F) (some (zi r)) (zS0, I, L, F)
  refine a_iload_n dX8_sail_0 rfl 1 rfl ?_
  refine a_if_lt (tgt := 10) dX8_sail_1 rfl (fun hc8 => ?_) (fun hc8 => ?_)
  · rw [if_pos hc8] at h
    refine a_iconst (v := (-1)) dX8_sail_10 (by decide) ?_
    cases h
    exact a_iret dX8_sail_11 (by intro h; cases h) (znar_i rfl)
  · rw [if_neg hc8] at h
    refine a_iload_n dX8_sail_4 rfl 1 rfl ?_
    refine a_bipush (v := 9) dX8_sail_5 (by decide) ?_
    refine a_icmp_lt (tgt := 12) dX8_sail_7 rfl (fun hc7 => ?_) (fun hc7 => ?_)
    · rw [if_pos hc7] at h
      refine a_iload_n dX8_sail_12 rfl 2 rfl ?_
      by_cases hc3 : p2 = 0
      · rw [if_pos hc3] at h
        refine a_lookup (tgt := 40) dX8_sail_13 (by decide) (by rw [hc3]; first | done | rfl) rfl ?_
        refine a_aload_n dX8_sail_40 rfl 0 rfl ?_
        refine a_getq dX8_sail_41 G_X8_10 zs_0 rfl (rf_0_1 hR) ?_
        refine a_getq dX8_sail_44 G_X8_97 zs_1 rfl (rf_1_0 hR) ?_
        refine a_iload_n dX8_sail_47 rfl 1 rfl ?_
        obtain ⟨hz2, h⟩ := zif h
        refine a_iald dX8_sail_48 zs_2 (zin_vp hz2) ?_
        cases h
        exact a_iret dX8_sail_49 (by intro h; cases h) (znar_i rfl)
      · rw [if_neg hc3] at h
        by_cases hc6 : p2 = 1
        · rw [if_pos hc6] at h
          refine a_lookup (tgt := 50) dX8_sail_13 (by decide) (by rw [hc6]; first | done | rfl) rfl ?_
          refine a_aload_n dX8_sail_50 rfl 0 rfl ?_
          refine a_getq dX8_sail_51 G_X8_10 zs_0 rfl (rf_0_1 hR) ?_
          refine a_getq dX8_sail_54 G_X8_100 zs_1 rfl (rf_1_4 hR) ?_
          refine a_iload_n dX8_sail_57 rfl 1 rfl ?_
          obtain ⟨hz4, h⟩ := zif h
          refine a_iald dX8_sail_58 zs_6 (zin_vp hz4) ?_
          refine a_iconst (v := (-1)) dX8_sail_59 (by decide) ?_
          refine a_icmp_ne (tgt := 67) dX8_sail_60 rfl (fun hc5 => ?_) (fun hc5 => ?_)
          · rw [if_neg hc5] at h
            refine a_iconst (v := 1) dX8_sail_67 (by decide) ?_
            cases h
            exact a_iret dX8_sail_68 (by intro h; cases h) (znar_i rfl)
          · rw [if_pos hc5] at h
            refine a_iconst (v := 0) dX8_sail_63 (by decide) ?_
            refine a_goto (tgt := 68) dX8_sail_64 rfl ?_
            cases h
            exact a_iret dX8_sail_68 (by intro h; cases h) (znar_i rfl)
        · rw [if_neg hc6] at h
          refine a_lookup (tgt := 69) (off := 56) dX8_sail_13 (by decide) (by simp only [Op.lookupswitch.offset]; rw [if_neg (fun e => znot (k := 0) (z := 0) hc3 (by decide) e.symm), if_neg (fun e => znot (k := 1) (z := 1) hc6 (by decide) e.symm)]) rfl ?_
          refine a_iconst (v := (-1)) dX8_sail_69 (by decide) ?_
          cases h
          exact a_iret dX8_sail_70 (by intro h; cases h) (znar_i rfl)
    · rw [if_neg hc7] at h
      refine a_iconst (v := (-1)) dX8_sail_10 (by decide) ?_
      cases h
      exact a_iret dX8_sail_11 (by intro h; cases h) (znar_i rfl)
def fX8_wind (I : zPI) (p1 : Int32) (p2 : Int32) (p3 : Int32) : Option (Int32 × zPI) := (fX7_tell I p1 p2 p3).bind (fun q1 => some (q1.1, q1.2))
set_option maxRecDepth 100000 in
theorem tX8_wind {X : Nat × (Nat → Int32)} {I : zPI} {L : zPL} {F : zPF} {a b : Nat} {c : Option Nat} (hR : zRin F a b c) (p1 : Int32) (p2 : Int32) (p3 : Int32) (r : Int32 × zPI) (h : fX8_wind I p1 p2 p3 = some r) : zAM X mX8_wind 2 [zr 0, zi p1, zi p2, zi p3] (zS0, I, L, F) (some (zi r.1)) (zS0, r.2, L, F) := by
  refine zAM_of (by decide) (Nat.le_of_ble_eq_true rfl) ⟨fun h => (by cases h), fun h => (by cases h)⟩ (Nat.le_refl _) (Nat.le_refl _) ?_
  unfold fX8_wind at h
  show zAW zE0 X mX8_wind 2 0 [(0, zr 0), (1, zi p1), (2, zi p2), (3, zi p3)] [] (zS0, I, L, F) (some (zi r.1)) (zS0, r.2, L, F)
  refine a_aload_n dX8_wind_0 rfl 0 rfl ?_
  refine a_getq dX8_wind_1 G_X8_19 zs_0 rfl (rf_0_2 hR) ?_
  refine a_iload_n dX8_wind_4 rfl 1 rfl ?_
  refine a_iload_n dX8_wind_5 rfl 2 rfl ?_
  refine a_iload_n dX8_wind_6 rfl 3 rfl ?_
  obtain ⟨q1, hq1, h⟩ := zbind h
  refine a_callV dX8_wind_7 (tX7_tell hR _ _ _ _ hq1) csX7_tell zw562 (Nat.le_of_ble_eq_true rfl) zs_9 rfl rfl (Nat.le_of_ble_eq_true rfl) ⟨Nat.le_refl _, Nat.le_refl _⟩ (fun hb2 => ?_)
  cases h
  exact a_iret dX8_wind_10 (by intro h; cases h) (znar_of rfl (hb2))
