def fX3_faultHere (o : Nat) (I : zPI) (p1 : Int32) : Int32 := (p1 + (16 * (I 13 3)))
set_option maxRecDepth 100000 in
theorem tX3_faultHere {X : Nat × (Nat → Int32)} {I : zPI} {L : zPL} {F : zPF} {a b : Nat} {o : Nat} (hR : zRin F a b (some o)) (hso : zSc o) (p1 : Int32) (r : Int32) (h : fX3_faultHere o I p1 = r) : zAM X mX3_faultHere 0 [zr 15, zi p1] (zS0, I, L, F) (some (zi r)) (zS0, I, L, F) := by
  refine zAM_of (by decide) (Nat.le_of_ble_eq_true rfl) ⟨fun h => (by cases h), fun h => (by cases h)⟩ (Nat.le_refl _) (Nat.le_refl _) ?_
  unfold fX3_faultHere at h
  show zAW zE0 X mX3_faultHere 0 0 [(0, zr 15), (1, zi p1)] [] (zS0, I, L, F) (some (zi r)) (zS0, I, L, F)
  refine a_iload_n dX3_faultHere_0 rfl 1 rfl ?_
  refine a_bipush (v := 16) dX3_faultHere_1 (by decide) ?_
  refine a_aload_n dX3_faultHere_3 rfl 0 rfl ?_
  refine a_getq dX3_faultHere_4 G_X3_15 zs_15 rfl (rf_15_0 hR) ?_
  refine a_geti dX3_faultHere_7 G_X3_54 zs_13 rfl ?_
  refine a_imul dX3_faultHere_10 ?_
  refine a_iadd dX3_faultHere_11 ?_
  subst h
  exact a_iret dX3_faultHere_12 (by intro h; cases h) (znar_i rfl)
def fX3_checkNumber_44 (o : Nat) (I : zPI) (s0 : Int32) : Int32 := (if s0 = 0 then (fX3_faultHere o I 4) else 0)
def fX3_checkNumber_43 (o : Nat) (I : zPI) : Int32 := fX3_checkNumber_44 o I 0
def fX3_checkNumber (o : Nat) (I : zPI) (p1 : Int32) (p2 : Int32) : Int32 := (if (I 13 2) = 3 then (if (I 13 4) < p1 then fX3_checkNumber_43 o I else (if p2 < (I 13 4) then fX3_checkNumber_43 o I else fX3_checkNumber_44 o I 1)) else (fX3_faultHere o I 1))
set_option maxRecDepth 100000 in
theorem tX3_checkNumber_44 {X : Nat × (Nat → Int32)} {I : zPI} {L : zPL} {F : zPF} {a b : Nat} {o : Nat} (hR : zRin F a b (some o)) (hso : zSc o) {r : Int32} {s0 : Int32} (h : fX3_checkNumber_44 o I s0 = r) : zAW zE0 X mX3_checkNumber 1 44 [(0, zr 15)] [zi s0] (zS0, I, L, F) (some (zi r)) (zS0, I, L, F) := by
  unfold fX3_checkNumber_44 at h
  refine a_istore_n dX3_checkNumber_44 rfl (by decide) rfl ?_
  refine a_iload_n dX3_checkNumber_45 rfl 0 rfl ?_
  refine a_if_eq (tgt := 53) dX3_checkNumber_46 rfl (fun hc2 => ?_) (fun hc2 => ?_)
  · rw [if_pos hc2] at h
    refine a_aload_n dX3_checkNumber_53 rfl 1 rfl ?_
    refine a_iconst (v := 4) dX3_checkNumber_54 (by decide) ?_
    refine a_callV dX3_checkNumber_55 (tX3_faultHere hR hso _ _ rfl) csX3_faultHere zw486 (Nat.le_of_ble_eq_true rfl) zs_15 rfl rfl (Nat.le_of_ble_eq_true rfl) ⟨Nat.le_refl _, Nat.le_refl _⟩ (fun hb1 => ?_)
    subst h
    exact a_iret dX3_checkNumber_58 (by intro h; cases h) (znar_i rfl)
  · rw [if_neg hc2] at h
    refine a_iconst (v := 0) dX3_checkNumber_49 (by decide) ?_
    refine a_goto (tgt := 58) dX3_checkNumber_50 rfl ?_
    subst h
    exact a_iret dX3_checkNumber_58 (by intro h; cases h) (znar_i rfl)
set_option maxRecDepth 100000 in
theorem tX3_checkNumber_43 {X : Nat × (Nat → Int32)} {I : zPI} {L : zPL} {F : zPF} {a b : Nat} {o : Nat} (hR : zRin F a b (some o)) (hso : zSc o) {r : Int32} (h : fX3_checkNumber_43 o I = r) : zAW zE0 X mX3_checkNumber 1 43 [(0, zr 15)] [] (zS0, I, L, F) (some (zi r)) (zS0, I, L, F) := by
  unfold fX3_checkNumber_43 at h
  refine a_iconst (v := 0) dX3_checkNumber_43 (by decide) ?_
  exact tX3_checkNumber_44 hR hso h
set_option maxRecDepth 100000 in
theorem tX3_checkNumber {X : Nat × (Nat → Int32)} {I : zPI} {L : zPL} {F : zPF} {a b : Nat} {o : Nat} (hR : zRin F a b (some o)) (hso : zSc o) (p1 : Int32) (p2 : Int32) (r : Int32) (h : fX3_checkNumber o I p1 p2 = r) : zAM X mX3_checkNumber 1 [zr 15, zi p1, zi p2] (zS0, I, L, F) (some (zi r)) (zS0, I, L, F) := by
  refine zAM_of (by decide) (Nat.le_of_ble_eq_true rfl) ⟨fun h => (by cases h), fun h => (by cases h)⟩ (Nat.le_refl _) (Nat.le_refl _) ?_
  unfold fX3_checkNumber at h
  show zAW zE0 X mX3_checkNumber 1 0 [(0, zr 15), (1, zi p1), (2, zi p2)] [] (zS0, I, L, F) (some (zi r)) (zS0, I, L, F)
  refine a_aload_n dX3_checkNumber_0 rfl 0 rfl ?_
  refine a_getq dX3_checkNumber_1 G_X3_15 zs_15 rfl (rf_15_0 hR) ?_
  refine a_geti dX3_checkNumber_4 G_X3_41 zs_13 rfl ?_
  refine a_iconst (v := 3) dX3_checkNumber_7 (by decide) ?_
  refine a_icmp_eq (tgt := 17) dX3_checkNumber_8 rfl (fun hc6 => ?_) (fun hc6 => ?_)
  · rw [if_pos hc6] at h
    refine a_aload_n dX3_checkNumber_17 rfl 0 rfl ?_
    refine a_getq dX3_checkNumber_18 G_X3_15 zs_15 rfl (rf_15_0 hR) ?_
    refine a_geti dX3_checkNumber_21 G_X3_123 zs_13 rfl ?_
    refine a_iload_n dX3_checkNumber_24 rfl 1 rfl ?_
    refine a_icmp_lt (tgt := 43) dX3_checkNumber_25 rfl (fun hc4 => ?_) (fun hc4 => ?_)
    · rw [if_pos hc4] at h
      refine a_sub [0] rfl ?_
      exact tX3_checkNumber_43 hR hso h
    · rw [if_neg hc4] at h
      refine a_aload_n dX3_checkNumber_28 rfl 0 rfl ?_
      refine a_getq dX3_checkNumber_29 G_X3_15 zs_15 rfl (rf_15_0 hR) ?_
      refine a_geti dX3_checkNumber_32 G_X3_123 zs_13 rfl ?_
      refine a_iload_n dX3_checkNumber_35 rfl 2 rfl ?_
      refine a_icmp_gt (tgt := 43) dX3_checkNumber_36 rfl (fun hc3 => ?_) (fun hc3 => ?_)
      · rw [if_pos hc3] at h
        refine a_sub [0] rfl ?_
        exact tX3_checkNumber_43 hR hso h
      · rw [if_neg hc3] at h
        refine a_iconst (v := 1) dX3_checkNumber_39 (by decide) ?_
        refine a_goto (tgt := 44) dX3_checkNumber_40 rfl ?_
        refine a_sub [0] rfl ?_
        exact tX3_checkNumber_44 hR hso h
  · rw [if_neg hc6] at h
    refine a_aload_n dX3_checkNumber_11 rfl 0 rfl ?_
    refine a_iconst (v := 1) dX3_checkNumber_12 (by decide) ?_
    refine a_callV dX3_checkNumber_13 (tX3_faultHere hR hso _ _ rfl) csX3_faultHere zw486 (Nat.le_of_ble_eq_true rfl) zs_15 rfl rfl (Nat.le_of_ble_eq_true rfl) ⟨Nat.le_refl _, Nat.le_refl _⟩ (fun hb5 => ?_)
    subst h
    exact a_iret dX3_checkNumber_16 (by intro h; cases h) (znar_i rfl)
def fX3_highestOf (o : Nat) (p0 : Int32) : Int32 := (if p0 = 2 then 2 else if p0 = 3 then 17 else if p0 = 4 then 31 else if p0 = 5 then 2 else if p0 = 6 then 999 else 8)
set_option maxRecDepth 100000 in
theorem tX3_highestOf {X : Nat × (Nat → Int32)} {I : zPI} {L : zPL} {F : zPF} {a b : Nat} {o : Nat} (hR : zRin F a b (some o)) (hso : zSc o) (p0 : Int32) (r : Int32) (h : fX3_highestOf o p0 = r) : zAM X mX3_highestOf 0 [zi p0] (zS0, I, L, F) (some (zi r)) (zS0, I, L, F) := by
  refine zAM_of (by decide) (Nat.le_of_ble_eq_true rfl) ⟨fun h => (by cases h), fun h => (by cases h)⟩ (Nat.le_refl _) (Nat.le_refl _) ?_
  unfold fX3_highestOf at h
  show zAW zE0 X mX3_highestOf 0 0 [(0, zi p0)] [] (zS0, I, L, F) (some (zi r)) (zS0, I, L, F)
  refine a_iload_n dX3_highestOf_0 rfl 0 rfl ?_
  by_cases hc2 : p0 = 2
  · rw [if_pos hc2] at h
    refine a_tableIn (tgt := 36) dX3_highestOf_1 (by rw [hc2]; decide) (by rw [hc2]; decide) (by rw [hc2]; first | done | rfl) rfl ?_
    refine a_iconst (v := 2) dX3_highestOf_36 (by decide) ?_
    subst h
    exact a_iret dX3_highestOf_37 (by intro h; cases h) (znar_i rfl)
  · rw [if_neg hc2] at h
    by_cases hc3 : p0 = 3
    · rw [if_pos hc3] at h
      refine a_tableIn (tgt := 38) dX3_highestOf_1 (by rw [hc3]; decide) (by rw [hc3]; decide) (by rw [hc3]; first | done | rfl) rfl ?_
      refine a_bipush (v := 17) dX3_highestOf_38 (by decide) ?_
      subst h
      exact a_iret dX3_highestOf_40 (by intro h; cases h) (znar_i rfl)
    · rw [if_neg hc3] at h
      by_cases hc4 : p0 = 4
      · rw [if_pos hc4] at h
        refine a_tableIn (tgt := 41) dX3_highestOf_1 (by rw [hc4]; decide) (by rw [hc4]; decide) (by rw [hc4]; first | done | rfl) rfl ?_
        refine a_bipush (v := 31) dX3_highestOf_41 (by decide) ?_
        subst h
        exact a_iret dX3_highestOf_43 (by intro h; cases h) (znar_i rfl)
      · rw [if_neg hc4] at h
        by_cases hc5 : p0 = 5
        · rw [if_pos hc5] at h
          refine a_tableIn (tgt := 44) dX3_highestOf_1 (by rw [hc5]; decide) (by rw [hc5]; decide) (by rw [hc5]; first | done | rfl) rfl ?_
          refine a_iconst (v := 2) dX3_highestOf_44 (by decide) ?_
          subst h
          exact a_iret dX3_highestOf_45 (by intro h; cases h) (znar_i rfl)
        · rw [if_neg hc5] at h
          by_cases hc6 : p0 = 6
          · rw [if_pos hc6] at h
            refine a_tableIn (tgt := 46) dX3_highestOf_1 (by rw [hc6]; decide) (by rw [hc6]; decide) (by rw [hc6]; first | done | rfl) rfl ?_
            refine a_sipush (v := 999) dX3_highestOf_46 (by decide) ?_
            subst h
            exact a_iret dX3_highestOf_49 (by intro h; cases h) (znar_i rfl)
          · rw [if_neg hc6] at h
            have hk9 : (p0 : Int32).toInt < 2 ∨ 6 < (p0 : Int32).toInt := by
              have := znot (k := 2) (z := 2) hc2 (by decide)
              have := znot (k := 3) (z := 3) hc3 (by decide)
              have := znot (k := 4) (z := 4) hc4 (by decide)
              have := znot (k := 5) (z := 5) hc5 (by decide)
              have := znot (k := 6) (z := 6) hc6 (by decide)
              omega
            refine a_tableOut (tgt := 50) dX3_highestOf_1 hk9 rfl ?_
            refine a_bipush (v := 8) dX3_highestOf_50 (by decide) ?_
            subst h
            exact a_iret dX3_highestOf_52 (by intro h; cases h) (znar_i rfl)
def fX3_isOver (o : Nat) (I : zPI) : Int32 := (if (I 13 2) = 0 then (if (I 15 2) = 0 then 1 else 0) else 0)
set_option maxRecDepth 100000 in
theorem tX3_isOver {X : Nat × (Nat → Int32)} {I : zPI} {L : zPL} {F : zPF} {a b : Nat} {o : Nat} (hR : zRin F a b (some o)) (hso : zSc o) (r : Int32) (h : fX3_isOver o I = r) : zAM X mX3_isOver 0 [zr 15] (zS0, I, L, F) (some (zi r)) (zS0, I, L, F) := by
  refine zAM_of (by decide) (Nat.le_of_ble_eq_true rfl) ⟨fun h => (by cases h), fun h => (by cases h)⟩ (Nat.le_refl _) (Nat.le_refl _) ?_
  unfold fX3_isOver at h
  show zAW zE0 X mX3_isOver 0 0 [(0, zr 15)] [] (zS0, I, L, F) (some (zi r)) (zS0, I, L, F)
  refine a_aload_n dX3_isOver_0 rfl 0 rfl ?_
  refine a_getq dX3_isOver_1 G_X3_15 zs_15 rfl (rf_15_0 hR) ?_
  refine a_geti dX3_isOver_4 G_X3_41 zs_13 rfl ?_
  refine a_if_ne (tgt := 21) dX3_isOver_7 rfl (fun hc2 => ?_) (fun hc2 => ?_)
  · rw [if_neg hc2] at h
    refine a_iconst (v := 0) dX3_isOver_21 (by decide) ?_
    subst h
    exact a_iret dX3_isOver_22 (by intro h; cases h) (znar_b0 rfl)
  · rw [if_pos hc2] at h
    refine a_aload_n dX3_isOver_10 rfl 0 rfl ?_
    refine a_geti dX3_isOver_11 G_X3_29 zs_15 rfl ?_
    refine a_if_ne (tgt := 21) dX3_isOver_14 rfl (fun hc1 => ?_) (fun hc1 => ?_)
    · rw [if_neg hc1] at h
      refine a_iconst (v := 0) dX3_isOver_21 (by decide) ?_
      subst h
      exact a_iret dX3_isOver_22 (by intro h; cases h) (znar_b0 rfl)
    · rw [if_pos hc1] at h
      refine a_iconst (v := 1) dX3_isOver_17 (by decide) ?_
      refine a_goto (tgt := 22) dX3_isOver_18 rfl ?_
      subst h
      exact a_iret dX3_isOver_22 (by intro h; cases h) (znar_b1 rfl)
def fX3_partHere (o : Nat) (I : zPI) : Option (Int32) := (if (I 13 2) = 3 then some 0 else (fX6_spells 10 I).bind (fun q1 => (if q1 = 0 then (fX6_spells 11 I).bind (fun q3 => (if q3 = 0 then (fX6_spells 12 I).bind (fun q5 => (if q5 = 0 then (fX6_spells 13 I).bind (fun q7 => (if q7 = 0 then (fX6_spells 14 I).bind (fun q9 => (if q9 = 0 then (fX6_spells 15 I).bind (fun q11 => (if q11 = 0 then (fX6_spells 16 I).bind (fun q13 => (if q13 = 0 then some (-1) else some 7)) else some 6)) else some 5)) else some 4)) else some 3)) else some 2)) else some 1)))
set_option maxRecDepth 100000 in
theorem tX3_partHere {X : Nat × (Nat → Int32)} {I : zPI} {L : zPL} {F : zPF} {a b : Nat} {o : Nat} (hR : zRin F a b (some o)) (hso : zSc o) (r : Int32) (h : fX3_partHere o I = some r) : zAM X mX3_partHere 5 [zr 15] (zS0, I, L, F) (some (zi r)) (zS0, I, L, F) := by
  refine zAM_of (by decide) (Nat.le_of_ble_eq_true rfl) ⟨fun h => (by cases h), fun h => (by cases h)⟩ (Nat.le_refl _) (Nat.le_refl _) ?_
  unfold fX3_partHere at h
  show zAW zE0 X mX3_partHere 5 0 [(0, zr 15)] [] (zS0, I, L, F) (some (zi r)) (zS0, I, L, F)
  refine a_aload_n dX3_partHere_0 rfl 0 rfl ?_
  refine a_getq dX3_partHere_1 G_X3_15 zs_15 rfl (rf_15_0 hR) ?_
  refine a_geti dX3_partHere_4 G_X3_41 zs_13 rfl ?_
  refine a_iconst (v := 3) dX3_partHere_7 (by decide) ?_
  refine a_icmp_ne (tgt := 13) dX3_partHere_8 rfl (fun hc22 => ?_) (fun hc22 => ?_)
  · rw [if_neg hc22] at h
    refine a_aload_n dX3_partHere_13 rfl 0 rfl ?_
    refine a_getq dX3_partHere_14 G_X3_15 zs_15 rfl (rf_15_0 hR) ?_
    refine a_ldcs (i := 10) dX3_partHere_17 rfl rfl rfl ?_
    obtain ⟨q1, hq1, h⟩ := zbind h
    refine a_callV dX3_partHere_19 (tX6_spells hR (w := 10) rfl _ hq1) csX6_spells zw430 (Nat.le_of_ble_eq_true rfl) zs_13 rfl rfl (Nat.le_of_ble_eq_true rfl) ⟨Nat.le_refl _, Nat.le_refl _⟩ (fun hb2 => ?_)
    refine a_if_eq (tgt := 27) dX3_partHere_22 rfl (fun hc21 => ?_) (fun hc21 => ?_)
    · rw [if_pos hc21] at h
      refine a_aload_n dX3_partHere_27 rfl 0 rfl ?_
      refine a_getq dX3_partHere_28 G_X3_15 zs_15 rfl (rf_15_0 hR) ?_
      refine a_ldcs (i := 11) dX3_partHere_31 rfl rfl rfl ?_
      obtain ⟨q3, hq3, h⟩ := zbind h
      refine a_callV dX3_partHere_33 (tX6_spells hR (w := 11) rfl _ hq3) csX6_spells zw430 (Nat.le_of_ble_eq_true rfl) zs_13 rfl rfl (Nat.le_of_ble_eq_true rfl) ⟨Nat.le_refl _, Nat.le_refl _⟩ (fun hb4 => ?_)
      refine a_if_eq (tgt := 41) dX3_partHere_36 rfl (fun hc20 => ?_) (fun hc20 => ?_)
      · rw [if_pos hc20] at h
        refine a_aload_n dX3_partHere_41 rfl 0 rfl ?_
        refine a_getq dX3_partHere_42 G_X3_15 zs_15 rfl (rf_15_0 hR) ?_
        refine a_ldcs (i := 12) dX3_partHere_45 rfl rfl rfl ?_
        obtain ⟨q5, hq5, h⟩ := zbind h
        refine a_callV dX3_partHere_47 (tX6_spells hR (w := 12) rfl _ hq5) csX6_spells zw430 (Nat.le_of_ble_eq_true rfl) zs_13 rfl rfl (Nat.le_of_ble_eq_true rfl) ⟨Nat.le_refl _, Nat.le_refl _⟩ (fun hb6 => ?_)
        refine a_if_eq (tgt := 55) dX3_partHere_50 rfl (fun hc19 => ?_) (fun hc19 => ?_)
        · rw [if_pos hc19] at h
          refine a_aload_n dX3_partHere_55 rfl 0 rfl ?_
          refine a_getq dX3_partHere_56 G_X3_15 zs_15 rfl (rf_15_0 hR) ?_
          refine a_ldcs (i := 13) dX3_partHere_59 rfl rfl rfl ?_
          obtain ⟨q7, hq7, h⟩ := zbind h
          refine a_callV dX3_partHere_61 (tX6_spells hR (w := 13) rfl _ hq7) csX6_spells zw430 (Nat.le_of_ble_eq_true rfl) zs_13 rfl rfl (Nat.le_of_ble_eq_true rfl) ⟨Nat.le_refl _, Nat.le_refl _⟩ (fun hb8 => ?_)
          refine a_if_eq (tgt := 69) dX3_partHere_64 rfl (fun hc18 => ?_) (fun hc18 => ?_)
          · rw [if_pos hc18] at h
            refine a_aload_n dX3_partHere_69 rfl 0 rfl ?_
            refine a_getq dX3_partHere_70 G_X3_15 zs_15 rfl (rf_15_0 hR) ?_
            refine a_ldcs (i := 14) dX3_partHere_73 rfl rfl rfl ?_
            obtain ⟨q9, hq9, h⟩ := zbind h
            refine a_callV dX3_partHere_75 (tX6_spells hR (w := 14) rfl _ hq9) csX6_spells zw430 (Nat.le_of_ble_eq_true rfl) zs_13 rfl rfl (Nat.le_of_ble_eq_true rfl) ⟨Nat.le_refl _, Nat.le_refl _⟩ (fun hb10 => ?_)
            refine a_if_eq (tgt := 83) dX3_partHere_78 rfl (fun hc17 => ?_) (fun hc17 => ?_)
            · rw [if_pos hc17] at h
              refine a_aload_n dX3_partHere_83 rfl 0 rfl ?_
              refine a_getq dX3_partHere_84 G_X3_15 zs_15 rfl (rf_15_0 hR) ?_
              refine a_ldcs (i := 15) dX3_partHere_87 rfl rfl rfl ?_
              obtain ⟨q11, hq11, h⟩ := zbind h
              refine a_callV dX3_partHere_89 (tX6_spells hR (w := 15) rfl _ hq11) csX6_spells zw430 (Nat.le_of_ble_eq_true rfl) zs_13 rfl rfl (Nat.le_of_ble_eq_true rfl) ⟨Nat.le_refl _, Nat.le_refl _⟩ (fun hb12 => ?_)
              refine a_if_eq (tgt := 98) dX3_partHere_92 rfl (fun hc16 => ?_) (fun hc16 => ?_)
              · rw [if_pos hc16] at h
                refine a_aload_n dX3_partHere_98 rfl 0 rfl ?_
                refine a_getq dX3_partHere_99 G_X3_15 zs_15 rfl (rf_15_0 hR) ?_
                refine a_ldcs (i := 16) dX3_partHere_102 rfl rfl rfl ?_
                obtain ⟨q13, hq13, h⟩ := zbind h
                refine a_callV dX3_partHere_104 (tX6_spells hR (w := 16) rfl _ hq13) csX6_spells zw430 (Nat.le_of_ble_eq_true rfl) zs_13 rfl rfl (Nat.le_of_ble_eq_true rfl) ⟨Nat.le_refl _, Nat.le_refl _⟩ (fun hb14 => ?_)
                refine a_if_eq (tgt := 115) dX3_partHere_107 rfl (fun hc15 => ?_) (fun hc15 => ?_)
                · rw [if_pos hc15] at h
                  refine a_iconst (v := (-1)) dX3_partHere_115 (by decide) ?_
                  cases h
                  exact a_iret dX3_partHere_116 (by intro h; cases h) (znar_i rfl)
                · rw [if_neg hc15] at h
                  refine a_bipush (v := 7) dX3_partHere_110 (by decide) ?_
                  refine a_goto (tgt := 116) dX3_partHere_112 rfl ?_
                  cases h
                  exact a_iret dX3_partHere_116 (by intro h; cases h) (znar_i rfl)
              · rw [if_neg hc16] at h
                refine a_bipush (v := 6) dX3_partHere_95 (by decide) ?_
                cases h
                exact a_iret dX3_partHere_97 (by intro h; cases h) (znar_i rfl)
            · rw [if_neg hc17] at h
              refine a_iconst (v := 5) dX3_partHere_81 (by decide) ?_
              cases h
              exact a_iret dX3_partHere_82 (by intro h; cases h) (znar_i rfl)
          · rw [if_neg hc18] at h
            refine a_iconst (v := 4) dX3_partHere_67 (by decide) ?_
            cases h
            exact a_iret dX3_partHere_68 (by intro h; cases h) (znar_i rfl)
        · rw [if_neg hc19] at h
          refine a_iconst (v := 3) dX3_partHere_53 (by decide) ?_
          cases h
          exact a_iret dX3_partHere_54 (by intro h; cases h) (znar_i rfl)
      · rw [if_neg hc20] at h
        refine a_iconst (v := 2) dX3_partHere_39 (by decide) ?_
        cases h
        exact a_iret dX3_partHere_40 (by intro h; cases h) (znar_i rfl)
    · rw [if_neg hc21] at h
      refine a_iconst (v := 1) dX3_partHere_25 (by decide) ?_
      cases h
      exact a_iret dX3_partHere_26 (by intro h; cases h) (znar_i rfl)
  · rw [if_pos hc22] at h
    refine a_iconst (v := 0) dX3_partHere_11 (by decide) ?_
    cases h
    exact a_iret dX3_partHere_12 (by intro h; cases h) (znar_i rfl)
def fX3_readSign (o : Nat) (I : zPI) (p1 : Int32) : Option (Int32 × zPI) := (if (I 13 2) = p1 then (fX6_advance I).bind (fun q1 => some (0, q1)) else some ((fX3_faultHere o I 1), I))
set_option maxRecDepth 100000 in
theorem tX3_readSign {X : Nat × (Nat → Int32)} {I : zPI} {L : zPL} {F : zPF} {a b : Nat} {o : Nat} (hR : zRin F a b (some o)) (hso : zSc o) (p1 : Int32) (r : Int32 × zPI) (h : fX3_readSign o I p1 = some r) : zAM X mX3_readSign 2 [zr 15, zi p1] (zS0, I, L, F) (some (zi r.1)) (zS0, r.2, L, F) := by
  refine zAM_of (by decide) (Nat.le_of_ble_eq_true rfl) ⟨fun h => (by cases h), fun h => (by cases h)⟩ (Nat.le_refl _) (Nat.le_refl _) ?_
  unfold fX3_readSign at h
  show zAW zE0 X mX3_readSign 2 0 [(0, zr 15), (1, zi p1)] [] (zS0, I, L, F) (some (zi r.1)) (zS0, r.2, L, F)
  refine a_aload_n dX3_readSign_0 rfl 0 rfl ?_
  refine a_getq dX3_readSign_1 G_X3_15 zs_15 rfl (rf_15_0 hR) ?_
  refine a_geti dX3_readSign_4 G_X3_41 zs_13 rfl ?_
  refine a_iload_n dX3_readSign_7 rfl 1 rfl ?_
  refine a_icmp_eq (tgt := 17) dX3_readSign_8 rfl (fun hc4 => ?_) (fun hc4 => ?_)
  · rw [if_pos hc4] at h
    refine a_aload_n dX3_readSign_17 rfl 0 rfl ?_
    refine a_getq dX3_readSign_18 G_X3_15 zs_15 rfl (rf_15_0 hR) ?_
    obtain ⟨q1, hq1, h⟩ := zbind h
    refine a_callV dX3_readSign_21 (tX6_advance hR _ hq1) csX6_advance zw428 (Nat.le_of_ble_eq_true rfl) zs_13 rfl rfl (Nat.le_of_ble_eq_true rfl) ⟨Nat.le_refl _, Nat.le_refl _⟩ (fun hb2 => ?_)
    refine a_iconst (v := 0) dX3_readSign_24 (by decide) ?_
    cases h
    exact a_iret dX3_readSign_25 (by intro h; cases h) (znar_i rfl)
  · rw [if_neg hc4] at h
    refine a_aload_n dX3_readSign_11 rfl 0 rfl ?_
    refine a_iconst (v := 1) dX3_readSign_12 (by decide) ?_
    refine a_callV dX3_readSign_13 (tX3_faultHere hR hso _ _ rfl) csX3_faultHere zw486 (Nat.le_of_ble_eq_true rfl) zs_15 rfl rfl (Nat.le_of_ble_eq_true rfl) ⟨Nat.le_refl _, Nat.le_refl _⟩ (fun hb3 => ?_)
    cases h
    exact a_iret dX3_readSign_16 (by intro h; cases h) (znar_i rfl)
def fX3_readClosing_88 (o : Nat) (v1 : Int32) (I : zPI) : Option (Int32 × zPI) := (if zin v1 80 then some (0, zu (zu I (o + 6) v1.toNatClampNeg (I o 0)) 15 2 (((zu I (o + 6) v1.toNatClampNeg (I o 0)) 15 2) - 1)) else none)
def fX3_readClosing (o : Nat) (I : zPI) : Option (Int32 × zPI) := (if zin ((I 15 2) - 1) 8 then (fX6_advance I).bind (fun q2 => (if zin (I 16 ((I 15 2) - 1).toNatClampNeg) 80 then (if (q2 (o + 1) (I 16 ((I 15 2) - 1).toNatClampNeg).toNatClampNeg) = 7 then (if zin (I 16 ((I 15 2) - 1).toNatClampNeg) 80 then (if (q2 (o + 5) (I 16 ((I 15 2) - 1).toNatClampNeg).toNatClampNeg) = (-1) then (if zin (I 16 ((I 15 2) - 1).toNatClampNeg) 80 then (fX6_spells 0 (zu q2 (o + 5) (I 16 ((I 15 2) - 1).toNatClampNeg).toNatClampNeg (q2 o 0))).bind (fun q8 => (if q8 = 0 then fX3_readClosing_88 o (I 16 ((I 15 2) - 1).toNatClampNeg) (zu q2 (o + 5) (I 16 ((I 15 2) - 1).toNatClampNeg).toNatClampNeg (q2 o 0)) else (fX6_advance (zu q2 (o + 5) (I 16 ((I 15 2) - 1).toNatClampNeg).toNatClampNeg (q2 o 0))).bind (fun q10 => (fX3_readSign o q10 123).bind (fun q12 => some (q12.1, q12.2))))) else none) else fX3_readClosing_88 o (I 16 ((I 15 2) - 1).toNatClampNeg) q2) else none) else fX3_readClosing_88 o (I 16 ((I 15 2) - 1).toNatClampNeg) q2) else none)) else none)
set_option maxRecDepth 100000 in
theorem tX3_readClosing_88 {X : Nat × (Nat → Int32)} {I : zPI} {L : zPL} {F : zPF} {a b : Nat} {o : Nat} (hR : zRin F a b (some o)) (hso : zSc o) {r : Int32 × zPI} {v1 : Int32} (h : fX3_readClosing_88 o v1 I = some r) : zAW zE0 X mX3_readClosing 5 88 [(0, zr 15), (1, zi v1)] [] (zS0, I, L, F) (some (zi r.1)) (zS0, r.2, L, F) := by
  unfold fX3_readClosing_88 at h
  refine a_aload_n dX3_readClosing_88 rfl 0 rfl ?_
  refine a_getq dX3_readClosing_89 G_X3_19 zs_15 rfl (rf_15_s hR) ?_
  refine a_getq dX3_readClosing_92 G_X3_76 (zsc_o hso) rfl (rsc_6 hR hso) ?_
  refine a_iload_n dX3_readClosing_95 rfl 1 rfl ?_
  refine a_aload_n dX3_readClosing_96 rfl 0 rfl ?_
  refine a_getq dX3_readClosing_97 G_X3_19 zs_15 rfl (rf_15_s hR) ?_
  refine a_geti dX3_readClosing_100 G_X3_23 (zsc_o hso) rfl ?_
  obtain ⟨hz5, h⟩ := zif h
  refine a_iast dX3_readClosing_103 (zsa_6 hso) (zin_vp hz5) ?_
  refine a_aload_n dX3_readClosing_104 rfl 0 rfl ?_
  refine a_dup dX3_readClosing_105 rfl ?_
  refine a_geti dX3_readClosing_106 G_X3_29 zs_15 rfl ?_
  refine a_iconst (v := 1) dX3_readClosing_109 (by decide) ?_
  refine a_isub dX3_readClosing_110 ?_
  refine a_puti dX3_readClosing_111 F_X3_29 zs_15 rfl ⟨rfl, rfl⟩ ?_
  refine a_iconst (v := 0) dX3_readClosing_114 (by decide) ?_
  cases h
  exact a_iret dX3_readClosing_115 (by intro h; cases h) (znar_i rfl)
set_option maxRecDepth 100000 in
theorem tX3_readClosing {X : Nat × (Nat → Int32)} {I : zPI} {L : zPL} {F : zPF} {a b : Nat} {o : Nat} (hR : zRin F a b (some o)) (hso : zSc o) (r : Int32 × zPI) (h : fX3_readClosing o I = some r) : zAM X mX3_readClosing 5 [zr 15] (zS0, I, L, F) (some (zi r.1)) (zS0, r.2, L, F) := by
  refine zAM_of (by decide) (Nat.le_of_ble_eq_true rfl) ⟨fun h => (by cases h), fun h => (by cases h)⟩ (Nat.le_refl _) (Nat.le_refl _) ?_
  unfold fX3_readClosing at h
  show zAW zE0 X mX3_readClosing 5 0 [(0, zr 15)] [] (zS0, I, L, F) (some (zi r.1)) (zS0, r.2, L, F)
  refine a_aload_n dX3_readClosing_0 rfl 0 rfl ?_
  refine a_getq dX3_readClosing_1 G_X3_11 zs_15 rfl (rf_15_1 hR) ?_
  refine a_aload_n dX3_readClosing_4 rfl 0 rfl ?_
  refine a_geti dX3_readClosing_5 G_X3_29 zs_15 rfl ?_
  refine a_iconst (v := 1) dX3_readClosing_8 (by decide) ?_
  refine a_isub dX3_readClosing_9 ?_
  obtain ⟨hz1, h⟩ := zif h
  refine a_iald dX3_readClosing_10 zs_16 (zin_vp hz1) ?_
  refine a_istore_n dX3_readClosing_11 rfl (by decide) rfl ?_
  refine a_aload_n dX3_readClosing_12 rfl 1 rfl ?_
  refine a_getq dX3_readClosing_13 G_X3_15 zs_15 rfl (rf_15_0 hR) ?_
  obtain ⟨q2, hq2, h⟩ := zbind h
  refine a_callV dX3_readClosing_16 (tX6_advance hR _ hq2) csX6_advance zw428 (Nat.le_of_ble_eq_true rfl) zs_13 rfl rfl (Nat.le_of_ble_eq_true rfl) ⟨Nat.le_refl _, Nat.le_refl _⟩ (fun hb3 => ?_)
  refine a_aload_n dX3_readClosing_19 rfl 1 rfl ?_
  refine a_getq dX3_readClosing_20 G_X3_19 zs_15 rfl (rf_15_s hR) ?_
  refine a_getq dX3_readClosing_23 G_X3_60 (zsc_o hso) rfl (rsc_1 hR hso) ?_
  refine a_iload_n dX3_readClosing_26 rfl 0 rfl ?_
  obtain ⟨hz4, h⟩ := zif h
  refine a_iald dX3_readClosing_27 (zsa_1 hso) (zin_vp hz4) ?_
  refine a_bipush (v := 7) dX3_readClosing_28 (by decide) ?_
  refine a_icmp_ne (tgt := 88) dX3_readClosing_30 rfl (fun hc16 => ?_) (fun hc16 => ?_)
  · rw [if_neg hc16] at h
    refine a_sub [1, 0] rfl ?_
    exact tX3_readClosing_88 hR hso h
  · rw [if_pos hc16] at h
    refine a_aload_n dX3_readClosing_33 rfl 1 rfl ?_
    refine a_getq dX3_readClosing_34 G_X3_19 zs_15 rfl (rf_15_s hR) ?_
    refine a_getq dX3_readClosing_37 G_X3_63 (zsc_o hso) rfl (rsc_5 hR hso) ?_
    refine a_iload_n dX3_readClosing_40 rfl 0 rfl ?_
    obtain ⟨hz6, h⟩ := zif h
    refine a_iald dX3_readClosing_41 (zsa_5 hso) (zin_vp hz6) ?_
    refine a_iconst (v := (-1)) dX3_readClosing_42 (by decide) ?_
    refine a_icmp_ne (tgt := 88) dX3_readClosing_43 rfl (fun hc15 => ?_) (fun hc15 => ?_)
    · rw [if_neg hc15] at h
      refine a_sub [1, 0] rfl ?_
      exact tX3_readClosing_88 hR hso h
    · rw [if_pos hc15] at h
      refine a_aload_n dX3_readClosing_46 rfl 1 rfl ?_
      refine a_getq dX3_readClosing_47 G_X3_19 zs_15 rfl (rf_15_s hR) ?_
      refine a_getq dX3_readClosing_50 G_X3_63 (zsc_o hso) rfl (rsc_5 hR hso) ?_
      refine a_iload_n dX3_readClosing_53 rfl 0 rfl ?_
      refine a_aload_n dX3_readClosing_54 rfl 1 rfl ?_
      refine a_getq dX3_readClosing_55 G_X3_19 zs_15 rfl (rf_15_s hR) ?_
      refine a_geti dX3_readClosing_58 G_X3_23 (zsc_o hso) rfl ?_
      obtain ⟨hz7, h⟩ := zif h
      refine a_iast dX3_readClosing_61 (zsa_5 hso) (zin_vp hz7) ?_
      refine a_aload_n dX3_readClosing_62 rfl 1 rfl ?_
      refine a_getq dX3_readClosing_63 G_X3_15 zs_15 rfl (rf_15_0 hR) ?_
      refine a_ldcs (i := 0) dX3_readClosing_66 rfl rfl rfl ?_
      obtain ⟨q8, hq8, h⟩ := zbind h
      refine a_callV dX3_readClosing_68 (tX6_spells hR (w := 0) rfl _ hq8) csX6_spells zw430 (Nat.le_of_ble_eq_true rfl) zs_13 rfl rfl (Nat.le_of_ble_eq_true rfl) ⟨Nat.le_refl _, Nat.le_refl _⟩ (fun hb9 => ?_)
      refine a_if_eq (tgt := 88) dX3_readClosing_71 rfl (fun hc14 => ?_) (fun hc14 => ?_)
      · rw [if_pos hc14] at h
        refine a_sub [1, 0] rfl ?_
        exact tX3_readClosing_88 hR hso h
      · rw [if_neg hc14] at h
        refine a_aload_n dX3_readClosing_74 rfl 1 rfl ?_
        refine a_getq dX3_readClosing_75 G_X3_15 zs_15 rfl (rf_15_0 hR) ?_
        obtain ⟨q10, hq10, h⟩ := zbind h
        refine a_callV dX3_readClosing_78 (tX6_advance hR _ hq10) csX6_advance zw428 (Nat.le_of_ble_eq_true rfl) zs_13 rfl rfl (Nat.le_of_ble_eq_true rfl) ⟨Nat.le_refl _, Nat.le_refl _⟩ (fun hb11 => ?_)
        refine a_aload_n dX3_readClosing_81 rfl 1 rfl ?_
        refine a_bipush (v := 123) dX3_readClosing_82 (by decide) ?_
        obtain ⟨q12, hq12, h⟩ := zbind h
        refine a_callV dX3_readClosing_84 (tX3_readSign hR hso _ _ hq12) csX3_readSign zw482 (Nat.le_of_ble_eq_true rfl) zs_15 rfl rfl (Nat.le_of_ble_eq_true rfl) ⟨Nat.le_refl _, Nat.le_refl _⟩ (fun hb13 => ?_)
        cases h
        exact a_iret dX3_readClosing_87 (by intro h; cases h) (znar_i rfl)
def fX3_verbHere (o : Nat) (I : zPI) : Option (Int32) := (fX6_spells 1 I).bind (fun q1 => (if q1 = 0 then (fX6_spells 2 I).bind (fun q3 => (if q3 = 0 then (fX6_spells 3 I).bind (fun q5 => (if q5 = 0 then (fX6_spells 4 I).bind (fun q7 => (if q7 = 0 then (fX6_spells 5 I).bind (fun q9 => (if q9 = 0 then (fX6_spells 6 I).bind (fun q11 => (if q11 = 0 then (fX6_spells 7 I).bind (fun q13 => (if q13 = 0 then (fX6_spells 8 I).bind (fun q15 => (if q15 = 0 then (fX6_spells 9 I).bind (fun q17 => (if q17 = 0 then some (-1) else some 8)) else some 7)) else some 6)) else some 5)) else some 4)) else some 3)) else some 2)) else some 1)) else some 0))
set_option maxRecDepth 100000 in
theorem tX3_verbHere {X : Nat × (Nat → Int32)} {I : zPI} {L : zPL} {F : zPF} {a b : Nat} {o : Nat} (hR : zRin F a b (some o)) (hso : zSc o) (r : Int32) (h : fX3_verbHere o I = some r) : zAM X mX3_verbHere 5 [zr 15] (zS0, I, L, F) (some (zi r)) (zS0, I, L, F) := by
  refine zAM_of (by decide) (Nat.le_of_ble_eq_true rfl) ⟨fun h => (by cases h), fun h => (by cases h)⟩ (Nat.le_refl _) (Nat.le_refl _) ?_
  unfold fX3_verbHere at h
  show zAW zE0 X mX3_verbHere 5 0 [(0, zr 15)] [] (zS0, I, L, F) (some (zi r)) (zS0, I, L, F)
  refine a_aload_n dX3_verbHere_0 rfl 0 rfl ?_
  refine a_getq dX3_verbHere_1 G_X3_15 zs_15 rfl (rf_15_0 hR) ?_
  refine a_ldcs (i := 1) dX3_verbHere_4 rfl rfl rfl ?_
  obtain ⟨q1, hq1, h⟩ := zbind h
  refine a_callV dX3_verbHere_6 (tX6_spells hR (w := 1) rfl _ hq1) csX6_spells zw430 (Nat.le_of_ble_eq_true rfl) zs_13 rfl rfl (Nat.le_of_ble_eq_true rfl) ⟨Nat.le_refl _, Nat.le_refl _⟩ (fun hb2 => ?_)
  refine a_if_eq (tgt := 14) dX3_verbHere_9 rfl (fun hc27 => ?_) (fun hc27 => ?_)
  · rw [if_pos hc27] at h
    refine a_aload_n dX3_verbHere_14 rfl 0 rfl ?_
    refine a_getq dX3_verbHere_15 G_X3_15 zs_15 rfl (rf_15_0 hR) ?_
    refine a_ldcs (i := 2) dX3_verbHere_18 rfl rfl rfl ?_
    obtain ⟨q3, hq3, h⟩ := zbind h
    refine a_callV dX3_verbHere_20 (tX6_spells hR (w := 2) rfl _ hq3) csX6_spells zw430 (Nat.le_of_ble_eq_true rfl) zs_13 rfl rfl (Nat.le_of_ble_eq_true rfl) ⟨Nat.le_refl _, Nat.le_refl _⟩ (fun hb4 => ?_)
    refine a_if_eq (tgt := 28) dX3_verbHere_23 rfl (fun hc26 => ?_) (fun hc26 => ?_)
    · rw [if_pos hc26] at h
      refine a_aload_n dX3_verbHere_28 rfl 0 rfl ?_
      refine a_getq dX3_verbHere_29 G_X3_15 zs_15 rfl (rf_15_0 hR) ?_
      refine a_ldcs (i := 3) dX3_verbHere_32 rfl rfl rfl ?_
      obtain ⟨q5, hq5, h⟩ := zbind h
      refine a_callV dX3_verbHere_34 (tX6_spells hR (w := 3) rfl _ hq5) csX6_spells zw430 (Nat.le_of_ble_eq_true rfl) zs_13 rfl rfl (Nat.le_of_ble_eq_true rfl) ⟨Nat.le_refl _, Nat.le_refl _⟩ (fun hb6 => ?_)
      refine a_if_eq (tgt := 42) dX3_verbHere_37 rfl (fun hc25 => ?_) (fun hc25 => ?_)
      · rw [if_pos hc25] at h
        refine a_aload_n dX3_verbHere_42 rfl 0 rfl ?_
        refine a_getq dX3_verbHere_43 G_X3_15 zs_15 rfl (rf_15_0 hR) ?_
        refine a_ldcs (i := 4) dX3_verbHere_46 rfl rfl rfl ?_
        obtain ⟨q7, hq7, h⟩ := zbind h
        refine a_callV dX3_verbHere_48 (tX6_spells hR (w := 4) rfl _ hq7) csX6_spells zw430 (Nat.le_of_ble_eq_true rfl) zs_13 rfl rfl (Nat.le_of_ble_eq_true rfl) ⟨Nat.le_refl _, Nat.le_refl _⟩ (fun hb8 => ?_)
        refine a_if_eq (tgt := 56) dX3_verbHere_51 rfl (fun hc24 => ?_) (fun hc24 => ?_)
        · rw [if_pos hc24] at h
          refine a_aload_n dX3_verbHere_56 rfl 0 rfl ?_
          refine a_getq dX3_verbHere_57 G_X3_15 zs_15 rfl (rf_15_0 hR) ?_
          refine a_ldcs (i := 5) dX3_verbHere_60 rfl rfl rfl ?_
          obtain ⟨q9, hq9, h⟩ := zbind h
          refine a_callV dX3_verbHere_62 (tX6_spells hR (w := 5) rfl _ hq9) csX6_spells zw430 (Nat.le_of_ble_eq_true rfl) zs_13 rfl rfl (Nat.le_of_ble_eq_true rfl) ⟨Nat.le_refl _, Nat.le_refl _⟩ (fun hb10 => ?_)
          refine a_if_eq (tgt := 70) dX3_verbHere_65 rfl (fun hc23 => ?_) (fun hc23 => ?_)
          · rw [if_pos hc23] at h
            refine a_aload_n dX3_verbHere_70 rfl 0 rfl ?_
            refine a_getq dX3_verbHere_71 G_X3_15 zs_15 rfl (rf_15_0 hR) ?_
            refine a_ldcs (i := 6) dX3_verbHere_74 rfl rfl rfl ?_
            obtain ⟨q11, hq11, h⟩ := zbind h
            refine a_callV dX3_verbHere_76 (tX6_spells hR (w := 6) rfl _ hq11) csX6_spells zw430 (Nat.le_of_ble_eq_true rfl) zs_13 rfl rfl (Nat.le_of_ble_eq_true rfl) ⟨Nat.le_refl _, Nat.le_refl _⟩ (fun hb12 => ?_)
            refine a_if_eq (tgt := 84) dX3_verbHere_79 rfl (fun hc22 => ?_) (fun hc22 => ?_)
            · rw [if_pos hc22] at h
              refine a_aload_n dX3_verbHere_84 rfl 0 rfl ?_
              refine a_getq dX3_verbHere_85 G_X3_15 zs_15 rfl (rf_15_0 hR) ?_
              refine a_ldcs (i := 7) dX3_verbHere_88 rfl rfl rfl ?_
              obtain ⟨q13, hq13, h⟩ := zbind h
              refine a_callV dX3_verbHere_90 (tX6_spells hR (w := 7) rfl _ hq13) csX6_spells zw430 (Nat.le_of_ble_eq_true rfl) zs_13 rfl rfl (Nat.le_of_ble_eq_true rfl) ⟨Nat.le_refl _, Nat.le_refl _⟩ (fun hb14 => ?_)
              refine a_if_eq (tgt := 99) dX3_verbHere_93 rfl (fun hc21 => ?_) (fun hc21 => ?_)
              · rw [if_pos hc21] at h
                refine a_aload_n dX3_verbHere_99 rfl 0 rfl ?_
                refine a_getq dX3_verbHere_100 G_X3_15 zs_15 rfl (rf_15_0 hR) ?_
                refine a_ldcs (i := 8) dX3_verbHere_103 rfl rfl rfl ?_
                obtain ⟨q15, hq15, h⟩ := zbind h
                refine a_callV dX3_verbHere_105 (tX6_spells hR (w := 8) rfl _ hq15) csX6_spells zw430 (Nat.le_of_ble_eq_true rfl) zs_13 rfl rfl (Nat.le_of_ble_eq_true rfl) ⟨Nat.le_refl _, Nat.le_refl _⟩ (fun hb16 => ?_)
                refine a_if_eq (tgt := 114) dX3_verbHere_108 rfl (fun hc20 => ?_) (fun hc20 => ?_)
                · rw [if_pos hc20] at h
                  refine a_aload_n dX3_verbHere_114 rfl 0 rfl ?_
                  refine a_getq dX3_verbHere_115 G_X3_15 zs_15 rfl (rf_15_0 hR) ?_
                  refine a_ldcs (i := 9) dX3_verbHere_118 rfl rfl rfl ?_
                  obtain ⟨q17, hq17, h⟩ := zbind h
                  refine a_callV dX3_verbHere_120 (tX6_spells hR (w := 9) rfl _ hq17) csX6_spells zw430 (Nat.le_of_ble_eq_true rfl) zs_13 rfl rfl (Nat.le_of_ble_eq_true rfl) ⟨Nat.le_refl _, Nat.le_refl _⟩ (fun hb18 => ?_)
                  refine a_if_eq (tgt := 131) dX3_verbHere_123 rfl (fun hc19 => ?_) (fun hc19 => ?_)
                  · rw [if_pos hc19] at h
                    refine a_iconst (v := (-1)) dX3_verbHere_131 (by decide) ?_
                    cases h
                    exact a_iret dX3_verbHere_132 (by intro h; cases h) (znar_i rfl)
                  · rw [if_neg hc19] at h
                    refine a_bipush (v := 8) dX3_verbHere_126 (by decide) ?_
                    refine a_goto (tgt := 132) dX3_verbHere_128 rfl ?_
                    cases h
                    exact a_iret dX3_verbHere_132 (by intro h; cases h) (znar_i rfl)
                · rw [if_neg hc20] at h
                  refine a_bipush (v := 7) dX3_verbHere_111 (by decide) ?_
                  cases h
                  exact a_iret dX3_verbHere_113 (by intro h; cases h) (znar_i rfl)
              · rw [if_neg hc21] at h
                refine a_bipush (v := 6) dX3_verbHere_96 (by decide) ?_
                cases h
                exact a_iret dX3_verbHere_98 (by intro h; cases h) (znar_i rfl)
            · rw [if_neg hc22] at h
              refine a_iconst (v := 5) dX3_verbHere_82 (by decide) ?_
              cases h
              exact a_iret dX3_verbHere_83 (by intro h; cases h) (znar_i rfl)
          · rw [if_neg hc23] at h
            refine a_iconst (v := 4) dX3_verbHere_68 (by decide) ?_
            cases h
            exact a_iret dX3_verbHere_69 (by intro h; cases h) (znar_i rfl)
        · rw [if_neg hc24] at h
          refine a_iconst (v := 3) dX3_verbHere_54 (by decide) ?_
          cases h
          exact a_iret dX3_verbHere_55 (by intro h; cases h) (znar_i rfl)
      · rw [if_neg hc25] at h
        refine a_iconst (v := 2) dX3_verbHere_40 (by decide) ?_
        cases h
        exact a_iret dX3_verbHere_41 (by intro h; cases h) (znar_i rfl)
    · rw [if_neg hc26] at h
      refine a_iconst (v := 1) dX3_verbHere_26 (by decide) ?_
      cases h
      exact a_iret dX3_verbHere_27 (by intro h; cases h) (znar_i rfl)
  · rw [if_neg hc27] at h
    refine a_iconst (v := 0) dX3_verbHere_12 (by decide) ?_
    cases h
    exact a_iret dX3_verbHere_13 (by intro h; cases h) (znar_i rfl)
def fX3_readSum_110 (o : Nat) (rec : Int32 → Int32 → Int32 → Int32 → zPI → Option (Int32 × zPI)) (v1 : Int32) (v2 : Int32) (v4 : Int32) (s0 : Int32) (I : zPI) : Option (Int32 × zPI) := (fX6_advance I).bind (fun q7 => rec v1 v2 s0 (v4 + 1) q7)
def fX3_readSum_92 (o : Nat) (rec : Int32 → Int32 → Int32 → Int32 → zPI → Option (Int32 × zPI)) (v1 : Int32) (v2 : Int32) (v4 : Int32) (I : zPI) : Option (Int32 × zPI) := (if (I 13 2) = 43 then fX3_readSum_110 o rec v1 v2 v4 v2 I else fX3_readSum_110 o rec v1 v2 v4 (-v2) I)
def fX3_readSum_56 (o : Nat) (rec : Int32 → Int32 → Int32 → Int32 → zPI → Option (Int32 × zPI)) (v1 : Int32) (v2 : Int32) (v4 : Int32) (s1 : Int32) (s2 : Int32) (s3 : Int32) (I : zPI) : Option (Int32 × zPI) := (fX5_weigh o I s1 s2 s3).bind (fun q3 => (fX6_advance q3).bind (fun q5 => (if (q5 13 2) = 43 then fX3_readSum_92 o rec v1 v2 v4 q5 else (if (q5 13 2) = 45 then fX3_readSum_92 o rec v1 v2 v4 q5 else some (0, q5)))))
def fX3_readSum_5 (o : Nat) (K : zPI → Option (Int32 × zPI)) : Nat → Int32 → Int32 → Int32 → Int32 → zPI → Option (Int32 × zPI)
  | 0, _, _, _, _, _ => none
  | n + 1, v1, v2, v3, v4, I => (if 1000 < v4 then K I else (fX3_partHere o I).bind (fun q1 => (if q1 = (-1) then some ((fX3_faultHere o I 1), I) else (if q1 = 0 then fX3_readSum_56 o (fX3_readSum_5 o K n) v1 v2 v4 v1 q1 (v3 * (I 13 4)) I else fX3_readSum_56 o (fX3_readSum_5 o K n) v1 v2 v4 v1 q1 v3 I))))
def fX3_readSum (o : Nat) (I : zPI) (p1 : Int32) (p2 : Int32) : Option (Int32 × zPI) := fX3_readSum_5 o (fun I => some (0, I)) zF p1 p2 p2 0 I
set_option maxRecDepth 100000 in
theorem tX3_readSum_110 {X : Nat × (Nat → Int32)} {I : zPI} {L : zPL} {F : zPF} {a b : Nat} {o : Nat} (hR : zRin F a b (some o)) (hso : zSc o) {r : Int32 × zPI} {rec : Int32 → Int32 → Int32 → Int32 → zPI → Option (Int32 × zPI)} (hrec : ∀ (v1 : Int32) (v2 : Int32) (v3 : Int32) (v4 : Int32) (I : zPI), rec v1 v2 v3 v4 I = some r → zAW zE0 X mX3_readSum 6 5 [(0, zr 15), (1, zi v1), (2, zi v2), (3, zi v3), (4, zi v4)] [] (zS0, I, L, F) (some (zi r.1)) (zS0, r.2, L, F)) {v1 : Int32} {v2 : Int32} {v4 : Int32} {s0 : Int32} (h : fX3_readSum_110 o rec v1 v2 v4 s0 I = some r) : zAW zE0 X mX3_readSum 6 110 [(0, zr 15), (1, zi v1), (2, zi v2), (4, zi v4)] [zi s0] (zS0, I, L, F) (some (zi r.1)) (zS0, r.2, L, F) := by
  unfold fX3_readSum_110 at h
  refine a_istore_n dX3_readSum_110 rfl (by decide) rfl ?_
  refine a_aload_n dX3_readSum_111 rfl 1 rfl ?_
  refine a_getq dX3_readSum_112 G_X3_15 zs_15 rfl (rf_15_0 hR) ?_
  obtain ⟨q7, hq7, h⟩ := zbind h
  refine a_callV dX3_readSum_115 (tX6_advance hR _ hq7) csX6_advance zw428 (Nat.le_of_ble_eq_true rfl) zs_13 rfl rfl (Nat.le_of_ble_eq_true rfl) ⟨Nat.le_refl _, Nat.le_refl _⟩ (fun hb8 => ?_)
  refine a_iincK (k0 := 1) dX3_readSum_118 (by decide) 4 rfl (by decide) rfl ?_
  refine a_goto (tgt := 5) dX3_readSum_121 rfl ?_
  refine a_sub [2, 3, 4, 1, 0] rfl ?_
  exact hrec _ _ _ _ _ h
set_option maxRecDepth 100000 in
theorem tX3_readSum_92 {X : Nat × (Nat → Int32)} {I : zPI} {L : zPL} {F : zPF} {a b : Nat} {o : Nat} (hR : zRin F a b (some o)) (hso : zSc o) {r : Int32 × zPI} {rec : Int32 → Int32 → Int32 → Int32 → zPI → Option (Int32 × zPI)} (hrec : ∀ (v1 : Int32) (v2 : Int32) (v3 : Int32) (v4 : Int32) (I : zPI), rec v1 v2 v3 v4 I = some r → zAW zE0 X mX3_readSum 6 5 [(0, zr 15), (1, zi v1), (2, zi v2), (3, zi v3), (4, zi v4)] [] (zS0, I, L, F) (some (zi r.1)) (zS0, r.2, L, F)) {v1 : Int32} {v2 : Int32} {v4 : Int32} (h : fX3_readSum_92 o rec v1 v2 v4 I = some r) : zAW zE0 X mX3_readSum 6 92 [(0, zr 15), (1, zi v1), (2, zi v2), (4, zi v4)] [] (zS0, I, L, F) (some (zi r.1)) (zS0, r.2, L, F) := by
  unfold fX3_readSum_92 at h
  refine a_aload_n dX3_readSum_92 rfl 0 rfl ?_
  refine a_getq dX3_readSum_93 G_X3_15 zs_15 rfl (rf_15_0 hR) ?_
  refine a_geti dX3_readSum_96 G_X3_41 zs_13 rfl ?_
  refine a_bipush (v := 43) dX3_readSum_99 (by decide) ?_
  refine a_icmp_ne (tgt := 108) dX3_readSum_101 rfl (fun hc9 => ?_) (fun hc9 => ?_)
  · rw [if_neg hc9] at h
    refine a_iload_n dX3_readSum_108 rfl 2 rfl ?_
    refine a_ineg dX3_readSum_109 ?_
    exact tX3_readSum_110 hR hso hrec h
  · rw [if_pos hc9] at h
    refine a_iload_n dX3_readSum_104 rfl 2 rfl ?_
    refine a_goto (tgt := 110) dX3_readSum_105 rfl ?_
    exact tX3_readSum_110 hR hso hrec h
set_option maxRecDepth 100000 in
theorem tX3_readSum_56 {X : Nat × (Nat → Int32)} {I : zPI} {L : zPL} {F : zPF} {a b : Nat} {o : Nat} (hR : zRin F a b (some o)) (hso : zSc o) {r : Int32 × zPI} {rec : Int32 → Int32 → Int32 → Int32 → zPI → Option (Int32 × zPI)} (hrec : ∀ (v1 : Int32) (v2 : Int32) (v3 : Int32) (v4 : Int32) (I : zPI), rec v1 v2 v3 v4 I = some r → zAW zE0 X mX3_readSum 6 5 [(0, zr 15), (1, zi v1), (2, zi v2), (3, zi v3), (4, zi v4)] [] (zS0, I, L, F) (some (zi r.1)) (zS0, r.2, L, F)) {v1 : Int32} {v2 : Int32} {v4 : Int32} {s1 : Int32} {s2 : Int32} {s3 : Int32} (h : fX3_readSum_56 o rec v1 v2 v4 s1 s2 s3 I = some r) : zAW zE0 X mX3_readSum 6 56 [(0, zr 15), (1, zi v1), (2, zi v2), (4, zi v4)] [zi s3, zi s2, zi s1, zr o] (zS0, I, L, F) (some (zi r.1)) (zS0, r.2, L, F) := by
  unfold fX3_readSum_56 at h
  obtain ⟨q3, hq3, h⟩ := zbind h
  refine a_callV dX3_readSum_56 (tX5_weigh hR hso _ _ _ _ hq3) csX5_weigh zw530 (Nat.le_of_ble_eq_true rfl) (zsc_o hso) rfl rfl (Nat.le_of_ble_eq_true rfl) ⟨Nat.le_refl _, Nat.le_refl _⟩ (fun hb4 => ?_)
  refine a_aload_n dX3_readSum_59 rfl 0 rfl ?_
  refine a_getq dX3_readSum_60 G_X3_15 zs_15 rfl (rf_15_0 hR) ?_
  obtain ⟨q5, hq5, h⟩ := zbind h
  refine a_callV dX3_readSum_63 (tX6_advance hR _ hq5) csX6_advance zw428 (Nat.le_of_ble_eq_true rfl) zs_13 rfl rfl (Nat.le_of_ble_eq_true rfl) ⟨Nat.le_refl _, Nat.le_refl _⟩ (fun hb6 => ?_)
  refine a_aload_n dX3_readSum_66 rfl 0 rfl ?_
  refine a_getq dX3_readSum_67 G_X3_15 zs_15 rfl (rf_15_0 hR) ?_
  refine a_geti dX3_readSum_70 G_X3_41 zs_13 rfl ?_
  refine a_bipush (v := 43) dX3_readSum_73 (by decide) ?_
  refine a_icmp_eq (tgt := 92) dX3_readSum_75 rfl (fun hc11 => ?_) (fun hc11 => ?_)
  · rw [if_pos hc11] at h
    exact tX3_readSum_92 hR hso hrec h
  · rw [if_neg hc11] at h
    refine a_aload_n dX3_readSum_78 rfl 0 rfl ?_
    refine a_getq dX3_readSum_79 G_X3_15 zs_15 rfl (rf_15_0 hR) ?_
    refine a_geti dX3_readSum_82 G_X3_41 zs_13 rfl ?_
    refine a_bipush (v := 45) dX3_readSum_85 (by decide) ?_
    refine a_icmp_eq (tgt := 92) dX3_readSum_87 rfl (fun hc10 => ?_) (fun hc10 => ?_)
    · rw [if_pos hc10] at h
      exact tX3_readSum_92 hR hso hrec h
    · rw [if_neg hc10] at h
      refine a_iconst (v := 0) dX3_readSum_90 (by decide) ?_
      cases h
      exact a_iret dX3_readSum_91 (by intro h; cases h) (znar_i rfl)
set_option maxRecDepth 100000 in
theorem tX3_readSum_5 {X : Nat × (Nat → Int32)} {L : zPL} {F : zPF} {a b : Nat} {o : Nat} (hR : zRin F a b (some o)) (hso : zSc o) {r : Int32 × zPI} {K : zPI → Option (Int32 × zPI)} (hK : ∀ (I : zPI), K I = some r → zAW zE0 X mX3_readSum 6 124 [] [] (zS0, I, L, F) (some (zi r.1)) (zS0, r.2, L, F)) : ∀ (n : Nat) (v1 : Int32) (v2 : Int32) (v3 : Int32) (v4 : Int32) (I : zPI), fX3_readSum_5 o K n v1 v2 v3 v4 I = some r → zAW zE0 X mX3_readSum 6 5 [(0, zr 15), (1, zi v1), (2, zi v2), (3, zi v3), (4, zi v4)] [] (zS0, I, L, F) (some (zi r.1)) (zS0, r.2, L, F) := by
  intro n
  induction n with
  | zero =>
    intro v1 v2 v3 v4 I h
    rw [fX3_readSum_5.eq_1] at h
    cases h
  | succ n ih =>
    intro v1 v2 v3 v4 I h
    rw [fX3_readSum_5.eq_2] at h
    refine a_iload dX3_readSum_5 4 rfl ?_
    refine a_sipush (v := 1000) dX3_readSum_7 (by decide) ?_
    refine a_icmp_gt (tgt := 124) dX3_readSum_10 rfl (fun hc15 => ?_) (fun hc15 => ?_)
    · rw [if_pos hc15] at h
      refine a_sub [] rfl ?_
      exact hK _ h
    · rw [if_neg hc15] at h
      refine a_aload_n dX3_readSum_13 rfl 0 rfl ?_
      obtain ⟨q1, hq1, h⟩ := zbind h
      refine a_callV dX3_readSum_14 (tX3_partHere hR hso _ hq1) csX3_partHere zw519 (Nat.le_of_ble_eq_true rfl) zs_15 rfl rfl (Nat.le_of_ble_eq_true rfl) ⟨Nat.le_refl _, Nat.le_refl _⟩ (fun hb2 => ?_)
      refine a_istore dX3_readSum_17 (by decide) rfl ?_
      refine a_iload dX3_readSum_19 0 rfl ?_
      refine a_iconst (v := (-1)) dX3_readSum_21 (by decide) ?_
      refine a_icmp_ne (tgt := 31) dX3_readSum_22 rfl (fun hc14 => ?_) (fun hc14 => ?_)
      · rw [if_neg hc14] at h
        refine a_aload_n dX3_readSum_31 rfl 1 rfl ?_
        refine a_getq dX3_readSum_32 G_X3_19 zs_15 rfl (rf_15_s hR) ?_
        refine a_iload_n dX3_readSum_35 rfl 2 rfl ?_
        refine a_iload dX3_readSum_36 0 rfl ?_
        refine a_iload dX3_readSum_38 0 rfl ?_
        refine a_if_ne (tgt := 55) dX3_readSum_40 rfl (fun hc12 => ?_) (fun hc12 => ?_)
        · rw [if_neg hc12] at h
          refine a_iload_n dX3_readSum_55 rfl 4 rfl ?_
          refine a_sub [1, 2, 3, 5] rfl ?_
          exact tX3_readSum_56 hR hso ih h
        · rw [if_pos hc12] at h
          refine a_iload_n dX3_readSum_43 rfl 4 rfl ?_
          refine a_aload_n dX3_readSum_44 rfl 1 rfl ?_
          refine a_getq dX3_readSum_45 G_X3_15 zs_15 rfl (rf_15_0 hR) ?_
          refine a_geti dX3_readSum_48 G_X3_123 zs_13 rfl ?_
          refine a_imul dX3_readSum_51 ?_
          refine a_goto (tgt := 56) dX3_readSum_52 rfl ?_
          refine a_sub [1, 2, 3, 5] rfl ?_
          exact tX3_readSum_56 hR hso ih h
      · rw [if_pos hc14] at h
        refine a_aload_n dX3_readSum_25 rfl 1 rfl ?_
        refine a_iconst (v := 1) dX3_readSum_26 (by decide) ?_
        refine a_callV dX3_readSum_27 (tX3_faultHere hR hso _ _ rfl) csX3_faultHere zw486 (Nat.le_of_ble_eq_true rfl) zs_15 rfl rfl (Nat.le_of_ble_eq_true rfl) ⟨Nat.le_refl _, Nat.le_refl _⟩ (fun hb13 => ?_)
        cases h
        exact a_iret dX3_readSum_30 (by intro h; cases h) (znar_i rfl)
set_option maxRecDepth 100000 in
theorem tX3_readSum {X : Nat × (Nat → Int32)} {I : zPI} {L : zPL} {F : zPF} {a b : Nat} {o : Nat} (hR : zRin F a b (some o)) (hso : zSc o) (p1 : Int32) (p2 : Int32) (r : Int32 × zPI) (h : fX3_readSum o I p1 p2 = some r) : zAM X mX3_readSum 6 [zr 15, zi p1, zi p2] (zS0, I, L, F) (some (zi r.1)) (zS0, r.2, L, F) := by
  refine zAM_of (by decide) (Nat.le_of_ble_eq_true rfl) ⟨fun h => (by cases h), fun h => (by cases h)⟩ (Nat.le_refl _) (Nat.le_refl _) ?_
  unfold fX3_readSum at h
  show zAW zE0 X mX3_readSum 6 0 [(0, zr 15), (1, zi p1), (2, zi p2)] [] (zS0, I, L, F) (some (zi r.1)) (zS0, r.2, L, F)
  refine a_iload_n dX3_readSum_0 rfl 2 rfl ?_
  refine a_istore_n dX3_readSum_1 rfl (by decide) rfl ?_
  refine a_iconst (v := 0) dX3_readSum_2 (by decide) ?_
  refine a_istore dX3_readSum_3 (by decide) rfl ?_
  refine a_sub [2, 3, 4, 1, 0] rfl ?_
  refine tX3_readSum_5 hR hso (fun I h => ?_) zF _ _ _ _ _ h
  (try dsimp only at h)
  refine a_iconst (v := 0) dX3_readSum_124 (by decide) ?_
  cases h
  exact a_iret dX3_readSum_125 (by intro h; cases h) (znar_i rfl)
def fX3_readOpening (o : Nat) (I : zPI) (p1 : Int32) : Option (Int32 × zPI) := (if (I 13 2) = 123 then (if (I 15 2) < 8 then (if zin (I 15 2) 8 then (fX6_advance (zu (zu I 16 (I 15 2).toNatClampNeg p1) 15 2 (((zu I 16 (I 15 2).toNatClampNeg p1) 15 2) + 1))).bind (fun q2 => some (0, q2)) else none) else some ((fX3_faultHere o I 5), I)) else some ((fX3_faultHere o I 1), I))
set_option maxRecDepth 100000 in
theorem tX3_readOpening {X : Nat × (Nat → Int32)} {I : zPI} {L : zPL} {F : zPF} {a b : Nat} {o : Nat} (hR : zRin F a b (some o)) (hso : zSc o) (p1 : Int32) (r : Int32 × zPI) (h : fX3_readOpening o I p1 = some r) : zAM X mX3_readOpening 2 [zr 15, zi p1] (zS0, I, L, F) (some (zi r.1)) (zS0, r.2, L, F) := by
  refine zAM_of (by decide) (Nat.le_of_ble_eq_true rfl) ⟨fun h => (by cases h), fun h => (by cases h)⟩ (Nat.le_refl _) (Nat.le_refl _) ?_
  unfold fX3_readOpening at h
  show zAW zE0 X mX3_readOpening 2 0 [(0, zr 15), (1, zi p1)] [] (zS0, I, L, F) (some (zi r.1)) (zS0, r.2, L, F)
  refine a_aload_n dX3_readOpening_0 rfl 0 rfl ?_
  refine a_getq dX3_readOpening_1 G_X3_15 zs_15 rfl (rf_15_0 hR) ?_
  refine a_geti dX3_readOpening_4 G_X3_41 zs_13 rfl ?_
  refine a_bipush (v := 123) dX3_readOpening_7 (by decide) ?_
  refine a_icmp_eq (tgt := 18) dX3_readOpening_9 rfl (fun hc7 => ?_) (fun hc7 => ?_)
  · rw [if_pos hc7] at h
    refine a_aload_n dX3_readOpening_18 rfl 0 rfl ?_
    refine a_geti dX3_readOpening_19 G_X3_29 zs_15 rfl ?_
    refine a_bipush (v := 8) dX3_readOpening_22 (by decide) ?_
    refine a_icmp_lt (tgt := 33) dX3_readOpening_24 rfl (fun hc5 => ?_) (fun hc5 => ?_)
    · rw [if_pos hc5] at h
      refine a_aload_n dX3_readOpening_33 rfl 0 rfl ?_
      refine a_getq dX3_readOpening_34 G_X3_11 zs_15 rfl (rf_15_1 hR) ?_
      refine a_aload_n dX3_readOpening_37 rfl 0 rfl ?_
      refine a_geti dX3_readOpening_38 G_X3_29 zs_15 rfl ?_
      refine a_iload_n dX3_readOpening_41 rfl 1 rfl ?_
      obtain ⟨hz1, h⟩ := zif h
      refine a_iast dX3_readOpening_42 zs_16 (zin_vp hz1) ?_
      refine a_aload_n dX3_readOpening_43 rfl 0 rfl ?_
      refine a_dup dX3_readOpening_44 rfl ?_
      refine a_geti dX3_readOpening_45 G_X3_29 zs_15 rfl ?_
      refine a_iconst (v := 1) dX3_readOpening_48 (by decide) ?_
      refine a_iadd dX3_readOpening_49 ?_
      refine a_puti dX3_readOpening_50 F_X3_29 zs_15 rfl ⟨rfl, rfl⟩ ?_
      refine a_aload_n dX3_readOpening_53 rfl 0 rfl ?_
      refine a_getq dX3_readOpening_54 G_X3_15 zs_15 rfl (rf_15_0 hR) ?_
      obtain ⟨q2, hq2, h⟩ := zbind h
      refine a_callV dX3_readOpening_57 (tX6_advance hR _ hq2) csX6_advance zw428 (Nat.le_of_ble_eq_true rfl) zs_13 rfl rfl (Nat.le_of_ble_eq_true rfl) ⟨Nat.le_refl _, Nat.le_refl _⟩ (fun hb3 => ?_)
      refine a_iconst (v := 0) dX3_readOpening_60 (by decide) ?_
      cases h
      exact a_iret dX3_readOpening_61 (by intro h; cases h) (znar_i rfl)
    · rw [if_neg hc5] at h
      refine a_aload_n dX3_readOpening_27 rfl 0 rfl ?_
      refine a_iconst (v := 5) dX3_readOpening_28 (by decide) ?_
      refine a_callV dX3_readOpening_29 (tX3_faultHere hR hso _ _ rfl) csX3_faultHere zw486 (Nat.le_of_ble_eq_true rfl) zs_15 rfl rfl (Nat.le_of_ble_eq_true rfl) ⟨Nat.le_refl _, Nat.le_refl _⟩ (fun hb4 => ?_)
      cases h
      exact a_iret dX3_readOpening_32 (by intro h; cases h) (znar_i rfl)
  · rw [if_neg hc7] at h
    refine a_aload_n dX3_readOpening_12 rfl 0 rfl ?_
    refine a_iconst (v := 1) dX3_readOpening_13 (by decide) ?_
    refine a_callV dX3_readOpening_14 (tX3_faultHere hR hso _ _ rfl) csX3_faultHere zw486 (Nat.le_of_ble_eq_true rfl) zs_15 rfl rfl (Nat.le_of_ble_eq_true rfl) ⟨Nat.le_refl _, Nat.le_refl _⟩ (fun hb6 => ?_)
    cases h
    exact a_iret dX3_readOpening_17 (by intro h; cases h) (znar_i rfl)
def fX3_readCondition_75 (o : Nat) (v1 : Int32) (v2 : Int32) (I : zPI) : Option (Int32 × zPI) := (if v2 = 0 then (fX3_readOpening o I v1).bind (fun q3 => some (q3.1, q3.2)) else some (v2, I))
def fX3_readCondition_60 (o : Nat) (v1 : Int32) (s1 : Int32) (s2 : Int32) (I : zPI) : Option (Int32 × zPI) := (if zin s1 80 then (fX6_advance (zu I (o + 2) s1.toNatClampNeg s2)).bind (fun q7 => (fX3_readSum o q7 v1 (-1)).bind (fun q9 => fX3_readCondition_75 o v1 q9.1 q9.2)) else none)
def fX3_readCondition_35 (o : Nat) (v1 : Int32) (I : zPI) : Option (Int32 × zPI) := (if (I 13 2) = 60 then fX3_readCondition_60 o v1 v1 1 I else fX3_readCondition_60 o v1 v1 2 I)
def fX3_readCondition (o : Nat) (I : zPI) (p1 : Int32) : Option (Int32 × zPI) := (fX3_readSum o I p1 1).bind (fun q1 => (if q1.1 = 0 then (if (q1.2 13 2) = 60 then fX3_readCondition_35 o p1 q1.2 else (if (q1.2 13 2) = 61 then fX3_readCondition_35 o p1 q1.2 else fX3_readCondition_75 o p1 q1.1 q1.2)) else fX3_readCondition_75 o p1 q1.1 q1.2))
set_option maxRecDepth 100000 in
theorem tX3_readCondition_75 {X : Nat × (Nat → Int32)} {I : zPI} {L : zPL} {F : zPF} {a b : Nat} {o : Nat} (hR : zRin F a b (some o)) (hso : zSc o) {r : Int32 × zPI} {v1 : Int32} {v2 : Int32} (h : fX3_readCondition_75 o v1 v2 I = some r) : zAW zE0 X mX3_readCondition 7 75 [(0, zr 15), (1, zi v1), (2, zi v2)] [] (zS0, I, L, F) (some (zi r.1)) (zS0, r.2, L, F) := by
  unfold fX3_readCondition_75 at h
  refine a_iload_n dX3_readCondition_75 rfl 2 rfl ?_
  refine a_if_ne (tgt := 87) dX3_readCondition_76 rfl (fun hc5 => ?_) (fun hc5 => ?_)
  · rw [if_neg hc5] at h
    refine a_iload_n dX3_readCondition_87 rfl 2 rfl ?_
    cases h
    exact a_iret dX3_readCondition_88 (by intro h; cases h) (znar_i rfl)
  · rw [if_pos hc5] at h
    refine a_aload_n dX3_readCondition_79 rfl 0 rfl ?_
    refine a_iload_n dX3_readCondition_80 rfl 1 rfl ?_
    obtain ⟨q3, hq3, h⟩ := zbind h
    refine a_callV dX3_readCondition_81 (tX3_readOpening hR hso _ _ hq3) csX3_readOpening zw534 (Nat.le_of_ble_eq_true rfl) zs_15 rfl rfl (Nat.le_of_ble_eq_true rfl) ⟨Nat.le_refl _, Nat.le_refl _⟩ (fun hb4 => ?_)
    refine a_goto (tgt := 88) dX3_readCondition_84 rfl ?_
    cases h
    exact a_iret dX3_readCondition_88 (by intro h; cases h) (znar_i rfl)
set_option maxRecDepth 100000 in
theorem tX3_readCondition_60 {X : Nat × (Nat → Int32)} {I : zPI} {L : zPL} {F : zPF} {a b : Nat} {o : Nat} (hR : zRin F a b (some o)) (hso : zSc o) {r : Int32 × zPI} {v1 : Int32} {s1 : Int32} {s2 : Int32} (h : fX3_readCondition_60 o v1 s1 s2 I = some r) : zAW zE0 X mX3_readCondition 7 60 [(0, zr 15), (1, zi v1)] [zi s2, zi s1, zr (o + 2)] (zS0, I, L, F) (some (zi r.1)) (zS0, r.2, L, F) := by
  unfold fX3_readCondition_60 at h
  obtain ⟨hz6, h⟩ := zif h
  refine a_iast dX3_readCondition_60 (zsa_2 hso) (zin_vp hz6) ?_
  refine a_aload_n dX3_readCondition_61 rfl 0 rfl ?_
  refine a_getq dX3_readCondition_62 G_X3_15 zs_15 rfl (rf_15_0 hR) ?_
  obtain ⟨q7, hq7, h⟩ := zbind h
  refine a_callV dX3_readCondition_65 (tX6_advance hR _ hq7) csX6_advance zw428 (Nat.le_of_ble_eq_true rfl) zs_13 rfl rfl (Nat.le_of_ble_eq_true rfl) ⟨Nat.le_refl _, Nat.le_refl _⟩ (fun hb8 => ?_)
  refine a_aload_n dX3_readCondition_68 rfl 0 rfl ?_
  refine a_iload_n dX3_readCondition_69 rfl 1 rfl ?_
  refine a_iconst (v := (-1)) dX3_readCondition_70 (by decide) ?_
  obtain ⟨q9, hq9, h⟩ := zbind h
  refine a_callV dX3_readCondition_71 (tX3_readSum hR hso _ _ _ hq9) csX3_readSum zw515 (Nat.le_of_ble_eq_true rfl) zs_15 rfl rfl (Nat.le_of_ble_eq_true rfl) ⟨Nat.le_refl _, Nat.le_refl _⟩ (fun hb10 => ?_)
  refine a_istore_n dX3_readCondition_74 rfl (by decide) rfl ?_
  refine a_sub [1, 2, 0] rfl ?_
  exact tX3_readCondition_75 hR hso h
set_option maxRecDepth 100000 in
theorem tX3_readCondition_35 {X : Nat × (Nat → Int32)} {I : zPI} {L : zPL} {F : zPF} {a b : Nat} {o : Nat} (hR : zRin F a b (some o)) (hso : zSc o) {r : Int32 × zPI} {v1 : Int32} (h : fX3_readCondition_35 o v1 I = some r) : zAW zE0 X mX3_readCondition 7 35 [(0, zr 15), (1, zi v1)] [] (zS0, I, L, F) (some (zi r.1)) (zS0, r.2, L, F) := by
  unfold fX3_readCondition_35 at h
  refine a_aload_n dX3_readCondition_35 rfl 0 rfl ?_
  refine a_getq dX3_readCondition_36 G_X3_19 zs_15 rfl (rf_15_s hR) ?_
  refine a_getq dX3_readCondition_39 G_X3_120 (zsc_o hso) rfl (rsc_2 hR hso) ?_
  refine a_iload_n dX3_readCondition_42 rfl 1 rfl ?_
  refine a_aload_n dX3_readCondition_43 rfl 0 rfl ?_
  refine a_getq dX3_readCondition_44 G_X3_15 zs_15 rfl (rf_15_0 hR) ?_
  refine a_geti dX3_readCondition_47 G_X3_41 zs_13 rfl ?_
  refine a_bipush (v := 60) dX3_readCondition_50 (by decide) ?_
  refine a_icmp_ne (tgt := 59) dX3_readCondition_52 rfl (fun hc11 => ?_) (fun hc11 => ?_)
  · rw [if_neg hc11] at h
    refine a_iconst (v := 2) dX3_readCondition_59 (by decide) ?_
    exact tX3_readCondition_60 hR hso h
  · rw [if_pos hc11] at h
    refine a_iconst (v := 1) dX3_readCondition_55 (by decide) ?_
    refine a_goto (tgt := 60) dX3_readCondition_56 rfl ?_
    exact tX3_readCondition_60 hR hso h
set_option maxRecDepth 100000 in
theorem tX3_readCondition {X : Nat × (Nat → Int32)} {I : zPI} {L : zPL} {F : zPF} {a b : Nat} {o : Nat} (hR : zRin F a b (some o)) (hso : zSc o) (p1 : Int32) (r : Int32 × zPI) (h : fX3_readCondition o I p1 = some r) : zAM X mX3_readCondition 7 [zr 15, zi p1] (zS0, I, L, F) (some (zi r.1)) (zS0, r.2, L, F) := by
  refine zAM_of (by decide) (Nat.le_of_ble_eq_true rfl) ⟨fun h => (by cases h), fun h => (by cases h)⟩ (Nat.le_refl _) (Nat.le_refl _) ?_
  unfold fX3_readCondition at h
  show zAW zE0 X mX3_readCondition 7 0 [(0, zr 15), (1, zi p1)] [] (zS0, I, L, F) (some (zi r.1)) (zS0, r.2, L, F)
  refine a_aload_n dX3_readCondition_0 rfl 0 rfl ?_
  refine a_iload_n dX3_readCondition_1 rfl 1 rfl ?_
  refine a_iconst (v := 1) dX3_readCondition_2 (by decide) ?_
  obtain ⟨q1, hq1, h⟩ := zbind h
  refine a_callV dX3_readCondition_3 (tX3_readSum hR hso _ _ _ hq1) csX3_readSum zw515 (Nat.le_of_ble_eq_true rfl) zs_15 rfl rfl (Nat.le_of_ble_eq_true rfl) ⟨Nat.le_refl _, Nat.le_refl _⟩ (fun hb2 => ?_)
  refine a_istore_n dX3_readCondition_6 rfl (by decide) rfl ?_
  refine a_iload_n dX3_readCondition_7 rfl 0 rfl ?_
  refine a_if_ne (tgt := 75) dX3_readCondition_8 rfl (fun hc14 => ?_) (fun hc14 => ?_)
  · rw [if_neg hc14] at h
    refine a_sub [1, 2, 0] rfl ?_
    exact tX3_readCondition_75 hR hso h
  · rw [if_pos hc14] at h
    refine a_aload_n dX3_readCondition_11 rfl 1 rfl ?_
    refine a_getq dX3_readCondition_12 G_X3_15 zs_15 rfl (rf_15_0 hR) ?_
    refine a_geti dX3_readCondition_15 G_X3_41 zs_13 rfl ?_
    refine a_bipush (v := 60) dX3_readCondition_18 (by decide) ?_
    refine a_icmp_eq (tgt := 35) dX3_readCondition_20 rfl (fun hc13 => ?_) (fun hc13 => ?_)
    · rw [if_pos hc13] at h
      refine a_sub [1, 2] rfl ?_
      exact tX3_readCondition_35 hR hso h
    · rw [if_neg hc13] at h
      refine a_aload_n dX3_readCondition_23 rfl 1 rfl ?_
      refine a_getq dX3_readCondition_24 G_X3_15 zs_15 rfl (rf_15_0 hR) ?_
      refine a_geti dX3_readCondition_27 G_X3_41 zs_13 rfl ?_
      refine a_bipush (v := 61) dX3_readCondition_30 (by decide) ?_
      refine a_icmp_ne (tgt := 75) dX3_readCondition_32 rfl (fun hc12 => ?_) (fun hc12 => ?_)
      · rw [if_neg hc12] at h
        refine a_sub [1, 2, 0] rfl ?_
        exact tX3_readCondition_75 hR hso h
      · rw [if_pos hc12] at h
        refine a_sub [1, 2] rfl ?_
        exact tX3_readCondition_35 hR hso h
def fX3_readOrder_91 (o : Nat) (I : zPI) : Option (Int32 × zPI) := (fX3_readSign o I 59).bind (fun q6 => some (q6.1, q6.2))
def fX3_readOrder_12 (o : Nat) (v1 : Int32) (v2 : Int32) (s1 : Int32) (I : zPI) : Option (Int32 × zPI) := (if (fX3_checkNumber o I s1 (fX3_highestOf o v2)) = 0 then (if zin v1 80 then (fX6_advance (zu I (o + 2) v1.toNatClampNeg (I 13 4))).bind (fun q4 => (if v2 = 2 then (if (fX3_checkNumber o q4 0 8) = 0 then (if zin v1 80 then (fX6_advance (zu q4 (o + 3) v1.toNatClampNeg (q4 13 4))).bind (fun q10 => fX3_readOrder_91 o q10) else none) else some ((fX3_checkNumber o q4 0 8), q4)) else fX3_readOrder_91 o q4)) else none) else some ((fX3_checkNumber o I s1 (fX3_highestOf o v2)), I))
def fX3_readOrder (o : Nat) (I : zPI) (p1 : Int32) (p2 : Int32) : Option (Int32 × zPI) := (if p2 = 6 then fX3_readOrder_12 o p1 p2 1 I else fX3_readOrder_12 o p1 p2 0 I)
set_option maxRecDepth 100000 in
theorem tX3_readOrder_91 {X : Nat × (Nat → Int32)} {I : zPI} {L : zPL} {F : zPF} {a b : Nat} {o : Nat} (hR : zRin F a b (some o)) (hso : zSc o) {r : Int32 × zPI} (h : fX3_readOrder_91 o I = some r) : zAW zE0 X mX3_readOrder 3 91 [(0, zr 15)] [] (zS0, I, L, F) (some (zi r.1)) (zS0, r.2, L, F) := by
  unfold fX3_readOrder_91 at h
  refine a_aload_n dX3_readOrder_91 rfl 0 rfl ?_
  refine a_bipush (v := 59) dX3_readOrder_92 (by decide) ?_
  obtain ⟨q6, hq6, h⟩ := zbind h
  refine a_callV dX3_readOrder_94 (tX3_readSign hR hso _ _ hq6) csX3_readSign zw482 (Nat.le_of_ble_eq_true rfl) zs_15 rfl rfl (Nat.le_of_ble_eq_true rfl) ⟨Nat.le_refl _, Nat.le_refl _⟩ (fun hb7 => ?_)
  cases h
  exact a_iret dX3_readOrder_97 (by intro h; cases h) (znar_i rfl)
set_option maxRecDepth 100000 in
theorem tX3_readOrder_12 {X : Nat × (Nat → Int32)} {I : zPI} {L : zPL} {F : zPF} {a b : Nat} {o : Nat} (hR : zRin F a b (some o)) (hso : zSc o) {r : Int32 × zPI} {v1 : Int32} {v2 : Int32} {s1 : Int32} (h : fX3_readOrder_12 o v1 v2 s1 I = some r) : zAW zE0 X mX3_readOrder 3 12 [(0, zr 15), (1, zi v1), (2, zi v2)] [zi s1, zr 15] (zS0, I, L, F) (some (zi r.1)) (zS0, r.2, L, F) := by
  unfold fX3_readOrder_12 at h
  refine a_iload_n dX3_readOrder_12 rfl 2 rfl ?_
  refine a_callS dX3_readOrder_13 (tX3_highestOf hR hso _ _ rfl) csX3_highestOf zw542 (Nat.le_of_ble_eq_true rfl) rfl (Nat.le_of_ble_eq_true rfl) ⟨Nat.le_refl _, Nat.le_refl _⟩ (fun hb1 => ?_)
  refine a_callV dX3_readOrder_16 (tX3_checkNumber hR hso _ _ _ rfl) csX3_checkNumber zw545 (Nat.le_of_ble_eq_true rfl) zs_15 rfl rfl (Nat.le_of_ble_eq_true rfl) ⟨Nat.le_refl _, Nat.le_refl _⟩ (fun hb2 => ?_)
  refine a_istore_n dX3_readOrder_19 rfl (by decide) rfl ?_
  refine a_iload_n dX3_readOrder_20 rfl 0 rfl ?_
  refine a_if_eq (tgt := 26) dX3_readOrder_21 rfl (fun hc14 => ?_) (fun hc14 => ?_)
  · rw [if_pos hc14] at h
    refine a_aload_n dX3_readOrder_26 rfl 1 rfl ?_
    refine a_getq dX3_readOrder_27 G_X3_19 zs_15 rfl (rf_15_s hR) ?_
    refine a_getq dX3_readOrder_30 G_X3_120 (zsc_o hso) rfl (rsc_2 hR hso) ?_
    refine a_iload_n dX3_readOrder_33 rfl 2 rfl ?_
    refine a_aload_n dX3_readOrder_34 rfl 1 rfl ?_
    refine a_getq dX3_readOrder_35 G_X3_15 zs_15 rfl (rf_15_0 hR) ?_
    refine a_geti dX3_readOrder_38 G_X3_123 zs_13 rfl ?_
    obtain ⟨hz3, h⟩ := zif h
    refine a_iast dX3_readOrder_41 (zsa_2 hso) (zin_vp hz3) ?_
    refine a_aload_n dX3_readOrder_42 rfl 1 rfl ?_
    refine a_getq dX3_readOrder_43 G_X3_15 zs_15 rfl (rf_15_0 hR) ?_
    obtain ⟨q4, hq4, h⟩ := zbind h
    refine a_callV dX3_readOrder_46 (tX6_advance hR _ hq4) csX6_advance zw428 (Nat.le_of_ble_eq_true rfl) zs_13 rfl rfl (Nat.le_of_ble_eq_true rfl) ⟨Nat.le_refl _, Nat.le_refl _⟩ (fun hb5 => ?_)
    refine a_iload_n dX3_readOrder_49 rfl 3 rfl ?_
    refine a_iconst (v := 2) dX3_readOrder_50 (by decide) ?_
    refine a_icmp_ne (tgt := 91) dX3_readOrder_51 rfl (fun hc13 => ?_) (fun hc13 => ?_)
    · rw [if_neg hc13] at h
      refine a_sub [1] rfl ?_
      exact tX3_readOrder_91 hR hso h
    · rw [if_pos hc13] at h
      refine a_aload_n dX3_readOrder_54 rfl 1 rfl ?_
      refine a_iconst (v := 0) dX3_readOrder_55 (by decide) ?_
      refine a_bipush (v := 8) dX3_readOrder_56 (by decide) ?_
      refine a_callV dX3_readOrder_58 (tX3_checkNumber hR hso _ _ _ rfl) csX3_checkNumber zw545 (Nat.le_of_ble_eq_true rfl) zs_15 rfl rfl (Nat.le_of_ble_eq_true rfl) ⟨Nat.le_refl _, Nat.le_refl _⟩ (fun hb8 => ?_)
      refine a_istore_n dX3_readOrder_61 rfl (by decide) rfl ?_
      refine a_iload_n dX3_readOrder_62 rfl 0 rfl ?_
      refine a_if_eq (tgt := 68) dX3_readOrder_63 rfl (fun hc12 => ?_) (fun hc12 => ?_)
      · rw [if_pos hc12] at h
        refine a_aload_n dX3_readOrder_68 rfl 1 rfl ?_
        refine a_getq dX3_readOrder_69 G_X3_19 zs_15 rfl (rf_15_s hR) ?_
        refine a_getq dX3_readOrder_72 G_X3_126 (zsc_o hso) rfl (rsc_3 hR hso) ?_
        refine a_iload_n dX3_readOrder_75 rfl 2 rfl ?_
        refine a_aload_n dX3_readOrder_76 rfl 1 rfl ?_
        refine a_getq dX3_readOrder_77 G_X3_15 zs_15 rfl (rf_15_0 hR) ?_
        refine a_geti dX3_readOrder_80 G_X3_123 zs_13 rfl ?_
        obtain ⟨hz9, h⟩ := zif h
        refine a_iast dX3_readOrder_83 (zsa_3 hso) (zin_vp hz9) ?_
        refine a_aload_n dX3_readOrder_84 rfl 1 rfl ?_
        refine a_getq dX3_readOrder_85 G_X3_15 zs_15 rfl (rf_15_0 hR) ?_
        obtain ⟨q10, hq10, h⟩ := zbind h
        refine a_callV dX3_readOrder_88 (tX6_advance hR _ hq10) csX6_advance zw428 (Nat.le_of_ble_eq_true rfl) zs_13 rfl rfl (Nat.le_of_ble_eq_true rfl) ⟨Nat.le_refl _, Nat.le_refl _⟩ (fun hb11 => ?_)
        refine a_sub [1] rfl ?_
        exact tX3_readOrder_91 hR hso h
      · rw [if_neg hc12] at h
        refine a_iload_n dX3_readOrder_66 rfl 0 rfl ?_
        cases h
        exact a_iret dX3_readOrder_67 (by intro h; cases h) (znar_i rfl)
  · rw [if_neg hc14] at h
    refine a_iload_n dX3_readOrder_24 rfl 0 rfl ?_
    cases h
    exact a_iret dX3_readOrder_25 (by intro h; cases h) (znar_i rfl)
set_option maxRecDepth 100000 in
theorem tX3_readOrder {X : Nat × (Nat → Int32)} {I : zPI} {L : zPL} {F : zPF} {a b : Nat} {o : Nat} (hR : zRin F a b (some o)) (hso : zSc o) (p1 : Int32) (p2 : Int32) (r : Int32 × zPI) (h : fX3_readOrder o I p1 p2 = some r) : zAM X mX3_readOrder 3 [zr 15, zi p1, zi p2] (zS0, I, L, F) (some (zi r.1)) (zS0, r.2, L, F) := by
  refine zAM_of (by decide) (Nat.le_of_ble_eq_true rfl) ⟨fun h => (by cases h), fun h => (by cases h)⟩ (Nat.le_refl _) (Nat.le_refl _) ?_
  unfold fX3_readOrder at h
  show zAW zE0 X mX3_readOrder 3 0 [(0, zr 15), (1, zi p1), (2, zi p2)] [] (zS0, I, L, F) (some (zi r.1)) (zS0, r.2, L, F)
  refine a_aload_n dX3_readOrder_0 rfl 0 rfl ?_
  refine a_iload_n dX3_readOrder_1 rfl 2 rfl ?_
  refine a_bipush (v := 6) dX3_readOrder_2 (by decide) ?_
  refine a_icmp_ne (tgt := 11) dX3_readOrder_4 rfl (fun hc15 => ?_) (fun hc15 => ?_)
  · rw [if_neg hc15] at h
    refine a_iconst (v := 0) dX3_readOrder_11 (by decide) ?_
    exact tX3_readOrder_12 hR hso h
  · rw [if_pos hc15] at h
    refine a_iconst (v := 1) dX3_readOrder_7 (by decide) ?_
    refine a_goto (tgt := 12) dX3_readOrder_8 rfl ?_
    exact tX3_readOrder_12 hR hso h
def fX3_readStatement_84 (o : Nat) (v2 : Int32) (I : zPI) : Option (Int32 × zPI) := (fX3_readCondition o I v2).bind (fun q7 => some (q7.1, q7.2))
def fX3_readStatement_61 (o : Nat) (v1 : Int32) (s1 : Int32) (s2 : Int32) (I : zPI) : Option (Int32 × zPI) := (fX5_add o I s1 s2).bind (fun q3 => (fX6_advance q3.2).bind (fun q5 => (if v1 = 7 then fX3_readStatement_84 o q3.1 q5 else (if v1 = 8 then fX3_readStatement_84 o q3.1 q5 else (fX3_readOrder o q5 q3.1 v1).bind (fun q9 => some (q9.1, q9.2))))))
def fX3_readStatement (o : Nat) (I : zPI) : Option (Int32 × zPI) := (fX3_verbHere o I).bind (fun q1 => (if q1 = (-1) then some ((fX3_faultHere o I 1), I) else (if (I o 0) < 80 then (if (I 15 2) ≤ 0 then fX3_readStatement_61 o q1 q1 (-1) I else (if zin ((I 15 2) - 1) 8 then fX3_readStatement_61 o q1 q1 (I 16 ((I 15 2) - 1).toNatClampNeg) I else none)) else some ((fX3_faultHere o I 5), I))))
set_option maxRecDepth 100000 in
theorem tX3_readStatement_84 {X : Nat × (Nat → Int32)} {I : zPI} {L : zPL} {F : zPF} {a b : Nat} {o : Nat} (hR : zRin F a b (some o)) (hso : zSc o) {r : Int32 × zPI} {v2 : Int32} (h : fX3_readStatement_84 o v2 I = some r) : zAW zE0 X mX3_readStatement 8 84 [(0, zr 15), (2, zi v2)] [] (zS0, I, L, F) (some (zi r.1)) (zS0, r.2, L, F) := by
  unfold fX3_readStatement_84 at h
  refine a_aload_n dX3_readStatement_84 rfl 0 rfl ?_
  refine a_iload_n dX3_readStatement_85 rfl 1 rfl ?_
  obtain ⟨q7, hq7, h⟩ := zbind h
  refine a_callV dX3_readStatement_86 (tX3_readCondition hR hso _ _ hq7) csX3_readCondition zw511 (Nat.le_of_ble_eq_true rfl) zs_15 rfl rfl (Nat.le_of_ble_eq_true rfl) ⟨Nat.le_refl _, Nat.le_refl _⟩ (fun hb8 => ?_)
  refine a_goto (tgt := 98) dX3_readStatement_89 rfl ?_
  cases h
  exact a_iret dX3_readStatement_98 (by intro h; cases h) (znar_i rfl)
set_option maxRecDepth 100000 in
theorem tX3_readStatement_61 {X : Nat × (Nat → Int32)} {I : zPI} {L : zPL} {F : zPF} {a b : Nat} {o : Nat} (hR : zRin F a b (some o)) (hso : zSc o) {r : Int32 × zPI} {v1 : Int32} {s1 : Int32} {s2 : Int32} (h : fX3_readStatement_61 o v1 s1 s2 I = some r) : zAW zE0 X mX3_readStatement 8 61 [(0, zr 15), (1, zi v1)] [zi s2, zi s1, zr o] (zS0, I, L, F) (some (zi r.1)) (zS0, r.2, L, F) := by
  unfold fX3_readStatement_61 at h
  obtain ⟨q3, hq3, h⟩ := zbind h
  refine a_callV dX3_readStatement_61 (tX5_add hR hso _ _ _ hq3) csX5_add zw507 (Nat.le_of_ble_eq_true rfl) (zsc_o hso) rfl rfl (Nat.le_of_ble_eq_true rfl) ⟨Nat.le_refl _, Nat.le_refl _⟩ (fun hb4 => ?_)
  refine a_istore_n dX3_readStatement_64 rfl (by decide) rfl ?_
  refine a_aload_n dX3_readStatement_65 rfl 1 rfl ?_
  refine a_getq dX3_readStatement_66 G_X3_15 zs_15 rfl (rf_15_0 hR) ?_
  obtain ⟨q5, hq5, h⟩ := zbind h
  refine a_callV dX3_readStatement_69 (tX6_advance hR _ hq5) csX6_advance zw428 (Nat.le_of_ble_eq_true rfl) zs_13 rfl rfl (Nat.le_of_ble_eq_true rfl) ⟨Nat.le_refl _, Nat.le_refl _⟩ (fun hb6 => ?_)
  refine a_iload_n dX3_readStatement_72 rfl 2 rfl ?_
  refine a_bipush (v := 7) dX3_readStatement_73 (by decide) ?_
  refine a_icmp_eq (tgt := 84) dX3_readStatement_75 rfl (fun hc12 => ?_) (fun hc12 => ?_)
  · rw [if_pos hc12] at h
    refine a_sub [1, 0] rfl ?_
    exact tX3_readStatement_84 hR hso h
  · rw [if_neg hc12] at h
    refine a_iload_n dX3_readStatement_78 rfl 2 rfl ?_
    refine a_bipush (v := 8) dX3_readStatement_79 (by decide) ?_
    refine a_icmp_ne (tgt := 92) dX3_readStatement_81 rfl (fun hc11 => ?_) (fun hc11 => ?_)
    · rw [if_neg hc11] at h
      refine a_aload_n dX3_readStatement_92 rfl 1 rfl ?_
      refine a_iload_n dX3_readStatement_93 rfl 0 rfl ?_
      refine a_iload_n dX3_readStatement_94 rfl 2 rfl ?_
      obtain ⟨q9, hq9, h⟩ := zbind h
      refine a_callV dX3_readStatement_95 (tX3_readOrder hR hso _ _ _ hq9) csX3_readOrder zw538 (Nat.le_of_ble_eq_true rfl) zs_15 rfl rfl (Nat.le_of_ble_eq_true rfl) ⟨Nat.le_refl _, Nat.le_refl _⟩ (fun hb10 => ?_)
      cases h
      exact a_iret dX3_readStatement_98 (by intro h; cases h) (znar_i rfl)
    · rw [if_pos hc11] at h
      refine a_sub [1, 0] rfl ?_
      exact tX3_readStatement_84 hR hso h
set_option maxRecDepth 100000 in
theorem tX3_readStatement {X : Nat × (Nat → Int32)} {I : zPI} {L : zPL} {F : zPF} {a b : Nat} {o : Nat} (hR : zRin F a b (some o)) (hso : zSc o) (r : Int32 × zPI) (h : fX3_readStatement o I = some r) : zAM X mX3_readStatement 8 [zr 15] (zS0, I, L, F) (some (zi r.1)) (zS0, r.2, L, F) := by
  refine zAM_of (by decide) (Nat.le_of_ble_eq_true rfl) ⟨fun h => (by cases h), fun h => (by cases h)⟩ (Nat.le_refl _) (Nat.le_refl _) ?_
  unfold fX3_readStatement at h
  show zAW zE0 X mX3_readStatement 8 0 [(0, zr 15)] [] (zS0, I, L, F) (some (zi r.1)) (zS0, r.2, L, F)
  refine a_aload_n dX3_readStatement_0 rfl 0 rfl ?_
  obtain ⟨q1, hq1, h⟩ := zbind h
  refine a_callV dX3_readStatement_1 (tX3_verbHere hR hso _ hq1) csX3_verbHere zw494 (Nat.le_of_ble_eq_true rfl) zs_15 rfl rfl (Nat.le_of_ble_eq_true rfl) ⟨Nat.le_refl _, Nat.le_refl _⟩ (fun hb2 => ?_)
  refine a_istore_n dX3_readStatement_4 rfl (by decide) rfl ?_
  refine a_iload_n dX3_readStatement_5 rfl 0 rfl ?_
  refine a_iconst (v := (-1)) dX3_readStatement_6 (by decide) ?_
  refine a_icmp_ne (tgt := 16) dX3_readStatement_7 rfl (fun hc18 => ?_) (fun hc18 => ?_)
  · rw [if_neg hc18] at h
    refine a_aload_n dX3_readStatement_16 rfl 1 rfl ?_
    refine a_getq dX3_readStatement_17 G_X3_19 zs_15 rfl (rf_15_s hR) ?_
    refine a_geti dX3_readStatement_20 G_X3_23 (zsc_o hso) rfl ?_
    refine a_bipush (v := 80) dX3_readStatement_23 (by decide) ?_
    refine a_icmp_lt (tgt := 34) dX3_readStatement_25 rfl (fun hc16 => ?_) (fun hc16 => ?_)
    · rw [if_pos hc16] at h
      refine a_aload_n dX3_readStatement_34 rfl 1 rfl ?_
      refine a_getq dX3_readStatement_35 G_X3_19 zs_15 rfl (rf_15_s hR) ?_
      refine a_iload_n dX3_readStatement_38 rfl 0 rfl ?_
      refine a_aload_n dX3_readStatement_39 rfl 1 rfl ?_
      refine a_geti dX3_readStatement_40 G_X3_29 zs_15 rfl ?_
      refine a_if_le (tgt := 60) dX3_readStatement_43 rfl (fun hc14 => ?_) (fun hc14 => ?_)
      · rw [if_pos hc14] at h
        refine a_iconst (v := (-1)) dX3_readStatement_60 (by decide) ?_
        refine a_sub [1, 0] rfl ?_
        exact tX3_readStatement_61 hR hso h
      · rw [if_neg hc14] at h
        refine a_aload_n dX3_readStatement_46 rfl 1 rfl ?_
        refine a_getq dX3_readStatement_47 G_X3_11 zs_15 rfl (rf_15_1 hR) ?_
        refine a_aload_n dX3_readStatement_50 rfl 1 rfl ?_
        refine a_geti dX3_readStatement_51 G_X3_29 zs_15 rfl ?_
        refine a_iconst (v := 1) dX3_readStatement_54 (by decide) ?_
        refine a_isub dX3_readStatement_55 ?_
        obtain ⟨hz13, h⟩ := zif h
        refine a_iald dX3_readStatement_56 zs_16 (zin_vp hz13) ?_
        refine a_goto (tgt := 61) dX3_readStatement_57 rfl ?_
        refine a_sub [1, 0] rfl ?_
        exact tX3_readStatement_61 hR hso h
    · rw [if_neg hc16] at h
      refine a_aload_n dX3_readStatement_28 rfl 1 rfl ?_
      refine a_iconst (v := 5) dX3_readStatement_29 (by decide) ?_
      refine a_callV dX3_readStatement_30 (tX3_faultHere hR hso _ _ rfl) csX3_faultHere zw486 (Nat.le_of_ble_eq_true rfl) zs_15 rfl rfl (Nat.le_of_ble_eq_true rfl) ⟨Nat.le_refl _, Nat.le_refl _⟩ (fun hb15 => ?_)
      cases h
      exact a_iret dX3_readStatement_33 (by intro h; cases h) (znar_i rfl)
  · rw [if_pos hc18] at h
    refine a_aload_n dX3_readStatement_10 rfl 1 rfl ?_
    refine a_iconst (v := 1) dX3_readStatement_11 (by decide) ?_
    refine a_callV dX3_readStatement_12 (tX3_faultHere hR hso _ _ rfl) csX3_faultHere zw486 (Nat.le_of_ble_eq_true rfl) zs_15 rfl rfl (Nat.le_of_ble_eq_true rfl) ⟨Nat.le_refl _, Nat.le_refl _⟩ (fun hb17 => ?_)
    cases h
    exact a_iret dX3_readStatement_15 (by intro h; cases h) (znar_i rfl)
def fX3_read_73 (o : Nat) (rec : Int32 → Int32 → zPI → Option (Int32 × zPI)) (v3 : Int32) (I : zPI) : Option (Int32 × zPI) := (fX3_readStatement o I).bind (fun q5 => rec q5.1 (v3 + 1) q5.2)
def fX3_read_29 (o : Nat) (K : Int32 → zPI → Option (Int32 × zPI)) : Nat → Int32 → Int32 → zPI → Option (Int32 × zPI)
  | 0, _, _, _ => none
  | n + 1, v2, v3, I => (if 1000 < v3 then K v2 I else (if v2 = 0 then (if (fX3_isOver o I) = 0 then (if (I 13 2) = 125 then (if (I 15 2) ≤ 0 then fX3_read_73 o (fX3_read_29 o K n) v3 I else (fX3_readClosing o I).bind (fun q7 => fX3_read_29 o K n q7.1 (v3 + 1) q7.2)) else fX3_read_73 o (fX3_read_29 o K n) v3 I) else K v2 I) else K v2 I))
def fX3_read_84 (o : Nat) (v2 : Int32) (I : zPI) : Option (Int32 × zPI) := (if v2 = 0 then (fX5_link o I).bind (fun q14 => some (v2, q14)) else some (v2, I))
def fX3_read (o : Nat) (I : zPI) : Option (Int32 × zPI) := (fX6_rewind (zu (zu I o 0 0) 15 2 0)).bind (fun q2 => fX3_read_29 o (fun v2 I => fX3_read_84 o v2 I) zF 0 0 q2)
set_option maxRecDepth 100000 in
theorem tX3_read_73 {X : Nat × (Nat → Int32)} {I : zPI} {L : zPL} {F : zPF} {a b : Nat} {o : Nat} (hR : zRin F a b (some o)) (hso : zSc o) {r : Int32 × zPI} {rec : Int32 → Int32 → zPI → Option (Int32 × zPI)} (hrec : ∀ (v2 : Int32) (v3 : Int32) (I : zPI), rec v2 v3 I = some r → zAW zE0 X mX3_read 9 29 [(0, zr 15), (2, zi v2), (3, zi v3)] [] (zS0, I, L, F) (some (zi r.1)) (zS0, r.2, L, F)) {v3 : Int32} (h : fX3_read_73 o rec v3 I = some r) : zAW zE0 X mX3_read 9 73 [(0, zr 15), (3, zi v3)] [] (zS0, I, L, F) (some (zi r.1)) (zS0, r.2, L, F) := by
  unfold fX3_read_73 at h
  refine a_aload_n dX3_read_73 rfl 0 rfl ?_
  obtain ⟨q5, hq5, h⟩ := zbind h
  refine a_callV dX3_read_74 (tX3_readStatement hR hso _ hq5) csX3_readStatement zw490 (Nat.le_of_ble_eq_true rfl) zs_15 rfl rfl (Nat.le_of_ble_eq_true rfl) ⟨Nat.le_refl _, Nat.le_refl _⟩ (fun hb6 => ?_)
  refine a_istore_n dX3_read_77 rfl (by decide) rfl ?_
  refine a_iincK (k0 := 1) dX3_read_78 (by decide) 2 rfl (by decide) rfl ?_
  refine a_goto (tgt := 29) dX3_read_81 rfl ?_
  refine a_sub [2, 1, 0] rfl ?_
  exact hrec _ _ _ h
set_option maxRecDepth 100000 in
theorem tX3_read_29 {X : Nat × (Nat → Int32)} {L : zPL} {F : zPF} {a b : Nat} {o : Nat} (hR : zRin F a b (some o)) (hso : zSc o) {r : Int32 × zPI} {K : Int32 → zPI → Option (Int32 × zPI)} (hK : ∀ (v2 : Int32) (I : zPI), K v2 I = some r → zAW zE0 X mX3_read 9 84 [(0, zr 15), (2, zi v2)] [] (zS0, I, L, F) (some (zi r.1)) (zS0, r.2, L, F)) : ∀ (n : Nat) (v2 : Int32) (v3 : Int32) (I : zPI), fX3_read_29 o K n v2 v3 I = some r → zAW zE0 X mX3_read 9 29 [(0, zr 15), (2, zi v2), (3, zi v3)] [] (zS0, I, L, F) (some (zi r.1)) (zS0, r.2, L, F) := by
  intro n
  induction n with
  | zero =>
    intro v2 v3 I h
    rw [fX3_read_29.eq_1] at h
    cases h
  | succ n ih =>
    intro v2 v3 I h
    rw [fX3_read_29.eq_2] at h
    refine a_iload_n dX3_read_29 rfl 2 rfl ?_
    refine a_sipush (v := 1000) dX3_read_30 (by decide) ?_
    refine a_icmp_gt (tgt := 84) dX3_read_33 rfl (fun hc13 => ?_) (fun hc13 => ?_)
    · rw [if_pos hc13] at h
      refine a_sub [0, 1] rfl ?_
      exact hK _ _ h
    · rw [if_neg hc13] at h
      refine a_iload_n dX3_read_36 rfl 1 rfl ?_
      refine a_if_ne (tgt := 84) dX3_read_37 rfl (fun hc12 => ?_) (fun hc12 => ?_)
      · rw [if_neg hc12] at h
        refine a_sub [0, 1] rfl ?_
        exact hK _ _ h
      · rw [if_pos hc12] at h
        refine a_aload_n dX3_read_40 rfl 0 rfl ?_
        refine a_callV dX3_read_41 (tX3_isOver hR hso _ rfl) csX3_isOver zw420 (Nat.le_of_ble_eq_true rfl) zs_15 rfl rfl (Nat.le_of_ble_eq_true rfl) ⟨Nat.le_refl _, Nat.le_refl _⟩ (fun hb4 => ?_)
        refine a_if_ne (tgt := 84) dX3_read_44 rfl (fun hc11 => ?_) (fun hc11 => ?_)
        · rw [if_neg hc11] at h
          refine a_sub [0, 1] rfl ?_
          exact hK _ _ h
        · rw [if_pos hc11] at h
          refine a_aload_n dX3_read_47 rfl 0 rfl ?_
          refine a_getq dX3_read_48 G_X3_15 zs_15 rfl (rf_15_0 hR) ?_
          refine a_geti dX3_read_51 G_X3_41 zs_13 rfl ?_
          refine a_bipush (v := 125) dX3_read_54 (by decide) ?_
          refine a_icmp_ne (tgt := 73) dX3_read_56 rfl (fun hc10 => ?_) (fun hc10 => ?_)
          · rw [if_neg hc10] at h
            refine a_sub [0, 2] rfl ?_
            exact tX3_read_73 hR hso ih h
          · rw [if_pos hc10] at h
            refine a_aload_n dX3_read_59 rfl 0 rfl ?_
            refine a_geti dX3_read_60 G_X3_29 zs_15 rfl ?_
            refine a_if_le (tgt := 73) dX3_read_63 rfl (fun hc9 => ?_) (fun hc9 => ?_)
            · rw [if_pos hc9] at h
              refine a_sub [0, 2] rfl ?_
              exact tX3_read_73 hR hso ih h
            · rw [if_neg hc9] at h
              refine a_aload_n dX3_read_66 rfl 0 rfl ?_
              obtain ⟨q7, hq7, h⟩ := zbind h
              refine a_callV dX3_read_67 (tX3_readClosing hR hso _ hq7) csX3_readClosing zw424 (Nat.le_of_ble_eq_true rfl) zs_15 rfl rfl (Nat.le_of_ble_eq_true rfl) ⟨Nat.le_refl _, Nat.le_refl _⟩ (fun hb8 => ?_)
              refine a_goto (tgt := 77) dX3_read_70 rfl ?_
              refine a_istore_n dX3_read_77 rfl (by decide) rfl ?_
              refine a_iincK (k0 := 1) dX3_read_78 (by decide) 2 rfl (by decide) rfl ?_
              refine a_goto (tgt := 29) dX3_read_81 rfl ?_
              refine a_sub [2, 1, 0] rfl ?_
              exact ih _ _ _ h
set_option maxRecDepth 100000 in
theorem tX3_read_84 {X : Nat × (Nat → Int32)} {I : zPI} {L : zPL} {F : zPF} {a b : Nat} {o : Nat} (hR : zRin F a b (some o)) (hso : zSc o) {r : Int32 × zPI} {v2 : Int32} (h : fX3_read_84 o v2 I = some r) : zAW zE0 X mX3_read 9 84 [(0, zr 15), (2, zi v2)] [] (zS0, I, L, F) (some (zi r.1)) (zS0, r.2, L, F) := by
  unfold fX3_read_84 at h
  refine a_iload_n dX3_read_84 rfl 1 rfl ?_
  refine a_if_ne (tgt := 95) dX3_read_85 rfl (fun hc16 => ?_) (fun hc16 => ?_)
  · rw [if_neg hc16] at h
    refine a_iload_n dX3_read_95 rfl 1 rfl ?_
    cases h
    exact a_iret dX3_read_96 (by intro h; cases h) (znar_i rfl)
  · rw [if_pos hc16] at h
    refine a_aload_n dX3_read_88 rfl 0 rfl ?_
    refine a_getq dX3_read_89 G_X3_19 zs_15 rfl (rf_15_s hR) ?_
    obtain ⟨q14, hq14, h⟩ := zbind h
    refine a_callV dX3_read_92 (tX5_link hR hso _ hq14) csX5_link zw549 (Nat.le_of_ble_eq_true rfl) (zsc_o hso) rfl rfl (Nat.le_of_ble_eq_true rfl) ⟨Nat.le_refl _, Nat.le_refl _⟩ (fun hb15 => ?_)
    refine a_iload_n dX3_read_95 rfl 1 rfl ?_
    cases h
    exact a_iret dX3_read_96 (by intro h; cases h) (znar_i rfl)
set_option maxRecDepth 100000 in
theorem tX3_read {X : Nat × (Nat → Int32)} {I : zPI} {L : zPL} {F : zPF} {a b : Nat} {o : Nat} {c : Option Nat} (hR : zRin F a b c) (hso : zSc o) (r : Int32 × zPI) (h : fX3_read o I = some r) : zAM X mX3_read 9 [zr 15, zr o] (zS0, I, L, F) (some (zi r.1)) (zS0, r.2, L, zu F 15 3 (some o)) := by
  refine zAM_of (by decide) (Nat.le_of_ble_eq_true rfl) ⟨fun h => (by cases h), fun h => (by cases h)⟩ (Nat.le_refl _) (Nat.le_refl _) ?_
  unfold fX3_read at h
  show zAW zE0 X mX3_read 9 0 [(0, zr 15), (1, zr o)] [] (zS0, I, L, F) (some (zi r.1)) (zS0, r.2, L, zu F 15 3 (some o))
  refine a_aload_n dX3_read_0 rfl 0 rfl ?_
  refine a_aload_n dX3_read_1 rfl 1 rfl ?_
  refine a_putq dX3_read_2 F_X3_19 zs_15 rfl (fun z => by cases z <;> exact ⟨rfl, rfl⟩) ?_
  have hR1 := zRin_s (x := o) hR
  refine a_aload_n dX3_read_5 rfl 0 rfl ?_
  refine a_getq dX3_read_6 G_X3_19 zs_15 rfl (rf_15_s hR1) ?_
  refine a_iconst (v := 0) dX3_read_9 (by decide) ?_
  refine a_puti dX3_read_10 F_X3_23 (zsc_o hso) rfl ⟨rfl, rfl⟩ ?_
  refine a_aload_n dX3_read_13 rfl 0 rfl ?_
  refine a_iconst (v := 0) dX3_read_14 (by decide) ?_
  refine a_puti dX3_read_15 F_X3_29 zs_15 rfl ⟨rfl, rfl⟩ ?_
  refine a_aload_n dX3_read_18 rfl 0 rfl ?_
  refine a_getq dX3_read_19 G_X3_15 zs_15 rfl (rf_15_0 hR1) ?_
  obtain ⟨q2, hq2, h⟩ := zbind h
  refine a_callV dX3_read_22 (tX6_rewind hR1 _ hq2) csX6_rewind zw401 (Nat.le_of_ble_eq_true rfl) zs_13 rfl rfl (Nat.le_of_ble_eq_true rfl) ⟨Nat.le_refl _, Nat.le_refl _⟩ (fun hb3 => ?_)
  refine a_iconst (v := 0) dX3_read_25 (by decide) ?_
  refine a_istore_n dX3_read_26 rfl (by decide) rfl ?_
  refine a_iconst (v := 0) dX3_read_27 (by decide) ?_
  refine a_istore_n dX3_read_28 rfl (by decide) rfl ?_
  refine a_sub [2, 1, 0] rfl ?_
  refine tX3_read_29 hR1 hso (fun v2 I h => ?_) zF _ _ _ h
  (try dsimp only at h)
  exact tX3_read_84 hR1 hso h
