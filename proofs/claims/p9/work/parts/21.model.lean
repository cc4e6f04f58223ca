def fX9_apart (p0 : Int32) (p1 : Int32) : Int32 := (if ((p0 - p1) &&& 31) ≤ 16 then ((p0 - p1) &&& 31) else (32 - ((p0 - p1) &&& 31)))
set_option maxRecDepth 100000 in
theorem tX9_apart {X : Nat × (Nat → Int32)} {I : zPI} {L : zPL} {F : zPF} {a b : Nat} {c : Option Nat} (hR : zRin F a b c) (p0 : Int32) (p1 : Int32) (r : Int32) (h : fX9_apart p0 p1 = r) : zAM X mX9_apart 0 [zi p0, zi p1] (zS0, I, L, F) (some (zi r)) (zS0, I, L, F) := by
  refine zAM_of (by decide) (Nat.le_of_ble_eq_true rfl) ⟨fun h => (by cases h), fun h => (by cases h)⟩ (Nat.le_refl _) (Nat.le_refl _) ?_
  unfold fX9_apart at h
  show zAW zE0 X mX9_apart 0 0 [(0, zi p0), (1, zi p1)] [] (zS0, I, L, F) (some (zi r)) (zS0, I, L, F)
  refine a_iload_n dX9_apart_0 rfl 0 rfl ?_
  refine a_iload_n dX9_apart_1 rfl 1 rfl ?_
  refine a_isub dX9_apart_2 ?_
  refine a_bipush (v := 31) dX9_apart_3 (by decide) ?_
  refine a_iand dX9_apart_5 ?_
  refine a_istore_n dX9_apart_6 rfl (by decide) rfl ?_
  refine a_iload_n dX9_apart_7 rfl 0 rfl ?_
  refine a_bipush (v := 16) dX9_apart_8 (by decide) ?_
  refine a_icmp_le (tgt := 20) dX9_apart_10 rfl (fun hc1 => ?_) (fun hc1 => ?_)
  · rw [if_pos hc1] at h
    refine a_iload_n dX9_apart_20 rfl 0 rfl ?_
    subst h
    exact a_iret dX9_apart_21 (by intro h; cases h) (znar_i rfl)
  · rw [if_neg hc1] at h
    refine a_bipush (v := 32) dX9_apart_13 (by decide) ?_
    refine a_iload_n dX9_apart_15 rfl 0 rfl ?_
    refine a_isub dX9_apart_16 ?_
    refine a_goto (tgt := 21) dX9_apart_17 rfl ?_
    subst h
    exact a_iret dX9_apart_21 (by intro h; cases h) (znar_i rfl)
def fX9_area (p0 : Int32) : Int32 := (if (zrm p0 3) = 0 then 6 else (if (zrm p0 3) = 1 then 5 else 3))
set_option maxRecDepth 100000 in
theorem tX9_area {X : Nat × (Nat → Int32)} {I : zPI} {L : zPL} {F : zPF} {a b : Nat} {c : Option Nat} (hR : zRin F a b c) (p0 : Int32) (r : Int32) (h : fX9_area p0 = r) : zAM X mX9_area 0 [zi p0] (zS0, I, L, F) (some (zi r)) (zS0, I, L, F) := by
  refine zAM_of (by decide) (Nat.le_of_ble_eq_true rfl) ⟨fun h => (by cases h), fun h => (by cases h)⟩ (Nat.le_refl _) (Nat.le_refl _) ?_
  unfold fX9_area at h
  show zAW zE0 X mX9_area 0 0 [(0, zi p0)] [] (zS0, I, L, F) (some (zi r)) (zS0, I, L, F)
  refine a_iload_n dX9_area_0 rfl 0 rfl ?_
  refine a_iconst (v := 3) dX9_area_1 (by decide) ?_
  refine a_irem dX9_area_2 (by decide) ?_
  refine a_if_ne (tgt := 11) dX9_area_3 rfl (fun hc2 => ?_) (fun hc2 => ?_)
  · rw [if_neg hc2] at h
    refine a_iload_n dX9_area_11 rfl 0 rfl ?_
    refine a_iconst (v := 3) dX9_area_12 (by decide) ?_
    refine a_irem dX9_area_13 (by decide) ?_
    refine a_iconst (v := 1) dX9_area_14 (by decide) ?_
    refine a_icmp_ne (tgt := 22) dX9_area_15 rfl (fun hc1 => ?_) (fun hc1 => ?_)
    · rw [if_neg hc1] at h
      refine a_iconst (v := 3) dX9_area_22 (by decide) ?_
      subst h
      exact a_iret dX9_area_23 (by intro h; cases h) (znar_i rfl)
    · rw [if_pos hc1] at h
      refine a_iconst (v := 5) dX9_area_18 (by decide) ?_
      refine a_goto (tgt := 23) dX9_area_19 rfl ?_
      subst h
      exact a_iret dX9_area_23 (by intro h; cases h) (znar_i rfl)
  · rw [if_pos hc2] at h
    refine a_bipush (v := 6) dX9_area_6 (by decide) ?_
    refine a_goto (tgt := 23) dX9_area_8 rfl ?_
    subst h
    exact a_iret dX9_area_23 (by intro h; cases h) (znar_i rfl)
def fX9_isUnder_5 (I : zPI) (K : Int32 → Option (Int32)) : Nat → Int32 → Int32 → Int32 → Int32 → Option (Int32)
  | 0, _, _, _, _ => none
  | n + 1, v1, v2, v3, v4 => (if 24 ≤ v4 then K v3 else (if v3 = 0 then (if zin v4 24 then (if (I 63 v4.toNatClampNeg) = (1 + v1) then (if zin v4 24 then (if (I 64 v4.toNatClampNeg) = v2 then fX9_isUnder_5 I K n v1 v2 1 (v4 + 1) else fX9_isUnder_5 I K n v1 v2 0 (v4 + 1)) else none) else fX9_isUnder_5 I K n v1 v2 0 (v4 + 1)) else none) else fX9_isUnder_5 I K n v1 v2 1 (v4 + 1)))
def fX9_isUnder (I : zPI) (p1 : Int32) (p2 : Int32) : Option (Int32) := fX9_isUnder_5 I (fun v3 => (if zbl v3 then some v3 else none)) zF p1 p2 0 0
set_option maxRecDepth 100000 in
theorem tX9_isUnder_5 {X : Nat × (Nat → Int32)} {I : zPI} {L : zPL} {F : zPF} {a b : Nat} {c : Option Nat} (hR : zRin F a b c) {r : Int32} {K : Int32 → Option (Int32)} (hK : ∀ (v3 : Int32), K v3 = some r → zAW zE0 X mX9_isUnder 0 52 [(3, zi v3)] [] (zS0, I, L, F) (some (zi r)) (zS0, I, L, F)) : ∀ (n : Nat) (v1 : Int32) (v2 : Int32) (v3 : Int32) (v4 : Int32), fX9_isUnder_5 I K n v1 v2 v3 v4 = some r → zAW zE0 X mX9_isUnder 0 5 [(0, zr 48), (1, zi v1), (2, zi v2), (3, zi v3), (4, zi v4)] [] (zS0, I, L, F) (some (zi r)) (zS0, I, L, F) := by
  intro n
  induction n with
  | zero =>
    intro v1 v2 v3 v4 h
    rw [fX9_isUnder_5.eq_1] at h
    cases h
  | succ n ih =>
    intro v1 v2 v3 v4 h
    rw [fX9_isUnder_5.eq_2] at h
    refine a_iload dX9_isUnder_5 4 rfl ?_
    refine a_bipush (v := 24) dX9_isUnder_7 (by decide) ?_
    refine a_icmp_ge (tgt := 52) dX9_isUnder_9 rfl (fun hc6 => ?_) (fun hc6 => ?_)
    · rw [if_pos hc6] at h
      refine a_sub [3] rfl ?_
      exact hK _ h
    · rw [if_neg hc6] at h
      refine a_iload_n dX9_isUnder_12 rfl 3 rfl ?_
      refine a_if_ne (tgt := 40) dX9_isUnder_13 rfl (fun hc5 => ?_) (fun hc5 => ?_)
      · rw [if_neg hc5] at h
        refine a_iconst (v := 1) dX9_isUnder_40 (by decide) ?_
        refine a_goto (tgt := 45) dX9_isUnder_41 rfl ?_
        refine a_istore_n dX9_isUnder_45 rfl (by decide) rfl ?_
        refine a_iincK (k0 := 1) dX9_isUnder_46 (by decide) 4 rfl (by decide) rfl ?_
        refine a_goto (tgt := 5) dX9_isUnder_49 rfl ?_
        refine a_sub [2, 3, 4, 1, 0] rfl ?_
        exact ih _ _ _ _ h
      · rw [if_pos hc5] at h
        refine a_aload_n dX9_isUnder_16 rfl 0 rfl ?_
        refine a_getq dX9_isUnder_17 G_X9_98 zs_48 rfl (rf_48_24 hR) ?_
        refine a_iload dX9_isUnder_20 4 rfl ?_
        obtain ⟨hz1, h⟩ := zif h
        refine a_iald dX9_isUnder_22 zs_63 (zin_vp hz1) ?_
        refine a_iconst (v := 1) dX9_isUnder_23 (by decide) ?_
        refine a_iload_n dX9_isUnder_24 rfl 1 rfl ?_
        refine a_iadd dX9_isUnder_25 ?_
        refine a_icmp_ne (tgt := 44) dX9_isUnder_26 rfl (fun hc4 => ?_) (fun hc4 => ?_)
        · rw [if_neg hc4] at h
          refine a_iconst (v := 0) dX9_isUnder_44 (by decide) ?_
          refine a_istore_n dX9_isUnder_45 rfl (by decide) rfl ?_
          refine a_iincK (k0 := 1) dX9_isUnder_46 (by decide) 4 rfl (by decide) rfl ?_
          refine a_goto (tgt := 5) dX9_isUnder_49 rfl ?_
          refine a_sub [2, 3, 4, 1, 0] rfl ?_
          exact ih _ _ _ _ h
        · rw [if_pos hc4] at h
          refine a_aload_n dX9_isUnder_29 rfl 0 rfl ?_
          refine a_getq dX9_isUnder_30 G_X9_101 zs_48 rfl (rf_48_25 hR) ?_
          refine a_iload dX9_isUnder_33 4 rfl ?_
          obtain ⟨hz2, h⟩ := zif h
          refine a_iald dX9_isUnder_35 zs_64 (zin_vp hz2) ?_
          refine a_iload_n dX9_isUnder_36 rfl 2 rfl ?_
          refine a_icmp_ne (tgt := 44) dX9_isUnder_37 rfl (fun hc3 => ?_) (fun hc3 => ?_)
          · rw [if_neg hc3] at h
            refine a_iconst (v := 0) dX9_isUnder_44 (by decide) ?_
            refine a_istore_n dX9_isUnder_45 rfl (by decide) rfl ?_
            refine a_iincK (k0 := 1) dX9_isUnder_46 (by decide) 4 rfl (by decide) rfl ?_
            refine a_goto (tgt := 5) dX9_isUnder_49 rfl ?_
            refine a_sub [2, 3, 4, 1, 0] rfl ?_
            exact ih _ _ _ _ h
          · rw [if_pos hc3] at h
            refine a_iconst (v := 1) dX9_isUnder_40 (by decide) ?_
            refine a_goto (tgt := 45) dX9_isUnder_41 rfl ?_
            refine a_istore_n dX9_isUnder_45 rfl (by decide) rfl ?_
            refine a_iincK (k0 := 1) dX9_isUnder_46 (by decide) 4 rfl (by decide) rfl ?_
            refine a_goto (tgt := 5) dX9_isUnder_49 rfl ?_
            refine a_sub [2, 3, 4, 1, 0] rfl ?_
            exact ih _ _ _ _ h
set_option maxRecDepth 100000 in
theorem tX9_isUnder {X : Nat × (Nat → Int32)} {I : zPI} {L : zPL} {F : zPF} {a b : Nat} {c : Option Nat} (hR : zRin F a b c) (p1 : Int32) (p2 : Int32) (r : Int32) (h : fX9_isUnder I p1 p2 = some r) : zAM X mX9_isUnder 0 [zr 48, zi p1, zi p2] (zS0, I, L, F) (some (zi r)) (zS0, I, L, F) := by
  refine zAM_of (by decide) (Nat.le_of_ble_eq_true rfl) ⟨fun h => (by cases h), fun h => (by cases h)⟩ (Nat.le_refl _) (Nat.le_refl _) ?_
  unfold fX9_isUnder at h
  show zAW zE0 X mX9_isUnder 0 0 [(0, zr 48), (1, zi p1), (2, zi p2)] [] (zS0, I, L, F) (some (zi r)) (zS0, I, L, F)
  refine a_iconst (v := 0) dX9_isUnder_0 (by decide) ?_
  refine a_istore_n dX9_isUnder_1 rfl (by decide) rfl ?_
  refine a_iconst (v := 0) dX9_isUnder_2 (by decide) ?_
  refine a_istore dX9_isUnder_3 (by decide) rfl ?_
  refine a_sub [2, 3, 4, 1, 0] rfl ?_
  refine tX9_isUnder_5 hR (fun v3 h => ?_) zF _ _ _ _ h
  (try dsimp only at h)
  refine a_iload_n dX9_isUnder_52 rfl 0 rfl ?_
  obtain ⟨hz7, h⟩ := zif h
  cases h
  exact a_iret dX9_isUnder_53 (by intro h; cases h) (znar_bl rfl hz7)
def fX9_isBarred (I : zPI) (p1 : Int32) (p2 : Int32) : Option (Int32) := (if p1 = 2 then (fX9_isUnder I 2 p2).bind (fun q23 => some q23) else (if p1 = 3 then (fX9_isUnder I 3 p2).bind (fun q13 => (if q13 = 0 then (fX9_isUnder I 0 (p2 / 2)).bind (fun q15 => (if q15 = 0 then (fX9_isUnder I 1 (p2 / 2)).bind (fun q17 => (if q17 = 0 then some 0 else some 1)) else some 1)) else some 1)) else (fX9_isUnder I 0 p2).bind (fun q1 => (if q1 = 0 then (fX9_isUnder I 1 p2).bind (fun q3 => (if q3 = 0 then (fX9_isUnder I 3 (2 * p2)).bind (fun q5 => (if q5 = 0 then (fX9_isUnder I 3 ((2 * p2) + 1)).bind (fun q7 => (if q7 = 0 then some 0 else some 1)) else some 1)) else some 1)) else some 1))))
set_option maxRecDepth 100000 in
theorem tX9_isBarred {X : Nat × (Nat → Int32)} {I : zPI} {L : zPL} {F : zPF} {a b : Nat} {c : Option Nat} (hR : zRin F a b c) (p1 : Int32) (p2 : Int32) (r : Int32) (h : fX9_isBarred I p1 p2 = some r) : zAM X mX9_isBarred 1 [zr 48, zi p1, zi p2] (zS0, I, L, F) (some (zi r)) (zS0, I, L, F) := by
  refine zAM_of (by decide) (Nat.le_of_ble_eq_true rfl) ⟨fun h => (by cases h), fun h => (by cases h)⟩ (Nat.le_refl _) (Nat.le_refl _) ?_
  unfold fX9_isBarred at h
  show zAW zE0 X mX9_isBarred 1 0 [(0, zr 48), (1, zi p1), (2, zi p2)] [] (zS0, I, L, F) (some (zi r)) (zS0, I, L, F)
  refine a_iload_n dX9_isBarred_0 rfl 1 rfl ?_
  refine a_iconst (v := 2) dX9_isBarred_1 (by decide) ?_
  refine a_icmp_ne (tgt := 12) dX9_isBarred_2 rfl (fun hc25 => ?_) (fun hc25 => ?_)
  · rw [if_neg hc25] at h
    refine a_iload_n dX9_isBarred_12 rfl 1 rfl ?_
    refine a_iconst (v := 3) dX9_isBarred_13 (by decide) ?_
    refine a_icmp_ne (tgt := 54) dX9_isBarred_14 rfl (fun hc22 => ?_) (fun hc22 => ?_)
    · rw [if_neg hc22] at h
      refine a_aload_n dX9_isBarred_54 rfl 0 rfl ?_
      refine a_iconst (v := 0) dX9_isBarred_55 (by decide) ?_
      refine a_iload_n dX9_isBarred_56 rfl 2 rfl ?_
      obtain ⟨q1, hq1, h⟩ := zbind h
      refine a_callV dX9_isBarred_57 (tX9_isUnder hR _ _ _ hq1) csX9_isUnder zw1254 (Nat.le_of_ble_eq_true rfl) zs_48 rfl rfl (Nat.le_of_ble_eq_true rfl) ⟨Nat.le_refl _, Nat.le_refl _⟩ (fun hb2 => ?_)
      refine a_if_ne (tgt := 96) dX9_isBarred_60 rfl (fun hc12 => ?_) (fun hc12 => ?_)
      · rw [if_neg hc12] at h
        refine a_iconst (v := 1) dX9_isBarred_96 (by decide) ?_
        refine a_goto (tgt := 101) dX9_isBarred_97 rfl ?_
        cases h
        exact a_iret dX9_isBarred_101 (by intro h; cases h) (znar_b1 rfl)
      · rw [if_pos hc12] at h
        refine a_aload_n dX9_isBarred_63 rfl 0 rfl ?_
        refine a_iconst (v := 1) dX9_isBarred_64 (by decide) ?_
        refine a_iload_n dX9_isBarred_65 rfl 2 rfl ?_
        obtain ⟨q3, hq3, h⟩ := zbind h
        refine a_callV dX9_isBarred_66 (tX9_isUnder hR _ _ _ hq3) csX9_isUnder zw1254 (Nat.le_of_ble_eq_true rfl) zs_48 rfl rfl (Nat.le_of_ble_eq_true rfl) ⟨Nat.le_refl _, Nat.le_refl _⟩ (fun hb4 => ?_)
        refine a_if_ne (tgt := 96) dX9_isBarred_69 rfl (fun hc11 => ?_) (fun hc11 => ?_)
        · rw [if_neg hc11] at h
          refine a_iconst (v := 1) dX9_isBarred_96 (by decide) ?_
          refine a_goto (tgt := 101) dX9_isBarred_97 rfl ?_
          cases h
          exact a_iret dX9_isBarred_101 (by intro h; cases h) (znar_b1 rfl)
        · rw [if_pos hc11] at h
          refine a_aload_n dX9_isBarred_72 rfl 0 rfl ?_
          refine a_iconst (v := 3) dX9_isBarred_73 (by decide) ?_
          refine a_iconst (v := 2) dX9_isBarred_74 (by decide) ?_
          refine a_iload_n dX9_isBarred_75 rfl 2 rfl ?_
          refine a_imul dX9_isBarred_76 ?_
          obtain ⟨q5, hq5, h⟩ := zbind h
          refine a_callV dX9_isBarred_77 (tX9_isUnder hR _ _ _ hq5) csX9_isUnder zw1254 (Nat.le_of_ble_eq_true rfl) zs_48 rfl rfl (Nat.le_of_ble_eq_true rfl) ⟨Nat.le_refl _, Nat.le_refl _⟩ (fun hb6 => ?_)
          refine a_if_ne (tgt := 96) dX9_isBarred_80 rfl (fun hc10 => ?_) (fun hc10 => ?_)
          · rw [if_neg hc10] at h
            refine a_iconst (v := 1) dX9_isBarred_96 (by decide) ?_
            refine a_goto (tgt := 101) dX9_isBarred_97 rfl ?_
            cases h
            exact a_iret dX9_isBarred_101 (by intro h; cases h) (znar_b1 rfl)
          · rw [if_pos hc10] at h
            refine a_aload_n dX9_isBarred_83 rfl 0 rfl ?_
            refine a_iconst (v := 3) dX9_isBarred_84 (by decide) ?_
            refine a_iconst (v := 2) dX9_isBarred_85 (by decide) ?_
            refine a_iload_n dX9_isBarred_86 rfl 2 rfl ?_
            refine a_imul dX9_isBarred_87 ?_
            refine a_iconst (v := 1) dX9_isBarred_88 (by decide) ?_
            refine a_iadd dX9_isBarred_89 ?_
            obtain ⟨q7, hq7, h⟩ := zbind h
            refine a_callV dX9_isBarred_90 (tX9_isUnder hR _ _ _ hq7) csX9_isUnder zw1254 (Nat.le_of_ble_eq_true rfl) zs_48 rfl rfl (Nat.le_of_ble_eq_true rfl) ⟨Nat.le_refl _, Nat.le_refl _⟩ (fun hb8 => ?_)
            refine a_if_eq (tgt := 100) dX9_isBarred_93 rfl (fun hc9 => ?_) (fun hc9 => ?_)
            · rw [if_pos hc9] at h
              refine a_iconst (v := 0) dX9_isBarred_100 (by decide) ?_
              cases h
              exact a_iret dX9_isBarred_101 (by intro h; cases h) (znar_b0 rfl)
            · rw [if_neg hc9] at h
              refine a_iconst (v := 1) dX9_isBarred_96 (by decide) ?_
              refine a_goto (tgt := 101) dX9_isBarred_97 rfl ?_
              cases h
              exact a_iret dX9_isBarred_101 (by intro h; cases h) (znar_b1 rfl)
    · rw [if_pos hc22] at h
      refine a_aload_n dX9_isBarred_17 rfl 0 rfl ?_
      refine a_iconst (v := 3) dX9_isBarred_18 (by decide) ?_
      refine a_iload_n dX9_isBarred_19 rfl 2 rfl ?_
      obtain ⟨q13, hq13, h⟩ := zbind h
      refine a_callV dX9_isBarred_20 (tX9_isUnder hR _ _ _ hq13) csX9_isUnder zw1254 (Nat.le_of_ble_eq_true rfl) zs_48 rfl rfl (Nat.le_of_ble_eq_true rfl) ⟨Nat.le_refl _, Nat.le_refl _⟩ (fun hb14 => ?_)
      refine a_if_ne (tgt := 48) dX9_isBarred_23 rfl (fun hc21 => ?_) (fun hc21 => ?_)
      · rw [if_neg hc21] at h
        refine a_iconst (v := 1) dX9_isBarred_48 (by decide) ?_
        refine a_goto (tgt := 53) dX9_isBarred_49 rfl ?_
        cases h
        exact a_iret dX9_isBarred_53 (by intro h; cases h) (znar_b1 rfl)
      · rw [if_pos hc21] at h
        refine a_aload_n dX9_isBarred_26 rfl 0 rfl ?_
        refine a_iconst (v := 0) dX9_isBarred_27 (by decide) ?_
        refine a_iload_n dX9_isBarred_28 rfl 2 rfl ?_
        refine a_iconst (v := 2) dX9_isBarred_29 (by decide) ?_
        refine a_idiv dX9_isBarred_30 (by decide) ?_
        obtain ⟨q15, hq15, h⟩ := zbind h
        refine a_callV dX9_isBarred_31 (tX9_isUnder hR _ _ _ hq15) csX9_isUnder zw1254 (Nat.le_of_ble_eq_true rfl) zs_48 rfl rfl (Nat.le_of_ble_eq_true rfl) ⟨Nat.le_refl _, Nat.le_refl _⟩ (fun hb16 => ?_)
        refine a_if_ne (tgt := 48) dX9_isBarred_34 rfl (fun hc20 => ?_) (fun hc20 => ?_)
        · rw [if_neg hc20] at h
          refine a_iconst (v := 1) dX9_isBarred_48 (by decide) ?_
          refine a_goto (tgt := 53) dX9_isBarred_49 rfl ?_
          cases h
          exact a_iret dX9_isBarred_53 (by intro h; cases h) (znar_b1 rfl)
        · rw [if_pos hc20] at h
          refine a_aload_n dX9_isBarred_37 rfl 0 rfl ?_
          refine a_iconst (v := 1) dX9_isBarred_38 (by decide) ?_
          refine a_iload_n dX9_isBarred_39 rfl 2 rfl ?_
          refine a_iconst (v := 2) dX9_isBarred_40 (by decide) ?_
          refine a_idiv dX9_isBarred_41 (by decide) ?_
          obtain ⟨q17, hq17, h⟩ := zbind h
          refine a_callV dX9_isBarred_42 (tX9_isUnder hR _ _ _ hq17) csX9_isUnder zw1254 (Nat.le_of_ble_eq_true rfl) zs_48 rfl rfl (Nat.le_of_ble_eq_true rfl) ⟨Nat.le_refl _, Nat.le_refl _⟩ (fun hb18 => ?_)
          refine a_if_eq (tgt := 52) dX9_isBarred_45 rfl (fun hc19 => ?_) (fun hc19 => ?_)
          · rw [if_pos hc19] at h
            refine a_iconst (v := 0) dX9_isBarred_52 (by decide) ?_
            cases h
            exact a_iret dX9_isBarred_53 (by intro h; cases h) (znar_b0 rfl)
          · rw [if_neg hc19] at h
            refine a_iconst (v := 1) dX9_isBarred_48 (by decide) ?_
            refine a_goto (tgt := 53) dX9_isBarred_49 rfl ?_
            cases h
            exact a_iret dX9_isBarred_53 (by intro h; cases h) (znar_b1 rfl)
  · rw [if_pos hc25] at h
    refine a_aload_n dX9_isBarred_5 rfl 0 rfl ?_
    refine a_iconst (v := 2) dX9_isBarred_6 (by decide) ?_
    refine a_iload_n dX9_isBarred_7 rfl 2 rfl ?_
    obtain ⟨q23, hq23, h⟩ := zbind h
    refine a_callV dX9_isBarred_8 (tX9_isUnder hR _ _ _ hq23) csX9_isUnder zw1254 (Nat.le_of_ble_eq_true rfl) zs_48 rfl rfl (Nat.le_of_ble_eq_true rfl) ⟨Nat.le_refl _, Nat.le_refl _⟩ (fun hb24 => ?_)
    cases h
    exact a_iret dX9_isBarred_11 (by intro h; cases h) (znar_of rfl (hb24))
def fX9_isMeant (I : zPI) (p1 : Int32) (p2 : Int32) (p3 : Int32) : Option (Int32) := (if p1 = 0 then (if zin p2 9 then (if (I 58 p2.toNatClampNeg) = 0 then (if zin (2 * p2) 18 then (if (I 59 (2 * p2).toNatClampNeg) = 2 then some 0 else (if zin ((2 * p2) + 1) 18 then (if (I 59 ((2 * p2) + 1).toNatClampNeg) = 2 then some 0 else some 1) else none)) else none) else some 0) else none) else (if p1 = 1 then (if zin p2 9 then (if (I 58 p2.toNatClampNeg) = 1 then some 1 else some 0) else none) else (if p1 = 2 then (if zin p2 3 then (if (I 61 p2.toNatClampNeg) = p3 then some 0 else some 1) else none) else (if zin p2 18 then (if (I 59 p2.toNatClampNeg) = 1 then some 0 else some 1) else none))))
set_option maxRecDepth 100000 in
theorem tX9_isMeant {X : Nat × (Nat → Int32)} {I : zPI} {L : zPL} {F : zPF} {a b : Nat} {c : Option Nat} (hR : zRin F a b c) (p1 : Int32) (p2 : Int32) (p3 : Int32) (r : Int32) (h : fX9_isMeant I p1 p2 p3 = some r) : zAM X mX9_isMeant 0 [zr 48, zi p1, zi p2, zi p3] (zS0, I, L, F) (some (zi r)) (zS0, I, L, F) := by
  refine zAM_of (by decide) (Nat.le_of_ble_eq_true rfl) ⟨fun h => (by cases h), fun h => (by cases h)⟩ (Nat.le_refl _) (Nat.le_refl _) ?_
  unfold fX9_isMeant at h
  show zAW zE0 X mX9_isMeant 0 0 [(0, zr 48), (1, zi p1), (2, zi p2), (3, zi p3)] [] (zS0, I, L, F) (some (zi r)) (zS0, I, L, F)
  refine a_iload_n dX9_isMeant_0 rfl 1 rfl ?_
  refine a_if_ne (tgt := 45) dX9_isMeant_1 rfl (fun hc15 => ?_) (fun hc15 => ?_)
  · rw [if_neg hc15] at h
    refine a_iload_n dX9_isMeant_45 rfl 1 rfl ?_
    refine a_iconst (v := 1) dX9_isMeant_46 (by decide) ?_
    refine a_icmp_ne (tgt := 68) dX9_isMeant_47 rfl (fun hc8 => ?_) (fun hc8 => ?_)
    · rw [if_neg hc8] at h
      refine a_iload_n dX9_isMeant_68 rfl 1 rfl ?_
      refine a_iconst (v := 2) dX9_isMeant_69 (by decide) ?_
      refine a_icmp_ne (tgt := 91) dX9_isMeant_70 rfl (fun hc5 => ?_) (fun hc5 => ?_)
      · rw [if_neg hc5] at h
        refine a_aload_n dX9_isMeant_91 rfl 0 rfl ?_
        refine a_getq dX9_isMeant_92 G_X9_86 zs_48 rfl (rf_48_20 hR) ?_
        refine a_iload_n dX9_isMeant_95 rfl 2 rfl ?_
        obtain ⟨hz1, h⟩ := zif h
        refine a_iald dX9_isMeant_96 zs_59 (zin_vp hz1) ?_
        refine a_iconst (v := 1) dX9_isMeant_97 (by decide) ?_
        refine a_icmp_eq (tgt := 105) dX9_isMeant_98 rfl (fun hc2 => ?_) (fun hc2 => ?_)
        · rw [if_pos hc2] at h
          refine a_iconst (v := 0) dX9_isMeant_105 (by decide) ?_
          cases h
          exact a_iret dX9_isMeant_106 (by intro h; cases h) (znar_b0 rfl)
        · rw [if_neg hc2] at h
          refine a_iconst (v := 1) dX9_isMeant_101 (by decide) ?_
          refine a_goto (tgt := 106) dX9_isMeant_102 rfl ?_
          cases h
          exact a_iret dX9_isMeant_106 (by intro h; cases h) (znar_b1 rfl)
      · rw [if_pos hc5] at h
        refine a_aload_n dX9_isMeant_73 rfl 0 rfl ?_
        refine a_getq dX9_isMeant_74 G_X9_92 zs_48 rfl (rf_48_22 hR) ?_
        refine a_iload_n dX9_isMeant_77 rfl 2 rfl ?_
        obtain ⟨hz3, h⟩ := zif h
        refine a_iald dX9_isMeant_78 zs_61 (zin_vp hz3) ?_
        refine a_iload_n dX9_isMeant_79 rfl 3 rfl ?_
        refine a_icmp_eq (tgt := 87) dX9_isMeant_80 rfl (fun hc4 => ?_) (fun hc4 => ?_)
        · rw [if_pos hc4] at h
          refine a_iconst (v := 0) dX9_isMeant_87 (by decide) ?_
          refine a_goto (tgt := 106) dX9_isMeant_88 rfl ?_
          cases h
          exact a_iret dX9_isMeant_106 (by intro h; cases h) (znar_b0 rfl)
        · rw [if_neg hc4] at h
          refine a_iconst (v := 1) dX9_isMeant_83 (by decide) ?_
          refine a_goto (tgt := 106) dX9_isMeant_84 rfl ?_
          cases h
          exact a_iret dX9_isMeant_106 (by intro h; cases h) (znar_b1 rfl)
    · rw [if_pos hc8] at h
      refine a_aload_n dX9_isMeant_50 rfl 0 rfl ?_
      refine a_getq dX9_isMeant_51 G_X9_83 zs_48 rfl (rf_48_19 hR) ?_
      refine a_iload_n dX9_isMeant_54 rfl 2 rfl ?_
      obtain ⟨hz6, h⟩ := zif h
      refine a_iald dX9_isMeant_55 zs_58 (zin_vp hz6) ?_
      refine a_iconst (v := 1) dX9_isMeant_56 (by decide) ?_
      refine a_icmp_ne (tgt := 64) dX9_isMeant_57 rfl (fun hc7 => ?_) (fun hc7 => ?_)
      · rw [if_neg hc7] at h
        refine a_iconst (v := 0) dX9_isMeant_64 (by decide) ?_
        refine a_goto (tgt := 106) dX9_isMeant_65 rfl ?_
        cases h
        exact a_iret dX9_isMeant_106 (by intro h; cases h) (znar_b0 rfl)
      · rw [if_pos hc7] at h
        refine a_iconst (v := 1) dX9_isMeant_60 (by decide) ?_
        refine a_goto (tgt := 106) dX9_isMeant_61 rfl ?_
        cases h
        exact a_iret dX9_isMeant_106 (by intro h; cases h) (znar_b1 rfl)
  · rw [if_pos hc15] at h
    refine a_aload_n dX9_isMeant_4 rfl 0 rfl ?_
    refine a_getq dX9_isMeant_5 G_X9_83 zs_48 rfl (rf_48_19 hR) ?_
    refine a_iload_n dX9_isMeant_8 rfl 2 rfl ?_
    obtain ⟨hz9, h⟩ := zif h
    refine a_iald dX9_isMeant_9 zs_58 (zin_vp hz9) ?_
    refine a_if_ne (tgt := 43) dX9_isMeant_10 rfl (fun hc14 => ?_) (fun hc14 => ?_)
    · rw [if_neg hc14] at h
      refine a_iconst (v := 0) dX9_isMeant_43 (by decide) ?_
      cases h
      exact a_iret dX9_isMeant_44 (by intro h; cases h) (znar_b0 rfl)
    · rw [if_pos hc14] at h
      refine a_aload_n dX9_isMeant_13 rfl 0 rfl ?_
      refine a_getq dX9_isMeant_14 G_X9_86 zs_48 rfl (rf_48_20 hR) ?_
      refine a_iconst (v := 2) dX9_isMeant_17 (by decide) ?_
      refine a_iload_n dX9_isMeant_18 rfl 2 rfl ?_
      refine a_imul dX9_isMeant_19 ?_
      obtain ⟨hz10, h⟩ := zif h
      refine a_iald dX9_isMeant_20 zs_59 (zin_vp hz10) ?_
      refine a_iconst (v := 2) dX9_isMeant_21 (by decide) ?_
      refine a_icmp_eq (tgt := 43) dX9_isMeant_22 rfl (fun hc13 => ?_) (fun hc13 => ?_)
      · rw [if_pos hc13] at h
        refine a_iconst (v := 0) dX9_isMeant_43 (by decide) ?_
        cases h
        exact a_iret dX9_isMeant_44 (by intro h; cases h) (znar_b0 rfl)
      · rw [if_neg hc13] at h
        refine a_aload_n dX9_isMeant_25 rfl 0 rfl ?_
        refine a_getq dX9_isMeant_26 G_X9_86 zs_48 rfl (rf_48_20 hR) ?_
        refine a_iconst (v := 2) dX9_isMeant_29 (by decide) ?_
        refine a_iload_n dX9_isMeant_30 rfl 2 rfl ?_
        refine a_imul dX9_isMeant_31 ?_
        refine a_iconst (v := 1) dX9_isMeant_32 (by decide) ?_
        refine a_iadd dX9_isMeant_33 ?_
        obtain ⟨hz11, h⟩ := zif h
        refine a_iald dX9_isMeant_34 zs_59 (zin_vp hz11) ?_
        refine a_iconst (v := 2) dX9_isMeant_35 (by decide) ?_
        refine a_icmp_eq (tgt := 43) dX9_isMeant_36 rfl (fun hc12 => ?_) (fun hc12 => ?_)
        · rw [if_pos hc12] at h
          refine a_iconst (v := 0) dX9_isMeant_43 (by decide) ?_
          cases h
          exact a_iret dX9_isMeant_44 (by intro h; cases h) (znar_b0 rfl)
        · rw [if_neg hc12] at h
          refine a_iconst (v := 1) dX9_isMeant_39 (by decide) ?_
          refine a_goto (tgt := 44) dX9_isMeant_40 rfl ?_
          cases h
          exact a_iret dX9_isMeant_44 (by intro h; cases h) (znar_b1 rfl)
def fX9_isOnDeck (I : zPI) (p1 : Int32) : Int32 := (if (I 48 28) = 2 then 1 else (if (I 48 28) = (zrm p1 2) then 1 else 0))
set_option maxRecDepth 100000 in
theorem tX9_isOnDeck {X : Nat × (Nat → Int32)} {I : zPI} {L : zPL} {F : zPF} {a b : Nat} {c : Option Nat} (hR : zRin F a b c) (p1 : Int32) (r : Int32) (h : fX9_isOnDeck I p1 = r) : zAM X mX9_isOnDeck 0 [zr 48, zi p1] (zS0, I, L, F) (some (zi r)) (zS0, I, L, F) := by
  refine zAM_of (by decide) (Nat.le_of_ble_eq_true rfl) ⟨fun h => (by cases h), fun h => (by cases h)⟩ (Nat.le_refl _) (Nat.le_refl _) ?_
  unfold fX9_isOnDeck at h
  show zAW zE0 X mX9_isOnDeck 0 0 [(0, zr 48), (1, zi p1)] [] (zS0, I, L, F) (some (zi r)) (zS0, I, L, F)
  refine a_aload_n dX9_isOnDeck_0 rfl 0 rfl ?_
  refine a_geti dX9_isOnDeck_1 G_X9_252 zs_48 rfl ?_
  refine a_iconst (v := 2) dX9_isOnDeck_4 (by decide) ?_
  refine a_icmp_eq (tgt := 18) dX9_isOnDeck_5 rfl (fun hc2 => ?_) (fun hc2 => ?_)
  · rw [if_pos hc2] at h
    refine a_iconst (v := 1) dX9_isOnDeck_18 (by decide) ?_
    refine a_goto (tgt := 23) dX9_isOnDeck_19 rfl ?_
    subst h
    exact a_iret dX9_isOnDeck_23 (by intro h; cases h) (znar_b1 rfl)
  · rw [if_neg hc2] at h
    refine a_aload_n dX9_isOnDeck_8 rfl 0 rfl ?_
    refine a_geti dX9_isOnDeck_9 G_X9_252 zs_48 rfl ?_
    refine a_iload_n dX9_isOnDeck_12 rfl 1 rfl ?_
    refine a_iconst (v := 2) dX9_isOnDeck_13 (by decide) ?_
    refine a_irem dX9_isOnDeck_14 (by decide) ?_
    refine a_icmp_ne (tgt := 22) dX9_isOnDeck_15 rfl (fun hc1 => ?_) (fun hc1 => ?_)
    · rw [if_neg hc1] at h
      refine a_iconst (v := 0) dX9_isOnDeck_22 (by decide) ?_
      subst h
      exact a_iret dX9_isOnDeck_23 (by intro h; cases h) (znar_b0 rfl)
    · rw [if_pos hc1] at h
      refine a_iconst (v := 1) dX9_isOnDeck_18 (by decide) ?_
      refine a_goto (tgt := 23) dX9_isOnDeck_19 rfl ?_
      subst h
      exact a_iret dX9_isOnDeck_23 (by intro h; cases h) (znar_b1 rfl)
def fX9_handsOf (p0 : Int32) : Int32 := (if p0 = 0 then 3 else (if p0 = 1 then 4 else (if p0 = 2 then 5 else 2)))
set_option maxRecDepth 100000 in
theorem tX9_handsOf {X : Nat × (Nat → Int32)} {I : zPI} {L : zPL} {F : zPF} {a b : Nat} {c : Option Nat} (hR : zRin F a b c) (p0 : Int32) (r : Int32) (h : fX9_handsOf p0 = r) : zAM X mX9_handsOf 0 [zi p0] (zS0, I, L, F) (some (zi r)) (zS0, I, L, F) := by
  refine zAM_of (by decide) (Nat.le_of_ble_eq_true rfl) ⟨fun h => (by cases h), fun h => (by cases h)⟩ (Nat.le_refl _) (Nat.le_refl _) ?_
  unfold fX9_handsOf at h
  show zAW zE0 X mX9_handsOf 0 0 [(0, zi p0)] [] (zS0, I, L, F) (some (zi r)) (zS0, I, L, F)
  refine a_iload_n dX9_handsOf_0 rfl 0 rfl ?_
  refine a_if_ne (tgt := 8) dX9_handsOf_1 rfl (fun hc3 => ?_) (fun hc3 => ?_)
  · rw [if_neg hc3] at h
    refine a_iload_n dX9_handsOf_8 rfl 0 rfl ?_
    refine a_iconst (v := 1) dX9_handsOf_9 (by decide) ?_
    refine a_icmp_ne (tgt := 17) dX9_handsOf_10 rfl (fun hc2 => ?_) (fun hc2 => ?_)
    · rw [if_neg hc2] at h
      refine a_iload_n dX9_handsOf_17 rfl 0 rfl ?_
      refine a_iconst (v := 2) dX9_handsOf_18 (by decide) ?_
      refine a_icmp_ne (tgt := 26) dX9_handsOf_19 rfl (fun hc1 => ?_) (fun hc1 => ?_)
      · rw [if_neg hc1] at h
        refine a_iconst (v := 2) dX9_handsOf_26 (by decide) ?_
        subst h
        exact a_iret dX9_handsOf_27 (by intro h; cases h) (znar_i rfl)
      · rw [if_pos hc1] at h
        refine a_iconst (v := 5) dX9_handsOf_22 (by decide) ?_
        refine a_goto (tgt := 27) dX9_handsOf_23 rfl ?_
        subst h
        exact a_iret dX9_handsOf_27 (by intro h; cases h) (znar_i rfl)
    · rw [if_pos hc2] at h
      refine a_iconst (v := 4) dX9_handsOf_13 (by decide) ?_
      refine a_goto (tgt := 27) dX9_handsOf_14 rfl ?_
      subst h
      exact a_iret dX9_handsOf_27 (by intro h; cases h) (znar_i rfl)
  · rw [if_pos hc3] at h
    refine a_iconst (v := 3) dX9_handsOf_4 (by decide) ?_
    refine a_goto (tgt := 27) dX9_handsOf_5 rfl ?_
    subst h
    exact a_iret dX9_handsOf_27 (by intro h; cases h) (znar_i rfl)
def fX9_minutesOf (p0 : Int32) (p1 : Int32) (p2 : Int32) : Int32 := (if p0 = 0 then (4 + (2 * (zrm p1 3))) else (if p0 = 1 then (6 + (2 * (zrm p1 3))) else (if p0 = 2 then (2 * p2) else 10)))
set_option maxRecDepth 100000 in
theorem tX9_minutesOf {X : Nat × (Nat → Int32)} {I : zPI} {L : zPL} {F : zPF} {a b : Nat} {c : Option Nat} (hR : zRin F a b c) (p0 : Int32) (p1 : Int32) (p2 : Int32) (r : Int32) (h : fX9_minutesOf p0 p1 p2 = r) : zAM X mX9_minutesOf 0 [zi p0, zi p1, zi p2] (zS0, I, L, F) (some (zi r)) (zS0, I, L, F) := by
  refine zAM_of (by decide) (Nat.le_of_ble_eq_true rfl) ⟨fun h => (by cases h), fun h => (by cases h)⟩ (Nat.le_refl _) (Nat.le_refl _) ?_
  unfold fX9_minutesOf at h
  show zAW zE0 X mX9_minutesOf 0 0 [(0, zi p0), (1, zi p1), (2, zi p2)] [] (zS0, I, L, F) (some (zi r)) (zS0, I, L, F)
  refine a_iload_n dX9_minutesOf_0 rfl 0 rfl ?_
  refine a_if_ne (tgt := 14) dX9_minutesOf_1 rfl (fun hc3 => ?_) (fun hc3 => ?_)
  · rw [if_neg hc3] at h
    refine a_iload_n dX9_minutesOf_14 rfl 0 rfl ?_
    refine a_iconst (v := 1) dX9_minutesOf_15 (by decide) ?_
    refine a_icmp_ne (tgt := 30) dX9_minutesOf_16 rfl (fun hc2 => ?_) (fun hc2 => ?_)
    · rw [if_neg hc2] at h
      refine a_iload_n dX9_minutesOf_30 rfl 0 rfl ?_
      refine a_iconst (v := 2) dX9_minutesOf_31 (by decide) ?_
      refine a_icmp_ne (tgt := 41) dX9_minutesOf_32 rfl (fun hc1 => ?_) (fun hc1 => ?_)
      · rw [if_neg hc1] at h
        refine a_bipush (v := 10) dX9_minutesOf_41 (by decide) ?_
        subst h
        exact a_iret dX9_minutesOf_43 (by intro h; cases h) (znar_i rfl)
      · rw [if_pos hc1] at h
        refine a_iconst (v := 2) dX9_minutesOf_35 (by decide) ?_
        refine a_iload_n dX9_minutesOf_36 rfl 2 rfl ?_
        refine a_imul dX9_minutesOf_37 ?_
        refine a_goto (tgt := 43) dX9_minutesOf_38 rfl ?_
        subst h
        exact a_iret dX9_minutesOf_43 (by intro h; cases h) (znar_i rfl)
    · rw [if_pos hc2] at h
      refine a_bipush (v := 6) dX9_minutesOf_19 (by decide) ?_
      refine a_iconst (v := 2) dX9_minutesOf_21 (by decide) ?_
      refine a_iload_n dX9_minutesOf_22 rfl 1 rfl ?_
      refine a_iconst (v := 3) dX9_minutesOf_23 (by decide) ?_
      refine a_irem dX9_minutesOf_24 (by decide) ?_
      refine a_imul dX9_minutesOf_25 ?_
      refine a_iadd dX9_minutesOf_26 ?_
      refine a_goto (tgt := 43) dX9_minutesOf_27 rfl ?_
      subst h
      exact a_iret dX9_minutesOf_43 (by intro h; cases h) (znar_i rfl)
  · rw [if_pos hc3] at h
    refine a_iconst (v := 4) dX9_minutesOf_4 (by decide) ?_
    refine a_iconst (v := 2) dX9_minutesOf_5 (by decide) ?_
    refine a_iload_n dX9_minutesOf_6 rfl 1 rfl ?_
    refine a_iconst (v := 3) dX9_minutesOf_7 (by decide) ?_
    refine a_irem dX9_minutesOf_8 (by decide) ?_
    refine a_imul dX9_minutesOf_9 ?_
    refine a_iadd dX9_minutesOf_10 ?_
    refine a_goto (tgt := 43) dX9_minutesOf_11 rfl ?_
    subst h
    exact a_iret dX9_minutesOf_43 (by intro h; cases h) (znar_i rfl)
def fX9_begins_29 (K : Int32 → Int32 → Int32 → Int32 → zPI → Option (Int32 × zPI)) : Nat → Int32 → Int32 → Int32 → Int32 → Int32 → zPI → Option (Int32 × zPI)
  | 0, _, _, _, _, _, _ => none
  | n + 1, v1, v2, v3, v4, v5, I => (if (I 48 18) ≤ v5 then K v1 v2 v3 v4 I else (if zin v5 24 then (if 0 ≤ (I 62 v5.toNatClampNeg) then fX9_begins_29 K n v1 v2 v3 (v4 + 0) (v5 + 1) I else (if (fX9_isOnDeck I v5) = 0 then fX9_begins_29 K n v1 v2 v3 (v4 + 0) (v5 + 1) I else fX9_begins_29 K n v1 v2 v3 (v4 + 1) (v5 + 1) I)) else none))
def fX9_begins_91 (K : Int32 → Int32 → Int32 → Int32 → Int32 → zPI → Option (Int32 × zPI)) : Nat → Int32 → Int32 → Int32 → Int32 → Int32 → zPI → Option (Int32 × zPI)
  | 0, _, _, _, _, _, _ => none
  | n + 1, v1, v2, v3, v5, v6, I => (if zin v6 24 then (if (I 63 v6.toNatClampNeg) ≤ 0 then K v1 v2 v3 v5 v6 I else fX9_begins_91 K n v1 v2 v3 v5 (v6 + 1) I) else none)
def fX9_begins_195 (K : zPI → Option (Int32 × zPI)) : Nat → Int32 → Int32 → Int32 → zPI → Option (Int32 × zPI)
  | 0, _, _, _, _ => none
  | n + 1, v5, v6, v8, I => (if (I 48 18) ≤ v8 then K I else (if v5 ≤ 0 then K I else (if zin v8 24 then (if 0 ≤ (I 62 v8.toNatClampNeg) then fX9_begins_195 K n v5 v6 (v8 + 1) I else (if (fX9_isOnDeck I v8) = 0 then fX9_begins_195 K n v5 v6 (v8 + 1) I else (if zin v8 24 then fX9_begins_195 K n (v5 + (-1)) v6 (v8 + 1) (zu I 62 v8.toNatClampNeg v6) else none))) else none)))
def fX9_begins_145 (v1 : Int32) (v2 : Int32) (v3 : Int32) (v5 : Int32) (v6 : Int32) (s0 : Int32) (I : zPI) : Option (Int32 × zPI) := (if zin v6 24 then (if zin v6 24 then (if zin v6 24 then (if zin v6 24 then fX9_begins_195 (fun I => some (1, I)) zF v5 v6 0 (zu (zu (zu (zu I 63 v6.toNatClampNeg (1 + v1)) 64 v6.toNatClampNeg v2) 65 v6.toNatClampNeg v3) 66 v6.toNatClampNeg (((zu (zu (zu I 63 v6.toNatClampNeg (1 + v1)) 64 v6.toNatClampNeg v2) 65 v6.toNatClampNeg v3) 48 29) + (fX9_minutesOf v1 v2 s0))) else none) else none) else none) else none)
def fX9_begins (I : zPI) (p1 : Int32) (p2 : Int32) (p3 : Int32) : Option (Int32 × zPI) := (fX9_isBarred I p1 p2).bind (fun q1 => (if q1 = 0 then (fX9_isMeant I p1 p2 p3).bind (fun q3 => (if q3 = 0 then some (1, I) else fX9_begins_29 (fun v1 v2 v3 v4 I => (if (fX9_handsOf v1) ≤ v4 then fX9_begins_91 (fun v1 v2 v3 v5 v6 I => (if v1 = 2 then (if zin v2 3 then (if (I 61 v2.toNatClampNeg) ≤ v3 then (if zin v2 3 then fX9_begins_145 v1 v2 v3 v5 v6 (v3 - (I 61 v2.toNatClampNeg)) I else none) else (if zin v2 3 then fX9_begins_145 v1 v2 v3 v5 v6 ((I 61 v2.toNatClampNeg) - v3) I else none)) else none) else fX9_begins_145 v1 v2 v3 v5 v6 0 I)) zF v1 v2 v3 (fX9_handsOf v1) 0 I else some (0, I))) zF p1 p2 p3 0 0 I)) else some (0, I)))
set_option maxRecDepth 100000 in
theorem tX9_begins_29 {X : Nat × (Nat → Int32)} {L : zPL} {F : zPF} {a b : Nat} {c : Option Nat} (hR : zRin F a b c) {r : Int32 × zPI} {K : Int32 → Int32 → Int32 → Int32 → zPI → Option (Int32 × zPI)} (hK : ∀ (v1 : Int32) (v2 : Int32) (v3 : Int32) (v4 : Int32) (I : zPI), K v1 v2 v3 v4 I = some r → zAW zE0 X mX9_begins 2 73 [(0, zr 48), (1, zi v1), (2, zi v2), (3, zi v3), (4, zi v4)] [] (zS0, I, L, F) (some (zi r.1)) (zS0, r.2, L, F)) : ∀ (n : Nat) (v1 : Int32) (v2 : Int32) (v3 : Int32) (v4 : Int32) (v5 : Int32) (I : zPI), fX9_begins_29 K n v1 v2 v3 v4 v5 I = some r → zAW zE0 X mX9_begins 2 29 [(0, zr 48), (1, zi v1), (2, zi v2), (3, zi v3), (4, zi v4), (5, zi v5)] [] (zS0, I, L, F) (some (zi r.1)) (zS0, r.2, L, F) := by
  intro n
  induction n with
  | zero =>
    intro v1 v2 v3 v4 v5 I h
    rw [fX9_begins_29.eq_1] at h
    cases h
  | succ n ih =>
    intro v1 v2 v3 v4 v5 I h
    rw [fX9_begins_29.eq_2] at h
    refine a_iload dX9_begins_29 5 rfl ?_
    refine a_aload_n dX9_begins_31 rfl 0 rfl ?_
    refine a_geti dX9_begins_32 G_X9_138 zs_48 rfl ?_
    refine a_icmp_ge (tgt := 73) dX9_begins_35 rfl (fun hc9 => ?_) (fun hc9 => ?_)
    · rw [if_pos hc9] at h
      refine a_sub [0, 1, 2, 3, 4] rfl ?_
      exact hK _ _ _ _ _ h
    · rw [if_neg hc9] at h
      refine a_iload dX9_begins_38 4 rfl ?_
      refine a_aload_n dX9_begins_40 rfl 0 rfl ?_
      refine a_getq dX9_begins_41 G_X9_95 zs_48 rfl (rf_48_23 hR) ?_
      refine a_iload dX9_begins_44 5 rfl ?_
      obtain ⟨hz5, h⟩ := zif h
      refine a_iald dX9_begins_46 zs_62 (zin_vp hz5) ?_
      refine a_if_ge (tgt := 63) dX9_begins_47 rfl (fun hc8 => ?_) (fun hc8 => ?_)
      · rw [if_pos hc8] at h
        refine a_iconst (v := 0) dX9_begins_63 (by decide) ?_
        refine a_iadd dX9_begins_64 ?_
        refine a_istore dX9_begins_65 (by decide) rfl ?_
        refine a_iincK (k0 := 1) dX9_begins_67 (by decide) 5 rfl (by decide) rfl ?_
        refine a_goto (tgt := 29) dX9_begins_70 rfl ?_
        refine a_sub [2, 3, 4, 5, 1, 0] rfl ?_
        exact ih _ _ _ _ _ _ h
      · rw [if_neg hc8] at h
        refine a_aload_n dX9_begins_50 rfl 0 rfl ?_
        refine a_iload dX9_begins_51 5 rfl ?_
        refine a_callV dX9_begins_53 (tX9_isOnDeck hR _ _ rfl) csX9_isOnDeck zw1262 (Nat.le_of_ble_eq_true rfl) zs_48 rfl rfl (Nat.le_of_ble_eq_true rfl) ⟨Nat.le_refl _, Nat.le_refl _⟩ (fun hb6 => ?_)
        refine a_if_eq (tgt := 63) dX9_begins_56 rfl (fun hc7 => ?_) (fun hc7 => ?_)
        · rw [if_pos hc7] at h
          refine a_iconst (v := 0) dX9_begins_63 (by decide) ?_
          refine a_iadd dX9_begins_64 ?_
          refine a_istore dX9_begins_65 (by decide) rfl ?_
          refine a_iincK (k0 := 1) dX9_begins_67 (by decide) 5 rfl (by decide) rfl ?_
          refine a_goto (tgt := 29) dX9_begins_70 rfl ?_
          refine a_sub [2, 3, 4, 5, 1, 0] rfl ?_
          exact ih _ _ _ _ _ _ h
        · rw [if_neg hc7] at h
          refine a_iconst (v := 1) dX9_begins_59 (by decide) ?_
          refine a_goto (tgt := 64) dX9_begins_60 rfl ?_
          refine a_iadd dX9_begins_64 ?_
          refine a_istore dX9_begins_65 (by decide) rfl ?_
          refine a_iincK (k0 := 1) dX9_begins_67 (by decide) 5 rfl (by decide) rfl ?_
          refine a_goto (tgt := 29) dX9_begins_70 rfl ?_
          refine a_sub [2, 3, 4, 5, 1, 0] rfl ?_
          exact ih _ _ _ _ _ _ h
set_option maxRecDepth 100000 in
theorem tX9_begins_91 {X : Nat × (Nat → Int32)} {L : zPL} {F : zPF} {a b : Nat} {c : Option Nat} (hR : zRin F a b c) {r : Int32 × zPI} {K : Int32 → Int32 → Int32 → Int32 → Int32 → zPI → Option (Int32 × zPI)} (hK : ∀ (v1 : Int32) (v2 : Int32) (v3 : Int32) (v5 : Int32) (v6 : Int32) (I : zPI), K v1 v2 v3 v5 v6 I = some r → zAW zE0 X mX9_begins 2 107 [(0, zr 48), (1, zi v1), (2, zi v2), (3, zi v3), (5, zi v5), (6, zi v6)] [] (zS0, I, L, F) (some (zi r.1)) (zS0, r.2, L, F)) : ∀ (n : Nat) (v1 : Int32) (v2 : Int32) (v3 : Int32) (v5 : Int32) (v6 : Int32) (I : zPI), fX9_begins_91 K n v1 v2 v3 v5 v6 I = some r → zAW zE0 X mX9_begins 2 91 [(0, zr 48), (1, zi v1), (2, zi v2), (3, zi v3), (5, zi v5), (6, zi v6)] [] (zS0, I, L, F) (some (zi r.1)) (zS0, r.2, L, F) := by
  intro n
  induction n with
  | zero =>
    intro v1 v2 v3 v5 v6 I h
    rw [fX9_begins_91.eq_1] at h
    cases h
  | succ n ih =>
    intro v1 v2 v3 v5 v6 I h
    rw [fX9_begins_91.eq_2] at h
    refine a_aload_n dX9_begins_91 rfl 0 rfl ?_
    refine a_getq dX9_begins_92 G_X9_98 zs_48 rfl (rf_48_24 hR) ?_
    refine a_iload dX9_begins_95 5 rfl ?_
    obtain ⟨hz11, h⟩ := zif h
    refine a_iald dX9_begins_97 zs_63 (zin_vp hz11) ?_
    refine a_if_le (tgt := 107) dX9_begins_98 rfl (fun hc12 => ?_) (fun hc12 => ?_)
    · rw [if_pos hc12] at h
      exact hK _ _ _ _ _ _ h
    · rw [if_neg hc12] at h
      refine a_iincK (k0 := 1) dX9_begins_101 (by decide) 5 rfl (by decide) rfl ?_
      refine a_goto (tgt := 91) dX9_begins_104 rfl ?_
      refine a_sub [1, 2, 3, 4, 5, 0] rfl ?_
      exact ih _ _ _ _ _ _ h
set_option maxRecDepth 100000 in
theorem tX9_begins_195 {X : Nat × (Nat → Int32)} {L : zPL} {F : zPF} {a b : Nat} {c : Option Nat} (hR : zRin F a b c) {r : Int32 × zPI} {K : zPI → Option (Int32 × zPI)} (hK : ∀ (I : zPI), K I = some r → zAW zE0 X mX9_begins 2 246 [] [] (zS0, I, L, F) (some (zi r.1)) (zS0, r.2, L, F)) : ∀ (n : Nat) (v5 : Int32) (v6 : Int32) (v8 : Int32) (I : zPI), fX9_begins_195 K n v5 v6 v8 I = some r → zAW zE0 X mX9_begins 2 195 [(0, zr 48), (5, zi v5), (6, zi v6), (8, zi v8)] [] (zS0, I, L, F) (some (zi r.1)) (zS0, r.2, L, F) := by
  intro n
  induction n with
  | zero =>
    intro v5 v6 v8 I h
    rw [fX9_begins_195.eq_1] at h
    cases h
  | succ n ih =>
    intro v5 v6 v8 I h
    rw [fX9_begins_195.eq_2] at h
    refine a_iload dX9_begins_195 3 rfl ?_
    refine a_aload_n dX9_begins_197 rfl 0 rfl ?_
    refine a_geti dX9_begins_198 G_X9_138 zs_48 rfl ?_
    refine a_icmp_ge (tgt := 246) dX9_begins_201 rfl (fun hc24 => ?_) (fun hc24 => ?_)
    · rw [if_pos hc24] at h
      refine a_sub [] rfl ?_
      exact hK _ h
    · rw [if_neg hc24] at h
      refine a_iload dX9_begins_204 1 rfl ?_
      refine a_if_le (tgt := 246) dX9_begins_206 rfl (fun hc23 => ?_) (fun hc23 => ?_)
      · rw [if_pos hc23] at h
        refine a_sub [] rfl ?_
        exact hK _ h
      · rw [if_neg hc23] at h
        refine a_aload_n dX9_begins_209 rfl 0 rfl ?_
        refine a_getq dX9_begins_210 G_X9_95 zs_48 rfl (rf_48_23 hR) ?_
        refine a_iload dX9_begins_213 3 rfl ?_
        obtain ⟨hz18, h⟩ := zif h
        refine a_iald dX9_begins_215 zs_62 (zin_vp hz18) ?_
        refine a_if_ge (tgt := 240) dX9_begins_216 rfl (fun hc22 => ?_) (fun hc22 => ?_)
        · rw [if_pos hc22] at h
          refine a_iincK (k0 := 1) dX9_begins_240 (by decide) 3 rfl (by decide) rfl ?_
          refine a_goto (tgt := 195) dX9_begins_243 rfl ?_
          refine a_sub [1, 2, 3, 0] rfl ?_
          exact ih _ _ _ _ h
        · rw [if_neg hc22] at h
          refine a_aload_n dX9_begins_219 rfl 0 rfl ?_
          refine a_iload dX9_begins_220 3 rfl ?_
          refine a_callV dX9_begins_222 (tX9_isOnDeck hR _ _ rfl) csX9_isOnDeck zw1262 (Nat.le_of_ble_eq_true rfl) zs_48 rfl rfl (Nat.le_of_ble_eq_true rfl) ⟨Nat.le_refl _, Nat.le_refl _⟩ (fun hb19 => ?_)
          refine a_if_eq (tgt := 240) dX9_begins_225 rfl (fun hc21 => ?_) (fun hc21 => ?_)
          · rw [if_pos hc21] at h
            refine a_iincK (k0 := 1) dX9_begins_240 (by decide) 3 rfl (by decide) rfl ?_
            refine a_goto (tgt := 195) dX9_begins_243 rfl ?_
            refine a_sub [1, 2, 3, 0] rfl ?_
            exact ih _ _ _ _ h
          · rw [if_neg hc21] at h
            refine a_aload_n dX9_begins_228 rfl 0 rfl ?_
            refine a_getq dX9_begins_229 G_X9_95 zs_48 rfl (rf_48_23 hR) ?_
            refine a_iload dX9_begins_232 3 rfl ?_
            refine a_iload dX9_begins_234 2 rfl ?_
            obtain ⟨hz20, h⟩ := zif h
            refine a_iast dX9_begins_236 zs_62 (zin_vp hz20) ?_
            refine a_iincK (k0 := (-1)) dX9_begins_237 (by decide) 1 rfl (by decide) rfl ?_
            refine a_iincK (k0 := 1) dX9_begins_240 (by decide) 3 rfl (by decide) rfl ?_
            refine a_goto (tgt := 195) dX9_begins_243 rfl ?_
            refine a_sub [2, 1, 3, 0] rfl ?_
            exact ih _ _ _ _ h
set_option maxRecDepth 100000 in
theorem tX9_begins_145 {X : Nat × (Nat → Int32)} {I : zPI} {L : zPL} {F : zPF} {a b : Nat} {c : Option Nat} (hR : zRin F a b c) {r : Int32 × zPI} {v1 : Int32} {v2 : Int32} {v3 : Int32} {v5 : Int32} {v6 : Int32} {s0 : Int32} (h : fX9_begins_145 v1 v2 v3 v5 v6 s0 I = some r) : zAW zE0 X mX9_begins 2 145 [(0, zr 48), (1, zi v1), (2, zi v2), (3, zi v3), (5, zi v5), (6, zi v6)] [zi s0] (zS0, I, L, F) (some (zi r.1)) (zS0, r.2, L, F) := by
  unfold fX9_begins_145 at h
  refine a_istore dX9_begins_145 (by decide) rfl ?_
  refine a_aload_n dX9_begins_147 rfl 1 rfl ?_
  refine a_getq dX9_begins_148 G_X9_98 zs_48 rfl (rf_48_24 hR) ?_
  refine a_iload dX9_begins_151 6 rfl ?_
  refine a_iconst (v := 1) dX9_begins_153 (by decide) ?_
  refine a_iload_n dX9_begins_154 rfl 2 rfl ?_
  refine a_iadd dX9_begins_155 ?_
  obtain ⟨hz13, h⟩ := zif h
  refine a_iast dX9_begins_156 zs_63 (zin_vp hz13) ?_
  refine a_aload_n dX9_begins_157 rfl 1 rfl ?_
  refine a_getq dX9_begins_158 G_X9_101 zs_48 rfl (rf_48_25 hR) ?_
  refine a_iload dX9_begins_161 6 rfl ?_
  refine a_iload_n dX9_begins_163 rfl 3 rfl ?_
  obtain ⟨hz14, h⟩ := zif h
  refine a_iast dX9_begins_164 zs_64 (zin_vp hz14) ?_
  refine a_aload_n dX9_begins_165 rfl 1 rfl ?_
  refine a_getq dX9_begins_166 G_X9_104 zs_48 rfl (rf_48_26 hR) ?_
  refine a_iload dX9_begins_169 6 rfl ?_
  refine a_iload_n dX9_begins_171 rfl 4 rfl ?_
  obtain ⟨hz15, h⟩ := zif h
  refine a_iast dX9_begins_172 zs_65 (zin_vp hz15) ?_
  refine a_aload_n dX9_begins_173 rfl 1 rfl ?_
  refine a_getq dX9_begins_174 G_X9_107 zs_48 rfl (rf_48_27 hR) ?_
  refine a_iload dX9_begins_177 6 rfl ?_
  refine a_aload_n dX9_begins_179 rfl 1 rfl ?_
  refine a_geti dX9_begins_180 G_X9_242 zs_48 rfl ?_
  refine a_iload_n dX9_begins_183 rfl 2 rfl ?_
  refine a_iload_n dX9_begins_184 rfl 3 rfl ?_
  refine a_iload dX9_begins_185 0 rfl ?_
  refine a_callS dX9_begins_187 (tX9_minutesOf hR _ _ _ _ rfl) csX9_minutesOf zw1269 (Nat.le_of_ble_eq_true rfl) rfl (Nat.le_of_ble_eq_true rfl) ⟨Nat.le_refl _, Nat.le_refl _⟩ (fun hb16 => ?_)
  refine a_iadd dX9_begins_190 ?_
  obtain ⟨hz17, h⟩ := zif h
  refine a_iast dX9_begins_191 zs_66 (zin_vp hz17) ?_
  refine a_iconst (v := 0) dX9_begins_192 (by decide) ?_
  refine a_istore dX9_begins_193 (by decide) rfl ?_
  refine a_sub [2, 6, 7, 0] rfl ?_
  refine tX9_begins_195 hR (fun I h => ?_) zF _ _ _ _ h
  (try dsimp only at h)
  refine a_iconst (v := 1) dX9_begins_246 (by decide) ?_
  cases h
  exact a_iret dX9_begins_247 (by intro h; cases h) (znar_b1 rfl)
set_option maxRecDepth 100000 in
theorem tX9_begins {X : Nat × (Nat → Int32)} {I : zPI} {L : zPL} {F : zPF} {a b : Nat} {c : Option Nat} (hR : zRin F a b c) (p1 : Int32) (p2 : Int32) (p3 : Int32) (r : Int32 × zPI) (h : fX9_begins I p1 p2 p3 = some r) : zAM X mX9_begins 2 [zr 48, zi p1, zi p2, zi p3] (zS0, I, L, F) (some (zi r.1)) (zS0, r.2, L, F) := by
  refine zAM_of (by decide) (Nat.le_of_ble_eq_true rfl) ⟨fun h => (by cases h), fun h => (by cases h)⟩ (Nat.le_refl _) (Nat.le_refl _) ?_
  unfold fX9_begins at h
  show zAW zE0 X mX9_begins 2 0 [(0, zr 48), (1, zi p1), (2, zi p2), (3, zi p3)] [] (zS0, I, L, F) (some (zi r.1)) (zS0, r.2, L, F)
  refine a_aload_n dX9_begins_0 rfl 0 rfl ?_
  refine a_iload_n dX9_begins_1 rfl 1 rfl ?_
  refine a_iload_n dX9_begins_2 rfl 2 rfl ?_
  obtain ⟨q1, hq1, h⟩ := zbind h
  refine a_callV dX9_begins_3 (tX9_isBarred hR _ _ _ hq1) csX9_isBarred zw1250 (Nat.le_of_ble_eq_true rfl) zs_48 rfl rfl (Nat.le_of_ble_eq_true rfl) ⟨Nat.le_refl _, Nat.le_refl _⟩ (fun hb2 => ?_)
  refine a_if_eq (tgt := 11) dX9_begins_6 rfl (fun hc32 => ?_) (fun hc32 => ?_)
  · rw [if_pos hc32] at h
    refine a_aload_n dX9_begins_11 rfl 0 rfl ?_
    refine a_iload_n dX9_begins_12 rfl 1 rfl ?_
    refine a_iload_n dX9_begins_13 rfl 2 rfl ?_
    refine a_iload_n dX9_begins_14 rfl 3 rfl ?_
    obtain ⟨q3, hq3, h⟩ := zbind h
    refine a_callV dX9_begins_15 (tX9_isMeant hR _ _ _ _ hq3) csX9_isMeant zw1258 (Nat.le_of_ble_eq_true rfl) zs_48 rfl rfl (Nat.le_of_ble_eq_true rfl) ⟨Nat.le_refl _, Nat.le_refl _⟩ (fun hb4 => ?_)
    refine a_if_ne (tgt := 23) dX9_begins_18 rfl (fun hc31 => ?_) (fun hc31 => ?_)
    · rw [if_neg hc31] at h
      refine a_iconst (v := 0) dX9_begins_23 (by decide) ?_
      refine a_istore dX9_begins_24 (by decide) rfl ?_
      refine a_iconst (v := 0) dX9_begins_26 (by decide) ?_
      refine a_istore dX9_begins_27 (by decide) rfl ?_
      refine a_sub [2, 3, 4, 5, 1, 0] rfl ?_
      refine tX9_begins_29 hR (fun v1 v2 v3 v4 I h => ?_) zF _ _ _ _ _ _ h
      (try dsimp only at h)
      refine a_iload_n dX9_begins_73 rfl 1 rfl ?_
      refine a_callS dX9_begins_74 (tX9_handsOf hR _ _ rfl) csX9_handsOf zw1266 (Nat.le_of_ble_eq_true rfl) rfl (Nat.le_of_ble_eq_true rfl) ⟨Nat.le_refl _, Nat.le_refl _⟩ (fun hb10 => ?_)
      refine a_istore dX9_begins_77 (by decide) rfl ?_
      refine a_iload dX9_begins_79 5 rfl ?_
      refine a_iload dX9_begins_81 0 rfl ?_
      refine a_icmp_ge (tgt := 88) dX9_begins_83 rfl (fun hc30 => ?_) (fun hc30 => ?_)
      · rw [if_pos hc30] at h
        refine a_iconst (v := 0) dX9_begins_88 (by decide) ?_
        refine a_istore dX9_begins_89 (by decide) rfl ?_
        refine a_sub [2, 3, 4, 5, 1, 0] rfl ?_
        refine tX9_begins_91 hR (fun v1 v2 v3 v5 v6 I h => ?_) zF _ _ _ _ _ _ h
        (try dsimp only at h)
        refine a_iload_n dX9_begins_107 rfl 1 rfl ?_
        refine a_iconst (v := 2) dX9_begins_108 (by decide) ?_
        refine a_icmp_ne (tgt := 144) dX9_begins_109 rfl (fun hc29 => ?_) (fun hc29 => ?_)
        · rw [if_neg hc29] at h
          refine a_iconst (v := 0) dX9_begins_144 (by decide) ?_
          exact tX9_begins_145 hR h
        · rw [if_pos hc29] at h
          refine a_aload_n dX9_begins_112 rfl 0 rfl ?_
          refine a_getq dX9_begins_113 G_X9_92 zs_48 rfl (rf_48_22 hR) ?_
          refine a_iload_n dX9_begins_116 rfl 2 rfl ?_
          obtain ⟨hz25, h⟩ := zif h
          refine a_iald dX9_begins_117 zs_61 (zin_vp hz25) ?_
          refine a_iload_n dX9_begins_118 rfl 3 rfl ?_
          refine a_icmp_le (tgt := 133) dX9_begins_119 rfl (fun hc28 => ?_) (fun hc28 => ?_)
          · rw [if_pos hc28] at h
            refine a_iload_n dX9_begins_133 rfl 3 rfl ?_
            refine a_aload_n dX9_begins_134 rfl 0 rfl ?_
            refine a_getq dX9_begins_135 G_X9_92 zs_48 rfl (rf_48_22 hR) ?_
            refine a_iload_n dX9_begins_138 rfl 2 rfl ?_
            obtain ⟨hz26, h⟩ := zif h
            refine a_iald dX9_begins_139 zs_61 (zin_vp hz26) ?_
            refine a_isub dX9_begins_140 ?_
            refine a_goto (tgt := 145) dX9_begins_141 rfl ?_
            exact tX9_begins_145 hR h
          · rw [if_neg hc28] at h
            refine a_aload_n dX9_begins_122 rfl 0 rfl ?_
            refine a_getq dX9_begins_123 G_X9_92 zs_48 rfl (rf_48_22 hR) ?_
            refine a_iload_n dX9_begins_126 rfl 2 rfl ?_
            obtain ⟨hz27, h⟩ := zif h
            refine a_iald dX9_begins_127 zs_61 (zin_vp hz27) ?_
            refine a_iload_n dX9_begins_128 rfl 3 rfl ?_
            refine a_isub dX9_begins_129 ?_
            refine a_goto (tgt := 145) dX9_begins_130 rfl ?_
            exact tX9_begins_145 hR h
      · rw [if_neg hc30] at h
        refine a_iconst (v := 0) dX9_begins_86 (by decide) ?_
        cases h
        exact a_iret dX9_begins_87 (by intro h; cases h) (znar_b0 rfl)
    · rw [if_pos hc31] at h
      refine a_iconst (v := 1) dX9_begins_21 (by decide) ?_
      cases h
      exact a_iret dX9_begins_22 (by intro h; cases h) (znar_b1 rfl)
  · rw [if_neg hc32] at h
    refine a_iconst (v := 0) dX9_begins_9 (by decide) ?_
    cases h
    exact a_iret dX9_begins_10 (by intro h; cases h) (znar_b0 rfl)
def fX9_braced (I : zPI) (p1 : Int32) : Option (Int32 × zPI) := (if p1 < 0 then some ((-1), zu I 48 0 0) else (if p1 ≤ 2 then (if zin p1 3 then some ((zu I 48 0 0) 61 p1.toNatClampNeg, zu I 48 0 0) else none) else some ((-1), zu I 48 0 0)))
set_option maxRecDepth 100000 in
theorem tX9_braced {X : Nat × (Nat → Int32)} {I : zPI} {L : zPL} {F : zPF} {a b : Nat} {c : Option Nat} (hR : zRin F a b c) (p1 : Int32) (r : Int32 × zPI) (h : fX9_braced I p1 = some r) : zAM X mX9_braced 0 [zr 48, zi p1] (zS0, I, L, F) (some (zi r.1)) (zS0, r.2, L, F) := by
  refine zAM_of (by decide) (Nat.le_of_ble_eq_true rfl) ⟨fun h => (by cases h), fun h => (by cases h)⟩ (Nat.le_refl _) (Nat.le_refl _) ?_
  unfold fX9_braced at h
  show zAW zE0 X mX9_braced 0 0 [(0, zr 48), (1, zi p1)] [] (zS0, I, L, F) (some (zi r.1)) (zS0, r.2, L, F)
  refine a_aload_n dX9_braced_0 rfl 0 rfl ?_
  refine a_iconst (v := 0) dX9_braced_1 (by decide) ?_
  refine a_puti dX9_braced_2 F_X9_1 zs_48 rfl ⟨rfl, rfl⟩ ?_
  refine a_iload_n dX9_braced_5 rfl 1 rfl ?_
  refine a_if_lt (tgt := 14) dX9_braced_6 rfl (fun hc3 => ?_) (fun hc3 => ?_)
  · rw [if_pos hc3] at h
    refine a_iconst (v := (-1)) dX9_braced_14 (by decide) ?_
    refine a_goto (tgt := 24) dX9_braced_15 rfl ?_
    cases h
    exact a_iret dX9_braced_24 (by intro h; cases h) (znar_i rfl)
  · rw [if_neg hc3] at h
    refine a_iload_n dX9_braced_9 rfl 1 rfl ?_
    refine a_iconst (v := 2) dX9_braced_10 (by decide) ?_
    refine a_icmp_le (tgt := 18) dX9_braced_11 rfl (fun hc2 => ?_) (fun hc2 => ?_)
    · rw [if_pos hc2] at h
      refine a_aload_n dX9_braced_18 rfl 0 rfl ?_
      refine a_getq dX9_braced_19 G_X9_92 zs_48 rfl (rf_48_22 hR) ?_
      refine a_iload_n dX9_braced_22 rfl 1 rfl ?_
      obtain ⟨hz1, h⟩ := zif h
      refine a_iald dX9_braced_23 zs_61 (zin_vp hz1) ?_
      cases h
      exact a_iret dX9_braced_24 (by intro h; cases h) (znar_i rfl)
    · rw [if_neg hc2] at h
      refine a_iconst (v := (-1)) dX9_braced_14 (by decide) ?_
      refine a_goto (tgt := 24) dX9_braced_15 rfl ?_
      cases h
      exact a_iret dX9_braced_24 (by intro h; cases h) (znar_i rfl)
def fX9_windNow_4 (I : zPI) (K : Int32 → Option (Int32)) : Nat → Int32 → Int32 → Option (Int32)
  | 0, _, _ => none
  | n + 1, v1, v2 => (if (I 48 39) ≤ v2 then K v1 else (if zin v2 60 then (if (I 48 29) < (I 67 v2.toNatClampNeg) then fX9_windNow_4 I K n v1 (v2 + 1) else (if v1 < 0 then fX9_windNow_4 I K n v2 (v2 + 1) else (if zin v2 60 then (if zin v1 60 then (if (I 67 v2.toNatClampNeg) < (I 67 v1.toNatClampNeg) then fX9_windNow_4 I K n v1 (v2 + 1) else fX9_windNow_4 I K n v2 (v2 + 1)) else none) else none))) else none))
def fX9_windNow (I : zPI) : Option (Int32) := fX9_windNow_4 I (fun v1 => some v1) zF (-1) 0
set_option maxRecDepth 100000 in
theorem tX9_windNow_4 {X : Nat × (Nat → Int32)} {I : zPI} {L : zPL} {F : zPF} {a b : Nat} {c : Option Nat} (hR : zRin F a b c) {r : Int32} {K : Int32 → Option (Int32)} (hK : ∀ (v1 : Int32), K v1 = some r → zAW zE0 X mX9_windNow 0 56 [(1, zi v1)] [] (zS0, I, L, F) (some (zi r)) (zS0, I, L, F)) : ∀ (n : Nat) (v1 : Int32) (v2 : Int32), fX9_windNow_4 I K n v1 v2 = some r → zAW zE0 X mX9_windNow 0 4 [(0, zr 48), (1, zi v1), (2, zi v2)] [] (zS0, I, L, F) (some (zi r)) (zS0, I, L, F) := by
  intro n
  induction n with
  | zero =>
    intro v1 v2 h
    rw [fX9_windNow_4.eq_1] at h
    cases h
  | succ n ih =>
    intro v1 v2 h
    rw [fX9_windNow_4.eq_2] at h
    refine a_iload_n dX9_windNow_4 rfl 2 rfl ?_
    refine a_aload_n dX9_windNow_5 rfl 0 rfl ?_
    refine a_geti dX9_windNow_6 G_X9_239 zs_48 rfl ?_
    refine a_icmp_ge (tgt := 56) dX9_windNow_9 rfl (fun hc7 => ?_) (fun hc7 => ?_)
    · rw [if_pos hc7] at h
      refine a_sub [1] rfl ?_
      exact hK _ h
    · rw [if_neg hc7] at h
      refine a_aload_n dX9_windNow_12 rfl 0 rfl ?_
      refine a_getq dX9_windNow_13 G_X9_110 zs_48 rfl (rf_48_40 hR) ?_
      refine a_iload_n dX9_windNow_16 rfl 2 rfl ?_
      obtain ⟨hz1, h⟩ := zif h
      refine a_iald dX9_windNow_17 zs_67 (zin_vp hz1) ?_
      refine a_aload_n dX9_windNow_18 rfl 0 rfl ?_
      refine a_geti dX9_windNow_19 G_X9_242 zs_48 rfl ?_
      refine a_icmp_gt (tgt := 48) dX9_windNow_22 rfl (fun hc6 => ?_) (fun hc6 => ?_)
      · rw [if_pos hc6] at h
        refine a_iload_n dX9_windNow_48 rfl 1 rfl ?_
        refine a_istore_n dX9_windNow_49 rfl (by decide) rfl ?_
        refine a_iincK (k0 := 1) dX9_windNow_50 (by decide) 2 rfl (by decide) rfl ?_
        refine a_goto (tgt := 4) dX9_windNow_53 rfl ?_
        refine a_sub [2, 1, 0] rfl ?_
        exact ih _ _ h
      · rw [if_neg hc6] at h
        refine a_iload_n dX9_windNow_25 rfl 1 rfl ?_
        refine a_if_lt (tgt := 44) dX9_windNow_26 rfl (fun hc5 => ?_) (fun hc5 => ?_)
        · rw [if_pos hc5] at h
          refine a_iload_n dX9_windNow_44 rfl 2 rfl ?_
          refine a_goto (tgt := 49) dX9_windNow_45 rfl ?_
          refine a_istore_n dX9_windNow_49 rfl (by decide) rfl ?_
          refine a_iincK (k0 := 1) dX9_windNow_50 (by decide) 2 rfl (by decide) rfl ?_
          refine a_goto (tgt := 4) dX9_windNow_53 rfl ?_
          refine a_sub [2, 1, 0] rfl ?_
          exact ih _ _ h
        · rw [if_neg hc5] at h
          refine a_aload_n dX9_windNow_29 rfl 0 rfl ?_
          refine a_getq dX9_windNow_30 G_X9_110 zs_48 rfl (rf_48_40 hR) ?_
          refine a_iload_n dX9_windNow_33 rfl 2 rfl ?_
          obtain ⟨hz2, h⟩ := zif h
          refine a_iald dX9_windNow_34 zs_67 (zin_vp hz2) ?_
          refine a_aload_n dX9_windNow_35 rfl 0 rfl ?_
          refine a_getq dX9_windNow_36 G_X9_110 zs_48 rfl (rf_48_40 hR) ?_
          refine a_iload_n dX9_windNow_39 rfl 1 rfl ?_
          obtain ⟨hz3, h⟩ := zif h
          refine a_iald dX9_windNow_40 zs_67 (zin_vp hz3) ?_
          refine a_icmp_lt (tgt := 48) dX9_windNow_41 rfl (fun hc4 => ?_) (fun hc4 => ?_)
          · rw [if_pos hc4] at h
            refine a_iload_n dX9_windNow_48 rfl 1 rfl ?_
            refine a_istore_n dX9_windNow_49 rfl (by decide) rfl ?_
            refine a_iincK (k0 := 1) dX9_windNow_50 (by decide) 2 rfl (by decide) rfl ?_
            refine a_goto (tgt := 4) dX9_windNow_53 rfl ?_
            refine a_sub [2, 1, 0] rfl ?_
            exact ih _ _ h
          · rw [if_neg hc4] at h
            refine a_iload_n dX9_windNow_44 rfl 2 rfl ?_
            refine a_goto (tgt := 49) dX9_windNow_45 rfl ?_
            refine a_istore_n dX9_windNow_49 rfl (by decide) rfl ?_
            refine a_iincK (k0 := 1) dX9_windNow_50 (by decide) 2 rfl (by decide) rfl ?_
            refine a_goto (tgt := 4) dX9_windNow_53 rfl ?_
            refine a_sub [2, 1, 0] rfl ?_
            exact ih _ _ h
set_option maxRecDepth 100000 in
theorem tX9_windNow {X : Nat × (Nat → Int32)} {I : zPI} {L : zPL} {F : zPF} {a b : Nat} {c : Option Nat} (hR : zRin F a b c) (r : Int32) (h : fX9_windNow I = some r) : zAM X mX9_windNow 0 [zr 48] (zS0, I, L, F) (some (zi r)) (zS0, I, L, F) := by
  refine zAM_of (by decide) (Nat.le_of_ble_eq_true rfl) ⟨fun h => (by cases h), fun h => (by cases h)⟩ (Nat.le_refl _) (Nat.le_refl _) ?_
  unfold fX9_windNow at h
  show zAW zE0 X mX9_windNow 0 0 [(0, zr 48)] [] (zS0, I, L, F) (some (zi r)) (zS0, I, L, F)
  refine a_iconst (v := (-1)) dX9_windNow_0 (by decide) ?_
  refine a_istore_n dX9_windNow_1 rfl (by decide) rfl ?_
  refine a_iconst (v := 0) dX9_windNow_2 (by decide) ?_
  refine a_istore_n dX9_windNow_3 rfl (by decide) rfl ?_
  refine a_sub [2, 1, 0] rfl ?_
  refine tX9_windNow_4 hR (fun v1 h => ?_) zF _ _ h
  (try dsimp only at h)
  refine a_iload_n dX9_windNow_56 rfl 0 rfl ?_
  cases h
  exact a_iret dX9_windNow_57 (by intro h; cases h) (znar_i rfl)
def fX9_force (I : zPI) : Option (Int32) := (fX9_windNow I).bind (fun q1 => (if 0 ≤ q1 then (if zin q1 60 then some (I 69 q1.toNatClampNeg) else none) else some 0))
set_option maxRecDepth 100000 in
theorem tX9_force {X : Nat × (Nat → Int32)} {I : zPI} {L : zPL} {F : zPF} {a b : Nat} {c : Option Nat} (hR : zRin F a b c) (r : Int32) (h : fX9_force I = some r) : zAM X mX9_force 1 [zr 48] (zS0, I, L, F) (some (zi r)) (zS0, I, L, F) := by
  refine zAM_of (by decide) (Nat.le_of_ble_eq_true rfl) ⟨fun h => (by cases h), fun h => (by cases h)⟩ (Nat.le_refl _) (Nat.le_refl _) ?_
  unfold fX9_force at h
  show zAW zE0 X mX9_force 1 0 [(0, zr 48)] [] (zS0, I, L, F) (some (zi r)) (zS0, I, L, F)
  refine a_aload_n dX9_force_0 rfl 0 rfl ?_
  obtain ⟨q1, hq1, h⟩ := zbind h
  refine a_callV dX9_force_1 (tX9_windNow hR _ hq1) csX9_windNow zw1207 (Nat.le_of_ble_eq_true rfl) zs_48 rfl rfl (Nat.le_of_ble_eq_true rfl) ⟨Nat.le_refl _, Nat.le_refl _⟩ (fun hb2 => ?_)
  refine a_istore_n dX9_force_4 rfl (by decide) rfl ?_
  refine a_iload_n dX9_force_5 rfl 0 rfl ?_
  refine a_if_ge (tgt := 13) dX9_force_6 rfl (fun hc4 => ?_) (fun hc4 => ?_)
  · rw [if_pos hc4] at h
    refine a_aload_n dX9_force_13 rfl 1 rfl ?_
    refine a_getq dX9_force_14 G_X9_116 zs_48 rfl (rf_48_42 hR) ?_
    refine a_iload_n dX9_force_17 rfl 0 rfl ?_
    obtain ⟨hz3, h⟩ := zif h
    refine a_iald dX9_force_18 zs_69 (zin_vp hz3) ?_
    cases h
    exact a_iret dX9_force_19 (by intro h; cases h) (znar_i rfl)
  · rw [if_neg hc4] at h
    refine a_iconst (v := 0) dX9_force_9 (by decide) ?_
    refine a_goto (tgt := 19) dX9_force_10 rfl ?_
    cases h
    exact a_iret dX9_force_19 (by intro h; cases h) (znar_i rfl)
def fX9_point (I : zPI) : Option (Int32) := (fX9_windNow I).bind (fun q1 => (if 0 ≤ q1 then (if zin q1 60 then some (I 68 q1.toNatClampNeg) else none) else some 0))
set_option maxRecDepth 100000 in
theorem tX9_point {X : Nat × (Nat → Int32)} {I : zPI} {L : zPL} {F : zPF} {a b : Nat} {c : Option Nat} (hR : zRin F a b c) (r : Int32) (h : fX9_point I = some r) : zAM X mX9_point 1 [zr 48] (zS0, I, L, F) (some (zi r)) (zS0, I, L, F) := by
  refine zAM_of (by decide) (Nat.le_of_ble_eq_true rfl) ⟨fun h => (by cases h), fun h => (by cases h)⟩ (Nat.le_refl _) (Nat.le_refl _) ?_
  unfold fX9_point at h
  show zAW zE0 X mX9_point 1 0 [(0, zr 48)] [] (zS0, I, L, F) (some (zi r)) (zS0, I, L, F)
  refine a_aload_n dX9_point_0 rfl 0 rfl ?_
  obtain ⟨q1, hq1, h⟩ := zbind h
  refine a_callV dX9_point_1 (tX9_windNow hR _ hq1) csX9_windNow zw1207 (Nat.le_of_ble_eq_true rfl) zs_48 rfl rfl (Nat.le_of_ble_eq_true rfl) ⟨Nat.le_refl _, Nat.le_refl _⟩ (fun hb2 => ?_)
  refine a_istore_n dX9_point_4 rfl (by decide) rfl ?_
  refine a_iload_n dX9_point_5 rfl 0 rfl ?_
  refine a_if_ge (tgt := 13) dX9_point_6 rfl (fun hc4 => ?_) (fun hc4 => ?_)
  · rw [if_pos hc4] at h
    refine a_aload_n dX9_point_13 rfl 1 rfl ?_
    refine a_getq dX9_point_14 G_X9_113 zs_48 rfl (rf_48_41 hR) ?_
    refine a_iload_n dX9_point_17 rfl 0 rfl ?_
    obtain ⟨hz3, h⟩ := zif h
    refine a_iald dX9_point_18 zs_68 (zin_vp hz3) ?_
    cases h
    exact a_iret dX9_point_19 (by intro h; cases h) (znar_i rfl)
  · rw [if_neg hc4] at h
    refine a_iconst (v := 0) dX9_point_9 (by decide) ?_
    refine a_goto (tgt := 19) dX9_point_10 rfl ?_
    cases h
    exact a_iret dX9_point_19 (by intro h; cases h) (znar_i rfl)
def fX9_loadNow_4 (I : zPI) (K : Int32 → Option (Int32)) : Nat → Int32 → Int32 → Option (Int32)
  | 0, _, _ => none
  | n + 1, v1, v2 => (if 18 ≤ v2 then K v1 else (if zin v2 18 then (if (I 59 v2.toNatClampNeg) = 1 then (if zin v2 18 then (if (I 60 v2.toNatClampNeg) ≤ v1 then fX9_loadNow_4 I K n v1 (v2 + 1) else (if zin v2 18 then fX9_loadNow_4 I K n (I 60 v2.toNatClampNeg) (v2 + 1) else none)) else none) else fX9_loadNow_4 I K n v1 (v2 + 1)) else none))
def fX9_loadNow (I : zPI) : Option (Int32) := fX9_loadNow_4 I (fun v1 => some v1) zF 0 0
set_option maxRecDepth 100000 in
theorem tX9_loadNow_4 {X : Nat × (Nat → Int32)} {I : zPI} {L : zPL} {F : zPF} {a b : Nat} {c : Option Nat} (hR : zRin F a b c) {r : Int32} {K : Int32 → Option (Int32)} (hK : ∀ (v1 : Int32), K v1 = some r → zAW zE0 X mX9_loadNow 0 47 [(1, zi v1)] [] (zS0, I, L, F) (some (zi r)) (zS0, I, L, F)) : ∀ (n : Nat) (v1 : Int32) (v2 : Int32), fX9_loadNow_4 I K n v1 v2 = some r → zAW zE0 X mX9_loadNow 0 4 [(0, zr 48), (1, zi v1), (2, zi v2)] [] (zS0, I, L, F) (some (zi r)) (zS0, I, L, F) := by
  intro n
  induction n with
  | zero =>
    intro v1 v2 h
    rw [fX9_loadNow_4.eq_1] at h
    cases h
  | succ n ih =>
    intro v1 v2 h
    rw [fX9_loadNow_4.eq_2] at h
    refine a_iload_n dX9_loadNow_4 rfl 2 rfl ?_
    refine a_bipush (v := 18) dX9_loadNow_5 (by decide) ?_
    refine a_icmp_ge (tgt := 47) dX9_loadNow_7 rfl (fun hc6 => ?_) (fun hc6 => ?_)
    · rw [if_pos hc6] at h
      refine a_sub [1] rfl ?_
      exact hK _ h
    · rw [if_neg hc6] at h
      refine a_aload_n dX9_loadNow_10 rfl 0 rfl ?_
      refine a_getq dX9_loadNow_11 G_X9_86 zs_48 rfl (rf_48_20 hR) ?_
      refine a_iload_n dX9_loadNow_14 rfl 2 rfl ?_
      obtain ⟨hz1, h⟩ := zif h
      refine a_iald dX9_loadNow_15 zs_59 (zin_vp hz1) ?_
      refine a_iconst (v := 1) dX9_loadNow_16 (by decide) ?_
      refine a_icmp_ne (tgt := 39) dX9_loadNow_17 rfl (fun hc5 => ?_) (fun hc5 => ?_)
      · rw [if_neg hc5] at h
        refine a_iload_n dX9_loadNow_39 rfl 1 rfl ?_
        refine a_istore_n dX9_loadNow_40 rfl (by decide) rfl ?_
        refine a_iincK (k0 := 1) dX9_loadNow_41 (by decide) 2 rfl (by decide) rfl ?_
        refine a_goto (tgt := 4) dX9_loadNow_44 rfl ?_
        refine a_sub [2, 1, 0] rfl ?_
        exact ih _ _ h
      · rw [if_pos hc5] at h
        refine a_aload_n dX9_loadNow_20 rfl 0 rfl ?_
        refine a_getq dX9_loadNow_21 G_X9_89 zs_48 rfl (rf_48_21 hR) ?_
        refine a_iload_n dX9_loadNow_24 rfl 2 rfl ?_
        obtain ⟨hz2, h⟩ := zif h
        refine a_iald dX9_loadNow_25 zs_60 (zin_vp hz2) ?_
        refine a_iload_n dX9_loadNow_26 rfl 1 rfl ?_
        refine a_icmp_le (tgt := 39) dX9_loadNow_27 rfl (fun hc4 => ?_) (fun hc4 => ?_)
        · rw [if_pos hc4] at h
          refine a_iload_n dX9_loadNow_39 rfl 1 rfl ?_
          refine a_istore_n dX9_loadNow_40 rfl (by decide) rfl ?_
          refine a_iincK (k0 := 1) dX9_loadNow_41 (by decide) 2 rfl (by decide) rfl ?_
          refine a_goto (tgt := 4) dX9_loadNow_44 rfl ?_
          refine a_sub [2, 1, 0] rfl ?_
          exact ih _ _ h
        · rw [if_neg hc4] at h
          refine a_aload_n dX9_loadNow_30 rfl 0 rfl ?_
          refine a_getq dX9_loadNow_31 G_X9_89 zs_48 rfl (rf_48_21 hR) ?_
          refine a_iload_n dX9_loadNow_34 rfl 2 rfl ?_
          obtain ⟨hz3, h⟩ := zif h
          refine a_iald dX9_loadNow_35 zs_60 (zin_vp hz3) ?_
          refine a_goto (tgt := 40) dX9_loadNow_36 rfl ?_
          refine a_istore_n dX9_loadNow_40 rfl (by decide) rfl ?_
          refine a_iincK (k0 := 1) dX9_loadNow_41 (by decide) 2 rfl (by decide) rfl ?_
          refine a_goto (tgt := 4) dX9_loadNow_44 rfl ?_
          refine a_sub [2, 1, 0] rfl ?_
          exact ih _ _ h
set_option maxRecDepth 100000 in
theorem tX9_loadNow {X : Nat × (Nat → Int32)} {I : zPI} {L : zPL} {F : zPF} {a b : Nat} {c : Option Nat} (hR : zRin F a b c) (r : Int32) (h : fX9_loadNow I = some r) : zAM X mX9_loadNow 0 [zr 48] (zS0, I, L, F) (some (zi r)) (zS0, I, L, F) := by
  refine zAM_of (by decide) (Nat.le_of_ble_eq_true rfl) ⟨fun h => (by cases h), fun h => (by cases h)⟩ (Nat.le_refl _) (Nat.le_refl _) ?_
  unfold fX9_loadNow at h
  show zAW zE0 X mX9_loadNow 0 0 [(0, zr 48)] [] (zS0, I, L, F) (some (zi r)) (zS0, I, L, F)
  refine a_iconst (v := 0) dX9_loadNow_0 (by decide) ?_
  refine a_istore_n dX9_loadNow_1 rfl (by decide) rfl ?_
  refine a_iconst (v := 0) dX9_loadNow_2 (by decide) ?_
  refine a_istore_n dX9_loadNow_3 rfl (by decide) rfl ?_
  refine a_sub [2, 1, 0] rfl ?_
  refine tX9_loadNow_4 hR (fun v1 h => ?_) zF _ _ h
  (try dsimp only at h)
  refine a_iload_n dX9_loadNow_47 rfl 0 rfl ?_
  cases h
  exact a_iret dX9_loadNow_48 (by intro h; cases h) (znar_i rfl)
def fX9_partOf (I : zPI) (p1 : Int32) : Option (Int32) := (if p1 = 0 then (fX9_force I).bind (fun q2 => some q2) else if p1 = 1 then (fX9_point I).bind (fun q5 => some q5) else if p1 = 2 then (fX9_point I).bind (fun q8 => (if 5 ≤ (fX9_apart q8 (I 48 30)) then some 0 else some 1)) else if p1 = 3 then some (I 48 32) else if p1 = 4 then some (I 48 30) else if p1 = 5 then some (zrm ((I 48 29) / 60) 24) else (fX9_loadNow I).bind (fun q16 => some q16))
set_option maxRecDepth 100000 in
theorem tX9_partOf {X : Nat × (Nat → Int32)} {I : zPI} {L : zPL} {F : zPF} {a b : Nat} {c : Option Nat} (hR : zRin F a b c) (p1 : Int32) (r : Int32) (h : fX9_partOf I p1 = some r) : zAM X mX9_partOf 2 [zr 48, zi p1] (zS0, I, L, F) (some (zi r)) (zS0, I, L, F) := by
  refine zAM_of (by decide) (Nat.le_of_ble_eq_true rfl) ⟨fun h => (by cases h), fun h => (by cases h)⟩ (Nat.le_refl _) (Nat.le_refl _) ?_
  unfold fX9_partOf at h
  show zAW zE0 X mX9_partOf 2 0 [(0, zr 48), (1, zi p1)] [] (zS0, I, L, F) (some (zi r)) (zS0, I, L, F)
  refine a_iload_n dX9_partOf_0 rfl 1 rfl ?_
  by_cases hc4 : p1 = 0
  · rw [if_pos hc4] at h
    refine a_tableIn (tgt := 40) dX9_partOf_1 (by rw [hc4]; decide) (by rw [hc4]; decide) (by rw [hc4]; first | done | rfl) rfl ?_
    refine a_aload_n dX9_partOf_40 rfl 0 rfl ?_
    obtain ⟨q2, hq2, h⟩ := zbind h
    refine a_callV dX9_partOf_41 (tX9_force hR _ hq2) csX9_force zw1211 (Nat.le_of_ble_eq_true rfl) zs_48 rfl rfl (Nat.le_of_ble_eq_true rfl) ⟨Nat.le_refl _, Nat.le_refl _⟩ (fun hb3 => ?_)
    cases h
    exact a_iret dX9_partOf_44 (by intro h; cases h) (znar_i rfl)
  · rw [if_neg hc4] at h
    by_cases hc7 : p1 = 1
    · rw [if_pos hc7] at h
      refine a_tableIn (tgt := 45) dX9_partOf_1 (by rw [hc7]; decide) (by rw [hc7]; decide) (by rw [hc7]; first | done | rfl) rfl ?_
      refine a_aload_n dX9_partOf_45 rfl 0 rfl ?_
      obtain ⟨q5, hq5, h⟩ := zbind h
      refine a_callV dX9_partOf_46 (tX9_point hR _ hq5) csX9_point zw1203 (Nat.le_of_ble_eq_true rfl) zs_48 rfl rfl (Nat.le_of_ble_eq_true rfl) ⟨Nat.le_refl _, Nat.le_refl _⟩ (fun hb6 => ?_)
      cases h
      exact a_iret dX9_partOf_49 (by intro h; cases h) (znar_i rfl)
    · rw [if_neg hc7] at h
      by_cases hc12 : p1 = 2
      · rw [if_pos hc12] at h
        refine a_tableIn (tgt := 50) dX9_partOf_1 (by rw [hc12]; decide) (by rw [hc12]; decide) (by rw [hc12]; first | done | rfl) rfl ?_
        refine a_aload_n dX9_partOf_50 rfl 0 rfl ?_
        obtain ⟨q8, hq8, h⟩ := zbind h
        refine a_callV dX9_partOf_51 (tX9_point hR _ hq8) csX9_point zw1203 (Nat.le_of_ble_eq_true rfl) zs_48 rfl rfl (Nat.le_of_ble_eq_true rfl) ⟨Nat.le_refl _, Nat.le_refl _⟩ (fun hb9 => ?_)
        refine a_aload_n dX9_partOf_54 rfl 0 rfl ?_
        refine a_geti dX9_partOf_55 G_X9_284 zs_48 rfl ?_
        refine a_callS dX9_partOf_58 (tX9_apart hR _ _ _ rfl) csX9_apart zw1239 (Nat.le_of_ble_eq_true rfl) rfl (Nat.le_of_ble_eq_true rfl) ⟨Nat.le_refl _, Nat.le_refl _⟩ (fun hb10 => ?_)
        refine a_iconst (v := 5) dX9_partOf_61 (by decide) ?_
        refine a_icmp_ge (tgt := 69) dX9_partOf_62 rfl (fun hc11 => ?_) (fun hc11 => ?_)
        · rw [if_pos hc11] at h
          refine a_iconst (v := 0) dX9_partOf_69 (by decide) ?_
          cases h
          exact a_iret dX9_partOf_70 (by intro h; cases h) (znar_i rfl)
        · rw [if_neg hc11] at h
          refine a_iconst (v := 1) dX9_partOf_65 (by decide) ?_
          refine a_goto (tgt := 70) dX9_partOf_66 rfl ?_
          cases h
          exact a_iret dX9_partOf_70 (by intro h; cases h) (znar_i rfl)
      · rw [if_neg hc12] at h
        by_cases hc13 : p1 = 3
        · rw [if_pos hc13] at h
          refine a_tableIn (tgt := 71) dX9_partOf_1 (by rw [hc13]; decide) (by rw [hc13]; decide) (by rw [hc13]; first | done | rfl) rfl ?_
          refine a_aload_n dX9_partOf_71 rfl 0 rfl ?_
          refine a_geti dX9_partOf_72 G_X9_290 zs_48 rfl ?_
          cases h
          exact a_iret dX9_partOf_75 (by intro h; cases h) (znar_i rfl)
        · rw [if_neg hc13] at h
          by_cases hc14 : p1 = 4
          · rw [if_pos hc14] at h
            refine a_tableIn (tgt := 76) dX9_partOf_1 (by rw [hc14]; decide) (by rw [hc14]; decide) (by rw [hc14]; first | done | rfl) rfl ?_
            refine a_aload_n dX9_partOf_76 rfl 0 rfl ?_
            refine a_geti dX9_partOf_77 G_X9_284 zs_48 rfl ?_
            cases h
            exact a_iret dX9_partOf_80 (by intro h; cases h) (znar_i rfl)
          · rw [if_neg hc14] at h
            by_cases hc15 : p1 = 5
            · rw [if_pos hc15] at h
              refine a_tableIn (tgt := 81) dX9_partOf_1 (by rw [hc15]; decide) (by rw [hc15]; decide) (by rw [hc15]; first | done | rfl) rfl ?_
              refine a_aload_n dX9_partOf_81 rfl 0 rfl ?_
              refine a_geti dX9_partOf_82 G_X9_242 zs_48 rfl ?_
              refine a_bipush (v := 60) dX9_partOf_85 (by decide) ?_
              refine a_idiv dX9_partOf_87 (by decide) ?_
              refine a_bipush (v := 24) dX9_partOf_88 (by decide) ?_
              refine a_irem dX9_partOf_90 (by decide) ?_
              cases h
              exact a_iret dX9_partOf_91 (by intro h; cases h) (znar_i rfl)
            · rw [if_neg hc15] at h
              have hk9 : (p1 : Int32).toInt < 0 ∨ 5 < (p1 : Int32).toInt := by
                have := znot (k := 0) (z := 0) hc4 (by decide)
                have := znot (k := 1) (z := 1) hc7 (by decide)
                have := znot (k := 2) (z := 2) hc12 (by decide)
                have := znot (k := 3) (z := 3) hc13 (by decide)
                have := znot (k := 4) (z := 4) hc14 (by decide)
                have := znot (k := 5) (z := 5) hc15 (by decide)
                omega
              refine a_tableOut (tgt := 92) dX9_partOf_1 hk9 rfl ?_
              refine a_aload_n dX9_partOf_92 rfl 0 rfl ?_
              obtain ⟨q16, hq16, h⟩ := zbind h
              refine a_callV dX9_partOf_93 (tX9_loadNow hR _ hq16) csX9_loadNow zw1242 (Nat.le_of_ble_eq_true rfl) zs_48 rfl rfl (Nat.le_of_ble_eq_true rfl) ⟨Nat.le_refl _, Nat.le_refl _⟩ (fun hb17 => ?_)
              cases h
              exact a_iret dX9_partOf_96 (by intro h; cases h) (znar_i rfl)
def fX9_reckons_10 (v1 : Int32) (v2 : Int32) (I : zPI) : Option (zPI) := (if v1 = 1 then (if zin (I 48 46) 1010 then some (zu (zu I 70 (I 48 46).toNatClampNeg v2) 48 46 (((zu I 70 (I 48 46).toNatClampNeg v2) 48 46) + 1)) else none) else (fX9_partOf I v2).bind (fun q1 => (if zin (I 48 46) 1010 then some (zu (zu I 70 (I 48 46).toNatClampNeg q1) 48 46 (((zu I 70 (I 48 46).toNatClampNeg q1) 48 46) + 1)) else none)))
def fX9_reckons (I : zPI) (p1 : Int32) (p2 : Int32) : Option (zPI) := (if p1 = 1 then fX9_reckons_10 p1 p2 I else (if p1 = 2 then fX9_reckons_10 p1 p2 I else (if zin ((zu I 48 46 ((I 48 46) - 1)) 48 46) 1010 then zlet ((zu I 48 46 ((I 48 46) - 1)) 70 ((zu I 48 46 ((I 48 46) - 1)) 48 46).toNatClampNeg) (fun x7 => (if zin (((zu I 48 46 ((I 48 46) - 1)) 48 46) - 1) 1010 then zlet ((zu I 48 46 ((I 48 46) - 1)) 70 (((zu I 48 46 ((I 48 46) - 1)) 48 46) - 1).toNatClampNeg) (fun x9 => (if p1 = 3 then (if zin (((zu I 48 46 ((I 48 46) - 1)) 48 46) - 1) 1010 then some (zu (zu I 48 46 ((I 48 46) - 1)) 70 (((zu I 48 46 ((I 48 46) - 1)) 48 46) - 1).toNatClampNeg (x9 + x7)) else none) else (if p1 = 4 then (if zin (((zu I 48 46 ((I 48 46) - 1)) 48 46) - 1) 1010 then some (zu (zu I 48 46 ((I 48 46) - 1)) 70 (((zu I 48 46 ((I 48 46) - 1)) 48 46) - 1).toNatClampNeg (x9 - x7)) else none) else (if p1 = 5 then (if x7 ≤ x9 then (if zin (((zu I 48 46 ((I 48 46) - 1)) 48 46) - 1) 1010 then some (zu (zu I 48 46 ((I 48 46) - 1)) 70 (((zu I 48 46 ((I 48 46) - 1)) 48 46) - 1).toNatClampNeg 0) else none) else (if zin (((zu I 48 46 ((I 48 46) - 1)) 48 46) - 1) 1010 then some (zu (zu I 48 46 ((I 48 46) - 1)) 70 (((zu I 48 46 ((I 48 46) - 1)) 48 46) - 1).toNatClampNeg 1) else none)) else (if x9 = x7 then (if zin (((zu I 48 46 ((I 48 46) - 1)) 48 46) - 1) 1010 then some (zu (zu I 48 46 ((I 48 46) - 1)) 70 (((zu I 48 46 ((I 48 46) - 1)) 48 46) - 1).toNatClampNeg 1) else none) else (if zin (((zu I 48 46 ((I 48 46) - 1)) 48 46) - 1) 1010 then some (zu (zu I 48 46 ((I 48 46) - 1)) 70 (((zu I 48 46 ((I 48 46) - 1)) 48 46) - 1).toNatClampNeg 0) else none)))))) else none)) else none)))
set_option maxRecDepth 100000 in
theorem tX9_reckons_10 {X : Nat × (Nat → Int32)} {I : zPI} {L : zPL} {F : zPF} {a b : Nat} {c : Option Nat} (hR : zRin F a b c) {r : zPI} {v1 : Int32} {v2 : Int32} (h : fX9_reckons_10 v1 v2 I = some r) : zAW zE0 X mX9_reckons 3 10 [(0, zr 48), (1, zi v1), (2, zi v2)] [] (zS0, I, L, F) none (zS0, r, L, F) := by
  unfold fX9_reckons_10 at h
  refine a_aload_n dX9_reckons_10 rfl 0 rfl ?_
  refine a_getq dX9_reckons_11 G_X9_119 zs_48 rfl (rf_48_45 hR) ?_
  refine a_aload_n dX9_reckons_14 rfl 0 rfl ?_
  refine a_geti dX9_reckons_15 G_X9_311 zs_48 rfl ?_
  refine a_iload_n dX9_reckons_18 rfl 1 rfl ?_
  refine a_iconst (v := 1) dX9_reckons_19 (by decide) ?_
  refine a_icmp_ne (tgt := 27) dX9_reckons_20 rfl (fun hc5 => ?_) (fun hc5 => ?_)
  · rw [if_neg hc5] at h
    refine a_aload_n dX9_reckons_27 rfl 0 rfl ?_
    refine a_iload_n dX9_reckons_28 rfl 2 rfl ?_
    obtain ⟨q1, hq1, h⟩ := zbind h
    refine a_callV dX9_reckons_29 (tX9_partOf hR _ _ hq1) csX9_partOf zw1235 (Nat.le_of_ble_eq_true rfl) zs_48 rfl rfl (Nat.le_of_ble_eq_true rfl) ⟨Nat.le_refl _, Nat.le_refl _⟩ (fun hb2 => ?_)
    obtain ⟨hz3, h⟩ := zif h
    refine a_iast dX9_reckons_32 zs_70 (zin_vp hz3) ?_
    refine a_aload_n dX9_reckons_33 rfl 0 rfl ?_
    refine a_dup dX9_reckons_34 rfl ?_
    refine a_geti dX9_reckons_35 G_X9_311 zs_48 rfl ?_
    refine a_iconst (v := 1) dX9_reckons_38 (by decide) ?_
    refine a_iadd dX9_reckons_39 ?_
    refine a_puti dX9_reckons_40 F_X9_311 zs_48 rfl ⟨rfl, rfl⟩ ?_
    cases h
    exact a_vret dX9_reckons_43 rfl
  · rw [if_pos hc5] at h
    refine a_iload_n dX9_reckons_23 rfl 2 rfl ?_
    refine a_goto (tgt := 32) dX9_reckons_24 rfl ?_
    obtain ⟨hz4, h⟩ := zif h
    refine a_iast dX9_reckons_32 zs_70 (zin_vp hz4) ?_
    refine a_aload_n dX9_reckons_33 rfl 0 rfl ?_
    refine a_dup dX9_reckons_34 rfl ?_
    refine a_geti dX9_reckons_35 G_X9_311 zs_48 rfl ?_
    refine a_iconst (v := 1) dX9_reckons_38 (by decide) ?_
    refine a_iadd dX9_reckons_39 ?_
    refine a_puti dX9_reckons_40 F_X9_311 zs_48 rfl ⟨rfl, rfl⟩ ?_
    cases h
    exact a_vret dX9_reckons_43 rfl
set_option maxRecDepth 100000 in
theorem tX9_reckons {X : Nat × (Nat → Int32)} {I : zPI} {L : zPL} {F : zPF} {a b : Nat} {c : Option Nat} (hR : zRin F a b c) (p1 : Int32) (p2 : Int32) (r : zPI) (h : fX9_reckons I p1 p2 = some r) : zAM X mX9_reckons 3 [zr 48, zi p1, zi p2] (zS0, I, L, F) none (zS0, r, L, F) := by
  refine zAM_of (by decide) (Nat.le_of_ble_eq_true rfl) ⟨fun _ => rfl, fun _ => rfl⟩ (Nat.le_refl _) (Nat.le_refl _) ?_
  unfold fX9_reckons at h
  show zAW zE0 X mX9_reckons 3 0 [(0, zr 48), (1, zi p1), (2, zi p2)] [] (zS0, I, L, F) none (zS0, r, L, F)
  refine a_iload_n dX9_reckons_0 rfl 1 rfl ?_
  refine a_iconst (v := 1) dX9_reckons_1 (by decide) ?_
  refine a_icmp_eq (tgt := 10) dX9_reckons_2 rfl (fun hc22 => ?_) (fun hc22 => ?_)
  · rw [if_pos hc22] at h
    exact tX9_reckons_10 hR h
  · rw [if_neg hc22] at h
    refine a_iload_n dX9_reckons_5 rfl 1 rfl ?_
    refine a_iconst (v := 2) dX9_reckons_6 (by decide) ?_
    refine a_icmp_ne (tgt := 44) dX9_reckons_7 rfl (fun hc21 => ?_) (fun hc21 => ?_)
    · rw [if_neg hc21] at h
      refine a_aload_n dX9_reckons_44 rfl 0 rfl ?_
      refine a_dup dX9_reckons_45 rfl ?_
      refine a_geti dX9_reckons_46 G_X9_311 zs_48 rfl ?_
      refine a_iconst (v := 1) dX9_reckons_49 (by decide) ?_
      refine a_isub dX9_reckons_50 ?_
      refine a_puti dX9_reckons_51 F_X9_311 zs_48 rfl ⟨rfl, rfl⟩ ?_
      refine a_aload_n dX9_reckons_54 rfl 0 rfl ?_
      refine a_getq dX9_reckons_55 G_X9_119 zs_48 rfl (rf_48_45 hR) ?_
      refine a_aload_n dX9_reckons_58 rfl 0 rfl ?_
      refine a_geti dX9_reckons_59 G_X9_311 zs_48 rfl ?_
      obtain ⟨hz6, h⟩ := zif h
      refine a_iald dX9_reckons_62 zs_70 (zin_vp hz6) ?_
      refine a_name (fun x7 ex7 => ?_)
      replace h := zlet_at h ex7
      clear ex7
      refine a_istore_n dX9_reckons_63 rfl (by decide) rfl ?_
      refine a_aload_n dX9_reckons_64 rfl 1 rfl ?_
      refine a_getq dX9_reckons_65 G_X9_119 zs_48 rfl (rf_48_45 hR) ?_
      refine a_aload_n dX9_reckons_68 rfl 1 rfl ?_
      refine a_geti dX9_reckons_69 G_X9_311 zs_48 rfl ?_
      refine a_iconst (v := 1) dX9_reckons_72 (by decide) ?_
      refine a_isub dX9_reckons_73 ?_
      obtain ⟨hz8, h⟩ := zif h
      refine a_iald dX9_reckons_74 zs_70 (zin_vp hz8) ?_
      refine a_name (fun x9 ex9 => ?_)
      replace h := zlet_at h ex9
      clear ex9
      refine a_istore dX9_reckons_75 (by decide) rfl ?_
      refine a_aload_n dX9_reckons_77 rfl 2 rfl ?_
      refine a_getq dX9_reckons_78 G_X9_119 zs_48 rfl (rf_48_45 hR) ?_
      refine a_aload_n dX9_reckons_81 rfl 2 rfl ?_
      refine a_geti dX9_reckons_82 G_X9_311 zs_48 rfl ?_
      refine a_iconst (v := 1) dX9_reckons_85 (by decide) ?_
      refine a_isub dX9_reckons_86 ?_
      refine a_iload_n dX9_reckons_87 rfl 3 rfl ?_
      refine a_iconst (v := 3) dX9_reckons_88 (by decide) ?_
      refine a_icmp_ne (tgt := 99) dX9_reckons_89 rfl (fun hc20 => ?_) (fun hc20 => ?_)
      · rw [if_neg hc20] at h
        refine a_iload_n dX9_reckons_99 rfl 3 rfl ?_
        refine a_iconst (v := 4) dX9_reckons_100 (by decide) ?_
        refine a_icmp_ne (tgt := 111) dX9_reckons_101 rfl (fun hc18 => ?_) (fun hc18 => ?_)
        · rw [if_neg hc18] at h
          refine a_iload_n dX9_reckons_111 rfl 3 rfl ?_
          refine a_iconst (v := 5) dX9_reckons_112 (by decide) ?_
          refine a_icmp_ne (tgt := 130) dX9_reckons_113 rfl (fun hc16 => ?_) (fun hc16 => ?_)
          · rw [if_neg hc16] at h
            refine a_iload dX9_reckons_130 0 rfl ?_
            refine a_iload_n dX9_reckons_132 rfl 1 rfl ?_
            refine a_icmp_ne (tgt := 140) dX9_reckons_133 rfl (fun hc12 => ?_) (fun hc12 => ?_)
            · rw [if_neg hc12] at h
              refine a_iconst (v := 0) dX9_reckons_140 (by decide) ?_
              obtain ⟨hz10, h⟩ := zif h
              refine a_iast dX9_reckons_141 zs_70 (zin_vp hz10) ?_
              cases h
              exact a_vret dX9_reckons_142 rfl
            · rw [if_pos hc12] at h
              refine a_iconst (v := 1) dX9_reckons_136 (by decide) ?_
              refine a_goto (tgt := 141) dX9_reckons_137 rfl ?_
              obtain ⟨hz11, h⟩ := zif h
              refine a_iast dX9_reckons_141 zs_70 (zin_vp hz11) ?_
              cases h
              exact a_vret dX9_reckons_142 rfl
          · rw [if_pos hc16] at h
            refine a_iload dX9_reckons_116 0 rfl ?_
            refine a_iload_n dX9_reckons_118 rfl 1 rfl ?_
            refine a_icmp_ge (tgt := 126) dX9_reckons_119 rfl (fun hc15 => ?_) (fun hc15 => ?_)
            · rw [if_pos hc15] at h
              refine a_iconst (v := 0) dX9_reckons_126 (by decide) ?_
              refine a_goto (tgt := 141) dX9_reckons_127 rfl ?_
              obtain ⟨hz13, h⟩ := zif h
              refine a_iast dX9_reckons_141 zs_70 (zin_vp hz13) ?_
              cases h
              exact a_vret dX9_reckons_142 rfl
            · rw [if_neg hc15] at h
              refine a_iconst (v := 1) dX9_reckons_122 (by decide) ?_
              refine a_goto (tgt := 141) dX9_reckons_123 rfl ?_
              obtain ⟨hz14, h⟩ := zif h
              refine a_iast dX9_reckons_141 zs_70 (zin_vp hz14) ?_
              cases h
              exact a_vret dX9_reckons_142 rfl
        · rw [if_pos hc18] at h
          refine a_iload dX9_reckons_104 0 rfl ?_
          refine a_iload_n dX9_reckons_106 rfl 1 rfl ?_
          refine a_isub dX9_reckons_107 ?_
          refine a_goto (tgt := 141) dX9_reckons_108 rfl ?_
          obtain ⟨hz17, h⟩ := zif h
          refine a_iast dX9_reckons_141 zs_70 (zin_vp hz17) ?_
          cases h
          exact a_vret dX9_reckons_142 rfl
      · rw [if_pos hc20] at h
        refine a_iload dX9_reckons_92 0 rfl ?_
        refine a_iload_n dX9_reckons_94 rfl 1 rfl ?_
        refine a_iadd dX9_reckons_95 ?_
        refine a_goto (tgt := 141) dX9_reckons_96 rfl ?_
        obtain ⟨hz19, h⟩ := zif h
        refine a_iast dX9_reckons_141 zs_70 (zin_vp hz19) ?_
        cases h
        exact a_vret dX9_reckons_142 rfl
    · rw [if_pos hc21] at h
      exact tX9_reckons_10 hR h
def fX9_carriesOut (I : zPI) (p1 : Int32) : Option (zPI) := (if zin (I 48 37) 4400 then (if p1 = 8 then some (zu (zu I 48 37 ((I 48 37) + 1)) 48 31 (I 55 (I 48 37).toNatClampNeg)) else (if p1 = 9 then some (zu (zu I 48 37 ((I 48 37) + 1)) 48 28 (I 55 (I 48 37).toNatClampNeg)) else (if p1 = 10 then some (zu (zu I 48 37 ((I 48 37) + 1)) 48 38 (((zu I 48 37 ((I 48 37) + 1)) 48 29) + (I 55 (I 48 37).toNatClampNeg))) else (if p1 = 11 then (if zin ((zu (zu I 48 37 ((I 48 37) + 1)) 48 46 (((zu I 48 37 ((I 48 37) + 1)) 48 46) - 1)) 48 46) 1010 then (if ((zu (zu I 48 37 ((I 48 37) + 1)) 48 46 (((zu I 48 37 ((I 48 37) + 1)) 48 46) - 1)) 70 ((zu (zu I 48 37 ((I 48 37) + 1)) 48 46 (((zu I 48 37 ((I 48 37) + 1)) 48 46) - 1)) 48 46).toNatClampNeg) = 0 then some (zu (zu (zu I 48 37 ((I 48 37) + 1)) 48 46 (((zu I 48 37 ((I 48 37) + 1)) 48 46) - 1)) 48 37 (I 55 (I 48 37).toNatClampNeg)) else some (zu (zu (zu I 48 37 ((I 48 37) + 1)) 48 46 (((zu I 48 37 ((I 48 37) + 1)) 48 46) - 1)) 48 37 ((zu (zu I 48 37 ((I 48 37) + 1)) 48 46 (((zu I 48 37 ((I 48 37) + 1)) 48 46) - 1)) 48 37))) else none) else some (zu I 48 37 ((I 48 37) + 1)))))) else none)
set_option maxRecDepth 100000 in
theorem tX9_carriesOut {X : Nat × (Nat → Int32)} {I : zPI} {L : zPL} {F : zPF} {a b : Nat} {c : Option Nat} (hR : zRin F a b c) (p1 : Int32) (r : zPI) (h : fX9_carriesOut I p1 = some r) : zAM X mX9_carriesOut 0 [zr 48, zi p1] (zS0, I, L, F) none (zS0, r, L, F) := by
  refine zAM_of (by decide) (Nat.le_of_ble_eq_true rfl) ⟨fun _ => rfl, fun _ => rfl⟩ (Nat.le_refl _) (Nat.le_refl _) ?_
  unfold fX9_carriesOut at h
  show zAW zE0 X mX9_carriesOut 0 0 [(0, zr 48), (1, zi p1)] [] (zS0, I, L, F) none (zS0, r, L, F)
  refine a_aload_n dX9_carriesOut_0 rfl 0 rfl ?_
  refine a_getq dX9_carriesOut_1 G_X9_74 zs_48 rfl (rf_48_11 hR) ?_
  refine a_aload_n dX9_carriesOut_4 rfl 0 rfl ?_
  refine a_geti dX9_carriesOut_5 G_X9_205 zs_48 rfl ?_
  obtain ⟨hz1, h⟩ := zif h
  refine a_iald dX9_carriesOut_8 zs_55 (zin_vp hz1) ?_
  refine a_istore_n dX9_carriesOut_9 rfl (by decide) rfl ?_
  refine a_aload_n dX9_carriesOut_10 rfl 1 rfl ?_
  refine a_dup dX9_carriesOut_11 rfl ?_
  refine a_geti dX9_carriesOut_12 G_X9_205 zs_48 rfl ?_
  refine a_iconst (v := 1) dX9_carriesOut_15 (by decide) ?_
  refine a_iadd dX9_carriesOut_16 ?_
  refine a_puti dX9_carriesOut_17 F_X9_205 zs_48 rfl ⟨rfl, rfl⟩ ?_
  refine a_iload_n dX9_carriesOut_20 rfl 2 rfl ?_
  refine a_bipush (v := 8) dX9_carriesOut_21 (by decide) ?_
  refine a_icmp_ne (tgt := 34) dX9_carriesOut_23 rfl (fun hc7 => ?_) (fun hc7 => ?_)
  · rw [if_neg hc7] at h
    refine a_iload_n dX9_carriesOut_34 rfl 2 rfl ?_
    refine a_bipush (v := 9) dX9_carriesOut_35 (by decide) ?_
    refine a_icmp_ne (tgt := 48) dX9_carriesOut_37 rfl (fun hc6 => ?_) (fun hc6 => ?_)
    · rw [if_neg hc6] at h
      refine a_iload_n dX9_carriesOut_48 rfl 2 rfl ?_
      refine a_bipush (v := 10) dX9_carriesOut_49 (by decide) ?_
      refine a_icmp_ne (tgt := 67) dX9_carriesOut_51 rfl (fun hc5 => ?_) (fun hc5 => ?_)
      · rw [if_neg hc5] at h
        refine a_iload_n dX9_carriesOut_67 rfl 2 rfl ?_
        refine a_bipush (v := 11) dX9_carriesOut_68 (by decide) ?_
        refine a_icmp_ne (tgt := 107) dX9_carriesOut_70 rfl (fun hc4 => ?_) (fun hc4 => ?_)
        · rw [if_neg hc4] at h
          cases h
          exact a_vret dX9_carriesOut_107 rfl
        · rw [if_pos hc4] at h
          refine a_aload_n dX9_carriesOut_73 rfl 1 rfl ?_
          refine a_dup dX9_carriesOut_74 rfl ?_
          refine a_geti dX9_carriesOut_75 G_X9_311 zs_48 rfl ?_
          refine a_iconst (v := 1) dX9_carriesOut_78 (by decide) ?_
          refine a_isub dX9_carriesOut_79 ?_
          refine a_puti dX9_carriesOut_80 F_X9_311 zs_48 rfl ⟨rfl, rfl⟩ ?_
          refine a_aload_n dX9_carriesOut_83 rfl 1 rfl ?_
          refine a_aload_n dX9_carriesOut_84 rfl 1 rfl ?_
          refine a_getq dX9_carriesOut_85 G_X9_119 zs_48 rfl (rf_48_45 hR) ?_
          refine a_aload_n dX9_carriesOut_88 rfl 1 rfl ?_
          refine a_geti dX9_carriesOut_89 G_X9_311 zs_48 rfl ?_
          obtain ⟨hz2, h⟩ := zif h
          refine a_iald dX9_carriesOut_92 zs_70 (zin_vp hz2) ?_
          refine a_if_ne (tgt := 100) dX9_carriesOut_93 rfl (fun hc3 => ?_) (fun hc3 => ?_)
          · rw [if_neg hc3] at h
            refine a_aload_n dX9_carriesOut_100 rfl 1 rfl ?_
            refine a_geti dX9_carriesOut_101 G_X9_205 zs_48 rfl ?_
            refine a_puti dX9_carriesOut_104 F_X9_205 zs_48 rfl ⟨rfl, rfl⟩ ?_
            cases h
            exact a_vret dX9_carriesOut_107 rfl
          · rw [if_pos hc3] at h
            refine a_iload_n dX9_carriesOut_96 rfl 0 rfl ?_
            refine a_goto (tgt := 104) dX9_carriesOut_97 rfl ?_
            refine a_puti dX9_carriesOut_104 F_X9_205 zs_48 rfl ⟨rfl, rfl⟩ ?_
            cases h
            exact a_vret dX9_carriesOut_107 rfl
      · rw [if_pos hc5] at h
        refine a_aload_n dX9_carriesOut_54 rfl 1 rfl ?_
        refine a_aload_n dX9_carriesOut_55 rfl 1 rfl ?_
        refine a_geti dX9_carriesOut_56 G_X9_242 zs_48 rfl ?_
        refine a_iload_n dX9_carriesOut_59 rfl 0 rfl ?_
        refine a_iadd dX9_carriesOut_60 ?_
        refine a_puti dX9_carriesOut_61 F_X9_208 zs_48 rfl ⟨rfl, rfl⟩ ?_
        refine a_goto (tgt := 107) dX9_carriesOut_64 rfl ?_
        cases h
        exact a_vret dX9_carriesOut_107 rfl
    · rw [if_pos hc6] at h
      refine a_aload_n dX9_carriesOut_40 rfl 1 rfl ?_
      refine a_iload_n dX9_carriesOut_41 rfl 0 rfl ?_
      refine a_puti dX9_carriesOut_42 F_X9_252 zs_48 rfl ⟨rfl, rfl⟩ ?_
      refine a_goto (tgt := 107) dX9_carriesOut_45 rfl ?_
      cases h
      exact a_vret dX9_carriesOut_107 rfl
  · rw [if_pos hc7] at h
    refine a_aload_n dX9_carriesOut_26 rfl 1 rfl ?_
    refine a_iload_n dX9_carriesOut_27 rfl 0 rfl ?_
    refine a_puti dX9_carriesOut_28 F_X9_308 zs_48 rfl ⟨rfl, rfl⟩ ?_
    refine a_goto (tgt := 107) dX9_carriesOut_31 rfl ?_
    cases h
    exact a_vret dX9_carriesOut_107 rfl
def fX9_carries_143 (rec : Int32 → zPI → Option (zPI)) (v1 : Int32) (v2 : Int32) (I : zPI) : Option (zPI) := (fX9_carriesOut (zu I 48 36 ((I 48 36) + 1)) v2).bind (fun q3 => rec (v1 + 1) q3)
def fX9_carries_2 (K : zPI → Option (zPI)) : Nat → Int32 → zPI → Option (zPI)
  | 0, _, _ => none
  | n + 1, v1, I => (if 60 ≤ v1 then K I else (if (I 48 29) < (I 48 38) then K I else (if zin (I 48 37) 4400 then (if (I 54 (I 48 37).toNatClampNeg) = 0 then K I else (if zin (I 48 37) 4400 then (if (I 54 (I 48 37).toNatClampNeg) = 12 then (if zin (I 48 37) 4400 then fX9_carries_2 K n v1 (zu I 48 37 (I 55 (I 48 37).toNatClampNeg)) else none) else (if 7 ≤ (I 54 (I 48 37).toNatClampNeg) then (if (I 54 (I 48 37).toNatClampNeg) = 7 then (if zin (I 48 37) 4400 then (if zin (I 48 37) 4400 then (if zin (I 48 37) 4400 then (fX9_begins I ((I 55 (I 48 37).toNatClampNeg) / 32) (zrm (I 55 (I 48 37).toNatClampNeg) 32) (I 56 (I 48 37).toNatClampNeg)).bind (fun q8 => (if q8.1 = 0 then some (q8.2) else fX9_carries_143 (fX9_carries_2 K n) v1 (I 54 (I 48 37).toNatClampNeg) q8.2)) else none) else none) else none) else fX9_carries_143 (fX9_carries_2 K n) v1 (I 54 (I 48 37).toNatClampNeg) I) else (if zin (I 48 37) 4400 then (fX9_reckons I (I 54 (I 48 37).toNatClampNeg) (I 55 (I 48 37).toNatClampNeg)).bind (fun q13 => fX9_carries_2 K n v1 (zu q13 48 37 ((q13 48 37) + 1))) else none))) else none)) else none)))
def fX9_carries (I : zPI) : Option (zPI) := fX9_carries_2 (fun I => some (I)) zF 0 I
set_option maxRecDepth 100000 in
theorem tX9_carries_143 {X : Nat × (Nat → Int32)} {I : zPI} {L : zPL} {F : zPF} {a b : Nat} {c : Option Nat} (hR : zRin F a b c) {r : zPI} {rec : Int32 → zPI → Option (zPI)} (hrec : ∀ (v1 : Int32) (I : zPI), rec v1 I = some r → zAW zE0 X mX9_carries 4 2 [(0, zr 48), (1, zi v1)] [] (zS0, I, L, F) none (zS0, r, L, F)) {v1 : Int32} {v2 : Int32} (h : fX9_carries_143 rec v1 v2 I = some r) : zAW zE0 X mX9_carries 4 143 [(0, zr 48), (1, zi v1), (2, zi v2)] [] (zS0, I, L, F) none (zS0, r, L, F) := by
  unfold fX9_carries_143 at h
  refine a_iincK (k0 := 1) dX9_carries_143 (by decide) 1 rfl (by decide) rfl ?_
  refine a_aload_n dX9_carries_146 rfl 1 rfl ?_
  refine a_dup dX9_carries_147 rfl ?_
  refine a_geti dX9_carries_148 G_X9_302 zs_48 rfl ?_
  refine a_iconst (v := 1) dX9_carries_151 (by decide) ?_
  refine a_iadd dX9_carries_152 ?_
  refine a_puti dX9_carries_153 F_X9_302 zs_48 rfl ⟨rfl, rfl⟩ ?_
  refine a_aload_n dX9_carries_156 rfl 1 rfl ?_
  refine a_iload_n dX9_carries_157 rfl 2 rfl ?_
  obtain ⟨q3, hq3, h⟩ := zbind h
  refine a_callV dX9_carries_158 (tX9_carriesOut hR _ _ hq3) csX9_carriesOut zw1272 (Nat.le_of_ble_eq_true rfl) zs_48 rfl rfl (Nat.le_of_ble_eq_true rfl) ⟨Nat.le_refl _, Nat.le_refl _⟩ (fun hb4 => ?_)
  refine a_goto (tgt := 2) dX9_carries_161 rfl ?_
  refine a_sub [1, 0] rfl ?_
  exact hrec _ _ h
set_option maxRecDepth 100000 in
theorem tX9_carries_2 {X : Nat × (Nat → Int32)} {L : zPL} {F : zPF} {a b : Nat} {c : Option Nat} (hR : zRin F a b c) {r : zPI} {K : zPI → Option (zPI)} (hK : ∀ (I : zPI), K I = some r → zAW zE0 X mX9_carries 4 164 [] [] (zS0, I, L, F) none (zS0, r, L, F)) : ∀ (n : Nat) (v1 : Int32) (I : zPI), fX9_carries_2 K n v1 I = some r → zAW zE0 X mX9_carries 4 2 [(0, zr 48), (1, zi v1)] [] (zS0, I, L, F) none (zS0, r, L, F) := by
  intro n
  induction n with
  | zero =>
    intro v1 I h
    rw [fX9_carries_2.eq_1] at h
    cases h
  | succ n ih =>
    intro v1 I h
    rw [fX9_carries_2.eq_2] at h
    refine a_iload_n dX9_carries_2 rfl 1 rfl ?_
    refine a_bipush (v := 60) dX9_carries_3 (by decide) ?_
    refine a_icmp_ge (tgt := 164) dX9_carries_5 rfl (fun hc20 => ?_) (fun hc20 => ?_)
    · rw [if_pos hc20] at h
      refine a_sub [] rfl ?_
      exact hK _ h
    · rw [if_neg hc20] at h
      refine a_aload_n dX9_carries_8 rfl 0 rfl ?_
      refine a_geti dX9_carries_9 G_X9_208 zs_48 rfl ?_
      refine a_aload_n dX9_carries_12 rfl 0 rfl ?_
      refine a_geti dX9_carries_13 G_X9_242 zs_48 rfl ?_
      refine a_icmp_gt (tgt := 164) dX9_carries_16 rfl (fun hc19 => ?_) (fun hc19 => ?_)
      · rw [if_pos hc19] at h
        refine a_sub [] rfl ?_
        exact hK _ h
      · rw [if_neg hc19] at h
        refine a_aload_n dX9_carries_19 rfl 0 rfl ?_
        refine a_getq dX9_carries_20 G_X9_71 zs_48 rfl (rf_48_10 hR) ?_
        refine a_aload_n dX9_carries_23 rfl 0 rfl ?_
        refine a_geti dX9_carries_24 G_X9_205 zs_48 rfl ?_
        obtain ⟨hz1, h⟩ := zif h
        refine a_iald dX9_carries_27 zs_54 (zin_vp hz1) ?_
        refine a_if_eq (tgt := 164) dX9_carries_28 rfl (fun hc18 => ?_) (fun hc18 => ?_)
        · rw [if_pos hc18] at h
          refine a_sub [] rfl ?_
          exact hK _ h
        · rw [if_neg hc18] at h
          refine a_aload_n dX9_carries_31 rfl 0 rfl ?_
          refine a_getq dX9_carries_32 G_X9_71 zs_48 rfl (rf_48_10 hR) ?_
          refine a_aload_n dX9_carries_35 rfl 0 rfl ?_
          refine a_geti dX9_carries_36 G_X9_205 zs_48 rfl ?_
          obtain ⟨hz2, h⟩ := zif h
          refine a_iald dX9_carries_39 zs_54 (zin_vp hz2) ?_
          refine a_istore_n dX9_carries_40 rfl (by decide) rfl ?_
          refine a_iload_n dX9_carries_41 rfl 0 rfl ?_
          refine a_bipush (v := 12) dX9_carries_42 (by decide) ?_
          refine a_icmp_ne (tgt := 63) dX9_carries_44 rfl (fun hc17 => ?_) (fun hc17 => ?_)
          · rw [if_neg hc17] at h
            refine a_iload_n dX9_carries_63 rfl 0 rfl ?_
            refine a_bipush (v := 7) dX9_carries_64 (by decide) ?_
            refine a_icmp_ge (tgt := 96) dX9_carries_66 rfl (fun hc15 => ?_) (fun hc15 => ?_)
            · rw [if_pos hc15] at h
              refine a_iload_n dX9_carries_96 rfl 0 rfl ?_
              refine a_bipush (v := 7) dX9_carries_97 (by decide) ?_
              refine a_icmp_ne (tgt := 143) dX9_carries_99 rfl (fun hc11 => ?_) (fun hc11 => ?_)
              · rw [if_neg hc11] at h
                refine a_sub [1, 2, 0] rfl ?_
                exact tX9_carries_143 hR ih h
              · rw [if_pos hc11] at h
                refine a_aload_n dX9_carries_102 rfl 1 rfl ?_
                refine a_aload_n dX9_carries_103 rfl 1 rfl ?_
                refine a_getq dX9_carries_104 G_X9_74 zs_48 rfl (rf_48_11 hR) ?_
                refine a_aload_n dX9_carries_107 rfl 1 rfl ?_
                refine a_geti dX9_carries_108 G_X9_205 zs_48 rfl ?_
                obtain ⟨hz5, h⟩ := zif h
                refine a_iald dX9_carries_111 zs_55 (zin_vp hz5) ?_
                refine a_bipush (v := 32) dX9_carries_112 (by decide) ?_
                refine a_idiv dX9_carries_114 (by decide) ?_
                refine a_aload_n dX9_carries_115 rfl 1 rfl ?_
                refine a_getq dX9_carries_116 G_X9_74 zs_48 rfl (rf_48_11 hR) ?_
                refine a_aload_n dX9_carries_119 rfl 1 rfl ?_
                refine a_geti dX9_carries_120 G_X9_205 zs_48 rfl ?_
                obtain ⟨hz6, h⟩ := zif h
                refine a_iald dX9_carries_123 zs_55 (zin_vp hz6) ?_
                refine a_bipush (v := 32) dX9_carries_124 (by decide) ?_
                refine a_irem dX9_carries_126 (by decide) ?_
                refine a_aload_n dX9_carries_127 rfl 1 rfl ?_
                refine a_getq dX9_carries_128 G_X9_77 zs_48 rfl (rf_48_12 hR) ?_
                refine a_aload_n dX9_carries_131 rfl 1 rfl ?_
                refine a_geti dX9_carries_132 G_X9_205 zs_48 rfl ?_
                obtain ⟨hz7, h⟩ := zif h
                refine a_iald dX9_carries_135 zs_56 (zin_vp hz7) ?_
                obtain ⟨q8, hq8, h⟩ := zbind h
                refine a_callV dX9_carries_136 (tX9_begins hR _ _ _ _ hq8) csX9_begins zw1246 (Nat.le_of_ble_eq_true rfl) zs_48 rfl rfl (Nat.le_of_ble_eq_true rfl) ⟨Nat.le_refl _, Nat.le_refl _⟩ (fun hb9 => ?_)
                refine a_if_ne (tgt := 143) dX9_carries_139 rfl (fun hc10 => ?_) (fun hc10 => ?_)
                · rw [if_neg hc10] at h
                  refine a_sub [1, 2, 0] rfl ?_
                  exact tX9_carries_143 hR ih h
                · rw [if_pos hc10] at h
                  cases h
                  exact a_vret dX9_carries_142 rfl
            · rw [if_neg hc15] at h
              refine a_aload_n dX9_carries_69 rfl 1 rfl ?_
              refine a_iload_n dX9_carries_70 rfl 0 rfl ?_
              refine a_aload_n dX9_carries_71 rfl 1 rfl ?_
              refine a_getq dX9_carries_72 G_X9_74 zs_48 rfl (rf_48_11 hR) ?_
              refine a_aload_n dX9_carries_75 rfl 1 rfl ?_
              refine a_geti dX9_carries_76 G_X9_205 zs_48 rfl ?_
              obtain ⟨hz12, h⟩ := zif h
              refine a_iald dX9_carries_79 zs_55 (zin_vp hz12) ?_
              obtain ⟨q13, hq13, h⟩ := zbind h
              refine a_callV dX9_carries_80 (tX9_reckons hR _ _ _ hq13) csX9_reckons zw1231 (Nat.le_of_ble_eq_true rfl) zs_48 rfl rfl (Nat.le_of_ble_eq_true rfl) ⟨Nat.le_refl _, Nat.le_refl _⟩ (fun hb14 => ?_)
              refine a_aload_n dX9_carries_83 rfl 1 rfl ?_
              refine a_dup dX9_carries_84 rfl ?_
              refine a_geti dX9_carries_85 G_X9_205 zs_48 rfl ?_
              refine a_iconst (v := 1) dX9_carries_88 (by decide) ?_
              refine a_iadd dX9_carries_89 ?_
              refine a_puti dX9_carries_90 F_X9_205 zs_48 rfl ⟨rfl, rfl⟩ ?_
              refine a_goto (tgt := 2) dX9_carries_93 rfl ?_
              refine a_sub [1, 2] rfl ?_
              exact ih _ _ h
          · rw [if_pos hc17] at h
            refine a_aload_n dX9_carries_47 rfl 1 rfl ?_
            refine a_aload_n dX9_carries_48 rfl 1 rfl ?_
            refine a_getq dX9_carries_49 G_X9_74 zs_48 rfl (rf_48_11 hR) ?_
            refine a_aload_n dX9_carries_52 rfl 1 rfl ?_
            refine a_geti dX9_carries_53 G_X9_205 zs_48 rfl ?_
            obtain ⟨hz16, h⟩ := zif h
            refine a_iald dX9_carries_56 zs_55 (zin_vp hz16) ?_
            refine a_puti dX9_carries_57 F_X9_205 zs_48 rfl ⟨rfl, rfl⟩ ?_
            refine a_goto (tgt := 2) dX9_carries_60 rfl ?_
            refine a_sub [1, 2] rfl ?_
            exact ih _ _ h
set_option maxRecDepth 100000 in
theorem tX9_carries {X : Nat × (Nat → Int32)} {I : zPI} {L : zPL} {F : zPF} {a b : Nat} {c : Option Nat} (hR : zRin F a b c) (r : zPI) (h : fX9_carries I = some r) : zAM X mX9_carries 4 [zr 48] (zS0, I, L, F) none (zS0, r, L, F) := by
  refine zAM_of (by decide) (Nat.le_of_ble_eq_true rfl) ⟨fun _ => rfl, fun _ => rfl⟩ (Nat.le_refl _) (Nat.le_refl _) ?_
  unfold fX9_carries at h
  show zAW zE0 X mX9_carries 4 0 [(0, zr 48)] [] (zS0, I, L, F) none (zS0, r, L, F)
  refine a_iconst (v := 0) dX9_carries_0 (by decide) ?_
  refine a_istore_n dX9_carries_1 rfl (by decide) rfl ?_
  refine a_sub [1, 0] rfl ?_
  refine tX9_carries_2 hR (fun I h => ?_) zF _ _ h
  (try dsimp only at h)
  cases h
  exact a_vret dX9_carries_164 rfl
def fX9_isLetter (p0 : Int32) : Int32 := (if p0 < 97 then 0 else (if 122 < p0 then 0 else 1))
set_option maxRecDepth 100000 in
theorem tX9_isLetter {X : Nat × (Nat → Int32)} {I : zPI} {L : zPL} {F : zPF} {a b : Nat} {c : Option Nat} (hR : zRin F a b c) (p0 : Int32) (r : Int32) (h : fX9_isLetter p0 = r) : zAM X mX9_isLetter 0 [zi p0] (zS0, I, L, F) (some (zi r)) (zS0, I, L, F) := by
  refine zAM_of (by decide) (Nat.le_of_ble_eq_true rfl) ⟨fun h => (by cases h), fun h => (by cases h)⟩ (Nat.le_refl _) (Nat.le_refl _) ?_
  unfold fX9_isLetter at h
  show zAW zE0 X mX9_isLetter 0 0 [(0, zi p0)] [] (zS0, I, L, F) (some (zi r)) (zS0, I, L, F)
  refine a_iload_n dX9_isLetter_0 rfl 0 rfl ?_
  refine a_bipush (v := 97) dX9_isLetter_1 (by decide) ?_
  refine a_icmp_lt (tgt := 16) dX9_isLetter_3 rfl (fun hc2 => ?_) (fun hc2 => ?_)
  · rw [if_pos hc2] at h
    refine a_iconst (v := 0) dX9_isLetter_16 (by decide) ?_
    subst h
    exact a_iret dX9_isLetter_17 (by intro h; cases h) (znar_b0 rfl)
  · rw [if_neg hc2] at h
    refine a_iload_n dX9_isLetter_6 rfl 0 rfl ?_
    refine a_bipush (v := 122) dX9_isLetter_7 (by decide) ?_
    refine a_icmp_gt (tgt := 16) dX9_isLetter_9 rfl (fun hc1 => ?_) (fun hc1 => ?_)
    · rw [if_pos hc1] at h
      refine a_iconst (v := 0) dX9_isLetter_16 (by decide) ?_
      subst h
      exact a_iret dX9_isLetter_17 (by intro h; cases h) (znar_b0 rfl)
    · rw [if_neg hc1] at h
      refine a_iconst (v := 1) dX9_isLetter_12 (by decide) ?_
      refine a_goto (tgt := 17) dX9_isLetter_13 rfl ?_
      subst h
      exact a_iret dX9_isLetter_17 (by intro h; cases h) (znar_b1 rfl)
def fX9_rank (p0 : Int32) : Int32 := (if (fX9_isLetter p0) = 0 then (p0 - 21) else (p0 - 96))
set_option maxRecDepth 100000 in
theorem tX9_rank {X : Nat × (Nat → Int32)} {I : zPI} {L : zPL} {F : zPF} {a b : Nat} {c : Option Nat} (hR : zRin F a b c) (p0 : Int32) (r : Int32) (h : fX9_rank p0 = r) : zAM X mX9_rank 1 [zi p0] (zS0, I, L, F) (some (zi r)) (zS0, I, L, F) := by
  refine zAM_of (by decide) (Nat.le_of_ble_eq_true rfl) ⟨fun h => (by cases h), fun h => (by cases h)⟩ (Nat.le_refl _) (Nat.le_refl _) ?_
  unfold fX9_rank at h
  show zAW zE0 X mX9_rank 1 0 [(0, zi p0)] [] (zS0, I, L, F) (some (zi r)) (zS0, I, L, F)
  refine a_iload_n dX9_rank_0 rfl 0 rfl ?_
  refine a_callS dX9_rank_1 (tX9_isLetter hR _ _ rfl) csX9_isLetter zw1119 (Nat.le_of_ble_eq_true rfl) rfl (Nat.le_of_ble_eq_true rfl) ⟨Nat.le_refl _, Nat.le_refl _⟩ (fun hb1 => ?_)
  refine a_if_eq (tgt := 14) dX9_rank_4 rfl (fun hc2 => ?_) (fun hc2 => ?_)
  · rw [if_pos hc2] at h
    refine a_iload_n dX9_rank_14 rfl 0 rfl ?_
    refine a_bipush (v := 21) dX9_rank_15 (by decide) ?_
    refine a_isub dX9_rank_17 ?_
    subst h
    exact a_iret dX9_rank_18 (by intro h; cases h) (znar_i rfl)
  · rw [if_neg hc2] at h
    refine a_iload_n dX9_rank_7 rfl 0 rfl ?_
    refine a_bipush (v := 96) dX9_rank_8 (by decide) ?_
    refine a_isub dX9_rank_10 ?_
    refine a_goto (tgt := 18) dX9_rank_11 rfl ?_
    subst h
    exact a_iret dX9_rank_18 (by intro h; cases h) (znar_i rfl)
def fX9_isDigit (p0 : Int32) : Int32 := (if p0 < 48 then 0 else (if 57 < p0 then 0 else 1))
set_option maxRecDepth 100000 in
theorem tX9_isDigit {X : Nat × (Nat → Int32)} {I : zPI} {L : zPL} {F : zPF} {a b : Nat} {c : Option Nat} (hR : zRin F a b c) (p0 : Int32) (r : Int32) (h : fX9_isDigit p0 = r) : zAM X mX9_isDigit 0 [zi p0] (zS0, I, L, F) (some (zi r)) (zS0, I, L, F) := by
  refine zAM_of (by decide) (Nat.le_of_ble_eq_true rfl) ⟨fun h => (by cases h), fun h => (by cases h)⟩ (Nat.le_refl _) (Nat.le_refl _) ?_
  unfold fX9_isDigit at h
  show zAW zE0 X mX9_isDigit 0 0 [(0, zi p0)] [] (zS0, I, L, F) (some (zi r)) (zS0, I, L, F)
  refine a_iload_n dX9_isDigit_0 rfl 0 rfl ?_
  refine a_bipush (v := 48) dX9_isDigit_1 (by decide) ?_
  refine a_icmp_lt (tgt := 16) dX9_isDigit_3 rfl (fun hc2 => ?_) (fun hc2 => ?_)
  · rw [if_pos hc2] at h
    refine a_iconst (v := 0) dX9_isDigit_16 (by decide) ?_
    subst h
    exact a_iret dX9_isDigit_17 (by intro h; cases h) (znar_b0 rfl)
  · rw [if_neg hc2] at h
    refine a_iload_n dX9_isDigit_6 rfl 0 rfl ?_
    refine a_bipush (v := 57) dX9_isDigit_7 (by decide) ?_
    refine a_icmp_gt (tgt := 16) dX9_isDigit_9 rfl (fun hc1 => ?_) (fun hc1 => ?_)
    · rw [if_pos hc1] at h
      refine a_iconst (v := 0) dX9_isDigit_16 (by decide) ?_
      subst h
      exact a_iret dX9_isDigit_17 (by intro h; cases h) (znar_b0 rfl)
    · rw [if_neg hc1] at h
      refine a_iconst (v := 1) dX9_isDigit_12 (by decide) ?_
      refine a_goto (tgt := 17) dX9_isDigit_13 rfl ?_
      subst h
      exact a_iret dX9_isDigit_17 (by intro h; cases h) (znar_b1 rfl)
def fX9_isSignOf (p0 : Int32) : Int32 := (if p0 = 123 then 1 else (if p0 = 125 then 1 else (if p0 = 59 then 1 else (if p0 = 61 then 1 else (if p0 = 60 then 1 else (if p0 = 43 then 1 else (if p0 = 45 then 1 else 0)))))))
set_option maxRecDepth 100000 in
theorem tX9_isSignOf {X : Nat × (Nat → Int32)} {I : zPI} {L : zPL} {F : zPF} {a b : Nat} {c : Option Nat} (hR : zRin F a b c) (p0 : Int32) (r : Int32) (h : fX9_isSignOf p0 = r) : zAM X mX9_isSignOf 0 [zi p0] (zS0, I, L, F) (some (zi r)) (zS0, I, L, F) := by
  refine zAM_of (by decide) (Nat.le_of_ble_eq_true rfl) ⟨fun h => (by cases h), fun h => (by cases h)⟩ (Nat.le_refl _) (Nat.le_refl _) ?_
  unfold fX9_isSignOf at h
  show zAW zE0 X mX9_isSignOf 0 0 [(0, zi p0)] [] (zS0, I, L, F) (some (zi r)) (zS0, I, L, F)
  refine a_iload_n dX9_isSignOf_0 rfl 0 rfl ?_
  refine a_bipush (v := 123) dX9_isSignOf_1 (by decide) ?_
  refine a_icmp_eq (tgt := 42) dX9_isSignOf_3 rfl (fun hc7 => ?_) (fun hc7 => ?_)
  · rw [if_pos hc7] at h
    refine a_iconst (v := 1) dX9_isSignOf_42 (by decide) ?_
    refine a_goto (tgt := 47) dX9_isSignOf_43 rfl ?_
    subst h
    exact a_iret dX9_isSignOf_47 (by intro h; cases h) (znar_b1 rfl)
  · rw [if_neg hc7] at h
    refine a_iload_n dX9_isSignOf_6 rfl 0 rfl ?_
    refine a_bipush (v := 125) dX9_isSignOf_7 (by decide) ?_
    refine a_icmp_eq (tgt := 42) dX9_isSignOf_9 rfl (fun hc6 => ?_) (fun hc6 => ?_)
    · rw [if_pos hc6] at h
      refine a_iconst (v := 1) dX9_isSignOf_42 (by decide) ?_
      refine a_goto (tgt := 47) dX9_isSignOf_43 rfl ?_
      subst h
      exact a_iret dX9_isSignOf_47 (by intro h; cases h) (znar_b1 rfl)
    · rw [if_neg hc6] at h
      refine a_iload_n dX9_isSignOf_12 rfl 0 rfl ?_
      refine a_bipush (v := 59) dX9_isSignOf_13 (by decide) ?_
      refine a_icmp_eq (tgt := 42) dX9_isSignOf_15 rfl (fun hc5 => ?_) (fun hc5 => ?_)
      · rw [if_pos hc5] at h
        refine a_iconst (v := 1) dX9_isSignOf_42 (by decide) ?_
        refine a_goto (tgt := 47) dX9_isSignOf_43 rfl ?_
        subst h
        exact a_iret dX9_isSignOf_47 (by intro h; cases h) (znar_b1 rfl)
      · rw [if_neg hc5] at h
        refine a_iload_n dX9_isSignOf_18 rfl 0 rfl ?_
        refine a_bipush (v := 61) dX9_isSignOf_19 (by decide) ?_
        refine a_icmp_eq (tgt := 42) dX9_isSignOf_21 rfl (fun hc4 => ?_) (fun hc4 => ?_)
        · rw [if_pos hc4] at h
          refine a_iconst (v := 1) dX9_isSignOf_42 (by decide) ?_
          refine a_goto (tgt := 47) dX9_isSignOf_43 rfl ?_
          subst h
          exact a_iret dX9_isSignOf_47 (by intro h; cases h) (znar_b1 rfl)
        · rw [if_neg hc4] at h
          refine a_iload_n dX9_isSignOf_24 rfl 0 rfl ?_
          refine a_bipush (v := 60) dX9_isSignOf_25 (by decide) ?_
          refine a_icmp_eq (tgt := 42) dX9_isSignOf_27 rfl (fun hc3 => ?_) (fun hc3 => ?_)
          · rw [if_pos hc3] at h
            refine a_iconst (v := 1) dX9_isSignOf_42 (by decide) ?_
            refine a_goto (tgt := 47) dX9_isSignOf_43 rfl ?_
            subst h
            exact a_iret dX9_isSignOf_47 (by intro h; cases h) (znar_b1 rfl)
          · rw [if_neg hc3] at h
            refine a_iload_n dX9_isSignOf_30 rfl 0 rfl ?_
            refine a_bipush (v := 43) dX9_isSignOf_31 (by decide) ?_
            refine a_icmp_eq (tgt := 42) dX9_isSignOf_33 rfl (fun hc2 => ?_) (fun hc2 => ?_)
            · rw [if_pos hc2] at h
              refine a_iconst (v := 1) dX9_isSignOf_42 (by decide) ?_
              refine a_goto (tgt := 47) dX9_isSignOf_43 rfl ?_
              subst h
              exact a_iret dX9_isSignOf_47 (by intro h; cases h) (znar_b1 rfl)
            · rw [if_neg hc2] at h
              refine a_iload_n dX9_isSignOf_36 rfl 0 rfl ?_
              refine a_bipush (v := 45) dX9_isSignOf_37 (by decide) ?_
              refine a_icmp_ne (tgt := 46) dX9_isSignOf_39 rfl (fun hc1 => ?_) (fun hc1 => ?_)
              · rw [if_neg hc1] at h
                refine a_iconst (v := 0) dX9_isSignOf_46 (by decide) ?_
                subst h
                exact a_iret dX9_isSignOf_47 (by intro h; cases h) (znar_b0 rfl)
              · rw [if_pos hc1] at h
                refine a_iconst (v := 1) dX9_isSignOf_42 (by decide) ?_
                refine a_goto (tgt := 47) dX9_isSignOf_43 rfl ?_
                subst h
                exact a_iret dX9_isSignOf_47 (by intro h; cases h) (znar_b1 rfl)
def fX9_cutAll_159 (K : Int32 → Int32 → Int32 → Int64 → zPI → zPL → Option (zPI × zPL)) : Nat → Int32 → Int32 → Int32 → Int64 → zPI → zPL → Option (zPI × zPL)
  | 0, _, _, _, _, _, _ => none
  | n + 1, v1, v2, v4, v5, I, L => (if (I 48 3) ≤ v2 then K v1 v2 v4 v5 I L else (if zin v2 1000 then (if (fX9_isDigit (I 49 v2.toNatClampNeg)) = 0 then K v1 v2 v4 v5 I L else (if 5 ≤ (v2 - v4) then fX9_cutAll_159 K n v1 (v2 + 1) v4 v5 I L else (if zin v2 1000 then fX9_cutAll_159 K n v1 (v2 + 1) v4 (((10 * v5) + ((I 49 v2.toNatClampNeg).toInt64)) - 48) I L else none))) else none))
def fX9_cutAll_218 (rec : Int32 → Int32 → zPI → zPL → Option (zPI × zPL)) (v1 : Int32) (v2 : Int32) (v4 : Int32) (v5 : Int64) (I : zPI) (L : zPL) : Option (zPI × zPL) := (if (v2 - v4) ≤ 5 then (if zin v1 1002 then (if zin v1 1002 then rec (v1 + 1) v2 (zu I 50 v1.toNatClampNeg 2) (zu L 52 v1.toNatClampNeg v5) else none) else none) else (if zin v1 1002 then (if zin v1 1002 then rec (v1 + 1) v2 (zu I 50 v1.toNatClampNeg 4) (zu L 52 v1.toNatClampNeg v5) else none) else none))
def fX9_cutAll_70 (K : Int32 → Int32 → Int32 → Int64 → zPI → zPL → Option (zPI × zPL)) : Nat → Int32 → Int32 → Int32 → Int64 → zPI → zPL → Option (zPI × zPL)
  | 0, _, _, _, _, _, _ => none
  | n + 1, v1, v2, v4, v5, I, L => (if (I 48 3) ≤ v2 then K v1 v2 v4 v5 I L else (if zin v2 1000 then (if (fX9_isLetter (I 49 v2.toNatClampNeg)) = 0 then K v1 v2 v4 v5 I L else (if 8 ≤ (v2 - v4) then fX9_cutAll_70 K n v1 (v2 + 1) v4 v5 I L else (if zin v2 1000 then fX9_cutAll_70 K n v1 (v2 + 1) v4 ((37 * v5) + ((fX9_rank (I 49 v2.toNatClampNeg)).toInt64)) I L else none))) else none))
def fX9_cutAll_129 (rec : Int32 → Int32 → zPI → zPL → Option (zPI × zPL)) (v1 : Int32) (v2 : Int32) (v4 : Int32) (v5 : Int64) (I : zPI) (L : zPL) : Option (zPI × zPL) := (if (v2 - v4) ≤ 8 then (if zin v1 1002 then (if zin v1 1002 then rec (v1 + 1) v2 (zu I 50 v1.toNatClampNeg 1) (zu L 52 v1.toNatClampNeg v5) else none) else none) else (if zin v1 1002 then (if zin v1 1002 then rec (v1 + 1) v2 (zu I 50 v1.toNatClampNeg 4) (zu L 52 v1.toNatClampNeg v5) else none) else none))
def fX9_cutAll_17 (K : Int32 → zPI → zPL → Option (zPI × zPL)) : Nat → Int32 → Int32 → zPI → zPL → Option (zPI × zPL)
  | 0, _, _, _, _ => none
  | n + 1, v1, v2, I, L => (if (I 48 3) ≤ v2 then K v1 I L else (if zin v2 1000 then (if (I 49 v2.toNatClampNeg) = 10 then fX9_cutAll_17 K n v1 (v2 + 1) I L else (if (I 49 v2.toNatClampNeg) = 32 then fX9_cutAll_17 K n v1 (v2 + 1) I L else (if zin v1 1002 then (if (fX9_isLetter (I 49 v2.toNatClampNeg)) = 0 then (if (fX9_isDigit (I 49 v2.toNatClampNeg)) = 0 then (if (fX9_isSignOf (I 49 v2.toNatClampNeg)) = 0 then (if zin v1 1002 then (if zin v1 1002 then fX9_cutAll_17 K n (v1 + 1) (v2 + 1) (zu (zu I 51 v1.toNatClampNeg v2) 50 v1.toNatClampNeg 4) (zu L 52 v1.toNatClampNeg ((I 49 v2.toNatClampNeg).toInt64)) else none) else none) else (if zin v1 1002 then (if zin v1 1002 then fX9_cutAll_17 K n (v1 + 1) (v2 + 1) (zu (zu I 51 v1.toNatClampNeg v2) 50 v1.toNatClampNeg 3) (zu L 52 v1.toNatClampNeg ((I 49 v2.toNatClampNeg).toInt64)) else none) else none)) else fX9_cutAll_159 (fun v1 v2 v4 v5 I L => fX9_cutAll_218 (fX9_cutAll_17 K n) v1 v2 v4 v5 I L) zF v1 v2 v2 0 (zu I 51 v1.toNatClampNeg v2) L) else fX9_cutAll_70 (fun v1 v2 v4 v5 I L => fX9_cutAll_129 (fX9_cutAll_17 K n) v1 v2 v4 v5 I L) zF v1 v2 v2 0 (zu I 51 v1.toNatClampNeg v2) L) else none))) else none))
def fX9_cutAll (I : zPI) (L : zPL) : Option (zPI × zPL) := fX9_cutAll_17 (fun v1 I L => (if zin v1 1002 then (if zin v1 1002 then some (zu (zu (zu (zu I 50 v1.toNatClampNeg 0) 51 v1.toNatClampNeg ((zu I 50 v1.toNatClampNeg 0) 48 3)) 48 7 0) 48 8 0, L) else none) else none)) zF 0 0 (zu (zu I 48 3 (I 48 2)) 48 2 0) L
set_option maxRecDepth 100000 in
theorem tX9_cutAll_159 {X : Nat × (Nat → Int32)} {F : zPF} {a b : Nat} {c : Option Nat} (hR : zRin F a b c) {r : zPI × zPL} {K : Int32 → Int32 → Int32 → Int64 → zPI → zPL → Option (zPI × zPL)} (hK : ∀ (v1 : Int32) (v2 : Int32) (v4 : Int32) (v5 : Int64) (I : zPI) (L : zPL), K v1 v2 v4 v5 I L = some r → zAW zE0 X mX9_cutAll 2 218 [(0, zr 48), (1, zi v1), (2, zi v2), (4, zi v4), (5, zl v5)] [] (zS0, I, L, F) none (zS0, r.1, r.2, F)) : ∀ (n : Nat) (v1 : Int32) (v2 : Int32) (v4 : Int32) (v5 : Int64) (I : zPI) (L : zPL), fX9_cutAll_159 K n v1 v2 v4 v5 I L = some r → zAW zE0 X mX9_cutAll 2 159 [(0, zr 48), (1, zi v1), (2, zi v2), (4, zi v4), (5, zl v5)] [] (zS0, I, L, F) none (zS0, r.1, r.2, F) := by
  intro n
  induction n with
  | zero =>
    intro v1 v2 v4 v5 I L h
    rw [fX9_cutAll_159.eq_1] at h
    cases h
  | succ n ih =>
    intro v1 v2 v4 v5 I L h
    rw [fX9_cutAll_159.eq_2] at h
    refine a_iload_n dX9_cutAll_159 rfl 2 rfl ?_
    refine a_aload_n dX9_cutAll_160 rfl 0 rfl ?_
    refine a_geti dX9_cutAll_161 G_X9_145 zs_48 rfl ?_
    refine a_icmp_ge (tgt := 218) dX9_cutAll_164 rfl (fun hc16 => ?_) (fun hc16 => ?_)
    · rw [if_pos hc16] at h
      exact hK _ _ _ _ _ _ h
    · rw [if_neg hc16] at h
      refine a_aload_n dX9_cutAll_167 rfl 0 rfl ?_
      refine a_getq dX9_cutAll_168 G_X9_14 zs_48 rfl (rf_48_1 hR) ?_
      refine a_iload_n dX9_cutAll_171 rfl 2 rfl ?_
      obtain ⟨hz11, h⟩ := zif h
      refine a_iald dX9_cutAll_172 zs_49 (zin_vp hz11) ?_
      refine a_callS dX9_cutAll_173 (tX9_isDigit hR _ _ rfl) csX9_isDigit zw1126 (Nat.le_of_ble_eq_true rfl) rfl (Nat.le_of_ble_eq_true rfl) ⟨Nat.le_refl _, Nat.le_refl _⟩ (fun hb12 => ?_)
      refine a_if_eq (tgt := 218) dX9_cutAll_176 rfl (fun hc15 => ?_) (fun hc15 => ?_)
      · rw [if_pos hc15] at h
        exact hK _ _ _ _ _ _ h
      · rw [if_neg hc15] at h
        refine a_iload_n dX9_cutAll_179 rfl 2 rfl ?_
        refine a_iload dX9_cutAll_180 3 rfl ?_
        refine a_isub dX9_cutAll_182 ?_
        refine a_iconst (v := 5) dX9_cutAll_183 (by decide) ?_
        refine a_icmp_ge (tgt := 208) dX9_cutAll_184 rfl (fun hc14 => ?_) (fun hc14 => ?_)
        · rw [if_pos hc14] at h
          refine a_lload dX9_cutAll_208 4 rfl ?_
          refine a_lstore dX9_cutAll_210 (by decide) rfl ?_
          refine a_iincK (k0 := 1) dX9_cutAll_212 (by decide) 3 rfl (by decide) rfl ?_
          refine a_goto (tgt := 159) dX9_cutAll_215 rfl ?_
          refine a_sub [2, 3, 0, 4, 1] rfl ?_
          exact ih _ _ _ _ _ _ h
        · rw [if_neg hc14] at h
          refine a_ldc2 dX9_cutAll_187 zw1129 ?_
          refine a_lload dX9_cutAll_190 4 rfl ?_
          refine a_lmul dX9_cutAll_192 ?_
          refine a_aload_n dX9_cutAll_193 rfl 0 rfl ?_
          refine a_getq dX9_cutAll_194 G_X9_14 zs_48 rfl (rf_48_1 hR) ?_
          refine a_iload_n dX9_cutAll_197 rfl 2 rfl ?_
          obtain ⟨hz13, h⟩ := zif h
          refine a_iald dX9_cutAll_198 zs_49 (zin_vp hz13) ?_
          refine a_i2l dX9_cutAll_199 ?_
          refine a_ladd dX9_cutAll_200 ?_
          refine a_ldc2 dX9_cutAll_201 zw1130 ?_
          refine a_lsub dX9_cutAll_204 ?_
          refine a_goto (tgt := 210) dX9_cutAll_205 rfl ?_
          refine a_lstore dX9_cutAll_210 (by decide) rfl ?_
          refine a_iincK (k0 := 1) dX9_cutAll_212 (by decide) 3 rfl (by decide) rfl ?_
          refine a_goto (tgt := 159) dX9_cutAll_215 rfl ?_
          refine a_sub [2, 3, 0, 4, 1] rfl ?_
          exact ih _ _ _ _ _ _ h
set_option maxRecDepth 100000 in
theorem tX9_cutAll_218 {X : Nat × (Nat → Int32)} {I : zPI} {L : zPL} {F : zPF} {a b : Nat} {c : Option Nat} (hR : zRin F a b c) {r : zPI × zPL} {rec : Int32 → Int32 → zPI → zPL → Option (zPI × zPL)} (hrec : ∀ (v1 : Int32) (v2 : Int32) (I : zPI) (L : zPL), rec v1 v2 I L = some r → zAW zE0 X mX9_cutAll 2 17 [(0, zr 48), (1, zi v1), (2, zi v2)] [] (zS0, I, L, F) none (zS0, r.1, r.2, F)) {v1 : Int32} {v2 : Int32} {v4 : Int32} {v5 : Int64} (h : fX9_cutAll_218 rec v1 v2 v4 v5 I L = some r) : zAW zE0 X mX9_cutAll 2 218 [(0, zr 48), (1, zi v1), (2, zi v2), (4, zi v4), (5, zl v5)] [] (zS0, I, L, F) none (zS0, r.1, r.2, F) := by
  unfold fX9_cutAll_218 at h
  refine a_aload_n dX9_cutAll_218 rfl 0 rfl ?_
  refine a_getq dX9_cutAll_219 G_X9_24 zs_48 rfl (rf_48_4 hR) ?_
  refine a_iload_n dX9_cutAll_222 rfl 1 rfl ?_
  refine a_iload_n dX9_cutAll_223 rfl 2 rfl ?_
  refine a_iload dX9_cutAll_224 3 rfl ?_
  refine a_isub dX9_cutAll_226 ?_
  refine a_iconst (v := 5) dX9_cutAll_227 (by decide) ?_
  refine a_icmp_le (tgt := 235) dX9_cutAll_228 rfl (fun hc21 => ?_) (fun hc21 => ?_)
  · rw [if_pos hc21] at h
    refine a_iconst (v := 2) dX9_cutAll_235 (by decide) ?_
    obtain ⟨hz17, h⟩ := zif h
    refine a_iast dX9_cutAll_236 zs_50 (zin_vp hz17) ?_
    refine a_goto (tgt := 265) dX9_cutAll_237 rfl ?_
    refine a_aload_n dX9_cutAll_265 rfl 0 rfl ?_
    refine a_getq dX9_cutAll_266 G_X9_30 zs_48 rfl (rf_48_6 hR) ?_
    refine a_iload_n dX9_cutAll_269 rfl 1 rfl ?_
    refine a_lload dX9_cutAll_270 4 rfl ?_
    obtain ⟨hz18, h⟩ := zif h
    refine a_last dX9_cutAll_272 zs_52 (zin_vp hz18) ?_
    refine a_iincK (k0 := 1) dX9_cutAll_273 (by decide) 1 rfl (by decide) rfl ?_
    refine a_goto (tgt := 17) dX9_cutAll_276 rfl ?_
    refine a_sub [1, 0, 2] rfl ?_
    exact hrec _ _ _ _ h
  · rw [if_neg hc21] at h
    refine a_iconst (v := 4) dX9_cutAll_231 (by decide) ?_
    refine a_goto (tgt := 236) dX9_cutAll_232 rfl ?_
    obtain ⟨hz19, h⟩ := zif h
    refine a_iast dX9_cutAll_236 zs_50 (zin_vp hz19) ?_
    refine a_goto (tgt := 265) dX9_cutAll_237 rfl ?_
    refine a_aload_n dX9_cutAll_265 rfl 0 rfl ?_
    refine a_getq dX9_cutAll_266 G_X9_30 zs_48 rfl (rf_48_6 hR) ?_
    refine a_iload_n dX9_cutAll_269 rfl 1 rfl ?_
    refine a_lload dX9_cutAll_270 4 rfl ?_
    obtain ⟨hz20, h⟩ := zif h
    refine a_last dX9_cutAll_272 zs_52 (zin_vp hz20) ?_
    refine a_iincK (k0 := 1) dX9_cutAll_273 (by decide) 1 rfl (by decide) rfl ?_
    refine a_goto (tgt := 17) dX9_cutAll_276 rfl ?_
    refine a_sub [1, 0, 2] rfl ?_
    exact hrec _ _ _ _ h
set_option maxRecDepth 100000 in
theorem tX9_cutAll_70 {X : Nat × (Nat → Int32)} {F : zPF} {a b : Nat} {c : Option Nat} (hR : zRin F a b c) {r : zPI × zPL} {K : Int32 → Int32 → Int32 → Int64 → zPI → zPL → Option (zPI × zPL)} (hK : ∀ (v1 : Int32) (v2 : Int32) (v4 : Int32) (v5 : Int64) (I : zPI) (L : zPL), K v1 v2 v4 v5 I L = some r → zAW zE0 X mX9_cutAll 2 129 [(0, zr 48), (1, zi v1), (2, zi v2), (4, zi v4), (5, zl v5)] [] (zS0, I, L, F) none (zS0, r.1, r.2, F)) : ∀ (n : Nat) (v1 : Int32) (v2 : Int32) (v4 : Int32) (v5 : Int64) (I : zPI) (L : zPL), fX9_cutAll_70 K n v1 v2 v4 v5 I L = some r → zAW zE0 X mX9_cutAll 2 70 [(0, zr 48), (1, zi v1), (2, zi v2), (4, zi v4), (5, zl v5)] [] (zS0, I, L, F) none (zS0, r.1, r.2, F) := by
  intro n
  induction n with
  | zero =>
    intro v1 v2 v4 v5 I L h
    rw [fX9_cutAll_70.eq_1] at h
    cases h
  | succ n ih =>
    intro v1 v2 v4 v5 I L h
    rw [fX9_cutAll_70.eq_2] at h
    refine a_iload_n dX9_cutAll_70 rfl 2 rfl ?_
    refine a_aload_n dX9_cutAll_71 rfl 0 rfl ?_
    refine a_geti dX9_cutAll_72 G_X9_145 zs_48 rfl ?_
    refine a_icmp_ge (tgt := 129) dX9_cutAll_75 rfl (fun hc29 => ?_) (fun hc29 => ?_)
    · rw [if_pos hc29] at h
      exact hK _ _ _ _ _ _ h
    · rw [if_neg hc29] at h
      refine a_aload_n dX9_cutAll_78 rfl 0 rfl ?_
      refine a_getq dX9_cutAll_79 G_X9_14 zs_48 rfl (rf_48_1 hR) ?_
      refine a_iload_n dX9_cutAll_82 rfl 2 rfl ?_
      obtain ⟨hz23, h⟩ := zif h
      refine a_iald dX9_cutAll_83 zs_49 (zin_vp hz23) ?_
      refine a_callS dX9_cutAll_84 (tX9_isLetter hR _ _ rfl) csX9_isLetter zw1119 (Nat.le_of_ble_eq_true rfl) rfl (Nat.le_of_ble_eq_true rfl) ⟨Nat.le_refl _, Nat.le_refl _⟩ (fun hb24 => ?_)
      refine a_if_eq (tgt := 129) dX9_cutAll_87 rfl (fun hc28 => ?_) (fun hc28 => ?_)
      · rw [if_pos hc28] at h
        exact hK _ _ _ _ _ _ h
      · rw [if_neg hc28] at h
        refine a_iload_n dX9_cutAll_90 rfl 2 rfl ?_
        refine a_iload dX9_cutAll_91 3 rfl ?_
        refine a_isub dX9_cutAll_93 ?_
        refine a_bipush (v := 8) dX9_cutAll_94 (by decide) ?_
        refine a_icmp_ge (tgt := 119) dX9_cutAll_96 rfl (fun hc27 => ?_) (fun hc27 => ?_)
        · rw [if_pos hc27] at h
          refine a_lload dX9_cutAll_119 4 rfl ?_
          refine a_lstore dX9_cutAll_121 (by decide) rfl ?_
          refine a_iincK (k0 := 1) dX9_cutAll_123 (by decide) 3 rfl (by decide) rfl ?_
          refine a_goto (tgt := 70) dX9_cutAll_126 rfl ?_
          refine a_sub [2, 3, 0, 4, 1] rfl ?_
          exact ih _ _ _ _ _ _ h
        · rw [if_neg hc27] at h
          refine a_ldc2 dX9_cutAll_99 zw1122 ?_
          refine a_lload dX9_cutAll_102 4 rfl ?_
          refine a_lmul dX9_cutAll_104 ?_
          refine a_aload_n dX9_cutAll_105 rfl 0 rfl ?_
          refine a_getq dX9_cutAll_106 G_X9_14 zs_48 rfl (rf_48_1 hR) ?_
          refine a_iload_n dX9_cutAll_109 rfl 2 rfl ?_
          obtain ⟨hz25, h⟩ := zif h
          refine a_iald dX9_cutAll_110 zs_49 (zin_vp hz25) ?_
          refine a_callS dX9_cutAll_111 (tX9_rank hR _ _ rfl) csX9_rank zw1123 (Nat.le_of_ble_eq_true rfl) rfl (Nat.le_of_ble_eq_true rfl) ⟨Nat.le_refl _, Nat.le_refl _⟩ (fun hb26 => ?_)
          refine a_i2l dX9_cutAll_114 ?_
          refine a_ladd dX9_cutAll_115 ?_
          refine a_goto (tgt := 121) dX9_cutAll_116 rfl ?_
          refine a_lstore dX9_cutAll_121 (by decide) rfl ?_
          refine a_iincK (k0 := 1) dX9_cutAll_123 (by decide) 3 rfl (by decide) rfl ?_
          refine a_goto (tgt := 70) dX9_cutAll_126 rfl ?_
          refine a_sub [2, 3, 0, 4, 1] rfl ?_
          exact ih _ _ _ _ _ _ h
set_option maxRecDepth 100000 in
theorem tX9_cutAll_129 {X : Nat × (Nat → Int32)} {I : zPI} {L : zPL} {F : zPF} {a b : Nat} {c : Option Nat} (hR : zRin F a b c) {r : zPI × zPL} {rec : Int32 → Int32 → zPI → zPL → Option (zPI × zPL)} (hrec : ∀ (v1 : Int32) (v2 : Int32) (I : zPI) (L : zPL), rec v1 v2 I L = some r → zAW zE0 X mX9_cutAll 2 17 [(0, zr 48), (1, zi v1), (2, zi v2)] [] (zS0, I, L, F) none (zS0, r.1, r.2, F)) {v1 : Int32} {v2 : Int32} {v4 : Int32} {v5 : Int64} (h : fX9_cutAll_129 rec v1 v2 v4 v5 I L = some r) : zAW zE0 X mX9_cutAll 2 129 [(0, zr 48), (1, zi v1), (2, zi v2), (4, zi v4), (5, zl v5)] [] (zS0, I, L, F) none (zS0, r.1, r.2, F) := by
  unfold fX9_cutAll_129 at h
  refine a_aload_n dX9_cutAll_129 rfl 0 rfl ?_
  refine a_getq dX9_cutAll_130 G_X9_24 zs_48 rfl (rf_48_4 hR) ?_
  refine a_iload_n dX9_cutAll_133 rfl 1 rfl ?_
  refine a_iload_n dX9_cutAll_134 rfl 2 rfl ?_
  refine a_iload dX9_cutAll_135 3 rfl ?_
  refine a_isub dX9_cutAll_137 ?_
  refine a_bipush (v := 8) dX9_cutAll_138 (by decide) ?_
  refine a_icmp_le (tgt := 147) dX9_cutAll_140 rfl (fun hc34 => ?_) (fun hc34 => ?_)
  · rw [if_pos hc34] at h
    refine a_iconst (v := 1) dX9_cutAll_147 (by decide) ?_
    obtain ⟨hz30, h⟩ := zif h
    refine a_iast dX9_cutAll_148 zs_50 (zin_vp hz30) ?_
    refine a_goto (tgt := 265) dX9_cutAll_149 rfl ?_
    refine a_aload_n dX9_cutAll_265 rfl 0 rfl ?_
    refine a_getq dX9_cutAll_266 G_X9_30 zs_48 rfl (rf_48_6 hR) ?_
    refine a_iload_n dX9_cutAll_269 rfl 1 rfl ?_
    refine a_lload dX9_cutAll_270 4 rfl ?_
    obtain ⟨hz31, h⟩ := zif h
    refine a_last dX9_cutAll_272 zs_52 (zin_vp hz31) ?_
    refine a_iincK (k0 := 1) dX9_cutAll_273 (by decide) 1 rfl (by decide) rfl ?_
    refine a_goto (tgt := 17) dX9_cutAll_276 rfl ?_
    refine a_sub [1, 0, 2] rfl ?_
    exact hrec _ _ _ _ h
  · rw [if_neg hc34] at h
    refine a_iconst (v := 4) dX9_cutAll_143 (by decide) ?_
    refine a_goto (tgt := 148) dX9_cutAll_144 rfl ?_
    obtain ⟨hz32, h⟩ := zif h
    refine a_iast dX9_cutAll_148 zs_50 (zin_vp hz32) ?_
    refine a_goto (tgt := 265) dX9_cutAll_149 rfl ?_
    refine a_aload_n dX9_cutAll_265 rfl 0 rfl ?_
    refine a_getq dX9_cutAll_266 G_X9_30 zs_48 rfl (rf_48_6 hR) ?_
    refine a_iload_n dX9_cutAll_269 rfl 1 rfl ?_
    refine a_lload dX9_cutAll_270 4 rfl ?_
    obtain ⟨hz33, h⟩ := zif h
    refine a_last dX9_cutAll_272 zs_52 (zin_vp hz33) ?_
    refine a_iincK (k0 := 1) dX9_cutAll_273 (by decide) 1 rfl (by decide) rfl ?_
    refine a_goto (tgt := 17) dX9_cutAll_276 rfl ?_
    refine a_sub [1, 0, 2] rfl ?_
    exact hrec _ _ _ _ h
set_option maxRecDepth 100000 in
theorem tX9_cutAll_17 {X : Nat × (Nat → Int32)} {F : zPF} {a b : Nat} {c : Option Nat} (hR : zRin F a b c) {r : zPI × zPL} {K : Int32 → zPI → zPL → Option (zPI × zPL)} (hK : ∀ (v1 : Int32) (I : zPI) (L : zPL), K v1 I L = some r → zAW zE0 X mX9_cutAll 2 279 [(0, zr 48), (1, zi v1)] [] (zS0, I, L, F) none (zS0, r.1, r.2, F)) : ∀ (n : Nat) (v1 : Int32) (v2 : Int32) (I : zPI) (L : zPL), fX9_cutAll_17 K n v1 v2 I L = some r → zAW zE0 X mX9_cutAll 2 17 [(0, zr 48), (1, zi v1), (2, zi v2)] [] (zS0, I, L, F) none (zS0, r.1, r.2, F) := by
  intro n
  induction n with
  | zero =>
    intro v1 v2 I L h
    rw [fX9_cutAll_17.eq_1] at h
    cases h
  | succ n ih =>
    intro v1 v2 I L h
    rw [fX9_cutAll_17.eq_2] at h
    refine a_iload_n dX9_cutAll_17 rfl 2 rfl ?_
    refine a_aload_n dX9_cutAll_18 rfl 0 rfl ?_
    refine a_geti dX9_cutAll_19 G_X9_145 zs_48 rfl ?_
    refine a_icmp_ge (tgt := 279) dX9_cutAll_22 rfl (fun hc38 => ?_) (fun hc38 => ?_)
    · rw [if_pos hc38] at h
      refine a_sub [0, 1] rfl ?_
      exact hK _ _ _ h
    · rw [if_neg hc38] at h
      refine a_aload_n dX9_cutAll_25 rfl 0 rfl ?_
      refine a_getq dX9_cutAll_26 G_X9_14 zs_48 rfl (rf_48_1 hR) ?_
      refine a_iload_n dX9_cutAll_29 rfl 2 rfl ?_
      obtain ⟨hz1, h⟩ := zif h
      refine a_iald dX9_cutAll_30 zs_49 (zin_vp hz1) ?_
      refine a_istore_n dX9_cutAll_31 rfl (by decide) rfl ?_
      refine a_iload_n dX9_cutAll_32 rfl 0 rfl ?_
      refine a_bipush (v := 10) dX9_cutAll_33 (by decide) ?_
      refine a_icmp_eq (tgt := 44) dX9_cutAll_35 rfl (fun hc37 => ?_) (fun hc37 => ?_)
      · rw [if_pos hc37] at h
        refine a_iincK (k0 := 1) dX9_cutAll_44 (by decide) 3 rfl (by decide) rfl ?_
        refine a_goto (tgt := 17) dX9_cutAll_47 rfl ?_
        refine a_sub [2, 3, 0] rfl ?_
        exact ih _ _ _ _ h
      · rw [if_neg hc37] at h
        refine a_iload_n dX9_cutAll_38 rfl 0 rfl ?_
        refine a_bipush (v := 32) dX9_cutAll_39 (by decide) ?_
        refine a_icmp_ne (tgt := 50) dX9_cutAll_41 rfl (fun hc36 => ?_) (fun hc36 => ?_)
        · rw [if_neg hc36] at h
          refine a_iload_n dX9_cutAll_50 rfl 3 rfl ?_
          refine a_istore dX9_cutAll_51 (by decide) rfl ?_
          refine a_lconst (v := 0) dX9_cutAll_53 (by decide) ?_
          refine a_lstore dX9_cutAll_54 (by decide) rfl ?_
          refine a_aload_n dX9_cutAll_56 rfl 3 rfl ?_
          refine a_getq dX9_cutAll_57 G_X9_27 zs_48 rfl (rf_48_5 hR) ?_
          refine a_iload_n dX9_cutAll_60 rfl 4 rfl ?_
          refine a_iload_n dX9_cutAll_61 rfl 5 rfl ?_
          obtain ⟨hz2, h⟩ := zif h
          refine a_iast dX9_cutAll_62 zs_51 (zin_vp hz2) ?_
          refine a_iload_n dX9_cutAll_63 rfl 2 rfl ?_
          refine a_callS dX9_cutAll_64 (tX9_isLetter hR _ _ rfl) csX9_isLetter zw1119 (Nat.le_of_ble_eq_true rfl) rfl (Nat.le_of_ble_eq_true rfl) ⟨Nat.le_refl _, Nat.le_refl _⟩ (fun hb3 => ?_)
          refine a_if_eq (tgt := 152) dX9_cutAll_67 rfl (fun hc35 => ?_) (fun hc35 => ?_)
          · rw [if_pos hc35] at h
            refine a_iload_n dX9_cutAll_152 rfl 2 rfl ?_
            refine a_callS dX9_cutAll_153 (tX9_isDigit hR _ _ rfl) csX9_isDigit zw1126 (Nat.le_of_ble_eq_true rfl) rfl (Nat.le_of_ble_eq_true rfl) ⟨Nat.le_refl _, Nat.le_refl _⟩ (fun hb4 => ?_)
            refine a_if_eq (tgt := 240) dX9_cutAll_156 rfl (fun hc22 => ?_) (fun hc22 => ?_)
            · rw [if_pos hc22] at h
              refine a_iload_n dX9_cutAll_240 rfl 2 rfl ?_
              refine a_i2l dX9_cutAll_241 ?_
              refine a_lstore dX9_cutAll_242 (by decide) rfl ?_
              refine a_aload_n dX9_cutAll_244 rfl 3 rfl ?_
              refine a_getq dX9_cutAll_245 G_X9_24 zs_48 rfl (rf_48_4 hR) ?_
              refine a_iload_n dX9_cutAll_248 rfl 4 rfl ?_
              refine a_iload_n dX9_cutAll_249 rfl 2 rfl ?_
              refine a_callS dX9_cutAll_250 (tX9_isSignOf hR _ _ rfl) csX9_isSignOf zw1131 (Nat.le_of_ble_eq_true rfl) rfl (Nat.le_of_ble_eq_true rfl) ⟨Nat.le_refl _, Nat.le_refl _⟩ (fun hb5 => ?_)
              refine a_if_eq (tgt := 260) dX9_cutAll_253 rfl (fun hc10 => ?_) (fun hc10 => ?_)
              · rw [if_pos hc10] at h
                refine a_iconst (v := 4) dX9_cutAll_260 (by decide) ?_
                obtain ⟨hz6, h⟩ := zif h
                refine a_iast dX9_cutAll_261 zs_50 (zin_vp hz6) ?_
                refine a_iincK (k0 := 1) dX9_cutAll_262 (by decide) 5 rfl (by decide) rfl ?_
                refine a_aload_n dX9_cutAll_265 rfl 4 rfl ?_
                refine a_getq dX9_cutAll_266 G_X9_30 zs_48 rfl (rf_48_6 hR) ?_
                refine a_iload_n dX9_cutAll_269 rfl 5 rfl ?_
                refine a_lload dX9_cutAll_270 1 rfl ?_
                obtain ⟨hz7, h⟩ := zif h
                refine a_last dX9_cutAll_272 zs_52 (zin_vp hz7) ?_
                refine a_iincK (k0 := 1) dX9_cutAll_273 (by decide) 5 rfl (by decide) rfl ?_
                refine a_goto (tgt := 17) dX9_cutAll_276 rfl ?_
                refine a_sub [5, 0, 1] rfl ?_
                exact ih _ _ _ _ h
              · rw [if_neg hc10] at h
                refine a_iconst (v := 3) dX9_cutAll_256 (by decide) ?_
                refine a_goto (tgt := 261) dX9_cutAll_257 rfl ?_
                obtain ⟨hz8, h⟩ := zif h
                refine a_iast dX9_cutAll_261 zs_50 (zin_vp hz8) ?_
                refine a_iincK (k0 := 1) dX9_cutAll_262 (by decide) 5 rfl (by decide) rfl ?_
                refine a_aload_n dX9_cutAll_265 rfl 4 rfl ?_
                refine a_getq dX9_cutAll_266 G_X9_30 zs_48 rfl (rf_48_6 hR) ?_
                refine a_iload_n dX9_cutAll_269 rfl 5 rfl ?_
                refine a_lload dX9_cutAll_270 1 rfl ?_
                obtain ⟨hz9, h⟩ := zif h
                refine a_last dX9_cutAll_272 zs_52 (zin_vp hz9) ?_
                refine a_iincK (k0 := 1) dX9_cutAll_273 (by decide) 5 rfl (by decide) rfl ?_
                refine a_goto (tgt := 17) dX9_cutAll_276 rfl ?_
                refine a_sub [5, 0, 1] rfl ?_
                exact ih _ _ _ _ h
            · rw [if_neg hc22] at h
              refine a_sub [3, 4, 5, 1, 0] rfl ?_
              refine tX9_cutAll_159 hR (fun v1 v2 v4 v5 I L h => ?_) zF _ _ _ _ _ _ h
              (try dsimp only at h)
              exact tX9_cutAll_218 hR ih h
          · rw [if_neg hc35] at h
            refine a_sub [3, 4, 5, 1, 0] rfl ?_
            refine tX9_cutAll_70 hR (fun v1 v2 v4 v5 I L h => ?_) zF _ _ _ _ _ _ h
            (try dsimp only at h)
            exact tX9_cutAll_129 hR ih h
        · rw [if_pos hc36] at h
          refine a_iincK (k0 := 1) dX9_cutAll_44 (by decide) 3 rfl (by decide) rfl ?_
          refine a_goto (tgt := 17) dX9_cutAll_47 rfl ?_
          refine a_sub [2, 3, 0] rfl ?_
          exact ih _ _ _ _ h
set_option maxRecDepth 100000 in
theorem tX9_cutAll {X : Nat × (Nat → Int32)} {I : zPI} {L : zPL} {F : zPF} {a b : Nat} {c : Option Nat} (hR : zRin F a b c) (r : zPI × zPL) (h : fX9_cutAll I L = some r) : zAM X mX9_cutAll 2 [zr 48] (zS0, I, L, F) none (zS0, r.1, r.2, F) := by
  refine zAM_of (by decide) (Nat.le_of_ble_eq_true rfl) ⟨fun _ => rfl, fun _ => rfl⟩ (Nat.le_refl _) (Nat.le_refl _) ?_
  unfold fX9_cutAll at h
  show zAW zE0 X mX9_cutAll 2 0 [(0, zr 48)] [] (zS0, I, L, F) none (zS0, r.1, r.2, F)
  refine a_aload_n dX9_cutAll_0 rfl 0 rfl ?_
  refine a_aload_n dX9_cutAll_1 rfl 0 rfl ?_
  refine a_geti dX9_cutAll_2 G_X9_11 zs_48 rfl ?_
  refine a_puti dX9_cutAll_5 F_X9_145 zs_48 rfl ⟨rfl, rfl⟩ ?_
  refine a_aload_n dX9_cutAll_8 rfl 0 rfl ?_
  refine a_iconst (v := 0) dX9_cutAll_9 (by decide) ?_
  refine a_puti dX9_cutAll_10 F_X9_11 zs_48 rfl ⟨rfl, rfl⟩ ?_
  refine a_iconst (v := 0) dX9_cutAll_13 (by decide) ?_
  refine a_istore_n dX9_cutAll_14 rfl (by decide) rfl ?_
  refine a_iconst (v := 0) dX9_cutAll_15 (by decide) ?_
  refine a_istore_n dX9_cutAll_16 rfl (by decide) rfl ?_
  refine a_sub [2, 1, 0] rfl ?_
  refine tX9_cutAll_17 hR (fun v1 I L h => ?_) zF _ _ _ _ h
  (try dsimp only at h)
  refine a_aload_n dX9_cutAll_279 rfl 0 rfl ?_
  refine a_getq dX9_cutAll_280 G_X9_24 zs_48 rfl (rf_48_4 hR) ?_
  refine a_iload_n dX9_cutAll_283 rfl 1 rfl ?_
  refine a_iconst (v := 0) dX9_cutAll_284 (by decide) ?_
  obtain ⟨hz39, h⟩ := zif h
  refine a_iast dX9_cutAll_285 zs_50 (zin_vp hz39) ?_
  refine a_aload_n dX9_cutAll_286 rfl 0 rfl ?_
  refine a_getq dX9_cutAll_287 G_X9_27 zs_48 rfl (rf_48_5 hR) ?_
  refine a_iload_n dX9_cutAll_290 rfl 1 rfl ?_
  refine a_aload_n dX9_cutAll_291 rfl 0 rfl ?_
  refine a_geti dX9_cutAll_292 G_X9_145 zs_48 rfl ?_
  obtain ⟨hz40, h⟩ := zif h
  refine a_iast dX9_cutAll_295 zs_51 (zin_vp hz40) ?_
  refine a_aload_n dX9_cutAll_296 rfl 0 rfl ?_
  refine a_iconst (v := 0) dX9_cutAll_297 (by decide) ?_
  refine a_puti dX9_cutAll_298 F_X9_164 zs_48 rfl ⟨rfl, rfl⟩ ?_
  refine a_aload_n dX9_cutAll_301 rfl 0 rfl ?_
  refine a_iconst (v := 0) dX9_cutAll_302 (by decide) ?_
  refine a_puti dX9_cutAll_303 F_X9_167 zs_48 rfl ⟨rfl, rfl⟩ ?_
  cases h
  exact a_vret dX9_cutAll_306 rfl
def fX9_dy_102 (v1 : Int32) (s0 : Int32) : Int32 := (if v1 ≤ 8 then s0 else (-s0))
def fX9_dy_29 (v1 : Int32) (s0 : Int32) : Int32 := (if 2 ≤ s0 then (if s0 = 2 then fX9_dy_102 v1 15 else (if s0 = 3 then fX9_dy_102 v1 13 else (if s0 = 4 then fX9_dy_102 v1 11 else (if s0 = 5 then fX9_dy_102 v1 9 else (if s0 = 6 then fX9_dy_102 v1 6 else (if s0 = 7 then fX9_dy_102 v1 3 else fX9_dy_102 v1 0)))))) else fX9_dy_102 v1 16)
def fX9_dy_14 (s0 : Int32) : Int32 := (if s0 ≤ 8 then fX9_dy_29 s0 s0 else fX9_dy_29 s0 (16 - s0))
def fX9_dy (p0 : Int32) : Int32 := (if p0 ≤ 16 then fX9_dy_14 p0 else fX9_dy_14 (32 - p0))
set_option maxRecDepth 100000 in
theorem tX9_dy_102 {X : Nat × (Nat → Int32)} {I : zPI} {L : zPL} {F : zPF} {a b : Nat} {c : Option Nat} (hR : zRin F a b c) {r : Int32} {v1 : Int32} {s0 : Int32} (h : fX9_dy_102 v1 s0 = r) : zAW zE0 X mX9_dy 0 102 [(1, zi v1)] [zi s0] (zS0, I, L, F) (some (zi r)) (zS0, I, L, F) := by
  unfold fX9_dy_102 at h
  refine a_istore_n dX9_dy_102 rfl (by decide) rfl ?_
  refine a_iload_n dX9_dy_103 rfl 1 rfl ?_
  refine a_bipush (v := 8) dX9_dy_104 (by decide) ?_
  refine a_icmp_le (tgt := 114) dX9_dy_106 rfl (fun hc1 => ?_) (fun hc1 => ?_)
  · rw [if_pos hc1] at h
    refine a_iload_n dX9_dy_114 rfl 0 rfl ?_
    subst h
    exact a_iret dX9_dy_115 (by intro h; cases h) (znar_i rfl)
  · rw [if_neg hc1] at h
    refine a_iload_n dX9_dy_109 rfl 0 rfl ?_
    refine a_ineg dX9_dy_110 ?_
    refine a_goto (tgt := 115) dX9_dy_111 rfl ?_
    subst h
    exact a_iret dX9_dy_115 (by intro h; cases h) (znar_i rfl)
set_option maxRecDepth 100000 in
theorem tX9_dy_29 {X : Nat × (Nat → Int32)} {I : zPI} {L : zPL} {F : zPF} {a b : Nat} {c : Option Nat} (hR : zRin F a b c) {r : Int32} {v1 : Int32} {s0 : Int32} (h : fX9_dy_29 v1 s0 = r) : zAW zE0 X mX9_dy 0 29 [(1, zi v1)] [zi s0] (zS0, I, L, F) (some (zi r)) (zS0, I, L, F) := by
  unfold fX9_dy_29 at h
  refine a_istore_n dX9_dy_29 rfl (by decide) rfl ?_
  refine a_iload_n dX9_dy_30 rfl 0 rfl ?_
  refine a_iconst (v := 2) dX9_dy_31 (by decide) ?_
  refine a_icmp_ge (tgt := 40) dX9_dy_32 rfl (fun hc8 => ?_) (fun hc8 => ?_)
  · rw [if_pos hc8] at h
    refine a_iload_n dX9_dy_40 rfl 0 rfl ?_
    refine a_iconst (v := 2) dX9_dy_41 (by decide) ?_
    refine a_icmp_ne (tgt := 50) dX9_dy_42 rfl (fun hc7 => ?_) (fun hc7 => ?_)
    · rw [if_neg hc7] at h
      refine a_iload_n dX9_dy_50 rfl 0 rfl ?_
      refine a_iconst (v := 3) dX9_dy_51 (by decide) ?_
      refine a_icmp_ne (tgt := 60) dX9_dy_52 rfl (fun hc6 => ?_) (fun hc6 => ?_)
      · rw [if_neg hc6] at h
        refine a_iload_n dX9_dy_60 rfl 0 rfl ?_
        refine a_iconst (v := 4) dX9_dy_61 (by decide) ?_
        refine a_icmp_ne (tgt := 70) dX9_dy_62 rfl (fun hc5 => ?_) (fun hc5 => ?_)
        · rw [if_neg hc5] at h
          refine a_iload_n dX9_dy_70 rfl 0 rfl ?_
          refine a_iconst (v := 5) dX9_dy_71 (by decide) ?_
          refine a_icmp_ne (tgt := 80) dX9_dy_72 rfl (fun hc4 => ?_) (fun hc4 => ?_)
          · rw [if_neg hc4] at h
            refine a_iload_n dX9_dy_80 rfl 0 rfl ?_
            refine a_bipush (v := 6) dX9_dy_81 (by decide) ?_
            refine a_icmp_ne (tgt := 91) dX9_dy_83 rfl (fun hc3 => ?_) (fun hc3 => ?_)
            · rw [if_neg hc3] at h
              refine a_iload_n dX9_dy_91 rfl 0 rfl ?_
              refine a_bipush (v := 7) dX9_dy_92 (by decide) ?_
              refine a_icmp_ne (tgt := 101) dX9_dy_94 rfl (fun hc2 => ?_) (fun hc2 => ?_)
              · rw [if_neg hc2] at h
                refine a_iconst (v := 0) dX9_dy_101 (by decide) ?_
                refine a_sub [1] rfl ?_
                exact tX9_dy_102 hR h
              · rw [if_pos hc2] at h
                refine a_iconst (v := 3) dX9_dy_97 (by decide) ?_
                refine a_goto (tgt := 102) dX9_dy_98 rfl ?_
                refine a_sub [1] rfl ?_
                exact tX9_dy_102 hR h
            · rw [if_pos hc3] at h
              refine a_bipush (v := 6) dX9_dy_86 (by decide) ?_
              refine a_goto (tgt := 102) dX9_dy_88 rfl ?_
              refine a_sub [1] rfl ?_
              exact tX9_dy_102 hR h
          · rw [if_pos hc4] at h
            refine a_bipush (v := 9) dX9_dy_75 (by decide) ?_
            refine a_goto (tgt := 102) dX9_dy_77 rfl ?_
            refine a_sub [1] rfl ?_
            exact tX9_dy_102 hR h
        · rw [if_pos hc5] at h
          refine a_bipush (v := 11) dX9_dy_65 (by decide) ?_
          refine a_goto (tgt := 102) dX9_dy_67 rfl ?_
          refine a_sub [1] rfl ?_
          exact tX9_dy_102 hR h
      · rw [if_pos hc6] at h
        refine a_bipush (v := 13) dX9_dy_55 (by decide) ?_
        refine a_goto (tgt := 102) dX9_dy_57 rfl ?_
        refine a_sub [1] rfl ?_
        exact tX9_dy_102 hR h
    · rw [if_pos hc7] at h
      refine a_bipush (v := 15) dX9_dy_45 (by decide) ?_
      refine a_goto (tgt := 102) dX9_dy_47 rfl ?_
      refine a_sub [1] rfl ?_
      exact tX9_dy_102 hR h
  · rw [if_neg hc8] at h
    refine a_bipush (v := 16) dX9_dy_35 (by decide) ?_
    refine a_goto (tgt := 102) dX9_dy_37 rfl ?_
    refine a_sub [1] rfl ?_
    exact tX9_dy_102 hR h
set_option maxRecDepth 100000 in
theorem tX9_dy_14 {X : Nat × (Nat → Int32)} {I : zPI} {L : zPL} {F : zPF} {a b : Nat} {c : Option Nat} (hR : zRin F a b c) {r : Int32} {s0 : Int32} (h : fX9_dy_14 s0 = r) : zAW zE0 X mX9_dy 0 14 [] [zi s0] (zS0, I, L, F) (some (zi r)) (zS0, I, L, F) := by
  unfold fX9_dy_14 at h
  refine a_istore_n dX9_dy_14 rfl (by decide) rfl ?_
  refine a_iload_n dX9_dy_15 rfl 0 rfl ?_
  refine a_bipush (v := 8) dX9_dy_16 (by decide) ?_
  refine a_icmp_le (tgt := 28) dX9_dy_18 rfl (fun hc9 => ?_) (fun hc9 => ?_)
  · rw [if_pos hc9] at h
    refine a_iload_n dX9_dy_28 rfl 0 rfl ?_
    exact tX9_dy_29 hR h
  · rw [if_neg hc9] at h
    refine a_bipush (v := 16) dX9_dy_21 (by decide) ?_
    refine a_iload_n dX9_dy_23 rfl 0 rfl ?_
    refine a_isub dX9_dy_24 ?_
    refine a_goto (tgt := 29) dX9_dy_25 rfl ?_
    exact tX9_dy_29 hR h
set_option maxRecDepth 100000 in
theorem tX9_dy {X : Nat × (Nat → Int32)} {I : zPI} {L : zPL} {F : zPF} {a b : Nat} {c : Option Nat} (hR : zRin F a b c) (p0 : Int32) (r : Int32) (h : fX9_dy p0 = r) : zAM X mX9_dy 0 [zi p0] (zS0, I, L, F) (some (zi r)) (zS0, I, L, F) := by
  refine zAM_of (by decide) (Nat.le_of_ble_eq_true rfl) ⟨fun h => (by cases h), fun h => (by cases h)⟩ (Nat.le_refl _) (Nat.le_refl _) ?_
  unfold fX9_dy at h
  show zAW zE0 X mX9_dy 0 0 [(0, zi p0)] [] (zS0, I, L, F) (some (zi r)) (zS0, I, L, F)
  refine a_iload_n dX9_dy_0 rfl 0 rfl ?_
  refine a_bipush (v := 16) dX9_dy_1 (by decide) ?_
  refine a_icmp_le (tgt := 13) dX9_dy_3 rfl (fun hc10 => ?_) (fun hc10 => ?_)
  · rw [if_pos hc10] at h
    refine a_iload_n dX9_dy_13 rfl 0 rfl ?_
    refine a_sub [] rfl ?_
    exact tX9_dy_14 hR h
  · rw [if_neg hc10] at h
    refine a_bipush (v := 32) dX9_dy_6 (by decide) ?_
    refine a_iload_n dX9_dy_8 rfl 0 rfl ?_
    refine a_isub dX9_dy_9 ?_
    refine a_goto (tgt := 14) dX9_dy_10 rfl ?_
    refine a_sub [] rfl ?_
    exact tX9_dy_14 hR h
def fX9_dx (p0 : Int32) : Int32 := (fX9_dy ((p0 - 8) &&& 31))
set_option maxRecDepth 100000 in
theorem tX9_dx {X : Nat × (Nat → Int32)} {I : zPI} {L : zPL} {F : zPF} {a b : Nat} {c : Option Nat} (hR : zRin F a b c) (p0 : Int32) (r : Int32) (h : fX9_dx p0 = r) : zAM X mX9_dx 1 [zi p0] (zS0, I, L, F) (some (zi r)) (zS0, I, L, F) := by
  refine zAM_of (by decide) (Nat.le_of_ble_eq_true rfl) ⟨fun h => (by cases h), fun h => (by cases h)⟩ (Nat.le_refl _) (Nat.le_refl _) ?_
  unfold fX9_dx at h
  show zAW zE0 X mX9_dx 1 0 [(0, zi p0)] [] (zS0, I, L, F) (some (zi r)) (zS0, I, L, F)
  refine a_iload_n dX9_dx_0 rfl 0 rfl ?_
  refine a_bipush (v := 8) dX9_dx_1 (by decide) ?_
  refine a_isub dX9_dx_3 ?_
  refine a_bipush (v := 31) dX9_dx_4 (by decide) ?_
  refine a_iand dX9_dx_6 ?_
  refine a_callS dX9_dx_7 (tX9_dy hR _ _ rfl) csX9_dy zw1293 (Nat.le_of_ble_eq_true rfl) rfl (Nat.le_of_ble_eq_true rfl) ⟨Nat.le_refl _, Nat.le_refl _⟩ (fun hb1 => ?_)
  subst h
  exact a_iret dX9_dx_10 (by intro h; cases h) (znar_i rfl)
def fX9_emit (I : zPI) (p1 : Int32) (p2 : Int32) (p3 : Int32) : Option (Int32 × zPI) := (if zin ((2200 * (I 48 14)) + (I 48 15)) 4400 then (if zin ((2200 * (I 48 14)) + (I 48 15)) 4400 then (if zin ((2200 * (I 48 14)) + (I 48 15)) 4400 then some ((2200 * (I 48 14)) + (I 48 15), zu (zu (zu (zu I 54 ((2200 * (I 48 14)) + (I 48 15)).toNatClampNeg p1) 55 ((2200 * (I 48 14)) + (I 48 15)).toNatClampNeg p2) 56 ((2200 * (I 48 14)) + (I 48 15)).toNatClampNeg p3) 48 15 (((zu (zu (zu I 54 ((2200 * (I 48 14)) + (I 48 15)).toNatClampNeg p1) 55 ((2200 * (I 48 14)) + (I 48 15)).toNatClampNeg p2) 56 ((2200 * (I 48 14)) + (I 48 15)).toNatClampNeg p3) 48 15) + 1)) else none) else none) else none)
set_option maxRecDepth 100000 in
theorem tX9_emit {X : Nat × (Nat → Int32)} {I : zPI} {L : zPL} {F : zPF} {a b : Nat} {c : Option Nat} (hR : zRin F a b c) (p1 : Int32) (p2 : Int32) (p3 : Int32) (r : Int32 × zPI) (h : fX9_emit I p1 p2 p3 = some r) : zAM X mX9_emit 0 [zr 48, zi p1, zi p2, zi p3] (zS0, I, L, F) (some (zi r.1)) (zS0, r.2, L, F) := by
  refine zAM_of (by decide) (Nat.le_of_ble_eq_true rfl) ⟨fun h => (by cases h), fun h => (by cases h)⟩ (Nat.le_refl _) (Nat.le_refl _) ?_
  unfold fX9_emit at h
  show zAW zE0 X mX9_emit 0 0 [(0, zr 48), (1, zi p1), (2, zi p2), (3, zi p3)] [] (zS0, I, L, F) (some (zi r.1)) (zS0, r.2, L, F)
  refine a_sipush (v := 2200) dX9_emit_0 (by decide) ?_
  refine a_aload_n dX9_emit_3 rfl 0 rfl ?_
  refine a_geti dX9_emit_4 G_X9_183 zs_48 rfl ?_
  refine a_imul dX9_emit_7 ?_
  refine a_aload_n dX9_emit_8 rfl 0 rfl ?_
  refine a_geti dX9_emit_9 G_X9_186 zs_48 rfl ?_
  refine a_iadd dX9_emit_12 ?_
  refine a_istore dX9_emit_13 (by decide) rfl ?_
  refine a_aload_n dX9_emit_15 rfl 1 rfl ?_
  refine a_getq dX9_emit_16 G_X9_71 zs_48 rfl (rf_48_10 hR) ?_
  refine a_iload dX9_emit_19 0 rfl ?_
  refine a_iload_n dX9_emit_21 rfl 2 rfl ?_
  obtain ⟨hz1, h⟩ := zif h
  refine a_iast dX9_emit_22 zs_54 (zin_vp hz1) ?_
  refine a_aload_n dX9_emit_23 rfl 1 rfl ?_
  refine a_getq dX9_emit_24 G_X9_74 zs_48 rfl (rf_48_11 hR) ?_
  refine a_iload dX9_emit_27 0 rfl ?_
  refine a_iload_n dX9_emit_29 rfl 3 rfl ?_
  obtain ⟨hz2, h⟩ := zif h
  refine a_iast dX9_emit_30 zs_55 (zin_vp hz2) ?_
  refine a_aload_n dX9_emit_31 rfl 1 rfl ?_
  refine a_getq dX9_emit_32 G_X9_77 zs_48 rfl (rf_48_12 hR) ?_
  refine a_iload dX9_emit_35 0 rfl ?_
  refine a_iload_n dX9_emit_37 rfl 4 rfl ?_
  obtain ⟨hz3, h⟩ := zif h
  refine a_iast dX9_emit_38 zs_56 (zin_vp hz3) ?_
  refine a_aload_n dX9_emit_39 rfl 1 rfl ?_
  refine a_dup dX9_emit_40 rfl ?_
  refine a_geti dX9_emit_41 G_X9_186 zs_48 rfl ?_
  refine a_iconst (v := 1) dX9_emit_44 (by decide) ?_
  refine a_iadd dX9_emit_45 ?_
  refine a_puti dX9_emit_46 F_X9_186 zs_48 rfl ⟨rfl, rfl⟩ ?_
  refine a_iload dX9_emit_49 0 rfl ?_
  cases h
  exact a_iret dX9_emit_51 (by intro h; cases h) (znar_i rfl)
def fX9_ended (I : zPI) (p1 : Int32) (p2 : Int32) (p3 : Int32) : Option (zPI) := (if p1 = 0 then (if zin p2 9 then (if zin (2 * p2) 18 then (if zin ((2 * p2) + 1) 18 then some (zu (zu (zu I 58 p2.toNatClampNeg 1) 59 (2 * p2).toNatClampNeg 1) 59 ((2 * p2) + 1).toNatClampNeg 1) else none) else none) else none) else (if p1 = 1 then (if zin p2 9 then (if zin (2 * p2) 18 then (if zin ((2 * p2) + 1) 18 then some (zu (zu (zu I 58 p2.toNatClampNeg 0) 59 (2 * p2).toNatClampNeg 0) 59 ((2 * p2) + 1).toNatClampNeg 0) else none) else none) else none) else (if p1 = 2 then (if zin p2 3 then some (zu I 61 p2.toNatClampNeg p3) else none) else (if zin p2 18 then (if zin p2 18 then (if zin (p2 / 2) 9 then (if ((zu (zu I 59 p2.toNatClampNeg 0) 60 p2.toNatClampNeg 0) 58 (p2 / 2).toNatClampNeg) = 2 then (if zin (2 * (p2 / 2)) 18 then (if ((zu (zu I 59 p2.toNatClampNeg 0) 60 p2.toNatClampNeg 0) 59 (2 * (p2 / 2)).toNatClampNeg) = 2 then (if zin (p2 / 2) 9 then (if zin (p2 / 2) 9 then some (zu (zu (zu I 59 p2.toNatClampNeg 0) 60 p2.toNatClampNeg 0) 58 (p2 / 2).toNatClampNeg ((zu (zu I 59 p2.toNatClampNeg 0) 60 p2.toNatClampNeg 0) 58 (p2 / 2).toNatClampNeg)) else none) else none) else (if zin ((2 * (p2 / 2)) + 1) 18 then (if ((zu (zu I 59 p2.toNatClampNeg 0) 60 p2.toNatClampNeg 0) 59 ((2 * (p2 / 2)) + 1).toNatClampNeg) = 2 then (if zin (p2 / 2) 9 then (if zin (p2 / 2) 9 then some (zu (zu (zu I 59 p2.toNatClampNeg 0) 60 p2.toNatClampNeg 0) 58 (p2 / 2).toNatClampNeg ((zu (zu I 59 p2.toNatClampNeg 0) 60 p2.toNatClampNeg 0) 58 (p2 / 2).toNatClampNeg)) else none) else none) else (if zin (p2 / 2) 9 then some (zu (zu (zu I 59 p2.toNatClampNeg 0) 60 p2.toNatClampNeg 0) 58 (p2 / 2).toNatClampNeg 0) else none)) else none)) else none) else (if zin (p2 / 2) 9 then (if zin (p2 / 2) 9 then some (zu (zu (zu I 59 p2.toNatClampNeg 0) 60 p2.toNatClampNeg 0) 58 (p2 / 2).toNatClampNeg ((zu (zu I 59 p2.toNatClampNeg 0) 60 p2.toNatClampNeg 0) 58 (p2 / 2).toNatClampNeg)) else none) else none)) else none) else none) else none))))
set_option maxRecDepth 100000 in
theorem tX9_ended {X : Nat × (Nat → Int32)} {I : zPI} {L : zPL} {F : zPF} {a b : Nat} {c : Option Nat} (hR : zRin F a b c) (p1 : Int32) (p2 : Int32) (p3 : Int32) (r : zPI) (h : fX9_ended I p1 p2 p3 = some r) : zAM X mX9_ended 0 [zr 48, zi p1, zi p2, zi p3] (zS0, I, L, F) none (zS0, r, L, F) := by
  refine zAM_of (by decide) (Nat.le_of_ble_eq_true rfl) ⟨fun _ => rfl, fun _ => rfl⟩ (Nat.le_refl _) (Nat.le_refl _) ?_
  unfold fX9_ended at h
  show zAW zE0 X mX9_ended 0 0 [(0, zr 48), (1, zi p1), (2, zi p2), (3, zi p3)] [] (zS0, I, L, F) none (zS0, r, L, F)
  refine a_iload_n dX9_ended_0 rfl 1 rfl ?_
  refine a_if_ne (tgt := 34) dX9_ended_1 rfl (fun hc25 => ?_) (fun hc25 => ?_)
  · rw [if_neg hc25] at h
    refine a_iload_n dX9_ended_34 rfl 1 rfl ?_
    refine a_iconst (v := 1) dX9_ended_35 (by decide) ?_
    refine a_icmp_ne (tgt := 69) dX9_ended_36 rfl (fun hc21 => ?_) (fun hc21 => ?_)
    · rw [if_neg hc21] at h
      refine a_iload_n dX9_ended_69 rfl 1 rfl ?_
      refine a_iconst (v := 2) dX9_ended_70 (by decide) ?_
      refine a_icmp_ne (tgt := 84) dX9_ended_71 rfl (fun hc17 => ?_) (fun hc17 => ?_)
      · rw [if_neg hc17] at h
        refine a_aload_n dX9_ended_84 rfl 0 rfl ?_
        refine a_getq dX9_ended_85 G_X9_86 zs_48 rfl (rf_48_20 hR) ?_
        refine a_iload_n dX9_ended_88 rfl 2 rfl ?_
        refine a_iconst (v := 0) dX9_ended_89 (by decide) ?_
        obtain ⟨hz1, h⟩ := zif h
        refine a_iast dX9_ended_90 zs_59 (zin_vp hz1) ?_
        refine a_aload_n dX9_ended_91 rfl 0 rfl ?_
        refine a_getq dX9_ended_92 G_X9_89 zs_48 rfl (rf_48_21 hR) ?_
        refine a_iload_n dX9_ended_95 rfl 2 rfl ?_
        refine a_iconst (v := 0) dX9_ended_96 (by decide) ?_
        obtain ⟨hz2, h⟩ := zif h
        refine a_iast dX9_ended_97 zs_60 (zin_vp hz2) ?_
        refine a_iload_n dX9_ended_98 rfl 2 rfl ?_
        refine a_iconst (v := 2) dX9_ended_99 (by decide) ?_
        refine a_idiv dX9_ended_100 (by decide) ?_
        refine a_istore dX9_ended_101 (by decide) rfl ?_
        refine a_aload_n dX9_ended_103 rfl 1 rfl ?_
        refine a_getq dX9_ended_104 G_X9_83 zs_48 rfl (rf_48_19 hR) ?_
        refine a_iload dX9_ended_107 0 rfl ?_
        refine a_aload_n dX9_ended_109 rfl 1 rfl ?_
        refine a_getq dX9_ended_110 G_X9_83 zs_48 rfl (rf_48_19 hR) ?_
        refine a_iload dX9_ended_113 0 rfl ?_
        obtain ⟨hz3, h⟩ := zif h
        refine a_iald dX9_ended_115 zs_58 (zin_vp hz3) ?_
        refine a_iconst (v := 2) dX9_ended_116 (by decide) ?_
        refine a_icmp_ne (tgt := 152) dX9_ended_117 rfl (fun hc15 => ?_) (fun hc15 => ?_)
        · rw [if_neg hc15] at h
          refine a_aload_n dX9_ended_152 rfl 1 rfl ?_
          refine a_getq dX9_ended_153 G_X9_83 zs_48 rfl (rf_48_19 hR) ?_
          refine a_iload dX9_ended_156 0 rfl ?_
          obtain ⟨hz4, h⟩ := zif h
          refine a_iald dX9_ended_158 zs_58 (zin_vp hz4) ?_
          obtain ⟨hz5, h⟩ := zif h
          refine a_iast dX9_ended_159 zs_58 (zin_vp hz5) ?_
          cases h
          exact a_vret dX9_ended_160 rfl
        · rw [if_pos hc15] at h
          refine a_aload_n dX9_ended_120 rfl 1 rfl ?_
          refine a_getq dX9_ended_121 G_X9_86 zs_48 rfl (rf_48_20 hR) ?_
          refine a_iconst (v := 2) dX9_ended_124 (by decide) ?_
          refine a_iload dX9_ended_125 0 rfl ?_
          refine a_imul dX9_ended_127 ?_
          obtain ⟨hz6, h⟩ := zif h
          refine a_iald dX9_ended_128 zs_59 (zin_vp hz6) ?_
          refine a_iconst (v := 2) dX9_ended_129 (by decide) ?_
          refine a_icmp_eq (tgt := 152) dX9_ended_130 rfl (fun hc14 => ?_) (fun hc14 => ?_)
          · rw [if_pos hc14] at h
            refine a_aload_n dX9_ended_152 rfl 1 rfl ?_
            refine a_getq dX9_ended_153 G_X9_83 zs_48 rfl (rf_48_19 hR) ?_
            refine a_iload dX9_ended_156 0 rfl ?_
            obtain ⟨hz7, h⟩ := zif h
            refine a_iald dX9_ended_158 zs_58 (zin_vp hz7) ?_
            obtain ⟨hz8, h⟩ := zif h
            refine a_iast dX9_ended_159 zs_58 (zin_vp hz8) ?_
            cases h
            exact a_vret dX9_ended_160 rfl
          · rw [if_neg hc14] at h
            refine a_aload_n dX9_ended_133 rfl 1 rfl ?_
            refine a_getq dX9_ended_134 G_X9_86 zs_48 rfl (rf_48_20 hR) ?_
            refine a_iconst (v := 2) dX9_ended_137 (by decide) ?_
            refine a_iload dX9_ended_138 0 rfl ?_
            refine a_imul dX9_ended_140 ?_
            refine a_iconst (v := 1) dX9_ended_141 (by decide) ?_
            refine a_iadd dX9_ended_142 ?_
            obtain ⟨hz9, h⟩ := zif h
            refine a_iald dX9_ended_143 zs_59 (zin_vp hz9) ?_
            refine a_iconst (v := 2) dX9_ended_144 (by decide) ?_
            refine a_icmp_eq (tgt := 152) dX9_ended_145 rfl (fun hc13 => ?_) (fun hc13 => ?_)
            · rw [if_pos hc13] at h
              refine a_aload_n dX9_ended_152 rfl 1 rfl ?_
              refine a_getq dX9_ended_153 G_X9_83 zs_48 rfl (rf_48_19 hR) ?_
              refine a_iload dX9_ended_156 0 rfl ?_
              obtain ⟨hz10, h⟩ := zif h
              refine a_iald dX9_ended_158 zs_58 (zin_vp hz10) ?_
              obtain ⟨hz11, h⟩ := zif h
              refine a_iast dX9_ended_159 zs_58 (zin_vp hz11) ?_
              cases h
              exact a_vret dX9_ended_160 rfl
            · rw [if_neg hc13] at h
              refine a_iconst (v := 0) dX9_ended_148 (by decide) ?_
              refine a_goto (tgt := 159) dX9_ended_149 rfl ?_
              obtain ⟨hz12, h⟩ := zif h
              refine a_iast dX9_ended_159 zs_58 (zin_vp hz12) ?_
              cases h
              exact a_vret dX9_ended_160 rfl
      · rw [if_pos hc17] at h
        refine a_aload_n dX9_ended_74 rfl 0 rfl ?_
        refine a_getq dX9_ended_75 G_X9_92 zs_48 rfl (rf_48_22 hR) ?_
        refine a_iload_n dX9_ended_78 rfl 2 rfl ?_
        refine a_iload_n dX9_ended_79 rfl 3 rfl ?_
        obtain ⟨hz16, h⟩ := zif h
        refine a_iast dX9_ended_80 zs_61 (zin_vp hz16) ?_
        refine a_goto (tgt := 160) dX9_ended_81 rfl ?_
        cases h
        exact a_vret dX9_ended_160 rfl
    · rw [if_pos hc21] at h
      refine a_aload_n dX9_ended_39 rfl 0 rfl ?_
      refine a_getq dX9_ended_40 G_X9_83 zs_48 rfl (rf_48_19 hR) ?_
      refine a_iload_n dX9_ended_43 rfl 2 rfl ?_
      refine a_iconst (v := 0) dX9_ended_44 (by decide) ?_
      obtain ⟨hz18, h⟩ := zif h
      refine a_iast dX9_ended_45 zs_58 (zin_vp hz18) ?_
      refine a_aload_n dX9_ended_46 rfl 0 rfl ?_
      refine a_getq dX9_ended_47 G_X9_86 zs_48 rfl (rf_48_20 hR) ?_
      refine a_iconst (v := 2) dX9_ended_50 (by decide) ?_
      refine a_iload_n dX9_ended_51 rfl 2 rfl ?_
      refine a_imul dX9_ended_52 ?_
      refine a_iconst (v := 0) dX9_ended_53 (by decide) ?_
      obtain ⟨hz19, h⟩ := zif h
      refine a_iast dX9_ended_54 zs_59 (zin_vp hz19) ?_
      refine a_aload_n dX9_ended_55 rfl 0 rfl ?_
      refine a_getq dX9_ended_56 G_X9_86 zs_48 rfl (rf_48_20 hR) ?_
      refine a_iconst (v := 2) dX9_ended_59 (by decide) ?_
      refine a_iload_n dX9_ended_60 rfl 2 rfl ?_
      refine a_imul dX9_ended_61 ?_
      refine a_iconst (v := 1) dX9_ended_62 (by decide) ?_
      refine a_iadd dX9_ended_63 ?_
      refine a_iconst (v := 0) dX9_ended_64 (by decide) ?_
      obtain ⟨hz20, h⟩ := zif h
      refine a_iast dX9_ended_65 zs_59 (zin_vp hz20) ?_
      refine a_goto (tgt := 160) dX9_ended_66 rfl ?_
      cases h
      exact a_vret dX9_ended_160 rfl
  · rw [if_pos hc25] at h
    refine a_aload_n dX9_ended_4 rfl 0 rfl ?_
    refine a_getq dX9_ended_5 G_X9_83 zs_48 rfl (rf_48_19 hR) ?_
    refine a_iload_n dX9_ended_8 rfl 2 rfl ?_
    refine a_iconst (v := 1) dX9_ended_9 (by decide) ?_
    obtain ⟨hz22, h⟩ := zif h
    refine a_iast dX9_ended_10 zs_58 (zin_vp hz22) ?_
    refine a_aload_n dX9_ended_11 rfl 0 rfl ?_
    refine a_getq dX9_ended_12 G_X9_86 zs_48 rfl (rf_48_20 hR) ?_
    refine a_iconst (v := 2) dX9_ended_15 (by decide) ?_
    refine a_iload_n dX9_ended_16 rfl 2 rfl ?_
    refine a_imul dX9_ended_17 ?_
    refine a_iconst (v := 1) dX9_ended_18 (by decide) ?_
    obtain ⟨hz23, h⟩ := zif h
    refine a_iast dX9_ended_19 zs_59 (zin_vp hz23) ?_
    refine a_aload_n dX9_ended_20 rfl 0 rfl ?_
    refine a_getq dX9_ended_21 G_X9_86 zs_48 rfl (rf_48_20 hR) ?_
    refine a_iconst (v := 2) dX9_ended_24 (by decide) ?_
    refine a_iload_n dX9_ended_25 rfl 2 rfl ?_
    refine a_imul dX9_ended_26 ?_
    refine a_iconst (v := 1) dX9_ended_27 (by decide) ?_
    refine a_iadd dX9_ended_28 ?_
    refine a_iconst (v := 1) dX9_ended_29 (by decide) ?_
    obtain ⟨hz24, h⟩ := zif h
    refine a_iast dX9_ended_30 zs_59 (zin_vp hz24) ?_
    refine a_goto (tgt := 160) dX9_ended_31 rfl ?_
    cases h
    exact a_vret dX9_ended_160 rfl
def fX9_gives_9 (K : zPI → Option (zPI)) : Nat → Int32 → Int32 → zPI → Option (zPI)
  | 0, _, _, _ => none
  | n + 1, v1, v2, I => (if (I 48 18) ≤ v2 then K I else (if zin v2 24 then (if (I 62 v2.toNatClampNeg) = v1 then (if zin v2 24 then fX9_gives_9 K n v1 (v2 + 1) (zu I 62 v2.toNatClampNeg (-1)) else none) else (if zin v2 24 then (if zin v2 24 then fX9_gives_9 K n v1 (v2 + 1) (zu I 62 v2.toNatClampNeg (I 62 v2.toNatClampNeg)) else none) else none)) else none))
def fX9_gives (I : zPI) (p1 : Int32) : Option (zPI) := (if zin p1 24 then fX9_gives_9 (fun I => some (I)) zF p1 0 (zu I 63 p1.toNatClampNeg 0) else none)
set_option maxRecDepth 100000 in
theorem tX9_gives_9 {X : Nat × (Nat → Int32)} {L : zPL} {F : zPF} {a b : Nat} {c : Option Nat} (hR : zRin F a b c) {r : zPI} {K : zPI → Option (zPI)} (hK : ∀ (I : zPI), K I = some r → zAW zE0 X mX9_gives 0 49 [] [] (zS0, I, L, F) none (zS0, r, L, F)) : ∀ (n : Nat) (v1 : Int32) (v2 : Int32) (I : zPI), fX9_gives_9 K n v1 v2 I = some r → zAW zE0 X mX9_gives 0 9 [(0, zr 48), (1, zi v1), (2, zi v2)] [] (zS0, I, L, F) none (zS0, r, L, F) := by
  intro n
  induction n with
  | zero =>
    intro v1 v2 I h
    rw [fX9_gives_9.eq_1] at h
    cases h
  | succ n ih =>
    intro v1 v2 I h
    rw [fX9_gives_9.eq_2] at h
    refine a_iload_n dX9_gives_9 rfl 2 rfl ?_
    refine a_aload_n dX9_gives_10 rfl 0 rfl ?_
    refine a_geti dX9_gives_11 G_X9_138 zs_48 rfl ?_
    refine a_icmp_ge (tgt := 49) dX9_gives_14 rfl (fun hc7 => ?_) (fun hc7 => ?_)
    · rw [if_pos hc7] at h
      refine a_sub [] rfl ?_
      exact hK _ h
    · rw [if_neg hc7] at h
      refine a_aload_n dX9_gives_17 rfl 0 rfl ?_
      refine a_getq dX9_gives_18 G_X9_95 zs_48 rfl (rf_48_23 hR) ?_
      refine a_iload_n dX9_gives_21 rfl 2 rfl ?_
      refine a_aload_n dX9_gives_22 rfl 0 rfl ?_
      refine a_getq dX9_gives_23 G_X9_95 zs_48 rfl (rf_48_23 hR) ?_
      refine a_iload_n dX9_gives_26 rfl 2 rfl ?_
      obtain ⟨hz2, h⟩ := zif h
      refine a_iald dX9_gives_27 zs_62 (zin_vp hz2) ?_
      refine a_iload_n dX9_gives_28 rfl 1 rfl ?_
      refine a_icmp_ne (tgt := 36) dX9_gives_29 rfl (fun hc6 => ?_) (fun hc6 => ?_)
      · rw [if_neg hc6] at h
        refine a_aload_n dX9_gives_36 rfl 0 rfl ?_
        refine a_getq dX9_gives_37 G_X9_95 zs_48 rfl (rf_48_23 hR) ?_
        refine a_iload_n dX9_gives_40 rfl 2 rfl ?_
        obtain ⟨hz3, h⟩ := zif h
        refine a_iald dX9_gives_41 zs_62 (zin_vp hz3) ?_
        obtain ⟨hz4, h⟩ := zif h
        refine a_iast dX9_gives_42 zs_62 (zin_vp hz4) ?_
        refine a_iincK (k0 := 1) dX9_gives_43 (by decide) 2 rfl (by decide) rfl ?_
        refine a_goto (tgt := 9) dX9_gives_46 rfl ?_
        refine a_sub [1, 2, 0] rfl ?_
        exact ih _ _ _ h
      · rw [if_pos hc6] at h
        refine a_iconst (v := (-1)) dX9_gives_32 (by decide) ?_
        refine a_goto (tgt := 42) dX9_gives_33 rfl ?_
        obtain ⟨hz5, h⟩ := zif h
        refine a_iast dX9_gives_42 zs_62 (zin_vp hz5) ?_
        refine a_iincK (k0 := 1) dX9_gives_43 (by decide) 2 rfl (by decide) rfl ?_
        refine a_goto (tgt := 9) dX9_gives_46 rfl ?_
        refine a_sub [1, 2, 0] rfl ?_
        exact ih _ _ _ h
set_option maxRecDepth 100000 in
theorem tX9_gives {X : Nat × (Nat → Int32)} {I : zPI} {L : zPL} {F : zPF} {a b : Nat} {c : Option Nat} (hR : zRin F a b c) (p1 : Int32) (r : zPI) (h : fX9_gives I p1 = some r) : zAM X mX9_gives 0 [zr 48, zi p1] (zS0, I, L, F) none (zS0, r, L, F) := by
  refine zAM_of (by decide) (Nat.le_of_ble_eq_true rfl) ⟨fun _ => rfl, fun _ => rfl⟩ (Nat.le_refl _) (Nat.le_refl _) ?_
  unfold fX9_gives at h
  show zAW zE0 X mX9_gives 0 0 [(0, zr 48), (1, zi p1)] [] (zS0, I, L, F) none (zS0, r, L, F)
  refine a_aload_n dX9_gives_0 rfl 0 rfl ?_
  refine a_getq dX9_gives_1 G_X9_98 zs_48 rfl (rf_48_24 hR) ?_
  refine a_iload_n dX9_gives_4 rfl 1 rfl ?_
  refine a_iconst (v := 0) dX9_gives_5 (by decide) ?_
  obtain ⟨hz1, h⟩ := zif h
  refine a_iast dX9_gives_6 zs_63 (zin_vp hz1) ?_
  refine a_iconst (v := 0) dX9_gives_7 (by decide) ?_
  refine a_istore_n dX9_gives_8 rfl (by decide) rfl ?_
  refine a_sub [1, 2, 0] rfl ?_
  refine tX9_gives_9 hR (fun I h => ?_) zF _ _ _ h
  (try dsimp only at h)
  cases h
  exact a_vret dX9_gives_49 rfl
def fX9_endWorks_2 (K : zPI → Option (zPI)) : Nat → Int32 → zPI → Option (zPI)
  | 0, _, _ => none
  | n + 1, v1, I => (if (I 48 18) ≤ v1 then K I else (if zin v1 24 then (if (I 62 v1.toNatClampNeg) < 0 then fX9_endWorks_2 K n (v1 + 1) I else (if zin (I 62 v1.toNatClampNeg) 24 then (if (I 66 (I 62 v1.toNatClampNeg).toNatClampNeg) = (I 48 29) then (if zin (I 62 v1.toNatClampNeg) 24 then (if zin (I 62 v1.toNatClampNeg) 24 then (if zin (I 62 v1.toNatClampNeg) 24 then (fX9_ended I ((I 63 (I 62 v1.toNatClampNeg).toNatClampNeg) - 1) (I 64 (I 62 v1.toNatClampNeg).toNatClampNeg) (I 65 (I 62 v1.toNatClampNeg).toNatClampNeg)).bind (fun q6 => (fX9_gives q6 (I 62 v1.toNatClampNeg)).bind (fun q8 => fX9_endWorks_2 K n (v1 + 1) q8)) else none) else none) else none) else fX9_endWorks_2 K n (v1 + 1) I) else none)) else none))
def fX9_endWorks (I : zPI) : Option (zPI) := fX9_endWorks_2 (fun I => some (I)) zF 0 I
set_option maxRecDepth 100000 in
theorem tX9_endWorks_2 {X : Nat × (Nat → Int32)} {L : zPL} {F : zPF} {a b : Nat} {c : Option Nat} (hR : zRin F a b c) {r : zPI} {K : zPI → Option (zPI)} (hK : ∀ (I : zPI), K I = some r → zAW zE0 X mX9_endWorks 1 69 [] [] (zS0, I, L, F) none (zS0, r, L, F)) : ∀ (n : Nat) (v1 : Int32) (I : zPI), fX9_endWorks_2 K n v1 I = some r → zAW zE0 X mX9_endWorks 1 2 [(0, zr 48), (1, zi v1)] [] (zS0, I, L, F) none (zS0, r, L, F) := by
  intro n
  induction n with
  | zero =>
    intro v1 I h
    rw [fX9_endWorks_2.eq_1] at h
    cases h
  | succ n ih =>
    intro v1 I h
    rw [fX9_endWorks_2.eq_2] at h
    refine a_iload_n dX9_endWorks_2 rfl 1 rfl ?_
    refine a_aload_n dX9_endWorks_3 rfl 0 rfl ?_
    refine a_geti dX9_endWorks_4 G_X9_138 zs_48 rfl ?_
    refine a_icmp_ge (tgt := 69) dX9_endWorks_7 rfl (fun hc12 => ?_) (fun hc12 => ?_)
    · rw [if_pos hc12] at h
      refine a_sub [] rfl ?_
      exact hK _ h
    · rw [if_neg hc12] at h
      refine a_aload_n dX9_endWorks_10 rfl 0 rfl ?_
      refine a_getq dX9_endWorks_11 G_X9_95 zs_48 rfl (rf_48_23 hR) ?_
      refine a_iload_n dX9_endWorks_14 rfl 1 rfl ?_
      obtain ⟨hz1, h⟩ := zif h
      refine a_iald dX9_endWorks_15 zs_62 (zin_vp hz1) ?_
      refine a_istore_n dX9_endWorks_16 rfl (by decide) rfl ?_
      refine a_iload_n dX9_endWorks_17 rfl 0 rfl ?_
      refine a_if_lt (tgt := 63) dX9_endWorks_18 rfl (fun hc11 => ?_) (fun hc11 => ?_)
      · rw [if_pos hc11] at h
        refine a_iincK (k0 := 1) dX9_endWorks_63 (by decide) 2 rfl (by decide) rfl ?_
        refine a_goto (tgt := 2) dX9_endWorks_66 rfl ?_
        refine a_sub [2, 0] rfl ?_
        exact ih _ _ h
      · rw [if_neg hc11] at h
        refine a_aload_n dX9_endWorks_21 rfl 1 rfl ?_
        refine a_getq dX9_endWorks_22 G_X9_107 zs_48 rfl (rf_48_27 hR) ?_
        refine a_iload_n dX9_endWorks_25 rfl 0 rfl ?_
        obtain ⟨hz2, h⟩ := zif h
        refine a_iald dX9_endWorks_26 zs_66 (zin_vp hz2) ?_
        refine a_aload_n dX9_endWorks_27 rfl 1 rfl ?_
        refine a_geti dX9_endWorks_28 G_X9_242 zs_48 rfl ?_
        refine a_icmp_ne (tgt := 63) dX9_endWorks_31 rfl (fun hc10 => ?_) (fun hc10 => ?_)
        · rw [if_neg hc10] at h
          refine a_iincK (k0 := 1) dX9_endWorks_63 (by decide) 2 rfl (by decide) rfl ?_
          refine a_goto (tgt := 2) dX9_endWorks_66 rfl ?_
          refine a_sub [2, 0] rfl ?_
          exact ih _ _ h
        · rw [if_pos hc10] at h
          refine a_aload_n dX9_endWorks_34 rfl 1 rfl ?_
          refine a_aload_n dX9_endWorks_35 rfl 1 rfl ?_
          refine a_getq dX9_endWorks_36 G_X9_98 zs_48 rfl (rf_48_24 hR) ?_
          refine a_iload_n dX9_endWorks_39 rfl 0 rfl ?_
          obtain ⟨hz3, h⟩ := zif h
          refine a_iald dX9_endWorks_40 zs_63 (zin_vp hz3) ?_
          refine a_iconst (v := 1) dX9_endWorks_41 (by decide) ?_
          refine a_isub dX9_endWorks_42 ?_
          refine a_aload_n dX9_endWorks_43 rfl 1 rfl ?_
          refine a_getq dX9_endWorks_44 G_X9_101 zs_48 rfl (rf_48_25 hR) ?_
          refine a_iload_n dX9_endWorks_47 rfl 0 rfl ?_
          obtain ⟨hz4, h⟩ := zif h
          refine a_iald dX9_endWorks_48 zs_64 (zin_vp hz4) ?_
          refine a_aload_n dX9_endWorks_49 rfl 1 rfl ?_
          refine a_getq dX9_endWorks_50 G_X9_104 zs_48 rfl (rf_48_26 hR) ?_
          refine a_iload_n dX9_endWorks_53 rfl 0 rfl ?_
          obtain ⟨hz5, h⟩ := zif h
          refine a_iald dX9_endWorks_54 zs_65 (zin_vp hz5) ?_
          obtain ⟨q6, hq6, h⟩ := zbind h
          refine a_callV dX9_endWorks_55 (tX9_ended hR _ _ _ _ hq6) csX9_ended zw1219 (Nat.le_of_ble_eq_true rfl) zs_48 rfl rfl (Nat.le_of_ble_eq_true rfl) ⟨Nat.le_refl _, Nat.le_refl _⟩ (fun hb7 => ?_)
          refine a_aload_n dX9_endWorks_58 rfl 1 rfl ?_
          refine a_iload_n dX9_endWorks_59 rfl 0 rfl ?_
          obtain ⟨q8, hq8, h⟩ := zbind h
          refine a_callV dX9_endWorks_60 (tX9_gives hR _ _ hq8) csX9_gives zw1223 (Nat.le_of_ble_eq_true rfl) zs_48 rfl rfl (Nat.le_of_ble_eq_true rfl) ⟨Nat.le_refl _, Nat.le_refl _⟩ (fun hb9 => ?_)
          refine a_iincK (k0 := 1) dX9_endWorks_63 (by decide) 2 rfl (by decide) rfl ?_
          refine a_goto (tgt := 2) dX9_endWorks_66 rfl ?_
          refine a_sub [2, 0] rfl ?_
          exact ih _ _ h
set_option maxRecDepth 100000 in
theorem tX9_endWorks {X : Nat × (Nat → Int32)} {I : zPI} {L : zPL} {F : zPF} {a b : Nat} {c : Option Nat} (hR : zRin F a b c) (r : zPI) (h : fX9_endWorks I = some r) : zAM X mX9_endWorks 1 [zr 48] (zS0, I, L, F) none (zS0, r, L, F) := by
  refine zAM_of (by decide) (Nat.le_of_ble_eq_true rfl) ⟨fun _ => rfl, fun _ => rfl⟩ (Nat.le_refl _) (Nat.le_refl _) ?_
  unfold fX9_endWorks at h
  show zAW zE0 X mX9_endWorks 1 0 [(0, zr 48)] [] (zS0, I, L, F) none (zS0, r, L, F)
  refine a_iconst (v := 0) dX9_endWorks_0 (by decide) ?_
  refine a_istore_n dX9_endWorks_1 rfl (by decide) rfl ?_
  refine a_sub [1, 0] rfl ?_
  refine tX9_endWorks_2 hR (fun I h => ?_) zF _ _ h
  (try dsimp only at h)
  cases h
  exact a_vret dX9_endWorks_69 rfl
def fX9_isWord (I : zPI) (L : zPL) (p1 : Int32) : Option (Int32) := (if (I 48 8) = 0 then (if zin (I 48 7) 1002 then (if (I 50 (I 48 7).toNatClampNeg) = 1 then (if zin (I 48 7) 1002 then (if zin p1 17 then (if (lg_cmp (L 52 (I 48 7).toNatClampNeg) (L 53 p1.toNatClampNeg)) = 0 then some 1 else some 0) else none) else none) else some 0) else none) else some 0)
set_option maxRecDepth 100000 in
theorem tX9_isWord {X : Nat × (Nat → Int32)} {I : zPI} {L : zPL} {F : zPF} {a b : Nat} {c : Option Nat} (hR : zRin F a b c) (p1 : Int32) (r : Int32) (h : fX9_isWord I L p1 = some r) : zAM X mX9_isWord 0 [zr 48, zi p1] (zS0, I, L, F) (some (zi r)) (zS0, I, L, F) := by
  refine zAM_of (by decide) (Nat.le_of_ble_eq_true rfl) ⟨fun h => (by cases h), fun h => (by cases h)⟩ (Nat.le_refl _) (Nat.le_refl _) ?_
  unfold fX9_isWord at h
  show zAW zE0 X mX9_isWord 0 0 [(0, zr 48), (1, zi p1)] [] (zS0, I, L, F) (some (zi r)) (zS0, I, L, F)
  refine a_aload_n dX9_isWord_0 rfl 0 rfl ?_
  refine a_geti dX9_isWord_1 G_X9_167 zs_48 rfl ?_
  refine a_if_ne (tgt := 43) dX9_isWord_4 rfl (fun hc6 => ?_) (fun hc6 => ?_)
  · rw [if_neg hc6] at h
    refine a_iconst (v := 0) dX9_isWord_43 (by decide) ?_
    cases h
    exact a_iret dX9_isWord_44 (by intro h; cases h) (znar_b0 rfl)
  · rw [if_pos hc6] at h
    refine a_aload_n dX9_isWord_7 rfl 0 rfl ?_
    refine a_getq dX9_isWord_8 G_X9_24 zs_48 rfl (rf_48_4 hR) ?_
    refine a_aload_n dX9_isWord_11 rfl 0 rfl ?_
    refine a_geti dX9_isWord_12 G_X9_164 zs_48 rfl ?_
    obtain ⟨hz1, h⟩ := zif h
    refine a_iald dX9_isWord_15 zs_50 (zin_vp hz1) ?_
    refine a_iconst (v := 1) dX9_isWord_16 (by decide) ?_
    refine a_icmp_ne (tgt := 43) dX9_isWord_17 rfl (fun hc5 => ?_) (fun hc5 => ?_)
    · rw [if_neg hc5] at h
      refine a_iconst (v := 0) dX9_isWord_43 (by decide) ?_
      cases h
      exact a_iret dX9_isWord_44 (by intro h; cases h) (znar_b0 rfl)
    · rw [if_pos hc5] at h
      refine a_aload_n dX9_isWord_20 rfl 0 rfl ?_
      refine a_getq dX9_isWord_21 G_X9_30 zs_48 rfl (rf_48_6 hR) ?_
      refine a_aload_n dX9_isWord_24 rfl 0 rfl ?_
      refine a_geti dX9_isWord_25 G_X9_164 zs_48 rfl ?_
      obtain ⟨hz2, h⟩ := zif h
      refine a_lald dX9_isWord_28 zs_52 (zin_vp hz2) ?_
      refine a_aload_n dX9_isWord_29 rfl 0 rfl ?_
      refine a_getq dX9_isWord_30 G_X9_68 zs_48 rfl (rf_48_9 hR) ?_
      refine a_iload_n dX9_isWord_33 rfl 1 rfl ?_
      obtain ⟨hz3, h⟩ := zif h
      refine a_lald dX9_isWord_34 zs_53 (zin_vp hz3) ?_
      refine a_lcmp dX9_isWord_35 ?_
      refine a_if_ne (tgt := 43) dX9_isWord_36 rfl (fun hc4 => ?_) (fun hc4 => ?_)
      · rw [if_neg hc4] at h
        refine a_iconst (v := 0) dX9_isWord_43 (by decide) ?_
        cases h
        exact a_iret dX9_isWord_44 (by intro h; cases h) (znar_b0 rfl)
      · rw [if_pos hc4] at h
        refine a_iconst (v := 1) dX9_isWord_39 (by decide) ?_
        refine a_goto (tgt := 44) dX9_isWord_40 rfl ?_
        cases h
        exact a_iret dX9_isWord_44 (by intro h; cases h) (znar_b1 rfl)
def fX9_wrong (I : zPI) (p1 : Int32) : Option (zPI) := (if (I 48 8) = 0 then (if zin (I 48 7) 1002 then some (zu I 48 8 (p1 + (16 * (I 51 (I 48 7).toNatClampNeg)))) else none) else some (I))
set_option maxRecDepth 100000 in
theorem tX9_wrong {X : Nat × (Nat → Int32)} {I : zPI} {L : zPL} {F : zPF} {a b : Nat} {c : Option Nat} (hR : zRin F a b c) (p1 : Int32) (r : zPI) (h : fX9_wrong I p1 = some r) : zAM X mX9_wrong 0 [zr 48, zi p1] (zS0, I, L, F) none (zS0, r, L, F) := by
  refine zAM_of (by decide) (Nat.le_of_ble_eq_true rfl) ⟨fun _ => rfl, fun _ => rfl⟩ (Nat.le_refl _) (Nat.le_refl _) ?_
  unfold fX9_wrong at h
  show zAW zE0 X mX9_wrong 0 0 [(0, zr 48), (1, zi p1)] [] (zS0, I, L, F) none (zS0, r, L, F)
  refine a_aload_n dX9_wrong_0 rfl 0 rfl ?_
  refine a_geti dX9_wrong_1 G_X9_167 zs_48 rfl ?_
  refine a_if_ne (tgt := 25) dX9_wrong_4 rfl (fun hc2 => ?_) (fun hc2 => ?_)
  · rw [if_neg hc2] at h
    cases h
    exact a_vret dX9_wrong_25 rfl
  · rw [if_pos hc2] at h
    refine a_aload_n dX9_wrong_7 rfl 0 rfl ?_
    refine a_iload_n dX9_wrong_8 rfl 1 rfl ?_
    refine a_bipush (v := 16) dX9_wrong_9 (by decide) ?_
    refine a_aload_n dX9_wrong_11 rfl 0 rfl ?_
    refine a_getq dX9_wrong_12 G_X9_27 zs_48 rfl (rf_48_5 hR) ?_
    refine a_aload_n dX9_wrong_15 rfl 0 rfl ?_
    refine a_geti dX9_wrong_16 G_X9_164 zs_48 rfl ?_
    obtain ⟨hz1, h⟩ := zif h
    refine a_iald dX9_wrong_19 zs_51 (zin_vp hz1) ?_
    refine a_imul dX9_wrong_20 ?_
    refine a_iadd dX9_wrong_21 ?_
    refine a_puti dX9_wrong_22 F_X9_167 zs_48 rfl ⟨rfl, rfl⟩ ?_
    cases h
    exact a_vret dX9_wrong_25 rfl
def fX9_part_2 (L : zPL) (K : Int32 → zPI → Option (zPI)) : Nat → Int32 → zPI → Option (zPI)
  | 0, _, _ => none
  | n + 1, v1, I => (if 7 ≤ v1 then K v1 I else (fX9_isWord I L (10 + v1)).bind (fun q1 => (if q1 = 0 then fX9_part_2 L K n (v1 + 1) I else K v1 I)))
def fX9_part_95 (L : zPL) (s1 : Int32) (s2 : Int32) (I : zPI) : Option (zPI) := (fX9_emit I s1 s2 0).bind (fun q6 => some (zu q6.2 48 7 ((q6.2 48 7) + 1)))
def fX9_part_75 (L : zPL) (v1 : Int32) (s1 : Int32) (I : zPI) : Option (zPI) := (if 7 ≤ v1 then (if zin (I 48 7) 1002 then fX9_part_95 L s1 ((L 52 (I 48 7).toNatClampNeg).toInt32) I else none) else fX9_part_95 L s1 v1 I)
def fX9_part_56 (L : zPL) (v1 : Int32) (I : zPI) : Option (zPI) := (if (I 48 8) = 0 then (if 7 ≤ v1 then fX9_part_75 L v1 1 I else fX9_part_75 L v1 2 I) else some (I))
def fX9_part_25 (L : zPL) (v1 : Int32) (I : zPI) : Option (zPI) := (if (I 48 8) = 0 then (if zin (I 48 7) 1002 then (if (I 50 (I 48 7).toNatClampNeg) = 2 then fX9_part_56 L v1 I else (if v1 = 7 then (fX9_wrong I 1).bind (fun q12 => fX9_part_56 L v1 q12) else fX9_part_56 L v1 I)) else none) else fX9_part_56 L v1 I)
def fX9_part (I : zPI) (L : zPL) : Option (zPI) := fX9_part_2 L (fun v1 I => fX9_part_25 L v1 I) zF 0 I
set_option maxRecDepth 100000 in
theorem tX9_part_2 {X : Nat × (Nat → Int32)} {L : zPL} {F : zPF} {a b : Nat} {c : Option Nat} (hR : zRin F a b c) {r : zPI} {K : Int32 → zPI → Option (zPI)} (hK : ∀ (v1 : Int32) (I : zPI), K v1 I = some r → zAW zE0 X mX9_part 1 25 [(0, zr 48), (1, zi v1)] [] (zS0, I, L, F) none (zS0, r, L, F)) : ∀ (n : Nat) (v1 : Int32) (I : zPI), fX9_part_2 L K n v1 I = some r → zAW zE0 X mX9_part 1 2 [(0, zr 48), (1, zi v1)] [] (zS0, I, L, F) none (zS0, r, L, F) := by
  intro n
  induction n with
  | zero =>
    intro v1 I h
    rw [fX9_part_2.eq_1] at h
    cases h
  | succ n ih =>
    intro v1 I h
    rw [fX9_part_2.eq_2] at h
    refine a_iload_n dX9_part_2 rfl 1 rfl ?_
    refine a_bipush (v := 7) dX9_part_3 (by decide) ?_
    refine a_icmp_ge (tgt := 25) dX9_part_5 rfl (fun hc4 => ?_) (fun hc4 => ?_)
    · rw [if_pos hc4] at h
      exact hK _ _ h
    · rw [if_neg hc4] at h
      refine a_aload_n dX9_part_8 rfl 0 rfl ?_
      refine a_bipush (v := 10) dX9_part_9 (by decide) ?_
      refine a_iload_n dX9_part_11 rfl 1 rfl ?_
      refine a_iadd dX9_part_12 ?_
      obtain ⟨q1, hq1, h⟩ := zbind h
      refine a_callV dX9_part_13 (tX9_isWord hR _ _ hq1) csX9_isWord zw1138 (Nat.le_of_ble_eq_true rfl) zs_48 rfl rfl (Nat.le_of_ble_eq_true rfl) ⟨Nat.le_refl _, Nat.le_refl _⟩ (fun hb2 => ?_)
      refine a_if_ne (tgt := 25) dX9_part_16 rfl (fun hc3 => ?_) (fun hc3 => ?_)
      · rw [if_neg hc3] at h
        exact hK _ _ h
      · rw [if_pos hc3] at h
        refine a_iincK (k0 := 1) dX9_part_19 (by decide) 1 rfl (by decide) rfl ?_
        refine a_goto (tgt := 2) dX9_part_22 rfl ?_
        refine a_sub [1, 0] rfl ?_
        exact ih _ _ h
set_option maxRecDepth 100000 in
theorem tX9_part_95 {X : Nat × (Nat → Int32)} {I : zPI} {L : zPL} {F : zPF} {a b : Nat} {c : Option Nat} (hR : zRin F a b c) {r : zPI} {s1 : Int32} {s2 : Int32} (h : fX9_part_95 L s1 s2 I = some r) : zAW zE0 X mX9_part 1 95 [(0, zr 48)] [zi s2, zi s1, zr 48] (zS0, I, L, F) none (zS0, r, L, F) := by
  unfold fX9_part_95 at h
  refine a_iconst (v := 0) dX9_part_95 (by decide) ?_
  obtain ⟨q6, hq6, h⟩ := zbind h
  refine a_callV dX9_part_96 (tX9_emit hR _ _ _ _ hq6) csX9_emit zw1166 (Nat.le_of_ble_eq_true rfl) zs_48 rfl rfl (Nat.le_of_ble_eq_true rfl) ⟨Nat.le_refl _, Nat.le_refl _⟩ (fun hb7 => ?_)
  refine a_istore_n dX9_part_99 rfl (by decide) rfl ?_
  refine a_aload_n dX9_part_100 rfl 1 rfl ?_
  refine a_dup dX9_part_101 rfl ?_
  refine a_geti dX9_part_102 G_X9_164 zs_48 rfl ?_
  refine a_iconst (v := 1) dX9_part_105 (by decide) ?_
  refine a_iadd dX9_part_106 ?_
  refine a_puti dX9_part_107 F_X9_164 zs_48 rfl ⟨rfl, rfl⟩ ?_
  cases h
  exact a_vret dX9_part_110 rfl
set_option maxRecDepth 100000 in
theorem tX9_part_75 {X : Nat × (Nat → Int32)} {I : zPI} {L : zPL} {F : zPF} {a b : Nat} {c : Option Nat} (hR : zRin F a b c) {r : zPI} {v1 : Int32} {s1 : Int32} (h : fX9_part_75 L v1 s1 I = some r) : zAW zE0 X mX9_part 1 75 [(0, zr 48), (1, zi v1)] [zi s1, zr 48] (zS0, I, L, F) none (zS0, r, L, F) := by
  unfold fX9_part_75 at h
  refine a_iload_n dX9_part_75 rfl 1 rfl ?_
  refine a_bipush (v := 7) dX9_part_76 (by decide) ?_
  refine a_icmp_ge (tgt := 85) dX9_part_78 rfl (fun hc8 => ?_) (fun hc8 => ?_)
  · rw [if_pos hc8] at h
    refine a_aload_n dX9_part_85 rfl 0 rfl ?_
    refine a_getq dX9_part_86 G_X9_30 zs_48 rfl (rf_48_6 hR) ?_
    refine a_aload_n dX9_part_89 rfl 0 rfl ?_
    refine a_geti dX9_part_90 G_X9_164 zs_48 rfl ?_
    obtain ⟨hz5, h⟩ := zif h
    refine a_lald dX9_part_93 zs_52 (zin_vp hz5) ?_
    refine a_l2i dX9_part_94 ?_
    refine a_sub [0] rfl ?_
    exact tX9_part_95 hR h
  · rw [if_neg hc8] at h
    refine a_iload_n dX9_part_81 rfl 1 rfl ?_
    refine a_goto (tgt := 95) dX9_part_82 rfl ?_
    refine a_sub [0] rfl ?_
    exact tX9_part_95 hR h
set_option maxRecDepth 100000 in
theorem tX9_part_56 {X : Nat × (Nat → Int32)} {I : zPI} {L : zPL} {F : zPF} {a b : Nat} {c : Option Nat} (hR : zRin F a b c) {r : zPI} {v1 : Int32} (h : fX9_part_56 L v1 I = some r) : zAW zE0 X mX9_part 1 56 [(0, zr 48), (1, zi v1)] [] (zS0, I, L, F) none (zS0, r, L, F) := by
  unfold fX9_part_56 at h
  refine a_aload_n dX9_part_56 rfl 0 rfl ?_
  refine a_geti dX9_part_57 G_X9_167 zs_48 rfl ?_
  refine a_if_ne (tgt := 110) dX9_part_60 rfl (fun hc10 => ?_) (fun hc10 => ?_)
  · rw [if_neg hc10] at h
    cases h
    exact a_vret dX9_part_110 rfl
  · rw [if_pos hc10] at h
    refine a_aload_n dX9_part_63 rfl 0 rfl ?_
    refine a_iload_n dX9_part_64 rfl 1 rfl ?_
    refine a_bipush (v := 7) dX9_part_65 (by decide) ?_
    refine a_icmp_ge (tgt := 74) dX9_part_67 rfl (fun hc9 => ?_) (fun hc9 => ?_)
    · rw [if_pos hc9] at h
      refine a_iconst (v := 1) dX9_part_74 (by decide) ?_
      exact tX9_part_75 hR h
    · rw [if_neg hc9] at h
      refine a_iconst (v := 2) dX9_part_70 (by decide) ?_
      refine a_goto (tgt := 75) dX9_part_71 rfl ?_
      exact tX9_part_75 hR h
set_option maxRecDepth 100000 in
theorem tX9_part_25 {X : Nat × (Nat → Int32)} {I : zPI} {L : zPL} {F : zPF} {a b : Nat} {c : Option Nat} (hR : zRin F a b c) {r : zPI} {v1 : Int32} (h : fX9_part_25 L v1 I = some r) : zAW zE0 X mX9_part 1 25 [(0, zr 48), (1, zi v1)] [] (zS0, I, L, F) none (zS0, r, L, F) := by
  unfold fX9_part_25 at h
  refine a_aload_n dX9_part_25 rfl 0 rfl ?_
  refine a_geti dX9_part_26 G_X9_167 zs_48 rfl ?_
  refine a_if_ne (tgt := 56) dX9_part_29 rfl (fun hc16 => ?_) (fun hc16 => ?_)
  · rw [if_neg hc16] at h
    exact tX9_part_56 hR h
  · rw [if_pos hc16] at h
    refine a_aload_n dX9_part_32 rfl 0 rfl ?_
    refine a_getq dX9_part_33 G_X9_24 zs_48 rfl (rf_48_4 hR) ?_
    refine a_aload_n dX9_part_36 rfl 0 rfl ?_
    refine a_geti dX9_part_37 G_X9_164 zs_48 rfl ?_
    obtain ⟨hz11, h⟩ := zif h
    refine a_iald dX9_part_40 zs_50 (zin_vp hz11) ?_
    refine a_iconst (v := 2) dX9_part_41 (by decide) ?_
    refine a_icmp_eq (tgt := 56) dX9_part_42 rfl (fun hc15 => ?_) (fun hc15 => ?_)
    · rw [if_pos hc15] at h
      exact tX9_part_56 hR h
    · rw [if_neg hc15] at h
      refine a_iload_n dX9_part_45 rfl 1 rfl ?_
      refine a_bipush (v := 7) dX9_part_46 (by decide) ?_
      refine a_icmp_ne (tgt := 56) dX9_part_48 rfl (fun hc14 => ?_) (fun hc14 => ?_)
      · rw [if_neg hc14] at h
        exact tX9_part_56 hR h
      · rw [if_pos hc14] at h
        refine a_aload_n dX9_part_51 rfl 0 rfl ?_
        refine a_iconst (v := 1) dX9_part_52 (by decide) ?_
        obtain ⟨q12, hq12, h⟩ := zbind h
        refine a_callV dX9_part_53 (tX9_wrong hR _ _ hq12) csX9_wrong zw1142 (Nat.le_of_ble_eq_true rfl) zs_48 rfl rfl (Nat.le_of_ble_eq_true rfl) ⟨Nat.le_refl _, Nat.le_refl _⟩ (fun hb13 => ?_)
        exact tX9_part_56 hR h
set_option maxRecDepth 100000 in
theorem tX9_part {X : Nat × (Nat → Int32)} {I : zPI} {L : zPL} {F : zPF} {a b : Nat} {c : Option Nat} (hR : zRin F a b c) (r : zPI) (h : fX9_part I L = some r) : zAM X mX9_part 1 [zr 48] (zS0, I, L, F) none (zS0, r, L, F) := by
  refine zAM_of (by decide) (Nat.le_of_ble_eq_true rfl) ⟨fun _ => rfl, fun _ => rfl⟩ (Nat.le_refl _) (Nat.le_refl _) ?_
  unfold fX9_part at h
  show zAW zE0 X mX9_part 1 0 [(0, zr 48)] [] (zS0, I, L, F) none (zS0, r, L, F)
  refine a_iconst (v := 0) dX9_part_0 (by decide) ?_
  refine a_istore_n dX9_part_1 rfl (by decide) rfl ?_
  refine a_sub [1, 0] rfl ?_
  refine tX9_part_2 hR (fun v1 I h => ?_) zF _ _ h
  (try dsimp only at h)
  exact tX9_part_25 hR h
def fX9_isSign (I : zPI) (L : zPL) (p1 : Int32) : Option (Int32) := (if (I 48 8) = 0 then (if zin (I 48 7) 1002 then (if (I 50 (I 48 7).toNatClampNeg) = 3 then (if zin (I 48 7) 1002 then (if (lg_cmp (L 52 (I 48 7).toNatClampNeg) p1.toInt64) = 0 then some 1 else some 0) else none) else some 0) else none) else some 0)
set_option maxRecDepth 100000 in
theorem tX9_isSign {X : Nat × (Nat → Int32)} {I : zPI} {L : zPL} {F : zPF} {a b : Nat} {c : Option Nat} (hR : zRin F a b c) (p1 : Int32) (r : Int32) (h : fX9_isSign I L p1 = some r) : zAM X mX9_isSign 0 [zr 48, zi p1] (zS0, I, L, F) (some (zi r)) (zS0, I, L, F) := by
  refine zAM_of (by decide) (Nat.le_of_ble_eq_true rfl) ⟨fun h => (by cases h), fun h => (by cases h)⟩ (Nat.le_refl _) (Nat.le_refl _) ?_
  unfold fX9_isSign at h
  show zAW zE0 X mX9_isSign 0 0 [(0, zr 48), (1, zi p1)] [] (zS0, I, L, F) (some (zi r)) (zS0, I, L, F)
  refine a_aload_n dX9_isSign_0 rfl 0 rfl ?_
  refine a_geti dX9_isSign_1 G_X9_167 zs_48 rfl ?_
  refine a_if_ne (tgt := 39) dX9_isSign_4 rfl (fun hc5 => ?_) (fun hc5 => ?_)
  · rw [if_neg hc5] at h
    refine a_iconst (v := 0) dX9_isSign_39 (by decide) ?_
    cases h
    exact a_iret dX9_isSign_40 (by intro h; cases h) (znar_b0 rfl)
  · rw [if_pos hc5] at h
    refine a_aload_n dX9_isSign_7 rfl 0 rfl ?_
    refine a_getq dX9_isSign_8 G_X9_24 zs_48 rfl (rf_48_4 hR) ?_
    refine a_aload_n dX9_isSign_11 rfl 0 rfl ?_
    refine a_geti dX9_isSign_12 G_X9_164 zs_48 rfl ?_
    obtain ⟨hz1, h⟩ := zif h
    refine a_iald dX9_isSign_15 zs_50 (zin_vp hz1) ?_
    refine a_iconst (v := 3) dX9_isSign_16 (by decide) ?_
    refine a_icmp_ne (tgt := 39) dX9_isSign_17 rfl (fun hc4 => ?_) (fun hc4 => ?_)
    · rw [if_neg hc4] at h
      refine a_iconst (v := 0) dX9_isSign_39 (by decide) ?_
      cases h
      exact a_iret dX9_isSign_40 (by intro h; cases h) (znar_b0 rfl)
    · rw [if_pos hc4] at h
      refine a_aload_n dX9_isSign_20 rfl 0 rfl ?_
      refine a_getq dX9_isSign_21 G_X9_30 zs_48 rfl (rf_48_6 hR) ?_
      refine a_aload_n dX9_isSign_24 rfl 0 rfl ?_
      refine a_geti dX9_isSign_25 G_X9_164 zs_48 rfl ?_
      obtain ⟨hz2, h⟩ := zif h
      refine a_lald dX9_isSign_28 zs_52 (zin_vp hz2) ?_
      refine a_iload_n dX9_isSign_29 rfl 1 rfl ?_
      refine a_i2l dX9_isSign_30 ?_
      refine a_lcmp dX9_isSign_31 ?_
      refine a_if_ne (tgt := 39) dX9_isSign_32 rfl (fun hc3 => ?_) (fun hc3 => ?_)
      · rw [if_neg hc3] at h
        refine a_iconst (v := 0) dX9_isSign_39 (by decide) ?_
        cases h
        exact a_iret dX9_isSign_40 (by intro h; cases h) (znar_b0 rfl)
      · rw [if_pos hc3] at h
        refine a_iconst (v := 1) dX9_isSign_35 (by decide) ?_
        refine a_goto (tgt := 40) dX9_isSign_36 rfl ?_
        cases h
        exact a_iret dX9_isSign_40 (by intro h; cases h) (znar_b1 rfl)
def fX9_sum_36 (L : zPL) (rec : zPI → Option (zPI)) (s0 : Int32) (I : zPI) : Option (zPI) := (fX9_part (zu I 48 7 ((I 48 7) + 1)) L).bind (fun q7 => (fX9_emit q7 s0 0 0).bind (fun q9 => rec q9.2))
def fX9_sum_22 (L : zPL) (rec : zPI → Option (zPI)) (I : zPI) : Option (zPI) := (fX9_isSign I L 43).bind (fun q5 => (if q5 = 0 then fX9_sum_36 L rec 4 I else fX9_sum_36 L rec 3 I))
def fX9_sum_4 (L : zPL) (K : zPI → Option (zPI)) : Nat → zPI → Option (zPI)
  | 0, _ => none
  | n + 1, I => (fX9_isSign I L 43).bind (fun q3 => (if q3 = 0 then (fX9_isSign I L 45).bind (fun q12 => (if q12 = 0 then K I else fX9_sum_22 L (fX9_sum_4 L K n) I)) else fX9_sum_22 L (fX9_sum_4 L K n) I))
def fX9_sum (I : zPI) (L : zPL) : Option (zPI) := (fX9_part I L).bind (fun q1 => fX9_sum_4 L (fun I => some (I)) zF q1)
set_option maxRecDepth 100000 in
theorem tX9_sum_36 {X : Nat × (Nat → Int32)} {I : zPI} {L : zPL} {F : zPF} {a b : Nat} {c : Option Nat} (hR : zRin F a b c) {r : zPI} {rec : zPI → Option (zPI)} (hrec : ∀ (I : zPI), rec I = some r → zAW zE0 X mX9_sum 2 4 [(0, zr 48)] [] (zS0, I, L, F) none (zS0, r, L, F)) {s0 : Int32} (h : fX9_sum_36 L rec s0 I = some r) : zAW zE0 X mX9_sum 2 36 [(0, zr 48)] [zi s0] (zS0, I, L, F) none (zS0, r, L, F) := by
  unfold fX9_sum_36 at h
  refine a_istore_n dX9_sum_36 rfl (by decide) rfl ?_
  refine a_aload_n dX9_sum_37 rfl 1 rfl ?_
  refine a_dup dX9_sum_38 rfl ?_
  refine a_geti dX9_sum_39 G_X9_164 zs_48 rfl ?_
  refine a_iconst (v := 1) dX9_sum_42 (by decide) ?_
  refine a_iadd dX9_sum_43 ?_
  refine a_puti dX9_sum_44 F_X9_164 zs_48 rfl ⟨rfl, rfl⟩ ?_
  refine a_aload_n dX9_sum_47 rfl 1 rfl ?_
  obtain ⟨q7, hq7, h⟩ := zbind h
  refine a_callV dX9_sum_48 (tX9_part hR _ hq7) csX9_part zw1162 (Nat.le_of_ble_eq_true rfl) zs_48 rfl rfl (Nat.le_of_ble_eq_true rfl) ⟨Nat.le_refl _, Nat.le_refl _⟩ (fun hb8 => ?_)
  refine a_aload_n dX9_sum_51 rfl 1 rfl ?_
  refine a_iload_n dX9_sum_52 rfl 0 rfl ?_
  refine a_iconst (v := 0) dX9_sum_53 (by decide) ?_
  refine a_iconst (v := 0) dX9_sum_54 (by decide) ?_
  obtain ⟨q9, hq9, h⟩ := zbind h
  refine a_callV dX9_sum_55 (tX9_emit hR _ _ _ _ hq9) csX9_emit zw1166 (Nat.le_of_ble_eq_true rfl) zs_48 rfl rfl (Nat.le_of_ble_eq_true rfl) ⟨Nat.le_refl _, Nat.le_refl _⟩ (fun hb10 => ?_)
  refine a_istore_n dX9_sum_58 rfl (by decide) rfl ?_
  refine a_goto (tgt := 4) dX9_sum_59 rfl ?_
  refine a_sub [2] rfl ?_
  exact hrec _ h
set_option maxRecDepth 100000 in
theorem tX9_sum_22 {X : Nat × (Nat → Int32)} {I : zPI} {L : zPL} {F : zPF} {a b : Nat} {c : Option Nat} (hR : zRin F a b c) {r : zPI} {rec : zPI → Option (zPI)} (hrec : ∀ (I : zPI), rec I = some r → zAW zE0 X mX9_sum 2 4 [(0, zr 48)] [] (zS0, I, L, F) none (zS0, r, L, F)) (h : fX9_sum_22 L rec I = some r) : zAW zE0 X mX9_sum 2 22 [(0, zr 48)] [] (zS0, I, L, F) none (zS0, r, L, F) := by
  unfold fX9_sum_22 at h
  refine a_aload_n dX9_sum_22 rfl 0 rfl ?_
  refine a_bipush (v := 43) dX9_sum_23 (by decide) ?_
  obtain ⟨q5, hq5, h⟩ := zbind h
  refine a_callV dX9_sum_25 (tX9_isSign hR _ _ hq5) csX9_isSign zw1170 (Nat.le_of_ble_eq_true rfl) zs_48 rfl rfl (Nat.le_of_ble_eq_true rfl) ⟨Nat.le_refl _, Nat.le_refl _⟩ (fun hb6 => ?_)
  refine a_if_eq (tgt := 35) dX9_sum_28 rfl (fun hc11 => ?_) (fun hc11 => ?_)
  · rw [if_pos hc11] at h
    refine a_iconst (v := 4) dX9_sum_35 (by decide) ?_
    exact tX9_sum_36 hR hrec h
  · rw [if_neg hc11] at h
    refine a_iconst (v := 3) dX9_sum_31 (by decide) ?_
    refine a_goto (tgt := 36) dX9_sum_32 rfl ?_
    exact tX9_sum_36 hR hrec h
set_option maxRecDepth 100000 in
theorem tX9_sum_4 {X : Nat × (Nat → Int32)} {L : zPL} {F : zPF} {a b : Nat} {c : Option Nat} (hR : zRin F a b c) {r : zPI} {K : zPI → Option (zPI)} (hK : ∀ (I : zPI), K I = some r → zAW zE0 X mX9_sum 2 62 [] [] (zS0, I, L, F) none (zS0, r, L, F)) : ∀ (n : Nat) (I : zPI), fX9_sum_4 L K n I = some r → zAW zE0 X mX9_sum 2 4 [(0, zr 48)] [] (zS0, I, L, F) none (zS0, r, L, F) := by
  intro n
  induction n with
  | zero =>
    intro I h
    rw [fX9_sum_4.eq_1] at h
    cases h
  | succ n ih =>
    intro I h
    rw [fX9_sum_4.eq_2] at h
    refine a_aload_n dX9_sum_4 rfl 0 rfl ?_
    refine a_bipush (v := 43) dX9_sum_5 (by decide) ?_
    obtain ⟨q3, hq3, h⟩ := zbind h
    refine a_callV dX9_sum_7 (tX9_isSign hR _ _ hq3) csX9_isSign zw1170 (Nat.le_of_ble_eq_true rfl) zs_48 rfl rfl (Nat.le_of_ble_eq_true rfl) ⟨Nat.le_refl _, Nat.le_refl _⟩ (fun hb4 => ?_)
    refine a_if_ne (tgt := 22) dX9_sum_10 rfl (fun hc15 => ?_) (fun hc15 => ?_)
    · rw [if_neg hc15] at h
      exact tX9_sum_22 hR ih h
    · rw [if_pos hc15] at h
      refine a_aload_n dX9_sum_13 rfl 0 rfl ?_
      refine a_bipush (v := 45) dX9_sum_14 (by decide) ?_
      obtain ⟨q12, hq12, h⟩ := zbind h
      refine a_callV dX9_sum_16 (tX9_isSign hR _ _ hq12) csX9_isSign zw1170 (Nat.le_of_ble_eq_true rfl) zs_48 rfl rfl (Nat.le_of_ble_eq_true rfl) ⟨Nat.le_refl _, Nat.le_refl _⟩ (fun hb13 => ?_)
      refine a_if_eq (tgt := 62) dX9_sum_19 rfl (fun hc14 => ?_) (fun hc14 => ?_)
      · rw [if_pos hc14] at h
        refine a_sub [] rfl ?_
        exact hK _ h
      · rw [if_neg hc14] at h
        exact tX9_sum_22 hR ih h
set_option maxRecDepth 100000 in
theorem tX9_sum {X : Nat × (Nat → Int32)} {I : zPI} {L : zPL} {F : zPF} {a b : Nat} {c : Option Nat} (hR : zRin F a b c) (r : zPI) (h : fX9_sum I L = some r) : zAM X mX9_sum 2 [zr 48] (zS0, I, L, F) none (zS0, r, L, F) := by
  refine zAM_of (by decide) (Nat.le_of_ble_eq_true rfl) ⟨fun _ => rfl, fun _ => rfl⟩ (Nat.le_refl _) (Nat.le_refl _) ?_
  unfold fX9_sum at h
  show zAW zE0 X mX9_sum 2 0 [(0, zr 48)] [] (zS0, I, L, F) none (zS0, r, L, F)
  refine a_aload_n dX9_sum_0 rfl 0 rfl ?_
  obtain ⟨q1, hq1, h⟩ := zbind h
  refine a_callV dX9_sum_1 (tX9_part hR _ hq1) csX9_part zw1162 (Nat.le_of_ble_eq_true rfl) zs_48 rfl rfl (Nat.le_of_ble_eq_true rfl) ⟨Nat.le_refl _, Nat.le_refl _⟩ (fun hb2 => ?_)
  refine tX9_sum_4 hR (fun I h => ?_) zF _ h
  (try dsimp only at h)
  cases h
  exact a_vret dX9_sum_62 rfl
def fX9_expression_49 (L : zPL) (s1 : Int32) (I : zPI) : Option (zPI) := (fX9_emit I s1 0 0).bind (fun q7 => some (q7.2))
def fX9_expression_24 (L : zPL) (v1 : Int32) (I : zPI) : Option (zPI) := (fX9_sum (zu I 48 7 ((I 48 7) + 1)) L).bind (fun q5 => (if v1 = 0 then fX9_expression_49 L 6 q5 else fX9_expression_49 L 5 q5))
def fX9_expression (I : zPI) (L : zPL) : Option (zPI) := (fX9_sum I L).bind (fun q1 => (fX9_isSign q1 L 60).bind (fun q3 => (if q3 = 0 then (fX9_isSign q1 L 61).bind (fun q10 => (if q10 = 0 then some (q1) else fX9_expression_24 L q3 q1)) else fX9_expression_24 L q3 q1)))
set_option maxRecDepth 100000 in
theorem tX9_expression_49 {X : Nat × (Nat → Int32)} {I : zPI} {L : zPL} {F : zPF} {a b : Nat} {c : Option Nat} (hR : zRin F a b c) {r : zPI} {s1 : Int32} (h : fX9_expression_49 L s1 I = some r) : zAW zE0 X mX9_expression 3 49 [] [zi s1, zr 48] (zS0, I, L, F) none (zS0, r, L, F) := by
  unfold fX9_expression_49 at h
  refine a_iconst (v := 0) dX9_expression_49 (by decide) ?_
  refine a_iconst (v := 0) dX9_expression_50 (by decide) ?_
  obtain ⟨q7, hq7, h⟩ := zbind h
  refine a_callV dX9_expression_51 (tX9_emit hR _ _ _ _ hq7) csX9_emit zw1166 (Nat.le_of_ble_eq_true rfl) zs_48 rfl rfl (Nat.le_of_ble_eq_true rfl) ⟨Nat.le_refl _, Nat.le_refl _⟩ (fun hb8 => ?_)
  refine a_istore_n dX9_expression_54 rfl (by decide) rfl ?_
  cases h
  exact a_vret dX9_expression_55 rfl
set_option maxRecDepth 100000 in
theorem tX9_expression_24 {X : Nat × (Nat → Int32)} {I : zPI} {L : zPL} {F : zPF} {a b : Nat} {c : Option Nat} (hR : zRin F a b c) {r : zPI} {v1 : Int32} (h : fX9_expression_24 L v1 I = some r) : zAW zE0 X mX9_expression 3 24 [(0, zr 48), (1, zi v1)] [] (zS0, I, L, F) none (zS0, r, L, F) := by
  unfold fX9_expression_24 at h
  refine a_aload_n dX9_expression_24 rfl 0 rfl ?_
  refine a_dup dX9_expression_25 rfl ?_
  refine a_geti dX9_expression_26 G_X9_164 zs_48 rfl ?_
  refine a_iconst (v := 1) dX9_expression_29 (by decide) ?_
  refine a_iadd dX9_expression_30 ?_
  refine a_puti dX9_expression_31 F_X9_164 zs_48 rfl ⟨rfl, rfl⟩ ?_
  refine a_aload_n dX9_expression_34 rfl 0 rfl ?_
  obtain ⟨q5, hq5, h⟩ := zbind h
  refine a_callV dX9_expression_35 (tX9_sum hR _ hq5) csX9_sum zw1158 (Nat.le_of_ble_eq_true rfl) zs_48 rfl rfl (Nat.le_of_ble_eq_true rfl) ⟨Nat.le_refl _, Nat.le_refl _⟩ (fun hb6 => ?_)
  refine a_aload_n dX9_expression_38 rfl 0 rfl ?_
  refine a_iload_n dX9_expression_39 rfl 1 rfl ?_
  refine a_if_eq (tgt := 47) dX9_expression_40 rfl (fun hc9 => ?_) (fun hc9 => ?_)
  · rw [if_pos hc9] at h
    refine a_bipush (v := 6) dX9_expression_47 (by decide) ?_
    refine a_sub [] rfl ?_
    exact tX9_expression_49 hR h
  · rw [if_neg hc9] at h
    refine a_iconst (v := 5) dX9_expression_43 (by decide) ?_
    refine a_goto (tgt := 49) dX9_expression_44 rfl ?_
    refine a_sub [] rfl ?_
    exact tX9_expression_49 hR h
set_option maxRecDepth 100000 in
theorem tX9_expression {X : Nat × (Nat → Int32)} {I : zPI} {L : zPL} {F : zPF} {a b : Nat} {c : Option Nat} (hR : zRin F a b c) (r : zPI) (h : fX9_expression I L = some r) : zAM X mX9_expression 3 [zr 48] (zS0, I, L, F) none (zS0, r, L, F) := by
  refine zAM_of (by decide) (Nat.le_of_ble_eq_true rfl) ⟨fun _ => rfl, fun _ => rfl⟩ (Nat.le_refl _) (Nat.le_refl _) ?_
  unfold fX9_expression at h
  show zAW zE0 X mX9_expression 3 0 [(0, zr 48)] [] (zS0, I, L, F) none (zS0, r, L, F)
  refine a_aload_n dX9_expression_0 rfl 0 rfl ?_
  obtain ⟨q1, hq1, h⟩ := zbind h
  refine a_callV dX9_expression_1 (tX9_sum hR _ hq1) csX9_sum zw1158 (Nat.le_of_ble_eq_true rfl) zs_48 rfl rfl (Nat.le_of_ble_eq_true rfl) ⟨Nat.le_refl _, Nat.le_refl _⟩ (fun hb2 => ?_)
  refine a_aload_n dX9_expression_4 rfl 0 rfl ?_
  refine a_bipush (v := 60) dX9_expression_5 (by decide) ?_
  obtain ⟨q3, hq3, h⟩ := zbind h
  refine a_callV dX9_expression_7 (tX9_isSign hR _ _ hq3) csX9_isSign zw1170 (Nat.le_of_ble_eq_true rfl) zs_48 rfl rfl (Nat.le_of_ble_eq_true rfl) ⟨Nat.le_refl _, Nat.le_refl _⟩ (fun hb4 => ?_)
  refine a_istore_n dX9_expression_10 rfl (by decide) rfl ?_
  refine a_iload_n dX9_expression_11 rfl 0 rfl ?_
  refine a_if_ne (tgt := 24) dX9_expression_12 rfl (fun hc13 => ?_) (fun hc13 => ?_)
  · rw [if_neg hc13] at h
    refine a_sub [1, 0] rfl ?_
    exact tX9_expression_24 hR h
  · rw [if_pos hc13] at h
    refine a_aload_n dX9_expression_15 rfl 1 rfl ?_
    refine a_bipush (v := 61) dX9_expression_16 (by decide) ?_
    obtain ⟨q10, hq10, h⟩ := zbind h
    refine a_callV dX9_expression_18 (tX9_isSign hR _ _ hq10) csX9_isSign zw1170 (Nat.le_of_ble_eq_true rfl) zs_48 rfl rfl (Nat.le_of_ble_eq_true rfl) ⟨Nat.le_refl _, Nat.le_refl _⟩ (fun hb11 => ?_)
    refine a_if_eq (tgt := 55) dX9_expression_21 rfl (fun hc12 => ?_) (fun hc12 => ?_)
    · rw [if_pos hc12] at h
      cases h
      exact a_vret dX9_expression_55 rfl
    · rw [if_neg hc12] at h
      refine a_sub [1, 0] rfl ?_
      exact tX9_expression_24 hR h
def fX9_lay_38 (rec : Int64 → Int32 → zPI → Option (zPI)) (v1 : Int64) (v3 : Int32) (v4 : Int32) (I : zPI) : Option (zPI) := (if 1000 ≤ (I 48 2) then rec v1 (v3 + (-8)) I else (if zin (I 48 2) 1000 then rec v1 (v3 + (-8)) (zu (zu I 49 (I 48 2).toNatClampNeg v4) 48 2 (((zu I 49 (I 48 2).toNatClampNeg v4) 48 2) + 1)) else none))
def fX9_lay_3 (K : zPI → Option (zPI)) : Nat → Int64 → Int32 → zPI → Option (zPI)
  | 0, _, _, _ => none
  | n + 1, v1, v3, I => (if v3 < 0 then K I else (if (((v1 >>> (v3.toInt64 &&& 63)).toInt32) &&& 255) = 10 then fX9_lay_38 (fX9_lay_3 K n) v1 v3 (((v1 >>> (v3.toInt64 &&& 63)).toInt32) &&& 255) I else (if (((v1 >>> (v3.toInt64 &&& 63)).toInt32) &&& 255) < 32 then fX9_lay_3 K n v1 (v3 + (-8)) I else (if 126 < (((v1 >>> (v3.toInt64 &&& 63)).toInt32) &&& 255) then fX9_lay_3 K n v1 (v3 + (-8)) I else fX9_lay_38 (fX9_lay_3 K n) v1 v3 (((v1 >>> (v3.toInt64 &&& 63)).toInt32) &&& 255) I))))
def fX9_lay (I : zPI) (p1 : Int64) : Option (zPI) := fX9_lay_3 (fun I => some (I)) zF p1 56 I
set_option maxRecDepth 100000 in
theorem tX9_lay_38 {X : Nat × (Nat → Int32)} {I : zPI} {L : zPL} {F : zPF} {a b : Nat} {c : Option Nat} (hR : zRin F a b c) {r : zPI} {rec : Int64 → Int32 → zPI → Option (zPI)} (hrec : ∀ (v1 : Int64) (v3 : Int32) (I : zPI), rec v1 v3 I = some r → zAW zE0 X mX9_lay 0 3 [(0, zr 48), (1, zl v1), (3, zi v3)] [] (zS0, I, L, F) none (zS0, r, L, F)) {v1 : Int64} {v3 : Int32} {v4 : Int32} (h : fX9_lay_38 rec v1 v3 v4 I = some r) : zAW zE0 X mX9_lay 0 38 [(0, zr 48), (1, zl v1), (3, zi v3), (4, zi v4)] [] (zS0, I, L, F) none (zS0, r, L, F) := by
  unfold fX9_lay_38 at h
  refine a_aload_n dX9_lay_38 rfl 0 rfl ?_
  refine a_geti dX9_lay_39 G_X9_11 zs_48 rfl ?_
  refine a_sipush (v := 1000) dX9_lay_42 (by decide) ?_
  refine a_icmp_ge (tgt := 69) dX9_lay_45 rfl (fun hc2 => ?_) (fun hc2 => ?_)
  · rw [if_pos hc2] at h
    refine a_iincK (k0 := (-8)) dX9_lay_69 (by decide) 2 rfl (by decide) rfl ?_
    refine a_goto (tgt := 3) dX9_lay_72 rfl ?_
    refine a_sub [1, 2, 0] rfl ?_
    exact hrec _ _ _ h
  · rw [if_neg hc2] at h
    refine a_aload_n dX9_lay_48 rfl 0 rfl ?_
    refine a_getq dX9_lay_49 G_X9_14 zs_48 rfl (rf_48_1 hR) ?_
    refine a_aload_n dX9_lay_52 rfl 0 rfl ?_
    refine a_geti dX9_lay_53 G_X9_11 zs_48 rfl ?_
    refine a_iload dX9_lay_56 3 rfl ?_
    obtain ⟨hz1, h⟩ := zif h
    refine a_iast dX9_lay_58 zs_49 (zin_vp hz1) ?_
    refine a_aload_n dX9_lay_59 rfl 0 rfl ?_
    refine a_dup dX9_lay_60 rfl ?_
    refine a_geti dX9_lay_61 G_X9_11 zs_48 rfl ?_
    refine a_iconst (v := 1) dX9_lay_64 (by decide) ?_
    refine a_iadd dX9_lay_65 ?_
    refine a_puti dX9_lay_66 F_X9_11 zs_48 rfl ⟨rfl, rfl⟩ ?_
    refine a_iincK (k0 := (-8)) dX9_lay_69 (by decide) 2 rfl (by decide) rfl ?_
    refine a_goto (tgt := 3) dX9_lay_72 rfl ?_
    refine a_sub [1, 2, 0] rfl ?_
    exact hrec _ _ _ h
set_option maxRecDepth 100000 in
theorem tX9_lay_3 {X : Nat × (Nat → Int32)} {L : zPL} {F : zPF} {a b : Nat} {c : Option Nat} (hR : zRin F a b c) {r : zPI} {K : zPI → Option (zPI)} (hK : ∀ (I : zPI), K I = some r → zAW zE0 X mX9_lay 0 75 [] [] (zS0, I, L, F) none (zS0, r, L, F)) : ∀ (n : Nat) (v1 : Int64) (v3 : Int32) (I : zPI), fX9_lay_3 K n v1 v3 I = some r → zAW zE0 X mX9_lay 0 3 [(0, zr 48), (1, zl v1), (3, zi v3)] [] (zS0, I, L, F) none (zS0, r, L, F) := by
  intro n
  induction n with
  | zero =>
    intro v1 v3 I h
    rw [fX9_lay_3.eq_1] at h
    cases h
  | succ n ih =>
    intro v1 v3 I h
    rw [fX9_lay_3.eq_2] at h
    refine a_iload_n dX9_lay_3 rfl 2 rfl ?_
    refine a_if_lt (tgt := 75) dX9_lay_4 rfl (fun hc6 => ?_) (fun hc6 => ?_)
    · rw [if_pos hc6] at h
      refine a_sub [] rfl ?_
      exact hK _ h
    · rw [if_neg hc6] at h
      refine a_lload_n dX9_lay_7 rfl 1 rfl ?_
      refine a_iload_n dX9_lay_8 rfl 2 rfl ?_
      refine a_lshr dX9_lay_9 ?_
      refine a_l2i dX9_lay_10 ?_
      refine a_sipush (v := 255) dX9_lay_11 (by decide) ?_
      refine a_iand dX9_lay_14 ?_
      refine a_istore dX9_lay_15 (by decide) rfl ?_
      refine a_iload dX9_lay_17 0 rfl ?_
      refine a_bipush (v := 10) dX9_lay_19 (by decide) ?_
      refine a_icmp_eq (tgt := 38) dX9_lay_21 rfl (fun hc5 => ?_) (fun hc5 => ?_)
      · rw [if_pos hc5] at h
        refine a_sub [1, 2, 3, 0] rfl ?_
        exact tX9_lay_38 hR ih h
      · rw [if_neg hc5] at h
        refine a_iload dX9_lay_24 0 rfl ?_
        refine a_bipush (v := 32) dX9_lay_26 (by decide) ?_
        refine a_icmp_lt (tgt := 69) dX9_lay_28 rfl (fun hc4 => ?_) (fun hc4 => ?_)
        · rw [if_pos hc4] at h
          refine a_iincK (k0 := (-8)) dX9_lay_69 (by decide) 3 rfl (by decide) rfl ?_
          refine a_goto (tgt := 3) dX9_lay_72 rfl ?_
          refine a_sub [2, 3, 0] rfl ?_
          exact ih _ _ _ h
        · rw [if_neg hc4] at h
          refine a_iload dX9_lay_31 0 rfl ?_
          refine a_bipush (v := 126) dX9_lay_33 (by decide) ?_
          refine a_icmp_gt (tgt := 69) dX9_lay_35 rfl (fun hc3 => ?_) (fun hc3 => ?_)
          · rw [if_pos hc3] at h
            refine a_iincK (k0 := (-8)) dX9_lay_69 (by decide) 3 rfl (by decide) rfl ?_
            refine a_goto (tgt := 3) dX9_lay_72 rfl ?_
            refine a_sub [2, 3, 0] rfl ?_
            exact ih _ _ _ h
          · rw [if_neg hc3] at h
            refine a_sub [1, 2, 3, 0] rfl ?_
            exact tX9_lay_38 hR ih h
set_option maxRecDepth 100000 in
theorem tX9_lay {X : Nat × (Nat → Int32)} {I : zPI} {L : zPL} {F : zPF} {a b : Nat} {c : Option Nat} (hR : zRin F a b c) (p1 : Int64) (r : zPI) (h : fX9_lay I p1 = some r) : zAM X mX9_lay 0 [zr 48, zl p1] (zS0, I, L, F) none (zS0, r, L, F) := by
  refine zAM_of (by decide) (Nat.le_of_ble_eq_true rfl) ⟨fun _ => rfl, fun _ => rfl⟩ (Nat.le_refl _) (Nat.le_refl _) ?_
  unfold fX9_lay at h
  show zAW zE0 X mX9_lay 0 0 [(0, zr 48), (1, zl p1)] [] (zS0, I, L, F) none (zS0, r, L, F)
  refine a_bipush (v := 56) dX9_lay_0 (by decide) ?_
  refine a_istore_n dX9_lay_2 rfl (by decide) rfl ?_
  refine a_sub [1, 2, 0] rfl ?_
  refine tX9_lay_3 hR (fun I h => ?_) zF _ _ _ h
  (try dsimp only at h)
  cases h
  exact a_vret dX9_lay_75 rfl
def fX9_feed (I : zPI) (p1 : Int64) (p3 : Int64) (p5 : Int64) : Option (Int32 × zPI) := (fX9_lay (zu I 48 0 0) p1).bind (fun q1 => (fX9_lay q1 p3).bind (fun q3 => (fX9_lay q3 p5).bind (fun q5 => some (q5 48 2, q5))))
set_option maxRecDepth 100000 in
theorem tX9_feed {X : Nat × (Nat → Int32)} {I : zPI} {L : zPL} {F : zPF} {a b : Nat} {c : Option Nat} (hR : zRin F a b c) (p1 : Int64) (p3 : Int64) (p5 : Int64) (r : Int32 × zPI) (h : fX9_feed I p1 p3 p5 = some r) : zAM X mX9_feed 1 [zr 48, zl p1, zl p3, zl p5] (zS0, I, L, F) (some (zi r.1)) (zS0, r.2, L, F) := by
  refine zAM_of (by decide) (Nat.le_of_ble_eq_true rfl) ⟨fun h => (by cases h), fun h => (by cases h)⟩ (Nat.le_refl _) (Nat.le_refl _) ?_
  unfold fX9_feed at h
  show zAW zE0 X mX9_feed 1 0 [(0, zr 48), (1, zl p1), (3, zl p3), (5, zl p5)] [] (zS0, I, L, F) (some (zi r.1)) (zS0, r.2, L, F)
  refine a_aload_n dX9_feed_0 rfl 0 rfl ?_
  refine a_iconst (v := 0) dX9_feed_1 (by decide) ?_
  refine a_puti dX9_feed_2 F_X9_1 zs_48 rfl ⟨rfl, rfl⟩ ?_
  refine a_aload_n dX9_feed_5 rfl 0 rfl ?_
  refine a_lload_n dX9_feed_6 rfl 1 rfl ?_
  obtain ⟨q1, hq1, h⟩ := zbind h
  refine a_callV dX9_feed_7 (tX9_lay hR _ _ hq1) csX9_lay zw923 (Nat.le_of_ble_eq_true rfl) zs_48 rfl rfl (Nat.le_of_ble_eq_true rfl) ⟨Nat.le_refl _, Nat.le_refl _⟩ (fun hb2 => ?_)
  refine a_aload_n dX9_feed_10 rfl 0 rfl ?_
  refine a_lload_n dX9_feed_11 rfl 2 rfl ?_
  obtain ⟨q3, hq3, h⟩ := zbind h
  refine a_callV dX9_feed_12 (tX9_lay hR _ _ hq3) csX9_lay zw923 (Nat.le_of_ble_eq_true rfl) zs_48 rfl rfl (Nat.le_of_ble_eq_true rfl) ⟨Nat.le_refl _, Nat.le_refl _⟩ (fun hb4 => ?_)
  refine a_aload_n dX9_feed_15 rfl 0 rfl ?_
  refine a_lload dX9_feed_16 3 rfl ?_
  obtain ⟨q5, hq5, h⟩ := zbind h
  refine a_callV dX9_feed_18 (tX9_lay hR _ _ hq5) csX9_lay zw923 (Nat.le_of_ble_eq_true rfl) zs_48 rfl rfl (Nat.le_of_ble_eq_true rfl) ⟨Nat.le_refl _, Nat.le_refl _⟩ (fun hb6 => ?_)
  refine a_aload_n dX9_feed_21 rfl 0 rfl ?_
  refine a_geti dX9_feed_22 G_X9_11 zs_48 rfl ?_
  cases h
  exact a_iret dX9_feed_25 (by intro h; cases h) (znar_i rfl)
def fX9_foretell (I : zPI) (p1 : Int32) (p2 : Int32) (p3 : Int32) : Option (Int32 × zPI) := (if p1 < 0 then some (0, zu I 48 0 0) else (if 8 ≤ p1 then some (0, zu I 48 0 0) else (if p2 < 0 then some (0, zu I 48 0 0) else (if 31 < p2 then some (0, zu I 48 0 0) else (if p3 < 0 then some (0, zu I 48 0 0) else (if p3 ≤ 12 then (if zin p1 8 then (if zin p1 8 then some (1, zu (zu (zu I 48 0 0) 71 p1.toNatClampNeg p2) 72 p1.toNatClampNeg p3) else none) else none) else some (0, zu I 48 0 0)))))))
set_option maxRecDepth 100000 in
theorem tX9_foretell {X : Nat × (Nat → Int32)} {I : zPI} {L : zPL} {F : zPF} {a b : Nat} {c : Option Nat} (hR : zRin F a b c) (p1 : Int32) (p2 : Int32) (p3 : Int32) (r : Int32 × zPI) (h : fX9_foretell I p1 p2 p3 = some r) : zAM X mX9_foretell 0 [zr 48, zi p1, zi p2, zi p3] (zS0, I, L, F) (some (zi r.1)) (zS0, r.2, L, F) := by
  refine zAM_of (by decide) (Nat.le_of_ble_eq_true rfl) ⟨fun h => (by cases h), fun h => (by cases h)⟩ (Nat.le_refl _) (Nat.le_refl _) ?_
  unfold fX9_foretell at h
  show zAW zE0 X mX9_foretell 0 0 [(0, zr 48), (1, zi p1), (2, zi p2), (3, zi p3)] [] (zS0, I, L, F) (some (zi r.1)) (zS0, r.2, L, F)
  refine a_aload_n dX9_foretell_0 rfl 0 rfl ?_
  refine a_iconst (v := 0) dX9_foretell_1 (by decide) ?_
  refine a_puti dX9_foretell_2 F_X9_1 zs_48 rfl ⟨rfl, rfl⟩ ?_
  refine a_iload_n dX9_foretell_5 rfl 1 rfl ?_
  refine a_if_lt (tgt := 35) dX9_foretell_6 rfl (fun hc8 => ?_) (fun hc8 => ?_)
  · rw [if_pos hc8] at h
    refine a_iconst (v := 0) dX9_foretell_35 (by decide) ?_
    cases h
    exact a_iret dX9_foretell_36 (by intro h; cases h) (znar_b0 rfl)
  · rw [if_neg hc8] at h
    refine a_iload_n dX9_foretell_9 rfl 1 rfl ?_
    refine a_bipush (v := 8) dX9_foretell_10 (by decide) ?_
    refine a_icmp_ge (tgt := 35) dX9_foretell_12 rfl (fun hc7 => ?_) (fun hc7 => ?_)
    · rw [if_pos hc7] at h
      refine a_iconst (v := 0) dX9_foretell_35 (by decide) ?_
      cases h
      exact a_iret dX9_foretell_36 (by intro h; cases h) (znar_b0 rfl)
    · rw [if_neg hc7] at h
      refine a_iload_n dX9_foretell_15 rfl 2 rfl ?_
      refine a_if_lt (tgt := 35) dX9_foretell_16 rfl (fun hc6 => ?_) (fun hc6 => ?_)
      · rw [if_pos hc6] at h
        refine a_iconst (v := 0) dX9_foretell_35 (by decide) ?_
        cases h
        exact a_iret dX9_foretell_36 (by intro h; cases h) (znar_b0 rfl)
      · rw [if_neg hc6] at h
        refine a_iload_n dX9_foretell_19 rfl 2 rfl ?_
        refine a_bipush (v := 31) dX9_foretell_20 (by decide) ?_
        refine a_icmp_gt (tgt := 35) dX9_foretell_22 rfl (fun hc5 => ?_) (fun hc5 => ?_)
        · rw [if_pos hc5] at h
          refine a_iconst (v := 0) dX9_foretell_35 (by decide) ?_
          cases h
          exact a_iret dX9_foretell_36 (by intro h; cases h) (znar_b0 rfl)
        · rw [if_neg hc5] at h
          refine a_iload_n dX9_foretell_25 rfl 3 rfl ?_
          refine a_if_lt (tgt := 35) dX9_foretell_26 rfl (fun hc4 => ?_) (fun hc4 => ?_)
          · rw [if_pos hc4] at h
            refine a_iconst (v := 0) dX9_foretell_35 (by decide) ?_
            cases h
            exact a_iret dX9_foretell_36 (by intro h; cases h) (znar_b0 rfl)
          · rw [if_neg hc4] at h
            refine a_iload_n dX9_foretell_29 rfl 3 rfl ?_
            refine a_bipush (v := 12) dX9_foretell_30 (by decide) ?_
            refine a_icmp_le (tgt := 37) dX9_foretell_32 rfl (fun hc3 => ?_) (fun hc3 => ?_)
            · rw [if_pos hc3] at h
              refine a_aload_n dX9_foretell_37 rfl 0 rfl ?_
              refine a_getq dX9_foretell_38 G_X9_122 zs_48 rfl (rf_48_47 hR) ?_
              refine a_iload_n dX9_foretell_41 rfl 1 rfl ?_
              refine a_iload_n dX9_foretell_42 rfl 2 rfl ?_
              obtain ⟨hz1, h⟩ := zif h
              refine a_iast dX9_foretell_43 zs_71 (zin_vp hz1) ?_
              refine a_aload_n dX9_foretell_44 rfl 0 rfl ?_
              refine a_getq dX9_foretell_45 G_X9_125 zs_48 rfl (rf_48_48 hR) ?_
              refine a_iload_n dX9_foretell_48 rfl 1 rfl ?_
              refine a_iload_n dX9_foretell_49 rfl 3 rfl ?_
              obtain ⟨hz2, h⟩ := zif h
              refine a_iast dX9_foretell_50 zs_72 (zin_vp hz2) ?_
              refine a_iconst (v := 1) dX9_foretell_51 (by decide) ?_
              cases h
              exact a_iret dX9_foretell_52 (by intro h; cases h) (znar_b1 rfl)
            · rw [if_neg hc3] at h
              refine a_iconst (v := 0) dX9_foretell_35 (by decide) ?_
              cases h
              exact a_iret dX9_foretell_36 (by intro h; cases h) (znar_b0 rfl)
def fX9_table (p0 : Int32) : Int32 := (if 5 ≤ p0 then (if 8 ≤ p0 then (if 13 ≤ p0 then (if p0 = 13 then 7 else 6) else 8) else (2 * (p0 - 4))) else 0)
set_option maxRecDepth 100000 in
theorem tX9_table {X : Nat × (Nat → Int32)} {I : zPI} {L : zPL} {F : zPF} {a b : Nat} {c : Option Nat} (hR : zRin F a b c) (p0 : Int32) (r : Int32) (h : fX9_table p0 = r) : zAM X mX9_table 0 [zi p0] (zS0, I, L, F) (some (zi r)) (zS0, I, L, F) := by
  refine zAM_of (by decide) (Nat.le_of_ble_eq_true rfl) ⟨fun h => (by cases h), fun h => (by cases h)⟩ (Nat.le_refl _) (Nat.le_refl _) ?_
  unfold fX9_table at h
  show zAW zE0 X mX9_table 0 0 [(0, zi p0)] [] (zS0, I, L, F) (some (zi r)) (zS0, I, L, F)
  refine a_iload_n dX9_table_0 rfl 0 rfl ?_
  refine a_iconst (v := 5) dX9_table_1 (by decide) ?_
  refine a_icmp_ge (tgt := 9) dX9_table_2 rfl (fun hc4 => ?_) (fun hc4 => ?_)
  · rw [if_pos hc4] at h
    refine a_iload_n dX9_table_9 rfl 0 rfl ?_
    refine a_bipush (v := 8) dX9_table_10 (by decide) ?_
    refine a_icmp_ge (tgt := 23) dX9_table_12 rfl (fun hc3 => ?_) (fun hc3 => ?_)
    · rw [if_pos hc3] at h
      refine a_iload_n dX9_table_23 rfl 0 rfl ?_
      refine a_bipush (v := 13) dX9_table_24 (by decide) ?_
      refine a_icmp_ge (tgt := 34) dX9_table_26 rfl (fun hc2 => ?_) (fun hc2 => ?_)
      · rw [if_pos hc2] at h
        refine a_iload_n dX9_table_34 rfl 0 rfl ?_
        refine a_bipush (v := 13) dX9_table_35 (by decide) ?_
        refine a_icmp_ne (tgt := 45) dX9_table_37 rfl (fun hc1 => ?_) (fun hc1 => ?_)
        · rw [if_neg hc1] at h
          refine a_bipush (v := 6) dX9_table_45 (by decide) ?_
          subst h
          exact a_iret dX9_table_47 (by intro h; cases h) (znar_i rfl)
        · rw [if_pos hc1] at h
          refine a_bipush (v := 7) dX9_table_40 (by decide) ?_
          refine a_goto (tgt := 47) dX9_table_42 rfl ?_
          subst h
          exact a_iret dX9_table_47 (by intro h; cases h) (znar_i rfl)
      · rw [if_neg hc2] at h
        refine a_bipush (v := 8) dX9_table_29 (by decide) ?_
        refine a_goto (tgt := 47) dX9_table_31 rfl ?_
        subst h
        exact a_iret dX9_table_47 (by intro h; cases h) (znar_i rfl)
    · rw [if_neg hc3] at h
      refine a_iconst (v := 2) dX9_table_15 (by decide) ?_
      refine a_iload_n dX9_table_16 rfl 0 rfl ?_
      refine a_iconst (v := 4) dX9_table_17 (by decide) ?_
      refine a_isub dX9_table_18 ?_
      refine a_imul dX9_table_19 ?_
      refine a_goto (tgt := 47) dX9_table_20 rfl ?_
      subst h
      exact a_iret dX9_table_47 (by intro h; cases h) (znar_i rfl)
  · rw [if_neg hc4] at h
    refine a_iconst (v := 0) dX9_table_5 (by decide) ?_
    refine a_goto (tgt := 47) dX9_table_6 rfl ?_
    subst h
    exact a_iret dX9_table_47 (by intro h; cases h) (znar_i rfl)
def fX9_loads_7 (K : Int32 → Int32 → zPI → Option (zPI)) : Nat → Int32 → Int32 → Int32 → Int32 → zPI → Option (zPI)
  | 0, _, _, _, _, _ => none
  | n + 1, v1, v2, v3, v4, I => (if ((2 * v1) + 2) ≤ v4 then K v1 v3 I else (if zin v4 18 then (if ((I 60 v4.toNatClampNeg) + v2) ≤ 900 then (if zin v4 18 then (if zin v4 18 then fX9_loads_7 K n v1 v2 v3 (v4 + 1) (zu I 60 v4.toNatClampNeg ((I 60 v4.toNatClampNeg) + (v2 / 16))) else none) else none) else (if zin v4 18 then fX9_loads_7 K n v1 v2 1 (v4 + 1) (zu (zu I 59 v4.toNatClampNeg 2) 48 35 (((zu I 59 v4.toNatClampNeg 2) 48 35) + 1)) else none)) else none))
def fX9_loads_92 (K : Int32 → zPI → Option (zPI)) : Nat → Int32 → Int32 → zPI → Option (zPI)
  | 0, _, _, _ => none
  | n + 1, v1, v4, I => (if ((2 * v1) + 2) ≤ v4 then K v1 I else (if zin v4 18 then (if (I 59 v4.toNatClampNeg) = 1 then (if zin v4 18 then fX9_loads_92 K n v1 (v4 + 1) (zu I 59 v4.toNatClampNeg 0) else none) else (if zin v4 18 then (if zin v4 18 then fX9_loads_92 K n v1 (v4 + 1) (zu I 59 v4.toNatClampNeg (I 59 v4.toNatClampNeg)) else none) else none)) else none))
def fX9_loads_140 (K : zPI → Option (zPI)) : Nat → Int32 → Int32 → zPI → Option (zPI)
  | 0, _, _, _ => none
  | n + 1, v1, v4, I => (if 24 ≤ v4 then K I else (if zin v4 24 then (if (I 63 v4.toNatClampNeg) = 2 then (if zin v4 24 then (if (I 64 v4.toNatClampNeg) = v1 then (fX9_gives I v4).bind (fun q16 => fX9_loads_140 K n v1 (v4 + 1) q16) else fX9_loads_140 K n v1 (v4 + 1) I) else none) else fX9_loads_140 K n v1 (v4 + 1) I) else none))
def fX9_loads (I : zPI) (p1 : Int32) (p2 : Int32) : Option (zPI) := fX9_loads_7 (fun v1 v3 I => (if v3 = 0 then some (I) else (if zin v1 9 then fX9_loads_92 (fun v1 I => fX9_loads_140 (fun I => some (I)) zF v1 0 I) zF v1 (2 * v1) (zu I 58 v1.toNatClampNeg 2) else none))) zF p1 p2 0 (2 * p1) I
set_option maxRecDepth 100000 in
theorem tX9_loads_7 {X : Nat × (Nat → Int32)} {L : zPL} {F : zPF} {a b : Nat} {c : Option Nat} (hR : zRin F a b c) {r : zPI} {K : Int32 → Int32 → zPI → Option (zPI)} (hK : ∀ (v1 : Int32) (v3 : Int32) (I : zPI), K v1 v3 I = some r → zAW zE0 X mX9_loads 1 75 [(0, zr 48), (1, zi v1), (3, zi v3)] [] (zS0, I, L, F) none (zS0, r, L, F)) : ∀ (n : Nat) (v1 : Int32) (v2 : Int32) (v3 : Int32) (v4 : Int32) (I : zPI), fX9_loads_7 K n v1 v2 v3 v4 I = some r → zAW zE0 X mX9_loads 1 7 [(0, zr 48), (1, zi v1), (2, zi v2), (3, zi v3), (4, zi v4)] [] (zS0, I, L, F) none (zS0, r, L, F) := by
  intro n
  induction n with
  | zero =>
    intro v1 v2 v3 v4 I h
    rw [fX9_loads_7.eq_1] at h
    cases h
  | succ n ih =>
    intro v1 v2 v3 v4 I h
    rw [fX9_loads_7.eq_2] at h
    refine a_iload dX9_loads_7 4 rfl ?_
    refine a_iconst (v := 2) dX9_loads_9 (by decide) ?_
    refine a_iload_n dX9_loads_10 rfl 1 rfl ?_
    refine a_imul dX9_loads_11 ?_
    refine a_iconst (v := 2) dX9_loads_12 (by decide) ?_
    refine a_iadd dX9_loads_13 ?_
    refine a_icmp_ge (tgt := 75) dX9_loads_14 rfl (fun hc6 => ?_) (fun hc6 => ?_)
    · rw [if_pos hc6] at h
      refine a_sub [0, 1, 3] rfl ?_
      exact hK _ _ _ h
    · rw [if_neg hc6] at h
      refine a_aload_n dX9_loads_17 rfl 0 rfl ?_
      refine a_getq dX9_loads_18 G_X9_89 zs_48 rfl (rf_48_21 hR) ?_
      refine a_iload dX9_loads_21 4 rfl ?_
      obtain ⟨hz1, h⟩ := zif h
      refine a_iald dX9_loads_23 zs_60 (zin_vp hz1) ?_
      refine a_iload_n dX9_loads_24 rfl 2 rfl ?_
      refine a_iadd dX9_loads_25 ?_
      refine a_sipush (v := 900) dX9_loads_26 (by decide) ?_
      refine a_icmp_le (tgt := 55) dX9_loads_29 rfl (fun hc5 => ?_) (fun hc5 => ?_)
      · rw [if_pos hc5] at h
        refine a_aload_n dX9_loads_55 rfl 0 rfl ?_
        refine a_getq dX9_loads_56 G_X9_89 zs_48 rfl (rf_48_21 hR) ?_
        refine a_iload dX9_loads_59 4 rfl ?_
        refine a_dup2 dX9_loads_61 rfl rfl ?_
        obtain ⟨hz2, h⟩ := zif h
        refine a_iald dX9_loads_62 zs_60 (zin_vp hz2) ?_
        refine a_iload_n dX9_loads_63 rfl 2 rfl ?_
        refine a_bipush (v := 16) dX9_loads_64 (by decide) ?_
        refine a_idiv dX9_loads_66 (by decide) ?_
        refine a_iadd dX9_loads_67 ?_
        obtain ⟨hz3, h⟩ := zif h
        refine a_iast dX9_loads_68 zs_60 (zin_vp hz3) ?_
        refine a_iincK (k0 := 1) dX9_loads_69 (by decide) 4 rfl (by decide) rfl ?_
        refine a_goto (tgt := 7) dX9_loads_72 rfl ?_
        refine a_sub [1, 2, 3, 4, 0] rfl ?_
        exact ih _ _ _ _ _ h
      · rw [if_neg hc5] at h
        refine a_aload_n dX9_loads_32 rfl 0 rfl ?_
        refine a_getq dX9_loads_33 G_X9_86 zs_48 rfl (rf_48_20 hR) ?_
        refine a_iload dX9_loads_36 4 rfl ?_
        refine a_iconst (v := 2) dX9_loads_38 (by decide) ?_
        obtain ⟨hz4, h⟩ := zif h
        refine a_iast dX9_loads_39 zs_59 (zin_vp hz4) ?_
        refine a_aload_n dX9_loads_40 rfl 0 rfl ?_
        refine a_dup dX9_loads_41 rfl ?_
        refine a_geti dX9_loads_42 G_X9_329 zs_48 rfl ?_
        refine a_iconst (v := 1) dX9_loads_45 (by decide) ?_
        refine a_iadd dX9_loads_46 ?_
        refine a_puti dX9_loads_47 F_X9_329 zs_48 rfl ⟨rfl, rfl⟩ ?_
        refine a_iconst (v := 1) dX9_loads_50 (by decide) ?_
        refine a_istore_n dX9_loads_51 rfl (by decide) rfl ?_
        refine a_goto (tgt := 69) dX9_loads_52 rfl ?_
        refine a_iincK (k0 := 1) dX9_loads_69 (by decide) 4 rfl (by decide) rfl ?_
        refine a_goto (tgt := 7) dX9_loads_72 rfl ?_
        refine a_sub [2, 3, 4, 1, 0] rfl ?_
        exact ih _ _ _ _ _ h
set_option maxRecDepth 100000 in
theorem tX9_loads_92 {X : Nat × (Nat → Int32)} {L : zPL} {F : zPF} {a b : Nat} {c : Option Nat} (hR : zRin F a b c) {r : zPI} {K : Int32 → zPI → Option (zPI)} (hK : ∀ (v1 : Int32) (I : zPI), K v1 I = some r → zAW zE0 X mX9_loads 1 137 [(0, zr 48), (1, zi v1)] [] (zS0, I, L, F) none (zS0, r, L, F)) : ∀ (n : Nat) (v1 : Int32) (v4 : Int32) (I : zPI), fX9_loads_92 K n v1 v4 I = some r → zAW zE0 X mX9_loads 1 92 [(0, zr 48), (1, zi v1), (4, zi v4)] [] (zS0, I, L, F) none (zS0, r, L, F) := by
  intro n
  induction n with
  | zero =>
    intro v1 v4 I h
    rw [fX9_loads_92.eq_1] at h
    cases h
  | succ n ih =>
    intro v1 v4 I h
    rw [fX9_loads_92.eq_2] at h
    refine a_iload dX9_loads_92 2 rfl ?_
    refine a_iconst (v := 2) dX9_loads_94 (by decide) ?_
    refine a_iload_n dX9_loads_95 rfl 1 rfl ?_
    refine a_imul dX9_loads_96 ?_
    refine a_iconst (v := 2) dX9_loads_97 (by decide) ?_
    refine a_iadd dX9_loads_98 ?_
    refine a_icmp_ge (tgt := 137) dX9_loads_99 rfl (fun hc13 => ?_) (fun hc13 => ?_)
    · rw [if_pos hc13] at h
      refine a_sub [0, 1] rfl ?_
      exact hK _ _ h
    · rw [if_neg hc13] at h
      refine a_aload_n dX9_loads_102 rfl 0 rfl ?_
      refine a_getq dX9_loads_103 G_X9_86 zs_48 rfl (rf_48_20 hR) ?_
      refine a_iload dX9_loads_106 2 rfl ?_
      refine a_aload_n dX9_loads_108 rfl 0 rfl ?_
      refine a_getq dX9_loads_109 G_X9_86 zs_48 rfl (rf_48_20 hR) ?_
      refine a_iload dX9_loads_112 2 rfl ?_
      obtain ⟨hz8, h⟩ := zif h
      refine a_iald dX9_loads_114 zs_59 (zin_vp hz8) ?_
      refine a_iconst (v := 1) dX9_loads_115 (by decide) ?_
      refine a_icmp_ne (tgt := 123) dX9_loads_116 rfl (fun hc12 => ?_) (fun hc12 => ?_)
      · rw [if_neg hc12] at h
        refine a_aload_n dX9_loads_123 rfl 0 rfl ?_
        refine a_getq dX9_loads_124 G_X9_86 zs_48 rfl (rf_48_20 hR) ?_
        refine a_iload dX9_loads_127 2 rfl ?_
        obtain ⟨hz9, h⟩ := zif h
        refine a_iald dX9_loads_129 zs_59 (zin_vp hz9) ?_
        obtain ⟨hz10, h⟩ := zif h
        refine a_iast dX9_loads_130 zs_59 (zin_vp hz10) ?_
        refine a_iincK (k0 := 1) dX9_loads_131 (by decide) 2 rfl (by decide) rfl ?_
        refine a_goto (tgt := 92) dX9_loads_134 rfl ?_
        refine a_sub [1, 2, 0] rfl ?_
        exact ih _ _ _ h
      · rw [if_pos hc12] at h
        refine a_iconst (v := 0) dX9_loads_119 (by decide) ?_
        refine a_goto (tgt := 130) dX9_loads_120 rfl ?_
        obtain ⟨hz11, h⟩ := zif h
        refine a_iast dX9_loads_130 zs_59 (zin_vp hz11) ?_
        refine a_iincK (k0 := 1) dX9_loads_131 (by decide) 2 rfl (by decide) rfl ?_
        refine a_goto (tgt := 92) dX9_loads_134 rfl ?_
        refine a_sub [1, 2, 0] rfl ?_
        exact ih _ _ _ h
set_option maxRecDepth 100000 in
theorem tX9_loads_140 {X : Nat × (Nat → Int32)} {L : zPL} {F : zPF} {a b : Nat} {c : Option Nat} (hR : zRin F a b c) {r : zPI} {K : zPI → Option (zPI)} (hK : ∀ (I : zPI), K I = some r → zAW zE0 X mX9_loads 1 181 [] [] (zS0, I, L, F) none (zS0, r, L, F)) : ∀ (n : Nat) (v1 : Int32) (v4 : Int32) (I : zPI), fX9_loads_140 K n v1 v4 I = some r → zAW zE0 X mX9_loads 1 140 [(0, zr 48), (1, zi v1), (4, zi v4)] [] (zS0, I, L, F) none (zS0, r, L, F) := by
  intro n
  induction n with
  | zero =>
    intro v1 v4 I h
    rw [fX9_loads_140.eq_1] at h
    cases h
  | succ n ih =>
    intro v1 v4 I h
    rw [fX9_loads_140.eq_2] at h
    refine a_iload dX9_loads_140 2 rfl ?_
    refine a_bipush (v := 24) dX9_loads_142 (by decide) ?_
    refine a_icmp_ge (tgt := 181) dX9_loads_144 rfl (fun hc20 => ?_) (fun hc20 => ?_)
    · rw [if_pos hc20] at h
      refine a_sub [] rfl ?_
      exact hK _ h
    · rw [if_neg hc20] at h
      refine a_aload_n dX9_loads_147 rfl 0 rfl ?_
      refine a_getq dX9_loads_148 G_X9_98 zs_48 rfl (rf_48_24 hR) ?_
      refine a_iload dX9_loads_151 2 rfl ?_
      obtain ⟨hz14, h⟩ := zif h
      refine a_iald dX9_loads_153 zs_63 (zin_vp hz14) ?_
      refine a_iconst (v := 2) dX9_loads_154 (by decide) ?_
      refine a_icmp_ne (tgt := 175) dX9_loads_155 rfl (fun hc19 => ?_) (fun hc19 => ?_)
      · rw [if_neg hc19] at h
        refine a_iincK (k0 := 1) dX9_loads_175 (by decide) 2 rfl (by decide) rfl ?_
        refine a_goto (tgt := 140) dX9_loads_178 rfl ?_
        refine a_sub [1, 2, 0] rfl ?_
        exact ih _ _ _ h
      · rw [if_pos hc19] at h
        refine a_aload_n dX9_loads_158 rfl 0 rfl ?_
        refine a_getq dX9_loads_159 G_X9_101 zs_48 rfl (rf_48_25 hR) ?_
        refine a_iload dX9_loads_162 2 rfl ?_
        obtain ⟨hz15, h⟩ := zif h
        refine a_iald dX9_loads_164 zs_64 (zin_vp hz15) ?_
        refine a_iload_n dX9_loads_165 rfl 1 rfl ?_
        refine a_icmp_ne (tgt := 175) dX9_loads_166 rfl (fun hc18 => ?_) (fun hc18 => ?_)
        · rw [if_neg hc18] at h
          refine a_iincK (k0 := 1) dX9_loads_175 (by decide) 2 rfl (by decide) rfl ?_
          refine a_goto (tgt := 140) dX9_loads_178 rfl ?_
          refine a_sub [1, 2, 0] rfl ?_
          exact ih _ _ _ h
        · rw [if_pos hc18] at h
          refine a_aload_n dX9_loads_169 rfl 0 rfl ?_
          refine a_iload dX9_loads_170 2 rfl ?_
          obtain ⟨q16, hq16, h⟩ := zbind h
          refine a_callV dX9_loads_172 (tX9_gives hR _ _ hq16) csX9_gives zw1223 (Nat.le_of_ble_eq_true rfl) zs_48 rfl rfl (Nat.le_of_ble_eq_true rfl) ⟨Nat.le_refl _, Nat.le_refl _⟩ (fun hb17 => ?_)
          refine a_iincK (k0 := 1) dX9_loads_175 (by decide) 2 rfl (by decide) rfl ?_
          refine a_goto (tgt := 140) dX9_loads_178 rfl ?_
          refine a_sub [1, 2, 0] rfl ?_
          exact ih _ _ _ h
set_option maxRecDepth 100000 in
theorem tX9_loads {X : Nat × (Nat → Int32)} {I : zPI} {L : zPL} {F : zPF} {a b : Nat} {c : Option Nat} (hR : zRin F a b c) (p1 : Int32) (p2 : Int32) (r : zPI) (h : fX9_loads I p1 p2 = some r) : zAM X mX9_loads 1 [zr 48, zi p1, zi p2] (zS0, I, L, F) none (zS0, r, L, F) := by
  refine zAM_of (by decide) (Nat.le_of_ble_eq_true rfl) ⟨fun _ => rfl, fun _ => rfl⟩ (Nat.le_refl _) (Nat.le_refl _) ?_
  unfold fX9_loads at h
  show zAW zE0 X mX9_loads 1 0 [(0, zr 48), (1, zi p1), (2, zi p2)] [] (zS0, I, L, F) none (zS0, r, L, F)
  refine a_iconst (v := 0) dX9_loads_0 (by decide) ?_
  refine a_istore_n dX9_loads_1 rfl (by decide) rfl ?_
  refine a_iconst (v := 2) dX9_loads_2 (by decide) ?_
  refine a_iload_n dX9_loads_3 rfl 2 rfl ?_
  refine a_imul dX9_loads_4 ?_
  refine a_istore dX9_loads_5 (by decide) rfl ?_
  refine a_sub [2, 3, 4, 1, 0] rfl ?_
  refine tX9_loads_7 hR (fun v1 v3 I h => ?_) zF _ _ _ _ _ h
  (try dsimp only at h)
  refine a_iload_n dX9_loads_75 rfl 2 rfl ?_
  refine a_if_ne (tgt := 80) dX9_loads_76 rfl (fun hc21 => ?_) (fun hc21 => ?_)
  · rw [if_neg hc21] at h
    refine a_aload_n dX9_loads_80 rfl 0 rfl ?_
    refine a_getq dX9_loads_81 G_X9_83 zs_48 rfl (rf_48_19 hR) ?_
    refine a_iload_n dX9_loads_84 rfl 1 rfl ?_
    refine a_iconst (v := 2) dX9_loads_85 (by decide) ?_
    obtain ⟨hz7, h⟩ := zif h
    refine a_iast dX9_loads_86 zs_58 (zin_vp hz7) ?_
    refine a_iconst (v := 2) dX9_loads_87 (by decide) ?_
    refine a_iload_n dX9_loads_88 rfl 1 rfl ?_
    refine a_imul dX9_loads_89 ?_
    refine a_istore dX9_loads_90 (by decide) rfl ?_
    refine a_sub [1, 2, 0] rfl ?_
    refine tX9_loads_92 hR (fun v1 I h => ?_) zF _ _ _ h
    (try dsimp only at h)
    refine a_iconst (v := 0) dX9_loads_137 (by decide) ?_
    refine a_istore dX9_loads_138 (by decide) rfl ?_
    refine a_sub [1, 2, 0] rfl ?_
    refine tX9_loads_140 hR (fun I h => ?_) zF _ _ _ h
    (try dsimp only at h)
    cases h
    exact a_vret dX9_loads_181 rfl
  · rw [if_pos hc21] at h
    cases h
    exact a_vret dX9_loads_79 rfl
def fX9_sails_147 (rec : Int32 → Int32 → Int32 → Int32 → Int32 → Int32 → zPI → Option (zPI)) (v1 : Int32) (v2 : Int32) (v3 : Int32) (v4 : Int32) (v5 : Int32) (v6 : Int32) (s0 : Int32) (I : zPI) : Option (zPI) := (if v3 = 0 then rec v1 v2 v3 v4 (v5 + (((((fX9_area v6) * v1) * (fX9_table v2)) * s0) / 64)) (v6 + 1) I else rec v1 v2 v3 v4 (v5 + (-(((fX9_area v6) * v1) / 4))) (v6 + 1) I)
def fX9_sails_124 (rec : Int32 → Int32 → Int32 → Int32 → Int32 → Int32 → zPI → Option (zPI)) (v1 : Int32) (v2 : Int32) (v3 : Int32) (v4 : Int32) (v5 : Int32) (v6 : Int32) (s0 : Int32) (I : zPI) : Option (zPI) := (if 0 ≤ (8 - (2 * s0)) then fX9_sails_147 rec v1 v2 v3 v4 v5 v6 (8 - (2 * s0)) I else fX9_sails_147 rec v1 v2 v3 v4 v5 v6 0 I)
def fX9_sails_62 (K : Int32 → Int32 → Int32 → zPI → Option (zPI)) : Nat → Int32 → Int32 → Int32 → Int32 → Int32 → Int32 → zPI → Option (zPI)
  | 0, _, _, _, _, _, _, _ => none
  | n + 1, v1, v2, v3, v4, v5, v6, I => (if 9 ≤ v6 then K v1 v3 v5 I else (if zin v6 9 then (if (I 58 v6.toNatClampNeg) = 1 then (if zin (v6 / 3) 3 then (if (I 61 (v6 / 3).toNatClampNeg) ≤ v4 then (if zin (v6 / 3) 3 then fX9_sails_124 (fX9_sails_62 K n) v1 v2 v3 v4 v5 v6 (v4 - (I 61 (v6 / 3).toNatClampNeg)) I else none) else (if zin (v6 / 3) 3 then fX9_sails_124 (fX9_sails_62 K n) v1 v2 v3 v4 v5 v6 ((I 61 (v6 / 3).toNatClampNeg) - v4) I else none)) else none) else fX9_sails_62 K n v1 v2 v3 v4 v5 (v6 + 1) I) else none))
def fX9_sails_310 (rec : Int32 → Int32 → Int32 → zPI → Option (zPI)) (v1 : Int32) (v3 : Int32) (v7 : Int32) (s1 : Int32) (s2 : Int32) (s3 : Int32) (I : zPI) : Option (zPI) := (fX9_loads I s1 (s2 * s3)).bind (fun q20 => rec v1 v3 (v7 + 1) q20)
def fX9_sails_269 (K : zPI → Option (zPI)) : Nat → Int32 → Int32 → Int32 → zPI → Option (zPI)
  | 0, _, _, _, _ => none
  | n + 1, v1, v3, v7, I => (if 9 ≤ v7 then K I else (if zin v7 9 then (if (I 58 v7.toNatClampNeg) = 1 then (if v3 = 0 then fX9_sails_310 (fX9_sails_269 K n) v1 v3 v7 v7 (((v1 * v1) * (fX9_area v7)) / 4) 1 I else fX9_sails_310 (fX9_sails_269 K n) v1 v3 v7 v7 (((v1 * v1) * (fX9_area v7)) / 4) 2 I) else fX9_sails_269 K n v1 v3 (v7 + 1) I) else none))
def fX9_sails_262 (v1 : Int32) (v3 : Int32) (s1 : Int32) (s2 : Int32) (I : zPI) : Option (zPI) := fX9_sails_269 (fun I => some (I)) zF v1 v3 0 (zu I 48 32 (s1 + s2))
def fX9_sails_228 (v1 : Int32) (v3 : Int32) (s0 : Int32) (I : zPI) : Option (zPI) := (if s0 ≤ (I 48 32) then (if (I 48 32) ≤ s0 then fX9_sails_262 v1 v3 (I 48 32) 0 I else fX9_sails_262 v1 v3 (I 48 32) (-1) I) else fX9_sails_262 v1 v3 (I 48 32) 1 I)
def fX9_sails_54 (v1 : Int32) (v2 : Int32) (v3 : Int32) (s0 : Int32) (I : zPI) : Option (zPI) := fX9_sails_62 (fun v1 v3 v5 I => (if (v5 / 20) ≤ 14 then (if (-3) ≤ (v5 / 20) then fX9_sails_228 v1 v3 (v5 / 20) I else fX9_sails_228 v1 v3 (-3) I) else fX9_sails_228 v1 v3 14 I)) zF v1 v2 v3 s0 0 0 I
def fX9_sails_27 (v1 : Int32) (v2 : Int32) (s0 : Int32) (I : zPI) : Option (zPI) := (if (((16 - v2) * 8) / 10) ≤ 8 then fX9_sails_54 v1 v2 s0 (((16 - v2) * 8) / 10) I else fX9_sails_54 v1 v2 s0 8 I)
def fX9_sails (I : zPI) : Option (zPI) := (fX9_force I).bind (fun q1 => (fX9_point I).bind (fun q3 => (if 5 ≤ (fX9_apart q3 (I 48 30)) then fX9_sails_27 q1 (fX9_apart q3 (I 48 30)) 0 I else fX9_sails_27 q1 (fX9_apart q3 (I 48 30)) 1 I)))
set_option maxRecDepth 100000 in
theorem tX9_sails_147 {X : Nat × (Nat → Int32)} {I : zPI} {L : zPL} {F : zPF} {a b : Nat} {c : Option Nat} (hR : zRin F a b c) {r : zPI} {rec : Int32 → Int32 → Int32 → Int32 → Int32 → Int32 → zPI → Option (zPI)} (hrec : ∀ (v1 : Int32) (v2 : Int32) (v3 : Int32) (v4 : Int32) (v5 : Int32) (v6 : Int32) (I : zPI), rec v1 v2 v3 v4 v5 v6 I = some r → zAW zE0 X mX9_sails 2 62 [(0, zr 48), (1, zi v1), (2, zi v2), (3, zi v3), (4, zi v4), (5, zi v5), (6, zi v6)] [] (zS0, I, L, F) none (zS0, r, L, F)) {v1 : Int32} {v2 : Int32} {v3 : Int32} {v4 : Int32} {v5 : Int32} {v6 : Int32} {s0 : Int32} (h : fX9_sails_147 rec v1 v2 v3 v4 v5 v6 s0 I = some r) : zAW zE0 X mX9_sails 2 147 [(0, zr 48), (1, zi v1), (2, zi v2), (3, zi v3), (4, zi v4), (5, zi v5), (6, zi v6)] [zi s0] (zS0, I, L, F) none (zS0, r, L, F) := by
  unfold fX9_sails_147 at h
  refine a_istore dX9_sails_147 (by decide) rfl ?_
  refine a_iload dX9_sails_149 6 rfl ?_
  refine a_iload_n dX9_sails_151 rfl 4 rfl ?_
  refine a_if_eq (tgt := 168) dX9_sails_152 rfl (fun hc12 => ?_) (fun hc12 => ?_)
  · rw [if_pos hc12] at h
    refine a_iload dX9_sails_168 7 rfl ?_
    refine a_callS dX9_sails_170 (tX9_area hR _ _ rfl) csX9_area zw1280 (Nat.le_of_ble_eq_true rfl) rfl (Nat.le_of_ble_eq_true rfl) ⟨Nat.le_refl _, Nat.le_refl _⟩ (fun hb9 => ?_)
    refine a_iload_n dX9_sails_173 rfl 2 rfl ?_
    refine a_imul dX9_sails_174 ?_
    refine a_iload_n dX9_sails_175 rfl 3 rfl ?_
    refine a_callS dX9_sails_176 (tX9_table hR _ _ rfl) csX9_table zw1283 (Nat.le_of_ble_eq_true rfl) rfl (Nat.le_of_ble_eq_true rfl) ⟨Nat.le_refl _, Nat.le_refl _⟩ (fun hb10 => ?_)
    refine a_imul dX9_sails_179 ?_
    refine a_iload dX9_sails_180 0 rfl ?_
    refine a_imul dX9_sails_182 ?_
    refine a_bipush (v := 64) dX9_sails_183 (by decide) ?_
    refine a_idiv dX9_sails_185 (by decide) ?_
    refine a_iadd dX9_sails_186 ?_
    refine a_istore dX9_sails_187 (by decide) rfl ?_
    refine a_iincK (k0 := 1) dX9_sails_189 (by decide) 7 rfl (by decide) rfl ?_
    refine a_goto (tgt := 62) dX9_sails_192 rfl ?_
    refine a_sub [3, 4, 5, 6, 7, 1, 0] rfl ?_
    exact hrec _ _ _ _ _ _ _ h
  · rw [if_neg hc12] at h
    refine a_iload dX9_sails_155 7 rfl ?_
    refine a_callS dX9_sails_157 (tX9_area hR _ _ rfl) csX9_area zw1280 (Nat.le_of_ble_eq_true rfl) rfl (Nat.le_of_ble_eq_true rfl) ⟨Nat.le_refl _, Nat.le_refl _⟩ (fun hb11 => ?_)
    refine a_iload_n dX9_sails_160 rfl 2 rfl ?_
    refine a_imul dX9_sails_161 ?_
    refine a_iconst (v := 4) dX9_sails_162 (by decide) ?_
    refine a_idiv dX9_sails_163 (by decide) ?_
    refine a_ineg dX9_sails_164 ?_
    refine a_goto (tgt := 186) dX9_sails_165 rfl ?_
    refine a_iadd dX9_sails_186 ?_
    refine a_istore dX9_sails_187 (by decide) rfl ?_
    refine a_iincK (k0 := 1) dX9_sails_189 (by decide) 7 rfl (by decide) rfl ?_
    refine a_goto (tgt := 62) dX9_sails_192 rfl ?_
    refine a_sub [3, 4, 5, 6, 7, 1, 0] rfl ?_
    exact hrec _ _ _ _ _ _ _ h
set_option maxRecDepth 100000 in
theorem tX9_sails_124 {X : Nat × (Nat → Int32)} {I : zPI} {L : zPL} {F : zPF} {a b : Nat} {c : Option Nat} (hR : zRin F a b c) {r : zPI} {rec : Int32 → Int32 → Int32 → Int32 → Int32 → Int32 → zPI → Option (zPI)} (hrec : ∀ (v1 : Int32) (v2 : Int32) (v3 : Int32) (v4 : Int32) (v5 : Int32) (v6 : Int32) (I : zPI), rec v1 v2 v3 v4 v5 v6 I = some r → zAW zE0 X mX9_sails 2 62 [(0, zr 48), (1, zi v1), (2, zi v2), (3, zi v3), (4, zi v4), (5, zi v5), (6, zi v6)] [] (zS0, I, L, F) none (zS0, r, L, F)) {v1 : Int32} {v2 : Int32} {v3 : Int32} {v4 : Int32} {v5 : Int32} {v6 : Int32} {s0 : Int32} (h : fX9_sails_124 rec v1 v2 v3 v4 v5 v6 s0 I = some r) : zAW zE0 X mX9_sails 2 124 [(0, zr 48), (1, zi v1), (2, zi v2), (3, zi v3), (4, zi v4), (5, zi v5), (6, zi v6)] [zi s0] (zS0, I, L, F) none (zS0, r, L, F) := by
  unfold fX9_sails_124 at h
  refine a_istore dX9_sails_124 (by decide) rfl ?_
  refine a_bipush (v := 8) dX9_sails_126 (by decide) ?_
  refine a_iconst (v := 2) dX9_sails_128 (by decide) ?_
  refine a_iload dX9_sails_129 0 rfl ?_
  refine a_imul dX9_sails_131 ?_
  refine a_isub dX9_sails_132 ?_
  refine a_if_ge (tgt := 140) dX9_sails_133 rfl (fun hc13 => ?_) (fun hc13 => ?_)
  · rw [if_pos hc13] at h
    refine a_bipush (v := 8) dX9_sails_140 (by decide) ?_
    refine a_iconst (v := 2) dX9_sails_142 (by decide) ?_
    refine a_iload dX9_sails_143 0 rfl ?_
    refine a_imul dX9_sails_145 ?_
    refine a_isub dX9_sails_146 ?_
    refine a_sub [1, 2, 3, 4, 5, 6, 7] rfl ?_
    exact tX9_sails_147 hR hrec h
  · rw [if_neg hc13] at h
    refine a_iconst (v := 0) dX9_sails_136 (by decide) ?_
    refine a_goto (tgt := 147) dX9_sails_137 rfl ?_
    refine a_sub [1, 2, 3, 4, 5, 6, 7] rfl ?_
    exact tX9_sails_147 hR hrec h
set_option maxRecDepth 100000 in
theorem tX9_sails_62 {X : Nat × (Nat → Int32)} {L : zPL} {F : zPF} {a b : Nat} {c : Option Nat} (hR : zRin F a b c) {r : zPI} {K : Int32 → Int32 → Int32 → zPI → Option (zPI)} (hK : ∀ (v1 : Int32) (v3 : Int32) (v5 : Int32) (I : zPI), K v1 v3 v5 I = some r → zAW zE0 X mX9_sails 2 195 [(0, zr 48), (1, zi v1), (3, zi v3), (5, zi v5)] [] (zS0, I, L, F) none (zS0, r, L, F)) : ∀ (n : Nat) (v1 : Int32) (v2 : Int32) (v3 : Int32) (v4 : Int32) (v5 : Int32) (v6 : Int32) (I : zPI), fX9_sails_62 K n v1 v2 v3 v4 v5 v6 I = some r → zAW zE0 X mX9_sails 2 62 [(0, zr 48), (1, zi v1), (2, zi v2), (3, zi v3), (4, zi v4), (5, zi v5), (6, zi v6)] [] (zS0, I, L, F) none (zS0, r, L, F) := by
  intro n
  induction n with
  | zero =>
    intro v1 v2 v3 v4 v5 v6 I h
    rw [fX9_sails_62.eq_1] at h
    cases h
  | succ n ih =>
    intro v1 v2 v3 v4 v5 v6 I h
    rw [fX9_sails_62.eq_2] at h
    refine a_iload dX9_sails_62 6 rfl ?_
    refine a_bipush (v := 9) dX9_sails_64 (by decide) ?_
    refine a_icmp_ge (tgt := 195) dX9_sails_66 rfl (fun hc17 => ?_) (fun hc17 => ?_)
    · rw [if_pos hc17] at h
      refine a_sub [0, 1, 3, 5] rfl ?_
      exact hK _ _ _ _ h
    · rw [if_neg hc17] at h
      refine a_aload_n dX9_sails_69 rfl 0 rfl ?_
      refine a_getq dX9_sails_70 G_X9_83 zs_48 rfl (rf_48_19 hR) ?_
      refine a_iload dX9_sails_73 6 rfl ?_
      obtain ⟨hz6, h⟩ := zif h
      refine a_iald dX9_sails_75 zs_58 (zin_vp hz6) ?_
      refine a_iconst (v := 1) dX9_sails_76 (by decide) ?_
      refine a_icmp_eq (tgt := 83) dX9_sails_77 rfl (fun hc16 => ?_) (fun hc16 => ?_)
      · rw [if_pos hc16] at h
        refine a_aload_n dX9_sails_83 rfl 0 rfl ?_
        refine a_getq dX9_sails_84 G_X9_92 zs_48 rfl (rf_48_22 hR) ?_
        refine a_iload dX9_sails_87 6 rfl ?_
        refine a_iconst (v := 3) dX9_sails_89 (by decide) ?_
        refine a_idiv dX9_sails_90 (by decide) ?_
        obtain ⟨hz7, h⟩ := zif h
        refine a_iald dX9_sails_91 zs_61 (zin_vp hz7) ?_
        refine a_iload dX9_sails_92 4 rfl ?_
        refine a_icmp_le (tgt := 112) dX9_sails_94 rfl (fun hc15 => ?_) (fun hc15 => ?_)
        · rw [if_pos hc15] at h
          refine a_iload dX9_sails_112 4 rfl ?_
          refine a_aload_n dX9_sails_114 rfl 0 rfl ?_
          refine a_getq dX9_sails_115 G_X9_92 zs_48 rfl (rf_48_22 hR) ?_
          refine a_iload dX9_sails_118 6 rfl ?_
          refine a_iconst (v := 3) dX9_sails_120 (by decide) ?_
          refine a_idiv dX9_sails_121 (by decide) ?_
          obtain ⟨hz8, h⟩ := zif h
          refine a_iald dX9_sails_122 zs_61 (zin_vp hz8) ?_
          refine a_isub dX9_sails_123 ?_
          exact tX9_sails_124 hR ih h
        · rw [if_neg hc15] at h
          refine a_aload_n dX9_sails_97 rfl 0 rfl ?_
          refine a_getq dX9_sails_98 G_X9_92 zs_48 rfl (rf_48_22 hR) ?_
          refine a_iload dX9_sails_101 6 rfl ?_
          refine a_iconst (v := 3) dX9_sails_103 (by decide) ?_
          refine a_idiv dX9_sails_104 (by decide) ?_
          obtain ⟨hz14, h⟩ := zif h
          refine a_iald dX9_sails_105 zs_61 (zin_vp hz14) ?_
          refine a_iload dX9_sails_106 4 rfl ?_
          refine a_isub dX9_sails_108 ?_
          refine a_goto (tgt := 124) dX9_sails_109 rfl ?_
          exact tX9_sails_124 hR ih h
      · rw [if_neg hc16] at h
        refine a_goto (tgt := 189) dX9_sails_80 rfl ?_
        refine a_iincK (k0 := 1) dX9_sails_189 (by decide) 6 rfl (by decide) rfl ?_
        refine a_goto (tgt := 62) dX9_sails_192 rfl ?_
        refine a_sub [1, 2, 3, 4, 5, 6, 0] rfl ?_
        exact ih _ _ _ _ _ _ _ h
set_option maxRecDepth 100000 in
theorem tX9_sails_310 {X : Nat × (Nat → Int32)} {I : zPI} {L : zPL} {F : zPF} {a b : Nat} {c : Option Nat} (hR : zRin F a b c) {r : zPI} {rec : Int32 → Int32 → Int32 → zPI → Option (zPI)} (hrec : ∀ (v1 : Int32) (v3 : Int32) (v7 : Int32) (I : zPI), rec v1 v3 v7 I = some r → zAW zE0 X mX9_sails 2 269 [(0, zr 48), (1, zi v1), (3, zi v3), (7, zi v7)] [] (zS0, I, L, F) none (zS0, r, L, F)) {v1 : Int32} {v3 : Int32} {v7 : Int32} {s1 : Int32} {s2 : Int32} {s3 : Int32} (h : fX9_sails_310 rec v1 v3 v7 s1 s2 s3 I = some r) : zAW zE0 X mX9_sails 2 310 [(0, zr 48), (1, zi v1), (3, zi v3), (7, zi v7)] [zi s3, zi s2, zi s1, zr 48] (zS0, I, L, F) none (zS0, r, L, F) := by
  unfold fX9_sails_310 at h
  refine a_imul dX9_sails_310 ?_
  obtain ⟨q20, hq20, h⟩ := zbind h
  refine a_callV dX9_sails_311 (tX9_loads hR _ _ _ hq20) csX9_loads zw1286 (Nat.le_of_ble_eq_true rfl) zs_48 rfl rfl (Nat.le_of_ble_eq_true rfl) ⟨Nat.le_refl _, Nat.le_refl _⟩ (fun hb21 => ?_)
  refine a_iincK (k0 := 1) dX9_sails_314 (by decide) 3 rfl (by decide) rfl ?_
  refine a_goto (tgt := 269) dX9_sails_317 rfl ?_
  refine a_sub [1, 2, 3, 0] rfl ?_
  exact hrec _ _ _ _ h
set_option maxRecDepth 100000 in
theorem tX9_sails_269 {X : Nat × (Nat → Int32)} {L : zPL} {F : zPF} {a b : Nat} {c : Option Nat} (hR : zRin F a b c) {r : zPI} {K : zPI → Option (zPI)} (hK : ∀ (I : zPI), K I = some r → zAW zE0 X mX9_sails 2 320 [] [] (zS0, I, L, F) none (zS0, r, L, F)) : ∀ (n : Nat) (v1 : Int32) (v3 : Int32) (v7 : Int32) (I : zPI), fX9_sails_269 K n v1 v3 v7 I = some r → zAW zE0 X mX9_sails 2 269 [(0, zr 48), (1, zi v1), (3, zi v3), (7, zi v7)] [] (zS0, I, L, F) none (zS0, r, L, F) := by
  intro n
  induction n with
  | zero =>
    intro v1 v3 v7 I h
    rw [fX9_sails_269.eq_1] at h
    cases h
  | succ n ih =>
    intro v1 v3 v7 I h
    rw [fX9_sails_269.eq_2] at h
    refine a_iload dX9_sails_269 3 rfl ?_
    refine a_bipush (v := 9) dX9_sails_271 (by decide) ?_
    refine a_icmp_ge (tgt := 320) dX9_sails_273 rfl (fun hc24 => ?_) (fun hc24 => ?_)
    · rw [if_pos hc24] at h
      refine a_sub [] rfl ?_
      exact hK _ h
    · rw [if_neg hc24] at h
      refine a_aload_n dX9_sails_276 rfl 0 rfl ?_
      refine a_getq dX9_sails_277 G_X9_83 zs_48 rfl (rf_48_19 hR) ?_
      refine a_iload dX9_sails_280 3 rfl ?_
      obtain ⟨hz18, h⟩ := zif h
      refine a_iald dX9_sails_282 zs_58 (zin_vp hz18) ?_
      refine a_iconst (v := 1) dX9_sails_283 (by decide) ?_
      refine a_icmp_ne (tgt := 314) dX9_sails_284 rfl (fun hc23 => ?_) (fun hc23 => ?_)
      · rw [if_neg hc23] at h
        refine a_iincK (k0 := 1) dX9_sails_314 (by decide) 3 rfl (by decide) rfl ?_
        refine a_goto (tgt := 269) dX9_sails_317 rfl ?_
        refine a_sub [1, 2, 3, 0] rfl ?_
        exact ih _ _ _ _ h
      · rw [if_pos hc23] at h
        refine a_aload_n dX9_sails_287 rfl 0 rfl ?_
        refine a_iload dX9_sails_288 3 rfl ?_
        refine a_iload_n dX9_sails_290 rfl 1 rfl ?_
        refine a_iload_n dX9_sails_291 rfl 1 rfl ?_
        refine a_imul dX9_sails_292 ?_
        refine a_iload dX9_sails_293 3 rfl ?_
        refine a_callS dX9_sails_295 (tX9_area hR _ _ rfl) csX9_area zw1280 (Nat.le_of_ble_eq_true rfl) rfl (Nat.le_of_ble_eq_true rfl) ⟨Nat.le_refl _, Nat.le_refl _⟩ (fun hb19 => ?_)
        refine a_imul dX9_sails_298 ?_
        refine a_iconst (v := 4) dX9_sails_299 (by decide) ?_
        refine a_idiv dX9_sails_300 (by decide) ?_
        refine a_iload_n dX9_sails_301 rfl 2 rfl ?_
        refine a_if_eq (tgt := 309) dX9_sails_302 rfl (fun hc22 => ?_) (fun hc22 => ?_)
        · rw [if_pos hc22] at h
          refine a_iconst (v := 1) dX9_sails_309 (by decide) ?_
          exact tX9_sails_310 hR ih h
        · rw [if_neg hc22] at h
          refine a_iconst (v := 2) dX9_sails_305 (by decide) ?_
          refine a_goto (tgt := 310) dX9_sails_306 rfl ?_
          exact tX9_sails_310 hR ih h
set_option maxRecDepth 100000 in
theorem tX9_sails_262 {X : Nat × (Nat → Int32)} {I : zPI} {L : zPL} {F : zPF} {a b : Nat} {c : Option Nat} (hR : zRin F a b c) {r : zPI} {v1 : Int32} {v3 : Int32} {s1 : Int32} {s2 : Int32} (h : fX9_sails_262 v1 v3 s1 s2 I = some r) : zAW zE0 X mX9_sails 2 262 [(0, zr 48), (1, zi v1), (3, zi v3)] [zi s2, zi s1, zr 48] (zS0, I, L, F) none (zS0, r, L, F) := by
  unfold fX9_sails_262 at h
  refine a_iadd dX9_sails_262 ?_
  refine a_puti dX9_sails_263 F_X9_290 zs_48 rfl ⟨rfl, rfl⟩ ?_
  refine a_iconst (v := 0) dX9_sails_266 (by decide) ?_
  refine a_istore dX9_sails_267 (by decide) rfl ?_
  refine a_sub [1, 2, 3, 0] rfl ?_
  refine tX9_sails_269 hR (fun I h => ?_) zF _ _ _ _ h
  (try dsimp only at h)
  cases h
  exact a_vret dX9_sails_320 rfl
set_option maxRecDepth 100000 in
theorem tX9_sails_228 {X : Nat × (Nat → Int32)} {I : zPI} {L : zPL} {F : zPF} {a b : Nat} {c : Option Nat} (hR : zRin F a b c) {r : zPI} {v1 : Int32} {v3 : Int32} {s0 : Int32} (h : fX9_sails_228 v1 v3 s0 I = some r) : zAW zE0 X mX9_sails 2 228 [(0, zr 48), (1, zi v1), (3, zi v3)] [zi s0] (zS0, I, L, F) none (zS0, r, L, F) := by
  unfold fX9_sails_228 at h
  refine a_istore dX9_sails_228 (by decide) rfl ?_
  refine a_aload_n dX9_sails_230 rfl 1 rfl ?_
  refine a_dup dX9_sails_231 rfl ?_
  refine a_geti dX9_sails_232 G_X9_290 zs_48 rfl ?_
  refine a_iload dX9_sails_235 0 rfl ?_
  refine a_aload_n dX9_sails_237 rfl 1 rfl ?_
  refine a_geti dX9_sails_238 G_X9_290 zs_48 rfl ?_
  refine a_icmp_le (tgt := 248) dX9_sails_241 rfl (fun hc26 => ?_) (fun hc26 => ?_)
  · rw [if_pos hc26] at h
    refine a_iload dX9_sails_248 0 rfl ?_
    refine a_aload_n dX9_sails_250 rfl 1 rfl ?_
    refine a_geti dX9_sails_251 G_X9_290 zs_48 rfl ?_
    refine a_icmp_ge (tgt := 261) dX9_sails_254 rfl (fun hc25 => ?_) (fun hc25 => ?_)
    · rw [if_pos hc25] at h
      refine a_iconst (v := 0) dX9_sails_261 (by decide) ?_
      refine a_sub [1, 2, 3] rfl ?_
      exact tX9_sails_262 hR h
    · rw [if_neg hc25] at h
      refine a_iconst (v := (-1)) dX9_sails_257 (by decide) ?_
      refine a_goto (tgt := 262) dX9_sails_258 rfl ?_
      refine a_sub [1, 2, 3] rfl ?_
      exact tX9_sails_262 hR h
  · rw [if_neg hc26] at h
    refine a_iconst (v := 1) dX9_sails_244 (by decide) ?_
    refine a_goto (tgt := 262) dX9_sails_245 rfl ?_
    refine a_sub [1, 2, 3] rfl ?_
    exact tX9_sails_262 hR h
set_option maxRecDepth 100000 in
theorem tX9_sails_54 {X : Nat × (Nat → Int32)} {I : zPI} {L : zPL} {F : zPF} {a b : Nat} {c : Option Nat} (hR : zRin F a b c) {r : zPI} {v1 : Int32} {v2 : Int32} {v3 : Int32} {s0 : Int32} (h : fX9_sails_54 v1 v2 v3 s0 I = some r) : zAW zE0 X mX9_sails 2 54 [(0, zr 48), (1, zi v1), (2, zi v2), (3, zi v3)] [zi s0] (zS0, I, L, F) none (zS0, r, L, F) := by
  unfold fX9_sails_54 at h
  refine a_istore dX9_sails_54 (by decide) rfl ?_
  refine a_iconst (v := 0) dX9_sails_56 (by decide) ?_
  refine a_istore dX9_sails_57 (by decide) rfl ?_
  refine a_iconst (v := 0) dX9_sails_59 (by decide) ?_
  refine a_istore dX9_sails_60 (by decide) rfl ?_
  refine a_sub [3, 4, 5, 6, 2, 1, 0] rfl ?_
  refine tX9_sails_62 hR (fun v1 v3 v5 I h => ?_) zF _ _ _ _ _ _ _ h
  (try dsimp only at h)
  refine a_iload dX9_sails_195 3 rfl ?_
  refine a_bipush (v := 20) dX9_sails_197 (by decide) ?_
  refine a_idiv dX9_sails_199 (by decide) ?_
  refine a_istore dX9_sails_200 (by decide) rfl ?_
  refine a_iload dX9_sails_202 0 rfl ?_
  refine a_bipush (v := 14) dX9_sails_204 (by decide) ?_
  refine a_icmp_le (tgt := 214) dX9_sails_206 rfl (fun hc28 => ?_) (fun hc28 => ?_)
  · rw [if_pos hc28] at h
    refine a_iload dX9_sails_214 0 rfl ?_
    refine a_bipush (v := (-3)) dX9_sails_216 (by decide) ?_
    refine a_icmp_ge (tgt := 226) dX9_sails_218 rfl (fun hc27 => ?_) (fun hc27 => ?_)
    · rw [if_pos hc27] at h
      refine a_iload dX9_sails_226 0 rfl ?_
      refine a_sub [1, 2, 3] rfl ?_
      exact tX9_sails_228 hR h
    · rw [if_neg hc27] at h
      refine a_bipush (v := (-3)) dX9_sails_221 (by decide) ?_
      refine a_goto (tgt := 228) dX9_sails_223 rfl ?_
      refine a_sub [1, 2, 3] rfl ?_
      exact tX9_sails_228 hR h
  · rw [if_neg hc28] at h
    refine a_bipush (v := 14) dX9_sails_209 (by decide) ?_
    refine a_goto (tgt := 228) dX9_sails_211 rfl ?_
    refine a_sub [1, 2, 3] rfl ?_
    exact tX9_sails_228 hR h
set_option maxRecDepth 100000 in
theorem tX9_sails_27 {X : Nat × (Nat → Int32)} {I : zPI} {L : zPL} {F : zPF} {a b : Nat} {c : Option Nat} (hR : zRin F a b c) {r : zPI} {v1 : Int32} {v2 : Int32} {s0 : Int32} (h : fX9_sails_27 v1 v2 s0 I = some r) : zAW zE0 X mX9_sails 2 27 [(0, zr 48), (1, zi v1), (2, zi v2)] [zi s0] (zS0, I, L, F) none (zS0, r, L, F) := by
  unfold fX9_sails_27 at h
  refine a_istore_n dX9_sails_27 rfl (by decide) rfl ?_
  refine a_bipush (v := 16) dX9_sails_28 (by decide) ?_
  refine a_iload_n dX9_sails_30 rfl 3 rfl ?_
  refine a_isub dX9_sails_31 ?_
  refine a_bipush (v := 8) dX9_sails_32 (by decide) ?_
  refine a_imul dX9_sails_34 ?_
  refine a_bipush (v := 10) dX9_sails_35 (by decide) ?_
  refine a_idiv dX9_sails_37 (by decide) ?_
  refine a_istore dX9_sails_38 (by decide) rfl ?_
  refine a_iload dX9_sails_40 0 rfl ?_
  refine a_bipush (v := 8) dX9_sails_42 (by decide) ?_
  refine a_icmp_le (tgt := 52) dX9_sails_44 rfl (fun hc29 => ?_) (fun hc29 => ?_)
  · rw [if_pos hc29] at h
    refine a_iload dX9_sails_52 0 rfl ?_
    refine a_sub [2, 3, 4, 1] rfl ?_
    exact tX9_sails_54 hR h
  · rw [if_neg hc29] at h
    refine a_bipush (v := 8) dX9_sails_47 (by decide) ?_
    refine a_goto (tgt := 54) dX9_sails_49 rfl ?_
    refine a_sub [2, 3, 4, 1] rfl ?_
    exact tX9_sails_54 hR h
set_option maxRecDepth 100000 in
theorem tX9_sails {X : Nat × (Nat → Int32)} {I : zPI} {L : zPL} {F : zPF} {a b : Nat} {c : Option Nat} (hR : zRin F a b c) (r : zPI) (h : fX9_sails I = some r) : zAM X mX9_sails 2 [zr 48] (zS0, I, L, F) none (zS0, r, L, F) := by
  refine zAM_of (by decide) (Nat.le_of_ble_eq_true rfl) ⟨fun _ => rfl, fun _ => rfl⟩ (Nat.le_refl _) (Nat.le_refl _) ?_
  unfold fX9_sails at h
  show zAW zE0 X mX9_sails 2 0 [(0, zr 48)] [] (zS0, I, L, F) none (zS0, r, L, F)
  refine a_aload_n dX9_sails_0 rfl 0 rfl ?_
  obtain ⟨q1, hq1, h⟩ := zbind h
  refine a_callV dX9_sails_1 (tX9_force hR _ hq1) csX9_force zw1211 (Nat.le_of_ble_eq_true rfl) zs_48 rfl rfl (Nat.le_of_ble_eq_true rfl) ⟨Nat.le_refl _, Nat.le_refl _⟩ (fun hb2 => ?_)
  refine a_istore_n dX9_sails_4 rfl (by decide) rfl ?_
  refine a_aload_n dX9_sails_5 rfl 1 rfl ?_
  obtain ⟨q3, hq3, h⟩ := zbind h
  refine a_callV dX9_sails_6 (tX9_point hR _ hq3) csX9_point zw1203 (Nat.le_of_ble_eq_true rfl) zs_48 rfl rfl (Nat.le_of_ble_eq_true rfl) ⟨Nat.le_refl _, Nat.le_refl _⟩ (fun hb4 => ?_)
  refine a_aload_n dX9_sails_9 rfl 1 rfl ?_
  refine a_geti dX9_sails_10 G_X9_284 zs_48 rfl ?_
  refine a_callS dX9_sails_13 (tX9_apart hR _ _ _ rfl) csX9_apart zw1239 (Nat.le_of_ble_eq_true rfl) rfl (Nat.le_of_ble_eq_true rfl) ⟨Nat.le_refl _, Nat.le_refl _⟩ (fun hb5 => ?_)
  refine a_istore_n dX9_sails_16 rfl (by decide) rfl ?_
  refine a_iload_n dX9_sails_17 rfl 0 rfl ?_
  refine a_iconst (v := 5) dX9_sails_18 (by decide) ?_
  refine a_icmp_ge (tgt := 26) dX9_sails_19 rfl (fun hc30 => ?_) (fun hc30 => ?_)
  · rw [if_pos hc30] at h
    refine a_iconst (v := 0) dX9_sails_26 (by decide) ?_
    refine a_sub [2, 1, 0] rfl ?_
    exact tX9_sails_27 hR h
  · rw [if_neg hc30] at h
    refine a_iconst (v := 1) dX9_sails_22 (by decide) ?_
    refine a_goto (tgt := 27) dX9_sails_23 rfl ?_
    refine a_sub [2, 1, 0] rfl ?_
    exact tX9_sails_27 hR h
def fX9_goes_87 (I : zPI) : Option (zPI) := (fX9_sails I).bind (fun q9 => some (zu (zu q9 48 33 ((q9 48 33) + ((q9 48 32) * (fX9_dx (q9 48 30))))) 48 34 (((zu q9 48 33 ((q9 48 33) + ((q9 48 32) * (fX9_dx (q9 48 30))))) 48 34) + (((zu q9 48 33 ((q9 48 33) + ((q9 48 32) * (fX9_dx (q9 48 30))))) 48 32) * (fX9_dy ((zu q9 48 33 ((q9 48 33) + ((q9 48 32) * (fX9_dx (q9 48 30))))) 48 30))))))
def fX9_goes_84 (s1 : Int32) (I : zPI) : Option (zPI) := fX9_goes_87 (zu I 48 30 s1)
def fX9_goes (I : zPI) : Option (zPI) := (fX9_point (zu I 48 29 ((I 48 29) + 1))).bind (fun q1 => (fX9_force (zu (zu I 48 29 ((I 48 29) + 1)) 48 43 q1)).bind (fun q3 => (fX9_endWorks (zu (zu (zu I 48 29 ((I 48 29) + 1)) 48 43 q1) 48 44 q3)).bind (fun q5 => (fX9_carries q5).bind (fun q7 => (if (q7 48 30) = (q7 48 31) then fX9_goes_87 q7 else (if 16 < (((q7 48 31) - (q7 48 30)) &&& 31) then fX9_goes_84 (((q7 48 30) - 1) &&& 31) q7 else fX9_goes_84 (((q7 48 30) + 1) &&& 31) q7))))))
set_option maxRecDepth 100000 in
theorem tX9_goes_87 {X : Nat × (Nat → Int32)} {I : zPI} {L : zPL} {F : zPF} {a b : Nat} {c : Option Nat} (hR : zRin F a b c) {r : zPI} (h : fX9_goes_87 I = some r) : zAW zE0 X mX9_goes 5 87 [(0, zr 48)] [] (zS0, I, L, F) none (zS0, r, L, F) := by
  unfold fX9_goes_87 at h
  refine a_aload_n dX9_goes_87 rfl 0 rfl ?_
  obtain ⟨q9, hq9, h⟩ := zbind h
  refine a_callV dX9_goes_88 (tX9_sails hR _ hq9) csX9_sails zw1276 (Nat.le_of_ble_eq_true rfl) zs_48 rfl rfl (Nat.le_of_ble_eq_true rfl) ⟨Nat.le_refl _, Nat.le_refl _⟩ (fun hb10 => ?_)
  refine a_aload_n dX9_goes_91 rfl 0 rfl ?_
  refine a_dup dX9_goes_92 rfl ?_
  refine a_geti dX9_goes_93 G_X9_347 zs_48 rfl ?_
  refine a_aload_n dX9_goes_96 rfl 0 rfl ?_
  refine a_geti dX9_goes_97 G_X9_290 zs_48 rfl ?_
  refine a_aload_n dX9_goes_100 rfl 0 rfl ?_
  refine a_geti dX9_goes_101 G_X9_284 zs_48 rfl ?_
  refine a_callS dX9_goes_104 (tX9_dx hR _ _ rfl) csX9_dx zw1290 (Nat.le_of_ble_eq_true rfl) rfl (Nat.le_of_ble_eq_true rfl) ⟨Nat.le_refl _, Nat.le_refl _⟩ (fun hb11 => ?_)
  refine a_imul dX9_goes_107 ?_
  refine a_iadd dX9_goes_108 ?_
  refine a_puti dX9_goes_109 F_X9_347 zs_48 rfl ⟨rfl, rfl⟩ ?_
  refine a_aload_n dX9_goes_112 rfl 0 rfl ?_
  refine a_dup dX9_goes_113 rfl ?_
  refine a_geti dX9_goes_114 G_X9_353 zs_48 rfl ?_
  refine a_aload_n dX9_goes_117 rfl 0 rfl ?_
  refine a_geti dX9_goes_118 G_X9_290 zs_48 rfl ?_
  refine a_aload_n dX9_goes_121 rfl 0 rfl ?_
  refine a_geti dX9_goes_122 G_X9_284 zs_48 rfl ?_
  refine a_callS dX9_goes_125 (tX9_dy hR _ _ rfl) csX9_dy zw1293 (Nat.le_of_ble_eq_true rfl) rfl (Nat.le_of_ble_eq_true rfl) ⟨Nat.le_refl _, Nat.le_refl _⟩ (fun hb12 => ?_)
  refine a_imul dX9_goes_128 ?_
  refine a_iadd dX9_goes_129 ?_
  refine a_puti dX9_goes_130 F_X9_353 zs_48 rfl ⟨rfl, rfl⟩ ?_
  cases h
  exact a_vret dX9_goes_133 rfl
set_option maxRecDepth 100000 in
theorem tX9_goes_84 {X : Nat × (Nat → Int32)} {I : zPI} {L : zPL} {F : zPF} {a b : Nat} {c : Option Nat} (hR : zRin F a b c) {r : zPI} {s1 : Int32} (h : fX9_goes_84 s1 I = some r) : zAW zE0 X mX9_goes 5 84 [(0, zr 48)] [zi s1, zr 48] (zS0, I, L, F) none (zS0, r, L, F) := by
  unfold fX9_goes_84 at h
  refine a_puti dX9_goes_84 F_X9_284 zs_48 rfl ⟨rfl, rfl⟩ ?_
  exact tX9_goes_87 hR h
set_option maxRecDepth 100000 in
theorem tX9_goes {X : Nat × (Nat → Int32)} {I : zPI} {L : zPL} {F : zPF} {a b : Nat} {c : Option Nat} (hR : zRin F a b c) (r : zPI) (h : fX9_goes I = some r) : zAM X mX9_goes 5 [zr 48] (zS0, I, L, F) none (zS0, r, L, F) := by
  refine zAM_of (by decide) (Nat.le_of_ble_eq_true rfl) ⟨fun _ => rfl, fun _ => rfl⟩ (Nat.le_refl _) (Nat.le_refl _) ?_
  unfold fX9_goes at h
  show zAW zE0 X mX9_goes 5 0 [(0, zr 48)] [] (zS0, I, L, F) none (zS0, r, L, F)
  refine a_aload_n dX9_goes_0 rfl 0 rfl ?_
  refine a_dup dX9_goes_1 rfl ?_
  refine a_geti dX9_goes_2 G_X9_242 zs_48 rfl ?_
  refine a_iconst (v := 1) dX9_goes_5 (by decide) ?_
  refine a_iadd dX9_goes_6 ?_
  refine a_puti dX9_goes_7 F_X9_242 zs_48 rfl ⟨rfl, rfl⟩ ?_
  refine a_aload_n dX9_goes_10 rfl 0 rfl ?_
  refine a_aload_n dX9_goes_11 rfl 0 rfl ?_
  obtain ⟨q1, hq1, h⟩ := zbind h
  refine a_callV dX9_goes_12 (tX9_point hR _ hq1) csX9_point zw1203 (Nat.le_of_ble_eq_true rfl) zs_48 rfl rfl (Nat.le_of_ble_eq_true rfl) ⟨Nat.le_refl _, Nat.le_refl _⟩ (fun hb2 => ?_)
  refine a_puti dX9_goes_15 F_X9_332 zs_48 rfl ⟨rfl, rfl⟩ ?_
  refine a_aload_n dX9_goes_18 rfl 0 rfl ?_
  refine a_aload_n dX9_goes_19 rfl 0 rfl ?_
  obtain ⟨q3, hq3, h⟩ := zbind h
  refine a_callV dX9_goes_20 (tX9_force hR _ hq3) csX9_force zw1211 (Nat.le_of_ble_eq_true rfl) zs_48 rfl rfl (Nat.le_of_ble_eq_true rfl) ⟨Nat.le_refl _, Nat.le_refl _⟩ (fun hb4 => ?_)
  refine a_puti dX9_goes_23 F_X9_335 zs_48 rfl ⟨rfl, rfl⟩ ?_
  refine a_aload_n dX9_goes_26 rfl 0 rfl ?_
  obtain ⟨q5, hq5, h⟩ := zbind h
  refine a_callV dX9_goes_27 (tX9_endWorks hR _ hq5) csX9_endWorks zw1215 (Nat.le_of_ble_eq_true rfl) zs_48 rfl rfl (Nat.le_of_ble_eq_true rfl) ⟨Nat.le_refl _, Nat.le_refl _⟩ (fun hb6 => ?_)
  refine a_aload_n dX9_goes_30 rfl 0 rfl ?_
  obtain ⟨q7, hq7, h⟩ := zbind h
  refine a_callV dX9_goes_31 (tX9_carries hR _ hq7) csX9_carries zw1227 (Nat.le_of_ble_eq_true rfl) zs_48 rfl rfl (Nat.le_of_ble_eq_true rfl) ⟨Nat.le_refl _, Nat.le_refl _⟩ (fun hb8 => ?_)
  refine a_aload_n dX9_goes_34 rfl 0 rfl ?_
  refine a_geti dX9_goes_35 G_X9_284 zs_48 rfl ?_
  refine a_aload_n dX9_goes_38 rfl 0 rfl ?_
  refine a_geti dX9_goes_39 G_X9_308 zs_48 rfl ?_
  refine a_icmp_eq (tgt := 87) dX9_goes_42 rfl (fun hc14 => ?_) (fun hc14 => ?_)
  · rw [if_pos hc14] at h
    exact tX9_goes_87 hR h
  · rw [if_neg hc14] at h
    refine a_aload_n dX9_goes_45 rfl 0 rfl ?_
    refine a_aload_n dX9_goes_46 rfl 0 rfl ?_
    refine a_geti dX9_goes_47 G_X9_308 zs_48 rfl ?_
    refine a_aload_n dX9_goes_50 rfl 0 rfl ?_
    refine a_geti dX9_goes_51 G_X9_284 zs_48 rfl ?_
    refine a_isub dX9_goes_54 ?_
    refine a_bipush (v := 31) dX9_goes_55 (by decide) ?_
    refine a_iand dX9_goes_57 ?_
    refine a_bipush (v := 16) dX9_goes_58 (by decide) ?_
    refine a_icmp_gt (tgt := 75) dX9_goes_60 rfl (fun hc13 => ?_) (fun hc13 => ?_)
    · rw [if_pos hc13] at h
      refine a_aload_n dX9_goes_75 rfl 0 rfl ?_
      refine a_geti dX9_goes_76 G_X9_284 zs_48 rfl ?_
      refine a_iconst (v := 1) dX9_goes_79 (by decide) ?_
      refine a_isub dX9_goes_80 ?_
      refine a_bipush (v := 31) dX9_goes_81 (by decide) ?_
      refine a_iand dX9_goes_83 ?_
      exact tX9_goes_84 hR h
    · rw [if_neg hc13] at h
      refine a_aload_n dX9_goes_63 rfl 0 rfl ?_
      refine a_geti dX9_goes_64 G_X9_284 zs_48 rfl ?_
      refine a_iconst (v := 1) dX9_goes_67 (by decide) ?_
      refine a_iadd dX9_goes_68 ?_
      refine a_bipush (v := 31) dX9_goes_69 (by decide) ?_
      refine a_iand dX9_goes_71 ?_
      refine a_goto (tgt := 84) dX9_goes_72 rfl ?_
      exact tX9_goes_84 hR h
def fX9_hand_27 (v1 : Int32) (v2 : Int32) (s1 : Int32) (I : zPI) : Option (Int32 × zPI) := (if ((zu I 48 0 s1) 48 0) ≤ 0 then (if v2 = 0 then (if zin v1 24 then (if 0 ≤ ((zu I 48 0 s1) 62 v1.toNatClampNeg) then some (1, zu I 48 0 s1) else some (0, zu I 48 0 s1)) else none) else (if v2 = 1 then (if zin v1 24 then (if 0 ≤ ((zu I 48 0 s1) 62 v1.toNatClampNeg) then (if zin v1 24 then (if zin ((zu I 48 0 s1) 62 v1.toNatClampNeg) 24 then some ((zu I 48 0 s1) 66 ((zu I 48 0 s1) 62 v1.toNatClampNeg).toNatClampNeg, zu I 48 0 s1) else none) else none) else some (0, zu I 48 0 s1)) else none) else (if (fX9_isOnDeck (zu I 48 0 s1) v1) = 0 then some (0, zu I 48 0 s1) else some (1, zu I 48 0 s1)))) else some (0, zu I 48 0 s1))
def fX9_hand_26 (v1 : Int32) (v2 : Int32) (I : zPI) : Option (Int32 × zPI) := fX9_hand_27 v1 v2 1 I
def fX9_hand (I : zPI) (p1 : Int32) (p2 : Int32) : Option (Int32 × zPI) := (if p1 < 0 then fX9_hand_26 p1 p2 I else (if (I 48 18) ≤ p1 then fX9_hand_26 p1 p2 I else (if p2 < 0 then fX9_hand_26 p1 p2 I else (if 2 < p2 then fX9_hand_26 p1 p2 I else fX9_hand_27 p1 p2 0 I))))
set_option maxRecDepth 100000 in
theorem tX9_hand_27 {X : Nat × (Nat → Int32)} {I : zPI} {L : zPL} {F : zPF} {a b : Nat} {c : Option Nat} (hR : zRin F a b c) {r : Int32 × zPI} {v1 : Int32} {v2 : Int32} {s1 : Int32} (h : fX9_hand_27 v1 v2 s1 I = some r) : zAW zE0 X mX9_hand 1 27 [(0, zr 48), (1, zi v1), (2, zi v2)] [zi s1, zr 48] (zS0, I, L, F) (some (zi r.1)) (zS0, r.2, L, F) := by
  unfold fX9_hand_27 at h
  refine a_puti dX9_hand_27 F_X9_1 zs_48 rfl ⟨rfl, rfl⟩ ?_
  refine a_aload_n dX9_hand_30 rfl 0 rfl ?_
  refine a_geti dX9_hand_31 G_X9_1 zs_48 rfl ?_
  refine a_if_le (tgt := 39) dX9_hand_34 rfl (fun hc11 => ?_) (fun hc11 => ?_)
  · rw [if_pos hc11] at h
    refine a_iload_n dX9_hand_39 rfl 2 rfl ?_
    refine a_if_ne (tgt := 60) dX9_hand_40 rfl (fun hc10 => ?_) (fun hc10 => ?_)
    · rw [if_neg hc10] at h
      refine a_iload_n dX9_hand_60 rfl 2 rfl ?_
      refine a_iconst (v := 1) dX9_hand_61 (by decide) ?_
      refine a_icmp_ne (tgt := 92) dX9_hand_62 rfl (fun hc7 => ?_) (fun hc7 => ?_)
      · rw [if_neg hc7] at h
        refine a_aload_n dX9_hand_92 rfl 0 rfl ?_
        refine a_iload_n dX9_hand_93 rfl 1 rfl ?_
        refine a_callV dX9_hand_94 (tX9_isOnDeck hR _ _ rfl) csX9_isOnDeck zw1262 (Nat.le_of_ble_eq_true rfl) zs_48 rfl rfl (Nat.le_of_ble_eq_true rfl) ⟨Nat.le_refl _, Nat.le_refl _⟩ (fun hb1 => ?_)
        refine a_if_eq (tgt := 104) dX9_hand_97 rfl (fun hc2 => ?_) (fun hc2 => ?_)
        · rw [if_pos hc2] at h
          refine a_iconst (v := 0) dX9_hand_104 (by decide) ?_
          cases h
          exact a_iret dX9_hand_105 (by intro h; cases h) (znar_i rfl)
        · rw [if_neg hc2] at h
          refine a_iconst (v := 1) dX9_hand_100 (by decide) ?_
          refine a_goto (tgt := 105) dX9_hand_101 rfl ?_
          cases h
          exact a_iret dX9_hand_105 (by intro h; cases h) (znar_i rfl)
      · rw [if_pos hc7] at h
        refine a_aload_n dX9_hand_65 rfl 0 rfl ?_
        refine a_getq dX9_hand_66 G_X9_95 zs_48 rfl (rf_48_23 hR) ?_
        refine a_iload_n dX9_hand_69 rfl 1 rfl ?_
        obtain ⟨hz3, h⟩ := zif h
        refine a_iald dX9_hand_70 zs_62 (zin_vp hz3) ?_
        refine a_if_ge (tgt := 78) dX9_hand_71 rfl (fun hc6 => ?_) (fun hc6 => ?_)
        · rw [if_pos hc6] at h
          refine a_aload_n dX9_hand_78 rfl 0 rfl ?_
          refine a_getq dX9_hand_79 G_X9_107 zs_48 rfl (rf_48_27 hR) ?_
          refine a_aload_n dX9_hand_82 rfl 0 rfl ?_
          refine a_getq dX9_hand_83 G_X9_95 zs_48 rfl (rf_48_23 hR) ?_
          refine a_iload_n dX9_hand_86 rfl 1 rfl ?_
          obtain ⟨hz4, h⟩ := zif h
          refine a_iald dX9_hand_87 zs_62 (zin_vp hz4) ?_
          obtain ⟨hz5, h⟩ := zif h
          refine a_iald dX9_hand_88 zs_66 (zin_vp hz5) ?_
          refine a_goto (tgt := 105) dX9_hand_89 rfl ?_
          cases h
          exact a_iret dX9_hand_105 (by intro h; cases h) (znar_i rfl)
        · rw [if_neg hc6] at h
          refine a_iconst (v := 0) dX9_hand_74 (by decide) ?_
          refine a_goto (tgt := 105) dX9_hand_75 rfl ?_
          cases h
          exact a_iret dX9_hand_105 (by intro h; cases h) (znar_i rfl)
    · rw [if_pos hc10] at h
      refine a_aload_n dX9_hand_43 rfl 0 rfl ?_
      refine a_getq dX9_hand_44 G_X9_95 zs_48 rfl (rf_48_23 hR) ?_
      refine a_iload_n dX9_hand_47 rfl 1 rfl ?_
      obtain ⟨hz8, h⟩ := zif h
      refine a_iald dX9_hand_48 zs_62 (zin_vp hz8) ?_
      refine a_if_ge (tgt := 56) dX9_hand_49 rfl (fun hc9 => ?_) (fun hc9 => ?_)
      · rw [if_pos hc9] at h
        refine a_iconst (v := 1) dX9_hand_56 (by decide) ?_
        refine a_goto (tgt := 105) dX9_hand_57 rfl ?_
        cases h
        exact a_iret dX9_hand_105 (by intro h; cases h) (znar_i rfl)
      · rw [if_neg hc9] at h
        refine a_iconst (v := 0) dX9_hand_52 (by decide) ?_
        refine a_goto (tgt := 105) dX9_hand_53 rfl ?_
        cases h
        exact a_iret dX9_hand_105 (by intro h; cases h) (znar_i rfl)
  · rw [if_neg hc11] at h
    refine a_iconst (v := 0) dX9_hand_37 (by decide) ?_
    cases h
    exact a_iret dX9_hand_38 (by intro h; cases h) (znar_i rfl)
set_option maxRecDepth 100000 in
theorem tX9_hand_26 {X : Nat × (Nat → Int32)} {I : zPI} {L : zPL} {F : zPF} {a b : Nat} {c : Option Nat} (hR : zRin F a b c) {r : Int32 × zPI} {v1 : Int32} {v2 : Int32} (h : fX9_hand_26 v1 v2 I = some r) : zAW zE0 X mX9_hand 1 26 [(0, zr 48), (1, zi v1), (2, zi v2)] [zr 48] (zS0, I, L, F) (some (zi r.1)) (zS0, r.2, L, F) := by
  unfold fX9_hand_26 at h
  refine a_iconst (v := 1) dX9_hand_26 (by decide) ?_
  exact tX9_hand_27 hR h
set_option maxRecDepth 100000 in
theorem tX9_hand {X : Nat × (Nat → Int32)} {I : zPI} {L : zPL} {F : zPF} {a b : Nat} {c : Option Nat} (hR : zRin F a b c) (p1 : Int32) (p2 : Int32) (r : Int32 × zPI) (h : fX9_hand I p1 p2 = some r) : zAM X mX9_hand 1 [zr 48, zi p1, zi p2] (zS0, I, L, F) (some (zi r.1)) (zS0, r.2, L, F) := by
  refine zAM_of (by decide) (Nat.le_of_ble_eq_true rfl) ⟨fun h => (by cases h), fun h => (by cases h)⟩ (Nat.le_refl _) (Nat.le_refl _) ?_
  unfold fX9_hand at h
  show zAW zE0 X mX9_hand 1 0 [(0, zr 48), (1, zi p1), (2, zi p2)] [] (zS0, I, L, F) (some (zi r.1)) (zS0, r.2, L, F)
  refine a_aload_n dX9_hand_0 rfl 0 rfl ?_
  refine a_iload_n dX9_hand_1 rfl 1 rfl ?_
  refine a_if_lt (tgt := 26) dX9_hand_2 rfl (fun hc15 => ?_) (fun hc15 => ?_)
  · rw [if_pos hc15] at h
    exact tX9_hand_26 hR h
  · rw [if_neg hc15] at h
    refine a_iload_n dX9_hand_5 rfl 1 rfl ?_
    refine a_aload_n dX9_hand_6 rfl 0 rfl ?_
    refine a_geti dX9_hand_7 G_X9_138 zs_48 rfl ?_
    refine a_icmp_ge (tgt := 26) dX9_hand_10 rfl (fun hc14 => ?_) (fun hc14 => ?_)
    · rw [if_pos hc14] at h
      exact tX9_hand_26 hR h
    · rw [if_neg hc14] at h
      refine a_iload_n dX9_hand_13 rfl 2 rfl ?_
      refine a_if_lt (tgt := 26) dX9_hand_14 rfl (fun hc13 => ?_) (fun hc13 => ?_)
      · rw [if_pos hc13] at h
        exact tX9_hand_26 hR h
      · rw [if_neg hc13] at h
        refine a_iload_n dX9_hand_17 rfl 2 rfl ?_
        refine a_iconst (v := 2) dX9_hand_18 (by decide) ?_
        refine a_icmp_gt (tgt := 26) dX9_hand_19 rfl (fun hc12 => ?_) (fun hc12 => ?_)
        · rw [if_pos hc12] at h
          exact tX9_hand_26 hR h
        · rw [if_neg hc12] at h
          refine a_iconst (v := 0) dX9_hand_22 (by decide) ?_
          refine a_goto (tgt := 27) dX9_hand_23 rfl ?_
          exact tX9_hand_27 hR h
def fX9_hasWord (I : zPI) (L : zPL) (p1 : Int32) : Option (Int32 × zPI) := (fX9_isWord I L p1).bind (fun q1 => (if q1 = 0 then some (q1, zu I 48 7 ((I 48 7) + 0)) else some (q1, zu I 48 7 ((I 48 7) + 1))))
set_option maxRecDepth 100000 in
theorem tX9_hasWord {X : Nat × (Nat → Int32)} {I : zPI} {L : zPL} {F : zPF} {a b : Nat} {c : Option Nat} (hR : zRin F a b c) (p1 : Int32) (r : Int32 × zPI) (h : fX9_hasWord I L p1 = some r) : zAM X mX9_hasWord 1 [zr 48, zi p1] (zS0, I, L, F) (some (zi r.1)) (zS0, r.2, L, F) := by
  refine zAM_of (by decide) (Nat.le_of_ble_eq_true rfl) ⟨fun h => (by cases h), fun h => (by cases h)⟩ (Nat.le_refl _) (Nat.le_refl _) ?_
  unfold fX9_hasWord at h
  show zAW zE0 X mX9_hasWord 1 0 [(0, zr 48), (1, zi p1)] [] (zS0, I, L, F) (some (zi r.1)) (zS0, r.2, L, F)
  refine a_aload_n dX9_hasWord_0 rfl 0 rfl ?_
  refine a_iload_n dX9_hasWord_1 rfl 1 rfl ?_
  obtain ⟨q1, hq1, h⟩ := zbind h
  refine a_callV dX9_hasWord_2 (tX9_isWord hR _ _ hq1) csX9_isWord zw1138 (Nat.le_of_ble_eq_true rfl) zs_48 rfl rfl (Nat.le_of_ble_eq_true rfl) ⟨Nat.le_refl _, Nat.le_refl _⟩ (fun hb2 => ?_)
  refine a_istore_n dX9_hasWord_5 rfl (by decide) rfl ?_
  refine a_aload_n dX9_hasWord_6 rfl 1 rfl ?_
  refine a_dup dX9_hasWord_7 rfl ?_
  refine a_geti dX9_hasWord_8 G_X9_164 zs_48 rfl ?_
  refine a_iload_n dX9_hasWord_11 rfl 0 rfl ?_
  refine a_if_eq (tgt := 19) dX9_hasWord_12 rfl (fun hc3 => ?_) (fun hc3 => ?_)
  · rw [if_pos hc3] at h
    refine a_iconst (v := 0) dX9_hasWord_19 (by decide) ?_
    refine a_iadd dX9_hasWord_20 ?_
    refine a_puti dX9_hasWord_21 F_X9_164 zs_48 rfl ⟨rfl, rfl⟩ ?_
    refine a_iload_n dX9_hasWord_24 rfl 0 rfl ?_
    cases h
    exact a_iret dX9_hasWord_25 (by intro h; cases h) (znar_of rfl (hb2))
  · rw [if_neg hc3] at h
    refine a_iconst (v := 1) dX9_hasWord_15 (by decide) ?_
    refine a_goto (tgt := 20) dX9_hasWord_16 rfl ?_
    refine a_iadd dX9_hasWord_20 ?_
    refine a_puti dX9_hasWord_21 F_X9_164 zs_48 rfl ⟨rfl, rfl⟩ ?_
    refine a_iload_n dX9_hasWord_24 rfl 0 rfl ?_
    cases h
    exact a_iret dX9_hasWord_25 (by intro h; cases h) (znar_of rfl (hb2))
def fX9_here (I : zPI) : Int32 := ((2200 * (I 48 14)) + (I 48 15))
set_option maxRecDepth 100000 in
theorem tX9_here {X : Nat × (Nat → Int32)} {I : zPI} {L : zPL} {F : zPF} {a b : Nat} {c : Option Nat} (hR : zRin F a b c) (r : Int32) (h : fX9_here I = r) : zAM X mX9_here 0 [zr 48] (zS0, I, L, F) (some (zi r)) (zS0, I, L, F) := by
  refine zAM_of (by decide) (Nat.le_of_ble_eq_true rfl) ⟨fun h => (by cases h), fun h => (by cases h)⟩ (Nat.le_refl _) (Nat.le_refl _) ?_
  unfold fX9_here at h
  show zAW zE0 X mX9_here 0 0 [(0, zr 48)] [] (zS0, I, L, F) (some (zi r)) (zS0, I, L, F)
  refine a_sipush (v := 2200) dX9_here_0 (by decide) ?_
  refine a_aload_n dX9_here_3 rfl 0 rfl ?_
  refine a_geti dX9_here_4 G_X9_183 zs_48 rfl ?_
  refine a_imul dX9_here_7 ?_
  refine a_aload_n dX9_here_8 rfl 0 rfl ?_
  refine a_geti dX9_here_9 G_X9_186 zs_48 rfl ?_
  refine a_iadd dX9_here_12 ?_
  subst h
  exact a_iret dX9_here_13 (by intro h; cases h) (znar_i rfl)
def fX9_leads_39 (I : zPI) (v2 : Int32) (v3 : Int32) (s0 : Int32) : Option (Int32) := (if ((zrm v2 49) + ((s0 * (fX9_dx v3)) / 16)) < 0 then some (-1) else (if 49 ≤ ((zrm v2 49) + ((s0 * (fX9_dx v3)) / 16)) then some (-1) else (if ((v2 / 49) + ((s0 * (fX9_dy v3)) / 16)) < 0 then some (-1) else (if ((v2 / 49) + ((s0 * (fX9_dy v3)) / 16)) < 49 then some ((49 * ((v2 / 49) + ((s0 * (fX9_dy v3)) / 16))) + ((zrm v2 49) + ((s0 * (fX9_dx v3)) / 16))) else some (-1)))))
def fX9_leads (I : zPI) (p1 : Int32) (p2 : Int32) (p3 : Int32) : Option (Int32) := (if zin p1 8 then (if zin p1 8 then zlet (((I 72 p1.toNatClampNeg) * (fX9_table (fX9_apart (I 71 p1.toNatClampNeg) p3))) / 8) (fun x5 => (if x5 ≤ 12 then fX9_leads_39 I p2 p3 x5 else fX9_leads_39 I p2 p3 12)) else none) else none)
set_option maxRecDepth 100000 in
theorem tX9_leads_39 {X : Nat × (Nat → Int32)} {I : zPI} {L : zPL} {F : zPF} {a b : Nat} {c : Option Nat} (hR : zRin F a b c) {r : Int32} {v2 : Int32} {v3 : Int32} {s0 : Int32} (h : fX9_leads_39 I v2 v3 s0 = some r) : zAW zE0 X mX9_leads 2 39 [(2, zi v2), (3, zi v3)] [zi s0] (zS0, I, L, F) (some (zi r)) (zS0, I, L, F) := by
  unfold fX9_leads_39 at h
  refine a_istore dX9_leads_39 (by decide) rfl ?_
  refine a_iload_n dX9_leads_41 rfl 1 rfl ?_
  refine a_bipush (v := 49) dX9_leads_42 (by decide) ?_
  refine a_irem dX9_leads_44 (by decide) ?_
  refine a_iload dX9_leads_45 0 rfl ?_
  refine a_iload_n dX9_leads_47 rfl 2 rfl ?_
  refine a_callS dX9_leads_48 (tX9_dx hR _ _ rfl) csX9_dx zw1290 (Nat.le_of_ble_eq_true rfl) rfl (Nat.le_of_ble_eq_true rfl) ⟨Nat.le_refl _, Nat.le_refl _⟩ (fun hb6 => ?_)
  refine a_imul dX9_leads_51 ?_
  refine a_bipush (v := 16) dX9_leads_52 (by decide) ?_
  refine a_idiv dX9_leads_54 (by decide) ?_
  refine a_iadd dX9_leads_55 ?_
  refine a_istore dX9_leads_56 (by decide) rfl ?_
  refine a_iload_n dX9_leads_58 rfl 2 rfl ?_
  refine a_bipush (v := 49) dX9_leads_59 (by decide) ?_
  refine a_idiv dX9_leads_61 (by decide) ?_
  refine a_iload dX9_leads_62 1 rfl ?_
  refine a_iload_n dX9_leads_64 rfl 3 rfl ?_
  refine a_callS dX9_leads_65 (tX9_dy hR _ _ rfl) csX9_dy zw1293 (Nat.le_of_ble_eq_true rfl) rfl (Nat.le_of_ble_eq_true rfl) ⟨Nat.le_refl _, Nat.le_refl _⟩ (fun hb7 => ?_)
  refine a_imul dX9_leads_68 ?_
  refine a_bipush (v := 16) dX9_leads_69 (by decide) ?_
  refine a_idiv dX9_leads_71 (by decide) ?_
  refine a_iadd dX9_leads_72 ?_
  refine a_istore dX9_leads_73 (by decide) rfl ?_
  refine a_iload dX9_leads_75 1 rfl ?_
  refine a_if_lt (tgt := 99) dX9_leads_77 rfl (fun hc11 => ?_) (fun hc11 => ?_)
  · rw [if_pos hc11] at h
    refine a_iconst (v := (-1)) dX9_leads_99 (by decide) ?_
    refine a_goto (tgt := 111) dX9_leads_100 rfl ?_
    cases h
    exact a_iret dX9_leads_111 (by intro h; cases h) (znar_i rfl)
  · rw [if_neg hc11] at h
    refine a_iload dX9_leads_80 1 rfl ?_
    refine a_bipush (v := 49) dX9_leads_82 (by decide) ?_
    refine a_icmp_ge (tgt := 99) dX9_leads_84 rfl (fun hc10 => ?_) (fun hc10 => ?_)
    · rw [if_pos hc10] at h
      refine a_iconst (v := (-1)) dX9_leads_99 (by decide) ?_
      refine a_goto (tgt := 111) dX9_leads_100 rfl ?_
      cases h
      exact a_iret dX9_leads_111 (by intro h; cases h) (znar_i rfl)
    · rw [if_neg hc10] at h
      refine a_iload dX9_leads_87 0 rfl ?_
      refine a_if_lt (tgt := 99) dX9_leads_89 rfl (fun hc9 => ?_) (fun hc9 => ?_)
      · rw [if_pos hc9] at h
        refine a_iconst (v := (-1)) dX9_leads_99 (by decide) ?_
        refine a_goto (tgt := 111) dX9_leads_100 rfl ?_
        cases h
        exact a_iret dX9_leads_111 (by intro h; cases h) (znar_i rfl)
      · rw [if_neg hc9] at h
        refine a_iload dX9_leads_92 0 rfl ?_
        refine a_bipush (v := 49) dX9_leads_94 (by decide) ?_
        refine a_icmp_lt (tgt := 103) dX9_leads_96 rfl (fun hc8 => ?_) (fun hc8 => ?_)
        · rw [if_pos hc8] at h
          refine a_bipush (v := 49) dX9_leads_103 (by decide) ?_
          refine a_iload dX9_leads_105 0 rfl ?_
          refine a_imul dX9_leads_107 ?_
          refine a_iload dX9_leads_108 1 rfl ?_
          refine a_iadd dX9_leads_110 ?_
          cases h
          exact a_iret dX9_leads_111 (by intro h; cases h) (znar_i rfl)
        · rw [if_neg hc8] at h
          refine a_iconst (v := (-1)) dX9_leads_99 (by decide) ?_
          refine a_goto (tgt := 111) dX9_leads_100 rfl ?_
          cases h
          exact a_iret dX9_leads_111 (by intro h; cases h) (znar_i rfl)
set_option maxRecDepth 100000 in
theorem tX9_leads {X : Nat × (Nat → Int32)} {I : zPI} {L : zPL} {F : zPF} {a b : Nat} {c : Option Nat} (hR : zRin F a b c) (p1 : Int32) (p2 : Int32) (p3 : Int32) (r : Int32) (h : fX9_leads I p1 p2 p3 = some r) : zAM X mX9_leads 2 [zr 48, zi p1, zi p2, zi p3] (zS0, I, L, F) (some (zi r)) (zS0, I, L, F) := by
  refine zAM_of (by decide) (Nat.le_of_ble_eq_true rfl) ⟨fun h => (by cases h), fun h => (by cases h)⟩ (Nat.le_refl _) (Nat.le_refl _) ?_
  unfold fX9_leads at h
  show zAW zE0 X mX9_leads 2 0 [(0, zr 48), (1, zi p1), (2, zi p2), (3, zi p3)] [] (zS0, I, L, F) (some (zi r)) (zS0, I, L, F)
  refine a_aload_n dX9_leads_0 rfl 0 rfl ?_
  refine a_getq dX9_leads_1 G_X9_125 zs_48 rfl (rf_48_48 hR) ?_
  refine a_iload_n dX9_leads_4 rfl 1 rfl ?_
  obtain ⟨hz1, h⟩ := zif h
  refine a_iald dX9_leads_5 zs_72 (zin_vp hz1) ?_
  refine a_aload_n dX9_leads_6 rfl 0 rfl ?_
  refine a_getq dX9_leads_7 G_X9_122 zs_48 rfl (rf_48_47 hR) ?_
  refine a_iload_n dX9_leads_10 rfl 1 rfl ?_
  obtain ⟨hz2, h⟩ := zif h
  refine a_iald dX9_leads_11 zs_71 (zin_vp hz2) ?_
  refine a_iload_n dX9_leads_12 rfl 3 rfl ?_
  refine a_callS dX9_leads_13 (tX9_apart hR _ _ _ rfl) csX9_apart zw1239 (Nat.le_of_ble_eq_true rfl) rfl (Nat.le_of_ble_eq_true rfl) ⟨Nat.le_refl _, Nat.le_refl _⟩ (fun hb3 => ?_)
  refine a_callS dX9_leads_16 (tX9_table hR _ _ rfl) csX9_table zw1283 (Nat.le_of_ble_eq_true rfl) rfl (Nat.le_of_ble_eq_true rfl) ⟨Nat.le_refl _, Nat.le_refl _⟩ (fun hb4 => ?_)
  refine a_imul dX9_leads_19 ?_
  refine a_bipush (v := 8) dX9_leads_20 (by decide) ?_
  refine a_idiv dX9_leads_22 (by decide) ?_
  refine a_name (fun x5 ex5 => ?_)
  replace h := zlet_at h ex5
  clear ex5
  refine a_istore dX9_leads_23 (by decide) rfl ?_
  refine a_iload dX9_leads_25 0 rfl ?_
  refine a_bipush (v := 12) dX9_leads_27 (by decide) ?_
  refine a_icmp_le (tgt := 37) dX9_leads_29 rfl (fun hc12 => ?_) (fun hc12 => ?_)
  · rw [if_pos hc12] at h
    refine a_iload dX9_leads_37 0 rfl ?_
    refine a_sub [3, 4] rfl ?_
    exact tX9_leads_39 hR h
  · rw [if_neg hc12] at h
    refine a_bipush (v := 12) dX9_leads_32 (by decide) ?_
    refine a_goto (tgt := 39) dX9_leads_34 rfl ?_
    refine a_sub [3, 4] rfl ?_
    exact tX9_leads_39 hR h
def fX9_leg (I : zPI) (p1 : Int32) : Option (Int32 × zPI) := (if p1 < 0 then some ((-1), zu I 48 0 0) else (if p1 < ((zu I 48 0 0) 48 51) then (if zin p1 8 then some ((zu I 48 0 0) 75 p1.toNatClampNeg, zu I 48 0 0) else none) else some ((-1), zu I 48 0 0)))
set_option maxRecDepth 100000 in
theorem tX9_leg {X : Nat × (Nat → Int32)} {I : zPI} {L : zPL} {F : zPF} {a b : Nat} {c : Option Nat} (hR : zRin F a b c) (p1 : Int32) (r : Int32 × zPI) (h : fX9_leg I p1 = some r) : zAM X mX9_leg 0 [zr 48, zi p1] (zS0, I, L, F) (some (zi r.1)) (zS0, r.2, L, F) := by
  refine zAM_of (by decide) (Nat.le_of_ble_eq_true rfl) ⟨fun h => (by cases h), fun h => (by cases h)⟩ (Nat.le_refl _) (Nat.le_refl _) ?_
  unfold fX9_leg at h
  show zAW zE0 X mX9_leg 0 0 [(0, zr 48), (1, zi p1)] [] (zS0, I, L, F) (some (zi r.1)) (zS0, r.2, L, F)
  refine a_aload_n dX9_leg_0 rfl 0 rfl ?_
  refine a_iconst (v := 0) dX9_leg_1 (by decide) ?_
  refine a_puti dX9_leg_2 F_X9_1 zs_48 rfl ⟨rfl, rfl⟩ ?_
  refine a_iload_n dX9_leg_5 rfl 1 rfl ?_
  refine a_if_lt (tgt := 17) dX9_leg_6 rfl (fun hc3 => ?_) (fun hc3 => ?_)
  · rw [if_pos hc3] at h
    refine a_iconst (v := (-1)) dX9_leg_17 (by decide) ?_
    refine a_goto (tgt := 27) dX9_leg_18 rfl ?_
    cases h
    exact a_iret dX9_leg_27 (by intro h; cases h) (znar_i rfl)
  · rw [if_neg hc3] at h
    refine a_iload_n dX9_leg_9 rfl 1 rfl ?_
    refine a_aload_n dX9_leg_10 rfl 0 rfl ?_
    refine a_geti dX9_leg_11 G_X9_362 zs_48 rfl ?_
    refine a_icmp_lt (tgt := 21) dX9_leg_14 rfl (fun hc2 => ?_) (fun hc2 => ?_)
    · rw [if_pos hc2] at h
      refine a_aload_n dX9_leg_21 rfl 0 rfl ?_
      refine a_getq dX9_leg_22 G_X9_135 zs_48 rfl (rf_48_52 hR) ?_
      refine a_iload_n dX9_leg_25 rfl 1 rfl ?_
      obtain ⟨hz1, h⟩ := zif h
      refine a_iald dX9_leg_26 zs_75 (zin_vp hz1) ?_
      cases h
      exact a_iret dX9_leg_27 (by intro h; cases h) (znar_i rfl)
    · rw [if_neg hc2] at h
      refine a_iconst (v := (-1)) dX9_leg_17 (by decide) ?_
      refine a_goto (tgt := 27) dX9_leg_18 rfl ?_
      cases h
      exact a_iret dX9_leg_27 (by intro h; cases h) (znar_i rfl)
def fX9_look_9 (K : Int32 → Int32 → zPI → Option (Int32 × zPI)) : Nat → Int32 → Int32 → Int32 → zPI → Option (Int32 × zPI)
  | 0, _, _, _, _ => none
  | n + 1, v1, v2, v3, I => (if 24 ≤ v3 then K v1 v2 I else (if zin v3 24 then (if (I 63 v3.toNatClampNeg) ≤ 0 then fX9_look_9 K n v1 (v2 + 0) (v3 + 1) I else fX9_look_9 K n v1 (v2 + 1) (v3 + 1) I) else none))
def fX9_look (I : zPI) (p1 : Int32) : Option (Int32 × zPI) := fX9_look_9 (fun v1 v2 I => (if v1 = 0 then some (I 48 29, I) else if v1 = 1 then some (I 48 30, I) else if v1 = 2 then some (I 48 31, I) else if v1 = 3 then some (I 48 32, I) else if v1 = 4 then some (I 48 33, I) else if v1 = 5 then some (I 48 34, I) else if v1 = 6 then some (I 48 28, I) else if v1 = 7 then some (v2, I) else if v1 = 8 then some (I 48 35, I) else if v1 = 9 then some (I 48 36, I) else if v1 = 10 then (if zin (I 48 13) 2 then some (I 57 (I 48 13).toNatClampNeg, I) else none) else if v1 = 11 then (if zin (I 48 37) 4400 then (if (I 54 (I 48 37).toNatClampNeg) = 0 then (if (I 48 29) < (I 48 38) then some (0, I) else some (1, I)) else some (0, I)) else none) else if v1 = 12 then some (I 48 2, I) else if v1 = 13 then (if (I 48 29) = 0 then (fX9_point I).bind (fun q22 => some (q22, I)) else some (I 48 43, I)) else if v1 = 14 then (if (I 48 29) = 0 then (fX9_force I).bind (fun q26 => some (q26, I)) else some (I 48 44, I)) else some ((-1), I))) zF p1 0 0 (zu I 48 0 0)
set_option maxRecDepth 100000 in
theorem tX9_look_9 {X : Nat × (Nat → Int32)} {L : zPL} {F : zPF} {a b : Nat} {c : Option Nat} (hR : zRin F a b c) {r : Int32 × zPI} {K : Int32 → Int32 → zPI → Option (Int32 × zPI)} (hK : ∀ (v1 : Int32) (v2 : Int32) (I : zPI), K v1 v2 I = some r → zAW zE0 X mX9_look 2 38 [(0, zr 48), (1, zi v1), (2, zi v2)] [] (zS0, I, L, F) (some (zi r.1)) (zS0, r.2, L, F)) : ∀ (n : Nat) (v1 : Int32) (v2 : Int32) (v3 : Int32) (I : zPI), fX9_look_9 K n v1 v2 v3 I = some r → zAW zE0 X mX9_look 2 9 [(0, zr 48), (1, zi v1), (2, zi v2), (3, zi v3)] [] (zS0, I, L, F) (some (zi r.1)) (zS0, r.2, L, F) := by
  intro n
  induction n with
  | zero =>
    intro v1 v2 v3 I h
    rw [fX9_look_9.eq_1] at h
    cases h
  | succ n ih =>
    intro v1 v2 v3 I h
    rw [fX9_look_9.eq_2] at h
    refine a_iload_n dX9_look_9 rfl 3 rfl ?_
    refine a_bipush (v := 24) dX9_look_10 (by decide) ?_
    refine a_icmp_ge (tgt := 38) dX9_look_12 rfl (fun hc3 => ?_) (fun hc3 => ?_)
    · rw [if_pos hc3] at h
      refine a_sub [0, 1, 2] rfl ?_
      exact hK _ _ _ h
    · rw [if_neg hc3] at h
      refine a_iload_n dX9_look_15 rfl 2 rfl ?_
      refine a_aload_n dX9_look_16 rfl 0 rfl ?_
      refine a_getq dX9_look_17 G_X9_98 zs_48 rfl (rf_48_24 hR) ?_
      refine a_iload_n dX9_look_20 rfl 3 rfl ?_
      obtain ⟨hz1, h⟩ := zif h
      refine a_iald dX9_look_21 zs_63 (zin_vp hz1) ?_
      refine a_if_le (tgt := 29) dX9_look_22 rfl (fun hc2 => ?_) (fun hc2 => ?_)
      · rw [if_pos hc2] at h
        refine a_iconst (v := 0) dX9_look_29 (by decide) ?_
        refine a_iadd dX9_look_30 ?_
        refine a_istore_n dX9_look_31 rfl (by decide) rfl ?_
        refine a_iincK (k0 := 1) dX9_look_32 (by decide) 3 rfl (by decide) rfl ?_
        refine a_goto (tgt := 9) dX9_look_35 rfl ?_
        refine a_sub [2, 3, 1, 0] rfl ?_
        exact ih _ _ _ _ h
      · rw [if_neg hc2] at h
        refine a_iconst (v := 1) dX9_look_25 (by decide) ?_
        refine a_goto (tgt := 30) dX9_look_26 rfl ?_
        refine a_iadd dX9_look_30 ?_
        refine a_istore_n dX9_look_31 rfl (by decide) rfl ?_
        refine a_iincK (k0 := 1) dX9_look_32 (by decide) 3 rfl (by decide) rfl ?_
        refine a_goto (tgt := 9) dX9_look_35 rfl ?_
        refine a_sub [2, 3, 1, 0] rfl ?_
        exact ih _ _ _ _ h
set_option maxRecDepth 100000 in
theorem tX9_look {X : Nat × (Nat → Int32)} {I : zPI} {L : zPL} {F : zPF} {a b : Nat} {c : Option Nat} (hR : zRin F a b c) (p1 : Int32) (r : Int32 × zPI) (h : fX9_look I p1 = some r) : zAM X mX9_look 2 [zr 48, zi p1] (zS0, I, L, F) (some (zi r.1)) (zS0, r.2, L, F) := by
  refine zAM_of (by decide) (Nat.le_of_ble_eq_true rfl) ⟨fun h => (by cases h), fun h => (by cases h)⟩ (Nat.le_refl _) (Nat.le_refl _) ?_
  unfold fX9_look at h
  show zAW zE0 X mX9_look 2 0 [(0, zr 48), (1, zi p1)] [] (zS0, I, L, F) (some (zi r.1)) (zS0, r.2, L, F)
  refine a_aload_n dX9_look_0 rfl 0 rfl ?_
  refine a_iconst (v := 0) dX9_look_1 (by decide) ?_
  refine a_puti dX9_look_2 F_X9_1 zs_48 rfl ⟨rfl, rfl⟩ ?_
  refine a_iconst (v := 0) dX9_look_5 (by decide) ?_
  refine a_istore_n dX9_look_6 rfl (by decide) rfl ?_
  refine a_iconst (v := 0) dX9_look_7 (by decide) ?_
  refine a_istore_n dX9_look_8 rfl (by decide) rfl ?_
  refine a_sub [2, 3, 1, 0] rfl ?_
  refine tX9_look_9 hR (fun v1 v2 I h => ?_) zF _ _ _ _ h
  (try dsimp only at h)
  refine a_iload_n dX9_look_38 rfl 1 rfl ?_
  by_cases hc5 : v1 = 0
  · rw [if_pos hc5] at h
    refine a_tableIn (tgt := 112) dX9_look_39 (by rw [hc5]; decide) (by rw [hc5]; decide) (by rw [hc5]; first | done | rfl) rfl ?_
    refine a_aload_n dX9_look_112 rfl 0 rfl ?_
    refine a_geti dX9_look_113 G_X9_242 zs_48 rfl ?_
    cases h
    exact a_iret dX9_look_116 (by intro h; cases h) (znar_i rfl)
  · rw [if_neg hc5] at h
    by_cases hc6 : v1 = 1
    · rw [if_pos hc6] at h
      refine a_tableIn (tgt := 117) dX9_look_39 (by rw [hc6]; decide) (by rw [hc6]; decide) (by rw [hc6]; first | done | rfl) rfl ?_
      refine a_aload_n dX9_look_117 rfl 0 rfl ?_
      refine a_geti dX9_look_118 G_X9_284 zs_48 rfl ?_
      cases h
      exact a_iret dX9_look_121 (by intro h; cases h) (znar_i rfl)
    · rw [if_neg hc6] at h
      by_cases hc7 : v1 = 2
      · rw [if_pos hc7] at h
        refine a_tableIn (tgt := 122) dX9_look_39 (by rw [hc7]; decide) (by rw [hc7]; decide) (by rw [hc7]; first | done | rfl) rfl ?_
        refine a_aload_n dX9_look_122 rfl 0 rfl ?_
        refine a_geti dX9_look_123 G_X9_308 zs_48 rfl ?_
        cases h
        exact a_iret dX9_look_126 (by intro h; cases h) (znar_i rfl)
      · rw [if_neg hc7] at h
        by_cases hc8 : v1 = 3
        · rw [if_pos hc8] at h
          refine a_tableIn (tgt := 127) dX9_look_39 (by rw [hc8]; decide) (by rw [hc8]; decide) (by rw [hc8]; first | done | rfl) rfl ?_
          refine a_aload_n dX9_look_127 rfl 0 rfl ?_
          refine a_geti dX9_look_128 G_X9_290 zs_48 rfl ?_
          cases h
          exact a_iret dX9_look_131 (by intro h; cases h) (znar_i rfl)
        · rw [if_neg hc8] at h
          by_cases hc9 : v1 = 4
          · rw [if_pos hc9] at h
            refine a_tableIn (tgt := 132) dX9_look_39 (by rw [hc9]; decide) (by rw [hc9]; decide) (by rw [hc9]; first | done | rfl) rfl ?_
            refine a_aload_n dX9_look_132 rfl 0 rfl ?_
            refine a_geti dX9_look_133 G_X9_347 zs_48 rfl ?_
            cases h
            exact a_iret dX9_look_136 (by intro h; cases h) (znar_i rfl)
          · rw [if_neg hc9] at h
            by_cases hc10 : v1 = 5
            · rw [if_pos hc10] at h
              refine a_tableIn (tgt := 137) dX9_look_39 (by rw [hc10]; decide) (by rw [hc10]; decide) (by rw [hc10]; first | done | rfl) rfl ?_
              refine a_aload_n dX9_look_137 rfl 0 rfl ?_
              refine a_geti dX9_look_138 G_X9_353 zs_48 rfl ?_
              cases h
              exact a_iret dX9_look_141 (by intro h; cases h) (znar_i rfl)
            · rw [if_neg hc10] at h
              by_cases hc11 : v1 = 6
              · rw [if_pos hc11] at h
                refine a_tableIn (tgt := 142) dX9_look_39 (by rw [hc11]; decide) (by rw [hc11]; decide) (by rw [hc11]; first | done | rfl) rfl ?_
                refine a_aload_n dX9_look_142 rfl 0 rfl ?_
                refine a_geti dX9_look_143 G_X9_252 zs_48 rfl ?_
                cases h
                exact a_iret dX9_look_146 (by intro h; cases h) (znar_i rfl)
              · rw [if_neg hc11] at h
                by_cases hc12 : v1 = 7
                · rw [if_pos hc12] at h
                  refine a_tableIn (tgt := 147) dX9_look_39 (by rw [hc12]; decide) (by rw [hc12]; decide) (by rw [hc12]; first | done | rfl) rfl ?_
                  refine a_iload_n dX9_look_147 rfl 2 rfl ?_
                  cases h
                  exact a_iret dX9_look_148 (by intro h; cases h) (znar_i rfl)
                · rw [if_neg hc12] at h
                  by_cases hc13 : v1 = 8
                  · rw [if_pos hc13] at h
                    refine a_tableIn (tgt := 149) dX9_look_39 (by rw [hc13]; decide) (by rw [hc13]; decide) (by rw [hc13]; first | done | rfl) rfl ?_
                    refine a_aload_n dX9_look_149 rfl 0 rfl ?_
                    refine a_geti dX9_look_150 G_X9_329 zs_48 rfl ?_
                    cases h
                    exact a_iret dX9_look_153 (by intro h; cases h) (znar_i rfl)
                  · rw [if_neg hc13] at h
                    by_cases hc14 : v1 = 9
                    · rw [if_pos hc14] at h
                      refine a_tableIn (tgt := 154) dX9_look_39 (by rw [hc14]; decide) (by rw [hc14]; decide) (by rw [hc14]; first | done | rfl) rfl ?_
                      refine a_aload_n dX9_look_154 rfl 0 rfl ?_
                      refine a_geti dX9_look_155 G_X9_302 zs_48 rfl ?_
                      cases h
                      exact a_iret dX9_look_158 (by intro h; cases h) (znar_i rfl)
                    · rw [if_neg hc14] at h
                      by_cases hc16 : v1 = 10
                      · rw [if_pos hc16] at h
                        refine a_tableIn (tgt := 159) dX9_look_39 (by rw [hc16]; decide) (by rw [hc16]; decide) (by rw [hc16]; first | done | rfl) rfl ?_
                        refine a_aload_n dX9_look_159 rfl 0 rfl ?_
                        refine a_getq dX9_look_160 G_X9_80 zs_48 rfl (rf_48_16 hR) ?_
                        refine a_aload_n dX9_look_163 rfl 0 rfl ?_
                        refine a_geti dX9_look_164 G_X9_192 zs_48 rfl ?_
                        obtain ⟨hz15, h⟩ := zif h
                        refine a_iald dX9_look_167 zs_57 (zin_vp hz15) ?_
                        cases h
                        exact a_iret dX9_look_168 (by intro h; cases h) (znar_i rfl)
                      · rw [if_neg hc16] at h
                        by_cases hc20 : v1 = 11
                        · rw [if_pos hc20] at h
                          refine a_tableIn (tgt := 169) dX9_look_39 (by rw [hc20]; decide) (by rw [hc20]; decide) (by rw [hc20]; first | done | rfl) rfl ?_
                          refine a_aload_n dX9_look_169 rfl 0 rfl ?_
                          refine a_getq dX9_look_170 G_X9_71 zs_48 rfl (rf_48_10 hR) ?_
                          refine a_aload_n dX9_look_173 rfl 0 rfl ?_
                          refine a_geti dX9_look_174 G_X9_205 zs_48 rfl ?_
                          obtain ⟨hz17, h⟩ := zif h
                          refine a_iald dX9_look_177 zs_54 (zin_vp hz17) ?_
                          refine a_if_ne (tgt := 196) dX9_look_178 rfl (fun hc19 => ?_) (fun hc19 => ?_)
                          · rw [if_neg hc19] at h
                            refine a_iconst (v := 0) dX9_look_196 (by decide) ?_
                            cases h
                            exact a_iret dX9_look_197 (by intro h; cases h) (znar_i rfl)
                          · rw [if_pos hc19] at h
                            refine a_aload_n dX9_look_181 rfl 0 rfl ?_
                            refine a_geti dX9_look_182 G_X9_208 zs_48 rfl ?_
                            refine a_aload_n dX9_look_185 rfl 0 rfl ?_
                            refine a_geti dX9_look_186 G_X9_242 zs_48 rfl ?_
                            refine a_icmp_gt (tgt := 196) dX9_look_189 rfl (fun hc18 => ?_) (fun hc18 => ?_)
                            · rw [if_pos hc18] at h
                              refine a_iconst (v := 0) dX9_look_196 (by decide) ?_
                              cases h
                              exact a_iret dX9_look_197 (by intro h; cases h) (znar_i rfl)
                            · rw [if_neg hc18] at h
                              refine a_iconst (v := 1) dX9_look_192 (by decide) ?_
                              refine a_goto (tgt := 197) dX9_look_193 rfl ?_
                              cases h
                              exact a_iret dX9_look_197 (by intro h; cases h) (znar_i rfl)
                        · rw [if_neg hc20] at h
                          by_cases hc21 : v1 = 12
                          · rw [if_pos hc21] at h
                            refine a_tableIn (tgt := 198) dX9_look_39 (by rw [hc21]; decide) (by rw [hc21]; decide) (by rw [hc21]; first | done | rfl) rfl ?_
                            refine a_aload_n dX9_look_198 rfl 0 rfl ?_
                            refine a_geti dX9_look_199 G_X9_11 zs_48 rfl ?_
                            cases h
                            exact a_iret dX9_look_202 (by intro h; cases h) (znar_i rfl)
                          · rw [if_neg hc21] at h
                            by_cases hc25 : v1 = 13
                            · rw [if_pos hc25] at h
                              refine a_tableIn (tgt := 203) dX9_look_39 (by rw [hc25]; decide) (by rw [hc25]; decide) (by rw [hc25]; first | done | rfl) rfl ?_
                              refine a_aload_n dX9_look_203 rfl 0 rfl ?_
                              refine a_geti dX9_look_204 G_X9_242 zs_48 rfl ?_
                              refine a_if_ne (tgt := 217) dX9_look_207 rfl (fun hc24 => ?_) (fun hc24 => ?_)
                              · rw [if_neg hc24] at h
                                refine a_aload_n dX9_look_217 rfl 0 rfl ?_
                                refine a_geti dX9_look_218 G_X9_332 zs_48 rfl ?_
                                cases h
                                exact a_iret dX9_look_221 (by intro h; cases h) (znar_i rfl)
                              · rw [if_pos hc24] at h
                                refine a_aload_n dX9_look_210 rfl 0 rfl ?_
                                obtain ⟨q22, hq22, h⟩ := zbind h
                                refine a_callV dX9_look_211 (tX9_point hR _ hq22) csX9_point zw1203 (Nat.le_of_ble_eq_true rfl) zs_48 rfl rfl (Nat.le_of_ble_eq_true rfl) ⟨Nat.le_refl _, Nat.le_refl _⟩ (fun hb23 => ?_)
                                refine a_goto (tgt := 221) dX9_look_214 rfl ?_
                                cases h
                                exact a_iret dX9_look_221 (by intro h; cases h) (znar_i rfl)
                            · rw [if_neg hc25] at h
                              by_cases hc29 : v1 = 14
                              · rw [if_pos hc29] at h
                                refine a_tableIn (tgt := 222) dX9_look_39 (by rw [hc29]; decide) (by rw [hc29]; decide) (by rw [hc29]; first | done | rfl) rfl ?_
                                refine a_aload_n dX9_look_222 rfl 0 rfl ?_
                                refine a_geti dX9_look_223 G_X9_242 zs_48 rfl ?_
                                refine a_if_ne (tgt := 236) dX9_look_226 rfl (fun hc28 => ?_) (fun hc28 => ?_)
                                · rw [if_neg hc28] at h
                                  refine a_aload_n dX9_look_236 rfl 0 rfl ?_
                                  refine a_geti dX9_look_237 G_X9_335 zs_48 rfl ?_
                                  cases h
                                  exact a_iret dX9_look_240 (by intro h; cases h) (znar_i rfl)
                                · rw [if_pos hc28] at h
                                  refine a_aload_n dX9_look_229 rfl 0 rfl ?_
                                  obtain ⟨q26, hq26, h⟩ := zbind h
                                  refine a_callV dX9_look_230 (tX9_force hR _ hq26) csX9_force zw1211 (Nat.le_of_ble_eq_true rfl) zs_48 rfl rfl (Nat.le_of_ble_eq_true rfl) ⟨Nat.le_refl _, Nat.le_refl _⟩ (fun hb27 => ?_)
                                  refine a_goto (tgt := 240) dX9_look_233 rfl ?_
                                  cases h
                                  exact a_iret dX9_look_240 (by intro h; cases h) (znar_i rfl)
                              · rw [if_neg hc29] at h
                                have hk9 : (v1 : Int32).toInt < 0 ∨ 14 < (v1 : Int32).toInt := by
                                  have := znot (k := 0) (z := 0) hc5 (by decide)
                                  have := znot (k := 1) (z := 1) hc6 (by decide)
                                  have := znot (k := 2) (z := 2) hc7 (by decide)
                                  have := znot (k := 3) (z := 3) hc8 (by decide)
                                  have := znot (k := 4) (z := 4) hc9 (by decide)
                                  have := znot (k := 5) (z := 5) hc10 (by decide)
                                  have := znot (k := 6) (z := 6) hc11 (by decide)
                                  have := znot (k := 7) (z := 7) hc12 (by decide)
                                  have := znot (k := 8) (z := 8) hc13 (by decide)
                                  have := znot (k := 9) (z := 9) hc14 (by decide)
                                  have := znot (k := 10) (z := 10) hc16 (by decide)
                                  have := znot (k := 11) (z := 11) hc20 (by decide)
                                  have := znot (k := 12) (z := 12) hc21 (by decide)
                                  have := znot (k := 13) (z := 13) hc25 (by decide)
                                  have := znot (k := 14) (z := 14) hc29 (by decide)
                                  omega
                                refine a_tableOut (tgt := 241) dX9_look_39 hk9 rfl ?_
                                refine a_iconst (v := (-1)) dX9_look_241 (by decide) ?_
                                cases h
                                exact a_iret dX9_look_242 (by intro h; cases h) (znar_i rfl)
def fX9_marksBack_14 (K : Int32 → Int32 → Int32 → zPI → Option (zPI)) : Nat → Int32 → Int32 → Int32 → Int32 → zPI → Option (zPI)
  | 0, _, _, _, _, _ => none
  | n + 1, v1, v2, v3, v4, I => (if 32 ≤ v4 then K v1 v2 v3 I else (if v3 = 0 then (if zin ((2401 * v1) + v2) 21609 then (if (I 73 ((2401 * v1) + v2).toNatClampNeg) = 0 then K v1 v2 v3 I else (fX9_leads I v1 v2 v4).bind (fun q2 => (if q2 < 0 then fX9_marksBack_14 K n v1 v2 0 (v4 + 1) I else (if zin ((2401 * (v1 + 1)) + q2) 21609 then (if (I 74 ((2401 * (v1 + 1)) + q2).toNatClampNeg) = 0 then fX9_marksBack_14 K n v1 v2 0 (v4 + 1) I else fX9_marksBack_14 K n v1 v2 1 (v4 + 1) I) else none)))) else none) else K v1 v2 v3 I))
def fX9_marksBack_2 (K : zPI → Option (zPI)) : Nat → Int32 → Int32 → zPI → Option (zPI)
  | 0, _, _, _ => none
  | n + 1, v1, v2, I => (if 2401 ≤ v2 then K I else fX9_marksBack_14 (fun v1 v2 v3 I => (if zin ((2401 * v1) + v2) 21609 then fX9_marksBack_2 K n v1 (v2 + 1) (zu I 74 ((2401 * v1) + v2).toNatClampNeg (vp_nar .boolean v3)) else none)) zF v1 v2 0 0 I)
def fX9_marksBack (I : zPI) (p1 : Int32) : Option (zPI) := fX9_marksBack_2 (fun I => some (I)) zF p1 0 I
set_option maxRecDepth 100000 in
theorem tX9_marksBack_14 {X : Nat × (Nat → Int32)} {L : zPL} {F : zPF} {a b : Nat} {c : Option Nat} (hR : zRin F a b c) {r : zPI} {K : Int32 → Int32 → Int32 → zPI → Option (zPI)} (hK : ∀ (v1 : Int32) (v2 : Int32) (v3 : Int32) (I : zPI), K v1 v2 v3 I = some r → zAW zE0 X mX9_marksBack 3 85 [(0, zr 48), (1, zi v1), (2, zi v2), (3, zi v3)] [] (zS0, I, L, F) none (zS0, r, L, F)) : ∀ (n : Nat) (v1 : Int32) (v2 : Int32) (v3 : Int32) (v4 : Int32) (I : zPI), fX9_marksBack_14 K n v1 v2 v3 v4 I = some r → zAW zE0 X mX9_marksBack 3 14 [(0, zr 48), (1, zi v1), (2, zi v2), (3, zi v3), (4, zi v4)] [] (zS0, I, L, F) none (zS0, r, L, F) := by
  intro n
  induction n with
  | zero =>
    intro v1 v2 v3 v4 I h
    rw [fX9_marksBack_14.eq_1] at h
    cases h
  | succ n ih =>
    intro v1 v2 v3 v4 I h
    rw [fX9_marksBack_14.eq_2] at h
    refine a_iload dX9_marksBack_14 4 rfl ?_
    refine a_bipush (v := 32) dX9_marksBack_16 (by decide) ?_
    refine a_icmp_ge (tgt := 85) dX9_marksBack_18 rfl (fun hc9 => ?_) (fun hc9 => ?_)
    · rw [if_pos hc9] at h
      refine a_sub [0, 1, 2, 3] rfl ?_
      exact hK _ _ _ _ h
    · rw [if_neg hc9] at h
      refine a_iload_n dX9_marksBack_21 rfl 3 rfl ?_
      refine a_if_ne (tgt := 85) dX9_marksBack_22 rfl (fun hc8 => ?_) (fun hc8 => ?_)
      · rw [if_neg hc8] at h
        refine a_sub [0, 1, 2, 3] rfl ?_
        exact hK _ _ _ _ h
      · rw [if_pos hc8] at h
        refine a_aload_n dX9_marksBack_25 rfl 0 rfl ?_
        refine a_getq dX9_marksBack_26 G_X9_128 zs_48 rfl (rf_48_49 hR) ?_
        refine a_sipush (v := 2401) dX9_marksBack_29 (by decide) ?_
        refine a_iload_n dX9_marksBack_32 rfl 1 rfl ?_
        refine a_imul dX9_marksBack_33 ?_
        refine a_iload_n dX9_marksBack_34 rfl 2 rfl ?_
        refine a_iadd dX9_marksBack_35 ?_
        obtain ⟨hz1, h⟩ := zif h
        refine a_zald dX9_marksBack_36 zs_73 (zin_vp hz1) ?_
        refine a_if_eq (tgt := 85) dX9_marksBack_37 rfl (fun hc7 => ?_) (fun hc7 => ?_)
        · rw [if_pos hc7] at h
          refine a_sub [0, 1, 2, 3] rfl ?_
          exact hK _ _ _ _ h
        · rw [if_neg hc7] at h
          refine a_aload_n dX9_marksBack_40 rfl 0 rfl ?_
          refine a_iload_n dX9_marksBack_41 rfl 1 rfl ?_
          refine a_iload_n dX9_marksBack_42 rfl 2 rfl ?_
          refine a_iload dX9_marksBack_43 4 rfl ?_
          obtain ⟨q2, hq2, h⟩ := zbind h
          refine a_callV dX9_marksBack_45 (tX9_leads hR _ _ _ _ hq2) csX9_leads zw1328 (Nat.le_of_ble_eq_true rfl) zs_48 rfl rfl (Nat.le_of_ble_eq_true rfl) ⟨Nat.le_refl _, Nat.le_refl _⟩ (fun hb3 => ?_)
          refine a_istore dX9_marksBack_48 (by decide) rfl ?_
          refine a_iload dX9_marksBack_50 0 rfl ?_
          refine a_if_lt (tgt := 77) dX9_marksBack_52 rfl (fun hc6 => ?_) (fun hc6 => ?_)
          · rw [if_pos hc6] at h
            refine a_iconst (v := 0) dX9_marksBack_77 (by decide) ?_
            refine a_istore_n dX9_marksBack_78 rfl (by decide) rfl ?_
            refine a_iincK (k0 := 1) dX9_marksBack_79 (by decide) 5 rfl (by decide) rfl ?_
            refine a_goto (tgt := 14) dX9_marksBack_82 rfl ?_
            refine a_sub [3, 4, 5, 1, 0] rfl ?_
            exact ih _ _ _ _ _ h
          · rw [if_neg hc6] at h
            refine a_aload_n dX9_marksBack_55 rfl 1 rfl ?_
            refine a_getq dX9_marksBack_56 G_X9_132 zs_48 rfl (rf_48_50 hR) ?_
            refine a_sipush (v := 2401) dX9_marksBack_59 (by decide) ?_
            refine a_iload_n dX9_marksBack_62 rfl 2 rfl ?_
            refine a_iconst (v := 1) dX9_marksBack_63 (by decide) ?_
            refine a_iadd dX9_marksBack_64 ?_
            refine a_imul dX9_marksBack_65 ?_
            refine a_iload dX9_marksBack_66 0 rfl ?_
            refine a_iadd dX9_marksBack_68 ?_
            obtain ⟨hz4, h⟩ := zif h
            refine a_zald dX9_marksBack_69 zs_74 (zin_vp hz4) ?_
            refine a_if_eq (tgt := 77) dX9_marksBack_70 rfl (fun hc5 => ?_) (fun hc5 => ?_)
            · rw [if_pos hc5] at h
              refine a_iconst (v := 0) dX9_marksBack_77 (by decide) ?_
              refine a_istore_n dX9_marksBack_78 rfl (by decide) rfl ?_
              refine a_iincK (k0 := 1) dX9_marksBack_79 (by decide) 5 rfl (by decide) rfl ?_
              refine a_goto (tgt := 14) dX9_marksBack_82 rfl ?_
              refine a_sub [3, 4, 5, 1, 0] rfl ?_
              exact ih _ _ _ _ _ h
            · rw [if_neg hc5] at h
              refine a_iconst (v := 1) dX9_marksBack_73 (by decide) ?_
              refine a_goto (tgt := 78) dX9_marksBack_74 rfl ?_
              refine a_istore_n dX9_marksBack_78 rfl (by decide) rfl ?_
              refine a_iincK (k0 := 1) dX9_marksBack_79 (by decide) 5 rfl (by decide) rfl ?_
              refine a_goto (tgt := 14) dX9_marksBack_82 rfl ?_
              refine a_sub [3, 4, 5, 1, 0] rfl ?_
              exact ih _ _ _ _ _ h
set_option maxRecDepth 100000 in
theorem tX9_marksBack_2 {X : Nat × (Nat → Int32)} {L : zPL} {F : zPF} {a b : Nat} {c : Option Nat} (hR : zRin F a b c) {r : zPI} {K : zPI → Option (zPI)} (hK : ∀ (I : zPI), K I = some r → zAW zE0 X mX9_marksBack 3 104 [] [] (zS0, I, L, F) none (zS0, r, L, F)) : ∀ (n : Nat) (v1 : Int32) (v2 : Int32) (I : zPI), fX9_marksBack_2 K n v1 v2 I = some r → zAW zE0 X mX9_marksBack 3 2 [(0, zr 48), (1, zi v1), (2, zi v2)] [] (zS0, I, L, F) none (zS0, r, L, F) := by
  intro n
  induction n with
  | zero =>
    intro v1 v2 I h
    rw [fX9_marksBack_2.eq_1] at h
    cases h
  | succ n ih =>
    intro v1 v2 I h
    rw [fX9_marksBack_2.eq_2] at h
    refine a_iload_n dX9_marksBack_2 rfl 2 rfl ?_
    refine a_sipush (v := 2401) dX9_marksBack_3 (by decide) ?_
    refine a_icmp_ge (tgt := 104) dX9_marksBack_6 rfl (fun hc11 => ?_) (fun hc11 => ?_)
    · rw [if_pos hc11] at h
      refine a_sub [] rfl ?_
      exact hK _ h
    · rw [if_neg hc11] at h
      refine a_iconst (v := 0) dX9_marksBack_9 (by decide) ?_
      refine a_istore_n dX9_marksBack_10 rfl (by decide) rfl ?_
      refine a_iconst (v := 0) dX9_marksBack_11 (by decide) ?_
      refine a_istore dX9_marksBack_12 (by decide) rfl ?_
      refine a_sub [2, 3, 4, 1, 0] rfl ?_
      refine tX9_marksBack_14 hR (fun v1 v2 v3 I h => ?_) zF _ _ _ _ _ h
      (try dsimp only at h)
      refine a_aload_n dX9_marksBack_85 rfl 0 rfl ?_
      refine a_getq dX9_marksBack_86 G_X9_132 zs_48 rfl (rf_48_50 hR) ?_
      refine a_sipush (v := 2401) dX9_marksBack_89 (by decide) ?_
      refine a_iload_n dX9_marksBack_92 rfl 1 rfl ?_
      refine a_imul dX9_marksBack_93 ?_
      refine a_iload_n dX9_marksBack_94 rfl 2 rfl ?_
      refine a_iadd dX9_marksBack_95 ?_
      refine a_iload_n dX9_marksBack_96 rfl 3 rfl ?_
      obtain ⟨hz10, h⟩ := zif h
      refine a_zast dX9_marksBack_97 zs_74 (zin_vp hz10) ?_
      refine a_iincK (k0 := 1) dX9_marksBack_98 (by decide) 2 rfl (by decide) rfl ?_
      refine a_goto (tgt := 2) dX9_marksBack_101 rfl ?_
      refine a_sub [1, 2, 0] rfl ?_
      exact ih _ _ _ h
set_option maxRecDepth 100000 in
theorem tX9_marksBack {X : Nat × (Nat → Int32)} {I : zPI} {L : zPL} {F : zPF} {a b : Nat} {c : Option Nat} (hR : zRin F a b c) (p1 : Int32) (r : zPI) (h : fX9_marksBack I p1 = some r) : zAM X mX9_marksBack 3 [zr 48, zi p1] (zS0, I, L, F) none (zS0, r, L, F) := by
  refine zAM_of (by decide) (Nat.le_of_ble_eq_true rfl) ⟨fun _ => rfl, fun _ => rfl⟩ (Nat.le_refl _) (Nat.le_refl _) ?_
  unfold fX9_marksBack at h
  show zAW zE0 X mX9_marksBack 3 0 [(0, zr 48), (1, zi p1)] [] (zS0, I, L, F) none (zS0, r, L, F)
  refine a_iconst (v := 0) dX9_marksBack_0 (by decide) ?_
  refine a_istore_n dX9_marksBack_1 rfl (by decide) rfl ?_
  refine a_sub [1, 2, 0] rfl ?_
  refine tX9_marksBack_2 hR (fun I h => ?_) zF _ _ _ h
  (try dsimp only at h)
  cases h
  exact a_vret dX9_marksBack_104 rfl
def fX9_marksForth_11 (K : Int32 → Int32 → zPI → Option (zPI)) : Nat → Int32 → Int32 → Int32 → zPI → Option (zPI)
  | 0, _, _, _, _ => none
  | n + 1, v1, v2, v3, I => (if 32 ≤ v3 then K v1 v2 I else (if zin ((2401 * v1) + v2) 21609 then (if (I 73 ((2401 * v1) + v2).toNatClampNeg) = 0 then K v1 v2 I else (fX9_leads I v1 v2 v3).bind (fun q2 => (if q2 < 0 then fX9_marksForth_11 K n v1 v2 (v3 + 1) I else (if zin ((2401 * (v1 + 1)) + q2) 21609 then fX9_marksForth_11 K n v1 v2 (v3 + 1) (zu I 73 ((2401 * (v1 + 1)) + q2).toNatClampNeg (vp_nar .boolean 1)) else none)))) else none))
def fX9_marksForth_2 (K : zPI → Option (zPI)) : Nat → Int32 → Int32 → zPI → Option (zPI)
  | 0, _, _, _ => none
  | n + 1, v1, v2, I => (if 2401 ≤ v2 then K I else fX9_marksForth_11 (fun v1 v2 I => fX9_marksForth_2 K n v1 (v2 + 1) I) zF v1 v2 0 I)
def fX9_marksForth (I : zPI) (p1 : Int32) : Option (zPI) := fX9_marksForth_2 (fun I => some (I)) zF p1 0 I
set_option maxRecDepth 100000 in
theorem tX9_marksForth_11 {X : Nat × (Nat → Int32)} {L : zPL} {F : zPF} {a b : Nat} {c : Option Nat} (hR : zRin F a b c) {r : zPI} {K : Int32 → Int32 → zPI → Option (zPI)} (hK : ∀ (v1 : Int32) (v2 : Int32) (I : zPI), K v1 v2 I = some r → zAW zE0 X mX9_marksForth 3 68 [(0, zr 48), (1, zi v1), (2, zi v2)] [] (zS0, I, L, F) none (zS0, r, L, F)) : ∀ (n : Nat) (v1 : Int32) (v2 : Int32) (v3 : Int32) (I : zPI), fX9_marksForth_11 K n v1 v2 v3 I = some r → zAW zE0 X mX9_marksForth 3 11 [(0, zr 48), (1, zi v1), (2, zi v2), (3, zi v3)] [] (zS0, I, L, F) none (zS0, r, L, F) := by
  intro n
  induction n with
  | zero =>
    intro v1 v2 v3 I h
    rw [fX9_marksForth_11.eq_1] at h
    cases h
  | succ n ih =>
    intro v1 v2 v3 I h
    rw [fX9_marksForth_11.eq_2] at h
    refine a_iload_n dX9_marksForth_11 rfl 3 rfl ?_
    refine a_bipush (v := 32) dX9_marksForth_12 (by decide) ?_
    refine a_icmp_ge (tgt := 68) dX9_marksForth_14 rfl (fun hc7 => ?_) (fun hc7 => ?_)
    · rw [if_pos hc7] at h
      refine a_sub [0, 1, 2] rfl ?_
      exact hK _ _ _ h
    · rw [if_neg hc7] at h
      refine a_aload_n dX9_marksForth_17 rfl 0 rfl ?_
      refine a_getq dX9_marksForth_18 G_X9_128 zs_48 rfl (rf_48_49 hR) ?_
      refine a_sipush (v := 2401) dX9_marksForth_21 (by decide) ?_
      refine a_iload_n dX9_marksForth_24 rfl 1 rfl ?_
      refine a_imul dX9_marksForth_25 ?_
      refine a_iload_n dX9_marksForth_26 rfl 2 rfl ?_
      refine a_iadd dX9_marksForth_27 ?_
      obtain ⟨hz1, h⟩ := zif h
      refine a_zald dX9_marksForth_28 zs_73 (zin_vp hz1) ?_
      refine a_if_eq (tgt := 68) dX9_marksForth_29 rfl (fun hc6 => ?_) (fun hc6 => ?_)
      · rw [if_pos hc6] at h
        refine a_sub [0, 1, 2] rfl ?_
        exact hK _ _ _ h
      · rw [if_neg hc6] at h
        refine a_aload_n dX9_marksForth_32 rfl 0 rfl ?_
        refine a_iload_n dX9_marksForth_33 rfl 1 rfl ?_
        refine a_iload_n dX9_marksForth_34 rfl 2 rfl ?_
        refine a_iload_n dX9_marksForth_35 rfl 3 rfl ?_
        obtain ⟨q2, hq2, h⟩ := zbind h
        refine a_callV dX9_marksForth_36 (tX9_leads hR _ _ _ _ hq2) csX9_leads zw1328 (Nat.le_of_ble_eq_true rfl) zs_48 rfl rfl (Nat.le_of_ble_eq_true rfl) ⟨Nat.le_refl _, Nat.le_refl _⟩ (fun hb3 => ?_)
        refine a_istore dX9_marksForth_39 (by decide) rfl ?_
        refine a_iload dX9_marksForth_41 0 rfl ?_
        refine a_if_lt (tgt := 62) dX9_marksForth_43 rfl (fun hc5 => ?_) (fun hc5 => ?_)
        · rw [if_pos hc5] at h
          refine a_iincK (k0 := 1) dX9_marksForth_62 (by decide) 4 rfl (by decide) rfl ?_
          refine a_goto (tgt := 11) dX9_marksForth_65 rfl ?_
          refine a_sub [2, 3, 4, 0] rfl ?_
          exact ih _ _ _ _ h
        · rw [if_neg hc5] at h
          refine a_aload_n dX9_marksForth_46 rfl 1 rfl ?_
          refine a_getq dX9_marksForth_47 G_X9_128 zs_48 rfl (rf_48_49 hR) ?_
          refine a_sipush (v := 2401) dX9_marksForth_50 (by decide) ?_
          refine a_iload_n dX9_marksForth_53 rfl 2 rfl ?_
          refine a_iconst (v := 1) dX9_marksForth_54 (by decide) ?_
          refine a_iadd dX9_marksForth_55 ?_
          refine a_imul dX9_marksForth_56 ?_
          refine a_iload dX9_marksForth_57 0 rfl ?_
          refine a_iadd dX9_marksForth_59 ?_
          refine a_iconst (v := 1) dX9_marksForth_60 (by decide) ?_
          obtain ⟨hz4, h⟩ := zif h
          refine a_zast dX9_marksForth_61 zs_73 (zin_vp hz4) ?_
          refine a_iincK (k0 := 1) dX9_marksForth_62 (by decide) 4 rfl (by decide) rfl ?_
          refine a_goto (tgt := 11) dX9_marksForth_65 rfl ?_
          refine a_sub [2, 3, 4, 0] rfl ?_
          exact ih _ _ _ _ h
set_option maxRecDepth 100000 in
theorem tX9_marksForth_2 {X : Nat × (Nat → Int32)} {L : zPL} {F : zPF} {a b : Nat} {c : Option Nat} (hR : zRin F a b c) {r : zPI} {K : zPI → Option (zPI)} (hK : ∀ (I : zPI), K I = some r → zAW zE0 X mX9_marksForth 3 74 [] [] (zS0, I, L, F) none (zS0, r, L, F)) : ∀ (n : Nat) (v1 : Int32) (v2 : Int32) (I : zPI), fX9_marksForth_2 K n v1 v2 I = some r → zAW zE0 X mX9_marksForth 3 2 [(0, zr 48), (1, zi v1), (2, zi v2)] [] (zS0, I, L, F) none (zS0, r, L, F) := by
  intro n
  induction n with
  | zero =>
    intro v1 v2 I h
    rw [fX9_marksForth_2.eq_1] at h
    cases h
  | succ n ih =>
    intro v1 v2 I h
    rw [fX9_marksForth_2.eq_2] at h
    refine a_iload_n dX9_marksForth_2 rfl 2 rfl ?_
    refine a_sipush (v := 2401) dX9_marksForth_3 (by decide) ?_
    refine a_icmp_ge (tgt := 74) dX9_marksForth_6 rfl (fun hc8 => ?_) (fun hc8 => ?_)
    · rw [if_pos hc8] at h
      refine a_sub [] rfl ?_
      exact hK _ h
    · rw [if_neg hc8] at h
      refine a_iconst (v := 0) dX9_marksForth_9 (by decide) ?_
      refine a_istore_n dX9_marksForth_10 rfl (by decide) rfl ?_
      refine a_sub [1, 2, 3, 0] rfl ?_
      refine tX9_marksForth_11 hR (fun v1 v2 I h => ?_) zF _ _ _ _ h
      (try dsimp only at h)
      refine a_iincK (k0 := 1) dX9_marksForth_68 (by decide) 2 rfl (by decide) rfl ?_
      refine a_goto (tgt := 2) dX9_marksForth_71 rfl ?_
      refine a_sub [1, 2, 0] rfl ?_
      exact ih _ _ _ h
set_option maxRecDepth 100000 in
theorem tX9_marksForth {X : Nat × (Nat → Int32)} {I : zPI} {L : zPL} {F : zPF} {a b : Nat} {c : Option Nat} (hR : zRin F a b c) (p1 : Int32) (r : zPI) (h : fX9_marksForth I p1 = some r) : zAM X mX9_marksForth 3 [zr 48, zi p1] (zS0, I, L, F) none (zS0, r, L, F) := by
  refine zAM_of (by decide) (Nat.le_of_ble_eq_true rfl) ⟨fun _ => rfl, fun _ => rfl⟩ (Nat.le_refl _) (Nat.le_refl _) ?_
  unfold fX9_marksForth at h
  show zAW zE0 X mX9_marksForth 3 0 [(0, zr 48), (1, zi p1)] [] (zS0, I, L, F) none (zS0, r, L, F)
  refine a_iconst (v := 0) dX9_marksForth_0 (by decide) ?_
  refine a_istore_n dX9_marksForth_1 rfl (by decide) rfl ?_
  refine a_sub [1, 2, 0] rfl ?_
  refine tX9_marksForth_2 hR (fun I h => ?_) zF _ _ _ h
  (try dsimp only at h)
  cases h
  exact a_vret dX9_marksForth_74 rfl
def fX9_minutes_19 (K : zPI → Option (Int32 × zPI)) : Nat → Int32 → Int32 → zPI → Option (Int32 × zPI)
  | 0, _, _, _ => none
  | n + 1, v1, v2, I => (if v1 ≤ v2 then K I else (fX9_goes I).bind (fun q1 => fX9_minutes_19 K n v1 (v2 + 1) q1))
def fX9_minutes (I : zPI) (p1 : Int32) : Option (Int32 × zPI) := (if p1 < 0 then some ((-1), zu I 48 0 0) else (if p1 ≤ 120 then fX9_minutes_19 (fun I => some (I 48 29, I)) zF p1 0 (zu I 48 0 0) else some ((-1), zu I 48 0 0)))
set_option maxRecDepth 100000 in
theorem tX9_minutes_19 {X : Nat × (Nat → Int32)} {L : zPL} {F : zPF} {a b : Nat} {c : Option Nat} (hR : zRin F a b c) {r : Int32 × zPI} {K : zPI → Option (Int32 × zPI)} (hK : ∀ (I : zPI), K I = some r → zAW zE0 X mX9_minutes 6 34 [(0, zr 48)] [] (zS0, I, L, F) (some (zi r.1)) (zS0, r.2, L, F)) : ∀ (n : Nat) (v1 : Int32) (v2 : Int32) (I : zPI), fX9_minutes_19 K n v1 v2 I = some r → zAW zE0 X mX9_minutes 6 19 [(0, zr 48), (1, zi v1), (2, zi v2)] [] (zS0, I, L, F) (some (zi r.1)) (zS0, r.2, L, F) := by
  intro n
  induction n with
  | zero =>
    intro v1 v2 I h
    rw [fX9_minutes_19.eq_1] at h
    cases h
  | succ n ih =>
    intro v1 v2 I h
    rw [fX9_minutes_19.eq_2] at h
    refine a_iload_n dX9_minutes_19 rfl 2 rfl ?_
    refine a_iload_n dX9_minutes_20 rfl 1 rfl ?_
    refine a_icmp_ge (tgt := 34) dX9_minutes_21 rfl (fun hc3 => ?_) (fun hc3 => ?_)
    · rw [if_pos hc3] at h
      refine a_sub [0] rfl ?_
      exact hK _ h
    · rw [if_neg hc3] at h
      refine a_aload_n dX9_minutes_24 rfl 0 rfl ?_
      obtain ⟨q1, hq1, h⟩ := zbind h
      refine a_callV dX9_minutes_25 (tX9_goes hR _ hq1) csX9_goes zw1199 (Nat.le_of_ble_eq_true rfl) zs_48 rfl rfl (Nat.le_of_ble_eq_true rfl) ⟨Nat.le_refl _, Nat.le_refl _⟩ (fun hb2 => ?_)
      refine a_iincK (k0 := 1) dX9_minutes_28 (by decide) 2 rfl (by decide) rfl ?_
      refine a_goto (tgt := 19) dX9_minutes_31 rfl ?_
      refine a_sub [1, 2, 0] rfl ?_
      exact ih _ _ _ h
set_option maxRecDepth 100000 in
theorem tX9_minutes {X : Nat × (Nat → Int32)} {I : zPI} {L : zPL} {F : zPF} {a b : Nat} {c : Option Nat} (hR : zRin F a b c) (p1 : Int32) (r : Int32 × zPI) (h : fX9_minutes I p1 = some r) : zAM X mX9_minutes 6 [zr 48, zi p1] (zS0, I, L, F) (some (zi r.1)) (zS0, r.2, L, F) := by
  refine zAM_of (by decide) (Nat.le_of_ble_eq_true rfl) ⟨fun h => (by cases h), fun h => (by cases h)⟩ (Nat.le_refl _) (Nat.le_refl _) ?_
  unfold fX9_minutes at h
  show zAW zE0 X mX9_minutes 6 0 [(0, zr 48), (1, zi p1)] [] (zS0, I, L, F) (some (zi r.1)) (zS0, r.2, L, F)
  refine a_aload_n dX9_minutes_0 rfl 0 rfl ?_
  refine a_iconst (v := 0) dX9_minutes_1 (by decide) ?_
  refine a_puti dX9_minutes_2 F_X9_1 zs_48 rfl ⟨rfl, rfl⟩ ?_
  refine a_iload_n dX9_minutes_5 rfl 1 rfl ?_
  refine a_if_lt (tgt := 15) dX9_minutes_6 rfl (fun hc5 => ?_) (fun hc5 => ?_)
  · rw [if_pos hc5] at h
    refine a_iconst (v := (-1)) dX9_minutes_15 (by decide) ?_
    cases h
    exact a_iret dX9_minutes_16 (by intro h; cases h) (znar_i rfl)
  · rw [if_neg hc5] at h
    refine a_iload_n dX9_minutes_9 rfl 1 rfl ?_
    refine a_bipush (v := 120) dX9_minutes_10 (by decide) ?_
    refine a_icmp_le (tgt := 17) dX9_minutes_12 rfl (fun hc4 => ?_) (fun hc4 => ?_)
    · rw [if_pos hc4] at h
      refine a_iconst (v := 0) dX9_minutes_17 (by decide) ?_
      refine a_istore_n dX9_minutes_18 rfl (by decide) rfl ?_
      refine a_sub [1, 2, 0] rfl ?_
      refine tX9_minutes_19 hR (fun I h => ?_) zF _ _ _ h
      (try dsimp only at h)
      refine a_aload_n dX9_minutes_34 rfl 0 rfl ?_
      refine a_geti dX9_minutes_35 G_X9_242 zs_48 rfl ?_
      cases h
      exact a_iret dX9_minutes_38 (by intro h; cases h) (znar_i rfl)
    · rw [if_neg hc4] at h
      refine a_iconst (v := (-1)) dX9_minutes_15 (by decide) ?_
      cases h
      exact a_iret dX9_minutes_16 (by intro h; cases h) (znar_i rfl)
def fX9_plan_47 (K : Int32 → zPI → Option (Int32 × zPI)) : Nat → Int32 → Int32 → zPI → Option (Int32 × zPI)
  | 0, _, _, _ => none
  | n + 1, v3, v4, I => (if 21609 ≤ v4 then K v3 I else (if zin v4 21609 then fX9_plan_47 K n v3 (v4 + 1) (zu I 73 v4.toNatClampNeg (vp_nar .boolean 0)) else none))
def fX9_plan_90 (K : Int32 → Int32 → Int32 → zPI → Option (Int32 × zPI)) : Nat → Int32 → Int32 → Int32 → zPI → Option (Int32 × zPI)
  | 0, _, _, _, _ => none
  | n + 1, v3, v4, v5, I => (if 8 ≤ v5 then K v3 v4 v5 I else (if zin ((2401 * v5) + v3) 21609 then (if (I 73 ((2401 * v5) + v3).toNatClampNeg) = 0 then (fX9_marksForth I v5).bind (fun q5 => fX9_plan_90 K n v3 v4 (v5 + 1) q5) else K v3 v4 v5 I) else none))
def fX9_plan_146 (K : Int32 → Int32 → zPI → Option (Int32 × zPI)) : Nat → Int32 → Int32 → Int32 → Int32 → zPI → Option (Int32 × zPI)
  | 0, _, _, _, _, _ => none
  | n + 1, v3, v4, v5, v6, I => (if 2401 ≤ v6 then K v4 v5 I else (if v6 = v3 then (if zin ((2401 * v5) + v6) 21609 then fX9_plan_146 K n v3 v4 v5 (v6 + 1) (zu I 74 ((2401 * v5) + v6).toNatClampNeg (vp_nar .boolean 1)) else none) else (if zin ((2401 * v5) + v6) 21609 then fX9_plan_146 K n v3 v4 v5 (v6 + 1) (zu I 74 ((2401 * v5) + v6).toNatClampNeg (vp_nar .boolean 0)) else none)))
def fX9_plan_191 (K : Int32 → Int32 → zPI → Option (Int32 × zPI)) : Nat → Int32 → Int32 → Int32 → zPI → Option (Int32 × zPI)
  | 0, _, _, _, _ => none
  | n + 1, v4, v5, v6, I => (if v6 < 0 then K v4 v5 I else (fX9_marksBack I v6).bind (fun q14 => fX9_plan_191 K n v4 v5 (v6 + (-1)) q14))
def fX9_plan_225 (K : Int32 → Int32 → Int32 → Int32 → zPI → Option (Int32 × zPI)) : Nat → Int32 → Int32 → Int32 → Int32 → zPI → Option (Int32 × zPI)
  | 0, _, _, _, _, _ => none
  | n + 1, v5, v6, v7, v8, I => (fX9_leads I v7 v6 v8).bind (fun q17 => (if q17 < 0 then fX9_plan_225 K n v5 v6 v7 (v8 + 1) I else (fX9_leads I v7 v6 v8).bind (fun q19 => (if zin ((2401 * (v7 + 1)) + q19) 21609 then (if (I 74 ((2401 * (v7 + 1)) + q19).toNatClampNeg) = 0 then fX9_plan_225 K n v5 v6 v7 (v8 + 1) I else K v5 v6 v7 v8 I) else none))))
def fX9_plan_215 (K : Int32 → zPI → Option (Int32 × zPI)) : Nat → Int32 → Int32 → Int32 → zPI → Option (Int32 × zPI)
  | 0, _, _, _, _ => none
  | n + 1, v5, v6, v7, I => (if v5 ≤ v7 then K v5 I else fX9_plan_225 (fun v5 v6 v7 v8 I => (if zin v7 8 then (fX9_leads (zu I 75 v7.toNatClampNeg v8) v7 v6 v8).bind (fun q25 => fX9_plan_215 K n v5 q25 (v7 + 1) (zu I 75 v7.toNatClampNeg v8)) else none)) zF v5 v6 v7 0 I)
def fX9_plan_125 (v3 : Int32) (v4 : Int32) (v5 : Int32) (I : zPI) : Option (Int32 × zPI) := (if zin ((2401 * v5) + v3) 21609 then (if (I 73 ((2401 * v5) + v3).toNatClampNeg) = 0 then some ((-1), I) else fX9_plan_146 (fun v4 v5 I => fX9_plan_191 (fun v4 v5 I => fX9_plan_215 (fun v5 I => some (v5, zu I 48 51 v5)) zF v5 v4 0 I) zF v4 v5 (v5 - 1) I) zF v3 v4 v5 0 I) else none)
def fX9_plan (I : zPI) (p1 : Int32) (p2 : Int32) : Option (Int32 × zPI) := (if p1 < (-24) then some ((-1), zu I 48 0 0) else (if 24 < p1 then some ((-1), zu I 48 0 0) else (if p2 < (-24) then some ((-1), zu I 48 0 0) else (if p2 ≤ 24 then fX9_plan_47 (fun v3 I => fX9_plan_90 (fun v3 v4 v5 I => fX9_plan_125 v3 v4 v5 I) zF v3 1200 0 (zu (zu I 73 1200 (vp_nar .boolean 1)) 48 51 0)) zF (((49 * (p2 + 24)) + p1) + 24) 0 (zu I 48 0 0) else some ((-1), zu I 48 0 0)))))
set_option maxRecDepth 100000 in
theorem tX9_plan_47 {X : Nat × (Nat → Int32)} {L : zPL} {F : zPF} {a b : Nat} {c : Option Nat} (hR : zRin F a b c) {r : Int32 × zPI} {K : Int32 → zPI → Option (Int32 × zPI)} (hK : ∀ (v3 : Int32) (I : zPI), K v3 I = some r → zAW zE0 X mX9_plan 4 69 [(0, zr 48), (3, zi v3)] [] (zS0, I, L, F) (some (zi r.1)) (zS0, r.2, L, F)) : ∀ (n : Nat) (v3 : Int32) (v4 : Int32) (I : zPI), fX9_plan_47 K n v3 v4 I = some r → zAW zE0 X mX9_plan 4 47 [(0, zr 48), (3, zi v3), (4, zi v4)] [] (zS0, I, L, F) (some (zi r.1)) (zS0, r.2, L, F) := by
  intro n
  induction n with
  | zero =>
    intro v3 v4 I h
    rw [fX9_plan_47.eq_1] at h
    cases h
  | succ n ih =>
    intro v3 v4 I h
    rw [fX9_plan_47.eq_2] at h
    refine a_iload dX9_plan_47 2 rfl ?_
    refine a_sipush (v := 21609) dX9_plan_49 (by decide) ?_
    refine a_icmp_ge (tgt := 69) dX9_plan_52 rfl (fun hc2 => ?_) (fun hc2 => ?_)
    · rw [if_pos hc2] at h
      refine a_sub [0, 1] rfl ?_
      exact hK _ _ h
    · rw [if_neg hc2] at h
      refine a_aload_n dX9_plan_55 rfl 0 rfl ?_
      refine a_getq dX9_plan_56 G_X9_128 zs_48 rfl (rf_48_49 hR) ?_
      refine a_iload dX9_plan_59 2 rfl ?_
      refine a_iconst (v := 0) dX9_plan_61 (by decide) ?_
      obtain ⟨hz1, h⟩ := zif h
      refine a_zast dX9_plan_62 zs_73 (zin_vp hz1) ?_
      refine a_iincK (k0 := 1) dX9_plan_63 (by decide) 2 rfl (by decide) rfl ?_
      refine a_goto (tgt := 47) dX9_plan_66 rfl ?_
      refine a_sub [1, 2, 0] rfl ?_
      exact ih _ _ _ h
set_option maxRecDepth 100000 in
theorem tX9_plan_90 {X : Nat × (Nat → Int32)} {L : zPL} {F : zPF} {a b : Nat} {c : Option Nat} (hR : zRin F a b c) {r : Int32 × zPI} {K : Int32 → Int32 → Int32 → zPI → Option (Int32 × zPI)} (hK : ∀ (v3 : Int32) (v4 : Int32) (v5 : Int32) (I : zPI), K v3 v4 v5 I = some r → zAW zE0 X mX9_plan 4 125 [(0, zr 48), (3, zi v3), (4, zi v4), (5, zi v5)] [] (zS0, I, L, F) (some (zi r.1)) (zS0, r.2, L, F)) : ∀ (n : Nat) (v3 : Int32) (v4 : Int32) (v5 : Int32) (I : zPI), fX9_plan_90 K n v3 v4 v5 I = some r → zAW zE0 X mX9_plan 4 90 [(0, zr 48), (3, zi v3), (4, zi v4), (5, zi v5)] [] (zS0, I, L, F) (some (zi r.1)) (zS0, r.2, L, F) := by
  intro n
  induction n with
  | zero =>
    intro v3 v4 v5 I h
    rw [fX9_plan_90.eq_1] at h
    cases h
  | succ n ih =>
    intro v3 v4 v5 I h
    rw [fX9_plan_90.eq_2] at h
    refine a_iload dX9_plan_90 3 rfl ?_
    refine a_bipush (v := 8) dX9_plan_92 (by decide) ?_
    refine a_icmp_ge (tgt := 125) dX9_plan_94 rfl (fun hc8 => ?_) (fun hc8 => ?_)
    · rw [if_pos hc8] at h
      exact hK _ _ _ _ h
    · rw [if_neg hc8] at h
      refine a_aload_n dX9_plan_97 rfl 0 rfl ?_
      refine a_getq dX9_plan_98 G_X9_128 zs_48 rfl (rf_48_49 hR) ?_
      refine a_sipush (v := 2401) dX9_plan_101 (by decide) ?_
      refine a_iload dX9_plan_104 3 rfl ?_
      refine a_imul dX9_plan_106 ?_
      refine a_iload_n dX9_plan_107 rfl 1 rfl ?_
      refine a_iadd dX9_plan_108 ?_
      obtain ⟨hz4, h⟩ := zif h
      refine a_zald dX9_plan_109 zs_73 (zin_vp hz4) ?_
      refine a_if_ne (tgt := 125) dX9_plan_110 rfl (fun hc7 => ?_) (fun hc7 => ?_)
      · rw [if_neg hc7] at h
        exact hK _ _ _ _ h
      · rw [if_pos hc7] at h
        refine a_aload_n dX9_plan_113 rfl 0 rfl ?_
        refine a_iload dX9_plan_114 3 rfl ?_
        obtain ⟨q5, hq5, h⟩ := zbind h
        refine a_callV dX9_plan_116 (tX9_marksForth hR _ _ hq5) csX9_marksForth zw1324 (Nat.le_of_ble_eq_true rfl) zs_48 rfl rfl (Nat.le_of_ble_eq_true rfl) ⟨Nat.le_refl _, Nat.le_refl _⟩ (fun hb6 => ?_)
        refine a_iincK (k0 := 1) dX9_plan_119 (by decide) 3 rfl (by decide) rfl ?_
        refine a_goto (tgt := 90) dX9_plan_122 rfl ?_
        refine a_sub [1, 2, 3, 0] rfl ?_
        exact ih _ _ _ _ h
set_option maxRecDepth 100000 in
theorem tX9_plan_146 {X : Nat × (Nat → Int32)} {L : zPL} {F : zPF} {a b : Nat} {c : Option Nat} (hR : zRin F a b c) {r : Int32 × zPI} {K : Int32 → Int32 → zPI → Option (Int32 × zPI)} (hK : ∀ (v4 : Int32) (v5 : Int32) (I : zPI), K v4 v5 I = some r → zAW zE0 X mX9_plan 4 185 [(0, zr 48), (4, zi v4), (5, zi v5)] [] (zS0, I, L, F) (some (zi r.1)) (zS0, r.2, L, F)) : ∀ (n : Nat) (v3 : Int32) (v4 : Int32) (v5 : Int32) (v6 : Int32) (I : zPI), fX9_plan_146 K n v3 v4 v5 v6 I = some r → zAW zE0 X mX9_plan 4 146 [(0, zr 48), (3, zi v3), (4, zi v4), (5, zi v5), (6, zi v6)] [] (zS0, I, L, F) (some (zi r.1)) (zS0, r.2, L, F) := by
  intro n
  induction n with
  | zero =>
    intro v3 v4 v5 v6 I h
    rw [fX9_plan_146.eq_1] at h
    cases h
  | succ n ih =>
    intro v3 v4 v5 v6 I h
    rw [fX9_plan_146.eq_2] at h
    refine a_iload dX9_plan_146 4 rfl ?_
    refine a_sipush (v := 2401) dX9_plan_148 (by decide) ?_
    refine a_icmp_ge (tgt := 185) dX9_plan_151 rfl (fun hc13 => ?_) (fun hc13 => ?_)
    · rw [if_pos hc13] at h
      refine a_sub [0, 2, 3] rfl ?_
      exact hK _ _ _ h
    · rw [if_neg hc13] at h
      refine a_aload_n dX9_plan_154 rfl 0 rfl ?_
      refine a_getq dX9_plan_155 G_X9_132 zs_48 rfl (rf_48_50 hR) ?_
      refine a_sipush (v := 2401) dX9_plan_158 (by decide) ?_
      refine a_iload dX9_plan_161 3 rfl ?_
      refine a_imul dX9_plan_163 ?_
      refine a_iload dX9_plan_164 4 rfl ?_
      refine a_iadd dX9_plan_166 ?_
      refine a_iload dX9_plan_167 4 rfl ?_
      refine a_iload_n dX9_plan_169 rfl 1 rfl ?_
      refine a_icmp_ne (tgt := 177) dX9_plan_170 rfl (fun hc12 => ?_) (fun hc12 => ?_)
      · rw [if_neg hc12] at h
        refine a_iconst (v := 0) dX9_plan_177 (by decide) ?_
        obtain ⟨hz10, h⟩ := zif h
        refine a_zast dX9_plan_178 zs_74 (zin_vp hz10) ?_
        refine a_iincK (k0 := 1) dX9_plan_179 (by decide) 4 rfl (by decide) rfl ?_
        refine a_goto (tgt := 146) dX9_plan_182 rfl ?_
        refine a_sub [1, 2, 3, 4, 0] rfl ?_
        exact ih _ _ _ _ _ h
      · rw [if_pos hc12] at h
        refine a_iconst (v := 1) dX9_plan_173 (by decide) ?_
        refine a_goto (tgt := 178) dX9_plan_174 rfl ?_
        obtain ⟨hz11, h⟩ := zif h
        refine a_zast dX9_plan_178 zs_74 (zin_vp hz11) ?_
        refine a_iincK (k0 := 1) dX9_plan_179 (by decide) 4 rfl (by decide) rfl ?_
        refine a_goto (tgt := 146) dX9_plan_182 rfl ?_
        refine a_sub [1, 2, 3, 4, 0] rfl ?_
        exact ih _ _ _ _ _ h
set_option maxRecDepth 100000 in
theorem tX9_plan_191 {X : Nat × (Nat → Int32)} {L : zPL} {F : zPF} {a b : Nat} {c : Option Nat} (hR : zRin F a b c) {r : Int32 × zPI} {K : Int32 → Int32 → zPI → Option (Int32 × zPI)} (hK : ∀ (v4 : Int32) (v5 : Int32) (I : zPI), K v4 v5 I = some r → zAW zE0 X mX9_plan 4 208 [(0, zr 48), (4, zi v4), (5, zi v5)] [] (zS0, I, L, F) (some (zi r.1)) (zS0, r.2, L, F)) : ∀ (n : Nat) (v4 : Int32) (v5 : Int32) (v6 : Int32) (I : zPI), fX9_plan_191 K n v4 v5 v6 I = some r → zAW zE0 X mX9_plan 4 191 [(0, zr 48), (4, zi v4), (5, zi v5), (6, zi v6)] [] (zS0, I, L, F) (some (zi r.1)) (zS0, r.2, L, F) := by
  intro n
  induction n with
  | zero =>
    intro v4 v5 v6 I h
    rw [fX9_plan_191.eq_1] at h
    cases h
  | succ n ih =>
    intro v4 v5 v6 I h
    rw [fX9_plan_191.eq_2] at h
    refine a_iload dX9_plan_191 3 rfl ?_
    refine a_if_lt (tgt := 208) dX9_plan_193 rfl (fun hc16 => ?_) (fun hc16 => ?_)
    · rw [if_pos hc16] at h
      refine a_sub [0, 1, 2] rfl ?_
      exact hK _ _ _ h
    · rw [if_neg hc16] at h
      refine a_aload_n dX9_plan_196 rfl 0 rfl ?_
      refine a_iload dX9_plan_197 3 rfl ?_
      obtain ⟨q14, hq14, h⟩ := zbind h
      refine a_callV dX9_plan_199 (tX9_marksBack hR _ _ hq14) csX9_marksBack zw1332 (Nat.le_of_ble_eq_true rfl) zs_48 rfl rfl (Nat.le_of_ble_eq_true rfl) ⟨Nat.le_refl _, Nat.le_refl _⟩ (fun hb15 => ?_)
      refine a_iincK (k0 := (-1)) dX9_plan_202 (by decide) 3 rfl (by decide) rfl ?_
      refine a_goto (tgt := 191) dX9_plan_205 rfl ?_
      refine a_sub [1, 2, 3, 0] rfl ?_
      exact ih _ _ _ _ h
set_option maxRecDepth 100000 in
theorem tX9_plan_225 {X : Nat × (Nat → Int32)} {L : zPL} {F : zPF} {a b : Nat} {c : Option Nat} (hR : zRin F a b c) {r : Int32 × zPI} {K : Int32 → Int32 → Int32 → Int32 → zPI → Option (Int32 × zPI)} (hK : ∀ (v5 : Int32) (v6 : Int32) (v7 : Int32) (v8 : Int32) (I : zPI), K v5 v6 v7 v8 I = some r → zAW zE0 X mX9_plan 4 271 [(0, zr 48), (5, zi v5), (6, zi v6), (7, zi v7), (8, zi v8)] [] (zS0, I, L, F) (some (zi r.1)) (zS0, r.2, L, F)) : ∀ (n : Nat) (v5 : Int32) (v6 : Int32) (v7 : Int32) (v8 : Int32) (I : zPI), fX9_plan_225 K n v5 v6 v7 v8 I = some r → zAW zE0 X mX9_plan 4 225 [(0, zr 48), (5, zi v5), (6, zi v6), (7, zi v7), (8, zi v8)] [] (zS0, I, L, F) (some (zi r.1)) (zS0, r.2, L, F) := by
  intro n
  induction n with
  | zero =>
    intro v5 v6 v7 v8 I h
    rw [fX9_plan_225.eq_1] at h
    cases h
  | succ n ih =>
    intro v5 v6 v7 v8 I h
    rw [fX9_plan_225.eq_2] at h
    refine a_aload_n dX9_plan_225 rfl 0 rfl ?_
    refine a_iload dX9_plan_226 3 rfl ?_
    refine a_iload dX9_plan_228 2 rfl ?_
    refine a_iload dX9_plan_230 4 rfl ?_
    obtain ⟨q17, hq17, h⟩ := zbind h
    refine a_callV dX9_plan_232 (tX9_leads hR _ _ _ _ hq17) csX9_leads zw1328 (Nat.le_of_ble_eq_true rfl) zs_48 rfl rfl (Nat.le_of_ble_eq_true rfl) ⟨Nat.le_refl _, Nat.le_refl _⟩ (fun hb18 => ?_)
    refine a_if_lt (tgt := 265) dX9_plan_235 rfl (fun hc23 => ?_) (fun hc23 => ?_)
    · rw [if_pos hc23] at h
      refine a_iincK (k0 := 1) dX9_plan_265 (by decide) 4 rfl (by decide) rfl ?_
      refine a_goto (tgt := 225) dX9_plan_268 rfl ?_
      refine a_sub [1, 2, 3, 4, 0] rfl ?_
      exact ih _ _ _ _ _ h
    · rw [if_neg hc23] at h
      refine a_aload_n dX9_plan_238 rfl 0 rfl ?_
      refine a_getq dX9_plan_239 G_X9_132 zs_48 rfl (rf_48_50 hR) ?_
      refine a_sipush (v := 2401) dX9_plan_242 (by decide) ?_
      refine a_iload dX9_plan_245 3 rfl ?_
      refine a_iconst (v := 1) dX9_plan_247 (by decide) ?_
      refine a_iadd dX9_plan_248 ?_
      refine a_imul dX9_plan_249 ?_
      refine a_aload_n dX9_plan_250 rfl 0 rfl ?_
      refine a_iload dX9_plan_251 3 rfl ?_
      refine a_iload dX9_plan_253 2 rfl ?_
      refine a_iload dX9_plan_255 4 rfl ?_
      obtain ⟨q19, hq19, h⟩ := zbind h
      refine a_callV dX9_plan_257 (tX9_leads hR _ _ _ _ hq19) csX9_leads zw1328 (Nat.le_of_ble_eq_true rfl) zs_48 rfl rfl (Nat.le_of_ble_eq_true rfl) ⟨Nat.le_refl _, Nat.le_refl _⟩ (fun hb20 => ?_)
      refine a_iadd dX9_plan_260 ?_
      obtain ⟨hz21, h⟩ := zif h
      refine a_zald dX9_plan_261 zs_74 (zin_vp hz21) ?_
      refine a_if_ne (tgt := 271) dX9_plan_262 rfl (fun hc22 => ?_) (fun hc22 => ?_)
      · rw [if_neg hc22] at h
        exact hK _ _ _ _ _ h
      · rw [if_pos hc22] at h
        refine a_iincK (k0 := 1) dX9_plan_265 (by decide) 4 rfl (by decide) rfl ?_
        refine a_goto (tgt := 225) dX9_plan_268 rfl ?_
        refine a_sub [1, 2, 3, 4, 0] rfl ?_
        exact ih _ _ _ _ _ h
set_option maxRecDepth 100000 in
theorem tX9_plan_215 {X : Nat × (Nat → Int32)} {L : zPL} {F : zPF} {a b : Nat} {c : Option Nat} (hR : zRin F a b c) {r : Int32 × zPI} {K : Int32 → zPI → Option (Int32 × zPI)} (hK : ∀ (v5 : Int32) (I : zPI), K v5 I = some r → zAW zE0 X mX9_plan 4 298 [(0, zr 48), (5, zi v5)] [] (zS0, I, L, F) (some (zi r.1)) (zS0, r.2, L, F)) : ∀ (n : Nat) (v5 : Int32) (v6 : Int32) (v7 : Int32) (I : zPI), fX9_plan_215 K n v5 v6 v7 I = some r → zAW zE0 X mX9_plan 4 215 [(0, zr 48), (5, zi v5), (6, zi v6), (7, zi v7)] [] (zS0, I, L, F) (some (zi r.1)) (zS0, r.2, L, F) := by
  intro n
  induction n with
  | zero =>
    intro v5 v6 v7 I h
    rw [fX9_plan_215.eq_1] at h
    cases h
  | succ n ih =>
    intro v5 v6 v7 I h
    rw [fX9_plan_215.eq_2] at h
    refine a_iload dX9_plan_215 3 rfl ?_
    refine a_iload dX9_plan_217 1 rfl ?_
    refine a_icmp_ge (tgt := 298) dX9_plan_219 rfl (fun hc27 => ?_) (fun hc27 => ?_)
    · rw [if_pos hc27] at h
      refine a_sub [0, 1] rfl ?_
      exact hK _ _ h
    · rw [if_neg hc27] at h
      refine a_iconst (v := 0) dX9_plan_222 (by decide) ?_
      refine a_istore dX9_plan_223 (by decide) rfl ?_
      refine a_sub [1, 2, 3, 4, 0] rfl ?_
      refine tX9_plan_225 hR (fun v5 v6 v7 v8 I h => ?_) zF _ _ _ _ _ h
      (try dsimp only at h)
      refine a_aload_n dX9_plan_271 rfl 0 rfl ?_
      refine a_getq dX9_plan_272 G_X9_135 zs_48 rfl (rf_48_52 hR) ?_
      refine a_iload dX9_plan_275 3 rfl ?_
      refine a_iload dX9_plan_277 4 rfl ?_
      obtain ⟨hz24, h⟩ := zif h
      refine a_iast dX9_plan_279 zs_75 (zin_vp hz24) ?_
      refine a_aload_n dX9_plan_280 rfl 0 rfl ?_
      refine a_iload dX9_plan_281 3 rfl ?_
      refine a_iload dX9_plan_283 2 rfl ?_
      refine a_iload dX9_plan_285 4 rfl ?_
      obtain ⟨q25, hq25, h⟩ := zbind h
      refine a_callV dX9_plan_287 (tX9_leads hR _ _ _ _ hq25) csX9_leads zw1328 (Nat.le_of_ble_eq_true rfl) zs_48 rfl rfl (Nat.le_of_ble_eq_true rfl) ⟨Nat.le_refl _, Nat.le_refl _⟩ (fun hb26 => ?_)
      refine a_istore dX9_plan_290 (by decide) rfl ?_
      refine a_iincK (k0 := 1) dX9_plan_292 (by decide) 3 rfl (by decide) rfl ?_
      refine a_goto (tgt := 215) dX9_plan_295 rfl ?_
      refine a_sub [2, 3, 1, 0] rfl ?_
      exact ih _ _ _ _ h
set_option maxRecDepth 100000 in
theorem tX9_plan_125 {X : Nat × (Nat → Int32)} {I : zPI} {L : zPL} {F : zPF} {a b : Nat} {c : Option Nat} (hR : zRin F a b c) {r : Int32 × zPI} {v3 : Int32} {v4 : Int32} {v5 : Int32} (h : fX9_plan_125 v3 v4 v5 I = some r) : zAW zE0 X mX9_plan 4 125 [(0, zr 48), (3, zi v3), (4, zi v4), (5, zi v5)] [] (zS0, I, L, F) (some (zi r.1)) (zS0, r.2, L, F) := by
  unfold fX9_plan_125 at h
  refine a_aload_n dX9_plan_125 rfl 0 rfl ?_
  refine a_getq dX9_plan_126 G_X9_128 zs_48 rfl (rf_48_49 hR) ?_
  refine a_sipush (v := 2401) dX9_plan_129 (by decide) ?_
  refine a_iload dX9_plan_132 3 rfl ?_
  refine a_imul dX9_plan_134 ?_
  refine a_iload_n dX9_plan_135 rfl 1 rfl ?_
  refine a_iadd dX9_plan_136 ?_
  obtain ⟨hz9, h⟩ := zif h
  refine a_zald dX9_plan_137 zs_73 (zin_vp hz9) ?_
  refine a_if_ne (tgt := 143) dX9_plan_138 rfl (fun hc28 => ?_) (fun hc28 => ?_)
  · rw [if_neg hc28] at h
    refine a_iconst (v := 0) dX9_plan_143 (by decide) ?_
    refine a_istore dX9_plan_144 (by decide) rfl ?_
    refine a_sub [1, 2, 3, 4, 0] rfl ?_
    refine tX9_plan_146 hR (fun v4 v5 I h => ?_) zF _ _ _ _ _ h
    (try dsimp only at h)
    refine a_iload dX9_plan_185 2 rfl ?_
    refine a_iconst (v := 1) dX9_plan_187 (by decide) ?_
    refine a_isub dX9_plan_188 ?_
    refine a_istore dX9_plan_189 (by decide) rfl ?_
    refine a_sub [1, 2, 3, 0] rfl ?_
    refine tX9_plan_191 hR (fun v4 v5 I h => ?_) zF _ _ _ _ h
    (try dsimp only at h)
    refine a_iload dX9_plan_208 1 rfl ?_
    refine a_istore dX9_plan_210 (by decide) rfl ?_
    refine a_iconst (v := 0) dX9_plan_212 (by decide) ?_
    refine a_istore dX9_plan_213 (by decide) rfl ?_
    refine a_sub [2, 4, 1, 0] rfl ?_
    refine tX9_plan_215 hR (fun v5 I h => ?_) zF _ _ _ _ h
    (try dsimp only at h)
    refine a_aload_n dX9_plan_298 rfl 0 rfl ?_
    refine a_iload dX9_plan_299 1 rfl ?_
    refine a_puti dX9_plan_301 F_X9_362 zs_48 rfl ⟨rfl, rfl⟩ ?_
    refine a_iload dX9_plan_304 1 rfl ?_
    cases h
    exact a_iret dX9_plan_306 (by intro h; cases h) (znar_i rfl)
  · rw [if_pos hc28] at h
    refine a_iconst (v := (-1)) dX9_plan_141 (by decide) ?_
    cases h
    exact a_iret dX9_plan_142 (by intro h; cases h) (znar_i rfl)
set_option maxRecDepth 100000 in
theorem tX9_plan {X : Nat × (Nat → Int32)} {I : zPI} {L : zPL} {F : zPF} {a b : Nat} {c : Option Nat} (hR : zRin F a b c) (p1 : Int32) (p2 : Int32) (r : Int32 × zPI) (h : fX9_plan I p1 p2 = some r) : zAM X mX9_plan 4 [zr 48, zi p1, zi p2] (zS0, I, L, F) (some (zi r.1)) (zS0, r.2, L, F) := by
  refine zAM_of (by decide) (Nat.le_of_ble_eq_true rfl) ⟨fun h => (by cases h), fun h => (by cases h)⟩ (Nat.le_refl _) (Nat.le_refl _) ?_
  unfold fX9_plan at h
  show zAW zE0 X mX9_plan 4 0 [(0, zr 48), (1, zi p1), (2, zi p2)] [] (zS0, I, L, F) (some (zi r.1)) (zS0, r.2, L, F)
  refine a_aload_n dX9_plan_0 rfl 0 rfl ?_
  refine a_iconst (v := 0) dX9_plan_1 (by decide) ?_
  refine a_puti dX9_plan_2 F_X9_1 zs_48 rfl ⟨rfl, rfl⟩ ?_
  refine a_iload_n dX9_plan_5 rfl 1 rfl ?_
  refine a_bipush (v := (-24)) dX9_plan_6 (by decide) ?_
  refine a_icmp_lt (tgt := 29) dX9_plan_8 rfl (fun hc32 => ?_) (fun hc32 => ?_)
  · rw [if_pos hc32] at h
    refine a_iconst (v := (-1)) dX9_plan_29 (by decide) ?_
    cases h
    exact a_iret dX9_plan_30 (by intro h; cases h) (znar_i rfl)
  · rw [if_neg hc32] at h
    refine a_iload_n dX9_plan_11 rfl 1 rfl ?_
    refine a_bipush (v := 24) dX9_plan_12 (by decide) ?_
    refine a_icmp_gt (tgt := 29) dX9_plan_14 rfl (fun hc31 => ?_) (fun hc31 => ?_)
    · rw [if_pos hc31] at h
      refine a_iconst (v := (-1)) dX9_plan_29 (by decide) ?_
      cases h
      exact a_iret dX9_plan_30 (by intro h; cases h) (znar_i rfl)
    · rw [if_neg hc31] at h
      refine a_iload_n dX9_plan_17 rfl 2 rfl ?_
      refine a_bipush (v := (-24)) dX9_plan_18 (by decide) ?_
      refine a_icmp_lt (tgt := 29) dX9_plan_20 rfl (fun hc30 => ?_) (fun hc30 => ?_)
      · rw [if_pos hc30] at h
        refine a_iconst (v := (-1)) dX9_plan_29 (by decide) ?_
        cases h
        exact a_iret dX9_plan_30 (by intro h; cases h) (znar_i rfl)
      · rw [if_neg hc30] at h
        refine a_iload_n dX9_plan_23 rfl 2 rfl ?_
        refine a_bipush (v := 24) dX9_plan_24 (by decide) ?_
        refine a_icmp_le (tgt := 31) dX9_plan_26 rfl (fun hc29 => ?_) (fun hc29 => ?_)
        · rw [if_pos hc29] at h
          refine a_bipush (v := 49) dX9_plan_31 (by decide) ?_
          refine a_iload_n dX9_plan_33 rfl 2 rfl ?_
          refine a_bipush (v := 24) dX9_plan_34 (by decide) ?_
          refine a_iadd dX9_plan_36 ?_
          refine a_imul dX9_plan_37 ?_
          refine a_iload_n dX9_plan_38 rfl 1 rfl ?_
          refine a_iadd dX9_plan_39 ?_
          refine a_bipush (v := 24) dX9_plan_40 (by decide) ?_
          refine a_iadd dX9_plan_42 ?_
          refine a_istore_n dX9_plan_43 rfl (by decide) rfl ?_
          refine a_iconst (v := 0) dX9_plan_44 (by decide) ?_
          refine a_istore dX9_plan_45 (by decide) rfl ?_
          refine a_sub [2, 1, 0] rfl ?_
          refine tX9_plan_47 hR (fun v3 I h => ?_) zF _ _ _ h
          (try dsimp only at h)
          refine a_sipush (v := 1200) dX9_plan_69 (by decide) ?_
          refine a_istore dX9_plan_72 (by decide) rfl ?_
          refine a_aload_n dX9_plan_74 rfl 1 rfl ?_
          refine a_getq dX9_plan_75 G_X9_128 zs_48 rfl (rf_48_49 hR) ?_
          refine a_iload dX9_plan_78 0 rfl ?_
          refine a_iconst (v := 1) dX9_plan_80 (by decide) ?_
          refine a_zast dX9_plan_81 zs_73 (zin_vp (by decide)) ?_
          refine a_aload_n dX9_plan_82 rfl 1 rfl ?_
          refine a_iconst (v := 0) dX9_plan_83 (by decide) ?_
          refine a_puti dX9_plan_84 F_X9_362 zs_48 rfl ⟨rfl, rfl⟩ ?_
          refine a_iconst (v := 0) dX9_plan_87 (by decide) ?_
          refine a_istore dX9_plan_88 (by decide) rfl ?_
          refine a_sub [2, 3, 1, 0] rfl ?_
          refine tX9_plan_90 hR (fun v3 v4 v5 I h => ?_) zF _ _ _ _ h
          (try dsimp only at h)
          exact tX9_plan_125 hR h
        · rw [if_neg hc29] at h
          refine a_iconst (v := (-1)) dX9_plan_29 (by decide) ?_
          cases h
          exact a_iret dX9_plan_30 (by intro h; cases h) (znar_i rfl)
def fX9_rope (I : zPI) (p1 : Int32) (p2 : Int32) : Option (Int32 × zPI) := (if p1 < 0 then some ((-1), zu I 48 0 0) else (if 17 < p1 then some ((-1), zu I 48 0 0) else (if p2 < 0 then some ((-1), zu I 48 0 0) else (if p2 ≤ 2 then (if p2 = 0 then (if zin p1 18 then some ((zu I 48 0 0) 59 p1.toNatClampNeg, zu I 48 0 0) else none) else (if p2 = 1 then (if zin p1 18 then some ((zu I 48 0 0) 60 p1.toNatClampNeg, zu I 48 0 0) else none) else (fX9_isUnder (zu I 48 0 0) 3 p1).bind (fun q1 => (if q1 = 0 then some (0, zu I 48 0 0) else some (1, zu I 48 0 0))))) else some ((-1), zu I 48 0 0)))))
set_option maxRecDepth 100000 in
theorem tX9_rope {X : Nat × (Nat → Int32)} {I : zPI} {L : zPL} {F : zPF} {a b : Nat} {c : Option Nat} (hR : zRin F a b c) (p1 : Int32) (p2 : Int32) (r : Int32 × zPI) (h : fX9_rope I p1 p2 = some r) : zAM X mX9_rope 1 [zr 48, zi p1, zi p2] (zS0, I, L, F) (some (zi r.1)) (zS0, r.2, L, F) := by
  refine zAM_of (by decide) (Nat.le_of_ble_eq_true rfl) ⟨fun h => (by cases h), fun h => (by cases h)⟩ (Nat.le_refl _) (Nat.le_refl _) ?_
  unfold fX9_rope at h
  show zAW zE0 X mX9_rope 1 0 [(0, zr 48), (1, zi p1), (2, zi p2)] [] (zS0, I, L, F) (some (zi r.1)) (zS0, r.2, L, F)
  refine a_aload_n dX9_rope_0 rfl 0 rfl ?_
  refine a_iconst (v := 0) dX9_rope_1 (by decide) ?_
  refine a_puti dX9_rope_2 F_X9_1 zs_48 rfl ⟨rfl, rfl⟩ ?_
  refine a_iload_n dX9_rope_5 rfl 1 rfl ?_
  refine a_if_lt (tgt := 24) dX9_rope_6 rfl (fun hc11 => ?_) (fun hc11 => ?_)
  · rw [if_pos hc11] at h
    refine a_iconst (v := (-1)) dX9_rope_24 (by decide) ?_
    cases h
    exact a_iret dX9_rope_25 (by intro h; cases h) (znar_i rfl)
  · rw [if_neg hc11] at h
    refine a_iload_n dX9_rope_9 rfl 1 rfl ?_
    refine a_bipush (v := 17) dX9_rope_10 (by decide) ?_
    refine a_icmp_gt (tgt := 24) dX9_rope_12 rfl (fun hc10 => ?_) (fun hc10 => ?_)
    · rw [if_pos hc10] at h
      refine a_iconst (v := (-1)) dX9_rope_24 (by decide) ?_
      cases h
      exact a_iret dX9_rope_25 (by intro h; cases h) (znar_i rfl)
    · rw [if_neg hc10] at h
      refine a_iload_n dX9_rope_15 rfl 2 rfl ?_
      refine a_if_lt (tgt := 24) dX9_rope_16 rfl (fun hc9 => ?_) (fun hc9 => ?_)
      · rw [if_pos hc9] at h
        refine a_iconst (v := (-1)) dX9_rope_24 (by decide) ?_
        cases h
        exact a_iret dX9_rope_25 (by intro h; cases h) (znar_i rfl)
      · rw [if_neg hc9] at h
        refine a_iload_n dX9_rope_19 rfl 2 rfl ?_
        refine a_iconst (v := 2) dX9_rope_20 (by decide) ?_
        refine a_icmp_le (tgt := 26) dX9_rope_21 rfl (fun hc8 => ?_) (fun hc8 => ?_)
        · rw [if_pos hc8] at h
          refine a_iload_n dX9_rope_26 rfl 2 rfl ?_
          refine a_if_ne (tgt := 39) dX9_rope_27 rfl (fun hc7 => ?_) (fun hc7 => ?_)
          · rw [if_neg hc7] at h
            refine a_iload_n dX9_rope_39 rfl 2 rfl ?_
            refine a_iconst (v := 1) dX9_rope_40 (by decide) ?_
            refine a_icmp_ne (tgt := 53) dX9_rope_41 rfl (fun hc5 => ?_) (fun hc5 => ?_)
            · rw [if_neg hc5] at h
              refine a_aload_n dX9_rope_53 rfl 0 rfl ?_
              refine a_iconst (v := 3) dX9_rope_54 (by decide) ?_
              refine a_iload_n dX9_rope_55 rfl 1 rfl ?_
              obtain ⟨q1, hq1, h⟩ := zbind h
              refine a_callV dX9_rope_56 (tX9_isUnder hR _ _ _ hq1) csX9_isUnder zw1254 (Nat.le_of_ble_eq_true rfl) zs_48 rfl rfl (Nat.le_of_ble_eq_true rfl) ⟨Nat.le_refl _, Nat.le_refl _⟩ (fun hb2 => ?_)
              refine a_if_eq (tgt := 66) dX9_rope_59 rfl (fun hc3 => ?_) (fun hc3 => ?_)
              · rw [if_pos hc3] at h
                refine a_iconst (v := 0) dX9_rope_66 (by decide) ?_
                cases h
                exact a_iret dX9_rope_67 (by intro h; cases h) (znar_i rfl)
              · rw [if_neg hc3] at h
                refine a_iconst (v := 1) dX9_rope_62 (by decide) ?_
                refine a_goto (tgt := 67) dX9_rope_63 rfl ?_
                cases h
                exact a_iret dX9_rope_67 (by intro h; cases h) (znar_i rfl)
            · rw [if_pos hc5] at h
              refine a_aload_n dX9_rope_44 rfl 0 rfl ?_
              refine a_getq dX9_rope_45 G_X9_89 zs_48 rfl (rf_48_21 hR) ?_
              refine a_iload_n dX9_rope_48 rfl 1 rfl ?_
              obtain ⟨hz4, h⟩ := zif h
              refine a_iald dX9_rope_49 zs_60 (zin_vp hz4) ?_
              refine a_goto (tgt := 67) dX9_rope_50 rfl ?_
              cases h
              exact a_iret dX9_rope_67 (by intro h; cases h) (znar_i rfl)
          · rw [if_pos hc7] at h
            refine a_aload_n dX9_rope_30 rfl 0 rfl ?_
            refine a_getq dX9_rope_31 G_X9_86 zs_48 rfl (rf_48_20 hR) ?_
            refine a_iload_n dX9_rope_34 rfl 1 rfl ?_
            obtain ⟨hz6, h⟩ := zif h
            refine a_iald dX9_rope_35 zs_59 (zin_vp hz6) ?_
            refine a_goto (tgt := 67) dX9_rope_36 rfl ?_
            cases h
            exact a_iret dX9_rope_67 (by intro h; cases h) (znar_i rfl)
        · rw [if_neg hc8] at h
          refine a_iconst (v := (-1)) dX9_rope_24 (by decide) ?_
          cases h
          exact a_iret dX9_rope_25 (by intro h; cases h) (znar_i rfl)
def fX9_sail (I : zPI) (p1 : Int32) (p2 : Int32) : Option (Int32 × zPI) := (if p1 < 0 then some ((-1), zu I 48 0 0) else (if 8 < p1 then some ((-1), zu I 48 0 0) else (if p2 < 0 then some ((-1), zu I 48 0 0) else (if p2 ≤ 1 then (if p2 = 0 then (if zin p1 9 then some ((zu I 48 0 0) 58 p1.toNatClampNeg, zu I 48 0 0) else none) else (fX9_isUnder (zu I 48 0 0) 0 p1).bind (fun q1 => (if q1 = 0 then (fX9_isUnder (zu I 48 0 0) 1 p1).bind (fun q3 => (if q3 = 0 then some (0, zu I 48 0 0) else some (1, zu I 48 0 0))) else some (1, zu I 48 0 0)))) else some ((-1), zu I 48 0 0)))))
set_option maxRecDepth 100000 in
theorem tX9_sail {X : Nat × (Nat → Int32)} {I : zPI} {L : zPL} {F : zPF} {a b : Nat} {c : Option Nat} (hR : zRin F a b c) (p1 : Int32) (p2 : Int32) (r : Int32 × zPI) (h : fX9_sail I p1 p2 = some r) : zAM X mX9_sail 1 [zr 48, zi p1, zi p2] (zS0, I, L, F) (some (zi r.1)) (zS0, r.2, L, F) := by
  refine zAM_of (by decide) (Nat.le_of_ble_eq_true rfl) ⟨fun h => (by cases h), fun h => (by cases h)⟩ (Nat.le_refl _) (Nat.le_refl _) ?_
  unfold fX9_sail at h
  show zAW zE0 X mX9_sail 1 0 [(0, zr 48), (1, zi p1), (2, zi p2)] [] (zS0, I, L, F) (some (zi r.1)) (zS0, r.2, L, F)
  refine a_aload_n dX9_sail_0 rfl 0 rfl ?_
  refine a_iconst (v := 0) dX9_sail_1 (by decide) ?_
  refine a_puti dX9_sail_2 F_X9_1 zs_48 rfl ⟨rfl, rfl⟩ ?_
  refine a_iload_n dX9_sail_5 rfl 1 rfl ?_
  refine a_if_lt (tgt := 24) dX9_sail_6 rfl (fun hc12 => ?_) (fun hc12 => ?_)
  · rw [if_pos hc12] at h
    refine a_iconst (v := (-1)) dX9_sail_24 (by decide) ?_
    cases h
    exact a_iret dX9_sail_25 (by intro h; cases h) (znar_i rfl)
  · rw [if_neg hc12] at h
    refine a_iload_n dX9_sail_9 rfl 1 rfl ?_
    refine a_bipush (v := 8) dX9_sail_10 (by decide) ?_
    refine a_icmp_gt (tgt := 24) dX9_sail_12 rfl (fun hc11 => ?_) (fun hc11 => ?_)
    · rw [if_pos hc11] at h
      refine a_iconst (v := (-1)) dX9_sail_24 (by decide) ?_
      cases h
      exact a_iret dX9_sail_25 (by intro h; cases h) (znar_i rfl)
    · rw [if_neg hc11] at h
      refine a_iload_n dX9_sail_15 rfl 2 rfl ?_
      refine a_if_lt (tgt := 24) dX9_sail_16 rfl (fun hc10 => ?_) (fun hc10 => ?_)
      · rw [if_pos hc10] at h
        refine a_iconst (v := (-1)) dX9_sail_24 (by decide) ?_
        cases h
        exact a_iret dX9_sail_25 (by intro h; cases h) (znar_i rfl)
      · rw [if_neg hc10] at h
        refine a_iload_n dX9_sail_19 rfl 2 rfl ?_
        refine a_iconst (v := 1) dX9_sail_20 (by decide) ?_
        refine a_icmp_le (tgt := 26) dX9_sail_21 rfl (fun hc9 => ?_) (fun hc9 => ?_)
        · rw [if_pos hc9] at h
          refine a_iload_n dX9_sail_26 rfl 2 rfl ?_
          refine a_if_ne (tgt := 39) dX9_sail_27 rfl (fun hc8 => ?_) (fun hc8 => ?_)
          · rw [if_neg hc8] at h
            refine a_aload_n dX9_sail_39 rfl 0 rfl ?_
            refine a_iconst (v := 0) dX9_sail_40 (by decide) ?_
            refine a_iload_n dX9_sail_41 rfl 1 rfl ?_
            obtain ⟨q1, hq1, h⟩ := zbind h
            refine a_callV dX9_sail_42 (tX9_isUnder hR _ _ _ hq1) csX9_isUnder zw1254 (Nat.le_of_ble_eq_true rfl) zs_48 rfl rfl (Nat.le_of_ble_eq_true rfl) ⟨Nat.le_refl _, Nat.le_refl _⟩ (fun hb2 => ?_)
            refine a_if_ne (tgt := 57) dX9_sail_45 rfl (fun hc6 => ?_) (fun hc6 => ?_)
            · rw [if_neg hc6] at h
              refine a_iconst (v := 1) dX9_sail_57 (by decide) ?_
              refine a_goto (tgt := 62) dX9_sail_58 rfl ?_
              cases h
              exact a_iret dX9_sail_62 (by intro h; cases h) (znar_i rfl)
            · rw [if_pos hc6] at h
              refine a_aload_n dX9_sail_48 rfl 0 rfl ?_
              refine a_iconst (v := 1) dX9_sail_49 (by decide) ?_
              refine a_iload_n dX9_sail_50 rfl 1 rfl ?_
              obtain ⟨q3, hq3, h⟩ := zbind h
              refine a_callV dX9_sail_51 (tX9_isUnder hR _ _ _ hq3) csX9_isUnder zw1254 (Nat.le_of_ble_eq_true rfl) zs_48 rfl rfl (Nat.le_of_ble_eq_true rfl) ⟨Nat.le_refl _, Nat.le_refl _⟩ (fun hb4 => ?_)
              refine a_if_eq (tgt := 61) dX9_sail_54 rfl (fun hc5 => ?_) (fun hc5 => ?_)
              · rw [if_pos hc5] at h
                refine a_iconst (v := 0) dX9_sail_61 (by decide) ?_
                cases h
                exact a_iret dX9_sail_62 (by intro h; cases h) (znar_i rfl)
              · rw [if_neg hc5] at h
                refine a_iconst (v := 1) dX9_sail_57 (by decide) ?_
                refine a_goto (tgt := 62) dX9_sail_58 rfl ?_
                cases h
                exact a_iret dX9_sail_62 (by intro h; cases h) (znar_i rfl)
          · rw [if_pos hc8] at h
            refine a_aload_n dX9_sail_30 rfl 0 rfl ?_
            refine a_getq dX9_sail_31 G_X9_83 zs_48 rfl (rf_48_19 hR) ?_
            refine a_iload_n dX9_sail_34 rfl 1 rfl ?_
            obtain ⟨hz7, h⟩ := zif h
            refine a_iald dX9_sail_35 zs_58 (zin_vp hz7) ?_
            refine a_goto (tgt := 62) dX9_sail_36 rfl ?_
            cases h
            exact a_iret dX9_sail_62 (by intro h; cases h) (znar_i rfl)
        · rw [if_neg hc9] at h
          refine a_iconst (v := (-1)) dX9_sail_24 (by decide) ?_
          cases h
          exact a_iret dX9_sail_25 (by intro h; cases h) (znar_i rfl)
def fX9_takeNumber_70 (L : zPL) (I : zPI) : Option (Int32 × zPI) := (if ((zu I 48 7 ((I 48 7) + 1)) 48 8) ≤ 0 then (if zin (((zu I 48 7 ((I 48 7) + 1)) 48 7) - 1) 1002 then some ((L 52 (((zu I 48 7 ((I 48 7) + 1)) 48 7) - 1).toNatClampNeg).toInt32, zu I 48 7 ((I 48 7) + 1)) else none) else some (0, zu I 48 7 ((I 48 7) + 1)))
def fX9_takeNumber_65 (L : zPL) (I : zPI) : Option (Int32 × zPI) := (fX9_wrong I 4).bind (fun q4 => fX9_takeNumber_70 L q4)
def fX9_takeNumber_28 (L : zPL) (v1 : Int32) (v2 : Int32) (I : zPI) : Option (Int32 × zPI) := (if (I 48 8) = 0 then (if zin (I 48 7) 1002 then (if (lg_cmp (L 52 (I 48 7).toNatClampNeg) v1.toInt64) < 0 then fX9_takeNumber_65 L I else (if zin (I 48 7) 1002 then (if (lg_cmp (L 52 (I 48 7).toNatClampNeg) v2.toInt64) ≤ 0 then fX9_takeNumber_70 L I else fX9_takeNumber_65 L I) else none)) else none) else fX9_takeNumber_70 L I)
def fX9_takeNumber (I : zPI) (L : zPL) (p1 : Int32) (p2 : Int32) : Option (Int32 × zPI) := (if (I 48 8) = 0 then (if zin (I 48 7) 1002 then (if (I 50 (I 48 7).toNatClampNeg) = 2 then fX9_takeNumber_28 L p1 p2 I else (fX9_wrong I 1).bind (fun q11 => fX9_takeNumber_70 L q11)) else none) else fX9_takeNumber_28 L p1 p2 I)
set_option maxRecDepth 100000 in
theorem tX9_takeNumber_70 {X : Nat × (Nat → Int32)} {I : zPI} {L : zPL} {F : zPF} {a b : Nat} {c : Option Nat} (hR : zRin F a b c) {r : Int32 × zPI} (h : fX9_takeNumber_70 L I = some r) : zAW zE0 X mX9_takeNumber 1 70 [(0, zr 48)] [] (zS0, I, L, F) (some (zi r.1)) (zS0, r.2, L, F) := by
  unfold fX9_takeNumber_70 at h
  refine a_aload_n dX9_takeNumber_70 rfl 0 rfl ?_
  refine a_dup dX9_takeNumber_71 rfl ?_
  refine a_geti dX9_takeNumber_72 G_X9_164 zs_48 rfl ?_
  refine a_iconst (v := 1) dX9_takeNumber_75 (by decide) ?_
  refine a_iadd dX9_takeNumber_76 ?_
  refine a_puti dX9_takeNumber_77 F_X9_164 zs_48 rfl ⟨rfl, rfl⟩ ?_
  refine a_aload_n dX9_takeNumber_80 rfl 0 rfl ?_
  refine a_geti dX9_takeNumber_81 G_X9_167 zs_48 rfl ?_
  refine a_if_le (tgt := 91) dX9_takeNumber_84 rfl (fun hc2 => ?_) (fun hc2 => ?_)
  · rw [if_pos hc2] at h
    refine a_aload_n dX9_takeNumber_91 rfl 0 rfl ?_
    refine a_getq dX9_takeNumber_92 G_X9_30 zs_48 rfl (rf_48_6 hR) ?_
    refine a_aload_n dX9_takeNumber_95 rfl 0 rfl ?_
    refine a_geti dX9_takeNumber_96 G_X9_164 zs_48 rfl ?_
    refine a_iconst (v := 1) dX9_takeNumber_99 (by decide) ?_
    refine a_isub dX9_takeNumber_100 ?_
    obtain ⟨hz1, h⟩ := zif h
    refine a_lald dX9_takeNumber_101 zs_52 (zin_vp hz1) ?_
    refine a_l2i dX9_takeNumber_102 ?_
    cases h
    exact a_iret dX9_takeNumber_103 (by intro h; cases h) (znar_i rfl)
  · rw [if_neg hc2] at h
    refine a_iconst (v := 0) dX9_takeNumber_87 (by decide) ?_
    refine a_goto (tgt := 103) dX9_takeNumber_88 rfl ?_
    cases h
    exact a_iret dX9_takeNumber_103 (by intro h; cases h) (znar_i rfl)
set_option maxRecDepth 100000 in
theorem tX9_takeNumber_65 {X : Nat × (Nat → Int32)} {I : zPI} {L : zPL} {F : zPF} {a b : Nat} {c : Option Nat} (hR : zRin F a b c) {r : Int32 × zPI} (h : fX9_takeNumber_65 L I = some r) : zAW zE0 X mX9_takeNumber 1 65 [(0, zr 48)] [] (zS0, I, L, F) (some (zi r.1)) (zS0, r.2, L, F) := by
  unfold fX9_takeNumber_65 at h
  refine a_aload_n dX9_takeNumber_65 rfl 0 rfl ?_
  refine a_iconst (v := 4) dX9_takeNumber_66 (by decide) ?_
  obtain ⟨q4, hq4, h⟩ := zbind h
  refine a_callV dX9_takeNumber_67 (tX9_wrong hR _ _ hq4) csX9_wrong zw1142 (Nat.le_of_ble_eq_true rfl) zs_48 rfl rfl (Nat.le_of_ble_eq_true rfl) ⟨Nat.le_refl _, Nat.le_refl _⟩ (fun hb5 => ?_)
  exact tX9_takeNumber_70 hR h
set_option maxRecDepth 100000 in
theorem tX9_takeNumber_28 {X : Nat × (Nat → Int32)} {I : zPI} {L : zPL} {F : zPF} {a b : Nat} {c : Option Nat} (hR : zRin F a b c) {r : Int32 × zPI} {v1 : Int32} {v2 : Int32} (h : fX9_takeNumber_28 L v1 v2 I = some r) : zAW zE0 X mX9_takeNumber 1 28 [(0, zr 48), (1, zi v1), (2, zi v2)] [] (zS0, I, L, F) (some (zi r.1)) (zS0, r.2, L, F) := by
  unfold fX9_takeNumber_28 at h
  refine a_aload_n dX9_takeNumber_28 rfl 0 rfl ?_
  refine a_geti dX9_takeNumber_29 G_X9_167 zs_48 rfl ?_
  refine a_if_ne (tgt := 70) dX9_takeNumber_32 rfl (fun hc9 => ?_) (fun hc9 => ?_)
  · rw [if_neg hc9] at h
    refine a_sub [0] rfl ?_
    exact tX9_takeNumber_70 hR h
  · rw [if_pos hc9] at h
    refine a_aload_n dX9_takeNumber_35 rfl 0 rfl ?_
    refine a_getq dX9_takeNumber_36 G_X9_30 zs_48 rfl (rf_48_6 hR) ?_
    refine a_aload_n dX9_takeNumber_39 rfl 0 rfl ?_
    refine a_geti dX9_takeNumber_40 G_X9_164 zs_48 rfl ?_
    obtain ⟨hz3, h⟩ := zif h
    refine a_lald dX9_takeNumber_43 zs_52 (zin_vp hz3) ?_
    refine a_iload_n dX9_takeNumber_44 rfl 1 rfl ?_
    refine a_i2l dX9_takeNumber_45 ?_
    refine a_lcmp dX9_takeNumber_46 ?_
    refine a_if_lt (tgt := 65) dX9_takeNumber_47 rfl (fun hc8 => ?_) (fun hc8 => ?_)
    · rw [if_pos hc8] at h
      refine a_sub [0] rfl ?_
      exact tX9_takeNumber_65 hR h
    · rw [if_neg hc8] at h
      refine a_aload_n dX9_takeNumber_50 rfl 0 rfl ?_
      refine a_getq dX9_takeNumber_51 G_X9_30 zs_48 rfl (rf_48_6 hR) ?_
      refine a_aload_n dX9_takeNumber_54 rfl 0 rfl ?_
      refine a_geti dX9_takeNumber_55 G_X9_164 zs_48 rfl ?_
      obtain ⟨hz6, h⟩ := zif h
      refine a_lald dX9_takeNumber_58 zs_52 (zin_vp hz6) ?_
      refine a_iload_n dX9_takeNumber_59 rfl 2 rfl ?_
      refine a_i2l dX9_takeNumber_60 ?_
      refine a_lcmp dX9_takeNumber_61 ?_
      refine a_if_le (tgt := 70) dX9_takeNumber_62 rfl (fun hc7 => ?_) (fun hc7 => ?_)
      · rw [if_pos hc7] at h
        refine a_sub [0] rfl ?_
        exact tX9_takeNumber_70 hR h
      · rw [if_neg hc7] at h
        refine a_sub [0] rfl ?_
        exact tX9_takeNumber_65 hR h
set_option maxRecDepth 100000 in
theorem tX9_takeNumber {X : Nat × (Nat → Int32)} {I : zPI} {L : zPL} {F : zPF} {a b : Nat} {c : Option Nat} (hR : zRin F a b c) (p1 : Int32) (p2 : Int32) (r : Int32 × zPI) (h : fX9_takeNumber I L p1 p2 = some r) : zAM X mX9_takeNumber 1 [zr 48, zi p1, zi p2] (zS0, I, L, F) (some (zi r.1)) (zS0, r.2, L, F) := by
  refine zAM_of (by decide) (Nat.le_of_ble_eq_true rfl) ⟨fun h => (by cases h), fun h => (by cases h)⟩ (Nat.le_refl _) (Nat.le_refl _) ?_
  unfold fX9_takeNumber at h
  show zAW zE0 X mX9_takeNumber 1 0 [(0, zr 48), (1, zi p1), (2, zi p2)] [] (zS0, I, L, F) (some (zi r.1)) (zS0, r.2, L, F)
  refine a_aload_n dX9_takeNumber_0 rfl 0 rfl ?_
  refine a_geti dX9_takeNumber_1 G_X9_167 zs_48 rfl ?_
  refine a_if_ne (tgt := 28) dX9_takeNumber_4 rfl (fun hc14 => ?_) (fun hc14 => ?_)
  · rw [if_neg hc14] at h
    exact tX9_takeNumber_28 hR h
  · rw [if_pos hc14] at h
    refine a_aload_n dX9_takeNumber_7 rfl 0 rfl ?_
    refine a_getq dX9_takeNumber_8 G_X9_24 zs_48 rfl (rf_48_4 hR) ?_
    refine a_aload_n dX9_takeNumber_11 rfl 0 rfl ?_
    refine a_geti dX9_takeNumber_12 G_X9_164 zs_48 rfl ?_
    obtain ⟨hz10, h⟩ := zif h
    refine a_iald dX9_takeNumber_15 zs_50 (zin_vp hz10) ?_
    refine a_iconst (v := 2) dX9_takeNumber_16 (by decide) ?_
    refine a_icmp_eq (tgt := 28) dX9_takeNumber_17 rfl (fun hc13 => ?_) (fun hc13 => ?_)
    · rw [if_pos hc13] at h
      exact tX9_takeNumber_28 hR h
    · rw [if_neg hc13] at h
      refine a_aload_n dX9_takeNumber_20 rfl 0 rfl ?_
      refine a_iconst (v := 1) dX9_takeNumber_21 (by decide) ?_
      obtain ⟨q11, hq11, h⟩ := zbind h
      refine a_callV dX9_takeNumber_22 (tX9_wrong hR _ _ hq11) csX9_wrong zw1142 (Nat.le_of_ble_eq_true rfl) zs_48 rfl rfl (Nat.le_of_ble_eq_true rfl) ⟨Nat.le_refl _, Nat.le_refl _⟩ (fun hb12 => ?_)
      refine a_goto (tgt := 70) dX9_takeNumber_25 rfl ?_
      refine a_sub [0] rfl ?_
      exact tX9_takeNumber_70 hR h
def fX9_takeSign (I : zPI) (L : zPL) (p1 : Int32) : Option (zPI) := (fX9_isSign I L p1).bind (fun q1 => (if q1 = 0 then (fX9_wrong I 1).bind (fun q3 => some (q3)) else some (zu I 48 7 ((I 48 7) + 1))))
set_option maxRecDepth 100000 in
theorem tX9_takeSign {X : Nat × (Nat → Int32)} {I : zPI} {L : zPL} {F : zPF} {a b : Nat} {c : Option Nat} (hR : zRin F a b c) (p1 : Int32) (r : zPI) (h : fX9_takeSign I L p1 = some r) : zAM X mX9_takeSign 1 [zr 48, zi p1] (zS0, I, L, F) none (zS0, r, L, F) := by
  refine zAM_of (by decide) (Nat.le_of_ble_eq_true rfl) ⟨fun _ => rfl, fun _ => rfl⟩ (Nat.le_refl _) (Nat.le_refl _) ?_
  unfold fX9_takeSign at h
  show zAW zE0 X mX9_takeSign 1 0 [(0, zr 48), (1, zi p1)] [] (zS0, I, L, F) none (zS0, r, L, F)
  refine a_aload_n dX9_takeSign_0 rfl 0 rfl ?_
  refine a_iload_n dX9_takeSign_1 rfl 1 rfl ?_
  obtain ⟨q1, hq1, h⟩ := zbind h
  refine a_callV dX9_takeSign_2 (tX9_isSign hR _ _ hq1) csX9_isSign zw1170 (Nat.le_of_ble_eq_true rfl) zs_48 rfl rfl (Nat.le_of_ble_eq_true rfl) ⟨Nat.le_refl _, Nat.le_refl _⟩ (fun hb2 => ?_)
  refine a_if_eq (tgt := 21) dX9_takeSign_5 rfl (fun hc5 => ?_) (fun hc5 => ?_)
  · rw [if_pos hc5] at h
    refine a_aload_n dX9_takeSign_21 rfl 0 rfl ?_
    refine a_iconst (v := 1) dX9_takeSign_22 (by decide) ?_
    obtain ⟨q3, hq3, h⟩ := zbind h
    refine a_callV dX9_takeSign_23 (tX9_wrong hR _ _ hq3) csX9_wrong zw1142 (Nat.le_of_ble_eq_true rfl) zs_48 rfl rfl (Nat.le_of_ble_eq_true rfl) ⟨Nat.le_refl _, Nat.le_refl _⟩ (fun hb4 => ?_)
    cases h
    exact a_vret dX9_takeSign_26 rfl
  · rw [if_neg hc5] at h
    refine a_aload_n dX9_takeSign_8 rfl 0 rfl ?_
    refine a_dup dX9_takeSign_9 rfl ?_
    refine a_geti dX9_takeSign_10 G_X9_164 zs_48 rfl ?_
    refine a_iconst (v := 1) dX9_takeSign_13 (by decide) ?_
    refine a_iadd dX9_takeSign_14 ?_
    refine a_puti dX9_takeSign_15 F_X9_164 zs_48 rfl ⟨rfl, rfl⟩ ?_
    refine a_goto (tgt := 26) dX9_takeSign_18 rfl ?_
    cases h
    exact a_vret dX9_takeSign_26 rfl
def fX9_thrown (I : zPI) : Int32 := (I 48 0)
set_option maxRecDepth 100000 in
theorem tX9_thrown {X : Nat × (Nat → Int32)} {I : zPI} {L : zPL} {F : zPF} {a b : Nat} {c : Option Nat} (hR : zRin F a b c) (r : Int32) (h : fX9_thrown I = r) : zAM X mX9_thrown 0 [zr 48] (zS0, I, L, F) (some (zi r)) (zS0, I, L, F) := by
  refine zAM_of (by decide) (Nat.le_of_ble_eq_true rfl) ⟨fun h => (by cases h), fun h => (by cases h)⟩ (Nat.le_refl _) (Nat.le_refl _) ?_
  unfold fX9_thrown at h
  show zAW zE0 X mX9_thrown 0 0 [(0, zr 48)] [] (zS0, I, L, F) (some (zi r)) (zS0, I, L, F)
  refine a_aload_n dX9_thrown_0 rfl 0 rfl ?_
  refine a_geti dX9_thrown_1 G_X9_1 zs_48 rfl ?_
  subst h
  exact a_iret dX9_thrown_4 (by intro h; cases h) (znar_i rfl)
def fX9_wind (I : zPI) (p1 : Int32) (p2 : Int32) (p3 : Int32) : Option (Int32 × zPI) := (if p1 < 0 then some (0, zu I 48 0 0) else (if 100000 < p1 then some (0, zu I 48 0 0) else (if p2 < 0 then some (0, zu I 48 0 0) else (if 31 < p2 then some (0, zu I 48 0 0) else (if p3 < 0 then some (0, zu I 48 0 0) else (if 12 < p3 then some (0, zu I 48 0 0) else (if ((zu I 48 0 0) 48 39) = 60 then some (0, zu I 48 0 0) else (if zin ((zu I 48 0 0) 48 39) 60 then (if zin ((zu (zu I 48 0 0) 67 ((zu I 48 0 0) 48 39).toNatClampNeg p1) 48 39) 60 then (if zin ((zu (zu (zu I 48 0 0) 67 ((zu I 48 0 0) 48 39).toNatClampNeg p1) 68 ((zu (zu I 48 0 0) 67 ((zu I 48 0 0) 48 39).toNatClampNeg p1) 48 39).toNatClampNeg p2) 48 39) 60 then some (1, zu (zu (zu (zu (zu I 48 0 0) 67 ((zu I 48 0 0) 48 39).toNatClampNeg p1) 68 ((zu (zu I 48 0 0) 67 ((zu I 48 0 0) 48 39).toNatClampNeg p1) 48 39).toNatClampNeg p2) 69 ((zu (zu (zu I 48 0 0) 67 ((zu I 48 0 0) 48 39).toNatClampNeg p1) 68 ((zu (zu I 48 0 0) 67 ((zu I 48 0 0) 48 39).toNatClampNeg p1) 48 39).toNatClampNeg p2) 48 39).toNatClampNeg p3) 48 39 (((zu (zu (zu (zu I 48 0 0) 67 ((zu I 48 0 0) 48 39).toNatClampNeg p1) 68 ((zu (zu I 48 0 0) 67 ((zu I 48 0 0) 48 39).toNatClampNeg p1) 48 39).toNatClampNeg p2) 69 ((zu (zu (zu I 48 0 0) 67 ((zu I 48 0 0) 48 39).toNatClampNeg p1) 68 ((zu (zu I 48 0 0) 67 ((zu I 48 0 0) 48 39).toNatClampNeg p1) 48 39).toNatClampNeg p2) 48 39).toNatClampNeg p3) 48 39) + 1)) else none) else none) else none))))))))
set_option maxRecDepth 100000 in
theorem tX9_wind {X : Nat × (Nat → Int32)} {I : zPI} {L : zPL} {F : zPF} {a b : Nat} {c : Option Nat} (hR : zRin F a b c) (p1 : Int32) (p2 : Int32) (p3 : Int32) (r : Int32 × zPI) (h : fX9_wind I p1 p2 p3 = some r) : zAM X mX9_wind 0 [zr 48, zi p1, zi p2, zi p3] (zS0, I, L, F) (some (zi r.1)) (zS0, r.2, L, F) := by
  refine zAM_of (by decide) (Nat.le_of_ble_eq_true rfl) ⟨fun h => (by cases h), fun h => (by cases h)⟩ (Nat.le_refl _) (Nat.le_refl _) ?_
  unfold fX9_wind at h
  show zAW zE0 X mX9_wind 0 0 [(0, zr 48), (1, zi p1), (2, zi p2), (3, zi p3)] [] (zS0, I, L, F) (some (zi r.1)) (zS0, r.2, L, F)
  refine a_aload_n dX9_wind_0 rfl 0 rfl ?_
  refine a_iconst (v := 0) dX9_wind_1 (by decide) ?_
  refine a_puti dX9_wind_2 F_X9_1 zs_48 rfl ⟨rfl, rfl⟩ ?_
  refine a_iload_n dX9_wind_5 rfl 1 rfl ?_
  refine a_if_lt (tgt := 44) dX9_wind_6 rfl (fun hc10 => ?_) (fun hc10 => ?_)
  · rw [if_pos hc10] at h
    refine a_iconst (v := 0) dX9_wind_44 (by decide) ?_
    cases h
    exact a_iret dX9_wind_45 (by intro h; cases h) (znar_b0 rfl)
  · rw [if_neg hc10] at h
    refine a_iload_n dX9_wind_9 rfl 1 rfl ?_
    refine a_ldc dX9_wind_10 zw1194 ?_
    refine a_icmp_gt (tgt := 44) dX9_wind_12 rfl (fun hc9 => ?_) (fun hc9 => ?_)
    · rw [if_pos hc9] at h
      refine a_iconst (v := 0) dX9_wind_44 (by decide) ?_
      cases h
      exact a_iret dX9_wind_45 (by intro h; cases h) (znar_b0 rfl)
    · rw [if_neg hc9] at h
      refine a_iload_n dX9_wind_15 rfl 2 rfl ?_
      refine a_if_lt (tgt := 44) dX9_wind_16 rfl (fun hc8 => ?_) (fun hc8 => ?_)
      · rw [if_pos hc8] at h
        refine a_iconst (v := 0) dX9_wind_44 (by decide) ?_
        cases h
        exact a_iret dX9_wind_45 (by intro h; cases h) (znar_b0 rfl)
      · rw [if_neg hc8] at h
        refine a_iload_n dX9_wind_19 rfl 2 rfl ?_
        refine a_bipush (v := 31) dX9_wind_20 (by decide) ?_
        refine a_icmp_gt (tgt := 44) dX9_wind_22 rfl (fun hc7 => ?_) (fun hc7 => ?_)
        · rw [if_pos hc7] at h
          refine a_iconst (v := 0) dX9_wind_44 (by decide) ?_
          cases h
          exact a_iret dX9_wind_45 (by intro h; cases h) (znar_b0 rfl)
        · rw [if_neg hc7] at h
          refine a_iload_n dX9_wind_25 rfl 3 rfl ?_
          refine a_if_lt (tgt := 44) dX9_wind_26 rfl (fun hc6 => ?_) (fun hc6 => ?_)
          · rw [if_pos hc6] at h
            refine a_iconst (v := 0) dX9_wind_44 (by decide) ?_
            cases h
            exact a_iret dX9_wind_45 (by intro h; cases h) (znar_b0 rfl)
          · rw [if_neg hc6] at h
            refine a_iload_n dX9_wind_29 rfl 3 rfl ?_
            refine a_bipush (v := 12) dX9_wind_30 (by decide) ?_
            refine a_icmp_gt (tgt := 44) dX9_wind_32 rfl (fun hc5 => ?_) (fun hc5 => ?_)
            · rw [if_pos hc5] at h
              refine a_iconst (v := 0) dX9_wind_44 (by decide) ?_
              cases h
              exact a_iret dX9_wind_45 (by intro h; cases h) (znar_b0 rfl)
            · rw [if_neg hc5] at h
              refine a_aload_n dX9_wind_35 rfl 0 rfl ?_
              refine a_geti dX9_wind_36 G_X9_239 zs_48 rfl ?_
              refine a_bipush (v := 60) dX9_wind_39 (by decide) ?_
              refine a_icmp_ne (tgt := 46) dX9_wind_41 rfl (fun hc4 => ?_) (fun hc4 => ?_)
              · rw [if_neg hc4] at h
                refine a_aload_n dX9_wind_46 rfl 0 rfl ?_
                refine a_getq dX9_wind_47 G_X9_110 zs_48 rfl (rf_48_40 hR) ?_
                refine a_aload_n dX9_wind_50 rfl 0 rfl ?_
                refine a_geti dX9_wind_51 G_X9_239 zs_48 rfl ?_
                refine a_iload_n dX9_wind_54 rfl 1 rfl ?_
                obtain ⟨hz1, h⟩ := zif h
                refine a_iast dX9_wind_55 zs_67 (zin_vp hz1) ?_
                refine a_aload_n dX9_wind_56 rfl 0 rfl ?_
                refine a_getq dX9_wind_57 G_X9_113 zs_48 rfl (rf_48_41 hR) ?_
                refine a_aload_n dX9_wind_60 rfl 0 rfl ?_
                refine a_geti dX9_wind_61 G_X9_239 zs_48 rfl ?_
                refine a_iload_n dX9_wind_64 rfl 2 rfl ?_
                obtain ⟨hz2, h⟩ := zif h
                refine a_iast dX9_wind_65 zs_68 (zin_vp hz2) ?_
                refine a_aload_n dX9_wind_66 rfl 0 rfl ?_
                refine a_getq dX9_wind_67 G_X9_116 zs_48 rfl (rf_48_42 hR) ?_
                refine a_aload_n dX9_wind_70 rfl 0 rfl ?_
                refine a_geti dX9_wind_71 G_X9_239 zs_48 rfl ?_
                refine a_iload_n dX9_wind_74 rfl 3 rfl ?_
                obtain ⟨hz3, h⟩ := zif h
                refine a_iast dX9_wind_75 zs_69 (zin_vp hz3) ?_
                refine a_aload_n dX9_wind_76 rfl 0 rfl ?_
                refine a_dup dX9_wind_77 rfl ?_
                refine a_geti dX9_wind_78 G_X9_239 zs_48 rfl ?_
                refine a_iconst (v := 1) dX9_wind_81 (by decide) ?_
                refine a_iadd dX9_wind_82 ?_
                refine a_puti dX9_wind_83 F_X9_239 zs_48 rfl ⟨rfl, rfl⟩ ?_
                refine a_iconst (v := 1) dX9_wind_86 (by decide) ?_
                cases h
                exact a_iret dX9_wind_87 (by intro h; cases h) (znar_b1 rfl)
              · rw [if_pos hc4] at h
                refine a_iconst (v := 0) dX9_wind_44 (by decide) ?_
                cases h
                exact a_iret dX9_wind_45 (by intro h; cases h) (znar_b0 rfl)
