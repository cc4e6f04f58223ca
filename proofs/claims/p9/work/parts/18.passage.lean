def fX2_isPlace (p0 : Int32) (p1 : Int32) : Int32 := (if p0 < (-24) then 0 else (if 24 < p0 then 0 else (if p1 < (-24) then 0 else (if 24 < p1 then 0 else 1))))
set_option maxRecDepth 100000 in
theorem tX2_isPlace {X : Nat × (Nat → Int32)} {I : zPI} {L : zPL} {F : zPF} {a b : Nat} {c : Option Nat} (hR : zRin F a b c) (p0 : Int32) (p1 : Int32) (r : Int32) (h : fX2_isPlace p0 p1 = r) : zAM X mX2_isPlace 0 [zi p0, zi p1] (zS0, I, L, F) (some (zi r)) (zS0, I, L, F) := by
  refine zAM_of (by decide) (Nat.le_of_ble_eq_true rfl) ⟨fun h => (by cases h), fun h => (by cases h)⟩ (Nat.le_refl _) (Nat.le_refl _) ?_
  unfold fX2_isPlace at h
  show zAW zE0 X mX2_isPlace 0 0 [(0, zi p0), (1, zi p1)] [] (zS0, I, L, F) (some (zi r)) (zS0, I, L, F)
  refine a_iload_n dX2_isPlace_0 rfl 0 rfl ?_
  refine a_bipush (v := (-24)) dX2_isPlace_1 (by decide) ?_
  refine a_icmp_lt (tgt := 28) dX2_isPlace_3 rfl (fun hc4 => ?_) (fun hc4 => ?_)
  · rw [if_pos hc4] at h
    refine a_iconst (v := 0) dX2_isPlace_28 (by decide) ?_
    subst h
    exact a_iret dX2_isPlace_29 (by intro h; cases h) (znar_b0 rfl)
  · rw [if_neg hc4] at h
    refine a_iload_n dX2_isPlace_6 rfl 0 rfl ?_
    refine a_bipush (v := 24) dX2_isPlace_7 (by decide) ?_
    refine a_icmp_gt (tgt := 28) dX2_isPlace_9 rfl (fun hc3 => ?_) (fun hc3 => ?_)
    · rw [if_pos hc3] at h
      refine a_iconst (v := 0) dX2_isPlace_28 (by decide) ?_
      subst h
      exact a_iret dX2_isPlace_29 (by intro h; cases h) (znar_b0 rfl)
    · rw [if_neg hc3] at h
      refine a_iload_n dX2_isPlace_12 rfl 1 rfl ?_
      refine a_bipush (v := (-24)) dX2_isPlace_13 (by decide) ?_
      refine a_icmp_lt (tgt := 28) dX2_isPlace_15 rfl (fun hc2 => ?_) (fun hc2 => ?_)
      · rw [if_pos hc2] at h
        refine a_iconst (v := 0) dX2_isPlace_28 (by decide) ?_
        subst h
        exact a_iret dX2_isPlace_29 (by intro h; cases h) (znar_b0 rfl)
      · rw [if_neg hc2] at h
        refine a_iload_n dX2_isPlace_18 rfl 1 rfl ?_
        refine a_bipush (v := 24) dX2_isPlace_19 (by decide) ?_
        refine a_icmp_gt (tgt := 28) dX2_isPlace_21 rfl (fun hc1 => ?_) (fun hc1 => ?_)
        · rw [if_pos hc1] at h
          refine a_iconst (v := 0) dX2_isPlace_28 (by decide) ?_
          subst h
          exact a_iret dX2_isPlace_29 (by intro h; cases h) (znar_b0 rfl)
        · rw [if_neg hc1] at h
          refine a_iconst (v := 1) dX2_isPlace_24 (by decide) ?_
          refine a_goto (tgt := 29) dX2_isPlace_25 rfl ?_
          subst h
          exact a_iret dX2_isPlace_29 (by intro h; cases h) (znar_b1 rfl)
def fX2_has (s : Nat) (L : zPL) (p1 : Int32) (p2 : Int32) (p3 : Int32) : Option (Int32) := (if (fX2_isPlace p2 p3) = 0 then some 0 else (if zin (((p1 * 49) + p3) + 24) 441 then (if (lg_cmp ((zushr (L s (((p1 * 49) + p3) + 24).toNatClampNeg) (p2 + 24)) &&& 1) 0) = 0 then some 0 else some 1) else none))
set_option maxRecDepth 100000 in
theorem tX2_has {X : Nat × (Nat → Int32)} {I : zPI} {L : zPL} {F : zPF} {a b : Nat} {c : Option Nat} (hR : zRin F a b c) {s : Nat} (hs : zS0[s]? = some (.inr (.long, 441))) (p1 : Int32) (p2 : Int32) (p3 : Int32) (r : Int32) (h : fX2_has s L p1 p2 p3 = some r) : zAM X mX2_has 1 [zr s, zi p1, zi p2, zi p3] (zS0, I, L, F) (some (zi r)) (zS0, I, L, F) := by
  refine zAM_of (by decide) (Nat.le_of_ble_eq_true rfl) ⟨fun h => (by cases h), fun h => (by cases h)⟩ (Nat.le_refl _) (Nat.le_refl _) ?_
  unfold fX2_has at h
  show zAW zE0 X mX2_has 1 0 [(0, zr s), (1, zi p1), (2, zi p2), (3, zi p3)] [] (zS0, I, L, F) (some (zi r)) (zS0, I, L, F)
  refine a_iload_n dX2_has_0 rfl 2 rfl ?_
  refine a_iload_n dX2_has_1 rfl 3 rfl ?_
  refine a_callS dX2_has_2 (tX2_isPlace hR _ _ _ rfl) csX2_isPlace zw788 (Nat.le_of_ble_eq_true rfl) rfl (Nat.le_of_ble_eq_true rfl) ⟨Nat.le_refl _, Nat.le_refl _⟩ (fun hb1 => ?_)
  refine a_if_eq (tgt := 35) dX2_has_5 rfl (fun hc4 => ?_) (fun hc4 => ?_)
  · rw [if_pos hc4] at h
    refine a_iconst (v := 0) dX2_has_35 (by decide) ?_
    cases h
    exact a_iret dX2_has_36 (by intro h; cases h) (znar_b0 rfl)
  · rw [if_neg hc4] at h
    refine a_aload_n dX2_has_8 rfl 0 rfl ?_
    refine a_iload_n dX2_has_9 rfl 1 rfl ?_
    refine a_bipush (v := 49) dX2_has_10 (by decide) ?_
    refine a_imul dX2_has_12 ?_
    refine a_iload_n dX2_has_13 rfl 3 rfl ?_
    refine a_iadd dX2_has_14 ?_
    refine a_bipush (v := 24) dX2_has_15 (by decide) ?_
    refine a_iadd dX2_has_17 ?_
    obtain ⟨hz2, h⟩ := zif h
    refine a_lald dX2_has_18 hs (zin_vp hz2) ?_
    refine a_iload_n dX2_has_19 rfl 2 rfl ?_
    refine a_bipush (v := 24) dX2_has_20 (by decide) ?_
    refine a_iadd dX2_has_22 ?_
    refine a_lushrZ dX2_has_23 ?_
    refine a_lconst (v := 1) dX2_has_24 (by decide) ?_
    refine a_land dX2_has_25 ?_
    refine a_lconst (v := 0) dX2_has_26 (by decide) ?_
    refine a_lcmp dX2_has_27 ?_
    refine a_if_eq (tgt := 35) dX2_has_28 rfl (fun hc3 => ?_) (fun hc3 => ?_)
    · rw [if_pos hc3] at h
      refine a_iconst (v := 0) dX2_has_35 (by decide) ?_
      cases h
      exact a_iret dX2_has_36 (by intro h; cases h) (znar_b0 rfl)
    · rw [if_neg hc3] at h
      refine a_iconst (v := 1) dX2_has_31 (by decide) ?_
      refine a_goto (tgt := 36) dX2_has_32 rfl ?_
      cases h
      exact a_iret dX2_has_36 (by intro h; cases h) (znar_b1 rfl)
def fX2_leastLeading_3 (I : zPI) (L : zPL) (K : Option (Int32)) : Nat → Int32 → Int32 → Int32 → Int32 → Option (Int32)
  | 0, _, _, _, _ => none
  | n + 1, v1, v2, v3, v4 => (if 32 ≤ v4 then K else (if zin ((v1 * 32) + v4) 256 then (if zin ((v1 * 32) + v4) 256 then (fX2_has 21 L (v1 + 1) (v2 + (I 18 ((v1 * 32) + v4).toNatClampNeg)) (v3 + (I 19 ((v1 * 32) + v4).toNatClampNeg))).bind (fun q3 => (if q3 = 0 then fX2_leastLeading_3 I L K n v1 v2 v3 (v4 + 1) else some v4)) else none) else none))
def fX2_leastLeading (I : zPI) (L : zPL) (p1 : Int32) (p2 : Int32) (p3 : Int32) : Option (Int32) := fX2_leastLeading_3 I L (some 0) zF p1 p2 p3 0
set_option maxRecDepth 100000 in
theorem tX2_leastLeading_3 {X : Nat × (Nat → Int32)} {I : zPI} {L : zPL} {F : zPF} {a b : Nat} {c : Option Nat} (hR : zRin F a b c) {r : Int32} {K : Option (Int32)} (hK : K = some r → zAW zE0 X mX2_leastLeading 2 59 [] [] (zS0, I, L, F) (some (zi r)) (zS0, I, L, F)) : ∀ (n : Nat) (v1 : Int32) (v2 : Int32) (v3 : Int32) (v4 : Int32), fX2_leastLeading_3 I L K n v1 v2 v3 v4 = some r → zAW zE0 X mX2_leastLeading 2 3 [(0, zr 17), (1, zi v1), (2, zi v2), (3, zi v3), (4, zi v4)] [] (zS0, I, L, F) (some (zi r)) (zS0, I, L, F) := by
  intro n
  induction n with
  | zero =>
    intro v1 v2 v3 v4 h
    rw [fX2_leastLeading_3.eq_1] at h
    cases h
  | succ n ih =>
    intro v1 v2 v3 v4 h
    rw [fX2_leastLeading_3.eq_2] at h
    refine a_iload dX2_leastLeading_3 4 rfl ?_
    refine a_bipush (v := 32) dX2_leastLeading_5 (by decide) ?_
    refine a_icmp_ge (tgt := 59) dX2_leastLeading_7 rfl (fun hc6 => ?_) (fun hc6 => ?_)
    · rw [if_pos hc6] at h
      refine a_sub [] rfl ?_
      exact hK h
    · rw [if_neg hc6] at h
      refine a_iload_n dX2_leastLeading_10 rfl 1 rfl ?_
      refine a_bipush (v := 32) dX2_leastLeading_11 (by decide) ?_
      refine a_imul dX2_leastLeading_13 ?_
      refine a_iload dX2_leastLeading_14 4 rfl ?_
      refine a_iadd dX2_leastLeading_16 ?_
      refine a_istore dX2_leastLeading_17 (by decide) rfl ?_
      refine a_aload_n dX2_leastLeading_19 rfl 1 rfl ?_
      refine a_getq dX2_leastLeading_20 G_X2_24 zs_17 rfl (rf_17_3 hR) ?_
      refine a_iload_n dX2_leastLeading_23 rfl 2 rfl ?_
      refine a_iconst (v := 1) dX2_leastLeading_24 (by decide) ?_
      refine a_iadd dX2_leastLeading_25 ?_
      refine a_iload_n dX2_leastLeading_26 rfl 3 rfl ?_
      refine a_aload_n dX2_leastLeading_27 rfl 1 rfl ?_
      refine a_getq dX2_leastLeading_28 G_X2_13 zs_17 rfl (rf_17_0 hR) ?_
      refine a_iload dX2_leastLeading_31 0 rfl ?_
      obtain ⟨hz1, h⟩ := zif h
      refine a_iald dX2_leastLeading_33 zs_18 (zin_vp hz1) ?_
      refine a_iadd dX2_leastLeading_34 ?_
      refine a_iload_n dX2_leastLeading_35 rfl 4 rfl ?_
      refine a_aload_n dX2_leastLeading_36 rfl 1 rfl ?_
      refine a_getq dX2_leastLeading_37 G_X2_17 zs_17 rfl (rf_17_1 hR) ?_
      refine a_iload dX2_leastLeading_40 0 rfl ?_
      obtain ⟨hz2, h⟩ := zif h
      refine a_iald dX2_leastLeading_42 zs_19 (zin_vp hz2) ?_
      refine a_iadd dX2_leastLeading_43 ?_
      obtain ⟨q3, hq3, h⟩ := zbind h
      refine a_callS dX2_leastLeading_44 (tX2_has hR zs_21 _ _ _ _ hq3) csX2_has zw801 (Nat.le_of_ble_eq_true rfl) rfl (Nat.le_of_ble_eq_true rfl) ⟨Nat.le_refl _, Nat.le_refl _⟩ (fun hb4 => ?_)
      refine a_if_eq (tgt := 53) dX2_leastLeading_47 rfl (fun hc5 => ?_) (fun hc5 => ?_)
      · rw [if_pos hc5] at h
        refine a_iincK (k0 := 1) dX2_leastLeading_53 (by decide) 5 rfl (by decide) rfl ?_
        refine a_goto (tgt := 3) dX2_leastLeading_56 rfl ?_
        refine a_sub [2, 3, 4, 5, 0] rfl ?_
        exact ih _ _ _ _ h
      · rw [if_neg hc5] at h
        refine a_iload dX2_leastLeading_50 5 rfl ?_
        cases h
        exact a_iret dX2_leastLeading_52 (by intro h; cases h) (znar_i rfl)
set_option maxRecDepth 100000 in
theorem tX2_leastLeading {X : Nat × (Nat → Int32)} {I : zPI} {L : zPL} {F : zPF} {a b : Nat} {c : Option Nat} (hR : zRin F a b c) (p1 : Int32) (p2 : Int32) (p3 : Int32) (r : Int32) (h : fX2_leastLeading I L p1 p2 p3 = some r) : zAM X mX2_leastLeading 2 [zr 17, zi p1, zi p2, zi p3] (zS0, I, L, F) (some (zi r)) (zS0, I, L, F) := by
  refine zAM_of (by decide) (Nat.le_of_ble_eq_true rfl) ⟨fun h => (by cases h), fun h => (by cases h)⟩ (Nat.le_refl _) (Nat.le_refl _) ?_
  unfold fX2_leastLeading at h
  show zAW zE0 X mX2_leastLeading 2 0 [(0, zr 17), (1, zi p1), (2, zi p2), (3, zi p3)] [] (zS0, I, L, F) (some (zi r)) (zS0, I, L, F)
  refine a_iconst (v := 0) dX2_leastLeading_0 (by decide) ?_
  refine a_istore dX2_leastLeading_1 (by decide) rfl ?_
  refine a_sub [1, 2, 3, 4, 0] rfl ?_
  refine tX2_leastLeading_3 hR (fun h => ?_) zF _ _ _ _ h
  (try dsimp only at h)
  refine a_iconst (v := 0) dX2_leastLeading_59 (by decide) ?_
  cases h
  exact a_iret dX2_leastLeading_60 (by intro h; cases h) (znar_i rfl)
def fX2_chooseCourses_6 (L : zPL) (K : zPI → Option (zPI)) : Nat → Int32 → Int32 → Int32 → zPI → Option (zPI)
  | 0, _, _, _, _ => none
  | n + 1, v1, v2, v3, I => (if (I 17 5) ≤ v3 then K I else (fX2_leastLeading I L v3 v1 v2).bind (fun q1 => (if zin v3 8 then (if zin ((v3 * 32) + q1) 256 then zlet (v1 + ((zu I 22 v3.toNatClampNeg q1) 18 ((v3 * 32) + q1).toNatClampNeg)) (fun x5 => (if zin ((v3 * 32) + q1) 256 then zlet (v2 + ((zu I 22 v3.toNatClampNeg q1) 19 ((v3 * 32) + q1).toNatClampNeg)) (fun x7 => fX2_chooseCourses_6 L K n x5 x7 (v3 + 1) (zu I 22 v3.toNatClampNeg q1)) else none)) else none) else none)))
def fX2_chooseCourses (I : zPI) (L : zPL) : Option (zPI) := fX2_chooseCourses_6 L (fun I => some (I)) zF 0 0 0 I
set_option maxRecDepth 100000 in
theorem tX2_chooseCourses_6 {X : Nat × (Nat → Int32)} {L : zPL} {F : zPF} {a b : Nat} {c : Option Nat} (hR : zRin F a b c) {r : zPI} {K : zPI → Option (zPI)} (hK : ∀ (I : zPI), K I = some r → zAW zE0 X mX2_chooseCourses 3 67 [] [] (zS0, I, L, F) none (zS0, r, L, F)) : ∀ (n : Nat) (v1 : Int32) (v2 : Int32) (v3 : Int32) (I : zPI), fX2_chooseCourses_6 L K n v1 v2 v3 I = some r → zAW zE0 X mX2_chooseCourses 3 6 [(0, zr 17), (1, zi v1), (2, zi v2), (3, zi v3)] [] (zS0, I, L, F) none (zS0, r, L, F) := by
  intro n
  induction n with
  | zero =>
    intro v1 v2 v3 I h
    rw [fX2_chooseCourses_6.eq_1] at h
    cases h
  | succ n ih =>
    intro v1 v2 v3 I h
    rw [fX2_chooseCourses_6.eq_2] at h
    refine a_iload_n dX2_chooseCourses_6 rfl 3 rfl ?_
    refine a_aload_n dX2_chooseCourses_7 rfl 0 rfl ?_
    refine a_geti dX2_chooseCourses_8 G_X2_60 zs_17 rfl ?_
    refine a_icmp_ge (tgt := 67) dX2_chooseCourses_11 rfl (fun hc8 => ?_) (fun hc8 => ?_)
    · rw [if_pos hc8] at h
      refine a_sub [] rfl ?_
      exact hK _ h
    · rw [if_neg hc8] at h
      refine a_aload_n dX2_chooseCourses_14 rfl 0 rfl ?_
      refine a_iload_n dX2_chooseCourses_15 rfl 3 rfl ?_
      refine a_iload_n dX2_chooseCourses_16 rfl 1 rfl ?_
      refine a_iload_n dX2_chooseCourses_17 rfl 2 rfl ?_
      obtain ⟨q1, hq1, h⟩ := zbind h
      refine a_callV dX2_chooseCourses_18 (tX2_leastLeading hR _ _ _ _ hq1) csX2_leastLeading zw821 (Nat.le_of_ble_eq_true rfl) zs_17 rfl rfl (Nat.le_of_ble_eq_true rfl) ⟨Nat.le_refl _, Nat.le_refl _⟩ (fun hb2 => ?_)
      refine a_istore dX2_chooseCourses_21 (by decide) rfl ?_
      refine a_aload_n dX2_chooseCourses_23 rfl 1 rfl ?_
      refine a_getq dX2_chooseCourses_24 G_X2_27 zs_17 rfl (rf_17_4 hR) ?_
      refine a_iload_n dX2_chooseCourses_27 rfl 4 rfl ?_
      refine a_iload dX2_chooseCourses_28 0 rfl ?_
      obtain ⟨hz3, h⟩ := zif h
      refine a_iast dX2_chooseCourses_30 zs_22 (zin_vp hz3) ?_
      refine a_iload_n dX2_chooseCourses_31 rfl 2 rfl ?_
      refine a_aload_n dX2_chooseCourses_32 rfl 1 rfl ?_
      refine a_getq dX2_chooseCourses_33 G_X2_13 zs_17 rfl (rf_17_0 hR) ?_
      refine a_iload_n dX2_chooseCourses_36 rfl 4 rfl ?_
      refine a_bipush (v := 32) dX2_chooseCourses_37 (by decide) ?_
      refine a_imul dX2_chooseCourses_39 ?_
      refine a_iload dX2_chooseCourses_40 0 rfl ?_
      refine a_iadd dX2_chooseCourses_42 ?_
      obtain ⟨hz4, h⟩ := zif h
      refine a_iald dX2_chooseCourses_43 zs_18 (zin_vp hz4) ?_
      refine a_iadd dX2_chooseCourses_44 ?_
      refine a_name (fun x5 ex5 => ?_)
      replace h := zlet_at h ex5
      clear ex5
      refine a_istore_n dX2_chooseCourses_45 rfl (by decide) rfl ?_
      refine a_iload_n dX2_chooseCourses_46 rfl 3 rfl ?_
      refine a_aload_n dX2_chooseCourses_47 rfl 2 rfl ?_
      refine a_getq dX2_chooseCourses_48 G_X2_17 zs_17 rfl (rf_17_1 hR) ?_
      refine a_iload_n dX2_chooseCourses_51 rfl 4 rfl ?_
      refine a_bipush (v := 32) dX2_chooseCourses_52 (by decide) ?_
      refine a_imul dX2_chooseCourses_54 ?_
      refine a_iload dX2_chooseCourses_55 1 rfl ?_
      refine a_iadd dX2_chooseCourses_57 ?_
      obtain ⟨hz6, h⟩ := zif h
      refine a_iald dX2_chooseCourses_58 zs_19 (zin_vp hz6) ?_
      refine a_iadd dX2_chooseCourses_59 ?_
      refine a_name (fun x7 ex7 => ?_)
      replace h := zlet_at h ex7
      clear ex7
      refine a_istore_n dX2_chooseCourses_60 rfl (by decide) rfl ?_
      refine a_iincK (k0 := 1) dX2_chooseCourses_61 (by decide) 4 rfl (by decide) rfl ?_
      refine a_goto (tgt := 6) dX2_chooseCourses_64 rfl ?_
      refine a_sub [4, 2, 1, 0] rfl ?_
      exact ih _ _ _ _ h
set_option maxRecDepth 100000 in
theorem tX2_chooseCourses {X : Nat × (Nat → Int32)} {I : zPI} {L : zPL} {F : zPF} {a b : Nat} {c : Option Nat} (hR : zRin F a b c) (r : zPI) (h : fX2_chooseCourses I L = some r) : zAM X mX2_chooseCourses 3 [zr 17] (zS0, I, L, F) none (zS0, r, L, F) := by
  refine zAM_of (by decide) (Nat.le_of_ble_eq_true rfl) ⟨fun _ => rfl, fun _ => rfl⟩ (Nat.le_refl _) (Nat.le_refl _) ?_
  unfold fX2_chooseCourses at h
  show zAW zE0 X mX2_chooseCourses 3 0 [(0, zr 17)] [] (zS0, I, L, F) none (zS0, r, L, F)
  refine a_iconst (v := 0) dX2_chooseCourses_0 (by decide) ?_
  refine a_istore_n dX2_chooseCourses_1 rfl (by decide) rfl ?_
  refine a_iconst (v := 0) dX2_chooseCourses_2 (by decide) ?_
  refine a_istore_n dX2_chooseCourses_3 rfl (by decide) rfl ?_
  refine a_iconst (v := 0) dX2_chooseCourses_4 (by decide) ?_
  refine a_istore_n dX2_chooseCourses_5 rfl (by decide) rfl ?_
  refine a_sub [3, 2, 1, 0] rfl ?_
  refine tX2_chooseCourses_6 hR (fun I h => ?_) zF _ _ _ _ h
  (try dsimp only at h)
  cases h
  exact a_vret dX2_chooseCourses_67 rfl
def fX2_clear_2 (s : Nat) (K : zPL → Option (zPL)) : Nat → Int32 → Int32 → zPL → Option (zPL)
  | 0, _, _, _ => none
  | n + 1, v1, v2, L => (if 49 ≤ v2 then K L else (if zin ((v1 * 49) + v2) 441 then fX2_clear_2 s K n v1 (v2 + 1) (zu L s ((v1 * 49) + v2).toNatClampNeg 0) else none))
def fX2_clear (s : Nat) (L : zPL) (p1 : Int32) : Option (zPL) := fX2_clear_2 s (fun L => some (L)) zF p1 0 L
set_option maxRecDepth 100000 in
theorem tX2_clear_2 {X : Nat × (Nat → Int32)} {I : zPI} {F : zPF} {a b : Nat} {c : Option Nat} (hR : zRin F a b c) {s : Nat} (hs : zS0[s]? = some (.inr (.long, 441))) {r : zPL} {K : zPL → Option (zPL)} (hK : ∀ (L : zPL), K L = some r → zAW zE0 X mX2_clear 0 23 [] [] (zS0, I, L, F) none (zS0, I, r, F)) : ∀ (n : Nat) (v1 : Int32) (v2 : Int32) (L : zPL), fX2_clear_2 s K n v1 v2 L = some r → zAW zE0 X mX2_clear 0 2 [(0, zr s), (1, zi v1), (2, zi v2)] [] (zS0, I, L, F) none (zS0, I, r, F) := by
  intro n
  induction n with
  | zero =>
    intro v1 v2 L h
    rw [fX2_clear_2.eq_1] at h
    cases h
  | succ n ih =>
    intro v1 v2 L h
    rw [fX2_clear_2.eq_2] at h
    refine a_iload_n dX2_clear_2 rfl 2 rfl ?_
    refine a_bipush (v := 49) dX2_clear_3 (by decide) ?_
    refine a_icmp_ge (tgt := 23) dX2_clear_5 rfl (fun hc2 => ?_) (fun hc2 => ?_)
    · rw [if_pos hc2] at h
      refine a_sub [] rfl ?_
      exact hK _ h
    · rw [if_neg hc2] at h
      refine a_aload_n dX2_clear_8 rfl 0 rfl ?_
      refine a_iload_n dX2_clear_9 rfl 1 rfl ?_
      refine a_bipush (v := 49) dX2_clear_10 (by decide) ?_
      refine a_imul dX2_clear_12 ?_
      refine a_iload_n dX2_clear_13 rfl 2 rfl ?_
      refine a_iadd dX2_clear_14 ?_
      refine a_lconst (v := 0) dX2_clear_15 (by decide) ?_
      obtain ⟨hz1, h⟩ := zif h
      refine a_last dX2_clear_16 hs (zin_vp hz1) ?_
      refine a_iincK (k0 := 1) dX2_clear_17 (by decide) 2 rfl (by decide) rfl ?_
      refine a_goto (tgt := 2) dX2_clear_20 rfl ?_
      refine a_sub [1, 2, 0] rfl ?_
      exact ih _ _ _ h
set_option maxRecDepth 100000 in
theorem tX2_clear {X : Nat × (Nat → Int32)} {I : zPI} {L : zPL} {F : zPF} {a b : Nat} {c : Option Nat} (hR : zRin F a b c) {s : Nat} (hs : zS0[s]? = some (.inr (.long, 441))) (p1 : Int32) (r : zPL) (h : fX2_clear s L p1 = some r) : zAM X mX2_clear 0 [zr s, zi p1] (zS0, I, L, F) none (zS0, I, r, F) := by
  refine zAM_of (by decide) (Nat.le_of_ble_eq_true rfl) ⟨fun _ => rfl, fun _ => rfl⟩ (Nat.le_refl _) (Nat.le_refl _) ?_
  unfold fX2_clear at h
  show zAW zE0 X mX2_clear 0 0 [(0, zr s), (1, zi p1)] [] (zS0, I, L, F) none (zS0, I, r, F)
  refine a_iconst (v := 0) dX2_clear_0 (by decide) ?_
  refine a_istore_n dX2_clear_1 rfl (by decide) rfl ?_
  refine a_sub [1, 2, 0] rfl ?_
  refine tX2_clear_2 hR hs (fun L h => ?_) zF _ _ _ h
  (try dsimp only at h)
  cases h
  exact a_vret dX2_clear_23 rfl
def fX2_putOnly (s : Nat) (L : zPL) (p1 : Int32) (p2 : Int32) (p3 : Int32) : Option (zPL) := (fX2_clear s L p1).bind (fun q1 => (if zin (((p1 * 49) + p3) + 24) 441 then some (zu q1 s (((p1 * 49) + p3) + 24).toNatClampNeg (1 <<< ((p2 + 24).toInt64 &&& 63))) else none))
set_option maxRecDepth 100000 in
theorem tX2_putOnly {X : Nat × (Nat → Int32)} {I : zPI} {L : zPL} {F : zPF} {a b : Nat} {c : Option Nat} (hR : zRin F a b c) {s : Nat} (hs : zS0[s]? = some (.inr (.long, 441))) (p1 : Int32) (p2 : Int32) (p3 : Int32) (r : zPL) (h : fX2_putOnly s L p1 p2 p3 = some r) : zAM X mX2_putOnly 1 [zr s, zi p1, zi p2, zi p3] (zS0, I, L, F) none (zS0, I, r, F) := by
  refine zAM_of (by decide) (Nat.le_of_ble_eq_true rfl) ⟨fun _ => rfl, fun _ => rfl⟩ (Nat.le_refl _) (Nat.le_refl _) ?_
  unfold fX2_putOnly at h
  show zAW zE0 X mX2_putOnly 1 0 [(0, zr s), (1, zi p1), (2, zi p2), (3, zi p3)] [] (zS0, I, L, F) none (zS0, I, r, F)
  refine a_aload_n dX2_putOnly_0 rfl 0 rfl ?_
  refine a_iload_n dX2_putOnly_1 rfl 1 rfl ?_
  obtain ⟨q1, hq1, h⟩ := zbind h
  refine a_callS dX2_putOnly_2 (tX2_clear hR hs _ _ hq1) csX2_clear zw798 (Nat.le_of_ble_eq_true rfl) rfl (Nat.le_of_ble_eq_true rfl) ⟨Nat.le_refl _, Nat.le_refl _⟩ (fun hb2 => ?_)
  refine a_aload_n dX2_putOnly_5 rfl 0 rfl ?_
  refine a_iload_n dX2_putOnly_6 rfl 1 rfl ?_
  refine a_bipush (v := 49) dX2_putOnly_7 (by decide) ?_
  refine a_imul dX2_putOnly_9 ?_
  refine a_iload_n dX2_putOnly_10 rfl 3 rfl ?_
  refine a_iadd dX2_putOnly_11 ?_
  refine a_bipush (v := 24) dX2_putOnly_12 (by decide) ?_
  refine a_iadd dX2_putOnly_14 ?_
  refine a_lconst (v := 1) dX2_putOnly_15 (by decide) ?_
  refine a_iload_n dX2_putOnly_16 rfl 2 rfl ?_
  refine a_bipush (v := 24) dX2_putOnly_17 (by decide) ?_
  refine a_iadd dX2_putOnly_19 ?_
  refine a_lshl dX2_putOnly_20 ?_
  obtain ⟨hz3, h⟩ := zif h
  refine a_last dX2_putOnly_21 hs (zin_vp hz3) ?_
  cases h
  exact a_vret dX2_putOnly_22 rfl
def fX2_move_55 (s : Nat) (rec : Int32 → Int32 → Int32 → Int32 → Int32 → Int32 → zPL → Option (zPL)) (v1 : Int32) (v2 : Int32) (v3 : Int32) (v4 : Int32) (v5 : Int32) (v6 : Int32) (s0 : Int64) (L : zPL) : Option (zPL) := (if zin (((v2 * 49) + v6) + v4) 441 then (if zin (((v2 * 49) + v6) + v4) 441 then rec v1 v2 v3 v4 v5 (v6 + 1) (zu L s (((v2 * 49) + v6) + v4).toNatClampNeg ((L s (((v2 * 49) + v6) + v4).toNatClampNeg) ||| (s0 &&& 562949953421311))) else none) else none)
def fX2_move_21 (s : Nat) (K : zPL → Option (zPL)) : Nat → Int32 → Int32 → Int32 → Int32 → Int32 → Int32 → zPL → Option (zPL)
  | 0, _, _, _, _, _, _, _ => none
  | n + 1, v1, v2, v3, v4, v5, v6, L => (if v5 ≤ v6 then K L else (if zin ((v1 * 49) + v6) 441 then (if 0 ≤ v3 then fX2_move_55 s (fX2_move_21 s K n) v1 v2 v3 v4 v5 v6 ((L s ((v1 * 49) + v6).toNatClampNeg) <<< (v3.toInt64 &&& 63)) L else fX2_move_55 s (fX2_move_21 s K n) v1 v2 v3 v4 v5 v6 (zushr (L s ((v1 * 49) + v6).toNatClampNeg) (-v3)) L) else none))
def fX2_move (s : Nat) (L : zPL) (p1 : Int32) (p2 : Int32) (p3 : Int32) (p4 : Int32) : Option (zPL) := fX2_move_21 s (fun L => some (L)) zF p1 p2 p3 p4 (zmmin 49 (49 - p4)) (zmmax 0 (-p4)) L
set_option maxRecDepth 100000 in
theorem tX2_move_55 {X : Nat × (Nat → Int32)} {I : zPI} {L : zPL} {F : zPF} {a b : Nat} {c : Option Nat} (hR : zRin F a b c) {s : Nat} (hs : zS0[s]? = some (.inr (.long, 441))) {r : zPL} {rec : Int32 → Int32 → Int32 → Int32 → Int32 → Int32 → zPL → Option (zPL)} (hrec : ∀ (v1 : Int32) (v2 : Int32) (v3 : Int32) (v4 : Int32) (v5 : Int32) (v6 : Int32) (L : zPL), rec v1 v2 v3 v4 v5 v6 L = some r → zAW zE0 X mX2_move 1 21 [(0, zr s), (1, zi v1), (2, zi v2), (3, zi v3), (4, zi v4), (5, zi v5), (6, zi v6)] [] (zS0, I, L, F) none (zS0, I, r, F)) {v1 : Int32} {v2 : Int32} {v3 : Int32} {v4 : Int32} {v5 : Int32} {v6 : Int32} {s0 : Int64} (h : fX2_move_55 s rec v1 v2 v3 v4 v5 v6 s0 L = some r) : zAW zE0 X mX2_move 1 55 [(0, zr s), (1, zi v1), (2, zi v2), (3, zi v3), (4, zi v4), (5, zi v5), (6, zi v6)] [zl s0] (zS0, I, L, F) none (zS0, I, r, F) := by
  unfold fX2_move_55 at h
  refine a_lstore dX2_move_55 (by decide) rfl ?_
  refine a_aload_n dX2_move_57 rfl 1 rfl ?_
  refine a_iload_n dX2_move_58 rfl 3 rfl ?_
  refine a_bipush (v := 49) dX2_move_59 (by decide) ?_
  refine a_imul dX2_move_61 ?_
  refine a_iload dX2_move_62 7 rfl ?_
  refine a_iadd dX2_move_64 ?_
  refine a_iload dX2_move_65 5 rfl ?_
  refine a_iadd dX2_move_67 ?_
  refine a_dup2 dX2_move_68 rfl rfl ?_
  obtain ⟨hz2, h⟩ := zif h
  refine a_lald dX2_move_69 hs (zin_vp hz2) ?_
  refine a_lload dX2_move_70 0 rfl ?_
  refine a_ldc2 dX2_move_72 zw812 ?_
  refine a_land dX2_move_75 ?_
  refine a_lor dX2_move_76 ?_
  obtain ⟨hz3, h⟩ := zif h
  refine a_last dX2_move_77 hs (zin_vp hz3) ?_
  refine a_iincK (k0 := 1) dX2_move_78 (by decide) 7 rfl (by decide) rfl ?_
  refine a_goto (tgt := 21) dX2_move_81 rfl ?_
  refine a_sub [2, 3, 4, 5, 6, 7, 0] rfl ?_
  exact hrec _ _ _ _ _ _ _ h
set_option maxRecDepth 100000 in
theorem tX2_move_21 {X : Nat × (Nat → Int32)} {I : zPI} {F : zPF} {a b : Nat} {c : Option Nat} (hR : zRin F a b c) {s : Nat} (hs : zS0[s]? = some (.inr (.long, 441))) {r : zPL} {K : zPL → Option (zPL)} (hK : ∀ (L : zPL), K L = some r → zAW zE0 X mX2_move 1 84 [] [] (zS0, I, L, F) none (zS0, I, r, F)) : ∀ (n : Nat) (v1 : Int32) (v2 : Int32) (v3 : Int32) (v4 : Int32) (v5 : Int32) (v6 : Int32) (L : zPL), fX2_move_21 s K n v1 v2 v3 v4 v5 v6 L = some r → zAW zE0 X mX2_move 1 21 [(0, zr s), (1, zi v1), (2, zi v2), (3, zi v3), (4, zi v4), (5, zi v5), (6, zi v6)] [] (zS0, I, L, F) none (zS0, I, r, F) := by
  intro n
  induction n with
  | zero =>
    intro v1 v2 v3 v4 v5 v6 L h
    rw [fX2_move_21.eq_1] at h
    cases h
  | succ n ih =>
    intro v1 v2 v3 v4 v5 v6 L h
    rw [fX2_move_21.eq_2] at h
    refine a_iload dX2_move_21 6 rfl ?_
    refine a_iload dX2_move_23 5 rfl ?_
    refine a_icmp_ge (tgt := 84) dX2_move_25 rfl (fun hc5 => ?_) (fun hc5 => ?_)
    · rw [if_pos hc5] at h
      refine a_sub [] rfl ?_
      exact hK _ h
    · rw [if_neg hc5] at h
      refine a_aload_n dX2_move_28 rfl 0 rfl ?_
      refine a_iload_n dX2_move_29 rfl 1 rfl ?_
      refine a_bipush (v := 49) dX2_move_30 (by decide) ?_
      refine a_imul dX2_move_32 ?_
      refine a_iload dX2_move_33 6 rfl ?_
      refine a_iadd dX2_move_35 ?_
      obtain ⟨hz1, h⟩ := zif h
      refine a_lald dX2_move_36 hs (zin_vp hz1) ?_
      refine a_lstore dX2_move_37 (by decide) rfl ?_
      refine a_iload_n dX2_move_39 rfl 4 rfl ?_
      refine a_if_ge (tgt := 51) dX2_move_40 rfl (fun hc4 => ?_) (fun hc4 => ?_)
      · rw [if_pos hc4] at h
        refine a_lload dX2_move_51 0 rfl ?_
        refine a_iload_n dX2_move_53 rfl 4 rfl ?_
        refine a_lshl dX2_move_54 ?_
        refine a_sub [1, 2, 3, 4, 5, 6, 7] rfl ?_
        exact tX2_move_55 hR hs ih h
      · rw [if_neg hc4] at h
        refine a_lload dX2_move_43 0 rfl ?_
        refine a_iload_n dX2_move_45 rfl 4 rfl ?_
        refine a_ineg dX2_move_46 ?_
        refine a_lushrZ dX2_move_47 ?_
        refine a_goto (tgt := 55) dX2_move_48 rfl ?_
        refine a_sub [1, 2, 3, 4, 5, 6, 7] rfl ?_
        exact tX2_move_55 hR hs ih h
set_option maxRecDepth 100000 in
theorem tX2_move {X : Nat × (Nat → Int32)} {I : zPI} {L : zPL} {F : zPF} {a b : Nat} {c : Option Nat} (hR : zRin F a b c) {s : Nat} (hs : zS0[s]? = some (.inr (.long, 441))) (p1 : Int32) (p2 : Int32) (p3 : Int32) (p4 : Int32) (r : zPL) (h : fX2_move s L p1 p2 p3 p4 = some r) : zAM X mX2_move 1 [zr s, zi p1, zi p2, zi p3, zi p4] (zS0, I, L, F) none (zS0, I, r, F) := by
  refine zAM_of (by decide) (Nat.le_of_ble_eq_true rfl) ⟨fun _ => rfl, fun _ => rfl⟩ (Nat.le_refl _) (Nat.le_refl _) ?_
  unfold fX2_move at h
  show zAW zE0 X mX2_move 1 0 [(0, zr s), (1, zi p1), (2, zi p2), (3, zi p3), (4, zi p4)] [] (zS0, I, L, F) none (zS0, I, r, F)
  refine a_bipush (v := 49) dX2_move_0 (by decide) ?_
  refine a_bipush (v := 49) dX2_move_2 (by decide) ?_
  refine a_iload dX2_move_4 4 rfl ?_
  refine a_isub dX2_move_6 ?_
  refine a_mmin dX2_move_7 zw777 (Nat.le_of_ble_eq_true rfl) (Nat.le_of_ble_eq_true rfl) ⟨Nat.le_refl _, Nat.le_refl _⟩ ?_
  refine a_istore dX2_move_10 (by decide) rfl ?_
  refine a_iconst (v := 0) dX2_move_12 (by decide) ?_
  refine a_iload dX2_move_13 5 rfl ?_
  refine a_ineg dX2_move_15 ?_
  refine a_mmax dX2_move_16 zw811 (Nat.le_of_ble_eq_true rfl) (Nat.le_of_ble_eq_true rfl) ⟨Nat.le_refl _, Nat.le_refl _⟩ ?_
  refine a_istore dX2_move_19 (by decide) rfl ?_
  refine a_sub [2, 3, 4, 5, 6, 1, 0] rfl ?_
  refine tX2_move_21 hR hs (fun L h => ?_) zF _ _ _ _ _ _ _ h
  (try dsimp only at h)
  cases h
  exact a_vret dX2_move_84 rfl
def fX2_spread_12 (I : zPI) (K : zPL → Option (zPL)) : Nat → Int32 → Int32 → zPL → Option (zPL)
  | 0, _, _, _ => none
  | n + 1, v1, v2, L => (if 32 ≤ v2 then K L else (if zin ((v1 * 32) + v2) 256 then (if zin ((v1 * 32) + v2) 256 then (fX2_move 20 L v1 (v1 + 1) (I 18 ((v1 * 32) + v2).toNatClampNeg) (I 19 ((v1 * 32) + v2).toNatClampNeg)).bind (fun q5 => fX2_spread_12 I K n v1 (v2 + 1) q5) else none) else none))
def fX2_spread (I : zPI) (L : zPL) (p1 : Int32) : Option (zPL) := (fX2_clear 20 L (p1 + 1)).bind (fun q1 => fX2_spread_12 I (fun L => some (L)) zF p1 0 q1)
set_option maxRecDepth 100000 in
theorem tX2_spread_12 {X : Nat × (Nat → Int32)} {I : zPI} {F : zPF} {a b : Nat} {c : Option Nat} (hR : zRin F a b c) {r : zPL} {K : zPL → Option (zPL)} (hK : ∀ (L : zPL), K L = some r → zAW zE0 X mX2_spread 2 54 [] [] (zS0, I, L, F) none (zS0, I, r, F)) : ∀ (n : Nat) (v1 : Int32) (v2 : Int32) (L : zPL), fX2_spread_12 I K n v1 v2 L = some r → zAW zE0 X mX2_spread 2 12 [(0, zr 17), (1, zi v1), (2, zi v2)] [] (zS0, I, L, F) none (zS0, I, r, F) := by
  intro n
  induction n with
  | zero =>
    intro v1 v2 L h
    rw [fX2_spread_12.eq_1] at h
    cases h
  | succ n ih =>
    intro v1 v2 L h
    rw [fX2_spread_12.eq_2] at h
    refine a_iload_n dX2_spread_12 rfl 2 rfl ?_
    refine a_bipush (v := 32) dX2_spread_13 (by decide) ?_
    refine a_icmp_ge (tgt := 54) dX2_spread_15 rfl (fun hc7 => ?_) (fun hc7 => ?_)
    · rw [if_pos hc7] at h
      refine a_sub [] rfl ?_
      exact hK _ h
    · rw [if_neg hc7] at h
      refine a_iload_n dX2_spread_18 rfl 1 rfl ?_
      refine a_bipush (v := 32) dX2_spread_19 (by decide) ?_
      refine a_imul dX2_spread_21 ?_
      refine a_iload_n dX2_spread_22 rfl 2 rfl ?_
      refine a_iadd dX2_spread_23 ?_
      refine a_istore_n dX2_spread_24 rfl (by decide) rfl ?_
      refine a_aload_n dX2_spread_25 rfl 1 rfl ?_
      refine a_getq dX2_spread_26 G_X2_20 zs_17 rfl (rf_17_2 hR) ?_
      refine a_iload_n dX2_spread_29 rfl 2 rfl ?_
      refine a_iload_n dX2_spread_30 rfl 2 rfl ?_
      refine a_iconst (v := 1) dX2_spread_31 (by decide) ?_
      refine a_iadd dX2_spread_32 ?_
      refine a_aload_n dX2_spread_33 rfl 1 rfl ?_
      refine a_getq dX2_spread_34 G_X2_13 zs_17 rfl (rf_17_0 hR) ?_
      refine a_iload_n dX2_spread_37 rfl 0 rfl ?_
      obtain ⟨hz3, h⟩ := zif h
      refine a_iald dX2_spread_38 zs_18 (zin_vp hz3) ?_
      refine a_aload_n dX2_spread_39 rfl 1 rfl ?_
      refine a_getq dX2_spread_40 G_X2_17 zs_17 rfl (rf_17_1 hR) ?_
      refine a_iload_n dX2_spread_43 rfl 0 rfl ?_
      obtain ⟨hz4, h⟩ := zif h
      refine a_iald dX2_spread_44 zs_19 (zin_vp hz4) ?_
      obtain ⟨q5, hq5, h⟩ := zbind h
      refine a_callS dX2_spread_45 (tX2_move hR zs_20 _ _ _ _ _ hq5) csX2_move zw808 (Nat.le_of_ble_eq_true rfl) rfl (Nat.le_of_ble_eq_true rfl) ⟨Nat.le_refl _, Nat.le_refl _⟩ (fun hb6 => ?_)
      refine a_iincK (k0 := 1) dX2_spread_48 (by decide) 3 rfl (by decide) rfl ?_
      refine a_goto (tgt := 12) dX2_spread_51 rfl ?_
      refine a_sub [2, 3, 0] rfl ?_
      exact ih _ _ _ h
set_option maxRecDepth 100000 in
theorem tX2_spread {X : Nat × (Nat → Int32)} {I : zPI} {L : zPL} {F : zPF} {a b : Nat} {c : Option Nat} (hR : zRin F a b c) (p1 : Int32) (r : zPL) (h : fX2_spread I L p1 = some r) : zAM X mX2_spread 2 [zr 17, zi p1] (zS0, I, L, F) none (zS0, I, r, F) := by
  refine zAM_of (by decide) (Nat.le_of_ble_eq_true rfl) ⟨fun _ => rfl, fun _ => rfl⟩ (Nat.le_refl _) (Nat.le_refl _) ?_
  unfold fX2_spread at h
  show zAW zE0 X mX2_spread 2 0 [(0, zr 17), (1, zi p1)] [] (zS0, I, L, F) none (zS0, I, r, F)
  refine a_aload_n dX2_spread_0 rfl 0 rfl ?_
  refine a_getq dX2_spread_1 G_X2_20 zs_17 rfl (rf_17_2 hR) ?_
  refine a_iload_n dX2_spread_4 rfl 1 rfl ?_
  refine a_iconst (v := 1) dX2_spread_5 (by decide) ?_
  refine a_iadd dX2_spread_6 ?_
  obtain ⟨q1, hq1, h⟩ := zbind h
  refine a_callS dX2_spread_7 (tX2_clear hR zs_20 _ _ hq1) csX2_clear zw798 (Nat.le_of_ble_eq_true rfl) rfl (Nat.le_of_ble_eq_true rfl) ⟨Nat.le_refl _, Nat.le_refl _⟩ (fun hb2 => ?_)
  refine a_iconst (v := 0) dX2_spread_10 (by decide) ?_
  refine a_istore_n dX2_spread_11 rfl (by decide) rfl ?_
  refine a_sub [1, 2, 0] rfl ?_
  refine tX2_spread_12 hR (fun L h => ?_) zF _ _ _ h
  (try dsimp only at h)
  cases h
  exact a_vret dX2_spread_54 rfl
def fX2_countGlasses_12 (I : zPI) (K : Int32 → Int32 → zPL → Option (Int32 × zPL)) : Nat → Int32 → Int32 → Int32 → zPL → Option (Int32 × zPL)
  | 0, _, _, _, _ => none
  | n + 1, v1, v2, v3, L => (if 8 ≤ v3 then K v1 v2 L else (fX2_has 20 L v3 v1 v2).bind (fun q3 => (if q3 = 0 then (fX2_spread I L v3).bind (fun q5 => fX2_countGlasses_12 I K n v1 v2 (v3 + 1) q5) else some (v3, L))))
def fX2_countGlasses (I : zPI) (L : zPL) (p1 : Int32) (p2 : Int32) : Option (Int32 × zPL) := (fX2_putOnly 20 L 0 0 0).bind (fun q1 => fX2_countGlasses_12 I (fun v1 v2 L => (fX2_has 20 L 8 v1 v2).bind (fun q9 => (if q9 = 0 then some ((-1), L) else some (8, L)))) zF p1 p2 0 q1)
set_option maxRecDepth 100000 in
theorem tX2_countGlasses_12 {X : Nat × (Nat → Int32)} {I : zPI} {F : zPF} {a b : Nat} {c : Option Nat} (hR : zRin F a b c) {r : Int32 × zPL} {K : Int32 → Int32 → zPL → Option (Int32 × zPL)} (hK : ∀ (v1 : Int32) (v2 : Int32) (L : zPL), K v1 v2 L = some r → zAW zE0 X mX2_countGlasses 3 44 [(0, zr 17), (1, zi v1), (2, zi v2)] [] (zS0, I, L, F) (some (zi r.1)) (zS0, I, r.2, F)) : ∀ (n : Nat) (v1 : Int32) (v2 : Int32) (v3 : Int32) (L : zPL), fX2_countGlasses_12 I K n v1 v2 v3 L = some r → zAW zE0 X mX2_countGlasses 3 12 [(0, zr 17), (1, zi v1), (2, zi v2), (3, zi v3)] [] (zS0, I, L, F) (some (zi r.1)) (zS0, I, r.2, F) := by
  intro n
  induction n with
  | zero =>
    intro v1 v2 v3 L h
    rw [fX2_countGlasses_12.eq_1] at h
    cases h
  | succ n ih =>
    intro v1 v2 v3 L h
    rw [fX2_countGlasses_12.eq_2] at h
    refine a_iload_n dX2_countGlasses_12 rfl 3 rfl ?_
    refine a_bipush (v := 8) dX2_countGlasses_13 (by decide) ?_
    refine a_icmp_ge (tgt := 44) dX2_countGlasses_15 rfl (fun hc8 => ?_) (fun hc8 => ?_)
    · rw [if_pos hc8] at h
      refine a_sub [0, 1, 2] rfl ?_
      exact hK _ _ _ h
    · rw [if_neg hc8] at h
      refine a_aload_n dX2_countGlasses_18 rfl 0 rfl ?_
      refine a_getq dX2_countGlasses_19 G_X2_20 zs_17 rfl (rf_17_2 hR) ?_
      refine a_iload_n dX2_countGlasses_22 rfl 3 rfl ?_
      refine a_iload_n dX2_countGlasses_23 rfl 1 rfl ?_
      refine a_iload_n dX2_countGlasses_24 rfl 2 rfl ?_
      obtain ⟨q3, hq3, h⟩ := zbind h
      refine a_callS dX2_countGlasses_25 (tX2_has hR zs_20 _ _ _ _ hq3) csX2_has zw801 (Nat.le_of_ble_eq_true rfl) rfl (Nat.le_of_ble_eq_true rfl) ⟨Nat.le_refl _, Nat.le_refl _⟩ (fun hb4 => ?_)
      refine a_if_eq (tgt := 33) dX2_countGlasses_28 rfl (fun hc7 => ?_) (fun hc7 => ?_)
      · rw [if_pos hc7] at h
        refine a_aload_n dX2_countGlasses_33 rfl 0 rfl ?_
        refine a_iload_n dX2_countGlasses_34 rfl 3 rfl ?_
        obtain ⟨q5, hq5, h⟩ := zbind h
        refine a_callV dX2_countGlasses_35 (tX2_spread hR _ _ hq5) csX2_spread zw804 (Nat.le_of_ble_eq_true rfl) zs_17 rfl rfl (Nat.le_of_ble_eq_true rfl) ⟨Nat.le_refl _, Nat.le_refl _⟩ (fun hb6 => ?_)
        refine a_iincK (k0 := 1) dX2_countGlasses_38 (by decide) 3 rfl (by decide) rfl ?_
        refine a_goto (tgt := 12) dX2_countGlasses_41 rfl ?_
        refine a_sub [1, 2, 3, 0] rfl ?_
        exact ih _ _ _ _ h
      · rw [if_neg hc7] at h
        refine a_iload_n dX2_countGlasses_31 rfl 3 rfl ?_
        cases h
        exact a_iret dX2_countGlasses_32 (by intro h; cases h) (znar_i rfl)
set_option maxRecDepth 100000 in
theorem tX2_countGlasses {X : Nat × (Nat → Int32)} {I : zPI} {L : zPL} {F : zPF} {a b : Nat} {c : Option Nat} (hR : zRin F a b c) (p1 : Int32) (p2 : Int32) (r : Int32 × zPL) (h : fX2_countGlasses I L p1 p2 = some r) : zAM X mX2_countGlasses 3 [zr 17, zi p1, zi p2] (zS0, I, L, F) (some (zi r.1)) (zS0, I, r.2, F) := by
  refine zAM_of (by decide) (Nat.le_of_ble_eq_true rfl) ⟨fun h => (by cases h), fun h => (by cases h)⟩ (Nat.le_refl _) (Nat.le_refl _) ?_
  unfold fX2_countGlasses at h
  show zAW zE0 X mX2_countGlasses 3 0 [(0, zr 17), (1, zi p1), (2, zi p2)] [] (zS0, I, L, F) (some (zi r.1)) (zS0, I, r.2, F)
  refine a_aload_n dX2_countGlasses_0 rfl 0 rfl ?_
  refine a_getq dX2_countGlasses_1 G_X2_20 zs_17 rfl (rf_17_2 hR) ?_
  refine a_iconst (v := 0) dX2_countGlasses_4 (by decide) ?_
  refine a_iconst (v := 0) dX2_countGlasses_5 (by decide) ?_
  refine a_iconst (v := 0) dX2_countGlasses_6 (by decide) ?_
  obtain ⟨q1, hq1, h⟩ := zbind h
  refine a_callS dX2_countGlasses_7 (tX2_putOnly hR zs_20 _ _ _ _ hq1) csX2_putOnly zw795 (Nat.le_of_ble_eq_true rfl) rfl (Nat.le_of_ble_eq_true rfl) ⟨Nat.le_refl _, Nat.le_refl _⟩ (fun hb2 => ?_)
  refine a_iconst (v := 0) dX2_countGlasses_10 (by decide) ?_
  refine a_istore_n dX2_countGlasses_11 rfl (by decide) rfl ?_
  refine a_sub [1, 2, 3, 0] rfl ?_
  refine tX2_countGlasses_12 hR (fun v1 v2 L h => ?_) zF _ _ _ _ h
  (try dsimp only at h)
  refine a_aload_n dX2_countGlasses_44 rfl 0 rfl ?_
  refine a_getq dX2_countGlasses_45 G_X2_20 zs_17 rfl (rf_17_2 hR) ?_
  refine a_bipush (v := 8) dX2_countGlasses_48 (by decide) ?_
  refine a_iload_n dX2_countGlasses_50 rfl 1 rfl ?_
  refine a_iload_n dX2_countGlasses_51 rfl 2 rfl ?_
  obtain ⟨q9, hq9, h⟩ := zbind h
  refine a_callS dX2_countGlasses_52 (tX2_has hR zs_20 _ _ _ _ hq9) csX2_has zw801 (Nat.le_of_ble_eq_true rfl) rfl (Nat.le_of_ble_eq_true rfl) ⟨Nat.le_refl _, Nat.le_refl _⟩ (fun hb10 => ?_)
  refine a_if_eq (tgt := 63) dX2_countGlasses_55 rfl (fun hc11 => ?_) (fun hc11 => ?_)
  · rw [if_pos hc11] at h
    refine a_iconst (v := (-1)) dX2_countGlasses_63 (by decide) ?_
    cases h
    exact a_iret dX2_countGlasses_64 (by intro h; cases h) (znar_i rfl)
  · rw [if_neg hc11] at h
    refine a_bipush (v := 8) dX2_countGlasses_58 (by decide) ?_
    refine a_goto (tgt := 64) dX2_countGlasses_60 rfl ?_
    cases h
    exact a_iret dX2_countGlasses_64 (by intro h; cases h) (znar_i rfl)
def fX2_traceBack_35 (I : zPI) (K : Int32 → zPL → Option (zPL)) : Nat → Int32 → Int32 → zPL → Option (zPL)
  | 0, _, _, _ => none
  | n + 1, v3, v4, L => (if 32 ≤ v4 then K v3 L else (if zin ((v3 * 32) + v4) 256 then (if zin ((v3 * 32) + v4) 256 then (fX2_move 21 L (v3 + 1) v3 (-(I 18 ((v3 * 32) + v4).toNatClampNeg)) (-(I 19 ((v3 * 32) + v4).toNatClampNeg))).bind (fun q7 => fX2_traceBack_35 I K n v3 (v4 + 1) q7) else none) else none))
def fX2_traceBack_20 (I : zPI) (K : zPL → Option (zPL)) : Nat → Int32 → zPL → Option (zPL)
  | 0, _, _ => none
  | n + 1, v3, L => (if v3 ≤ 0 then K L else (fX2_clear 21 L v3).bind (fun q3 => fX2_traceBack_35 I (fun v3 L => fX2_traceBack_20 I K n (v3 + (-1)) L) zF v3 0 q3))
def fX2_traceBack (I : zPI) (L : zPL) (p1 : Int32) (p2 : Int32) : Option (zPL) := (fX2_putOnly 21 L (I 17 5) p1 p2).bind (fun q1 => fX2_traceBack_20 I (fun L => some (L)) zF ((I 17 5) - 1) q1)
set_option maxRecDepth 100000 in
theorem tX2_traceBack_35 {X : Nat × (Nat → Int32)} {I : zPI} {F : zPF} {a b : Nat} {c : Option Nat} (hR : zRin F a b c) {r : zPL} {K : Int32 → zPL → Option (zPL)} (hK : ∀ (v3 : Int32) (L : zPL), K v3 L = some r → zAW zE0 X mX2_traceBack 2 84 [(0, zr 17), (3, zi v3)] [] (zS0, I, L, F) none (zS0, I, r, F)) : ∀ (n : Nat) (v3 : Int32) (v4 : Int32) (L : zPL), fX2_traceBack_35 I K n v3 v4 L = some r → zAW zE0 X mX2_traceBack 2 35 [(0, zr 17), (3, zi v3), (4, zi v4)] [] (zS0, I, L, F) none (zS0, I, r, F) := by
  intro n
  induction n with
  | zero =>
    intro v3 v4 L h
    rw [fX2_traceBack_35.eq_1] at h
    cases h
  | succ n ih =>
    intro v3 v4 L h
    rw [fX2_traceBack_35.eq_2] at h
    refine a_iload dX2_traceBack_35 2 rfl ?_
    refine a_bipush (v := 32) dX2_traceBack_37 (by decide) ?_
    refine a_icmp_ge (tgt := 84) dX2_traceBack_39 rfl (fun hc9 => ?_) (fun hc9 => ?_)
    · rw [if_pos hc9] at h
      refine a_sub [0, 1] rfl ?_
      exact hK _ _ h
    · rw [if_neg hc9] at h
      refine a_iload_n dX2_traceBack_42 rfl 1 rfl ?_
      refine a_bipush (v := 32) dX2_traceBack_43 (by decide) ?_
      refine a_imul dX2_traceBack_45 ?_
      refine a_iload dX2_traceBack_46 2 rfl ?_
      refine a_iadd dX2_traceBack_48 ?_
      refine a_istore dX2_traceBack_49 (by decide) rfl ?_
      refine a_aload_n dX2_traceBack_51 rfl 1 rfl ?_
      refine a_getq dX2_traceBack_52 G_X2_24 zs_17 rfl (rf_17_3 hR) ?_
      refine a_iload_n dX2_traceBack_55 rfl 2 rfl ?_
      refine a_iconst (v := 1) dX2_traceBack_56 (by decide) ?_
      refine a_iadd dX2_traceBack_57 ?_
      refine a_iload_n dX2_traceBack_58 rfl 2 rfl ?_
      refine a_aload_n dX2_traceBack_59 rfl 1 rfl ?_
      refine a_getq dX2_traceBack_60 G_X2_13 zs_17 rfl (rf_17_0 hR) ?_
      refine a_iload dX2_traceBack_63 0 rfl ?_
      obtain ⟨hz5, h⟩ := zif h
      refine a_iald dX2_traceBack_65 zs_18 (zin_vp hz5) ?_
      refine a_ineg dX2_traceBack_66 ?_
      refine a_aload_n dX2_traceBack_67 rfl 1 rfl ?_
      refine a_getq dX2_traceBack_68 G_X2_17 zs_17 rfl (rf_17_1 hR) ?_
      refine a_iload dX2_traceBack_71 0 rfl ?_
      obtain ⟨hz6, h⟩ := zif h
      refine a_iald dX2_traceBack_73 zs_19 (zin_vp hz6) ?_
      refine a_ineg dX2_traceBack_74 ?_
      obtain ⟨q7, hq7, h⟩ := zbind h
      refine a_callS dX2_traceBack_75 (tX2_move hR zs_21 _ _ _ _ _ hq7) csX2_move zw808 (Nat.le_of_ble_eq_true rfl) rfl (Nat.le_of_ble_eq_true rfl) ⟨Nat.le_refl _, Nat.le_refl _⟩ (fun hb8 => ?_)
      refine a_iincK (k0 := 1) dX2_traceBack_78 (by decide) 3 rfl (by decide) rfl ?_
      refine a_goto (tgt := 35) dX2_traceBack_81 rfl ?_
      refine a_sub [2, 3, 0] rfl ?_
      exact ih _ _ _ h
set_option maxRecDepth 100000 in
theorem tX2_traceBack_20 {X : Nat × (Nat → Int32)} {I : zPI} {F : zPF} {a b : Nat} {c : Option Nat} (hR : zRin F a b c) {r : zPL} {K : zPL → Option (zPL)} (hK : ∀ (L : zPL), K L = some r → zAW zE0 X mX2_traceBack 2 90 [] [] (zS0, I, L, F) none (zS0, I, r, F)) : ∀ (n : Nat) (v3 : Int32) (L : zPL), fX2_traceBack_20 I K n v3 L = some r → zAW zE0 X mX2_traceBack 2 20 [(0, zr 17), (3, zi v3)] [] (zS0, I, L, F) none (zS0, I, r, F) := by
  intro n
  induction n with
  | zero =>
    intro v3 L h
    rw [fX2_traceBack_20.eq_1] at h
    cases h
  | succ n ih =>
    intro v3 L h
    rw [fX2_traceBack_20.eq_2] at h
    refine a_iload_n dX2_traceBack_20 rfl 1 rfl ?_
    refine a_if_le (tgt := 90) dX2_traceBack_21 rfl (fun hc10 => ?_) (fun hc10 => ?_)
    · rw [if_pos hc10] at h
      refine a_sub [] rfl ?_
      exact hK _ h
    · rw [if_neg hc10] at h
      refine a_aload_n dX2_traceBack_24 rfl 0 rfl ?_
      refine a_getq dX2_traceBack_25 G_X2_24 zs_17 rfl (rf_17_3 hR) ?_
      refine a_iload_n dX2_traceBack_28 rfl 1 rfl ?_
      obtain ⟨q3, hq3, h⟩ := zbind h
      refine a_callS dX2_traceBack_29 (tX2_clear hR zs_21 _ _ hq3) csX2_clear zw798 (Nat.le_of_ble_eq_true rfl) rfl (Nat.le_of_ble_eq_true rfl) ⟨Nat.le_refl _, Nat.le_refl _⟩ (fun hb4 => ?_)
      refine a_iconst (v := 0) dX2_traceBack_32 (by decide) ?_
      refine a_istore dX2_traceBack_33 (by decide) rfl ?_
      refine a_sub [1, 2, 0] rfl ?_
      refine tX2_traceBack_35 hR (fun v3 L h => ?_) zF _ _ _ h
      (try dsimp only at h)
      refine a_iincK (k0 := (-1)) dX2_traceBack_84 (by decide) 1 rfl (by decide) rfl ?_
      refine a_goto (tgt := 20) dX2_traceBack_87 rfl ?_
      refine a_sub [1, 0] rfl ?_
      exact ih _ _ h
set_option maxRecDepth 100000 in
theorem tX2_traceBack {X : Nat × (Nat → Int32)} {I : zPI} {L : zPL} {F : zPF} {a b : Nat} {c : Option Nat} (hR : zRin F a b c) (p1 : Int32) (p2 : Int32) (r : zPL) (h : fX2_traceBack I L p1 p2 = some r) : zAM X mX2_traceBack 2 [zr 17, zi p1, zi p2] (zS0, I, L, F) none (zS0, I, r, F) := by
  refine zAM_of (by decide) (Nat.le_of_ble_eq_true rfl) ⟨fun _ => rfl, fun _ => rfl⟩ (Nat.le_refl _) (Nat.le_refl _) ?_
  unfold fX2_traceBack at h
  show zAW zE0 X mX2_traceBack 2 0 [(0, zr 17), (1, zi p1), (2, zi p2)] [] (zS0, I, L, F) none (zS0, I, r, F)
  refine a_aload_n dX2_traceBack_0 rfl 0 rfl ?_
  refine a_getq dX2_traceBack_1 G_X2_24 zs_17 rfl (rf_17_3 hR) ?_
  refine a_aload_n dX2_traceBack_4 rfl 0 rfl ?_
  refine a_geti dX2_traceBack_5 G_X2_60 zs_17 rfl ?_
  refine a_iload_n dX2_traceBack_8 rfl 1 rfl ?_
  refine a_iload_n dX2_traceBack_9 rfl 2 rfl ?_
  obtain ⟨q1, hq1, h⟩ := zbind h
  refine a_callS dX2_traceBack_10 (tX2_putOnly hR zs_21 _ _ _ _ hq1) csX2_putOnly zw795 (Nat.le_of_ble_eq_true rfl) rfl (Nat.le_of_ble_eq_true rfl) ⟨Nat.le_refl _, Nat.le_refl _⟩ (fun hb2 => ?_)
  refine a_aload_n dX2_traceBack_13 rfl 0 rfl ?_
  refine a_geti dX2_traceBack_14 G_X2_60 zs_17 rfl ?_
  refine a_iconst (v := 1) dX2_traceBack_17 (by decide) ?_
  refine a_isub dX2_traceBack_18 ?_
  refine a_istore_n dX2_traceBack_19 rfl (by decide) rfl ?_
  refine a_sub [1, 0] rfl ?_
  refine tX2_traceBack_20 hR (fun L h => ?_) zF _ _ h
  (try dsimp only at h)
  cases h
  exact a_vret dX2_traceBack_90 rfl
def fX2_make (I : zPI) (L : zPL) (p1 : Int32) (p2 : Int32) : Option (Int32 × zPI × zPL) := (if (fX2_isPlace p1 p2) = 0 then some ((-1), I, L) else (fX2_countGlasses I L p1 p2).bind (fun q2 => (if ((zu I 17 5 (zmmax 0 q2.1)) 17 5) ≤ 0 then some (q2.1, zu I 17 5 (zmmax 0 q2.1), q2.2) else (fX2_traceBack (zu I 17 5 (zmmax 0 q2.1)) q2.2 p1 p2).bind (fun q4 => (fX2_chooseCourses (zu I 17 5 (zmmax 0 q2.1)) q4).bind (fun q6 => some (q2.1, q6, q4))))))
set_option maxRecDepth 100000 in
theorem tX2_make {X : Nat × (Nat → Int32)} {I : zPI} {L : zPL} {F : zPF} {a b : Nat} {c : Option Nat} (hR : zRin F a b c) (p1 : Int32) (p2 : Int32) (r : Int32 × zPI × zPL) (h : fX2_make I L p1 p2 = some r) : zAM X mX2_make 4 [zr 17, zi p1, zi p2] (zS0, I, L, F) (some (zi r.1)) (zS0, r.2.1, r.2.2, F) := by
  refine zAM_of (by decide) (Nat.le_of_ble_eq_true rfl) ⟨fun h => (by cases h), fun h => (by cases h)⟩ (Nat.le_refl _) (Nat.le_refl _) ?_
  unfold fX2_make at h
  show zAW zE0 X mX2_make 4 0 [(0, zr 17), (1, zi p1), (2, zi p2)] [] (zS0, I, L, F) (some (zi r.1)) (zS0, r.2.1, r.2.2, F)
  refine a_iload_n dX2_make_0 rfl 1 rfl ?_
  refine a_iload_n dX2_make_1 rfl 2 rfl ?_
  refine a_callS dX2_make_2 (tX2_isPlace hR _ _ _ rfl) csX2_isPlace zw788 (Nat.le_of_ble_eq_true rfl) rfl (Nat.le_of_ble_eq_true rfl) ⟨Nat.le_refl _, Nat.le_refl _⟩ (fun hb1 => ?_)
  refine a_if_ne (tgt := 10) dX2_make_5 rfl (fun hc9 => ?_) (fun hc9 => ?_)
  · rw [if_neg hc9] at h
    refine a_aload_n dX2_make_10 rfl 0 rfl ?_
    refine a_iload_n dX2_make_11 rfl 1 rfl ?_
    refine a_iload_n dX2_make_12 rfl 2 rfl ?_
    obtain ⟨q2, hq2, h⟩ := zbind h
    refine a_callV dX2_make_13 (tX2_countGlasses hR _ _ _ hq2) csX2_countGlasses zw791 (Nat.le_of_ble_eq_true rfl) zs_17 rfl rfl (Nat.le_of_ble_eq_true rfl) ⟨Nat.le_refl _, Nat.le_refl _⟩ (fun hb3 => ?_)
    refine a_istore_n dX2_make_16 rfl (by decide) rfl ?_
    refine a_aload_n dX2_make_17 rfl 1 rfl ?_
    refine a_iconst (v := 0) dX2_make_18 (by decide) ?_
    refine a_iload_n dX2_make_19 rfl 0 rfl ?_
    refine a_mmax dX2_make_20 zw811 (Nat.le_of_ble_eq_true rfl) (Nat.le_of_ble_eq_true rfl) ⟨Nat.le_refl _, Nat.le_refl _⟩ ?_
    refine a_puti dX2_make_23 F_X2_60 zs_17 rfl ⟨rfl, rfl⟩ ?_
    refine a_aload_n dX2_make_26 rfl 1 rfl ?_
    refine a_geti dX2_make_27 G_X2_60 zs_17 rfl ?_
    refine a_if_le (tgt := 43) dX2_make_30 rfl (fun hc8 => ?_) (fun hc8 => ?_)
    · rw [if_pos hc8] at h
      refine a_iload_n dX2_make_43 rfl 0 rfl ?_
      cases h
      exact a_iret dX2_make_44 (by intro h; cases h) (znar_i rfl)
    · rw [if_neg hc8] at h
      refine a_aload_n dX2_make_33 rfl 1 rfl ?_
      refine a_iload_n dX2_make_34 rfl 2 rfl ?_
      refine a_iload_n dX2_make_35 rfl 3 rfl ?_
      obtain ⟨q4, hq4, h⟩ := zbind h
      refine a_callV dX2_make_36 (tX2_traceBack hR _ _ _ hq4) csX2_traceBack zw813 (Nat.le_of_ble_eq_true rfl) zs_17 rfl rfl (Nat.le_of_ble_eq_true rfl) ⟨Nat.le_refl _, Nat.le_refl _⟩ (fun hb5 => ?_)
      refine a_aload_n dX2_make_39 rfl 1 rfl ?_
      obtain ⟨q6, hq6, h⟩ := zbind h
      refine a_callV dX2_make_40 (tX2_chooseCourses hR _ hq6) csX2_chooseCourses zw817 (Nat.le_of_ble_eq_true rfl) zs_17 rfl rfl (Nat.le_of_ble_eq_true rfl) ⟨Nat.le_refl _, Nat.le_refl _⟩ (fun hb7 => ?_)
      refine a_iload_n dX2_make_43 rfl 0 rfl ?_
      cases h
      exact a_iret dX2_make_44 (by intro h; cases h) (znar_i rfl)
  · rw [if_pos hc9] at h
    refine a_iconst (v := (-1)) dX2_make_8 (by decide) ?_
    cases h
    exact a_iret dX2_make_9 (by intro h; cases h) (znar_i rfl)
def fX2_tell_23 (K : zPI → Option (Int32 × zPI)) : Nat → Int32 → Int32 → Int32 → Int32 → zPI → Option (Int32 × zPI)
  | 0, _, _, _, _, _ => none
  | n + 1, v1, v2, v3, v4, I => (if 32 ≤ v4 then K I else (fX0_pull I (fX0_apart v2 v4)).bind (fun q3 => (fX0_east I v4).bind (fun q5 => (if zin ((v1 * 32) + v4) 256 then (fX0_north (zu I 18 ((v1 * 32) + v4).toNatClampNeg (((zmmin 12 ((v3 * q3) / 8)) * q5) / 16)) v4).bind (fun q8 => (if zin ((v1 * 32) + v4) 256 then fX2_tell_23 K n v1 v2 v3 (v4 + 1) (zu (zu I 18 ((v1 * 32) + v4).toNatClampNeg (((zmmin 12 ((v3 * q3) / 8)) * q5) / 16)) 19 ((v1 * 32) + v4).toNatClampNeg (((zmmin 12 ((v3 * q3) / 8)) * q8) / 16)) else none)) else none))))
def fX2_tell (I : zPI) (p1 : Int32) (p2 : Int32) (p3 : Int32) : Option (Int32 × zPI) := (if p1 < 0 then some (0, I) else (if 8 ≤ p1 then some (0, I) else (if (fX0_isWind p2 p3) = 0 then some (0, I) else fX2_tell_23 (fun I => some (1, I)) zF p1 p2 p3 0 I)))
set_option maxRecDepth 100000 in
theorem tX2_tell_23 {X : Nat × (Nat → Int32)} {L : zPL} {F : zPF} {a b : Nat} {c : Option Nat} (hR : zRin F a b c) {r : Int32 × zPI} {K : zPI → Option (Int32 × zPI)} (hK : ∀ (I : zPI), K I = some r → zAW zE0 X mX2_tell 2 107 [] [] (zS0, I, L, F) (some (zi r.1)) (zS0, r.2, L, F)) : ∀ (n : Nat) (v1 : Int32) (v2 : Int32) (v3 : Int32) (v4 : Int32) (I : zPI), fX2_tell_23 K n v1 v2 v3 v4 I = some r → zAW zE0 X mX2_tell 2 23 [(0, zr 17), (1, zi v1), (2, zi v2), (3, zi v3), (4, zi v4)] [] (zS0, I, L, F) (some (zi r.1)) (zS0, r.2, L, F) := by
  intro n
  induction n with
  | zero =>
    intro v1 v2 v3 v4 I h
    rw [fX2_tell_23.eq_1] at h
    cases h
  | succ n ih =>
    intro v1 v2 v3 v4 I h
    rw [fX2_tell_23.eq_2] at h
    refine a_iload dX2_tell_23 4 rfl ?_
    refine a_bipush (v := 32) dX2_tell_25 (by decide) ?_
    refine a_icmp_ge (tgt := 107) dX2_tell_27 rfl (fun hc11 => ?_) (fun hc11 => ?_)
    · rw [if_pos hc11] at h
      refine a_sub [] rfl ?_
      exact hK _ h
    · rw [if_neg hc11] at h
      refine a_iload_n dX2_tell_30 rfl 2 rfl ?_
      refine a_iload dX2_tell_31 4 rfl ?_
      refine a_callS dX2_tell_33 (tX0_apart hR _ _ _ rfl) csX0_apart zw775 (Nat.le_of_ble_eq_true rfl) rfl (Nat.le_of_ble_eq_true rfl) ⟨Nat.le_refl _, Nat.le_refl _⟩ (fun hb2 => ?_)
      obtain ⟨q3, hq3, h⟩ := zbind h
      refine a_callS dX2_tell_36 (tX0_pull hR _ _ hq3) csX0_pull zw776 (Nat.le_of_ble_eq_true rfl) rfl (Nat.le_of_ble_eq_true rfl) ⟨Nat.le_refl _, Nat.le_refl _⟩ (fun hb4 => ?_)
      refine a_istore dX2_tell_39 (by decide) rfl ?_
      refine a_bipush (v := 12) dX2_tell_41 (by decide) ?_
      refine a_iload_n dX2_tell_43 rfl 4 rfl ?_
      refine a_iload dX2_tell_44 0 rfl ?_
      refine a_imul dX2_tell_46 ?_
      refine a_bipush (v := 8) dX2_tell_47 (by decide) ?_
      refine a_idiv dX2_tell_49 (by decide) ?_
      refine a_mmin dX2_tell_50 zw777 (Nat.le_of_ble_eq_true rfl) (Nat.le_of_ble_eq_true rfl) ⟨Nat.le_refl _, Nat.le_refl _⟩ ?_
      refine a_istore dX2_tell_53 (by decide) rfl ?_
      refine a_aload_n dX2_tell_55 rfl 2 rfl ?_
      refine a_getq dX2_tell_56 G_X2_13 zs_17 rfl (rf_17_0 hR) ?_
      refine a_iload_n dX2_tell_59 rfl 3 rfl ?_
      refine a_bipush (v := 32) dX2_tell_60 (by decide) ?_
      refine a_imul dX2_tell_62 ?_
      refine a_iload dX2_tell_63 6 rfl ?_
      refine a_iadd dX2_tell_65 ?_
      refine a_iload dX2_tell_66 0 rfl ?_
      refine a_iload dX2_tell_68 6 rfl ?_
      obtain ⟨q5, hq5, h⟩ := zbind h
      refine a_callS dX2_tell_70 (tX0_east hR _ _ hq5) csX0_east zw778 (Nat.le_of_ble_eq_true rfl) rfl (Nat.le_of_ble_eq_true rfl) ⟨Nat.le_refl _, Nat.le_refl _⟩ (fun hb6 => ?_)
      refine a_imul dX2_tell_73 ?_
      refine a_bipush (v := 16) dX2_tell_74 (by decide) ?_
      refine a_idiv dX2_tell_76 (by decide) ?_
      obtain ⟨hz7, h⟩ := zif h
      refine a_iast dX2_tell_77 zs_18 (zin_vp hz7) ?_
      refine a_aload_n dX2_tell_78 rfl 2 rfl ?_
      refine a_getq dX2_tell_79 G_X2_17 zs_17 rfl (rf_17_1 hR) ?_
      refine a_iload_n dX2_tell_82 rfl 3 rfl ?_
      refine a_bipush (v := 32) dX2_tell_83 (by decide) ?_
      refine a_imul dX2_tell_85 ?_
      refine a_iload dX2_tell_86 6 rfl ?_
      refine a_iadd dX2_tell_88 ?_
      refine a_iload dX2_tell_89 0 rfl ?_
      refine a_iload dX2_tell_91 6 rfl ?_
      obtain ⟨q8, hq8, h⟩ := zbind h
      refine a_callS dX2_tell_93 (tX0_north hR _ _ hq8) csX0_north zw779 (Nat.le_of_ble_eq_true rfl) rfl (Nat.le_of_ble_eq_true rfl) ⟨Nat.le_refl _, Nat.le_refl _⟩ (fun hb9 => ?_)
      refine a_imul dX2_tell_96 ?_
      refine a_bipush (v := 16) dX2_tell_97 (by decide) ?_
      refine a_idiv dX2_tell_99 (by decide) ?_
      obtain ⟨hz10, h⟩ := zif h
      refine a_iast dX2_tell_100 zs_19 (zin_vp hz10) ?_
      refine a_iincK (k0 := 1) dX2_tell_101 (by decide) 6 rfl (by decide) rfl ?_
      refine a_goto (tgt := 23) dX2_tell_104 rfl ?_
      refine a_sub [3, 4, 5, 6, 0] rfl ?_
      exact ih _ _ _ _ _ h
set_option maxRecDepth 100000 in
theorem tX2_tell {X : Nat × (Nat → Int32)} {I : zPI} {L : zPL} {F : zPF} {a b : Nat} {c : Option Nat} (hR : zRin F a b c) (p1 : Int32) (p2 : Int32) (p3 : Int32) (r : Int32 × zPI) (h : fX2_tell I p1 p2 p3 = some r) : zAM X mX2_tell 2 [zr 17, zi p1, zi p2, zi p3] (zS0, I, L, F) (some (zi r.1)) (zS0, r.2, L, F) := by
  refine zAM_of (by decide) (Nat.le_of_ble_eq_true rfl) ⟨fun h => (by cases h), fun h => (by cases h)⟩ (Nat.le_refl _) (Nat.le_refl _) ?_
  unfold fX2_tell at h
  show zAW zE0 X mX2_tell 2 0 [(0, zr 17), (1, zi p1), (2, zi p2), (3, zi p3)] [] (zS0, I, L, F) (some (zi r.1)) (zS0, r.2, L, F)
  refine a_iload_n dX2_tell_0 rfl 1 rfl ?_
  refine a_if_lt (tgt := 18) dX2_tell_1 rfl (fun hc14 => ?_) (fun hc14 => ?_)
  · rw [if_pos hc14] at h
    refine a_iconst (v := 0) dX2_tell_18 (by decide) ?_
    cases h
    exact a_iret dX2_tell_19 (by intro h; cases h) (znar_b0 rfl)
  · rw [if_neg hc14] at h
    refine a_iload_n dX2_tell_4 rfl 1 rfl ?_
    refine a_bipush (v := 8) dX2_tell_5 (by decide) ?_
    refine a_icmp_ge (tgt := 18) dX2_tell_7 rfl (fun hc13 => ?_) (fun hc13 => ?_)
    · rw [if_pos hc13] at h
      refine a_iconst (v := 0) dX2_tell_18 (by decide) ?_
      cases h
      exact a_iret dX2_tell_19 (by intro h; cases h) (znar_b0 rfl)
    · rw [if_neg hc13] at h
      refine a_iload_n dX2_tell_10 rfl 2 rfl ?_
      refine a_iload_n dX2_tell_11 rfl 3 rfl ?_
      refine a_callS dX2_tell_12 (tX0_isWind hR _ _ _ rfl) csX0_isWind zw774 (Nat.le_of_ble_eq_true rfl) rfl (Nat.le_of_ble_eq_true rfl) ⟨Nat.le_refl _, Nat.le_refl _⟩ (fun hb1 => ?_)
      refine a_if_ne (tgt := 20) dX2_tell_15 rfl (fun hc12 => ?_) (fun hc12 => ?_)
      · rw [if_neg hc12] at h
        refine a_iconst (v := 0) dX2_tell_20 (by decide) ?_
        refine a_istore dX2_tell_21 (by decide) rfl ?_
        refine a_sub [1, 2, 3, 4, 0] rfl ?_
        refine tX2_tell_23 hR (fun I h => ?_) zF _ _ _ _ _ h
        (try dsimp only at h)
        refine a_iconst (v := 1) dX2_tell_107 (by decide) ?_
        cases h
        exact a_iret dX2_tell_108 (by intro h; cases h) (znar_b1 rfl)
      · rw [if_pos hc12] at h
        refine a_iconst (v := 0) dX2_tell_18 (by decide) ?_
        cases h
        exact a_iret dX2_tell_19 (by intro h; cases h) (znar_b0 rfl)
