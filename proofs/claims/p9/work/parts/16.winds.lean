def fX7_find_14 (K : zPI → Option (zPI)) : Nat → Int32 → Int32 → Int32 → zPI → Option (zPI)
  | 0, _, _, _, _ => none
  | n + 1, v1, v2, v3, I => (if (I 9 3) ≤ v3 then K I else (if zin v3 60 then (if v1 < (I 10 v3.toNatClampNeg) then fX7_find_14 K n v1 v2 (v3 + 1) I else (if zin v3 60 then (if (I 10 v3.toNatClampNeg) < v2 then fX7_find_14 K n v1 v2 (v3 + 1) I else (if zin v3 60 then (if zin v3 60 then (if zin v3 60 then fX7_find_14 K n v1 (I 10 v3.toNatClampNeg) (v3 + 1) (zu (zu I 9 5 (I 11 v3.toNatClampNeg)) 9 6 ((zu I 9 5 (I 11 v3.toNatClampNeg)) 12 v3.toNatClampNeg)) else none) else none) else none)) else none)) else none))
def fX7_find (I : zPI) (p1 : Int32) : Option (zPI) := fX7_find_14 (fun I => some (I)) zF p1 0 0 (zu (zu I 9 5 0) 9 6 0)
set_option maxRecDepth 100000 in
theorem tX7_find_14 {X : Nat × (Nat → Int32)} {L : zPL} {F : zPF} {a b : Nat} {c : Option Nat} (hR : zRin F a b c) {r : zPI} {K : zPI → Option (zPI)} (hK : ∀ (I : zPI), K I = some r → zAW zE0 X mX7_find 0 75 [] [] (zS0, I, L, F) none (zS0, r, L, F)) : ∀ (n : Nat) (v1 : Int32) (v2 : Int32) (v3 : Int32) (I : zPI), fX7_find_14 K n v1 v2 v3 I = some r → zAW zE0 X mX7_find 0 14 [(0, zr 9), (1, zi v1), (2, zi v2), (3, zi v3)] [] (zS0, I, L, F) none (zS0, r, L, F) := by
  intro n
  induction n with
  | zero =>
    intro v1 v2 v3 I h
    rw [fX7_find_14.eq_1] at h
    cases h
  | succ n ih =>
    intro v1 v2 v3 I h
    rw [fX7_find_14.eq_2] at h
    refine a_iload_n dX7_find_14 rfl 3 rfl ?_
    refine a_aload_n dX7_find_15 rfl 0 rfl ?_
    refine a_geti dX7_find_16 G_X7_26 zs_9 rfl ?_
    refine a_icmp_ge (tgt := 75) dX7_find_19 rfl (fun hc8 => ?_) (fun hc8 => ?_)
    · rw [if_pos hc8] at h
      refine a_sub [] rfl ?_
      exact hK _ h
    · rw [if_neg hc8] at h
      refine a_aload_n dX7_find_22 rfl 0 rfl ?_
      refine a_getq dX7_find_23 G_X7_9 zs_9 rfl (rf_9_0 hR) ?_
      refine a_iload_n dX7_find_26 rfl 3 rfl ?_
      obtain ⟨hz1, h⟩ := zif h
      refine a_iald dX7_find_27 zs_10 (zin_vp hz1) ?_
      refine a_iload_n dX7_find_28 rfl 1 rfl ?_
      refine a_icmp_gt (tgt := 69) dX7_find_29 rfl (fun hc7 => ?_) (fun hc7 => ?_)
      · rw [if_pos hc7] at h
        refine a_iincK (k0 := 1) dX7_find_69 (by decide) 3 rfl (by decide) rfl ?_
        refine a_goto (tgt := 14) dX7_find_72 rfl ?_
        refine a_sub [1, 2, 3, 0] rfl ?_
        exact ih _ _ _ _ h
      · rw [if_neg hc7] at h
        refine a_aload_n dX7_find_32 rfl 0 rfl ?_
        refine a_getq dX7_find_33 G_X7_9 zs_9 rfl (rf_9_0 hR) ?_
        refine a_iload_n dX7_find_36 rfl 3 rfl ?_
        obtain ⟨hz2, h⟩ := zif h
        refine a_iald dX7_find_37 zs_10 (zin_vp hz2) ?_
        refine a_iload_n dX7_find_38 rfl 2 rfl ?_
        refine a_icmp_lt (tgt := 69) dX7_find_39 rfl (fun hc6 => ?_) (fun hc6 => ?_)
        · rw [if_pos hc6] at h
          refine a_iincK (k0 := 1) dX7_find_69 (by decide) 3 rfl (by decide) rfl ?_
          refine a_goto (tgt := 14) dX7_find_72 rfl ?_
          refine a_sub [1, 2, 3, 0] rfl ?_
          exact ih _ _ _ _ h
        · rw [if_neg hc6] at h
          refine a_aload_n dX7_find_42 rfl 0 rfl ?_
          refine a_getq dX7_find_43 G_X7_9 zs_9 rfl (rf_9_0 hR) ?_
          refine a_iload_n dX7_find_46 rfl 3 rfl ?_
          obtain ⟨hz3, h⟩ := zif h
          refine a_iald dX7_find_47 zs_10 (zin_vp hz3) ?_
          refine a_istore_n dX7_find_48 rfl (by decide) rfl ?_
          refine a_aload_n dX7_find_49 rfl 1 rfl ?_
          refine a_aload_n dX7_find_50 rfl 1 rfl ?_
          refine a_getq dX7_find_51 G_X7_13 zs_9 rfl (rf_9_1 hR) ?_
          refine a_iload_n dX7_find_54 rfl 3 rfl ?_
          obtain ⟨hz4, h⟩ := zif h
          refine a_iald dX7_find_55 zs_11 (zin_vp hz4) ?_
          refine a_puti dX7_find_56 F_X7_38 zs_9 rfl ⟨rfl, rfl⟩ ?_
          refine a_aload_n dX7_find_59 rfl 1 rfl ?_
          refine a_aload_n dX7_find_60 rfl 1 rfl ?_
          refine a_getq dX7_find_61 G_X7_16 zs_9 rfl (rf_9_2 hR) ?_
          refine a_iload_n dX7_find_64 rfl 3 rfl ?_
          obtain ⟨hz5, h⟩ := zif h
          refine a_iald dX7_find_65 zs_12 (zin_vp hz5) ?_
          refine a_puti dX7_find_66 F_X7_41 zs_9 rfl ⟨rfl, rfl⟩ ?_
          refine a_iincK (k0 := 1) dX7_find_69 (by decide) 3 rfl (by decide) rfl ?_
          refine a_goto (tgt := 14) dX7_find_72 rfl ?_
          refine a_sub [2, 3, 1, 0] rfl ?_
          exact ih _ _ _ _ h
set_option maxRecDepth 100000 in
theorem tX7_find {X : Nat × (Nat → Int32)} {I : zPI} {L : zPL} {F : zPF} {a b : Nat} {c : Option Nat} (hR : zRin F a b c) (p1 : Int32) (r : zPI) (h : fX7_find I p1 = some r) : zAM X mX7_find 0 [zr 9, zi p1] (zS0, I, L, F) none (zS0, r, L, F) := by
  refine zAM_of (by decide) (Nat.le_of_ble_eq_true rfl) ⟨fun _ => rfl, fun _ => rfl⟩ (Nat.le_refl _) (Nat.le_refl _) ?_
  unfold fX7_find at h
  show zAW zE0 X mX7_find 0 0 [(0, zr 9), (1, zi p1)] [] (zS0, I, L, F) none (zS0, r, L, F)
  refine a_iconst (v := 0) dX7_find_0 (by decide) ?_
  refine a_istore_n dX7_find_1 rfl (by decide) rfl ?_
  refine a_aload_n dX7_find_2 rfl 1 rfl ?_
  refine a_iconst (v := 0) dX7_find_3 (by decide) ?_
  refine a_puti dX7_find_4 F_X7_38 zs_9 rfl ⟨rfl, rfl⟩ ?_
  refine a_aload_n dX7_find_7 rfl 1 rfl ?_
  refine a_iconst (v := 0) dX7_find_8 (by decide) ?_
  refine a_puti dX7_find_9 F_X7_41 zs_9 rfl ⟨rfl, rfl⟩ ?_
  refine a_iconst (v := 0) dX7_find_12 (by decide) ?_
  refine a_istore_n dX7_find_13 rfl (by decide) rfl ?_
  refine a_sub [2, 3, 1, 0] rfl ?_
  refine tX7_find_14 hR (fun I h => ?_) zF _ _ _ _ h
  (try dsimp only at h)
  cases h
  exact a_vret dX7_find_75 rfl
def fX7_blow (I : zPI) (p1 : Int32) : Option (zPI) := (fX7_find (zu I 9 4 1) p1).bind (fun q1 => some (q1))
set_option maxRecDepth 100000 in
theorem tX7_blow {X : Nat × (Nat → Int32)} {I : zPI} {L : zPL} {F : zPF} {a b : Nat} {c : Option Nat} (hR : zRin F a b c) (p1 : Int32) (r : zPI) (h : fX7_blow I p1 = some r) : zAM X mX7_blow 1 [zr 9, zi p1] (zS0, I, L, F) none (zS0, r, L, F) := by
  refine zAM_of (by decide) (Nat.le_of_ble_eq_true rfl) ⟨fun _ => rfl, fun _ => rfl⟩ (Nat.le_refl _) (Nat.le_refl _) ?_
  unfold fX7_blow at h
  show zAW zE0 X mX7_blow 1 0 [(0, zr 9), (1, zi p1)] [] (zS0, I, L, F) none (zS0, r, L, F)
  refine a_aload_n dX7_blow_0 rfl 0 rfl ?_
  refine a_iconst (v := 1) dX7_blow_1 (by decide) ?_
  refine a_puti dX7_blow_2 F_X7_30 zs_9 rfl ⟨rfl, rfl⟩ ?_
  refine a_aload_n dX7_blow_5 rfl 0 rfl ?_
  refine a_iload_n dX7_blow_6 rfl 1 rfl ?_
  obtain ⟨q1, hq1, h⟩ := zbind h
  refine a_callV dX7_blow_7 (tX7_find hR _ _ hq1) csX7_find zw570 (Nat.le_of_ble_eq_true rfl) zs_9 rfl rfl (Nat.le_of_ble_eq_true rfl) ⟨Nat.le_refl _, Nat.le_refl _⟩ (fun hb2 => ?_)
  cases h
  exact a_vret dX7_blow_10 rfl
def fX7_tell (I : zPI) (p1 : Int32) (p2 : Int32) (p3 : Int32) : Option (Int32 × zPI) := (if p1 < 0 then some (0, I) else (if 100000 < p1 then some (0, I) else (if (fX0_isWind p2 p3) = 0 then some (0, I) else (if (I 9 3) < 60 then (if zin (I 9 3) 60 then (if zin ((zu I 10 (I 9 3).toNatClampNeg p1) 9 3) 60 then (if zin ((zu (zu I 10 (I 9 3).toNatClampNeg p1) 11 ((zu I 10 (I 9 3).toNatClampNeg p1) 9 3).toNatClampNeg p2) 9 3) 60 then (if ((zu (zu (zu (zu I 10 (I 9 3).toNatClampNeg p1) 11 ((zu I 10 (I 9 3).toNatClampNeg p1) 9 3).toNatClampNeg p2) 12 ((zu (zu I 10 (I 9 3).toNatClampNeg p1) 11 ((zu I 10 (I 9 3).toNatClampNeg p1) 9 3).toNatClampNeg p2) 9 3).toNatClampNeg p3) 9 3 (((zu (zu (zu I 10 (I 9 3).toNatClampNeg p1) 11 ((zu I 10 (I 9 3).toNatClampNeg p1) 9 3).toNatClampNeg p2) 12 ((zu (zu I 10 (I 9 3).toNatClampNeg p1) 11 ((zu I 10 (I 9 3).toNatClampNeg p1) 9 3).toNatClampNeg p2) 9 3).toNatClampNeg p3) 9 3) + 1)) 9 4) = 0 then (fX7_find (zu (zu (zu (zu I 10 (I 9 3).toNatClampNeg p1) 11 ((zu I 10 (I 9 3).toNatClampNeg p1) 9 3).toNatClampNeg p2) 12 ((zu (zu I 10 (I 9 3).toNatClampNeg p1) 11 ((zu I 10 (I 9 3).toNatClampNeg p1) 9 3).toNatClampNeg p2) 9 3).toNatClampNeg p3) 9 3 (((zu (zu (zu I 10 (I 9 3).toNatClampNeg p1) 11 ((zu I 10 (I 9 3).toNatClampNeg p1) 9 3).toNatClampNeg p2) 12 ((zu (zu I 10 (I 9 3).toNatClampNeg p1) 11 ((zu I 10 (I 9 3).toNatClampNeg p1) 9 3).toNatClampNeg p2) 9 3).toNatClampNeg p3) 9 3) + 1)) 0).bind (fun q5 => some (1, q5)) else some (1, zu (zu (zu (zu I 10 (I 9 3).toNatClampNeg p1) 11 ((zu I 10 (I 9 3).toNatClampNeg p1) 9 3).toNatClampNeg p2) 12 ((zu (zu I 10 (I 9 3).toNatClampNeg p1) 11 ((zu I 10 (I 9 3).toNatClampNeg p1) 9 3).toNatClampNeg p2) 9 3).toNatClampNeg p3) 9 3 (((zu (zu (zu I 10 (I 9 3).toNatClampNeg p1) 11 ((zu I 10 (I 9 3).toNatClampNeg p1) 9 3).toNatClampNeg p2) 12 ((zu (zu I 10 (I 9 3).toNatClampNeg p1) 11 ((zu I 10 (I 9 3).toNatClampNeg p1) 9 3).toNatClampNeg p2) 9 3).toNatClampNeg p3) 9 3) + 1))) else none) else none) else none) else some (0, I)))))
set_option maxRecDepth 100000 in
theorem tX7_tell {X : Nat × (Nat → Int32)} {I : zPI} {L : zPL} {F : zPF} {a b : Nat} {c : Option Nat} (hR : zRin F a b c) (p1 : Int32) (p2 : Int32) (p3 : Int32) (r : Int32 × zPI) (h : fX7_tell I p1 p2 p3 = some r) : zAM X mX7_tell 1 [zr 9, zi p1, zi p2, zi p3] (zS0, I, L, F) (some (zi r.1)) (zS0, r.2, L, F) := by
  refine zAM_of (by decide) (Nat.le_of_ble_eq_true rfl) ⟨fun h => (by cases h), fun h => (by cases h)⟩ (Nat.le_refl _) (Nat.le_refl _) ?_
  unfold fX7_tell at h
  show zAW zE0 X mX7_tell 1 0 [(0, zr 9), (1, zi p1), (2, zi p2), (3, zi p3)] [] (zS0, I, L, F) (some (zi r.1)) (zS0, r.2, L, F)
  refine a_iload_n dX7_tell_0 rfl 1 rfl ?_
  refine a_if_lt (tgt := 18) dX7_tell_1 rfl (fun hc11 => ?_) (fun hc11 => ?_)
  · rw [if_pos hc11] at h
    refine a_iconst (v := 0) dX7_tell_18 (by decide) ?_
    cases h
    exact a_iret dX7_tell_19 (by intro h; cases h) (znar_b0 rfl)
  · rw [if_neg hc11] at h
    refine a_iload_n dX7_tell_4 rfl 1 rfl ?_
    refine a_ldc dX7_tell_5 zw566 ?_
    refine a_icmp_gt (tgt := 18) dX7_tell_7 rfl (fun hc10 => ?_) (fun hc10 => ?_)
    · rw [if_pos hc10] at h
      refine a_iconst (v := 0) dX7_tell_18 (by decide) ?_
      cases h
      exact a_iret dX7_tell_19 (by intro h; cases h) (znar_b0 rfl)
    · rw [if_neg hc10] at h
      refine a_iload_n dX7_tell_10 rfl 2 rfl ?_
      refine a_iload_n dX7_tell_11 rfl 3 rfl ?_
      refine a_callS dX7_tell_12 (tX0_isWind hR _ _ _ rfl) csX0_isWind zw567 (Nat.le_of_ble_eq_true rfl) rfl (Nat.le_of_ble_eq_true rfl) ⟨Nat.le_refl _, Nat.le_refl _⟩ (fun hb1 => ?_)
      refine a_if_ne (tgt := 20) dX7_tell_15 rfl (fun hc9 => ?_) (fun hc9 => ?_)
      · rw [if_neg hc9] at h
        refine a_aload_n dX7_tell_20 rfl 0 rfl ?_
        refine a_geti dX7_tell_21 G_X7_26 zs_9 rfl ?_
        refine a_bipush (v := 60) dX7_tell_24 (by decide) ?_
        refine a_icmp_lt (tgt := 31) dX7_tell_26 rfl (fun hc8 => ?_) (fun hc8 => ?_)
        · rw [if_pos hc8] at h
          refine a_aload_n dX7_tell_31 rfl 0 rfl ?_
          refine a_getq dX7_tell_32 G_X7_9 zs_9 rfl (rf_9_0 hR) ?_
          refine a_aload_n dX7_tell_35 rfl 0 rfl ?_
          refine a_geti dX7_tell_36 G_X7_26 zs_9 rfl ?_
          refine a_iload_n dX7_tell_39 rfl 1 rfl ?_
          obtain ⟨hz2, h⟩ := zif h
          refine a_iast dX7_tell_40 zs_10 (zin_vp hz2) ?_
          refine a_aload_n dX7_tell_41 rfl 0 rfl ?_
          refine a_getq dX7_tell_42 G_X7_13 zs_9 rfl (rf_9_1 hR) ?_
          refine a_aload_n dX7_tell_45 rfl 0 rfl ?_
          refine a_geti dX7_tell_46 G_X7_26 zs_9 rfl ?_
          refine a_iload_n dX7_tell_49 rfl 2 rfl ?_
          obtain ⟨hz3, h⟩ := zif h
          refine a_iast dX7_tell_50 zs_11 (zin_vp hz3) ?_
          refine a_aload_n dX7_tell_51 rfl 0 rfl ?_
          refine a_getq dX7_tell_52 G_X7_16 zs_9 rfl (rf_9_2 hR) ?_
          refine a_aload_n dX7_tell_55 rfl 0 rfl ?_
          refine a_geti dX7_tell_56 G_X7_26 zs_9 rfl ?_
          refine a_iload_n dX7_tell_59 rfl 3 rfl ?_
          obtain ⟨hz4, h⟩ := zif h
          refine a_iast dX7_tell_60 zs_12 (zin_vp hz4) ?_
          refine a_aload_n dX7_tell_61 rfl 0 rfl ?_
          refine a_dup dX7_tell_62 rfl ?_
          refine a_geti dX7_tell_63 G_X7_26 zs_9 rfl ?_
          refine a_iconst (v := 1) dX7_tell_66 (by decide) ?_
          refine a_iadd dX7_tell_67 ?_
          refine a_puti dX7_tell_68 F_X7_26 zs_9 rfl ⟨rfl, rfl⟩ ?_
          refine a_aload_n dX7_tell_71 rfl 0 rfl ?_
          refine a_geti dX7_tell_72 G_X7_30 zs_9 rfl ?_
          refine a_if_ne (tgt := 83) dX7_tell_75 rfl (fun hc7 => ?_) (fun hc7 => ?_)
          · rw [if_neg hc7] at h
            refine a_iconst (v := 1) dX7_tell_83 (by decide) ?_
            cases h
            exact a_iret dX7_tell_84 (by intro h; cases h) (znar_b1 rfl)
          · rw [if_pos hc7] at h
            refine a_aload_n dX7_tell_78 rfl 0 rfl ?_
            refine a_iconst (v := 0) dX7_tell_79 (by decide) ?_
            obtain ⟨q5, hq5, h⟩ := zbind h
            refine a_callV dX7_tell_80 (tX7_find hR _ _ hq5) csX7_find zw570 (Nat.le_of_ble_eq_true rfl) zs_9 rfl rfl (Nat.le_of_ble_eq_true rfl) ⟨Nat.le_refl _, Nat.le_refl _⟩ (fun hb6 => ?_)
            refine a_iconst (v := 1) dX7_tell_83 (by decide) ?_
            cases h
            exact a_iret dX7_tell_84 (by intro h; cases h) (znar_b1 rfl)
        · rw [if_neg hc8] at h
          refine a_iconst (v := 0) dX7_tell_29 (by decide) ?_
          cases h
          exact a_iret dX7_tell_30 (by intro h; cases h) (znar_b0 rfl)
      · rw [if_pos hc9] at h
        refine a_iconst (v := 0) dX7_tell_18 (by decide) ?_
        cases h
        exact a_iret dX7_tell_19 (by intro h; cases h) (znar_b0 rfl)
