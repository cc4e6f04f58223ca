def fX6_spells_28 (w : Nat) (I : zPI) (K : Option (Int32)) : Nat → Int32 → Option (Int32)
  | 0, _ => none
  | n + 1, v2 => (if (Int32.ofNat (zwd w).length) ≤ v2 then K else (if zin ((I 13 3) + v2) 1000 then (if zin v2 (zwd w).length then (if (I 14 ((I 13 3) + v2).toNatClampNeg) = (zch (zwd w) v2) then fX6_spells_28 w I K n (v2 + 1) else some 0) else none) else none))
def fX6_spells (w : Nat) (I : zPI) : Option (Int32) := (if (I 13 2) = 2 then (if ((I 13 5) - (I 13 3)) = (Int32.ofNat (zwd w).length) then fX6_spells_28 w I (some 1) zF 0 else some 0) else some 0)
set_option maxRecDepth 100000 in
theorem tX6_spells_28 {X : Nat × (Nat → Int32)} {I : zPI} {L : zPL} {F : zPF} {a b : Nat} {c : Option Nat} (hR : zRin F a b c) {w : Nat} {wd : Nat × String × List Int32} (hw : zsr[w]? = some wd) {r : Int32} {K : Option (Int32)} (hK : K = some r → zAW zE0 X mX6_spells 4 63 [] [] (zS0, I, L, F) (some (zi r)) (zS0, I, L, F)) : ∀ (n : Nat) (v2 : Int32), fX6_spells_28 w I K n v2 = some r → zAW zE0 X mX6_spells 4 28 [(0, zr 13), (1, zr (1020 + w)), (2, zi v2)] [] (zS0, I, L, F) (some (zi r)) (zS0, I, L, F) := by
  intro n
  induction n with
  | zero =>
    intro v2 h
    rw [fX6_spells_28.eq_1] at h
    cases h
  | succ n ih =>
    intro v2 h
    rw [fX6_spells_28.eq_2] at h
    refine a_iload_n dX6_spells_28 rfl 2 rfl ?_
    refine a_aload_n dX6_spells_29 rfl 1 rfl ?_
    refine a_callVs dX6_spells_30 (tJ0_length hw) csJ0_length_8abf5 zw434 (Nat.le_of_ble_eq_true rfl) hw rfl rfl (Nat.le_of_ble_eq_true rfl) ⟨Nat.le_refl _, Nat.le_refl _⟩ (fun hb2 => ?_)
    refine a_icmp_ge (tgt := 63) dX6_spells_33 rfl (fun hc7 => ?_) (fun hc7 => ?_)
    · rw [if_pos hc7] at h
      refine a_sub [] rfl ?_
      exact hK h
    · rw [if_neg hc7] at h
      refine a_aload_n dX6_spells_36 rfl 0 rfl ?_
      refine a_getq dX6_spells_37 G_X6_9 zs_13 rfl (rf_13_0 hR) ?_
      refine a_aload_n dX6_spells_40 rfl 0 rfl ?_
      refine a_geti dX6_spells_41 G_X6_23 zs_13 rfl ?_
      refine a_iload_n dX6_spells_44 rfl 2 rfl ?_
      refine a_iadd dX6_spells_45 ?_
      obtain ⟨hz3, h⟩ := zif h
      refine a_cald dX6_spells_46 zs_14 (zin_vp hz3) ?_
      refine a_aload_n dX6_spells_47 rfl 1 rfl ?_
      refine a_iload_n dX6_spells_48 rfl 2 rfl ?_
      obtain ⟨hz5, h⟩ := zif h
      refine a_callVs dX6_spells_49 (tJ0_charAt hw hz5) csJ0_charAt_5068e zw444 (Nat.le_of_ble_eq_true rfl) hw rfl rfl (Nat.le_of_ble_eq_true rfl) ⟨Nat.le_refl _, Nat.le_refl _⟩ (fun hb4 => ?_)
      refine a_icmp_eq (tgt := 57) dX6_spells_52 rfl (fun hc6 => ?_) (fun hc6 => ?_)
      · rw [if_pos hc6] at h
        refine a_iincK (k0 := 1) dX6_spells_57 (by decide) 2 rfl (by decide) rfl ?_
        refine a_goto (tgt := 28) dX6_spells_60 rfl ?_
        refine a_sub [1, 2, 0] rfl ?_
        exact ih _ h
      · rw [if_neg hc6] at h
        refine a_iconst (v := 0) dX6_spells_55 (by decide) ?_
        cases h
        exact a_iret dX6_spells_56 (by intro h; cases h) (znar_b0 rfl)
set_option maxRecDepth 100000 in
theorem tX6_spells {X : Nat × (Nat → Int32)} {I : zPI} {L : zPL} {F : zPF} {a b : Nat} {c : Option Nat} (hR : zRin F a b c) {w : Nat} {wd : Nat × String × List Int32} (hw : zsr[w]? = some wd) (r : Int32) (h : fX6_spells w I = some r) : zAM X mX6_spells 4 [zr 13, zr (1020 + w)] (zS0, I, L, F) (some (zi r)) (zS0, I, L, F) := by
  refine zAM_of (by decide) (Nat.le_of_ble_eq_true rfl) ⟨fun h => (by cases h), fun h => (by cases h)⟩ (Nat.le_refl _) (Nat.le_refl _) ?_
  unfold fX6_spells at h
  show zAW zE0 X mX6_spells 4 0 [(0, zr 13), (1, zr (1020 + w))] [] (zS0, I, L, F) (some (zi r)) (zS0, I, L, F)
  refine a_aload_n dX6_spells_0 rfl 0 rfl ?_
  refine a_geti dX6_spells_1 G_X6_26 zs_13 rfl ?_
  refine a_iconst (v := 2) dX6_spells_4 (by decide) ?_
  refine a_icmp_ne (tgt := 24) dX6_spells_5 rfl (fun hc9 => ?_) (fun hc9 => ?_)
  · rw [if_neg hc9] at h
    refine a_iconst (v := 0) dX6_spells_24 (by decide) ?_
    cases h
    exact a_iret dX6_spells_25 (by intro h; cases h) (znar_b0 rfl)
  · rw [if_pos hc9] at h
    refine a_aload_n dX6_spells_8 rfl 0 rfl ?_
    refine a_geti dX6_spells_9 G_X6_17 zs_13 rfl ?_
    refine a_aload_n dX6_spells_12 rfl 0 rfl ?_
    refine a_geti dX6_spells_13 G_X6_23 zs_13 rfl ?_
    refine a_isub dX6_spells_16 ?_
    refine a_aload_n dX6_spells_17 rfl 1 rfl ?_
    refine a_callVs dX6_spells_18 (tJ0_length hw) csJ0_length_8abf5 zw434 (Nat.le_of_ble_eq_true rfl) hw rfl rfl (Nat.le_of_ble_eq_true rfl) ⟨Nat.le_refl _, Nat.le_refl _⟩ (fun hb1 => ?_)
    refine a_icmp_eq (tgt := 26) dX6_spells_21 rfl (fun hc8 => ?_) (fun hc8 => ?_)
    · rw [if_pos hc8] at h
      refine a_iconst (v := 0) dX6_spells_26 (by decide) ?_
      refine a_istore_n dX6_spells_27 rfl (by decide) rfl ?_
      refine a_sub [1, 2, 0] rfl ?_
      refine tX6_spells_28 hR hw (fun h => ?_) zF _ h
      (try dsimp only at h)
      refine a_iconst (v := 1) dX6_spells_63 (by decide) ?_
      cases h
      exact a_iret dX6_spells_64 (by intro h; cases h) (znar_b1 rfl)
    · rw [if_neg hc8] at h
      refine a_iconst (v := 0) dX6_spells_24 (by decide) ?_
      cases h
      exact a_iret dX6_spells_25 (by intro h; cases h) (znar_b0 rfl)
def fX6_endOfRun_5 (I : zPI) (K : Int32 → Option (Int32)) : Nat → Int32 → Int32 → Int32 → Option (Int32)
  | 0, _, _, _ => none
  | n + 1, v1, v2, v3 => (if (I 13 1) ≤ v3 then K v3 else (if zin v3 1000 then (if (I 14 v3.toNatClampNeg) < v1 then K v3 else (if zin v3 1000 then (if v2 < (I 14 v3.toNatClampNeg) then K v3 else fX6_endOfRun_5 I K n v1 v2 (v3 + 1)) else none)) else none))
def fX6_endOfRun (I : zPI) (p1 : Int32) (p2 : Int32) : Option (Int32) := fX6_endOfRun_5 I (fun v3 => some v3) zF p1 p2 (I 13 3)
set_option maxRecDepth 100000 in
theorem tX6_endOfRun_5 {X : Nat × (Nat → Int32)} {I : zPI} {L : zPL} {F : zPF} {a b : Nat} {c : Option Nat} (hR : zRin F a b c) {r : Int32} {K : Int32 → Option (Int32)} (hK : ∀ (v3 : Int32), K v3 = some r → zAW zE0 X mX6_endOfRun 0 39 [(3, zi v3)] [] (zS0, I, L, F) (some (zi r)) (zS0, I, L, F)) : ∀ (n : Nat) (v1 : Int32) (v2 : Int32) (v3 : Int32), fX6_endOfRun_5 I K n v1 v2 v3 = some r → zAW zE0 X mX6_endOfRun 0 5 [(0, zr 13), (1, zi v1), (2, zi v2), (3, zi v3)] [] (zS0, I, L, F) (some (zi r)) (zS0, I, L, F) := by
  intro n
  induction n with
  | zero =>
    intro v1 v2 v3 h
    rw [fX6_endOfRun_5.eq_1] at h
    cases h
  | succ n ih =>
    intro v1 v2 v3 h
    rw [fX6_endOfRun_5.eq_2] at h
    refine a_iload_n dX6_endOfRun_5 rfl 3 rfl ?_
    refine a_aload_n dX6_endOfRun_6 rfl 0 rfl ?_
    refine a_geti dX6_endOfRun_7 G_X6_13 zs_13 rfl ?_
    refine a_icmp_ge (tgt := 39) dX6_endOfRun_10 rfl (fun hc5 => ?_) (fun hc5 => ?_)
    · rw [if_pos hc5] at h
      refine a_sub [3] rfl ?_
      exact hK _ h
    · rw [if_neg hc5] at h
      refine a_aload_n dX6_endOfRun_13 rfl 0 rfl ?_
      refine a_getq dX6_endOfRun_14 G_X6_9 zs_13 rfl (rf_13_0 hR) ?_
      refine a_iload_n dX6_endOfRun_17 rfl 3 rfl ?_
      obtain ⟨hz1, h⟩ := zif h
      refine a_cald dX6_endOfRun_18 zs_14 (zin_vp hz1) ?_
      refine a_iload_n dX6_endOfRun_19 rfl 1 rfl ?_
      refine a_icmp_lt (tgt := 39) dX6_endOfRun_20 rfl (fun hc4 => ?_) (fun hc4 => ?_)
      · rw [if_pos hc4] at h
        refine a_sub [3] rfl ?_
        exact hK _ h
      · rw [if_neg hc4] at h
        refine a_aload_n dX6_endOfRun_23 rfl 0 rfl ?_
        refine a_getq dX6_endOfRun_24 G_X6_9 zs_13 rfl (rf_13_0 hR) ?_
        refine a_iload_n dX6_endOfRun_27 rfl 3 rfl ?_
        obtain ⟨hz2, h⟩ := zif h
        refine a_cald dX6_endOfRun_28 zs_14 (zin_vp hz2) ?_
        refine a_iload_n dX6_endOfRun_29 rfl 2 rfl ?_
        refine a_icmp_gt (tgt := 39) dX6_endOfRun_30 rfl (fun hc3 => ?_) (fun hc3 => ?_)
        · rw [if_pos hc3] at h
          refine a_sub [3] rfl ?_
          exact hK _ h
        · rw [if_neg hc3] at h
          refine a_iincK (k0 := 1) dX6_endOfRun_33 (by decide) 3 rfl (by decide) rfl ?_
          refine a_goto (tgt := 5) dX6_endOfRun_36 rfl ?_
          refine a_sub [1, 2, 3, 0] rfl ?_
          exact ih _ _ _ h
set_option maxRecDepth 100000 in
theorem tX6_endOfRun {X : Nat × (Nat → Int32)} {I : zPI} {L : zPL} {F : zPF} {a b : Nat} {c : Option Nat} (hR : zRin F a b c) (p1 : Int32) (p2 : Int32) (r : Int32) (h : fX6_endOfRun I p1 p2 = some r) : zAM X mX6_endOfRun 0 [zr 13, zi p1, zi p2] (zS0, I, L, F) (some (zi r)) (zS0, I, L, F) := by
  refine zAM_of (by decide) (Nat.le_of_ble_eq_true rfl) ⟨fun h => (by cases h), fun h => (by cases h)⟩ (Nat.le_refl _) (Nat.le_refl _) ?_
  unfold fX6_endOfRun at h
  show zAW zE0 X mX6_endOfRun 0 0 [(0, zr 13), (1, zi p1), (2, zi p2)] [] (zS0, I, L, F) (some (zi r)) (zS0, I, L, F)
  refine a_aload_n dX6_endOfRun_0 rfl 0 rfl ?_
  refine a_geti dX6_endOfRun_1 G_X6_23 zs_13 rfl ?_
  refine a_istore_n dX6_endOfRun_4 rfl (by decide) rfl ?_
  refine a_sub [1, 2, 3, 0] rfl ?_
  refine tX6_endOfRun_5 hR (fun v3 h => ?_) zF _ _ _ h
  (try dsimp only at h)
  refine a_iload_n dX6_endOfRun_39 rfl 0 rfl ?_
  cases h
  exact a_iret dX6_endOfRun_40 (by intro h; cases h) (znar_i rfl)
def fX6_numberHere_7 (I : zPI) (K : Int32 → Option (Int32)) : Nat → Int32 → Int32 → Option (Int32)
  | 0, _, _ => none
  | n + 1, v1, v2 => (if (I 13 5) ≤ v2 then K v1 else (if zin v2 1000 then fX6_numberHere_7 I K n ((v1 * 10) + ((I 14 v2.toNatClampNeg) - 48)) (v2 + 1) else none))
def fX6_numberHere (I : zPI) : Option (Int32) := fX6_numberHere_7 I (fun v1 => some v1) zF 0 (I 13 3)
set_option maxRecDepth 100000 in
theorem tX6_numberHere_7 {X : Nat × (Nat → Int32)} {I : zPI} {L : zPL} {F : zPF} {a b : Nat} {c : Option Nat} (hR : zRin F a b c) {r : Int32} {K : Int32 → Option (Int32)} (hK : ∀ (v1 : Int32), K v1 = some r → zAW zE0 X mX6_numberHere 0 36 [(1, zi v1)] [] (zS0, I, L, F) (some (zi r)) (zS0, I, L, F)) : ∀ (n : Nat) (v1 : Int32) (v2 : Int32), fX6_numberHere_7 I K n v1 v2 = some r → zAW zE0 X mX6_numberHere 0 7 [(0, zr 13), (1, zi v1), (2, zi v2)] [] (zS0, I, L, F) (some (zi r)) (zS0, I, L, F) := by
  intro n
  induction n with
  | zero =>
    intro v1 v2 h
    rw [fX6_numberHere_7.eq_1] at h
    cases h
  | succ n ih =>
    intro v1 v2 h
    rw [fX6_numberHere_7.eq_2] at h
    refine a_iload_n dX6_numberHere_7 rfl 2 rfl ?_
    refine a_aload_n dX6_numberHere_8 rfl 0 rfl ?_
    refine a_geti dX6_numberHere_9 G_X6_17 zs_13 rfl ?_
    refine a_icmp_ge (tgt := 36) dX6_numberHere_12 rfl (fun hc2 => ?_) (fun hc2 => ?_)
    · rw [if_pos hc2] at h
      refine a_sub [1] rfl ?_
      exact hK _ h
    · rw [if_neg hc2] at h
      refine a_iload_n dX6_numberHere_15 rfl 1 rfl ?_
      refine a_bipush (v := 10) dX6_numberHere_16 (by decide) ?_
      refine a_imul dX6_numberHere_18 ?_
      refine a_aload_n dX6_numberHere_19 rfl 0 rfl ?_
      refine a_getq dX6_numberHere_20 G_X6_9 zs_13 rfl (rf_13_0 hR) ?_
      refine a_iload_n dX6_numberHere_23 rfl 2 rfl ?_
      obtain ⟨hz1, h⟩ := zif h
      refine a_cald dX6_numberHere_24 zs_14 (zin_vp hz1) ?_
      refine a_bipush (v := 48) dX6_numberHere_25 (by decide) ?_
      refine a_isub dX6_numberHere_27 ?_
      refine a_iadd dX6_numberHere_28 ?_
      refine a_istore_n dX6_numberHere_29 rfl (by decide) rfl ?_
      refine a_iincK (k0 := 1) dX6_numberHere_30 (by decide) 2 rfl (by decide) rfl ?_
      refine a_goto (tgt := 7) dX6_numberHere_33 rfl ?_
      refine a_sub [2, 1, 0] rfl ?_
      exact ih _ _ h
set_option maxRecDepth 100000 in
theorem tX6_numberHere {X : Nat × (Nat → Int32)} {I : zPI} {L : zPL} {F : zPF} {a b : Nat} {c : Option Nat} (hR : zRin F a b c) (r : Int32) (h : fX6_numberHere I = some r) : zAM X mX6_numberHere 0 [zr 13] (zS0, I, L, F) (some (zi r)) (zS0, I, L, F) := by
  refine zAM_of (by decide) (Nat.le_of_ble_eq_true rfl) ⟨fun h => (by cases h), fun h => (by cases h)⟩ (Nat.le_refl _) (Nat.le_refl _) ?_
  unfold fX6_numberHere at h
  show zAW zE0 X mX6_numberHere 0 0 [(0, zr 13)] [] (zS0, I, L, F) (some (zi r)) (zS0, I, L, F)
  refine a_iconst (v := 0) dX6_numberHere_0 (by decide) ?_
  refine a_istore_n dX6_numberHere_1 rfl (by decide) rfl ?_
  refine a_aload_n dX6_numberHere_2 rfl 1 rfl ?_
  refine a_geti dX6_numberHere_3 G_X6_23 zs_13 rfl ?_
  refine a_istore_n dX6_numberHere_6 rfl (by decide) rfl ?_
  refine a_sub [2, 1, 0] rfl ?_
  refine tX6_numberHere_7 hR (fun v1 h => ?_) zF _ _ h
  (try dsimp only at h)
  refine a_iload_n dX6_numberHere_36 rfl 0 rfl ?_
  cases h
  exact a_iret dX6_numberHere_37 (by intro h; cases h) (znar_i rfl)
def fX6_isSign (p0 : Int32) : Int32 := (if p0 = 123 then 1 else (if p0 = 125 then 1 else (if p0 = 60 then 1 else (if p0 = 61 then 1 else (if p0 = 43 then 1 else (if p0 = 45 then 1 else (if p0 = 59 then 1 else 0)))))))
set_option maxRecDepth 100000 in
theorem tX6_isSign {X : Nat × (Nat → Int32)} {I : zPI} {L : zPL} {F : zPF} {a b : Nat} {c : Option Nat} (hR : zRin F a b c) (p0 : Int32) (r : Int32) (h : fX6_isSign p0 = r) : zAM X mX6_isSign 0 [zi p0] (zS0, I, L, F) (some (zi r)) (zS0, I, L, F) := by
  refine zAM_of (by decide) (Nat.le_of_ble_eq_true rfl) ⟨fun h => (by cases h), fun h => (by cases h)⟩ (Nat.le_refl _) (Nat.le_refl _) ?_
  unfold fX6_isSign at h
  show zAW zE0 X mX6_isSign 0 0 [(0, zi p0)] [] (zS0, I, L, F) (some (zi r)) (zS0, I, L, F)
  refine a_iload_n dX6_isSign_0 rfl 0 rfl ?_
  refine a_bipush (v := 123) dX6_isSign_1 (by decide) ?_
  refine a_icmp_eq (tgt := 42) dX6_isSign_3 rfl (fun hc7 => ?_) (fun hc7 => ?_)
  · rw [if_pos hc7] at h
    refine a_iconst (v := 1) dX6_isSign_42 (by decide) ?_
    refine a_goto (tgt := 47) dX6_isSign_43 rfl ?_
    subst h
    exact a_iret dX6_isSign_47 (by intro h; cases h) (znar_b1 rfl)
  · rw [if_neg hc7] at h
    refine a_iload_n dX6_isSign_6 rfl 0 rfl ?_
    refine a_bipush (v := 125) dX6_isSign_7 (by decide) ?_
    refine a_icmp_eq (tgt := 42) dX6_isSign_9 rfl (fun hc6 => ?_) (fun hc6 => ?_)
    · rw [if_pos hc6] at h
      refine a_iconst (v := 1) dX6_isSign_42 (by decide) ?_
      refine a_goto (tgt := 47) dX6_isSign_43 rfl ?_
      subst h
      exact a_iret dX6_isSign_47 (by intro h; cases h) (znar_b1 rfl)
    · rw [if_neg hc6] at h
      refine a_iload_n dX6_isSign_12 rfl 0 rfl ?_
      refine a_bipush (v := 60) dX6_isSign_13 (by decide) ?_
      refine a_icmp_eq (tgt := 42) dX6_isSign_15 rfl (fun hc5 => ?_) (fun hc5 => ?_)
      · rw [if_pos hc5] at h
        refine a_iconst (v := 1) dX6_isSign_42 (by decide) ?_
        refine a_goto (tgt := 47) dX6_isSign_43 rfl ?_
        subst h
        exact a_iret dX6_isSign_47 (by intro h; cases h) (znar_b1 rfl)
      · rw [if_neg hc5] at h
        refine a_iload_n dX6_isSign_18 rfl 0 rfl ?_
        refine a_bipush (v := 61) dX6_isSign_19 (by decide) ?_
        refine a_icmp_eq (tgt := 42) dX6_isSign_21 rfl (fun hc4 => ?_) (fun hc4 => ?_)
        · rw [if_pos hc4] at h
          refine a_iconst (v := 1) dX6_isSign_42 (by decide) ?_
          refine a_goto (tgt := 47) dX6_isSign_43 rfl ?_
          subst h
          exact a_iret dX6_isSign_47 (by intro h; cases h) (znar_b1 rfl)
        · rw [if_neg hc4] at h
          refine a_iload_n dX6_isSign_24 rfl 0 rfl ?_
          refine a_bipush (v := 43) dX6_isSign_25 (by decide) ?_
          refine a_icmp_eq (tgt := 42) dX6_isSign_27 rfl (fun hc3 => ?_) (fun hc3 => ?_)
          · rw [if_pos hc3] at h
            refine a_iconst (v := 1) dX6_isSign_42 (by decide) ?_
            refine a_goto (tgt := 47) dX6_isSign_43 rfl ?_
            subst h
            exact a_iret dX6_isSign_47 (by intro h; cases h) (znar_b1 rfl)
          · rw [if_neg hc3] at h
            refine a_iload_n dX6_isSign_30 rfl 0 rfl ?_
            refine a_bipush (v := 45) dX6_isSign_31 (by decide) ?_
            refine a_icmp_eq (tgt := 42) dX6_isSign_33 rfl (fun hc2 => ?_) (fun hc2 => ?_)
            · rw [if_pos hc2] at h
              refine a_iconst (v := 1) dX6_isSign_42 (by decide) ?_
              refine a_goto (tgt := 47) dX6_isSign_43 rfl ?_
              subst h
              exact a_iret dX6_isSign_47 (by intro h; cases h) (znar_b1 rfl)
            · rw [if_neg hc2] at h
              refine a_iload_n dX6_isSign_36 rfl 0 rfl ?_
              refine a_bipush (v := 59) dX6_isSign_37 (by decide) ?_
              refine a_icmp_ne (tgt := 46) dX6_isSign_39 rfl (fun hc1 => ?_) (fun hc1 => ?_)
              · rw [if_neg hc1] at h
                refine a_iconst (v := 0) dX6_isSign_46 (by decide) ?_
                subst h
                exact a_iret dX6_isSign_47 (by intro h; cases h) (znar_b0 rfl)
              · rw [if_pos hc1] at h
                refine a_iconst (v := 1) dX6_isSign_42 (by decide) ?_
                refine a_goto (tgt := 47) dX6_isSign_43 rfl ?_
                subst h
                exact a_iret dX6_isSign_47 (by intro h; cases h) (znar_b1 rfl)
def fX6_advance_8 (K : zPI → Option (zPI)) : Nat → zPI → Option (zPI)
  | 0, _ => none
  | n + 1, I => (if (I 13 1) ≤ (I 13 3) then K I else (if zin (I 13 3) 1000 then (if (I 14 (I 13 3).toNatClampNeg) = 10 then fX6_advance_8 K n (zu I 13 3 ((I 13 3) + 1)) else (if zin (I 13 3) 1000 then (if (I 14 (I 13 3).toNatClampNeg) = 32 then fX6_advance_8 K n (zu I 13 3 ((I 13 3) + 1)) else K I) else none)) else none))
def fX6_advance_174 (s1 : Int32) (I : zPI) : Option (zPI) := (if ((zu I 13 2 s1) 13 2) = 3 then (fX6_numberHere (zu I 13 2 s1)).bind (fun q14 => some (zu (zu I 13 2 s1) 13 4 q14)) else some (zu (zu I 13 2 s1) 13 4 0))
def fX6_advance_60 (I : zPI) : Option (zPI) := (if (I 13 3) < (I 13 1) then (fX6_endOfRun I 97 122).bind (fun q6 => (if ((zu I 13 5 q6) 13 5) ≤ ((zu I 13 5 q6) 13 3) then (fX6_endOfRun (zu I 13 5 q6) 48 57).bind (fun q8 => (if ((zu (zu I 13 5 q6) 13 5 q8) 13 5) ≤ ((zu (zu I 13 5 q6) 13 5 q8) 13 3) then (if zin ((zu (zu I 13 5 q6) 13 5 q8) 13 3) 1000 then (if (fX6_isSign ((zu (zu I 13 5 q6) 13 5 q8) 14 ((zu (zu I 13 5 q6) 13 5 q8) 13 3).toNatClampNeg)) = 0 then some (zu (zu (zu (zu I 13 5 q6) 13 5 q8) 13 2 1) 13 5 (((zu (zu (zu I 13 5 q6) 13 5 q8) 13 2 1) 13 3) + 1)) else (if zin ((zu (zu I 13 5 q6) 13 5 q8) 13 3) 1000 then some (zu (zu (zu (zu I 13 5 q6) 13 5 q8) 13 2 ((zu (zu I 13 5 q6) 13 5 q8) 14 ((zu (zu I 13 5 q6) 13 5 q8) 13 3).toNatClampNeg)) 13 5 (((zu (zu (zu I 13 5 q6) 13 5 q8) 13 2 ((zu (zu I 13 5 q6) 13 5 q8) 14 ((zu (zu I 13 5 q6) 13 5 q8) 13 3).toNatClampNeg)) 13 3) + 1)) else none)) else none) else (if (((zu (zu I 13 5 q6) 13 5 q8) 13 5) - ((zu (zu I 13 5 q6) 13 5 q8) 13 3)) ≤ 5 then fX6_advance_174 3 (zu (zu I 13 5 q6) 13 5 q8) else fX6_advance_174 1 (zu (zu I 13 5 q6) 13 5 q8)))) else (if (((zu I 13 5 q6) 13 5) - ((zu I 13 5 q6) 13 3)) ≤ 8 then some (zu (zu I 13 5 q6) 13 2 2) else some (zu (zu I 13 5 q6) 13 2 1)))) else some (zu (zu I 13 2 0) 13 5 ((zu I 13 2 0) 13 1)))
def fX6_advance (I : zPI) : Option (zPI) := fX6_advance_8 (fun I => fX6_advance_60 I) zF (zu I 13 3 (I 13 5))
set_option maxRecDepth 100000 in
theorem tX6_advance_8 {X : Nat × (Nat → Int32)} {L : zPL} {F : zPF} {a b : Nat} {c : Option Nat} (hR : zRin F a b c) {r : zPI} {K : zPI → Option (zPI)} (hK : ∀ (I : zPI), K I = some r → zAW zE0 X mX6_advance 1 60 [(0, zr 13)] [] (zS0, I, L, F) none (zS0, r, L, F)) : ∀ (n : Nat) (I : zPI), fX6_advance_8 K n I = some r → zAW zE0 X mX6_advance 1 8 [(0, zr 13)] [] (zS0, I, L, F) none (zS0, r, L, F) := by
  intro n
  induction n with
  | zero =>
    intro I h
    rw [fX6_advance_8.eq_1] at h
    cases h
  | succ n ih =>
    intro I h
    rw [fX6_advance_8.eq_2] at h
    refine a_aload_n dX6_advance_8 rfl 0 rfl ?_
    refine a_geti dX6_advance_9 G_X6_23 zs_13 rfl ?_
    refine a_aload_n dX6_advance_12 rfl 0 rfl ?_
    refine a_geti dX6_advance_13 G_X6_13 zs_13 rfl ?_
    refine a_icmp_ge (tgt := 60) dX6_advance_16 rfl (fun hc5 => ?_) (fun hc5 => ?_)
    · rw [if_pos hc5] at h
      exact hK _ h
    · rw [if_neg hc5] at h
      refine a_aload_n dX6_advance_19 rfl 0 rfl ?_
      refine a_getq dX6_advance_20 G_X6_9 zs_13 rfl (rf_13_0 hR) ?_
      refine a_aload_n dX6_advance_23 rfl 0 rfl ?_
      refine a_geti dX6_advance_24 G_X6_23 zs_13 rfl ?_
      obtain ⟨hz1, h⟩ := zif h
      refine a_cald dX6_advance_27 zs_14 (zin_vp hz1) ?_
      refine a_bipush (v := 10) dX6_advance_28 (by decide) ?_
      refine a_icmp_eq (tgt := 47) dX6_advance_30 rfl (fun hc4 => ?_) (fun hc4 => ?_)
      · rw [if_pos hc4] at h
        refine a_aload_n dX6_advance_47 rfl 0 rfl ?_
        refine a_dup dX6_advance_48 rfl ?_
        refine a_geti dX6_advance_49 G_X6_23 zs_13 rfl ?_
        refine a_iconst (v := 1) dX6_advance_52 (by decide) ?_
        refine a_iadd dX6_advance_53 ?_
        refine a_puti dX6_advance_54 F_X6_23 zs_13 rfl ⟨rfl, rfl⟩ ?_
        refine a_goto (tgt := 8) dX6_advance_57 rfl ?_
        exact ih _ h
      · rw [if_neg hc4] at h
        refine a_aload_n dX6_advance_33 rfl 0 rfl ?_
        refine a_getq dX6_advance_34 G_X6_9 zs_13 rfl (rf_13_0 hR) ?_
        refine a_aload_n dX6_advance_37 rfl 0 rfl ?_
        refine a_geti dX6_advance_38 G_X6_23 zs_13 rfl ?_
        obtain ⟨hz2, h⟩ := zif h
        refine a_cald dX6_advance_41 zs_14 (zin_vp hz2) ?_
        refine a_bipush (v := 32) dX6_advance_42 (by decide) ?_
        refine a_icmp_ne (tgt := 60) dX6_advance_44 rfl (fun hc3 => ?_) (fun hc3 => ?_)
        · rw [if_neg hc3] at h
          exact hK _ h
        · rw [if_pos hc3] at h
          refine a_aload_n dX6_advance_47 rfl 0 rfl ?_
          refine a_dup dX6_advance_48 rfl ?_
          refine a_geti dX6_advance_49 G_X6_23 zs_13 rfl ?_
          refine a_iconst (v := 1) dX6_advance_52 (by decide) ?_
          refine a_iadd dX6_advance_53 ?_
          refine a_puti dX6_advance_54 F_X6_23 zs_13 rfl ⟨rfl, rfl⟩ ?_
          refine a_goto (tgt := 8) dX6_advance_57 rfl ?_
          exact ih _ h
set_option maxRecDepth 100000 in
theorem tX6_advance_174 {X : Nat × (Nat → Int32)} {I : zPI} {L : zPL} {F : zPF} {a b : Nat} {c : Option Nat} (hR : zRin F a b c) {r : zPI} {s1 : Int32} (h : fX6_advance_174 s1 I = some r) : zAW zE0 X mX6_advance 1 174 [(0, zr 13)] [zi s1, zr 13] (zS0, I, L, F) none (zS0, r, L, F) := by
  unfold fX6_advance_174 at h
  refine a_puti dX6_advance_174 F_X6_26 zs_13 rfl ⟨rfl, rfl⟩ ?_
  refine a_aload_n dX6_advance_177 rfl 0 rfl ?_
  refine a_aload_n dX6_advance_178 rfl 0 rfl ?_
  refine a_geti dX6_advance_179 G_X6_26 zs_13 rfl ?_
  refine a_iconst (v := 3) dX6_advance_182 (by decide) ?_
  refine a_icmp_ne (tgt := 193) dX6_advance_183 rfl (fun hc16 => ?_) (fun hc16 => ?_)
  · rw [if_neg hc16] at h
    refine a_iconst (v := 0) dX6_advance_193 (by decide) ?_
    refine a_puti dX6_advance_194 F_X6_37 zs_13 rfl ⟨rfl, rfl⟩ ?_
    cases h
    exact a_vret dX6_advance_197 rfl
  · rw [if_pos hc16] at h
    refine a_aload_n dX6_advance_186 rfl 0 rfl ?_
    obtain ⟨q14, hq14, h⟩ := zbind h
    refine a_callV dX6_advance_187 (tX6_numberHere hR _ hq14) csX6_numberHere zw413 (Nat.le_of_ble_eq_true rfl) zs_13 rfl rfl (Nat.le_of_ble_eq_true rfl) ⟨Nat.le_refl _, Nat.le_refl _⟩ (fun hb15 => ?_)
    refine a_goto (tgt := 194) dX6_advance_190 rfl ?_
    refine a_puti dX6_advance_194 F_X6_37 zs_13 rfl ⟨rfl, rfl⟩ ?_
    cases h
    exact a_vret dX6_advance_197 rfl
set_option maxRecDepth 100000 in
theorem tX6_advance_60 {X : Nat × (Nat → Int32)} {I : zPI} {L : zPL} {F : zPF} {a b : Nat} {c : Option Nat} (hR : zRin F a b c) {r : zPI} (h : fX6_advance_60 I = some r) : zAW zE0 X mX6_advance 1 60 [(0, zr 13)] [] (zS0, I, L, F) none (zS0, r, L, F) := by
  unfold fX6_advance_60 at h
  refine a_aload_n dX6_advance_60 rfl 0 rfl ?_
  refine a_geti dX6_advance_61 G_X6_23 zs_13 rfl ?_
  refine a_aload_n dX6_advance_64 rfl 0 rfl ?_
  refine a_geti dX6_advance_65 G_X6_13 zs_13 rfl ?_
  refine a_icmp_lt (tgt := 85) dX6_advance_68 rfl (fun hc21 => ?_) (fun hc21 => ?_)
  · rw [if_pos hc21] at h
    refine a_aload_n dX6_advance_85 rfl 0 rfl ?_
    refine a_aload_n dX6_advance_86 rfl 0 rfl ?_
    refine a_bipush (v := 97) dX6_advance_87 (by decide) ?_
    refine a_bipush (v := 122) dX6_advance_89 (by decide) ?_
    obtain ⟨q6, hq6, h⟩ := zbind h
    refine a_callV dX6_advance_91 (tX6_endOfRun hR _ _ _ hq6) csX6_endOfRun zw409 (Nat.le_of_ble_eq_true rfl) zs_13 rfl rfl (Nat.le_of_ble_eq_true rfl) ⟨Nat.le_refl _, Nat.le_refl _⟩ (fun hb7 => ?_)
    refine a_puti dX6_advance_94 F_X6_17 zs_13 rfl ⟨rfl, rfl⟩ ?_
    refine a_aload_n dX6_advance_97 rfl 0 rfl ?_
    refine a_geti dX6_advance_98 G_X6_17 zs_13 rfl ?_
    refine a_aload_n dX6_advance_101 rfl 0 rfl ?_
    refine a_geti dX6_advance_102 G_X6_23 zs_13 rfl ?_
    refine a_icmp_le (tgt := 132) dX6_advance_105 rfl (fun hc20 => ?_) (fun hc20 => ?_)
    · rw [if_pos hc20] at h
      refine a_aload_n dX6_advance_132 rfl 0 rfl ?_
      refine a_aload_n dX6_advance_133 rfl 0 rfl ?_
      refine a_bipush (v := 48) dX6_advance_134 (by decide) ?_
      refine a_bipush (v := 57) dX6_advance_136 (by decide) ?_
      obtain ⟨q8, hq8, h⟩ := zbind h
      refine a_callV dX6_advance_138 (tX6_endOfRun hR _ _ _ hq8) csX6_endOfRun zw409 (Nat.le_of_ble_eq_true rfl) zs_13 rfl rfl (Nat.le_of_ble_eq_true rfl) ⟨Nat.le_refl _, Nat.le_refl _⟩ (fun hb9 => ?_)
      refine a_puti dX6_advance_141 F_X6_17 zs_13 rfl ⟨rfl, rfl⟩ ?_
      refine a_aload_n dX6_advance_144 rfl 0 rfl ?_
      refine a_geti dX6_advance_145 G_X6_17 zs_13 rfl ?_
      refine a_aload_n dX6_advance_148 rfl 0 rfl ?_
      refine a_geti dX6_advance_149 G_X6_23 zs_13 rfl ?_
      refine a_icmp_le (tgt := 198) dX6_advance_152 rfl (fun hc18 => ?_) (fun hc18 => ?_)
      · rw [if_pos hc18] at h
        refine a_aload_n dX6_advance_198 rfl 0 rfl ?_
        refine a_aload_n dX6_advance_199 rfl 0 rfl ?_
        refine a_getq dX6_advance_200 G_X6_9 zs_13 rfl (rf_13_0 hR) ?_
        refine a_aload_n dX6_advance_203 rfl 0 rfl ?_
        refine a_geti dX6_advance_204 G_X6_23 zs_13 rfl ?_
        obtain ⟨hz10, h⟩ := zif h
        refine a_cald dX6_advance_207 zs_14 (zin_vp hz10) ?_
        refine a_callS dX6_advance_208 (tX6_isSign hR _ _ rfl) csX6_isSign zw417 (Nat.le_of_ble_eq_true rfl) rfl (Nat.le_of_ble_eq_true rfl) ⟨Nat.le_refl _, Nat.le_refl _⟩ (fun hb11 => ?_)
        refine a_if_eq (tgt := 226) dX6_advance_211 rfl (fun hc13 => ?_) (fun hc13 => ?_)
        · rw [if_pos hc13] at h
          refine a_iconst (v := 1) dX6_advance_226 (by decide) ?_
          refine a_puti dX6_advance_227 F_X6_26 zs_13 rfl ⟨rfl, rfl⟩ ?_
          refine a_aload_n dX6_advance_230 rfl 0 rfl ?_
          refine a_aload_n dX6_advance_231 rfl 0 rfl ?_
          refine a_geti dX6_advance_232 G_X6_23 zs_13 rfl ?_
          refine a_iconst (v := 1) dX6_advance_235 (by decide) ?_
          refine a_iadd dX6_advance_236 ?_
          refine a_puti dX6_advance_237 F_X6_17 zs_13 rfl ⟨rfl, rfl⟩ ?_
          cases h
          exact a_vret dX6_advance_240 rfl
        · rw [if_neg hc13] at h
          refine a_aload_n dX6_advance_214 rfl 0 rfl ?_
          refine a_getq dX6_advance_215 G_X6_9 zs_13 rfl (rf_13_0 hR) ?_
          refine a_aload_n dX6_advance_218 rfl 0 rfl ?_
          refine a_geti dX6_advance_219 G_X6_23 zs_13 rfl ?_
          obtain ⟨hz12, h⟩ := zif h
          refine a_cald dX6_advance_222 zs_14 (zin_vp hz12) ?_
          refine a_goto (tgt := 227) dX6_advance_223 rfl ?_
          refine a_puti dX6_advance_227 F_X6_26 zs_13 rfl ⟨rfl, rfl⟩ ?_
          refine a_aload_n dX6_advance_230 rfl 0 rfl ?_
          refine a_aload_n dX6_advance_231 rfl 0 rfl ?_
          refine a_geti dX6_advance_232 G_X6_23 zs_13 rfl ?_
          refine a_iconst (v := 1) dX6_advance_235 (by decide) ?_
          refine a_iadd dX6_advance_236 ?_
          refine a_puti dX6_advance_237 F_X6_17 zs_13 rfl ⟨rfl, rfl⟩ ?_
          cases h
          exact a_vret dX6_advance_240 rfl
      · rw [if_neg hc18] at h
        refine a_aload_n dX6_advance_155 rfl 0 rfl ?_
        refine a_aload_n dX6_advance_156 rfl 0 rfl ?_
        refine a_geti dX6_advance_157 G_X6_17 zs_13 rfl ?_
        refine a_aload_n dX6_advance_160 rfl 0 rfl ?_
        refine a_geti dX6_advance_161 G_X6_23 zs_13 rfl ?_
        refine a_isub dX6_advance_164 ?_
        refine a_iconst (v := 5) dX6_advance_165 (by decide) ?_
        refine a_icmp_le (tgt := 173) dX6_advance_166 rfl (fun hc17 => ?_) (fun hc17 => ?_)
        · rw [if_pos hc17] at h
          refine a_iconst (v := 3) dX6_advance_173 (by decide) ?_
          exact tX6_advance_174 hR h
        · rw [if_neg hc17] at h
          refine a_iconst (v := 1) dX6_advance_169 (by decide) ?_
          refine a_goto (tgt := 174) dX6_advance_170 rfl ?_
          exact tX6_advance_174 hR h
    · rw [if_neg hc20] at h
      refine a_aload_n dX6_advance_108 rfl 0 rfl ?_
      refine a_aload_n dX6_advance_109 rfl 0 rfl ?_
      refine a_geti dX6_advance_110 G_X6_17 zs_13 rfl ?_
      refine a_aload_n dX6_advance_113 rfl 0 rfl ?_
      refine a_geti dX6_advance_114 G_X6_23 zs_13 rfl ?_
      refine a_isub dX6_advance_117 ?_
      refine a_bipush (v := 8) dX6_advance_118 (by decide) ?_
      refine a_icmp_le (tgt := 127) dX6_advance_120 rfl (fun hc19 => ?_) (fun hc19 => ?_)
      · rw [if_pos hc19] at h
        refine a_iconst (v := 2) dX6_advance_127 (by decide) ?_
        refine a_puti dX6_advance_128 F_X6_26 zs_13 rfl ⟨rfl, rfl⟩ ?_
        cases h
        exact a_vret dX6_advance_131 rfl
      · rw [if_neg hc19] at h
        refine a_iconst (v := 1) dX6_advance_123 (by decide) ?_
        refine a_goto (tgt := 128) dX6_advance_124 rfl ?_
        refine a_puti dX6_advance_128 F_X6_26 zs_13 rfl ⟨rfl, rfl⟩ ?_
        cases h
        exact a_vret dX6_advance_131 rfl
  · rw [if_neg hc21] at h
    refine a_aload_n dX6_advance_71 rfl 0 rfl ?_
    refine a_iconst (v := 0) dX6_advance_72 (by decide) ?_
    refine a_puti dX6_advance_73 F_X6_26 zs_13 rfl ⟨rfl, rfl⟩ ?_
    refine a_aload_n dX6_advance_76 rfl 0 rfl ?_
    refine a_aload_n dX6_advance_77 rfl 0 rfl ?_
    refine a_geti dX6_advance_78 G_X6_13 zs_13 rfl ?_
    refine a_puti dX6_advance_81 F_X6_17 zs_13 rfl ⟨rfl, rfl⟩ ?_
    cases h
    exact a_vret dX6_advance_84 rfl
set_option maxRecDepth 100000 in
theorem tX6_advance {X : Nat × (Nat → Int32)} {I : zPI} {L : zPL} {F : zPF} {a b : Nat} {c : Option Nat} (hR : zRin F a b c) (r : zPI) (h : fX6_advance I = some r) : zAM X mX6_advance 1 [zr 13] (zS0, I, L, F) none (zS0, r, L, F) := by
  refine zAM_of (by decide) (Nat.le_of_ble_eq_true rfl) ⟨fun _ => rfl, fun _ => rfl⟩ (Nat.le_refl _) (Nat.le_refl _) ?_
  unfold fX6_advance at h
  show zAW zE0 X mX6_advance 1 0 [(0, zr 13)] [] (zS0, I, L, F) none (zS0, r, L, F)
  refine a_aload_n dX6_advance_0 rfl 0 rfl ?_
  refine a_aload_n dX6_advance_1 rfl 0 rfl ?_
  refine a_geti dX6_advance_2 G_X6_17 zs_13 rfl ?_
  refine a_puti dX6_advance_5 F_X6_23 zs_13 rfl ⟨rfl, rfl⟩ ?_
  refine tX6_advance_8 hR (fun I h => ?_) zF _ h
  (try dsimp only at h)
  exact tX6_advance_60 hR h
def fX6_rewind (I : zPI) : Option (zPI) := (fX6_advance (zu I 13 5 0)).bind (fun q1 => some (q1))
set_option maxRecDepth 100000 in
theorem tX6_rewind {X : Nat × (Nat → Int32)} {I : zPI} {L : zPL} {F : zPF} {a b : Nat} {c : Option Nat} (hR : zRin F a b c) (r : zPI) (h : fX6_rewind I = some r) : zAM X mX6_rewind 2 [zr 13] (zS0, I, L, F) none (zS0, r, L, F) := by
  refine zAM_of (by decide) (Nat.le_of_ble_eq_true rfl) ⟨fun _ => rfl, fun _ => rfl⟩ (Nat.le_refl _) (Nat.le_refl _) ?_
  unfold fX6_rewind at h
  show zAW zE0 X mX6_rewind 2 0 [(0, zr 13)] [] (zS0, I, L, F) none (zS0, r, L, F)
  refine a_aload_n dX6_rewind_0 rfl 0 rfl ?_
  refine a_iconst (v := 0) dX6_rewind_1 (by decide) ?_
  refine a_puti dX6_rewind_2 F_X6_17 zs_13 rfl ⟨rfl, rfl⟩ ?_
  refine a_aload_n dX6_rewind_5 rfl 0 rfl ?_
  obtain ⟨q1, hq1, h⟩ := zbind h
  refine a_callV dX6_rewind_6 (tX6_advance hR _ hq1) csX6_advance zw405 (Nat.le_of_ble_eq_true rfl) zs_13 rfl rfl (Nat.le_of_ble_eq_true rfl) ⟨Nat.le_refl _, Nat.le_refl _⟩ (fun hb2 => ?_)
  cases h
  exact a_vret dX6_rewind_9 rfl
def fX6_addBytes_43 (rec : Int64 → Int32 → zPI → Option (zPI)) (v1 : Int64) (v3 : Int32) (v4 : Int32) (s0 : Int32) (I : zPI) : Option (zPI) := (if s0 = 0 then rec v1 (v3 + (-8)) I else (if 1000 ≤ (I 13 1) then rec v1 (v3 + (-8)) I else (if zin (I 13 1) 1000 then rec v1 (v3 + (-8)) (zu (zu I 14 (I 13 1).toNatClampNeg (vp_nar .char (zi2c v4))) 13 1 (((zu I 14 (I 13 1).toNatClampNeg (vp_nar .char (zi2c v4))) 13 1) + 1)) else none)))
def fX6_addBytes_38 (rec : Int64 → Int32 → zPI → Option (zPI)) (v1 : Int64) (v3 : Int32) (v4 : Int32) (I : zPI) : Option (zPI) := fX6_addBytes_43 rec v1 v3 v4 1 I
def fX6_addBytes_42 (rec : Int64 → Int32 → zPI → Option (zPI)) (v1 : Int64) (v3 : Int32) (v4 : Int32) (I : zPI) : Option (zPI) := fX6_addBytes_43 rec v1 v3 v4 0 I
def fX6_addBytes_3 (K : zPI → Option (zPI)) : Nat → Int64 → Int32 → zPI → Option (zPI)
  | 0, _, _, _ => none
  | n + 1, v1, v3, I => (if v3 < 0 then K I else (if (((zushr v1 v3).toInt32) &&& 255) = 10 then fX6_addBytes_38 (fX6_addBytes_3 K n) v1 v3 (((zushr v1 v3).toInt32) &&& 255) I else (if (((zushr v1 v3).toInt32) &&& 255) < 32 then fX6_addBytes_42 (fX6_addBytes_3 K n) v1 v3 (((zushr v1 v3).toInt32) &&& 255) I else (if 126 < (((zushr v1 v3).toInt32) &&& 255) then fX6_addBytes_42 (fX6_addBytes_3 K n) v1 v3 (((zushr v1 v3).toInt32) &&& 255) I else fX6_addBytes_38 (fX6_addBytes_3 K n) v1 v3 (((zushr v1 v3).toInt32) &&& 255) I))))
def fX6_addBytes (I : zPI) (p1 : Int64) : Option (zPI) := fX6_addBytes_3 (fun I => some (I)) zF p1 56 I
set_option maxRecDepth 100000 in
theorem tX6_addBytes_43 {X : Nat × (Nat → Int32)} {I : zPI} {L : zPL} {F : zPF} {a b : Nat} {c : Option Nat} (hR : zRin F a b c) {r : zPI} {rec : Int64 → Int32 → zPI → Option (zPI)} (hrec : ∀ (v1 : Int64) (v3 : Int32) (I : zPI), rec v1 v3 I = some r → zAW zE0 X mX6_addBytes 0 3 [(0, zr 13), (1, zl v1), (3, zi v3)] [] (zS0, I, L, F) none (zS0, r, L, F)) {v1 : Int64} {v3 : Int32} {v4 : Int32} {s0 : Int32} (h : fX6_addBytes_43 rec v1 v3 v4 s0 I = some r) : zAW zE0 X mX6_addBytes 0 43 [(0, zr 13), (1, zl v1), (3, zi v3), (4, zi v4)] [zi s0] (zS0, I, L, F) none (zS0, r, L, F) := by
  unfold fX6_addBytes_43 at h
  refine a_istore dX6_addBytes_43 (by decide) rfl ?_
  refine a_iload dX6_addBytes_45 0 rfl ?_
  refine a_if_eq (tgt := 82) dX6_addBytes_47 rfl (fun hc3 => ?_) (fun hc3 => ?_)
  · rw [if_pos hc3] at h
    refine a_iincK (k0 := (-8)) dX6_addBytes_82 (by decide) 3 rfl (by decide) rfl ?_
    refine a_goto (tgt := 3) dX6_addBytes_85 rfl ?_
    refine a_sub [2, 3, 0] rfl ?_
    exact hrec _ _ _ h
  · rw [if_neg hc3] at h
    refine a_aload_n dX6_addBytes_50 rfl 1 rfl ?_
    refine a_geti dX6_addBytes_51 G_X6_13 zs_13 rfl ?_
    refine a_sipush (v := 1000) dX6_addBytes_54 (by decide) ?_
    refine a_icmp_ge (tgt := 82) dX6_addBytes_57 rfl (fun hc2 => ?_) (fun hc2 => ?_)
    · rw [if_pos hc2] at h
      refine a_iincK (k0 := (-8)) dX6_addBytes_82 (by decide) 3 rfl (by decide) rfl ?_
      refine a_goto (tgt := 3) dX6_addBytes_85 rfl ?_
      refine a_sub [2, 3, 0] rfl ?_
      exact hrec _ _ _ h
    · rw [if_neg hc2] at h
      refine a_aload_n dX6_addBytes_60 rfl 1 rfl ?_
      refine a_getq dX6_addBytes_61 G_X6_9 zs_13 rfl (rf_13_0 hR) ?_
      refine a_aload_n dX6_addBytes_64 rfl 1 rfl ?_
      refine a_geti dX6_addBytes_65 G_X6_13 zs_13 rfl ?_
      refine a_iload dX6_addBytes_68 4 rfl ?_
      refine a_i2cZ dX6_addBytes_70 ?_
      obtain ⟨hz1, h⟩ := zif h
      refine a_cast dX6_addBytes_71 zs_14 (zin_vp hz1) ?_
      refine a_aload_n dX6_addBytes_72 rfl 1 rfl ?_
      refine a_dup dX6_addBytes_73 rfl ?_
      refine a_geti dX6_addBytes_74 G_X6_13 zs_13 rfl ?_
      refine a_iconst (v := 1) dX6_addBytes_77 (by decide) ?_
      refine a_iadd dX6_addBytes_78 ?_
      refine a_puti dX6_addBytes_79 F_X6_13 zs_13 rfl ⟨rfl, rfl⟩ ?_
      refine a_iincK (k0 := (-8)) dX6_addBytes_82 (by decide) 3 rfl (by decide) rfl ?_
      refine a_goto (tgt := 3) dX6_addBytes_85 rfl ?_
      refine a_sub [2, 3, 0] rfl ?_
      exact hrec _ _ _ h
set_option maxRecDepth 100000 in
theorem tX6_addBytes_38 {X : Nat × (Nat → Int32)} {I : zPI} {L : zPL} {F : zPF} {a b : Nat} {c : Option Nat} (hR : zRin F a b c) {r : zPI} {rec : Int64 → Int32 → zPI → Option (zPI)} (hrec : ∀ (v1 : Int64) (v3 : Int32) (I : zPI), rec v1 v3 I = some r → zAW zE0 X mX6_addBytes 0 3 [(0, zr 13), (1, zl v1), (3, zi v3)] [] (zS0, I, L, F) none (zS0, r, L, F)) {v1 : Int64} {v3 : Int32} {v4 : Int32} (h : fX6_addBytes_38 rec v1 v3 v4 I = some r) : zAW zE0 X mX6_addBytes 0 38 [(0, zr 13), (1, zl v1), (3, zi v3), (4, zi v4)] [] (zS0, I, L, F) none (zS0, r, L, F) := by
  unfold fX6_addBytes_38 at h
  refine a_iconst (v := 1) dX6_addBytes_38 (by decide) ?_
  refine a_goto (tgt := 43) dX6_addBytes_39 rfl ?_
  exact tX6_addBytes_43 hR hrec h
set_option maxRecDepth 100000 in
theorem tX6_addBytes_42 {X : Nat × (Nat → Int32)} {I : zPI} {L : zPL} {F : zPF} {a b : Nat} {c : Option Nat} (hR : zRin F a b c) {r : zPI} {rec : Int64 → Int32 → zPI → Option (zPI)} (hrec : ∀ (v1 : Int64) (v3 : Int32) (I : zPI), rec v1 v3 I = some r → zAW zE0 X mX6_addBytes 0 3 [(0, zr 13), (1, zl v1), (3, zi v3)] [] (zS0, I, L, F) none (zS0, r, L, F)) {v1 : Int64} {v3 : Int32} {v4 : Int32} (h : fX6_addBytes_42 rec v1 v3 v4 I = some r) : zAW zE0 X mX6_addBytes 0 42 [(0, zr 13), (1, zl v1), (3, zi v3), (4, zi v4)] [] (zS0, I, L, F) none (zS0, r, L, F) := by
  unfold fX6_addBytes_42 at h
  refine a_iconst (v := 0) dX6_addBytes_42 (by decide) ?_
  exact tX6_addBytes_43 hR hrec h
set_option maxRecDepth 100000 in
theorem tX6_addBytes_3 {X : Nat × (Nat → Int32)} {L : zPL} {F : zPF} {a b : Nat} {c : Option Nat} (hR : zRin F a b c) {r : zPI} {K : zPI → Option (zPI)} (hK : ∀ (I : zPI), K I = some r → zAW zE0 X mX6_addBytes 0 88 [] [] (zS0, I, L, F) none (zS0, r, L, F)) : ∀ (n : Nat) (v1 : Int64) (v3 : Int32) (I : zPI), fX6_addBytes_3 K n v1 v3 I = some r → zAW zE0 X mX6_addBytes 0 3 [(0, zr 13), (1, zl v1), (3, zi v3)] [] (zS0, I, L, F) none (zS0, r, L, F) := by
  intro n
  induction n with
  | zero =>
    intro v1 v3 I h
    rw [fX6_addBytes_3.eq_1] at h
    cases h
  | succ n ih =>
    intro v1 v3 I h
    rw [fX6_addBytes_3.eq_2] at h
    refine a_iload_n dX6_addBytes_3 rfl 2 rfl ?_
    refine a_if_lt (tgt := 88) dX6_addBytes_4 rfl (fun hc7 => ?_) (fun hc7 => ?_)
    · rw [if_pos hc7] at h
      refine a_sub [] rfl ?_
      exact hK _ h
    · rw [if_neg hc7] at h
      refine a_lload_n dX6_addBytes_7 rfl 1 rfl ?_
      refine a_iload_n dX6_addBytes_8 rfl 2 rfl ?_
      refine a_lushrZ dX6_addBytes_9 ?_
      refine a_l2i dX6_addBytes_10 ?_
      refine a_sipush (v := 255) dX6_addBytes_11 (by decide) ?_
      refine a_iand dX6_addBytes_14 ?_
      refine a_istore dX6_addBytes_15 (by decide) rfl ?_
      refine a_iload dX6_addBytes_17 0 rfl ?_
      refine a_bipush (v := 10) dX6_addBytes_19 (by decide) ?_
      refine a_icmp_eq (tgt := 38) dX6_addBytes_21 rfl (fun hc6 => ?_) (fun hc6 => ?_)
      · rw [if_pos hc6] at h
        refine a_sub [1, 2, 3, 0] rfl ?_
        exact tX6_addBytes_38 hR ih h
      · rw [if_neg hc6] at h
        refine a_iload dX6_addBytes_24 0 rfl ?_
        refine a_bipush (v := 32) dX6_addBytes_26 (by decide) ?_
        refine a_icmp_lt (tgt := 42) dX6_addBytes_28 rfl (fun hc5 => ?_) (fun hc5 => ?_)
        · rw [if_pos hc5] at h
          refine a_sub [1, 2, 3, 0] rfl ?_
          exact tX6_addBytes_42 hR ih h
        · rw [if_neg hc5] at h
          refine a_iload dX6_addBytes_31 0 rfl ?_
          refine a_bipush (v := 126) dX6_addBytes_33 (by decide) ?_
          refine a_icmp_gt (tgt := 42) dX6_addBytes_35 rfl (fun hc4 => ?_) (fun hc4 => ?_)
          · rw [if_pos hc4] at h
            refine a_sub [1, 2, 3, 0] rfl ?_
            exact tX6_addBytes_42 hR ih h
          · rw [if_neg hc4] at h
            refine a_sub [1, 2, 3, 0] rfl ?_
            exact tX6_addBytes_38 hR ih h
set_option maxRecDepth 100000 in
theorem tX6_addBytes {X : Nat × (Nat → Int32)} {I : zPI} {L : zPL} {F : zPF} {a b : Nat} {c : Option Nat} (hR : zRin F a b c) (p1 : Int64) (r : zPI) (h : fX6_addBytes I p1 = some r) : zAM X mX6_addBytes 0 [zr 13, zl p1] (zS0, I, L, F) none (zS0, r, L, F) := by
  refine zAM_of (by decide) (Nat.le_of_ble_eq_true rfl) ⟨fun _ => rfl, fun _ => rfl⟩ (Nat.le_refl _) (Nat.le_refl _) ?_
  unfold fX6_addBytes at h
  show zAW zE0 X mX6_addBytes 0 0 [(0, zr 13), (1, zl p1)] [] (zS0, I, L, F) none (zS0, r, L, F)
  refine a_bipush (v := 56) dX6_addBytes_0 (by decide) ?_
  refine a_istore_n dX6_addBytes_2 rfl (by decide) rfl ?_
  refine a_sub [1, 2, 0] rfl ?_
  refine tX6_addBytes_3 hR (fun I h => ?_) zF _ _ _ h
  (try dsimp only at h)
  cases h
  exact a_vret dX6_addBytes_88 rfl
