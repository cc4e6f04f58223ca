def fX4_become (I : zPI) (p1 : Int32) (p2 : Int32) (p3 : Int32) : Option (zPI) := (if zin p1 9 then (if zin (2 * p1) 18 then (if zin ((2 * p1) + 1) 18 then some (zu (zu (zu I 2 p1.toNatClampNeg p2) 3 (2 * p1).toNatClampNeg p3) 3 ((2 * p1) + 1).toNatClampNeg p3) else none) else none) else none)
set_option maxRecDepth 100000 in
theorem tX4_become {X : Nat × (Nat → Int32)} {I : zPI} {L : zPL} {F : zPF} {a b : Nat} {c : Option Nat} (hR : zRin F a b c) (p1 : Int32) (p2 : Int32) (p3 : Int32) (r : zPI) (h : fX4_become I p1 p2 p3 = some r) : zAM X mX4_become 0 [zr 1, zi p1, zi p2, zi p3] (zS0, I, L, F) none (zS0, r, L, F) := by
  refine zAM_of (by decide) (Nat.le_of_ble_eq_true rfl) ⟨fun _ => rfl, fun _ => rfl⟩ (Nat.le_refl _) (Nat.le_refl _) ?_
  unfold fX4_become at h
  show zAW zE0 X mX4_become 0 0 [(0, zr 1), (1, zi p1), (2, zi p2), (3, zi p3)] [] (zS0, I, L, F) none (zS0, r, L, F)
  refine a_aload_n dX4_become_0 rfl 0 rfl ?_
  refine a_getq dX4_become_1 G_X4_11 zs_1 rfl (rf_1_0 hR) ?_
  refine a_iload_n dX4_become_4 rfl 1 rfl ?_
  refine a_iload_n dX4_become_5 rfl 2 rfl ?_
  obtain ⟨hz1, h⟩ := zif h
  refine a_iast dX4_become_6 zs_2 (zin_vp hz1) ?_
  refine a_aload_n dX4_become_7 rfl 0 rfl ?_
  refine a_getq dX4_become_8 G_X4_15 zs_1 rfl (rf_1_1 hR) ?_
  refine a_iconst (v := 2) dX4_become_11 (by decide) ?_
  refine a_iload_n dX4_become_12 rfl 1 rfl ?_
  refine a_imul dX4_become_13 ?_
  refine a_iload_n dX4_become_14 rfl 3 rfl ?_
  obtain ⟨hz2, h⟩ := zif h
  refine a_iast dX4_become_15 zs_3 (zin_vp hz2) ?_
  refine a_aload_n dX4_become_16 rfl 0 rfl ?_
  refine a_getq dX4_become_17 G_X4_15 zs_1 rfl (rf_1_1 hR) ?_
  refine a_iconst (v := 2) dX4_become_20 (by decide) ?_
  refine a_iload_n dX4_become_21 rfl 1 rfl ?_
  refine a_imul dX4_become_22 ?_
  refine a_iconst (v := 1) dX4_become_23 (by decide) ?_
  refine a_iadd dX4_become_24 ?_
  refine a_iload_n dX4_become_25 rfl 3 rfl ?_
  obtain ⟨hz3, h⟩ := zif h
  refine a_iast dX4_become_26 zs_3 (zin_vp hz3) ?_
  cases h
  exact a_vret dX4_become_27 rfl
def fX4_drawOf (I : zPI) (p1 : Int32) (p2 : Int32) (p3 : Int32) : Option (Int32) := (if zin (zrm p1 3) 3 then (if (fX0_isAback p2) = 0 then (if zin (p1 / 3) 3 then (fX0_pull I p2).bind (fun q5 => some (((((zst2 (zrm p1 3)) * p3) * q5) * (zmmax 0 (8 - (2 * (zmabs ((I 5 (p1 / 3).toNatClampNeg) - (fX0_best p2))))))) / 64)) else none) else some (-(((zst2 (zrm p1 3)) * p3) / 4))) else none)
set_option maxRecDepth 100000 in
theorem tX4_drawOf {X : Nat × (Nat → Int32)} {I : zPI} {L : zPL} {F : zPF} {a b : Nat} {c : Option Nat} (hR : zRin F a b c) (p1 : Int32) (p2 : Int32) (p3 : Int32) (r : Int32) (h : fX4_drawOf I p1 p2 p3 = some r) : zAM X mX4_drawOf 2 [zr 1, zi p1, zi p2, zi p3] (zS0, I, L, F) (some (zi r)) (zS0, I, L, F) := by
  refine zAM_of (by decide) (Nat.le_of_ble_eq_true rfl) ⟨fun h => (by cases h), fun h => (by cases h)⟩ (Nat.le_refl _) (Nat.le_refl _) ?_
  unfold fX4_drawOf at h
  show zAW zE0 X mX4_drawOf 2 0 [(0, zr 1), (1, zi p1), (2, zi p2), (3, zi p3)] [] (zS0, I, L, F) (some (zi r)) (zS0, I, L, F)
  refine a_gets (i9 := 2) dX4_drawOf_0 rfl zw708 ?_
  refine a_iload_n dX4_drawOf_3 rfl 1 rfl ?_
  refine a_iconst (v := 3) dX4_drawOf_4 (by decide) ?_
  refine a_irem dX4_drawOf_5 (by decide) ?_
  obtain ⟨hz1, h⟩ := zif h
  refine a_xaldK (i9 := 2) (f := zst2) dX4_drawOf_6 rfl (zin_vp hz1) rfl ?_
  refine a_iload_n dX4_drawOf_7 rfl 3 rfl ?_
  refine a_imul dX4_drawOf_8 ?_
  refine a_istore dX4_drawOf_9 (by decide) rfl ?_
  refine a_iload_n dX4_drawOf_11 rfl 3 rfl ?_
  refine a_callS dX4_drawOf_12 (tX0_isAback hR _ _ rfl) csX0_isAback zw710 (Nat.le_of_ble_eq_true rfl) rfl (Nat.le_of_ble_eq_true rfl) ⟨Nat.le_refl _, Nat.le_refl _⟩ (fun hb2 => ?_)
  refine a_if_eq (tgt := 24) dX4_drawOf_15 rfl (fun hc7 => ?_) (fun hc7 => ?_)
  · rw [if_pos hc7] at h
    refine a_aload_n dX4_drawOf_24 rfl 1 rfl ?_
    refine a_getq dX4_drawOf_25 G_X4_21 zs_1 rfl (rf_1_3 hR) ?_
    refine a_iload_n dX4_drawOf_28 rfl 2 rfl ?_
    refine a_iconst (v := 3) dX4_drawOf_29 (by decide) ?_
    refine a_idiv dX4_drawOf_30 (by decide) ?_
    obtain ⟨hz3, h⟩ := zif h
    refine a_iald dX4_drawOf_31 zs_5 (zin_vp hz3) ?_
    refine a_iload_n dX4_drawOf_32 rfl 3 rfl ?_
    refine a_callS dX4_drawOf_33 (tX0_best hR _ _ rfl) csX0_best zw711 (Nat.le_of_ble_eq_true rfl) rfl (Nat.le_of_ble_eq_true rfl) ⟨Nat.le_refl _, Nat.le_refl _⟩ (fun hb4 => ?_)
    refine a_isub dX4_drawOf_36 ?_
    refine a_mabs dX4_drawOf_37 zw689 (Nat.le_of_ble_eq_true rfl) (Nat.le_of_ble_eq_true rfl) ⟨Nat.le_refl _, Nat.le_refl _⟩ ?_
    refine a_istore dX4_drawOf_40 (by decide) rfl ?_
    refine a_iload dX4_drawOf_42 1 rfl ?_
    refine a_iload_n dX4_drawOf_44 rfl 4 rfl ?_
    obtain ⟨q5, hq5, h⟩ := zbind h
    refine a_callS dX4_drawOf_45 (tX0_pull hR _ _ hq5) csX0_pull zw714 (Nat.le_of_ble_eq_true rfl) rfl (Nat.le_of_ble_eq_true rfl) ⟨Nat.le_refl _, Nat.le_refl _⟩ (fun hb6 => ?_)
    refine a_imul dX4_drawOf_48 ?_
    refine a_iconst (v := 0) dX4_drawOf_49 (by decide) ?_
    refine a_bipush (v := 8) dX4_drawOf_50 (by decide) ?_
    refine a_iconst (v := 2) dX4_drawOf_52 (by decide) ?_
    refine a_iload dX4_drawOf_53 0 rfl ?_
    refine a_imul dX4_drawOf_55 ?_
    refine a_isub dX4_drawOf_56 ?_
    refine a_mmax dX4_drawOf_57 zw639 (Nat.le_of_ble_eq_true rfl) (Nat.le_of_ble_eq_true rfl) ⟨Nat.le_refl _, Nat.le_refl _⟩ ?_
    refine a_imul dX4_drawOf_60 ?_
    refine a_bipush (v := 64) dX4_drawOf_61 (by decide) ?_
    refine a_idiv dX4_drawOf_63 (by decide) ?_
    cases h
    exact a_iret dX4_drawOf_64 (by intro h; cases h) (znar_i rfl)
  · rw [if_neg hc7] at h
    refine a_iload dX4_drawOf_18 0 rfl ?_
    refine a_iconst (v := 4) dX4_drawOf_20 (by decide) ?_
    refine a_idiv dX4_drawOf_21 (by decide) ?_
    refine a_ineg dX4_drawOf_22 ?_
    cases h
    exact a_iret dX4_drawOf_23 (by intro h; cases h) (znar_i rfl)
def fX4_draw_5 (I : zPI) (K : Int32 → Option (Int32)) : Nat → Int32 → Int32 → Int32 → Int32 → Option (Int32)
  | 0, _, _, _, _ => none
  | n + 1, v1, v2, v3, v4 => (if 9 ≤ v4 then K v3 else (if zin v4 9 then (if (I 2 v4.toNatClampNeg) = 1 then (fX4_drawOf I v4 v1 v2).bind (fun q2 => fX4_draw_5 I K n v1 v2 (v3 + q2) (v4 + 1)) else fX4_draw_5 I K n v1 v2 v3 (v4 + 1)) else none))
def fX4_draw (I : zPI) (p1 : Int32) (p2 : Int32) : Option (Int32) := fX4_draw_5 I (fun v3 => some v3) zF p1 p2 0 0
set_option maxRecDepth 100000 in
theorem tX4_draw_5 {X : Nat × (Nat → Int32)} {I : zPI} {L : zPL} {F : zPF} {a b : Nat} {c : Option Nat} (hR : zRin F a b c) {r : Int32} {K : Int32 → Option (Int32)} (hK : ∀ (v3 : Int32), K v3 = some r → zAW zE0 X mX4_draw 3 40 [(3, zi v3)] [] (zS0, I, L, F) (some (zi r)) (zS0, I, L, F)) : ∀ (n : Nat) (v1 : Int32) (v2 : Int32) (v3 : Int32) (v4 : Int32), fX4_draw_5 I K n v1 v2 v3 v4 = some r → zAW zE0 X mX4_draw 3 5 [(0, zr 1), (1, zi v1), (2, zi v2), (3, zi v3), (4, zi v4)] [] (zS0, I, L, F) (some (zi r)) (zS0, I, L, F) := by
  intro n
  induction n with
  | zero =>
    intro v1 v2 v3 v4 h
    rw [fX4_draw_5.eq_1] at h
    cases h
  | succ n ih =>
    intro v1 v2 v3 v4 h
    rw [fX4_draw_5.eq_2] at h
    refine a_iload dX4_draw_5 4 rfl ?_
    refine a_bipush (v := 9) dX4_draw_7 (by decide) ?_
    refine a_icmp_ge (tgt := 40) dX4_draw_9 rfl (fun hc5 => ?_) (fun hc5 => ?_)
    · rw [if_pos hc5] at h
      refine a_sub [3] rfl ?_
      exact hK _ h
    · rw [if_neg hc5] at h
      refine a_aload_n dX4_draw_12 rfl 0 rfl ?_
      refine a_getq dX4_draw_13 G_X4_11 zs_1 rfl (rf_1_0 hR) ?_
      refine a_iload dX4_draw_16 4 rfl ?_
      obtain ⟨hz1, h⟩ := zif h
      refine a_iald dX4_draw_18 zs_2 (zin_vp hz1) ?_
      refine a_iconst (v := 1) dX4_draw_19 (by decide) ?_
      refine a_icmp_ne (tgt := 34) dX4_draw_20 rfl (fun hc4 => ?_) (fun hc4 => ?_)
      · rw [if_neg hc4] at h
        refine a_iincK (k0 := 1) dX4_draw_34 (by decide) 4 rfl (by decide) rfl ?_
        refine a_goto (tgt := 5) dX4_draw_37 rfl ?_
        refine a_sub [1, 2, 3, 4, 0] rfl ?_
        exact ih _ _ _ _ h
      · rw [if_pos hc4] at h
        refine a_iload_n dX4_draw_23 rfl 3 rfl ?_
        refine a_aload_n dX4_draw_24 rfl 0 rfl ?_
        refine a_iload dX4_draw_25 4 rfl ?_
        refine a_iload_n dX4_draw_27 rfl 1 rfl ?_
        refine a_iload_n dX4_draw_28 rfl 2 rfl ?_
        obtain ⟨q2, hq2, h⟩ := zbind h
        refine a_callV dX4_draw_29 (tX4_drawOf hR _ _ _ _ hq2) csX4_drawOf zw704 (Nat.le_of_ble_eq_true rfl) zs_1 rfl rfl (Nat.le_of_ble_eq_true rfl) ⟨Nat.le_refl _, Nat.le_refl _⟩ (fun hb3 => ?_)
        refine a_iadd dX4_draw_32 ?_
        refine a_istore_n dX4_draw_33 rfl (by decide) rfl ?_
        refine a_iincK (k0 := 1) dX4_draw_34 (by decide) 4 rfl (by decide) rfl ?_
        refine a_goto (tgt := 5) dX4_draw_37 rfl ?_
        refine a_sub [2, 3, 4, 1, 0] rfl ?_
        exact ih _ _ _ _ h
set_option maxRecDepth 100000 in
theorem tX4_draw {X : Nat × (Nat → Int32)} {I : zPI} {L : zPL} {F : zPF} {a b : Nat} {c : Option Nat} (hR : zRin F a b c) (p1 : Int32) (p2 : Int32) (r : Int32) (h : fX4_draw I p1 p2 = some r) : zAM X mX4_draw 3 [zr 1, zi p1, zi p2] (zS0, I, L, F) (some (zi r)) (zS0, I, L, F) := by
  refine zAM_of (by decide) (Nat.le_of_ble_eq_true rfl) ⟨fun h => (by cases h), fun h => (by cases h)⟩ (Nat.le_refl _) (Nat.le_refl _) ?_
  unfold fX4_draw at h
  show zAW zE0 X mX4_draw 3 0 [(0, zr 1), (1, zi p1), (2, zi p2)] [] (zS0, I, L, F) (some (zi r)) (zS0, I, L, F)
  refine a_iconst (v := 0) dX4_draw_0 (by decide) ?_
  refine a_istore_n dX4_draw_1 rfl (by decide) rfl ?_
  refine a_iconst (v := 0) dX4_draw_2 (by decide) ?_
  refine a_istore dX4_draw_3 (by decide) rfl ?_
  refine a_sub [2, 3, 4, 1, 0] rfl ?_
  refine tX4_draw_5 hR (fun v3 h => ?_) zF _ _ _ _ h
  (try dsimp only at h)
  refine a_iload_n dX4_draw_40 rfl 0 rfl ?_
  cases h
  exact a_iret dX4_draw_41 (by intro h; cases h) (znar_i rfl)
def fX4_mark (I : zPI) (p1 : Int32) (p2 : Int32) (p3 : Int32) : Option (zPI) := (if p1 = 2 then (if zin p2 3 then some (zu I 8 p2.toNatClampNeg p3) else none) else if p1 = 3 then (if zin p2 18 then some (zu I 7 p2.toNatClampNeg p3) else none) else (if zin p2 9 then some (zu I 6 p2.toNatClampNeg p3) else none))
set_option maxRecDepth 100000 in
theorem tX4_mark {X : Nat × (Nat → Int32)} {I : zPI} {L : zPL} {F : zPF} {a b : Nat} {c : Option Nat} (hR : zRin F a b c) (p1 : Int32) (p2 : Int32) (p3 : Int32) (r : zPI) (h : fX4_mark I p1 p2 p3 = some r) : zAM X mX4_mark 0 [zr 1, zi p1, zi p2, zi p3] (zS0, I, L, F) none (zS0, r, L, F) := by
  refine zAM_of (by decide) (Nat.le_of_ble_eq_true rfl) ⟨fun _ => rfl, fun _ => rfl⟩ (Nat.le_refl _) (Nat.le_refl _) ?_
  unfold fX4_mark at h
  show zAW zE0 X mX4_mark 0 0 [(0, zr 1), (1, zi p1), (2, zi p2), (3, zi p3)] [] (zS0, I, L, F) none (zS0, r, L, F)
  refine a_iload_n dX4_mark_0 rfl 1 rfl ?_
  by_cases hc3 : p1 = 2
  · rw [if_pos hc3] at h
    refine a_lookup (tgt := 28) dX4_mark_1 (by decide) (by rw [hc3]; first | done | rfl) rfl ?_
    refine a_aload_n dX4_mark_28 rfl 0 rfl ?_
    refine a_getq dX4_mark_29 G_X4_30 zs_1 rfl (rf_1_6 hR) ?_
    refine a_iload_n dX4_mark_32 rfl 2 rfl ?_
    refine a_iload_n dX4_mark_33 rfl 3 rfl ?_
    obtain ⟨hz2, h⟩ := zif h
    refine a_iast dX4_mark_34 zs_8 (zin_vp hz2) ?_
    refine a_goto (tgt := 55) dX4_mark_35 rfl ?_
    cases h
    exact a_vret dX4_mark_55 rfl
  · rw [if_neg hc3] at h
    by_cases hc5 : p1 = 3
    · rw [if_pos hc5] at h
      refine a_lookup (tgt := 38) dX4_mark_1 (by decide) (by rw [hc5]; first | done | rfl) rfl ?_
      refine a_aload_n dX4_mark_38 rfl 0 rfl ?_
      refine a_getq dX4_mark_39 G_X4_27 zs_1 rfl (rf_1_5 hR) ?_
      refine a_iload_n dX4_mark_42 rfl 2 rfl ?_
      refine a_iload_n dX4_mark_43 rfl 3 rfl ?_
      obtain ⟨hz4, h⟩ := zif h
      refine a_iast dX4_mark_44 zs_7 (zin_vp hz4) ?_
      refine a_goto (tgt := 55) dX4_mark_45 rfl ?_
      cases h
      exact a_vret dX4_mark_55 rfl
    · rw [if_neg hc5] at h
      refine a_lookup (tgt := 48) (off := 47) dX4_mark_1 (by decide) (by simp only [Op.lookupswitch.offset]; rw [if_neg (fun e => znot (k := 2) (z := 2) hc3 (by decide) e.symm), if_neg (fun e => znot (k := 3) (z := 3) hc5 (by decide) e.symm)]) rfl ?_
      refine a_aload_n dX4_mark_48 rfl 0 rfl ?_
      refine a_getq dX4_mark_49 G_X4_24 zs_1 rfl (rf_1_4 hR) ?_
      refine a_iload_n dX4_mark_52 rfl 2 rfl ?_
      refine a_iload_n dX4_mark_53 rfl 3 rfl ?_
      obtain ⟨hz6, h⟩ := zif h
      refine a_iast dX4_mark_54 zs_6 (zin_vp hz6) ?_
      cases h
      exact a_vret dX4_mark_55 rfl
def fX4_hasParted (I : zPI) (p1 : Int32) : Option (Int32) := (if zin (2 * p1) 18 then (if (I 3 (2 * p1).toNatClampNeg) = 2 then some 1 else (if zin ((2 * p1) + 1) 18 then (if (I 3 ((2 * p1) + 1).toNatClampNeg) = 2 then some 1 else some 0) else none)) else none)
set_option maxRecDepth 100000 in
theorem tX4_hasParted {X : Nat × (Nat → Int32)} {I : zPI} {L : zPL} {F : zPF} {a b : Nat} {c : Option Nat} (hR : zRin F a b c) (p1 : Int32) (r : Int32) (h : fX4_hasParted I p1 = some r) : zAM X mX4_hasParted 0 [zr 1, zi p1] (zS0, I, L, F) (some (zi r)) (zS0, I, L, F) := by
  refine zAM_of (by decide) (Nat.le_of_ble_eq_true rfl) ⟨fun h => (by cases h), fun h => (by cases h)⟩ (Nat.le_refl _) (Nat.le_refl _) ?_
  unfold fX4_hasParted at h
  show zAW zE0 X mX4_hasParted 0 0 [(0, zr 1), (1, zi p1)] [] (zS0, I, L, F) (some (zi r)) (zS0, I, L, F)
  refine a_aload_n dX4_hasParted_0 rfl 0 rfl ?_
  refine a_getq dX4_hasParted_1 G_X4_15 zs_1 rfl (rf_1_1 hR) ?_
  refine a_iconst (v := 2) dX4_hasParted_4 (by decide) ?_
  refine a_iload_n dX4_hasParted_5 rfl 1 rfl ?_
  refine a_imul dX4_hasParted_6 ?_
  obtain ⟨hz1, h⟩ := zif h
  refine a_iald dX4_hasParted_7 zs_3 (zin_vp hz1) ?_
  refine a_iconst (v := 2) dX4_hasParted_8 (by decide) ?_
  refine a_icmp_eq (tgt := 26) dX4_hasParted_9 rfl (fun hc4 => ?_) (fun hc4 => ?_)
  · rw [if_pos hc4] at h
    refine a_iconst (v := 1) dX4_hasParted_26 (by decide) ?_
    refine a_goto (tgt := 31) dX4_hasParted_27 rfl ?_
    cases h
    exact a_iret dX4_hasParted_31 (by intro h; cases h) (znar_b1 rfl)
  · rw [if_neg hc4] at h
    refine a_aload_n dX4_hasParted_12 rfl 0 rfl ?_
    refine a_getq dX4_hasParted_13 G_X4_15 zs_1 rfl (rf_1_1 hR) ?_
    refine a_iconst (v := 2) dX4_hasParted_16 (by decide) ?_
    refine a_iload_n dX4_hasParted_17 rfl 1 rfl ?_
    refine a_imul dX4_hasParted_18 ?_
    refine a_iconst (v := 1) dX4_hasParted_19 (by decide) ?_
    refine a_iadd dX4_hasParted_20 ?_
    obtain ⟨hz2, h⟩ := zif h
    refine a_iald dX4_hasParted_21 zs_3 (zin_vp hz2) ?_
    refine a_iconst (v := 2) dX4_hasParted_22 (by decide) ?_
    refine a_icmp_ne (tgt := 30) dX4_hasParted_23 rfl (fun hc3 => ?_) (fun hc3 => ?_)
    · rw [if_neg hc3] at h
      refine a_iconst (v := 0) dX4_hasParted_30 (by decide) ?_
      cases h
      exact a_iret dX4_hasParted_31 (by intro h; cases h) (znar_b0 rfl)
    · rw [if_pos hc3] at h
      refine a_iconst (v := 1) dX4_hasParted_26 (by decide) ?_
      refine a_goto (tgt := 31) dX4_hasParted_27 rfl ?_
      cases h
      exact a_iret dX4_hasParted_31 (by intro h; cases h) (znar_b1 rfl)
def fX4_renew (I : zPI) (p1 : Int32) : Option (zPI) := (if zin p1 18 then (if zin p1 18 then (if zin (p1 / 2) 9 then (if ((zu (zu I 3 p1.toNatClampNeg 0) 4 p1.toNatClampNeg 0) 2 (p1 / 2).toNatClampNeg) = 2 then (fX4_hasParted (zu (zu I 3 p1.toNatClampNeg 0) 4 p1.toNatClampNeg 0) (p1 / 2)).bind (fun q4 => (if q4 = 0 then (if zin (p1 / 2) 9 then some (zu (zu (zu I 3 p1.toNatClampNeg 0) 4 p1.toNatClampNeg 0) 2 (p1 / 2).toNatClampNeg 0) else none) else some (zu (zu I 3 p1.toNatClampNeg 0) 4 p1.toNatClampNeg 0))) else some (zu (zu I 3 p1.toNatClampNeg 0) 4 p1.toNatClampNeg 0)) else none) else none) else none)
set_option maxRecDepth 100000 in
theorem tX4_renew {X : Nat × (Nat → Int32)} {I : zPI} {L : zPL} {F : zPF} {a b : Nat} {c : Option Nat} (hR : zRin F a b c) (p1 : Int32) (r : zPI) (h : fX4_renew I p1 = some r) : zAM X mX4_renew 1 [zr 1, zi p1] (zS0, I, L, F) none (zS0, r, L, F) := by
  refine zAM_of (by decide) (Nat.le_of_ble_eq_true rfl) ⟨fun _ => rfl, fun _ => rfl⟩ (Nat.le_refl _) (Nat.le_refl _) ?_
  unfold fX4_renew at h
  show zAW zE0 X mX4_renew 1 0 [(0, zr 1), (1, zi p1)] [] (zS0, I, L, F) none (zS0, r, L, F)
  refine a_aload_n dX4_renew_0 rfl 0 rfl ?_
  refine a_getq dX4_renew_1 G_X4_15 zs_1 rfl (rf_1_1 hR) ?_
  refine a_iload_n dX4_renew_4 rfl 1 rfl ?_
  refine a_iconst (v := 0) dX4_renew_5 (by decide) ?_
  obtain ⟨hz1, h⟩ := zif h
  refine a_iast dX4_renew_6 zs_3 (zin_vp hz1) ?_
  refine a_aload_n dX4_renew_7 rfl 0 rfl ?_
  refine a_getq dX4_renew_8 G_X4_18 zs_1 rfl (rf_1_2 hR) ?_
  refine a_iload_n dX4_renew_11 rfl 1 rfl ?_
  refine a_iconst (v := 0) dX4_renew_12 (by decide) ?_
  obtain ⟨hz2, h⟩ := zif h
  refine a_iast dX4_renew_13 zs_4 (zin_vp hz2) ?_
  refine a_iload_n dX4_renew_14 rfl 1 rfl ?_
  refine a_iconst (v := 2) dX4_renew_15 (by decide) ?_
  refine a_idiv dX4_renew_16 (by decide) ?_
  refine a_istore_n dX4_renew_17 rfl (by decide) rfl ?_
  refine a_aload_n dX4_renew_18 rfl 1 rfl ?_
  refine a_getq dX4_renew_19 G_X4_11 zs_1 rfl (rf_1_0 hR) ?_
  refine a_iload_n dX4_renew_22 rfl 0 rfl ?_
  obtain ⟨hz3, h⟩ := zif h
  refine a_iald dX4_renew_23 zs_2 (zin_vp hz3) ?_
  refine a_iconst (v := 2) dX4_renew_24 (by decide) ?_
  refine a_icmp_ne (tgt := 43) dX4_renew_25 rfl (fun hc8 => ?_) (fun hc8 => ?_)
  · rw [if_neg hc8] at h
    cases h
    exact a_vret dX4_renew_43 rfl
  · rw [if_pos hc8] at h
    refine a_aload_n dX4_renew_28 rfl 1 rfl ?_
    refine a_iload_n dX4_renew_29 rfl 0 rfl ?_
    obtain ⟨q4, hq4, h⟩ := zbind h
    refine a_callV dX4_renew_30 (tX4_hasParted hR _ _ hq4) csX4_hasParted zw610 (Nat.le_of_ble_eq_true rfl) zs_1 rfl rfl (Nat.le_of_ble_eq_true rfl) ⟨Nat.le_refl _, Nat.le_refl _⟩ (fun hb5 => ?_)
    refine a_if_ne (tgt := 43) dX4_renew_33 rfl (fun hc7 => ?_) (fun hc7 => ?_)
    · rw [if_neg hc7] at h
      cases h
      exact a_vret dX4_renew_43 rfl
    · rw [if_pos hc7] at h
      refine a_aload_n dX4_renew_36 rfl 1 rfl ?_
      refine a_getq dX4_renew_37 G_X4_11 zs_1 rfl (rf_1_0 hR) ?_
      refine a_iload_n dX4_renew_40 rfl 0 rfl ?_
      refine a_iconst (v := 0) dX4_renew_41 (by decide) ?_
      obtain ⟨hz6, h⟩ := zif h
      refine a_iast dX4_renew_42 zs_2 (zin_vp hz6) ?_
      cases h
      exact a_vret dX4_renew_43 rfl
def fX4_finish (I : zPI) (p1 : Int32) (p2 : Int32) (p3 : Int32) : Option (zPI) := (fX4_mark I p1 p2 (-1)).bind (fun q1 => (if p1 = 0 then (fX4_become q1 p2 1 1).bind (fun q4 => some (q4)) else if p1 = 1 then (fX4_become q1 p2 0 0).bind (fun q7 => some (q7)) else if p1 = 2 then (if zin p2 3 then some (zu q1 5 p2.toNatClampNeg p3) else none) else (fX4_renew q1 p2).bind (fun q12 => some (q12))))
set_option maxRecDepth 100000 in
theorem tX4_finish {X : Nat × (Nat → Int32)} {I : zPI} {L : zPL} {F : zPF} {a b : Nat} {c : Option Nat} (hR : zRin F a b c) (p1 : Int32) (p2 : Int32) (p3 : Int32) (r : zPI) (h : fX4_finish I p1 p2 p3 = some r) : zAM X mX4_finish 2 [zr 1, zi p1, zi p2, zi p3] (zS0, I, L, F) none (zS0, r, L, F) := by
  refine zAM_of (by decide) (Nat.le_of_ble_eq_true rfl) ⟨fun _ => rfl, fun _ => rfl⟩ (Nat.le_refl _) (Nat.le_refl _) ?_
  unfold fX4_finish at h
  show zAW zE0 X mX4_finish 2 0 [(0, zr 1), (1, zi p1), (2, zi p2), (3, zi p3)] [] (zS0, I, L, F) none (zS0, r, L, F)
  refine a_aload_n dX4_finish_0 rfl 0 rfl ?_
  refine a_iload_n dX4_finish_1 rfl 1 rfl ?_
  refine a_iload_n dX4_finish_2 rfl 2 rfl ?_
  refine a_iconst (v := (-1)) dX4_finish_3 (by decide) ?_
  obtain ⟨q1, hq1, h⟩ := zbind h
  refine a_callV dX4_finish_4 (tX4_mark hR _ _ _ _ hq1) csX4_mark zw598 (Nat.le_of_ble_eq_true rfl) zs_1 rfl rfl (Nat.le_of_ble_eq_true rfl) ⟨Nat.le_refl _, Nat.le_refl _⟩ (fun hb2 => ?_)
  refine a_iload_n dX4_finish_7 rfl 1 rfl ?_
  by_cases hc6 : p1 = 0
  · rw [if_pos hc6] at h
    refine a_tableIn (tgt := 36) dX4_finish_8 (by rw [hc6]; decide) (by rw [hc6]; decide) (by rw [hc6]; first | done | rfl) rfl ?_
    refine a_aload_n dX4_finish_36 rfl 0 rfl ?_
    refine a_iload_n dX4_finish_37 rfl 2 rfl ?_
    refine a_iconst (v := 1) dX4_finish_38 (by decide) ?_
    refine a_iconst (v := 1) dX4_finish_39 (by decide) ?_
    obtain ⟨q4, hq4, h⟩ := zbind h
    refine a_callV dX4_finish_40 (tX4_become hR _ _ _ _ hq4) csX4_become zw602 (Nat.le_of_ble_eq_true rfl) zs_1 rfl rfl (Nat.le_of_ble_eq_true rfl) ⟨Nat.le_refl _, Nat.le_refl _⟩ (fun hb5 => ?_)
    refine a_goto (tgt := 71) dX4_finish_43 rfl ?_
    cases h
    exact a_vret dX4_finish_71 rfl
  · rw [if_neg hc6] at h
    by_cases hc9 : p1 = 1
    · rw [if_pos hc9] at h
      refine a_tableIn (tgt := 46) dX4_finish_8 (by rw [hc9]; decide) (by rw [hc9]; decide) (by rw [hc9]; first | done | rfl) rfl ?_
      refine a_aload_n dX4_finish_46 rfl 0 rfl ?_
      refine a_iload_n dX4_finish_47 rfl 2 rfl ?_
      refine a_iconst (v := 0) dX4_finish_48 (by decide) ?_
      refine a_iconst (v := 0) dX4_finish_49 (by decide) ?_
      obtain ⟨q7, hq7, h⟩ := zbind h
      refine a_callV dX4_finish_50 (tX4_become hR _ _ _ _ hq7) csX4_become zw602 (Nat.le_of_ble_eq_true rfl) zs_1 rfl rfl (Nat.le_of_ble_eq_true rfl) ⟨Nat.le_refl _, Nat.le_refl _⟩ (fun hb8 => ?_)
      refine a_goto (tgt := 71) dX4_finish_53 rfl ?_
      cases h
      exact a_vret dX4_finish_71 rfl
    · rw [if_neg hc9] at h
      by_cases hc11 : p1 = 2
      · rw [if_pos hc11] at h
        refine a_tableIn (tgt := 56) dX4_finish_8 (by rw [hc11]; decide) (by rw [hc11]; decide) (by rw [hc11]; first | done | rfl) rfl ?_
        refine a_aload_n dX4_finish_56 rfl 0 rfl ?_
        refine a_getq dX4_finish_57 G_X4_21 zs_1 rfl (rf_1_3 hR) ?_
        refine a_iload_n dX4_finish_60 rfl 2 rfl ?_
        refine a_iload_n dX4_finish_61 rfl 3 rfl ?_
        obtain ⟨hz10, h⟩ := zif h
        refine a_iast dX4_finish_62 zs_5 (zin_vp hz10) ?_
        refine a_goto (tgt := 71) dX4_finish_63 rfl ?_
        cases h
        exact a_vret dX4_finish_71 rfl
      · rw [if_neg hc11] at h
        have hk9 : (p1 : Int32).toInt < 0 ∨ 2 < (p1 : Int32).toInt := by
          have := znot (k := 0) (z := 0) hc6 (by decide)
          have := znot (k := 1) (z := 1) hc9 (by decide)
          have := znot (k := 2) (z := 2) hc11 (by decide)
          omega
        refine a_tableOut (tgt := 66) dX4_finish_8 hk9 rfl ?_
        refine a_aload_n dX4_finish_66 rfl 0 rfl ?_
        refine a_iload_n dX4_finish_67 rfl 2 rfl ?_
        obtain ⟨q12, hq12, h⟩ := zbind h
        refine a_callV dX4_finish_68 (tX4_renew hR _ _ hq12) csX4_renew zw606 (Nat.le_of_ble_eq_true rfl) zs_1 rfl rfl (Nat.le_of_ble_eq_true rfl) ⟨Nat.le_refl _, Nat.le_refl _⟩ (fun hb13 => ?_)
        cases h
        exact a_vret dX4_finish_71 rfl
def fX4_greatestWear_4 (I : zPI) (K : Int32 → Option (Int32)) : Nat → Int32 → Int32 → Option (Int32)
  | 0, _, _ => none
  | n + 1, v1, v2 => (if 18 ≤ v2 then K v1 else (if zin v2 18 then (if (I 3 v2.toNatClampNeg) = 1 then (if zin v2 18 then fX4_greatestWear_4 I K n (zmmax v1 (I 4 v2.toNatClampNeg)) (v2 + 1) else none) else fX4_greatestWear_4 I K n v1 (v2 + 1)) else none))
def fX4_greatestWear (I : zPI) : Option (Int32) := fX4_greatestWear_4 I (fun v1 => some v1) zF 0 0
set_option maxRecDepth 100000 in
theorem tX4_greatestWear_4 {X : Nat × (Nat → Int32)} {I : zPI} {L : zPL} {F : zPF} {a b : Nat} {c : Option Nat} (hR : zRin F a b c) {r : Int32} {K : Int32 → Option (Int32)} (hK : ∀ (v1 : Int32), K v1 = some r → zAW zE0 X mX4_greatestWear 1 37 [(1, zi v1)] [] (zS0, I, L, F) (some (zi r)) (zS0, I, L, F)) : ∀ (n : Nat) (v1 : Int32) (v2 : Int32), fX4_greatestWear_4 I K n v1 v2 = some r → zAW zE0 X mX4_greatestWear 1 4 [(0, zr 1), (1, zi v1), (2, zi v2)] [] (zS0, I, L, F) (some (zi r)) (zS0, I, L, F) := by
  intro n
  induction n with
  | zero =>
    intro v1 v2 h
    rw [fX4_greatestWear_4.eq_1] at h
    cases h
  | succ n ih =>
    intro v1 v2 h
    rw [fX4_greatestWear_4.eq_2] at h
    refine a_iload_n dX4_greatestWear_4 rfl 2 rfl ?_
    refine a_bipush (v := 18) dX4_greatestWear_5 (by decide) ?_
    refine a_icmp_ge (tgt := 37) dX4_greatestWear_7 rfl (fun hc4 => ?_) (fun hc4 => ?_)
    · rw [if_pos hc4] at h
      refine a_sub [1] rfl ?_
      exact hK _ h
    · rw [if_neg hc4] at h
      refine a_aload_n dX4_greatestWear_10 rfl 0 rfl ?_
      refine a_getq dX4_greatestWear_11 G_X4_15 zs_1 rfl (rf_1_1 hR) ?_
      refine a_iload_n dX4_greatestWear_14 rfl 2 rfl ?_
      obtain ⟨hz1, h⟩ := zif h
      refine a_iald dX4_greatestWear_15 zs_3 (zin_vp hz1) ?_
      refine a_iconst (v := 1) dX4_greatestWear_16 (by decide) ?_
      refine a_icmp_ne (tgt := 31) dX4_greatestWear_17 rfl (fun hc3 => ?_) (fun hc3 => ?_)
      · rw [if_neg hc3] at h
        refine a_iincK (k0 := 1) dX4_greatestWear_31 (by decide) 2 rfl (by decide) rfl ?_
        refine a_goto (tgt := 4) dX4_greatestWear_34 rfl ?_
        refine a_sub [1, 2, 0] rfl ?_
        exact ih _ _ h
      · rw [if_pos hc3] at h
        refine a_iload_n dX4_greatestWear_20 rfl 1 rfl ?_
        refine a_aload_n dX4_greatestWear_21 rfl 0 rfl ?_
        refine a_getq dX4_greatestWear_22 G_X4_18 zs_1 rfl (rf_1_2 hR) ?_
        refine a_iload_n dX4_greatestWear_25 rfl 2 rfl ?_
        obtain ⟨hz2, h⟩ := zif h
        refine a_iald dX4_greatestWear_26 zs_4 (zin_vp hz2) ?_
        refine a_mmax dX4_greatestWear_27 zw639 (Nat.le_of_ble_eq_true rfl) (Nat.le_of_ble_eq_true rfl) ⟨Nat.le_refl _, Nat.le_refl _⟩ ?_
        refine a_istore_n dX4_greatestWear_30 rfl (by decide) rfl ?_
        refine a_iincK (k0 := 1) dX4_greatestWear_31 (by decide) 2 rfl (by decide) rfl ?_
        refine a_goto (tgt := 4) dX4_greatestWear_34 rfl ?_
        refine a_sub [2, 1, 0] rfl ?_
        exact ih _ _ h
set_option maxRecDepth 100000 in
theorem tX4_greatestWear {X : Nat × (Nat → Int32)} {I : zPI} {L : zPL} {F : zPF} {a b : Nat} {c : Option Nat} (hR : zRin F a b c) (r : Int32) (h : fX4_greatestWear I = some r) : zAM X mX4_greatestWear 1 [zr 1] (zS0, I, L, F) (some (zi r)) (zS0, I, L, F) := by
  refine zAM_of (by decide) (Nat.le_of_ble_eq_true rfl) ⟨fun h => (by cases h), fun h => (by cases h)⟩ (Nat.le_refl _) (Nat.le_refl _) ?_
  unfold fX4_greatestWear at h
  show zAW zE0 X mX4_greatestWear 1 0 [(0, zr 1)] [] (zS0, I, L, F) (some (zi r)) (zS0, I, L, F)
  refine a_iconst (v := 0) dX4_greatestWear_0 (by decide) ?_
  refine a_istore_n dX4_greatestWear_1 rfl (by decide) rfl ?_
  refine a_iconst (v := 0) dX4_greatestWear_2 (by decide) ?_
  refine a_istore_n dX4_greatestWear_3 rfl (by decide) rfl ?_
  refine a_sub [2, 1, 0] rfl ?_
  refine tX4_greatestWear_4 hR (fun v1 h => ?_) zF _ _ h
  (try dsimp only at h)
  refine a_iload_n dX4_greatestWear_37 rfl 0 rfl ?_
  cases h
  exact a_iret dX4_greatestWear_38 (by intro h; cases h) (znar_i rfl)
def fX4_handsFor (p0 : Int32) : Int32 := (if p0 = 0 then 3 else if p0 = 1 then 4 else if p0 = 2 then 5 else 2)
set_option maxRecDepth 100000 in
theorem tX4_handsFor {X : Nat × (Nat → Int32)} {I : zPI} {L : zPL} {F : zPF} {a b : Nat} {c : Option Nat} (hR : zRin F a b c) (p0 : Int32) (r : Int32) (h : fX4_handsFor p0 = r) : zAM X mX4_handsFor 0 [zi p0] (zS0, I, L, F) (some (zi r)) (zS0, I, L, F) := by
  refine zAM_of (by decide) (Nat.le_of_ble_eq_true rfl) ⟨fun h => (by cases h), fun h => (by cases h)⟩ (Nat.le_refl _) (Nat.le_refl _) ?_
  unfold fX4_handsFor at h
  show zAW zE0 X mX4_handsFor 0 0 [(0, zi p0)] [] (zS0, I, L, F) (some (zi r)) (zS0, I, L, F)
  refine a_iload_n dX4_handsFor_0 rfl 0 rfl ?_
  by_cases hc2 : p0 = 0
  · rw [if_pos hc2] at h
    refine a_tableIn (tgt := 28) dX4_handsFor_1 (by rw [hc2]; decide) (by rw [hc2]; decide) (by rw [hc2]; first | done | rfl) rfl ?_
    refine a_iconst (v := 3) dX4_handsFor_28 (by decide) ?_
    subst h
    exact a_iret dX4_handsFor_29 (by intro h; cases h) (znar_i rfl)
  · rw [if_neg hc2] at h
    by_cases hc3 : p0 = 1
    · rw [if_pos hc3] at h
      refine a_tableIn (tgt := 30) dX4_handsFor_1 (by rw [hc3]; decide) (by rw [hc3]; decide) (by rw [hc3]; first | done | rfl) rfl ?_
      refine a_iconst (v := 4) dX4_handsFor_30 (by decide) ?_
      subst h
      exact a_iret dX4_handsFor_31 (by intro h; cases h) (znar_i rfl)
    · rw [if_neg hc3] at h
      by_cases hc4 : p0 = 2
      · rw [if_pos hc4] at h
        refine a_tableIn (tgt := 32) dX4_handsFor_1 (by rw [hc4]; decide) (by rw [hc4]; decide) (by rw [hc4]; first | done | rfl) rfl ?_
        refine a_iconst (v := 5) dX4_handsFor_32 (by decide) ?_
        subst h
        exact a_iret dX4_handsFor_33 (by intro h; cases h) (znar_i rfl)
      · rw [if_neg hc4] at h
        have hk9 : (p0 : Int32).toInt < 0 ∨ 2 < (p0 : Int32).toInt := by
          have := znot (k := 0) (z := 0) hc2 (by decide)
          have := znot (k := 1) (z := 1) hc3 (by decide)
          have := znot (k := 2) (z := 2) hc4 (by decide)
          omega
        refine a_tableOut (tgt := 34) dX4_handsFor_1 hk9 rfl ?_
        refine a_iconst (v := 2) dX4_handsFor_34 (by decide) ?_
        subst h
        exact a_iret dX4_handsFor_35 (by intro h; cases h) (znar_i rfl)
def fX4_isBarred (I : zPI) (p1 : Int32) (p2 : Int32) : Option (Int32) := (if p1 = 2 then (if zin p2 3 then (if (I 8 p2.toNatClampNeg) = (-1) then some 0 else some 1) else none) else if p1 = 3 then (if zin p2 18 then (if (I 7 p2.toNatClampNeg) = (-1) then (if zin (p2 / 2) 9 then (if (I 6 (p2 / 2).toNatClampNeg) = (-1) then some 0 else some 1) else none) else some 1) else none) else (if zin p2 9 then (if (I 6 p2.toNatClampNeg) = (-1) then (if zin (2 * p2) 18 then (if (I 7 (2 * p2).toNatClampNeg) = (-1) then (if zin ((2 * p2) + 1) 18 then (if (I 7 ((2 * p2) + 1).toNatClampNeg) = (-1) then some 0 else some 1) else none) else some 1) else none) else some 1) else none))
set_option maxRecDepth 100000 in
theorem tX4_isBarred {X : Nat × (Nat → Int32)} {I : zPI} {L : zPL} {F : zPF} {a b : Nat} {c : Option Nat} (hR : zRin F a b c) (p1 : Int32) (p2 : Int32) (r : Int32) (h : fX4_isBarred I p1 p2 = some r) : zAM X mX4_isBarred 0 [zr 1, zi p1, zi p2] (zS0, I, L, F) (some (zi r)) (zS0, I, L, F) := by
  refine zAM_of (by decide) (Nat.le_of_ble_eq_true rfl) ⟨fun h => (by cases h), fun h => (by cases h)⟩ (Nat.le_refl _) (Nat.le_refl _) ?_
  unfold fX4_isBarred at h
  show zAW zE0 X mX4_isBarred 0 0 [(0, zr 1), (1, zi p1), (2, zi p2)] [] (zS0, I, L, F) (some (zi r)) (zS0, I, L, F)
  refine a_iload_n dX4_isBarred_0 rfl 1 rfl ?_
  by_cases hc4 : p1 = 2
  · rw [if_pos hc4] at h
    refine a_lookup (tgt := 28) dX4_isBarred_1 (by decide) (by rw [hc4]; first | done | rfl) rfl ?_
    refine a_aload_n dX4_isBarred_28 rfl 0 rfl ?_
    refine a_getq dX4_isBarred_29 G_X4_30 zs_1 rfl (rf_1_6 hR) ?_
    refine a_iload_n dX4_isBarred_32 rfl 2 rfl ?_
    obtain ⟨hz2, h⟩ := zif h
    refine a_iald dX4_isBarred_33 zs_8 (zin_vp hz2) ?_
    refine a_iconst (v := (-1)) dX4_isBarred_34 (by decide) ?_
    refine a_icmp_eq (tgt := 42) dX4_isBarred_35 rfl (fun hc3 => ?_) (fun hc3 => ?_)
    · rw [if_pos hc3] at h
      refine a_iconst (v := 0) dX4_isBarred_42 (by decide) ?_
      cases h
      exact a_iret dX4_isBarred_43 (by intro h; cases h) (znar_b0 rfl)
    · rw [if_neg hc3] at h
      refine a_iconst (v := 1) dX4_isBarred_38 (by decide) ?_
      refine a_goto (tgt := 43) dX4_isBarred_39 rfl ?_
      cases h
      exact a_iret dX4_isBarred_43 (by intro h; cases h) (znar_b1 rfl)
  · rw [if_neg hc4] at h
    by_cases hc9 : p1 = 3
    · rw [if_pos hc9] at h
      refine a_lookup (tgt := 44) dX4_isBarred_1 (by decide) (by rw [hc9]; first | done | rfl) rfl ?_
      refine a_aload_n dX4_isBarred_44 rfl 0 rfl ?_
      refine a_getq dX4_isBarred_45 G_X4_27 zs_1 rfl (rf_1_5 hR) ?_
      refine a_iload_n dX4_isBarred_48 rfl 2 rfl ?_
      obtain ⟨hz5, h⟩ := zif h
      refine a_iald dX4_isBarred_49 zs_7 (zin_vp hz5) ?_
      refine a_iconst (v := (-1)) dX4_isBarred_50 (by decide) ?_
      refine a_icmp_ne (tgt := 66) dX4_isBarred_51 rfl (fun hc8 => ?_) (fun hc8 => ?_)
      · rw [if_neg hc8] at h
        refine a_iconst (v := 1) dX4_isBarred_66 (by decide) ?_
        refine a_goto (tgt := 71) dX4_isBarred_67 rfl ?_
        cases h
        exact a_iret dX4_isBarred_71 (by intro h; cases h) (znar_b1 rfl)
      · rw [if_pos hc8] at h
        refine a_aload_n dX4_isBarred_54 rfl 0 rfl ?_
        refine a_getq dX4_isBarred_55 G_X4_24 zs_1 rfl (rf_1_4 hR) ?_
        refine a_iload_n dX4_isBarred_58 rfl 2 rfl ?_
        refine a_iconst (v := 2) dX4_isBarred_59 (by decide) ?_
        refine a_idiv dX4_isBarred_60 (by decide) ?_
        obtain ⟨hz6, h⟩ := zif h
        refine a_iald dX4_isBarred_61 zs_6 (zin_vp hz6) ?_
        refine a_iconst (v := (-1)) dX4_isBarred_62 (by decide) ?_
        refine a_icmp_eq (tgt := 70) dX4_isBarred_63 rfl (fun hc7 => ?_) (fun hc7 => ?_)
        · rw [if_pos hc7] at h
          refine a_iconst (v := 0) dX4_isBarred_70 (by decide) ?_
          cases h
          exact a_iret dX4_isBarred_71 (by intro h; cases h) (znar_b0 rfl)
        · rw [if_neg hc7] at h
          refine a_iconst (v := 1) dX4_isBarred_66 (by decide) ?_
          refine a_goto (tgt := 71) dX4_isBarred_67 rfl ?_
          cases h
          exact a_iret dX4_isBarred_71 (by intro h; cases h) (znar_b1 rfl)
    · rw [if_neg hc9] at h
      refine a_lookup (tgt := 72) (off := 71) dX4_isBarred_1 (by decide) (by simp only [Op.lookupswitch.offset]; rw [if_neg (fun e => znot (k := 2) (z := 2) hc4 (by decide) e.symm), if_neg (fun e => znot (k := 3) (z := 3) hc9 (by decide) e.symm)]) rfl ?_
      refine a_aload_n dX4_isBarred_72 rfl 0 rfl ?_
      refine a_getq dX4_isBarred_73 G_X4_24 zs_1 rfl (rf_1_4 hR) ?_
      refine a_iload_n dX4_isBarred_76 rfl 2 rfl ?_
      obtain ⟨hz10, h⟩ := zif h
      refine a_iald dX4_isBarred_77 zs_6 (zin_vp hz10) ?_
      refine a_iconst (v := (-1)) dX4_isBarred_78 (by decide) ?_
      refine a_icmp_ne (tgt := 108) dX4_isBarred_79 rfl (fun hc15 => ?_) (fun hc15 => ?_)
      · rw [if_neg hc15] at h
        refine a_iconst (v := 1) dX4_isBarred_108 (by decide) ?_
        refine a_goto (tgt := 113) dX4_isBarred_109 rfl ?_
        cases h
        exact a_iret dX4_isBarred_113 (by intro h; cases h) (znar_b1 rfl)
      · rw [if_pos hc15] at h
        refine a_aload_n dX4_isBarred_82 rfl 0 rfl ?_
        refine a_getq dX4_isBarred_83 G_X4_27 zs_1 rfl (rf_1_5 hR) ?_
        refine a_iconst (v := 2) dX4_isBarred_86 (by decide) ?_
        refine a_iload_n dX4_isBarred_87 rfl 2 rfl ?_
        refine a_imul dX4_isBarred_88 ?_
        obtain ⟨hz11, h⟩ := zif h
        refine a_iald dX4_isBarred_89 zs_7 (zin_vp hz11) ?_
        refine a_iconst (v := (-1)) dX4_isBarred_90 (by decide) ?_
        refine a_icmp_ne (tgt := 108) dX4_isBarred_91 rfl (fun hc14 => ?_) (fun hc14 => ?_)
        · rw [if_neg hc14] at h
          refine a_iconst (v := 1) dX4_isBarred_108 (by decide) ?_
          refine a_goto (tgt := 113) dX4_isBarred_109 rfl ?_
          cases h
          exact a_iret dX4_isBarred_113 (by intro h; cases h) (znar_b1 rfl)
        · rw [if_pos hc14] at h
          refine a_aload_n dX4_isBarred_94 rfl 0 rfl ?_
          refine a_getq dX4_isBarred_95 G_X4_27 zs_1 rfl (rf_1_5 hR) ?_
          refine a_iconst (v := 2) dX4_isBarred_98 (by decide) ?_
          refine a_iload_n dX4_isBarred_99 rfl 2 rfl ?_
          refine a_imul dX4_isBarred_100 ?_
          refine a_iconst (v := 1) dX4_isBarred_101 (by decide) ?_
          refine a_iadd dX4_isBarred_102 ?_
          obtain ⟨hz12, h⟩ := zif h
          refine a_iald dX4_isBarred_103 zs_7 (zin_vp hz12) ?_
          refine a_iconst (v := (-1)) dX4_isBarred_104 (by decide) ?_
          refine a_icmp_eq (tgt := 112) dX4_isBarred_105 rfl (fun hc13 => ?_) (fun hc13 => ?_)
          · rw [if_pos hc13] at h
            refine a_iconst (v := 0) dX4_isBarred_112 (by decide) ?_
            cases h
            exact a_iret dX4_isBarred_113 (by intro h; cases h) (znar_b0 rfl)
          · rw [if_neg hc13] at h
            refine a_iconst (v := 1) dX4_isBarred_108 (by decide) ?_
            refine a_goto (tgt := 113) dX4_isBarred_109 rfl ?_
            cases h
            exact a_iret dX4_isBarred_113 (by intro h; cases h) (znar_b1 rfl)
def fX4_isIdle (I : zPI) (p1 : Int32) (p2 : Int32) (p3 : Int32) : Option (Int32) := (if p1 = 0 then (if zin p2 9 then (if (I 2 p2.toNatClampNeg) = 0 then (fX4_hasParted I p2).bind (fun q3 => (if q3 = 0 then some 0 else some 1)) else some 1) else none) else if p1 = 1 then (if zin p2 9 then (if (I 2 p2.toNatClampNeg) = 1 then some 0 else some 1) else none) else if p1 = 2 then (if zin p2 3 then (if (I 5 p2.toNatClampNeg) = p3 then some 1 else some 0) else none) else (if zin p2 18 then (if (I 3 p2.toNatClampNeg) = 1 then some 1 else some 0) else none))
set_option maxRecDepth 100000 in
theorem tX4_isIdle {X : Nat × (Nat → Int32)} {I : zPI} {L : zPL} {F : zPF} {a b : Nat} {c : Option Nat} (hR : zRin F a b c) (p1 : Int32) (p2 : Int32) (p3 : Int32) (r : Int32) (h : fX4_isIdle I p1 p2 p3 = some r) : zAM X mX4_isIdle 1 [zr 1, zi p1, zi p2, zi p3] (zS0, I, L, F) (some (zi r)) (zS0, I, L, F) := by
  refine zAM_of (by decide) (Nat.le_of_ble_eq_true rfl) ⟨fun h => (by cases h), fun h => (by cases h)⟩ (Nat.le_refl _) (Nat.le_refl _) ?_
  unfold fX4_isIdle at h
  show zAW zE0 X mX4_isIdle 1 0 [(0, zr 1), (1, zi p1), (2, zi p2), (3, zi p3)] [] (zS0, I, L, F) (some (zi r)) (zS0, I, L, F)
  refine a_iload_n dX4_isIdle_0 rfl 1 rfl ?_
  by_cases hc7 : p1 = 0
  · rw [if_pos hc7] at h
    refine a_tableIn (tgt := 28) dX4_isIdle_1 (by rw [hc7]; decide) (by rw [hc7]; decide) (by rw [hc7]; first | done | rfl) rfl ?_
    refine a_aload_n dX4_isIdle_28 rfl 0 rfl ?_
    refine a_getq dX4_isIdle_29 G_X4_11 zs_1 rfl (rf_1_0 hR) ?_
    refine a_iload_n dX4_isIdle_32 rfl 2 rfl ?_
    obtain ⟨hz2, h⟩ := zif h
    refine a_iald dX4_isIdle_33 zs_2 (zin_vp hz2) ?_
    refine a_if_ne (tgt := 45) dX4_isIdle_34 rfl (fun hc6 => ?_) (fun hc6 => ?_)
    · rw [if_neg hc6] at h
      refine a_iconst (v := 1) dX4_isIdle_45 (by decide) ?_
      refine a_goto (tgt := 50) dX4_isIdle_46 rfl ?_
      cases h
      exact a_iret dX4_isIdle_50 (by intro h; cases h) (znar_b1 rfl)
    · rw [if_pos hc6] at h
      refine a_aload_n dX4_isIdle_37 rfl 0 rfl ?_
      refine a_iload_n dX4_isIdle_38 rfl 2 rfl ?_
      obtain ⟨q3, hq3, h⟩ := zbind h
      refine a_callV dX4_isIdle_39 (tX4_hasParted hR _ _ hq3) csX4_hasParted zw610 (Nat.le_of_ble_eq_true rfl) zs_1 rfl rfl (Nat.le_of_ble_eq_true rfl) ⟨Nat.le_refl _, Nat.le_refl _⟩ (fun hb4 => ?_)
      refine a_if_eq (tgt := 49) dX4_isIdle_42 rfl (fun hc5 => ?_) (fun hc5 => ?_)
      · rw [if_pos hc5] at h
        refine a_iconst (v := 0) dX4_isIdle_49 (by decide) ?_
        cases h
        exact a_iret dX4_isIdle_50 (by intro h; cases h) (znar_b0 rfl)
      · rw [if_neg hc5] at h
        refine a_iconst (v := 1) dX4_isIdle_45 (by decide) ?_
        refine a_goto (tgt := 50) dX4_isIdle_46 rfl ?_
        cases h
        exact a_iret dX4_isIdle_50 (by intro h; cases h) (znar_b1 rfl)
  · rw [if_neg hc7] at h
    by_cases hc10 : p1 = 1
    · rw [if_pos hc10] at h
      refine a_tableIn (tgt := 51) dX4_isIdle_1 (by rw [hc10]; decide) (by rw [hc10]; decide) (by rw [hc10]; first | done | rfl) rfl ?_
      refine a_aload_n dX4_isIdle_51 rfl 0 rfl ?_
      refine a_getq dX4_isIdle_52 G_X4_11 zs_1 rfl (rf_1_0 hR) ?_
      refine a_iload_n dX4_isIdle_55 rfl 2 rfl ?_
      obtain ⟨hz8, h⟩ := zif h
      refine a_iald dX4_isIdle_56 zs_2 (zin_vp hz8) ?_
      refine a_iconst (v := 1) dX4_isIdle_57 (by decide) ?_
      refine a_icmp_eq (tgt := 65) dX4_isIdle_58 rfl (fun hc9 => ?_) (fun hc9 => ?_)
      · rw [if_pos hc9] at h
        refine a_iconst (v := 0) dX4_isIdle_65 (by decide) ?_
        cases h
        exact a_iret dX4_isIdle_66 (by intro h; cases h) (znar_b0 rfl)
      · rw [if_neg hc9] at h
        refine a_iconst (v := 1) dX4_isIdle_61 (by decide) ?_
        refine a_goto (tgt := 66) dX4_isIdle_62 rfl ?_
        cases h
        exact a_iret dX4_isIdle_66 (by intro h; cases h) (znar_b1 rfl)
    · rw [if_neg hc10] at h
      by_cases hc13 : p1 = 2
      · rw [if_pos hc13] at h
        refine a_tableIn (tgt := 67) dX4_isIdle_1 (by rw [hc13]; decide) (by rw [hc13]; decide) (by rw [hc13]; first | done | rfl) rfl ?_
        refine a_aload_n dX4_isIdle_67 rfl 0 rfl ?_
        refine a_getq dX4_isIdle_68 G_X4_21 zs_1 rfl (rf_1_3 hR) ?_
        refine a_iload_n dX4_isIdle_71 rfl 2 rfl ?_
        obtain ⟨hz11, h⟩ := zif h
        refine a_iald dX4_isIdle_72 zs_5 (zin_vp hz11) ?_
        refine a_iload_n dX4_isIdle_73 rfl 3 rfl ?_
        refine a_icmp_ne (tgt := 81) dX4_isIdle_74 rfl (fun hc12 => ?_) (fun hc12 => ?_)
        · rw [if_neg hc12] at h
          refine a_iconst (v := 0) dX4_isIdle_81 (by decide) ?_
          cases h
          exact a_iret dX4_isIdle_82 (by intro h; cases h) (znar_b0 rfl)
        · rw [if_pos hc12] at h
          refine a_iconst (v := 1) dX4_isIdle_77 (by decide) ?_
          refine a_goto (tgt := 82) dX4_isIdle_78 rfl ?_
          cases h
          exact a_iret dX4_isIdle_82 (by intro h; cases h) (znar_b1 rfl)
      · rw [if_neg hc13] at h
        have hk9 : (p1 : Int32).toInt < 0 ∨ 2 < (p1 : Int32).toInt := by
          have := znot (k := 0) (z := 0) hc7 (by decide)
          have := znot (k := 1) (z := 1) hc10 (by decide)
          have := znot (k := 2) (z := 2) hc13 (by decide)
          omega
        refine a_tableOut (tgt := 83) dX4_isIdle_1 hk9 rfl ?_
        refine a_aload_n dX4_isIdle_83 rfl 0 rfl ?_
        refine a_getq dX4_isIdle_84 G_X4_15 zs_1 rfl (rf_1_1 hR) ?_
        refine a_iload_n dX4_isIdle_87 rfl 2 rfl ?_
        obtain ⟨hz14, h⟩ := zif h
        refine a_iald dX4_isIdle_88 zs_3 (zin_vp hz14) ?_
        refine a_iconst (v := 1) dX4_isIdle_89 (by decide) ?_
        refine a_icmp_ne (tgt := 97) dX4_isIdle_90 rfl (fun hc15 => ?_) (fun hc15 => ?_)
        · rw [if_neg hc15] at h
          refine a_iconst (v := 0) dX4_isIdle_97 (by decide) ?_
          cases h
          exact a_iret dX4_isIdle_98 (by intro h; cases h) (znar_b0 rfl)
        · rw [if_pos hc15] at h
          refine a_iconst (v := 1) dX4_isIdle_93 (by decide) ?_
          refine a_goto (tgt := 98) dX4_isIdle_94 rfl ?_
          cases h
          exact a_iret dX4_isIdle_98 (by intro h; cases h) (znar_b1 rfl)
def fX4_lose_18 (K : zPI → Option (zPI)) : Nat → Int32 → Int32 → zPI → Option (zPI)
  | 0, _, _, _ => none
  | n + 1, v1, v2, I => (if ((2 * v1) + 1) < v2 then K I else (if zin v2 18 then (if (I 3 v2.toNatClampNeg) = 1 then (if zin v2 18 then fX4_lose_18 K n v1 (v2 + 1) (zu I 3 v2.toNatClampNeg 0) else none) else fX4_lose_18 K n v1 (v2 + 1) I) else none))
def fX4_lose (I : zPI) (p1 : Int32) : Option (zPI) := (if zin p1 9 then (if zin p1 9 then fX4_lose_18 (fun I => some (I)) zF p1 (2 * p1) (zu (zu I 2 p1.toNatClampNeg 2) 6 p1.toNatClampNeg (-1)) else none) else none)
set_option maxRecDepth 100000 in
theorem tX4_lose_18 {X : Nat × (Nat → Int32)} {L : zPL} {F : zPF} {a b : Nat} {c : Option Nat} (hR : zRin F a b c) {r : zPI} {K : zPI → Option (zPI)} (hK : ∀ (I : zPI), K I = some r → zAW zE0 X mX4_lose 0 50 [] [] (zS0, I, L, F) none (zS0, r, L, F)) : ∀ (n : Nat) (v1 : Int32) (v2 : Int32) (I : zPI), fX4_lose_18 K n v1 v2 I = some r → zAW zE0 X mX4_lose 0 18 [(0, zr 1), (1, zi v1), (2, zi v2)] [] (zS0, I, L, F) none (zS0, r, L, F) := by
  intro n
  induction n with
  | zero =>
    intro v1 v2 I h
    rw [fX4_lose_18.eq_1] at h
    cases h
  | succ n ih =>
    intro v1 v2 I h
    rw [fX4_lose_18.eq_2] at h
    refine a_iload_n dX4_lose_18 rfl 2 rfl ?_
    refine a_iconst (v := 2) dX4_lose_19 (by decide) ?_
    refine a_iload_n dX4_lose_20 rfl 1 rfl ?_
    refine a_imul dX4_lose_21 ?_
    refine a_iconst (v := 1) dX4_lose_22 (by decide) ?_
    refine a_iadd dX4_lose_23 ?_
    refine a_icmp_gt (tgt := 50) dX4_lose_24 rfl (fun hc6 => ?_) (fun hc6 => ?_)
    · rw [if_pos hc6] at h
      refine a_sub [] rfl ?_
      exact hK _ h
    · rw [if_neg hc6] at h
      refine a_aload_n dX4_lose_27 rfl 0 rfl ?_
      refine a_getq dX4_lose_28 G_X4_15 zs_1 rfl (rf_1_1 hR) ?_
      refine a_iload_n dX4_lose_31 rfl 2 rfl ?_
      obtain ⟨hz3, h⟩ := zif h
      refine a_iald dX4_lose_32 zs_3 (zin_vp hz3) ?_
      refine a_iconst (v := 1) dX4_lose_33 (by decide) ?_
      refine a_icmp_ne (tgt := 44) dX4_lose_34 rfl (fun hc5 => ?_) (fun hc5 => ?_)
      · rw [if_neg hc5] at h
        refine a_iincK (k0 := 1) dX4_lose_44 (by decide) 2 rfl (by decide) rfl ?_
        refine a_goto (tgt := 18) dX4_lose_47 rfl ?_
        refine a_sub [1, 2, 0] rfl ?_
        exact ih _ _ _ h
      · rw [if_pos hc5] at h
        refine a_aload_n dX4_lose_37 rfl 0 rfl ?_
        refine a_getq dX4_lose_38 G_X4_15 zs_1 rfl (rf_1_1 hR) ?_
        refine a_iload_n dX4_lose_41 rfl 2 rfl ?_
        refine a_iconst (v := 0) dX4_lose_42 (by decide) ?_
        obtain ⟨hz4, h⟩ := zif h
        refine a_iast dX4_lose_43 zs_3 (zin_vp hz4) ?_
        refine a_iincK (k0 := 1) dX4_lose_44 (by decide) 2 rfl (by decide) rfl ?_
        refine a_goto (tgt := 18) dX4_lose_47 rfl ?_
        refine a_sub [1, 2, 0] rfl ?_
        exact ih _ _ _ h
set_option maxRecDepth 100000 in
theorem tX4_lose {X : Nat × (Nat → Int32)} {I : zPI} {L : zPL} {F : zPF} {a b : Nat} {c : Option Nat} (hR : zRin F a b c) (p1 : Int32) (r : zPI) (h : fX4_lose I p1 = some r) : zAM X mX4_lose 0 [zr 1, zi p1] (zS0, I, L, F) none (zS0, r, L, F) := by
  refine zAM_of (by decide) (Nat.le_of_ble_eq_true rfl) ⟨fun _ => rfl, fun _ => rfl⟩ (Nat.le_refl _) (Nat.le_refl _) ?_
  unfold fX4_lose at h
  show zAW zE0 X mX4_lose 0 0 [(0, zr 1), (1, zi p1)] [] (zS0, I, L, F) none (zS0, r, L, F)
  refine a_aload_n dX4_lose_0 rfl 0 rfl ?_
  refine a_getq dX4_lose_1 G_X4_11 zs_1 rfl (rf_1_0 hR) ?_
  refine a_iload_n dX4_lose_4 rfl 1 rfl ?_
  refine a_iconst (v := 2) dX4_lose_5 (by decide) ?_
  obtain ⟨hz1, h⟩ := zif h
  refine a_iast dX4_lose_6 zs_2 (zin_vp hz1) ?_
  refine a_aload_n dX4_lose_7 rfl 0 rfl ?_
  refine a_getq dX4_lose_8 G_X4_24 zs_1 rfl (rf_1_4 hR) ?_
  refine a_iload_n dX4_lose_11 rfl 1 rfl ?_
  refine a_iconst (v := (-1)) dX4_lose_12 (by decide) ?_
  obtain ⟨hz2, h⟩ := zif h
  refine a_iast dX4_lose_13 zs_6 (zin_vp hz2) ?_
  refine a_iconst (v := 2) dX4_lose_14 (by decide) ?_
  refine a_iload_n dX4_lose_15 rfl 1 rfl ?_
  refine a_imul dX4_lose_16 ?_
  refine a_istore_n dX4_lose_17 rfl (by decide) rfl ?_
  refine a_sub [1, 2, 0] rfl ?_
  refine tX4_lose_18 hR (fun I h => ?_) zF _ _ _ h
  (try dsimp only at h)
  cases h
  exact a_vret dX4_lose_50 rfl
def fX4_minutesFor (I : zPI) (p1 : Int32) (p2 : Int32) (p3 : Int32) : Option (Int32) := (if p1 = 0 then some (4 + (2 * (zrm p2 3))) else if p1 = 1 then some (6 + (2 * (zrm p2 3))) else if p1 = 2 then (if zin p2 3 then some (2 * (zmabs (p3 - (I 5 p2.toNatClampNeg)))) else none) else some 10)
set_option maxRecDepth 100000 in
theorem tX4_minutesFor {X : Nat × (Nat → Int32)} {I : zPI} {L : zPL} {F : zPF} {a b : Nat} {c : Option Nat} (hR : zRin F a b c) (p1 : Int32) (p2 : Int32) (p3 : Int32) (r : Int32) (h : fX4_minutesFor I p1 p2 p3 = some r) : zAM X mX4_minutesFor 1 [zr 1, zi p1, zi p2, zi p3] (zS0, I, L, F) (some (zi r)) (zS0, I, L, F) := by
  refine zAM_of (by decide) (Nat.le_of_ble_eq_true rfl) ⟨fun h => (by cases h), fun h => (by cases h)⟩ (Nat.le_refl _) (Nat.le_refl _) ?_
  unfold fX4_minutesFor at h
  show zAW zE0 X mX4_minutesFor 1 0 [(0, zr 1), (1, zi p1), (2, zi p2), (3, zi p3)] [] (zS0, I, L, F) (some (zi r)) (zS0, I, L, F)
  refine a_iload_n dX4_minutesFor_0 rfl 1 rfl ?_
  by_cases hc2 : p1 = 0
  · rw [if_pos hc2] at h
    refine a_tableIn (tgt := 28) dX4_minutesFor_1 (by rw [hc2]; decide) (by rw [hc2]; decide) (by rw [hc2]; first | done | rfl) rfl ?_
    refine a_iconst (v := 4) dX4_minutesFor_28 (by decide) ?_
    refine a_iconst (v := 2) dX4_minutesFor_29 (by decide) ?_
    refine a_iload_n dX4_minutesFor_30 rfl 2 rfl ?_
    refine a_iconst (v := 3) dX4_minutesFor_31 (by decide) ?_
    refine a_irem dX4_minutesFor_32 (by decide) ?_
    refine a_imul dX4_minutesFor_33 ?_
    refine a_iadd dX4_minutesFor_34 ?_
    cases h
    exact a_iret dX4_minutesFor_35 (by intro h; cases h) (znar_i rfl)
  · rw [if_neg hc2] at h
    by_cases hc3 : p1 = 1
    · rw [if_pos hc3] at h
      refine a_tableIn (tgt := 36) dX4_minutesFor_1 (by rw [hc3]; decide) (by rw [hc3]; decide) (by rw [hc3]; first | done | rfl) rfl ?_
      refine a_bipush (v := 6) dX4_minutesFor_36 (by decide) ?_
      refine a_iconst (v := 2) dX4_minutesFor_38 (by decide) ?_
      refine a_iload_n dX4_minutesFor_39 rfl 2 rfl ?_
      refine a_iconst (v := 3) dX4_minutesFor_40 (by decide) ?_
      refine a_irem dX4_minutesFor_41 (by decide) ?_
      refine a_imul dX4_minutesFor_42 ?_
      refine a_iadd dX4_minutesFor_43 ?_
      cases h
      exact a_iret dX4_minutesFor_44 (by intro h; cases h) (znar_i rfl)
    · rw [if_neg hc3] at h
      by_cases hc5 : p1 = 2
      · rw [if_pos hc5] at h
        refine a_tableIn (tgt := 45) dX4_minutesFor_1 (by rw [hc5]; decide) (by rw [hc5]; decide) (by rw [hc5]; first | done | rfl) rfl ?_
        refine a_iconst (v := 2) dX4_minutesFor_45 (by decide) ?_
        refine a_iload_n dX4_minutesFor_46 rfl 3 rfl ?_
        refine a_aload_n dX4_minutesFor_47 rfl 0 rfl ?_
        refine a_getq dX4_minutesFor_48 G_X4_21 zs_1 rfl (rf_1_3 hR) ?_
        refine a_iload_n dX4_minutesFor_51 rfl 2 rfl ?_
        obtain ⟨hz4, h⟩ := zif h
        refine a_iald dX4_minutesFor_52 zs_5 (zin_vp hz4) ?_
        refine a_isub dX4_minutesFor_53 ?_
        refine a_mabs dX4_minutesFor_54 zw689 (Nat.le_of_ble_eq_true rfl) (Nat.le_of_ble_eq_true rfl) ⟨Nat.le_refl _, Nat.le_refl _⟩ ?_
        refine a_imul dX4_minutesFor_57 ?_
        cases h
        exact a_iret dX4_minutesFor_58 (by intro h; cases h) (znar_i rfl)
      · rw [if_neg hc5] at h
        have hk9 : (p1 : Int32).toInt < 0 ∨ 2 < (p1 : Int32).toInt := by
          have := znot (k := 0) (z := 0) hc2 (by decide)
          have := znot (k := 1) (z := 1) hc3 (by decide)
          have := znot (k := 2) (z := 2) hc5 (by decide)
          omega
        refine a_tableOut (tgt := 59) dX4_minutesFor_1 hk9 rfl ?_
        refine a_bipush (v := 10) dX4_minutesFor_59 (by decide) ?_
        cases h
        exact a_iret dX4_minutesFor_61 (by intro h; cases h) (znar_i rfl)
def fX4_strainRope (I : zPI) (p1 : Int32) (p2 : Int32) : Option (zPI) := (if zin p1 18 then (if ((I 4 p1.toNatClampNeg) + p2) ≤ 900 then (if zin p1 18 then (if zin p1 18 then some (zu I 4 p1.toNatClampNeg ((I 4 p1.toNatClampNeg) + (p2 / 16))) else none) else none) else (if zin p1 18 then some (zu (zu I 3 p1.toNatClampNeg 2) 1 7 (((zu I 3 p1.toNatClampNeg 2) 1 7) + 1)) else none)) else none)
set_option maxRecDepth 100000 in
theorem tX4_strainRope {X : Nat × (Nat → Int32)} {I : zPI} {L : zPL} {F : zPF} {a b : Nat} {c : Option Nat} (hR : zRin F a b c) (p1 : Int32) (p2 : Int32) (r : zPI) (h : fX4_strainRope I p1 p2 = some r) : zAM X mX4_strainRope 0 [zr 1, zi p1, zi p2] (zS0, I, L, F) none (zS0, r, L, F) := by
  refine zAM_of (by decide) (Nat.le_of_ble_eq_true rfl) ⟨fun _ => rfl, fun _ => rfl⟩ (Nat.le_refl _) (Nat.le_refl _) ?_
  unfold fX4_strainRope at h
  show zAW zE0 X mX4_strainRope 0 0 [(0, zr 1), (1, zi p1), (2, zi p2)] [] (zS0, I, L, F) none (zS0, r, L, F)
  refine a_aload_n dX4_strainRope_0 rfl 0 rfl ?_
  refine a_getq dX4_strainRope_1 G_X4_18 zs_1 rfl (rf_1_2 hR) ?_
  refine a_iload_n dX4_strainRope_4 rfl 1 rfl ?_
  obtain ⟨hz1, h⟩ := zif h
  refine a_iald dX4_strainRope_5 zs_4 (zin_vp hz1) ?_
  refine a_iload_n dX4_strainRope_6 rfl 2 rfl ?_
  refine a_iadd dX4_strainRope_7 ?_
  refine a_sipush (v := 900) dX4_strainRope_8 (by decide) ?_
  refine a_icmp_le (tgt := 34) dX4_strainRope_11 rfl (fun hc5 => ?_) (fun hc5 => ?_)
  · rw [if_pos hc5] at h
    refine a_aload_n dX4_strainRope_34 rfl 0 rfl ?_
    refine a_getq dX4_strainRope_35 G_X4_18 zs_1 rfl (rf_1_2 hR) ?_
    refine a_iload_n dX4_strainRope_38 rfl 1 rfl ?_
    refine a_dup2 dX4_strainRope_39 rfl rfl ?_
    obtain ⟨hz2, h⟩ := zif h
    refine a_iald dX4_strainRope_40 zs_4 (zin_vp hz2) ?_
    refine a_iload_n dX4_strainRope_41 rfl 2 rfl ?_
    refine a_bipush (v := 16) dX4_strainRope_42 (by decide) ?_
    refine a_idiv dX4_strainRope_44 (by decide) ?_
    refine a_iadd dX4_strainRope_45 ?_
    obtain ⟨hz3, h⟩ := zif h
    refine a_iast dX4_strainRope_46 zs_4 (zin_vp hz3) ?_
    cases h
    exact a_vret dX4_strainRope_47 rfl
  · rw [if_neg hc5] at h
    refine a_aload_n dX4_strainRope_14 rfl 0 rfl ?_
    refine a_getq dX4_strainRope_15 G_X4_15 zs_1 rfl (rf_1_1 hR) ?_
    refine a_iload_n dX4_strainRope_18 rfl 1 rfl ?_
    refine a_iconst (v := 2) dX4_strainRope_19 (by decide) ?_
    obtain ⟨hz4, h⟩ := zif h
    refine a_iast dX4_strainRope_20 zs_3 (zin_vp hz4) ?_
    refine a_aload_n dX4_strainRope_21 rfl 0 rfl ?_
    refine a_dup dX4_strainRope_22 rfl ?_
    refine a_geti dX4_strainRope_23 G_X4_76 zs_1 rfl ?_
    refine a_iconst (v := 1) dX4_strainRope_26 (by decide) ?_
    refine a_iadd dX4_strainRope_27 ?_
    refine a_puti dX4_strainRope_28 F_X4_76 zs_1 rfl ⟨rfl, rfl⟩ ?_
    refine a_goto (tgt := 47) dX4_strainRope_31 rfl ?_
    cases h
    exact a_vret dX4_strainRope_47 rfl
def fX4_strain_25 (v1 : Int32) (v4 : Int32) (I : zPI) : Option (Int32 × zPI) := (fX4_strainRope I (2 * v1) v4).bind (fun q2 => (fX4_strainRope q2 ((2 * v1) + 1) v4).bind (fun q4 => (if (q4 1 7) ≤ (I 1 7) then some (0, q4) else some (1, q4))))
def fX4_strain (I : zPI) (p1 : Int32) (p2 : Int32) (p3 : Int32) : Option (Int32 × zPI) := (if zin (zrm p1 3) 3 then (if p3 = 0 then fX4_strain_25 p1 (((p2 * p2) * (zst2 (zrm p1 3))) / 4) I else fX4_strain_25 p1 (2 * (((p2 * p2) * (zst2 (zrm p1 3))) / 4)) I) else none)
set_option maxRecDepth 100000 in
theorem tX4_strain_25 {X : Nat × (Nat → Int32)} {I : zPI} {L : zPL} {F : zPF} {a b : Nat} {c : Option Nat} (hR : zRin F a b c) {r : Int32 × zPI} {v1 : Int32} {v4 : Int32} (h : fX4_strain_25 v1 v4 I = some r) : zAW zE0 X mX4_strain 1 25 [(0, zr 1), (1, zi v1), (4, zi v4)] [] (zS0, I, L, F) (some (zi r.1)) (zS0, r.2, L, F) := by
  unfold fX4_strain_25 at h
  refine a_aload_n dX4_strain_25 rfl 0 rfl ?_
  refine a_geti dX4_strain_26 G_X4_76 zs_1 rfl ?_
  refine a_istore dX4_strain_29 (by decide) rfl ?_
  refine a_aload_n dX4_strain_31 rfl 1 rfl ?_
  refine a_iconst (v := 2) dX4_strain_32 (by decide) ?_
  refine a_iload_n dX4_strain_33 rfl 2 rfl ?_
  refine a_imul dX4_strain_34 ?_
  refine a_iload dX4_strain_35 3 rfl ?_
  obtain ⟨q2, hq2, h⟩ := zbind h
  refine a_callV dX4_strain_37 (tX4_strainRope hR _ _ _ hq2) csX4_strainRope zw733 (Nat.le_of_ble_eq_true rfl) zs_1 rfl rfl (Nat.le_of_ble_eq_true rfl) ⟨Nat.le_refl _, Nat.le_refl _⟩ (fun hb3 => ?_)
  refine a_aload_n dX4_strain_40 rfl 1 rfl ?_
  refine a_iconst (v := 2) dX4_strain_41 (by decide) ?_
  refine a_iload_n dX4_strain_42 rfl 2 rfl ?_
  refine a_imul dX4_strain_43 ?_
  refine a_iconst (v := 1) dX4_strain_44 (by decide) ?_
  refine a_iadd dX4_strain_45 ?_
  refine a_iload dX4_strain_46 3 rfl ?_
  obtain ⟨q4, hq4, h⟩ := zbind h
  refine a_callV dX4_strain_48 (tX4_strainRope hR _ _ _ hq4) csX4_strainRope zw733 (Nat.le_of_ble_eq_true rfl) zs_1 rfl rfl (Nat.le_of_ble_eq_true rfl) ⟨Nat.le_refl _, Nat.le_refl _⟩ (fun hb5 => ?_)
  refine a_aload_n dX4_strain_51 rfl 1 rfl ?_
  refine a_geti dX4_strain_52 G_X4_76 zs_1 rfl ?_
  refine a_iload dX4_strain_55 0 rfl ?_
  refine a_icmp_le (tgt := 64) dX4_strain_57 rfl (fun hc6 => ?_) (fun hc6 => ?_)
  · rw [if_pos hc6] at h
    refine a_iconst (v := 0) dX4_strain_64 (by decide) ?_
    cases h
    exact a_iret dX4_strain_65 (by intro h; cases h) (znar_b0 rfl)
  · rw [if_neg hc6] at h
    refine a_iconst (v := 1) dX4_strain_60 (by decide) ?_
    refine a_goto (tgt := 65) dX4_strain_61 rfl ?_
    cases h
    exact a_iret dX4_strain_65 (by intro h; cases h) (znar_b1 rfl)
set_option maxRecDepth 100000 in
theorem tX4_strain {X : Nat × (Nat → Int32)} {I : zPI} {L : zPL} {F : zPF} {a b : Nat} {c : Option Nat} (hR : zRin F a b c) (p1 : Int32) (p2 : Int32) (p3 : Int32) (r : Int32 × zPI) (h : fX4_strain I p1 p2 p3 = some r) : zAM X mX4_strain 1 [zr 1, zi p1, zi p2, zi p3] (zS0, I, L, F) (some (zi r.1)) (zS0, r.2, L, F) := by
  refine zAM_of (by decide) (Nat.le_of_ble_eq_true rfl) ⟨fun h => (by cases h), fun h => (by cases h)⟩ (Nat.le_refl _) (Nat.le_refl _) ?_
  unfold fX4_strain at h
  show zAW zE0 X mX4_strain 1 0 [(0, zr 1), (1, zi p1), (2, zi p2), (3, zi p3)] [] (zS0, I, L, F) (some (zi r.1)) (zS0, r.2, L, F)
  refine a_iload_n dX4_strain_0 rfl 2 rfl ?_
  refine a_iload_n dX4_strain_1 rfl 2 rfl ?_
  refine a_imul dX4_strain_2 ?_
  refine a_gets (i9 := 2) dX4_strain_3 rfl zw708 ?_
  refine a_iload_n dX4_strain_6 rfl 1 rfl ?_
  refine a_iconst (v := 3) dX4_strain_7 (by decide) ?_
  refine a_irem dX4_strain_8 (by decide) ?_
  obtain ⟨hz1, h⟩ := zif h
  refine a_xaldK (i9 := 2) (f := zst2) dX4_strain_9 rfl (zin_vp hz1) rfl ?_
  refine a_imul dX4_strain_10 ?_
  refine a_iconst (v := 4) dX4_strain_11 (by decide) ?_
  refine a_idiv dX4_strain_12 (by decide) ?_
  refine a_istore dX4_strain_13 (by decide) rfl ?_
  refine a_iload_n dX4_strain_15 rfl 4 rfl ?_
  refine a_if_eq (tgt := 25) dX4_strain_16 rfl (fun hc7 => ?_) (fun hc7 => ?_)
  · rw [if_pos hc7] at h
    refine a_sub [1, 2, 0] rfl ?_
    exact tX4_strain_25 hR h
  · rw [if_neg hc7] at h
    refine a_iconst (v := 2) dX4_strain_19 (by decide) ?_
    refine a_iload dX4_strain_20 0 rfl ?_
    refine a_imul dX4_strain_22 ?_
    refine a_istore dX4_strain_23 (by decide) rfl ?_
    refine a_sub [1, 2, 0] rfl ?_
    exact tX4_strain_25 hR h
