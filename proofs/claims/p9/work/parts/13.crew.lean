def fX1_assign (I : zPI) (p1 : Int32) (p2 : Int32) (p3 : Int32) (p4 : Int32) (p5 : Int32) : Option (zPI) := (if zin p1 24 then (if zin p1 24 then (if zin p1 24 then (if zin p1 24 then some (zu (zu (zu (zu (zu I 43 p1.toNatClampNeg p2) 44 p1.toNatClampNeg p3) 45 p1.toNatClampNeg p4) 46 p1.toNatClampNeg p5) 42 7 (((zu (zu (zu (zu I 43 p1.toNatClampNeg p2) 44 p1.toNatClampNeg p3) 45 p1.toNatClampNeg p4) 46 p1.toNatClampNeg p5) 42 7) + 1)) else none) else none) else none) else none)
set_option maxRecDepth 100000 in
theorem tX1_assign {X : Nat × (Nat → Int32)} {I : zPI} {L : zPL} {F : zPF} {a b : Nat} {c : Option Nat} (hR : zRin F a b c) (p1 : Int32) (p2 : Int32) (p3 : Int32) (p4 : Int32) (p5 : Int32) (r : zPI) (h : fX1_assign I p1 p2 p3 p4 p5 = some r) : zAM X mX1_assign 0 [zr 42, zi p1, zi p2, zi p3, zi p4, zi p5] (zS0, I, L, F) none (zS0, r, L, F) := by
  refine zAM_of (by decide) (Nat.le_of_ble_eq_true rfl) ⟨fun _ => rfl, fun _ => rfl⟩ (Nat.le_refl _) (Nat.le_refl _) ?_
  unfold fX1_assign at h
  show zAW zE0 X mX1_assign 0 0 [(0, zr 42), (1, zi p1), (2, zi p2), (3, zi p3), (4, zi p4), (5, zi p5)] [] (zS0, I, L, F) none (zS0, r, L, F)
  refine a_aload_n dX1_assign_0 rfl 0 rfl ?_
  refine a_getq dX1_assign_1 G_X1_15 zs_42 rfl (rf_42_1 hR) ?_
  refine a_iload_n dX1_assign_4 rfl 1 rfl ?_
  refine a_iload_n dX1_assign_5 rfl 2 rfl ?_
  obtain ⟨hz1, h⟩ := zif h
  refine a_iast dX1_assign_6 zs_43 (zin_vp hz1) ?_
  refine a_aload_n dX1_assign_7 rfl 0 rfl ?_
  refine a_getq dX1_assign_8 G_X1_19 zs_42 rfl (rf_42_2 hR) ?_
  refine a_iload_n dX1_assign_11 rfl 1 rfl ?_
  refine a_iload_n dX1_assign_12 rfl 3 rfl ?_
  obtain ⟨hz2, h⟩ := zif h
  refine a_iast dX1_assign_13 zs_44 (zin_vp hz2) ?_
  refine a_aload_n dX1_assign_14 rfl 0 rfl ?_
  refine a_getq dX1_assign_15 G_X1_22 zs_42 rfl (rf_42_3 hR) ?_
  refine a_iload_n dX1_assign_18 rfl 1 rfl ?_
  refine a_iload dX1_assign_19 4 rfl ?_
  obtain ⟨hz3, h⟩ := zif h
  refine a_iast dX1_assign_21 zs_45 (zin_vp hz3) ?_
  refine a_aload_n dX1_assign_22 rfl 0 rfl ?_
  refine a_getq dX1_assign_23 G_X1_25 zs_42 rfl (rf_42_4 hR) ?_
  refine a_iload_n dX1_assign_26 rfl 1 rfl ?_
  refine a_iload dX1_assign_27 5 rfl ?_
  obtain ⟨hz4, h⟩ := zif h
  refine a_iast dX1_assign_29 zs_46 (zin_vp hz4) ?_
  refine a_aload_n dX1_assign_30 rfl 0 rfl ?_
  refine a_dup dX1_assign_31 rfl ?_
  refine a_geti dX1_assign_32 G_X1_41 zs_42 rfl ?_
  refine a_iconst (v := 1) dX1_assign_35 (by decide) ?_
  refine a_iadd dX1_assign_36 ?_
  refine a_puti dX1_assign_37 F_X1_41 zs_42 rfl ⟨rfl, rfl⟩ ?_
  cases h
  exact a_vret dX1_assign_40 rfl
def fX1_endOf (I : zPI) (p1 : Int32) : Option (Int32) := (if zin p1 24 then (if (I 47 p1.toNatClampNeg) = (-1) then some 0 else (if zin p1 24 then (if zin (I 47 p1.toNatClampNeg) 24 then some (I 46 (I 47 p1.toNatClampNeg).toNatClampNeg) else none) else none)) else none)
set_option maxRecDepth 100000 in
theorem tX1_endOf {X : Nat × (Nat → Int32)} {I : zPI} {L : zPL} {F : zPF} {a b : Nat} {c : Option Nat} (hR : zRin F a b c) (p1 : Int32) (r : Int32) (h : fX1_endOf I p1 = some r) : zAM X mX1_endOf 0 [zr 42, zi p1] (zS0, I, L, F) (some (zi r)) (zS0, I, L, F) := by
  refine zAM_of (by decide) (Nat.le_of_ble_eq_true rfl) ⟨fun h => (by cases h), fun h => (by cases h)⟩ (Nat.le_refl _) (Nat.le_refl _) ?_
  unfold fX1_endOf at h
  show zAW zE0 X mX1_endOf 0 0 [(0, zr 42), (1, zi p1)] [] (zS0, I, L, F) (some (zi r)) (zS0, I, L, F)
  refine a_aload_n dX1_endOf_0 rfl 0 rfl ?_
  refine a_getq dX1_endOf_1 G_X1_28 zs_42 rfl (rf_42_5 hR) ?_
  refine a_iload_n dX1_endOf_4 rfl 1 rfl ?_
  obtain ⟨hz1, h⟩ := zif h
  refine a_iald dX1_endOf_5 zs_47 (zin_vp hz1) ?_
  refine a_iconst (v := (-1)) dX1_endOf_6 (by decide) ?_
  refine a_icmp_ne (tgt := 14) dX1_endOf_7 rfl (fun hc4 => ?_) (fun hc4 => ?_)
  · rw [if_neg hc4] at h
    refine a_aload_n dX1_endOf_14 rfl 0 rfl ?_
    refine a_getq dX1_endOf_15 G_X1_25 zs_42 rfl (rf_42_4 hR) ?_
    refine a_aload_n dX1_endOf_18 rfl 0 rfl ?_
    refine a_getq dX1_endOf_19 G_X1_28 zs_42 rfl (rf_42_5 hR) ?_
    refine a_iload_n dX1_endOf_22 rfl 1 rfl ?_
    obtain ⟨hz2, h⟩ := zif h
    refine a_iald dX1_endOf_23 zs_47 (zin_vp hz2) ?_
    obtain ⟨hz3, h⟩ := zif h
    refine a_iald dX1_endOf_24 zs_46 (zin_vp hz3) ?_
    cases h
    exact a_iret dX1_endOf_25 (by intro h; cases h) (znar_i rfl)
  · rw [if_pos hc4] at h
    refine a_iconst (v := 0) dX1_endOf_10 (by decide) ?_
    refine a_goto (tgt := 25) dX1_endOf_11 rfl ?_
    cases h
    exact a_iret dX1_endOf_25 (by intro h; cases h) (znar_i rfl)
def fX1_isDue (I : zPI) (p1 : Int32) (p2 : Int32) : Option (Int32) := (if zin p1 24 then (if (I 47 p1.toNatClampNeg) = p1 then (if zin p1 24 then (if p2 < (I 46 p1.toNatClampNeg) then some 0 else some 1) else none) else some 0) else none)
set_option maxRecDepth 100000 in
theorem tX1_isDue {X : Nat × (Nat → Int32)} {I : zPI} {L : zPL} {F : zPF} {a b : Nat} {c : Option Nat} (hR : zRin F a b c) (p1 : Int32) (p2 : Int32) (r : Int32) (h : fX1_isDue I p1 p2 = some r) : zAM X mX1_isDue 0 [zr 42, zi p1, zi p2] (zS0, I, L, F) (some (zi r)) (zS0, I, L, F) := by
  refine zAM_of (by decide) (Nat.le_of_ble_eq_true rfl) ⟨fun h => (by cases h), fun h => (by cases h)⟩ (Nat.le_refl _) (Nat.le_refl _) ?_
  unfold fX1_isDue at h
  show zAW zE0 X mX1_isDue 0 0 [(0, zr 42), (1, zi p1), (2, zi p2)] [] (zS0, I, L, F) (some (zi r)) (zS0, I, L, F)
  refine a_aload_n dX1_isDue_0 rfl 0 rfl ?_
  refine a_getq dX1_isDue_1 G_X1_28 zs_42 rfl (rf_42_5 hR) ?_
  refine a_iload_n dX1_isDue_4 rfl 1 rfl ?_
  obtain ⟨hz1, h⟩ := zif h
  refine a_iald dX1_isDue_5 zs_47 (zin_vp hz1) ?_
  refine a_iload_n dX1_isDue_6 rfl 1 rfl ?_
  refine a_icmp_ne (tgt := 24) dX1_isDue_7 rfl (fun hc4 => ?_) (fun hc4 => ?_)
  · rw [if_neg hc4] at h
    refine a_iconst (v := 0) dX1_isDue_24 (by decide) ?_
    cases h
    exact a_iret dX1_isDue_25 (by intro h; cases h) (znar_b0 rfl)
  · rw [if_pos hc4] at h
    refine a_aload_n dX1_isDue_10 rfl 0 rfl ?_
    refine a_getq dX1_isDue_11 G_X1_25 zs_42 rfl (rf_42_4 hR) ?_
    refine a_iload_n dX1_isDue_14 rfl 1 rfl ?_
    obtain ⟨hz2, h⟩ := zif h
    refine a_iald dX1_isDue_15 zs_46 (zin_vp hz2) ?_
    refine a_iload_n dX1_isDue_16 rfl 2 rfl ?_
    refine a_icmp_gt (tgt := 24) dX1_isDue_17 rfl (fun hc3 => ?_) (fun hc3 => ?_)
    · rw [if_pos hc3] at h
      refine a_iconst (v := 0) dX1_isDue_24 (by decide) ?_
      cases h
      exact a_iret dX1_isDue_25 (by intro h; cases h) (znar_b0 rfl)
    · rw [if_neg hc3] at h
      refine a_iconst (v := 1) dX1_isDue_20 (by decide) ?_
      refine a_goto (tgt := 25) dX1_isDue_21 rfl ?_
      cases h
      exact a_iret dX1_isDue_25 (by intro h; cases h) (znar_b1 rfl)
def fX1_isFree (I : zPI) (p1 : Int32) : Option (Int32) := (if zin p1 24 then (if (I 47 p1.toNatClampNeg) = (-1) then some 1 else some 0) else none)
set_option maxRecDepth 100000 in
theorem tX1_isFree {X : Nat × (Nat → Int32)} {I : zPI} {L : zPL} {F : zPF} {a b : Nat} {c : Option Nat} (hR : zRin F a b c) (p1 : Int32) (r : Int32) (h : fX1_isFree I p1 = some r) : zAM X mX1_isFree 0 [zr 42, zi p1] (zS0, I, L, F) (some (zi r)) (zS0, I, L, F) := by
  refine zAM_of (by decide) (Nat.le_of_ble_eq_true rfl) ⟨fun h => (by cases h), fun h => (by cases h)⟩ (Nat.le_refl _) (Nat.le_refl _) ?_
  unfold fX1_isFree at h
  show zAW zE0 X mX1_isFree 0 0 [(0, zr 42), (1, zi p1)] [] (zS0, I, L, F) (some (zi r)) (zS0, I, L, F)
  refine a_aload_n dX1_isFree_0 rfl 0 rfl ?_
  refine a_getq dX1_isFree_1 G_X1_28 zs_42 rfl (rf_42_5 hR) ?_
  refine a_iload_n dX1_isFree_4 rfl 1 rfl ?_
  obtain ⟨hz1, h⟩ := zif h
  refine a_iald dX1_isFree_5 zs_47 (zin_vp hz1) ?_
  refine a_iconst (v := (-1)) dX1_isFree_6 (by decide) ?_
  refine a_icmp_ne (tgt := 14) dX1_isFree_7 rfl (fun hc2 => ?_) (fun hc2 => ?_)
  · rw [if_neg hc2] at h
    refine a_iconst (v := 0) dX1_isFree_14 (by decide) ?_
    cases h
    exact a_iret dX1_isFree_15 (by intro h; cases h) (znar_b0 rfl)
  · rw [if_pos hc2] at h
    refine a_iconst (v := 1) dX1_isFree_10 (by decide) ?_
    refine a_goto (tgt := 15) dX1_isFree_11 rfl ?_
    cases h
    exact a_iret dX1_isFree_15 (by intro h; cases h) (znar_b1 rfl)
def fX1_isOnDeck (I : zPI) (p1 : Int32) : Int32 := (if (I 42 6) = 2 then 1 else (if (zrm p1 2) = (I 42 6) then 1 else 0))
set_option maxRecDepth 100000 in
theorem tX1_isOnDeck {X : Nat × (Nat → Int32)} {I : zPI} {L : zPL} {F : zPF} {a b : Nat} {c : Option Nat} (hR : zRin F a b c) (p1 : Int32) (r : Int32) (h : fX1_isOnDeck I p1 = r) : zAM X mX1_isOnDeck 0 [zr 42, zi p1] (zS0, I, L, F) (some (zi r)) (zS0, I, L, F) := by
  refine zAM_of (by decide) (Nat.le_of_ble_eq_true rfl) ⟨fun h => (by cases h), fun h => (by cases h)⟩ (Nat.le_refl _) (Nat.le_refl _) ?_
  unfold fX1_isOnDeck at h
  show zAW zE0 X mX1_isOnDeck 0 0 [(0, zr 42), (1, zi p1)] [] (zS0, I, L, F) (some (zi r)) (zS0, I, L, F)
  refine a_aload_n dX1_isOnDeck_0 rfl 0 rfl ?_
  refine a_geti dX1_isOnDeck_1 G_X1_31 zs_42 rfl ?_
  refine a_iconst (v := 2) dX1_isOnDeck_4 (by decide) ?_
  refine a_icmp_eq (tgt := 18) dX1_isOnDeck_5 rfl (fun hc2 => ?_) (fun hc2 => ?_)
  · rw [if_pos hc2] at h
    refine a_iconst (v := 1) dX1_isOnDeck_18 (by decide) ?_
    refine a_goto (tgt := 23) dX1_isOnDeck_19 rfl ?_
    subst h
    exact a_iret dX1_isOnDeck_23 (by intro h; cases h) (znar_b1 rfl)
  · rw [if_neg hc2] at h
    refine a_iload_n dX1_isOnDeck_8 rfl 1 rfl ?_
    refine a_iconst (v := 2) dX1_isOnDeck_9 (by decide) ?_
    refine a_irem dX1_isOnDeck_10 (by decide) ?_
    refine a_aload_n dX1_isOnDeck_11 rfl 0 rfl ?_
    refine a_geti dX1_isOnDeck_12 G_X1_31 zs_42 rfl ?_
    refine a_icmp_ne (tgt := 22) dX1_isOnDeck_15 rfl (fun hc1 => ?_) (fun hc1 => ?_)
    · rw [if_neg hc1] at h
      refine a_iconst (v := 0) dX1_isOnDeck_22 (by decide) ?_
      subst h
      exact a_iret dX1_isOnDeck_23 (by intro h; cases h) (znar_b0 rfl)
    · rw [if_pos hc1] at h
      refine a_iconst (v := 1) dX1_isOnDeck_18 (by decide) ?_
      refine a_goto (tgt := 23) dX1_isOnDeck_19 rfl ?_
      subst h
      exact a_iret dX1_isOnDeck_23 (by intro h; cases h) (znar_b1 rfl)
def fX1_isReady (I : zPI) (p1 : Int32) : Option (Int32) := (if zin p1 24 then (if (I 47 p1.toNatClampNeg) = (-1) then (if (fX1_isOnDeck I p1) = 0 then some 0 else some 1) else some 0) else none)
set_option maxRecDepth 100000 in
theorem tX1_isReady {X : Nat × (Nat → Int32)} {I : zPI} {L : zPL} {F : zPF} {a b : Nat} {c : Option Nat} (hR : zRin F a b c) (p1 : Int32) (r : Int32) (h : fX1_isReady I p1 = some r) : zAM X mX1_isReady 1 [zr 42, zi p1] (zS0, I, L, F) (some (zi r)) (zS0, I, L, F) := by
  refine zAM_of (by decide) (Nat.le_of_ble_eq_true rfl) ⟨fun h => (by cases h), fun h => (by cases h)⟩ (Nat.le_refl _) (Nat.le_refl _) ?_
  unfold fX1_isReady at h
  show zAW zE0 X mX1_isReady 1 0 [(0, zr 42), (1, zi p1)] [] (zS0, I, L, F) (some (zi r)) (zS0, I, L, F)
  refine a_aload_n dX1_isReady_0 rfl 0 rfl ?_
  refine a_getq dX1_isReady_1 G_X1_28 zs_42 rfl (rf_42_5 hR) ?_
  refine a_iload_n dX1_isReady_4 rfl 1 rfl ?_
  obtain ⟨hz1, h⟩ := zif h
  refine a_iald dX1_isReady_5 zs_47 (zin_vp hz1) ?_
  refine a_iconst (v := (-1)) dX1_isReady_6 (by decide) ?_
  refine a_icmp_ne (tgt := 22) dX1_isReady_7 rfl (fun hc4 => ?_) (fun hc4 => ?_)
  · rw [if_neg hc4] at h
    refine a_iconst (v := 0) dX1_isReady_22 (by decide) ?_
    cases h
    exact a_iret dX1_isReady_23 (by intro h; cases h) (znar_b0 rfl)
  · rw [if_pos hc4] at h
    refine a_aload_n dX1_isReady_10 rfl 0 rfl ?_
    refine a_iload_n dX1_isReady_11 rfl 1 rfl ?_
    refine a_callV dX1_isReady_12 (tX1_isOnDeck hR _ _ rfl) csX1_isOnDeck zw681 (Nat.le_of_ble_eq_true rfl) zs_42 rfl rfl (Nat.le_of_ble_eq_true rfl) ⟨Nat.le_refl _, Nat.le_refl _⟩ (fun hb2 => ?_)
    refine a_if_eq (tgt := 22) dX1_isReady_15 rfl (fun hc3 => ?_) (fun hc3 => ?_)
    · rw [if_pos hc3] at h
      refine a_iconst (v := 0) dX1_isReady_22 (by decide) ?_
      cases h
      exact a_iret dX1_isReady_23 (by intro h; cases h) (znar_b0 rfl)
    · rw [if_neg hc3] at h
      refine a_iconst (v := 1) dX1_isReady_18 (by decide) ?_
      refine a_goto (tgt := 23) dX1_isReady_19 rfl ?_
      cases h
      exact a_iret dX1_isReady_23 (by intro h; cases h) (znar_b1 rfl)
def fX1_muster_4 (K : Int32 → Int32 → zPI → Option (Int32 × zPI)) : Nat → Int32 → Int32 → Int32 → zPI → Option (Int32 × zPI)
  | 0, _, _, _, _ => none
  | n + 1, v1, v2, v3, I => (if (I 42 0) ≤ v3 then K v1 v2 I else (fX1_isReady I v3).bind (fun q1 => (if q1 = 0 then fX1_muster_4 K n v1 (v2 + 0) (v3 + 1) I else fX1_muster_4 K n v1 (v2 + 1) (v3 + 1) I)))
def fX1_muster_49 (K : Int32 → zPI → Option (Int32 × zPI)) : Nat → Int32 → Int32 → Int32 → zPI → Option (Int32 × zPI)
  | 0, _, _, _, _ => none
  | n + 1, v3, v4, v5, I => (if (I 42 0) ≤ v5 then K v3 I else (if v4 ≤ 0 then K v3 I else (fX1_isReady I v5).bind (fun q5 => (if q5 = 0 then fX1_muster_49 K n v3 v4 (v5 + 1) I else (if v3 = (-1) then (if zin v5 24 then fX1_muster_49 K n v5 (v4 + (-1)) (v5 + 1) (zu I 47 v5.toNatClampNeg v5) else none) else (if zin v5 24 then fX1_muster_49 K n v3 (v4 + (-1)) (v5 + 1) (zu I 47 v5.toNatClampNeg v3) else none))))))
def fX1_muster (I : zPI) (p1 : Int32) : Option (Int32 × zPI) := fX1_muster_4 (fun v1 v2 I => (if v1 ≤ v2 then fX1_muster_49 (fun v3 I => some (v3, I)) zF (-1) v1 0 I else some ((-1), I))) zF p1 0 0 I
set_option maxRecDepth 100000 in
theorem tX1_muster_4 {X : Nat × (Nat → Int32)} {L : zPL} {F : zPF} {a b : Nat} {c : Option Nat} (hR : zRin F a b c) {r : Int32 × zPI} {K : Int32 → Int32 → zPI → Option (Int32 × zPI)} (hK : ∀ (v1 : Int32) (v2 : Int32) (I : zPI), K v1 v2 I = some r → zAW zE0 X mX1_muster 2 34 [(0, zr 42), (1, zi v1), (2, zi v2)] [] (zS0, I, L, F) (some (zi r.1)) (zS0, r.2, L, F)) : ∀ (n : Nat) (v1 : Int32) (v2 : Int32) (v3 : Int32) (I : zPI), fX1_muster_4 K n v1 v2 v3 I = some r → zAW zE0 X mX1_muster 2 4 [(0, zr 42), (1, zi v1), (2, zi v2), (3, zi v3)] [] (zS0, I, L, F) (some (zi r.1)) (zS0, r.2, L, F) := by
  intro n
  induction n with
  | zero =>
    intro v1 v2 v3 I h
    rw [fX1_muster_4.eq_1] at h
    cases h
  | succ n ih =>
    intro v1 v2 v3 I h
    rw [fX1_muster_4.eq_2] at h
    refine a_iload_n dX1_muster_4 rfl 3 rfl ?_
    refine a_aload_n dX1_muster_5 rfl 0 rfl ?_
    refine a_geti dX1_muster_6 G_X1_9 zs_42 rfl ?_
    refine a_icmp_ge (tgt := 34) dX1_muster_9 rfl (fun hc4 => ?_) (fun hc4 => ?_)
    · rw [if_pos hc4] at h
      refine a_sub [0, 1, 2] rfl ?_
      exact hK _ _ _ h
    · rw [if_neg hc4] at h
      refine a_iload_n dX1_muster_12 rfl 2 rfl ?_
      refine a_aload_n dX1_muster_13 rfl 0 rfl ?_
      refine a_iload_n dX1_muster_14 rfl 3 rfl ?_
      obtain ⟨q1, hq1, h⟩ := zbind h
      refine a_callV dX1_muster_15 (tX1_isReady hR _ _ hq1) csX1_isReady zw677 (Nat.le_of_ble_eq_true rfl) zs_42 rfl rfl (Nat.le_of_ble_eq_true rfl) ⟨Nat.le_refl _, Nat.le_refl _⟩ (fun hb2 => ?_)
      refine a_if_eq (tgt := 25) dX1_muster_18 rfl (fun hc3 => ?_) (fun hc3 => ?_)
      · rw [if_pos hc3] at h
        refine a_iconst (v := 0) dX1_muster_25 (by decide) ?_
        refine a_iadd dX1_muster_26 ?_
        refine a_istore_n dX1_muster_27 rfl (by decide) rfl ?_
        refine a_iincK (k0 := 1) dX1_muster_28 (by decide) 3 rfl (by decide) rfl ?_
        refine a_goto (tgt := 4) dX1_muster_31 rfl ?_
        refine a_sub [2, 3, 1, 0] rfl ?_
        exact ih _ _ _ _ h
      · rw [if_neg hc3] at h
        refine a_iconst (v := 1) dX1_muster_21 (by decide) ?_
        refine a_goto (tgt := 26) dX1_muster_22 rfl ?_
        refine a_iadd dX1_muster_26 ?_
        refine a_istore_n dX1_muster_27 rfl (by decide) rfl ?_
        refine a_iincK (k0 := 1) dX1_muster_28 (by decide) 3 rfl (by decide) rfl ?_
        refine a_goto (tgt := 4) dX1_muster_31 rfl ?_
        refine a_sub [2, 3, 1, 0] rfl ?_
        exact ih _ _ _ _ h
set_option maxRecDepth 100000 in
theorem tX1_muster_49 {X : Nat × (Nat → Int32)} {L : zPL} {F : zPF} {a b : Nat} {c : Option Nat} (hR : zRin F a b c) {r : Int32 × zPI} {K : Int32 → zPI → Option (Int32 × zPI)} (hK : ∀ (v3 : Int32) (I : zPI), K v3 I = some r → zAW zE0 X mX1_muster 2 101 [(3, zi v3)] [] (zS0, I, L, F) (some (zi r.1)) (zS0, r.2, L, F)) : ∀ (n : Nat) (v3 : Int32) (v4 : Int32) (v5 : Int32) (I : zPI), fX1_muster_49 K n v3 v4 v5 I = some r → zAW zE0 X mX1_muster 2 49 [(0, zr 42), (3, zi v3), (4, zi v4), (5, zi v5)] [] (zS0, I, L, F) (some (zi r.1)) (zS0, r.2, L, F) := by
  intro n
  induction n with
  | zero =>
    intro v3 v4 v5 I h
    rw [fX1_muster_49.eq_1] at h
    cases h
  | succ n ih =>
    intro v3 v4 v5 I h
    rw [fX1_muster_49.eq_2] at h
    refine a_iload dX1_muster_49 3 rfl ?_
    refine a_aload_n dX1_muster_51 rfl 0 rfl ?_
    refine a_geti dX1_muster_52 G_X1_9 zs_42 rfl ?_
    refine a_icmp_ge (tgt := 101) dX1_muster_55 rfl (fun hc12 => ?_) (fun hc12 => ?_)
    · rw [if_pos hc12] at h
      refine a_sub [1] rfl ?_
      exact hK _ _ h
    · rw [if_neg hc12] at h
      refine a_iload dX1_muster_58 2 rfl ?_
      refine a_if_le (tgt := 101) dX1_muster_60 rfl (fun hc11 => ?_) (fun hc11 => ?_)
      · rw [if_pos hc11] at h
        refine a_sub [1] rfl ?_
        exact hK _ _ h
      · rw [if_neg hc11] at h
        refine a_aload_n dX1_muster_63 rfl 0 rfl ?_
        refine a_iload dX1_muster_64 3 rfl ?_
        obtain ⟨q5, hq5, h⟩ := zbind h
        refine a_callV dX1_muster_66 (tX1_isReady hR _ _ hq5) csX1_isReady zw677 (Nat.le_of_ble_eq_true rfl) zs_42 rfl rfl (Nat.le_of_ble_eq_true rfl) ⟨Nat.le_refl _, Nat.le_refl _⟩ (fun hb6 => ?_)
        refine a_if_eq (tgt := 95) dX1_muster_69 rfl (fun hc10 => ?_) (fun hc10 => ?_)
        · rw [if_pos hc10] at h
          refine a_iincK (k0 := 1) dX1_muster_95 (by decide) 3 rfl (by decide) rfl ?_
          refine a_goto (tgt := 49) dX1_muster_98 rfl ?_
          refine a_sub [1, 2, 3, 0] rfl ?_
          exact ih _ _ _ _ h
        · rw [if_neg hc10] at h
          refine a_iload_n dX1_muster_72 rfl 1 rfl ?_
          refine a_iconst (v := (-1)) dX1_muster_73 (by decide) ?_
          refine a_icmp_ne (tgt := 82) dX1_muster_74 rfl (fun hc9 => ?_) (fun hc9 => ?_)
          · rw [if_neg hc9] at h
            refine a_iload_n dX1_muster_82 rfl 1 rfl ?_
            refine a_istore_n dX1_muster_83 rfl (by decide) rfl ?_
            refine a_aload_n dX1_muster_84 rfl 1 rfl ?_
            refine a_getq dX1_muster_85 G_X1_28 zs_42 rfl (rf_42_5 hR) ?_
            refine a_iload dX1_muster_88 3 rfl ?_
            refine a_iload_n dX1_muster_90 rfl 0 rfl ?_
            obtain ⟨hz7, h⟩ := zif h
            refine a_iast dX1_muster_91 zs_47 (zin_vp hz7) ?_
            refine a_iincK (k0 := (-1)) dX1_muster_92 (by decide) 2 rfl (by decide) rfl ?_
            refine a_iincK (k0 := 1) dX1_muster_95 (by decide) 3 rfl (by decide) rfl ?_
            refine a_goto (tgt := 49) dX1_muster_98 rfl ?_
            refine a_sub [3, 2, 1, 0] rfl ?_
            exact ih _ _ _ _ h
          · rw [if_pos hc9] at h
            refine a_iload dX1_muster_77 3 rfl ?_
            refine a_goto (tgt := 83) dX1_muster_79 rfl ?_
            refine a_istore_n dX1_muster_83 rfl (by decide) rfl ?_
            refine a_aload_n dX1_muster_84 rfl 1 rfl ?_
            refine a_getq dX1_muster_85 G_X1_28 zs_42 rfl (rf_42_5 hR) ?_
            refine a_iload dX1_muster_88 3 rfl ?_
            refine a_iload_n dX1_muster_90 rfl 0 rfl ?_
            obtain ⟨hz8, h⟩ := zif h
            refine a_iast dX1_muster_91 zs_47 (zin_vp hz8) ?_
            refine a_iincK (k0 := (-1)) dX1_muster_92 (by decide) 2 rfl (by decide) rfl ?_
            refine a_iincK (k0 := 1) dX1_muster_95 (by decide) 3 rfl (by decide) rfl ?_
            refine a_goto (tgt := 49) dX1_muster_98 rfl ?_
            refine a_sub [3, 2, 1, 0] rfl ?_
            exact ih _ _ _ _ h
set_option maxRecDepth 100000 in
theorem tX1_muster {X : Nat × (Nat → Int32)} {I : zPI} {L : zPL} {F : zPF} {a b : Nat} {c : Option Nat} (hR : zRin F a b c) (p1 : Int32) (r : Int32 × zPI) (h : fX1_muster I p1 = some r) : zAM X mX1_muster 2 [zr 42, zi p1] (zS0, I, L, F) (some (zi r.1)) (zS0, r.2, L, F) := by
  refine zAM_of (by decide) (Nat.le_of_ble_eq_true rfl) ⟨fun h => (by cases h), fun h => (by cases h)⟩ (Nat.le_refl _) (Nat.le_refl _) ?_
  unfold fX1_muster at h
  show zAW zE0 X mX1_muster 2 0 [(0, zr 42), (1, zi p1)] [] (zS0, I, L, F) (some (zi r.1)) (zS0, r.2, L, F)
  refine a_iconst (v := 0) dX1_muster_0 (by decide) ?_
  refine a_istore_n dX1_muster_1 rfl (by decide) rfl ?_
  refine a_iconst (v := 0) dX1_muster_2 (by decide) ?_
  refine a_istore_n dX1_muster_3 rfl (by decide) rfl ?_
  refine a_sub [2, 3, 1, 0] rfl ?_
  refine tX1_muster_4 hR (fun v1 v2 I h => ?_) zF _ _ _ _ h
  (try dsimp only at h)
  refine a_iload_n dX1_muster_34 rfl 2 rfl ?_
  refine a_iload_n dX1_muster_35 rfl 1 rfl ?_
  refine a_icmp_ge (tgt := 41) dX1_muster_36 rfl (fun hc13 => ?_) (fun hc13 => ?_)
  · rw [if_pos hc13] at h
    refine a_iconst (v := (-1)) dX1_muster_41 (by decide) ?_
    refine a_istore_n dX1_muster_42 rfl (by decide) rfl ?_
    refine a_iload_n dX1_muster_43 rfl 2 rfl ?_
    refine a_istore dX1_muster_44 (by decide) rfl ?_
    refine a_iconst (v := 0) dX1_muster_46 (by decide) ?_
    refine a_istore dX1_muster_47 (by decide) rfl ?_
    refine a_sub [3, 2, 1, 0] rfl ?_
    refine tX1_muster_49 hR (fun v3 I h => ?_) zF _ _ _ _ h
    (try dsimp only at h)
    refine a_iload_n dX1_muster_101 rfl 0 rfl ?_
    cases h
    exact a_iret dX1_muster_102 (by intro h; cases h) (znar_i rfl)
  · rw [if_neg hc13] at h
    refine a_iconst (v := (-1)) dX1_muster_39 (by decide) ?_
    cases h
    exact a_iret dX1_muster_40 (by intro h; cases h) (znar_i rfl)
def fX1_release_8 (K : zPI → Option (zPI)) : Nat → Int32 → Int32 → zPI → Option (zPI)
  | 0, _, _, _ => none
  | n + 1, v1, v2, I => (if (I 42 0) ≤ v2 then K I else (if zin v2 24 then (if (I 47 v2.toNatClampNeg) = v1 then (if zin v2 24 then fX1_release_8 K n v1 (v2 + 1) (zu I 47 v2.toNatClampNeg (-1)) else none) else fX1_release_8 K n v1 (v2 + 1) I) else none))
def fX1_release (I : zPI) (p1 : Int32) : Option (zPI) := (if p1 = (-1) then some (I) else fX1_release_8 (fun I => some (zu I 42 7 ((I 42 7) - 1))) zF p1 p1 I)
set_option maxRecDepth 100000 in
theorem tX1_release_8 {X : Nat × (Nat → Int32)} {L : zPL} {F : zPF} {a b : Nat} {c : Option Nat} (hR : zRin F a b c) {r : zPI} {K : zPI → Option (zPI)} (hK : ∀ (I : zPI), K I = some r → zAW zE0 X mX1_release 0 39 [(0, zr 42)] [] (zS0, I, L, F) none (zS0, r, L, F)) : ∀ (n : Nat) (v1 : Int32) (v2 : Int32) (I : zPI), fX1_release_8 K n v1 v2 I = some r → zAW zE0 X mX1_release 0 8 [(0, zr 42), (1, zi v1), (2, zi v2)] [] (zS0, I, L, F) none (zS0, r, L, F) := by
  intro n
  induction n with
  | zero =>
    intro v1 v2 I h
    rw [fX1_release_8.eq_1] at h
    cases h
  | succ n ih =>
    intro v1 v2 I h
    rw [fX1_release_8.eq_2] at h
    refine a_iload_n dX1_release_8 rfl 2 rfl ?_
    refine a_aload_n dX1_release_9 rfl 0 rfl ?_
    refine a_geti dX1_release_10 G_X1_9 zs_42 rfl ?_
    refine a_icmp_ge (tgt := 39) dX1_release_13 rfl (fun hc4 => ?_) (fun hc4 => ?_)
    · rw [if_pos hc4] at h
      refine a_sub [0] rfl ?_
      exact hK _ h
    · rw [if_neg hc4] at h
      refine a_aload_n dX1_release_16 rfl 0 rfl ?_
      refine a_getq dX1_release_17 G_X1_28 zs_42 rfl (rf_42_5 hR) ?_
      refine a_iload_n dX1_release_20 rfl 2 rfl ?_
      obtain ⟨hz1, h⟩ := zif h
      refine a_iald dX1_release_21 zs_47 (zin_vp hz1) ?_
      refine a_iload_n dX1_release_22 rfl 1 rfl ?_
      refine a_icmp_ne (tgt := 33) dX1_release_23 rfl (fun hc3 => ?_) (fun hc3 => ?_)
      · rw [if_neg hc3] at h
        refine a_iincK (k0 := 1) dX1_release_33 (by decide) 2 rfl (by decide) rfl ?_
        refine a_goto (tgt := 8) dX1_release_36 rfl ?_
        refine a_sub [1, 2, 0] rfl ?_
        exact ih _ _ _ h
      · rw [if_pos hc3] at h
        refine a_aload_n dX1_release_26 rfl 0 rfl ?_
        refine a_getq dX1_release_27 G_X1_28 zs_42 rfl (rf_42_5 hR) ?_
        refine a_iload_n dX1_release_30 rfl 2 rfl ?_
        refine a_iconst (v := (-1)) dX1_release_31 (by decide) ?_
        obtain ⟨hz2, h⟩ := zif h
        refine a_iast dX1_release_32 zs_47 (zin_vp hz2) ?_
        refine a_iincK (k0 := 1) dX1_release_33 (by decide) 2 rfl (by decide) rfl ?_
        refine a_goto (tgt := 8) dX1_release_36 rfl ?_
        refine a_sub [1, 2, 0] rfl ?_
        exact ih _ _ _ h
set_option maxRecDepth 100000 in
theorem tX1_release {X : Nat × (Nat → Int32)} {I : zPI} {L : zPL} {F : zPF} {a b : Nat} {c : Option Nat} (hR : zRin F a b c) (p1 : Int32) (r : zPI) (h : fX1_release I p1 = some r) : zAM X mX1_release 0 [zr 42, zi p1] (zS0, I, L, F) none (zS0, r, L, F) := by
  refine zAM_of (by decide) (Nat.le_of_ble_eq_true rfl) ⟨fun _ => rfl, fun _ => rfl⟩ (Nat.le_refl _) (Nat.le_refl _) ?_
  unfold fX1_release at h
  show zAW zE0 X mX1_release 0 0 [(0, zr 42), (1, zi p1)] [] (zS0, I, L, F) none (zS0, r, L, F)
  refine a_iload_n dX1_release_0 rfl 1 rfl ?_
  refine a_iconst (v := (-1)) dX1_release_1 (by decide) ?_
  refine a_icmp_ne (tgt := 6) dX1_release_2 rfl (fun hc5 => ?_) (fun hc5 => ?_)
  · rw [if_neg hc5] at h
    refine a_iload_n dX1_release_6 rfl 1 rfl ?_
    refine a_istore_n dX1_release_7 rfl (by decide) rfl ?_
    refine a_sub [1, 2, 0] rfl ?_
    refine tX1_release_8 hR (fun I h => ?_) zF _ _ _ h
    (try dsimp only at h)
    refine a_aload_n dX1_release_39 rfl 0 rfl ?_
    refine a_dup dX1_release_40 rfl ?_
    refine a_geti dX1_release_41 G_X1_41 zs_42 rfl ?_
    refine a_iconst (v := 1) dX1_release_44 (by decide) ?_
    refine a_isub dX1_release_45 ?_
    refine a_puti dX1_release_46 F_X1_41 zs_42 rfl ⟨rfl, rfl⟩ ?_
    cases h
    exact a_vret dX1_release_49 rfl
  · rw [if_pos hc5] at h
    cases h
    exact a_vret dX1_release_5 rfl
