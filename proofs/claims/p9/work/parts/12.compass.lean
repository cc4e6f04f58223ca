def fX0_apart (p0 : Int32) (p1 : Int32) : Int32 := (zmmin ((p0 - p1) &&& 31) (32 - ((p0 - p1) &&& 31)))
set_option maxRecDepth 100000 in
theorem tX0_apart {X : Nat × (Nat → Int32)} {I : zPI} {L : zPL} {F : zPF} {a b : Nat} {c : Option Nat} (hR : zRin F a b c) (p0 : Int32) (p1 : Int32) (r : Int32) (h : fX0_apart p0 p1 = r) : zAM X mX0_apart 1 [zi p0, zi p1] (zS0, I, L, F) (some (zi r)) (zS0, I, L, F) := by
  refine zAM_of (by decide) (Nat.le_of_ble_eq_true rfl) ⟨fun h => (by cases h), fun h => (by cases h)⟩ (Nat.le_refl _) (Nat.le_refl _) ?_
  unfold fX0_apart at h
  show zAW zE0 X mX0_apart 1 0 [(0, zi p0), (1, zi p1)] [] (zS0, I, L, F) (some (zi r)) (zS0, I, L, F)
  refine a_iload_n dX0_apart_0 rfl 0 rfl ?_
  refine a_iload_n dX0_apart_1 rfl 1 rfl ?_
  refine a_isub dX0_apart_2 ?_
  refine a_bipush (v := 31) dX0_apart_3 (by decide) ?_
  refine a_iand dX0_apart_5 ?_
  refine a_istore_n dX0_apart_6 rfl (by decide) rfl ?_
  refine a_iload_n dX0_apart_7 rfl 0 rfl ?_
  refine a_bipush (v := 32) dX0_apart_8 (by decide) ?_
  refine a_iload_n dX0_apart_10 rfl 0 rfl ?_
  refine a_isub dX0_apart_11 ?_
  refine a_mmin dX0_apart_12 zw629 (Nat.le_of_ble_eq_true rfl) (Nat.le_of_ble_eq_true rfl) ⟨Nat.le_refl _, Nat.le_refl _⟩ ?_
  subst h
  exact a_iret dX0_apart_15 (by intro h; cases h) (znar_i rfl)
def fX0_best (p0 : Int32) : Int32 := (zmmin 8 (((16 - p0) * 8) / 10))
set_option maxRecDepth 100000 in
theorem tX0_best {X : Nat × (Nat → Int32)} {I : zPI} {L : zPL} {F : zPF} {a b : Nat} {c : Option Nat} (hR : zRin F a b c) (p0 : Int32) (r : Int32) (h : fX0_best p0 = r) : zAM X mX0_best 1 [zi p0] (zS0, I, L, F) (some (zi r)) (zS0, I, L, F) := by
  refine zAM_of (by decide) (Nat.le_of_ble_eq_true rfl) ⟨fun h => (by cases h), fun h => (by cases h)⟩ (Nat.le_refl _) (Nat.le_refl _) ?_
  unfold fX0_best at h
  show zAW zE0 X mX0_best 1 0 [(0, zi p0)] [] (zS0, I, L, F) (some (zi r)) (zS0, I, L, F)
  refine a_bipush (v := 8) dX0_best_0 (by decide) ?_
  refine a_bipush (v := 16) dX0_best_2 (by decide) ?_
  refine a_iload_n dX0_best_4 rfl 0 rfl ?_
  refine a_isub dX0_best_5 ?_
  refine a_bipush (v := 8) dX0_best_6 (by decide) ?_
  refine a_imul dX0_best_8 ?_
  refine a_bipush (v := 10) dX0_best_9 (by decide) ?_
  refine a_idiv dX0_best_11 (by decide) ?_
  refine a_mmin dX0_best_12 zw629 (Nat.le_of_ble_eq_true rfl) (Nat.le_of_ble_eq_true rfl) ⟨Nat.le_refl _, Nat.le_refl _⟩ ?_
  subst h
  exact a_iret dX0_best_15 (by intro h; cases h) (znar_i rfl)
def fX0_north (I : zPI) (p0 : Int32) : Option (Int32) := (if zin (p0 &&& 31) 32 then some (zst1 (p0 &&& 31)) else none)
set_option maxRecDepth 100000 in
theorem tX0_north {X : Nat × (Nat → Int32)} {I : zPI} {L : zPL} {F : zPF} {a b : Nat} {c : Option Nat} (hR : zRin F a b c) (p0 : Int32) (r : Int32) (h : fX0_north I p0 = some r) : zAM X mX0_north 0 [zi p0] (zS0, I, L, F) (some (zi r)) (zS0, I, L, F) := by
  refine zAM_of (by decide) (Nat.le_of_ble_eq_true rfl) ⟨fun h => (by cases h), fun h => (by cases h)⟩ (Nat.le_refl _) (Nat.le_refl _) ?_
  unfold fX0_north at h
  show zAW zE0 X mX0_north 0 0 [(0, zi p0)] [] (zS0, I, L, F) (some (zi r)) (zS0, I, L, F)
  refine a_gets (i9 := 1) dX0_north_0 rfl zw747 ?_
  refine a_iload_n dX0_north_3 rfl 0 rfl ?_
  refine a_bipush (v := 31) dX0_north_4 (by decide) ?_
  refine a_iand dX0_north_6 ?_
  obtain ⟨hz1, h⟩ := zif h
  refine a_xaldK (i9 := 1) (f := zst1) dX0_north_7 rfl (zin_vp hz1) rfl ?_
  cases h
  exact a_iret dX0_north_8 (by intro h; cases h) (znar_i rfl)
def fX0_east (I : zPI) (p0 : Int32) : Option (Int32) := (fX0_north I (p0 - 8)).bind (fun q1 => some q1)
set_option maxRecDepth 100000 in
theorem tX0_east {X : Nat × (Nat → Int32)} {I : zPI} {L : zPL} {F : zPF} {a b : Nat} {c : Option Nat} (hR : zRin F a b c) (p0 : Int32) (r : Int32) (h : fX0_east I p0 = some r) : zAM X mX0_east 1 [zi p0] (zS0, I, L, F) (some (zi r)) (zS0, I, L, F) := by
  refine zAM_of (by decide) (Nat.le_of_ble_eq_true rfl) ⟨fun h => (by cases h), fun h => (by cases h)⟩ (Nat.le_refl _) (Nat.le_refl _) ?_
  unfold fX0_east at h
  show zAW zE0 X mX0_east 1 0 [(0, zi p0)] [] (zS0, I, L, F) (some (zi r)) (zS0, I, L, F)
  refine a_iload_n dX0_east_0 rfl 0 rfl ?_
  refine a_bipush (v := 8) dX0_east_1 (by decide) ?_
  refine a_isub dX0_east_3 ?_
  obtain ⟨q1, hq1, h⟩ := zbind h
  refine a_callS dX0_east_4 (tX0_north hR _ _ hq1) csX0_north zw744 (Nat.le_of_ble_eq_true rfl) rfl (Nat.le_of_ble_eq_true rfl) ⟨Nat.le_refl _, Nat.le_refl _⟩ (fun hb2 => ?_)
  cases h
  exact a_iret dX0_east_7 (by intro h; cases h) (znar_i rfl)
def fX0_isAback (p0 : Int32) : Int32 := (if 5 ≤ p0 then 0 else 1)
set_option maxRecDepth 100000 in
theorem tX0_isAback {X : Nat × (Nat → Int32)} {I : zPI} {L : zPL} {F : zPF} {a b : Nat} {c : Option Nat} (hR : zRin F a b c) (p0 : Int32) (r : Int32) (h : fX0_isAback p0 = r) : zAM X mX0_isAback 0 [zi p0] (zS0, I, L, F) (some (zi r)) (zS0, I, L, F) := by
  refine zAM_of (by decide) (Nat.le_of_ble_eq_true rfl) ⟨fun h => (by cases h), fun h => (by cases h)⟩ (Nat.le_refl _) (Nat.le_refl _) ?_
  unfold fX0_isAback at h
  show zAW zE0 X mX0_isAback 0 0 [(0, zi p0)] [] (zS0, I, L, F) (some (zi r)) (zS0, I, L, F)
  refine a_iload_n dX0_isAback_0 rfl 0 rfl ?_
  refine a_iconst (v := 5) dX0_isAback_1 (by decide) ?_
  refine a_icmp_ge (tgt := 9) dX0_isAback_2 rfl (fun hc1 => ?_) (fun hc1 => ?_)
  · rw [if_pos hc1] at h
    refine a_iconst (v := 0) dX0_isAback_9 (by decide) ?_
    subst h
    exact a_iret dX0_isAback_10 (by intro h; cases h) (znar_b0 rfl)
  · rw [if_neg hc1] at h
    refine a_iconst (v := 1) dX0_isAback_5 (by decide) ?_
    refine a_goto (tgt := 10) dX0_isAback_6 rfl ?_
    subst h
    exact a_iret dX0_isAback_10 (by intro h; cases h) (znar_b1 rfl)
def fX0_isWind (p0 : Int32) (p1 : Int32) : Int32 := (if p0 < 0 then 0 else (if 32 ≤ p0 then 0 else (if p1 < 0 then 0 else (if 12 < p1 then 0 else 1))))
set_option maxRecDepth 100000 in
theorem tX0_isWind {X : Nat × (Nat → Int32)} {I : zPI} {L : zPL} {F : zPF} {a b : Nat} {c : Option Nat} (hR : zRin F a b c) (p0 : Int32) (p1 : Int32) (r : Int32) (h : fX0_isWind p0 p1 = r) : zAM X mX0_isWind 0 [zi p0, zi p1] (zS0, I, L, F) (some (zi r)) (zS0, I, L, F) := by
  refine zAM_of (by decide) (Nat.le_of_ble_eq_true rfl) ⟨fun h => (by cases h), fun h => (by cases h)⟩ (Nat.le_refl _) (Nat.le_refl _) ?_
  unfold fX0_isWind at h
  show zAW zE0 X mX0_isWind 0 0 [(0, zi p0), (1, zi p1)] [] (zS0, I, L, F) (some (zi r)) (zS0, I, L, F)
  refine a_iload_n dX0_isWind_0 rfl 0 rfl ?_
  refine a_if_lt (tgt := 24) dX0_isWind_1 rfl (fun hc4 => ?_) (fun hc4 => ?_)
  · rw [if_pos hc4] at h
    refine a_iconst (v := 0) dX0_isWind_24 (by decide) ?_
    subst h
    exact a_iret dX0_isWind_25 (by intro h; cases h) (znar_b0 rfl)
  · rw [if_neg hc4] at h
    refine a_iload_n dX0_isWind_4 rfl 0 rfl ?_
    refine a_bipush (v := 32) dX0_isWind_5 (by decide) ?_
    refine a_icmp_ge (tgt := 24) dX0_isWind_7 rfl (fun hc3 => ?_) (fun hc3 => ?_)
    · rw [if_pos hc3] at h
      refine a_iconst (v := 0) dX0_isWind_24 (by decide) ?_
      subst h
      exact a_iret dX0_isWind_25 (by intro h; cases h) (znar_b0 rfl)
    · rw [if_neg hc3] at h
      refine a_iload_n dX0_isWind_10 rfl 1 rfl ?_
      refine a_if_lt (tgt := 24) dX0_isWind_11 rfl (fun hc2 => ?_) (fun hc2 => ?_)
      · rw [if_pos hc2] at h
        refine a_iconst (v := 0) dX0_isWind_24 (by decide) ?_
        subst h
        exact a_iret dX0_isWind_25 (by intro h; cases h) (znar_b0 rfl)
      · rw [if_neg hc2] at h
        refine a_iload_n dX0_isWind_14 rfl 1 rfl ?_
        refine a_bipush (v := 12) dX0_isWind_15 (by decide) ?_
        refine a_icmp_gt (tgt := 24) dX0_isWind_17 rfl (fun hc1 => ?_) (fun hc1 => ?_)
        · rw [if_pos hc1] at h
          refine a_iconst (v := 0) dX0_isWind_24 (by decide) ?_
          subst h
          exact a_iret dX0_isWind_25 (by intro h; cases h) (znar_b0 rfl)
        · rw [if_neg hc1] at h
          refine a_iconst (v := 1) dX0_isWind_20 (by decide) ?_
          refine a_goto (tgt := 25) dX0_isWind_21 rfl ?_
          subst h
          exact a_iret dX0_isWind_25 (by intro h; cases h) (znar_b1 rfl)
def fX0_pull (I : zPI) (p0 : Int32) : Option (Int32) := (if p0 < 0 then some 0 else (if p0 < 17 then (if zin p0 17 then some (zst0 p0) else none) else some 0))
set_option maxRecDepth 100000 in
theorem tX0_pull {X : Nat × (Nat → Int32)} {I : zPI} {L : zPL} {F : zPF} {a b : Nat} {c : Option Nat} (hR : zRin F a b c) (p0 : Int32) (r : Int32) (h : fX0_pull I p0 = some r) : zAM X mX0_pull 0 [zi p0] (zS0, I, L, F) (some (zi r)) (zS0, I, L, F) := by
  refine zAM_of (by decide) (Nat.le_of_ble_eq_true rfl) ⟨fun h => (by cases h), fun h => (by cases h)⟩ (Nat.le_refl _) (Nat.le_refl _) ?_
  unfold fX0_pull at h
  show zAW zE0 X mX0_pull 0 0 [(0, zi p0)] [] (zS0, I, L, F) (some (zi r)) (zS0, I, L, F)
  refine a_iload_n dX0_pull_0 rfl 0 rfl ?_
  refine a_if_lt (tgt := 12) dX0_pull_1 rfl (fun hc3 => ?_) (fun hc3 => ?_)
  · rw [if_pos hc3] at h
    refine a_iconst (v := 0) dX0_pull_12 (by decide) ?_
    refine a_goto (tgt := 21) dX0_pull_13 rfl ?_
    cases h
    exact a_iret dX0_pull_21 (by intro h; cases h) (znar_i rfl)
  · rw [if_neg hc3] at h
    refine a_iload_n dX0_pull_4 rfl 0 rfl ?_
    refine a_gets (i9 := 0) dX0_pull_5 rfl zw717 ?_
    refine a_xlenK (i9 := 0) (v := 17) dX0_pull_8 rfl (by decide) ?_
    refine a_icmp_lt (tgt := 16) dX0_pull_9 rfl (fun hc2 => ?_) (fun hc2 => ?_)
    · rw [if_pos hc2] at h
      refine a_gets (i9 := 0) dX0_pull_16 rfl zw717 ?_
      refine a_iload_n dX0_pull_19 rfl 0 rfl ?_
      obtain ⟨hz1, h⟩ := zif h
      refine a_xaldK (i9 := 0) (f := zst0) dX0_pull_20 rfl (zin_vp hz1) rfl ?_
      cases h
      exact a_iret dX0_pull_21 (by intro h; cases h) (znar_i rfl)
    · rw [if_neg hc2] at h
      refine a_iconst (v := 0) dX0_pull_12 (by decide) ?_
      refine a_goto (tgt := 21) dX0_pull_13 rfl ?_
      cases h
      exact a_iret dX0_pull_21 (by intro h; cases h) (znar_i rfl)
def fX0_turned (p0 : Int32) (p1 : Int32) : Int32 := (if ((p1 - p0) &&& 31) = 0 then p0 else (if 16 < ((p1 - p0) &&& 31) then ((p0 + (-1)) &&& 31) else ((p0 + 1) &&& 31)))
set_option maxRecDepth 100000 in
theorem tX0_turned {X : Nat × (Nat → Int32)} {I : zPI} {L : zPL} {F : zPF} {a b : Nat} {c : Option Nat} (hR : zRin F a b c) (p0 : Int32) (p1 : Int32) (r : Int32) (h : fX0_turned p0 p1 = r) : zAM X mX0_turned 0 [zi p0, zi p1] (zS0, I, L, F) (some (zi r)) (zS0, I, L, F) := by
  refine zAM_of (by decide) (Nat.le_of_ble_eq_true rfl) ⟨fun h => (by cases h), fun h => (by cases h)⟩ (Nat.le_refl _) (Nat.le_refl _) ?_
  unfold fX0_turned at h
  show zAW zE0 X mX0_turned 0 0 [(0, zi p0), (1, zi p1)] [] (zS0, I, L, F) (some (zi r)) (zS0, I, L, F)
  refine a_iload_n dX0_turned_0 rfl 1 rfl ?_
  refine a_iload_n dX0_turned_1 rfl 0 rfl ?_
  refine a_isub dX0_turned_2 ?_
  refine a_bipush (v := 31) dX0_turned_3 (by decide) ?_
  refine a_iand dX0_turned_5 ?_
  refine a_istore_n dX0_turned_6 rfl (by decide) rfl ?_
  refine a_iload_n dX0_turned_7 rfl 0 rfl ?_
  refine a_if_ne (tgt := 13) dX0_turned_8 rfl (fun hc2 => ?_) (fun hc2 => ?_)
  · rw [if_neg hc2] at h
    refine a_iload_n dX0_turned_13 rfl 0 rfl ?_
    refine a_bipush (v := 16) dX0_turned_14 (by decide) ?_
    refine a_icmp_gt (tgt := 23) dX0_turned_16 rfl (fun hc1 => ?_) (fun hc1 => ?_)
    · rw [if_pos hc1] at h
      refine a_iconst (v := (-1)) dX0_turned_23 (by decide) ?_
      refine a_istore_n dX0_turned_24 rfl (by decide) rfl ?_
      refine a_iload_n dX0_turned_25 rfl 2 rfl ?_
      refine a_iload_n dX0_turned_26 rfl 0 rfl ?_
      refine a_iadd dX0_turned_27 ?_
      refine a_bipush (v := 31) dX0_turned_28 (by decide) ?_
      refine a_iand dX0_turned_30 ?_
      subst h
      exact a_iret dX0_turned_31 (by intro h; cases h) (znar_i rfl)
    · rw [if_neg hc1] at h
      refine a_iconst (v := 1) dX0_turned_19 (by decide) ?_
      refine a_goto (tgt := 24) dX0_turned_20 rfl ?_
      refine a_istore_n dX0_turned_24 rfl (by decide) rfl ?_
      refine a_iload_n dX0_turned_25 rfl 2 rfl ?_
      refine a_iload_n dX0_turned_26 rfl 0 rfl ?_
      refine a_iadd dX0_turned_27 ?_
      refine a_bipush (v := 31) dX0_turned_28 (by decide) ?_
      refine a_iand dX0_turned_30 ?_
      subst h
      exact a_iret dX0_turned_31 (by intro h; cases h) (znar_i rfl)
  · rw [if_pos hc2] at h
    refine a_iload_n dX0_turned_11 rfl 1 rfl ?_
    subst h
    exact a_iret dX0_turned_12 (by intro h; cases h) (znar_i rfl)
