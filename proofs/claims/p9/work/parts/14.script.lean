def fX5_add_62 (o : Nat) (K : Int32 → zPI → Option (Int32 × zPI)) : Nat → Int32 → Int32 → zPI → Option (Int32 × zPI)
  | 0, _, _, _ => none
  | n + 1, v3, v4, I => (if 8 ≤ v4 then K v3 I else (if zin ((v3 * 8) + v4) 640 then fX5_add_62 o K n v3 (v4 + 1) (zu I (o + 8) ((v3 * 8) + v4).toNatClampNeg 0) else none))
def fX5_add (o : Nat) (I : zPI) (p1 : Int32) (p2 : Int32) : Option (Int32 × zPI) := (if zin (I o 0) 80 then (if zin (I o 0) 80 then (if zin (I o 0) 80 then (if zin (I o 0) 80 then (if zin (I o 0) 80 then (if zin (I o 0) 80 then fX5_add_62 o (fun v3 I => some (v3, I)) zF (I o 0) 0 (zu (zu (zu (zu (zu (zu (zu I o 0 ((I o 0) + 1)) (o + 1) (I o 0).toNatClampNeg p1) (o + 2) (I o 0).toNatClampNeg 0) (o + 3) (I o 0).toNatClampNeg 0) (o + 4) (I o 0).toNatClampNeg p2) (o + 5) (I o 0).toNatClampNeg (-1)) (o + 6) (I o 0).toNatClampNeg ((I o 0) + 1)) else none) else none) else none) else none) else none) else none)
set_option maxRecDepth 100000 in
theorem tX5_add_62 {X : Nat × (Nat → Int32)} {L : zPL} {F : zPF} {a b : Nat} {o : Nat} {c : Option Nat} (hR : zRin F a b c) (hso : zSc o) {r : Int32 × zPI} {K : Int32 → zPI → Option (Int32 × zPI)} (hK : ∀ (v3 : Int32) (I : zPI), K v3 I = some r → zAW zE0 X mX5_add 0 88 [(3, zi v3)] [] (zS0, I, L, F) (some (zi r.1)) (zS0, r.2, L, F)) : ∀ (n : Nat) (v3 : Int32) (v4 : Int32) (I : zPI), fX5_add_62 o K n v3 v4 I = some r → zAW zE0 X mX5_add 0 62 [(0, zr o), (3, zi v3), (4, zi v4)] [] (zS0, I, L, F) (some (zi r.1)) (zS0, r.2, L, F) := by
  intro n
  induction n with
  | zero =>
    intro v3 v4 I h
    rw [fX5_add_62.eq_1] at h
    cases h
  | succ n ih =>
    intro v3 v4 I h
    rw [fX5_add_62.eq_2] at h
    refine a_iload dX5_add_62 2 rfl ?_
    refine a_bipush (v := 8) dX5_add_64 (by decide) ?_
    refine a_icmp_ge (tgt := 88) dX5_add_66 rfl (fun hc8 => ?_) (fun hc8 => ?_)
    · rw [if_pos hc8] at h
      refine a_sub [1] rfl ?_
      exact hK _ _ h
    · rw [if_neg hc8] at h
      refine a_aload_n dX5_add_69 rfl 0 rfl ?_
      refine a_getq dX5_add_70 G_X5_33 (zsc_o hso) rfl (rsc_8 hR hso) ?_
      refine a_iload_n dX5_add_73 rfl 1 rfl ?_
      refine a_bipush (v := 8) dX5_add_74 (by decide) ?_
      refine a_imul dX5_add_76 ?_
      refine a_iload dX5_add_77 2 rfl ?_
      refine a_iadd dX5_add_79 ?_
      refine a_iconst (v := 0) dX5_add_80 (by decide) ?_
      obtain ⟨hz7, h⟩ := zif h
      refine a_iast dX5_add_81 (zsa_8 hso) (zin_vp hz7) ?_
      refine a_iincK (k0 := 1) dX5_add_82 (by decide) 2 rfl (by decide) rfl ?_
      refine a_goto (tgt := 62) dX5_add_85 rfl ?_
      refine a_sub [1, 2, 0] rfl ?_
      exact ih _ _ _ h
set_option maxRecDepth 100000 in
theorem tX5_add {X : Nat × (Nat → Int32)} {I : zPI} {L : zPL} {F : zPF} {a b : Nat} {o : Nat} {c : Option Nat} (hR : zRin F a b c) (hso : zSc o) (p1 : Int32) (p2 : Int32) (r : Int32 × zPI) (h : fX5_add o I p1 p2 = some r) : zAM X mX5_add 0 [zr o, zi p1, zi p2] (zS0, I, L, F) (some (zi r.1)) (zS0, r.2, L, F) := by
  refine zAM_of (by decide) (Nat.le_of_ble_eq_true rfl) ⟨fun h => (by cases h), fun h => (by cases h)⟩ (Nat.le_refl _) (Nat.le_refl _) ?_
  unfold fX5_add at h
  show zAW zE0 X mX5_add 0 0 [(0, zr o), (1, zi p1), (2, zi p2)] [] (zS0, I, L, F) (some (zi r.1)) (zS0, r.2, L, F)
  refine a_aload_n dX5_add_0 rfl 0 rfl ?_
  refine a_geti dX5_add_1 G_X5_36 (zsc_o hso) rfl ?_
  refine a_istore_n dX5_add_4 rfl (by decide) rfl ?_
  refine a_aload_n dX5_add_5 rfl 1 rfl ?_
  refine a_dup dX5_add_6 rfl ?_
  refine a_geti dX5_add_7 G_X5_36 (zsc_o hso) rfl ?_
  refine a_iconst (v := 1) dX5_add_10 (by decide) ?_
  refine a_iadd dX5_add_11 ?_
  refine a_puti dX5_add_12 F_X5_36 (zsc_o hso) rfl ⟨rfl, rfl⟩ ?_
  refine a_aload_n dX5_add_15 rfl 1 rfl ?_
  refine a_getq dX5_add_16 G_X5_11 (zsc_o hso) rfl (rsc_1 hR hso) ?_
  refine a_iload_n dX5_add_19 rfl 0 rfl ?_
  refine a_iload_n dX5_add_20 rfl 2 rfl ?_
  obtain ⟨hz1, h⟩ := zif h
  refine a_iast dX5_add_21 (zsa_1 hso) (zin_vp hz1) ?_
  refine a_aload_n dX5_add_22 rfl 1 rfl ?_
  refine a_getq dX5_add_23 G_X5_15 (zsc_o hso) rfl (rsc_2 hR hso) ?_
  refine a_iload_n dX5_add_26 rfl 0 rfl ?_
  refine a_iconst (v := 0) dX5_add_27 (by decide) ?_
  obtain ⟨hz2, h⟩ := zif h
  refine a_iast dX5_add_28 (zsa_2 hso) (zin_vp hz2) ?_
  refine a_aload_n dX5_add_29 rfl 1 rfl ?_
  refine a_getq dX5_add_30 G_X5_18 (zsc_o hso) rfl (rsc_3 hR hso) ?_
  refine a_iload_n dX5_add_33 rfl 0 rfl ?_
  refine a_iconst (v := 0) dX5_add_34 (by decide) ?_
  obtain ⟨hz3, h⟩ := zif h
  refine a_iast dX5_add_35 (zsa_3 hso) (zin_vp hz3) ?_
  refine a_aload_n dX5_add_36 rfl 1 rfl ?_
  refine a_getq dX5_add_37 G_X5_21 (zsc_o hso) rfl (rsc_4 hR hso) ?_
  refine a_iload_n dX5_add_40 rfl 0 rfl ?_
  refine a_iload_n dX5_add_41 rfl 3 rfl ?_
  obtain ⟨hz4, h⟩ := zif h
  refine a_iast dX5_add_42 (zsa_4 hso) (zin_vp hz4) ?_
  refine a_aload_n dX5_add_43 rfl 1 rfl ?_
  refine a_getq dX5_add_44 G_X5_24 (zsc_o hso) rfl (rsc_5 hR hso) ?_
  refine a_iload_n dX5_add_47 rfl 0 rfl ?_
  refine a_iconst (v := (-1)) dX5_add_48 (by decide) ?_
  obtain ⟨hz5, h⟩ := zif h
  refine a_iast dX5_add_49 (zsa_5 hso) (zin_vp hz5) ?_
  refine a_aload_n dX5_add_50 rfl 1 rfl ?_
  refine a_getq dX5_add_51 G_X5_27 (zsc_o hso) rfl (rsc_6 hR hso) ?_
  refine a_iload_n dX5_add_54 rfl 0 rfl ?_
  refine a_iload_n dX5_add_55 rfl 0 rfl ?_
  refine a_iconst (v := 1) dX5_add_56 (by decide) ?_
  refine a_iadd dX5_add_57 ?_
  obtain ⟨hz6, h⟩ := zif h
  refine a_iast dX5_add_58 (zsa_6 hso) (zin_vp hz6) ?_
  refine a_iconst (v := 0) dX5_add_59 (by decide) ?_
  refine a_istore dX5_add_60 (by decide) rfl ?_
  refine a_sub [2, 1, 0] rfl ?_
  refine tX5_add_62 hR hso (fun v3 I h => ?_) zF _ _ _ h
  (try dsimp only at h)
  refine a_iload_n dX5_add_88 rfl 0 rfl ?_
  cases h
  exact a_iret dX5_add_89 (by intro h; cases h) (znar_i rfl)
def fX5_weigh (o : Nat) (I : zPI) (p1 : Int32) (p2 : Int32) (p3 : Int32) : Option (zPI) := (if zin ((p1 * 8) + p2) 640 then (if zin ((p1 * 8) + p2) 640 then some (zu I (o + 8) ((p1 * 8) + p2).toNatClampNeg ((I (o + 8) ((p1 * 8) + p2).toNatClampNeg) + p3)) else none) else none)
set_option maxRecDepth 100000 in
theorem tX5_weigh {X : Nat × (Nat → Int32)} {I : zPI} {L : zPL} {F : zPF} {a b : Nat} {o : Nat} {c : Option Nat} (hR : zRin F a b c) (hso : zSc o) (p1 : Int32) (p2 : Int32) (p3 : Int32) (r : zPI) (h : fX5_weigh o I p1 p2 p3 = some r) : zAM X mX5_weigh 0 [zr o, zi p1, zi p2, zi p3] (zS0, I, L, F) none (zS0, r, L, F) := by
  refine zAM_of (by decide) (Nat.le_of_ble_eq_true rfl) ⟨fun _ => rfl, fun _ => rfl⟩ (Nat.le_refl _) (Nat.le_refl _) ?_
  unfold fX5_weigh at h
  show zAW zE0 X mX5_weigh 0 0 [(0, zr o), (1, zi p1), (2, zi p2), (3, zi p3)] [] (zS0, I, L, F) none (zS0, r, L, F)
  refine a_aload_n dX5_weigh_0 rfl 0 rfl ?_
  refine a_getq dX5_weigh_1 G_X5_33 (zsc_o hso) rfl (rsc_8 hR hso) ?_
  refine a_iload_n dX5_weigh_4 rfl 1 rfl ?_
  refine a_bipush (v := 8) dX5_weigh_5 (by decide) ?_
  refine a_imul dX5_weigh_7 ?_
  refine a_iload_n dX5_weigh_8 rfl 2 rfl ?_
  refine a_iadd dX5_weigh_9 ?_
  refine a_dup2 dX5_weigh_10 rfl rfl ?_
  obtain ⟨hz1, h⟩ := zif h
  refine a_iald dX5_weigh_11 (zsa_8 hso) (zin_vp hz1) ?_
  refine a_iload_n dX5_weigh_12 rfl 3 rfl ?_
  refine a_iadd dX5_weigh_13 ?_
  obtain ⟨hz2, h⟩ := zif h
  refine a_iast dX5_weigh_14 (zsa_8 hso) (zin_vp hz2) ?_
  cases h
  exact a_vret dX5_weigh_15 rfl
def fX5_blockEnd (o : Nat) (I : zPI) (p1 : Int32) (p2 : Int32) : Option (Int32) := (if zin p1 80 then (if (I (o + 1) p1.toNatClampNeg) = 7 then (if zin p1 80 then (if (I (o + 5) p1.toNatClampNeg) ≤ p2 then (if zin p1 80 then some (I (o + 6) p1.toNatClampNeg) else none) else (if zin p1 80 then some (I (o + 5) p1.toNatClampNeg) else none)) else none) else (if zin p1 80 then some (I (o + 6) p1.toNatClampNeg) else none)) else none)
set_option maxRecDepth 100000 in
theorem tX5_blockEnd {X : Nat × (Nat → Int32)} {I : zPI} {L : zPL} {F : zPF} {a b : Nat} {o : Nat} {c : Option Nat} (hR : zRin F a b c) (hso : zSc o) (p1 : Int32) (p2 : Int32) (r : Int32) (h : fX5_blockEnd o I p1 p2 = some r) : zAM X mX5_blockEnd 0 [zr o, zi p1, zi p2] (zS0, I, L, F) (some (zi r)) (zS0, I, L, F) := by
  refine zAM_of (by decide) (Nat.le_of_ble_eq_true rfl) ⟨fun h => (by cases h), fun h => (by cases h)⟩ (Nat.le_refl _) (Nat.le_refl _) ?_
  unfold fX5_blockEnd at h
  show zAW zE0 X mX5_blockEnd 0 0 [(0, zr o), (1, zi p1), (2, zi p2)] [] (zS0, I, L, F) (some (zi r)) (zS0, I, L, F)
  refine a_aload_n dX5_blockEnd_0 rfl 0 rfl ?_
  refine a_getq dX5_blockEnd_1 G_X5_11 (zsc_o hso) rfl (rsc_1 hR hso) ?_
  refine a_iload_n dX5_blockEnd_4 rfl 1 rfl ?_
  obtain ⟨hz1, h⟩ := zif h
  refine a_iald dX5_blockEnd_5 (zsa_1 hso) (zin_vp hz1) ?_
  refine a_bipush (v := 7) dX5_blockEnd_6 (by decide) ?_
  refine a_icmp_ne (tgt := 30) dX5_blockEnd_8 rfl (fun hc7 => ?_) (fun hc7 => ?_)
  · rw [if_neg hc7] at h
    refine a_aload_n dX5_blockEnd_30 rfl 0 rfl ?_
    refine a_getq dX5_blockEnd_31 G_X5_27 (zsc_o hso) rfl (rsc_6 hR hso) ?_
    refine a_iload_n dX5_blockEnd_34 rfl 1 rfl ?_
    obtain ⟨hz2, h⟩ := zif h
    refine a_iald dX5_blockEnd_35 (zsa_6 hso) (zin_vp hz2) ?_
    cases h
    exact a_iret dX5_blockEnd_36 (by intro h; cases h) (znar_i rfl)
  · rw [if_pos hc7] at h
    refine a_iload_n dX5_blockEnd_11 rfl 2 rfl ?_
    refine a_aload_n dX5_blockEnd_12 rfl 0 rfl ?_
    refine a_getq dX5_blockEnd_13 G_X5_24 (zsc_o hso) rfl (rsc_5 hR hso) ?_
    refine a_iload_n dX5_blockEnd_16 rfl 1 rfl ?_
    obtain ⟨hz3, h⟩ := zif h
    refine a_iald dX5_blockEnd_17 (zsa_5 hso) (zin_vp hz3) ?_
    refine a_icmp_ge (tgt := 30) dX5_blockEnd_18 rfl (fun hc6 => ?_) (fun hc6 => ?_)
    · rw [if_pos hc6] at h
      refine a_aload_n dX5_blockEnd_30 rfl 0 rfl ?_
      refine a_getq dX5_blockEnd_31 G_X5_27 (zsc_o hso) rfl (rsc_6 hR hso) ?_
      refine a_iload_n dX5_blockEnd_34 rfl 1 rfl ?_
      obtain ⟨hz4, h⟩ := zif h
      refine a_iald dX5_blockEnd_35 (zsa_6 hso) (zin_vp hz4) ?_
      cases h
      exact a_iret dX5_blockEnd_36 (by intro h; cases h) (znar_i rfl)
    · rw [if_neg hc6] at h
      refine a_aload_n dX5_blockEnd_21 rfl 0 rfl ?_
      refine a_getq dX5_blockEnd_22 G_X5_24 (zsc_o hso) rfl (rsc_5 hR hso) ?_
      refine a_iload_n dX5_blockEnd_25 rfl 1 rfl ?_
      obtain ⟨hz5, h⟩ := zif h
      refine a_iald dX5_blockEnd_26 (zsa_5 hso) (zin_vp hz5) ?_
      refine a_goto (tgt := 36) dX5_blockEnd_27 rfl ?_
      cases h
      exact a_iret dX5_blockEnd_36 (by intro h; cases h) (znar_i rfl)
def fX5_link_2 (o : Nat) (K : zPI → Option (zPI)) : Nat → Int32 → zPI → Option (zPI)
  | 0, _, _ => none
  | n + 1, v1, I => (if (I o 0) ≤ v1 then K I else (if zin v1 80 then (if (I (o + 4) v1.toNatClampNeg) = (-1) then (if zin v1 80 then (if zin v1 80 then fX5_link_2 o K n (v1 + 1) (zu I (o + 7) v1.toNatClampNeg (I (o + 6) v1.toNatClampNeg)) else none) else none) else (if zin v1 80 then (fX5_blockEnd o I (I (o + 4) v1.toNatClampNeg) v1).bind (fun q5 => (if (I (o + 6) v1.toNatClampNeg) = q5 then (if zin (I (o + 4) v1.toNatClampNeg) 80 then (if (I (o + 1) (I (o + 4) v1.toNatClampNeg).toNatClampNeg) = 8 then (if zin v1 80 then fX5_link_2 o K n (v1 + 1) (zu I (o + 7) v1.toNatClampNeg (I (o + 4) v1.toNatClampNeg)) else none) else (if zin (I (o + 4) v1.toNatClampNeg) 80 then (if zin v1 80 then fX5_link_2 o K n (v1 + 1) (zu I (o + 7) v1.toNatClampNeg (I (o + 7) (I (o + 4) v1.toNatClampNeg).toNatClampNeg)) else none) else none)) else none) else (if zin v1 80 then (if zin v1 80 then fX5_link_2 o K n (v1 + 1) (zu I (o + 7) v1.toNatClampNeg (I (o + 6) v1.toNatClampNeg)) else none) else none))) else none)) else none))
def fX5_link (o : Nat) (I : zPI) : Option (zPI) := fX5_link_2 o (fun I => some (I)) zF 0 I
set_option maxRecDepth 100000 in
theorem tX5_link_2 {X : Nat × (Nat → Int32)} {L : zPL} {F : zPF} {a b : Nat} {o : Nat} {c : Option Nat} (hR : zRin F a b c) (hso : zSc o) {r : zPI} {K : zPI → Option (zPI)} (hK : ∀ (I : zPI), K I = some r → zAW zE0 X mX5_link 1 85 [] [] (zS0, I, L, F) none (zS0, r, L, F)) : ∀ (n : Nat) (v1 : Int32) (I : zPI), fX5_link_2 o K n v1 I = some r → zAW zE0 X mX5_link 1 2 [(0, zr o), (1, zi v1)] [] (zS0, I, L, F) none (zS0, r, L, F) := by
  intro n
  induction n with
  | zero =>
    intro v1 I h
    rw [fX5_link_2.eq_1] at h
    cases h
  | succ n ih =>
    intro v1 I h
    rw [fX5_link_2.eq_2] at h
    refine a_iload_n dX5_link_2 rfl 1 rfl ?_
    refine a_aload_n dX5_link_3 rfl 0 rfl ?_
    refine a_geti dX5_link_4 G_X5_36 (zsc_o hso) rfl ?_
    refine a_icmp_ge (tgt := 85) dX5_link_7 rfl (fun hc16 => ?_) (fun hc16 => ?_)
    · rw [if_pos hc16] at h
      refine a_sub [] rfl ?_
      exact hK _ h
    · rw [if_neg hc16] at h
      refine a_aload_n dX5_link_10 rfl 0 rfl ?_
      refine a_getq dX5_link_11 G_X5_21 (zsc_o hso) rfl (rsc_4 hR hso) ?_
      refine a_iload_n dX5_link_14 rfl 1 rfl ?_
      obtain ⟨hz1, h⟩ := zif h
      refine a_iald dX5_link_15 (zsa_4 hso) (zin_vp hz1) ?_
      refine a_istore_n dX5_link_16 rfl (by decide) rfl ?_
      refine a_iload_n dX5_link_17 rfl 0 rfl ?_
      refine a_iconst (v := (-1)) dX5_link_18 (by decide) ?_
      refine a_icmp_eq (tgt := 37) dX5_link_19 rfl (fun hc15 => ?_) (fun hc15 => ?_)
      · rw [if_pos hc15] at h
        refine a_aload_n dX5_link_37 rfl 1 rfl ?_
        refine a_getq dX5_link_38 G_X5_30 (zsc_o hso) rfl (rsc_7 hR hso) ?_
        refine a_iload_n dX5_link_41 rfl 2 rfl ?_
        refine a_aload_n dX5_link_42 rfl 1 rfl ?_
        refine a_getq dX5_link_43 G_X5_27 (zsc_o hso) rfl (rsc_6 hR hso) ?_
        refine a_iload_n dX5_link_46 rfl 2 rfl ?_
        obtain ⟨hz2, h⟩ := zif h
        refine a_iald dX5_link_47 (zsa_6 hso) (zin_vp hz2) ?_
        obtain ⟨hz3, h⟩ := zif h
        refine a_iast dX5_link_48 (zsa_7 hso) (zin_vp hz3) ?_
        refine a_goto (tgt := 79) dX5_link_49 rfl ?_
        refine a_iincK (k0 := 1) dX5_link_79 (by decide) 2 rfl (by decide) rfl ?_
        refine a_goto (tgt := 2) dX5_link_82 rfl ?_
        refine a_sub [2, 0] rfl ?_
        exact ih _ _ h
      · rw [if_neg hc15] at h
        refine a_aload_n dX5_link_22 rfl 1 rfl ?_
        refine a_getq dX5_link_23 G_X5_27 (zsc_o hso) rfl (rsc_6 hR hso) ?_
        refine a_iload_n dX5_link_26 rfl 2 rfl ?_
        obtain ⟨hz4, h⟩ := zif h
        refine a_iald dX5_link_27 (zsa_6 hso) (zin_vp hz4) ?_
        refine a_aload_n dX5_link_28 rfl 1 rfl ?_
        refine a_iload_n dX5_link_29 rfl 0 rfl ?_
        refine a_iload_n dX5_link_30 rfl 2 rfl ?_
        obtain ⟨q5, hq5, h⟩ := zbind h
        refine a_callV dX5_link_31 (tX5_blockEnd hR hso _ _ _ hq5) csX5_blockEnd zw553 (Nat.le_of_ble_eq_true rfl) (zsc_o hso) rfl rfl (Nat.le_of_ble_eq_true rfl) ⟨Nat.le_refl _, Nat.le_refl _⟩ (fun hb6 => ?_)
        refine a_icmp_eq (tgt := 52) dX5_link_34 rfl (fun hc14 => ?_) (fun hc14 => ?_)
        · rw [if_pos hc14] at h
          refine a_aload_n dX5_link_52 rfl 1 rfl ?_
          refine a_getq dX5_link_53 G_X5_30 (zsc_o hso) rfl (rsc_7 hR hso) ?_
          refine a_iload_n dX5_link_56 rfl 2 rfl ?_
          refine a_aload_n dX5_link_57 rfl 1 rfl ?_
          refine a_getq dX5_link_58 G_X5_11 (zsc_o hso) rfl (rsc_1 hR hso) ?_
          refine a_iload_n dX5_link_61 rfl 0 rfl ?_
          obtain ⟨hz7, h⟩ := zif h
          refine a_iald dX5_link_62 (zsa_1 hso) (zin_vp hz7) ?_
          refine a_bipush (v := 8) dX5_link_63 (by decide) ?_
          refine a_icmp_ne (tgt := 72) dX5_link_65 rfl (fun hc11 => ?_) (fun hc11 => ?_)
          · rw [if_neg hc11] at h
            refine a_aload_n dX5_link_72 rfl 1 rfl ?_
            refine a_getq dX5_link_73 G_X5_30 (zsc_o hso) rfl (rsc_7 hR hso) ?_
            refine a_iload_n dX5_link_76 rfl 0 rfl ?_
            obtain ⟨hz8, h⟩ := zif h
            refine a_iald dX5_link_77 (zsa_7 hso) (zin_vp hz8) ?_
            obtain ⟨hz9, h⟩ := zif h
            refine a_iast dX5_link_78 (zsa_7 hso) (zin_vp hz9) ?_
            refine a_iincK (k0 := 1) dX5_link_79 (by decide) 2 rfl (by decide) rfl ?_
            refine a_goto (tgt := 2) dX5_link_82 rfl ?_
            refine a_sub [2, 0] rfl ?_
            exact ih _ _ h
          · rw [if_pos hc11] at h
            refine a_iload_n dX5_link_68 rfl 0 rfl ?_
            refine a_goto (tgt := 78) dX5_link_69 rfl ?_
            obtain ⟨hz10, h⟩ := zif h
            refine a_iast dX5_link_78 (zsa_7 hso) (zin_vp hz10) ?_
            refine a_iincK (k0 := 1) dX5_link_79 (by decide) 2 rfl (by decide) rfl ?_
            refine a_goto (tgt := 2) dX5_link_82 rfl ?_
            refine a_sub [2, 0] rfl ?_
            exact ih _ _ h
        · rw [if_neg hc14] at h
          refine a_aload_n dX5_link_37 rfl 1 rfl ?_
          refine a_getq dX5_link_38 G_X5_30 (zsc_o hso) rfl (rsc_7 hR hso) ?_
          refine a_iload_n dX5_link_41 rfl 2 rfl ?_
          refine a_aload_n dX5_link_42 rfl 1 rfl ?_
          refine a_getq dX5_link_43 G_X5_27 (zsc_o hso) rfl (rsc_6 hR hso) ?_
          refine a_iload_n dX5_link_46 rfl 2 rfl ?_
          obtain ⟨hz12, h⟩ := zif h
          refine a_iald dX5_link_47 (zsa_6 hso) (zin_vp hz12) ?_
          obtain ⟨hz13, h⟩ := zif h
          refine a_iast dX5_link_48 (zsa_7 hso) (zin_vp hz13) ?_
          refine a_goto (tgt := 79) dX5_link_49 rfl ?_
          refine a_iincK (k0 := 1) dX5_link_79 (by decide) 2 rfl (by decide) rfl ?_
          refine a_goto (tgt := 2) dX5_link_82 rfl ?_
          refine a_sub [2, 0] rfl ?_
          exact ih _ _ h
set_option maxRecDepth 100000 in
theorem tX5_link {X : Nat × (Nat → Int32)} {I : zPI} {L : zPL} {F : zPF} {a b : Nat} {o : Nat} {c : Option Nat} (hR : zRin F a b c) (hso : zSc o) (r : zPI) (h : fX5_link o I = some r) : zAM X mX5_link 1 [zr o] (zS0, I, L, F) none (zS0, r, L, F) := by
  refine zAM_of (by decide) (Nat.le_of_ble_eq_true rfl) ⟨fun _ => rfl, fun _ => rfl⟩ (Nat.le_refl _) (Nat.le_refl _) ?_
  unfold fX5_link at h
  show zAW zE0 X mX5_link 1 0 [(0, zr o)] [] (zS0, I, L, F) none (zS0, r, L, F)
  refine a_iconst (v := 0) dX5_link_0 (by decide) ?_
  refine a_istore_n dX5_link_1 rfl (by decide) rfl ?_
  refine a_sub [1, 0] rfl ?_
  refine tX5_link_2 hR hso (fun I h => ?_) zF _ _ h
  (try dsimp only at h)
  cases h
  exact a_vret dX5_link_85 rfl
def fX5_isTrue_5 (o : Nat) (I : zPI) (K : Int32 → Int32 → Option (Int32)) : Nat → Int32 → Int32 → Int32 → Option (Int32)
  | 0, _, _, _ => none
  | n + 1, v1, v3, v4 => (if 8 ≤ v4 then K v1 v3 else (if 8 ≤ v4 then K v1 v3 else (if zin ((v1 * 8) + v4) 640 then (if zin v4 8 then zlet (v3 + ((I (o + 8) ((v1 * 8) + v4).toNatClampNeg) * (I 23 v4.toNatClampNeg))) (fun x3 => fX5_isTrue_5 o I K n v1 x3 (v4 + 1)) else none) else none)))
def fX5_isTrue_45 (o : Nat) (I : zPI) (v1 : Int32) (v3 : Int32) : Option (Int32) := (if zin v1 80 then (if (I (o + 2) v1.toNatClampNeg) = 1 then (if 0 ≤ v3 then some 0 else some 1) else if (I (o + 2) v1.toNatClampNeg) = 2 then (if v3 = 0 then some 1 else some 0) else (if v3 = 0 then some 0 else some 1)) else none)
def fX5_isTrue (o : Nat) (I : zPI) (p1 : Int32) : Option (Int32) := fX5_isTrue_5 o I (fun v1 v3 => fX5_isTrue_45 o I v1 v3) zF p1 0 0
set_option maxRecDepth 100000 in
theorem tX5_isTrue_5 {X : Nat × (Nat → Int32)} {I : zPI} {L : zPL} {F : zPF} {a b : Nat} {o : Nat} {c : Option Nat} (hR : zRin F a b c) (hso : zSc o) {r : Int32} {K : Int32 → Int32 → Option (Int32)} (hK : ∀ (v1 : Int32) (v3 : Int32), K v1 v3 = some r → zAW zE0 X mX5_isTrue 0 45 [(0, zr o), (1, zi v1), (3, zi v3)] [] (zS0, I, L, F) (some (zi r)) (zS0, I, L, F)) : ∀ (n : Nat) (v1 : Int32) (v3 : Int32) (v4 : Int32), fX5_isTrue_5 o I K n v1 v3 v4 = some r → zAW zE0 X mX5_isTrue 0 5 [(0, zr o), (1, zi v1), (2, zr 23), (3, zi v3), (4, zi v4)] [] (zS0, I, L, F) (some (zi r)) (zS0, I, L, F) := by
  intro n
  induction n with
  | zero =>
    intro v1 v3 v4 h
    rw [fX5_isTrue_5.eq_1] at h
    cases h
  | succ n ih =>
    intro v1 v3 v4 h
    rw [fX5_isTrue_5.eq_2] at h
    refine a_iload dX5_isTrue_5 4 rfl ?_
    refine a_bipush (v := 8) dX5_isTrue_7 (by decide) ?_
    refine a_icmp_ge (tgt := 45) dX5_isTrue_9 rfl (fun hc5 => ?_) (fun hc5 => ?_)
    · rw [if_pos hc5] at h
      refine a_sub [0, 1, 3] rfl ?_
      exact hK _ _ h
    · rw [if_neg hc5] at h
      refine a_iload dX5_isTrue_12 4 rfl ?_
      refine a_aload_n dX5_isTrue_14 rfl 2 rfl ?_
      refine a_alenK_i (v := 8) dX5_isTrue_15 zs_23 (by decide) ?_
      refine a_icmp_ge (tgt := 45) dX5_isTrue_16 rfl (fun hc4 => ?_) (fun hc4 => ?_)
      · rw [if_pos hc4] at h
        refine a_sub [0, 1, 3] rfl ?_
        exact hK _ _ h
      · rw [if_neg hc4] at h
        refine a_iload_n dX5_isTrue_19 rfl 3 rfl ?_
        refine a_aload_n dX5_isTrue_20 rfl 0 rfl ?_
        refine a_getq dX5_isTrue_21 G_X5_33 (zsc_o hso) rfl (rsc_8 hR hso) ?_
        refine a_iload_n dX5_isTrue_24 rfl 1 rfl ?_
        refine a_bipush (v := 8) dX5_isTrue_25 (by decide) ?_
        refine a_imul dX5_isTrue_27 ?_
        refine a_iload dX5_isTrue_28 4 rfl ?_
        refine a_iadd dX5_isTrue_30 ?_
        obtain ⟨hz1, h⟩ := zif h
        refine a_iald dX5_isTrue_31 (zsa_8 hso) (zin_vp hz1) ?_
        refine a_aload_n dX5_isTrue_32 rfl 2 rfl ?_
        refine a_iload dX5_isTrue_33 4 rfl ?_
        obtain ⟨hz2, h⟩ := zif h
        refine a_iald dX5_isTrue_35 zs_23 (zin_vp hz2) ?_
        refine a_imul dX5_isTrue_36 ?_
        refine a_iadd dX5_isTrue_37 ?_
        refine a_name (fun x3 ex3 => ?_)
        replace h := zlet_at h ex3
        clear ex3
        refine a_istore_n dX5_isTrue_38 rfl (by decide) rfl ?_
        refine a_iincK (k0 := 1) dX5_isTrue_39 (by decide) 4 rfl (by decide) rfl ?_
        refine a_goto (tgt := 5) dX5_isTrue_42 rfl ?_
        refine a_sub [2, 3, 4, 1, 0] rfl ?_
        exact ih _ _ _ h
set_option maxRecDepth 100000 in
theorem tX5_isTrue_45 {X : Nat × (Nat → Int32)} {I : zPI} {L : zPL} {F : zPF} {a b : Nat} {o : Nat} {c : Option Nat} (hR : zRin F a b c) (hso : zSc o) {r : Int32} {v1 : Int32} {v3 : Int32} (h : fX5_isTrue_45 o I v1 v3 = some r) : zAW zE0 X mX5_isTrue 0 45 [(0, zr o), (1, zi v1), (3, zi v3)] [] (zS0, I, L, F) (some (zi r)) (zS0, I, L, F) := by
  unfold fX5_isTrue_45 at h
  refine a_aload_n dX5_isTrue_45 rfl 0 rfl ?_
  refine a_getq dX5_isTrue_46 G_X5_15 (zsc_o hso) rfl (rsc_2 hR hso) ?_
  refine a_iload_n dX5_isTrue_49 rfl 1 rfl ?_
  obtain ⟨hz6, h⟩ := zif h
  refine a_iald dX5_isTrue_50 (zsa_2 hso) (zin_vp hz6) ?_
  by_cases hc9 : (I (o + 2) v1.toNatClampNeg) = 1
  · rw [if_pos hc9] at h
    refine a_lookup (tgt := 76) dX5_isTrue_51 (by decide) (by rw [hc9]; first | done | rfl) rfl ?_
    refine a_iload_n dX5_isTrue_76 rfl 2 rfl ?_
    refine a_if_ge (tgt := 84) dX5_isTrue_77 rfl (fun hc8 => ?_) (fun hc8 => ?_)
    · rw [if_pos hc8] at h
      refine a_iconst (v := 0) dX5_isTrue_84 (by decide) ?_
      cases h
      exact a_iret dX5_isTrue_85 (by intro h; cases h) (znar_b0 rfl)
    · rw [if_neg hc8] at h
      refine a_iconst (v := 1) dX5_isTrue_80 (by decide) ?_
      refine a_goto (tgt := 85) dX5_isTrue_81 rfl ?_
      cases h
      exact a_iret dX5_isTrue_85 (by intro h; cases h) (znar_b1 rfl)
  · rw [if_neg hc9] at h
    by_cases hc11 : (I (o + 2) v1.toNatClampNeg) = 2
    · rw [if_pos hc11] at h
      refine a_lookup (tgt := 86) dX5_isTrue_51 (by decide) (by rw [hc11]; first | done | rfl) rfl ?_
      refine a_iload_n dX5_isTrue_86 rfl 2 rfl ?_
      refine a_if_ne (tgt := 94) dX5_isTrue_87 rfl (fun hc10 => ?_) (fun hc10 => ?_)
      · rw [if_neg hc10] at h
        refine a_iconst (v := 0) dX5_isTrue_94 (by decide) ?_
        cases h
        exact a_iret dX5_isTrue_95 (by intro h; cases h) (znar_b0 rfl)
      · rw [if_pos hc10] at h
        refine a_iconst (v := 1) dX5_isTrue_90 (by decide) ?_
        refine a_goto (tgt := 95) dX5_isTrue_91 rfl ?_
        cases h
        exact a_iret dX5_isTrue_95 (by intro h; cases h) (znar_b1 rfl)
    · rw [if_neg hc11] at h
      refine a_lookup (tgt := 96) (off := 45) dX5_isTrue_51 (by decide) (by simp only [Op.lookupswitch.offset]; rw [if_neg (fun e => znot (k := 1) (z := 1) hc9 (by decide) e.symm), if_neg (fun e => znot (k := 2) (z := 2) hc11 (by decide) e.symm)]) rfl ?_
      refine a_iload_n dX5_isTrue_96 rfl 2 rfl ?_
      refine a_if_eq (tgt := 104) dX5_isTrue_97 rfl (fun hc12 => ?_) (fun hc12 => ?_)
      · rw [if_pos hc12] at h
        refine a_iconst (v := 0) dX5_isTrue_104 (by decide) ?_
        cases h
        exact a_iret dX5_isTrue_105 (by intro h; cases h) (znar_b0 rfl)
      · rw [if_neg hc12] at h
        refine a_iconst (v := 1) dX5_isTrue_100 (by decide) ?_
        refine a_goto (tgt := 105) dX5_isTrue_101 rfl ?_
        cases h
        exact a_iret dX5_isTrue_105 (by intro h; cases h) (znar_b1 rfl)
set_option maxRecDepth 100000 in
theorem tX5_isTrue {X : Nat × (Nat → Int32)} {I : zPI} {L : zPL} {F : zPF} {a b : Nat} {o : Nat} {c : Option Nat} (hR : zRin F a b c) (hso : zSc o) (p1 : Int32) (r : Int32) (h : fX5_isTrue o I p1 = some r) : zAM X mX5_isTrue 0 [zr o, zi p1, zr 23] (zS0, I, L, F) (some (zi r)) (zS0, I, L, F) := by
  refine zAM_of (by decide) (Nat.le_of_ble_eq_true rfl) ⟨fun h => (by cases h), fun h => (by cases h)⟩ (Nat.le_refl _) (Nat.le_refl _) ?_
  unfold fX5_isTrue at h
  show zAW zE0 X mX5_isTrue 0 0 [(0, zr o), (1, zi p1), (2, zr 23)] [] (zS0, I, L, F) (some (zi r)) (zS0, I, L, F)
  refine a_iconst (v := 0) dX5_isTrue_0 (by decide) ?_
  refine a_istore_n dX5_isTrue_1 rfl (by decide) rfl ?_
  refine a_iconst (v := 0) dX5_isTrue_2 (by decide) ?_
  refine a_istore dX5_isTrue_3 (by decide) rfl ?_
  refine a_sub [2, 3, 4, 1, 0] rfl ?_
  refine tX5_isTrue_5 hR hso (fun v1 v3 h => ?_) zF _ _ _ h
  (try dsimp only at h)
  exact tX5_isTrue_45 hR hso h
def fX5_whenFalse (o : Nat) (I : zPI) (p1 : Int32) : Option (Int32) := (if zin p1 80 then (if (I (o + 1) p1.toNatClampNeg) = 7 then (if zin p1 80 then (if zin p1 80 then (if (I (o + 6) p1.toNatClampNeg) ≤ (I (o + 5) p1.toNatClampNeg) then (if zin p1 80 then some (I (o + 7) p1.toNatClampNeg) else none) else (if zin p1 80 then some (I (o + 5) p1.toNatClampNeg) else none)) else none) else none) else (if zin p1 80 then some (I (o + 7) p1.toNatClampNeg) else none)) else none)
set_option maxRecDepth 100000 in
theorem tX5_whenFalse {X : Nat × (Nat → Int32)} {I : zPI} {L : zPL} {F : zPF} {a b : Nat} {o : Nat} {c : Option Nat} (hR : zRin F a b c) (hso : zSc o) (p1 : Int32) (r : Int32) (h : fX5_whenFalse o I p1 = some r) : zAM X mX5_whenFalse 0 [zr o, zi p1] (zS0, I, L, F) (some (zi r)) (zS0, I, L, F) := by
  refine zAM_of (by decide) (Nat.le_of_ble_eq_true rfl) ⟨fun h => (by cases h), fun h => (by cases h)⟩ (Nat.le_refl _) (Nat.le_refl _) ?_
  unfold fX5_whenFalse at h
  show zAW zE0 X mX5_whenFalse 0 0 [(0, zr o), (1, zi p1)] [] (zS0, I, L, F) (some (zi r)) (zS0, I, L, F)
  refine a_aload_n dX5_whenFalse_0 rfl 0 rfl ?_
  refine a_getq dX5_whenFalse_1 G_X5_11 (zsc_o hso) rfl (rsc_1 hR hso) ?_
  refine a_iload_n dX5_whenFalse_4 rfl 1 rfl ?_
  obtain ⟨hz1, h⟩ := zif h
  refine a_iald dX5_whenFalse_5 (zsa_1 hso) (zin_vp hz1) ?_
  refine a_bipush (v := 7) dX5_whenFalse_6 (by decide) ?_
  refine a_icmp_ne (tgt := 35) dX5_whenFalse_8 rfl (fun hc8 => ?_) (fun hc8 => ?_)
  · rw [if_neg hc8] at h
    refine a_aload_n dX5_whenFalse_35 rfl 0 rfl ?_
    refine a_getq dX5_whenFalse_36 G_X5_30 (zsc_o hso) rfl (rsc_7 hR hso) ?_
    refine a_iload_n dX5_whenFalse_39 rfl 1 rfl ?_
    obtain ⟨hz2, h⟩ := zif h
    refine a_iald dX5_whenFalse_40 (zsa_7 hso) (zin_vp hz2) ?_
    cases h
    exact a_iret dX5_whenFalse_41 (by intro h; cases h) (znar_i rfl)
  · rw [if_pos hc8] at h
    refine a_aload_n dX5_whenFalse_11 rfl 0 rfl ?_
    refine a_getq dX5_whenFalse_12 G_X5_27 (zsc_o hso) rfl (rsc_6 hR hso) ?_
    refine a_iload_n dX5_whenFalse_15 rfl 1 rfl ?_
    obtain ⟨hz3, h⟩ := zif h
    refine a_iald dX5_whenFalse_16 (zsa_6 hso) (zin_vp hz3) ?_
    refine a_aload_n dX5_whenFalse_17 rfl 0 rfl ?_
    refine a_getq dX5_whenFalse_18 G_X5_24 (zsc_o hso) rfl (rsc_5 hR hso) ?_
    refine a_iload_n dX5_whenFalse_21 rfl 1 rfl ?_
    obtain ⟨hz4, h⟩ := zif h
    refine a_iald dX5_whenFalse_22 (zsa_5 hso) (zin_vp hz4) ?_
    refine a_icmp_le (tgt := 35) dX5_whenFalse_23 rfl (fun hc7 => ?_) (fun hc7 => ?_)
    · rw [if_pos hc7] at h
      refine a_aload_n dX5_whenFalse_35 rfl 0 rfl ?_
      refine a_getq dX5_whenFalse_36 G_X5_30 (zsc_o hso) rfl (rsc_7 hR hso) ?_
      refine a_iload_n dX5_whenFalse_39 rfl 1 rfl ?_
      obtain ⟨hz5, h⟩ := zif h
      refine a_iald dX5_whenFalse_40 (zsa_7 hso) (zin_vp hz5) ?_
      cases h
      exact a_iret dX5_whenFalse_41 (by intro h; cases h) (znar_i rfl)
    · rw [if_neg hc7] at h
      refine a_aload_n dX5_whenFalse_26 rfl 0 rfl ?_
      refine a_getq dX5_whenFalse_27 G_X5_24 (zsc_o hso) rfl (rsc_5 hR hso) ?_
      refine a_iload_n dX5_whenFalse_30 rfl 1 rfl ?_
      obtain ⟨hz6, h⟩ := zif h
      refine a_iald dX5_whenFalse_31 (zsa_5 hso) (zin_vp hz6) ?_
      refine a_goto (tgt := 41) dX5_whenFalse_32 rfl ?_
      cases h
      exact a_iret dX5_whenFalse_41 (by intro h; cases h) (znar_i rfl)
def fX5_whenTrue (o : Nat) (I : zPI) (p1 : Int32) : Option (Int32) := (if zin p1 80 then (if (I (o + 1) p1.toNatClampNeg) = 8 then (if zin p1 80 then (if (I (o + 6) p1.toNatClampNeg) ≤ (p1 + 1) then some p1 else some (p1 + 1)) else none) else (if zin p1 80 then (if (I (o + 5) p1.toNatClampNeg) ≤ (p1 + 1) then (if zin p1 80 then some (I (o + 7) p1.toNatClampNeg) else none) else some (p1 + 1)) else none)) else none)
set_option maxRecDepth 100000 in
theorem tX5_whenTrue {X : Nat × (Nat → Int32)} {I : zPI} {L : zPL} {F : zPF} {a b : Nat} {o : Nat} {c : Option Nat} (hR : zRin F a b c) (hso : zSc o) (p1 : Int32) (r : Int32) (h : fX5_whenTrue o I p1 = some r) : zAM X mX5_whenTrue 0 [zr o, zi p1] (zS0, I, L, F) (some (zi r)) (zS0, I, L, F) := by
  refine zAM_of (by decide) (Nat.le_of_ble_eq_true rfl) ⟨fun h => (by cases h), fun h => (by cases h)⟩ (Nat.le_refl _) (Nat.le_refl _) ?_
  unfold fX5_whenTrue at h
  show zAW zE0 X mX5_whenTrue 0 0 [(0, zr o), (1, zi p1)] [] (zS0, I, L, F) (some (zi r)) (zS0, I, L, F)
  refine a_aload_n dX5_whenTrue_0 rfl 0 rfl ?_
  refine a_getq dX5_whenTrue_1 G_X5_11 (zsc_o hso) rfl (rsc_1 hR hso) ?_
  refine a_iload_n dX5_whenTrue_4 rfl 1 rfl ?_
  obtain ⟨hz1, h⟩ := zif h
  refine a_iald dX5_whenTrue_5 (zsa_1 hso) (zin_vp hz1) ?_
  refine a_bipush (v := 8) dX5_whenTrue_6 (by decide) ?_
  refine a_icmp_ne (tgt := 31) dX5_whenTrue_8 rfl (fun hc7 => ?_) (fun hc7 => ?_)
  · rw [if_neg hc7] at h
    refine a_aload_n dX5_whenTrue_31 rfl 0 rfl ?_
    refine a_getq dX5_whenTrue_32 G_X5_24 (zsc_o hso) rfl (rsc_5 hR hso) ?_
    refine a_iload_n dX5_whenTrue_35 rfl 1 rfl ?_
    obtain ⟨hz2, h⟩ := zif h
    refine a_iald dX5_whenTrue_36 (zsa_5 hso) (zin_vp hz2) ?_
    refine a_iload_n dX5_whenTrue_37 rfl 1 rfl ?_
    refine a_iconst (v := 1) dX5_whenTrue_38 (by decide) ?_
    refine a_iadd dX5_whenTrue_39 ?_
    refine a_icmp_le (tgt := 49) dX5_whenTrue_40 rfl (fun hc4 => ?_) (fun hc4 => ?_)
    · rw [if_pos hc4] at h
      refine a_aload_n dX5_whenTrue_49 rfl 0 rfl ?_
      refine a_getq dX5_whenTrue_50 G_X5_30 (zsc_o hso) rfl (rsc_7 hR hso) ?_
      refine a_iload_n dX5_whenTrue_53 rfl 1 rfl ?_
      obtain ⟨hz3, h⟩ := zif h
      refine a_iald dX5_whenTrue_54 (zsa_7 hso) (zin_vp hz3) ?_
      cases h
      exact a_iret dX5_whenTrue_55 (by intro h; cases h) (znar_i rfl)
    · rw [if_neg hc4] at h
      refine a_iload_n dX5_whenTrue_43 rfl 1 rfl ?_
      refine a_iconst (v := 1) dX5_whenTrue_44 (by decide) ?_
      refine a_iadd dX5_whenTrue_45 ?_
      refine a_goto (tgt := 55) dX5_whenTrue_46 rfl ?_
      cases h
      exact a_iret dX5_whenTrue_55 (by intro h; cases h) (znar_i rfl)
  · rw [if_pos hc7] at h
    refine a_aload_n dX5_whenTrue_11 rfl 0 rfl ?_
    refine a_getq dX5_whenTrue_12 G_X5_27 (zsc_o hso) rfl (rsc_6 hR hso) ?_
    refine a_iload_n dX5_whenTrue_15 rfl 1 rfl ?_
    obtain ⟨hz5, h⟩ := zif h
    refine a_iald dX5_whenTrue_16 (zsa_6 hso) (zin_vp hz5) ?_
    refine a_iload_n dX5_whenTrue_17 rfl 1 rfl ?_
    refine a_iconst (v := 1) dX5_whenTrue_18 (by decide) ?_
    refine a_iadd dX5_whenTrue_19 ?_
    refine a_icmp_le (tgt := 29) dX5_whenTrue_20 rfl (fun hc6 => ?_) (fun hc6 => ?_)
    · rw [if_pos hc6] at h
      refine a_iload_n dX5_whenTrue_29 rfl 1 rfl ?_
      cases h
      exact a_iret dX5_whenTrue_30 (by intro h; cases h) (znar_i rfl)
    · rw [if_neg hc6] at h
      refine a_iload_n dX5_whenTrue_23 rfl 1 rfl ?_
      refine a_iconst (v := 1) dX5_whenTrue_24 (by decide) ?_
      refine a_iadd dX5_whenTrue_25 ?_
      refine a_goto (tgt := 30) dX5_whenTrue_26 rfl ?_
      cases h
      exact a_iret dX5_whenTrue_30 (by intro h; cases h) (znar_i rfl)
