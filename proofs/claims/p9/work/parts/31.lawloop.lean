theorem zhead_out {i N : Nat} (hN : N ≤ 3585) (hi : i ≤ 3600) (h : ¬ i + 7 ≤ N) : Int32.ofNat N - 7 < nI i := by
  rw [Int32.lt_iff_toInt_lt]
  have e1 : (nI N - nI 7).toInt = (N : Int) - 7 := pk_sub_toInt (by omega) (by omega)
  have e2 : (nI i).toInt = (i : Int) := nI_toInt (by omega)
  have e3 : (Int32.ofNat N - 7 : Int32) = nI N - nI 7 := rfl
  rw [e3, e1, e2]
  omega
theorem zhead_in {i N : Nat} (hN : N ≤ 3585) (hi : i ≤ 3600) (h : i + 7 ≤ N) : ¬ Int32.ofNat N - 7 < nI i := by
  rw [Int32.lt_iff_toInt_lt]
  have e1 : (nI N - nI 7).toInt = (N : Int) - 7 := pk_sub_toInt (by omega) (by omega)
  have e2 : (nI i).toInt = (i : Int) := nI_toInt (by omega)
  have e3 : (Int32.ofNat N - 7 : Int32) = nI N - nI 7 := rfl
  rw [e3, e1, e2]
  omega
set_option maxRecDepth 100000 in
set_option maxHeartbeats 4000000 in
theorem law_loop {Rel : zRelT} (hs : zSteps Rel) {X : Nat × (Nat → Int32)} (hX : X.1 ≤ 3585) : ∀ n : Nat, ∀ (i : Nat) (I : zPI) (L : zPL) (F : zPF) (a b : Nat) (c : Option Nat), Rel i I L F a b c → 1 ≤ i → i ≤ 3600 → X.1 < i + 7 + 7 * n → ∃ σf : zW, σf.1 = zS0 ∧ zAW (n, 0, zEL) X mL_law 50 33 [(0, zr 1000), (1, zr 0), (2, zr 48), (3, zr 76), (4, zi (nI i))] [] (zS0, I, L, F) (some (zi 1)) σf := by
  obtain ⟨hs0, s_feed, s_orders, s_wind, s_minutes, s_sail, s_rope, s_braced, s_hand, s_look, s_foretell, s_plan, s_leg⟩ := hs
  intro n
  induction n with
  | zero =>
    intro i I L F a b c h0 hi hi2 hn
    have hb : ¬ i + 7 ≤ X.1 := by omega
    refine ⟨(zS0, I, L, F), rfl, ?_⟩
    refine a_iload dL_law_33 4 rfl ?_
    refine a_aload_n dL_law_35 rfl 0 rfl ?_
    refine a_slen dL_law_36 ?_
    refine a_bipush (v := 7) dL_law_37 (by decide) ?_
    refine a_isub dL_law_39 ?_
    refine a_icmp_gt (tgt := 655) dL_law_40 rfl (fun _ => ?_) (fun hc => absurd (zhead_out hX hi2 hb) hc)
    refine a_iconst (v := 1) dL_law_655 (by decide) ?_
    exact a_iret dL_law_656 (by intro h; cases h) (znar_b1 rfl)
  | succ n ih =>
    intro i I L F a b c h0 hi hi2 hn
    by_cases hb : i + 7 ≤ X.1
    rotate_left
    · skip
      refine ⟨(zS0, I, L, F), rfl, ?_⟩
      refine a_iload dL_law_33 4 rfl ?_
      refine a_aload_n dL_law_35 rfl 0 rfl ?_
      refine a_slen dL_law_36 ?_
      refine a_bipush (v := 7) dL_law_37 (by decide) ?_
      refine a_isub dL_law_39 ?_
      refine a_icmp_gt (tgt := 655) dL_law_40 rfl (fun _ => ?_) (fun hc => absurd (zhead_out hX hi2 hb) hc)
      refine a_iconst (v := 1) dL_law_655 (by decide) ?_
      exact a_iret dL_law_656 (by intro h; cases h) (znar_b1 rfl)
    by_cases hc0 : X.2 (nI i).toNatClampNeg &&& 15 = 0
    · obtain ⟨σf, hσ, k⟩ := law_feed hs0 s_feed hX ih h0 hi hb hn
      refine ⟨σf, hσ, ?_⟩
      refine a_iload dL_law_33 4 rfl ?_
      refine a_aload_n dL_law_35 rfl 0 rfl ?_
      refine a_slen dL_law_36 ?_
      refine a_bipush (v := 7) dL_law_37 (by decide) ?_
      refine a_isub dL_law_39 ?_
      refine a_icmp_gt (tgt := 655) dL_law_40 rfl (fun hc => absurd hc (zhead_in hX hi2 hb)) (fun _ => ?_)
      refine a_aload_n dL_law_43 rfl 0 rfl ?_
      refine a_iload dL_law_44 4 rfl ?_
      refine a_sald dL_law_46 (zidx0 (by omega) hX) ?_
      refine a_bipush (v := 15) dL_law_47 (by decide) ?_
      refine a_iand dL_law_49 ?_
      refine a_tableIn (tgt := 112) dL_law_50 (by rw [hc0]; decide) (by rw [hc0]; decide) (by rw [hc0]; first | done | rfl) rfl ?_
      exact k
    by_cases hc1 : X.2 (nI i).toNatClampNeg &&& 15 = 1
    · obtain ⟨σf, hσ, k⟩ := law_orders hs0 s_orders hX ih h0 hi hb hn
      refine ⟨σf, hσ, ?_⟩
      refine a_iload dL_law_33 4 rfl ?_
      refine a_aload_n dL_law_35 rfl 0 rfl ?_
      refine a_slen dL_law_36 ?_
      refine a_bipush (v := 7) dL_law_37 (by decide) ?_
      refine a_isub dL_law_39 ?_
      refine a_icmp_gt (tgt := 655) dL_law_40 rfl (fun hc => absurd hc (zhead_in hX hi2 hb)) (fun _ => ?_)
      refine a_aload_n dL_law_43 rfl 0 rfl ?_
      refine a_iload dL_law_44 4 rfl ?_
      refine a_sald dL_law_46 (zidx0 (by omega) hX) ?_
      refine a_bipush (v := 15) dL_law_47 (by decide) ?_
      refine a_iand dL_law_49 ?_
      refine a_tableIn (tgt := 259) dL_law_50 (by rw [hc1]; decide) (by rw [hc1]; decide) (by rw [hc1]; first | done | rfl) rfl ?_
      exact k
    by_cases hc2 : X.2 (nI i).toNatClampNeg &&& 15 = 2
    · obtain ⟨σf, hσ, k⟩ := law_wind hs0 s_wind hX ih h0 hi hb hn
      refine ⟨σf, hσ, ?_⟩
      refine a_iload dL_law_33 4 rfl ?_
      refine a_aload_n dL_law_35 rfl 0 rfl ?_
      refine a_slen dL_law_36 ?_
      refine a_bipush (v := 7) dL_law_37 (by decide) ?_
      refine a_isub dL_law_39 ?_
      refine a_icmp_gt (tgt := 655) dL_law_40 rfl (fun hc => absurd hc (zhead_in hX hi2 hb)) (fun _ => ?_)
      refine a_aload_n dL_law_43 rfl 0 rfl ?_
      refine a_iload dL_law_44 4 rfl ?_
      refine a_sald dL_law_46 (zidx0 (by omega) hX) ?_
      refine a_bipush (v := 15) dL_law_47 (by decide) ?_
      refine a_iand dL_law_49 ?_
      refine a_tableIn (tgt := 272) dL_law_50 (by rw [hc2]; decide) (by rw [hc2]; decide) (by rw [hc2]; first | done | rfl) rfl ?_
      exact k
    by_cases hc3 : X.2 (nI i).toNatClampNeg &&& 15 = 3
    · obtain ⟨σf, hσ, k⟩ := law_minutes hs0 s_minutes hX ih h0 hi hb hn
      refine ⟨σf, hσ, ?_⟩
      refine a_iload dL_law_33 4 rfl ?_
      refine a_aload_n dL_law_35 rfl 0 rfl ?_
      refine a_slen dL_law_36 ?_
      refine a_bipush (v := 7) dL_law_37 (by decide) ?_
      refine a_isub dL_law_39 ?_
      refine a_icmp_gt (tgt := 655) dL_law_40 rfl (fun hc => absurd hc (zhead_in hX hi2 hb)) (fun _ => ?_)
      refine a_aload_n dL_law_43 rfl 0 rfl ?_
      refine a_iload dL_law_44 4 rfl ?_
      refine a_sald dL_law_46 (zidx0 (by omega) hX) ?_
      refine a_bipush (v := 15) dL_law_47 (by decide) ?_
      refine a_iand dL_law_49 ?_
      refine a_tableIn (tgt := 321) dL_law_50 (by rw [hc3]; decide) (by rw [hc3]; decide) (by rw [hc3]; first | done | rfl) rfl ?_
      exact k
    by_cases hc4 : X.2 (nI i).toNatClampNeg &&& 15 = 4
    · obtain ⟨σf, hσ, k⟩ := law_sail hs0 s_sail hX ih h0 hi hb hn
      refine ⟨σf, hσ, ?_⟩
      refine a_iload dL_law_33 4 rfl ?_
      refine a_aload_n dL_law_35 rfl 0 rfl ?_
      refine a_slen dL_law_36 ?_
      refine a_bipush (v := 7) dL_law_37 (by decide) ?_
      refine a_isub dL_law_39 ?_
      refine a_icmp_gt (tgt := 655) dL_law_40 rfl (fun hc => absurd hc (zhead_in hX hi2 hb)) (fun _ => ?_)
      refine a_aload_n dL_law_43 rfl 0 rfl ?_
      refine a_iload dL_law_44 4 rfl ?_
      refine a_sald dL_law_46 (zidx0 (by omega) hX) ?_
      refine a_bipush (v := 15) dL_law_47 (by decide) ?_
      refine a_iand dL_law_49 ?_
      refine a_tableIn (tgt := 346) dL_law_50 (by rw [hc4]; decide) (by rw [hc4]; decide) (by rw [hc4]; first | done | rfl) rfl ?_
      exact k
    by_cases hc5 : X.2 (nI i).toNatClampNeg &&& 15 = 5
    · obtain ⟨σf, hσ, k⟩ := law_rope hs0 s_rope hX ih h0 hi hb hn
      refine ⟨σf, hσ, ?_⟩
      refine a_iload dL_law_33 4 rfl ?_
      refine a_aload_n dL_law_35 rfl 0 rfl ?_
      refine a_slen dL_law_36 ?_
      refine a_bipush (v := 7) dL_law_37 (by decide) ?_
      refine a_isub dL_law_39 ?_
      refine a_icmp_gt (tgt := 655) dL_law_40 rfl (fun hc => absurd hc (zhead_in hX hi2 hb)) (fun _ => ?_)
      refine a_aload_n dL_law_43 rfl 0 rfl ?_
      refine a_iload dL_law_44 4 rfl ?_
      refine a_sald dL_law_46 (zidx0 (by omega) hX) ?_
      refine a_bipush (v := 15) dL_law_47 (by decide) ?_
      refine a_iand dL_law_49 ?_
      refine a_tableIn (tgt := 383) dL_law_50 (by rw [hc5]; decide) (by rw [hc5]; decide) (by rw [hc5]; first | done | rfl) rfl ?_
      exact k
    by_cases hc6 : X.2 (nI i).toNatClampNeg &&& 15 = 6
    · obtain ⟨σf, hσ, k⟩ := law_braced hs0 s_braced hX ih h0 hi hb hn
      refine ⟨σf, hσ, ?_⟩
      refine a_iload dL_law_33 4 rfl ?_
      refine a_aload_n dL_law_35 rfl 0 rfl ?_
      refine a_slen dL_law_36 ?_
      refine a_bipush (v := 7) dL_law_37 (by decide) ?_
      refine a_isub dL_law_39 ?_
      refine a_icmp_gt (tgt := 655) dL_law_40 rfl (fun hc => absurd hc (zhead_in hX hi2 hb)) (fun _ => ?_)
      refine a_aload_n dL_law_43 rfl 0 rfl ?_
      refine a_iload dL_law_44 4 rfl ?_
      refine a_sald dL_law_46 (zidx0 (by omega) hX) ?_
      refine a_bipush (v := 15) dL_law_47 (by decide) ?_
      refine a_iand dL_law_49 ?_
      refine a_tableIn (tgt := 420) dL_law_50 (by rw [hc6]; decide) (by rw [hc6]; decide) (by rw [hc6]; first | done | rfl) rfl ?_
      exact k
    by_cases hc7 : X.2 (nI i).toNatClampNeg &&& 15 = 7
    · obtain ⟨σf, hσ, k⟩ := law_hand hs0 s_hand hX ih h0 hi hb hn
      refine ⟨σf, hσ, ?_⟩
      refine a_iload dL_law_33 4 rfl ?_
      refine a_aload_n dL_law_35 rfl 0 rfl ?_
      refine a_slen dL_law_36 ?_
      refine a_bipush (v := 7) dL_law_37 (by decide) ?_
      refine a_isub dL_law_39 ?_
      refine a_icmp_gt (tgt := 655) dL_law_40 rfl (fun hc => absurd hc (zhead_in hX hi2 hb)) (fun _ => ?_)
      refine a_aload_n dL_law_43 rfl 0 rfl ?_
      refine a_iload dL_law_44 4 rfl ?_
      refine a_sald dL_law_46 (zidx0 (by omega) hX) ?_
      refine a_bipush (v := 15) dL_law_47 (by decide) ?_
      refine a_iand dL_law_49 ?_
      refine a_tableIn (tgt := 445) dL_law_50 (by rw [hc7]; decide) (by rw [hc7]; decide) (by rw [hc7]; first | done | rfl) rfl ?_
      exact k
    by_cases hc8 : X.2 (nI i).toNatClampNeg &&& 15 = 8
    · obtain ⟨σf, hσ, k⟩ := law_look hs0 s_look hX ih h0 hi hb hn
      refine ⟨σf, hσ, ?_⟩
      refine a_iload dL_law_33 4 rfl ?_
      refine a_aload_n dL_law_35 rfl 0 rfl ?_
      refine a_slen dL_law_36 ?_
      refine a_bipush (v := 7) dL_law_37 (by decide) ?_
      refine a_isub dL_law_39 ?_
      refine a_icmp_gt (tgt := 655) dL_law_40 rfl (fun hc => absurd hc (zhead_in hX hi2 hb)) (fun _ => ?_)
      refine a_aload_n dL_law_43 rfl 0 rfl ?_
      refine a_iload dL_law_44 4 rfl ?_
      refine a_sald dL_law_46 (zidx0 (by omega) hX) ?_
      refine a_bipush (v := 15) dL_law_47 (by decide) ?_
      refine a_iand dL_law_49 ?_
      refine a_tableIn (tgt := 513) dL_law_50 (by rw [hc8]; decide) (by rw [hc8]; decide) (by rw [hc8]; first | done | rfl) rfl ?_
      exact k
    by_cases hc9 : X.2 (nI i).toNatClampNeg &&& 15 = 9
    · obtain ⟨σf, hσ, k⟩ := law_foretell hs0 s_foretell hX ih h0 hi hb hn
      refine ⟨σf, hσ, ?_⟩
      refine a_iload dL_law_33 4 rfl ?_
      refine a_aload_n dL_law_35 rfl 0 rfl ?_
      refine a_slen dL_law_36 ?_
      refine a_bipush (v := 7) dL_law_37 (by decide) ?_
      refine a_isub dL_law_39 ?_
      refine a_icmp_gt (tgt := 655) dL_law_40 rfl (fun hc => absurd hc (zhead_in hX hi2 hb)) (fun _ => ?_)
      refine a_aload_n dL_law_43 rfl 0 rfl ?_
      refine a_iload dL_law_44 4 rfl ?_
      refine a_sald dL_law_46 (zidx0 (by omega) hX) ?_
      refine a_bipush (v := 15) dL_law_47 (by decide) ?_
      refine a_iand dL_law_49 ?_
      refine a_tableIn (tgt := 538) dL_law_50 (by rw [hc9]; decide) (by rw [hc9]; decide) (by rw [hc9]; first | done | rfl) rfl ?_
      exact k
    by_cases hc10 : X.2 (nI i).toNatClampNeg &&& 15 = 10
    · obtain ⟨σf, hσ, k⟩ := law_plan hs0 s_plan hX ih h0 hi hb hn
      refine ⟨σf, hσ, ?_⟩
      refine a_iload dL_law_33 4 rfl ?_
      refine a_aload_n dL_law_35 rfl 0 rfl ?_
      refine a_slen dL_law_36 ?_
      refine a_bipush (v := 7) dL_law_37 (by decide) ?_
      refine a_isub dL_law_39 ?_
      refine a_icmp_gt (tgt := 655) dL_law_40 rfl (fun hc => absurd hc (zhead_in hX hi2 hb)) (fun _ => ?_)
      refine a_aload_n dL_law_43 rfl 0 rfl ?_
      refine a_iload dL_law_44 4 rfl ?_
      refine a_sald dL_law_46 (zidx0 (by omega) hX) ?_
      refine a_bipush (v := 15) dL_law_47 (by decide) ?_
      refine a_iand dL_law_49 ?_
      refine a_tableIn (tgt := 587) dL_law_50 (by rw [hc10]; decide) (by rw [hc10]; decide) (by rw [hc10]; first | done | rfl) rfl ?_
      exact k
    by_cases hc11 : X.2 (nI i).toNatClampNeg &&& 15 = 11
    · obtain ⟨σf, hσ, k⟩ := law_leg hs0 s_leg hX ih h0 hi hb hn
      refine ⟨σf, hσ, ?_⟩
      refine a_iload dL_law_33 4 rfl ?_
      refine a_aload_n dL_law_35 rfl 0 rfl ?_
      refine a_slen dL_law_36 ?_
      refine a_bipush (v := 7) dL_law_37 (by decide) ?_
      refine a_isub dL_law_39 ?_
      refine a_icmp_gt (tgt := 655) dL_law_40 rfl (fun hc => absurd hc (zhead_in hX hi2 hb)) (fun _ => ?_)
      refine a_aload_n dL_law_43 rfl 0 rfl ?_
      refine a_iload dL_law_44 4 rfl ?_
      refine a_sald dL_law_46 (zidx0 (by omega) hX) ?_
      refine a_bipush (v := 15) dL_law_47 (by decide) ?_
      refine a_iand dL_law_49 ?_
      refine a_tableIn (tgt := 624) dL_law_50 (by rw [hc11]; decide) (by rw [hc11]; decide) (by rw [hc11]; first | done | rfl) rfl ?_
      exact k
    obtain ⟨σf, hσ, k⟩ := ih (i + 7) I L F a b c (hs0 i I L F a b c h0).2.2 (by omega) (by omega) (by omega)
    refine ⟨σf, hσ, ?_⟩
    replace k := zAW_less k
    refine a_iload dL_law_33 4 rfl ?_
    refine a_aload_n dL_law_35 rfl 0 rfl ?_
    refine a_slen dL_law_36 ?_
    refine a_bipush (v := 7) dL_law_37 (by decide) ?_
    refine a_isub dL_law_39 ?_
    refine a_icmp_gt (tgt := 655) dL_law_40 rfl (fun hc => absurd hc (zhead_in hX hi2 hb)) (fun _ => ?_)
    refine a_aload_n dL_law_43 rfl 0 rfl ?_
    refine a_iload dL_law_44 4 rfl ?_
    refine a_sald dL_law_46 (zidx0 (by omega) hX) ?_
    refine a_bipush (v := 15) dL_law_47 (by decide) ?_
    refine a_iand dL_law_49 ?_
    have hk9 : (X.2 (nI i).toNatClampNeg &&& 15 : Int32).toInt < 0 ∨ 11 < (X.2 (nI i).toNatClampNeg &&& 15 : Int32).toInt := by
      have := znot (k := 0) (z := 0) hc0 (by decide)
      have := znot (k := 1) (z := 1) hc1 (by decide)
      have := znot (k := 2) (z := 2) hc2 (by decide)
      have := znot (k := 3) (z := 3) hc3 (by decide)
      have := znot (k := 4) (z := 4) hc4 (by decide)
      have := znot (k := 5) (z := 5) hc5 (by decide)
      have := znot (k := 6) (z := 6) hc6 (by decide)
      have := znot (k := 7) (z := 7) hc7 (by decide)
      have := znot (k := 8) (z := 8) hc8 (by decide)
      have := znot (k := 9) (z := 9) hc9 (by decide)
      have := znot (k := 10) (z := 10) hc10 (by decide)
      have := znot (k := 11) (z := 11) hc11 (by decide)
      omega
    refine a_tableOut (tgt := 649) dL_law_50 hk9 rfl ?_
    refine a_iincK (k0 := 7) dL_law_649 (by decide) 4 rfl (by decide) rfl ?_
    refine a_goto (tgt := 33) dL_law_652 rfl ?_
    refine a_sub [1, 2, 3, 4, 0] rfl ?_
    rw [show nI i + 7 = nI (i + 7) from nI_add i 7]
    exact k
def zI0 : zPI := fun _ _ => 0
def zL0 : zPL := fun _ _ => 0
def zF0 : zPF := fun _ _ => none
theorem zZ0 : zZ 0 zI0 zL0 zF0 := fun _ _ _ => ⟨rfl, rfl, rfl⟩
/-- the planes behind the two constructors -/
def zIp (p : Int32) : zPI := eI_X9_init_48 (eI_X8_init_0 zI0 p) p
def zLp : zPL := eL_X9_init_48 (eL_X8_init_0 zL0)
def zFp : zPF := eF_X9_init_48 (eF_X8_init_0 zF0)
def zInit (Rel : zRelT) : Prop := ∀ p, Rel 1 (zIp p) zLp zFp 24 33 none
set_option maxRecDepth 100000 in
set_option maxHeartbeats 4000000 in
theorem law_start {Rel : zRelT} (hs : zSteps Rel) (h0 : zInit Rel) {X : Nat × (Nat → Int32)} (hX : X.1 ≤ 3585) : ∃ σf : zW, σf.1 = zS0 ∧ zAW (512, 0, zEL) X mL_law 50 0 [(0, zr 1000)] [] (zS0.take 0, zI0, zL0, zF0) (some (zi 1)) σf := by
  obtain ⟨σf, hσ, k⟩ := law_loop hs hX 512 1 _ _ _ _ _ _ (h0 (zh0 X)) (by omega) (by omega) (by omega)
  refine ⟨σf, hσ, ?_⟩
  have z1 := zZ_up zZ0 (Nat.le_succ 0)
  have z2 := zX8_init_0 (zh0 X) z1
  have z3 := zZ_up z2 (Nat.le_succ 48)
  have z4 := zX9_init_48 (zh0 X) z3
  refine a_newO (n := 0) dL_law_0 clX8 zw94 zw95 zw75 dvX8 zZ0 (by decide) rfl ⟨by rw [hσ]; exact Nat.le_of_ble_eq_true rfl, by rw [hσ]; exact Nat.le_of_ble_eq_true rfl⟩ ?_
  refine a_dup dL_law_3 rfl ?_
  refine a_aload_n dL_law_4 rfl 0 rfl ?_
  refine a_iconst (v := 0) dL_law_5 (by decide) ?_
  refine a_callS dL_law_6 (tcell0 hX) csL_cell zw829 (Nat.le_of_ble_eq_true rfl) rfl (Nat.le_of_ble_eq_true rfl) ⟨by rw [hσ]; exact Nat.le_of_ble_eq_true rfl, by rw [hσ]; exact Nat.le_of_ble_eq_true rfl⟩ (fun _ => ?_)
  refine a_callI dL_law_9 (cX8_init_0 (zh0 X) z1) csX8_init zw96 (Nat.le_of_ble_eq_true rfl) rfl (Nat.le_of_ble_eq_true rfl) ⟨by rw [hσ]; exact Nat.le_of_ble_eq_true rfl, by rw [hσ]; exact Nat.le_of_ble_eq_true rfl⟩ ?_
  refine a_astore_n dL_law_12 rfl (by decide) rfl ?_
  refine a_newO (n := 48) dL_law_13 clX9 zw928 zw926 zw83 dvX9 z2 (by decide) rfl ⟨by rw [hσ]; exact Nat.le_of_ble_eq_true rfl, by rw [hσ]; exact Nat.le_of_ble_eq_true rfl⟩ ?_
  refine a_dup dL_law_16 rfl ?_
  refine a_aload_n dL_law_17 rfl 1 rfl ?_
  refine a_iconst (v := 0) dL_law_18 (by decide) ?_
  refine a_callS dL_law_19 (tcell0 hX) csL_cell zw829 (Nat.le_of_ble_eq_true rfl) rfl (Nat.le_of_ble_eq_true rfl) ⟨by rw [hσ]; exact Nat.le_of_ble_eq_true rfl, by rw [hσ]; exact Nat.le_of_ble_eq_true rfl⟩ (fun _ => ?_)
  refine a_callI dL_law_22 (cX9_init_48 (zh0 X) z3) csX9_init zw929 (Nat.le_of_ble_eq_true rfl) rfl (Nat.le_of_ble_eq_true rfl) ⟨by rw [hσ]; exact Nat.le_of_ble_eq_true rfl, by rw [hσ]; exact Nat.le_of_ble_eq_true rfl⟩ ?_
  refine a_astore_n dL_law_25 rfl (by decide) rfl ?_
  refine a_iconst (v := 1) dL_law_26 (by decide) ?_
  refine a_newL (n := 76) (len := 1) dL_law_27 z4 (by decide) rfl (by decide) (by decide) (by decide) ⟨by rw [hσ]; exact Nat.le_of_ble_eq_true rfl, by rw [hσ]; exact Nat.le_of_ble_eq_true rfl⟩ ?_
  refine a_astore_n dL_law_29 rfl (by decide) rfl ?_
  refine a_iconst (v := 1) dL_law_30 (by decide) ?_
  refine a_istore dL_law_31 (by decide) rfl ?_
  refine a_sub [4, 3, 2, 1, 0] rfl ?_
  exact k
