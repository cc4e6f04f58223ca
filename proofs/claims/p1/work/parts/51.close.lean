theorem r1_orders : zSt_orders zRel1 := by
  intro i I L F a b c hi h
  obtain ⟨rfl, ⟨p, rfl⟩, rfl, rfl, rfl, rfl, rfl⟩ := r1_at hi h
  have f0 : ∀ a b, ¬ (a = 62 ∧ b < 24) → ¬ (a = 48 ∧ b = 18) → ¬ (a = 47 ∧ b < 24) → ¬ (a = 42 ∧ b = 0) → a ≠ 8 → a ≠ 7 → a ≠ 6 → zIp p a b = 0 := fun a b h1 h2 h3 h4 h5 h6 h7 => by
    rw [zIp_val, if_neg h1, if_neg h2, if_neg h3, if_neg h4, if_neg (fun h => h5 h.1), if_neg (fun h => h6 h.1), if_neg (fun h => h7 h.1)]
  -- the class: nothing to read
  have hc : ∃ I1, fX3_read 33 (zIp p) = some (0, I1) ∧ ∀ a b, 48 ≤ a → I1 a b = zIp p a b := by
    obtain ⟨J, hJ⟩ : ∃ J : zPI, J = zu (zu (zu (zu (zu (zIp p) 33 0 0) 15 2 0) 13 5 0) 13 3 0) 13 2 0 := ⟨_, rfl⟩
    have j1 : zu (zu (zu (zu (zIp p) 33 0 0) 15 2 0) 13 5 0) 13 3 (zu (zu (zu (zIp p) 33 0 0) 15 2 0) 13 5 0 13 5) = zu (zu (zu (zu (zIp p) 33 0 0) 15 2 0) 13 5 0) 13 3 0 := by rw [zu_same]
    have k1 : zu (zu (zu (zu (zIp p) 33 0 0) 15 2 0) 13 5 0) 13 3 0 13 1 = 0 := by
      rw [zu_col (by decide), zu_col (by decide), zu_row (by decide), zu_row (by decide)]
      exact zIp_0 p (by decide)
    have k3 : zu (zu (zu (zu (zIp p) 33 0 0) 15 2 0) 13 5 0) 13 3 0 13 3 = 0 := zu_same
    have e1 : fX6_rewind (zu (zu (zIp p) 33 0 0) 15 2 0) = some (zu J 13 5 (J 13 1)) := by
      rw [fX6_rewind, fX6_advance, j1, zF_succ, fX6_advance_8, k1, k3, if_pos (by decide), fX6_advance_60, k1, k3, if_neg (by decide), ← hJ]
      rfl
    have jk : (zu J 13 5 (J 13 1)) 13 2 = 0 := by rw [zu_col (by decide), hJ, zu_same]
    have jd : (zu J 13 5 (J 13 1)) 15 2 = 0 := by rw [zu_row (by decide), hJ, zu_row (by decide), zu_row (by decide), zu_row (by decide), zu_same]
    have jc : (zu J 13 5 (J 13 1)) 33 0 = 0 := by rw [zu_row (by decide), hJ, zu_row (by decide), zu_row (by decide), zu_row (by decide), zu_row (by decide), zu_same]
    refine ⟨zu J 13 5 (J 13 1), ?_, fun a b h => by rw [zu_row (by omega), hJ, zu_row (by omega), zu_row (by omega), zu_row (by omega), zu_row (by omega), zu_row (by omega)]⟩
    rw [fX3_read, e1]
    simp only [Option.bind_some]
    rw [zF_succ, fX3_read_29, if_neg (by decide), if_pos rfl, fX3_isOver, jk, if_pos rfl, jd, if_pos rfl, if_neg (by decide), fX3_read_84, if_pos rfl, fX5_link, zF_succ, fX5_link_2, jc, if_pos (by decide)]
    rfl
  obtain ⟨I1, e1, f1⟩ := hc
  -- the reference: nothing to read
  obtain ⟨J, hJ⟩ : ∃ J : zPI, J = zu (zu (zu I1 13 1 0) 0 9 0) 0 10 0 := ⟨_, rfl⟩
  have fJ : ∀ a b, 48 ≤ a → ¬ (a = 62 ∧ b < 24) → ¬ (a = 48 ∧ b = 18) → J a b = 0 := fun a b h h1 h2 => by
    rw [hJ, zu_row (by omega), zu_row (by omega), zu_row (by omega), f1 a b h]
    exact f0 a b h1 h2 (by omega) (by omega) (by omega) (by omega) (by omega)
  have hr : ∃ I2 L2, fX9_orders J zLp = some (0, I2, L2) := by
    have z0 : zin (0 : Int32) 1002 = true := by decide
    have z1 : zin ((1 : Int32) - 0) 2 = true := by decide
    have z2 : zin ((2200 : Int32) * (1 - 0) + 0) 4400 = true := by decide
    have c0 : (0 : Int32).toNatClampNeg = 0 := by decide
    have j2 : J 48 2 = 0 := fJ _ _ (by decide) (by decide) (by decide)
    have j13 : J 48 13 = 0 := fJ _ _ (by decide) (by decide) (by decide)
    obtain ⟨B, hB⟩ : ∃ B : zPI, B = zu (zu (zu J 48 0 0) 48 3 0) 48 2 0 := ⟨_, rfl⟩
    have fB : ∀ a b, ¬ (a = 48 ∧ (b = 0 ∨ b = 2 ∨ b = 3)) → B a b = J a b := fun a b h => by
      rw [hB]
      by_cases h7 : a = 48
      · rw [zu_col (by omega), zu_col (by omega), zu_col (by omega)]
      · rw [zu_row h7, zu_row h7, zu_row h7]
    have b3 : B 48 3 = 0 := by rw [hB, zu_col (by decide), zu_same]
    obtain ⟨A, hA⟩ : ∃ A : zPI, A = zu (zu (zu (zu B 50 0 0) 51 0 ((zu B 50 0 0) 48 3)) 48 7 0) 48 8 0 := ⟨_, rfl⟩
    have eC : fX9_cutAll (zu J 48 0 0) zLp = some (A, zLp) := by
      rw [fX9_cutAll, zu_col (show (2 : Nat) ≠ 0 by decide), j2, ← hB, zF_succ, fX9_cutAll_17, b3, if_pos (by decide), zif_t z0, zif_t z0, c0, ← hA]
    have a13 : A 48 13 = 0 := by rw [hA, zu_col (by decide), zu_col (by decide), zu_row (by decide), zu_row (by decide), fB _ _ (by decide), j13]
    obtain ⟨D, hD⟩ : ∃ D : zPI, D = zu (zu (zu (zu A 48 14 (1 - 0)) 48 15 0) 57 ((1 : Int32) - 0).toNatClampNeg 0) 48 17 0 := ⟨_, rfl⟩
    have d8 : D 48 8 = 0 := by rw [hD, zu_col (by decide), zu_row (by decide), zu_col (by decide), zu_col (by decide), hA, zu_same]
    have d7 : D 48 7 = 0 := by rw [hD, zu_col (by decide), zu_row (by decide), zu_col (by decide), zu_col (by decide), hA, zu_col (by decide), zu_same]
    have d50 : D 50 0 = 0 := by rw [hD, zu_row (by decide), zu_row (by decide), zu_row (by decide), zu_row (by decide), hA, zu_row (by decide), zu_row (by decide), zu_row (by decide), zu_same]
    have d14 : D 48 14 = 1 - 0 := by rw [hD, zu_col (by decide), zu_row (by decide), zu_col (by decide), zu_same]
    have d15 : D 48 15 = 0 := by rw [hD, zu_col (by decide), zu_row (by decide), zu_same]
    have s14 : zu (zu A 48 14 (1 - 0)) 48 15 0 48 14 = 1 - 0 := by rw [zu_col (by decide), zu_same]
    have eE9 : ∃ r, fX9_emit D 0 0 0 = some r := by
      unfold fX9_emit
      rw [d14, d15, zif_t z2, zif_t z2, zif_t z2]
      exact ⟨_, rfl⟩
    obtain ⟨r, hr9⟩ := eE9
    have e65 : fX9_orders_65 D zLp = some (0, zu (zu (zu r.2 48 13 (r.2 48 14)) 48 37 (2200 * ((zu r.2 48 13 (r.2 48 14)) 48 13))) 48 38 0, zLp) := by
      rw [fX9_orders_65, d8, if_pos (by decide), hr9]
      rfl
    refine ⟨zu (zu (zu r.2 48 13 (r.2 48 14)) 48 37 (2200 * ((zu r.2 48 13 (r.2 48 14)) 48 13))) 48 38 0, zLp, ?_⟩
    rw [fX9_orders, eC]
    simp only [Option.bind_some]
    rw [a13, s14, zif_t z1, ← hD, zF_succ, fX9_orders_39, d8, if_pos rfl, d7, zif_t z0, c0, d50, if_pos rfl]
    exact e65
  obtain ⟨I2, L2, e2⟩ := hr
  refine ⟨0, J, zu (zu (zu zFp 15 3 (some 33)) 0 7 (some 33)) 0 8 (some 24), I2, L2, 33, 24, some 33, ?_, e2, Or.inr ⟨by omega, ?_, ?_⟩⟩
  · rw [fX8_orders, e1]
    simp only [Option.bind_some, if_true]
    rw [← hJ]
  · exact zRin_b (zRin_a (zRin_s zFp_in) (Or.inr rfl)) (Or.inl rfl)
  · exact zwfR_zu (zwfR_zu (zwfR_zu zFp_wf (by decide)) (by decide)) (by decide)
theorem i_vc : Claimed_1_1 ∧ Claimed_1_2 := i_vc_of (Rel := zRel1) ⟨r1_R, r1_feed, r1_orders, r1_wind, r1_minutes, r1_sail, r1_rope, r1_braced, r1_hand, r1_look, r1_foretell, r1_plan, r1_leg⟩ r1_init
