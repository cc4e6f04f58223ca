/-! ORDERS keep the relation -/
theorem rP_orders : zSt_orders zRelP := by
  rintro i I L F a b c hi ⟨hF, hab, ⟨t, ch, hC, hR⟩, hPW, hPL, hK, hh, n, m, cnt, A, U, at', WT, w, M, P, Fo, ⟨hm, h13⟩, hT, ⟨h9, hat, pc, hpc, h37, hL⟩, h46, ⟨h10, h38, hWT⟩, hW, hG, hdk, hws, h11, h12, hc, hs, hpt, hC9, hR9⟩
  have ha : a = 24 ∨ a = 33 := by omega
  have hb : b = 24 ∨ b = 33 := by omega
  have hh2 := hT.2.1.2
  have h0 : rM0 I I n m := ⟨h46, hW, hG, hdk, hws, h11, h12, hc, hs, hpt⟩
  have h77 : zS0.length = 77 := rfl
  have hb77 : b < zS0.length := by rw [h77]; omega
  have ha77 : a < zS0.length := by rw [h77]; omega
  rcases ord_pair (I := I) (J := I) hb hC hR hh2 h13 hK with ⟨f, I1, -, -, ⟨f0, f1⟩, e1, -, cO, -⟩ | ⟨I1, -, -, -, -, -, e1, -, cO, -⟩
  · obtain ⟨J, hJ⟩ : ∃ J : zPI, J = zu I1 13 1 0 := ⟨_, rfl⟩
    have fJ : ∀ p y, p ≠ 13 → ¬ (p = 15 ∧ y = 2) → p ≠ 16 → ¬ (b ≤ p ∧ p ≤ b + 8) → J p y = I p y := fun p y p1 p2 p3 p4 => by
      rw [hJ, zu_row p1]
      exact cO p y p1 p2 p3 p4
    have fn : ¬ nI f = 0 := nI_ne (b := 0) (by omega) (by omega) (by omega)
    rcases ord_pair (I := I) (J := J) hb hC (zTR_cong hR (fJ _ _ (by decide) (by decide) (by decide) (by omega)) (fun y => fJ _ _ (by decide) (by omega) (by decide) (by omega))) hh2 (by rw [fJ _ _ (by decide) (by decide) (by decide) (by omega)]; exact h13) hK with ⟨f', I1', J2, L2, -, e1', e2, -, rO, hK2, k2, k13, k37, k38⟩ | ⟨I1', -, -, -, -, -, e1', -⟩
    · have ef : nI f' = nI f := (Prod.mk.inj (Option.some.inj (e1'.symm.trans e1))).1
      have FF : ∀ p y, p ≠ 13 → ¬ (p = 15 ∧ y = 2) → p ≠ 16 → ¬ (b ≤ p ∧ p ≤ b + 8) → ¬ (p = 48 ∧ (y < 18 ∨ y = 37 ∨ y = 38)) → p ≠ 50 → p ≠ 51 → ¬ ((p = 54 ∨ p = 55 ∨ p = 56) ∧ 2200 * (1 - hh) ≤ y ∧ y < 2200 * (1 - hh) + 2200) → p ≠ 57 → J2 p y = I p y := fun p y p1 p2 p3 p4 p5 p6 p7 p8 p9 => by
        rw [rO p y p5 p6 p7 p8 (by omega), fJ p y p1 p2 p3 p4]
      obtain ⟨g46, gW, gG, gdk, gws, g11, g12, gc, gs, gpt⟩ := rM0_cong (I' := J2) (J' := J2) h0 (fun x y hx => FF _ _ (by omega) (by omega) (by omega) (by omega) (by omega) (by omega) (by omega) (by omega) (by omega)) (fun x y hx => FF _ _ (by omega) (by omega) (by omega) (by omega) (by omega) (by omega) (by omega) (by omega) (by omega))
      have eH : ∀ x, x = 54 ∨ x = 55 ∨ x = 56 → ∀ y, inH hh y → J2 x y = I x y := fun x hx y hy => FF _ _ (by omega) (by omega) (by omega) (by omega) (by omega) (by omega) (by omega) (by omega) (by omega)
      refine ⟨nI f, J, zu F 15 3 (some b), J2, L2, a, b, some b, ?_, by rw [← ef]; exact e2, ⟨zRin_s hF.1, zwfR_zu hF.2 hb77⟩, hab, ⟨0, ch, ⟨?_, by omega, fun j hj => absurd hj (by simp)⟩, ⟨k2, by omega, fun j hj => absurd hj (by simp)⟩⟩, zPW_cong hPW (fun p hp y => FF _ _ (by omega) (by omega) (by omega) (by omega) (by omega) (by omega) (by omega) (by omega) (by omega)), zPL2_cong hPL (fun p y hp => FF _ _ (by omega) (by omega) (by omega) (by omega) (by omega) (by omega) (by omega) (by omega) (by omega)), hK2, hh, n, m, cnt, A, U, at', WT, w, M, P, Fo, ⟨by omega, k13⟩, TX_congH (TX_cong hT (fun k hk y => FF _ _ (by omega) (by omega) (by omega) (by omega) (by omega) (by omega) (by omega) (by omega) (by omega)) (fun _ _ _ => rfl)) eH, ⟨?_, hat, pc, hpc, ?_, LdE_congH (fun x hx y hy => eH x (by omega) y hy) hL⟩, g46, ⟨?_, ?_, hWT⟩, gW, gG, gdk, gws, g11, g12, gc, gs, gpt, zWC_cong hC9 (FF _ _ (by omega) (by omega) (by omega) (by omega) (by omega) (by omega) (by omega) (by omega) (by omega)) (fun x hx y => FF _ _ (by omega) (by omega) (by omega) (by omega) (by omega) (by omega) (by omega) (by omega) (by omega)), zWR_cong hR9 (FF _ _ (by omega) (by omega) (by omega) (by omega) (by omega) (by omega) (by omega) (by omega) (by omega)) (fun x hx y => FF _ _ (by omega) (by omega) (by omega) (by omega) (by omega) (by omega) (by omega) (by omega) (by omega))⟩
      · rw [fX8_orders, e1]
        simp only [Option.bind_some]
        rw [if_neg fn, ← hJ]
      · rw [rO _ _ (by omega) (by omega) (by omega) (by omega) (by omega), hJ, zu_same]; rfl
      · rw [FF _ _ (by omega) (by omega) (by omega) (by omega) (by omega) (by omega) (by omega) (by omega) (by omega)]; exact h9
      · rw [k37, fJ _ _ (by decide) (by decide) (by decide) (by omega)]; exact h37
      · rw [FF _ _ (by omega) (by omega) (by omega) (by omega) (by omega) (by omega) (by omega) (by omega) (by omega)]; exact h10
      · rw [k38, fJ _ _ (by decide) (by decide) (by decide) (by omega)]; exact h38
    · exact absurd (Prod.mk.inj (Option.some.inj (e1.symm.trans e1'))).1 fn
  · obtain ⟨J, hJ⟩ : ∃ J : zPI, J = zu (zu (zu I1 13 1 0) 0 9 0) 0 10 0 := ⟨_, rfl⟩
    have fK : ∀ p y, ¬ (p = 0 ∧ (y = 9 ∨ y = 10)) → p ≠ 13 → J p y = I1 p y := fun p y q1 q2 => by
      rw [hJ]
      by_cases h7 : p = 0
      · rw [zu_col (by omega), zu_col (by omega), zu_row q2]
      · rw [zu_row h7, zu_row h7, zu_row q2]
    have fJ : ∀ p y, ¬ (p = 0 ∧ (y = 9 ∨ y = 10)) → p ≠ 13 → ¬ (p = 15 ∧ y = 2) → p ≠ 16 → ¬ (b ≤ p ∧ p ≤ b + 8) → J p y = I p y := fun p y p0 p1 p2 p3 p4 => by
      rw [fK p y p0 p1]
      exact cO p y p1 p2 p3 p4
    rcases ord_pair (I := I) (J := J) hb hC (zTR_cong hR (fJ _ _ (by decide) (by decide) (by decide) (by decide) (by omega)) (fun y => fJ _ _ (by omega) (by decide) (by omega) (by decide) (by omega))) hh2 (by rw [fJ _ _ (by decide) (by decide) (by decide) (by decide) (by omega)]; exact h13) hK with ⟨f', I1', -, -, ⟨f0, f1⟩, e1', -⟩ | ⟨I1', J2, L2, cnt', A', U', e1', e2, -, rO, hK2, k2, k13, k37, k38, hTX, hA0⟩
    · exact absurd (Prod.mk.inj (Option.some.inj (e1'.symm.trans e1))).1 (nI_ne (b := 0) (by omega) (by omega) (by omega))
    · have eI1 : I1' = I1 := (Prod.mk.inj (Option.some.inj (e1'.symm.trans e1))).2
      rw [eI1] at hTX
      have FF : ∀ p y, ¬ (p = 0 ∧ (y = 9 ∨ y = 10)) → p ≠ 13 → ¬ (p = 15 ∧ y = 2) → p ≠ 16 → ¬ (b ≤ p ∧ p ≤ b + 8) → ¬ (p = 48 ∧ (y < 18 ∨ y = 37 ∨ y = 38)) → p ≠ 50 → p ≠ 51 → ¬ (p = 54 ∨ p = 55 ∨ p = 56) → p ≠ 57 → J2 p y = I p y := fun p y p0 p1 p2 p3 p4 p5 p6 p7 p8 p9 => by
        rw [rO p y p5 p6 p7 (by omega) (by omega), fJ p y p0 p1 p2 p3 p4]
      obtain ⟨g46, gW, gG, gdk, gws, g11, g12, gc, gs, gpt⟩ := rM0_cong (I' := J2) (J' := J2) h0 (fun x y hx => FF _ _ (by omega) (by omega) (by omega) (by omega) (by omega) (by omega) (by omega) (by omega) (by omega) (by omega)) (fun x y hx => FF _ _ (by omega) (by omega) (by omega) (by omega) (by omega) (by omega) (by omega) (by omega) (by omega) (by omega))
      refine ⟨0, J, zu (zu (zu F 15 3 (some b)) 0 7 (some b)) 0 8 (some a), J2, L2, b, a, some b, ?_, e2, ⟨zRin_b (zRin_a (zRin_s hF.1) hb) ha, zwfR_zu (zwfR_zu (zwfR_zu hF.2 hb77) hb77) ha77⟩, by omega, ⟨0, ch, ⟨?_, by omega, fun j hj => absurd hj (by simp)⟩, ⟨k2, by omega, fun j hj => absurd hj (by simp)⟩⟩, zPW_cong hPW (fun p hp y => FF _ _ (by omega) (by omega) (by omega) (by omega) (by omega) (by omega) (by omega) (by omega) (by omega) (by omega)), zPL2_cong hPL (fun p y hp => FF _ _ (by omega) (by omega) (by omega) (by omega) (by omega) (by omega) (by omega) (by omega) (by omega) (by omega)), hK2, 1 - hh, n, m, cnt', A', U', 0, 0, w, M, P, Fo, ⟨by omega, k13⟩, TX_cong hTX (fun k hk y => ?_) (fun _ _ _ => rfl), ⟨?_, Nat.zero_le _, 2200 * (1 - hh), ⟨by omega, by omega⟩, k37, 0, by omega, hA0.symm⟩, g46, ⟨?_, k38, by omega⟩, gW, gG, gdk, gws, g11, g12, gc, gs, gpt, zWC_cong hC9 (FF _ _ (by omega) (by omega) (by omega) (by omega) (by omega) (by omega) (by omega) (by omega) (by omega) (by omega)) (fun x hx y => FF _ _ (by omega) (by omega) (by omega) (by omega) (by omega) (by omega) (by omega) (by omega) (by omega) (by omega)), zWR_cong hR9 (FF _ _ (by omega) (by omega) (by omega) (by omega) (by omega) (by omega) (by omega) (by omega) (by omega) (by omega)) (fun x hx y => FF _ _ (by omega) (by omega) (by omega) (by omega) (by omega) (by omega) (by omega) (by omega) (by omega) (by omega))⟩
      · rw [fX8_orders, e1]
        simp only [Option.bind_some, if_true]
        rw [← hJ]
      · rw [rO _ _ (by omega) (by omega) (by omega) (by omega) (by omega), hJ, zu_row (by decide), zu_row (by decide), zu_same]; rfl
      · rw [rO _ _ (by omega) (by omega) (by omega) (by omega) (by omega), fK _ _ (by omega) (by omega)]
      · rw [rO _ _ (by omega) (by omega) (by omega) (by omega) (by omega), hJ, zu_col (by decide), zu_same]; rfl
      · rw [rO _ _ (by omega) (by omega) (by omega) (by omega) (by omega), hJ, zu_same, show 0 - (m + 1) = 0 by omega]; rfl
