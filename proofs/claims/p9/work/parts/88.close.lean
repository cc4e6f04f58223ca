/-! '}' OF THE CLASS -/
theorem c88 {o n n' d : Nat} {I : zPI} (ho : o = 24 ∨ o = 33) (hn : n < 80) (h0 : I o 0 = nI n') (hd : I 15 2 = nI (d + 1)) : ∃ I', fX3_readClosing_88 o (nI n) I = some (0, I') ∧ I' (o + 6) n = nI n' ∧ I' 15 2 = nI d ∧ (∀ a b, ¬ (a = 15 ∧ b = 2) → ¬ (a = o + 6 ∧ b = n) → I' a b = I a b) := by
  refine ⟨zu (zu I (o + 6) n (nI n')) 15 2 (nI d), ?_, by rw [zu_row (by omega), zu_same], zu_same, fun a b n1 n2 => ?_⟩
  · rw [fX3_readClosing_88, zif_t (zin_nI hn (by omega)), nI_clamp (by omega), h0, zu_row (show (15 : Nat) ≠ o + 6 by omega), hd, show nI (d + 1) - 1 = nI d from pk_sub (a := d + 1) (b := 1) (by omega)]
  · by_cases e : a = 15
    · rw [e, zu_col (by omega), zu_row (by omega)]
    · rw [zu_row e]
      by_cases e2 : a = o + 6
      · rw [e2, zu_col (by omega)]
      · rw [zu_row e2]
theorem cl_plain {o t j n n' d : Nat} {ch : Nat → Nat} {I : zPI} (ho : o = 24 ∨ o = 33) (h : cA I ch t j) (hd : I 15 2 = nI (d + 1)) (d8 : d < 8) (hop : I 16 d = nI n) (hn : n < 80) (h0 : I o 0 = nI n') (hv : ¬ I (o + 1) n = 7 ∨ ¬ I (o + 5) n = -1) : ∃ I', fX3_readClosing o I = some (0, I') ∧ cA I' ch t (j + 1) ∧ I' (o + 6) n = nI n' ∧ I' 15 2 = nI d ∧ (∀ a b, a ≠ 13 → ¬ (a = 15 ∧ b = 2) → ¬ (a = o + 6 ∧ b = n) → I' a b = I a b) := by
  obtain ⟨I1, g1, g2, g3⟩ := cA_adv h
  obtain ⟨I', e1, e2, e3, e4⟩ := c88 (d := d) ho hn (show I1 o 0 = nI n' by rw [g3 _ _ (by omega)]; exact h0) (by rw [g3 _ _ (by omega)]; exact hd)
  have hz : zin (nI n) 80 = true := zin_nI hn (by omega)
  refine ⟨I', ?_, cA_cong g2 (fun b => e4 _ _ (by omega) (by omega)) (fun b => e4 _ _ (by omega) (by omega)), e2, e3, fun a b n1 n2 n3 => by rw [e4 a b n2 n3, g3 a b n1]⟩
  rw [fX3_readClosing, hd, show nI (d + 1) - 1 = nI d from pk_sub (a := d + 1) (b := 1) (by omega), zif_t (zin_nI d8 (by omega)), g1]
  simp only [Option.bind_some]
  rw [nI_clamp (show d < 2147483648 by omega), hop, nI_clamp (show n < 2147483648 by omega)]
  simp only [hz, if_true]
  by_cases v7 : I1 (o + 1) n = 7
  · rw [if_pos v7]
    rw [g3 _ _ (by omega)] at v7
    rw [if_neg (show ¬ I1 (o + 5) n = -1 by rw [g3 _ _ (by omega)]; exact hv.elim (fun h9 => absurd v7 h9) id)]
    exact e1
  · rw [if_neg v7]
    exact e1
theorem cl_if {o t j n n' d : Nat} {ch : Nat → Nat} {I : zPI} (ho : o = 24 ∨ o = 33) (h : cA I ch t j) (hd : I 15 2 = nI (d + 1)) (d8 : d < 8) (hop : I 16 d = nI n) (hn : n < 80) (h0 : I o 0 = nI n') (hv : I (o + 1) n = 7) (hm : I (o + 5) n = -1) :
  (¬ isw ch t (j + 1) 8 → ∃ I', fX3_readClosing o I = some (0, I') ∧ cA I' ch t (j + 1) ∧ I' (o + 5) n = nI n' ∧ I' (o + 6) n = nI n' ∧ I' 15 2 = nI d ∧ (∀ a b, a ≠ 13 → ¬ (a = 15 ∧ b = 2) → ¬ ((a = o + 5 ∨ a = o + 6) ∧ b = n) → I' a b = I a b)) ∧
  (isw ch t (j + 1) 8 → kd ch t (j + 2) = 123 → ∃ I', fX3_readClosing o I = some (0, I') ∧ cA I' ch t (j + 3) ∧ I' (o + 5) n = nI n' ∧ (∀ a b, a ≠ 13 → ¬ (a = o + 5 ∧ b = n) → I' a b = I a b)) ∧
  (isw ch t (j + 1) 8 → kd ch t (j + 2) ≠ 123 → ∃ I', fX3_readClosing o I = some (nI (1 + 16 * pl ch t (j + 2)), I') ∧ (∀ a b, a ≠ 13 → ¬ (a = o + 5 ∧ b = n) → I' a b = I a b)) := by
  obtain ⟨I1, g1, g2, g3⟩ := cA_adv h
  have hz : zin (nI n) 80 = true := zin_nI hn (by omega)
  obtain ⟨I2, hI2⟩ : ∃ I2 : zPI, I2 = zu I1 (o + 5) n (nI n') := ⟨_, rfl⟩
  have f2 : ∀ a b, ¬ (a = o + 5 ∧ b = n) → I2 a b = I1 a b := fun a b m1 => by
    rw [hI2]
    by_cases e : a = o + 5
    · rw [e, zu_col (by omega)]
    · rw [zu_row e]
  have c2 : cA I2 ch t (j + 1) := cA_cong g2 (fun b => f2 _ _ (by omega)) (fun b => f2 _ _ (by omega))
  have v2 : I2 (o + 5) n = nI n' := by rw [hI2, zu_same]
  have sp : fX6_spells 0 I2 = some (if isw ch t (j + 1) 8 then 1 else 0) := sp_c c2 (by decide)
  have eC : fX3_readClosing o I = if isw ch t (j + 1) 8 then (fX6_advance I2).bind (fun q10 => (fX3_readSign o q10 123).bind (fun q12 => some (q12.1, q12.2))) else fX3_readClosing_88 o (nI n) I2 := by
    rw [fX3_readClosing, hd, show nI (d + 1) - 1 = nI d from pk_sub (a := d + 1) (b := 1) (by omega), zif_t (zin_nI d8 (by omega)), g1]
    simp only [Option.bind_some]
    rw [nI_clamp (show d < 2147483648 by omega), hop, nI_clamp (show n < 2147483648 by omega)]
    simp only [hz, if_true]
    rw [if_pos (show I1 (o + 1) n = 7 by rw [g3 _ _ (by omega)]; exact hv), if_pos (show I1 (o + 5) n = -1 by rw [g3 _ _ (by omega)]; exact hm), show I1 o 0 = nI n' by rw [g3 _ _ (by omega)]; exact h0, ← hI2, sp]
    simp only [Option.bind_some, bt]
  refine ⟨fun k => ?_, fun k k2 => ?_, fun k k2 => ?_⟩
  · obtain ⟨I', e1, e2, e3, e4⟩ := c88 (d := d) ho hn (show I2 o 0 = nI n' by rw [f2 _ _ (by omega), g3 _ _ (by omega)]; exact h0) (by rw [f2 _ _ (by omega), g3 _ _ (by omega)]; exact hd)
    refine ⟨I', by rw [eC, if_neg k]; exact e1, cA_cong c2 (fun b => e4 _ _ (by omega) (by omega)) (fun b => e4 _ _ (by omega) (by omega)), by rw [e4 _ _ (by omega) (by omega)]; exact v2, e2, e3, fun a b n1 n2 n3 => by rw [e4 a b n2 (by omega), f2 a b (by omega), g3 a b n1]⟩
  · obtain ⟨I3, d1, d2, d3⟩ := cA_adv c2
    obtain ⟨I', e1, e2, e3⟩ := (rs_c (o := o) (c := 123) d2 (by decide)).1 k2
    refine ⟨I', ?_, e2, by rw [e3 _ _ (by omega), d3 _ _ (by omega)]; exact v2, fun a b n1 n2 => by rw [e3 a b n1, d3 a b n1, f2 a b n2, g3 a b n1]⟩
    rw [eC, if_pos k, d1]
    simp only [Option.bind_some]
    rw [show (123 : Int32) = nI 123 from rfl, e1]
    rfl
  · obtain ⟨I3, d1, d2, d3⟩ := cA_adv c2
    have e1 := (rs_c (o := o) (c := 123) d2 (by decide)).2 k2
    refine ⟨I3, ?_, fun a b n1 n2 => by rw [d3 a b n1, f2 a b n2, g3 a b n1]⟩
    rw [eC, if_pos k, d1]
    simp only [Option.bind_some]
    rw [show (123 : Int32) = nI 123 from rfl, e1]
    rfl
