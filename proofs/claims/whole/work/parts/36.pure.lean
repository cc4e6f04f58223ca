/-! THE PURE PART: the two sides' functions beside each other -/
theorem zlt_i (x y : Int32) : x < y ↔ x.toInt < y.toInt := Int32.lt_iff_toInt_lt
theorem zle_i (x y : Int32) : x ≤ y ↔ x.toInt ≤ y.toInt := Int32.le_iff_toInt_le
theorem zclamp {x : Int32} (h : ¬ x < 0) : (x.toNatClampNeg : Int) = x.toInt := by
  obtain ⟨j, hj, rfl⟩ := nI_of h
  rw [nI_clamp hj, nI_toInt hj]
theorem zin_of {x : Int32} {n : Nat} (h0 : ¬ x < 0) (h1 : x.toInt < n) : zin x n = true := by
  have h2 := zclamp h0
  simp only [zin, Bool.and_eq_true, Bool.not_eq_true', decide_eq_false_iff_not, decide_eq_true_eq]
  exact ⟨h0, by omega⟩
/-- braced -/
theorem q_braced {I : zPI} (hy : ∀ m, m < 3 → I 5 m = I 61 m) (p : Int32) : ∃ v, fX8_braced I p = some v ∧ fX9_braced I p = some (v, zu I 48 0 0) := by
  unfold fX8_braced fX9_braced
  by_cases h0 : p < 0
  · exact ⟨-1, by rw [if_pos h0], by rw [if_pos h0]⟩
  · have hc := zclamp h0
    by_cases h1 : p < 3
    · have h1' := (zlt_i p 3).mp h1
      have e3 : (3 : Int32).toInt = 3 := rfl
      have h2 : p ≤ 2 := (zle_i p 2).mpr (by have : (2 : Int32).toInt = 2 := rfl; omega)
      have hz : zin p 3 = true := zin_of h0 (by omega)
      refine ⟨I 5 p.toNatClampNeg, ?_, ?_⟩
      · rw [if_neg h0, if_pos h1, if_pos hz]
      · rw [if_neg h0, if_pos h2, if_pos hz, zu_row (by decide), hy _ (by omega)]
    · have h1' : ¬ p.toInt < (3 : Int32).toInt := fun q => h1 ((zlt_i p 3).mpr q)
      have e3 : (3 : Int32).toInt = 3 := rfl
      have h2 : ¬ p ≤ 2 := fun q => by
        have := (zle_i p 2).mp q
        have : (2 : Int32).toInt = 2 := rfl
        omega
      exact ⟨-1, by rw [if_neg h0, if_neg h1], by rw [if_neg h0, if_neg h2]⟩
/-- leg -/
theorem q_leg {I : zPI} (hn : I 17 5 = I 48 51) (hn8 : (I 17 5).toInt ≤ 8) (hc : ∀ g : Nat, g < 8 → (g : Int) < (I 17 5).toInt → I 22 g = I 75 g) (p : Int32) : ∃ v, fX8_leg I p = some v ∧ fX9_leg I p = some (v, zu I 48 0 0) := by
  unfold fX8_leg fX9_leg
  rw [show zu I 48 0 0 48 51 = I 48 51 from zu_col (by decide), ← hn]
  by_cases h0 : p < 0
  · exact ⟨-1, by rw [if_pos h0], by rw [if_pos h0]⟩
  · have hcl := zclamp h0
    by_cases h1 : p < I 17 5
    · have h1' := (zlt_i _ _).mp h1
      have hz : zin p 8 = true := zin_of h0 (by omega)
      refine ⟨I 22 p.toNatClampNeg, ?_, ?_⟩
      · rw [if_neg h0, if_pos h1, if_pos hz]
      · rw [if_neg h0, if_pos h1, if_pos hz, zu_row (by decide), hc p.toNatClampNeg (by omega) (by omega)]
    · exact ⟨-1, by rw [if_neg h0, if_neg h1], by rw [if_neg h0, if_neg h1]⟩
