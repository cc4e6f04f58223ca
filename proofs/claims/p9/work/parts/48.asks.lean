/-! loops that only ask -/
theorem f_under5 {K : Int32 → Option Int32} {w a : Int32} {I : zPI} : ∀ (m n k : Nat) (v : Int32), k + m = 24 → m < n → (v = 0 ∨ v = 1) →
    ∃ r : Int32, fX9_isUnder_5 I K n w a v (nI k) = K r ∧ (r = 0 ∨ r = 1) ∧ (r ≠ 0 ↔ v ≠ 0 ∨ ∃ j, k ≤ j ∧ j < 24 ∧ I 63 j = 1 + w ∧ I 64 j = a) := by
  intro m
  induction m with
  | zero =>
    intro n k v hk hn hv
    obtain ⟨n, rfl, -⟩ := zsucc hn
    have : k = 24 := by omega
    subst this
    refine ⟨v, by rw [fX9_isUnder_5, if_pos (show (24 : Int32) ≤ nI 24 by decide)], hv, Or.inl, ?_⟩
    rintro (h | ⟨j, h1, h2, -⟩)
    · exact h
    · omega
  | succ m ih =>
    intro n k v hk hn hv
    obtain ⟨n, rfl, hn⟩ := zsucc hn
    have hz : zin (nI k) 24 = true := zin_nI (by omega) (by omega)
    rw [fX9_isUnder_5, if_neg (show ¬ (24 : Int32) ≤ nI k from nI_ge (a := k) (b := 24) (by omega) (by omega))]
    simp only [hz, if_true]
    rw [nI_clamp (by omega), nI_1]
    rcases hv with rfl | rfl
    · rw [if_pos rfl]
      by_cases h1 : I 63 k = 1 + w
      · rw [if_pos h1]
        by_cases h2 : I 64 k = a
        · rw [if_pos h2]
          obtain ⟨r, e, f1, f2⟩ := ih n (k + 1) 1 (by omega) (by omega) (Or.inr rfl)
          refine ⟨r, e, f1, fun _ => Or.inr ⟨k, Nat.le_refl _, by omega, h1, h2⟩, fun _ => f2.mpr (Or.inl (by decide))⟩
        · rw [if_neg h2]
          obtain ⟨r, e, f1, f2⟩ := ih n (k + 1) 0 (by omega) (by omega) (Or.inl rfl)
          refine ⟨r, e, f1, ?_⟩
          rw [f2]
          constructor
          · rintro (h | ⟨j, a1, a2⟩)
            · exact Or.inl h
            · exact Or.inr ⟨j, by omega, a2⟩
          · rintro (h | ⟨j, a1, a2, a3, a4⟩)
            · exact Or.inl h
            · refine Or.inr ⟨j, ?_, a2, a3, a4⟩
              have : j ≠ k := fun e => by subst e; exact h2 a4
              omega
      · rw [if_neg h1]
        obtain ⟨r, e, f1, f2⟩ := ih n (k + 1) 0 (by omega) (by omega) (Or.inl rfl)
        refine ⟨r, e, f1, ?_⟩
        rw [f2]
        constructor
        · rintro (h | ⟨j, a1, a2⟩)
          · exact Or.inl h
          · exact Or.inr ⟨j, by omega, a2⟩
        · rintro (h | ⟨j, a1, a2, a3, a4⟩)
          · exact Or.inl h
          · refine Or.inr ⟨j, ?_, a2, a3, a4⟩
            have : j ≠ k := fun e => by subst e; exact h1 a3
            omega
    · rw [if_neg (by decide)]
      obtain ⟨r, e, f1, f2⟩ := ih n (k + 1) 1 (by omega) (by omega) (Or.inr rfl)
      exact ⟨r, e, f1, fun _ => Or.inl (by decide), fun _ => f2.mpr (Or.inl (by decide))⟩
/-- isUnder -/
theorem f_under (I : zPI) (w a : Int32) : ∃ r : Int32, fX9_isUnder I w a = some r ∧ (r = 0 ∨ r = 1) ∧ (r ≠ 0 ↔ ∃ j, j < 24 ∧ I 63 j = 1 + w ∧ I 64 j = a) := by
  obtain ⟨r, e, f1, f2⟩ := f_under5 (K := fun v3 => (if zbl v3 then some v3 else none)) (w := w) (a := a) (I := I) 24 zF 0 0 (by omega) (zF_lt (by omega)) (Or.inl rfl)
  refine ⟨r, ?_, f1, ?_⟩
  · rw [fX9_isUnder, show (0 : Int32) = nI 0 from rfl] at *
    rw [e]
    rcases f1 with rfl | rfl <;> rfl
  · rw [f2]
    constructor
    · rintro (h | ⟨j, -, h⟩)
      · exact absurd rfl h
      · exact ⟨j, h⟩
    · rintro ⟨j, h⟩
      exact Or.inr ⟨j, by omega, h⟩
/-- the greatest wear of a rope that holds -/
def gw (S V : Nat → Int32) : Nat → Int32
  | 0 => 0
  | k + 1 => if S k = 1 then zmmax (gw S V k) (V k) else gw S V k
theorem f_gw4 {K : Int32 → Option Int32} {I : zPI} : ∀ (m n k : Nat), k + m = 18 → m < n → fX4_greatestWear_4 I K n (gw (I 3) (I 4) k) (nI k) = K (gw (I 3) (I 4) 18) := by
  intro m
  induction m with
  | zero =>
    intro n k hk hn
    obtain ⟨n, rfl, -⟩ := zsucc hn
    have : k = 18 := by omega
    subst this
    rw [fX4_greatestWear_4, if_pos (show (18 : Int32) ≤ nI 18 by decide)]
  | succ m ih =>
    intro n k hk hn
    obtain ⟨n, rfl, hn⟩ := zsucc hn
    have hz : zin (nI k) 18 = true := zin_nI (by omega) (by omega)
    have h9 := ih n (k + 1) (by omega) (by omega)
    rw [fX4_greatestWear_4, if_neg (show ¬ (18 : Int32) ≤ nI k from nI_ge (a := k) (b := 18) (by omega) (by omega))]
    simp only [hz, if_true]
    rw [nI_clamp (by omega), nI_1]
    rw [gw] at h9
    by_cases h1 : I 3 k = 1
    · rw [if_pos h1] at h9
      rw [if_pos h1]
      exact h9
    · rw [if_neg h1] at h9
      rw [if_neg h1]
      exact h9
theorem f_gw (I : zPI) : fX4_greatestWear I = some (gw (I 3) (I 4) 18) := f_gw4 (K := fun v => some v) 18 zF 0 (by omega) (zF_lt (by omega))
theorem f_ln4 {K : Int32 → Option Int32} {I : zPI} : ∀ (m n k : Nat), k + m = 18 → m < n → fX9_loadNow_4 I K n (gw (I 59) (I 60) k) (nI k) = K (gw (I 59) (I 60) 18) := by
  intro m
  induction m with
  | zero =>
    intro n k hk hn
    obtain ⟨n, rfl, -⟩ := zsucc hn
    have : k = 18 := by omega
    subst this
    rw [fX9_loadNow_4, if_pos (show (18 : Int32) ≤ nI 18 by decide)]
  | succ m ih =>
    intro n k hk hn
    obtain ⟨n, rfl, hn⟩ := zsucc hn
    have hz : zin (nI k) 18 = true := zin_nI (by omega) (by omega)
    have h9 := ih n (k + 1) (by omega) (by omega)
    rw [fX9_loadNow_4, if_neg (show ¬ (18 : Int32) ≤ nI k from nI_ge (a := k) (b := 18) (by omega) (by omega))]
    simp only [hz, if_true]
    rw [nI_clamp (by omega), nI_1]
    rw [gw] at h9
    by_cases h1 : I 59 k = 1
    · rw [if_pos h1, zmmax] at h9
      rw [if_pos h1]
      by_cases h2 : I 60 k ≤ gw (I 59) (I 60) k
      · rw [if_neg (by rw [zlt_i]; rw [zle_i] at h2; omega)] at h9
        rw [if_pos h2]
        exact h9
      · rw [if_pos (by rw [zlt_i]; rw [zle_i] at h2; omega)] at h9
        rw [if_neg h2]
        exact h9
    · rw [if_neg h1] at h9
      rw [if_neg h1]
      exact h9
theorem f_ln (I : zPI) : fX9_loadNow I = some (gw (I 59) (I 60) 18) := f_ln4 (K := fun v => some v) 18 zF 0 (by omega) (zF_lt (by omega))
theorem gw_cong {S V S' V' : Nat → Int32} : ∀ k, (∀ j, j < k → S' j = S j ∧ V' j = V j) → gw S' V' k = gw S V k := by
  intro k
  induction k with
  | zero => intro _; rfl
  | succ k ih =>
    intro h
    rw [gw, gw, ih (fun j hj => h j (by omega)), (h k (by omega)).1, (h k (by omega)).2]
/-- how many of the first k have it -/
def zcnt (P : Nat → Bool) : Nat → Nat
  | 0 => 0
  | k + 1 => zcnt P k + (if P k then 1 else 0)
theorem zcnt_le (P : Nat → Bool) : ∀ k, zcnt P k ≤ k := by
  intro k
  induction k with
  | zero => exact Nat.le_refl _
  | succ k ih =>
    rw [zcnt]
    split <;> omega
def zbusy (I : zPI) (k : Nat) : Bool := !(decide (I 63 k ≤ 0))
theorem f_look9 {K : Int32 → Int32 → zPI → Option (Int32 × zPI)} {v1 : Int32} {I : zPI} : ∀ (m n k : Nat), k + m = 24 → m < n → fX9_look_9 K n v1 (nI (zcnt (zbusy I) k)) (nI k) I = K v1 (nI (zcnt (zbusy I) 24)) I := by
  intro m
  induction m with
  | zero =>
    intro n k hk hn
    obtain ⟨n, rfl, -⟩ := zsucc hn
    have : k = 24 := by omega
    subst this
    rw [fX9_look_9, if_pos (show (24 : Int32) ≤ nI 24 by decide)]
  | succ m ih =>
    intro n k hk hn
    obtain ⟨n, rfl, hn⟩ := zsucc hn
    have hz : zin (nI k) 24 = true := zin_nI (by omega) (by omega)
    have h9 := ih n (k + 1) (by omega) (by omega)
    rw [fX9_look_9, if_neg (show ¬ (24 : Int32) ≤ nI k from nI_ge (a := k) (b := 24) (by omega) (by omega))]
    simp only [hz, if_true]
    rw [nI_clamp (by omega), nI_1]
    rw [zcnt] at h9
    by_cases h1 : I 63 k ≤ 0
    · have hb : zbusy I k = false := by simp [zbusy, h1]
      rw [hb] at h9
      rw [if_pos h1, show nI (zcnt (zbusy I) k) + 0 = nI (zcnt (zbusy I) k) from nI_add _ 0]
      exact h9
    · have hb : zbusy I k = true := by simp [zbusy, h1]
      rw [hb] at h9
      rw [if_neg h1, nI_1]
      exact h9
/-- leg -/
theorem q_leg {I : zPI} (h : zPL2 I) (p : Int32) : ∃ v, fX8_leg I p = some v ∧ fX9_leg I p = some (v, zu I 48 0 0) := by
  obtain ⟨hn, n, hn8, hc, hg⟩ := h
  have h51 : zu I 48 0 0 48 51 = nI n := by rw [zu_col (by decide), ← hn, hc]
  unfold fX8_leg fX9_leg
  rw [h51, hc]
  by_cases h0 : p < 0
  · exact ⟨-1, by rw [if_pos h0], by rw [if_pos h0]⟩
  rw [if_neg h0, if_neg h0]
  by_cases h1 : p < nI n
  · rw [zlt_i, nI_toInt (by omega)] at h1
    rw [zlt_i, zi_n0] at h0
    obtain ⟨g, hg9, rfl⟩ := zsmall (x := p) (n := n) (by omega) (by omega)
    have h2 : nI g < nI n := nI_lt hg9 (by omega)
    refine ⟨I 22 g, ?_, ?_⟩
    · rw [if_pos h2, zif_t (zin_nI (by omega) (by omega)), nI_clamp (by omega)]
    · rw [if_pos h2, zif_t (zin_nI (by omega) (by omega)), nI_clamp (by omega), zu_row (by decide), hg g hg9]
  · exact ⟨-1, by rw [if_neg h1], by rw [if_neg h1]⟩
/-- braced -/
theorem q_braced {I : zPI} (hy : ∀ m, m < 3 → I 5 m = I 61 m) (p : Int32) : ∃ v, fX8_braced I p = some v ∧ fX9_braced I p = some (v, zu I 48 0 0) := by
  have e3 : (3 : Int32).toInt = 3 := by decide
  have e2 : (2 : Int32).toInt = 2 := by decide
  unfold fX8_braced fX9_braced
  by_cases h0 : p < 0
  · exact ⟨-1, by rw [if_pos h0], by rw [if_pos h0]⟩
  by_cases h1 : p < 3
  · have h2 : p ≤ 2 := by rw [zle_i]; rw [zlt_i] at h1; omega
    have h0' := h0
    have h1' := h1
    rw [zlt_i, zi_n0] at h0'
    rw [zlt_i] at h1'
    obtain ⟨m, hm, rfl⟩ := zsmall (x := p) (n := 3) (by omega) (by omega)
    refine ⟨I 5 m, ?_, ?_⟩
    · rw [if_neg h0, if_pos h1, zif_t (zin_nI (by omega) (by omega)), nI_clamp (by omega)]
    · rw [if_neg h0, if_pos h2, zif_t (zin_nI (by omega) (by omega)), nI_clamp (by omega), zu_row (by decide), hy m hm]
  · have h2 : ¬ p ≤ 2 := by rw [zle_i]; rw [zlt_i] at h1; omega
    exact ⟨-1, by rw [if_neg h0, if_neg h1], by rw [if_neg h0, if_neg h2]⟩
