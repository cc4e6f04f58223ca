/-! where a course leads -/
def zdst (I : zPI) (g c p : Nat) : Int := if 0 ≤ ((p % 49 : Nat) : Int) + (I 18 (g * 32 + c)).toInt ∧ ((p % 49 : Nat) : Int) + (I 18 (g * 32 + c)).toInt < 49 ∧ 0 ≤ ((p / 49 : Nat) : Int) + (I 19 (g * 32 + c)).toInt ∧ ((p / 49 : Nat) : Int) + (I 19 (g * 32 + c)).toInt < 49 then 49 * (((p / 49 : Nat) : Int) + (I 19 (g * 32 + c)).toInt) + (((p % 49 : Nat) : Int) + (I 18 (g * 32 + c)).toInt) else -1
theorem pl_leads39 {I : zPI} {p : Nat} {c s e n : Int32} (hp : p < 2401) (he : (s * fX9_dx c) / 16 = e) (hn : (s * fX9_dy c) / 16 = n) (e1 : -12 ≤ e.toInt) (e2 : e.toInt ≤ 12) (n1 : -12 ≤ n.toInt) (n2 : n.toInt ≤ 12) :
    fX9_leads_39 I (nI p) c s = some (iI (if 0 ≤ ((p % 49 : Nat) : Int) + e.toInt ∧ ((p % 49 : Nat) : Int) + e.toInt < 49 ∧ 0 ≤ ((p / 49 : Nat) : Int) + n.toInt ∧ ((p / 49 : Nat) : Int) + n.toInt < 49 then 49 * (((p / 49 : Nat) : Int) + n.toInt) + (((p % 49 : Nat) : Int) + e.toInt) else -1)) := by
  have r1 : zrm (nI p) 49 = nI (p % 49) := pk_rem (a := p) (d := 49) (by omega) (by omega) (by omega)
  have r2 : nI p / 49 = nI (p / 49) := pk_div (a := p) (d := 49) (by omega) (by omega) (by omega)
  have t1 : (nI (p % 49)).toInt = ((p % 49 : Nat) : Int) := nI_toInt (by omega)
  have t2 : (nI (p / 49)).toInt = ((p / 49 : Nat) : Int) := nI_toInt (by omega)
  have x1 : (nI (p % 49) + e).toInt = ((p % 49 : Nat) : Int) + e.toInt := by rw [zadd_i (by omega) (by omega), t1]
  have y1 : (nI (p / 49) + n).toInt = ((p / 49 : Nat) : Int) + n.toInt := by rw [zadd_i (by omega) (by omega), t2]
  have e49 : (49 : Int32).toInt = 49 := by decide
  unfold fX9_leads_39
  rw [he, hn, r1, r2]
  by_cases h1 : nI (p % 49) + e < 0
  · rw [if_pos h1, if_neg (by rw [zlt_i, zi_n0] at h1; omega)]
    rfl
  rw [if_neg h1]
  rw [zlt_i, zi_n0] at h1
  by_cases h2 : 49 ≤ nI (p % 49) + e
  · rw [if_pos h2, if_neg (by rw [zle_i, e49] at h2; omega)]
    rfl
  rw [if_neg h2]
  rw [zle_i, e49] at h2
  by_cases h3 : nI (p / 49) + n < 0
  · rw [if_pos h3, if_neg (by rw [zlt_i, zi_n0] at h3; omega)]
    rfl
  rw [if_neg h3]
  rw [zlt_i, zi_n0] at h3
  by_cases h4 : nI (p / 49) + n < 49
  · rw [if_pos h4, if_pos (by rw [zlt_i, e49] at h4; omega)]
    rw [zlt_i, e49] at h4
    congr 1
    apply iI_eq
    have m1 : ((49 : Int32) * (nI (p / 49) + n)).toInt = 49 * (((p / 49 : Nat) : Int) + n.toInt) := by rw [zmul_i (by rw [e49, y1]; omega) (by rw [e49, y1]; omega), e49, y1]
    rw [zadd_i (by rw [m1, x1]; omega) (by rw [m1, x1]; omega), m1, x1]
  · rw [if_neg h4, if_neg (by rw [zlt_i, e49] at h4; omega)]
    rfl
theorem pl_leads {I : zPI} (h : zPW I) {g c p : Nat} (hg : g < 8) (hc : c < 32) (hp : p < 2401) : fX9_leads I (nI g) (nI p) (nI c) = some (iI (zdst I g c p)) := by
  obtain ⟨P, F, h1, h2, h3, h4, h5⟩ := h g hg
  obtain ⟨⟨t1, t2⟩, t3, t4⟩ := pl_tab P h1 F h2 c hc
  unfold fX9_leads zlet zdst
  rw [zif_t (zin_nI hg (by omega)), zif_t (zin_nI hg (by omega)), nI_clamp (by omega), h3, h4, (h5 c hc).1, (h5 c hc).2]
  dsimp only
  by_cases hv : (nI F * fX9_table (fX9_apart (nI P) (nI c))) / 8 ≤ 12
  · rw [if_pos hv] at t1 t2
    rw [if_pos hv]
    exact pl_leads39 hp t1 t2 t3.1 t3.2 t4.1 t4.2
  · rw [if_neg hv] at t1 t2
    rw [if_neg hv]
    exact pl_leads39 hp t1 t2 t3.1 t3.2 t4.1 t4.2
theorem zdst_lo (I : zPI) (g c p : Nat) : -1 ≤ zdst I g c p ∧ zdst I g c p < 2401 := by
  unfold zdst
  split <;> omega
/-- the reference's 'leads', and the bounds of the way -/
def zLd (W : Nat → Nat → Nat → Int) (I : zPI) : Prop := ∀ g c p, g < 8 → c < 32 → p < 2401 → fX9_leads I (nI g) (nI p) (nI c) = some (iI (W g c p)) ∧ -1 ≤ W g c p ∧ W g c p < 2401
theorem zLd_of {I : zPI} (h : zPW I) : zLd (zdst I) I := fun _ _ _ hg hc hp => ⟨pl_leads h hg hc hp, zdst_lo I _ _ _⟩
theorem zLd_cong {W : Nat → Nat → Nat → Int} {I I' : zPI} (h : zLd W I) (e : ∀ a, a = 71 ∨ a = 72 → ∀ b, I' a b = I a b) : zLd W I' := by
  intro g c p hg hc hp
  obtain ⟨h1, h2⟩ := h g c p hg hc hp
  refine ⟨?_, h2⟩
  rw [← h1]
  unfold fX9_leads fX9_leads_39
  simp only [e 71 (Or.inl rfl), e 72 (Or.inr rfl)]
