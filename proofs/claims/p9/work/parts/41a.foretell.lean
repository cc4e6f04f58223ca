/-! THE PASSAGE: foretell -/
def eE (p f c : Int32) : Int32 := ((zmmin 12 ((f * (zst0 (fX0_apart p c))) / 8)) * (zst1 ((c - 8) &&& 31))) / 16
def eN (p f c : Int32) : Int32 := ((zmmin 12 ((f * (zst0 (fX0_apart p c))) / 8)) * (zst1 (c &&& 31))) / 16
theorem pl_apart : ∀ p, p < 32 → ∀ c, c < 32 → (¬ fX0_apart (nI p) (nI c) < 0) ∧ fX0_apart (nI p) (nI c) < 17 ∧ zin (fX0_apart (nI p) (nI c)) 17 = true := by decide +kernel
theorem zmsk31 (x : Int32) : zin (x &&& 31) 32 = true := by
  obtain ⟨j, hj, e⟩ := pk_andE x (m := 31) 5 (by decide)
  exact zin_x e hj (by omega)
theorem f_north (I : zPI) (x : Int32) : fX0_north I x = some (zst1 (x &&& 31)) := by rw [fX0_north, zif_t (zmsk31 x)]
theorem f_east (I : zPI) (x : Int32) : fX0_east I x = some (zst1 ((x - 8) &&& 31)) := by rw [fX0_east, f_north]; rfl
theorem f_pull {I : zPI} {x : Int32} (h : (¬ x < 0) ∧ x < 17 ∧ zin x 17 = true) : fX0_pull I x = some (zst0 x) := by rw [fX0_pull, if_neg h.1, if_pos h.2.1, zif_t h.2.2]
def ztel (I : zPI) (g P F j : Nat) : zPI := fun a b => if g * 32 + j ≤ b ∧ b < g * 32 + 32 then (if a = 18 then eE (nI P) (nI F) (nI (b - g * 32)) else if a = 19 then eN (nI P) (nI F) (nI (b - g * 32)) else I a b) else I a b
theorem ztel_end (I : zPI) (g P F : Nat) : ztel I g P F 32 = I := by
  funext a b
  rw [ztel, if_neg (by omega)]
theorem ztel_step (I : zPI) (g P F j : Nat) (hj : j < 32) : ztel (zu (zu I 18 (g * 32 + j) (eE (nI P) (nI F) (nI j))) 19 (g * 32 + j) (eN (nI P) (nI F) (nI j))) g P F (j + 1) = ztel I g P F j := by
  funext a b
  by_cases hb : b = g * 32 + j
  · subst hb
    have c1 : ¬ (g * 32 + (j + 1) ≤ g * 32 + j ∧ g * 32 + j < g * 32 + 32) := by omega
    have c2 : g * 32 + j ≤ g * 32 + j ∧ g * 32 + j < g * 32 + 32 := by omega
    simp only [ztel, zu, if_neg c1, if_pos c2, if_true]
    rw [show g * 32 + j - g * 32 = j by omega]
    by_cases h1 : a = 18
    · subst h1; simp
    · by_cases h2 : a = 19
      · subst h2; simp
      · simp [h1, h2]
  · have e : zu (zu I 18 (g * 32 + j) (eE (nI P) (nI F) (nI j))) 19 (g * 32 + j) (eN (nI P) (nI F) (nI j)) a b = I a b := by rw [zu_col hb, zu_col hb]
    simp only [ztel, e]
    by_cases h1 : g * 32 + j ≤ b ∧ b < g * 32 + 32
    · rw [if_pos (by omega), if_pos h1]
    · rw [if_neg (by omega), if_neg h1]
theorem pl_tell23 {K : zPI → Option (Int32 × zPI)} {g P F : Nat} (hg : g < 8) (hP : P < 32) : ∀ (m n j : Nat) (I : zPI), j + m = 32 → m < n → fX2_tell_23 K n (nI g) (nI P) (nI F) (nI j) I = K (ztel I g P F j) := by
  intro m
  induction m with
  | zero =>
    intro n j I hj hn
    obtain ⟨n, rfl, -⟩ := zsucc hn
    have : j = 32 := by omega
    subst this
    rw [fX2_tell_23, if_pos (show (32 : Int32) ≤ nI 32 by decide), ztel_end]
  | succ m ih =>
    intro n j I hj hn
    obtain ⟨n, rfl, hn⟩ := zsucc hn
    have hx : nI g * 32 + nI j = nI (g * 32 + j) := by rw [show (32 : Int32) = nI 32 from rfl, pk_mul, nI_add]
    rw [fX2_tell_23, if_neg (show ¬ (32 : Int32) ≤ nI j from nI_ge (a := j) (b := 32) (by omega) (by omega)), f_pull (pl_apart P hP j (by omega)), f_east]
    simp only [Option.bind_some, f_north, hx]
    rw [zif_t (zin_nI (by omega) (by omega)), zif_t (zin_nI (by omega) (by omega)), nI_clamp (by omega), nI_1, ih n (j + 1) _ (by omega) (by omega)]
    congr 1
    exact ztel_step I g P F j (by omega)
/-- what is foretold: both sides' rows -/
def zPW (I : zPI) : Prop := ∀ g, g < 8 → ∃ P F : Nat, P < 32 ∧ F < 13 ∧ I 71 g = nI P ∧ I 72 g = nI F ∧ ∀ c, c < 32 → I 18 (g * 32 + c) = eE (nI P) (nI F) (nI c) ∧ I 19 (g * 32 + c) = eN (nI P) (nI F) (nI c)
theorem zPW_cong {I I' : zPI} (h : zPW I) (e : ∀ a, a = 18 ∨ a = 19 ∨ a = 71 ∨ a = 72 → ∀ b, I' a b = I a b) : zPW I' := by
  intro g hg
  obtain ⟨P, F, h1, h2, h3, h4, h5⟩ := h g hg
  refine ⟨P, F, h1, h2, by rw [e 71 (by simp)]; exact h3, by rw [e 72 (by simp)]; exact h4, fun c hc => ?_⟩
  rw [e 18 (by simp), e 19 (by simp)]
  exact h5 c hc
theorem ztel_row {I : zPI} {g P F j a b : Nat} (h1 : a ≠ 18) (h2 : a ≠ 19) : ztel I g P F j a b = I a b := by simp [ztel, h1, h2]
theorem q_foretell {I : zPI} (p1 p2 p3 : Int32) : ∃ v I1 I2, fX8_foretell I p1 p2 p3 = some (v, I1) ∧ fX9_foretell I1 p1 p2 p3 = some (v, I2) ∧ (∀ a b, ¬ (a = 18 ∨ a = 19 ∨ a = 71 ∨ a = 72 ∨ (a = 48 ∧ b = 0)) → I2 a b = I a b) ∧ (zPW I → zPW I2) := by
  have z0 : ∀ a b, ¬ (a = 18 ∨ a = 19 ∨ a = 71 ∨ a = 72 ∨ (a = 48 ∧ b = 0)) → zu I 48 0 0 a b = I a b := by
    intro a b h
    by_cases h1 : a = 48
    · exact zu_col (fun h2 => h (by simp [h1, h2]))
    · exact zu_row h1
  have z1 : zPW I → zPW (zu I 48 0 0) := fun h => zPW_cong h (fun a ha b => zu_row (by omega))
  unfold fX8_foretell fX2_tell fX9_foretell fX0_isWind
  by_cases h1 : p1 < 0
  · exact ⟨0, I, zu I 48 0 0, by rw [if_pos h1]; rfl, by rw [if_pos h1], z0, z1⟩
  by_cases h2 : 8 ≤ p1
  · exact ⟨0, I, zu I 48 0 0, by rw [if_neg h1, if_pos h2]; rfl, by rw [if_neg h1, if_pos h2], z0, z1⟩
  by_cases h3 : p2 < 0
  · exact ⟨0, I, zu I 48 0 0, by rw [if_neg h1, if_neg h2, if_pos h3]; rfl, by rw [if_neg h1, if_neg h2, if_pos h3], z0, z1⟩
  by_cases h4 : 32 ≤ p2
  · have h4' : 31 < p2 := by rw [zlt_i]; rw [zle_i] at h4; exact Int.lt_of_lt_of_le (by decide) h4
    exact ⟨0, I, zu I 48 0 0, by rw [if_neg h1, if_neg h2, if_neg h3, if_pos h4]; rfl, by rw [if_neg h1, if_neg h2, if_neg h3, if_pos h4'], z0, z1⟩
  have h4' : ¬ 31 < p2 := by
    rw [zlt_i]; rw [zle_i] at h4
    have e1 : (32 : Int32).toInt = 32 := by decide
    have e2 : (31 : Int32).toInt = 31 := by decide
    omega
  by_cases h5 : p3 < 0
  · exact ⟨0, I, zu I 48 0 0, by rw [if_neg h1, if_neg h2, if_neg h3, if_neg h4, if_pos h5]; rfl, by rw [if_neg h1, if_neg h2, if_neg h3, if_neg h4', if_pos h5], z0, z1⟩
  have e8 : (8 : Int32).toInt = 8 := by decide
  have e12 : (12 : Int32).toInt = 12 := by decide
  have e32 : (32 : Int32).toInt = 32 := by decide
  by_cases h6 : 12 < p3
  · have h6' : ¬ p3 ≤ 12 := by rw [zle_i]; rw [zlt_i] at h6; omega
    exact ⟨0, I, zu I 48 0 0, by rw [if_neg h1, if_neg h2, if_neg h3, if_neg h4, if_neg h5, if_pos h6]; rfl, by rw [if_neg h1, if_neg h2, if_neg h3, if_neg h4', if_neg h5, if_neg h6'], z0, z1⟩
  have h6' : p3 ≤ 12 := by rw [zle_i]; rw [zlt_i] at h6; omega
  rw [zlt_i, zi_n0] at h1 h3 h5
  rw [zle_i] at h2 h4
  rw [zle_i] at h6'
  obtain ⟨g, hg, rfl⟩ := zsmall (x := p1) (n := 8) (by omega) (by omega)
  obtain ⟨P, hP, rfl⟩ := zsmall (x := p2) (n := 32) (by omega) (by omega)
  obtain ⟨F, hF, rfl⟩ := zsmall (x := p3) (n := 13) (by omega) (by omega)
  have n1 : ¬ nI g < 0 := nI_pos (by omega)
  have n2 : ¬ (8 : Int32) ≤ nI g := nI_ge (a := g) (b := 8) (by omega) (by omega)
  have n3 : ¬ nI P < 0 := nI_pos (by omega)
  have n4 : ¬ (32 : Int32) ≤ nI P := nI_ge (a := P) (b := 32) (by omega) (by omega)
  have n5 : ¬ nI F < 0 := nI_pos (by omega)
  have n6 : nI F ≤ (12 : Int32) := nI_le (a := F) (b := 12) (by omega) (by omega)
  refine ⟨1, ztel I g P F 0, zu (zu (zu (ztel I g P F 0) 48 0 0) 71 g (nI P)) 72 g (nI F), ?_, ?_, ?_, ?_⟩
  · rw [if_neg n1, if_neg n2, if_neg n3, if_neg n4, if_neg n5, if_neg h6, if_neg (by decide)]
    have h9 := pl_tell23 (K := fun I => some (1, I)) hg hP (F := F) 32 zF 0 I (by omega) (zF_lt (by omega))
    rw [show (0 : Int32) = nI 0 from rfl, h9]
    rfl
  · rw [if_neg n1, if_neg n2, if_neg n3, if_neg h4', if_neg n5, if_pos n6, zif_t (zin_nI hg (by omega)), zif_t (zin_nI hg (by omega)), nI_clamp (by omega)]
  · intro a b h
    rw [zu_row (by omega), zu_row (by omega)]
    by_cases h7 : a = 48
    · rw [zu_col (by omega), ztel_row (by omega) (by omega)]
    · rw [zu_row h7, ztel_row (by omega) (by omega)]
  · intro h g' hg'
    by_cases e : g' = g
    · subst e
      refine ⟨P, F, hP, hF, by rw [zu_row (by decide), zu_same], zu_same, fun c hc => ?_⟩
      rw [zu_row (by decide), zu_row (by decide), zu_row (by decide), zu_row (by decide), zu_row (by decide), zu_row (by decide)]
      constructor
      · rw [ztel, if_pos (by omega), if_pos rfl, show g' * 32 + c - g' * 32 = c by omega]
      · rw [ztel, if_pos (by omega), if_neg (by decide), if_pos rfl, show g' * 32 + c - g' * 32 = c by omega]
    · obtain ⟨P', F', a1, a2, a3, a4, a5⟩ := h g' hg'
      refine ⟨P', F', a1, a2, ?_, ?_, fun c hc => ?_⟩
      · rw [zu_row (by decide), zu_col e, zu_row (by decide), ztel_row (by decide) (by decide)]; exact a3
      · rw [zu_col e, zu_row (by decide), zu_row (by decide), ztel_row (by decide) (by decide)]; exact a4
      · rw [zu_row (by decide), zu_row (by decide), zu_row (by decide), zu_row (by decide), zu_row (by decide), zu_row (by decide), ztel, if_neg (by omega), ztel, if_neg (by omega)]
        exact a5 c hc
theorem pl_tab : ∀ P, P < 32 → ∀ F, F < 13 → ∀ c, c < 32 → (((if (nI F * fX9_table (fX9_apart (nI P) (nI c))) / 8 ≤ 12 then (nI F * fX9_table (fX9_apart (nI P) (nI c))) / 8 else 12) * fX9_dx (nI c)) / 16 = eE (nI P) (nI F) (nI c) ∧ ((if (nI F * fX9_table (fX9_apart (nI P) (nI c))) / 8 ≤ 12 then (nI F * fX9_table (fX9_apart (nI P) (nI c))) / 8 else 12) * fX9_dy (nI c)) / 16 = eN (nI P) (nI F) (nI c)) ∧ (-12 ≤ (eE (nI P) (nI F) (nI c)).toInt ∧ (eE (nI P) (nI F) (nI c)).toInt ≤ 12) ∧ (-12 ≤ (eN (nI P) (nI F) (nI c)).toInt ∧ (eN (nI P) (nI F) (nI c)).toInt ≤ 12) := by decide +kernel
